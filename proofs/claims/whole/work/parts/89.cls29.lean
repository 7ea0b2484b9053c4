theorem FrC.path {w : Nat} {FI AI : Nat → Nat → Int32} {AL : Nat → Nat → Int64} {AR R2 : Nat → Nat → Option Nat} (e : ∀ a, a ≠ w + 6 → R2 a = AR a) : FrC w FI AI AL AR FI AI AL R2 := fun a ha => ⟨fun _ => rfl, rfl, rfl, e a (by omega)⟩
theorem n_ne6 {a : Nat} (h : a < 2147483648) : ¬ Int32.ofNat a = -6 := fun hh => by
  have h2 := congrArg Int32.toInt hh
  rw [n_int h, show (-6 : Int32).toInt = -6 from rfl] at h2
  omega
section Cls29
variable {g : PG} {L : PL} {FI AI : Nat → Nat → Int32} {AL : Nat → Nat → Int64} {AR : Nat → Nat → Option Nat} {x : Nat} {Z : ZW} {M : Nat}
theorem g_leastRoom (h : RC L FI AI AL AR x Z) (hI : XI M (zX Z)) {from_ to : Int32} : Sp g 10 iX7_leastRoom [vr x, vi from_, vi to] (L, FI, AI, AL, AR) (0, 0) (QRC L FI AI AL AR x Z (some (vi (a_leastRoom (zX Z) from_ to)))) := by
  refine Sp.of (ls := [some (vr x), some (vi from_), some (vi to), none, none, none, none]) (by decide +kernel) rfl rfl ?_
  obtain ⟨sb, hl⟩ := h.live
  have hb16 := h.live.elim (fun _ q => q.b16)
  refine P_iloadn (i := 1) rfl rfl dX7_leastRoom_0 ?_
  refine P_iloadn (i := 2) rfl rfl dX7_leastRoom_1 ?_
  refine kX7_65 rfl s_isPair (by decide) rfl dX7_leastRoom_2 (fun r2 s2 q2 => ?_)
  obtain ⟨rfl, rfl⟩ := q2
  refine P_ifne dX7_leastRoom_5 (tgt := 10) rfl (fun h5 => ?_) (fun h5 => ?_)
  · have hpr0 := b_t h5
    have hpr : ib from_ 8 ∧ ib to 8 := ⟨q_ib_iff.mp hpr0.1, q_ib_iff.mp hpr0.2.1⟩
    refine P_aloadn (i := 0) rfl rfl dX7_leastRoom_10 ?_
    refine gX7_10 rfl (by first | exact h.lc.kx | exact h.lc.kh | exact h.lc.kt | exact h.lc.kv | assumption) h.lc.r224 dX7_leastRoom_11 ?_
    refine P_iloadn (i := 1) rfl rfl dX7_leastRoom_14 ?_
    refine P_iloadn (i := 2) rfl rfl dX7_leastRoom_15 ?_
    refine kX7_166 rfl (s_findPath hl hI hpr.1 hpr.2) (by decide) hl.wf.kw rfl dX7_leastRoom_16 (fun r16 s16 q16 => ?_)
    obtain ⟨R2, rfl, hR, hfp⟩ := q16
    rcases hfp with ⟨hx, rfl⟩ | ⟨l, hx, rfl, hl7, hh⟩
    · refine P_is3 (Or.inl dX7_leastRoom_19) rfl rfl ?_
      refine P_iloadn (i := 3) rfl rfl dX7_leastRoom_20 ?_
      refine P_bipush (v := (-6)) rfl dX7_leastRoom_21 ?_
      refine P_icmpne dX7_leastRoom_23 (tgt := 29) rfl (fun h23 => absurd h23 (fun hh => hh rfl)) (fun h23 => ?_)
      refine P_bipush (v := (-6)) rfl dX7_leastRoom_26 ?_
      refine P_ireturn rfl dX7_leastRoom_28 ?_
      rw [show a_leastRoom (zX Z) from_ to = -6 from (if_neg (fun hh => hh (b_t h5))).trans  (by rw [hx])]
      have hfc := FrC.path (w := x + 1) (FI := FI) (AI := AI) (AL := AL) hR
      exact ⟨FI, AI, AL, R2, rfl, rfl, FrO.fc hfc (by omega), h.up hfc ⟨sb, hl.path hR⟩⟩
    · have loop : ∀ n i : Nat, i + n = l.length → P g 10 iX7_leastRoom 37 [some (vr x), some (vi from_), some (vi to), some (vi (Int32.ofNat l.length)), some (vi (x_lr (zX Z) l i)), some (vi (Int32.ofNat i)), none] [] (L, FI, AI, AL, R2) (0, 0) (QRC L FI AI AL AR x Z (some (vi (a_leastRoom (zX Z) from_ to)))) := by
        intro n
        induction n with
        | zero =>
          intro i hi
          refine P_iload (i := 5) rfl dX7_leastRoom_37 ?_
          refine P_iloadn (i := 3) rfl rfl dX7_leastRoom_39 ?_
          refine P_icmpge dX7_leastRoom_40 (tgt := 91) rfl (fun h40 => ?_) (fun h40 => absurd ((n_le (a := l.length) (b := i) (by omega) (by omega)).mpr (by omega)) h40)
          refine P_iload (i := 4) rfl dX7_leastRoom_91 ?_
          refine P_ireturn rfl dX7_leastRoom_93 ?_
          rw [show a_leastRoom (zX Z) from_ to = x_lr (zX Z) l l.length from (if_neg (fun hh => hh (b_t h5))).trans  (by rw [hx]), show l.length = i by omega]
          have hfc := FrC.path (w := x + 1) (FI := FI) (AI := AI) (AL := AL) hR
          exact ⟨FI, AI, AL, R2, rfl, rfl, FrO.fc hfc (by omega), h.up hfc ⟨sb, hl.path hR⟩⟩
        | succ n ih =>
          intro i hi
          have hbx := (hh i (by omega)).2.nn
          refine P_iload (i := 5) rfl dX7_leastRoom_37 ?_
          refine P_iloadn (i := 3) rfl rfl dX7_leastRoom_39 ?_
          refine P_icmpge dX7_leastRoom_40 (tgt := 91) rfl (fun h40 => absurd h40 (fun h8 => by have h7 := (n_le (a := l.length) (b := i) (by omega) (by omega)).mp h8; omega)) (fun h40 => ?_)
          refine P_iload (i := 5) rfl dX7_leastRoom_43 ?_
          refine P_aloadn (i := 0) rfl rfl dX7_leastRoom_45 ?_
          refine gX7_10 rfl (by first | exact h.lc.kx | exact h.lc.kh | exact h.lc.kt | exact h.lc.kv | assumption) h.lc.r224 dX7_leastRoom_46 ?_
          refine gX7_170 rfl hl.wf.kw hl.wf.r205 dX7_leastRoom_49 ?_
          refine P_lenN (t := 25) (by decide) hl.wf.k6 (by rw [hl.wf.l6]) dX7_leastRoom_52 ?_
          refine P_icmpge dX7_leastRoom_53 (tgt := 91) rfl (fun h53 => absurd h53 (fun h8 => by have h7 := (n_le (a := 8) (b := i) (by omega) (by omega)).mp h8; omega)) (fun h53 => ?_)
          refine P_aloadn (i := 0) rfl rfl dX7_leastRoom_56 ?_
          refine gX7_10 rfl (by first | exact h.lc.kx | exact h.lc.kh | exact h.lc.kt | exact h.lc.kv | assumption) h.lc.r224 dX7_leastRoom_57 ?_
          refine gX7_170 rfl hl.wf.kw hl.wf.r205 dX7_leastRoom_60 ?_
          refine P_iload (i := 5) rfl dX7_leastRoom_63 ?_
          refine P_aaN (t := 25) (j := i) (by decide) hl.wf.k6 rfl (by omega) (by rw [hl.wf.l6]; omega) (hh i (by omega)).1 dX7_leastRoom_65 ?_
          refine P_as6 (Or.inr dX7_leastRoom_66) rfl rfl ?_
          refine P_aload (i := 6) rfl dX7_leastRoom_68 ?_
          refine P_ifnull dX7_leastRoom_70 (tgt := 85) rfl (fun h70 => by cases h70) (fun a70 h70 => ?_)
          cases h70
          refine P_iload (i := 4) rfl dX7_leastRoom_73 ?_
          refine P_aload (i := 6) rfl dX7_leastRoom_75 ?_
          refine gX7_88 rfl (hl.wf.kB (by omega)) ((hl.b _ (by omega)).1 hbx 2 (by decide)) dX7_leastRoom_77 ?_
          refine mX7_173 rfl dX7_leastRoom_80 rfl ?_
          refine P_is4 (Or.inr dX7_leastRoom_83) rfl rfl ?_
          refine P_inN5 dX7_leastRoom_85 rfl rfl ?_
          refine P_goto dX7_leastRoom_88 (tgt := 37) rfl ?_
          refine P_few (ls2 := [some (vr x), some (vi from_), some (vi to), some (vi (Int32.ofNat l.length)), some (vi (x_lr (zX Z) l (i + 1))), some (vi (Int32.ofNat (i + 1))), none]) ⟨rfl, rfl, rfl, rfl, rfl, rfl, trivial⟩ ?_
          exact ih (i + 1) (by omega)
      refine P_is3 (Or.inl dX7_leastRoom_19) rfl rfl ?_
      refine P_iloadn (i := 3) rfl rfl dX7_leastRoom_20 ?_
      refine P_bipush (v := (-6)) rfl dX7_leastRoom_21 ?_
      refine P_icmpne dX7_leastRoom_23 (tgt := 29) rfl (fun h23 => ?_) (fun h23 => ?_)
      · refine P_sipush (v := 1500) rfl dX7_leastRoom_29 ?_
        refine P_is4 (Or.inr dX7_leastRoom_32) rfl rfl ?_
        refine P_iconst (v := 0) rfl dX7_leastRoom_34 ?_
        refine P_is5 (Or.inr dX7_leastRoom_35) rfl rfl ?_
        exact loop l.length 0 (by omega)
      · exact absurd h23 (n_ne6 (by omega))
  · refine P_iconst (v := (-1)) rfl dX7_leastRoom_8 ?_
    refine P_ireturn rfl dX7_leastRoom_9 ?_
    rw [show a_leastRoom (zX Z) from_ to = -1 from if_pos (b_f h5)]
    exact ⟨FI, AI, AL, AR, rfl, rfl, FrO.rf, h⟩
theorem g_slices (h : RC L FI AI AL AR x Z) (hI : XI M (zX Z)) {from_ to size : Int32} : Sp g 10 iX7_slices [vr x, vi from_, vi to, vi size] (L, FI, AI, AL, AR) (0, 0) (QRC L FI AI AL AR x Z (some (vi (a_slices (zX Z) from_ to size)))) := by
  refine Sp.of (ls := [some (vr x), some (vi from_), some (vi to), some (vi size), none]) (by decide +kernel) rfl rfl ?_
  obtain ⟨sb, hl⟩ := h.live
  have hb16 := h.live.elim (fun _ q => q.b16)
  refine P_iloadn (i := 1) rfl rfl dX7_slices_0 ?_
  refine P_iloadn (i := 2) rfl rfl dX7_slices_1 ?_
  refine kX7_65 rfl s_isPair (by decide) rfl dX7_slices_2 (fun r2 s2 q2 => ?_)
  obtain ⟨rfl, rfl⟩ := q2
  refine P_ifne dX7_slices_5 (tgt := 10) rfl (fun h5 => ?_) (fun h5 => ?_)
  · have hpr0 := b_t h5
    have hpr : ib from_ 8 ∧ ib to 8 := ⟨q_ib_iff.mp hpr0.1, q_ib_iff.mp hpr0.2.1⟩
    refine P_iloadn (i := 3) rfl rfl dX7_slices_10 ?_
    refine P_iconst (v := 1) rfl dX7_slices_11 ?_
    refine P_sipush (v := 4000) rfl dX7_slices_12 ?_
    refine kX7_45 rfl s_X7_isWithin (by decide) rfl dX7_slices_15 (fun r15 s15 q15 => ?_)
    obtain ⟨rfl, rfl⟩ := q15
    refine P_ifne dX7_slices_18 (tgt := 24) rfl (fun h18 => ?_) (fun h18 => ?_)
    · have hsz := in_nn (a := 1) (b := 4000) (by decide) (by decide) (b_t h18)
      refine P_aloadn (i := 0) rfl rfl dX7_slices_24 ?_
      refine gX7_10 rfl (by first | exact h.lc.kx | exact h.lc.kh | exact h.lc.kt | exact h.lc.kv | assumption) h.lc.r224 dX7_slices_25 ?_
      refine P_iloadn (i := 1) rfl rfl dX7_slices_28 ?_
      refine P_iloadn (i := 2) rfl rfl dX7_slices_29 ?_
      refine kX7_166 rfl (s_findPath hl hI hpr.1 hpr.2) (by decide) hl.wf.kw rfl dX7_slices_30 (fun r30 s30 q30 => ?_)
      obtain ⟨R2, rfl, hR, hfp⟩ := q30
      rcases hfp with ⟨hx, rfl⟩ | ⟨l, hx, rfl, hl7, hh⟩
      · refine P_is4 (Or.inr dX7_slices_33) rfl rfl ?_
        refine P_iload (i := 4) rfl dX7_slices_35 ?_
        refine P_bipush (v := (-6)) rfl dX7_slices_37 ?_
        refine P_icmpne dX7_slices_39 (tgt := 47) rfl (fun h39 => absurd h39 (fun hh => hh rfl)) (fun h39 => ?_)
        refine P_bipush (v := (-6)) rfl dX7_slices_42 ?_
        refine P_goto dX7_slices_44 (tgt := 61) rfl ?_
        refine P_ireturn rfl dX7_slices_61 ?_
        rw [show a_slices (zX Z) from_ to size = -6 from (if_neg (fun hh => hh (b_t h5))).trans ((if_neg (fun hh => hh (b_t h18))).trans (by rw [hx]))]
        have hfc := FrC.path (w := x + 1) (FI := FI) (AI := AI) (AL := AL) hR
        exact ⟨FI, AI, AL, R2, rfl, rfl, FrO.fc hfc (by omega), h.up hfc ⟨sb, hl.path hR⟩⟩
      · have hrb : ∀ b, b ∈ l → 16 ≤ w_r (zX Z) b := fun b hb => by
          obtain ⟨j, hj, e⟩ := List.getElem_of_mem hb
          have h4 := (hh j hj).2.nn
          rw [List.getD_eq_getElem?_getD, List.getElem?_eq_getElem hj, Option.getD_some, e] at h4
          exact (x_room hI h4).1
        refine P_is4 (Or.inr dX7_slices_33) rfl rfl ?_
        refine P_iload (i := 4) rfl dX7_slices_35 ?_
        refine P_bipush (v := (-6)) rfl dX7_slices_37 ?_
        refine P_icmpne dX7_slices_39 (tgt := 47) rfl (fun h39 => ?_) (fun h39 => ?_)
        · refine P_aloadn (i := 0) rfl rfl dX7_slices_47 ?_
          refine gX7_10 rfl (by first | exact h.lc.kx | exact h.lc.kh | exact h.lc.kt | exact h.lc.kv | assumption) h.lc.r224 dX7_slices_48 ?_
          refine gX7_170 rfl hl.wf.kw hl.wf.r205 dX7_slices_51 ?_
          refine P_iconst (v := 0) rfl dX7_slices_54 ?_
          refine P_iload (i := 4) rfl dX7_slices_55 ?_
          refine P_iloadn (i := 3) rfl rfl dX7_slices_57 ?_
          refine kX7_178 rfl (by have h9 := s_slicesBehind (g := g) (hl.path hR) hI hl7 hh l.length 0 (by omega) (nn size) (by omega) (by omega); rw [← hsz.2.2] at h9; exact h9) (by omega) rfl dX7_slices_58 (fun r58 s58 q58 => ?_)
          obtain ⟨rfl, rfl⟩ := q58
          refine P_ireturn rfl dX7_slices_61 ?_
          rw [show a_slices (zX Z) from_ to size = Int32.ofNat (w_all (zX Z) l [(nn size, 0)]).length from (if_neg (fun hh => hh (b_t h5))).trans ((if_neg (fun hh => hh (b_t h18))).trans (by rw [hx])), (w_sb_len (zX Z) l (nn size) 0 (fun b hb => (hrb b hb)) (by omega))]
          have hfc := FrC.path (w := x + 1) (FI := FI) (AI := AI) (AL := AL) hR
          exact ⟨FI, AI, AL, R2, rfl, rfl, FrO.fc hfc (by omega), h.up hfc ⟨sb, hl.path hR⟩⟩
        · exact absurd h39 (n_ne6 (by omega))
    · refine P_bipush (v := (-2)) rfl dX7_slices_21 ?_
      refine P_ireturn rfl dX7_slices_23 ?_
      rw [show a_slices (zX Z) from_ to size = -2 from (if_neg (fun hh => hh (b_t h5))).trans (if_pos (b_f h18))]
      exact ⟨FI, AI, AL, AR, rfl, rfl, FrO.rf, h⟩
  · refine P_iconst (v := (-1)) rfl dX7_slices_8 ?_
    refine P_ireturn rfl dX7_slices_9 ?_
    rw [show a_slices (zX Z) from_ to size = -1 from if_pos (b_f h5)]
    exact ⟨FI, AI, AL, AR, rfl, rfl, FrO.rf, h⟩
theorem g_time (h : RC L FI AI AL AR x Z) (hI : XI M (zX Z)) {from_ to size : Int32} : Sp g 10 iX7_time [vr x, vi from_, vi to, vi size] (L, FI, AI, AL, AR) (0, 0) (QRC L FI AI AL AR x Z (some (vi (a_time (zX Z) from_ to size)))) := by
  refine Sp.of (ls := [some (vr x), some (vi from_), some (vi to), some (vi size), none]) (by decide +kernel) rfl rfl ?_
  obtain ⟨sb, hl⟩ := h.live
  have hb16 := h.live.elim (fun _ q => q.b16)
  refine P_iloadn (i := 1) rfl rfl dX7_time_0 ?_
  refine P_iloadn (i := 2) rfl rfl dX7_time_1 ?_
  refine kX7_65 rfl s_isPair (by decide) rfl dX7_time_2 (fun r2 s2 q2 => ?_)
  obtain ⟨rfl, rfl⟩ := q2
  refine P_ifne dX7_time_5 (tgt := 10) rfl (fun h5 => ?_) (fun h5 => ?_)
  · have hpr0 := b_t h5
    have hpr : ib from_ 8 ∧ ib to 8 := ⟨q_ib_iff.mp hpr0.1, q_ib_iff.mp hpr0.2.1⟩
    refine P_iloadn (i := 3) rfl rfl dX7_time_10 ?_
    refine P_iconst (v := 1) rfl dX7_time_11 ?_
    refine P_sipush (v := 4000) rfl dX7_time_12 ?_
    refine kX7_45 rfl s_X7_isWithin (by decide) rfl dX7_time_15 (fun r15 s15 q15 => ?_)
    obtain ⟨rfl, rfl⟩ := q15
    refine P_ifne dX7_time_18 (tgt := 24) rfl (fun h18 => ?_) (fun h18 => ?_)
    · have hsz := in_nn (a := 1) (b := 4000) (by decide) (by decide) (b_t h18)
      refine P_aloadn (i := 0) rfl rfl dX7_time_24 ?_
      refine gX7_10 rfl (by first | exact h.lc.kx | exact h.lc.kh | exact h.lc.kt | exact h.lc.kv | assumption) h.lc.r224 dX7_time_25 ?_
      refine P_iloadn (i := 1) rfl rfl dX7_time_28 ?_
      refine P_iloadn (i := 2) rfl rfl dX7_time_29 ?_
      refine kX7_166 rfl (s_findPath hl hI hpr.1 hpr.2) (by decide) hl.wf.kw rfl dX7_time_30 (fun r30 s30 q30 => ?_)
      obtain ⟨R2, rfl, hR, hfp⟩ := q30
      rcases hfp with ⟨hx, rfl⟩ | ⟨l, hx, rfl, hl7, hh⟩
      · refine P_is4 (Or.inr dX7_time_33) rfl rfl ?_
        refine P_iload (i := 4) rfl dX7_time_35 ?_
        refine P_bipush (v := (-6)) rfl dX7_time_37 ?_
        refine P_icmpne dX7_time_39 (tgt := 47) rfl (fun h39 => absurd h39 (fun hh => hh rfl)) (fun h39 => ?_)
        refine P_bipush (v := (-6)) rfl dX7_time_42 ?_
        refine P_goto dX7_time_44 (tgt := 61) rfl ?_
        refine P_ireturn rfl dX7_time_61 ?_
        rw [show a_time (zX Z) from_ to size = -6 from (if_neg (fun hh => hh (b_t h5))).trans ((if_neg (fun hh => hh (b_t h18))).trans (by rw [hx]))]
        have hfc := FrC.path (w := x + 1) (FI := FI) (AI := AI) (AL := AL) hR
        exact ⟨FI, AI, AL, R2, rfl, rfl, FrO.fc hfc (by omega), h.up hfc ⟨sb, hl.path hR⟩⟩
      · have hrb : ∀ b, b ∈ l → 16 ≤ w_r (zX Z) b := fun b hb => by
          obtain ⟨j, hj, e⟩ := List.getElem_of_mem hb
          have h4 := (hh j hj).2.nn
          rw [List.getD_eq_getElem?_getD, List.getElem?_eq_getElem hj, Option.getD_some, e] at h4
          exact (x_room hI h4).1
        refine P_is4 (Or.inr dX7_time_33) rfl rfl ?_
        refine P_iload (i := 4) rfl dX7_time_35 ?_
        refine P_bipush (v := (-6)) rfl dX7_time_37 ?_
        refine P_icmpne dX7_time_39 (tgt := 47) rfl (fun h39 => ?_) (fun h39 => ?_)
        · refine P_aloadn (i := 0) rfl rfl dX7_time_47 ?_
          refine gX7_10 rfl (by first | exact h.lc.kx | exact h.lc.kh | exact h.lc.kt | exact h.lc.kv | assumption) h.lc.r224 dX7_time_48 ?_
          refine gX7_170 rfl hl.wf.kw hl.wf.r205 dX7_time_51 ?_
          refine P_iconst (v := 0) rfl dX7_time_54 ?_
          refine P_iload (i := 4) rfl dX7_time_55 ?_
          refine P_iloadn (i := 3) rfl rfl dX7_time_57 ?_
          refine kX7_182 rfl (by have h9 := s_ticksBehind (g := g) (hl.path hR) hI hl7 hh l.length 0 (by omega) (nn size) (by omega) (by omega); rw [← hsz.2.2] at h9; exact h9) (by omega) rfl dX7_time_58 (fun r58 s58 q58 => ?_)
          obtain ⟨rfl, rfl⟩ := q58
          refine P_ireturn rfl dX7_time_61 ?_
          rw [show a_time (zX Z) from_ to size = Int32.ofNat (w_mx (w_all (zX Z) l [(nn size, 0)]) (w_all (zX Z) l [(nn size, 0)]).length) from (if_neg (fun hh => hh (b_t h5))).trans ((if_neg (fun hh => hh (b_t h18))).trans (by rw [hx])), ((w_mx_ml _ _ (Nat.le_refl _)).trans (by rw [List.take_length, w_tb_ml (zX Z) l (nn size) 0 (fun b hb => (hrb b hb)) (by omega), Nat.zero_add]))]
          have hfc := FrC.path (w := x + 1) (FI := FI) (AI := AI) (AL := AL) hR
          exact ⟨FI, AI, AL, R2, rfl, rfl, FrO.fc hfc (by omega), h.up hfc ⟨sb, hl.path hR⟩⟩
        · exact absurd h39 (n_ne6 (by omega))
    · refine P_bipush (v := (-2)) rfl dX7_time_21 ?_
      refine P_ireturn rfl dX7_time_23 ?_
      rw [show a_time (zX Z) from_ to size = -2 from (if_neg (fun hh => hh (b_t h5))).trans (if_pos (b_f h18))]
      exact ⟨FI, AI, AL, AR, rfl, rfl, FrO.rf, h⟩
  · refine P_iconst (v := (-1)) rfl dX7_time_8 ?_
    refine P_ireturn rfl dX7_time_9 ?_
    rw [show a_time (zX Z) from_ to size = -1 from if_pos (b_f h5)]
    exact ⟨FI, AI, AL, AR, rfl, rfl, FrO.rf, h⟩
end Cls29
