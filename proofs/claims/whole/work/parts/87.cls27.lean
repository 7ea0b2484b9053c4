section Cls27
variable {g : PG} {L : PL} {FI AI : Nat → Nat → Int32} {AL : Nat → Nat → Int64} {AR : Nat → Nat → Option Nat} {x : Nat} {Z : ZW} {M : Nat}
theorem g_ofNode (h : RC L FI AI AL AR x Z) (hI : XI M (zX Z)) {n v : Int32} : Sp g 5 iX7_ofNode [vr x, vi n, vi v] (L, FI, AI, AL, AR) (0, 0) (QI (L, FI, AI, AL, AR) (a_ofNode (zX Z) n v)) := by
  refine Sp.of (ls := [some (vr x), some (vi n), some (vi v), none]) (by decide +kernel) rfl rfl ?_
  obtain ⟨sb, hl⟩ := h.live
  have hb16 := h.live.elim (fun _ q => q.b16)
  have hp40 := h.live.elim (fun _ q => q.p40)
  refine P_aloadn (i := 0) rfl rfl dX7_ofNode_0 ?_
  refine gX7_10 rfl (by first | exact h.lc.kx | exact h.lc.kh | exact h.lc.kt | exact h.lc.kv | assumption) h.lc.r224 dX7_ofNode_1 ?_
  refine P_iloadn (i := 1) rfl rfl dX7_ofNode_4 ?_
  refine kX7_41 rfl (s_nodeAt hl) (by decide) hl.wf.kw rfl dX7_ofNode_5 (fun r5 s5 q5 => ?_)
  obtain ⟨rfl, rfl⟩ := q5
  obtain ⟨rb, hrb⟩ : ∃ rb : Option Nat, rb = (if q_ib n 8 = true then some (x + 1 + 7 + 2 * nn n) else none) := ⟨_, rfl⟩
  rw [← hrb]
  refine P_as3 (Or.inl dX7_ofNode_8) rfl rfl ?_
  refine P_aloadn (i := 3) rfl rfl dX7_ofNode_9 ?_
  refine P_ifnonnull dX7_ofNode_10 (tgt := 15) rfl (fun a10 h10 => ?_) (fun h10 => ?_)
  · have hc : q_ib n 8 = true := Decidable.byContradiction fun hh => by rw [if_neg hh] at hrb; rw [hrb] at h10; cases h10
    have hae : a10 = x + 1 + 7 + 2 * nn n := by
      rw [if_pos hc] at hrb
      rw [hrb] at h10
      exact (Option.some.inj h10).symm
    subst h10
    subst hae
    have hn8 : nn n < 8 := (q_ib_iff.mp hc).nn
    have hkn := hl.wf.kN hn8
    have hn := hl.n _ hn8
    refine P_iloadn (i := 2) rfl rfl dX7_ofNode_15 ?_
    refine P_iconst (v := 3) rfl dX7_ofNode_16 ?_
    refine P_icmpne dX7_ofNode_17 (tgt := 29) rfl (fun h17 => ?_) (fun h17 => ?_)
    · refine P_iloadn (i := 2) rfl rfl dX7_ofNode_29 ?_
      refine P_iconst (v := 4) rfl dX7_ofNode_30 ?_
      refine P_icmpne dX7_ofNode_31 (tgt := 43) rfl (fun h31 => ?_) (fun h31 => ?_)
      · refine P_aloadn (i := 3) rfl rfl dX7_ofNode_43 ?_
        refine P_iloadn (i := 2) rfl rfl dX7_ofNode_44 ?_
        refine kX7_139 rfl (c_N_tell hkn (by rw [show x + 1 + 7 + 2 * nn n + 1 = x + 1 + 8 + 2 * nn n by omega]; exact hl.wf.rN hn8) (by rw [show x + 1 + 7 + 2 * nn n + 1 = x + 1 + 8 + 2 * nn n by omega]; exact hl.wf.kR hn8) (by rw [show x + 1 + 7 + 2 * nn n + 1 = x + 1 + 8 + 2 * nn n by omega]; exact hl.wf.lR hn8)) (by decide) (by first | exact h.lc.kx | exact h.lc.kh | exact h.lc.kt | exact h.lc.kv | assumption) rfl dX7_ofNode_45 (fun r45 s45 q45 => ?_)
        obtain ⟨rfl, rfl⟩ := q45
        refine P_ireturn rfl dX7_ofNode_48 ?_
        rw [show a_ofNode (zX Z) n v = c_nodeTell FI AI (x + 1 + 7 + 2 * nn n) v from ?_]
        · exact ⟨rfl, rfl⟩
        refine (if_neg (fun hh => hh hc)).trans ?_
        unfold c_nodeTell
        by_cases e1 : (0 : Int32) ≤ v ∧ v ≤ 2
        · obtain ⟨w1, w2, w3⟩ := in_nn (a := 0) (b := 2) (by decide) (by decide) e1
          rw [if_pos e1, if_pos e1]
          rcases (show nn v = 0 ∨ nn v = 1 ∨ nn v = 2 by omega) with e | e | e <;> rw [e]
          · exact hn.1.symm
          · exact hn.2.1.symm
          · exact hn.2.2.1.symm
        · rw [if_neg e1, if_neg e1]
          by_cases e2 : (10 : Int32) ≤ v ∧ v ≤ 17
          · obtain ⟨w1, w2, w3⟩ := in_nn (a := 10) (b := 17) (by decide) (by decide) e2
            rw [if_pos e2, if_pos e2, show x + 1 + 7 + 2 * nn n + 1 = x + 1 + 8 + 2 * nn n by omega]
            exact (hn.2.2.2 _ (by omega)).symm
          · rw [if_neg e2, if_neg e2, if_neg h17, if_neg h31]
      · refine P_aloadn (i := 0) rfl rfl dX7_ofNode_34 ?_
        refine gX7_10 rfl (by first | exact h.lc.kx | exact h.lc.kh | exact h.lc.kt | exact h.lc.kv | assumption) h.lc.r224 dX7_ofNode_35 ?_
        refine P_iloadn (i := 1) rfl rfl dX7_ofNode_38 ?_
        refine kX7_136 rfl (s_parcelsAtNode hl hI) (by decide) hl.wf.kw rfl dX7_ofNode_39 (fun r39 s39 q39 => ?_)
        obtain ⟨rfl, rfl⟩ := q39
        refine P_ireturn rfl dX7_ofNode_42 ?_
        rw [h31, show a_ofNode (zX Z) n 4 = a_parcelsAt (zX Z) n from (if_neg (fun hh => hh hc)).trans  rfl]
        exact ⟨rfl, rfl⟩
    · refine P_aloadn (i := 0) rfl rfl dX7_ofNode_20 ?_
      refine gX7_10 rfl (by first | exact h.lc.kx | exact h.lc.kh | exact h.lc.kt | exact h.lc.kv | assumption) h.lc.r224 dX7_ofNode_21 ?_
      refine P_iloadn (i := 1) rfl rfl dX7_ofNode_24 ?_
      refine kX7_132 rfl (s_bytesAtNode hl) (by decide) hl.wf.kw rfl dX7_ofNode_25 (fun r25 s25 q25 => ?_)
      obtain ⟨rfl, rfl⟩ := q25
      refine P_ireturn rfl dX7_ofNode_28 ?_
      rw [h17, show a_ofNode (zX Z) n 3 = x_bytes (xP (zX Z)) n (xp (zX Z)) from (if_neg (fun hh => hh hc)).trans  rfl]
      exact ⟨rfl, rfl⟩
  · have hc : ¬ q_ib n 8 = true := fun hh => by
      rw [if_pos hh] at hrb
      rw [hrb] at h10
      cases h10
    refine P_iconst (v := (-1)) rfl dX7_ofNode_13 ?_
    refine P_ireturn rfl dX7_ofNode_14 ?_
    rw [show a_ofNode (zX Z) n v = -1 from if_pos hc]
    exact ⟨rfl, rfl⟩
theorem g_ofBridge (h : RC L FI AI AL AR x Z) (hI : XI M (zX Z)) {b v : Int32} : Sp g 5 iX7_ofBridge [vr x, vi b, vi v] (L, FI, AI, AL, AR) (0, 0) (QI (L, FI, AI, AL, AR) (a_ofBridge (zX Z) b v)) := by
  refine Sp.of (ls := [some (vr x), some (vi b), some (vi v), none]) (by decide +kernel) rfl rfl ?_
  obtain ⟨sb, hl⟩ := h.live
  have hb16 := h.live.elim (fun _ q => q.b16)
  have hp40 := h.live.elim (fun _ q => q.p40)
  refine P_aloadn (i := 0) rfl rfl dX7_ofBridge_0 ?_
  refine gX7_10 rfl (by first | exact h.lc.kx | exact h.lc.kh | exact h.lc.kt | exact h.lc.kv | assumption) h.lc.r224 dX7_ofBridge_1 ?_
  refine P_iloadn (i := 1) rfl rfl dX7_ofBridge_4 ?_
  refine kX7_97 rfl (s_bridgeAt hl) (by decide) hl.wf.kw rfl dX7_ofBridge_5 (fun r5 s5 q5 => ?_)
  obtain ⟨rfl, rfl⟩ := q5
  obtain ⟨rb, hrb⟩ : ∃ rb : Option Nat, rb = (if q_ib b (xb (zX Z)) = true then some (x + 1 + 23 + nn b) else none) := ⟨_, rfl⟩
  rw [← hrb]
  refine P_as3 (Or.inl dX7_ofBridge_8) rfl rfl ?_
  refine P_aloadn (i := 3) rfl rfl dX7_ofBridge_9 ?_
  refine P_ifnonnull dX7_ofBridge_10 (tgt := 17) rfl (fun a10 h10 => ?_) (fun h10 => ?_)
  · have hc : q_ib b (xb (zX Z)) = true := Decidable.byContradiction fun hh => by rw [if_neg hh] at hrb; rw [hrb] at h10; cases h10
    have hae : a10 = x + 1 + 23 + nn b := by
      rw [if_pos hc] at hrb
      rw [hrb] at h10
      exact (Option.some.inj h10).symm
    subst h10
    subst hae
    have hbx : nn b < xb (zX Z) := (q_ib_iff.mp hc).nn
    have hkb := hl.wf.kB (i := nn b) (by omega)
    refine P_aloadn (i := 3) rfl rfl dX7_ofBridge_17 ?_
    refine P_iloadn (i := 2) rfl rfl dX7_ofBridge_18 ?_
    refine kX7_142 rfl (c_B_tell hkb) (by decide) (by first | exact h.lc.kx | exact h.lc.kh | exact h.lc.kt | exact h.lc.kv | assumption) rfl dX7_ofBridge_19 (fun r19 s19 q19 => ?_)
    obtain ⟨rfl, rfl⟩ := q19
    refine P_ireturn rfl dX7_ofBridge_22 ?_
    rw [show a_ofBridge (zX Z) b v = (if (0 : Int32) ≤ v ∧ v ≤ 8 then FI (nn v) (x + 1 + 23 + nn b) else -2) from ?_]
    · exact ⟨rfl, rfl⟩
    refine (if_neg (fun hh => hh hc)).trans ?_
    by_cases e1 : (0 : Int32) ≤ v ∧ v ≤ 8
    · obtain ⟨w1, w2, w3⟩ := in_nn (a := 0) (b := 8) (by decide) (by decide) e1
      rw [if_pos e1, if_pos e1]
      exact ((hl.b _ (by omega)).1 hbx _ (by omega)).symm
    · rw [if_neg e1, if_neg e1]
  · have hc : ¬ q_ib b (xb (zX Z)) = true := fun hh => by
      rw [if_pos hh] at hrb
      rw [hrb] at h10
      cases h10
    refine P_iconst (v := (-1)) rfl dX7_ofBridge_13 ?_
    refine P_goto dX7_ofBridge_14 (tgt := 22) rfl ?_
    refine P_ireturn rfl dX7_ofBridge_22 ?_
    rw [show a_ofBridge (zX Z) b v = -1 from if_pos hc]
    exact ⟨rfl, rfl⟩
theorem g_ofParcel (h : RC L FI AI AL AR x Z) (hI : XI M (zX Z)) {p v : Int32} : Sp g 5 iX7_ofParcel [vr x, vi p, vi v] (L, FI, AI, AL, AR) (0, 0) (QI (L, FI, AI, AL, AR) (a_ofParcel (zX Z) p v)) := by
  refine Sp.of (ls := [some (vr x), some (vi p), some (vi v), none]) (by decide +kernel) rfl rfl ?_
  obtain ⟨sb, hl⟩ := h.live
  have hb16 := h.live.elim (fun _ q => q.b16)
  have hp40 := h.live.elim (fun _ q => q.p40)
  refine P_aloadn (i := 0) rfl rfl dX7_ofParcel_0 ?_
  refine gX7_10 rfl (by first | exact h.lc.kx | exact h.lc.kh | exact h.lc.kt | exact h.lc.kv | assumption) h.lc.r224 dX7_ofParcel_1 ?_
  refine P_iloadn (i := 1) rfl rfl dX7_ofParcel_4 ?_
  refine kX7_143 rfl (s_parcelAt hl) (by decide) hl.wf.kw rfl dX7_ofParcel_5 (fun r5 s5 q5 => ?_)
  obtain ⟨rfl, rfl⟩ := q5
  obtain ⟨rb, hrb⟩ : ∃ rb : Option Nat, rb = (if q_ib p (xp (zX Z)) = true then some (x + 1 + 39 + 2 * nn p) else none) := ⟨_, rfl⟩
  rw [← hrb]
  refine P_as3 (Or.inl dX7_ofParcel_8) rfl rfl ?_
  refine P_aloadn (i := 3) rfl rfl dX7_ofParcel_9 ?_
  refine P_ifnonnull dX7_ofParcel_10 (tgt := 15) rfl (fun a10 h10 => ?_) (fun h10 => ?_)
  · have hc : q_ib p (xp (zX Z)) = true := Decidable.byContradiction fun hh => by rw [if_neg hh] at hrb; rw [hrb] at h10; cases h10
    have hae : a10 = x + 1 + 39 + 2 * nn p := by
      rw [if_pos hc] at hrb
      rw [hrb] at h10
      exact (Option.some.inj h10).symm
    subst h10
    subst hae
    have hpx : nn p < xp (zX Z) := (q_ib_iff.mp hc).nn
    have hkp := hl.wf.kP (i := nn p) (by omega)
    have hlq : LQ L (x + 1 + 39 + 2 * nn p) := hl.wf.lp (p := nn p) (by omega)
    have hr := (hl.p _ (show nn p < 40 by omega)).1 hpx
    have hq := hI.2.2.2.1 _ hpx
    refine P_iloadn (i := 2) rfl rfl dX7_ofParcel_15 ?_
    refine P_bipush (v := 7) rfl dX7_ofParcel_16 ?_
    refine P_icmpne dX7_ofParcel_18 (tgt := 32) rfl (fun h18 => ?_) (fun h18 => ?_)
    · refine P_aloadn (i := 3) rfl rfl dX7_ofParcel_32 ?_
      refine P_iloadn (i := 2) rfl rfl dX7_ofParcel_33 ?_
      refine kX7_150 rfl (c_P_tell hlq hr hq) (by decide) (by first | exact h.lc.kx | exact h.lc.kh | exact h.lc.kt | exact h.lc.kv | assumption) rfl dX7_ofParcel_34 (fun r34 s34 q34 => ?_)
      obtain ⟨rfl, rfl⟩ := q34
      refine P_ireturn rfl dX7_ofParcel_37 ?_
      rw [show a_ofParcel (zX Z) p v = c_parcelTell (xP (zX Z) (nn p)) (xT (zX Z) (nn p)) v from ?_]
      · exact ⟨rfl, rfl⟩
      refine (if_neg (fun hh => hh hc)).trans ?_
      unfold c_parcelTell
      rw [if_neg h18]
    · refine P_aloadn (i := 0) rfl rfl dX7_ofParcel_21 ?_
      refine gX7_10 rfl (by first | exact h.lc.kx | exact h.lc.kh | exact h.lc.kt | exact h.lc.kv | assumption) h.lc.r224 dX7_ofParcel_22 ?_
      refine P_iloadn (i := 1) rfl rfl dX7_ofParcel_25 ?_
      refine kX7_147 rfl (c_slicesUnderWay hl) (by decide) hl.wf.kw rfl dX7_ofParcel_26 (fun r26 s26 q26 => ?_)
      obtain ⟨rfl, rfl⟩ := q26
      refine P_goto dX7_ofParcel_29 (tgt := 37) rfl ?_
      refine P_ireturn rfl dX7_ofParcel_37 ?_
      rw [h18, show a_ofParcel (zX Z) p 7 = a_slicesOf (zX Z) p from (if_neg (fun hh => hh hc)).trans  rfl]
      exact ⟨rfl, rfl⟩
  · have hc : ¬ q_ib p (xp (zX Z)) = true := fun hh => by
      rw [if_pos hh] at hrb
      rw [hrb] at h10
      cases h10
    refine P_iconst (v := (-1)) rfl dX7_ofParcel_13 ?_
    refine P_ireturn rfl dX7_ofParcel_14 ?_
    rw [show a_ofParcel (zX Z) p v = -1 from if_pos hc]
    exact ⟨rfl, rfl⟩
theorem g_byteAt (h : RC L FI AI AL AR x Z) (hI : XI M (zX Z)) {p b : Int32} : Sp g 5 iX7_byteAt [vr x, vi p, vi b] (L, FI, AI, AL, AR) (0, 0) (QI (L, FI, AI, AL, AR) (a_byteAt (zX Z) p b)) := by
  refine Sp.of (ls := [some (vr x), some (vi p), some (vi b), none]) (by decide +kernel) rfl rfl ?_
  obtain ⟨sb, hl⟩ := h.live
  have hb16 := h.live.elim (fun _ q => q.b16)
  have hp40 := h.live.elim (fun _ q => q.p40)
  refine P_aloadn (i := 0) rfl rfl dX7_byteAt_0 ?_
  refine gX7_10 rfl (by first | exact h.lc.kx | exact h.lc.kh | exact h.lc.kt | exact h.lc.kv | assumption) h.lc.r224 dX7_byteAt_1 ?_
  refine P_iloadn (i := 1) rfl rfl dX7_byteAt_4 ?_
  refine kX7_143 rfl (s_parcelAt hl) (by decide) hl.wf.kw rfl dX7_byteAt_5 (fun r5 s5 q5 => ?_)
  obtain ⟨rfl, rfl⟩ := q5
  obtain ⟨rb, hrb⟩ : ∃ rb : Option Nat, rb = (if q_ib p (xp (zX Z)) = true then some (x + 1 + 39 + 2 * nn p) else none) := ⟨_, rfl⟩
  rw [← hrb]
  refine P_as3 (Or.inl dX7_byteAt_8) rfl rfl ?_
  refine P_aloadn (i := 3) rfl rfl dX7_byteAt_9 ?_
  refine P_ifnonnull dX7_byteAt_10 (tgt := 15) rfl (fun a10 h10 => ?_) (fun h10 => ?_)
  · have hc : q_ib p (xp (zX Z)) = true := Decidable.byContradiction fun hh => by rw [if_neg hh] at hrb; rw [hrb] at h10; cases h10
    have hae : a10 = x + 1 + 39 + 2 * nn p := by
      rw [if_pos hc] at hrb
      rw [hrb] at h10
      exact (Option.some.inj h10).symm
    subst h10
    subst hae
    have hpx : nn p < xp (zX Z) := (q_ib_iff.mp hc).nn
    have hkp := hl.wf.kP (i := nn p) (by omega)
    have hlq : LQ L (x + 1 + 39 + 2 * nn p) := hl.wf.lp (p := nn p) (by omega)
    have hr := (hl.p _ (show nn p < 40 by omega)).1 hpx
    have hq := hI.2.2.2.1 _ hpx
    refine P_iloadn (i := 2) rfl rfl dX7_byteAt_15 ?_
    refine P_iconst (v := 0) rfl dX7_byteAt_16 ?_
    refine P_sipush (v := 3999) rfl dX7_byteAt_17 ?_
    refine kX7_45 rfl s_X7_isWithin (by decide) rfl dX7_byteAt_20 (fun r20 s20 q20 => ?_)
    obtain ⟨rfl, rfl⟩ := q20
    refine P_ifne dX7_byteAt_23 (tgt := 29) rfl (fun h23 => ?_) (fun h23 => ?_)
    · have hb := in_nn (a := 0) (b := 3999) (by decide) (by decide) (b_t h23)
      refine P_aloadn (i := 3) rfl rfl dX7_byteAt_29 ?_
      refine P_iloadn (i := 2) rfl rfl dX7_byteAt_30 ?_
      refine kX7_153 rfl (by have h9 := s_hasByte (g := g) (L := L) (AI := AI) (AR := AR) hlq hr hq (i := nn b) (by omega); rw [← hb.2.2] at h9; exact h9) (by decide) (by first | exact h.lc.kx | exact h.lc.kh | exact h.lc.kt | exact h.lc.kv | assumption) rfl dX7_byteAt_31 (fun r31 s31 q31 => ?_)
      obtain ⟨rfl, rfl⟩ := q31
      refine P_ifeq dX7_byteAt_34 (tgt := 47) rfl (fun h34 => ?_) (fun h34 => ?_)
      · refine P_bipush (v := (-6)) rfl dX7_byteAt_47 ?_
        refine P_ireturn rfl dX7_byteAt_49 ?_
        rw [show a_byteAt (zX Z) p b = -6 from (if_neg (fun hh => hh hc)).trans ((if_neg (fun hh => hh (b_t h23))).trans (if_pos (Int32.not_le.mp (b_f h34))))]
        exact ⟨rfl, rfl⟩
      · refine P_aloadn (i := 3) rfl rfl dX7_byteAt_37 ?_
        refine P_iloadn (i := 2) rfl rfl dX7_byteAt_38 ?_
        refine kX7_156 rfl (by have h9 := s_cell (g := g) (L := L) (FI := FI) (AI := AI) (AL := AL) (AR := AR) hlq (i := nn b) (by omega); rw [← hb.2.2] at h9; exact h9) (by decide) (by first | exact h.lc.kx | exact h.lc.kh | exact h.lc.kt | exact h.lc.kv | assumption) rfl dX7_byteAt_39 (fun r39 s39 q39 => ?_)
        obtain ⟨rfl, rfl⟩ := q39
        refine P_iconst (v := 1) rfl dX7_byteAt_42 ?_
        refine P_isub dX7_byteAt_43 ?_
        refine P_goto dX7_byteAt_44 (tgt := 49) rfl ?_
        refine P_ireturn rfl dX7_byteAt_49 ?_
        have hth : 0 ≤ xT (zX Z) (nn p) (nn b) := b_t h34
        have h12 : ¬ xP (zX Z) (nn p) 12 = 0 := fun hh => (hq.z hh).2.2 _ (by omega) hth
        rw [((hr.2.1 h12).2 _ (by omega)), if_neg (Int32.not_lt.mpr hth), Int32.add_sub_cancel, ← hb.2.2]
        rw [show a_byteAt (zX Z) p b = c_byte (xT (zX Z) (nn p) (nn b)) b from (if_neg (fun hh => hh hc)).trans ((if_neg (fun hh => hh (b_t h23))).trans (if_neg (Int32.not_lt.mpr hth)))]
        exact ⟨rfl, rfl⟩
    · refine P_bipush (v := (-2)) rfl dX7_byteAt_26 ?_
      refine P_ireturn rfl dX7_byteAt_28 ?_
      rw [show a_byteAt (zX Z) p b = -2 from (if_neg (fun hh => hh hc)).trans (if_pos (b_f h23))]
      exact ⟨rfl, rfl⟩
  · have hc : ¬ q_ib p (xp (zX Z)) = true := fun hh => by
      rw [if_pos hh] at hrb
      rw [hrb] at h10
      cases h10
    refine P_iconst (v := (-1)) rfl dX7_byteAt_13 ?_
    refine P_ireturn rfl dX7_byteAt_14 ?_
    rw [show a_byteAt (zX Z) p b = -1 from if_pos hc]
    exact ⟨rfl, rfl⟩
theorem g_count (h : RC L FI AI AL AR x Z) (hI : XI M (zX Z)) {v : Int32} : Sp g 5 iX7_count [vr x, vi v] (L, FI, AI, AL, AR) (0, 0) (QI (L, FI, AI, AL, AR) (a_count Z v)) := by
  refine Sp.of (ls := [some (vr x), some (vi v)]) (by decide +kernel) rfl rfl ?_
  obtain ⟨sb, hl⟩ := h.live
  have hb16 := h.live.elim (fun _ q => q.b16)
  have hp40 := h.live.elim (fun _ q => q.p40)
  refine P_iloadn (i := 1) rfl rfl dX7_count_0 ?_
  refine P_bipush (v := 7) rfl dX7_count_1 ?_
  refine P_icmpne dX7_count_3 (tgt := 14) rfl (fun h3 => ?_) (fun h3 => ?_)
  · refine P_iloadn (i := 1) rfl rfl dX7_count_14 ?_
    refine P_bipush (v := 8) rfl dX7_count_15 ?_
    refine P_icmpne dX7_count_17 (tgt := 28) rfl (fun h17 => ?_) (fun h17 => ?_)
    · refine P_aloadn (i := 0) rfl rfl dX7_count_28 ?_
      refine gX7_10 rfl (by first | exact h.lc.kx | exact h.lc.kh | exact h.lc.kt | exact h.lc.kv | assumption) h.lc.r224 dX7_count_29 ?_
      refine P_iloadn (i := 1) rfl rfl dX7_count_32 ?_
      refine kX7_165 rfl (c_W_tell hl hI) (by decide) hl.wf.kw rfl dX7_count_33 (fun r33 s33 q33 => ?_)
      obtain ⟨rfl, rfl⟩ := q33
      refine P_ireturn rfl dX7_count_36 ?_
      rw [show a_count Z v = c_worldTell (zX Z) v from by unfold a_count c_worldTell; rw [if_neg h3, if_neg h17]]
      exact ⟨rfl, rfl⟩
    · refine P_aloadn (i := 0) rfl rfl dX7_count_20 ?_
      refine gX7_22 rfl (by first | exact h.lc.kx | exact h.lc.kh | exact h.lc.kt | exact h.lc.kv | assumption) h.lc.r226 dX7_count_21 ?_
      refine gX7_162 rfl h.lc.kh h.pk dX7_count_24 ?_
      refine P_ireturn rfl dX7_count_27 ?_
      rw [h17]
      exact ⟨rfl, rfl⟩
  · refine P_aloadn (i := 0) rfl rfl dX7_count_6 ?_
    refine gX7_37 rfl (by first | exact h.lc.kx | exact h.lc.kh | exact h.lc.kt | exact h.lc.kv | assumption) h.lc.r229 dX7_count_7 ?_
    refine gX7_159 rfl h.lc.kp h.pn dX7_count_10 ?_
    refine P_ireturn rfl dX7_count_13 ?_
    rw [h3]
    exact ⟨rfl, rfl⟩
theorem g_gap (h : RC L FI AI AL AR x Z) (hI : XI M (zX Z)) {p v : Int32} : Sp g 5 iX7_gap [vr x, vi p, vi v] (L, FI, AI, AL, AR) (0, 0) (QI (L, FI, AI, AL, AR) (a_gap (zX Z) p v)) := by
  refine Sp.of (ls := [some (vr x), some (vi p), some (vi v), none]) (by decide +kernel) rfl rfl ?_
  obtain ⟨sb, hl⟩ := h.live
  have hb16 := h.live.elim (fun _ q => q.b16)
  have hp40 := h.live.elim (fun _ q => q.p40)
  refine P_aloadn (i := 0) rfl rfl dX7_gap_0 ?_
  refine gX7_10 rfl (by first | exact h.lc.kx | exact h.lc.kh | exact h.lc.kt | exact h.lc.kv | assumption) h.lc.r224 dX7_gap_1 ?_
  refine P_iloadn (i := 1) rfl rfl dX7_gap_4 ?_
  refine kX7_143 rfl (s_parcelAt hl) (by decide) hl.wf.kw rfl dX7_gap_5 (fun r5 s5 q5 => ?_)
  obtain ⟨rfl, rfl⟩ := q5
  obtain ⟨rb, hrb⟩ : ∃ rb : Option Nat, rb = (if q_ib p (xp (zX Z)) = true then some (x + 1 + 39 + 2 * nn p) else none) := ⟨_, rfl⟩
  rw [← hrb]
  refine P_as3 (Or.inl dX7_gap_8) rfl rfl ?_
  refine P_aloadn (i := 3) rfl rfl dX7_gap_9 ?_
  refine P_ifnonnull dX7_gap_10 (tgt := 15) rfl (fun a10 h10 => ?_) (fun h10 => ?_)
  · have hc : q_ib p (xp (zX Z)) = true := Decidable.byContradiction fun hh => by rw [if_neg hh] at hrb; rw [hrb] at h10; cases h10
    have hae : a10 = x + 1 + 39 + 2 * nn p := by
      rw [if_pos hc] at hrb
      rw [hrb] at h10
      exact (Option.some.inj h10).symm
    subst h10
    subst hae
    have hpx : nn p < xp (zX Z) := (q_ib_iff.mp hc).nn
    have hkp := hl.wf.kP (i := nn p) (by omega)
    have hlq : LQ L (x + 1 + 39 + 2 * nn p) := hl.wf.lp (p := nn p) (by omega)
    have hr := (hl.p _ (show nn p < 40 by omega)).1 hpx
    have hq := hI.2.2.2.1 _ hpx
    refine P_iloadn (i := 2) rfl rfl dX7_gap_15 ?_
    refine P_iconst (v := 0) rfl dX7_gap_16 ?_
    refine P_iconst (v := 1) rfl dX7_gap_17 ?_
    refine kX7_45 rfl s_X7_isWithin (by decide) rfl dX7_gap_18 (fun r18 s18 q18 => ?_)
    obtain ⟨rfl, rfl⟩ := q18
    refine P_ifne dX7_gap_21 (tgt := 27) rfl (fun h21 => ?_) (fun h21 => ?_)
    · refine P_aloadn (i := 3) rfl rfl dX7_gap_27 ?_
      refine gX7_195 rfl (by first | exact h.lc.kx | exact h.lc.kh | exact h.lc.kt | exact h.lc.kv | assumption) hr.1.2.2.2.2.2.2.2.2.2.2.2 dX7_gap_28 ?_
      refine P_ifne dX7_gap_31 (tgt := 37) rfl (fun h31 => ?_) (fun h31 => ?_)
      · refine P_iloadn (i := 2) rfl rfl dX7_gap_37 ?_
        refine P_ifne dX7_gap_38 (tgt := 48) rfl (fun h38 => ?_) (fun h38 => ?_)
        · refine P_aloadn (i := 3) rfl rfl dX7_gap_48 ?_
          refine kX7_202 rfl (c_gapLength hlq hr hq h31) (by decide) (by first | exact h.lc.kx | exact h.lc.kh | exact h.lc.kt | exact h.lc.kv | assumption) rfl dX7_gap_49 (fun r49 s49 q49 => ?_)
          obtain ⟨rfl, rfl⟩ := q49
          refine P_ireturn rfl dX7_gap_52 ?_
          rw [show a_gap (zX Z) p v = _ from (if_neg (fun hh => hh hc)).trans ((if_neg (fun hh => hh (b_t h21))).trans ((if_neg h31).trans (if_neg h38)))]
          exact ⟨rfl, rfl⟩
        · refine P_aloadn (i := 3) rfl rfl dX7_gap_41 ?_
          refine kX7_198 rfl (s_firstMissing7 hlq hr hq) (by decide) (by first | exact h.lc.kx | exact h.lc.kh | exact h.lc.kt | exact h.lc.kv | assumption) rfl dX7_gap_42 (fun r42 s42 q42 => ?_)
          obtain ⟨rfl, rfl⟩ := q42
          refine P_goto dX7_gap_45 (tgt := 52) rfl ?_
          refine P_ireturn rfl dX7_gap_52 ?_
          rw [show a_gap (zX Z) p v = Int32.ofNat (x_fm (xT (zX Z) (nn p)) 4000 0) from (if_neg (fun hh => hh hc)).trans ((if_neg (fun hh => hh (b_t h21))).trans ((if_neg h31).trans (if_pos h38)))]
          exact ⟨rfl, rfl⟩
      · refine P_bipush (v := (-6)) rfl dX7_gap_34 ?_
        refine P_ireturn rfl dX7_gap_36 ?_
        rw [show a_gap (zX Z) p v = -6 from (if_neg (fun hh => hh hc)).trans ((if_neg (fun hh => hh (b_t h21))).trans (if_pos h31))]
        exact ⟨rfl, rfl⟩
    · refine P_bipush (v := (-2)) rfl dX7_gap_24 ?_
      refine P_ireturn rfl dX7_gap_26 ?_
      rw [show a_gap (zX Z) p v = -2 from (if_neg (fun hh => hh hc)).trans (if_pos (b_f h21))]
      exact ⟨rfl, rfl⟩
  · have hc : ¬ q_ib p (xp (zX Z)) = true := fun hh => by
      rw [if_pos hh] at hrb
      rw [hrb] at h10
      cases h10
    refine P_iconst (v := (-1)) rfl dX7_gap_13 ?_
    refine P_ireturn rfl dX7_gap_14 ?_
    rw [show a_gap (zX Z) p v = -1 from if_pos hc]
    exact ⟨rfl, rfl⟩
end Cls27
