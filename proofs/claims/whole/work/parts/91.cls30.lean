/-- the parcel in the World of the forecasts, so many ticks later -/
def QFS (L : PL) (FI AI : Nat → Nat → Int32) (AL : Nat → Nat → Int64) (AR : Nat → Nat → Option Nat) (x : Nat) (Z : ZW) (n p : Nat) : Option PV → PS → Prop := fun r σ => ∃ F2 A2 L2 R2, σ = (L, F2, A2, L2, R2) ∧ r = some (vr (x + 721 + 39 + 2 * p)) ∧ FrO x FI AI AL AR F2 A2 L2 R2 ∧ RC L F2 A2 L2 R2 x Z ∧ CV L F2 A2 L2 R2 (x + 721) (x_ticks n (zX Z))
section Cls30
variable {g : PG} {L : PL} {FI AI : Nat → Nat → Int32} {AL : Nat → Nat → Int64} {AR : Nat → Nat → Option Nat} {x : Nat} {Z : ZW} {M : Nat} {n : Nat}
theorem s_foresee (h : RC L FI AI AL AR x Z) (hI : XI M (zX Z)) (hMM : M < 80000000) (hn : n ≤ 1000) {p : Int32} (hp : ib p (xp (zX Z))) : Sp g 6 iX7_foresee [vr x, vi p, vi (Int32.ofNat n)] (L, FI, AI, AL, AR) (0, 0) (QFS L FI AI AL AR x Z n (nn p)) := by
  refine Sp.of (ls := [some (vr x), some (vi p), some (vi (Int32.ofNat n))]) (by decide +kernel) rfl rfl ?_
  obtain ⟨sb, hl⟩ := h.live
  have hp40 := h.live.elim (fun _ q => q.p40)
  have hp9 := hp.nn
  obtain ⟨hW, sa, hA⟩ := h.fore
  refine P_aloadn (i := 0) rfl rfl dX7_foresee_0 ?_
  refine gX7_16 rfl (by first | exact h.lc.kx | exact h.lc.kh | exact h.lc.kt | exact h.lc.kv | assumption) h.lc.r225 dX7_foresee_1 ?_
  refine P_aloadn (i := 0) rfl rfl dX7_foresee_4 ?_
  refine gX7_10 rfl (by first | exact h.lc.kx | exact h.lc.kh | exact h.lc.kt | exact h.lc.kv | assumption) h.lc.r224 dX7_foresee_5 ?_
  refine kX7_227 rfl (s_W_copy hW hA hl hI (by omega) (c_of_last hI)) (by decide) hW.kw rfl dX7_foresee_8 (fun r8 s8 q8 => ?_)
  obtain ⟨F1, A1, B1, rfl, rfl, hf1, hc1⟩ := q8
  refine P_aloadn (i := 0) rfl rfl dX7_foresee_11 ?_
  refine gX7_16 rfl (by first | exact h.lc.kx | exact h.lc.kh | exact h.lc.kt | exact h.lc.kv | assumption) h.lc.r225 dX7_foresee_12 ?_
  refine P_iloadn (i := 2) rfl rfl dX7_foresee_15 ?_
  refine kX7_125 rfl (s_pass ⟨sa, hc1⟩ hI hMM hn) (by decide) hW.kw rfl dX7_foresee_16 (fun r16 s16 q16 => ?_)
  obtain ⟨F2, A2, B2, R2, rfl, rfl, hf2, hc2⟩ := q16
  have h1 := (h.upF hf1 ⟨sa, hc1⟩).upF hf2 hc2
  obtain ⟨sc, hc3⟩ := hc2
  refine P_aloadn (i := 0) rfl rfl dX7_foresee_19 ?_
  refine gX7_16 rfl (by first | exact h.lc.kx | exact h.lc.kh | exact h.lc.kt | exact h.lc.kv | assumption) h.lc.r225 dX7_foresee_20 ?_
  refine P_iloadn (i := 1) rfl rfl dX7_foresee_23 ?_
  refine kX7_143 rfl (s_parcelAt hc3) (by decide) hW.kw rfl dX7_foresee_24 (fun r24 s24 q24 => ?_)
  obtain ⟨rfl, rfl⟩ := q24
  have hp3 : ib p (xp (x_ticks n (zX Z))) := by rw [(XI.ticks (zX Z) n (by omega) hI).2.2.1]; exact hp
  rw [if_pos (q_ib_iff.mpr hp3)]
  refine P_areturn rfl dX7_foresee_27 ?_
  exact ⟨F2, A2, B2, R2, rfl, rfl, FrO.tr (FrO.fc hf1 (by omega)) (FrO.fc hf2 (by omega)), h1, sc, hc3⟩
theorem g_stateIn (h : RC L FI AI AL AR x Z) (hI : XI M (zX Z)) (hMM : M < 80000000) {p t : Int32} : Sp g 7 iX7_stateIn [vr x, vi p, vi t] (L, FI, AI, AL, AR) (0, 0) (QRC L FI AI AL AR x Z (some (vi (a_stateIn (zX Z) p t)))) := by
  refine Sp.of (ls := [some (vr x), some (vi p), some (vi t), none, none]) (by decide +kernel) rfl rfl ?_
  obtain ⟨sb, hl⟩ := h.live
  have hp40 := h.live.elim (fun _ q => q.p40)
  refine P_aloadn (i := 0) rfl rfl dX7_stateIn_0 ?_
  refine gX7_10 rfl (by first | exact h.lc.kx | exact h.lc.kh | exact h.lc.kt | exact h.lc.kv | assumption) h.lc.r224 dX7_stateIn_1 ?_
  refine P_iloadn (i := 1) rfl rfl dX7_stateIn_4 ?_
  refine kX7_143 rfl (s_parcelAt hl) (by decide) hl.wf.kw rfl dX7_stateIn_5 (fun r5 s5 q5 => ?_)
  obtain ⟨rfl, rfl⟩ := q5
  obtain ⟨rb, hrb⟩ : ∃ rb : Option Nat, rb = (if q_ib p (xp (zX Z)) = true then some (x + 1 + 39 + 2 * nn p) else none) := ⟨_, rfl⟩
  rw [← hrb]
  refine P_as3 (Or.inl dX7_stateIn_8) rfl rfl ?_
  refine P_aloadn (i := 3) rfl rfl dX7_stateIn_9 ?_
  refine P_ifnonnull dX7_stateIn_10 (tgt := 15) rfl (fun a10 h10 => ?_) (fun h10 => ?_)
  · have hc : q_ib p (xp (zX Z)) = true := Decidable.byContradiction fun hh => by rw [if_neg hh] at hrb; rw [hrb] at h10; cases h10
    have hae : a10 = x + 1 + 39 + 2 * nn p := by
      rw [if_pos hc] at hrb
      rw [hrb] at h10
      exact (Option.some.inj h10).symm
    subst h10
    subst hae
    have hpi := q_ib_iff.mp hc
    have hpx : nn p < xp (zX Z) := hpi.nn
    have hkp := hl.wf.kP (i := nn p) (by omega)
    have hr := (hl.p _ (show nn p < 40 by omega)).1 hpx
    have hq := hI.2.2.2.1 _ hpx
    refine P_iloadn (i := 2) rfl rfl dX7_stateIn_15 ?_
    refine kX7_122 rfl s_isTicks (by decide) rfl dX7_stateIn_16 (fun r16 s16 q16 => ?_)
    obtain ⟨rfl, rfl⟩ := q16
    refine P_ifne dX7_stateIn_19 (tgt := 25) rfl (fun h19 => ?_) (fun h19 => ?_)
    · have ht := in_nn (a := 1) (b := 500) (by decide) (by decide) (b_t h19)
      refine P_aloadn (i := 3) rfl rfl dX7_stateIn_25 ?_
      refine gX7_185 rfl (by first | exact h.lc.kx | exact h.lc.kh | exact h.lc.kt | exact h.lc.kv | assumption) hr.1.2.2.2.2.2.2.2.1 dX7_stateIn_26 ?_
      refine P_ifeq dX7_stateIn_29 (tgt := 37) rfl (fun h29 => ?_) (fun h29 => ?_)
      · refine P_aloadn (i := 0) rfl rfl dX7_stateIn_37 ?_
        refine P_iloadn (i := 1) rfl rfl dX7_stateIn_38 ?_
        refine P_iloadn (i := 2) rfl rfl dX7_stateIn_39 ?_
        refine kX7_188 rfl (by have h9 := s_foresee (g := g) (n := nn t) h hI hMM (by omega) hpi; rw [← ht.2.2] at h9; exact h9) (by decide) h.lc.kx rfl dX7_stateIn_40 (fun r40 s40 q40 => ?_)
        obtain ⟨F2, A2, B2, R2, rfl, rfl, hf2, h2, hc2⟩ := q40
        obtain ⟨sc, hc3⟩ := hc2
        have hxp : nn p < xp (x_ticks (nn t) (zX Z)) := by rw [(XI.ticks (zX Z) (nn t) (by omega) hI).2.2.1]; exact hpx
        have hr3 := (hc3.p _ (show nn p < 40 by omega)).1 hxp
        have hkp3 := hc3.wf.kP (i := nn p) (by omega)
        refine P_as4 (Or.inr dX7_stateIn_43) rfl rfl ?_
        refine P_aload (i := 4) rfl dX7_stateIn_45 ?_
        refine P_ifnonnull dX7_stateIn_47 (tgt := 54) rfl (fun a47 h47 => ?_) (fun h47 => by cases h47)
        cases h47
        refine P_aload (i := 4) rfl dX7_stateIn_54 ?_
        refine gX7_185 rfl hkp3 hr3.1.2.2.2.2.2.2.2.1 dX7_stateIn_56 ?_
        refine P_ireturn rfl dX7_stateIn_59 ?_
        rw [show a_stateIn (zX Z) p t = xP (x_ticks (nn t) (zX Z)) (nn p) 5 from (if_neg (fun hh => hh hc)).trans ((if_neg (fun hh => hh (b_t h19))).trans rfl)]
        exact ⟨F2, A2, B2, R2, rfl, rfl, hf2, h2⟩
      · refine P_aloadn (i := 3) rfl rfl dX7_stateIn_32 ?_
        refine gX7_185 rfl (by first | exact h.lc.kx | exact h.lc.kh | exact h.lc.kt | exact h.lc.kv | assumption) hr.1.2.2.2.2.2.2.2.1 dX7_stateIn_33 ?_
        refine P_ireturn rfl dX7_stateIn_36 ?_
        have hst := (x_st_stay (q := nn p) hI (i := 0) h29 (nn t) (by omega)).1
        rw [Nat.zero_add] at hst
        rw [show a_stateIn (zX Z) p t = xP (zX Z) (nn p) 5 from (if_neg (fun hh => hh hc)).trans ((if_neg (fun hh => hh (b_t h19))).trans hst)]
        exact ⟨FI, AI, AL, AR, rfl, rfl, FrO.rf, h⟩
    · refine P_bipush (v := (-2)) rfl dX7_stateIn_22 ?_
      refine P_ireturn rfl dX7_stateIn_24 ?_
      rw [show a_stateIn (zX Z) p t = -2 from (if_neg (fun hh => hh hc)).trans (if_pos (b_f h19))]
      exact ⟨FI, AI, AL, AR, rfl, rfl, FrO.rf, h⟩
  · have hc : ¬ q_ib p (xp (zX Z)) = true := fun hh => by
      rw [if_pos hh] at hrb
      rw [hrb] at h10
      cases h10
    refine P_iconst (v := (-1)) rfl dX7_stateIn_13 ?_
    refine P_ireturn rfl dX7_stateIn_14 ?_
    rw [show a_stateIn (zX Z) p t = -1 from if_pos hc]
    exact ⟨FI, AI, AL, AR, rfl, rfl, FrO.rf, h⟩
theorem g_doneIn (h : RC L FI AI AL AR x Z) (hI : XI M (zX Z)) (hMM : M < 80000000) {p : Int32} : Sp g 7 iX7_doneIn [vr x, vi p] (L, FI, AI, AL, AR) (0, 0) (QRC L FI AI AL AR x Z (some (vi (a_doneIn (zX Z) p)))) := by
  refine Sp.of (ls := [some (vr x), some (vi p), none, none]) (by decide +kernel) rfl rfl ?_
  obtain ⟨sb, hl⟩ := h.live
  have hp40 := h.live.elim (fun _ q => q.p40)
  refine P_aloadn (i := 0) rfl rfl dX7_doneIn_0 ?_
  refine gX7_10 rfl (by first | exact h.lc.kx | exact h.lc.kh | exact h.lc.kt | exact h.lc.kv | assumption) h.lc.r224 dX7_doneIn_1 ?_
  refine P_iloadn (i := 1) rfl rfl dX7_doneIn_4 ?_
  refine kX7_143 rfl (s_parcelAt hl) (by decide) hl.wf.kw rfl dX7_doneIn_5 (fun r5 s5 q5 => ?_)
  obtain ⟨rfl, rfl⟩ := q5
  obtain ⟨rb, hrb⟩ : ∃ rb : Option Nat, rb = (if q_ib p (xp (zX Z)) = true then some (x + 1 + 39 + 2 * nn p) else none) := ⟨_, rfl⟩
  rw [← hrb]
  refine P_as2 (Or.inl dX7_doneIn_8) rfl rfl ?_
  refine P_aloadn (i := 2) rfl rfl dX7_doneIn_9 ?_
  refine P_ifnonnull dX7_doneIn_10 (tgt := 15) rfl (fun a10 h10 => ?_) (fun h10 => ?_)
  · have hc : q_ib p (xp (zX Z)) = true := Decidable.byContradiction fun hh => by rw [if_neg hh] at hrb; rw [hrb] at h10; cases h10
    have hae : a10 = x + 1 + 39 + 2 * nn p := by
      rw [if_pos hc] at hrb
      rw [hrb] at h10
      exact (Option.some.inj h10).symm
    subst h10
    subst hae
    have hpi := q_ib_iff.mp hc
    have hpx : nn p < xp (zX Z) := hpi.nn
    have hkp := hl.wf.kP (i := nn p) (by omega)
    have hr := (hl.p _ (show nn p < 40 by omega)).1 hpx
    have hq := hI.2.2.2.1 _ hpx
    refine P_aloadn (i := 2) rfl rfl dX7_doneIn_15 ?_
    refine gX7_185 rfl (by first | exact h.lc.kx | exact h.lc.kh | exact h.lc.kt | exact h.lc.kv | assumption) hr.1.2.2.2.2.2.2.2.1 dX7_doneIn_16 ?_
    refine P_ifeq dX7_doneIn_19 (tgt := 24) rfl (fun h19 => ?_) (fun h19 => ?_)
    · refine P_aloadn (i := 0) rfl rfl dX7_doneIn_24 ?_
      refine P_iloadn (i := 1) rfl rfl dX7_doneIn_25 ?_
      refine P_sipush (v := 1000) rfl dX7_doneIn_26 ?_
      refine kX7_188 rfl (s_foresee (n := 1000) h hI hMM (by omega) hpi) (by decide) h.lc.kx rfl dX7_doneIn_29 (fun r29 s29 q29 => ?_)
      obtain ⟨F2, A2, B2, R2, rfl, rfl, hf2, h2, hc2⟩ := q29
      obtain ⟨sc, hc3⟩ := hc2
      have hxp : nn p < xp (x_ticks 1000 (zX Z)) := by rw [(XI.ticks (zX Z) 1000 (by omega) hI).2.2.1]; exact hpx
      have hr3 := (hc3.p _ (show nn p < 40 by omega)).1 hxp
      have hkp3 := hc3.wf.kP (i := nn p) (by omega)
      obtain ⟨sl, hl2⟩ := h2.live
      refine P_as3 (Or.inl dX7_doneIn_32) rfl rfl ?_
      refine P_aloadn (i := 3) rfl rfl dX7_doneIn_33 ?_
      refine P_ifnull dX7_doneIn_34 (tgt := 44) rfl (fun h34 => by cases h34) (fun a34 h34 => ?_)
      cases h34
      refine P_aloadn (i := 3) rfl rfl dX7_doneIn_37 ?_
      refine gX7_185 rfl hkp3 hr3.1.2.2.2.2.2.2.2.1 dX7_doneIn_38 ?_
      refine P_ifne dX7_doneIn_41 (tgt := 49) rfl (fun h41 => ?_) (fun h41 => ?_)
      · refine P_aloadn (i := 3) rfl rfl dX7_doneIn_49 ?_
        refine gX7_192 rfl hkp3 hr3.1.2.2.2.2.2.2.2.2.2.2.1 dX7_doneIn_50 ?_
        refine P_aloadn (i := 0) rfl rfl dX7_doneIn_53 ?_
        refine gX7_10 rfl (by first | exact h.lc.kx | exact h.lc.kh | exact h.lc.kt | exact h.lc.kv | assumption) h.lc.r224 dX7_doneIn_54 ?_
        refine gX7_129 rfl hl2.wf.kw hl2.g.1 dX7_doneIn_57 ?_
        refine P_isub dX7_doneIn_60 ?_
        refine P_iconst (v := 1) rfl dX7_doneIn_61 ?_
        refine P_iadd dX7_doneIn_62 ?_
        refine P_ireturn rfl dX7_doneIn_63 ?_
        obtain ⟨j, j1, j2, j3, j4⟩ := x_st_when (q := nn p) hI h19 1000 (by omega) h41
        have hd : x_dn (zX Z) (nn p) 1001 0 = j + 1 := x_dn_at j3 1001 0 (fun i _ hi => j4 i (by omega)) (by omega) (by omega)
        have hG := x_ticks_G hI j (by omega)
        have hI1 := hI.1
        have e9 : xP (x_ticks 1000 (zX Z)) (nn p) 10 - xG (zX Z) 0 + 1 = Int32.ofNat (j + 1) := by
          rw [j2, i_eq]
          have e8 : (xG (x_ticks j (zX Z)) 0 - xG (zX Z) 0).toInt = j := by rw [i_sub' (by omega) (by omega)]; omega
          rw [i_add' (by rw [e8]; simp only [Int32.reduceToInt]; omega) (by rw [e8]; simp only [Int32.reduceToInt]; omega), e8, n_int (by omega)]
          simp only [Int32.reduceToInt]
          omega
        rw [show a_doneIn (zX Z) p = Int32.ofNat (j + 1) from (if_neg (fun hh => hh hc)).trans (by rw [hd]; exact if_neg (by omega)), e9]
        exact ⟨F2, A2, B2, R2, rfl, rfl, hf2, h2⟩
      · refine P_bipush (v := (-6)) rfl dX7_doneIn_44 ?_
        refine P_goto dX7_doneIn_46 (tgt := 63) rfl ?_
        refine P_ireturn rfl dX7_doneIn_63 ?_
        have hd : x_dn (zX Z) (nn p) 1001 0 = 1001 := x_dn_none 1001 0 (fun j _ hj => Decidable.byContradiction fun hh => by
          have h8 := (x_st_stay (q := nn p) hI (i := j) hh (1000 - j) (by omega)).1
          rw [show j + (1000 - j) = 1000 by omega] at h8
          exact hh (h8.symm.trans h41))
        rw [show a_doneIn (zX Z) p = -6 from (if_neg (fun hh => hh hc)).trans (by rw [hd]; rfl)]
        exact ⟨F2, A2, B2, R2, rfl, rfl, hf2, h2⟩
    · refine P_iconst (v := 0) rfl dX7_doneIn_22 ?_
      refine P_ireturn rfl dX7_doneIn_23 ?_
      have hd0 : x_dn (zX Z) (nn p) 1001 0 = 0 := if_neg h19
      rw [show a_doneIn (zX Z) p = 0 from (if_neg (fun hh => hh hc)).trans (by rw [hd0]; rfl)]
      exact ⟨FI, AI, AL, AR, rfl, rfl, FrO.rf, h⟩
  · have hc : ¬ q_ib p (xp (zX Z)) = true := fun hh => by
      rw [if_pos hh] at hrb
      rw [hrb] at h10
      cases h10
    refine P_iconst (v := (-1)) rfl dX7_doneIn_13 ?_
    refine P_ireturn rfl dX7_doneIn_14 ?_
    rw [show a_doneIn (zX Z) p = -1 from if_pos hc]
    exact ⟨FI, AI, AL, AR, rfl, rfl, FrO.rf, h⟩
end Cls30
