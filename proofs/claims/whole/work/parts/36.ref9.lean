theorem x_push_set {Y : XW} {σ τ : XS} : x_s (x_s Y (xS Y ++ [σ])) ((xS (x_s Y (xS Y ++ [σ]))).set (xS Y).length τ) = x_s Y (xS Y ++ [τ]) := by
  have e : (xS Y ++ [σ]).set (xS Y).length τ = xS Y ++ [τ] := by
    rw [List.set_append_right _ _ (Nat.le_refl _), Nat.sub_self]
    rfl
  show x_s Y ((xS Y ++ [σ]).set (xS Y).length τ) = _
  rw [e]
theorem x_push_at {Y : XW} {σ : XS} : x_at (x_s Y (xS Y ++ [σ])) (xS Y).length = σ := by
  show (xS Y ++ [σ]).getD (xS Y).length _ = σ
  rw [List.getD_eq_getElem?_getD, List.getElem?_append_right (Nat.le_refl _), Nat.sub_self]
  rfl
section Ref9
variable {g : PG} {L : PL} {FI AI : Nat → Nat → Int32} {AL : Nat → Nat → Int64} {AR : Nat → Nat → Option Nat} {m : Nat} {X : XW} {M : Nat}
theorem b_t2 {c : Prop} [Decidable c] (h : (if c then (0 : Int32) else 1) = 0) : c := Decidable.byContradiction fun hc => by rw [if_neg hc] at h; exact absurd h (by decide)
theorem b_f2 {c : Prop} [Decidable c] (h : ¬ (if c then (0 : Int32) else 1) = 0) : ¬ c := fun hc => h (if_pos hc)
theorem s_cut (hM : WM L m) (hA : RA AI m X) (hI : XI M X) (hMM : M < 100000000) {s b : Int32} (hs : ib s (xS X).length) (hb : ib b (xb X)) (hh0 : ¬ (x_at X (nn s)).2.2.2.2.1 = 0) : Sp g 4 iX8_cut [vr m, vi s, vi b] (L, FI, AI, AL, AR) (0, 0) (RM L FI AI AL AR m (x_cutup X (nn s) (nn b)) none) := by
  refine Sp.of (ls := [some (vr m), some (vi s), some (vi b), none, none, none, none, none, none, none, none]) (by decide +kernel) rfl rfl ?_
  have hs9 := hs.nn
  have hσ := hI.2.2.2.2.1 _ (x_at_mem hs9)
  obtain ⟨p, hpe⟩ : ∃ p, p = (x_at X (nn s)).1 := ⟨_, rfl⟩
  obtain ⟨each, hee⟩ : ∃ z, z = (xB X (nn b) 2 - 8) / 8 * 8 := ⟨_, rfl⟩
  obtain ⟨fr, hfe⟩ : ∃ z, z = (x_at X (nn s)).2.1 := ⟨_, rfl⟩
  obtain ⟨e, hende⟩ : ∃ z, z = fr + (x_at X (nn s)).2.2.1 := ⟨_, rfl⟩
  obtain ⟨la, hlae⟩ : ∃ z, z = (x_at X (nn s)).2.2.2.1 := ⟨_, rfl⟩
  obtain ⟨ho, hhoe⟩ : ∃ z, z = (x_at X (nn s)).2.2.2.2.1 - 1 := ⟨_, rfl⟩
  obtain ⟨se, hsee⟩ : ∃ z, z = (x_at X (nn s)).2.2.2.2.2.1 := ⟨_, rfl⟩
  have hp : ib p (xp X) := by rw [hpe]; exact hσ.1
  have hla : la = 0 ∨ la = 1 := by rw [hlae]; exact hσ.2.2.2.2.1
  have hse : ib se 256 := by rw [hsee]; exact hσ.2.2.2.2.2.2.1
  have hfr0 : 0 ≤ fr.toInt := by rw [hfe]; exact hσ.2.1
  have hadd : e.toInt = fr.toInt + (x_at X (nn s)).2.2.1.toInt := by
    rw [hende, hfe]
    have h1 := hσ.2.1; have h2 := hσ.2.2.1; have h3 := hσ.2.2.2.1
    exact i_add' (by omega) (by omega)
  have heM : e.toInt ≤ 5500 := by
    rw [hadd, hfe]
    exact hσ.2.2.2.1
  have hBb := hI.2.2.1 _ hb.nn
  have heach : 8 ≤ each.toInt ∧ each.toInt ≤ 2000 := by
    rw [hee]
    have e1 : (xB X (nn b) 2 - 8).toInt = (xB X (nn b) 2).toInt - 8 := by rw [i_sub]; simp only [Int32.reduceToInt]; omega
    have e2 : ((xB X (nn b) 2 - 8) / 8).toInt = (xB X (nn b) 2 - 8).toInt.tdiv 8 := Int32.toInt_div_of_ne_right _ _ (by decide)
    have e3 : (xB X (nn b) 2 - 8).toInt.tdiv 8 = (xB X (nn b) 2 - 8).toInt / 8 := Int.tdiv_eq_ediv_of_nonneg (by omega)
    have e4 : ((xB X (nn b) 2 - 8) / 8 * 8).toInt = (xB X (nn b) 2 - 8).toInt / 8 * 8 := by
      rw [i_mul' (by rw [e2, e3]; simp only [Int32.reduceToInt]; omega) (by rw [e2, e3]; simp only [Int32.reduceToInt]; omega), e2, e3]
      rfl
    omega
  have hho : ib ho 21 := by
    rw [hhoe]
    have h5 := hσ.2.2.2.2.2.1
    have h6 : ¬ (x_at X (nn s)).2.2.2.2.1.toInt = 0 := fun hh => hh0 (Int32.toInt_inj.mp hh)
    unfold ib at h5 ⊢
    rw [i_sub]
    simp only [Int32.reduceToInt]
    omega
  have hs30 := hA.s300
  have loop : ∀ n : Nat, ∀ (Y : XW) (A : Nat → Nat → Int32) (fr : Int32), FA m AI A → RA A m Y → XI M Y → ib b (xb Y) → ib p (xp Y) → 0 ≤ fr.toInt → e.toInt ≤ fr.toInt + 8 * (n : Int) → P g 4 iX8_cut 84 [some (vr m), some (vi s), some (vi b), some (vi p), some (vi each), some (vi fr), some (vi e), some (vi la), some (vi ho), some (vi se), none] [] (L, FI, A, AL, AR) (0, 0) (RM L FI AI AL AR m (x_cut Y (nn b) (nn p) each e la ho se n fr) none) := by
    intro n
    induction n with
    | zero =>
      intro Y A fr hFA hA hI hbY hpY hf0 hfe
      refine P_iload (i := 5) rfl dX8_cut_84 ?_
      refine P_iload (i := 6) rfl dX8_cut_86 ?_
      refine P_icmpge dX8_cut_88 (tgt := 217) rfl (fun h88 => ?_) (fun h88 => absurd (Int32.le_iff_toInt_le.mpr (by omega)) h88)
      refine P_return rfl dX8_cut_217 ?_
      exact ⟨A, rfl, rfl, hFA, hA⟩
    | succ n ih =>
      intro Y A fr hFA hA hI hbY hpY hf0 hfe
      refine P_iload (i := 5) rfl dX8_cut_84 ?_
      refine P_iload (i := 6) rfl dX8_cut_86 ?_
      refine P_icmpge dX8_cut_88 (tgt := 217) rfl (fun h88 => ?_) (fun h88 => ?_)
      · refine P_return rfl dX8_cut_217 ?_
        refine ⟨A, rfl, rfl, hFA, ?_⟩
        have e9 : x_cut Y (nn b) (nn p) each e la ho se (n + 1) fr = Y := by
          show (if fr < e then _ else _) = _
          rw [if_neg (Int32.not_lt.mpr h88)]
        rw [e9]
        exact hA
      · have hlt := Int32.not_le.mp h88
        have hlt2 := Int32.lt_iff_toInt_lt.mp hlt
        have J111 : ∀ to, to = (if fr + each < e then fr + each else e) → P g 4 iX8_cut 111 [some (vr m), some (vi s), some (vi b), some (vi p), some (vi each), some (vi fr), some (vi e), some (vi la), some (vi ho), some (vi se), none] [vi to] (L, FI, A, AL, AR) (0, 0) (RM L FI AI AL AR m (x_cut Y (nn b) (nn p) each e la ho se (n + 1) fr) none) := by
          intro to hto
          have hto2 : fr.toInt < to.toInt ∧ to.toInt ≤ e.toInt ∧ (to = e ∨ fr.toInt + 8 ≤ to.toInt) := by
            rw [hto]
            have h0 := i_add' (x := fr) (y := each) (by omega) (by omega)
            by_cases c3 : fr + each < e
            · rw [if_pos c3]
              rw [Int32.lt_iff_toInt_lt] at c3
              exact ⟨by omega, by omega, Or.inr (by omega)⟩
            · rw [if_neg c3]
              exact ⟨by omega, by omega, Or.inl rfl⟩
          have J210 : ∀ (Y1 : XW) (B : Nat → Nat → Int32), FA m AI B → RA B m Y1 → Y1 = (if (xS Y).length = 300 then x_cd (x_g Y 4 (xG Y 4 + 1)) (nn p) 5 else if x_took (x_g Y 4 (xG Y 4 + 1)) (nn b) = true then x_cd (x_takes (x_g Y 4 (xG Y 4 + 1)) (nn b) (to - fr)) (nn p) 4 else x_s (x_takes (x_g Y 4 (xG Y 4 + 1)) (nn b) (to - fr)) (xS (x_takes (x_g Y 4 (xG Y 4 + 1)) (nn b) (to - fr)) ++ [x_over (x_takes (x_g Y 4 (xG Y 4 + 1)) (nn b) (to - fr)) (nn b) (Int32.ofNat (nn p), fr, to - fr, if to = e then la else 0, ho, se, xG Y 0, -6)])) → P g 4 iX8_cut 210 [some (vr m), some (vi s), some (vi b), some (vi p), some (vi each), some (vi fr), some (vi e), some (vi la), some (vi ho), some (vi se), some (vi to)] [] (L, FI, B, AL, AR) (0, 0) (RM L FI AI AL AR m (x_cut Y (nn b) (nn p) each e la ho se (n + 1) fr) none) := by
            intro Y1 B hFB hB hY1
            obtain ⟨hI1, hx1⟩ := x_cut_one hI hMM (b := nn b) (p := nn p) (from_ := fr) (to := to) (last := if to = e then la else 0) (hops := ho) (seed := se) hbY.nn hpY.nn hf0 hto2.1 (by omega) (by
              split
              · exact hla
              · exact Or.inl rfl) hho hse Y1 hY1
            refine P_iload (i := 10) rfl dX8_cut_210 ?_
            refine P_is5 (Or.inr dX8_cut_212) rfl rfl ?_
            refine P_goto dX8_cut_214 (tgt := 84) rfl ?_
            refine P_few (ls2 := [some (vr m), some (vi s), some (vi b), some (vi p), some (vi each), some (vi to), some (vi e), some (vi la), some (vi ho), some (vi se), none]) ⟨rfl, rfl, rfl, rfl, rfl, rfl, rfl, rfl, rfl, rfl, trivial⟩ ?_
            have hb1 : ib b (xb Y1) := by rw [hx1.2.2.1]; exact hbY
            have hp1 : ib p (xp Y1) := by rw [hx1.2.2.2.1]; exact hpY
            have h9 := ih Y1 B to hFB hB hI1 hb1 hp1 (by omega) (by rcases hto2.2.2 with hh | hh; (rw [hh]; omega); omega)
            have e9 : x_cut Y (nn b) (nn p) each e la ho se (n + 1) fr = x_cut Y1 (nn b) (nn p) each e la ho se n to := by
              show (if fr < e then _ else _) = _
              rw [if_pos hlt, hY1, hto]
            rw [e9]
            exact h9
          refine P_is10 (Or.inr dX8_cut_111) rfl rfl ?_
          refine P_aloadn (i := 0) rfl rfl dX8_cut_113 ?_
          refine gX8_7 rfl (by first | exact hM.k0 | exact hM.k1 | exact hM.k2 | exact hM.k3 | exact hM.k4 | exact hM.k5 | exact hM.k6 | exact hM.k7 | exact hM.k8 | exact hM.k9 | exact hM.k10 | exact hM.k11 | exact hM.k12 | exact hM.k13 | exact hM.k14 | exact hM.k15 | exact hM.k16 | exact hM.k17) hM.r256 dX8_cut_114 ?_
          refine P_iconst (v := 4) rfl dX8_cut_117 ?_
          refine P_dup2 rfl rfl dX8_cut_118 ?_
          refine P_iaN (j := 4) (by first | exact hM.k0 | exact hM.k1 | exact hM.k2 | exact hM.k3 | exact hM.k4 | exact hM.k5 | exact hM.k6 | exact hM.k7 | exact hM.k8 | exact hM.k9 | exact hM.k10 | exact hM.k11 | exact hM.k12 | exact hM.k13 | exact hM.k14 | exact hM.k15 | exact hM.k16 | exact hM.k17) rfl (by first | omega | (simp only [hM.l1, hM.l2, hM.l3, hM.l4, hM.l5, hM.l6, hM.l7, hM.l8, hM.l9, hM.l10, hM.l11, hM.l12, hM.l13, hM.l14, hM.l15, hM.l16, hM.l17]; omega)) (by first | omega | (simp only [hM.l1, hM.l2, hM.l3, hM.l4, hM.l5, hM.l6, hM.l7, hM.l8, hM.l9, hM.l10, hM.l11, hM.l12, hM.l13, hM.l14, hM.l15, hM.l16, hM.l17]; omega)) (hA.g (by omega) (by omega) (by omega) (by omega)) dX8_cut_119 ?_
          refine P_iconst (v := 1) rfl dX8_cut_120 ?_
          refine P_iadd dX8_cut_121 ?_
          refine P_isN (j := 4) (by first | exact hM.k0 | exact hM.k1 | exact hM.k2 | exact hM.k3 | exact hM.k4 | exact hM.k5 | exact hM.k6 | exact hM.k7 | exact hM.k8 | exact hM.k9 | exact hM.k10 | exact hM.k11 | exact hM.k12 | exact hM.k13 | exact hM.k14 | exact hM.k15 | exact hM.k16 | exact hM.k17) rfl (by first | omega | (simp only [hM.l1, hM.l2, hM.l3, hM.l4, hM.l5, hM.l6, hM.l7, hM.l8, hM.l9, hM.l10, hM.l11, hM.l12, hM.l13, hM.l14, hM.l15, hM.l16, hM.l17]; omega)) (by first | omega | (simp only [hM.l1, hM.l2, hM.l3, hM.l4, hM.l5, hM.l6, hM.l7, hM.l8, hM.l9, hM.l10, hM.l11, hM.l12, hM.l13, hM.l14, hM.l15, hM.l16, hM.l17]; omega)) dX8_cut_122 ?_
          have hF0 : FA m AI (p_up A (m + 1) 4 (xG Y 4 + 1)) := hFA.u1
          have hA0 : RA (p_up A (m + 1) 4 (xG Y 4 + 1)) m (x_g Y 4 (xG Y 4 + 1)) := hA.setG (by omega) (by omega) (by omega) (by omega)
          refine P_aloadn (i := 0) rfl rfl dX8_cut_123 ?_
          refine gX8_7 rfl (by first | exact hM.k0 | exact hM.k1 | exact hM.k2 | exact hM.k3 | exact hM.k4 | exact hM.k5 | exact hM.k6 | exact hM.k7 | exact hM.k8 | exact hM.k9 | exact hM.k10 | exact hM.k11 | exact hM.k12 | exact hM.k13 | exact hM.k14 | exact hM.k15 | exact hM.k16 | exact hM.k17) hM.r256 dX8_cut_124 ?_
          refine P_iconst (v := 3) rfl dX8_cut_127 ?_
          refine P_iaN (j := 3) (by first | exact hM.k0 | exact hM.k1 | exact hM.k2 | exact hM.k3 | exact hM.k4 | exact hM.k5 | exact hM.k6 | exact hM.k7 | exact hM.k8 | exact hM.k9 | exact hM.k10 | exact hM.k11 | exact hM.k12 | exact hM.k13 | exact hM.k14 | exact hM.k15 | exact hM.k16 | exact hM.k17) rfl (by first | omega | (simp only [hM.l1, hM.l2, hM.l3, hM.l4, hM.l5, hM.l6, hM.l7, hM.l8, hM.l9, hM.l10, hM.l11, hM.l12, hM.l13, hM.l14, hM.l15, hM.l16, hM.l17]; omega)) (by first | omega | (simp only [hM.l1, hM.l2, hM.l3, hM.l4, hM.l5, hM.l6, hM.l7, hM.l8, hM.l9, hM.l10, hM.l11, hM.l12, hM.l13, hM.l14, hM.l15, hM.l16, hM.l17]; omega)) hA0.ns dX8_cut_128 ?_
          refine P_sipush (v := 300) rfl dX8_cut_129 ?_
          refine P_icmpne dX8_cut_132 (tgt := 144) rfl (fun h132 => ?_) (fun h132 => ?_)
          · have hc300 : ¬ (xS Y).length = 300 := fun hh => h132 (by show Int32.ofNat (xS Y).length = 300; rw [hh]; rfl)
            refine P_aloadn (i := 0) rfl rfl dX8_cut_144 ?_
            refine P_iloadn (i := 2) rfl rfl dX8_cut_145 ?_
            refine P_iload (i := 10) rfl dX8_cut_146 ?_
            refine P_iload (i := 5) rfl dX8_cut_148 ?_
            refine P_isub dX8_cut_150 ?_
            refine kX8_178 rfl (s_takes hM hA0 hbY) (by decide) (by first | exact hM.k0 | exact hM.k1 | exact hM.k2 | exact hM.k3 | exact hM.k4 | exact hM.k5 | exact hM.k6 | exact hM.k7 | exact hM.k8 | exact hM.k9 | exact hM.k10 | exact hM.k11 | exact hM.k12 | exact hM.k13 | exact hM.k14 | exact hM.k15 | exact hM.k16 | exact hM.k17) rfl dX8_cut_151 (fun r151 s151 q151 => ?_)
            obtain ⟨B2, rfl, rfl, hF2, hA2⟩ := q151
            refine P_ifne dX8_cut_154 (tgt := 166) rfl (fun h154 => ?_) (fun h154 => ?_)
            · have J188 : ∀ z, z = (if to = e then la else 0) → P g 4 iX8_cut 188 [some (vr m), some (vi s), some (vi b), some (vi p), some (vi each), some (vi fr), some (vi e), some (vi la), some (vi ho), some (vi se), some (vi to)] [vi z, vi (to - fr), vi fr, vi p, vr m] (L, FI, B2, AL, AR) (0, 0) (RM L FI AI AL AR m (x_cut Y (nn b) (nn p) each e la ho se (n + 1) fr) none) := by
                intro z hz
                have hlen2 : (xS (x_takes (x_g Y 4 (xG Y 4 + 1)) (nn b) (to - fr))).length < 300 := by
                  rw [(x_takes_same _ _ _).2.2.2.2.1]
                  show (xS Y).length < 300
                  have h9 := hA.s300
                  have h8 : ¬ (xS Y).length = 300 := hc300
                  omega
                refine P_iload (i := 8) rfl dX8_cut_188 ?_
                refine P_iload (i := 9) rfl dX8_cut_190 ?_
                refine P_bipush (v := (-6)) rfl dX8_cut_192 ?_
                refine kX8_123 rfl (s_makeSlice hM hA2 hlen2) (by decide) (by first | exact hM.k0 | exact hM.k1 | exact hM.k2 | exact hM.k3 | exact hM.k4 | exact hM.k5 | exact hM.k6 | exact hM.k7 | exact hM.k8 | exact hM.k9 | exact hM.k10 | exact hM.k11 | exact hM.k12 | exact hM.k13 | exact hM.k14 | exact hM.k15 | exact hM.k16 | exact hM.k17) rfl dX8_cut_194 (fun r194 s194 q194 => ?_)
                obtain ⟨B4, rfl, rfl, hF4, hA4⟩ := q194
                refine P_aloadn (i := 0) rfl rfl dX8_cut_197 ?_
                refine P_aloadn (i := 0) rfl rfl dX8_cut_198 ?_
                refine gX8_7 rfl (by first | exact hM.k0 | exact hM.k1 | exact hM.k2 | exact hM.k3 | exact hM.k4 | exact hM.k5 | exact hM.k6 | exact hM.k7 | exact hM.k8 | exact hM.k9 | exact hM.k10 | exact hM.k11 | exact hM.k12 | exact hM.k13 | exact hM.k14 | exact hM.k15 | exact hM.k16 | exact hM.k17) hM.r256 dX8_cut_199 ?_
                refine P_iconst (v := 3) rfl dX8_cut_202 ?_
                refine P_iaN (j := 3) (by first | exact hM.k0 | exact hM.k1 | exact hM.k2 | exact hM.k3 | exact hM.k4 | exact hM.k5 | exact hM.k6 | exact hM.k7 | exact hM.k8 | exact hM.k9 | exact hM.k10 | exact hM.k11 | exact hM.k12 | exact hM.k13 | exact hM.k14 | exact hM.k15 | exact hM.k16 | exact hM.k17) rfl (by first | omega | (simp only [hM.l1, hM.l2, hM.l3, hM.l4, hM.l5, hM.l6, hM.l7, hM.l8, hM.l9, hM.l10, hM.l11, hM.l12, hM.l13, hM.l14, hM.l15, hM.l16, hM.l17]; omega)) (by first | omega | (simp only [hM.l1, hM.l2, hM.l3, hM.l4, hM.l5, hM.l6, hM.l7, hM.l8, hM.l9, hM.l10, hM.l11, hM.l12, hM.l13, hM.l14, hM.l15, hM.l16, hM.l17]; omega)) hA4.ns dX8_cut_203 ?_
                rw [show Int32.ofNat (xS (x_s (x_takes (x_g Y 4 (xG Y 4 + 1)) (nn b) (to - fr)) (xS (x_takes (x_g Y 4 (xG Y 4 + 1)) (nn b) (to - fr)) ++ [(p, fr, to - fr, z, ho, se, xG (x_takes (x_g Y 4 (xG Y 4 + 1)) (nn b) (to - fr)) 0, -6)]))).length = Int32.ofNat ((xS (x_takes (x_g Y 4 (xG Y 4 + 1)) (nn b) (to - fr))).length + 1) from congrArg Int32.ofNat List.length_append]
                refine P_iconst (v := 1) rfl dX8_cut_204 ?_
                refine P_isub dX8_cut_205 ?_
                refine P_iloadn (i := 2) rfl rfl dX8_cut_206 ?_
                rw [show Int32.ofNat ((xS (x_takes (x_g Y 4 (xG Y 4 + 1)) (nn b) (to - fr))).length + 1) - 1 = Int32.ofNat (xS (x_takes (x_g Y 4 (xG Y 4 + 1)) (nn b) (to - fr))).length from n_pred (by omega) (by omega)]
                have hs4 : ib (Int32.ofNat (xS (x_takes (x_g Y 4 (xG Y 4 + 1)) (nn b) (to - fr))).length) (xS (x_s (x_takes (x_g Y 4 (xG Y 4 + 1)) (nn b) (to - fr)) (xS (x_takes (x_g Y 4 (xG Y 4 + 1)) (nn b) (to - fr)) ++ [(p, fr, to - fr, z, ho, se, xG (x_takes (x_g Y 4 (xG Y 4 + 1)) (nn b) (to - fr)) 0, -6)]))).length := ib.of (by show _ < (xS (x_takes (x_g Y 4 (xG Y 4 + 1)) (nn b) (to - fr)) ++ [_]).length; rw [List.length_append]; show _ < _ + 1; omega) (by omega)
                have hb4 : ib b (xb (x_s (x_takes (x_g Y 4 (xG Y 4 + 1)) (nn b) (to - fr)) (xS (x_takes (x_g Y 4 (xG Y 4 + 1)) (nn b) (to - fr)) ++ [(p, fr, to - fr, z, ho, se, xG (x_takes (x_g Y 4 (xG Y 4 + 1)) (nn b) (to - fr)) 0, -6)]))) := by show ib b (xb (x_takes (x_g Y 4 (xG Y 4 + 1)) (nn b) (to - fr))); rw [(x_takes_same _ _ _).2.2.2.2.2.1]; exact hbY
                have hz4 : ¬ xB (x_s (x_takes (x_g Y 4 (xG Y 4 + 1)) (nn b) (to - fr)) (xS (x_takes (x_g Y 4 (xG Y 4 + 1)) (nn b) (to - fr)) ++ [(p, fr, to - fr, z, ho, se, xG (x_takes (x_g Y 4 (xG Y 4 + 1)) (nn b) (to - fr)) 0, -6)])) (nn b) 4 = 0 := by
                  show ¬ xB (x_takes (x_g Y 4 (xG Y 4 + 1)) (nn b) (to - fr)) (nn b) 4 = 0
                  rw [(x_takes_same _ _ _).2.2.2.2.2.2.2 _ 4 (by decide)]
                  intro hh
                  have h9 := (hI.2.2.1 _ hbY.nn).2.2.2.2.1.1
                  have h8 : xB Y (nn b) 4 = 0 := hh
                  rw [h8] at h9
                  exact absurd h9 (by decide)
                refine kX8_181 rfl (s_goOn hM hA4 (s := Int32.ofNat (xS (x_takes (x_g Y 4 (xG Y 4 + 1)) (nn b) (to - fr))).length) hs4 hb4 hz4) (by decide) (by first | exact hM.k0 | exact hM.k1 | exact hM.k2 | exact hM.k3 | exact hM.k4 | exact hM.k5 | exact hM.k6 | exact hM.k7 | exact hM.k8 | exact hM.k9 | exact hM.k10 | exact hM.k11 | exact hM.k12 | exact hM.k13 | exact hM.k14 | exact hM.k15 | exact hM.k16 | exact hM.k17) rfl dX8_cut_207 (fun r207 s207 q207 => ?_)
                obtain ⟨B5, rfl, rfl, hF5, hA5⟩ := q207
                rw [n_nn (by omega), x_push_set, x_push_at] at hA5
                refine J210 _ B5 (((hF0.tr hF2).tr hF4).tr hF5) hA5 ?_
                rw [if_neg hc300, if_neg (b_f2 h154)]
                have eG : xG (x_takes (x_g Y 4 (xG Y 4 + 1)) (nn b) (to - fr)) 0 = xG Y 0 := congrFun (x_takes_same _ _ _).1 0
                rw [eG, ← hpY.eq, hz]
                rfl
              refine P_aloadn (i := 0) rfl rfl dX8_cut_166 ?_
              refine P_iloadn (i := 3) rfl rfl dX8_cut_167 ?_
              refine P_iload (i := 5) rfl dX8_cut_168 ?_
              refine P_iload (i := 10) rfl dX8_cut_170 ?_
              refine P_iload (i := 5) rfl dX8_cut_172 ?_
              refine P_isub dX8_cut_174 ?_
              refine P_iload (i := 10) rfl dX8_cut_175 ?_
              refine P_iload (i := 6) rfl dX8_cut_177 ?_
              refine P_icmpne dX8_cut_179 (tgt := 187) rfl (fun h179 => ?_) (fun h179 => ?_)
              · refine P_iconst (v := 0) rfl dX8_cut_187 ?_
                exact J188 _ (if_neg h179).symm
              · refine P_iload (i := 7) rfl dX8_cut_182 ?_
                refine P_goto dX8_cut_184 (tgt := 188) rfl ?_
                exact J188 _ (if_pos h179).symm
            · refine P_aloadn (i := 0) rfl rfl dX8_cut_157 ?_
              refine P_iloadn (i := 3) rfl rfl dX8_cut_158 ?_
              refine P_iconst (v := 4) rfl dX8_cut_159 ?_
              have hp2 : ib p (xp (x_takes (x_g Y 4 (xG Y 4 + 1)) (nn b) (to - fr))) := by rw [(x_takes_same _ _ _).2.2.2.2.2.2.1]; exact hpY
              refine kX8_111 rfl (s_countDrop hM hA2 hp2 (k := 4) rfl (by decide)) (by decide) (by first | exact hM.k0 | exact hM.k1 | exact hM.k2 | exact hM.k3 | exact hM.k4 | exact hM.k5 | exact hM.k6 | exact hM.k7 | exact hM.k8 | exact hM.k9 | exact hM.k10 | exact hM.k11 | exact hM.k12 | exact hM.k13 | exact hM.k14 | exact hM.k15 | exact hM.k16 | exact hM.k17) rfl dX8_cut_160 (fun r160 s160 q160 => ?_)
              obtain ⟨B3, rfl, rfl, hF3, hA3⟩ := q160
              refine P_goto dX8_cut_163 (tgt := 210) rfl ?_
              exact J210 _ B3 ((hF0.tr hF2).tr hF3) hA3 (by rw [if_neg hc300, if_pos (b_t2 h154)])
          · have hc300 : (xS Y).length = 300 := by
              have h9 : Int32.ofNat (xS Y).length = Int32.ofNat 300 := h132
              exact (n_eq (by have := hA.s300; omega) (by omega)).mp h9
            refine P_aloadn (i := 0) rfl rfl dX8_cut_135 ?_
            refine P_iloadn (i := 3) rfl rfl dX8_cut_136 ?_
            refine P_iconst (v := 5) rfl dX8_cut_137 ?_
            refine kX8_111 rfl (s_countDrop hM hA0 hpY (k := 5) rfl (by decide)) (by decide) (by first | exact hM.k0 | exact hM.k1 | exact hM.k2 | exact hM.k3 | exact hM.k4 | exact hM.k5 | exact hM.k6 | exact hM.k7 | exact hM.k8 | exact hM.k9 | exact hM.k10 | exact hM.k11 | exact hM.k12 | exact hM.k13 | exact hM.k14 | exact hM.k15 | exact hM.k16 | exact hM.k17) rfl dX8_cut_138 (fun r138 s138 q138 => ?_)
            obtain ⟨B1, rfl, rfl, hF1, hA1⟩ := q138
            refine P_goto dX8_cut_141 (tgt := 210) rfl ?_
            exact J210 _ B1 (hF0.tr hF1) hA1 (if_pos hc300).symm
        refine P_iload (i := 5) rfl dX8_cut_91 ?_
        refine P_iload (i := 4) rfl dX8_cut_93 ?_
        refine P_iadd dX8_cut_95 ?_
        refine P_iload (i := 6) rfl dX8_cut_96 ?_
        refine P_icmpge dX8_cut_98 (tgt := 109) rfl (fun h98 => ?_) (fun h98 => ?_)
        · refine P_iload (i := 6) rfl dX8_cut_109 ?_
          exact J111 _ (if_neg (Int32.not_lt.mpr h98)).symm
        · refine P_iload (i := 5) rfl dX8_cut_101 ?_
          refine P_iload (i := 4) rfl dX8_cut_103 ?_
          refine P_iadd dX8_cut_105 ?_
          refine P_goto dX8_cut_106 (tgt := 111) rfl ?_
          exact J111 _ (if_pos (Int32.not_le.mp h98)).symm
  refine P_aloadn (i := 0) rfl rfl dX8_cut_0 ?_
  refine P_iloadn (i := 1) rfl rfl dX8_cut_1 ?_
  refine P_iconst (v := 0) rfl dX8_cut_2 ?_
  refine kX8_108 rfl (s_ofS hM hA (k := 0) hs rfl (by decide)) (by decide) (by first | exact hM.k0 | exact hM.k1 | exact hM.k2 | exact hM.k3 | exact hM.k4 | exact hM.k5 | exact hM.k6 | exact hM.k7 | exact hM.k8 | exact hM.k9 | exact hM.k10 | exact hM.k11 | exact hM.k12 | exact hM.k13 | exact hM.k14 | exact hM.k15 | exact hM.k16 | exact hM.k17) rfl dX8_cut_3 (fun r3 s3 q3 => ?_)
  obtain ⟨rfl, rfl⟩ := q3
  rw [show x_sl (x_at X (nn s)) 0 = p from hpe.symm]
  refine P_is3 (Or.inl dX8_cut_6) rfl rfl ?_
  refine P_aloadn (i := 0) rfl rfl dX8_cut_7 ?_
  refine P_iloadn (i := 2) rfl rfl dX8_cut_8 ?_
  refine P_iconst (v := 2) rfl dX8_cut_9 ?_
  refine kX8_94 rfl (s_ofB hM hA (k := 2) hb rfl (by decide)) (by decide) (by first | exact hM.k0 | exact hM.k1 | exact hM.k2 | exact hM.k3 | exact hM.k4 | exact hM.k5 | exact hM.k6 | exact hM.k7 | exact hM.k8 | exact hM.k9 | exact hM.k10 | exact hM.k11 | exact hM.k12 | exact hM.k13 | exact hM.k14 | exact hM.k15 | exact hM.k16 | exact hM.k17) rfl dX8_cut_10 (fun r10 s10 q10 => ?_)
  obtain ⟨rfl, rfl⟩ := q10
  skip
  refine P_bipush (v := 8) rfl dX8_cut_13 ?_
  refine P_isub dX8_cut_15 ?_
  refine P_bipush (v := 8) rfl dX8_cut_16 ?_
  refine P_idiv (by decide) dX8_cut_18 ?_
  refine P_bipush (v := 8) rfl dX8_cut_19 ?_
  refine P_imul dX8_cut_21 ?_
  rw [show (xB X (nn b) 2 - 8) / 8 * 8 = each from hee.symm]
  refine P_is4 (Or.inr dX8_cut_22) rfl rfl ?_
  refine P_aloadn (i := 0) rfl rfl dX8_cut_24 ?_
  refine P_iloadn (i := 1) rfl rfl dX8_cut_25 ?_
  refine P_iconst (v := 1) rfl dX8_cut_26 ?_
  refine kX8_108 rfl (s_ofS hM hA (k := 1) hs rfl (by decide)) (by decide) (by first | exact hM.k0 | exact hM.k1 | exact hM.k2 | exact hM.k3 | exact hM.k4 | exact hM.k5 | exact hM.k6 | exact hM.k7 | exact hM.k8 | exact hM.k9 | exact hM.k10 | exact hM.k11 | exact hM.k12 | exact hM.k13 | exact hM.k14 | exact hM.k15 | exact hM.k16 | exact hM.k17) rfl dX8_cut_27 (fun r27 s27 q27 => ?_)
  obtain ⟨rfl, rfl⟩ := q27
  rw [show x_sl (x_at X (nn s)) 1 = fr from hfe.symm]
  refine P_is5 (Or.inr dX8_cut_30) rfl rfl ?_
  refine P_iload (i := 5) rfl dX8_cut_32 ?_
  refine P_aloadn (i := 0) rfl rfl dX8_cut_34 ?_
  refine P_iloadn (i := 1) rfl rfl dX8_cut_35 ?_
  refine P_iconst (v := 2) rfl dX8_cut_36 ?_
  refine kX8_108 rfl (s_ofS hM hA (k := 2) hs rfl (by decide)) (by decide) (by first | exact hM.k0 | exact hM.k1 | exact hM.k2 | exact hM.k3 | exact hM.k4 | exact hM.k5 | exact hM.k6 | exact hM.k7 | exact hM.k8 | exact hM.k9 | exact hM.k10 | exact hM.k11 | exact hM.k12 | exact hM.k13 | exact hM.k14 | exact hM.k15 | exact hM.k16 | exact hM.k17) rfl dX8_cut_37 (fun r37 s37 q37 => ?_)
  obtain ⟨rfl, rfl⟩ := q37
  refine P_iadd dX8_cut_40 ?_
  rw [show fr + x_sl (x_at X (nn s)) 2 = e from hende.symm]
  refine P_is6 (Or.inr dX8_cut_41) rfl rfl ?_
  refine P_aloadn (i := 0) rfl rfl dX8_cut_43 ?_
  refine P_iloadn (i := 1) rfl rfl dX8_cut_44 ?_
  refine P_iconst (v := 3) rfl dX8_cut_45 ?_
  refine kX8_108 rfl (s_ofS hM hA (k := 3) hs rfl (by decide)) (by decide) (by first | exact hM.k0 | exact hM.k1 | exact hM.k2 | exact hM.k3 | exact hM.k4 | exact hM.k5 | exact hM.k6 | exact hM.k7 | exact hM.k8 | exact hM.k9 | exact hM.k10 | exact hM.k11 | exact hM.k12 | exact hM.k13 | exact hM.k14 | exact hM.k15 | exact hM.k16 | exact hM.k17) rfl dX8_cut_46 (fun r46 s46 q46 => ?_)
  obtain ⟨rfl, rfl⟩ := q46
  rw [show x_sl (x_at X (nn s)) 3 = la from hlae.symm]
  refine P_is7 (Or.inr dX8_cut_49) rfl rfl ?_
  refine P_aloadn (i := 0) rfl rfl dX8_cut_51 ?_
  refine P_iloadn (i := 1) rfl rfl dX8_cut_52 ?_
  refine P_iconst (v := 4) rfl dX8_cut_53 ?_
  refine kX8_108 rfl (s_ofS hM hA (k := 4) hs rfl (by decide)) (by decide) (by first | exact hM.k0 | exact hM.k1 | exact hM.k2 | exact hM.k3 | exact hM.k4 | exact hM.k5 | exact hM.k6 | exact hM.k7 | exact hM.k8 | exact hM.k9 | exact hM.k10 | exact hM.k11 | exact hM.k12 | exact hM.k13 | exact hM.k14 | exact hM.k15 | exact hM.k16 | exact hM.k17) rfl dX8_cut_54 (fun r54 s54 q54 => ?_)
  obtain ⟨rfl, rfl⟩ := q54
  refine P_iconst (v := 1) rfl dX8_cut_57 ?_
  refine P_isub dX8_cut_58 ?_
  rw [show x_sl (x_at X (nn s)) 4 - 1 = ho from hhoe.symm]
  refine P_is8 (Or.inr dX8_cut_59) rfl rfl ?_
  refine P_aloadn (i := 0) rfl rfl dX8_cut_61 ?_
  refine P_iloadn (i := 1) rfl rfl dX8_cut_62 ?_
  refine P_iconst (v := 5) rfl dX8_cut_63 ?_
  refine kX8_108 rfl (s_ofS hM hA (k := 5) hs rfl (by decide)) (by decide) (by first | exact hM.k0 | exact hM.k1 | exact hM.k2 | exact hM.k3 | exact hM.k4 | exact hM.k5 | exact hM.k6 | exact hM.k7 | exact hM.k8 | exact hM.k9 | exact hM.k10 | exact hM.k11 | exact hM.k12 | exact hM.k13 | exact hM.k14 | exact hM.k15 | exact hM.k16 | exact hM.k17) rfl dX8_cut_64 (fun r64 s64 q64 => ?_)
  obtain ⟨rfl, rfl⟩ := q64
  rw [show x_sl (x_at X (nn s)) 5 = se from hsee.symm]
  refine P_is9 (Or.inr dX8_cut_67) rfl rfl ?_
  refine P_aloadn (i := 0) rfl rfl dX8_cut_69 ?_
  refine P_iloadn (i := 1) rfl rfl dX8_cut_70 ?_
  refine kX8_115 rfl (s_removeSlice hM hA hs) (by decide) (by first | exact hM.k0 | exact hM.k1 | exact hM.k2 | exact hM.k3 | exact hM.k4 | exact hM.k5 | exact hM.k6 | exact hM.k7 | exact hM.k8 | exact hM.k9 | exact hM.k10 | exact hM.k11 | exact hM.k12 | exact hM.k13 | exact hM.k14 | exact hM.k15 | exact hM.k16 | exact hM.k17) rfl dX8_cut_71 (fun r71 s71 q71 => ?_)
  obtain ⟨A1, rfl, rfl, hF1, hA1⟩ := q71
  refine P_aloadn (i := 0) rfl rfl dX8_cut_74 ?_
  refine gX8_7 rfl (by first | exact hM.k0 | exact hM.k1 | exact hM.k2 | exact hM.k3 | exact hM.k4 | exact hM.k5 | exact hM.k6 | exact hM.k7 | exact hM.k8 | exact hM.k9 | exact hM.k10 | exact hM.k11 | exact hM.k12 | exact hM.k13 | exact hM.k14 | exact hM.k15 | exact hM.k16 | exact hM.k17) hM.r256 dX8_cut_75 ?_
  refine P_iconst (v := 5) rfl dX8_cut_78 ?_
  refine P_dup2 rfl rfl dX8_cut_79 ?_
  refine P_iaN (j := 5) (by first | exact hM.k0 | exact hM.k1 | exact hM.k2 | exact hM.k3 | exact hM.k4 | exact hM.k5 | exact hM.k6 | exact hM.k7 | exact hM.k8 | exact hM.k9 | exact hM.k10 | exact hM.k11 | exact hM.k12 | exact hM.k13 | exact hM.k14 | exact hM.k15 | exact hM.k16 | exact hM.k17) rfl (by first | omega | (simp only [hM.l1, hM.l2, hM.l3, hM.l4, hM.l5, hM.l6, hM.l7, hM.l8, hM.l9, hM.l10, hM.l11, hM.l12, hM.l13, hM.l14, hM.l15, hM.l16, hM.l17]; omega)) (by first | omega | (simp only [hM.l1, hM.l2, hM.l3, hM.l4, hM.l5, hM.l6, hM.l7, hM.l8, hM.l9, hM.l10, hM.l11, hM.l12, hM.l13, hM.l14, hM.l15, hM.l16, hM.l17]; omega)) (show _ = xG X 5 from hA1.g (by omega) (by omega) (by omega) (by omega)) dX8_cut_80 ?_
  refine P_iconst (v := 1) rfl dX8_cut_81 ?_
  refine P_iadd dX8_cut_82 ?_
  refine P_isN (j := 5) (by first | exact hM.k0 | exact hM.k1 | exact hM.k2 | exact hM.k3 | exact hM.k4 | exact hM.k5 | exact hM.k6 | exact hM.k7 | exact hM.k8 | exact hM.k9 | exact hM.k10 | exact hM.k11 | exact hM.k12 | exact hM.k13 | exact hM.k14 | exact hM.k15 | exact hM.k16 | exact hM.k17) rfl (by first | omega | (simp only [hM.l1, hM.l2, hM.l3, hM.l4, hM.l5, hM.l6, hM.l7, hM.l8, hM.l9, hM.l10, hM.l11, hM.l12, hM.l13, hM.l14, hM.l15, hM.l16, hM.l17]; omega)) (by first | omega | (simp only [hM.l1, hM.l2, hM.l3, hM.l4, hM.l5, hM.l6, hM.l7, hM.l8, hM.l9, hM.l10, hM.l11, hM.l12, hM.l13, hM.l14, hM.l15, hM.l16, hM.l17]; omega)) dX8_cut_83 ?_
  have hI1 : XI M (x_g (x_rm X (nn s)) 5 (xG X 5 + 1)) := (hI.rm _).g (by decide)
  have h9 := loop 701 (x_g (x_rm X (nn s)) 5 (xG X 5 + 1)) _ fr hF1.u1 (hA1.setG (v := xG X 5 + 1) (by omega) (by omega) (by omega) (by omega)) hI1 hb hp hfr0 (by omega)
  have e9 : x_cutup X (nn s) (nn b) = x_cut (x_g (x_rm X (nn s)) 5 (xG X 5 + 1)) (nn b) (nn p) each e la ho se 701 fr := by
    rw [hpe, hee, hende, hfe, hlae, hhoe, hsee]; rfl
  rw [e9]
  exact h9
end Ref9
