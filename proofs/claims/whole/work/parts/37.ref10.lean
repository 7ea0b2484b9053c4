theorem x_set_at {X : XW} {s : Nat} {τ : XS} (hs : s < (xS X).length) : x_at (x_s X ((xS X).set s τ)) s = τ := by
  show ((xS X).set s τ).getD s _ = τ
  rw [List.getD_eq_getElem?_getD, List.getElem?_set_self hs]
  rfl
theorem RA.hops {AI : Nat → Nat → Int32} {m : Nat} {X : XW} {s : Nat} {v : Int32} (h : RA AI m X) (hs : s < (xS X).length) : RA (p_up AI (m + 1) (806 + 9 * s + 4) v) m (x_s X ((xS X).set s ((x_at X s).1, (x_at X s).2.1, (x_at X s).2.2.1, (x_at X s).2.2.2.1, v, (x_at X s).2.2.2.2.2.1, (x_at X s).2.2.2.2.2.2.1, (x_at X s).2.2.2.2.2.2.2))) := by
  refine RA.up ?_
  refine RF.setS (f := AI (m + 1)) h hs (fun k hk => ?_) (fun i hi => if_neg (by omega))
  have hk2 := h.s hs hk
  rcases (show k = 0 ∨ k = 1 ∨ k = 2 ∨ k = 3 ∨ k = 4 ∨ k = 5 ∨ k = 6 ∨ k = 7 by omega) with e | e | e | e | e | e | e | e <;> subst e
  · exact (if_neg (by omega)).trans hk2
  · exact (if_neg (by omega)).trans hk2
  · exact (if_neg (by omega)).trans hk2
  · exact (if_neg (by omega)).trans hk2
  · exact if_pos rfl
  · exact (if_neg (by omega)).trans hk2
  · exact (if_neg (by omega)).trans hk2
  · exact (if_neg (by omega)).trans hk2
section Ref10
variable {g : PG} {L : PL} {FI AI : Nat → Nat → Int32} {AL : Nat → Nat → Int64} {AR : Nat → Nat → Option Nat} {m : Nat} {X : XW} {M : Nat}
theorem s_isStill (hM : WM L m) (hA : RA AI m X) (hI : XI M X) (hMM : M < 100000000) {s : Int32} (hs : ib s (xS X).length) : Sp g 7 iX8_isStill [vr m, vi s] (L, FI, AI, AL, AR) (0, 0) (RM L FI AI AL AR m (x_still X (nn s)).1 (some (vi (if (x_still X (nn s)).2 = true then 1 else 0)))) := by
  refine Sp.of (ls := [some (vr m), some (vi s), none, none, none, none, none, none]) (by decide +kernel) rfl rfl ?_
  have hs9 := hs.nn
  have hs30 := hA.s300
  have hσ := hI.2.2.2.2.1 _ (x_at_mem hs9)
  obtain ⟨p, hpe⟩ : ∃ p, p = (x_at X (nn s)).1 := ⟨_, rfl⟩
  obtain ⟨nd, hnde⟩ : ∃ z, z = (x_at X (nn s)).2.2.2.2.2.2.2 := ⟨_, rfl⟩
  have hp : ib p (xp X) := by rw [hpe]; exact hσ.1
  have hnd : ib nd 8 := by rw [hnde]; exact hσ.2.2.2.2.2.2.2.2
  obtain ⟨to, htoe⟩ : ∃ z, z = xP X (nn p) 1 := ⟨_, rfl⟩
  have hto : ib to 8 := by rw [htoe]; exact (hI.2.2.2.1 _ hp.nn).1.2.1
  have hadd : ((x_at X (nn s)).2.1 + (x_at X (nn s)).2.2.1).toInt = (x_at X (nn s)).2.1.toInt + (x_at X (nn s)).2.2.1.toInt := i_add' (by have := hσ.2.1; have := hσ.2.2.1; omega) (by have := hσ.2.2.2.1; omega)
  refine P_aloadn (i := 0) rfl rfl dX8_isStill_0 ?_
  refine P_iloadn (i := 1) rfl rfl dX8_isStill_1 ?_
  refine P_iconst (v := 0) rfl dX8_isStill_2 ?_
  refine kX8_108 rfl (s_ofS hM hA (k := 0) hs rfl (by decide)) (by decide) (by first | exact hM.k0 | exact hM.k1 | exact hM.k2 | exact hM.k3 | exact hM.k4 | exact hM.k5 | exact hM.k6 | exact hM.k7 | exact hM.k8 | exact hM.k9 | exact hM.k10 | exact hM.k11 | exact hM.k12 | exact hM.k13 | exact hM.k14 | exact hM.k15 | exact hM.k16 | exact hM.k17) rfl dX8_isStill_3 (fun r3 s3 q3 => ?_)
  obtain ⟨rfl, rfl⟩ := q3
  rw [show x_sl (x_at X (nn s)) 0 = p from hpe.symm]
  refine P_is2 (Or.inl dX8_isStill_6) rfl rfl ?_
  refine P_aloadn (i := 0) rfl rfl dX8_isStill_7 ?_
  refine P_iloadn (i := 1) rfl rfl dX8_isStill_8 ?_
  refine P_bipush (v := 7) rfl dX8_isStill_9 ?_
  refine kX8_108 rfl (s_ofS hM hA (k := 7) hs rfl (by decide)) (by decide) (by first | exact hM.k0 | exact hM.k1 | exact hM.k2 | exact hM.k3 | exact hM.k4 | exact hM.k5 | exact hM.k6 | exact hM.k7 | exact hM.k8 | exact hM.k9 | exact hM.k10 | exact hM.k11 | exact hM.k12 | exact hM.k13 | exact hM.k14 | exact hM.k15 | exact hM.k16 | exact hM.k17) rfl dX8_isStill_11 (fun r11 s11 q11 => ?_)
  obtain ⟨rfl, rfl⟩ := q11
  rw [show x_sl (x_at X (nn s)) 7 = nd from hnde.symm]
  refine P_is3 (Or.inl dX8_isStill_14) rfl rfl ?_
  refine P_aloadn (i := 0) rfl rfl dX8_isStill_15 ?_
  refine P_iloadn (i := 2) rfl rfl dX8_isStill_16 ?_
  refine P_iconst (v := 1) rfl dX8_isStill_17 ?_
  refine kX8_102 rfl (s_ofP hM hA (k := 1) hp rfl (by decide)) (by decide) (by first | exact hM.k0 | exact hM.k1 | exact hM.k2 | exact hM.k3 | exact hM.k4 | exact hM.k5 | exact hM.k6 | exact hM.k7 | exact hM.k8 | exact hM.k9 | exact hM.k10 | exact hM.k11 | exact hM.k12 | exact hM.k13 | exact hM.k14 | exact hM.k15 | exact hM.k16 | exact hM.k17) rfl dX8_isStill_18 (fun r18 s18 q18 => ?_)
  obtain ⟨rfl, rfl⟩ := q18
  rw [show xP X (nn p) 1 = to from htoe.symm]
  refine P_is4 (Or.inr dX8_isStill_21) rfl rfl ?_
  refine P_iloadn (i := 3) rfl rfl dX8_isStill_23 ?_
  refine P_iload (i := 4) rfl dX8_isStill_24 ?_
  refine P_icmpne dX8_isStill_26 (tgt := 36) rfl (fun h26 => ?_) (fun h26 => ?_)
  · obtain ⟨br, hbre⟩ : ∃ z, z = xN X (nn nd) (3 + nn to) := ⟨_, rfl⟩
    have hbrr : 0 ≤ br → ib br (xb X) := fun hh => by
      rcases (hI.2.1 _ hnd.nn).2 _ hto.nn with e | e
      · rw [hbre, e] at hh; exact absurd hh (by decide)
      · rw [hbre]; exact e
    have hto3 : (3 : Int32) + to = Int32.ofNat (3 + nn to) := by
      have h9 := hto.eq
      show _ = Int32.ofNat (3 + to.toNatClampNeg)
      rw [Int32.ofNat_add, ← h9]
      rfl
    obtain ⟨ho, hho⟩ : ∃ z, z = (x_at X (nn s)).2.2.2.2.1 := ⟨_, rfl⟩
    obtain ⟨ln, hln⟩ : ∃ z, z = (x_at X (nn s)).2.2.1 := ⟨_, rfl⟩
    have hsp : x_still X (nn s) = if ho = 0 then (x_drop X (nn s) 1, false) else if br < 0 then (x_drop X (nn s) 2, false) else if (decide (0 ≤ br) && decide (xB X (nn br) 2 < ln + 8)) = true ∧ xP X (nn p) 4 = 0 then (x_drop X (nn s) 3, false) else if (decide (0 ≤ br) && decide (xB X (nn br) 2 < ln + 8)) = true then (x_cutup X (nn s) (nn br), false) else if x_took X (nn br) = true then (x_drop (x_takes X (nn br) ln) (nn s) 4, false) else (x_s (x_takes X (nn br) ln) ((xS (x_takes X (nn br) ln)).set (nn s) (x_over (x_takes X (nn br) ln) (nn br) ((x_at X (nn s)).1, (x_at X (nn s)).2.1, (x_at X (nn s)).2.2.1, (x_at X (nn s)).2.2.2.1, (x_at X (nn s)).2.2.2.2.1 - 1, (x_at X (nn s)).2.2.2.2.2.1, (x_at X (nn s)).2.2.2.2.2.2.1, (x_at X (nn s)).2.2.2.2.2.2.2))), true) := by
      unfold x_still
      dsimp only
      rw [← hpe, ← htoe, ← hnde, ← hbre, ← hho, ← hln]
      exact if_neg h26
    have J76 : ∀ z, z = (if (decide (0 ≤ br) && decide (xB X (nn br) 2 < ln + 8)) = true then 1 else 0) → P g 7 iX8_isStill 76 [some (vr m), some (vi s), some (vi p), some (vi nd), some (vi to), some (vi br), none, none] [vi z] (L, FI, AI, AL, AR) (0, 0) (RM L FI AI AL AR m (x_still X (nn s)).1 (some (vi (if (x_still X (nn s)).2 = true then 1 else 0)))) := by
      intro z hz
      have hz1 : ¬ z = 0 → (decide (0 ≤ br) && decide (xB X (nn br) 2 < ln + 8)) = true := fun hh => b_t (by rw [hz] at hh; exact hh)
      have hz0 : z = 0 → ¬ (decide (0 ≤ br) && decide (xB X (nn br) 2 < ln + 8)) = true := fun hh => b_f (by rw [hz] at hh; exact hh)
      refine P_is6 (Or.inr dX8_isStill_76) rfl rfl ?_
      refine P_aloadn (i := 0) rfl rfl dX8_isStill_78 ?_
      refine P_iloadn (i := 1) rfl rfl dX8_isStill_79 ?_
      refine P_iconst (v := 4) rfl dX8_isStill_80 ?_
      refine kX8_108 rfl (s_ofS hM hA (k := 4) hs rfl (by decide)) (by decide) (by first | exact hM.k0 | exact hM.k1 | exact hM.k2 | exact hM.k3 | exact hM.k4 | exact hM.k5 | exact hM.k6 | exact hM.k7 | exact hM.k8 | exact hM.k9 | exact hM.k10 | exact hM.k11 | exact hM.k12 | exact hM.k13 | exact hM.k14 | exact hM.k15 | exact hM.k16 | exact hM.k17) rfl dX8_isStill_81 (fun r81 s81 q81 => ?_)
      obtain ⟨rfl, rfl⟩ := q81
      rw [show x_sl (x_at X (nn s)) 4 = ho from hho.symm]
      refine P_ifne dX8_isStill_84 (tgt := 91) rfl (fun h84 => ?_) (fun h84 => ?_)
      · refine P_iload (i := 5) rfl dX8_isStill_91 ?_
        refine P_ifge dX8_isStill_93 (tgt := 100) rfl (fun h93 => ?_) (fun h93 => ?_)
        · have hbr : ib br (xb X) := hbrr h93
          refine P_iload (i := 6) rfl dX8_isStill_100 ?_
          refine P_ifeq dX8_isStill_102 (tgt := 118) rfl (fun h102 => ?_) (fun h102 => ?_)
          · refine P_iconst (v := 0) rfl dX8_isStill_118 ?_
            refine P_is7 (Or.inr dX8_isStill_119) rfl rfl ?_
            refine P_iload (i := 7) rfl dX8_isStill_121 ?_
            refine P_ifle dX8_isStill_123 (tgt := 135) rfl (fun h123 => ?_) (fun h123 => absurd (by decide) h123)
            refine P_iload (i := 6) rfl dX8_isStill_135 ?_
            refine P_ifeq dX8_isStill_137 (tgt := 149) rfl (fun h137 => ?_) (fun h137 => ?_)
            · refine P_aloadn (i := 0) rfl rfl dX8_isStill_149 ?_
              refine P_iload (i := 5) rfl dX8_isStill_150 ?_
              refine P_aloadn (i := 0) rfl rfl dX8_isStill_152 ?_
              refine P_iloadn (i := 1) rfl rfl dX8_isStill_153 ?_
              refine P_iconst (v := 2) rfl dX8_isStill_154 ?_
              refine kX8_108 rfl (s_ofS hM hA (k := 2) hs rfl (by decide)) (by decide) (by first | exact hM.k0 | exact hM.k1 | exact hM.k2 | exact hM.k3 | exact hM.k4 | exact hM.k5 | exact hM.k6 | exact hM.k7 | exact hM.k8 | exact hM.k9 | exact hM.k10 | exact hM.k11 | exact hM.k12 | exact hM.k13 | exact hM.k14 | exact hM.k15 | exact hM.k16 | exact hM.k17) rfl dX8_isStill_155 (fun r155 s155 q155 => ?_)
              obtain ⟨rfl, rfl⟩ := q155
              rw [show x_sl (x_at X (nn s)) 2 = ln from hln.symm]
              refine kX8_178 rfl (s_takes hM hA hbr) (by decide) (by first | exact hM.k0 | exact hM.k1 | exact hM.k2 | exact hM.k3 | exact hM.k4 | exact hM.k5 | exact hM.k6 | exact hM.k7 | exact hM.k8 | exact hM.k9 | exact hM.k10 | exact hM.k11 | exact hM.k12 | exact hM.k13 | exact hM.k14 | exact hM.k15 | exact hM.k16 | exact hM.k17) rfl dX8_isStill_158 (fun r158 s158 q158 => ?_)
              obtain ⟨A2, rfl, rfl, hF2, hA2⟩ := q158
              have hs2 : ib s (xS (x_takes X (nn br) ln)).length := by rw [(x_takes_same X (nn br) ln).2.2.2.2.1]; exact hs
              have hb2 : ib br (xb (x_takes X (nn br) ln)) := by rw [(x_takes_same X (nn br) ln).2.2.2.2.2.1]; exact hbr
              refine P_ifne dX8_isStill_161 (tgt := 172) rfl (fun h161 => ?_) (fun h161 => ?_)
              · refine P_aloadn (i := 0) rfl rfl dX8_isStill_172 ?_
                refine P_iloadn (i := 1) rfl rfl dX8_isStill_173 ?_
                refine P_iconst (v := 4) rfl dX8_isStill_174 ?_
                refine P_aloadn (i := 0) rfl rfl dX8_isStill_175 ?_
                refine P_iloadn (i := 1) rfl rfl dX8_isStill_176 ?_
                refine P_iconst (v := 4) rfl dX8_isStill_177 ?_
                refine kX8_108 rfl (s_ofS hM hA2 (k := 4) hs2 rfl (by decide)) (by decide) (by first | exact hM.k0 | exact hM.k1 | exact hM.k2 | exact hM.k3 | exact hM.k4 | exact hM.k5 | exact hM.k6 | exact hM.k7 | exact hM.k8 | exact hM.k9 | exact hM.k10 | exact hM.k11 | exact hM.k12 | exact hM.k13 | exact hM.k14 | exact hM.k15 | exact hM.k16 | exact hM.k17) rfl dX8_isStill_178 (fun r178 s178 q178 => ?_)
                obtain ⟨rfl, rfl⟩ := q178
                rw [show x_sl (x_at (x_takes X (nn br) ln) (nn s)) 4 = ho from by unfold x_at; rw [(x_takes_same X (nn br) ln).2.2.2.2.1]; exact hho.symm]
                refine P_iconst (v := 1) rfl dX8_isStill_181 ?_
                refine P_isub dX8_isStill_182 ?_
                refine kX8_98 rfl (s_layS hM (k := 4) (hs2.mono hA2.s300) rfl (by decide)) (by decide) (by first | exact hM.k0 | exact hM.k1 | exact hM.k2 | exact hM.k3 | exact hM.k4 | exact hM.k5 | exact hM.k6 | exact hM.k7 | exact hM.k8 | exact hM.k9 | exact hM.k10 | exact hM.k11 | exact hM.k12 | exact hM.k13 | exact hM.k14 | exact hM.k15 | exact hM.k16 | exact hM.k17) rfl dX8_isStill_183 (fun r183 s183 q183 => ?_)
                obtain ⟨rfl, rfl⟩ := q183
                have hA3 := hA2.hops (v := ho - 1) hs2.nn
                refine P_aloadn (i := 0) rfl rfl dX8_isStill_186 ?_
                refine P_iloadn (i := 1) rfl rfl dX8_isStill_187 ?_
                refine P_iload (i := 5) rfl dX8_isStill_188 ?_
                refine kX8_181 rfl (s_goOn hM hA3 (s := s) (by show ib s ((xS (x_takes X (nn br) ln)).set _ _).length; rw [List.length_set]; exact hs2) hb2 (by show ¬ xB (x_takes X (nn br) ln) (nn br) 4 = 0; rw [(x_takes_same X (nn br) ln).2.2.2.2.2.2.2 _ 4 (by decide)]; intro hh; have h9 := (hI.2.2.1 _ hbr.nn).2.2.2.2.1.1; rw [hh] at h9; exact absurd h9 (by decide))) (by decide) (by first | exact hM.k0 | exact hM.k1 | exact hM.k2 | exact hM.k3 | exact hM.k4 | exact hM.k5 | exact hM.k6 | exact hM.k7 | exact hM.k8 | exact hM.k9 | exact hM.k10 | exact hM.k11 | exact hM.k12 | exact hM.k13 | exact hM.k14 | exact hM.k15 | exact hM.k16 | exact hM.k17) rfl dX8_isStill_190 (fun r190 s190 q190 => ?_)
                obtain ⟨A4, rfl, rfl, hF4, hA4⟩ := q190
                refine P_iconst (v := 1) rfl dX8_isStill_193 ?_
                refine P_zreturn rfl (by first | exact Or.inl rfl | exact Or.inr rfl | assumption) dX8_isStill_194 ?_
                rw [hsp, if_neg h84, if_neg (Int32.not_lt.mpr h93), if_neg (fun hh => hz0 h102 hh.1), if_neg (hz0 h137), if_neg (b_f2 h161)]
                refine ⟨A4, rfl, rfl, (hF2.u1).tr hF4, ?_⟩
                have e1 : x_at (x_takes X (nn br) ln) (nn s) = x_at X (nn s) := by
                  unfold x_at
                  rw [(x_takes_same X (nn br) ln).2.2.2.2.1]
                rw [x_set_at hs2.nn, e1] at hA4
                have e2 : ∀ (Y : XW) (l : List XS), xS (x_s Y l) = l := fun _ _ => rfl
                rw [e2, List.set_set] at hA4
                rw [hln, hpe, hho] at *
                exact hA4
              · refine P_aloadn (i := 0) rfl rfl dX8_isStill_164 ?_
                refine P_iloadn (i := 1) rfl rfl dX8_isStill_165 ?_
                refine P_iconst (v := 4) rfl dX8_isStill_166 ?_
                refine kX8_161 rfl (s_drop hM hA2 hs2 (k := 4) rfl (by decide) (by unfold x_at; rw [(x_takes_same X (nn br) ln).2.2.2.2.1, (x_takes_same X (nn br) ln).2.2.2.2.2.2.1]; show ib (x_at X (nn s)).1 (xp X); rw [← hpe]; exact hp)) (by decide) (by first | exact hM.k0 | exact hM.k1 | exact hM.k2 | exact hM.k3 | exact hM.k4 | exact hM.k5 | exact hM.k6 | exact hM.k7 | exact hM.k8 | exact hM.k9 | exact hM.k10 | exact hM.k11 | exact hM.k12 | exact hM.k13 | exact hM.k14 | exact hM.k15 | exact hM.k16 | exact hM.k17) rfl dX8_isStill_167 (fun r167 s167 q167 => ?_)
                obtain ⟨A3, rfl, rfl, hF3, hA3⟩ := q167
                refine P_iconst (v := 0) rfl dX8_isStill_170 ?_
                refine P_zreturn rfl (by first | exact Or.inl rfl | exact Or.inr rfl | assumption) dX8_isStill_171 ?_
                rw [hsp, if_neg h84, if_neg (Int32.not_lt.mpr h93), if_neg (fun hh => hz0 h102 hh.1), if_neg (hz0 h137), if_pos (b_t2 h161)]
                exact ⟨A3, rfl, rfl, hF2.tr hF3, hA3⟩
            · refine P_aloadn (i := 0) rfl rfl dX8_isStill_140 ?_
              refine P_iloadn (i := 1) rfl rfl dX8_isStill_141 ?_
              refine P_iload (i := 5) rfl dX8_isStill_142 ?_
              refine kX8_187 rfl (s_cut hM hA hI hMM hs hbr (by rw [← hho]; exact h84)) (by decide) (by first | exact hM.k0 | exact hM.k1 | exact hM.k2 | exact hM.k3 | exact hM.k4 | exact hM.k5 | exact hM.k6 | exact hM.k7 | exact hM.k8 | exact hM.k9 | exact hM.k10 | exact hM.k11 | exact hM.k12 | exact hM.k13 | exact hM.k14 | exact hM.k15 | exact hM.k16 | exact hM.k17) rfl dX8_isStill_144 (fun r144 s144 q144 => ?_)
              obtain ⟨A2, rfl, rfl, hF2, hA2⟩ := q144
              refine P_iconst (v := 0) rfl dX8_isStill_147 ?_
              refine P_zreturn rfl (by first | exact Or.inl rfl | exact Or.inr rfl | assumption) dX8_isStill_148 ?_
              rw [hsp, if_neg h84, if_neg (Int32.not_lt.mpr h93), if_neg (fun hh => hz0 h102 hh.1), if_pos (hz1 h137)]
              exact ⟨A2, rfl, rfl, hF2, hA2⟩
          · refine P_aloadn (i := 0) rfl rfl dX8_isStill_105 ?_
            refine P_iloadn (i := 2) rfl rfl dX8_isStill_106 ?_
            refine P_iconst (v := 4) rfl dX8_isStill_107 ?_
            refine kX8_102 rfl (s_ofP hM hA (k := 4) hp rfl (by decide)) (by decide) (by first | exact hM.k0 | exact hM.k1 | exact hM.k2 | exact hM.k3 | exact hM.k4 | exact hM.k5 | exact hM.k6 | exact hM.k7 | exact hM.k8 | exact hM.k9 | exact hM.k10 | exact hM.k11 | exact hM.k12 | exact hM.k13 | exact hM.k14 | exact hM.k15 | exact hM.k16 | exact hM.k17) rfl dX8_isStill_108 (fun r108 s108 q108 => ?_)
            obtain ⟨rfl, rfl⟩ := q108
            refine P_ifne dX8_isStill_111 (tgt := 118) rfl (fun h111 => ?_) (fun h111 => ?_)
            · refine P_iconst (v := 0) rfl dX8_isStill_118 ?_
              refine P_is7 (Or.inr dX8_isStill_119) rfl rfl ?_
              refine P_iload (i := 7) rfl dX8_isStill_121 ?_
              refine P_ifle dX8_isStill_123 (tgt := 135) rfl (fun h123 => ?_) (fun h123 => absurd (by decide) h123)
              refine P_iload (i := 6) rfl dX8_isStill_135 ?_
              refine P_ifeq dX8_isStill_137 (tgt := 149) rfl (fun h137 => ?_) (fun h137 => ?_)
              · refine P_aloadn (i := 0) rfl rfl dX8_isStill_149 ?_
                refine P_iload (i := 5) rfl dX8_isStill_150 ?_
                refine P_aloadn (i := 0) rfl rfl dX8_isStill_152 ?_
                refine P_iloadn (i := 1) rfl rfl dX8_isStill_153 ?_
                refine P_iconst (v := 2) rfl dX8_isStill_154 ?_
                refine kX8_108 rfl (s_ofS hM hA (k := 2) hs rfl (by decide)) (by decide) (by first | exact hM.k0 | exact hM.k1 | exact hM.k2 | exact hM.k3 | exact hM.k4 | exact hM.k5 | exact hM.k6 | exact hM.k7 | exact hM.k8 | exact hM.k9 | exact hM.k10 | exact hM.k11 | exact hM.k12 | exact hM.k13 | exact hM.k14 | exact hM.k15 | exact hM.k16 | exact hM.k17) rfl dX8_isStill_155 (fun r155 s155 q155 => ?_)
                obtain ⟨rfl, rfl⟩ := q155
                rw [show x_sl (x_at X (nn s)) 2 = ln from hln.symm]
                refine kX8_178 rfl (s_takes hM hA hbr) (by decide) (by first | exact hM.k0 | exact hM.k1 | exact hM.k2 | exact hM.k3 | exact hM.k4 | exact hM.k5 | exact hM.k6 | exact hM.k7 | exact hM.k8 | exact hM.k9 | exact hM.k10 | exact hM.k11 | exact hM.k12 | exact hM.k13 | exact hM.k14 | exact hM.k15 | exact hM.k16 | exact hM.k17) rfl dX8_isStill_158 (fun r158 s158 q158 => ?_)
                obtain ⟨A2, rfl, rfl, hF2, hA2⟩ := q158
                have hs2 : ib s (xS (x_takes X (nn br) ln)).length := by rw [(x_takes_same X (nn br) ln).2.2.2.2.1]; exact hs
                have hb2 : ib br (xb (x_takes X (nn br) ln)) := by rw [(x_takes_same X (nn br) ln).2.2.2.2.2.1]; exact hbr
                refine P_ifne dX8_isStill_161 (tgt := 172) rfl (fun h161 => ?_) (fun h161 => ?_)
                · refine P_aloadn (i := 0) rfl rfl dX8_isStill_172 ?_
                  refine P_iloadn (i := 1) rfl rfl dX8_isStill_173 ?_
                  refine P_iconst (v := 4) rfl dX8_isStill_174 ?_
                  refine P_aloadn (i := 0) rfl rfl dX8_isStill_175 ?_
                  refine P_iloadn (i := 1) rfl rfl dX8_isStill_176 ?_
                  refine P_iconst (v := 4) rfl dX8_isStill_177 ?_
                  refine kX8_108 rfl (s_ofS hM hA2 (k := 4) hs2 rfl (by decide)) (by decide) (by first | exact hM.k0 | exact hM.k1 | exact hM.k2 | exact hM.k3 | exact hM.k4 | exact hM.k5 | exact hM.k6 | exact hM.k7 | exact hM.k8 | exact hM.k9 | exact hM.k10 | exact hM.k11 | exact hM.k12 | exact hM.k13 | exact hM.k14 | exact hM.k15 | exact hM.k16 | exact hM.k17) rfl dX8_isStill_178 (fun r178 s178 q178 => ?_)
                  obtain ⟨rfl, rfl⟩ := q178
                  rw [show x_sl (x_at (x_takes X (nn br) ln) (nn s)) 4 = ho from by unfold x_at; rw [(x_takes_same X (nn br) ln).2.2.2.2.1]; exact hho.symm]
                  refine P_iconst (v := 1) rfl dX8_isStill_181 ?_
                  refine P_isub dX8_isStill_182 ?_
                  refine kX8_98 rfl (s_layS hM (k := 4) (hs2.mono hA2.s300) rfl (by decide)) (by decide) (by first | exact hM.k0 | exact hM.k1 | exact hM.k2 | exact hM.k3 | exact hM.k4 | exact hM.k5 | exact hM.k6 | exact hM.k7 | exact hM.k8 | exact hM.k9 | exact hM.k10 | exact hM.k11 | exact hM.k12 | exact hM.k13 | exact hM.k14 | exact hM.k15 | exact hM.k16 | exact hM.k17) rfl dX8_isStill_183 (fun r183 s183 q183 => ?_)
                  obtain ⟨rfl, rfl⟩ := q183
                  have hA3 := hA2.hops (v := ho - 1) hs2.nn
                  refine P_aloadn (i := 0) rfl rfl dX8_isStill_186 ?_
                  refine P_iloadn (i := 1) rfl rfl dX8_isStill_187 ?_
                  refine P_iload (i := 5) rfl dX8_isStill_188 ?_
                  refine kX8_181 rfl (s_goOn hM hA3 (s := s) (by show ib s ((xS (x_takes X (nn br) ln)).set _ _).length; rw [List.length_set]; exact hs2) hb2 (by show ¬ xB (x_takes X (nn br) ln) (nn br) 4 = 0; rw [(x_takes_same X (nn br) ln).2.2.2.2.2.2.2 _ 4 (by decide)]; intro hh; have h9 := (hI.2.2.1 _ hbr.nn).2.2.2.2.1.1; rw [hh] at h9; exact absurd h9 (by decide))) (by decide) (by first | exact hM.k0 | exact hM.k1 | exact hM.k2 | exact hM.k3 | exact hM.k4 | exact hM.k5 | exact hM.k6 | exact hM.k7 | exact hM.k8 | exact hM.k9 | exact hM.k10 | exact hM.k11 | exact hM.k12 | exact hM.k13 | exact hM.k14 | exact hM.k15 | exact hM.k16 | exact hM.k17) rfl dX8_isStill_190 (fun r190 s190 q190 => ?_)
                  obtain ⟨A4, rfl, rfl, hF4, hA4⟩ := q190
                  refine P_iconst (v := 1) rfl dX8_isStill_193 ?_
                  refine P_zreturn rfl (by first | exact Or.inl rfl | exact Or.inr rfl | assumption) dX8_isStill_194 ?_
                  rw [hsp, if_neg h84, if_neg (Int32.not_lt.mpr h93), if_neg (fun hh => h111 hh.2), if_neg (hz0 h137), if_neg (b_f2 h161)]
                  refine ⟨A4, rfl, rfl, (hF2.u1).tr hF4, ?_⟩
                  have e1 : x_at (x_takes X (nn br) ln) (nn s) = x_at X (nn s) := by
                    unfold x_at
                    rw [(x_takes_same X (nn br) ln).2.2.2.2.1]
                  rw [x_set_at hs2.nn, e1] at hA4
                  have e2 : ∀ (Y : XW) (l : List XS), xS (x_s Y l) = l := fun _ _ => rfl
                  rw [e2, List.set_set] at hA4
                  rw [hln, hpe, hho] at *
                  exact hA4
                · refine P_aloadn (i := 0) rfl rfl dX8_isStill_164 ?_
                  refine P_iloadn (i := 1) rfl rfl dX8_isStill_165 ?_
                  refine P_iconst (v := 4) rfl dX8_isStill_166 ?_
                  refine kX8_161 rfl (s_drop hM hA2 hs2 (k := 4) rfl (by decide) (by unfold x_at; rw [(x_takes_same X (nn br) ln).2.2.2.2.1, (x_takes_same X (nn br) ln).2.2.2.2.2.2.1]; show ib (x_at X (nn s)).1 (xp X); rw [← hpe]; exact hp)) (by decide) (by first | exact hM.k0 | exact hM.k1 | exact hM.k2 | exact hM.k3 | exact hM.k4 | exact hM.k5 | exact hM.k6 | exact hM.k7 | exact hM.k8 | exact hM.k9 | exact hM.k10 | exact hM.k11 | exact hM.k12 | exact hM.k13 | exact hM.k14 | exact hM.k15 | exact hM.k16 | exact hM.k17) rfl dX8_isStill_167 (fun r167 s167 q167 => ?_)
                  obtain ⟨A3, rfl, rfl, hF3, hA3⟩ := q167
                  refine P_iconst (v := 0) rfl dX8_isStill_170 ?_
                  refine P_zreturn rfl (by first | exact Or.inl rfl | exact Or.inr rfl | assumption) dX8_isStill_171 ?_
                  rw [hsp, if_neg h84, if_neg (Int32.not_lt.mpr h93), if_neg (fun hh => h111 hh.2), if_neg (hz0 h137), if_pos (b_t2 h161)]
                  exact ⟨A3, rfl, rfl, hF2.tr hF3, hA3⟩
              · refine P_aloadn (i := 0) rfl rfl dX8_isStill_140 ?_
                refine P_iloadn (i := 1) rfl rfl dX8_isStill_141 ?_
                refine P_iload (i := 5) rfl dX8_isStill_142 ?_
                refine kX8_187 rfl (s_cut hM hA hI hMM hs hbr (by rw [← hho]; exact h84)) (by decide) (by first | exact hM.k0 | exact hM.k1 | exact hM.k2 | exact hM.k3 | exact hM.k4 | exact hM.k5 | exact hM.k6 | exact hM.k7 | exact hM.k8 | exact hM.k9 | exact hM.k10 | exact hM.k11 | exact hM.k12 | exact hM.k13 | exact hM.k14 | exact hM.k15 | exact hM.k16 | exact hM.k17) rfl dX8_isStill_144 (fun r144 s144 q144 => ?_)
                obtain ⟨A2, rfl, rfl, hF2, hA2⟩ := q144
                refine P_iconst (v := 0) rfl dX8_isStill_147 ?_
                refine P_zreturn rfl (by first | exact Or.inl rfl | exact Or.inr rfl | assumption) dX8_isStill_148 ?_
                rw [hsp, if_neg h84, if_neg (Int32.not_lt.mpr h93), if_neg (fun hh => h111 hh.2), if_pos (hz1 h137)]
                exact ⟨A2, rfl, rfl, hF2, hA2⟩
            · refine P_iconst (v := 3) rfl dX8_isStill_114 ?_
              refine P_goto dX8_isStill_115 (tgt := 119) rfl ?_
              refine P_is7 (Or.inr dX8_isStill_119) rfl rfl ?_
              refine P_iload (i := 7) rfl dX8_isStill_121 ?_
              refine P_ifle dX8_isStill_123 (tgt := 135) rfl (fun h123 => absurd h123 (by decide)) (fun h123 => ?_)
              refine P_aloadn (i := 0) rfl rfl dX8_isStill_126 ?_
              refine P_iloadn (i := 1) rfl rfl dX8_isStill_127 ?_
              refine P_iload (i := 7) rfl dX8_isStill_128 ?_
              refine kX8_161 rfl (s_drop hM hA hs (k := 3) rfl (by decide) (by rw [← hpe]; exact hp)) (by decide) (by first | exact hM.k0 | exact hM.k1 | exact hM.k2 | exact hM.k3 | exact hM.k4 | exact hM.k5 | exact hM.k6 | exact hM.k7 | exact hM.k8 | exact hM.k9 | exact hM.k10 | exact hM.k11 | exact hM.k12 | exact hM.k13 | exact hM.k14 | exact hM.k15 | exact hM.k16 | exact hM.k17) rfl dX8_isStill_130 (fun r130 s130 q130 => ?_)
              obtain ⟨A2, rfl, rfl, hF2, hA2⟩ := q130
              refine P_iconst (v := 0) rfl dX8_isStill_133 ?_
              refine P_zreturn rfl (by first | exact Or.inl rfl | exact Or.inr rfl | assumption) dX8_isStill_134 ?_
              rw [hsp, if_neg h84, if_neg (Int32.not_lt.mpr h93), if_pos ⟨hz1 h102, h111⟩]
              exact ⟨A2, rfl, rfl, hF2, hA2⟩
        · refine P_iconst (v := 2) rfl dX8_isStill_96 ?_
          refine P_goto dX8_isStill_97 (tgt := 119) rfl ?_
          refine P_is7 (Or.inr dX8_isStill_119) rfl rfl ?_
          refine P_iload (i := 7) rfl dX8_isStill_121 ?_
          refine P_ifle dX8_isStill_123 (tgt := 135) rfl (fun h123 => absurd h123 (by decide)) (fun h123 => ?_)
          refine P_aloadn (i := 0) rfl rfl dX8_isStill_126 ?_
          refine P_iloadn (i := 1) rfl rfl dX8_isStill_127 ?_
          refine P_iload (i := 7) rfl dX8_isStill_128 ?_
          refine kX8_161 rfl (s_drop hM hA hs (k := 2) rfl (by decide) (by rw [← hpe]; exact hp)) (by decide) (by first | exact hM.k0 | exact hM.k1 | exact hM.k2 | exact hM.k3 | exact hM.k4 | exact hM.k5 | exact hM.k6 | exact hM.k7 | exact hM.k8 | exact hM.k9 | exact hM.k10 | exact hM.k11 | exact hM.k12 | exact hM.k13 | exact hM.k14 | exact hM.k15 | exact hM.k16 | exact hM.k17) rfl dX8_isStill_130 (fun r130 s130 q130 => ?_)
          obtain ⟨A2, rfl, rfl, hF2, hA2⟩ := q130
          refine P_iconst (v := 0) rfl dX8_isStill_133 ?_
          refine P_zreturn rfl (by first | exact Or.inl rfl | exact Or.inr rfl | assumption) dX8_isStill_134 ?_
          rw [hsp, if_neg h84, if_pos (Int32.not_le.mp h93)]
          exact ⟨A2, rfl, rfl, hF2, hA2⟩
      · refine P_iconst (v := 1) rfl dX8_isStill_87 ?_
        refine P_goto dX8_isStill_88 (tgt := 119) rfl ?_
        refine P_is7 (Or.inr dX8_isStill_119) rfl rfl ?_
        refine P_iload (i := 7) rfl dX8_isStill_121 ?_
        refine P_ifle dX8_isStill_123 (tgt := 135) rfl (fun h123 => absurd h123 (by decide)) (fun h123 => ?_)
        refine P_aloadn (i := 0) rfl rfl dX8_isStill_126 ?_
        refine P_iloadn (i := 1) rfl rfl dX8_isStill_127 ?_
        refine P_iload (i := 7) rfl dX8_isStill_128 ?_
        refine kX8_161 rfl (s_drop hM hA hs (k := 1) rfl (by decide) (by rw [← hpe]; exact hp)) (by decide) (by first | exact hM.k0 | exact hM.k1 | exact hM.k2 | exact hM.k3 | exact hM.k4 | exact hM.k5 | exact hM.k6 | exact hM.k7 | exact hM.k8 | exact hM.k9 | exact hM.k10 | exact hM.k11 | exact hM.k12 | exact hM.k13 | exact hM.k14 | exact hM.k15 | exact hM.k16 | exact hM.k17) rfl dX8_isStill_130 (fun r130 s130 q130 => ?_)
        obtain ⟨A2, rfl, rfl, hF2, hA2⟩ := q130
        refine P_iconst (v := 0) rfl dX8_isStill_133 ?_
        refine P_zreturn rfl (by first | exact Or.inl rfl | exact Or.inr rfl | assumption) dX8_isStill_134 ?_
        rw [hsp, if_pos h84]
        exact ⟨A2, rfl, rfl, hF2, hA2⟩
    refine P_aloadn (i := 0) rfl rfl dX8_isStill_36 ?_
    refine P_iloadn (i := 3) rfl rfl dX8_isStill_37 ?_
    refine P_iconst (v := 3) rfl dX8_isStill_38 ?_
    refine P_iload (i := 4) rfl dX8_isStill_39 ?_
    refine P_iadd dX8_isStill_41 ?_
    refine kX8_152 rfl (s_ofN hM hA (k := 3 + nn to) hnd hto3 (by have := hto.nn; omega)) (by decide) (by first | exact hM.k0 | exact hM.k1 | exact hM.k2 | exact hM.k3 | exact hM.k4 | exact hM.k5 | exact hM.k6 | exact hM.k7 | exact hM.k8 | exact hM.k9 | exact hM.k10 | exact hM.k11 | exact hM.k12 | exact hM.k13 | exact hM.k14 | exact hM.k15 | exact hM.k16 | exact hM.k17) rfl dX8_isStill_42 (fun r42 s42 q42 => ?_)
    obtain ⟨rfl, rfl⟩ := q42
    rw [show xN X (nn nd) (3 + nn to) = br from hbre.symm]
    refine P_is5 (Or.inr dX8_isStill_45) rfl rfl ?_
    refine P_iload (i := 5) rfl dX8_isStill_47 ?_
    refine P_iflt dX8_isStill_49 (tgt := 75) rfl (fun h49 => ?_) (fun h49 => ?_)
    · refine P_iconst (v := 0) rfl dX8_isStill_75 ?_
      exact J76 _ (if_neg (by rw [Bool.and_eq_true]; exact fun hh => Int32.not_lt.mpr (of_decide_eq_true hh.1) h49)).symm
    · have hbr : ib br (xb X) := hbrr (Int32.not_lt.mp h49)
      refine P_aloadn (i := 0) rfl rfl dX8_isStill_52 ?_
      refine P_iloadn (i := 1) rfl rfl dX8_isStill_53 ?_
      refine P_iconst (v := 2) rfl dX8_isStill_54 ?_
      refine kX8_108 rfl (s_ofS hM hA (k := 2) hs rfl (by decide)) (by decide) (by first | exact hM.k0 | exact hM.k1 | exact hM.k2 | exact hM.k3 | exact hM.k4 | exact hM.k5 | exact hM.k6 | exact hM.k7 | exact hM.k8 | exact hM.k9 | exact hM.k10 | exact hM.k11 | exact hM.k12 | exact hM.k13 | exact hM.k14 | exact hM.k15 | exact hM.k16 | exact hM.k17) rfl dX8_isStill_55 (fun r55 s55 q55 => ?_)
      obtain ⟨rfl, rfl⟩ := q55
      rw [show x_sl (x_at X (nn s)) 2 = ln from hln.symm]
      refine P_bipush (v := 8) rfl dX8_isStill_58 ?_
      refine P_iadd dX8_isStill_60 ?_
      refine P_aloadn (i := 0) rfl rfl dX8_isStill_61 ?_
      refine P_iload (i := 5) rfl dX8_isStill_62 ?_
      refine P_iconst (v := 2) rfl dX8_isStill_64 ?_
      refine kX8_94 rfl (s_ofB hM hA (k := 2) hbr rfl (by decide)) (by decide) (by first | exact hM.k0 | exact hM.k1 | exact hM.k2 | exact hM.k3 | exact hM.k4 | exact hM.k5 | exact hM.k6 | exact hM.k7 | exact hM.k8 | exact hM.k9 | exact hM.k10 | exact hM.k11 | exact hM.k12 | exact hM.k13 | exact hM.k14 | exact hM.k15 | exact hM.k16 | exact hM.k17) rfl dX8_isStill_65 (fun r65 s65 q65 => ?_)
      obtain ⟨rfl, rfl⟩ := q65
      refine P_icmple dX8_isStill_68 (tgt := 75) rfl (fun h68 => ?_) (fun h68 => ?_)
      · refine P_iconst (v := 0) rfl dX8_isStill_75 ?_
        exact J76 _ (if_neg (by rw [Bool.and_eq_true]; exact fun hh => Int32.not_lt.mpr h68 (of_decide_eq_true hh.2))).symm
      · refine P_iconst (v := 1) rfl dX8_isStill_71 ?_
        refine P_goto dX8_isStill_72 (tgt := 76) rfl ?_
        exact J76 _ (if_pos (by rw [Bool.and_eq_true]; exact ⟨decide_eq_true (Int32.not_lt.mp h49), decide_eq_true (Int32.not_le.mp h68)⟩)).symm
  · have hst : x_still X (nn s) = (x_put X (nn s), false) := by
      unfold x_still
      dsimp only
      rw [← hpe, ← htoe, ← hnde]
      exact if_pos h26
    refine P_aloadn (i := 0) rfl rfl dX8_isStill_29 ?_
    refine P_iloadn (i := 1) rfl rfl dX8_isStill_30 ?_
    refine kX8_184 rfl (s_putSlice hM hA hs (by rw [← hpe]; exact hp) hσ.2.1 (by rw [hadd]; have := hσ.2.1; have := hσ.2.2.1; omega) (by rw [hadd]; have := hσ.2.2.1; omega) hσ.2.2.2.2.1 (by rw [← hpe, ← htoe]; exact hto) hI.ok) (by decide) (by first | exact hM.k0 | exact hM.k1 | exact hM.k2 | exact hM.k3 | exact hM.k4 | exact hM.k5 | exact hM.k6 | exact hM.k7 | exact hM.k8 | exact hM.k9 | exact hM.k10 | exact hM.k11 | exact hM.k12 | exact hM.k13 | exact hM.k14 | exact hM.k15 | exact hM.k16 | exact hM.k17) rfl dX8_isStill_31 (fun r31 s31 q31 => ?_)
    obtain ⟨A2, rfl, rfl, hF2, hA2⟩ := q31
    refine P_iconst (v := 0) rfl dX8_isStill_34 ?_
    refine P_zreturn rfl (by first | exact Or.inl rfl | exact Or.inr rfl | assumption) dX8_isStill_35 ?_
    refine ⟨A2, rfl, ?_, hF2, ?_⟩
    · rw [hst]; rfl
    · rw [hst]; exact hA2
theorem s_passTick (hM : WM L m) (hA : RA AI m X) (hI : XI M X) (hMM : M < 100000000) : Sp g 8 iX8_passTick [vr m] (L, FI, AI, AL, AR) (0, 0) (RM L FI AI AL AR m (x_tick X) none) := by
  refine Sp.of (ls := [some (vr m), none, none, none]) (by decide +kernel) rfl rfl ?_
  have J47 : ∀ (Y : XW) (A0 : Nat → Nat → Int32), FA m AI A0 → RA A0 m Y → XI M Y → P g 8 iX8_passTick 47 [some (vr m), none, none, none] [] (L, FI, A0, AL, AR) (0, 0) (RM L FI AI AL AR m (x_g (x_times (xp Y) Y) 0 (xG (x_times (xp Y) Y) 0 + 1)) none) := by
    intro Y A0 hF0 hA0 hIY
    have hp40 := hA0.p40
    have loop : ∀ n i, i + n = xp Y → ∀ (A : Nat → Nat → Int32), FA m AI A → RA A m (x_times i Y) → P g 8 iX8_passTick 49 [some (vr m), none, some (vi (Int32.ofNat i)), none] [] (L, FI, A, AL, AR) (0, 0) (RM L FI AI AL AR m (x_g (x_times (xp Y) Y) 0 (xG (x_times (xp Y) Y) 0 + 1)) none) := by
      intro n
      induction n with
      | zero =>
        intro i hi A hFA hA
        obtain ⟨k1, k2, k3⟩ := XI.times (M := M) i Y hIY
        have hk4 : Int32.ofNat (xp (x_times i Y)) = Int32.ofNat (xp Y) := congrArg Int32.ofNat k2.2.2.2
        refine P_iloadn (i := 2) rfl rfl dX8_passTick_49 ?_
        refine P_aloadn (i := 0) rfl rfl dX8_passTick_50 ?_
        refine gX8_7 rfl (by first | exact hM.k0 | exact hM.k1 | exact hM.k2 | exact hM.k3 | exact hM.k4 | exact hM.k5 | exact hM.k6 | exact hM.k7 | exact hM.k8 | exact hM.k9 | exact hM.k10 | exact hM.k11 | exact hM.k12 | exact hM.k13 | exact hM.k14 | exact hM.k15 | exact hM.k16 | exact hM.k17) hM.r256 dX8_passTick_51 ?_
        refine P_iconst (v := 2) rfl dX8_passTick_54 ?_
        refine P_iaN (j := 2) (by first | exact hM.k0 | exact hM.k1 | exact hM.k2 | exact hM.k3 | exact hM.k4 | exact hM.k5 | exact hM.k6 | exact hM.k7 | exact hM.k8 | exact hM.k9 | exact hM.k10 | exact hM.k11 | exact hM.k12 | exact hM.k13 | exact hM.k14 | exact hM.k15 | exact hM.k16 | exact hM.k17) rfl (by first | omega | (simp only [hM.l1, hM.l2, hM.l3, hM.l4, hM.l5, hM.l6, hM.l7, hM.l8, hM.l9, hM.l10, hM.l11, hM.l12, hM.l13, hM.l14, hM.l15, hM.l16, hM.l17]; omega)) (by first | omega | (simp only [hM.l1, hM.l2, hM.l3, hM.l4, hM.l5, hM.l6, hM.l7, hM.l8, hM.l9, hM.l10, hM.l11, hM.l12, hM.l13, hM.l14, hM.l15, hM.l16, hM.l17]; omega)) hA.np dX8_passTick_55 ?_
        rw [hk4]
        refine P_icmpge dX8_passTick_56 (tgt := 105) rfl (fun h56 => ?_) (fun h56 => absurd ((n_le (by omega) (by omega)).mpr (by omega)) h56)
        refine P_aloadn (i := 0) rfl rfl dX8_passTick_105 ?_
        refine gX8_7 rfl (by first | exact hM.k0 | exact hM.k1 | exact hM.k2 | exact hM.k3 | exact hM.k4 | exact hM.k5 | exact hM.k6 | exact hM.k7 | exact hM.k8 | exact hM.k9 | exact hM.k10 | exact hM.k11 | exact hM.k12 | exact hM.k13 | exact hM.k14 | exact hM.k15 | exact hM.k16 | exact hM.k17) hM.r256 dX8_passTick_106 ?_
        refine P_iconst (v := 0) rfl dX8_passTick_109 ?_
        refine P_dup2 rfl rfl dX8_passTick_110 ?_
        refine P_iaN (j := 0) (by first | exact hM.k0 | exact hM.k1 | exact hM.k2 | exact hM.k3 | exact hM.k4 | exact hM.k5 | exact hM.k6 | exact hM.k7 | exact hM.k8 | exact hM.k9 | exact hM.k10 | exact hM.k11 | exact hM.k12 | exact hM.k13 | exact hM.k14 | exact hM.k15 | exact hM.k16 | exact hM.k17) rfl (by first | omega | (simp only [hM.l1, hM.l2, hM.l3, hM.l4, hM.l5, hM.l6, hM.l7, hM.l8, hM.l9, hM.l10, hM.l11, hM.l12, hM.l13, hM.l14, hM.l15, hM.l16, hM.l17]; omega)) (by first | omega | (simp only [hM.l1, hM.l2, hM.l3, hM.l4, hM.l5, hM.l6, hM.l7, hM.l8, hM.l9, hM.l10, hM.l11, hM.l12, hM.l13, hM.l14, hM.l15, hM.l16, hM.l17]; omega)) (hA.g (by omega) (by omega) (by omega) (by omega)) dX8_passTick_111 ?_
        refine P_iconst (v := 1) rfl dX8_passTick_112 ?_
        refine P_iadd dX8_passTick_113 ?_
        refine P_isN (j := 0) (by first | exact hM.k0 | exact hM.k1 | exact hM.k2 | exact hM.k3 | exact hM.k4 | exact hM.k5 | exact hM.k6 | exact hM.k7 | exact hM.k8 | exact hM.k9 | exact hM.k10 | exact hM.k11 | exact hM.k12 | exact hM.k13 | exact hM.k14 | exact hM.k15 | exact hM.k16 | exact hM.k17) rfl (by first | omega | (simp only [hM.l1, hM.l2, hM.l3, hM.l4, hM.l5, hM.l6, hM.l7, hM.l8, hM.l9, hM.l10, hM.l11, hM.l12, hM.l13, hM.l14, hM.l15, hM.l16, hM.l17]; omega)) (by first | omega | (simp only [hM.l1, hM.l2, hM.l3, hM.l4, hM.l5, hM.l6, hM.l7, hM.l8, hM.l9, hM.l10, hM.l11, hM.l12, hM.l13, hM.l14, hM.l15, hM.l16, hM.l17]; omega)) dX8_passTick_114 ?_
        refine P_return rfl dX8_passTick_115 ?_
        have e : i = xp Y := (by omega)
        subst e
        exact ⟨_, rfl, rfl, hFA.u1, hA.setG (by omega) (by omega) (by omega) (by omega)⟩
      | succ n ih =>
        intro i hi A hFA hA
        obtain ⟨k1, k2, k3⟩ := XI.times (M := M) i Y hIY
        have hk4 : Int32.ofNat (xp (x_times i Y)) = Int32.ofNat (xp Y) := congrArg Int32.ofNat k2.2.2.2
        have hi3 : ib (Int32.ofNat i) (xp (x_times i Y)) := by rw [k2.2.2.2]; exact ib.of (by omega) (by omega)
        have hto : ib (xP (x_times i Y) (nn (Int32.ofNat i)) 1) 8 := (k1.2.2.2.1 _ hi3.nn).1.2.1
        refine P_iloadn (i := 2) rfl rfl dX8_passTick_49 ?_
        refine P_aloadn (i := 0) rfl rfl dX8_passTick_50 ?_
        refine gX8_7 rfl (by first | exact hM.k0 | exact hM.k1 | exact hM.k2 | exact hM.k3 | exact hM.k4 | exact hM.k5 | exact hM.k6 | exact hM.k7 | exact hM.k8 | exact hM.k9 | exact hM.k10 | exact hM.k11 | exact hM.k12 | exact hM.k13 | exact hM.k14 | exact hM.k15 | exact hM.k16 | exact hM.k17) hM.r256 dX8_passTick_51 ?_
        refine P_iconst (v := 2) rfl dX8_passTick_54 ?_
        refine P_iaN (j := 2) (by first | exact hM.k0 | exact hM.k1 | exact hM.k2 | exact hM.k3 | exact hM.k4 | exact hM.k5 | exact hM.k6 | exact hM.k7 | exact hM.k8 | exact hM.k9 | exact hM.k10 | exact hM.k11 | exact hM.k12 | exact hM.k13 | exact hM.k14 | exact hM.k15 | exact hM.k16 | exact hM.k17) rfl (by first | omega | (simp only [hM.l1, hM.l2, hM.l3, hM.l4, hM.l5, hM.l6, hM.l7, hM.l8, hM.l9, hM.l10, hM.l11, hM.l12, hM.l13, hM.l14, hM.l15, hM.l16, hM.l17]; omega)) (by first | omega | (simp only [hM.l1, hM.l2, hM.l3, hM.l4, hM.l5, hM.l6, hM.l7, hM.l8, hM.l9, hM.l10, hM.l11, hM.l12, hM.l13, hM.l14, hM.l15, hM.l16, hM.l17]; omega)) hA.np dX8_passTick_55 ?_
        rw [hk4]
        refine P_icmpge dX8_passTick_56 (tgt := 105) rfl (fun h56 => absurd h56 (fun h9 => by rw [n_le (by omega) (by omega)] at h9; omega)) (fun h56 => ?_)
        refine P_aloadn (i := 0) rfl rfl dX8_passTick_59 ?_
        refine P_iloadn (i := 2) rfl rfl dX8_passTick_60 ?_
        refine P_bipush (v := 9) rfl dX8_passTick_61 ?_
        refine kX8_102 rfl (s_ofP hM hA (k := 9) hi3 rfl (by decide)) (by decide) (by first | exact hM.k0 | exact hM.k1 | exact hM.k2 | exact hM.k3 | exact hM.k4 | exact hM.k5 | exact hM.k6 | exact hM.k7 | exact hM.k8 | exact hM.k9 | exact hM.k10 | exact hM.k11 | exact hM.k12 | exact hM.k13 | exact hM.k14 | exact hM.k15 | exact hM.k16 | exact hM.k17) rfl dX8_passTick_63 (fun r63 s63 q63 => ?_)
        obtain ⟨rfl, rfl⟩ := q63
        refine P_is3 (Or.inl dX8_passTick_66) rfl rfl ?_
        refine P_iloadn (i := 3) rfl rfl dX8_passTick_67 ?_
        refine P_iflt dX8_passTick_68 (tgt := 99) rfl (fun h68 => ?_) (fun h68 => ?_)
        · refine P_inN2 dX8_passTick_99 rfl rfl ?_
          refine P_goto dX8_passTick_102 (tgt := 49) rfl ?_
          refine P_few (ls2 := [some (vr m), none, some (vi (Int32.ofNat (i + 1))), none]) ⟨rfl, rfl, trivial⟩ ?_
          refine ih (i + 1) (by omega) _ hFA ?_
          have e9 : x_times (i + 1) Y = x_times i Y := if_neg (fun hh => by rw [n_nn (by omega)] at h68; exact Int32.not_lt.mpr hh.1 h68)
          rw [e9]
          exact hA
        · refine P_aloadn (i := 0) rfl rfl dX8_passTick_71 ?_
          refine gX8_7 rfl (by first | exact hM.k0 | exact hM.k1 | exact hM.k2 | exact hM.k3 | exact hM.k4 | exact hM.k5 | exact hM.k6 | exact hM.k7 | exact hM.k8 | exact hM.k9 | exact hM.k10 | exact hM.k11 | exact hM.k12 | exact hM.k13 | exact hM.k14 | exact hM.k15 | exact hM.k16 | exact hM.k17) hM.r256 dX8_passTick_72 ?_
          refine P_iconst (v := 0) rfl dX8_passTick_75 ?_
          refine P_iaN (j := 0) (by first | exact hM.k0 | exact hM.k1 | exact hM.k2 | exact hM.k3 | exact hM.k4 | exact hM.k5 | exact hM.k6 | exact hM.k7 | exact hM.k8 | exact hM.k9 | exact hM.k10 | exact hM.k11 | exact hM.k12 | exact hM.k13 | exact hM.k14 | exact hM.k15 | exact hM.k16 | exact hM.k17) rfl (by first | omega | (simp only [hM.l1, hM.l2, hM.l3, hM.l4, hM.l5, hM.l6, hM.l7, hM.l8, hM.l9, hM.l10, hM.l11, hM.l12, hM.l13, hM.l14, hM.l15, hM.l16, hM.l17]; omega)) (by first | omega | (simp only [hM.l1, hM.l2, hM.l3, hM.l4, hM.l5, hM.l6, hM.l7, hM.l8, hM.l9, hM.l10, hM.l11, hM.l12, hM.l13, hM.l14, hM.l15, hM.l16, hM.l17]; omega)) (hA.g (by omega) (by omega) (by omega) (by omega)) dX8_passTick_76 ?_
          refine P_iloadn (i := 3) rfl rfl dX8_passTick_77 ?_
          refine P_isub dX8_passTick_78 ?_
          refine P_aloadn (i := 0) rfl rfl dX8_passTick_79 ?_
          refine P_aloadn (i := 0) rfl rfl dX8_passTick_80 ?_
          refine P_iloadn (i := 2) rfl rfl dX8_passTick_81 ?_
          refine P_iconst (v := 1) rfl dX8_passTick_82 ?_
          refine kX8_102 rfl (s_ofP hM hA (k := 1) hi3 rfl (by decide)) (by decide) (by first | exact hM.k0 | exact hM.k1 | exact hM.k2 | exact hM.k3 | exact hM.k4 | exact hM.k5 | exact hM.k6 | exact hM.k7 | exact hM.k8 | exact hM.k9 | exact hM.k10 | exact hM.k11 | exact hM.k12 | exact hM.k13 | exact hM.k14 | exact hM.k15 | exact hM.k16 | exact hM.k17) rfl dX8_passTick_83 (fun r83 s83 q83 => ?_)
          obtain ⟨rfl, rfl⟩ := q83
          refine P_iconst (v := 1) rfl dX8_passTick_86 ?_
          refine kX8_152 rfl (s_ofN hM hA (k := 1) hto rfl (by decide)) (by decide) (by first | exact hM.k0 | exact hM.k1 | exact hM.k2 | exact hM.k3 | exact hM.k4 | exact hM.k5 | exact hM.k6 | exact hM.k7 | exact hM.k8 | exact hM.k9 | exact hM.k10 | exact hM.k11 | exact hM.k12 | exact hM.k13 | exact hM.k14 | exact hM.k15 | exact hM.k16 | exact hM.k17) rfl dX8_passTick_87 (fun r87 s87 q87 => ?_)
          obtain ⟨rfl, rfl⟩ := q87
          refine P_icmplt dX8_passTick_90 (tgt := 99) rfl (fun h90 => ?_) (fun h90 => ?_)
          · refine P_inN2 dX8_passTick_99 rfl rfl ?_
            refine P_goto dX8_passTick_102 (tgt := 49) rfl ?_
            refine P_few (ls2 := [some (vr m), none, some (vi (Int32.ofNat (i + 1))), none]) ⟨rfl, rfl, trivial⟩ ?_
            refine ih (i + 1) (by omega) _ hFA ?_
            have e9 : x_times (i + 1) Y = x_times i Y := if_neg (fun hh => by rw [n_nn (by omega)] at h90; exact Int32.not_lt.mpr hh.2 h90)
            rw [e9]
            exact hA
          · refine P_aloadn (i := 0) rfl rfl dX8_passTick_93 ?_
            refine P_iloadn (i := 2) rfl rfl dX8_passTick_94 ?_
            refine P_iconst (v := 3) rfl dX8_passTick_95 ?_
            refine kX8_155 rfl (s_end hM hA hi3) (by decide) (by first | exact hM.k0 | exact hM.k1 | exact hM.k2 | exact hM.k3 | exact hM.k4 | exact hM.k5 | exact hM.k6 | exact hM.k7 | exact hM.k8 | exact hM.k9 | exact hM.k10 | exact hM.k11 | exact hM.k12 | exact hM.k13 | exact hM.k14 | exact hM.k15 | exact hM.k16 | exact hM.k17) rfl dX8_passTick_96 (fun r96 s96 q96 => ?_)
            obtain ⟨A2, rfl, rfl, hF2, hA2⟩ := q96
            refine P_inN2 dX8_passTick_99 rfl rfl ?_
            refine P_goto dX8_passTick_102 (tgt := 49) rfl ?_
            refine P_few (ls2 := [some (vr m), none, some (vi (Int32.ofNat (i + 1))), none]) ⟨rfl, rfl, trivial⟩ ?_
            refine ih (i + 1) (by omega) _ (hFA.tr hF2) ?_
            have e9 : x_times (i + 1) Y = x_end (x_times i Y) i 3 := if_pos ⟨by rw [n_nn (by omega)] at h68; exact Int32.not_lt.mp h68, by rw [n_nn (by omega)] at h90; exact Int32.not_lt.mp h90⟩
            rw [e9]
            rw [n_nn (by omega)] at hA2
            exact hA2
    refine P_iconst (v := 0) rfl dX8_passTick_47 ?_
    refine P_is2 (Or.inl dX8_passTick_48) rfl rfl ?_
    exact loop (xp Y) 0 (by omega) A0 hF0 hA0

  have loop1 : ∀ n s (Y : XW) (A : Nat → Nat → Int32), FA m AI A → RA A m Y → XI M Y → xr_fin n s Y → s ≤ 1000 → P g 8 iX8_passTick 2 [some (vr m), some (vi (Int32.ofNat s)), none, none] [] (L, FI, A, AL, AR) (0, 0) (RM L FI AI AL AR m (x_g (x_times (xp (x_run n s Y)) (x_run n s Y)) 0 (xG (x_times (xp (x_run n s Y)) (x_run n s Y)) 0 + 1)) none) := by
    intro n
    induction n with
    | zero =>
      intro s Y A hFA hA hIY hf hs1
      have hs30 := hA.s300
      refine P_iloadn (i := 1) rfl rfl dX8_passTick_2 ?_
      refine P_aloadn (i := 0) rfl rfl dX8_passTick_3 ?_
      refine gX8_7 rfl (by first | exact hM.k0 | exact hM.k1 | exact hM.k2 | exact hM.k3 | exact hM.k4 | exact hM.k5 | exact hM.k6 | exact hM.k7 | exact hM.k8 | exact hM.k9 | exact hM.k10 | exact hM.k11 | exact hM.k12 | exact hM.k13 | exact hM.k14 | exact hM.k15 | exact hM.k16 | exact hM.k17) hM.r256 dX8_passTick_4 ?_
      refine P_iconst (v := 3) rfl dX8_passTick_7 ?_
      refine P_iaN (j := 3) (by first | exact hM.k0 | exact hM.k1 | exact hM.k2 | exact hM.k3 | exact hM.k4 | exact hM.k5 | exact hM.k6 | exact hM.k7 | exact hM.k8 | exact hM.k9 | exact hM.k10 | exact hM.k11 | exact hM.k12 | exact hM.k13 | exact hM.k14 | exact hM.k15 | exact hM.k16 | exact hM.k17) rfl (by first | omega | (simp only [hM.l1, hM.l2, hM.l3, hM.l4, hM.l5, hM.l6, hM.l7, hM.l8, hM.l9, hM.l10, hM.l11, hM.l12, hM.l13, hM.l14, hM.l15, hM.l16, hM.l17]; omega)) (by first | omega | (simp only [hM.l1, hM.l2, hM.l3, hM.l4, hM.l5, hM.l6, hM.l7, hM.l8, hM.l9, hM.l10, hM.l11, hM.l12, hM.l13, hM.l14, hM.l15, hM.l16, hM.l17]; omega)) hA.ns dX8_passTick_8 ?_
      refine P_icmpge dX8_passTick_9 (tgt := 47) rfl (fun h9 => ?_) (fun h9 => absurd ((n_le (by omega) (by omega)).mpr hf) h9)
      refine P_few (ls2 := [some (vr m), none, none, none]) ⟨rfl, trivial⟩ ?_
      exact J47 Y A hFA hA hIY
    | succ n ih =>
      intro s Y A hFA hA hIY hf hs1
      have hs30 := hA.s300
      refine P_iloadn (i := 1) rfl rfl dX8_passTick_2 ?_
      refine P_aloadn (i := 0) rfl rfl dX8_passTick_3 ?_
      refine gX8_7 rfl (by first | exact hM.k0 | exact hM.k1 | exact hM.k2 | exact hM.k3 | exact hM.k4 | exact hM.k5 | exact hM.k6 | exact hM.k7 | exact hM.k8 | exact hM.k9 | exact hM.k10 | exact hM.k11 | exact hM.k12 | exact hM.k13 | exact hM.k14 | exact hM.k15 | exact hM.k16 | exact hM.k17) hM.r256 dX8_passTick_4 ?_
      refine P_iconst (v := 3) rfl dX8_passTick_7 ?_
      refine P_iaN (j := 3) (by first | exact hM.k0 | exact hM.k1 | exact hM.k2 | exact hM.k3 | exact hM.k4 | exact hM.k5 | exact hM.k6 | exact hM.k7 | exact hM.k8 | exact hM.k9 | exact hM.k10 | exact hM.k11 | exact hM.k12 | exact hM.k13 | exact hM.k14 | exact hM.k15 | exact hM.k16 | exact hM.k17) rfl (by first | omega | (simp only [hM.l1, hM.l2, hM.l3, hM.l4, hM.l5, hM.l6, hM.l7, hM.l8, hM.l9, hM.l10, hM.l11, hM.l12, hM.l13, hM.l14, hM.l15, hM.l16, hM.l17]; omega)) (by first | omega | (simp only [hM.l1, hM.l2, hM.l3, hM.l4, hM.l5, hM.l6, hM.l7, hM.l8, hM.l9, hM.l10, hM.l11, hM.l12, hM.l13, hM.l14, hM.l15, hM.l16, hM.l17]; omega)) hA.ns dX8_passTick_8 ?_
      refine P_icmpge dX8_passTick_9 (tgt := 47) rfl (fun h9 => ?_) (fun h9 => ?_)
      · refine P_few (ls2 := [some (vr m), none, none, none]) ⟨rfl, trivial⟩ ?_
        rw [n_le (by omega) (by omega)] at h9
        have e9 : x_run (n + 1) s Y = Y := if_neg (by omega)
        rw [e9]
        exact J47 Y A hFA hA hIY
      · rw [n_le (by omega) (by omega)] at h9
        have hlt : s < (xS Y).length := by omega
        obtain ⟨f1, f2, f3⟩ := hf hlt
        have hs3 : ib (Int32.ofNat s) (xS Y).length := ib.of hlt (by omega)
        have hns : nn (Int32.ofNat s) = s := n_nn (by omega)
        obtain ⟨k1, k2, k3⟩ := hIY.still hMM hlt
        refine P_iloadn (i := 1) rfl rfl dX8_passTick_12 ?_
        refine P_aloadn (i := 0) rfl rfl dX8_passTick_13 ?_
        refine P_iloadn (i := 1) rfl rfl dX8_passTick_14 ?_
        refine P_bipush (v := 6) rfl dX8_passTick_15 ?_
        refine kX8_108 rfl (s_ofS hM hA (k := 6) hs3 rfl (by decide)) (by decide) (by first | exact hM.k0 | exact hM.k1 | exact hM.k2 | exact hM.k3 | exact hM.k4 | exact hM.k5 | exact hM.k6 | exact hM.k7 | exact hM.k8 | exact hM.k9 | exact hM.k10 | exact hM.k11 | exact hM.k12 | exact hM.k13 | exact hM.k14 | exact hM.k15 | exact hM.k16 | exact hM.k17) rfl dX8_passTick_17 (fun r17 s17 q17 => ?_)
        obtain ⟨rfl, rfl⟩ := q17
        rw [hns]
        refine P_aloadn (i := 0) rfl rfl dX8_passTick_20 ?_
        refine gX8_7 rfl (by first | exact hM.k0 | exact hM.k1 | exact hM.k2 | exact hM.k3 | exact hM.k4 | exact hM.k5 | exact hM.k6 | exact hM.k7 | exact hM.k8 | exact hM.k9 | exact hM.k10 | exact hM.k11 | exact hM.k12 | exact hM.k13 | exact hM.k14 | exact hM.k15 | exact hM.k16 | exact hM.k17) hM.r256 dX8_passTick_21 ?_
        refine P_iconst (v := 0) rfl dX8_passTick_24 ?_
        refine P_iaN (j := 0) (by first | exact hM.k0 | exact hM.k1 | exact hM.k2 | exact hM.k3 | exact hM.k4 | exact hM.k5 | exact hM.k6 | exact hM.k7 | exact hM.k8 | exact hM.k9 | exact hM.k10 | exact hM.k11 | exact hM.k12 | exact hM.k13 | exact hM.k14 | exact hM.k15 | exact hM.k16 | exact hM.k17) rfl (by first | omega | (simp only [hM.l1, hM.l2, hM.l3, hM.l4, hM.l5, hM.l6, hM.l7, hM.l8, hM.l9, hM.l10, hM.l11, hM.l12, hM.l13, hM.l14, hM.l15, hM.l16, hM.l17]; omega)) (by first | omega | (simp only [hM.l1, hM.l2, hM.l3, hM.l4, hM.l5, hM.l6, hM.l7, hM.l8, hM.l9, hM.l10, hM.l11, hM.l12, hM.l13, hM.l14, hM.l15, hM.l16, hM.l17]; omega)) (hA.g (by omega) (by omega) (by omega) (by omega)) dX8_passTick_25 ?_
        refine P_icmpgt dX8_passTick_26 (tgt := 37) rfl (fun h26 => ?_) (fun h26 => ?_)
        · refine P_iconst (v := 1) rfl dX8_passTick_37 ?_
          refine P_goto dX8_passTick_38 (tgt := 42) rfl ?_
          refine P_iadd dX8_passTick_42 ?_
          refine P_is1 (Or.inl dX8_passTick_43) rfl rfl ?_
          refine P_goto dX8_passTick_44 (tgt := 2) rfl ?_
          rw [show Int32.ofNat s + 1 = Int32.ofNat (s + 1) from n_add s 1]
          have e9 : x_run (n + 1) s Y = x_run n (s + 1) Y := (if_pos hlt).trans (if_pos h26)
          rw [e9]
          exact ih (s + 1) Y A hFA hA hIY (f1 h26) (by omega)
        · refine P_aloadn (i := 0) rfl rfl dX8_passTick_29 ?_
          refine P_iloadn (i := 1) rfl rfl dX8_passTick_30 ?_
          refine kX8_190 rfl (s_isStill hM hA hIY hMM hs3) (by decide) (by first | exact hM.k0 | exact hM.k1 | exact hM.k2 | exact hM.k3 | exact hM.k4 | exact hM.k5 | exact hM.k6 | exact hM.k7 | exact hM.k8 | exact hM.k9 | exact hM.k10 | exact hM.k11 | exact hM.k12 | exact hM.k13 | exact hM.k14 | exact hM.k15 | exact hM.k16 | exact hM.k17) rfl dX8_passTick_31 (fun r31 s31 q31 => ?_)
          obtain ⟨A2, rfl, rfl, hF2, hA2⟩ := q31
          rw [hns] at hA2
          rw [hns]
          refine P_ifeq dX8_passTick_34 (tgt := 41) rfl (fun h34 => ?_) (fun h34 => ?_)
          · refine P_iconst (v := 0) rfl dX8_passTick_41 ?_
            refine P_iadd dX8_passTick_42 ?_
            refine P_is1 (Or.inl dX8_passTick_43) rfl rfl ?_
            refine P_goto dX8_passTick_44 (tgt := 2) rfl ?_
            rw [show Int32.ofNat s + 0 = Int32.ofNat s from n_add s 0]
            have e9 : x_run (n + 1) s Y = x_run n s (x_still Y s).1 := (if_pos hlt).trans ((if_neg h26).trans (if_neg (b_f h34)))
            rw [e9]
            exact ih s _ A2 (hFA.tr hF2) hA2 k1 (f3 h26 (by simpa using b_f h34)) hs1
          · refine P_iconst (v := 1) rfl dX8_passTick_37 ?_
            refine P_goto dX8_passTick_38 (tgt := 42) rfl ?_
            refine P_iadd dX8_passTick_42 ?_
            refine P_is1 (Or.inl dX8_passTick_43) rfl rfl ?_
            refine P_goto dX8_passTick_44 (tgt := 2) rfl ?_
            rw [show Int32.ofNat s + 1 = Int32.ofNat (s + 1) from n_add s 1]
            have e9 : x_run (n + 1) s Y = x_run n (s + 1) (x_still Y s).1 := (if_pos hlt).trans ((if_neg h26).trans (if_pos (b_t h34)))
            rw [e9]
            exact ih (s + 1) _ A2 (hFA.tr hF2) hA2 k1 (f2 h26 (b_t h34)) (by omega)
  refine P_iconst (v := 0) rfl dX8_passTick_0 ?_
  refine P_is1 (Or.inl dX8_passTick_1) rfl rfl ?_
  exact loop1 601 0 X AI FA.rf hA hI (xr_fin_0 hMM hI) (by omega)
end Ref10
