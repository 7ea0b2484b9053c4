theorem RA.setG {AI : Nat → Nat → Int32} {m : Nat} {X : XW} {k : Nat} {v : Int32} (h : RA AI m X) (hk : k < 14) (h1 : k ≠ 1) (h2 : k ≠ 2) (h3 : k ≠ 3) : RA (p_up AI (m + 1) k v) m (x_g X k v) := RA.up (RF.setG h hk h1 h2 h3)
theorem RA.setN {AI : Nat → Nat → Int32} {m : Nat} {X : XW} {i k : Nat} {v : Int32} (h : RA AI m X) (hi : i < 8) (hk : k < 11) : RA (p_up AI (m + 1) (14 + 11 * i + k) v) m (x_n X i k v) := RA.up (RF.setN h hi hk)
theorem RA.setB {AI : Nat → Nat → Int32} {m : Nat} {X : XW} {i k : Nat} {v : Int32} (h : RA AI m X) (hi : i < xb X) (hk : k < 9) : RA (p_up AI (m + 1) (102 + 9 * i + k) v) m (x_b X i k v) := RA.up (RF.setB h hi hk)
theorem RA.setP {AI : Nat → Nat → Int32} {m : Nat} {X : XW} {i k : Nat} {v : Int32} (h : RA AI m X) (hi : i < xp X) (hk : k < 14) : RA (p_up AI (m + 1) (246 + 14 * i + k) v) m (x_p X i k v) := RA.up (RF.setP h hi hk)
section Ref4
variable {g : PG} {L : PL} {FI AI : Nat → Nat → Int32} {AL : Nat → Nat → Int64} {AR : Nat → Nat → Option Nat} {m : Nat} {X : XW}
theorem s_end (hM : WM L m) (hA : RA AI m X) {p stt : Int32} (hp : ib p (xp X)) : Sp g 1 iX8_end [vr m, vi p, vi stt] (L, FI, AI, AL, AR) (0, 0) (RM L FI AI AL AR m (x_end X (nn p) stt) none) := by
  refine Sp.of (ls := [some (vr m), some (vi p), some (vi stt), none]) (by decide +kernel) rfl rfl ?_
  have hp9 := hp.nn
  have hp40 := hA.p40
  have hp40b : ib p 40 := hp.mono (by omega)
  have hF := FA.rf (m := m) (A := AI)
  refine P_aloadn (i := 0) rfl rfl dX8_end_0 ?_
  refine P_iloadn (i := 1) rfl rfl dX8_end_1 ?_
  refine P_iconst (v := 5) rfl dX8_end_2 ?_
  refine P_iloadn (i := 2) rfl rfl dX8_end_3 ?_
  refine kX8_105 rfl (s_layP hM (k := 5) hp40b rfl (by decide)) (by decide) (by first | exact hM.k0 | exact hM.k1 | exact hM.k2 | exact hM.k3 | exact hM.k4 | exact hM.k5 | exact hM.k6 | exact hM.k7 | exact hM.k8 | exact hM.k9 | exact hM.k10 | exact hM.k11 | exact hM.k12 | exact hM.k13 | exact hM.k14 | exact hM.k15 | exact hM.k16 | exact hM.k17) rfl dX8_end_4 (fun r4 s4 q4 => ?_)
  obtain ⟨rfl, rfl⟩ := q4
  have hF := hF.u1 (j := 246 + 14 * nn p + 5) (v := stt)
  have hA := hA.setP (i := nn p) (k := 5) (v := stt) hp9 (by decide)
  refine P_aloadn (i := 0) rfl rfl dX8_end_7 ?_
  refine P_iloadn (i := 1) rfl rfl dX8_end_8 ?_
  refine P_bipush (v := 10) rfl dX8_end_9 ?_
  refine P_aloadn (i := 0) rfl rfl dX8_end_11 ?_
  refine gX8_7 rfl (by first | exact hM.k0 | exact hM.k1 | exact hM.k2 | exact hM.k3 | exact hM.k4 | exact hM.k5 | exact hM.k6 | exact hM.k7 | exact hM.k8 | exact hM.k9 | exact hM.k10 | exact hM.k11 | exact hM.k12 | exact hM.k13 | exact hM.k14 | exact hM.k15 | exact hM.k16 | exact hM.k17) hM.r256 dX8_end_12 ?_
  refine P_iconst (v := 0) rfl dX8_end_15 ?_
  refine P_iaN (j := 0) (by first | exact hM.k0 | exact hM.k1 | exact hM.k2 | exact hM.k3 | exact hM.k4 | exact hM.k5 | exact hM.k6 | exact hM.k7 | exact hM.k8 | exact hM.k9 | exact hM.k10 | exact hM.k11 | exact hM.k12 | exact hM.k13 | exact hM.k14 | exact hM.k15 | exact hM.k16 | exact hM.k17) rfl (by first | omega | (simp only [hM.l1, hM.l2, hM.l3, hM.l4, hM.l5, hM.l6, hM.l7, hM.l8, hM.l9, hM.l10, hM.l11, hM.l12, hM.l13, hM.l14, hM.l15, hM.l16, hM.l17]; omega)) (by first | omega | (simp only [hM.l1, hM.l2, hM.l3, hM.l4, hM.l5, hM.l6, hM.l7, hM.l8, hM.l9, hM.l10, hM.l11, hM.l12, hM.l13, hM.l14, hM.l15, hM.l16, hM.l17]; omega)) (show _ = xG X 0 from hA.g (by omega) (by omega) (by omega) (by omega)) dX8_end_16 ?_
  refine kX8_105 rfl (s_layP hM (k := 10) hp40b rfl (by decide)) (by decide) (by first | exact hM.k0 | exact hM.k1 | exact hM.k2 | exact hM.k3 | exact hM.k4 | exact hM.k5 | exact hM.k6 | exact hM.k7 | exact hM.k8 | exact hM.k9 | exact hM.k10 | exact hM.k11 | exact hM.k12 | exact hM.k13 | exact hM.k14 | exact hM.k15 | exact hM.k16 | exact hM.k17) rfl dX8_end_17 (fun r17 s17 q17 => ?_)
  obtain ⟨rfl, rfl⟩ := q17
  have hF := hF.u1 (j := 246 + 14 * nn p + 10) (v := (xG X 0))
  have hA := hA.setP (i := nn p) (k := 10) (v := (xG X 0)) hp9 (by decide)
  refine P_aloadn (i := 0) rfl rfl dX8_end_20 ?_
  refine P_iloadn (i := 1) rfl rfl dX8_end_21 ?_
  refine P_bipush (v := 12) rfl dX8_end_22 ?_
  refine P_iconst (v := 0) rfl dX8_end_24 ?_
  refine kX8_105 rfl (s_layP hM (k := 12) hp40b rfl (by decide)) (by decide) (by first | exact hM.k0 | exact hM.k1 | exact hM.k2 | exact hM.k3 | exact hM.k4 | exact hM.k5 | exact hM.k6 | exact hM.k7 | exact hM.k8 | exact hM.k9 | exact hM.k10 | exact hM.k11 | exact hM.k12 | exact hM.k13 | exact hM.k14 | exact hM.k15 | exact hM.k16 | exact hM.k17) rfl dX8_end_25 (fun r25 s25 q25 => ?_)
  obtain ⟨rfl, rfl⟩ := q25
  have hF := hF.u1 (j := 246 + 14 * nn p + 12) (v := 0)
  have hA := hA.setP (i := nn p) (k := 12) (v := 0) hp9 (by decide)
  refine P_aloadn (i := 0) rfl rfl dX8_end_28 ?_
  refine P_iloadn (i := 1) rfl rfl dX8_end_29 ?_
  refine P_bipush (v := 9) rfl dX8_end_30 ?_
  refine P_bipush (v := (-6)) rfl dX8_end_32 ?_
  refine kX8_105 rfl (s_layP hM (k := 9) hp40b rfl (by decide)) (by decide) (by first | exact hM.k0 | exact hM.k1 | exact hM.k2 | exact hM.k3 | exact hM.k4 | exact hM.k5 | exact hM.k6 | exact hM.k7 | exact hM.k8 | exact hM.k9 | exact hM.k10 | exact hM.k11 | exact hM.k12 | exact hM.k13 | exact hM.k14 | exact hM.k15 | exact hM.k16 | exact hM.k17) rfl dX8_end_34 (fun r34 s34 q34 => ?_)
  obtain ⟨rfl, rfl⟩ := q34
  have hF := hF.u1 (j := 246 + 14 * nn p + 9) (v := (-6))
  have hA := hA.setP (i := nn p) (k := 9) (v := (-6)) hp9 (by decide)
  refine P_aloadn (i := 0) rfl rfl dX8_end_37 ?_
  refine P_iloadn (i := 1) rfl rfl dX8_end_38 ?_
  refine P_bipush (v := 8) rfl dX8_end_39 ?_
  refine P_bipush (v := (-6)) rfl dX8_end_41 ?_
  refine kX8_105 rfl (s_layP hM (k := 8) hp40b rfl (by decide)) (by decide) (by first | exact hM.k0 | exact hM.k1 | exact hM.k2 | exact hM.k3 | exact hM.k4 | exact hM.k5 | exact hM.k6 | exact hM.k7 | exact hM.k8 | exact hM.k9 | exact hM.k10 | exact hM.k11 | exact hM.k12 | exact hM.k13 | exact hM.k14 | exact hM.k15 | exact hM.k16 | exact hM.k17) rfl dX8_end_43 (fun r43 s43 q43 => ?_)
  obtain ⟨rfl, rfl⟩ := q43
  have hF := hF.u1 (j := 246 + 14 * nn p + 8) (v := (-6))
  have hA := hA.setP (i := nn p) (k := 8) (v := (-6)) hp9 (by decide)
  refine P_iconst (v := 0) rfl dX8_end_46 ?_
  refine P_is3 (Or.inl dX8_end_47) rfl rfl ?_
  generalize hA5 : p_up (p_up (p_up (p_up (p_up AI (m + 1) (246 + 14 * nn p + 5) stt) (m + 1) (246 + 14 * nn p + 10) (xG X 0)) (m + 1) (246 + 14 * nn p + 12) 0) (m + 1) (246 + 14 * nn p + 9) (-6)) (m + 1) (246 + 14 * nn p + 8) (-6) = A5 at hF hA ⊢
  have loop : ∀ n i, i + n = 4000 → ∀ (B : Nat → Nat → Int32) (hB : ∀ b, b ≠ m + 2 → B b = A5 b) (hC : ∀ z, B (m + 2) z = if 4000 * nn p ≤ z ∧ z < 4000 * nn p + i then -6 else A5 (m + 2) z), P g 1 iX8_end 48 [some (vr m), some (vi p), some (vi stt), some (vi (Int32.ofNat i))] [] (L, FI, B, AL, AR) (0, 0) (RM L FI AI AL AR m (x_end X (nn p) stt) none) := by
    intro n
    induction n with
    | zero =>
      intro i hi B hB hC
      refine P_iloadn (i := 3) rfl rfl dX8_end_48 ?_
      refine P_sipush (v := 4000) rfl dX8_end_49 ?_
      refine P_icmpge dX8_end_52 (tgt := 75) rfl (fun h52 => ?_) (fun h52 => absurd ((n_le (a := 4000) (by omega) (by omega)).mpr (by omega)) h52)
      refine P_return rfl dX8_end_75 ?_
      refine ⟨_, rfl, rfl, (fun b h1 h2 => (hB b h2).trans (hF b h1 h2)), ?_⟩
      have hA2 : RF (B (m + 1)) (A5 (m + 2)) (x_p (x_p (x_p (x_p (x_p X (nn p) 5 stt) (nn p) 10 (xG X 0)) (nn p) 12 0) (nn p) 9 (-6)) (nn p) 8 (-6)) := by rw [hB (m + 1) (by omega)]; exact hA
      refine RF.setT hA2 (fun q j hq hj => ?_)
      have hq2 : q < xp X := hq
      rw [hC]
      by_cases e : q = nn p
      · rw [if_pos (by omega), if_pos e]
      · rw [if_neg (by omega), if_neg e]
        exact hA.tt hq hj
    | succ n ih =>
      intro i hi B hB hC
      refine P_iloadn (i := 3) rfl rfl dX8_end_48 ?_
      refine P_sipush (v := 4000) rfl dX8_end_49 ?_
      refine P_icmpge dX8_end_52 (tgt := 75) rfl (fun h52 => absurd h52 (fun h9 => by have h8 := (n_le (a := 4000) (by omega) (by omega)).mp h9; omega)) (fun h52 => ?_)
      refine P_aloadn (i := 0) rfl rfl dX8_end_55 ?_
      refine gX8_14 rfl (by first | exact hM.k0 | exact hM.k1 | exact hM.k2 | exact hM.k3 | exact hM.k4 | exact hM.k5 | exact hM.k6 | exact hM.k7 | exact hM.k8 | exact hM.k9 | exact hM.k10 | exact hM.k11 | exact hM.k12 | exact hM.k13 | exact hM.k14 | exact hM.k15 | exact hM.k16 | exact hM.k17) hM.r257 dX8_end_56 ?_
      refine P_sipush (v := 4000) rfl dX8_end_59 ?_
      refine P_iloadn (i := 1) rfl rfl dX8_end_62 ?_
      refine P_imul dX8_end_63 ?_
      refine P_iloadn (i := 3) rfl rfl dX8_end_64 ?_
      refine P_iadd dX8_end_65 ?_
      refine P_bipush (v := (-6)) rfl dX8_end_66 ?_
      refine P_isN (j := 4000 * nn p + i) (by first | exact hM.k0 | exact hM.k1 | exact hM.k2 | exact hM.k3 | exact hM.k4 | exact hM.k5 | exact hM.k6 | exact hM.k7 | exact hM.k8 | exact hM.k9 | exact hM.k10 | exact hM.k11 | exact hM.k12 | exact hM.k13 | exact hM.k14 | exact hM.k15 | exact hM.k16 | exact hM.k17) (n_idt hp i) (by first | omega | (simp only [hM.l1, hM.l2, hM.l3, hM.l4, hM.l5, hM.l6, hM.l7, hM.l8, hM.l9, hM.l10, hM.l11, hM.l12, hM.l13, hM.l14, hM.l15, hM.l16, hM.l17]; omega)) (by first | omega | (simp only [hM.l1, hM.l2, hM.l3, hM.l4, hM.l5, hM.l6, hM.l7, hM.l8, hM.l9, hM.l10, hM.l11, hM.l12, hM.l13, hM.l14, hM.l15, hM.l16, hM.l17]; omega)) dX8_end_68 ?_
      refine P_inN3 dX8_end_69 rfl rfl ?_
      refine P_goto dX8_end_72 (tgt := 48) rfl ?_
      refine ih (i + 1) (by omega) _ (fun b hb => (p_up_oth hb).trans (hB b hb)) (fun z => ?_)
      rw [p_up_fn]
      by_cases e : z = 4000 * nn p + i
      · refine (if_pos e).trans ?_
        rw [if_pos (by omega)]
      · refine (if_neg e).trans ?_
        rw [hC]
        by_cases e2 : 4000 * nn p ≤ z ∧ z < 4000 * nn p + i
        · rw [if_pos e2, if_pos (by omega)]
        · rw [if_neg e2, if_neg (by omega)]
  exact loop 4000 0 (by omega) A5 (fun _ _ => rfl) (fun z => by rw [if_neg (by omega)])
theorem s_takes (hM : WM L m) (hA : RA AI m X) {b len : Int32} (hb : ib b (xb X)) : Sp g 0 iX8_takes [vr m, vi b, vi len] (L, FI, AI, AL, AR) (0, 0) (RM L FI AI AL AR m (x_takes X (nn b) len) (some (vi (if x_took X (nn b) = true then 0 else 1)))) := by
  refine Sp.of (ls := [some (vr m), some (vi b), some (vi len), none]) (by decide +kernel) rfl rfl ?_
  have hb9 := hb.nn
  have hb16 := hA.b16
  have x5 : xB (x_b X (nn b) 6 (xB X (nn b) 6 + 1)) (nn b) 5 = xB X (nn b) 5 := p_up_n2 _ _ _ _ (by decide)
  have x6 : xB (x_b X (nn b) 6 (xB X (nn b) 6 + 1)) (nn b) 6 = xB X (nn b) 6 + 1 := p_up_eq _ _ _ _
  have x7 : xB (x_b X (nn b) 6 (xB X (nn b) 6 + 1)) (nn b) 7 = xB X (nn b) 7 := p_up_n2 _ _ _ _ (by decide)
  have x8 : xB (x_b X (nn b) 6 (xB X (nn b) 6 + 1)) (nn b) 8 = xB X (nn b) 8 := p_up_n2 _ _ _ _ (by decide)
  refine P_bipush (v := 102) rfl dX8_takes_0 ?_
  refine P_bipush (v := 9) rfl dX8_takes_2 ?_
  refine P_iloadn (i := 1) rfl rfl dX8_takes_4 ?_
  refine P_imul dX8_takes_5 ?_
  refine P_iadd dX8_takes_6 ?_
  refine P_is3 (Or.inl dX8_takes_7) rfl rfl ?_
  refine P_aloadn (i := 0) rfl rfl dX8_takes_8 ?_
  refine gX8_7 rfl (by first | exact hM.k0 | exact hM.k1 | exact hM.k2 | exact hM.k3 | exact hM.k4 | exact hM.k5 | exact hM.k6 | exact hM.k7 | exact hM.k8 | exact hM.k9 | exact hM.k10 | exact hM.k11 | exact hM.k12 | exact hM.k13 | exact hM.k14 | exact hM.k15 | exact hM.k16 | exact hM.k17) hM.r256 dX8_takes_9 ?_
  refine P_iloadn (i := 3) rfl rfl dX8_takes_12 ?_
  refine P_bipush (v := 6) rfl dX8_takes_13 ?_
  refine P_iadd dX8_takes_15 ?_
  refine P_dup2 rfl rfl dX8_takes_16 ?_
  refine P_iaN (j := 102 + 9 * nn b + 6) (by first | exact hM.k0 | exact hM.k1 | exact hM.k2 | exact hM.k3 | exact hM.k4 | exact hM.k5 | exact hM.k6 | exact hM.k7 | exact hM.k8 | exact hM.k9 | exact hM.k10 | exact hM.k11 | exact hM.k12 | exact hM.k13 | exact hM.k14 | exact hM.k15 | exact hM.k16 | exact hM.k17) (n_idx (c := 102) (a := 9) (k := 6) hb) (by first | omega | (simp only [hM.l1, hM.l2, hM.l3, hM.l4, hM.l5, hM.l6, hM.l7, hM.l8, hM.l9, hM.l10, hM.l11, hM.l12, hM.l13, hM.l14, hM.l15, hM.l16, hM.l17]; omega)) (by first | omega | (simp only [hM.l1, hM.l2, hM.l3, hM.l4, hM.l5, hM.l6, hM.l7, hM.l8, hM.l9, hM.l10, hM.l11, hM.l12, hM.l13, hM.l14, hM.l15, hM.l16, hM.l17]; omega)) (hA.b hb9 (by decide)) dX8_takes_17 ?_
  refine P_iconst (v := 1) rfl dX8_takes_18 ?_
  refine P_iadd dX8_takes_19 ?_
  refine P_isN (j := 102 + 9 * nn b + 6) (by first | exact hM.k0 | exact hM.k1 | exact hM.k2 | exact hM.k3 | exact hM.k4 | exact hM.k5 | exact hM.k6 | exact hM.k7 | exact hM.k8 | exact hM.k9 | exact hM.k10 | exact hM.k11 | exact hM.k12 | exact hM.k13 | exact hM.k14 | exact hM.k15 | exact hM.k16 | exact hM.k17) (n_idx (c := 102) (a := 9) (k := 6) hb) (by first | omega | (simp only [hM.l1, hM.l2, hM.l3, hM.l4, hM.l5, hM.l6, hM.l7, hM.l8, hM.l9, hM.l10, hM.l11, hM.l12, hM.l13, hM.l14, hM.l15, hM.l16, hM.l17]; omega)) (by first | omega | (simp only [hM.l1, hM.l2, hM.l3, hM.l4, hM.l5, hM.l6, hM.l7, hM.l8, hM.l9, hM.l10, hM.l11, hM.l12, hM.l13, hM.l14, hM.l15, hM.l16, hM.l17]; omega)) dX8_takes_20 ?_
  have hF := (FA.rf (m := m) (A := AI)).u1 (j := 102 + 9 * nn b + 6) (v := xB X (nn b) 6 + 1)
  have hA := hA.setB (i := nn b) (k := 6) (v := xB X (nn b) 6 + 1) hb9 (by decide)
  refine P_aloadn (i := 0) rfl rfl dX8_takes_21 ?_
  refine gX8_7 rfl (by first | exact hM.k0 | exact hM.k1 | exact hM.k2 | exact hM.k3 | exact hM.k4 | exact hM.k5 | exact hM.k6 | exact hM.k7 | exact hM.k8 | exact hM.k9 | exact hM.k10 | exact hM.k11 | exact hM.k12 | exact hM.k13 | exact hM.k14 | exact hM.k15 | exact hM.k16 | exact hM.k17) hM.r256 dX8_takes_22 ?_
  refine P_iloadn (i := 3) rfl rfl dX8_takes_25 ?_
  refine P_iconst (v := 5) rfl dX8_takes_26 ?_
  refine P_iadd dX8_takes_27 ?_
  refine P_iaN (j := 102 + 9 * nn b + 5) (by first | exact hM.k0 | exact hM.k1 | exact hM.k2 | exact hM.k3 | exact hM.k4 | exact hM.k5 | exact hM.k6 | exact hM.k7 | exact hM.k8 | exact hM.k9 | exact hM.k10 | exact hM.k11 | exact hM.k12 | exact hM.k13 | exact hM.k14 | exact hM.k15 | exact hM.k16 | exact hM.k17) (n_idx (c := 102) (a := 9) (k := 5) hb) (by first | omega | (simp only [hM.l1, hM.l2, hM.l3, hM.l4, hM.l5, hM.l6, hM.l7, hM.l8, hM.l9, hM.l10, hM.l11, hM.l12, hM.l13, hM.l14, hM.l15, hM.l16, hM.l17]; omega)) (by first | omega | (simp only [hM.l1, hM.l2, hM.l3, hM.l4, hM.l5, hM.l6, hM.l7, hM.l8, hM.l9, hM.l10, hM.l11, hM.l12, hM.l13, hM.l14, hM.l15, hM.l16, hM.l17]; omega)) ((hA.b hb9 (by decide)).trans x5) dX8_takes_28 ?_
  refine P_ifle dX8_takes_29 (tgt := 68) rfl (fun h29 => ?_) (fun h29 => ?_)
  · refine P_aloadn (i := 0) rfl rfl dX8_takes_68 ?_
    refine gX8_7 rfl (by first | exact hM.k0 | exact hM.k1 | exact hM.k2 | exact hM.k3 | exact hM.k4 | exact hM.k5 | exact hM.k6 | exact hM.k7 | exact hM.k8 | exact hM.k9 | exact hM.k10 | exact hM.k11 | exact hM.k12 | exact hM.k13 | exact hM.k14 | exact hM.k15 | exact hM.k16 | exact hM.k17) hM.r256 dX8_takes_69 ?_
    refine P_iloadn (i := 3) rfl rfl dX8_takes_72 ?_
    refine P_bipush (v := 8) rfl dX8_takes_73 ?_
    refine P_iadd dX8_takes_75 ?_
    refine P_dup2 rfl rfl dX8_takes_76 ?_
    refine P_iaN (j := 102 + 9 * nn b + 8) (by first | exact hM.k0 | exact hM.k1 | exact hM.k2 | exact hM.k3 | exact hM.k4 | exact hM.k5 | exact hM.k6 | exact hM.k7 | exact hM.k8 | exact hM.k9 | exact hM.k10 | exact hM.k11 | exact hM.k12 | exact hM.k13 | exact hM.k14 | exact hM.k15 | exact hM.k16 | exact hM.k17) (n_idx (c := 102) (a := 9) (k := 8) hb) (by first | omega | (simp only [hM.l1, hM.l2, hM.l3, hM.l4, hM.l5, hM.l6, hM.l7, hM.l8, hM.l9, hM.l10, hM.l11, hM.l12, hM.l13, hM.l14, hM.l15, hM.l16, hM.l17]; omega)) (by first | omega | (simp only [hM.l1, hM.l2, hM.l3, hM.l4, hM.l5, hM.l6, hM.l7, hM.l8, hM.l9, hM.l10, hM.l11, hM.l12, hM.l13, hM.l14, hM.l15, hM.l16, hM.l17]; omega)) ((hA.b hb9 (by decide)).trans x8) dX8_takes_77 ?_
    refine P_iloadn (i := 2) rfl rfl dX8_takes_78 ?_
    refine P_bipush (v := 8) rfl dX8_takes_79 ?_
    refine P_iadd dX8_takes_81 ?_
    refine P_iadd dX8_takes_82 ?_
    refine P_isN (j := 102 + 9 * nn b + 8) (by first | exact hM.k0 | exact hM.k1 | exact hM.k2 | exact hM.k3 | exact hM.k4 | exact hM.k5 | exact hM.k6 | exact hM.k7 | exact hM.k8 | exact hM.k9 | exact hM.k10 | exact hM.k11 | exact hM.k12 | exact hM.k13 | exact hM.k14 | exact hM.k15 | exact hM.k16 | exact hM.k17) (n_idx (c := 102) (a := 9) (k := 8) hb) (by first | omega | (simp only [hM.l1, hM.l2, hM.l3, hM.l4, hM.l5, hM.l6, hM.l7, hM.l8, hM.l9, hM.l10, hM.l11, hM.l12, hM.l13, hM.l14, hM.l15, hM.l16, hM.l17]; omega)) (by first | omega | (simp only [hM.l1, hM.l2, hM.l3, hM.l4, hM.l5, hM.l6, hM.l7, hM.l8, hM.l9, hM.l10, hM.l11, hM.l12, hM.l13, hM.l14, hM.l15, hM.l16, hM.l17]; omega)) dX8_takes_83 ?_
    have hF := hF.u1 (j := 102 + 9 * nn b + 8) (v := xB X (nn b) 8 + (len + 8))
    have hA := hA.setB (i := nn b) (k := 8) (v := xB X (nn b) 8 + (len + 8)) hb9 (by decide)
    refine P_iconst (v := 1) rfl dX8_takes_84 ?_
    refine P_zreturn rfl (by first | exact Or.inl rfl | exact Or.inr rfl | assumption) dX8_takes_85 ?_
    have e : x_took X (nn b) = false := by
      unfold x_took c_lost
      rw [Bool.and_eq_false_iff]
      exact Or.inl (decide_eq_false (Int32.not_lt.mpr h29))
    refine ⟨_, rfl, ?_, hF, ?_⟩
    · rw [e]; rfl
    · unfold x_takes; rw [e]; exact hA
  · refine P_aloadn (i := 0) rfl rfl dX8_takes_32 ?_
    refine gX8_7 rfl (by first | exact hM.k0 | exact hM.k1 | exact hM.k2 | exact hM.k3 | exact hM.k4 | exact hM.k5 | exact hM.k6 | exact hM.k7 | exact hM.k8 | exact hM.k9 | exact hM.k10 | exact hM.k11 | exact hM.k12 | exact hM.k13 | exact hM.k14 | exact hM.k15 | exact hM.k16 | exact hM.k17) hM.r256 dX8_takes_33 ?_
    refine P_iloadn (i := 3) rfl rfl dX8_takes_36 ?_
    refine P_bipush (v := 6) rfl dX8_takes_37 ?_
    refine P_iadd dX8_takes_39 ?_
    refine P_iaN (j := 102 + 9 * nn b + 6) (by first | exact hM.k0 | exact hM.k1 | exact hM.k2 | exact hM.k3 | exact hM.k4 | exact hM.k5 | exact hM.k6 | exact hM.k7 | exact hM.k8 | exact hM.k9 | exact hM.k10 | exact hM.k11 | exact hM.k12 | exact hM.k13 | exact hM.k14 | exact hM.k15 | exact hM.k16 | exact hM.k17) (n_idx (c := 102) (a := 9) (k := 6) hb) (by first | omega | (simp only [hM.l1, hM.l2, hM.l3, hM.l4, hM.l5, hM.l6, hM.l7, hM.l8, hM.l9, hM.l10, hM.l11, hM.l12, hM.l13, hM.l14, hM.l15, hM.l16, hM.l17]; omega)) (by first | omega | (simp only [hM.l1, hM.l2, hM.l3, hM.l4, hM.l5, hM.l6, hM.l7, hM.l8, hM.l9, hM.l10, hM.l11, hM.l12, hM.l13, hM.l14, hM.l15, hM.l16, hM.l17]; omega)) ((hA.b hb9 (by decide)).trans x6) dX8_takes_40 ?_
    refine P_aloadn (i := 0) rfl rfl dX8_takes_41 ?_
    refine gX8_7 rfl (by first | exact hM.k0 | exact hM.k1 | exact hM.k2 | exact hM.k3 | exact hM.k4 | exact hM.k5 | exact hM.k6 | exact hM.k7 | exact hM.k8 | exact hM.k9 | exact hM.k10 | exact hM.k11 | exact hM.k12 | exact hM.k13 | exact hM.k14 | exact hM.k15 | exact hM.k16 | exact hM.k17) hM.r256 dX8_takes_42 ?_
    refine P_iloadn (i := 3) rfl rfl dX8_takes_45 ?_
    refine P_iconst (v := 5) rfl dX8_takes_46 ?_
    refine P_iadd dX8_takes_47 ?_
    refine P_iaN (j := 102 + 9 * nn b + 5) (by first | exact hM.k0 | exact hM.k1 | exact hM.k2 | exact hM.k3 | exact hM.k4 | exact hM.k5 | exact hM.k6 | exact hM.k7 | exact hM.k8 | exact hM.k9 | exact hM.k10 | exact hM.k11 | exact hM.k12 | exact hM.k13 | exact hM.k14 | exact hM.k15 | exact hM.k16 | exact hM.k17) (n_idx (c := 102) (a := 9) (k := 5) hb) (by first | omega | (simp only [hM.l1, hM.l2, hM.l3, hM.l4, hM.l5, hM.l6, hM.l7, hM.l8, hM.l9, hM.l10, hM.l11, hM.l12, hM.l13, hM.l14, hM.l15, hM.l16, hM.l17]; omega)) (by first | omega | (simp only [hM.l1, hM.l2, hM.l3, hM.l4, hM.l5, hM.l6, hM.l7, hM.l8, hM.l9, hM.l10, hM.l11, hM.l12, hM.l13, hM.l14, hM.l15, hM.l16, hM.l17]; omega)) ((hA.b hb9 (by decide)).trans x5) dX8_takes_48 ?_
    refine P_irem (by intro e; rw [e] at h29; exact h29 (by decide)) dX8_takes_49 ?_
    refine P_ifne dX8_takes_50 (tgt := 68) rfl (fun h50 => ?_) (fun h50 => ?_)
    · refine P_aloadn (i := 0) rfl rfl dX8_takes_68 ?_
      refine gX8_7 rfl (by first | exact hM.k0 | exact hM.k1 | exact hM.k2 | exact hM.k3 | exact hM.k4 | exact hM.k5 | exact hM.k6 | exact hM.k7 | exact hM.k8 | exact hM.k9 | exact hM.k10 | exact hM.k11 | exact hM.k12 | exact hM.k13 | exact hM.k14 | exact hM.k15 | exact hM.k16 | exact hM.k17) hM.r256 dX8_takes_69 ?_
      refine P_iloadn (i := 3) rfl rfl dX8_takes_72 ?_
      refine P_bipush (v := 8) rfl dX8_takes_73 ?_
      refine P_iadd dX8_takes_75 ?_
      refine P_dup2 rfl rfl dX8_takes_76 ?_
      refine P_iaN (j := 102 + 9 * nn b + 8) (by first | exact hM.k0 | exact hM.k1 | exact hM.k2 | exact hM.k3 | exact hM.k4 | exact hM.k5 | exact hM.k6 | exact hM.k7 | exact hM.k8 | exact hM.k9 | exact hM.k10 | exact hM.k11 | exact hM.k12 | exact hM.k13 | exact hM.k14 | exact hM.k15 | exact hM.k16 | exact hM.k17) (n_idx (c := 102) (a := 9) (k := 8) hb) (by first | omega | (simp only [hM.l1, hM.l2, hM.l3, hM.l4, hM.l5, hM.l6, hM.l7, hM.l8, hM.l9, hM.l10, hM.l11, hM.l12, hM.l13, hM.l14, hM.l15, hM.l16, hM.l17]; omega)) (by first | omega | (simp only [hM.l1, hM.l2, hM.l3, hM.l4, hM.l5, hM.l6, hM.l7, hM.l8, hM.l9, hM.l10, hM.l11, hM.l12, hM.l13, hM.l14, hM.l15, hM.l16, hM.l17]; omega)) ((hA.b hb9 (by decide)).trans x8) dX8_takes_77 ?_
      refine P_iloadn (i := 2) rfl rfl dX8_takes_78 ?_
      refine P_bipush (v := 8) rfl dX8_takes_79 ?_
      refine P_iadd dX8_takes_81 ?_
      refine P_iadd dX8_takes_82 ?_
      refine P_isN (j := 102 + 9 * nn b + 8) (by first | exact hM.k0 | exact hM.k1 | exact hM.k2 | exact hM.k3 | exact hM.k4 | exact hM.k5 | exact hM.k6 | exact hM.k7 | exact hM.k8 | exact hM.k9 | exact hM.k10 | exact hM.k11 | exact hM.k12 | exact hM.k13 | exact hM.k14 | exact hM.k15 | exact hM.k16 | exact hM.k17) (n_idx (c := 102) (a := 9) (k := 8) hb) (by first | omega | (simp only [hM.l1, hM.l2, hM.l3, hM.l4, hM.l5, hM.l6, hM.l7, hM.l8, hM.l9, hM.l10, hM.l11, hM.l12, hM.l13, hM.l14, hM.l15, hM.l16, hM.l17]; omega)) (by first | omega | (simp only [hM.l1, hM.l2, hM.l3, hM.l4, hM.l5, hM.l6, hM.l7, hM.l8, hM.l9, hM.l10, hM.l11, hM.l12, hM.l13, hM.l14, hM.l15, hM.l16, hM.l17]; omega)) dX8_takes_83 ?_
      have hF := hF.u1 (j := 102 + 9 * nn b + 8) (v := xB X (nn b) 8 + (len + 8))
      have hA := hA.setB (i := nn b) (k := 8) (v := xB X (nn b) 8 + (len + 8)) hb9 (by decide)
      refine P_iconst (v := 1) rfl dX8_takes_84 ?_
      refine P_zreturn rfl (by first | exact Or.inl rfl | exact Or.inr rfl | assumption) dX8_takes_85 ?_
      have e : x_took X (nn b) = false := by
        unfold x_took c_lost
        rw [Bool.and_eq_false_iff]
        exact Or.inr (decide_eq_false h50)
      refine ⟨_, rfl, ?_, hF, ?_⟩
      · rw [e]; rfl
      · unfold x_takes; rw [e]; exact hA
    · refine P_aloadn (i := 0) rfl rfl dX8_takes_53 ?_
      refine gX8_7 rfl (by first | exact hM.k0 | exact hM.k1 | exact hM.k2 | exact hM.k3 | exact hM.k4 | exact hM.k5 | exact hM.k6 | exact hM.k7 | exact hM.k8 | exact hM.k9 | exact hM.k10 | exact hM.k11 | exact hM.k12 | exact hM.k13 | exact hM.k14 | exact hM.k15 | exact hM.k16 | exact hM.k17) hM.r256 dX8_takes_54 ?_
      refine P_iloadn (i := 3) rfl rfl dX8_takes_57 ?_
      refine P_bipush (v := 7) rfl dX8_takes_58 ?_
      refine P_iadd dX8_takes_60 ?_
      refine P_dup2 rfl rfl dX8_takes_61 ?_
      refine P_iaN (j := 102 + 9 * nn b + 7) (by first | exact hM.k0 | exact hM.k1 | exact hM.k2 | exact hM.k3 | exact hM.k4 | exact hM.k5 | exact hM.k6 | exact hM.k7 | exact hM.k8 | exact hM.k9 | exact hM.k10 | exact hM.k11 | exact hM.k12 | exact hM.k13 | exact hM.k14 | exact hM.k15 | exact hM.k16 | exact hM.k17) (n_idx (c := 102) (a := 9) (k := 7) hb) (by first | omega | (simp only [hM.l1, hM.l2, hM.l3, hM.l4, hM.l5, hM.l6, hM.l7, hM.l8, hM.l9, hM.l10, hM.l11, hM.l12, hM.l13, hM.l14, hM.l15, hM.l16, hM.l17]; omega)) (by first | omega | (simp only [hM.l1, hM.l2, hM.l3, hM.l4, hM.l5, hM.l6, hM.l7, hM.l8, hM.l9, hM.l10, hM.l11, hM.l12, hM.l13, hM.l14, hM.l15, hM.l16, hM.l17]; omega)) ((hA.b hb9 (by decide)).trans x7) dX8_takes_62 ?_
      refine P_iconst (v := 1) rfl dX8_takes_63 ?_
      refine P_iadd dX8_takes_64 ?_
      refine P_isN (j := 102 + 9 * nn b + 7) (by first | exact hM.k0 | exact hM.k1 | exact hM.k2 | exact hM.k3 | exact hM.k4 | exact hM.k5 | exact hM.k6 | exact hM.k7 | exact hM.k8 | exact hM.k9 | exact hM.k10 | exact hM.k11 | exact hM.k12 | exact hM.k13 | exact hM.k14 | exact hM.k15 | exact hM.k16 | exact hM.k17) (n_idx (c := 102) (a := 9) (k := 7) hb) (by first | omega | (simp only [hM.l1, hM.l2, hM.l3, hM.l4, hM.l5, hM.l6, hM.l7, hM.l8, hM.l9, hM.l10, hM.l11, hM.l12, hM.l13, hM.l14, hM.l15, hM.l16, hM.l17]; omega)) (by first | omega | (simp only [hM.l1, hM.l2, hM.l3, hM.l4, hM.l5, hM.l6, hM.l7, hM.l8, hM.l9, hM.l10, hM.l11, hM.l12, hM.l13, hM.l14, hM.l15, hM.l16, hM.l17]; omega)) dX8_takes_65 ?_
      have hF := hF.u1 (j := 102 + 9 * nn b + 7) (v := xB X (nn b) 7 + 1)
      have hA := hA.setB (i := nn b) (k := 7) (v := xB X (nn b) 7 + 1) hb9 (by decide)
      refine P_iconst (v := 0) rfl dX8_takes_66 ?_
      refine P_zreturn rfl (by first | exact Or.inl rfl | exact Or.inr rfl | assumption) dX8_takes_67 ?_
      have e : x_took X (nn b) = true := by
        unfold x_took c_lost
        rw [Bool.and_eq_true]
        exact ⟨decide_eq_true (Int32.not_le.mp h29), decide_eq_true h50⟩
      refine ⟨_, rfl, ?_, hF, ?_⟩
      · rw [e]; rfl
      · unfold x_takes; rw [e]; exact hA
theorem s_ofB0 (hM : WM L m) {p w : Int32} {k : Nat} (hp : ib p 16) (hw : w = Int32.ofNat k) (hk : k < 9) : Sp g 0 iX8_ofB [vr m, vi p, vi w] (L, FI, AI, AL, AR) (0, 0) (QI (L, FI, AI, AL, AR) (AI (m + 1) (102 + 9 * nn p + k))) := by
  refine Sp.of (ls := [some (vr m), some (vi p), some (vi w)]) (by decide +kernel) rfl rfl ?_
  subst hw
  have hp9 := hp.nn
  refine P_aloadn (i := 0) rfl rfl dX8_ofB_0 ?_
  refine gX8_7 rfl (by first | exact hM.k0 | exact hM.k1 | exact hM.k2 | exact hM.k3 | exact hM.k4 | exact hM.k5 | exact hM.k6 | exact hM.k7 | exact hM.k8 | exact hM.k9 | exact hM.k10 | exact hM.k11 | exact hM.k12 | exact hM.k13 | exact hM.k14 | exact hM.k15 | exact hM.k16 | exact hM.k17) hM.r256 dX8_ofB_1 ?_
  refine P_bipush (v := 102) rfl dX8_ofB_4 ?_
  refine P_bipush (v := 9) rfl dX8_ofB_6 ?_
  refine P_iloadn (i := 1) rfl rfl dX8_ofB_8 ?_
  refine P_imul dX8_ofB_9 ?_
  refine P_iadd dX8_ofB_10 ?_
  refine P_iloadn (i := 2) rfl rfl dX8_ofB_11 ?_
  refine P_iadd dX8_ofB_12 ?_
  refine P_iaN (j := 102 + 9 * nn p + k) (by first | exact hM.k0 | exact hM.k1 | exact hM.k2 | exact hM.k3 | exact hM.k4 | exact hM.k5 | exact hM.k6 | exact hM.k7 | exact hM.k8 | exact hM.k9 | exact hM.k10 | exact hM.k11 | exact hM.k12 | exact hM.k13 | exact hM.k14 | exact hM.k15 | exact hM.k16 | exact hM.k17) (n_idx hp) (by first | omega | (simp only [hM.l1, hM.l2, hM.l3, hM.l4, hM.l5, hM.l6, hM.l7, hM.l8, hM.l9, hM.l10, hM.l11, hM.l12, hM.l13, hM.l14, hM.l15, hM.l16, hM.l17]; omega)) (by first | omega | (simp only [hM.l1, hM.l2, hM.l3, hM.l4, hM.l5, hM.l6, hM.l7, hM.l8, hM.l9, hM.l10, hM.l11, hM.l12, hM.l13, hM.l14, hM.l15, hM.l16, hM.l17]; omega)) rfl dX8_ofB_13 ?_
  refine P_ireturn rfl dX8_ofB_14 ?_
  exact ⟨rfl, rfl⟩
theorem s_goOn (hM : WM L m) (hA : RA AI m X) {s b : Int32} (hs : ib s (xS X).length) (hb : ib b (xb X)) (hz : ¬ xB X (nn b) 4 = 0) : Sp g 1 iX8_goOn [vr m, vi s, vi b] (L, FI, AI, AL, AR) (0, 0) (RM L FI AI AL AR m (x_s X ((xS X).set (nn s) (x_over X (nn b) (x_at X (nn s))))) none) := by
  refine Sp.of (ls := [some (vr m), some (vi s), some (vi b)]) (by decide +kernel) rfl rfl ?_
  have hs9 := hs.nn
  have hs30 := hA.s300
  have hs3 : ib s 300 := hs.mono hs30
  refine P_aloadn (i := 0) rfl rfl dX8_goOn_0 ?_
  refine P_iloadn (i := 1) rfl rfl dX8_goOn_1 ?_
  refine P_bipush (v := 6) rfl dX8_goOn_2 ?_
  refine P_aloadn (i := 0) rfl rfl dX8_goOn_4 ?_
  refine gX8_7 rfl (by first | exact hM.k0 | exact hM.k1 | exact hM.k2 | exact hM.k3 | exact hM.k4 | exact hM.k5 | exact hM.k6 | exact hM.k7 | exact hM.k8 | exact hM.k9 | exact hM.k10 | exact hM.k11 | exact hM.k12 | exact hM.k13 | exact hM.k14 | exact hM.k15 | exact hM.k16 | exact hM.k17) hM.r256 dX8_goOn_5 ?_
  refine P_iconst (v := 0) rfl dX8_goOn_8 ?_
  refine P_iaN (j := 0) (by first | exact hM.k0 | exact hM.k1 | exact hM.k2 | exact hM.k3 | exact hM.k4 | exact hM.k5 | exact hM.k6 | exact hM.k7 | exact hM.k8 | exact hM.k9 | exact hM.k10 | exact hM.k11 | exact hM.k12 | exact hM.k13 | exact hM.k14 | exact hM.k15 | exact hM.k16 | exact hM.k17) rfl (by first | omega | (simp only [hM.l1, hM.l2, hM.l3, hM.l4, hM.l5, hM.l6, hM.l7, hM.l8, hM.l9, hM.l10, hM.l11, hM.l12, hM.l13, hM.l14, hM.l15, hM.l16, hM.l17]; omega)) (by first | omega | (simp only [hM.l1, hM.l2, hM.l3, hM.l4, hM.l5, hM.l6, hM.l7, hM.l8, hM.l9, hM.l10, hM.l11, hM.l12, hM.l13, hM.l14, hM.l15, hM.l16, hM.l17]; omega)) (hA.g (by omega) (by omega) (by omega) (by omega)) dX8_goOn_9 ?_
  refine P_aloadn (i := 0) rfl rfl dX8_goOn_10 ?_
  refine P_iloadn (i := 2) rfl rfl dX8_goOn_11 ?_
  refine P_iconst (v := 3) rfl dX8_goOn_12 ?_
  refine kX8_94 rfl (s_ofB hM hA (k := 3) (by first | assumption | (apply ib.mono (by assumption); omega)) rfl (by decide)) (by decide) (by first | exact hM.k0 | exact hM.k1 | exact hM.k2 | exact hM.k3 | exact hM.k4 | exact hM.k5 | exact hM.k6 | exact hM.k7 | exact hM.k8 | exact hM.k9 | exact hM.k10 | exact hM.k11 | exact hM.k12 | exact hM.k13 | exact hM.k14 | exact hM.k15 | exact hM.k16 | exact hM.k17) rfl dX8_goOn_13 (fun r13 s13 q13 => ?_)
  obtain ⟨rfl, rfl⟩ := q13
  refine P_iadd dX8_goOn_16 ?_
  refine P_aloadn (i := 0) rfl rfl dX8_goOn_17 ?_
  refine P_iloadn (i := 1) rfl rfl dX8_goOn_18 ?_
  refine P_iconst (v := 2) rfl dX8_goOn_19 ?_
  refine kX8_108 rfl (s_ofS hM hA (k := 2) (by first | assumption | (apply ib.mono (by assumption); omega)) rfl (by decide)) (by decide) (by first | exact hM.k0 | exact hM.k1 | exact hM.k2 | exact hM.k3 | exact hM.k4 | exact hM.k5 | exact hM.k6 | exact hM.k7 | exact hM.k8 | exact hM.k9 | exact hM.k10 | exact hM.k11 | exact hM.k12 | exact hM.k13 | exact hM.k14 | exact hM.k15 | exact hM.k16 | exact hM.k17) rfl dX8_goOn_20 (fun r20 s20 q20 => ?_)
  obtain ⟨rfl, rfl⟩ := q20
  refine P_bipush (v := 8) rfl dX8_goOn_23 ?_
  refine P_iadd dX8_goOn_25 ?_
  refine P_aloadn (i := 0) rfl rfl dX8_goOn_26 ?_
  refine P_iloadn (i := 2) rfl rfl dX8_goOn_27 ?_
  refine P_iconst (v := 4) rfl dX8_goOn_28 ?_
  refine kX8_94 rfl (s_ofB hM hA (k := 4) (by first | assumption | (apply ib.mono (by assumption); omega)) rfl (by decide)) (by decide) (by first | exact hM.k0 | exact hM.k1 | exact hM.k2 | exact hM.k3 | exact hM.k4 | exact hM.k5 | exact hM.k6 | exact hM.k7 | exact hM.k8 | exact hM.k9 | exact hM.k10 | exact hM.k11 | exact hM.k12 | exact hM.k13 | exact hM.k14 | exact hM.k15 | exact hM.k16 | exact hM.k17) rfl dX8_goOn_29 (fun r29 s29 q29 => ?_)
  obtain ⟨rfl, rfl⟩ := q29
  refine P_idiv hz dX8_goOn_32 ?_
  refine P_iadd dX8_goOn_33 ?_
  refine kX8_98 rfl (s_layS hM (k := 6) hs3 rfl (by decide)) (by decide) (by first | exact hM.k0 | exact hM.k1 | exact hM.k2 | exact hM.k3 | exact hM.k4 | exact hM.k5 | exact hM.k6 | exact hM.k7 | exact hM.k8 | exact hM.k9 | exact hM.k10 | exact hM.k11 | exact hM.k12 | exact hM.k13 | exact hM.k14 | exact hM.k15 | exact hM.k16 | exact hM.k17) rfl dX8_goOn_34 (fun r34 s34 q34 => ?_)
  obtain ⟨rfl, rfl⟩ := q34
  have hbv : ∀ k, k < 9 → p_up AI (m + 1) (806 + 9 * nn s + 6) (xG X 0 + xB X (nn b) 3 + (x_sl (x_at X (nn s)) 2 + 8) / xB X (nn b) 4) (m + 1) (102 + 9 * nn b + k) = xB X (nn b) k := fun k hk => (p_up_n2 _ _ _ _ (by have := hb.nn; have := hA.b16; omega)).trans (hA.b hb.nn hk)
  refine P_aloadn (i := 0) rfl rfl dX8_goOn_37 ?_
  refine P_iloadn (i := 1) rfl rfl dX8_goOn_38 ?_
  refine P_bipush (v := 7) rfl dX8_goOn_39 ?_
  refine P_aloadn (i := 0) rfl rfl dX8_goOn_41 ?_
  refine P_iloadn (i := 2) rfl rfl dX8_goOn_42 ?_
  refine P_iconst (v := 1) rfl dX8_goOn_43 ?_
  refine kX8_94 rfl (s_ofB0 hM (hb.mono hA.b16) (k := 1) rfl (by decide)) (by decide) (by first | exact hM.k0 | exact hM.k1 | exact hM.k2 | exact hM.k3 | exact hM.k4 | exact hM.k5 | exact hM.k6 | exact hM.k7 | exact hM.k8 | exact hM.k9 | exact hM.k10 | exact hM.k11 | exact hM.k12 | exact hM.k13 | exact hM.k14 | exact hM.k15 | exact hM.k16 | exact hM.k17) rfl dX8_goOn_44 (fun r44 s44 q44 => ?_)
  obtain ⟨rfl, rfl⟩ := q44
  rw [hbv 1 (by decide)]
  refine kX8_98 rfl (s_layS hM (k := 7) hs3 rfl (by decide)) (by decide) (by first | exact hM.k0 | exact hM.k1 | exact hM.k2 | exact hM.k3 | exact hM.k4 | exact hM.k5 | exact hM.k6 | exact hM.k7 | exact hM.k8 | exact hM.k9 | exact hM.k10 | exact hM.k11 | exact hM.k12 | exact hM.k13 | exact hM.k14 | exact hM.k15 | exact hM.k16 | exact hM.k17) rfl dX8_goOn_47 (fun r47 s47 q47 => ?_)
  obtain ⟨rfl, rfl⟩ := q47
  refine P_return rfl dX8_goOn_50 ?_
  refine ⟨_, rfl, rfl, ((FA.rf (m := m) (A := AI)).u1).u1, ?_⟩
  refine RA.up ?_
  rw [p_up_oth (a := m + 1) (b := m + 2) (by omega)]
  refine RF.setS (f := AI (m + 1)) hA hs9 (fun k hk => ?_) (fun i hi => ?_)
  · simp only [p_up_fn]
    have hk2 := hA.s hs9 hk
    rcases (show k = 0 ∨ k = 1 ∨ k = 2 ∨ k = 3 ∨ k = 4 ∨ k = 5 ∨ k = 6 ∨ k = 7 by omega) with e | e | e | e | e | e | e | e <;> subst e <;> (simp [x_sl, x_over]; try exact hk2)
  · simp only [p_up_fn]
    rw [if_neg (by omega), if_neg (by omega)]
end Ref4
