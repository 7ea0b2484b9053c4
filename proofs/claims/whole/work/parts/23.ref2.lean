theorem n_add (a b : Nat) : Int32.ofNat a + Int32.ofNat b = Int32.ofNat (a + b) := (Int32.ofNat_add a b).symm
theorem n_mul (a b : Nat) : Int32.ofNat a * Int32.ofNat b = Int32.ofNat (a * b) := (Int32.ofNat_mul a b).symm
theorem n_pred {n : Nat} (h : 0 < n) (h2 : n < 1000000) : Int32.ofNat n - 1 = Int32.ofNat (n - 1) := by
  rw [i_eq, i_sub, n_int (by omega), n_int (by omega)]
  simp only [Int32.reduceToInt]
  omega
section Ref2
variable {g : PG} {L : PL} {FI AI : Nat → Nat → Int32} {AL : Nat → Nat → Int64} {AR : Nat → Nat → Option Nat} {m : Nat} {X : XW}
theorem s_removeSlice (hM : WM L m) (hA : RA AI m X) {s : Int32} (hs : ib s (xS X).length) : Sp g 1 iX8_removeSlice [vr m, vi s] (L, FI, AI, AL, AR) (0, 0) (RM L FI AI AL AR m (x_rm X (nn s)) none) := by
  refine Sp.of (ls := [some (vr m), some (vi s), none]) (by decide +kernel) rfl rfl ?_
  have hs9 := hs.nn
  have hs30 := hA.s300
  obtain ⟨N, hN⟩ : ∃ N, N = (xS X).length := ⟨_, rfl⟩
  have hN0 : 0 < (xS X).length := by omega
  have n_b9 : (806 : Int32) + 9 * Int32.ofNat (N - 1) = Int32.ofNat (806 + 9 * (N - 1)) := (congrArg (fun z => (806 : Int32) + z) (n_mul 9 (N - 1))).trans (n_add 806 _)
  have hse : (806 : Int32) + 9 * s = Int32.ofNat (806 + 9 * nn s + 0) := by
    have h1 := n_idx (c := 806) (a := 9) (k := 0) hs
    rw [← h1]
    exact (Int32.add_zero _).symm
  refine P_aloadn (i := 0) rfl rfl dX8_removeSlice_0 ?_
  refine gX8_7 rfl (by first | exact hM.k0 | exact hM.k1 | exact hM.k2 | exact hM.k3 | exact hM.k4 | exact hM.k5 | exact hM.k6 | exact hM.k7 | exact hM.k8 | exact hM.k9 | exact hM.k10 | exact hM.k11 | exact hM.k12 | exact hM.k13 | exact hM.k14 | exact hM.k15 | exact hM.k16 | exact hM.k17) hM.r256 dX8_removeSlice_1 ?_
  refine P_iconst (v := 3) rfl dX8_removeSlice_4 ?_
  refine P_dup2 rfl rfl dX8_removeSlice_5 ?_
  refine P_iaN (j := 3) (by first | exact hM.k0 | exact hM.k1 | exact hM.k2 | exact hM.k3 | exact hM.k4 | exact hM.k5 | exact hM.k6 | exact hM.k7 | exact hM.k8 | exact hM.k9 | exact hM.k10 | exact hM.k11 | exact hM.k12 | exact hM.k13 | exact hM.k14 | exact hM.k15 | exact hM.k16 | exact hM.k17) rfl (by first | omega | (simp only [hM.l1, hM.l2, hM.l3, hM.l4, hM.l5, hM.l6, hM.l7, hM.l8, hM.l9, hM.l10, hM.l11, hM.l12, hM.l13, hM.l14, hM.l15, hM.l16, hM.l17]; omega)) (by first | omega | (simp only [hM.l1, hM.l2, hM.l3, hM.l4, hM.l5, hM.l6, hM.l7, hM.l8, hM.l9, hM.l10, hM.l11, hM.l12, hM.l13, hM.l14, hM.l15, hM.l16, hM.l17]; omega)) hA.ns dX8_removeSlice_6 ?_
  refine P_iconst (v := 1) rfl dX8_removeSlice_7 ?_
  refine P_isub dX8_removeSlice_8 ?_
  rw [n_pred hN0 (by omega)]
  refine P_isN (j := 3) (by first | exact hM.k0 | exact hM.k1 | exact hM.k2 | exact hM.k3 | exact hM.k4 | exact hM.k5 | exact hM.k6 | exact hM.k7 | exact hM.k8 | exact hM.k9 | exact hM.k10 | exact hM.k11 | exact hM.k12 | exact hM.k13 | exact hM.k14 | exact hM.k15 | exact hM.k16 | exact hM.k17) rfl (by first | omega | (simp only [hM.l1, hM.l2, hM.l3, hM.l4, hM.l5, hM.l6, hM.l7, hM.l8, hM.l9, hM.l10, hM.l11, hM.l12, hM.l13, hM.l14, hM.l15, hM.l16, hM.l17]; omega)) (by first | omega | (simp only [hM.l1, hM.l2, hM.l3, hM.l4, hM.l5, hM.l6, hM.l7, hM.l8, hM.l9, hM.l10, hM.l11, hM.l12, hM.l13, hM.l14, hM.l15, hM.l16, hM.l17]; omega)) dX8_removeSlice_9 ?_
  refine P_sipush (v := 806) rfl dX8_removeSlice_10 ?_
  refine P_bipush (v := 9) rfl dX8_removeSlice_13 ?_
  refine P_iloadn (i := 1) rfl rfl dX8_removeSlice_15 ?_
  refine P_imul dX8_removeSlice_16 ?_
  refine P_iadd dX8_removeSlice_17 ?_
  refine P_is2 (Or.inl dX8_removeSlice_18) rfl rfl ?_
  rw [hse, ← hN]
  have loop : ∀ n j, j + n = 9 * (N - 1 - nn s) → ∀ (A : Nat → Nat → Int32) (hB : ∀ b, b ≠ m + 1 → A b = AI b) (hC : ∀ i, A (m + 1) i = if i = 3 then Int32.ofNat (N - 1) else if 806 + 9 * nn s ≤ i ∧ i < 806 + 9 * nn s + j then AI (m + 1) (i + 9) else AI (m + 1) i), P g 1 iX8_removeSlice 19 [some (vr m), some (vi s), some (vi (Int32.ofNat (806 + 9 * nn s + j)))] [] (L, FI, A, AL, AR) (0, 0) (RM L FI AI AL AR m (x_rm X (nn s)) none) := by
    intro n
    induction n with
    | zero =>
      intro j hj A hB hC
      refine P_iloadn (i := 2) rfl rfl dX8_removeSlice_19 ?_
      refine P_sipush (v := 806) rfl dX8_removeSlice_20 ?_
      refine P_bipush (v := 9) rfl dX8_removeSlice_23 ?_
      refine P_aloadn (i := 0) rfl rfl dX8_removeSlice_25 ?_
      refine gX8_7 rfl (by first | exact hM.k0 | exact hM.k1 | exact hM.k2 | exact hM.k3 | exact hM.k4 | exact hM.k5 | exact hM.k6 | exact hM.k7 | exact hM.k8 | exact hM.k9 | exact hM.k10 | exact hM.k11 | exact hM.k12 | exact hM.k13 | exact hM.k14 | exact hM.k15 | exact hM.k16 | exact hM.k17) hM.r256 dX8_removeSlice_26 ?_
      refine P_iconst (v := 3) rfl dX8_removeSlice_29 ?_
      refine P_iaN (j := 3) (by first | exact hM.k0 | exact hM.k1 | exact hM.k2 | exact hM.k3 | exact hM.k4 | exact hM.k5 | exact hM.k6 | exact hM.k7 | exact hM.k8 | exact hM.k9 | exact hM.k10 | exact hM.k11 | exact hM.k12 | exact hM.k13 | exact hM.k14 | exact hM.k15 | exact hM.k16 | exact hM.k17) rfl (by first | omega | (simp only [hM.l1, hM.l2, hM.l3, hM.l4, hM.l5, hM.l6, hM.l7, hM.l8, hM.l9, hM.l10, hM.l11, hM.l12, hM.l13, hM.l14, hM.l15, hM.l16, hM.l17]; omega)) (by first | omega | (simp only [hM.l1, hM.l2, hM.l3, hM.l4, hM.l5, hM.l6, hM.l7, hM.l8, hM.l9, hM.l10, hM.l11, hM.l12, hM.l13, hM.l14, hM.l15, hM.l16, hM.l17]; omega)) ((hC 3).trans (if_pos rfl)) dX8_removeSlice_30 ?_
      refine P_imul dX8_removeSlice_31 ?_
      refine P_iadd dX8_removeSlice_32 ?_
      rw [n_b9]
      refine P_icmpge dX8_removeSlice_33 (tgt := 57) rfl (fun h33 => ?_) (fun h33 => absurd ((n_le (by omega) (by omega)).mpr (by omega)) h33)
      refine P_return rfl dX8_removeSlice_57 ?_
      refine ⟨_, rfl, rfl, fun b h1 _ => hB b h1, ?_⟩
      refine RF.rm (f := AI (m + 1)) (t := A (m + 2)) (by rw [hB (m + 2) (by omega)]; exact hA) hs9 (by rw [hC, ← hN]; exact if_pos rfl) (fun i h1 h2 => ?_) (fun i h1 h2 => ?_)
      · rw [hC, if_neg (by omega), if_pos (by omega)]
      · rw [hC, if_neg h1, if_neg (by omega)]
    | succ n ih =>
      intro j hj A hB hC
      refine P_iloadn (i := 2) rfl rfl dX8_removeSlice_19 ?_
      refine P_sipush (v := 806) rfl dX8_removeSlice_20 ?_
      refine P_bipush (v := 9) rfl dX8_removeSlice_23 ?_
      refine P_aloadn (i := 0) rfl rfl dX8_removeSlice_25 ?_
      refine gX8_7 rfl (by first | exact hM.k0 | exact hM.k1 | exact hM.k2 | exact hM.k3 | exact hM.k4 | exact hM.k5 | exact hM.k6 | exact hM.k7 | exact hM.k8 | exact hM.k9 | exact hM.k10 | exact hM.k11 | exact hM.k12 | exact hM.k13 | exact hM.k14 | exact hM.k15 | exact hM.k16 | exact hM.k17) hM.r256 dX8_removeSlice_26 ?_
      refine P_iconst (v := 3) rfl dX8_removeSlice_29 ?_
      refine P_iaN (j := 3) (by first | exact hM.k0 | exact hM.k1 | exact hM.k2 | exact hM.k3 | exact hM.k4 | exact hM.k5 | exact hM.k6 | exact hM.k7 | exact hM.k8 | exact hM.k9 | exact hM.k10 | exact hM.k11 | exact hM.k12 | exact hM.k13 | exact hM.k14 | exact hM.k15 | exact hM.k16 | exact hM.k17) rfl (by first | omega | (simp only [hM.l1, hM.l2, hM.l3, hM.l4, hM.l5, hM.l6, hM.l7, hM.l8, hM.l9, hM.l10, hM.l11, hM.l12, hM.l13, hM.l14, hM.l15, hM.l16, hM.l17]; omega)) (by first | omega | (simp only [hM.l1, hM.l2, hM.l3, hM.l4, hM.l5, hM.l6, hM.l7, hM.l8, hM.l9, hM.l10, hM.l11, hM.l12, hM.l13, hM.l14, hM.l15, hM.l16, hM.l17]; omega)) ((hC 3).trans (if_pos rfl)) dX8_removeSlice_30 ?_
      refine P_imul dX8_removeSlice_31 ?_
      refine P_iadd dX8_removeSlice_32 ?_
      rw [n_b9]
      refine P_icmpge dX8_removeSlice_33 (tgt := 57) rfl (fun h33 => absurd h33 (fun h9 => by rw [n_le (by omega) (by omega)] at h9; omega)) (fun h33 => ?_)
      refine P_aloadn (i := 0) rfl rfl dX8_removeSlice_36 ?_
      refine gX8_7 rfl (by first | exact hM.k0 | exact hM.k1 | exact hM.k2 | exact hM.k3 | exact hM.k4 | exact hM.k5 | exact hM.k6 | exact hM.k7 | exact hM.k8 | exact hM.k9 | exact hM.k10 | exact hM.k11 | exact hM.k12 | exact hM.k13 | exact hM.k14 | exact hM.k15 | exact hM.k16 | exact hM.k17) hM.r256 dX8_removeSlice_37 ?_
      refine P_iloadn (i := 2) rfl rfl dX8_removeSlice_40 ?_
      refine P_aloadn (i := 0) rfl rfl dX8_removeSlice_41 ?_
      refine gX8_7 rfl (by first | exact hM.k0 | exact hM.k1 | exact hM.k2 | exact hM.k3 | exact hM.k4 | exact hM.k5 | exact hM.k6 | exact hM.k7 | exact hM.k8 | exact hM.k9 | exact hM.k10 | exact hM.k11 | exact hM.k12 | exact hM.k13 | exact hM.k14 | exact hM.k15 | exact hM.k16 | exact hM.k17) hM.r256 dX8_removeSlice_42 ?_
      refine P_iloadn (i := 2) rfl rfl dX8_removeSlice_45 ?_
      refine P_bipush (v := 9) rfl dX8_removeSlice_46 ?_
      refine P_iadd dX8_removeSlice_48 ?_
      refine P_iaN (j := 806 + 9 * nn s + j + 9) (by first | exact hM.k0 | exact hM.k1 | exact hM.k2 | exact hM.k3 | exact hM.k4 | exact hM.k5 | exact hM.k6 | exact hM.k7 | exact hM.k8 | exact hM.k9 | exact hM.k10 | exact hM.k11 | exact hM.k12 | exact hM.k13 | exact hM.k14 | exact hM.k15 | exact hM.k16 | exact hM.k17) (n_add _ 9) (by first | omega | (simp only [hM.l1, hM.l2, hM.l3, hM.l4, hM.l5, hM.l6, hM.l7, hM.l8, hM.l9, hM.l10, hM.l11, hM.l12, hM.l13, hM.l14, hM.l15, hM.l16, hM.l17]; omega)) (by first | omega | (simp only [hM.l1, hM.l2, hM.l3, hM.l4, hM.l5, hM.l6, hM.l7, hM.l8, hM.l9, hM.l10, hM.l11, hM.l12, hM.l13, hM.l14, hM.l15, hM.l16, hM.l17]; omega)) (by rw [hC, if_neg (by omega), if_neg (by omega)]) dX8_removeSlice_49 ?_
      refine P_isN (j := 806 + 9 * nn s + j) (by first | exact hM.k0 | exact hM.k1 | exact hM.k2 | exact hM.k3 | exact hM.k4 | exact hM.k5 | exact hM.k6 | exact hM.k7 | exact hM.k8 | exact hM.k9 | exact hM.k10 | exact hM.k11 | exact hM.k12 | exact hM.k13 | exact hM.k14 | exact hM.k15 | exact hM.k16 | exact hM.k17) rfl (by first | omega | (simp only [hM.l1, hM.l2, hM.l3, hM.l4, hM.l5, hM.l6, hM.l7, hM.l8, hM.l9, hM.l10, hM.l11, hM.l12, hM.l13, hM.l14, hM.l15, hM.l16, hM.l17]; omega)) (by first | omega | (simp only [hM.l1, hM.l2, hM.l3, hM.l4, hM.l5, hM.l6, hM.l7, hM.l8, hM.l9, hM.l10, hM.l11, hM.l12, hM.l13, hM.l14, hM.l15, hM.l16, hM.l17]; omega)) dX8_removeSlice_50 ?_
      refine P_inN2 dX8_removeSlice_51 rfl rfl ?_
      refine P_goto dX8_removeSlice_54 (tgt := 19) rfl ?_
      refine ih (j + 1) (by omega) _ (fun b hb => ?_) (fun i => ?_)
      · rw [p_up_oth hb]; exact hB b hb
      · rw [p_up_fn]
        by_cases e : i = 806 + 9 * nn s + j
        · subst e
          refine (if_pos rfl).trans ?_
          rw [if_neg (by omega), if_pos (by omega)]
        · show (if i = 806 + 9 * nn s + j then _ else A (m + 1) i) = _
          rw [if_neg e, hC]
          by_cases e3 : i = 3
          · rw [if_pos e3, if_pos e3]
          · rw [if_neg e3, if_neg e3]
            by_cases e4 : 806 + 9 * nn s ≤ i ∧ i < 806 + 9 * nn s + j
            · rw [if_pos e4, if_pos (by omega)]
            · rw [if_neg e4, if_neg (by omega)]
  refine loop (9 * (N - 1 - nn s)) 0 (by omega) _ (fun b hb => p_up_oth hb) (fun i => ?_)
  rw [p_up_fn]
  by_cases e3 : i = 3
  · rw [if_pos e3]; exact if_pos e3
  · rw [if_neg e3, if_neg (by omega)]; exact if_neg e3
theorem s_drop (hM : WM L m) (hA : RA AI m X) {s w : Int32} {k : Nat} (hs : ib s (xS X).length) (hw : w = Int32.ofNat k) (hk : 0 < k ∧ k < 8) (hp : ib (x_at X (nn s)).1 (xp X)) : Sp g 2 iX8_drop [vr m, vi s, vi w] (L, FI, AI, AL, AR) (0, 0) (RM L FI AI AL AR m (x_drop X (nn s) k) none) := by
  refine Sp.of (ls := [some (vr m), some (vi s), some (vi w)]) (by decide +kernel) rfl rfl ?_
  refine P_aloadn (i := 0) rfl rfl dX8_drop_0 ?_
  refine P_aloadn (i := 0) rfl rfl dX8_drop_1 ?_
  refine P_iloadn (i := 1) rfl rfl dX8_drop_2 ?_
  refine P_iconst (v := 0) rfl dX8_drop_3 ?_
  refine kX8_108 rfl (s_ofS hM hA (k := 0) (by first | assumption | (apply ib.mono (by assumption); omega)) rfl (by decide)) (by decide) (by first | exact hM.k0 | exact hM.k1 | exact hM.k2 | exact hM.k3 | exact hM.k4 | exact hM.k5 | exact hM.k6 | exact hM.k7 | exact hM.k8 | exact hM.k9 | exact hM.k10 | exact hM.k11 | exact hM.k12 | exact hM.k13 | exact hM.k14 | exact hM.k15 | exact hM.k16 | exact hM.k17) rfl dX8_drop_4 (fun r4 s4 q4 => ?_)
  obtain ⟨rfl, rfl⟩ := q4
  refine P_iloadn (i := 2) rfl rfl dX8_drop_7 ?_
  refine kX8_111 rfl (s_countDrop hM hA hp hw hk) (by decide) (by first | exact hM.k0 | exact hM.k1 | exact hM.k2 | exact hM.k3 | exact hM.k4 | exact hM.k5 | exact hM.k6 | exact hM.k7 | exact hM.k8 | exact hM.k9 | exact hM.k10 | exact hM.k11 | exact hM.k12 | exact hM.k13 | exact hM.k14 | exact hM.k15 | exact hM.k16 | exact hM.k17) rfl dX8_drop_8 (fun r8 s8 q8 => ?_)
  obtain ⟨A1, rfl, rfl, hF1, hA1⟩ := q8
  refine P_aloadn (i := 0) rfl rfl dX8_drop_11 ?_
  refine P_iloadn (i := 1) rfl rfl dX8_drop_12 ?_
  refine kX8_115 rfl (s_removeSlice hM hA1 hs) (by decide) (by first | exact hM.k0 | exact hM.k1 | exact hM.k2 | exact hM.k3 | exact hM.k4 | exact hM.k5 | exact hM.k6 | exact hM.k7 | exact hM.k8 | exact hM.k9 | exact hM.k10 | exact hM.k11 | exact hM.k12 | exact hM.k13 | exact hM.k14 | exact hM.k15 | exact hM.k16 | exact hM.k17) rfl dX8_drop_13 (fun r13 s13 q13 => ?_)
  obtain ⟨A2, rfl, rfl, hF2, hA2⟩ := q13
  refine P_return rfl dX8_drop_16 ?_
  exact ⟨A2, rfl, rfl, hF1.tr hF2, hA2⟩
theorem n_add' (n : Nat) : Int32.ofNat (n + 1) = Int32.ofNat n + 1 := Int32.ofNat_add n 1
theorem s_makeSlice (hM : WM L m) (hA : RA AI m X) {p o n la ho se no : Int32} (hl : (xS X).length < 300) : Sp g 1 iX8_makeSlice [vr m, vi p, vi o, vi n, vi la, vi ho, vi se, vi no] (L, FI, AI, AL, AR) (0, 0) (RM L FI AI AL AR m (x_s X (xS X ++ [(p, o, n, la, ho, se, xG X 0, no)])) none) := by
  refine Sp.of (ls := [some (vr m), some (vi p), some (vi o), some (vi n), some (vi la), some (vi ho), some (vi se), some (vi no), none]) (by decide +kernel) rfl rfl ?_
  have hs30 := hA.s300
  obtain ⟨N, hN⟩ : ∃ N, N = (xS X).length := ⟨_, rfl⟩
  have hnN : nn (Int32.ofNat N) = N := n_cn (by omega)
  have hs3 : ib (Int32.ofNat N) 300 := ib.of (by omega) (by omega)
  refine P_aloadn (i := 0) rfl rfl dX8_makeSlice_0 ?_
  refine gX8_7 rfl (by first | exact hM.k0 | exact hM.k1 | exact hM.k2 | exact hM.k3 | exact hM.k4 | exact hM.k5 | exact hM.k6 | exact hM.k7 | exact hM.k8 | exact hM.k9 | exact hM.k10 | exact hM.k11 | exact hM.k12 | exact hM.k13 | exact hM.k14 | exact hM.k15 | exact hM.k16 | exact hM.k17) hM.r256 dX8_makeSlice_1 ?_
  refine P_iconst (v := 3) rfl dX8_makeSlice_4 ?_
  refine P_iaN (j := 3) (by first | exact hM.k0 | exact hM.k1 | exact hM.k2 | exact hM.k3 | exact hM.k4 | exact hM.k5 | exact hM.k6 | exact hM.k7 | exact hM.k8 | exact hM.k9 | exact hM.k10 | exact hM.k11 | exact hM.k12 | exact hM.k13 | exact hM.k14 | exact hM.k15 | exact hM.k16 | exact hM.k17) rfl (by first | omega | (simp only [hM.l1, hM.l2, hM.l3, hM.l4, hM.l5, hM.l6, hM.l7, hM.l8, hM.l9, hM.l10, hM.l11, hM.l12, hM.l13, hM.l14, hM.l15, hM.l16, hM.l17]; omega)) (by first | omega | (simp only [hM.l1, hM.l2, hM.l3, hM.l4, hM.l5, hM.l6, hM.l7, hM.l8, hM.l9, hM.l10, hM.l11, hM.l12, hM.l13, hM.l14, hM.l15, hM.l16, hM.l17]; omega)) hA.ns dX8_makeSlice_5 ?_
  rw [← hN]
  refine P_is8 (Or.inr dX8_makeSlice_6) rfl rfl ?_
  refine P_aloadn (i := 0) rfl rfl dX8_makeSlice_8 ?_
  refine P_iload (i := 8) rfl dX8_makeSlice_9 ?_
  refine P_iconst (v := 0) rfl dX8_makeSlice_11 ?_
  refine P_iloadn (i := 1) rfl rfl dX8_makeSlice_12 ?_
  refine kX8_98 rfl (s_layS hM (k := 0) hs3 rfl (by decide)) (by decide) (by first | exact hM.k0 | exact hM.k1 | exact hM.k2 | exact hM.k3 | exact hM.k4 | exact hM.k5 | exact hM.k6 | exact hM.k7 | exact hM.k8 | exact hM.k9 | exact hM.k10 | exact hM.k11 | exact hM.k12 | exact hM.k13 | exact hM.k14 | exact hM.k15 | exact hM.k16 | exact hM.k17) rfl dX8_makeSlice_13 (fun r13 s13 q13 => ?_)
  obtain ⟨rfl, rfl⟩ := q13
  refine P_aloadn (i := 0) rfl rfl dX8_makeSlice_16 ?_
  refine P_iload (i := 8) rfl dX8_makeSlice_17 ?_
  refine P_iconst (v := 1) rfl dX8_makeSlice_19 ?_
  refine P_iloadn (i := 2) rfl rfl dX8_makeSlice_20 ?_
  refine kX8_98 rfl (s_layS hM (k := 1) hs3 rfl (by decide)) (by decide) (by first | exact hM.k0 | exact hM.k1 | exact hM.k2 | exact hM.k3 | exact hM.k4 | exact hM.k5 | exact hM.k6 | exact hM.k7 | exact hM.k8 | exact hM.k9 | exact hM.k10 | exact hM.k11 | exact hM.k12 | exact hM.k13 | exact hM.k14 | exact hM.k15 | exact hM.k16 | exact hM.k17) rfl dX8_makeSlice_21 (fun r21 s21 q21 => ?_)
  obtain ⟨rfl, rfl⟩ := q21
  refine P_aloadn (i := 0) rfl rfl dX8_makeSlice_24 ?_
  refine P_iload (i := 8) rfl dX8_makeSlice_25 ?_
  refine P_iconst (v := 2) rfl dX8_makeSlice_27 ?_
  refine P_iloadn (i := 3) rfl rfl dX8_makeSlice_28 ?_
  refine kX8_98 rfl (s_layS hM (k := 2) hs3 rfl (by decide)) (by decide) (by first | exact hM.k0 | exact hM.k1 | exact hM.k2 | exact hM.k3 | exact hM.k4 | exact hM.k5 | exact hM.k6 | exact hM.k7 | exact hM.k8 | exact hM.k9 | exact hM.k10 | exact hM.k11 | exact hM.k12 | exact hM.k13 | exact hM.k14 | exact hM.k15 | exact hM.k16 | exact hM.k17) rfl dX8_makeSlice_29 (fun r29 s29 q29 => ?_)
  obtain ⟨rfl, rfl⟩ := q29
  refine P_aloadn (i := 0) rfl rfl dX8_makeSlice_32 ?_
  refine P_iload (i := 8) rfl dX8_makeSlice_33 ?_
  refine P_iconst (v := 3) rfl dX8_makeSlice_35 ?_
  refine P_iload (i := 4) rfl dX8_makeSlice_36 ?_
  refine kX8_98 rfl (s_layS hM (k := 3) hs3 rfl (by decide)) (by decide) (by first | exact hM.k0 | exact hM.k1 | exact hM.k2 | exact hM.k3 | exact hM.k4 | exact hM.k5 | exact hM.k6 | exact hM.k7 | exact hM.k8 | exact hM.k9 | exact hM.k10 | exact hM.k11 | exact hM.k12 | exact hM.k13 | exact hM.k14 | exact hM.k15 | exact hM.k16 | exact hM.k17) rfl dX8_makeSlice_38 (fun r38 s38 q38 => ?_)
  obtain ⟨rfl, rfl⟩ := q38
  refine P_aloadn (i := 0) rfl rfl dX8_makeSlice_41 ?_
  refine P_iload (i := 8) rfl dX8_makeSlice_42 ?_
  refine P_iconst (v := 4) rfl dX8_makeSlice_44 ?_
  refine P_iload (i := 5) rfl dX8_makeSlice_45 ?_
  refine kX8_98 rfl (s_layS hM (k := 4) hs3 rfl (by decide)) (by decide) (by first | exact hM.k0 | exact hM.k1 | exact hM.k2 | exact hM.k3 | exact hM.k4 | exact hM.k5 | exact hM.k6 | exact hM.k7 | exact hM.k8 | exact hM.k9 | exact hM.k10 | exact hM.k11 | exact hM.k12 | exact hM.k13 | exact hM.k14 | exact hM.k15 | exact hM.k16 | exact hM.k17) rfl dX8_makeSlice_47 (fun r47 s47 q47 => ?_)
  obtain ⟨rfl, rfl⟩ := q47
  refine P_aloadn (i := 0) rfl rfl dX8_makeSlice_50 ?_
  refine P_iload (i := 8) rfl dX8_makeSlice_51 ?_
  refine P_iconst (v := 5) rfl dX8_makeSlice_53 ?_
  refine P_iload (i := 6) rfl dX8_makeSlice_54 ?_
  refine kX8_98 rfl (s_layS hM (k := 5) hs3 rfl (by decide)) (by decide) (by first | exact hM.k0 | exact hM.k1 | exact hM.k2 | exact hM.k3 | exact hM.k4 | exact hM.k5 | exact hM.k6 | exact hM.k7 | exact hM.k8 | exact hM.k9 | exact hM.k10 | exact hM.k11 | exact hM.k12 | exact hM.k13 | exact hM.k14 | exact hM.k15 | exact hM.k16 | exact hM.k17) rfl dX8_makeSlice_56 (fun r56 s56 q56 => ?_)
  obtain ⟨rfl, rfl⟩ := q56
  refine P_aloadn (i := 0) rfl rfl dX8_makeSlice_59 ?_
  refine P_iload (i := 8) rfl dX8_makeSlice_60 ?_
  refine P_bipush (v := 6) rfl dX8_makeSlice_62 ?_
  refine P_aloadn (i := 0) rfl rfl dX8_makeSlice_64 ?_
  refine gX8_7 rfl (by first | exact hM.k0 | exact hM.k1 | exact hM.k2 | exact hM.k3 | exact hM.k4 | exact hM.k5 | exact hM.k6 | exact hM.k7 | exact hM.k8 | exact hM.k9 | exact hM.k10 | exact hM.k11 | exact hM.k12 | exact hM.k13 | exact hM.k14 | exact hM.k15 | exact hM.k16 | exact hM.k17) hM.r256 dX8_makeSlice_65 ?_
  refine P_iconst (v := 0) rfl dX8_makeSlice_68 ?_
  refine P_iaN (j := 0) (by first | exact hM.k0 | exact hM.k1 | exact hM.k2 | exact hM.k3 | exact hM.k4 | exact hM.k5 | exact hM.k6 | exact hM.k7 | exact hM.k8 | exact hM.k9 | exact hM.k10 | exact hM.k11 | exact hM.k12 | exact hM.k13 | exact hM.k14 | exact hM.k15 | exact hM.k16 | exact hM.k17) rfl (by first | omega | (simp only [hM.l1, hM.l2, hM.l3, hM.l4, hM.l5, hM.l6, hM.l7, hM.l8, hM.l9, hM.l10, hM.l11, hM.l12, hM.l13, hM.l14, hM.l15, hM.l16, hM.l17]; omega)) (by first | omega | (simp only [hM.l1, hM.l2, hM.l3, hM.l4, hM.l5, hM.l6, hM.l7, hM.l8, hM.l9, hM.l10, hM.l11, hM.l12, hM.l13, hM.l14, hM.l15, hM.l16, hM.l17]; omega)) ((p_up_n2 _ _ _ _ (by omega)).trans ((p_up_n2 _ _ _ _ (by omega)).trans ((p_up_n2 _ _ _ _ (by omega)).trans ((p_up_n2 _ _ _ _ (by omega)).trans ((p_up_n2 _ _ _ _ (by omega)).trans ((p_up_n2 _ _ _ _ (by omega)).trans (hA.g (by omega) (by omega) (by omega) (by omega)))))))) dX8_makeSlice_69 ?_
  refine kX8_98 rfl (s_layS hM (k := 6) hs3 rfl (by decide)) (by decide) (by first | exact hM.k0 | exact hM.k1 | exact hM.k2 | exact hM.k3 | exact hM.k4 | exact hM.k5 | exact hM.k6 | exact hM.k7 | exact hM.k8 | exact hM.k9 | exact hM.k10 | exact hM.k11 | exact hM.k12 | exact hM.k13 | exact hM.k14 | exact hM.k15 | exact hM.k16 | exact hM.k17) rfl dX8_makeSlice_70 (fun r70 s70 q70 => ?_)
  obtain ⟨rfl, rfl⟩ := q70
  refine P_aloadn (i := 0) rfl rfl dX8_makeSlice_73 ?_
  refine P_iload (i := 8) rfl dX8_makeSlice_74 ?_
  refine P_bipush (v := 7) rfl dX8_makeSlice_76 ?_
  refine P_iload (i := 7) rfl dX8_makeSlice_78 ?_
  refine kX8_98 rfl (s_layS hM (k := 7) hs3 rfl (by decide)) (by decide) (by first | exact hM.k0 | exact hM.k1 | exact hM.k2 | exact hM.k3 | exact hM.k4 | exact hM.k5 | exact hM.k6 | exact hM.k7 | exact hM.k8 | exact hM.k9 | exact hM.k10 | exact hM.k11 | exact hM.k12 | exact hM.k13 | exact hM.k14 | exact hM.k15 | exact hM.k16 | exact hM.k17) rfl dX8_makeSlice_80 (fun r80 s80 q80 => ?_)
  obtain ⟨rfl, rfl⟩ := q80
  refine P_aloadn (i := 0) rfl rfl dX8_makeSlice_83 ?_
  refine gX8_7 rfl (by first | exact hM.k0 | exact hM.k1 | exact hM.k2 | exact hM.k3 | exact hM.k4 | exact hM.k5 | exact hM.k6 | exact hM.k7 | exact hM.k8 | exact hM.k9 | exact hM.k10 | exact hM.k11 | exact hM.k12 | exact hM.k13 | exact hM.k14 | exact hM.k15 | exact hM.k16 | exact hM.k17) hM.r256 dX8_makeSlice_84 ?_
  refine P_iconst (v := 3) rfl dX8_makeSlice_87 ?_
  refine P_dup2 rfl rfl dX8_makeSlice_88 ?_
  refine P_iaN (j := 3) (by first | exact hM.k0 | exact hM.k1 | exact hM.k2 | exact hM.k3 | exact hM.k4 | exact hM.k5 | exact hM.k6 | exact hM.k7 | exact hM.k8 | exact hM.k9 | exact hM.k10 | exact hM.k11 | exact hM.k12 | exact hM.k13 | exact hM.k14 | exact hM.k15 | exact hM.k16 | exact hM.k17) rfl (by first | omega | (simp only [hM.l1, hM.l2, hM.l3, hM.l4, hM.l5, hM.l6, hM.l7, hM.l8, hM.l9, hM.l10, hM.l11, hM.l12, hM.l13, hM.l14, hM.l15, hM.l16, hM.l17]; omega)) (by first | omega | (simp only [hM.l1, hM.l2, hM.l3, hM.l4, hM.l5, hM.l6, hM.l7, hM.l8, hM.l9, hM.l10, hM.l11, hM.l12, hM.l13, hM.l14, hM.l15, hM.l16, hM.l17]; omega)) ((p_up_n2 _ _ _ _ (by omega)).trans ((p_up_n2 _ _ _ _ (by omega)).trans ((p_up_n2 _ _ _ _ (by omega)).trans ((p_up_n2 _ _ _ _ (by omega)).trans ((p_up_n2 _ _ _ _ (by omega)).trans ((p_up_n2 _ _ _ _ (by omega)).trans ((p_up_n2 _ _ _ _ (by omega)).trans ((p_up_n2 _ _ _ _ (by omega)).trans (hA.ns))))))))) dX8_makeSlice_89 ?_
  refine P_iconst (v := 1) rfl dX8_makeSlice_90 ?_
  refine P_iadd dX8_makeSlice_91 ?_
  refine P_isN (j := 3) (by first | exact hM.k0 | exact hM.k1 | exact hM.k2 | exact hM.k3 | exact hM.k4 | exact hM.k5 | exact hM.k6 | exact hM.k7 | exact hM.k8 | exact hM.k9 | exact hM.k10 | exact hM.k11 | exact hM.k12 | exact hM.k13 | exact hM.k14 | exact hM.k15 | exact hM.k16 | exact hM.k17) rfl (by first | omega | (simp only [hM.l1, hM.l2, hM.l3, hM.l4, hM.l5, hM.l6, hM.l7, hM.l8, hM.l9, hM.l10, hM.l11, hM.l12, hM.l13, hM.l14, hM.l15, hM.l16, hM.l17]; omega)) (by first | omega | (simp only [hM.l1, hM.l2, hM.l3, hM.l4, hM.l5, hM.l6, hM.l7, hM.l8, hM.l9, hM.l10, hM.l11, hM.l12, hM.l13, hM.l14, hM.l15, hM.l16, hM.l17]; omega)) dX8_makeSlice_92 ?_
  refine P_return rfl dX8_makeSlice_93 ?_
  refine ⟨_, rfl, rfl, fun b h1 h2 => ?_, ?_⟩
  · simp only [p_up_oth h1]
  · simp only [hnN]
    refine RA.up ?_
    have e2 : ∀ (B : Nat → Nat → Int32) (j : Nat) (v : Int32), p_up B (m + 1) j v (m + 2) = B (m + 2) := fun B j v => p_up_oth (by omega)
    simp only [e2]
    refine RF.push (f := AI (m + 1)) hA hl ?_ (fun k hk => ?_) (fun i h1 h2 => ?_)
    · rw [← hN, n_add' N]; exact if_pos rfl
    · rw [← hN]
      simp only [p_up_fn]
      rcases (show k = 0 ∨ k = 1 ∨ k = 2 ∨ k = 3 ∨ k = 4 ∨ k = 5 ∨ k = 6 ∨ k = 7 by omega) with e | e | e | e | e | e | e | e <;> subst e <;> (rw [if_neg (by omega)]; simp [x_sl])
    · rw [← hN] at h2
      simp only [p_up_fn]
      rw [if_neg h1, if_neg (by omega), if_neg (by omega), if_neg (by omega), if_neg (by omega), if_neg (by omega), if_neg (by omega), if_neg (by omega), if_neg (by omega)]
end Ref2
