def q_ib (p : Int32) (n : Nat) : Bool := decide (0 ≤ p.toInt) && decide (p.toInt < (n : Int))
theorem q_ib_iff {p : Int32} {n : Nat} : q_ib p n = true ↔ ib p n := by
  unfold q_ib ib
  rw [Bool.and_eq_true, decide_eq_true_eq, decide_eq_true_eq]
theorem ib.leN {z : Int32} {n i : Nat} (h : ib z n) (hi : i < 2147483648) : z ≤ Int32.ofNat i ↔ z.toNatClampNeg ≤ i := by
  have h1 := i_cn z
  unfold ib at h
  rw [Int32.le_iff_toInt_le, n_int hi]
  omega
theorem ib.ltN {z : Int32} {n i : Nat} (h : ib z n) (hi : i < 2147483648) : z < Int32.ofNat i ↔ z.toNatClampNeg < i := by
  have h1 := i_cn z
  unfold ib at h
  rw [Int32.lt_iff_toInt_lt, n_int hi]
  omega
theorem ib.Nlt {z : Int32} {n i : Nat} (h : ib z n) (hi : i < 2147483648) : Int32.ofNat i < z ↔ i < z.toNatClampNeg := by
  have h1 := i_cn z
  unfold ib at h
  rw [Int32.lt_iff_toInt_lt, n_int hi]
  omega
theorem in_eq {b : Int32} {n : Nat} (h : n ≤ 1000) : (if (0 : Int32) ≤ b ∧ b ≤ Int32.ofNat n - 1 then (1 : Int32) else 0) = if q_ib b n = true then 1 else 0 := by
  have h2 : (Int32.ofNat n - 1).toInt = (n : Int) - 1 := by
    have h3 := n_int (j := n) (by omega)
    rw [i_sub, h3]
    simp only [Int32.reduceToInt]
    omega
  by_cases hc : ib b n
  · rw [if_pos (q_ib_iff.mpr hc), if_pos]
    unfold ib at hc
    rw [Int32.le_iff_toInt_le, Int32.le_iff_toInt_le, h2]
    simp only [Int32.reduceToInt]
    omega
  · rw [if_neg (fun h9 => hc (q_ib_iff.mp h9)), if_neg]
    rw [Int32.le_iff_toInt_le, Int32.le_iff_toInt_le, h2]
    simp only [Int32.reduceToInt]
    unfold ib at hc
    omega
section RAp
variable {AI : Nat → Nat → Int32} {m : Nat} {X : XW}
theorem p_up_oth {AI : Nat → Nat → Int32} {a b j : Nat} {v : Int32} (h : b ≠ a) : p_up AI a j v b = AI b := by
  funext i
  exact p_up_n1 _ _ _ _ h
theorem RA.up {X2 : XW} {j : Nat} {v : Int32} (h : RF (fun b => if b = j then v else AI (m + 1) b) (AI (m + 2)) X2) : RA (p_up AI (m + 1) j v) m X2 := by
  show RF (p_up AI (m + 1) j v (m + 1)) (p_up AI (m + 1) j v (m + 2)) X2
  rw [p_up_fn, p_up_oth (by omega)]
  exact h
theorem RF.push {f t f2 : Nat → Int32} {σ : XS} (h : RF f t X) (hl : (xS X).length < 300) (h3 : f2 3 = Int32.ofNat ((xS X).length + 1)) (hs : ∀ k, k < 8 → f2 (806 + 9 * (xS X).length + k) = x_sl σ k) (ho : ∀ i, i ≠ 3 → i < 806 + 9 * (xS X).length → f2 i = f i) : RF f2 t (x_s X (xS X ++ [σ])) := by
  have h40 := h.p40; have h16 := h.b16
  refine ⟨⟨fun j hj g1 g2 g3 => ?_, ?_, ?_, ?_⟩, fun i j hi hj => ?_, fun i j hi hj => ?_, fun i j hi hj => ?_, fun i j hi hj => ?_, fun p i hp hi => h.tt hp hi, h16, h40, ?_⟩
  · exact (ho j g3 (by omega)).trans (h.g hj g1 g2 g3)
  · exact (ho 1 (by omega) (by omega)).trans h.nb
  · exact (ho 2 (by omega) (by omega)).trans h.np
  · show f2 3 = Int32.ofNat (xS X ++ [σ]).length
    rw [h3, List.length_append]
    rfl
  · exact (ho _ (by omega) (by omega)).trans (h.n hi hj)
  · have h5 : i < xb X := hi
    exact (ho _ (by omega) (by omega)).trans (h.b hi hj)
  · have h5 : i < xp X := hi
    exact (ho _ (by omega) (by omega)).trans (h.p hi hj)
  · have h5 : i < (xS X ++ [σ]).length := hi
    rw [List.length_append] at h5
    have h6 : i < (xS X).length + 1 := h5
    show f2 (806 + 9 * i + j) = x_sl ((xS X ++ [σ]).getD i (0, 0, 0, 0, 0, 0, 0, 0)) j
    by_cases e : i = (xS X).length
    · subst e
      rw [hs j hj]
      simp [List.getD_eq_getElem?_getD]
    · rw [ho _ (by omega) (by omega), h.s (by omega) hj]
      unfold x_at
      rw [List.getD_eq_getElem?_getD, List.getD_eq_getElem?_getD, List.getElem?_append_left (by omega)]
  · show (xS X ++ [σ]).length ≤ 300
    rw [List.length_append]
    exact hl
theorem RF.setS {f t f2 : Nat → Int32} {σ : XS} {s : Nat} (h : RF f t X) (hl : s < (xS X).length) (hs : ∀ k, k < 8 → f2 (806 + 9 * s + k) = x_sl σ k) (ho : ∀ i, (i < 806 + 9 * s ∨ 806 + 9 * s + 9 ≤ i) → f2 i = f i) : RF f2 t (x_s X ((xS X).set s σ)) := by
  have h40 := h.p40; have h16 := h.b16; have h30 := h.s300
  refine ⟨⟨fun j hj g1 g2 g3 => ?_, ?_, ?_, ?_⟩, fun i j hi hj => ?_, fun i j hi hj => ?_, fun i j hi hj => ?_, fun i j hi hj => ?_, fun p i hp hi => h.tt hp hi, h16, h40, ?_⟩
  · exact (ho j (by omega)).trans (h.g hj g1 g2 g3)
  · exact (ho 1 (by omega)).trans h.nb
  · exact (ho 2 (by omega)).trans h.np
  · show f2 3 = Int32.ofNat ((xS X).set s σ).length
    rw [ho 3 (by omega), h.ns, List.length_set]
  · exact (ho _ (by omega)).trans (h.n hi hj)
  · have h5 : i < xb X := hi
    exact (ho _ (by omega)).trans (h.b hi hj)
  · have h5 : i < xp X := hi
    exact (ho _ (by omega)).trans (h.p hi hj)
  · have h5 : i < ((xS X).set s σ).length := hi
    rw [List.length_set] at h5
    show f2 (806 + 9 * i + j) = x_sl (((xS X).set s σ).getD i (0, 0, 0, 0, 0, 0, 0, 0)) j
    rw [List.getD_eq_getElem?_getD]
    by_cases e : i = s
    · subst e
      rw [hs j hj, List.getElem?_set_self h5]
      rfl
    · rw [ho _ (by omega), h.s h5 hj, List.getElem?_set_ne (Ne.symm e)]
      unfold x_at
      rw [List.getD_eq_getElem?_getD]
  · show ((xS X).set s σ).length ≤ 300
    rw [List.length_set]
    exact h30
theorem RF.rm {f t f2 : Nat → Int32} {s : Nat} (h : RF f t X) (hl : s < (xS X).length) (h3 : f2 3 = Int32.ofNat ((xS X).length - 1)) (hs : ∀ i, 806 + 9 * s ≤ i → i < 806 + 9 * ((xS X).length - 1) → f2 i = f (i + 9)) (ho : ∀ i, i ≠ 3 → i < 806 + 9 * s → f2 i = f i) : RF f2 t (x_rm X s) := by
  have h40 := h.p40; have h16 := h.b16; have h30 := h.s300
  refine ⟨⟨fun j hj g1 g2 g3 => ?_, ?_, ?_, ?_⟩, fun i j hi hj => ?_, fun i j hi hj => ?_, fun i j hi hj => ?_, fun i j hi hj => ?_, fun p i hp hi => h.tt hp hi, h16, h40, ?_⟩
  · exact (ho j g3 (by omega)).trans (h.g hj g1 g2 g3)
  · exact (ho 1 (by omega) (by omega)).trans h.nb
  · exact (ho 2 (by omega) (by omega)).trans h.np
  · show f2 3 = Int32.ofNat ((xS X).eraseIdx s).length
    rw [h3, List.length_eraseIdx, if_pos hl]
  · exact (ho _ (by omega) (by omega)).trans (h.n hi hj)
  · have h5 : i < xb X := hi
    exact (ho _ (by omega) (by omega)).trans (h.b hi hj)
  · have h5 : i < xp X := hi
    exact (ho _ (by omega) (by omega)).trans (h.p hi hj)
  · have h5 : i < ((xS X).eraseIdx s).length := hi
    rw [List.length_eraseIdx, if_pos hl] at h5
    show f2 (806 + 9 * i + j) = x_sl (((xS X).eraseIdx s).getD i (0, 0, 0, 0, 0, 0, 0, 0)) j
    rw [List.getD_eq_getElem?_getD, List.getElem?_eraseIdx]
    by_cases e : i < s
    · rw [if_pos e, ho _ (by omega) (by omega), h.s (by omega) hj]
      unfold x_at
      rw [List.getD_eq_getElem?_getD]
    · rw [if_neg e, hs _ (by omega) (by omega), show 806 + 9 * i + j + 9 = 806 + 9 * (i + 1) + j by omega, h.s (by omega) hj]
      unfold x_at
      rw [List.getD_eq_getElem?_getD]
  · show ((xS X).eraseIdx s).length ≤ 300
    rw [List.length_eraseIdx, if_pos hl]
    omega
theorem RF.setT {f t t2 : Nat → Int32} {F : Nat → Nat → Int32} (h : RF f t X) (ht : ∀ p i, p < xp X → i < 4000 → t2 (4000 * p + i) = F p i) : RF f t2 (x_t X F) :=
  ⟨h.1, h.2.1, h.2.2.1, h.2.2.2.1, h.2.2.2.2.1, ht, h.2.2.2.2.2.2⟩
end RAp
theorem c_byteOf_eq (s i : Int32) : c_byte s i = (s * 31 + i * 7 + i / 256) - (s * 31 + i * 7 + i / 256) / 256 * 256 := rfl
section Ref1
variable {g : PG} {L : PL} {FI AI : Nat → Nat → Int32} {AL : Nat → Nat → Int64} {AR : Nat → Nat → Option Nat} {m : Nat} {X : XW}
theorem s_isNode {n : Int32} : Sp g 1 iX8_isNode [vi n] (L, FI, AI, AL, AR) (0, 0) (QI (L, FI, AI, AL, AR) (if q_ib n 8 = true then 1 else 0)) := by
  refine Sp.of (ls := [some (vi n)]) (by decide +kernel) rfl rfl ?_
  refine P_iloadn (i := 0) rfl rfl dX8_isNode_0 ?_
  refine P_iconst (v := 0) rfl dX8_isNode_1 ?_
  refine P_bipush (v := 7) rfl dX8_isNode_2 ?_
  refine kX8_65 rfl s_X8_in (by decide) rfl dX8_isNode_4 (fun r4 s4 q4 => ?_)
  obtain ⟨rfl, rfl⟩ := q4
  refine P_zreturn rfl b_01 dX8_isNode_7 ?_
  exact ⟨congrArg (fun z => some (vi z)) (in_eq (n := 8) (by decide)), rfl⟩
theorem s_isBridge (hM : WM L m) (hA : RA AI m X) {n : Int32} : Sp g 1 iX8_isBridge [vr m, vi n] (L, FI, AI, AL, AR) (0, 0) (QI (L, FI, AI, AL, AR) (if q_ib n (xb X) = true then 1 else 0)) := by
  refine Sp.of (ls := [some (vr m), some (vi n)]) (by decide +kernel) rfl rfl ?_
  have hb16 := hA.b16
  have hp40 := hA.p40
  refine P_iloadn (i := 1) rfl rfl dX8_isBridge_0 ?_
  refine P_iconst (v := 0) rfl dX8_isBridge_1 ?_
  refine P_aloadn (i := 0) rfl rfl dX8_isBridge_2 ?_
  refine gX8_7 rfl (by first | exact hM.k0 | exact hM.k1 | exact hM.k2 | exact hM.k3 | exact hM.k4 | exact hM.k5 | exact hM.k6 | exact hM.k7 | exact hM.k8 | exact hM.k9 | exact hM.k10 | exact hM.k11 | exact hM.k12 | exact hM.k13 | exact hM.k14 | exact hM.k15 | exact hM.k16 | exact hM.k17) hM.r256 dX8_isBridge_3 ?_
  refine P_iconst (v := 1) rfl dX8_isBridge_6 ?_
  refine P_iaN (j := 1) (by first | exact hM.k0 | exact hM.k1 | exact hM.k2 | exact hM.k3 | exact hM.k4 | exact hM.k5 | exact hM.k6 | exact hM.k7 | exact hM.k8 | exact hM.k9 | exact hM.k10 | exact hM.k11 | exact hM.k12 | exact hM.k13 | exact hM.k14 | exact hM.k15 | exact hM.k16 | exact hM.k17) rfl (by first | omega | (simp only [hM.l1, hM.l2, hM.l3, hM.l4, hM.l5, hM.l6, hM.l7, hM.l8, hM.l9, hM.l10, hM.l11, hM.l12, hM.l13, hM.l14, hM.l15, hM.l16, hM.l17]; omega)) (by first | omega | (simp only [hM.l1, hM.l2, hM.l3, hM.l4, hM.l5, hM.l6, hM.l7, hM.l8, hM.l9, hM.l10, hM.l11, hM.l12, hM.l13, hM.l14, hM.l15, hM.l16, hM.l17]; omega)) hA.nb dX8_isBridge_7 ?_
  refine P_iconst (v := 1) rfl dX8_isBridge_8 ?_
  refine P_isub dX8_isBridge_9 ?_
  refine kX8_65 rfl s_X8_in (by decide) rfl dX8_isBridge_10 (fun r10 s10 q10 => ?_)
  obtain ⟨rfl, rfl⟩ := q10
  refine P_zreturn rfl b_01 dX8_isBridge_13 ?_
  exact ⟨congrArg (fun z => some (vi z)) (in_eq (n := xb X) (by omega)), rfl⟩
theorem s_isParcel (hM : WM L m) (hA : RA AI m X) {n : Int32} : Sp g 1 iX8_isParcel [vr m, vi n] (L, FI, AI, AL, AR) (0, 0) (QI (L, FI, AI, AL, AR) (if q_ib n (xp X) = true then 1 else 0)) := by
  refine Sp.of (ls := [some (vr m), some (vi n)]) (by decide +kernel) rfl rfl ?_
  have hb16 := hA.b16
  have hp40 := hA.p40
  refine P_iloadn (i := 1) rfl rfl dX8_isParcel_0 ?_
  refine P_iconst (v := 0) rfl dX8_isParcel_1 ?_
  refine P_aloadn (i := 0) rfl rfl dX8_isParcel_2 ?_
  refine gX8_7 rfl (by first | exact hM.k0 | exact hM.k1 | exact hM.k2 | exact hM.k3 | exact hM.k4 | exact hM.k5 | exact hM.k6 | exact hM.k7 | exact hM.k8 | exact hM.k9 | exact hM.k10 | exact hM.k11 | exact hM.k12 | exact hM.k13 | exact hM.k14 | exact hM.k15 | exact hM.k16 | exact hM.k17) hM.r256 dX8_isParcel_3 ?_
  refine P_iconst (v := 2) rfl dX8_isParcel_6 ?_
  refine P_iaN (j := 2) (by first | exact hM.k0 | exact hM.k1 | exact hM.k2 | exact hM.k3 | exact hM.k4 | exact hM.k5 | exact hM.k6 | exact hM.k7 | exact hM.k8 | exact hM.k9 | exact hM.k10 | exact hM.k11 | exact hM.k12 | exact hM.k13 | exact hM.k14 | exact hM.k15 | exact hM.k16 | exact hM.k17) rfl (by first | omega | (simp only [hM.l1, hM.l2, hM.l3, hM.l4, hM.l5, hM.l6, hM.l7, hM.l8, hM.l9, hM.l10, hM.l11, hM.l12, hM.l13, hM.l14, hM.l15, hM.l16, hM.l17]; omega)) (by first | omega | (simp only [hM.l1, hM.l2, hM.l3, hM.l4, hM.l5, hM.l6, hM.l7, hM.l8, hM.l9, hM.l10, hM.l11, hM.l12, hM.l13, hM.l14, hM.l15, hM.l16, hM.l17]; omega)) hA.np dX8_isParcel_7 ?_
  refine P_iconst (v := 1) rfl dX8_isParcel_8 ?_
  refine P_isub dX8_isParcel_9 ?_
  refine kX8_65 rfl s_X8_in (by decide) rfl dX8_isParcel_10 (fun r10 s10 q10 => ?_)
  obtain ⟨rfl, rfl⟩ := q10
  refine P_zreturn rfl b_01 dX8_isParcel_13 ?_
  exact ⟨congrArg (fun z => some (vi z)) (in_eq (n := xp X) (by omega)), rfl⟩
theorem s_areNodes {a b : Int32} : Sp g 2 iX8_areNodes [vi a, vi b] (L, FI, AI, AL, AR) (0, 0) (QI (L, FI, AI, AL, AR) (if q_ib a 8 = true ∧ q_ib b 8 = true ∧ ¬ a = b then 1 else 0)) := by
  refine Sp.of (ls := [some (vi a), some (vi b)]) (by decide +kernel) rfl rfl ?_
  refine P_iloadn (i := 0) rfl rfl dX8_areNodes_0 ?_
  refine kX8_69 rfl s_isNode (by decide) rfl dX8_areNodes_1 (fun r1 s1 q1 => ?_)
  obtain ⟨rfl, rfl⟩ := q1
  refine P_ifeq dX8_areNodes_4 (tgt := 23) rfl (fun h4 => ?_) (fun h4 => ?_)
  · refine P_iconst (v := 0) rfl dX8_areNodes_23 ?_
    refine P_zreturn rfl (by first | exact Or.inl rfl | exact Or.inr rfl | assumption) dX8_areNodes_24 ?_
    refine ⟨congrArg (fun z => some (vi z)) ?_, rfl⟩
    first | exact (if_neg (fun hh => b_f h4 hh.1)).symm | exact (if_neg (fun hh => b_f h11 hh.2.1)).symm | exact (if_neg (fun hh => hh.2.2 h16)).symm | exact (if_pos ⟨b_t h4, b_t h11, h16⟩).symm
  · refine P_iloadn (i := 1) rfl rfl dX8_areNodes_7 ?_
    refine kX8_69 rfl s_isNode (by decide) rfl dX8_areNodes_8 (fun r8 s8 q8 => ?_)
    obtain ⟨rfl, rfl⟩ := q8
    refine P_ifeq dX8_areNodes_11 (tgt := 23) rfl (fun h11 => ?_) (fun h11 => ?_)
    · refine P_iconst (v := 0) rfl dX8_areNodes_23 ?_
      refine P_zreturn rfl (by first | exact Or.inl rfl | exact Or.inr rfl | assumption) dX8_areNodes_24 ?_
      refine ⟨congrArg (fun z => some (vi z)) ?_, rfl⟩
      first | exact (if_neg (fun hh => b_f h4 hh.1)).symm | exact (if_neg (fun hh => b_f h11 hh.2.1)).symm | exact (if_neg (fun hh => hh.2.2 h16)).symm | exact (if_pos ⟨b_t h4, b_t h11, h16⟩).symm
    · refine P_iloadn (i := 0) rfl rfl dX8_areNodes_14 ?_
      refine P_iloadn (i := 1) rfl rfl dX8_areNodes_15 ?_
      refine P_icmpeq dX8_areNodes_16 (tgt := 23) rfl (fun h16 => ?_) (fun h16 => ?_)
      · refine P_iconst (v := 0) rfl dX8_areNodes_23 ?_
        refine P_zreturn rfl (by first | exact Or.inl rfl | exact Or.inr rfl | assumption) dX8_areNodes_24 ?_
        refine ⟨congrArg (fun z => some (vi z)) ?_, rfl⟩
        first | exact (if_neg (fun hh => b_f h4 hh.1)).symm | exact (if_neg (fun hh => b_f h11 hh.2.1)).symm | exact (if_neg (fun hh => hh.2.2 h16)).symm | exact (if_pos ⟨b_t h4, b_t h11, h16⟩).symm
      · refine P_iconst (v := 1) rfl dX8_areNodes_19 ?_
        refine P_goto dX8_areNodes_20 (tgt := 24) rfl ?_
        refine P_zreturn rfl (by first | exact Or.inl rfl | exact Or.inr rfl | assumption) dX8_areNodes_24 ?_
        refine ⟨congrArg (fun z => some (vi z)) ?_, rfl⟩
        first | exact (if_neg (fun hh => b_f h4 hh.1)).symm | exact (if_neg (fun hh => b_f h11 hh.2.1)).symm | exact (if_neg (fun hh => hh.2.2 h16)).symm | exact (if_pos ⟨b_t h4, b_t h11, h16⟩).symm
theorem s_byteOf8 {a b : Int32} : Sp g 0 iX8_byteOf [vi a, vi b] (L, FI, AI, AL, AR) (0, 0) (QI (L, FI, AI, AL, AR) (c_byte a b)) := by
  refine Sp.of (ls := [some (vi a), some (vi b)]) (by decide +kernel) rfl rfl ?_
  refine P_iloadn (i := 0) rfl rfl dX8_byteOf_0 ?_
  refine P_bipush (v := 31) rfl dX8_byteOf_1 ?_
  refine P_imul dX8_byteOf_3 ?_
  refine P_iloadn (i := 1) rfl rfl dX8_byteOf_4 ?_
  refine P_bipush (v := 7) rfl dX8_byteOf_5 ?_
  refine P_imul dX8_byteOf_7 ?_
  refine P_iadd dX8_byteOf_8 ?_
  refine P_iloadn (i := 1) rfl rfl dX8_byteOf_9 ?_
  refine P_sipush (v := 256) rfl dX8_byteOf_10 ?_
  refine P_idiv (by decide) dX8_byteOf_13 ?_
  refine P_iadd dX8_byteOf_14 ?_
  refine P_sipush (v := 256) rfl dX8_byteOf_15 ?_
  refine P_irem (by decide) dX8_byteOf_18 ?_
  refine P_ireturn rfl dX8_byteOf_19 ?_
  exact ⟨rfl, rfl⟩
theorem s_sumOf {a z : Int32} (hz : ib z 4001) : Sp g 1 iX8_sumOf [vi a, vi z] (L, FI, AI, AL, AR) (0, 0) (QI (L, FI, AI, AL, AR) (x_sum a z)) := by
  refine Sp.of (ls := [some (vi a), some (vi z), none, none]) (by decide +kernel) rfl rfl ?_
  have hz9 := hz.nn
  refine P_iconst (v := 0) rfl dX8_sumOf_0 ?_
  refine P_is2 (Or.inl dX8_sumOf_1) rfl rfl ?_
  refine P_iconst (v := 0) rfl dX8_sumOf_2 ?_
  refine P_is3 (Or.inl dX8_sumOf_3) rfl rfl ?_
  have loop : ∀ n i, i + n = nn z → P g 1 iX8_sumOf 4 [some (vi a), some (vi z), some (vi (x_sumN a i)), some (vi (Int32.ofNat i))] [] (L, FI, AI, AL, AR) (0, 0) (QI (L, FI, AI, AL, AR) (x_sum a z)) := by
    intro n
    induction n with
    | zero =>
      intro i hi
      have hi2 : i = nn z := by omega
      subst hi2
      refine P_iloadn (i := 3) rfl rfl dX8_sumOf_4 ?_
      refine P_iloadn (i := 1) rfl rfl dX8_sumOf_5 ?_
      refine P_icmpge dX8_sumOf_6 (tgt := 23) rfl (fun h6 => ?_) (fun h6 => absurd ((hz.leN (by omega)).mpr (by show nn z ≤ nn z; omega)) h6)
      refine P_iloadn (i := 2) rfl rfl dX8_sumOf_23 ?_
      refine lX8_144 rfl dX8_sumOf_24 ?_
      refine P_irem (by decide) dX8_sumOf_26 ?_
      refine P_ireturn rfl dX8_sumOf_27 ?_
      exact ⟨rfl, rfl⟩
    | succ n ih =>
      intro i hi
      refine P_iloadn (i := 3) rfl rfl dX8_sumOf_4 ?_
      refine P_iloadn (i := 1) rfl rfl dX8_sumOf_5 ?_
      refine P_icmpge dX8_sumOf_6 (tgt := 23) rfl (fun h6 => absurd h6 (fun h9 => by have h8 : nn z ≤ i := (hz.leN (by omega)).mp h9; omega)) (fun h6 => ?_)
      refine P_iloadn (i := 2) rfl rfl dX8_sumOf_9 ?_
      refine P_iloadn (i := 0) rfl rfl dX8_sumOf_10 ?_
      refine P_iloadn (i := 3) rfl rfl dX8_sumOf_11 ?_
      refine kX8_141 rfl s_byteOf8 (by decide) rfl dX8_sumOf_12 (fun r12 s12 q12 => ?_)
      obtain ⟨rfl, rfl⟩ := q12
      refine P_iadd dX8_sumOf_15 ?_
      refine P_is2 (Or.inl dX8_sumOf_16) rfl rfl ?_
      refine P_inN3 dX8_sumOf_17 rfl rfl ?_
      refine P_goto dX8_sumOf_20 (tgt := 4) rfl ?_
      exact ih (i + 1) (by omega)
  exact loop (nn z) 0 (by omega)
theorem s_countDrop (hM : WM L m) (hA : RA AI m X) {p w : Int32} {k : Nat} (hp : ib p (xp X)) (hw : w = Int32.ofNat k) (hk : 0 < k ∧ k < 8) : Sp g 1 iX8_countDrop [vr m, vi p, vi w] (L, FI, AI, AL, AR) (0, 0) (RM L FI AI AL AR m (x_cd X (nn p) k) none) := by
  refine Sp.of (ls := [some (vr m), some (vi p), some (vi w)]) (by decide +kernel) rfl rfl ?_
  subst hw
  have hp9 := hp.nn
  have hp40 := hA.p40
  refine P_aloadn (i := 0) rfl rfl dX8_countDrop_0 ?_
  refine gX8_7 rfl (by first | exact hM.k0 | exact hM.k1 | exact hM.k2 | exact hM.k3 | exact hM.k4 | exact hM.k5 | exact hM.k6 | exact hM.k7 | exact hM.k8 | exact hM.k9 | exact hM.k10 | exact hM.k11 | exact hM.k12 | exact hM.k13 | exact hM.k14 | exact hM.k15 | exact hM.k16 | exact hM.k17) hM.r256 dX8_countDrop_1 ?_
  refine P_bipush (v := 6) rfl dX8_countDrop_4 ?_
  refine P_iloadn (i := 2) rfl rfl dX8_countDrop_6 ?_
  refine P_iadd dX8_countDrop_7 ?_
  refine P_dup2 rfl rfl dX8_countDrop_8 ?_
  refine P_iaN (j := 6 + k) (by first | exact hM.k0 | exact hM.k1 | exact hM.k2 | exact hM.k3 | exact hM.k4 | exact hM.k5 | exact hM.k6 | exact hM.k7 | exact hM.k8 | exact hM.k9 | exact hM.k10 | exact hM.k11 | exact hM.k12 | exact hM.k13 | exact hM.k14 | exact hM.k15 | exact hM.k16 | exact hM.k17) (by rw [Int32.ofNat_add]; rfl) (by first | omega | (simp only [hM.l1, hM.l2, hM.l3, hM.l4, hM.l5, hM.l6, hM.l7, hM.l8, hM.l9, hM.l10, hM.l11, hM.l12, hM.l13, hM.l14, hM.l15, hM.l16, hM.l17]; omega)) (by first | omega | (simp only [hM.l1, hM.l2, hM.l3, hM.l4, hM.l5, hM.l6, hM.l7, hM.l8, hM.l9, hM.l10, hM.l11, hM.l12, hM.l13, hM.l14, hM.l15, hM.l16, hM.l17]; omega)) (hA.g (by omega) (by omega) (by omega) (by omega)) dX8_countDrop_9 ?_
  refine P_iconst (v := 1) rfl dX8_countDrop_10 ?_
  refine P_iadd dX8_countDrop_11 ?_
  refine P_isN (j := 6 + k) (by first | exact hM.k0 | exact hM.k1 | exact hM.k2 | exact hM.k3 | exact hM.k4 | exact hM.k5 | exact hM.k6 | exact hM.k7 | exact hM.k8 | exact hM.k9 | exact hM.k10 | exact hM.k11 | exact hM.k12 | exact hM.k13 | exact hM.k14 | exact hM.k15 | exact hM.k16 | exact hM.k17) (by rw [Int32.ofNat_add]; rfl) (by first | omega | (simp only [hM.l1, hM.l2, hM.l3, hM.l4, hM.l5, hM.l6, hM.l7, hM.l8, hM.l9, hM.l10, hM.l11, hM.l12, hM.l13, hM.l14, hM.l15, hM.l16, hM.l17]; omega)) (by first | omega | (simp only [hM.l1, hM.l2, hM.l3, hM.l4, hM.l5, hM.l6, hM.l7, hM.l8, hM.l9, hM.l10, hM.l11, hM.l12, hM.l13, hM.l14, hM.l15, hM.l16, hM.l17]; omega)) dX8_countDrop_12 ?_
  have hF := (FA.rf (m := m) (A := AI)).u1 (j := 6 + k) (v := xG X (6 + k) + 1)
  have hA := RA.up (hA.setG (k := 6 + k) (v := xG X (6 + k) + 1) (by omega) (by omega) (by omega) (by omega))
  refine P_aloadn (i := 0) rfl rfl dX8_countDrop_13 ?_
  refine P_iloadn (i := 1) rfl rfl dX8_countDrop_14 ?_
  refine P_bipush (v := 11) rfl dX8_countDrop_15 ?_
  refine P_aloadn (i := 0) rfl rfl dX8_countDrop_17 ?_
  refine P_iloadn (i := 1) rfl rfl dX8_countDrop_18 ?_
  refine P_bipush (v := 11) rfl dX8_countDrop_19 ?_
  refine kX8_102 rfl (s_ofP hM hA (k := 11) (by first | assumption | (apply ib.mono (by assumption); omega)) rfl (by decide)) (by decide) (by first | exact hM.k0 | exact hM.k1 | exact hM.k2 | exact hM.k3 | exact hM.k4 | exact hM.k5 | exact hM.k6 | exact hM.k7 | exact hM.k8 | exact hM.k9 | exact hM.k10 | exact hM.k11 | exact hM.k12 | exact hM.k13 | exact hM.k14 | exact hM.k15 | exact hM.k16 | exact hM.k17) rfl dX8_countDrop_21 (fun r21 s21 q21 => ?_)
  obtain ⟨rfl, rfl⟩ := q21
  refine P_iconst (v := 1) rfl dX8_countDrop_24 ?_
  refine P_iadd dX8_countDrop_25 ?_
  refine kX8_105 rfl (s_layP hM (k := 11) (by first | assumption | (apply ib.mono (by assumption); omega)) rfl (by decide)) (by decide) (by first | exact hM.k0 | exact hM.k1 | exact hM.k2 | exact hM.k3 | exact hM.k4 | exact hM.k5 | exact hM.k6 | exact hM.k7 | exact hM.k8 | exact hM.k9 | exact hM.k10 | exact hM.k11 | exact hM.k12 | exact hM.k13 | exact hM.k14 | exact hM.k15 | exact hM.k16 | exact hM.k17) rfl dX8_countDrop_26 (fun r26 s26 q26 => ?_)
  obtain ⟨rfl, rfl⟩ := q26
  have hF := hF.u1 (j := 246 + 14 * nn p + 11) (v := xP X (nn p) 11 + 1)
  have hA := RA.up (hA.setP (i0 := nn p) (k := 11) (v := xP X (nn p) 11 + 1) hp9 (by decide))
  refine P_return rfl dX8_countDrop_29 ?_
  exact ⟨_, rfl, rfl, hF, hA⟩
end Ref1
