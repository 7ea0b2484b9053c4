theorem n_idt {p : Int32} {n : Nat} (hp : ib p n) (i : Nat) : (4000 : Int32) * p + Int32.ofNat i = Int32.ofNat (4000 * nn p + i) := by
  have h := hp.eq
  show _ = Int32.ofNat (4000 * p.toNatClampNeg + i)
  rw [Int32.ofNat_add, Int32.ofNat_mul, ← h]
  rfl
theorem x_any_mono {t : Nat → Int32} {a j : Nat} (h : x_any t a j = true) : ∀ n, j ≤ n → x_any t a n = true := by
  intro n
  induction n with
  | zero =>
    intro hj
    have : j = 0 := by omega
    subst this
    exact h
  | succ n ih =>
    intro hj
    by_cases e : j = n + 1
    · rw [← e]; exact h
    · unfold x_any
      rw [ih (by omega)]
      rfl
theorem x_bytes_s (P : Nat → Nat → Int32) (node : Int32) (n : Nat) : x_bytes P node (n + 1) = x_bytes P node n + (if P n 1 = node then P n 12 else 0) := rfl
theorem n_nn {j : Nat} (h : j < 2147483648) : nn (Int32.ofNat j) = j := n_cn h
section Ref3
variable {g : PG} {L : PL} {FI AI : Nat → Nat → Int32} {AL : Nat → Nat → Int64} {AR : Nat → Nat → Option Nat} {m : Nat} {X : XW}
theorem s_isAnyThere (hM : WM L m) (hA : RA AI m X) {p a b : Int32} (hp : ib p (xp X)) (ha : ib a 5600) (hb : ib b 4001) : Sp g 0 iX8_isAnyThere [vr m, vi p, vi a, vi b] (L, FI, AI, AL, AR) (0, 0) (QI (L, FI, AI, AL, AR) (if x_any (xT X (nn p)) (nn a) (nn b - nn a) = true then 1 else 0)) := by
  refine Sp.of (ls := [some (vr m), some (vi p), some (vi a), some (vi b), none]) (by decide +kernel) rfl rfl ?_
  have hp9 := hp.nn
  have hb9 := hb.nn
  have ha9 := ha.nn
  have hp40 := hA.p40
  have loop : ∀ n i, nn b ≤ i + n → nn a ≤ i → x_any (xT X (nn p)) (nn a) (i - nn a) = false → (i ≤ nn b ∨ i = nn a) → P g 0 iX8_isAnyThere 3 [some (vr m), some (vi p), some (vi a), some (vi b), some (vi (Int32.ofNat i))] [] (L, FI, AI, AL, AR) (0, 0) (QI (L, FI, AI, AL, AR) (if x_any (xT X (nn p)) (nn a) (nn b - nn a) = true then 1 else 0)) := by
    intro n
    induction n with
    | zero =>
      intro i hi hai hf hor
      · skip
        refine P_iload (i := 4) rfl dX8_isAnyThere_3 ?_
        refine P_iloadn (i := 3) rfl rfl dX8_isAnyThere_5 ?_
        refine P_icmpge dX8_isAnyThere_6 (tgt := 33) rfl (fun h6 => ?_) (fun h6 => absurd ((hb.leN (by omega)).mpr (by show nn b ≤ i; omega)) h6)
        refine P_iconst (v := 0) rfl dX8_isAnyThere_33 ?_
        refine P_zreturn rfl (by first | exact Or.inl rfl | exact Or.inr rfl | assumption) dX8_isAnyThere_34 ?_
        refine ⟨congrArg (fun z => some (vi z)) ?_, rfl⟩
        rw [if_neg]
        rw [show nn b - nn a = i - nn a by omega, hf]
        exact Bool.false_ne_true
    | succ n ih =>
      intro i hi hai hf hor
      by_cases hlt : i < nn b
      · skip
        refine P_iload (i := 4) rfl dX8_isAnyThere_3 ?_
        refine P_iloadn (i := 3) rfl rfl dX8_isAnyThere_5 ?_
        refine P_icmpge dX8_isAnyThere_6 (tgt := 33) rfl (fun h6 => absurd h6 (fun h9 => by have h8 : nn b ≤ i := (hb.leN (by omega)).mp h9; omega)) (fun h6 => ?_)
        refine P_aloadn (i := 0) rfl rfl dX8_isAnyThere_9 ?_
        refine gX8_14 rfl (by first | exact hM.k0 | exact hM.k1 | exact hM.k2 | exact hM.k3 | exact hM.k4 | exact hM.k5 | exact hM.k6 | exact hM.k7 | exact hM.k8 | exact hM.k9 | exact hM.k10 | exact hM.k11 | exact hM.k12 | exact hM.k13 | exact hM.k14 | exact hM.k15 | exact hM.k16 | exact hM.k17) hM.r257 dX8_isAnyThere_10 ?_
        refine P_sipush (v := 4000) rfl dX8_isAnyThere_13 ?_
        refine P_iloadn (i := 1) rfl rfl dX8_isAnyThere_16 ?_
        refine P_imul dX8_isAnyThere_17 ?_
        refine P_iload (i := 4) rfl dX8_isAnyThere_18 ?_
        refine P_iadd dX8_isAnyThere_20 ?_
        refine P_iaN (j := 4000 * nn p + i) (by first | exact hM.k0 | exact hM.k1 | exact hM.k2 | exact hM.k3 | exact hM.k4 | exact hM.k5 | exact hM.k6 | exact hM.k7 | exact hM.k8 | exact hM.k9 | exact hM.k10 | exact hM.k11 | exact hM.k12 | exact hM.k13 | exact hM.k14 | exact hM.k15 | exact hM.k16 | exact hM.k17) (n_idt hp i) (by first | omega | (simp only [hM.l1, hM.l2, hM.l3, hM.l4, hM.l5, hM.l6, hM.l7, hM.l8, hM.l9, hM.l10, hM.l11, hM.l12, hM.l13, hM.l14, hM.l15, hM.l16, hM.l17]; omega)) (by first | omega | (simp only [hM.l1, hM.l2, hM.l3, hM.l4, hM.l5, hM.l6, hM.l7, hM.l8, hM.l9, hM.l10, hM.l11, hM.l12, hM.l13, hM.l14, hM.l15, hM.l16, hM.l17]; omega)) (hA.tt hp9 (by omega)) dX8_isAnyThere_21 ?_
        refine P_iflt dX8_isAnyThere_22 (tgt := 27) rfl (fun h22 => ?_) (fun h22 => ?_)
        · refine P_inN4 dX8_isAnyThere_27 rfl rfl ?_
          refine P_goto dX8_isAnyThere_30 (tgt := 3) rfl ?_
          refine ih (i + 1) (by omega) (by omega) ?_ (by omega)
          rw [show i + 1 - nn a = (i - nn a) + 1 by omega]
          unfold x_any
          rw [hf, show nn a + (i - nn a) = i by omega]
          simp only [Bool.false_or, decide_eq_false_iff_not, Int32.not_le]
          exact h22
        · refine P_iconst (v := 1) rfl dX8_isAnyThere_25 ?_
          refine P_zreturn rfl (by first | exact Or.inl rfl | exact Or.inr rfl | assumption) dX8_isAnyThere_26 ?_
          refine ⟨congrArg (fun z => some (vi z)) ?_, rfl⟩
          rw [if_pos]
          refine x_any_mono (j := (i - nn a) + 1) ?_ _ (by omega)
          unfold x_any
          rw [show nn a + (i - nn a) = i by omega]
          simp only [Bool.or_eq_true, decide_eq_true_eq]
          exact Or.inr (Int32.not_lt.mp h22)
      · skip
        refine P_iload (i := 4) rfl dX8_isAnyThere_3 ?_
        refine P_iloadn (i := 3) rfl rfl dX8_isAnyThere_5 ?_
        refine P_icmpge dX8_isAnyThere_6 (tgt := 33) rfl (fun h6 => ?_) (fun h6 => absurd ((hb.leN (by omega)).mpr (by show nn b ≤ i; omega)) h6)
        refine P_iconst (v := 0) rfl dX8_isAnyThere_33 ?_
        refine P_zreturn rfl (by first | exact Or.inl rfl | exact Or.inr rfl | assumption) dX8_isAnyThere_34 ?_
        refine ⟨congrArg (fun z => some (vi z)) ?_, rfl⟩
        rw [if_neg]
        rw [show nn b - nn a = i - nn a by omega, hf]
        exact Bool.false_ne_true
  refine P_iloadn (i := 2) rfl rfl dX8_isAnyThere_0 ?_
  refine P_is4 (Or.inr dX8_isAnyThere_1) rfl rfl ?_
  have h1 := loop (nn b) (nn a) (by omega) (Nat.le_refl _) (by rw [Nat.sub_self]; rfl) (Or.inr rfl)
  rw [← ha.eq] at h1
  exact h1
theorem s_bytesAt (hM : WM L m) (hA : RA AI m X) {node : Int32} : Sp g 1 iX8_bytesAt [vr m, vi node] (L, FI, AI, AL, AR) (0, 0) (QI (L, FI, AI, AL, AR) (x_bytes (xP X) node (xp X))) := by
  refine Sp.of (ls := [some (vr m), some (vi node), none, none]) (by decide +kernel) rfl rfl ?_
  have hp40 := hA.p40
  have loop : ∀ n i, i + n = xp X → P g 1 iX8_bytesAt 4 [some (vr m), some (vi node), some (vi (x_bytes (xP X) node i)), some (vi (Int32.ofNat i))] [] (L, FI, AI, AL, AR) (0, 0) (QI (L, FI, AI, AL, AR) (x_bytes (xP X) node (xp X))) := by
    intro n
    induction n with
    | zero =>
      intro i hi
      refine P_iloadn (i := 3) rfl rfl dX8_bytesAt_4 ?_
      refine P_aloadn (i := 0) rfl rfl dX8_bytesAt_5 ?_
      refine gX8_7 rfl (by first | exact hM.k0 | exact hM.k1 | exact hM.k2 | exact hM.k3 | exact hM.k4 | exact hM.k5 | exact hM.k6 | exact hM.k7 | exact hM.k8 | exact hM.k9 | exact hM.k10 | exact hM.k11 | exact hM.k12 | exact hM.k13 | exact hM.k14 | exact hM.k15 | exact hM.k16 | exact hM.k17) hM.r256 dX8_bytesAt_6 ?_
      refine P_iconst (v := 2) rfl dX8_bytesAt_9 ?_
      refine P_iaN (j := 2) (by first | exact hM.k0 | exact hM.k1 | exact hM.k2 | exact hM.k3 | exact hM.k4 | exact hM.k5 | exact hM.k6 | exact hM.k7 | exact hM.k8 | exact hM.k9 | exact hM.k10 | exact hM.k11 | exact hM.k12 | exact hM.k13 | exact hM.k14 | exact hM.k15 | exact hM.k16 | exact hM.k17) rfl (by first | omega | (simp only [hM.l1, hM.l2, hM.l3, hM.l4, hM.l5, hM.l6, hM.l7, hM.l8, hM.l9, hM.l10, hM.l11, hM.l12, hM.l13, hM.l14, hM.l15, hM.l16, hM.l17]; omega)) (by first | omega | (simp only [hM.l1, hM.l2, hM.l3, hM.l4, hM.l5, hM.l6, hM.l7, hM.l8, hM.l9, hM.l10, hM.l11, hM.l12, hM.l13, hM.l14, hM.l15, hM.l16, hM.l17]; omega)) hA.np dX8_bytesAt_10 ?_
      refine P_icmpge dX8_bytesAt_11 (tgt := 44) rfl (fun h11 => ?_) (fun h11 => absurd ((n_le (by omega) (by omega)).mpr (by omega)) h11)
      refine P_iloadn (i := 2) rfl rfl dX8_bytesAt_44 ?_
      refine P_ireturn rfl dX8_bytesAt_45 ?_
      have e : i = xp X := (by omega)
      subst e
      exact ⟨rfl, rfl⟩
    | succ n ih =>
      intro i hi
      refine P_iloadn (i := 3) rfl rfl dX8_bytesAt_4 ?_
      refine P_aloadn (i := 0) rfl rfl dX8_bytesAt_5 ?_
      refine gX8_7 rfl (by first | exact hM.k0 | exact hM.k1 | exact hM.k2 | exact hM.k3 | exact hM.k4 | exact hM.k5 | exact hM.k6 | exact hM.k7 | exact hM.k8 | exact hM.k9 | exact hM.k10 | exact hM.k11 | exact hM.k12 | exact hM.k13 | exact hM.k14 | exact hM.k15 | exact hM.k16 | exact hM.k17) hM.r256 dX8_bytesAt_6 ?_
      refine P_iconst (v := 2) rfl dX8_bytesAt_9 ?_
      refine P_iaN (j := 2) (by first | exact hM.k0 | exact hM.k1 | exact hM.k2 | exact hM.k3 | exact hM.k4 | exact hM.k5 | exact hM.k6 | exact hM.k7 | exact hM.k8 | exact hM.k9 | exact hM.k10 | exact hM.k11 | exact hM.k12 | exact hM.k13 | exact hM.k14 | exact hM.k15 | exact hM.k16 | exact hM.k17) rfl (by first | omega | (simp only [hM.l1, hM.l2, hM.l3, hM.l4, hM.l5, hM.l6, hM.l7, hM.l8, hM.l9, hM.l10, hM.l11, hM.l12, hM.l13, hM.l14, hM.l15, hM.l16, hM.l17]; omega)) (by first | omega | (simp only [hM.l1, hM.l2, hM.l3, hM.l4, hM.l5, hM.l6, hM.l7, hM.l8, hM.l9, hM.l10, hM.l11, hM.l12, hM.l13, hM.l14, hM.l15, hM.l16, hM.l17]; omega)) hA.np dX8_bytesAt_10 ?_
      refine P_icmpge dX8_bytesAt_11 (tgt := 44) rfl (fun h11 => absurd h11 (fun h9 => by rw [n_le (by omega) (by omega)] at h9; omega)) (fun h11 => ?_)
      refine P_iloadn (i := 2) rfl rfl dX8_bytesAt_14 ?_
      refine P_aloadn (i := 0) rfl rfl dX8_bytesAt_15 ?_
      refine P_iloadn (i := 3) rfl rfl dX8_bytesAt_16 ?_
      refine P_iconst (v := 1) rfl dX8_bytesAt_17 ?_
      refine kX8_102 rfl (s_ofP hM hA (k := 1) (by exact ib.of (by omega) (by omega)) rfl (by decide)) (by decide) (by first | exact hM.k0 | exact hM.k1 | exact hM.k2 | exact hM.k3 | exact hM.k4 | exact hM.k5 | exact hM.k6 | exact hM.k7 | exact hM.k8 | exact hM.k9 | exact hM.k10 | exact hM.k11 | exact hM.k12 | exact hM.k13 | exact hM.k14 | exact hM.k15 | exact hM.k16 | exact hM.k17) rfl dX8_bytesAt_18 (fun r18 s18 q18 => ?_)
      obtain ⟨rfl, rfl⟩ := q18
      refine P_iloadn (i := 1) rfl rfl dX8_bytesAt_21 ?_
      refine P_icmpne dX8_bytesAt_22 (tgt := 35) rfl (fun h22 => ?_) (fun h22 => ?_)
      · rw [n_nn (j := i) (by omega)] at h22
        refine P_iconst (v := 0) rfl dX8_bytesAt_35 ?_
        refine P_iadd dX8_bytesAt_36 ?_
        refine P_is2 (Or.inl dX8_bytesAt_37) rfl rfl ?_
        refine P_inN3 dX8_bytesAt_38 rfl rfl ?_
        refine P_goto dX8_bytesAt_41 (tgt := 4) rfl ?_
        have e2 := ih (i + 1) (by omega)
        rw [x_bytes_s, if_neg h22] at e2
        exact e2
      · rw [n_nn (j := i) (by omega)] at h22
        refine P_aloadn (i := 0) rfl rfl dX8_bytesAt_25 ?_
        refine P_iloadn (i := 3) rfl rfl dX8_bytesAt_26 ?_
        refine P_bipush (v := 12) rfl dX8_bytesAt_27 ?_
        refine kX8_102 rfl (s_ofP hM hA (k := 12) (by exact ib.of (by omega) (by omega)) rfl (by decide)) (by decide) (by first | exact hM.k0 | exact hM.k1 | exact hM.k2 | exact hM.k3 | exact hM.k4 | exact hM.k5 | exact hM.k6 | exact hM.k7 | exact hM.k8 | exact hM.k9 | exact hM.k10 | exact hM.k11 | exact hM.k12 | exact hM.k13 | exact hM.k14 | exact hM.k15 | exact hM.k16 | exact hM.k17) rfl dX8_bytesAt_29 (fun r29 s29 q29 => ?_)
        obtain ⟨rfl, rfl⟩ := q29
        refine P_goto dX8_bytesAt_32 (tgt := 36) rfl ?_
        refine P_iadd dX8_bytesAt_36 ?_
        refine P_is2 (Or.inl dX8_bytesAt_37) rfl rfl ?_
        refine P_inN3 dX8_bytesAt_38 rfl rfl ?_
        refine P_goto dX8_bytesAt_41 (tgt := 4) rfl ?_
        have e2 := ih (i + 1) (by omega)
        rw [x_bytes_s, if_pos h22] at e2
        rw [n_nn (j := i) (by omega)]
        exact e2
  refine P_iconst (v := 0) rfl dX8_bytesAt_0 ?_
  refine P_is2 (Or.inl dX8_bytesAt_1) rfl rfl ?_
  refine P_iconst (v := 0) rfl dX8_bytesAt_2 ?_
  refine P_is3 (Or.inl dX8_bytesAt_3) rfl rfl ?_
  exact loop (xp X) 0 (by omega)
theorem s_isWrongSlice (hM : WM L m) (hA : RA AI m X) {p e la : Int32} (hp : ib p (xp X)) (he0 : 0 ≤ e.toInt) (hl : la = 0 ∨ la = 1) : Sp g 1 iX8_isWrongSlice [vr m, vi p, vi e, vi la] (L, FI, AI, AL, AR) (0, 0) (QI (L, FI, AI, AL, AR) (if x_wrong X (nn p) e (decide (la = 1)) = true then 1 else 0)) := by
  refine Sp.of (ls := [some (vr m), some (vi p), some (vi e), some (vi la), none]) (by decide +kernel) rfl rfl ?_
  have hp40 := hA.p40
  have hla : ¬ la = 0 → la = 1 := fun h => by rcases hl with h2 | h2 <;> first | exact h2 | exact absurd h2 h
  have hlb : la = 0 → ¬ la = 1 := fun h h2 => by rw [h] at h2; exact absurd h2 (by decide)
  refine P_aloadn (i := 0) rfl rfl dX8_isWrongSlice_0 ?_
  refine P_iloadn (i := 1) rfl rfl dX8_isWrongSlice_1 ?_
  refine P_bipush (v := 8) rfl dX8_isWrongSlice_2 ?_
  refine kX8_102 rfl (s_ofP hM hA (k := 8) (by first | assumption | (apply ib.mono (by assumption); omega)) rfl (by decide)) (by decide) (by first | exact hM.k0 | exact hM.k1 | exact hM.k2 | exact hM.k3 | exact hM.k4 | exact hM.k5 | exact hM.k6 | exact hM.k7 | exact hM.k8 | exact hM.k9 | exact hM.k10 | exact hM.k11 | exact hM.k12 | exact hM.k13 | exact hM.k14 | exact hM.k15 | exact hM.k16 | exact hM.k17) rfl dX8_isWrongSlice_4 (fun r4 s4 q4 => ?_)
  obtain ⟨rfl, rfl⟩ := q4
  refine P_is4 (Or.inr dX8_isWrongSlice_7) rfl rfl ?_
  refine P_iloadn (i := 2) rfl rfl dX8_isWrongSlice_9 ?_
  refine P_sipush (v := 4000) rfl dX8_isWrongSlice_10 ?_
  refine P_icmpgt dX8_isWrongSlice_13 (tgt := 37) rfl (fun h13 => ?_) (fun h13 => ?_)
  · refine P_iconst (v := 1) rfl dX8_isWrongSlice_37 ?_
    refine P_zreturn rfl (by first | exact Or.inl rfl | exact Or.inr rfl | assumption) dX8_isWrongSlice_38 ?_
    refine ⟨congrArg (fun z => some (vi z)) ?_, rfl⟩
    unfold x_wrong
    simp only [Bool.or_eq_true, Bool.and_eq_true, decide_eq_true_eq]
    exact (if_pos (Or.inl (Or.inl h13))).symm
  · refine P_iload (i := 4) rfl dX8_isWrongSlice_16 ?_
    refine P_iflt dX8_isWrongSlice_18 (tgt := 39) rfl (fun h18 => ?_) (fun h18 => ?_)
    · refine P_iloadn (i := 3) rfl rfl dX8_isWrongSlice_39 ?_
      refine P_ifeq dX8_isWrongSlice_40 (tgt := 59) rfl (fun h40 => ?_) (fun h40 => ?_)
      · refine P_iconst (v := 0) rfl dX8_isWrongSlice_59 ?_
        refine P_zreturn rfl (by first | exact Or.inl rfl | exact Or.inr rfl | assumption) dX8_isWrongSlice_60 ?_
        refine ⟨congrArg (fun z => some (vi z)) ?_, rfl⟩
        unfold x_wrong
        simp only [Bool.or_eq_true, Bool.and_eq_true, decide_eq_true_eq]
        refine (if_neg ?_).symm
        rintro ((h1 | ⟨h1, h2 | ⟨h2, h3⟩⟩) | ⟨h1, h2⟩)
        · exact h13 h1
        · exact Int32.not_lt.mpr h1 h18
        · exact Int32.not_lt.mpr h1 h18
        · exact hlb h40 h1
      · refine P_aloadn (i := 0) rfl rfl dX8_isWrongSlice_43 ?_
        refine P_iloadn (i := 1) rfl rfl dX8_isWrongSlice_44 ?_
        refine P_iloadn (i := 2) rfl rfl dX8_isWrongSlice_45 ?_
        refine P_sipush (v := 4000) rfl dX8_isWrongSlice_46 ?_
        have he : ib e 4001 := ⟨he0, by have h0 := Int32.not_lt.mp h13; rw [Int32.le_iff_toInt_le] at h0; simp only [Int32.reduceToInt] at h0; omega⟩
        refine kX8_145 rfl (s_isAnyThere hM hA hp (he.mono (by decide)) (ib.of (j := 4000) (by decide) (by decide))) (by decide) (by first | exact hM.k0 | exact hM.k1 | exact hM.k2 | exact hM.k3 | exact hM.k4 | exact hM.k5 | exact hM.k6 | exact hM.k7 | exact hM.k8 | exact hM.k9 | exact hM.k10 | exact hM.k11 | exact hM.k12 | exact hM.k13 | exact hM.k14 | exact hM.k15 | exact hM.k16 | exact hM.k17) rfl dX8_isWrongSlice_49 (fun r49 s49 q49 => ?_)
        obtain ⟨rfl, rfl⟩ := q49
        refine P_ifeq dX8_isWrongSlice_52 (tgt := 59) rfl (fun h52 => ?_) (fun h52 => ?_)
        · refine P_iconst (v := 0) rfl dX8_isWrongSlice_59 ?_
          refine P_zreturn rfl (by first | exact Or.inl rfl | exact Or.inr rfl | assumption) dX8_isWrongSlice_60 ?_
          refine ⟨congrArg (fun z => some (vi z)) ?_, rfl⟩
          unfold x_wrong
          simp only [Bool.or_eq_true, Bool.and_eq_true, decide_eq_true_eq]
          refine (if_neg ?_).symm
          rintro ((h1 | ⟨h1, h2 | ⟨h2, h3⟩⟩) | ⟨h1, h2⟩)
          · exact h13 h1
          · exact Int32.not_lt.mpr h1 h18
          · exact Int32.not_lt.mpr h1 h18
          · exact b_f h52 h2
        · refine P_iconst (v := 1) rfl dX8_isWrongSlice_55 ?_
          refine P_goto dX8_isWrongSlice_56 (tgt := 60) rfl ?_
          refine P_zreturn rfl (by first | exact Or.inl rfl | exact Or.inr rfl | assumption) dX8_isWrongSlice_60 ?_
          refine ⟨congrArg (fun z => some (vi z)) ?_, rfl⟩
          unfold x_wrong
          simp only [Bool.or_eq_true, Bool.and_eq_true, decide_eq_true_eq]
          exact (if_pos (Or.inr ⟨hla h40, b_t h52⟩)).symm
    · refine P_iloadn (i := 2) rfl rfl dX8_isWrongSlice_21 ?_
      refine P_iload (i := 4) rfl dX8_isWrongSlice_22 ?_
      refine P_icmpgt dX8_isWrongSlice_24 (tgt := 37) rfl (fun h24 => ?_) (fun h24 => ?_)
      · refine P_iconst (v := 1) rfl dX8_isWrongSlice_37 ?_
        refine P_zreturn rfl (by first | exact Or.inl rfl | exact Or.inr rfl | assumption) dX8_isWrongSlice_38 ?_
        refine ⟨congrArg (fun z => some (vi z)) ?_, rfl⟩
        unfold x_wrong
        simp only [Bool.or_eq_true, Bool.and_eq_true, decide_eq_true_eq]
        exact (if_pos (Or.inl (Or.inr ⟨Int32.not_lt.mp h18, Or.inl h24⟩))).symm
      · refine P_iloadn (i := 3) rfl rfl dX8_isWrongSlice_27 ?_
        refine P_ifeq dX8_isWrongSlice_28 (tgt := 39) rfl (fun h28 => ?_) (fun h28 => ?_)
        · refine P_iloadn (i := 3) rfl rfl dX8_isWrongSlice_39 ?_
          refine P_ifeq dX8_isWrongSlice_40 (tgt := 59) rfl (fun h40 => ?_) (fun h40 => ?_)
          · refine P_iconst (v := 0) rfl dX8_isWrongSlice_59 ?_
            refine P_zreturn rfl (by first | exact Or.inl rfl | exact Or.inr rfl | assumption) dX8_isWrongSlice_60 ?_
            refine ⟨congrArg (fun z => some (vi z)) ?_, rfl⟩
            unfold x_wrong
            simp only [Bool.or_eq_true, Bool.and_eq_true, decide_eq_true_eq]
            refine (if_neg ?_).symm
            rintro ((h1 | ⟨h1, h2 | ⟨h2, h3⟩⟩) | ⟨h1, h2⟩)
            · exact h13 h1
            · exact h24 h2
            · exact hlb h28 h2
            · exact hlb h40 h1
          · refine P_aloadn (i := 0) rfl rfl dX8_isWrongSlice_43 ?_
            refine P_iloadn (i := 1) rfl rfl dX8_isWrongSlice_44 ?_
            refine P_iloadn (i := 2) rfl rfl dX8_isWrongSlice_45 ?_
            refine P_sipush (v := 4000) rfl dX8_isWrongSlice_46 ?_
            have he : ib e 4001 := ⟨he0, by have h0 := Int32.not_lt.mp h13; rw [Int32.le_iff_toInt_le] at h0; simp only [Int32.reduceToInt] at h0; omega⟩
            refine kX8_145 rfl (s_isAnyThere hM hA hp (he.mono (by decide)) (ib.of (j := 4000) (by decide) (by decide))) (by decide) (by first | exact hM.k0 | exact hM.k1 | exact hM.k2 | exact hM.k3 | exact hM.k4 | exact hM.k5 | exact hM.k6 | exact hM.k7 | exact hM.k8 | exact hM.k9 | exact hM.k10 | exact hM.k11 | exact hM.k12 | exact hM.k13 | exact hM.k14 | exact hM.k15 | exact hM.k16 | exact hM.k17) rfl dX8_isWrongSlice_49 (fun r49 s49 q49 => ?_)
            obtain ⟨rfl, rfl⟩ := q49
            refine P_ifeq dX8_isWrongSlice_52 (tgt := 59) rfl (fun h52 => ?_) (fun h52 => ?_)
            · refine P_iconst (v := 0) rfl dX8_isWrongSlice_59 ?_
              refine P_zreturn rfl (by first | exact Or.inl rfl | exact Or.inr rfl | assumption) dX8_isWrongSlice_60 ?_
              refine ⟨congrArg (fun z => some (vi z)) ?_, rfl⟩
              unfold x_wrong
              simp only [Bool.or_eq_true, Bool.and_eq_true, decide_eq_true_eq]
              refine (if_neg ?_).symm
              rintro ((h1 | ⟨h1, h2 | ⟨h2, h3⟩⟩) | ⟨h1, h2⟩)
              · exact h13 h1
              · exact h24 h2
              · exact hlb h28 h2
              · exact b_f h52 h2
            · refine P_iconst (v := 1) rfl dX8_isWrongSlice_55 ?_
              refine P_goto dX8_isWrongSlice_56 (tgt := 60) rfl ?_
              refine P_zreturn rfl (by first | exact Or.inl rfl | exact Or.inr rfl | assumption) dX8_isWrongSlice_60 ?_
              refine ⟨congrArg (fun z => some (vi z)) ?_, rfl⟩
              unfold x_wrong
              simp only [Bool.or_eq_true, Bool.and_eq_true, decide_eq_true_eq]
              exact (if_pos (Or.inr ⟨hla h40, b_t h52⟩)).symm
        · refine P_iloadn (i := 2) rfl rfl dX8_isWrongSlice_31 ?_
          refine P_iload (i := 4) rfl dX8_isWrongSlice_32 ?_
          refine P_icmpeq dX8_isWrongSlice_34 (tgt := 39) rfl (fun h34 => ?_) (fun h34 => ?_)
          · refine P_iloadn (i := 3) rfl rfl dX8_isWrongSlice_39 ?_
            refine P_ifeq dX8_isWrongSlice_40 (tgt := 59) rfl (fun h40 => ?_) (fun h40 => ?_)
            · refine P_iconst (v := 0) rfl dX8_isWrongSlice_59 ?_
              refine P_zreturn rfl (by first | exact Or.inl rfl | exact Or.inr rfl | assumption) dX8_isWrongSlice_60 ?_
              refine ⟨congrArg (fun z => some (vi z)) ?_, rfl⟩
              unfold x_wrong
              simp only [Bool.or_eq_true, Bool.and_eq_true, decide_eq_true_eq]
              refine (if_neg ?_).symm
              rintro ((h1 | ⟨h1, h2 | ⟨h2, h3⟩⟩) | ⟨h1, h2⟩)
              · exact h13 h1
              · exact h24 h2
              · exact h3 h34
              · exact hlb h40 h1
            · refine P_aloadn (i := 0) rfl rfl dX8_isWrongSlice_43 ?_
              refine P_iloadn (i := 1) rfl rfl dX8_isWrongSlice_44 ?_
              refine P_iloadn (i := 2) rfl rfl dX8_isWrongSlice_45 ?_
              refine P_sipush (v := 4000) rfl dX8_isWrongSlice_46 ?_
              have he : ib e 4001 := ⟨he0, by have h0 := Int32.not_lt.mp h13; rw [Int32.le_iff_toInt_le] at h0; simp only [Int32.reduceToInt] at h0; omega⟩
              refine kX8_145 rfl (s_isAnyThere hM hA hp (he.mono (by decide)) (ib.of (j := 4000) (by decide) (by decide))) (by decide) (by first | exact hM.k0 | exact hM.k1 | exact hM.k2 | exact hM.k3 | exact hM.k4 | exact hM.k5 | exact hM.k6 | exact hM.k7 | exact hM.k8 | exact hM.k9 | exact hM.k10 | exact hM.k11 | exact hM.k12 | exact hM.k13 | exact hM.k14 | exact hM.k15 | exact hM.k16 | exact hM.k17) rfl dX8_isWrongSlice_49 (fun r49 s49 q49 => ?_)
              obtain ⟨rfl, rfl⟩ := q49
              refine P_ifeq dX8_isWrongSlice_52 (tgt := 59) rfl (fun h52 => ?_) (fun h52 => ?_)
              · refine P_iconst (v := 0) rfl dX8_isWrongSlice_59 ?_
                refine P_zreturn rfl (by first | exact Or.inl rfl | exact Or.inr rfl | assumption) dX8_isWrongSlice_60 ?_
                refine ⟨congrArg (fun z => some (vi z)) ?_, rfl⟩
                unfold x_wrong
                simp only [Bool.or_eq_true, Bool.and_eq_true, decide_eq_true_eq]
                refine (if_neg ?_).symm
                rintro ((h1 | ⟨h1, h2 | ⟨h2, h3⟩⟩) | ⟨h1, h2⟩)
                · exact h13 h1
                · exact h24 h2
                · exact h3 h34
                · exact b_f h52 h2
              · refine P_iconst (v := 1) rfl dX8_isWrongSlice_55 ?_
                refine P_goto dX8_isWrongSlice_56 (tgt := 60) rfl ?_
                refine P_zreturn rfl (by first | exact Or.inl rfl | exact Or.inr rfl | assumption) dX8_isWrongSlice_60 ?_
                refine ⟨congrArg (fun z => some (vi z)) ?_, rfl⟩
                unfold x_wrong
                simp only [Bool.or_eq_true, Bool.and_eq_true, decide_eq_true_eq]
                exact (if_pos (Or.inr ⟨hla h40, b_t h52⟩)).symm
          · refine P_iconst (v := 1) rfl dX8_isWrongSlice_37 ?_
            refine P_zreturn rfl (by first | exact Or.inl rfl | exact Or.inr rfl | assumption) dX8_isWrongSlice_38 ?_
            refine ⟨congrArg (fun z => some (vi z)) ?_, rfl⟩
            unfold x_wrong
            simp only [Bool.or_eq_true, Bool.and_eq_true, decide_eq_true_eq]
            exact (if_pos (Or.inl (Or.inr ⟨Int32.not_lt.mp h18, Or.inr ⟨hla h28, h34⟩⟩))).symm
end Ref3
