theorem x_any_iff {t : Nat → Int32} {a : Nat} : ∀ n, x_any t a n = true ↔ ∃ i, a ≤ i ∧ i < a + n ∧ 0 ≤ t i := by
  intro n
  induction n with
  | zero =>
    constructor
    · intro h; exact absurd h Bool.false_ne_true
    · rintro ⟨i, h1, h2, _⟩; omega
  | succ n ih =>
    show (x_any t a n || decide (0 ≤ t (a + n))) = true ↔ _
    rw [Bool.or_eq_true, decide_eq_true_eq, ih]
    constructor
    · rintro (⟨i, h1, h2, h3⟩ | h)
      · exact ⟨i, h1, by omega, h3⟩
      · exact ⟨a + n, by omega, by omega, h⟩
    · rintro ⟨i, h1, h2, h3⟩
      by_cases e : i = a + n
      · rw [e] at h3; exact Or.inr h3
      · exact Or.inl ⟨i, h1, by omega, h3⟩
def w_wrong (r t : Nat → Int32) (ends : Int32) (last : Bool) : Bool :=
  decide (4000 < ends) || (decide (0 ≤ r 8) && (decide (r 8 < ends) || (last && decide (¬ ends = r 8)))) || (last && x_any t (nn ends) (4000 - nn ends))
theorem x_cnt_all {t : Nat → Int32} : ∀ n, x_cnt t n = n → ∀ i, i < n → 0 ≤ t i := by
  intro n
  induction n with
  | zero => intro _ i hi; omega
  | succ n ih =>
    intro h i hi
    have h1 := x_cnt_le t n
    have h2 : x_cnt t (n + 1) = x_cnt t n + (if 0 ≤ t n then 1 else 0) := rfl
    rw [h2] at h
    by_cases e : 0 ≤ t n
    · rw [if_pos e] at h
      by_cases e2 : i = n
      · rw [e2]; exact e
      · exact ih (by omega) i (by omega)
    · rw [if_neg e] at h; omega
theorem x_cnt_top {t : Nat → Int32} {b : Nat} : ∀ n, b ≤ n → (∀ i, b ≤ i → i < n → t i < 0) → x_cnt t n = x_cnt t b := by
  intro n
  induction n with
  | zero => intro h _; rw [show b = 0 by omega]
  | succ n ih =>
    intro h h2
    by_cases e : b = n + 1
    · rw [e]
    · have h3 : x_cnt t (n + 1) = x_cnt t n + (if 0 ≤ t n then 1 else 0) := rfl
      rw [h3, if_neg (Int32.not_le.mpr (h2 n (by omega) (by omega))), ih (by omega) (fun i h4 h5 => h2 i h4 (by omega))]
      rfl
/-- of a parcel whose length is known: how many bytes can be there, and when they are all there -/
theorem qP.full {r t : Nat → Int32} {tick : Int32} (h : qP r t tick) (h8 : ¬ r 8 = -6) : ib (r 8) 4001 ∧ 1 ≤ nn (r 8) ∧ x_cnt t 4000 = x_cnt t (nn (r 8)) ∧ x_cnt t (nn (r 8)) ≤ nn (r 8) := by
  obtain ⟨g1, g2, g3⟩ := h.2.2.2.2.2.1.resolve_left h8
  have hc := i_cn (r 8)
  have h9 : (nn (r 8) : Int) = (r 8).toInt := by show ((r 8).toNatClampNeg : Int) = _; omega
  refine ⟨⟨by omega, by omega⟩, by omega, x_cnt_top 4000 (by omega) (fun i h1 h2 => g3 i h2 (by omega)), x_cnt_le t _⟩
theorem i_neg6 {x : Int32} (h : 0 ≤ x.toInt) : ¬ x = -6 := fun e => by rw [e] at h; exact absurd h (by decide)
section Cls9
variable {g : PG} {L : PL} {FI AI : Nat → Nat → Int32} {AL : Nat → Nat → Int64} {AR : Nat → Nat → Option Nat} {q : Nat} {r t : Nat → Int32} {a : Nat} {tick : Int32} {σ : XS}
theorem s_fits (hl : LQ L q) (hr : RP FI AL q r t) (hq : qP r t tick) (h5 : r 5 = 0) (hs : SL FI a σ) (hka : L.2.1 a = 5) (ha0 : 0 ≤ σ.2.1.toInt) (hab : 1 ≤ σ.2.2.1.toInt) (hb : σ.2.1.toInt + σ.2.2.1.toInt ≤ 5500) (hla : σ.2.2.2.1 = 0 ∨ σ.2.2.2.1 = 1) : Sp g 0 iX4_fits [vr q, vr a] (L, FI, AI, AL, AR) (0, 0) (QI (L, FI, AI, AL, AR) (if w_wrong r t (σ.2.1 + σ.2.2.1) (decide (σ.2.2.2.1 = 1)) = true then 0 else 1)) := by
  refine Sp.of (ls := [some (vr q), some (vr a), none]) (by decide +kernel) rfl rfl ?_
  have hadd : (σ.2.1 + σ.2.2.1).toInt = σ.2.1.toInt + σ.2.2.1.toInt := i_add' (by omega) (by omega)
  have hcn := i_cn (σ.2.1 + σ.2.2.1)
  have heI : ib (σ.2.1 + σ.2.2.1) 5501 := ⟨by omega, by omega⟩
  have heN : (σ.2.1 + σ.2.2.1) = Int32.ofNat (nn (σ.2.1 + σ.2.2.1)) := heI.eq
  have he55 := heI.nn
  have hfe := hr.2.2.1 h5
  have hla1 : ¬ σ.2.2.2.1 = 0 → σ.2.2.2.1 = 1 := fun hh => hla.resolve_left hh
  have hla0 : σ.2.2.2.1 = 0 → ¬ σ.2.2.2.1 = 1 := fun hh h2 => by rw [hh] at h2; exact absurd h2 (by decide)
  have hw0 : ¬ r 8 = -6 → 0 ≤ r 8 := fun hh => by
    have h9 := (hq.full hh).1.1
    rw [Int32.le_iff_toInt_le]
    exact h9
  refine P_aloadn (i := 1) rfl rfl dX4_fits_0 ?_
  refine gX4_81 rfl (by first | assumption | exact hl.k | exact hl.kc) hs.2.1 dX4_fits_1 ?_
  refine P_aloadn (i := 1) rfl rfl dX4_fits_4 ?_
  refine gX4_86 rfl (by first | assumption | exact hl.k | exact hl.kc) hs.2.2.1 dX4_fits_5 ?_
  refine P_iadd dX4_fits_8 ?_
  refine P_is2 (Or.inl dX4_fits_9) rfl rfl ?_
  refine P_iloadn (i := 2) rfl rfl dX4_fits_10 ?_
  refine P_sipush (v := 4000) rfl dX4_fits_11 ?_
  refine P_icmple dX4_fits_14 (tgt := 19) rfl (fun h14 => ?_) (fun h14 => ?_)
  · refine P_aloadn (i := 0) rfl rfl dX4_fits_19 ?_
    refine gX4_15 rfl (by first | assumption | exact hl.k | exact hl.kc) hfe.1 dX4_fits_20 ?_
    refine P_bipush (v := (-6)) rfl dX4_fits_23 ?_
    refine P_icmpeq dX4_fits_25 (tgt := 53) rfl (fun h25 => ?_) (fun h25 => ?_)
    · refine P_aloadn (i := 1) rfl rfl dX4_fits_53 ?_
      refine gX4_89 rfl (by first | assumption | exact hl.k | exact hl.kc) hs.2.2.2.1 dX4_fits_54 ?_
      refine P_ifeq dX4_fits_57 (tgt := 68) rfl (fun h57 => ?_) (fun h57 => ?_)
      · refine P_iconst (v := 1) rfl dX4_fits_68 ?_
        refine P_goto dX4_fits_69 (tgt := 73) rfl ?_
        refine P_zreturn rfl (by first | exact Or.inl rfl | exact Or.inr rfl | assumption) dX4_fits_73 ?_
        have h4 : decide (4000 < (σ.2.1 + σ.2.2.1)) = false := decide_eq_false (Int32.not_lt.mpr h14)
        have hmid : (decide (0 ≤ r 8) && (decide (r 8 < (σ.2.1 + σ.2.2.1)) || (decide (σ.2.2.2.1 = 1) && decide (¬ (σ.2.1 + σ.2.2.1) = r 8)))) = false := by rw [h25]; rfl
        have h5 : w_wrong r t (σ.2.1 + σ.2.2.1) (decide (σ.2.2.2.1 = 1)) = false := by
          unfold w_wrong
          rw [h4, hmid, decide_eq_false (hla0 h57)]
          rfl
        exact ⟨by rw [h5]; rfl, rfl⟩
      · refine P_aloadn (i := 0) rfl rfl dX4_fits_60 ?_
        refine gX4_64 rfl (by first | assumption | exact hl.k | exact hl.kc) rfl dX4_fits_61 ?_
        refine P_iloadn (i := 2) rfl rfl dX4_fits_64 ?_
        refine P_icmpgt dX4_fits_65 (tgt := 72) rfl (fun h65 => ?_) (fun h65 => ?_)
        · refine P_iconst (v := 0) rfl dX4_fits_72 ?_
          refine P_zreturn rfl (by first | exact Or.inl rfl | exact Or.inr rfl | assumption) dX4_fits_73 ?_
          have h4 : decide (4000 < (σ.2.1 + σ.2.2.1)) = false := decide_eq_false (Int32.not_lt.mpr h14)
          have hmid : (decide (0 ≤ r 8) && (decide (r 8 < (σ.2.1 + σ.2.2.1)) || (decide (σ.2.2.2.1 = 1) && decide (¬ (σ.2.1 + σ.2.2.1) = r 8)))) = false := by rw [h25]; rfl
          have h5 : w_wrong r t (σ.2.1 + σ.2.2.1) (decide (σ.2.2.2.1 = 1)) = true := by
            unfold w_wrong
            have h6 : x_any t (nn (σ.2.1 + σ.2.2.1)) (4000 - nn (σ.2.1 + σ.2.2.1)) = true := by
              have g5 : nn (σ.2.1 + σ.2.2.1) < nn (FI 141 q) := (hfe.2.1.Nlt (i := nn (σ.2.1 + σ.2.2.1)) (by omega)).mp (by rw [← heN]; exact h65)
              have g7 := hfe.2.1.nn
              exact (x_any_iff _).mpr ⟨nn (FI 141 q) - 1, by omega, by omega, hfe.2.2.2 (by omega)⟩
            rw [h4, hmid, h6, decide_eq_true (hla1 h57)]
            rfl
          exact ⟨by rw [h5]; rfl, rfl⟩
        · refine P_iconst (v := 1) rfl dX4_fits_68 ?_
          refine P_goto dX4_fits_69 (tgt := 73) rfl ?_
          refine P_zreturn rfl (by first | exact Or.inl rfl | exact Or.inr rfl | assumption) dX4_fits_73 ?_
          have h4 : decide (4000 < (σ.2.1 + σ.2.2.1)) = false := decide_eq_false (Int32.not_lt.mpr h14)
          have hmid : (decide (0 ≤ r 8) && (decide (r 8 < (σ.2.1 + σ.2.2.1)) || (decide (σ.2.2.2.1 = 1) && decide (¬ (σ.2.1 + σ.2.2.1) = r 8)))) = false := by rw [h25]; rfl
          have h5 : w_wrong r t (σ.2.1 + σ.2.2.1) (decide (σ.2.2.2.1 = 1)) = false := by
            unfold w_wrong
            have h6 : x_any t (nn (σ.2.1 + σ.2.2.1)) (4000 - nn (σ.2.1 + σ.2.2.1)) = false := by
              cases hx : x_any t (nn (σ.2.1 + σ.2.2.1)) (4000 - nn (σ.2.1 + σ.2.2.1)) with
              | false => rfl
              | true =>
                obtain ⟨i, g1, g2, g3⟩ := (x_any_iff _).mp hx
                have g4 := hfe.2.2.1 i (by omega) g3
                have g5 := (hfe.2.1.leN (i := nn (σ.2.1 + σ.2.2.1)) (by omega)).mp (by rw [← heN]; exact Int32.not_lt.mp h65)
                have g6 : nn (FI 141 q) ≤ nn (σ.2.1 + σ.2.2.1) := g5
                omega
            rw [h4, hmid, h6, Bool.and_false]
            rfl
          exact ⟨by rw [h5]; rfl, rfl⟩
    · refine P_iloadn (i := 2) rfl rfl dX4_fits_28 ?_
      refine P_aloadn (i := 0) rfl rfl dX4_fits_29 ?_
      refine gX4_15 rfl (by first | assumption | exact hl.k | exact hl.kc) hfe.1 dX4_fits_30 ?_
      refine P_icmpgt dX4_fits_33 (tgt := 51) rfl (fun h33 => ?_) (fun h33 => ?_)
      · refine P_iconst (v := 0) rfl dX4_fits_51 ?_
        refine P_zreturn rfl (by first | exact Or.inl rfl | exact Or.inr rfl | assumption) dX4_fits_52 ?_
        exact ⟨by rw [if_pos (show w_wrong r t (σ.2.1 + σ.2.2.1) (decide (σ.2.2.2.1 = 1)) = true from by unfold w_wrong; rw [decide_eq_true (hw0 h25), decide_eq_true h33, Bool.true_or, Bool.and_true, Bool.or_true, Bool.true_or])], rfl⟩
      · refine P_aloadn (i := 1) rfl rfl dX4_fits_36 ?_
        refine gX4_89 rfl (by first | assumption | exact hl.k | exact hl.kc) hs.2.2.2.1 dX4_fits_37 ?_
        refine P_ifeq dX4_fits_40 (tgt := 53) rfl (fun h40 => ?_) (fun h40 => ?_)
        · refine P_aloadn (i := 1) rfl rfl dX4_fits_53 ?_
          refine gX4_89 rfl (by first | assumption | exact hl.k | exact hl.kc) hs.2.2.2.1 dX4_fits_54 ?_
          refine P_ifeq dX4_fits_57 (tgt := 68) rfl (fun h57 => ?_) (fun h57 => ?_)
          · refine P_iconst (v := 1) rfl dX4_fits_68 ?_
            refine P_goto dX4_fits_69 (tgt := 73) rfl ?_
            refine P_zreturn rfl (by first | exact Or.inl rfl | exact Or.inr rfl | assumption) dX4_fits_73 ?_
            have h4 : decide (4000 < (σ.2.1 + σ.2.2.1)) = false := decide_eq_false (Int32.not_lt.mpr h14)
            have hmid : (decide (0 ≤ r 8) && (decide (r 8 < (σ.2.1 + σ.2.2.1)) || (decide (σ.2.2.2.1 = 1) && decide (¬ (σ.2.1 + σ.2.2.1) = r 8)))) = false := by rw [decide_eq_false (Int32.not_lt.mpr (Int32.not_lt.mp h33)), decide_eq_false (hla0 h40)]; simp
            have h5 : w_wrong r t (σ.2.1 + σ.2.2.1) (decide (σ.2.2.2.1 = 1)) = false := by
              unfold w_wrong
              rw [h4, hmid, decide_eq_false (hla0 h57)]
              rfl
            exact ⟨by rw [h5]; rfl, rfl⟩
          · refine P_aloadn (i := 0) rfl rfl dX4_fits_60 ?_
            refine gX4_64 rfl (by first | assumption | exact hl.k | exact hl.kc) rfl dX4_fits_61 ?_
            refine P_iloadn (i := 2) rfl rfl dX4_fits_64 ?_
            refine P_icmpgt dX4_fits_65 (tgt := 72) rfl (fun h65 => ?_) (fun h65 => ?_)
            · refine P_iconst (v := 0) rfl dX4_fits_72 ?_
              refine P_zreturn rfl (by first | exact Or.inl rfl | exact Or.inr rfl | assumption) dX4_fits_73 ?_
              have h4 : decide (4000 < (σ.2.1 + σ.2.2.1)) = false := decide_eq_false (Int32.not_lt.mpr h14)
              have hmid : (decide (0 ≤ r 8) && (decide (r 8 < (σ.2.1 + σ.2.2.1)) || (decide (σ.2.2.2.1 = 1) && decide (¬ (σ.2.1 + σ.2.2.1) = r 8)))) = false := by rw [decide_eq_false (Int32.not_lt.mpr (Int32.not_lt.mp h33)), decide_eq_false (hla0 h40)]; simp
              have h5 : w_wrong r t (σ.2.1 + σ.2.2.1) (decide (σ.2.2.2.1 = 1)) = true := by
                unfold w_wrong
                have h6 : x_any t (nn (σ.2.1 + σ.2.2.1)) (4000 - nn (σ.2.1 + σ.2.2.1)) = true := by
                  have g5 : nn (σ.2.1 + σ.2.2.1) < nn (FI 141 q) := (hfe.2.1.Nlt (i := nn (σ.2.1 + σ.2.2.1)) (by omega)).mp (by rw [← heN]; exact h65)
                  have g7 := hfe.2.1.nn
                  exact (x_any_iff _).mpr ⟨nn (FI 141 q) - 1, by omega, by omega, hfe.2.2.2 (by omega)⟩
                rw [h4, hmid, h6, decide_eq_true (hla1 h57)]
                rfl
              exact ⟨by rw [h5]; rfl, rfl⟩
            · refine P_iconst (v := 1) rfl dX4_fits_68 ?_
              refine P_goto dX4_fits_69 (tgt := 73) rfl ?_
              refine P_zreturn rfl (by first | exact Or.inl rfl | exact Or.inr rfl | assumption) dX4_fits_73 ?_
              have h4 : decide (4000 < (σ.2.1 + σ.2.2.1)) = false := decide_eq_false (Int32.not_lt.mpr h14)
              have hmid : (decide (0 ≤ r 8) && (decide (r 8 < (σ.2.1 + σ.2.2.1)) || (decide (σ.2.2.2.1 = 1) && decide (¬ (σ.2.1 + σ.2.2.1) = r 8)))) = false := by rw [decide_eq_false (Int32.not_lt.mpr (Int32.not_lt.mp h33)), decide_eq_false (hla0 h40)]; simp
              have h5 : w_wrong r t (σ.2.1 + σ.2.2.1) (decide (σ.2.2.2.1 = 1)) = false := by
                unfold w_wrong
                have h6 : x_any t (nn (σ.2.1 + σ.2.2.1)) (4000 - nn (σ.2.1 + σ.2.2.1)) = false := by
                  cases hx : x_any t (nn (σ.2.1 + σ.2.2.1)) (4000 - nn (σ.2.1 + σ.2.2.1)) with
                  | false => rfl
                  | true =>
                    obtain ⟨i, g1, g2, g3⟩ := (x_any_iff _).mp hx
                    have g4 := hfe.2.2.1 i (by omega) g3
                    have g5 := (hfe.2.1.leN (i := nn (σ.2.1 + σ.2.2.1)) (by omega)).mp (by rw [← heN]; exact Int32.not_lt.mp h65)
                    have g6 : nn (FI 141 q) ≤ nn (σ.2.1 + σ.2.2.1) := g5
                    omega
                rw [h4, hmid, h6, Bool.and_false]
                rfl
              exact ⟨by rw [h5]; rfl, rfl⟩
        · refine P_iloadn (i := 2) rfl rfl dX4_fits_43 ?_
          refine P_aloadn (i := 0) rfl rfl dX4_fits_44 ?_
          refine gX4_15 rfl (by first | assumption | exact hl.k | exact hl.kc) hfe.1 dX4_fits_45 ?_
          refine P_icmpeq dX4_fits_48 (tgt := 53) rfl (fun h48 => ?_) (fun h48 => ?_)
          · refine P_aloadn (i := 1) rfl rfl dX4_fits_53 ?_
            refine gX4_89 rfl (by first | assumption | exact hl.k | exact hl.kc) hs.2.2.2.1 dX4_fits_54 ?_
            refine P_ifeq dX4_fits_57 (tgt := 68) rfl (fun h57 => ?_) (fun h57 => ?_)
            · refine P_iconst (v := 1) rfl dX4_fits_68 ?_
              refine P_goto dX4_fits_69 (tgt := 73) rfl ?_
              refine P_zreturn rfl (by first | exact Or.inl rfl | exact Or.inr rfl | assumption) dX4_fits_73 ?_
              have h4 : decide (4000 < (σ.2.1 + σ.2.2.1)) = false := decide_eq_false (Int32.not_lt.mpr h14)
              have hmid : (decide (0 ≤ r 8) && (decide (r 8 < (σ.2.1 + σ.2.2.1)) || (decide (σ.2.2.2.1 = 1) && decide (¬ (σ.2.1 + σ.2.2.1) = r 8)))) = false := by rw [decide_eq_false h33, decide_eq_false (show ¬ ¬ (σ.2.1 + σ.2.2.1) = r 8 from fun hh => hh h48)]; simp
              have h5 : w_wrong r t (σ.2.1 + σ.2.2.1) (decide (σ.2.2.2.1 = 1)) = false := by
                unfold w_wrong
                rw [h4, hmid, decide_eq_false (hla0 h57)]
                rfl
              exact ⟨by rw [h5]; rfl, rfl⟩
            · refine P_aloadn (i := 0) rfl rfl dX4_fits_60 ?_
              refine gX4_64 rfl (by first | assumption | exact hl.k | exact hl.kc) rfl dX4_fits_61 ?_
              refine P_iloadn (i := 2) rfl rfl dX4_fits_64 ?_
              refine P_icmpgt dX4_fits_65 (tgt := 72) rfl (fun h65 => ?_) (fun h65 => ?_)
              · refine P_iconst (v := 0) rfl dX4_fits_72 ?_
                refine P_zreturn rfl (by first | exact Or.inl rfl | exact Or.inr rfl | assumption) dX4_fits_73 ?_
                have h4 : decide (4000 < (σ.2.1 + σ.2.2.1)) = false := decide_eq_false (Int32.not_lt.mpr h14)
                have hmid : (decide (0 ≤ r 8) && (decide (r 8 < (σ.2.1 + σ.2.2.1)) || (decide (σ.2.2.2.1 = 1) && decide (¬ (σ.2.1 + σ.2.2.1) = r 8)))) = false := by rw [decide_eq_false h33, decide_eq_false (show ¬ ¬ (σ.2.1 + σ.2.2.1) = r 8 from fun hh => hh h48)]; simp
                have h5 : w_wrong r t (σ.2.1 + σ.2.2.1) (decide (σ.2.2.2.1 = 1)) = true := by
                  unfold w_wrong
                  have h6 : x_any t (nn (σ.2.1 + σ.2.2.1)) (4000 - nn (σ.2.1 + σ.2.2.1)) = true := by
                    have g5 : nn (σ.2.1 + σ.2.2.1) < nn (FI 141 q) := (hfe.2.1.Nlt (i := nn (σ.2.1 + σ.2.2.1)) (by omega)).mp (by rw [← heN]; exact h65)
                    have g7 := hfe.2.1.nn
                    exact (x_any_iff _).mpr ⟨nn (FI 141 q) - 1, by omega, by omega, hfe.2.2.2 (by omega)⟩
                  rw [h4, hmid, h6, decide_eq_true (hla1 h57)]
                  rfl
                exact ⟨by rw [h5]; rfl, rfl⟩
              · refine P_iconst (v := 1) rfl dX4_fits_68 ?_
                refine P_goto dX4_fits_69 (tgt := 73) rfl ?_
                refine P_zreturn rfl (by first | exact Or.inl rfl | exact Or.inr rfl | assumption) dX4_fits_73 ?_
                have h4 : decide (4000 < (σ.2.1 + σ.2.2.1)) = false := decide_eq_false (Int32.not_lt.mpr h14)
                have hmid : (decide (0 ≤ r 8) && (decide (r 8 < (σ.2.1 + σ.2.2.1)) || (decide (σ.2.2.2.1 = 1) && decide (¬ (σ.2.1 + σ.2.2.1) = r 8)))) = false := by rw [decide_eq_false h33, decide_eq_false (show ¬ ¬ (σ.2.1 + σ.2.2.1) = r 8 from fun hh => hh h48)]; simp
                have h5 : w_wrong r t (σ.2.1 + σ.2.2.1) (decide (σ.2.2.2.1 = 1)) = false := by
                  unfold w_wrong
                  have h6 : x_any t (nn (σ.2.1 + σ.2.2.1)) (4000 - nn (σ.2.1 + σ.2.2.1)) = false := by
                    cases hx : x_any t (nn (σ.2.1 + σ.2.2.1)) (4000 - nn (σ.2.1 + σ.2.2.1)) with
                    | false => rfl
                    | true =>
                      obtain ⟨i, g1, g2, g3⟩ := (x_any_iff _).mp hx
                      have g4 := hfe.2.2.1 i (by omega) g3
                      have g5 := (hfe.2.1.leN (i := nn (σ.2.1 + σ.2.2.1)) (by omega)).mp (by rw [← heN]; exact Int32.not_lt.mp h65)
                      have g6 : nn (FI 141 q) ≤ nn (σ.2.1 + σ.2.2.1) := g5
                      omega
                  rw [h4, hmid, h6, Bool.and_false]
                  rfl
                exact ⟨by rw [h5]; rfl, rfl⟩
          · refine P_iconst (v := 0) rfl dX4_fits_51 ?_
            refine P_zreturn rfl (by first | exact Or.inl rfl | exact Or.inr rfl | assumption) dX4_fits_52 ?_
            exact ⟨by rw [if_pos (show w_wrong r t (σ.2.1 + σ.2.2.1) (decide (σ.2.2.2.1 = 1)) = true from by unfold w_wrong; rw [decide_eq_true (hw0 h25), decide_eq_true (hla1 h40), decide_eq_true h48, Bool.and_true, Bool.or_true, Bool.and_true, Bool.or_true, Bool.true_or])], rfl⟩
  · refine P_iconst (v := 0) rfl dX4_fits_17 ?_
    refine P_zreturn rfl (by first | exact Or.inl rfl | exact Or.inr rfl | assumption) dX4_fits_18 ?_
    exact ⟨by rw [if_pos (show w_wrong r t (σ.2.1 + σ.2.2.1) (decide (σ.2.2.2.1 = 1)) = true from by unfold w_wrong; rw [decide_eq_true (Int32.not_le.mp h14)]; rfl)], rfl⟩
theorem s_overlaps (hl : LQ L q) (hr : RP FI AL q r t) (hq : qP r t tick) (hs : SL FI a σ) (hka : L.2.1 a = 5) (ha0 : 0 ≤ σ.2.1.toInt) (hab : 1 ≤ σ.2.2.1.toInt) (hb : σ.2.1.toInt + σ.2.2.1.toInt ≤ 5500) (he4 : (σ.2.1 + σ.2.2.1).toInt ≤ 4000) : Sp g 2 iX4_overlaps [vr q, vr a] (L, FI, AI, AL, AR) (0, 0) (QI (L, FI, AI, AL, AR) (if x_any t (nn σ.2.1) (nn (σ.2.1 + σ.2.2.1) - nn σ.2.1) = true then 1 else 0)) := by
  refine Sp.of (ls := [some (vr q), some (vr a), none, none]) (by decide +kernel) rfl rfl ?_
  have hadd : (σ.2.1 + σ.2.2.1).toInt = σ.2.1.toInt + σ.2.2.1.toInt := i_add' (by omega) (by omega)
  have hcn := i_cn (σ.2.1 + σ.2.2.1)
  have heI : ib (σ.2.1 + σ.2.2.1) 5501 := ⟨by omega, by omega⟩
  have heN : (σ.2.1 + σ.2.2.1) = Int32.ofNat (nn (σ.2.1 + σ.2.2.1)) := heI.eq
  have he55 := heI.nn
  have hcn2 := i_cn σ.2.1
  have haI : ib σ.2.1 4001 := ⟨by omega, by omega⟩
  have haN : σ.2.1 = Int32.ofNat (nn σ.2.1) := haI.eq
  have hae : nn σ.2.1 ≤ nn (σ.2.1 + σ.2.2.1) := by
    show σ.2.1.toNatClampNeg ≤ (σ.2.1 + σ.2.2.1).toNatClampNeg
    omega
  have he40 : nn (σ.2.1 + σ.2.2.1) ≤ 4000 := by
    show (σ.2.1 + σ.2.2.1).toNatClampNeg ≤ 4000
    omega
  have loop : ∀ n i : Nat, i + n = nn (σ.2.1 + σ.2.2.1) → nn σ.2.1 ≤ i → (∀ j, nn σ.2.1 ≤ j → j < i → ¬ 0 ≤ t j) → P g 2 iX4_overlaps 15 [some (vr q), some (vr a), some (vi (Int32.ofNat (nn (σ.2.1 + σ.2.2.1)))), some (vi (Int32.ofNat i))] [] (L, FI, AI, AL, AR) (0, 0) (QI (L, FI, AI, AL, AR) (if x_any t (nn σ.2.1) (nn (σ.2.1 + σ.2.2.1) - nn σ.2.1) = true then 1 else 0)) := by
    intro n
    induction n with
    | zero =>
      intro i hi hai hno
      refine P_iloadn (i := 3) rfl rfl dX4_overlaps_15 ?_
      refine P_iloadn (i := 2) rfl rfl dX4_overlaps_16 ?_
      refine P_icmpge dX4_overlaps_17 (tgt := 36) rfl (fun h17 => ?_) (fun h17 => absurd ((n_le (a := nn (σ.2.1 + σ.2.2.1)) (b := i) (by omega) (by omega)).mpr (by omega)) h17)
      refine P_iconst (v := 0) rfl dX4_overlaps_36 ?_
      refine P_zreturn rfl (by first | exact Or.inl rfl | exact Or.inr rfl | assumption) dX4_overlaps_37 ?_
      have h9 : x_any t (nn σ.2.1) (nn (σ.2.1 + σ.2.2.1) - nn σ.2.1) = false := by
        cases hx : x_any t (nn σ.2.1) (nn (σ.2.1 + σ.2.2.1) - nn σ.2.1) with
        | false => rfl
        | true =>
          obtain ⟨j, g1, g2, g3⟩ := (x_any_iff _).mp hx
          exact absurd g3 (hno j g1 (by omega))
      exact ⟨by rw [h9]; rfl, rfl⟩
    | succ n ih =>
      intro i hi hai hno
      refine P_iloadn (i := 3) rfl rfl dX4_overlaps_15 ?_
      refine P_iloadn (i := 2) rfl rfl dX4_overlaps_16 ?_
      refine P_icmpge dX4_overlaps_17 (tgt := 36) rfl (fun h17 => absurd h17 (fun h8 => by have h7 := (n_le (a := nn (σ.2.1 + σ.2.2.1)) (b := i) (by omega) (by omega)).mp h8; omega)) (fun h17 => ?_)
      refine P_aloadn (i := 0) rfl rfl dX4_overlaps_20 ?_
      refine P_iloadn (i := 3) rfl rfl dX4_overlaps_21 ?_
      refine kX4_92 rfl (s_hasByte hl hr hq (i := i) (by omega)) (by decide) (by first | assumption | exact hl.k | exact hl.kc) rfl dX4_overlaps_22 (fun r22 s22 q22 => ?_)
      obtain ⟨rfl, rfl⟩ := q22
      refine P_ifeq dX4_overlaps_25 (tgt := 30) rfl (fun h25 => ?_) (fun h25 => ?_)
      · have hb2 := b_f h25
        refine P_inN3 dX4_overlaps_30 rfl rfl ?_
        refine P_goto dX4_overlaps_33 (tgt := 15) rfl ?_
        refine ih (i + 1) (by omega) (by omega) (fun j g1 g2 => ?_)
        by_cases e : j = i
        · rw [e]; exact hb2
        · exact hno j g1 (by omega)
      · have hb2 := b_t h25
        refine P_iconst (v := 1) rfl dX4_overlaps_28 ?_
        refine P_zreturn rfl (by first | exact Or.inl rfl | exact Or.inr rfl | assumption) dX4_overlaps_29 ?_
        have h9 : x_any t (nn σ.2.1) (nn (σ.2.1 + σ.2.2.1) - nn σ.2.1) = true := (x_any_iff _).mpr ⟨i, hai, by omega, hb2⟩
        exact ⟨by rw [h9]; rfl, rfl⟩
  refine P_aloadn (i := 1) rfl rfl dX4_overlaps_0 ?_
  refine gX4_81 rfl (by first | assumption | exact hl.k | exact hl.kc) hs.2.1 dX4_overlaps_1 ?_
  refine P_aloadn (i := 1) rfl rfl dX4_overlaps_4 ?_
  refine gX4_86 rfl (by first | assumption | exact hl.k | exact hl.kc) hs.2.2.1 dX4_overlaps_5 ?_
  refine P_iadd dX4_overlaps_8 ?_
  refine P_is2 (Or.inl dX4_overlaps_9) rfl rfl ?_
  refine P_aloadn (i := 1) rfl rfl dX4_overlaps_10 ?_
  refine gX4_81 rfl (by first | assumption | exact hl.k | exact hl.kc) (hs.2.1.trans haN) dX4_overlaps_11 ?_
  refine P_is3 (Or.inl dX4_overlaps_14) rfl rfl ?_
  have h0 := loop (nn (σ.2.1 + σ.2.2.1) - nn σ.2.1) (nn σ.2.1) (by omega) (Nat.le_refl _) (fun j g1 g2 => by omega)
  rw [← heN] at h0
  exact h0
theorem i_p1m1 (x : Int32) : x + 1 - 1 = x := by
  rw [i_eq, i_sub, i_add]
  have h1 := i_lt x
  have h2 := i_ge x
  simp only [Int32.reduceToInt]
  omega
theorem s_isAsSent (hl : LQ L q) (hr : RP FI AL q r t) (hq : qP r t tick) (h5 : r 5 = 0) (h8 : ¬ r 8 = -6) (hc : x_cnt t 4000 = nn (r 8)) : Sp g 1 iX4_isAsSent [vr q] (L, FI, AI, AL, AR) (0, 0) (QI (L, FI, AI, AL, AR) (if r 8 = r 2 ∧ c_rem (x_csum t (nn (r 8))) 65521 = x_sum (r 3) (r 8) then 1 else 0)) := by
  refine Sp.of (ls := [some (vr q), none, none]) (by decide +kernel) rfl rfl ?_
  have hfe := hr.2.2.1 h5
  have hfu := hq.full h8
  have h8N := hfu.1.eq
  have h840 := hfu.1.nn
  have hall := x_cnt_all (t := t) (nn (r 8)) (by have := hfu.2.2.1; omega)
  have hce := (hr.2.1 (fun hh => by
    rw [hq.2.2.1] at hh
    have := (n_eq (a := x_cnt t 4000) (b := 0) (by omega) (by omega)).mp hh
    omega)).2
  have loop : ∀ n i : Nat, i + n = (nn (r 8)) → P g 1 iX4_isAsSent 4 [some (vr q), some (vi (x_csum t i)), some (vi (Int32.ofNat i))] [] (L, FI, AI, AL, AR) (0, 0) (QI (L, FI, AI, AL, AR) (if r 8 = r 2 ∧ c_rem (x_csum t (nn (r 8))) 65521 = x_sum (r 3) (r 8) then 1 else 0)) := by
    intro n
    induction n with
    | zero =>
      intro i hi
      have e : i = (nn (r 8)) := by omega
      subst e
      refine P_iloadn (i := 2) rfl rfl dX4_isAsSent_4 ?_
      refine P_aloadn (i := 0) rfl rfl dX4_isAsSent_5 ?_
      refine gX4_15 rfl (by first | assumption | exact hl.k | exact hl.kc) (hfe.1.trans h8N) dX4_isAsSent_6 ?_
      refine P_icmpge dX4_isAsSent_9 (tgt := 28) rfl (fun h9 => ?_) (fun h9 => absurd ((n_le (a := (nn (r 8))) (b := (nn (r 8))) (by omega) (by omega)).mpr (Nat.le_refl _)) h9)
      refine P_iloadn (i := 1) rfl rfl dX4_isAsSent_28 ?_
      refine lX4_45 rfl dX4_isAsSent_29 ?_
      refine P_irem2 (by decide) dX4_isAsSent_31 ?_
      refine P_aloadn (i := 0) rfl rfl dX4_isAsSent_32 ?_
      refine gX4_46 rfl (by first | assumption | exact hl.k | exact hl.kc) hr.1.2.2.2.2.2.1 dX4_isAsSent_33 ?_
      refine P_icmpne dX4_isAsSent_36 (tgt := 54) rfl (fun h36 => ?_) (fun h36 => ?_)
      · refine P_iconst (v := 0) rfl dX4_isAsSent_54 ?_
        refine P_zreturn rfl (by first | exact Or.inl rfl | exact Or.inr rfl | assumption) dX4_isAsSent_55 ?_
        exact ⟨by rw [if_neg (fun hh => h36 (by rw [← hh.1, hh.2]))], rfl⟩
      · refine P_aloadn (i := 0) rfl rfl dX4_isAsSent_39 ?_
        refine gX4_15 rfl (by first | assumption | exact hl.k | exact hl.kc) hfe.1 dX4_isAsSent_40 ?_
        refine P_aloadn (i := 0) rfl rfl dX4_isAsSent_43 ?_
        refine gX4_28 rfl (by first | assumption | exact hl.k | exact hl.kc) hr.1.2.2.1 dX4_isAsSent_44 ?_
        refine P_icmpne dX4_isAsSent_47 (tgt := 54) rfl (fun h47 => ?_) (fun h47 => ?_)
        · refine P_iconst (v := 0) rfl dX4_isAsSent_54 ?_
          refine P_zreturn rfl (by first | exact Or.inl rfl | exact Or.inr rfl | assumption) dX4_isAsSent_55 ?_
          exact ⟨by rw [if_neg (fun hh => h47 hh.1)], rfl⟩
        · refine P_iconst (v := 1) rfl dX4_isAsSent_50 ?_
          refine P_goto dX4_isAsSent_51 (tgt := 55) rfl ?_
          refine P_zreturn rfl (by first | exact Or.inl rfl | exact Or.inr rfl | assumption) dX4_isAsSent_55 ?_
          exact ⟨by rw [if_pos ⟨h47, by rw [h47] at h36 ⊢; exact h36⟩], rfl⟩
    | succ n ih =>
      intro i hi
      refine P_iloadn (i := 2) rfl rfl dX4_isAsSent_4 ?_
      refine P_aloadn (i := 0) rfl rfl dX4_isAsSent_5 ?_
      refine gX4_15 rfl (by first | assumption | exact hl.k | exact hl.kc) (hfe.1.trans h8N) dX4_isAsSent_6 ?_
      refine P_icmpge dX4_isAsSent_9 (tgt := 28) rfl (fun h9 => absurd h9 (fun h8 => by have h7 := (n_le (a := (nn (r 8))) (b := i) (by omega) (by omega)).mp h8; omega)) (fun h9 => ?_)
      refine P_iloadn (i := 1) rfl rfl dX4_isAsSent_12 ?_
      refine P_aloadn (i := 0) rfl rfl dX4_isAsSent_13 ?_
      refine P_iloadn (i := 2) rfl rfl dX4_isAsSent_14 ?_
      refine kX4_77 rfl (s_cell hl (i := i) (by omega)) (by decide) (by first | assumption | exact hl.k | exact hl.kc) rfl dX4_isAsSent_15 (fun r15 s15 q15 => ?_)
      obtain ⟨rfl, rfl⟩ := q15
      have hti := hall i (by omega)
      rw [show x_cell (AL (q + 1)) i = c_byte (t i) (Int32.ofNat i) + 1 from (hce i (by omega)).trans (if_neg (Int32.not_lt.mpr hti))]
      refine P_iconst (v := 1) rfl dX4_isAsSent_18 ?_
      refine P_isub dX4_isAsSent_19 ?_
      rw [i_p1m1]
      refine P_iadd dX4_isAsSent_20 ?_
      refine P_is1 (Or.inl dX4_isAsSent_21) rfl rfl ?_
      refine P_inN2 dX4_isAsSent_22 rfl rfl ?_
      refine P_goto dX4_isAsSent_25 (tgt := 4) rfl ?_
      exact ih (i + 1) (by omega)
  refine P_iconst (v := 0) rfl dX4_isAsSent_0 ?_
  refine P_is1 (Or.inl dX4_isAsSent_1) rfl rfl ?_
  refine P_iconst (v := 0) rfl dX4_isAsSent_2 ?_
  refine P_is2 (Or.inl dX4_isAsSent_3) rfl rfl ?_
  exact loop (nn (r 8)) 0 (by omega)
theorem s_firstMissing7 (hl : LQ L q) (hr : RP FI AL q r t) (hq : qP r t tick) : Sp g 2 iX4_firstMissing [vr q] (L, FI, AI, AL, AR) (0, 0) (QI (L, FI, AI, AL, AR) (Int32.ofNat (x_fm t 4000 0))) := by
  refine Sp.of (ls := [some (vr q), none]) (by decide +kernel) rfl rfl ?_
  have loop : ∀ n i : Nat, i + n = 4000 → x_fm t 4000 0 = x_fm t n i → P g 2 iX4_firstMissing 2 [some (vr q), some (vi (Int32.ofNat i))] [] (L, FI, AI, AL, AR) (0, 0) (QI (L, FI, AI, AL, AR) (Int32.ofNat (x_fm t 4000 0))) := by
    intro n
    induction n with
    | zero =>
      intro i hi hf
      refine P_iloadn (i := 1) rfl rfl dX4_firstMissing_2 ?_
      refine P_sipush (v := 4000) rfl dX4_firstMissing_3 ?_
      refine P_icmpge dX4_firstMissing_6 (tgt := 23) rfl (fun h6 => ?_) (fun h6 => absurd ((n_le (a := 4000) (b := i) (by omega) (by omega)).mpr (by omega)) h6)
      refine P_iloadn (i := 1) rfl rfl dX4_firstMissing_23 ?_
      refine P_ireturn rfl dX4_firstMissing_24 ?_
      rw [hf]
      exact ⟨rfl, rfl⟩
    | succ n ih =>
      intro i hi hf
      refine P_iloadn (i := 1) rfl rfl dX4_firstMissing_2 ?_
      refine P_sipush (v := 4000) rfl dX4_firstMissing_3 ?_
      refine P_icmpge dX4_firstMissing_6 (tgt := 23) rfl (fun h6 => absurd h6 (fun h8 => by have h7 := (n_le (a := 4000) (b := i) (by omega) (by omega)).mp h8; omega)) (fun h6 => ?_)
      refine P_aloadn (i := 0) rfl rfl dX4_firstMissing_9 ?_
      refine P_iloadn (i := 1) rfl rfl dX4_firstMissing_10 ?_
      refine kX4_92 rfl (s_hasByte hl hr hq (i := i) (by omega)) (by decide) (by first | assumption | exact hl.k | exact hl.kc) rfl dX4_firstMissing_11 (fun r11 s11 q11 => ?_)
      obtain ⟨rfl, rfl⟩ := q11
      refine P_ifeq dX4_firstMissing_14 (tgt := 23) rfl (fun h14 => ?_) (fun h14 => ?_)
      · refine P_iloadn (i := 1) rfl rfl dX4_firstMissing_23 ?_
        refine P_ireturn rfl dX4_firstMissing_24 ?_
        rw [hf, show x_fm t (n + 1) i = i from if_neg (b_f h14)]
        exact ⟨rfl, rfl⟩
      · refine P_inN1 dX4_firstMissing_17 rfl rfl ?_
        refine P_goto dX4_firstMissing_20 (tgt := 2) rfl ?_
        refine ih (i + 1) (by omega) ?_
        rw [hf]
        exact if_pos (b_t h14)
  refine P_iconst (v := 0) rfl dX4_firstMissing_0 ?_
  refine P_is1 (Or.inl dX4_firstMissing_1) rfl rfl ?_
  exact loop 4000 0 (by omega) rfl
end Cls9
