def x_moreN (t : Nat → Int32) (a : Nat) : Nat → Nat
  | 0 => 0
  | n + 1 => x_moreN t a n + (if t (a + n) < 0 then 1 else 0)
theorem x_moreN_s (t : Nat → Int32) (a n : Nat) : x_moreN t a (n + 1) = x_moreN t a n + (if t (a + n) < 0 then 1 else 0) := rfl
theorem x_more_eq (t : Nat → Int32) (a : Nat) : ∀ n, x_more t a n = Int32.ofNat (x_moreN t a n) := by
  intro n
  induction n with
  | zero => rfl
  | succ n ih =>
    unfold x_more x_moreN
    rw [ih]
    by_cases c : t (a + n) < 0
    · rw [if_pos c, if_pos c]; exact n_add _ 1
    · rw [if_neg c, if_neg c]; exact n_add _ 0
theorem x_lay_in {t : Nat → Int32} {a b n : Nat} {seed : Int32} {over : Bool} (h : a ≤ n ∧ n < b ∧ (t n < 0 ∨ over = true)) : x_lay t a b seed over n = seed := if_pos h
theorem x_lay_out {t : Nat → Int32} {a b n : Nat} {seed : Int32} {over : Bool} (h : ¬ (a ≤ n ∧ n < b ∧ (t n < 0 ∨ over = true))) : x_lay t a b seed over n = t n := if_neg h
/-- laying bytes from a on: the count grows by those that were not there -/
theorem x_cnt_lay {t : Nat → Int32} {a b : Nat} {seed : Int32} {over : Bool} (hs : 0 ≤ seed) : ∀ n, (n ≤ a → x_cnt (x_lay t a b seed over) n = x_cnt t n) ∧ (a ≤ n → n ≤ b → x_cnt (x_lay t a b seed over) n = x_cnt t n + x_moreN t a (n - a)) ∧ (a ≤ b → b ≤ n → x_cnt (x_lay t a b seed over) n = x_cnt t n + x_moreN t a (b - a)) := by
  intro n
  induction n with
  | zero =>
    refine ⟨fun _ => rfl, fun h1 _ => ?_, fun h1 h2 => ?_⟩
    · rw [show 0 - a = 0 by omega]; rfl
    · rw [show b - a = 0 by omega]; rfl
  | succ n ih =>
    obtain ⟨i1, i2, i3⟩ := ih
    have out : (n < a ∨ b ≤ n) → x_lay t a b seed over n = t n := fun h => by
      unfold x_lay
      exact if_neg (by omega)
    have mid : a ≤ n → n < b → (if 0 ≤ x_lay t a b seed over n then 1 else 0) = (if 0 ≤ t n then 1 else 0) + (if t n < 0 then 1 else 0) := fun h1 h2 => by
      by_cases c : t n < 0
      · rw [x_lay_in ⟨h1, h2, Or.inl c⟩, if_pos hs, if_neg (Int32.not_le.mpr c), if_pos c]
      · by_cases o : over = true
        · rw [x_lay_in ⟨h1, h2, Or.inr o⟩, if_pos hs, if_pos (Int32.not_lt.mp c), if_neg c]
        · rw [x_lay_out (fun hh => hh.2.2.elim c o), if_neg c]
          rfl
    refine ⟨fun h => ?_, fun h1 h2 => ?_, fun h1 h2 => ?_⟩
    · unfold x_cnt
      rw [out (Or.inl (by omega)), i1 (by omega)]
    · by_cases e : a = n + 1
      · rw [show n + 1 - a = 0 by omega]
        unfold x_cnt
        rw [out (Or.inl (by omega)), i1 (by omega)]
        rfl
      · unfold x_cnt
        rw [mid (by omega) (by omega), i2 (by omega) (by omega), show n + 1 - a = (n - a) + 1 by omega]
        rw [x_moreN_s]
        rw [show a + (n - a) = n by omega]
        omega
    · by_cases e : b = n + 1
      · subst e
        by_cases e2 : a = n + 1
        · rw [show n + 1 - a = 0 by omega]
          unfold x_cnt
          rw [out (Or.inl (by omega)), i1 (by omega)]
          rfl
        · unfold x_cnt
          rw [mid (by omega) (by omega), i2 (by omega) (by omega), show n + 1 - a = (n - a) + 1 by omega]
          rw [x_moreN_s]
          rw [show a + (n - a) = n by omega]
          omega
      · unfold x_cnt
        rw [out (Or.inr (by omega)), i3 h1 (by omega)]
        omega
theorem x_any_false {t : Nat → Int32} {a : Nat} : ∀ n, x_any t a n = false → ∀ i, i < n → t (a + i) < 0 := by
  intro n
  induction n with
  | zero => intro _ i hi; omega
  | succ n ih =>
    intro h i hi
    unfold x_any at h
    rw [Bool.or_eq_false_iff] at h
    by_cases e : i = n
    · subst e
      exact Int32.not_le.mp (of_decide_eq_false h.2)
    · exact ih h.1 i (by omega)
theorem x_moreN_le (t : Nat → Int32) (a : Nat) : ∀ n, x_moreN t a n ≤ n := by
  intro n
  induction n with
  | zero => exact Nat.le_refl _
  | succ n ih =>
    unfold x_moreN
    split <;> omega
/-- a parcel when a slice has been laid -/
theorem qP.lay {r t r2 t2 : Nat → Int32} {tick e seed : Int32} {a : Nat} {la over : Bool} (h : qP r t tick) (hst : r 5 = 0) (htick : 0 ≤ tick.toInt) (hs : ib seed 256) (hab : a < nn e) (he0 : 0 ≤ e.toInt) (he : e.toInt ≤ 4000)
    (hw1 : 0 ≤ r 8 → ¬ r 8 < e) (hw2 : la = true → ∀ i, nn e ≤ i → i < 4000 → t i < 0)
    (e12 : r2 12 = r 12 + x_more t a (nn e - a)) (e8 : r2 8 = if la = true then e else r 8) (e9 : r2 9 = if r 9 < 0 then tick else r 9) (eo : ∀ k, k < 11 → k ≠ 8 → k ≠ 9 → r2 k = r k) (et : ∀ i, t2 i = x_lay t a (nn e) seed over i) : qP r2 t2 tick := by
  have hee := i_cn e
  have hs0 : 0 ≤ seed := by rw [Int32.le_iff_toInt_le]; simpa using hs.1
  have ett : t2 = x_lay t a (nn e) seed over := funext et
  have hcnt := (x_cnt_lay (t := t) (a := a) (b := nn e) (over := over) hs0 4000).2.2 (by omega) (by show e.toNatClampNeg ≤ 4000; omega)
  rw [← ett] at hcnt
  have hpos : 0 < x_cnt t2 4000 := x_cnt_pos (i := a) (by
    rw [et]
    unfold x_lay
    by_cases c : t a < 0 ∨ over = true
    · rw [if_pos ⟨Nat.le_refl _, hab, c⟩]; exact hs0
    · rw [if_neg (fun hh => c hh.2.2)]
      exact Int32.not_lt.mp (fun hh => c (Or.inl hh))) 4000 (by have : nn e ≤ 4000 := (by show e.toNatClampNeg ≤ 4000; omega); omega)
  refine ⟨⟨?_, ?_, ?_, ?_, ?_, ?_, ?_⟩, fun i hi => ?_, ?_, fun hc => absurd hc (by omega), fun _ => ?_, ?_, fun _ => ?_⟩
  · rw [eo 0 (by decide) (by decide) (by decide)]; exact h.1.1
  · rw [eo 1 (by decide) (by decide) (by decide)]; exact h.1.2.1
  · rw [eo 2 (by decide) (by decide) (by decide)]; exact h.1.2.2.1
  · rw [eo 3 (by decide) (by decide) (by decide)]; exact h.1.2.2.2.1
  · rw [eo 4 (by decide) (by decide) (by decide)]; exact h.1.2.2.2.2.1
  · rw [eo 5 (by decide) (by decide) (by decide)]; exact h.1.2.2.2.2.2.1
  · rw [eo 7 (by decide) (by decide) (by decide)]; exact h.1.2.2.2.2.2.2
  · rw [et]
    unfold x_lay
    split
    · exact Or.inr hs
    · exact h.2.1 i hi
  · rw [e12, h.2.2.1, x_more_eq, n_add, hcnt]
  · refine ⟨?_, ?_, (eo 5 (by decide) (by decide) (by decide)).trans hst⟩
    · rw [e9]
      split
      · exact htick
      · rename_i hh
        have := Int32.not_lt.mp hh
        rw [Int32.le_iff_toInt_le] at this
        simpa using this
    · rw [e9]
      split
      · exact Int.le_refl _
      · rename_i hh
        by_cases c : x_cnt t 4000 = 0
        · exact absurd (by rw [(h.2.2.2.1 c).1]; decide) hh
        · exact (h.2.2.2.2.1 c).2.1
  · rw [e8]
    by_cases l : la = true
    · rw [if_pos l]
      refine Or.inr ⟨by have : a < e.toNatClampNeg := hab; omega, he, fun i hi hie => ?_⟩
      rw [et]
      have h9 : nn e ≤ i := by show e.toNatClampNeg ≤ i; omega
      unfold x_lay
      rw [if_neg (by omega)]
      exact hw2 l i h9 hi
    · rw [if_neg l]
      rcases h.2.2.2.2.2.1 with h8 | ⟨h8, h82, h83⟩
      · exact Or.inl h8
      · refine Or.inr ⟨h8, h82, fun i hi hie => ?_⟩
        have h9 := hw1 (by rw [Int32.le_iff_toInt_le]; simp only [Int32.reduceToInt]; omega)
        rw [Int32.lt_iff_toInt_lt] at h9
        rw [et]
        unfold x_lay
        rw [if_neg (by intro hh; have : i < e.toNatClampNeg := hh.2.1; omega)]
        exact h83 i hi hie
  · rw [eo 10 (by decide) (by decide) (by decide)]
    exact h.2.2.2.2.2.2 hst
