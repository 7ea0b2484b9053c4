theorem i_lt (x : Int32) : x.toInt < 2147483648 := x.toInt_lt
theorem i_ge (x : Int32) : -2147483648 ≤ x.toInt := x.le_toInt
theorem i_bm (n : Int) : n.bmod 4294967296 = (n + 2147483648) % 4294967296 - 2147483648 := by
  rw [Int.bmod_def]
  split <;> omega
theorem i_add (x y : Int32) : (x + y).toInt = (x.toInt + y.toInt + 2147483648) % 4294967296 - 2147483648 := by rw [Int32.toInt_add]; exact i_bm _
theorem i_sub (x y : Int32) : (x - y).toInt = (x.toInt - y.toInt + 2147483648) % 4294967296 - 2147483648 := by rw [Int32.toInt_sub]; exact i_bm _
theorem i_mul (x y : Int32) : (x * y).toInt = (x.toInt * y.toInt + 2147483648) % 4294967296 - 2147483648 := by rw [Int32.toInt_mul]; exact i_bm _
theorem i_nat (n : Nat) : (Int32.ofNat n).toInt = ((n : Int) + 2147483648) % 4294967296 - 2147483648 := by rw [Int32.toInt_ofNat']; exact i_bm _
theorem i_lit (n : Nat) : (no_index (OfNat.ofNat n) : Int32).toInt = ((n : Int) + 2147483648) % 4294967296 - 2147483648 := i_nat n
theorem i_neg (x : Int32) : (-x).toInt = (-x.toInt + 2147483648) % 4294967296 - 2147483648 := by rw [Int32.toInt_neg]; exact i_bm _
theorem i_cn (x : Int32) : (x.toNatClampNeg : Int) = max x.toInt 0 := by
  show ((x.toInt.toNat : Nat) : Int) = _
  omega
theorem i_eq {x y : Int32} : x = y ↔ x.toInt = y.toInt := Int32.toInt_inj.symm
theorem i_rem (x y : Int32) (h : 0 < x) : (y - y / x * x).toInt = y.toInt.tmod x.toInt := by
  have h1 := i_lt x; have h2 := i_ge x; have h3 := i_lt y; have h4 := i_ge y
  simp only [Int32.lt_iff_toInt_lt, Int32.reduceToInt] at h
  have h5 : (y / x).toInt = y.toInt.tdiv x.toInt := Int32.toInt_div_of_ne_right y x (by
    intro e; rw [e] at h; exact absurd h (by decide))
  have h6 := Int.tmod_add_tdiv_mul y.toInt x.toInt
  rw [i_sub, i_mul, h5]
  have h7 : (y.toInt.tdiv x.toInt * x.toInt) = y.toInt - y.toInt.tmod x.toInt := by omega
  rw [h7]
  have h8 := tmod_bounds (a := y.toInt) h
  have h9 : (y.toInt - y.toInt.tmod x.toInt).natAbs ≤ y.toInt.natAbs := by
    rw [← h7]
    rw [Int.natAbs_mul, Int.natAbs_tdiv]
    exact Nat.div_mul_le_self _ _
  omega

theorem n_int {j : Nat} (h : j < 2147483648) : (Int32.ofNat j).toInt = j := Int32.toInt_ofNat_of_lt h
theorem n_cn {j : Nat} (h : j < 2147483648) : (Int32.ofNat j).toNatClampNeg = j := Int32.toNatClampNeg_ofNat_of_lt h
theorem n_pos {j : Nat} (h : j < 2147483648) : (0 : Int32) ≤ Int32.ofNat j := by
  rw [Int32.le_iff_toInt_le, n_int h]
  simp only [Int32.reduceToInt]
  omega
theorem n_succ (j : Nat) : Int32.ofNat j + Int32.ofInt 1 = Int32.ofNat (j + 1) := by simp
theorem n_le {a b : Nat} (ha : a < 2147483648) (hb : b < 2147483648) : Int32.ofNat a ≤ Int32.ofNat b ↔ a ≤ b := by
  rw [Int32.le_iff_toInt_le, n_int ha, n_int hb]; omega
theorem n_lt {a b : Nat} (ha : a < 2147483648) (hb : b < 2147483648) : Int32.ofNat a < Int32.ofNat b ↔ a < b := by
  rw [Int32.lt_iff_toInt_lt, n_int ha, n_int hb]; omega
theorem n_eq {a b : Nat} (ha : a < 2147483648) (hb : b < 2147483648) : Int32.ofNat a = Int32.ofNat b ↔ a = b := by
  rw [i_eq, n_int ha, n_int hb]; omega
theorem n_ex {x : Int32} (h : 0 ≤ x) : ∃ n : Nat, n < 2147483648 ∧ x = Int32.ofNat n := by
  refine ⟨x.toNatClampNeg, Int32.toNatClampNeg_lt x, ?_⟩
  rw [Int32.ofNat_toNatClampNeg x h]
/-- an int from 0 to below a bound, as a number -/
theorem n_exlt {x : Int32} {N : Nat} (h : 0 ≤ x.toInt) (h2 : x.toInt < N) : ∃ n : Nat, n < N ∧ n < 2147483648 ∧ x = Int32.ofNat n := by
  obtain ⟨n, h3, h4⟩ := n_ex (x := x) (by rw [Int32.le_iff_toInt_le]; simpa using h)
  rw [h4, n_int h3] at h2
  exact ⟨n, by omega, h3, h4⟩
theorem i_add' {x y : Int32} (h1 : -2147483648 ≤ x.toInt + y.toInt) (h2 : x.toInt + y.toInt < 2147483648) : (x + y).toInt = x.toInt + y.toInt := by
  rw [i_add]; omega
theorem i_sub' {x y : Int32} (h1 : -2147483648 ≤ x.toInt - y.toInt) (h2 : x.toInt - y.toInt < 2147483648) : (x - y).toInt = x.toInt - y.toInt := by
  rw [i_sub]; omega
theorem i_mul' {x y : Int32} (h1 : -2147483648 ≤ x.toInt * y.toInt) (h2 : x.toInt * y.toInt < 2147483648) : (x * y).toInt = x.toInt * y.toInt := by
  rw [i_mul]; omega
theorem n_t (i : Nat) (h : i < 40) (h2 : ¬ (40 : Int32) ≤ Int32.ofNat (i + 1)) : i + 1 < 40 := by
  simp (disch := omega) only [Int32.lt_iff_toInt_lt, Int32.le_iff_toInt_le, i_eq, n_int, Int32.reduceToInt] at h2
  omega
