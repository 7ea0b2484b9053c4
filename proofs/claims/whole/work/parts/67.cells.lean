/-! ===== cells of 9 bits, seven in a long ===== -/
theorem l_k7 {k : Nat} (h : k < 7) : k = 0 ∨ k = 1 ∨ k = 2 ∨ k = 3 ∨ k = 4 ∨ k = 5 ∨ k = 6 := by omega
theorem l_sa {k : Nat} (hk : k < 7) : ((Int32.ofNat (9 * k)).toInt64.toUInt64 &&& Int64.toUInt64 63) = UInt64.ofNat (9 * k) ∧ ((UInt64.ofNat (9 * k)).toBitVec % 64).toNat = 9 * k ∧ (((Int32.ofNat (9 * k)).toInt64 &&& 63).toBitVec.smod 64).toNat = 9 * k := by
  rcases l_k7 hk with e | e | e | e | e | e | e <;> subst e <;> exact ⟨by decide, by decide, by decide⟩
theorem l_cell_nat (w : Int64) {k : Nat} (hk : k < 7) : l_cell w k = Int32.ofNat ((w.toBitVec.toNat >>> (9 * k)) % 512) := by
  unfold l_cell
  rw [(l_sa hk).1]
  refine Int32.toBitVec_inj.mp ?_
  rw [Int64.toBitVec_toInt32, BitVec.signExtend_eq_setWidth_of_le _ (by decide)]
  refine BitVec.eq_of_toNat_eq ?_
  rw [BitVec.toNat_setWidth, Int64.toBitVec_and, BitVec.toNat_and]
  show ((w.toBitVec >>> ((UInt64.ofNat (9 * k)).toBitVec % 64).toNat).toNat &&& 511) % 2 ^ 32 = ((w.toBitVec.toNat >>> (9 * k)) % 512) % 2 ^ 32
  rw [(l_sa hk).2.1, BitVec.toNat_ushiftRight]
  congr 1
  exact Nat.and_two_pow_sub_one_eq_mod _ 9
def l_set (w : Int64) (k : Nat) (v : Int32) : Int64 := (w &&& (((511 : Int64) <<< ((Int32.ofNat (9 * k)).toInt64 &&& 63)) ^^^ (-1))) ||| (v.toInt64 <<< ((Int32.ofNat (9 * k)).toInt64 &&& 63))
theorem l_i2l {n : Nat} (hn : n < 512) : (Int32.ofNat n).toInt64.toBitVec = BitVec.ofNat 64 n := by
  have h : (Int32.ofNat n).toInt64 = Int64.ofNat n := by
    refine Int64.toInt_inj.mp ?_
    rw [Int32.toInt_toInt64, n_int (by omega), Int64.toInt_ofNat_of_lt (by omega)]
  rw [h]
  rfl
theorem l_set_bits (w : Int64) {k n : Nat} (hk : k < 7) (hn : n < 512) (j : Nat) (hj : j < 64) : (l_set w k (Int32.ofNat n)).toBitVec.getLsbD j = ((w.toBitVec.getLsbD j && !(decide (9 * k ≤ j) && decide (j < 9 * k + 9))) || (decide (9 * k ≤ j) && n.testBit (j - 9 * k))) := by
  unfold l_set
  rw [Int64.toBitVec_or, Int64.toBitVec_and, Int64.toBitVec_xor, Int64.toBitVec_shiftLeft, Int64.toBitVec_shiftLeft]
  show ((w.toBitVec &&& (((511#64) <<< (((Int32.ofNat (9 * k)).toInt64 &&& 63).toBitVec.smod 64).toNat) ^^^ BitVec.allOnes 64)) ||| ((Int32.ofNat n).toInt64.toBitVec <<< (((Int32.ofNat (9 * k)).toInt64 &&& 63).toBitVec.smod 64).toNat)).getLsbD j = _
  rw [(l_sa hk).2.2, l_i2l hn, BitVec.xor_allOnes, BitVec.getLsbD_or, BitVec.getLsbD_and, BitVec.getLsbD_not, BitVec.getLsbD_shiftLeft, BitVec.getLsbD_shiftLeft, BitVec.getLsbD_ofNat, BitVec.getLsbD_ofNat]
  rw [show (511 : Nat) = 2 ^ 9 - 1 from rfl, Nat.testBit_two_pow_sub_one, decide_eq_true hj]
  by_cases e : 9 * k ≤ j
  · rw [decide_eq_true e, decide_eq_false (show ¬ j < 9 * k by omega), decide_eq_true (show j - 9 * k < 64 by omega)]
    by_cases e2 : j < 9 * k + 9
    · rw [decide_eq_true e2, decide_eq_true (show j - 9 * k < 9 by omega)]
      simp
    · rw [decide_eq_false e2, decide_eq_false (show ¬ j - 9 * k < 9 by omega)]
      simp
  · rw [decide_eq_false e, decide_eq_true (show j < 9 * k by omega)]
    simp
theorem l_cell_set (w : Int64) {k k2 n : Nat} (hk : k < 7) (hk2 : k2 < 7) (hn : n < 512) : l_cell (l_set w k (Int32.ofNat n)) k2 = if k2 = k then Int32.ofNat n else l_cell w k2 := by
  rw [l_cell_nat _ hk2, l_cell_nat w hk2]
  by_cases e : k2 = k
  · rw [if_pos e, e]
    congr 1
    refine Nat.eq_of_testBit_eq fun i => ?_
    rw [show (512 : Nat) = 2 ^ 9 from rfl, Nat.testBit_mod_two_pow, Nat.testBit_shiftRight, BitVec.testBit_toNat]
    by_cases hi : i < 9
    · rw [decide_eq_true hi, l_set_bits w hk hn _ (by omega), decide_eq_true (show 9 * k ≤ 9 * k + i by omega), decide_eq_true (show 9 * k + i < 9 * k + 9 by omega), Nat.add_sub_cancel_left]
      simp
    · rw [decide_eq_false hi, Bool.false_and]
      exact (Nat.testBit_lt_two_pow (Nat.lt_of_lt_of_le hn (Nat.pow_le_pow_right (n := 2) (by decide) (show 9 ≤ i by omega)))).symm
  · rw [if_neg e]
    congr 1
    refine Nat.eq_of_testBit_eq fun i => ?_
    rw [show (512 : Nat) = 2 ^ 9 from rfl, Nat.testBit_mod_two_pow, Nat.testBit_mod_two_pow, Nat.testBit_shiftRight, Nat.testBit_shiftRight, BitVec.testBit_toNat, BitVec.testBit_toNat]
    by_cases hi : i < 9
    · rw [l_set_bits w hk hn _ (by omega)]
      by_cases e2 : 9 * k ≤ 9 * k2 + i
      · rw [decide_eq_true e2, decide_eq_false (show ¬ 9 * k2 + i < 9 * k + 9 by omega)]
        have h0 : n.testBit (9 * k2 + i - 9 * k) = false := Nat.testBit_lt_two_pow (Nat.lt_of_lt_of_le hn (Nat.pow_le_pow_right (n := 2) (by decide) (show 9 ≤ 9 * k2 + i - 9 * k by omega)))
        rw [h0]
        simp
      · rw [decide_eq_false e2]
        simp
    · rw [decide_eq_false hi, Bool.false_and, Bool.false_and]
theorem l_cell_0 {k : Nat} (hk : k < 7) : l_cell 0 k = 0 := by
  rcases l_k7 hk with e | e | e | e | e | e | e <;> subst e <;> decide
/-- a cell of a row of longs is set -/
theorem x_cell_set {c : Nat → Int64} {i j n : Nat} (hn : n < 512) : x_cell (fun b => if b = i / 7 then l_set (c (i / 7)) (i % 7) (Int32.ofNat n) else c b) j = if j = i then Int32.ofNat n else x_cell c j := by
  unfold x_cell
  dsimp only
  by_cases e : j / 7 = i / 7
  · rw [if_pos e, l_cell_set _ (by omega) (by omega) hn, e]
    by_cases e2 : j % 7 = i % 7
    · rw [if_pos e2, if_pos (by omega)]
    · rw [if_neg e2, if_neg (by omega)]
  · rw [if_neg e, if_neg (by omega)]
