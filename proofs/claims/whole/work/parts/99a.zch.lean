/-- the pad's characters are bytes -/
def zch (Z : ZW) : Prop := ∀ i, i < zn Z → ib (zC Z i) 256
theorem l_chr_ib (y : Int64) {j : Nat} (hj : j < 8) : ib (l_chr y j) 256 := by
  rw [← l_chc_eq y hj, l_chc_nat y hj]
  exact ib.of (by omega) (by omega)
theorem zch.put {Z : ZW} (h : zch Z) {y : Int64} : zch (z_put Z y).1 := by
  have hl := l_cnt_le 8 y 0
  unfold z_put
  split
  · exact h
  · split
    · exact h
    · intro i hi
      have hi2 : i < zn Z + l_cnt 8 y 0 := hi
      show ib (if zn Z ≤ i ∧ i < zn Z + l_cnt 8 y 0 then l_chr y (l_cnt 8 y 0 - 1 - (i - zn Z)) else zC Z i) 256
      by_cases e : zn Z ≤ i ∧ i < zn Z + l_cnt 8 y 0
      · rw [if_pos e]
        exact l_chr_ib y (by omega)
      · rw [if_neg e]
        exact h i (by omega)
theorem zch.wipe (Z : ZW) : zch (z_wipe Z).1 := fun i hi => absurd hi (Nat.not_lt_zero _)
theorem zch.eq {Z Y : ZW} (h : zch Z) (e : Y.2.2.2.2.2.2 = Z.2.2.2.2.2.2) : zch Y := by
  intro i hi
  have e1 : zC Y = zC Z := congrArg Prod.fst e
  have e2 : zn Y = zn Z := congrArg Prod.snd e
  rw [e1]
  exact h i (by rw [e2] at hi; exact hi)
