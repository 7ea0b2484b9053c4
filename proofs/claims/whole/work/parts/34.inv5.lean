section XI5
variable {M : Nat} {X : XW}
/-- what treating a slice keeps -/
def x_kp (X Y : XW) : Prop := xG Y 0 = xG X 0 ∧ xN Y = xN X ∧ xb Y = xb X ∧ xp Y = xp X
theorem x_kp.rf (X : XW) : x_kp X X := ⟨rfl, rfl, rfl, rfl⟩
theorem x_kp.tr {X Y Z : XW} (h1 : x_kp X Y) (h2 : x_kp Y Z) : x_kp X Z := ⟨h2.1.trans h1.1, h2.2.1.trans h1.2.1, h2.2.2.1.trans h1.2.2.1, h2.2.2.2.trans h1.2.2.2⟩
theorem x_kp.end_ (X : XW) (p : Nat) (st : Int32) : x_kp X (x_end X p st) := ⟨rfl, rfl, rfl, rfl⟩
theorem x_kp.space (node : Int32) (n : Nat) (X : XW) : x_kp X (x_space node n X) := x_space_ind (R := fun Y => x_kp X Y) (fun Y p hy => hy.tr (x_kp.end_ Y p 4)) node n X (x_kp.rf X)
theorem x_kp.fin_ (X : XW) (p : Nat) : x_kp X (x_fin X p) := by
  unfold x_fin
  split
  · exact x_kp.rf X
  · exact x_kp.end_ _ _ _
theorem x_end_S (X : XW) (p : Nat) (st : Int32) : xS (x_end X p st) = xS X := rfl
theorem x_space_S (node : Int32) (n : Nat) (X : XW) : xS (x_space node n X) = xS X := x_space_ind (R := fun Y => xS Y = xS X) (fun _ _ hy => hy) node n X rfl
theorem x_fin_S (X : XW) (p : Nat) : xS (x_fin X p) = xS X := by
  unfold x_fin
  split
  · rfl
  · rfl
theorem x_drop_kp (X : XW) (s why : Nat) (hw : 0 < why) : x_kp X (x_drop X s why) ∧ xS (x_drop X s why) = (xS X).eraseIdx s := by
  refine ⟨⟨?_, rfl, rfl, rfl⟩, rfl⟩
  show (if 0 = 6 + why then xG X (6 + why) + 1 else xG X 0) = xG X 0
  exact if_neg (by omega)
theorem x_put2_kp (X : XW) (s : Nat) : x_kp X (x_put2 X s) ∧ xS (x_put2 X s) = (xS X).eraseIdx s := by
  unfold x_put2
  dsimp only
  split
  · exact ⟨⟨rfl, rfl, rfl, rfl⟩, rfl⟩
  · exact ⟨⟨rfl, rfl, rfl, rfl⟩, rfl⟩
theorem x_put_kp (X : XW) (s : Nat) : x_kp X (x_put X s) ∧ xS (x_put X s) = (xS X).eraseIdx s := by
  rw [x_put_eq]
  split
  · exact x_drop_kp X s 7 (by omega)
  · split
    · exact x_drop_kp X s 6 (by omega)
    · obtain ⟨h1, h2⟩ := x_put2_kp X s
      unfold x_put3
      split
      · exact ⟨(h1.tr (x_kp.space _ _ _)).tr (x_kp.fin_ _ _), by rw [x_fin_S, x_space_S, h2]⟩
      · exact ⟨h1.tr (x_kp.space _ _ _), by rw [x_space_S, h2]⟩
theorem x_takes_kp (X : XW) (b : Nat) (len : Int32) : x_kp X (x_takes X b len) := by
  obtain ⟨t1, t2, t3, t4, t5, t6, t7, t8⟩ := x_takes_same X b len
  exact ⟨congrFun t1 0, t2, t6, t7⟩
/-- what comes of a slice that arrives -/
theorem XI.still (h : XI M X) (hM : M < 100000000) {s : Nat} (hs : s < (xS X).length) : XI M (x_still X s).1 ∧ x_kp X (x_still X s).1 ∧
    (((x_still X s).2 = true ∧ ∃ σ, xS (x_still X s).1 = (xS X).set s σ ∧ (xG X 0).toInt < σ.2.2.2.2.2.2.1.toInt) ∨
     ((x_still X s).2 = false ∧ ∃ l, xS (x_still X s).1 = (xS X).eraseIdx s ++ l ∧ ∀ σ, σ ∈ l → (xG X 0).toInt < σ.2.2.2.2.2.2.1.toInt)) := by
  have hσ := h.2.2.2.2.1 _ (x_at_mem hs)
  have hp : nn (x_at X s).1 < xp X := hσ.1.nn
  have hPp := h.2.2.2.1 _ hp
  have nolist : ∀ (Y : XW), x_kp X Y ∧ xS Y = (xS X).eraseIdx s → x_kp X Y ∧ ∃ l, xS Y = (xS X).eraseIdx s ++ l ∧ ∀ σ : XS, σ ∈ l → (xG X 0).toInt < σ.2.2.2.2.2.2.1.toInt := fun Y hy => ⟨hy.1, [], by rw [List.append_nil]; exact hy.2, fun _ hh => by cases hh⟩
  have drp : ∀ (Y : XW) (why : Nat), 0 < why → XI M Y → x_kp X Y → xS Y = xS X → XI M (x_drop Y s why) ∧ x_kp X (x_drop Y s why) ∧ ∃ l, xS (x_drop Y s why) = (xS X).eraseIdx s ++ l ∧ ∀ σ : XS, σ ∈ l → (xG X 0).toInt < σ.2.2.2.2.2.2.1.toInt := fun Y why hw hY hk hl => by
    obtain ⟨d1, d2⟩ := x_drop_kp Y s why hw
    exact ⟨hY.drop s why hw, hk.tr d1, [], by rw [List.append_nil, d2, hl], fun _ hh => by cases hh⟩
  unfold x_still
  dsimp only
  by_cases c1 : (x_at X s).2.2.2.2.2.2.2 = xP X (nn (x_at X s).1) 1
  · rw [if_pos c1]
    obtain ⟨q1, q2⟩ := nolist _ (x_put_kp X s)
    exact ⟨h.put hs, q1, Or.inr ⟨rfl, q2⟩⟩
  · rw [if_neg c1]
    by_cases c2 : (x_at X s).2.2.2.2.1 = 0
    · rw [if_pos c2]
      obtain ⟨d1, d2, d3⟩ := drp X 1 (by omega) h (x_kp.rf X) rfl
      exact ⟨d1, d2, Or.inr ⟨rfl, d3⟩⟩
    · rw [if_neg c2]
      by_cases c3 : xN X (nn (x_at X s).2.2.2.2.2.2.2) (3 + nn (xP X (nn (x_at X s).1) 1)) < 0
      · rw [if_pos c3]
        obtain ⟨d1, d2, d3⟩ := drp X 2 (by omega) h (x_kp.rf X) rfl
        exact ⟨d1, d2, Or.inr ⟨rfl, d3⟩⟩
      · rw [if_neg c3]
        have hbr : ib (xN X (nn (x_at X s).2.2.2.2.2.2.2) (3 + nn (xP X (nn (x_at X s).1) 1))) (xb X) := by
          rcases (h.2.1 _ hσ.2.2.2.2.2.2.2.2.nn).2 _ hPp.1.2.1.nn with e | e
          · rw [e] at c3; exact absurd (by decide) c3
          · exact e
        generalize hbe : xN X (nn (x_at X s).2.2.2.2.2.2.2) (3 + nn (xP X (nn (x_at X s).1) 1)) = br at c3 hbr ⊢
        have hBb := h.2.2.1 _ hbr.nn
        by_cases c4 : (decide (0 ≤ br) && decide (xB X (nn br) 2 < (x_at X s).2.2.1 + 8)) = true ∧ xP X (nn (x_at X s).1) 4 = 0
        · rw [if_pos c4]
          obtain ⟨d1, d2, d3⟩ := drp X 3 (by omega) h (x_kp.rf X) rfl
          exact ⟨d1, d2, Or.inr ⟨rfl, d3⟩⟩
        · rw [if_neg c4]
          by_cases c5 : (decide (0 ≤ br) && decide (xB X (nn br) 2 < (x_at X s).2.2.1 + 8)) = true
          · rw [if_pos c5]
            have hX1 : XI M (x_g (x_rm X s) 5 (xG X 5 + 1)) := (h.rm s).g (by decide)
            have hroom : 8 ≤ ((xB X (nn br) 2 - 8) / 8 * 8).toInt ∧ ((xB X (nn br) 2 - 8) / 8 * 8).toInt ≤ 2000 := by
              have e1 : (xB X (nn br) 2 - 8).toInt = (xB X (nn br) 2).toInt - 8 := by rw [i_sub]; simp only [Int32.reduceToInt]; omega
              have e2 : ((xB X (nn br) 2 - 8) / 8).toInt = (xB X (nn br) 2 - 8).toInt.tdiv 8 := Int32.toInt_div_of_ne_right _ _ (by decide)
              have e3 : (xB X (nn br) 2 - 8).toInt.tdiv 8 = (xB X (nn br) 2 - 8).toInt / 8 := Int.tdiv_eq_ediv_of_nonneg (by omega)
              have e4 : ((xB X (nn br) 2 - 8) / 8 * 8).toInt = (xB X (nn br) 2 - 8).toInt / 8 * 8 := by
                rw [i_mul' (by rw [e2, e3]; simp only [Int32.reduceToInt]; omega) (by rw [e2, e3]; simp only [Int32.reduceToInt]; omega), e2, e3]
                rfl
              omega
            have hend : ((x_at X s).2.1 + (x_at X s).2.2.1).toInt = (x_at X s).2.1.toInt + (x_at X s).2.2.1.toInt := i_add' (by have := hσ.2.1; have := hσ.2.2.1; omega) (by have := hσ.2.2.2.1; omega)
            have hho : ib ((x_at X s).2.2.2.2.1 - 1) 21 := by
              have h5 := hσ.2.2.2.2.2.1
              have h6 : ¬ (x_at X s).2.2.2.2.1.toInt = 0 := fun e => c2 (Int32.toInt_inj.mp e)
              unfold ib at h5 ⊢
              rw [i_sub]
              simp only [Int32.reduceToInt]
              omega
            have hc := XI.cut (M := M) hM (b := nn br) (p := nn (x_at X s).1) (each := (xB X (nn br) 2 - 8) / 8 * 8) (end_ := (x_at X s).2.1 + (x_at X s).2.2.1) (last := (x_at X s).2.2.2.1) (hops := (x_at X s).2.2.2.2.1 - 1) (seed := (x_at X s).2.2.2.2.2.1) hroom.1 hroom.2 (by rw [hend]; exact hσ.2.2.2.1) hσ.2.2.2.2.1 hho hσ.2.2.2.2.2.2.1 701 (x_g (x_rm X s) 5 (xG X 5 + 1)) (x_at X s).2.1 hX1 hbr.nn hp hσ.2.1
            obtain ⟨k1, k2⟩ := hc
            obtain ⟨g1, g2, g3, g4, l, g5, g6⟩ := k2
            refine ⟨k1, ⟨g1, g2, g3, g4⟩, Or.inr ⟨rfl, l, g5, fun σ hl => ?_⟩⟩
            exact g6 σ hl
          · rw [if_neg c5]
            have hX2 := h.takes (nn br) (x_at X s).2.2.1
            by_cases c6 : x_took X (nn br) = true
            · rw [if_pos c6]
              obtain ⟨d1, d2, d3⟩ := drp (x_takes X (nn br) (x_at X s).2.2.1) 4 (by omega) hX2 (x_takes_kp _ _ _) (x_takes_same _ _ _).2.2.2.2.1
              exact ⟨d1, d2, Or.inr ⟨rfl, d3⟩⟩
            · rw [if_neg c6]
              obtain ⟨t1, t2, t3, t4, t5, t6, t7, t8⟩ := x_takes_same X (nn br) (x_at X s).2.2.1
              have hho : ib ((x_at X s).2.2.2.2.1 - 1) 21 := by
                have h5 := hσ.2.2.2.2.2.1
                have h6 : ¬ (x_at X s).2.2.2.2.1.toInt = 0 := fun e => c2 (Int32.toInt_inj.mp e)
                unfold ib at h5 ⊢
                rw [i_sub]
                simp only [Int32.reduceToInt]
                omega
              have harr := c_arr (M := M) (tick := xG X 0) (delay := xB X (nn br) 3) (pace := xB X (nn br) 4) (len := (x_at X s).2.2.1) h.1.1 h.1.2 hM hBb.2.2.2.1 hBb.2.2.2.2.1 ⟨hσ.2.2.1, by have := hσ.2.2.2.1; have := hσ.2.1; omega⟩
              have eo : x_over (x_takes X (nn br) (x_at X s).2.2.1) (nn br) ((x_at X s).1, (x_at X s).2.1, (x_at X s).2.2.1, (x_at X s).2.2.2.1, (x_at X s).2.2.2.2.1 - 1, (x_at X s).2.2.2.2.2.1, (x_at X s).2.2.2.2.2.2.1, (x_at X s).2.2.2.2.2.2.2) = ((x_at X s).1, (x_at X s).2.1, (x_at X s).2.2.1, (x_at X s).2.2.2.1, (x_at X s).2.2.2.2.1 - 1, (x_at X s).2.2.2.2.2.1, xG X 0 + xB X (nn br) 3 + ((x_at X s).2.2.1 + 8) / xB X (nn br) 4, xB X (nn br) 1) := by
                unfold x_over
                rw [t1, t8 _ 3 (by decide), t8 _ 4 (by decide), t8 _ 1 (by decide)]
              rw [eo, t5]
              have hqs : qS (xp X) (xG X 0) M ((x_at X s).1, (x_at X s).2.1, (x_at X s).2.2.1, (x_at X s).2.2.2.1, (x_at X s).2.2.2.2.1 - 1, (x_at X s).2.2.2.2.2.1, xG X 0 + xB X (nn br) 3 + ((x_at X s).2.2.1 + 8) / xB X (nn br) 4, xB X (nn br) 1) :=
                ⟨hσ.1, hσ.2.1, hσ.2.2.1, hσ.2.2.2.1, hσ.2.2.2.2.1, hho, hσ.2.2.2.2.2.2.1, ⟨Int.le_of_lt harr.1, harr.2⟩, hBb.2.1⟩
              refine ⟨?_, ⟨congrFun t1 0, t2, t6, t7⟩, Or.inl ⟨rfl, _, rfl, harr.1⟩⟩
              obtain ⟨hT, hN, hB2, hP, hS, g16, g40, g300⟩ := hX2
              refine ⟨hT, hN, hB2, hP, fun σ hm => ?_, g16, g40, ?_⟩
              · show qS (xp (x_takes X _ _)) (xG (x_takes X _ _) 0) M σ
                rw [t7, t1]
                rcases List.mem_or_eq_of_mem_set hm with hm | hm
                · exact h.2.2.2.2.1 σ hm
                · rw [hm]; exact hqs
              · show ((xS X).set s _).length ≤ 300
                rw [List.length_set]
                exact h.2.2.2.2.2.2.2
end XI5
