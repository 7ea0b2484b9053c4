theorem x_cd_0 (X : XW) (p why : Nat) : xG (x_cd X p why) 0 = xG X 0 := by
  show (if 0 = 6 + why then xG X (6 + why) + 1 else xG X 0) = xG X 0
  exact if_neg (by omega)
section XI4
variable {M : Nat}
/-- what cutting keeps: the numbers of the tick, the nodes, the counts; slices come at the end, and arrive later -/
def x_ext (X Y : XW) : Prop := xG Y 0 = xG X 0 ∧ xN Y = xN X ∧ xb Y = xb X ∧ xp Y = xp X ∧ ∃ l, xS Y = xS X ++ l ∧ ∀ σ, σ ∈ l → (xG X 0).toInt < σ.2.2.2.2.2.2.1.toInt
theorem x_ext.rf (X : XW) : x_ext X X := ⟨rfl, rfl, rfl, rfl, [], by simp, fun _ h => by cases h⟩
theorem x_ext.tr {X Y Z : XW} (h1 : x_ext X Y) (h2 : x_ext Y Z) : x_ext X Z := by
  obtain ⟨a1, a2, a3, a4, l1, a5, a6⟩ := h1
  obtain ⟨b1, b2, b3, b4, l2, b5, b6⟩ := h2
  refine ⟨b1.trans a1, b2.trans a2, b3.trans a3, b4.trans a4, l1 ++ l2, by rw [b5, a5, List.append_assoc], fun σ hσ => ?_⟩
  rcases List.mem_append.mp hσ with h | h
  · exact a6 σ h
  · have := b6 σ h
    rw [a1] at this
    exact this
theorem x_cut_one {X : XW} (h : XI M X) (hM : M < 100000000) {b p : Nat} {from_ to last hops seed : Int32} (hb : b < xb X) (hp : p < xp X) (hf0 : 0 ≤ from_.toInt) (hft : from_.toInt < to.toInt) (ht : to.toInt ≤ 5500) (hl : last = 0 ∨ last = 1) (hh : ib hops 21) (hs : ib seed 256) (X1 : XW)
    (e1 : X1 = if (xS X).length = 300 then x_cd (x_g X 4 (xG X 4 + 1)) p 5
        else if x_took (x_g X 4 (xG X 4 + 1)) b = true then x_cd (x_takes (x_g X 4 (xG X 4 + 1)) b (to - from_)) p 4
        else x_s (x_takes (x_g X 4 (xG X 4 + 1)) b (to - from_)) (xS (x_takes (x_g X 4 (xG X 4 + 1)) b (to - from_)) ++ [x_over (x_takes (x_g X 4 (xG X 4 + 1)) b (to - from_)) b (Int32.ofNat p, from_, to - from_, last, hops, seed, xG X 0, -6)])) : XI M X1 ∧ x_ext X X1 := by
  have hsub : (to - from_).toInt = to.toInt - from_.toInt := i_sub' (by omega) (by omega)
  have hX0 : XI M (x_g X 4 (xG X 4 + 1)) := h.g (by decide)
  have s0 : x_ext X (x_g X 4 (xG X 4 + 1)) := ⟨rfl, rfl, rfl, rfl, [], (List.append_nil _).symm, fun _ h => by cases h⟩
  by_cases c1 : (xS X).length = 300
  · rw [if_pos c1] at e1
    subst e1
    exact ⟨hX0.cd _ _ (by omega), rfl, rfl, rfl, rfl, [], (List.append_nil _).symm, fun _ h => by cases h⟩
  · rw [if_neg c1] at e1
    obtain ⟨t1, t2, t3, t4, t5, t6, t7, t8⟩ := x_takes_same (x_g X 4 (xG X 4 + 1)) b (to - from_)
    have hX2 := hX0.takes b (to - from_)
    by_cases c2 : x_took (x_g X 4 (xG X 4 + 1)) b = true
    · rw [if_pos c2] at e1
      subst e1
      refine ⟨hX2.cd _ _ (by omega), ?_⟩
      refine ⟨?_, t2, t6, t7, [], ?_, fun _ h => by cases h⟩
      · exact (x_cd_0 _ _ _).trans ((congrFun t1 0).trans rfl)
      · rw [List.append_nil]; exact t5
    · rw [if_neg c2] at e1
      subst e1
      have hB := h.2.2.1 b hb
      have harr := c_arr (M := M) (tick := xG X 0) (delay := xB X b 3) (pace := xB X b 4) (len := to - from_) h.1.1 h.1.2 hM hB.2.2.2.1 hB.2.2.2.2.1 (by omega)
      have eG : xG (x_takes (x_g X 4 (xG X 4 + 1)) b (to - from_)) 0 = xG X 0 := by rw [t1]; rfl
      have eo : x_over (x_takes (x_g X 4 (xG X 4 + 1)) b (to - from_)) b (Int32.ofNat p, from_, to - from_, last, hops, seed, xG X 0, -6) = (Int32.ofNat p, from_, to - from_, last, hops, seed, xG X 0 + xB X b 3 + (to - from_ + 8) / xB X b 4, xB X b 1) := by
        unfold x_over
        rw [eG, t8 b 3 (by decide), t8 b 4 (by decide), t8 b 1 (by decide)]
        rfl
      rw [eo, t5]
      have hqs : qS (xp X) (xG X 0) M (Int32.ofNat p, from_, to - from_, last, hops, seed, xG X 0 + xB X b 3 + (to - from_ + 8) / xB X b 4, xB X b 1) :=
        ⟨ib.of hp (by have := h.2.2.2.2.2.2.1; omega), hf0, by show 1 ≤ (to - from_).toInt; omega, by show from_.toInt + (to - from_).toInt ≤ 5500; omega, hl, hh, hs, ⟨by have := harr.1; exact Int.le_of_lt this, harr.2⟩, hB.2.1⟩
      refine ⟨?_, eG, t2, t6, t7, [_], rfl, fun σ hσ => ?_⟩
      · obtain ⟨hT, hN, hB2, hP, hS, g16, g40, g300⟩ := hX2
        refine ⟨hT, hN, hB2, hP, fun σ hσ => ?_, g16, g40, ?_⟩
        · have hσ2 : σ ∈ xS X ++ [(Int32.ofNat p, from_, to - from_, last, hops, seed, xG X 0 + xB X b 3 + (to - from_ + 8) / xB X b 4, xB X b 1)] := hσ
          show qS (xp (x_takes _ b _)) (xG (x_takes _ b _) 0) M σ
          rw [t7, eG]
          rcases List.mem_append.mp hσ2 with hm | hm
          · exact h.2.2.2.2.1 σ hm
          · rw [List.mem_singleton.mp hm]
            exact hqs
        · show (xS X ++ [_]).length ≤ 300
          rw [List.length_append]
          have := h.2.2.2.2.2.2.2
          show (xS X).length + 1 ≤ 300
          omega
      · rw [List.mem_singleton.mp hσ]
        exact harr.1
theorem XI.cut (hM : M < 100000000) {b p : Nat} {each end_ last hops seed : Int32} (he : 8 ≤ each.toInt) (heM : each.toInt ≤ 2000) (hend : end_.toInt ≤ 5500) (hl : last = 0 ∨ last = 1) (hh : ib hops 21) (hs : ib seed 256) : ∀ n (X : XW) (from_ : Int32), XI M X → b < xb X → p < xp X → 0 ≤ from_.toInt → XI M (x_cut X b p each end_ last hops seed n from_) ∧ x_ext X (x_cut X b p each end_ last hops seed n from_) := by
  intro n
  induction n with
  | zero => intro X from_ h _ _ _; exact ⟨h, x_ext.rf X⟩
  | succ n ih =>
    intro X from_ h hb hp hf
    unfold x_cut
    by_cases c : from_ < end_
    · rw [if_pos c]
      have c2 := Int32.lt_iff_toInt_lt.mp c
      obtain ⟨to, hto⟩ : ∃ to, to = if from_ + each < end_ then from_ + each else end_ := ⟨_, rfl⟩
      have hto2 : from_.toInt < to.toInt ∧ to.toInt ≤ end_.toInt := by
        rw [hto]
        by_cases c3 : from_ + each < end_
        · rw [if_pos c3]
          rw [Int32.lt_iff_toInt_lt] at c3
          have := i_add' (x := from_) (y := each) (by omega) (by omega)
          omega
        · rw [if_neg c3]
          omega
      have h1 := x_cut_one h hM (b := b) (p := p) (from_ := from_) (to := to) (last := if to = end_ then last else 0) (hops := hops) (seed := seed) hb hp hf hto2.1 (by omega) (by
        split
        · exact hl
        · exact Or.inl rfl) hh hs _ rfl
      rw [hto] at h1
      obtain ⟨h2, h3⟩ := h1
      have h4 := ih _ (if from_ + each < end_ then from_ + each else end_) h2 (by rw [h3.2.2.1]; exact hb) (by rw [h3.2.2.2.1]; exact hp) (by rw [← hto]; omega)
      exact ⟨h4.1, h3.tr h4.2⟩
    · rw [if_neg c]
      exact ⟨h, x_ext.rf X⟩
end XI4
