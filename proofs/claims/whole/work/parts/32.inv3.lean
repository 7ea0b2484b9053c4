section XI3
variable {M : Nat} {X : XW}
/-- a slice is put: the invariant stays -/
theorem XI.put (h : XI M X) {s : Nat} (hs : s < (xS X).length) : XI M (x_put X s) := by
  have hσ := h.2.2.2.2.1 _ (x_at_mem hs)
  obtain ⟨p, hpe⟩ : ∃ p, p = nn (x_at X s).1 := ⟨_, rfl⟩
  obtain ⟨a, hae⟩ : ∃ a, a = (x_at X s).2.1 := ⟨_, rfl⟩
  obtain ⟨ln, hle⟩ : ∃ ln, ln = (x_at X s).2.2.1 := ⟨_, rfl⟩
  obtain ⟨la, hlae⟩ : ∃ la, la = (x_at X s).2.2.2.1 := ⟨_, rfl⟩
  obtain ⟨seed, hse⟩ : ∃ sd, sd = (x_at X s).2.2.2.2.2.1 := ⟨_, rfl⟩
  obtain ⟨node, hne⟩ : ∃ n, n = xP X p 1 := ⟨_, rfl⟩
  have hp : p < xp X := by rw [hpe]; exact hσ.1.nn
  have ha0 : 0 ≤ a.toInt := by rw [hae]; exact hσ.2.1
  have hl1 : 1 ≤ ln.toInt := by rw [hle]; exact hσ.2.2.1
  have hal : a.toInt + ln.toInt ≤ 5500 := by rw [hae, hle]; exact hσ.2.2.2.1
  have hsd : ib seed 256 := by rw [hse]; exact hσ.2.2.2.2.2.2.1
  have hadd : (a + ln).toInt = a.toInt + ln.toInt := i_add' (by omega) (by omega)
  have e0 : x_put X s = if ¬ xP X p 5 = 0 then x_drop X s 7 else if x_wrong X p (a + ln) (decide (la = 1)) = true then x_drop X s 6 else x_put3 (x_put2 X s) p node := by
    rw [hne, hpe, hae, hle, hlae]; rfl
  rw [e0]
  by_cases hst : xP X p 5 = 0
  · rw [if_neg (fun hh => hh hst)]
    by_cases hw : x_wrong X p (a + ln) (decide (la = 1)) = true
    · rw [if_pos hw]; exact h.drop s 6 (by omega)
    · rw [if_neg hw]
      have hw2 : x_wrong X p (a + ln) (decide (la = 1)) = false := by simpa using hw
      unfold x_wrong at hw2
      rw [Bool.or_eq_false_iff, Bool.or_eq_false_iff] at hw2
      obtain ⟨⟨w1, w2⟩, w3⟩ := hw2
      have hb4 : (a + ln).toInt ≤ 4000 := by
        have h9 := Int32.not_lt.mp (of_decide_eq_false w1)
        rw [Int32.le_iff_toInt_le] at h9
        simpa using h9
      have h1 : XI M (x_g (x_rm X s) 6 (xG X 6 + 1)) := (h.rm s).g (by decide)
      have key : XI M (x_put2 X s) := by
        have e1 : x_put2 X s = if xN X (nn node) 0 = 2 ∧ x_any (xT X p) (nn a) (nn (a + ln) - nn a) = true then x_end (x_g (x_rm X s) 6 (xG X 6 + 1)) p 5 else x_p (x_p (x_layb (x_g (x_rm X s) 6 (xG X 6 + 1)) p (nn a) (nn (a + ln)) seed (decide (xN X (nn node) 0 = 1))) p 8 (if decide (la = 1) = true then a + ln else xP (x_layb (x_g (x_rm X s) 6 (xG X 6 + 1)) p (nn a) (nn (a + ln)) seed (decide (xN X (nn node) 0 = 1))) p 8)) p 9 (if xP (x_p (x_layb (x_g (x_rm X s) 6 (xG X 6 + 1)) p (nn a) (nn (a + ln)) seed (decide (xN X (nn node) 0 = 1))) p 8 (if decide (la = 1) = true then a + ln else xP (x_layb (x_g (x_rm X s) 6 (xG X 6 + 1)) p (nn a) (nn (a + ln)) seed (decide (xN X (nn node) 0 = 1))) p 8)) p 9 < 0 then xG X 0 else xP (x_p (x_layb (x_g (x_rm X s) 6 (xG X 6 + 1)) p (nn a) (nn (a + ln)) seed (decide (xN X (nn node) 0 = 1))) p 8 (if decide (la = 1) = true then a + ln else xP (x_layb (x_g (x_rm X s) 6 (xG X 6 + 1)) p (nn a) (nn (a + ln)) seed (decide (xN X (nn node) 0 = 1))) p 8)) p 9) := by
          rw [hne, hpe, hae, hle, hlae, hse]; rfl
        rw [e1]
        split
        · exact h1.end_ ⟨by decide, by decide⟩ (by decide)
        · obtain ⟨hT, hN, hB, hP, hS, hb⟩ := h1
          refine ⟨hT, hN, hB, fun q hq => ?_, hS, hb⟩
          by_cases e : q = p
          · subst e
            have hr := h.2.2.2.1 q hp
            have c1 := i_cn a
            have c2 := i_cn (a + ln)
            refine hr.lay (e := a + ln) (seed := seed) (a := nn a) (la := decide (la = 1)) (over := decide (xN X (nn node) 0 = 1)) hst h.1.1 hsd (by show a.toNatClampNeg < (a + ln).toNatClampNeg; omega) (by omega) hb4 (fun h8 => ?_) (fun hl i hi1 hi2 => ?_) ?_ ?_ ?_ (fun k hk k8 k9 => ?_) (fun i => ?_)
            · rw [Bool.and_eq_false_iff] at w2
              rcases w2 with w2 | w2
              · exact absurd h8 (of_decide_eq_false w2)
              · rw [Bool.or_eq_false_iff] at w2
                exact of_decide_eq_false w2.1
            · rw [hl, Bool.true_and] at w3
              have := x_any_false _ w3 (i - nn (a + ln)) (by omega)
              rw [show nn (a + ln) + (i - nn (a + ln)) = i by omega] at this
              exact this
            · exact (p_up_n2 _ _ _ _ (by decide)).trans ((p_up_n2 _ _ _ _ (by decide)).trans (p_up_eq _ _ _ _))
            · refine (p_up_n2 _ _ _ _ (by decide)).trans ((p_up_eq _ _ _ _).trans ?_)
              congr 1
              exact p_up_n2 _ _ _ _ (by decide)
            · refine (p_up_eq _ _ _ _).trans ?_
              have e9 : ∀ z, xP (x_p (x_layb (x_g (x_rm X s) 6 (xG X 6 + 1)) q (nn a) (nn (a + ln)) seed (decide (xN X (nn node) 0 = 1))) q 8 z) q 9 = xP X q 9 := fun z => (p_up_n2 _ _ _ _ (by decide)).trans (p_up_n2 _ _ _ _ (by decide))
              rw [e9]
              rfl
            · by_cases k12 : k = 12
              · omega
              · exact (p_up_n2 _ _ _ _ k9).trans ((p_up_n2 _ _ _ _ k8).trans (p_up_n2 _ _ _ _ k12))
            · show (if q = q then _ else _) = _
              exact if_pos rfl
          · have hr := hP q hq
            have er : ∀ (Y : XW) (k : Nat) (v : Int32), xP (x_p Y p k v) q = xP Y q := fun Y k v => by
              funext j
              exact p_up_n1 _ _ _ _ e
            rw [er, er]
            have e3 : xP (x_layb (x_g (x_rm X s) 6 (xG X 6 + 1)) p (nn a) (nn (a + ln)) seed (decide (xN X (nn node) 0 = 1))) q = xP X q := by
              funext j
              exact p_up_n1 _ _ _ _ e
            rw [e3]
            have e4 : ∀ (Y : XW) (k : Nat) (v : Int32), xT (x_p Y p k v) = xT Y := fun _ _ _ => rfl
            rw [e4, e4]
            have e5 : xT (x_layb (x_g (x_rm X s) 6 (xG X 6 + 1)) p (nn a) (nn (a + ln)) seed (decide (xN X (nn node) 0 = 1))) q = xT X q := by
              funext i
              exact if_neg e
            rw [e5]
            exact hr
      unfold x_put3
      split
      · exact (key.space _ _).fin_ _
      · exact key.space _ _
  · rw [if_pos hst]; exact h.drop s 7 (by omega)
/-- when a slice that goes over a bridge arrives -/
theorem c_arr {tick delay pace len : Int32} (ht0 : 0 ≤ tick.toInt) (htM : tick.toInt ≤ (M : Int)) (hM : M < 100000000) (hd : 1 ≤ delay.toInt ∧ delay.toInt ≤ 50) (hp : 1 ≤ pace.toInt ∧ pace.toInt ≤ 1000) (hl : 1 ≤ len.toInt ∧ len.toInt ≤ 5500) : tick.toInt < (tick + delay + (len + 8) / pace).toInt ∧ (tick + delay + (len + 8) / pace).toInt ≤ (M : Int) + 6000 := by
  have h8 : (len + 8).toInt = len.toInt + 8 := by rw [i_add]; simp only [Int32.reduceToInt]; omega
  have hdv : ((len + 8) / pace).toInt = (len + 8).toInt.tdiv pace.toInt := Int32.toInt_div_of_ne_right _ _ (by
    intro e; rw [e] at hp; exact absurd hp.1 (by decide))
  have h9 : 0 ≤ (len + 8).toInt.tdiv pace.toInt := Int.tdiv_nonneg (by omega) (by omega)
  have h10 : (len + 8).toInt.tdiv pace.toInt ≤ (len + 8).toInt := Int.tdiv_le_self _ (by omega)
  have h1 : (tick + delay).toInt = tick.toInt + delay.toInt := i_add' (by omega) (by omega)
  have h2 : (tick + delay + (len + 8) / pace).toInt = tick.toInt + delay.toInt + (len + 8).toInt.tdiv pace.toInt := by
    rw [i_add' (by rw [h1, hdv]; omega) (by rw [h1, hdv]; omega), h1, hdv]
  omega
theorem x_takes_same (X : XW) (b : Nat) (len : Int32) : xG (x_takes X b len) = xG X ∧ xN (x_takes X b len) = xN X ∧ xP (x_takes X b len) = xP X ∧ xT (x_takes X b len) = xT X ∧ xS (x_takes X b len) = xS X ∧ xb (x_takes X b len) = xb X ∧ xp (x_takes X b len) = xp X ∧ ∀ c j, j < 6 → xB (x_takes X b len) c j = xB X c j := by
  unfold x_takes
  by_cases c : x_took X b = true
  · rw [if_pos c]
    exact ⟨rfl, rfl, rfl, rfl, rfl, rfl, rfl, fun c j hj => (p_up_n2 _ _ _ _ (by omega)).trans (p_up_n2 _ _ _ _ (by omega))⟩
  · rw [if_neg c]
    exact ⟨rfl, rfl, rfl, rfl, rfl, rfl, rfl, fun c j hj => (p_up_n2 _ _ _ _ (by omega)).trans (p_up_n2 _ _ _ _ (by omega))⟩
end XI3
