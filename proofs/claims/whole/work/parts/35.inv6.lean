theorem x_g_at (X : XW) (k : Nat) (v : Int32) : xG (x_g X k v) k = v := by
  show (if k = k then v else xG X k) = v
  exact if_pos rfl
section XI6
variable {M : Nat}
/-- the steps suffice: the run of a tick comes to its end -/
def xr_fin : Nat → Nat → XW → Prop
  | 0, s, X => (xS X).length ≤ s
  | n + 1, s, X => s < (xS X).length → (xG X 0 < (x_at X s).2.2.2.2.2.2.1 → xr_fin n (s + 1) X) ∧ (¬ xG X 0 < (x_at X s).2.2.2.2.2.2.1 → (x_still X s).2 = true → xr_fin n (s + 1) (x_still X s).1) ∧ (¬ xG X 0 < (x_at X s).2.2.2.2.2.2.1 → (x_still X s).2 = false → xr_fin n s (x_still X s).1)
def x_late (T : Int32) (σ : XS) : Bool := decide (T < σ.2.2.2.2.2.2.1)
/-- how many slices at places from s on are due -/
def x_due (l : List XS) (T : Int32) (s : Nat) : Nat := (l.drop s).countP (fun σ => !x_late T σ)
theorem x_due_step {l : List XS} {T : Int32} {s : Nat} (hs : s < l.length) : x_due l T s = x_due l T (s + 1) + (if x_late T (l.getD s (0, 0, 0, 0, 0, 0, 0, 0)) = true then 0 else 1) := by
  unfold x_due
  rw [List.drop_eq_getElem_cons hs, List.countP_cons]
  congr 1
  rw [List.getD_eq_getElem?_getD, List.getElem?_eq_getElem hs]
  simp only [Option.getD_some]
  by_cases c : x_late T l[s] = true
  · rw [if_pos c, if_neg (by rw [c]; decide)]
  · rw [if_neg c, if_pos (by rw [Bool.not_eq_true] at c; rw [c]; rfl)]
theorem x_due_erase {l k : List XS} {T : Int32} {s : Nat} (hs : s < l.length) (hk : ∀ σ, σ ∈ k → x_late T σ = true) : x_due (l.eraseIdx s ++ k) T s = x_due l T (s + 1) := by
  unfold x_due
  have h1 : (l.eraseIdx s).length = l.length - 1 := by rw [List.length_eraseIdx, if_pos hs]
  rw [List.drop_append_of_le_length (by omega), List.countP_append, List.eraseIdx_eq_take_drop_succ]
  have h2 : (l.take s ++ l.drop (s + 1)).drop s = l.drop (s + 1) := by
    rw [List.drop_append_of_le_length (by rw [List.length_take]; omega), List.drop_take]
    rw [Nat.sub_self, List.take_zero, List.nil_append]
  rw [h2]
  have h3 : k.countP (fun σ => !x_late T σ) = 0 := by
    rw [List.countP_eq_zero]
    intro σ hσ
    rw [hk σ hσ]
    decide
  omega
theorem x_due_set {l : List XS} {T : Int32} {s : Nat} {σ : XS} : x_due (l.set s σ) T (s + 1) = x_due l T (s + 1) := by
  unfold x_due
  rw [List.drop_set_of_lt (by omega)]
theorem xr_fin_of (hM : M < 100000000) : ∀ n s (X : XW), XI M X → s ≤ (xS X).length → x_due (xS X) (xG X 0) s + (300 - s) < n → xr_fin n s X := by
  intro n
  induction n with
  | zero => intro s X _ _ h; omega
  | succ n ih =>
    intro s X hX hs hd
    unfold xr_fin
    intro hlt
    have h300 := hX.2.2.2.2.2.2.2
    have hst := x_due_step (T := xG X 0) hlt
    refine ⟨fun hl => ?_, fun hl hb => ?_, fun hl hb => ?_⟩
    · refine ih (s + 1) X hX (by omega) ?_
      rw [if_pos (show x_late (xG X 0) ((xS X).getD s (0, 0, 0, 0, 0, 0, 0, 0)) = true from decide_eq_true hl)] at hst
      omega
    · have hne : ¬ x_late (xG X 0) ((xS X).getD s (0, 0, 0, 0, 0, 0, 0, 0)) = true := fun hh => hl (of_decide_eq_true hh)
      rw [if_neg hne] at hst
      obtain ⟨k1, k2, k3⟩ := hX.still hM hlt
      rcases k3 with ⟨_, σ, k4, _⟩ | ⟨k5, _⟩
      · refine ih (s + 1) _ k1 (by rw [k4, List.length_set]; omega) ?_
        rw [k4, k2.1, x_due_set]
        omega
      · rw [hb] at k5; cases k5
    · have hne : ¬ x_late (xG X 0) ((xS X).getD s (0, 0, 0, 0, 0, 0, 0, 0)) = true := fun hh => hl (of_decide_eq_true hh)
      rw [if_neg hne] at hst
      obtain ⟨k1, k2, k3⟩ := hX.still hM hlt
      rcases k3 with ⟨k5, _⟩ | ⟨_, l, k4, k6⟩
      · rw [hb] at k5; cases k5
      · have h1 : ((xS X).eraseIdx s).length = (xS X).length - 1 := by rw [List.length_eraseIdx, if_pos hlt]
        refine ih s _ k1 (by rw [k4, List.length_append, h1]; omega) ?_
        rw [k4, k2.1, x_due_erase hlt (fun σ hσ => decide_eq_true (Int32.lt_iff_toInt_lt.mpr (k6 σ hσ)))]
        omega
theorem x_due_le (l : List XS) (T : Int32) (s : Nat) : x_due l T s ≤ l.length := Nat.le_trans List.countP_le_length (by rw [List.length_drop]; omega)
theorem xr_fin_0 (hM : M < 100000000) {X : XW} (h : XI M X) : xr_fin 601 0 X := by
  refine xr_fin_of hM 601 0 X h (Nat.zero_le _) ?_
  have := x_due_le (xS X) (xG X 0) 0
  have := h.2.2.2.2.2.2.2
  omega
/-- the slices of a tick: all are late behind it -/
theorem XI.run (hM : M < 100000000) : ∀ n s (X : XW), XI M X → xr_fin n s X → (∀ i σ, i < s → (xS X)[i]? = some σ → x_late (xG X 0) σ = true) → XI M (x_run n s X) ∧ x_kp X (x_run n s X) ∧ ∀ σ, σ ∈ xS (x_run n s X) → x_late (xG X 0) σ = true := by
  intro n
  induction n with
  | zero =>
    intro s X h hf hb
    refine ⟨h, x_kp.rf X, fun σ hσ => ?_⟩
    obtain ⟨i, hi⟩ := List.getElem?_of_mem hσ
    have hil := (List.getElem?_eq_some_iff.mp hi).1
    have hf2 : (xS X).length ≤ s := hf
    exact hb i σ (by have : i < (xS X).length := hil; omega) hi
  | succ n ih =>
    intro s X h hf hb
    unfold x_run
    by_cases hlt : s < (xS X).length
    · rw [if_pos hlt]
      obtain ⟨f1, f2, f3⟩ := hf hlt
      by_cases hl : xG X 0 < (x_at X s).2.2.2.2.2.2.1
      · rw [if_pos hl]
        refine ih (s + 1) X h (f1 hl) (fun i σ hi hσ => ?_)
        by_cases e : i = s
        · subst e
          have e2 : x_at X i = σ := by
            unfold x_at
            rw [List.getD_eq_getElem?_getD, hσ]
            rfl
          rw [← e2]
          exact decide_eq_true hl
        · exact hb i σ (by omega) hσ
      · rw [if_neg hl]
        obtain ⟨k1, k2, k3⟩ := h.still hM hlt
        rcases k3 with ⟨k4, τ, k5, k6⟩ | ⟨k4, l, k5, k6⟩
        · rw [if_pos k4]
          have h1 := ih (s + 1) _ k1 (f2 hl k4) (fun i σ hi hσ => by
            rw [k5] at hσ
            rw [k2.1]
            by_cases e : i = s
            · subst e
              rw [List.getElem?_set_self hlt] at hσ
              cases hσ
              exact decide_eq_true (Int32.lt_iff_toInt_lt.mpr k6)
            · rw [List.getElem?_set_ne (fun hh => e hh.symm)] at hσ
              exact hb i σ (by omega) hσ)
          exact ⟨h1.1, k2.tr h1.2.1, fun σ hσ => by have := h1.2.2 σ hσ; rw [k2.1] at this; exact this⟩
        · rw [if_neg (by rw [k4]; exact Bool.false_ne_true)]
          have h9 : ((xS X).eraseIdx s).length = (xS X).length - 1 := by rw [List.length_eraseIdx, if_pos hlt]
          have h1 := ih s _ k1 (f3 hl k4) (fun i σ hi hσ => by
            rw [k5, List.getElem?_append_left (by omega), List.getElem?_eraseIdx, if_pos hi] at hσ
            rw [k2.1]
            exact hb i σ hi hσ)
          exact ⟨h1.1, k2.tr h1.2.1, fun σ hσ => by have := h1.2.2 σ hσ; rw [k2.1] at this; exact this⟩
    · rw [if_neg hlt]
      refine ⟨h, x_kp.rf X, fun σ hσ => ?_⟩
      obtain ⟨i, hi⟩ := List.getElem?_of_mem hσ
      have hil := (List.getElem?_eq_some_iff.mp hi).1
      exact hb i σ (by have : i < (xS X).length := hil; omega) hi
theorem XI.times : ∀ n (X : XW), XI M X → XI M (x_times n X) ∧ x_kp X (x_times n X) ∧ xS (x_times n X) = xS X := by
  intro n
  induction n with
  | zero => intro X h; exact ⟨h, x_kp.rf X, rfl⟩
  | succ n ih =>
    intro X h
    obtain ⟨h1, h2, h3⟩ := ih X h
    unfold x_times
    dsimp only
    split
    · exact ⟨h1.end_ ⟨by decide, by decide⟩ (by decide), h2.tr (x_kp.end_ _ _ _), h3⟩
    · exact ⟨h1, h2, h3⟩
theorem XI.tick (hM : M < 90000000) {X : XW} (h : XI M X) : XI (M + 1) (x_tick X) ∧ xb (x_tick X) = xb X ∧ xp (x_tick X) = xp X ∧ xN (x_tick X) = xN X ∧ xG (x_tick X) 0 = xG X 0 + 1 := by
  obtain ⟨r1, r2, r3⟩ := XI.run (M := M) (by omega) 601 0 X h (xr_fin_0 (by omega) h) (fun i σ hi => by omega)
  obtain ⟨t1, t2, t3⟩ := XI.times (M := M) (xp (x_run 601 0 X)) _ r1
  have k := r2.tr t2
  have e0 : xG (x_tick X) 0 = xG X 0 + 1 := by
    have e9 := x_g_at (x_times (xp (x_run 601 0 X)) (x_run 601 0 X)) 0 (xG (x_times (xp (x_run 601 0 X)) (x_run 601 0 X)) 0 + 1)
    rw [k.1] at e9
    exact (show xG (x_tick X) 0 = xG (x_g _ 0 (xG (x_times (xp (x_run 601 0 X)) (x_run 601 0 X)) 0 + 1)) 0 from rfl).trans (by rw [k.1]; exact e9)
  have hadd : (xG X 0 + 1).toInt = (xG X 0).toInt + 1 := by
    have := h.1
    rw [i_add]
    simp only [Int32.reduceToInt]
    omega
  refine ⟨?_, k.2.2.1, k.2.2.2, k.2.1, e0⟩
  obtain ⟨hT, hN, hB, hP, hS, g16, g40, g300⟩ := t1
  refine ⟨?_, hN, hB, fun p hp => ?_, fun σ hσ => ?_, g16, g40, g300⟩
  · rw [e0, hadd]
    have := h.1
    omega
  · rw [e0]
    have h1 := hP p hp
    rw [k.1] at h1
    exact h1.tick (by omega)
  · have hσ2 : σ ∈ xS (x_times (xp (x_run 601 0 X)) (x_run 601 0 X)) := hσ
    have h1 := hS σ hσ2
    rw [k.1] at h1
    rw [t3] at hσ2
    have h2 := Int32.lt_iff_toInt_lt.mp (of_decide_eq_true (r3 σ hσ2))
    rw [e0]
    refine ⟨h1.1, h1.2.1, h1.2.2.1, h1.2.2.2.1, h1.2.2.2.2.1, h1.2.2.2.2.2.1, h1.2.2.2.2.2.2.1, ⟨by omega, by have := h1.2.2.2.2.2.2.2.1.2; omega⟩, h1.2.2.2.2.2.2.2.2⟩
theorem XI.ticks (X : XW) : ∀ n, M + n < 90000000 → XI M X → XI (M + n) (x_ticks n X) ∧ xb (x_ticks n X) = xb X ∧ xp (x_ticks n X) = xp X ∧ xN (x_ticks n X) = xN X := by
  intro n
  induction n with
  | zero => intro _ h; exact ⟨h, rfl, rfl, rfl⟩
  | succ n ih =>
    intro hM h
    obtain ⟨h1, h2, h3, h4⟩ := ih (by omega) h
    obtain ⟨k1, k2, k3, k4, k5⟩ := h1.tick (by omega)
    exact ⟨k1, k2.trans h2, k3.trans h3, k4.trans h4⟩
end XI6
