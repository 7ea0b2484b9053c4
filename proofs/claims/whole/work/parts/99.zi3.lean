section ZIr
variable {M : Nat} {Z : ZW}
theorem z_obey_2 (Z : ZW) (o : TO) : (z_obey Z o).1.2 = Z.2 := by
  unfold z_obey
  split
  · unfold z_send
    split
    · rfl
    · split
      · rfl
      · split
        · rfl
        · rfl
  · split
    · unfold z_forge
      split
      · rfl
      · split
        · rfl
        · split
          · rfl
          · rfl
    · split
      · unfold z_resend
        split
        · rfl
        · split
          · rfl
          · split
            · rfl
            · rfl
      · unfold z_ticks
        split
        · rfl
        · rfl
theorem ZI.obey (h : ZI M Z) (hM : M < 80000000) (o : TO) : ZI (M + 500) (z_obey Z o).1 := by
  have e : (z_obey Z o).1 = z_x Z (zX (z_obey Z o).1) := Prod.ext rfl (z_obey_2 Z o)
  rw [e]
  exact (h.mono (by omega)).x (z_obey_I h.1 hM o)
theorem ZI.exec : ∀ (os : List TO) (Z : ZW) (M k : Nat), ZI M Z → M + 500 * os.length < 80000000 → ZI (M + 500 * os.length) (z_exec Z os k).1 := by
  intro os
  induction os with
  | nil => intro Z M k h _; exact h
  | cons o os ih =>
    intro Z M k h hM
    rw [List.length_cons] at hM ⊢
    have h1 := h.obey (by omega) o
    rw [show z_exec Z (o :: os) k = if 0 ≤ (z_obey Z o).2 then z_exec (z_obey Z o).1 os (k + 1) else ((z_obey Z o).1, k) from rfl]
    split
    · have h2 := ih (z_obey Z o).1 (M + 500) (k + 1) h1 (by omega)
      exact h2.mono (by omega)
    · exact h1.mono (by omega)
theorem z_exec_2 : ∀ (os : List TO) (Z : ZW) (k : Nat), (z_exec Z os k).1.2 = Z.2 := by
  intro os
  induction os with
  | nil => intro Z k; rfl
  | cons o os ih =>
    intro Z k
    rw [show z_exec Z (o :: os) k = if 0 ≤ (z_obey Z o).2 then z_exec (z_obey Z o).1 os (k + 1) else ((z_obey Z o).1, k) from rfl]
    split
    · exact (ih _ _).trans (z_obey_2 Z o)
    · exact z_obey_2 Z o
end ZIr
