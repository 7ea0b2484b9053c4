/-! ===== an order is read: the reading state ===== -/
/-- but for what reading writes, the memory is as it was -/
def c_rd (x : Nat) (FI AI F A : Nat → Nat → Int32) : Prop := (∀ j a, ¬ (a = x + 5765 ∧ (j = 98 ∨ j = 99 ∨ j = 101)) → F j a = FI j a) ∧ (∀ a, a ≠ x + 5767 → A a = AI a)
/-- the reading state: the place, the kind, the numbers -/
def PR (L : PL) (FI AI : Nat → Nat → Int32) (x : Nat) (c : Nat → Int32) (n : Nat) (F A : Nat → Nat → Int32) (s : Nat) (K : Int32) (N : Nat → Int32) : Prop := c_rd x FI AI F A ∧ PT L F A x c n s ∧ F 99 (x + 5765) = K ∧ ∀ j, j < 3 → A (x + 5767) j = N j
theorem k_sign_s {c : Nat → Int32} {n s : Nat} {g : Int32} : k_sign c n g (s, false) = if t_nx c n s = g then (s + 1, false) else (s, true) := by
  unfold k_sign
  dsimp only
  by_cases e : t_nx c n s = g
  · rw [if_pos e, decide_eq_false (fun hh => hh e)]
    rfl
  · rw [if_neg e, decide_eq_true e]
    rfl
theorem k_sign_t {c : Nat → Int32} {n s : Nat} {g : Int32} : k_sign c n g (s, true) = (s, true) := rfl
theorem k_one_s {c : Nat → Int32} {n s : Nat} {h : Int32} : k_one c n h (s, false) = if t_dg c n h s = true then (s + 1, false) else (s, true) := by
  unfold k_one
  dsimp only
  by_cases e : t_dg c n h s = true
  · rw [if_pos e, e]
    rfl
  · rw [if_neg e]
    rw [Bool.not_eq_true] at e
    rw [e]
    rfl
theorem k_one_t {c : Nat → Int32} {n s : Nat} {h : Int32} : k_one c n h (s, true) = (s, true) := rfl
theorem k_nu_s {c : Nat → Int32} {n s : Nat} : k_nu c n (s, false) = if t_dg c n 57 s = true then ((q_num c n s).2, false) else (s, true) := by
  unfold k_nu
  dsimp only
  by_cases e : t_dg c n 57 s = true
  · rw [if_pos e, e]
    rfl
  · rw [if_neg e]
    rw [Bool.not_eq_true] at e
    rw [e]
    rfl
theorem k_nu_t {c : Nat → Int32} {n s : Nat} : k_nu c n (s, true) = (s, true) := rfl
theorem k_if_s {c : Nat → Int32} {n s : Nat} {g : Int32} : k_if c n g (s, false) = (if t_nx c n s = g then s + 1 else s, false) := by
  unfold k_if k_is
  dsimp only
  by_cases e : t_nx c n s = g
  · rw [if_pos e, decide_eq_true e]
    rfl
  · rw [if_neg e, decide_eq_false e]
    rfl
theorem k_if_t {c : Nat → Int32} {n s : Nat} {g : Int32} : k_if c n g (s, true) = (s, true) := rfl
section Cls35
variable {L : PL} {FI AI F A : Nat → Nat → Int32} {x : Nat} {c : Nat → Int32} {n s i t : Nat} {K v b : Int32} {N : Nat → Int32}
theorem c_rd.rf : c_rd x FI AI FI AI := ⟨fun _ _ _ => rfl, fun _ _ => rfl⟩
theorem c_rd.uF (h : c_rd x FI AI F A) {j : Nat} (hj : j = 98 ∨ j = 99 ∨ j = 101) : c_rd x FI AI (p_up F j (x + 5765) v) A := ⟨fun k a hk => (p_up_of (by omega)).trans (h.1 k a hk), h.2⟩
theorem c_rd.uA (h : c_rd x FI AI F A) : c_rd x FI AI F (p_up A (x + 5767) i v) := ⟨h.1, fun a ha => (p_up_oth ha).trans (h.2 a ha)⟩
theorem PR.pt (h : PR L FI AI x c n F A s K N) : PT L F A x c n s := h.2.1
theorem PR.take (h : PR L FI AI x c n F A s K N) (ht : t ≤ n) : PR L FI AI x c n (p_up F 98 (x + 5765) (Int32.ofNat t)) A t K N := ⟨h.1.uF (Or.inl rfl), h.2.1.up (p_up_n1 _ _ _ _ (by decide)) rfl (p_up_eq _ _ _ _) ht, (p_up_n1 _ _ _ _ (by decide)).trans h.2.2.1, h.2.2.2⟩
theorem PR.num (h : PR L FI AI x c n F A s K N) : PR L FI AI x c n F (p_up A (x + 5767) i v) s K (fun j => if j = i then v else N j) := by
  refine ⟨h.1.uA, h.2.1.up rfl (p_up_oth (by omega)) h.2.1.at_ h.2.1.le, h.2.2.1, fun j hj => ?_⟩
  dsimp only
  by_cases e : j = i
  · rw [if_pos e, e]; exact p_up_eq _ _ _ _
  · rw [if_neg e]; exact (p_up_n2 _ _ _ _ e).trans (h.2.2.2 j hj)
theorem PR.kind (h : PR L FI AI x c n F A s K N) : PR L FI AI x c n (p_up F 99 (x + 5765) v) A s v N := ⟨h.1.uF (Or.inr (Or.inl rfl)), h.2.1.up (p_up_n1 _ _ _ _ (by decide)) rfl ((p_up_n1 _ _ _ _ (by decide)).trans h.2.1.at_) h.2.1.le, p_up_eq _ _ _ _, h.2.2.2⟩
theorem PR.mark (h : PR L FI AI x c n F A s K N) : PR L FI AI x c n (p_up F 101 (x + 5765) v) A s K N := ⟨h.1.uF (Or.inr (Or.inr rfl)), h.2.1.up (p_up_n1 _ _ _ _ (by decide)) rfl ((p_up_n1 _ _ _ _ (by decide)).trans h.2.1.at_) h.2.1.le, (p_up_n1 _ _ _ _ (by decide)).trans h.2.2.1, h.2.2.2⟩
end Cls35
