/-! ===== where a World's cells lie (720 of them, from w on) ===== -/
def WF (L : PL) (w : Nat) : Prop :=
  (L.2.1 w = 6 ∧ L.2.2.2 195 w = some (w + 1) ∧ L.2.2.2 196 w = some (w + 2) ∧ L.2.2.2 197 w = some (w + 3) ∧ L.2.2.2 198 w = some (w + 4) ∧ L.2.2.2 204 w = some (w + 5) ∧ L.2.2.2 205 w = some (w + 6)) ∧
  (L.2.1 (w + 1) = 24 ∧ L.2.2.1 (w + 1) = 8 ∧ L.2.1 (w + 2) = 25 ∧ L.2.2.1 (w + 2) = 16 ∧ L.2.1 (w + 3) = 26 ∧ L.2.2.1 (w + 3) = 40 ∧ L.2.1 (w + 4) = 27 ∧ L.2.2.1 (w + 4) = 601 ∧ L.2.1 (w + 5) = 20 ∧ L.2.2.1 (w + 5) = 8 ∧ L.2.1 (w + 6) = 25 ∧ L.2.2.1 (w + 6) = 8) ∧
  (∀ i, i < 8 → L.2.1 (w + 7 + 2 * i) = 2 ∧ L.2.2.2 67 (w + 7 + 2 * i) = some (w + 8 + 2 * i) ∧ L.2.1 (w + 8 + 2 * i) = 20 ∧ L.2.2.1 (w + 8 + 2 * i) = 8) ∧
  (∀ i, i < 16 → L.2.1 (w + 23 + i) = 0) ∧
  (∀ i, i < 40 → L.2.1 (w + 39 + 2 * i) = 4 ∧ L.2.2.2 143 (w + 39 + 2 * i) = some (w + 40 + 2 * i) ∧ L.2.1 (w + 40 + 2 * i) = 21 ∧ L.2.2.1 (w + 40 + 2 * i) = 572) ∧
  (∀ i, i < 601 → L.2.1 (w + 119 + i) = 5)
section WFp
variable {L : PL} {w : Nat}
theorem WF.kw (h : WF L w) : L.2.1 w = 6 := h.1.1
theorem WF.r195 (h : WF L w) : L.2.2.2 195 w = some (w + 1) := h.1.2.1
theorem WF.r196 (h : WF L w) : L.2.2.2 196 w = some (w + 2) := h.1.2.2.1
theorem WF.r197 (h : WF L w) : L.2.2.2 197 w = some (w + 3) := h.1.2.2.2.1
theorem WF.r198 (h : WF L w) : L.2.2.2 198 w = some (w + 4) := h.1.2.2.2.2.1
theorem WF.r204 (h : WF L w) : L.2.2.2 204 w = some (w + 5) := h.1.2.2.2.2.2.1
theorem WF.r205 (h : WF L w) : L.2.2.2 205 w = some (w + 6) := h.1.2.2.2.2.2.2
theorem WF.k1 (h : WF L w) : L.2.1 (w + 1) = 24 := h.2.1.1
theorem WF.l1 (h : WF L w) : L.2.2.1 (w + 1) = 8 := h.2.1.2.1
theorem WF.k2 (h : WF L w) : L.2.1 (w + 2) = 25 := h.2.1.2.2.1
theorem WF.l2 (h : WF L w) : L.2.2.1 (w + 2) = 16 := h.2.1.2.2.2.1
theorem WF.k3 (h : WF L w) : L.2.1 (w + 3) = 26 := h.2.1.2.2.2.2.1
theorem WF.l3 (h : WF L w) : L.2.2.1 (w + 3) = 40 := h.2.1.2.2.2.2.2.1
theorem WF.k4 (h : WF L w) : L.2.1 (w + 4) = 27 := h.2.1.2.2.2.2.2.2.1
theorem WF.l4 (h : WF L w) : L.2.2.1 (w + 4) = 601 := h.2.1.2.2.2.2.2.2.2.1
theorem WF.k5 (h : WF L w) : L.2.1 (w + 5) = 20 := h.2.1.2.2.2.2.2.2.2.2.1
theorem WF.l5 (h : WF L w) : L.2.2.1 (w + 5) = 8 := h.2.1.2.2.2.2.2.2.2.2.2.1
theorem WF.k6 (h : WF L w) : L.2.1 (w + 6) = 25 := h.2.1.2.2.2.2.2.2.2.2.2.2.1
theorem WF.l6 (h : WF L w) : L.2.2.1 (w + 6) = 8 := h.2.1.2.2.2.2.2.2.2.2.2.2.2
theorem WF.kN (h : WF L w) {i : Nat} (hi : i < 8) : L.2.1 (w + 7 + 2 * i) = 2 := (h.2.2.1 i hi).1
theorem WF.rN (h : WF L w) {i : Nat} (hi : i < 8) : L.2.2.2 67 (w + 7 + 2 * i) = some (w + 8 + 2 * i) := (h.2.2.1 i hi).2.1
theorem WF.kR (h : WF L w) {i : Nat} (hi : i < 8) : L.2.1 (w + 8 + 2 * i) = 20 := (h.2.2.1 i hi).2.2.1
theorem WF.lR (h : WF L w) {i : Nat} (hi : i < 8) : L.2.2.1 (w + 8 + 2 * i) = 8 := (h.2.2.1 i hi).2.2.2
theorem WF.kB (h : WF L w) {i : Nat} (hi : i < 16) : L.2.1 (w + 23 + i) = 0 := h.2.2.2.1 i hi
theorem WF.kP (h : WF L w) {i : Nat} (hi : i < 40) : L.2.1 (w + 39 + 2 * i) = 4 := (h.2.2.2.2.1 i hi).1
theorem WF.rP (h : WF L w) {i : Nat} (hi : i < 40) : L.2.2.2 143 (w + 39 + 2 * i) = some (w + 40 + 2 * i) := (h.2.2.2.2.1 i hi).2.1
theorem WF.kC (h : WF L w) {i : Nat} (hi : i < 40) : L.2.1 (w + 40 + 2 * i) = 21 := (h.2.2.2.2.1 i hi).2.2.1
theorem WF.lC (h : WF L w) {i : Nat} (hi : i < 40) : L.2.2.1 (w + 40 + 2 * i) = 572 := (h.2.2.2.2.1 i hi).2.2.2
theorem WF.kS (h : WF L w) {i : Nat} (hi : i < 601) : L.2.1 (w + 119 + i) = 5 := h.2.2.2.2.2 i hi
end WFp
/-- what the arrays of references of a World hold; sa: where its slices lie -/
def WA (AR : Nat → Nat → Option Nat) (w : Nat) (sa : Nat → Nat) : Prop :=
  (∀ i, i < 8 → AR (w + 1) i = some (w + 7 + 2 * i)) ∧ (∀ i, i < 16 → AR (w + 2) i = some (w + 23 + i)) ∧ (∀ i, i < 40 → AR (w + 3) i = some (w + 39 + 2 * i)) ∧
  (∀ i, i < 601 → AR (w + 4) i = some (sa i) ∧ w + 119 ≤ sa i ∧ sa i < w + 720) ∧ (∀ i j, i < 601 → j < 601 → sa i = sa j → i = j)
