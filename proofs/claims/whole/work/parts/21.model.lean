/-! ===== the reference: where its cells lie, and how they hold the mathematical state ===== -/
def WM (L : PL) (m : Nat) : Prop := L.2.1 m = 8 ∧ L.2.2.2 256 m = some (m + 1) ∧ L.2.1 (m + 1) = 20 ∧ L.2.2.1 (m + 1) = 3506 ∧ L.2.2.2 257 m = some (m + 2) ∧ L.2.1 (m + 2) = 20 ∧ L.2.2.1 (m + 2) = 160000 ∧ L.2.2.2 258 m = some (m + 3) ∧ L.2.1 (m + 3) = 20 ∧ L.2.2.1 (m + 3) = 21036 ∧ L.2.2.2 259 m = some (m + 4) ∧ L.2.1 (m + 4) = 20 ∧ L.2.2.1 (m + 4) = 960000 ∧ L.2.2.2 262 m = some (m + 5) ∧ L.2.1 (m + 5) = 20 ∧ L.2.2.1 (m + 5) = 7012 ∧ L.2.2.2 263 m = some (m + 6) ∧ L.2.1 (m + 6) = 20 ∧ L.2.2.1 (m + 6) = 320000 ∧ L.2.2.2 264 m = some (m + 7) ∧ L.2.1 (m + 7) = 22 ∧ L.2.2.1 (m + 7) = 2 ∧ L.2.2.2 265 m = some (m + 8) ∧ L.2.1 (m + 8) = 20 ∧ L.2.2.1 (m + 8) = 3506 ∧ L.2.2.2 266 m = some (m + 9) ∧ L.2.1 (m + 9) = 20 ∧ L.2.2.1 (m + 9) = 160000 ∧ L.2.2.2 267 m = some (m + 10) ∧ L.2.1 (m + 10) = 20 ∧ L.2.2.1 (m + 10) = 80 ∧ L.2.2.2 269 m = some (m + 11) ∧ L.2.1 (m + 11) = 20 ∧ L.2.2.1 (m + 11) = 8 ∧ L.2.2.2 271 m = some (m + 12) ∧ L.2.1 (m + 12) = 20 ∧ L.2.2.1 (m + 12) = 1000 ∧ L.2.2.2 272 m = some (m + 13) ∧ L.2.1 (m + 13) = 20 ∧ L.2.2.1 (m + 13) = 1000 ∧ L.2.2.2 273 m = some (m + 14) ∧ L.2.1 (m + 14) = 20 ∧ L.2.2.1 (m + 14) = 1000 ∧ L.2.2.2 274 m = some (m + 15) ∧ L.2.1 (m + 15) = 20 ∧ L.2.2.1 (m + 15) = 1000 ∧ L.2.2.2 279 m = some (m + 16) ∧ L.2.1 (m + 16) = 20 ∧ L.2.2.1 (m + 16) = 29 ∧ L.2.2.2 280 m = some (m + 17) ∧ L.2.1 (m + 17) = 20 ∧ L.2.2.1 (m + 17) = 116
section WMp
variable {L : PL} {m : Nat}
theorem WM.k0 (h : WM L m) : L.2.1 m = 8 := h.1
theorem WM.r256 (h : WM L m) : L.2.2.2 256 m = some (m + 1) := h.2.1
theorem WM.k1 (h : WM L m) : L.2.1 (m + 1) = 20 := h.2.2.1
theorem WM.l1 (h : WM L m) : L.2.2.1 (m + 1) = 3506 := h.2.2.2.1
theorem WM.r257 (h : WM L m) : L.2.2.2 257 m = some (m + 2) := h.2.2.2.2.1
theorem WM.k2 (h : WM L m) : L.2.1 (m + 2) = 20 := h.2.2.2.2.2.1
theorem WM.l2 (h : WM L m) : L.2.2.1 (m + 2) = 160000 := h.2.2.2.2.2.2.1
theorem WM.r258 (h : WM L m) : L.2.2.2 258 m = some (m + 3) := h.2.2.2.2.2.2.2.1
theorem WM.k3 (h : WM L m) : L.2.1 (m + 3) = 20 := h.2.2.2.2.2.2.2.2.1
theorem WM.l3 (h : WM L m) : L.2.2.1 (m + 3) = 21036 := h.2.2.2.2.2.2.2.2.2.1
theorem WM.r259 (h : WM L m) : L.2.2.2 259 m = some (m + 4) := h.2.2.2.2.2.2.2.2.2.2.1
theorem WM.k4 (h : WM L m) : L.2.1 (m + 4) = 20 := h.2.2.2.2.2.2.2.2.2.2.2.1
theorem WM.l4 (h : WM L m) : L.2.2.1 (m + 4) = 960000 := h.2.2.2.2.2.2.2.2.2.2.2.2.1
theorem WM.r262 (h : WM L m) : L.2.2.2 262 m = some (m + 5) := h.2.2.2.2.2.2.2.2.2.2.2.2.2.1
theorem WM.k5 (h : WM L m) : L.2.1 (m + 5) = 20 := h.2.2.2.2.2.2.2.2.2.2.2.2.2.2.1
theorem WM.l5 (h : WM L m) : L.2.2.1 (m + 5) = 7012 := h.2.2.2.2.2.2.2.2.2.2.2.2.2.2.2.1
theorem WM.r263 (h : WM L m) : L.2.2.2 263 m = some (m + 6) := h.2.2.2.2.2.2.2.2.2.2.2.2.2.2.2.2.1
theorem WM.k6 (h : WM L m) : L.2.1 (m + 6) = 20 := h.2.2.2.2.2.2.2.2.2.2.2.2.2.2.2.2.2.1
theorem WM.l6 (h : WM L m) : L.2.2.1 (m + 6) = 320000 := h.2.2.2.2.2.2.2.2.2.2.2.2.2.2.2.2.2.2.1
theorem WM.r264 (h : WM L m) : L.2.2.2 264 m = some (m + 7) := h.2.2.2.2.2.2.2.2.2.2.2.2.2.2.2.2.2.2.2.1
theorem WM.k7 (h : WM L m) : L.2.1 (m + 7) = 22 := h.2.2.2.2.2.2.2.2.2.2.2.2.2.2.2.2.2.2.2.2.1
theorem WM.l7 (h : WM L m) : L.2.2.1 (m + 7) = 2 := h.2.2.2.2.2.2.2.2.2.2.2.2.2.2.2.2.2.2.2.2.2.1
theorem WM.r265 (h : WM L m) : L.2.2.2 265 m = some (m + 8) := h.2.2.2.2.2.2.2.2.2.2.2.2.2.2.2.2.2.2.2.2.2.2.1
theorem WM.k8 (h : WM L m) : L.2.1 (m + 8) = 20 := h.2.2.2.2.2.2.2.2.2.2.2.2.2.2.2.2.2.2.2.2.2.2.2.1
theorem WM.l8 (h : WM L m) : L.2.2.1 (m + 8) = 3506 := h.2.2.2.2.2.2.2.2.2.2.2.2.2.2.2.2.2.2.2.2.2.2.2.2.1
theorem WM.r266 (h : WM L m) : L.2.2.2 266 m = some (m + 9) := h.2.2.2.2.2.2.2.2.2.2.2.2.2.2.2.2.2.2.2.2.2.2.2.2.2.1
theorem WM.k9 (h : WM L m) : L.2.1 (m + 9) = 20 := h.2.2.2.2.2.2.2.2.2.2.2.2.2.2.2.2.2.2.2.2.2.2.2.2.2.2.1
theorem WM.l9 (h : WM L m) : L.2.2.1 (m + 9) = 160000 := h.2.2.2.2.2.2.2.2.2.2.2.2.2.2.2.2.2.2.2.2.2.2.2.2.2.2.2.1
theorem WM.r267 (h : WM L m) : L.2.2.2 267 m = some (m + 10) := h.2.2.2.2.2.2.2.2.2.2.2.2.2.2.2.2.2.2.2.2.2.2.2.2.2.2.2.2.1
theorem WM.k10 (h : WM L m) : L.2.1 (m + 10) = 20 := h.2.2.2.2.2.2.2.2.2.2.2.2.2.2.2.2.2.2.2.2.2.2.2.2.2.2.2.2.2.1
theorem WM.l10 (h : WM L m) : L.2.2.1 (m + 10) = 80 := h.2.2.2.2.2.2.2.2.2.2.2.2.2.2.2.2.2.2.2.2.2.2.2.2.2.2.2.2.2.2.1
theorem WM.r269 (h : WM L m) : L.2.2.2 269 m = some (m + 11) := h.2.2.2.2.2.2.2.2.2.2.2.2.2.2.2.2.2.2.2.2.2.2.2.2.2.2.2.2.2.2.2.1
theorem WM.k11 (h : WM L m) : L.2.1 (m + 11) = 20 := h.2.2.2.2.2.2.2.2.2.2.2.2.2.2.2.2.2.2.2.2.2.2.2.2.2.2.2.2.2.2.2.2.1
theorem WM.l11 (h : WM L m) : L.2.2.1 (m + 11) = 8 := h.2.2.2.2.2.2.2.2.2.2.2.2.2.2.2.2.2.2.2.2.2.2.2.2.2.2.2.2.2.2.2.2.2.1
theorem WM.r271 (h : WM L m) : L.2.2.2 271 m = some (m + 12) := h.2.2.2.2.2.2.2.2.2.2.2.2.2.2.2.2.2.2.2.2.2.2.2.2.2.2.2.2.2.2.2.2.2.2.1
theorem WM.k12 (h : WM L m) : L.2.1 (m + 12) = 20 := h.2.2.2.2.2.2.2.2.2.2.2.2.2.2.2.2.2.2.2.2.2.2.2.2.2.2.2.2.2.2.2.2.2.2.2.1
theorem WM.l12 (h : WM L m) : L.2.2.1 (m + 12) = 1000 := h.2.2.2.2.2.2.2.2.2.2.2.2.2.2.2.2.2.2.2.2.2.2.2.2.2.2.2.2.2.2.2.2.2.2.2.2.1
theorem WM.r272 (h : WM L m) : L.2.2.2 272 m = some (m + 13) := h.2.2.2.2.2.2.2.2.2.2.2.2.2.2.2.2.2.2.2.2.2.2.2.2.2.2.2.2.2.2.2.2.2.2.2.2.2.1
theorem WM.k13 (h : WM L m) : L.2.1 (m + 13) = 20 := h.2.2.2.2.2.2.2.2.2.2.2.2.2.2.2.2.2.2.2.2.2.2.2.2.2.2.2.2.2.2.2.2.2.2.2.2.2.2.1
theorem WM.l13 (h : WM L m) : L.2.2.1 (m + 13) = 1000 := h.2.2.2.2.2.2.2.2.2.2.2.2.2.2.2.2.2.2.2.2.2.2.2.2.2.2.2.2.2.2.2.2.2.2.2.2.2.2.2.1
theorem WM.r273 (h : WM L m) : L.2.2.2 273 m = some (m + 14) := h.2.2.2.2.2.2.2.2.2.2.2.2.2.2.2.2.2.2.2.2.2.2.2.2.2.2.2.2.2.2.2.2.2.2.2.2.2.2.2.2.1
theorem WM.k14 (h : WM L m) : L.2.1 (m + 14) = 20 := h.2.2.2.2.2.2.2.2.2.2.2.2.2.2.2.2.2.2.2.2.2.2.2.2.2.2.2.2.2.2.2.2.2.2.2.2.2.2.2.2.2.1
theorem WM.l14 (h : WM L m) : L.2.2.1 (m + 14) = 1000 := h.2.2.2.2.2.2.2.2.2.2.2.2.2.2.2.2.2.2.2.2.2.2.2.2.2.2.2.2.2.2.2.2.2.2.2.2.2.2.2.2.2.2.1
theorem WM.r274 (h : WM L m) : L.2.2.2 274 m = some (m + 15) := h.2.2.2.2.2.2.2.2.2.2.2.2.2.2.2.2.2.2.2.2.2.2.2.2.2.2.2.2.2.2.2.2.2.2.2.2.2.2.2.2.2.2.2.1
theorem WM.k15 (h : WM L m) : L.2.1 (m + 15) = 20 := h.2.2.2.2.2.2.2.2.2.2.2.2.2.2.2.2.2.2.2.2.2.2.2.2.2.2.2.2.2.2.2.2.2.2.2.2.2.2.2.2.2.2.2.2.1
theorem WM.l15 (h : WM L m) : L.2.2.1 (m + 15) = 1000 := h.2.2.2.2.2.2.2.2.2.2.2.2.2.2.2.2.2.2.2.2.2.2.2.2.2.2.2.2.2.2.2.2.2.2.2.2.2.2.2.2.2.2.2.2.2.1
theorem WM.r279 (h : WM L m) : L.2.2.2 279 m = some (m + 16) := h.2.2.2.2.2.2.2.2.2.2.2.2.2.2.2.2.2.2.2.2.2.2.2.2.2.2.2.2.2.2.2.2.2.2.2.2.2.2.2.2.2.2.2.2.2.2.1
theorem WM.k16 (h : WM L m) : L.2.1 (m + 16) = 20 := h.2.2.2.2.2.2.2.2.2.2.2.2.2.2.2.2.2.2.2.2.2.2.2.2.2.2.2.2.2.2.2.2.2.2.2.2.2.2.2.2.2.2.2.2.2.2.2.1
theorem WM.l16 (h : WM L m) : L.2.2.1 (m + 16) = 29 := h.2.2.2.2.2.2.2.2.2.2.2.2.2.2.2.2.2.2.2.2.2.2.2.2.2.2.2.2.2.2.2.2.2.2.2.2.2.2.2.2.2.2.2.2.2.2.2.2.1
theorem WM.r280 (h : WM L m) : L.2.2.2 280 m = some (m + 17) := h.2.2.2.2.2.2.2.2.2.2.2.2.2.2.2.2.2.2.2.2.2.2.2.2.2.2.2.2.2.2.2.2.2.2.2.2.2.2.2.2.2.2.2.2.2.2.2.2.2.1
theorem WM.k17 (h : WM L m) : L.2.1 (m + 17) = 20 := h.2.2.2.2.2.2.2.2.2.2.2.2.2.2.2.2.2.2.2.2.2.2.2.2.2.2.2.2.2.2.2.2.2.2.2.2.2.2.2.2.2.2.2.2.2.2.2.2.2.2.1
theorem WM.l17 (h : WM L m) : L.2.2.1 (m + 17) = 116 := h.2.2.2.2.2.2.2.2.2.2.2.2.2.2.2.2.2.2.2.2.2.2.2.2.2.2.2.2.2.2.2.2.2.2.2.2.2.2.2.2.2.2.2.2.2.2.2.2.2.2.2
end WMp
def ib (p : Int32) (n : Nat) : Prop := 0 ≤ p.toInt ∧ p.toInt < (n : Int)
theorem ib.nn {p : Int32} {n : Nat} (h : ib p n) : nn p < n := by
  have h1 := i_cn p
  unfold ib at h
  show p.toNatClampNeg < n
  omega
theorem ib.eq {p : Int32} {n : Nat} (h : ib p n) : p = Int32.ofNat (p.toNatClampNeg) := by
  rw [Int32.ofNat_toNatClampNeg p (by rw [Int32.le_iff_toInt_le]; simpa using h.1)]
theorem ib.of {j n : Nat} (h : j < n) (h2 : j < 2147483648) : ib (Int32.ofNat j) n := by
  unfold ib
  rw [n_int h2]
  omega
theorem ib.mono {p : Int32} {n k : Nat} (h : ib p n) (hk : n ≤ k) : ib p k := ⟨h.1, by have := h.2; omega⟩
theorem n_idx {c a k : Nat} {p : Int32} {n : Nat} (hp : ib p n) : Int32.ofNat c + Int32.ofNat a * p + Int32.ofNat k = Int32.ofNat (c + a * nn p + k) := by
  have h := hp.eq
  show _ = Int32.ofNat (c + a * p.toNatClampNeg + k)
  rw [Int32.ofNat_add, Int32.ofNat_add, Int32.ofNat_mul, ← h]
def x_sl (σ : XS) : Nat → Int32
  | 0 => σ.1
  | 1 => σ.2.1
  | 2 => σ.2.2.1
  | 3 => σ.2.2.2.1
  | 4 => σ.2.2.2.2.1
  | 5 => σ.2.2.2.2.2.1
  | 6 => σ.2.2.2.2.2.2.1
  | _ => σ.2.2.2.2.2.2.2
/-- the flat arrays (at and there) hold a state -/
def RF (f t : Nat → Int32) (X : XW) : Prop :=
  ((∀ k, k < 14 → k ≠ 1 → k ≠ 2 → k ≠ 3 → f k = xG X k) ∧ f 1 = Int32.ofNat (xb X) ∧ f 2 = Int32.ofNat (xp X) ∧ f 3 = Int32.ofNat (xS X).length) ∧
  (∀ i k, i < 8 → k < 11 → f (14 + 11 * i + k) = xN X i k) ∧ (∀ i k, i < xb X → k < 9 → f (102 + 9 * i + k) = xB X i k) ∧ (∀ i k, i < xp X → k < 13 → f (246 + 14 * i + k) = xP X i k) ∧
  (∀ i k, i < (xS X).length → k < 8 → f (806 + 9 * i + k) = x_sl (x_at X i) k) ∧ (∀ p i, p < xp X → i < 4000 → t (4000 * p + i) = xT X p i) ∧ xb X ≤ 16 ∧ xp X ≤ 40 ∧ (xS X).length ≤ 300
abbrev RA (AI : Nat → Nat → Int32) (m : Nat) (X : XW) : Prop := RF (AI (m + 1)) (AI (m + 2)) X
/-- only the arrays at and there may differ -/
def FA (m : Nat) (A B : Nat → Nat → Int32) : Prop := ∀ a, a ≠ m + 1 → a ≠ m + 2 → B a = A a
theorem FA.rf {m : Nat} {A : Nat → Nat → Int32} : FA m A A := fun _ _ _ => rfl
theorem FA.tr {m : Nat} {A B C : Nat → Nat → Int32} (h1 : FA m A B) (h2 : FA m B C) : FA m A C := fun a x y => (h2 a x y).trans (h1 a x y)
theorem FA.u1 {m j : Nat} {v : Int32} {A B : Nat → Nat → Int32} (h : FA m A B) : FA m A (p_up B (m + 1) j v) := fun a x y => by
  rw [← h a x y]
  funext i
  exact p_up_n1 _ _ _ _ x
theorem FA.u2 {m j : Nat} {v : Int32} {A B : Nat → Nat → Int32} (h : FA m A B) : FA m A (p_up B (m + 2) j v) := fun a x y => by
  rw [← h a x y]
  funext i
  exact p_up_n1 _ _ _ _ y
section RFp
variable {f t : Nat → Int32} {X : XW}
theorem RF.g (h : RF f t X) {k : Nat} (hk : k < 14) (h1 : k ≠ 1) (h2 : k ≠ 2) (h3 : k ≠ 3) : f k = xG X k := h.1.1 k hk h1 h2 h3
theorem RF.nb (h : RF f t X) : f 1 = Int32.ofNat (xb X) := h.1.2.1
theorem RF.np (h : RF f t X) : f 2 = Int32.ofNat (xp X) := h.1.2.2.1
theorem RF.ns (h : RF f t X) : f 3 = Int32.ofNat (xS X).length := h.1.2.2.2
theorem RF.n (h : RF f t X) {i k : Nat} (hi : i < 8) (hk : k < 11) : f (14 + 11 * i + k) = xN X i k := h.2.1 i k hi hk
theorem RF.b (h : RF f t X) {i k : Nat} (hi : i < xb X) (hk : k < 9) : f (102 + 9 * i + k) = xB X i k := h.2.2.1 i k hi hk
theorem RF.p (h : RF f t X) {i k : Nat} (hi : i < xp X) (hk : k < 13) : f (246 + 14 * i + k) = xP X i k := h.2.2.2.1 i k hi hk
theorem RF.s (h : RF f t X) {i k : Nat} (hi : i < (xS X).length) (hk : k < 8) : f (806 + 9 * i + k) = x_sl (x_at X i) k := h.2.2.2.2.1 i k hi hk
theorem RF.tt (h : RF f t X) {p i : Nat} (hp : p < xp X) (hi : i < 4000) : t (4000 * p + i) = xT X p i := h.2.2.2.2.2.1 p i hp hi
theorem RF.b16 (h : RF f t X) : xb X ≤ 16 := h.2.2.2.2.2.2.1
theorem RF.p40 (h : RF f t X) : xp X ≤ 40 := h.2.2.2.2.2.2.2.1
theorem RF.s300 (h : RF f t X) : (xS X).length ≤ 300 := h.2.2.2.2.2.2.2.2
/-- a number is changed -/
theorem RF.setG (h : RF f t X) {k : Nat} {v : Int32} (hk : k < 14) (h1 : k ≠ 1) (h2 : k ≠ 2) (h3 : k ≠ 3) : RF (fun j => if j = k then v else f j) t (x_g X k v) := by
  have h40 := h.p40; have h16 := h.b16; have h30 := h.s300
  refine ⟨⟨fun j hj g1 g2 g3 => ?_, ?_, ?_, ?_⟩, fun i j hi hj => ?_, fun i j hi hj => ?_, fun i j hi hj => ?_, fun i j hi hj => ?_, fun p i hp hi => h.tt hp hi, h16, h40, h30⟩
  · show (if j = k then v else f j) = (if j = k then v else xG X j)
    by_cases e : j = k
    · rw [if_pos e, if_pos e]
    · rw [if_neg e, if_neg e]; exact h.g hj g1 g2 g3
  · exact (if_neg (by omega)).trans h.nb
  · exact (if_neg (by omega)).trans h.np
  · exact (if_neg (by omega)).trans h.ns
  · exact (if_neg (by omega)).trans (h.n hi hj)
  · have h5 : i < xb X := hi
    exact (if_neg (by omega)).trans (h.b hi hj)
  · have h5 : i < xp X := hi
    exact (if_neg (by omega)).trans (h.p hi hj)
  · have h5 : i < (xS X).length := hi
    exact (if_neg (by omega)).trans (h.s hi hj)
theorem RF.setN (h : RF f t X) {i0 k : Nat} {v : Int32} (hi0 : i0 < 8) (hk : k < 11) : RF (fun j => if j = 14 + 11 * i0 + k then v else f j) t (x_n X i0 k v) := by
  have h40 := h.p40; have h16 := h.b16; have h30 := h.s300
  refine ⟨⟨fun j hj g1 g2 g3 => ?_, ?_, ?_, ?_⟩, fun i j hi hj => ?_, fun i j hi hj => ?_, fun i j hi hj => ?_, fun i j hi hj => ?_, fun p i hp hi => h.tt hp hi, h16, h40, h30⟩
  · exact (if_neg (by omega)).trans (h.g hj g1 g2 g3)
  · exact (if_neg (by omega)).trans h.nb
  · exact (if_neg (by omega)).trans h.np
  · exact (if_neg (by omega)).trans h.ns
  · show _ = (if i = i0 ∧ j = k then v else xN X i j)
    by_cases e : i = i0 ∧ j = k
    · exact (if_pos (by omega)).trans (if_pos e).symm
    · exact (if_neg (by omega)).trans ((h.n hi hj).trans (if_neg e).symm)
  · have h5 : i < xb X := hi
    exact (if_neg (by omega)).trans (h.b hi hj)
  · have h5 : i < xp X := hi
    exact (if_neg (by omega)).trans (h.p hi hj)
  · have h5 : i < (xS X).length := hi
    exact (if_neg (by omega)).trans (h.s hi hj)
theorem RF.setB (h : RF f t X) {i0 k : Nat} {v : Int32} (hi0 : i0 < xb X) (hk : k < 9) : RF (fun j => if j = 102 + 9 * i0 + k then v else f j) t (x_b X i0 k v) := by
  have h40 := h.p40; have h16 := h.b16; have h30 := h.s300
  refine ⟨⟨fun j hj g1 g2 g3 => ?_, ?_, ?_, ?_⟩, fun i j hi hj => ?_, fun i j hi hj => ?_, fun i j hi hj => ?_, fun i j hi hj => ?_, fun p i hp hi => h.tt hp hi, h16, h40, h30⟩
  · exact (if_neg (by omega)).trans (h.g hj g1 g2 g3)
  · exact (if_neg (by omega)).trans h.nb
  · exact (if_neg (by omega)).trans h.np
  · exact (if_neg (by omega)).trans h.ns
  · exact (if_neg (by omega)).trans (h.n hi hj)
  · show _ = (if i = i0 ∧ j = k then v else xB X i j)
    have h5 : i < xb X := hi
    by_cases e : i = i0 ∧ j = k
    · exact (if_pos (by omega)).trans (if_pos e).symm
    · exact (if_neg (by omega)).trans ((h.b hi hj).trans (if_neg e).symm)
  · have h5 : i < xp X := hi
    exact (if_neg (by omega)).trans (h.p hi hj)
  · have h5 : i < (xS X).length := hi
    exact (if_neg (by omega)).trans (h.s hi hj)
theorem RF.setP (h : RF f t X) {i0 k : Nat} {v : Int32} (hi0 : i0 < xp X) (hk : k < 14) : RF (fun j => if j = 246 + 14 * i0 + k then v else f j) t (x_p X i0 k v) := by
  have h40 := h.p40; have h16 := h.b16; have h30 := h.s300
  refine ⟨⟨fun j hj g1 g2 g3 => ?_, ?_, ?_, ?_⟩, fun i j hi hj => ?_, fun i j hi hj => ?_, fun i j hi hj => ?_, fun i j hi hj => ?_, fun p i hp hi => h.tt hp hi, h16, h40, h30⟩
  · exact (if_neg (by omega)).trans (h.g hj g1 g2 g3)
  · exact (if_neg (by omega)).trans h.nb
  · exact (if_neg (by omega)).trans h.np
  · exact (if_neg (by omega)).trans h.ns
  · exact (if_neg (by omega)).trans (h.n hi hj)
  · have h5 : i < xb X := hi
    exact (if_neg (by omega)).trans (h.b hi hj)
  · show _ = (if i = i0 ∧ j = k then v else xP X i j)
    have h5 : i < xp X := hi
    by_cases e : i = i0 ∧ j = k
    · exact (if_pos (by omega)).trans (if_pos e).symm
    · exact (if_neg (by omega)).trans ((h.p hi hj).trans (if_neg e).symm)
  · have h5 : i < (xS X).length := hi
    exact (if_neg (by omega)).trans (h.s hi hj)
end RFp
/-- the ordinary end of a method of the reference that works on the state alone -/
def RM (L : PL) (FI AI : Nat → Nat → Int32) (AL : Nat → Nat → Int64) (AR : Nat → Nat → Option Nat) (m : Nat) (X : XW) (r0 : Option PV) : Option PV → PS → Prop := fun r σ => ∃ A2, σ = (L, FI, A2, AL, AR) ∧ r = r0 ∧ FA m AI A2 ∧ RA A2 m X
section Model1
variable {g : PG} {L : PL} {FI AI : Nat → Nat → Int32} {AL : Nat → Nat → Int64} {AR : Nat → Nat → Option Nat} {m : Nat} {X : XW}
theorem s_ofN (hM : WM L m) (hA : RA AI m X) {p w : Int32} {k : Nat} (hp : ib p 8) (hw : w = Int32.ofNat k) (hk : k < 11) : Sp g 0 iX8_ofN [vr m, vi p, vi w] (L, FI, AI, AL, AR) (0, 0) (QI (L, FI, AI, AL, AR) (xN X (nn p) k)) := by
  refine Sp.of (ls := [some (vr m), some (vi p), some (vi w)]) (by decide +kernel) rfl rfl ?_
  subst hw
  have hp9 := hp.nn
  refine P_aloadn (i := 0) rfl rfl dX8_ofN_0 ?_
  refine gX8_7 rfl (by first | exact hM.k0 | exact hM.k1 | exact hM.k2 | exact hM.k3 | exact hM.k4 | exact hM.k5 | exact hM.k6 | exact hM.k7 | exact hM.k8 | exact hM.k9 | exact hM.k10 | exact hM.k11 | exact hM.k12 | exact hM.k13 | exact hM.k14 | exact hM.k15 | exact hM.k16 | exact hM.k17) hM.r256 dX8_ofN_1 ?_
  refine P_bipush (v := 14) rfl dX8_ofN_4 ?_
  refine P_bipush (v := 11) rfl dX8_ofN_6 ?_
  refine P_iloadn (i := 1) rfl rfl dX8_ofN_8 ?_
  refine P_imul dX8_ofN_9 ?_
  refine P_iadd dX8_ofN_10 ?_
  refine P_iloadn (i := 2) rfl rfl dX8_ofN_11 ?_
  refine P_iadd dX8_ofN_12 ?_
  refine P_iaN (j := 14 + 11 * nn p + k) (by first | exact hM.k0 | exact hM.k1 | exact hM.k2 | exact hM.k3 | exact hM.k4 | exact hM.k5 | exact hM.k6 | exact hM.k7 | exact hM.k8 | exact hM.k9 | exact hM.k10 | exact hM.k11 | exact hM.k12 | exact hM.k13 | exact hM.k14 | exact hM.k15 | exact hM.k16 | exact hM.k17) (n_idx hp) (by first | omega | (simp only [hM.l1, hM.l2, hM.l3, hM.l4, hM.l5, hM.l6, hM.l7, hM.l8, hM.l9, hM.l10, hM.l11, hM.l12, hM.l13, hM.l14, hM.l15, hM.l16, hM.l17]; omega)) (by first | omega | (simp only [hM.l1, hM.l2, hM.l3, hM.l4, hM.l5, hM.l6, hM.l7, hM.l8, hM.l9, hM.l10, hM.l11, hM.l12, hM.l13, hM.l14, hM.l15, hM.l16, hM.l17]; omega)) (hA.n hp9 hk) dX8_ofN_13 ?_
  refine P_ireturn rfl dX8_ofN_14 ?_
  exact ⟨rfl, rfl⟩
theorem s_ofB (hM : WM L m) (hA : RA AI m X) {p w : Int32} {k : Nat} (hp : ib p (xb X)) (hw : w = Int32.ofNat k) (hk : k < 9) : Sp g 0 iX8_ofB [vr m, vi p, vi w] (L, FI, AI, AL, AR) (0, 0) (QI (L, FI, AI, AL, AR) (xB X (nn p) k)) := by
  refine Sp.of (ls := [some (vr m), some (vi p), some (vi w)]) (by decide +kernel) rfl rfl ?_
  subst hw
  have hp9 := hp.nn
  have hp8 := hA.b16
  refine P_aloadn (i := 0) rfl rfl dX8_ofB_0 ?_
  refine gX8_7 rfl (by first | exact hM.k0 | exact hM.k1 | exact hM.k2 | exact hM.k3 | exact hM.k4 | exact hM.k5 | exact hM.k6 | exact hM.k7 | exact hM.k8 | exact hM.k9 | exact hM.k10 | exact hM.k11 | exact hM.k12 | exact hM.k13 | exact hM.k14 | exact hM.k15 | exact hM.k16 | exact hM.k17) hM.r256 dX8_ofB_1 ?_
  refine P_bipush (v := 102) rfl dX8_ofB_4 ?_
  refine P_bipush (v := 9) rfl dX8_ofB_6 ?_
  refine P_iloadn (i := 1) rfl rfl dX8_ofB_8 ?_
  refine P_imul dX8_ofB_9 ?_
  refine P_iadd dX8_ofB_10 ?_
  refine P_iloadn (i := 2) rfl rfl dX8_ofB_11 ?_
  refine P_iadd dX8_ofB_12 ?_
  refine P_iaN (j := 102 + 9 * nn p + k) (by first | exact hM.k0 | exact hM.k1 | exact hM.k2 | exact hM.k3 | exact hM.k4 | exact hM.k5 | exact hM.k6 | exact hM.k7 | exact hM.k8 | exact hM.k9 | exact hM.k10 | exact hM.k11 | exact hM.k12 | exact hM.k13 | exact hM.k14 | exact hM.k15 | exact hM.k16 | exact hM.k17) (n_idx hp) (by first | omega | (simp only [hM.l1, hM.l2, hM.l3, hM.l4, hM.l5, hM.l6, hM.l7, hM.l8, hM.l9, hM.l10, hM.l11, hM.l12, hM.l13, hM.l14, hM.l15, hM.l16, hM.l17]; omega)) (by first | omega | (simp only [hM.l1, hM.l2, hM.l3, hM.l4, hM.l5, hM.l6, hM.l7, hM.l8, hM.l9, hM.l10, hM.l11, hM.l12, hM.l13, hM.l14, hM.l15, hM.l16, hM.l17]; omega)) (hA.b hp9 hk) dX8_ofB_13 ?_
  refine P_ireturn rfl dX8_ofB_14 ?_
  exact ⟨rfl, rfl⟩
theorem s_ofP (hM : WM L m) (hA : RA AI m X) {p w : Int32} {k : Nat} (hp : ib p (xp X)) (hw : w = Int32.ofNat k) (hk : k < 13) : Sp g 0 iX8_ofP [vr m, vi p, vi w] (L, FI, AI, AL, AR) (0, 0) (QI (L, FI, AI, AL, AR) (xP X (nn p) k)) := by
  refine Sp.of (ls := [some (vr m), some (vi p), some (vi w)]) (by decide +kernel) rfl rfl ?_
  subst hw
  have hp9 := hp.nn
  have hp8 := hA.p40
  refine P_aloadn (i := 0) rfl rfl dX8_ofP_0 ?_
  refine gX8_7 rfl (by first | exact hM.k0 | exact hM.k1 | exact hM.k2 | exact hM.k3 | exact hM.k4 | exact hM.k5 | exact hM.k6 | exact hM.k7 | exact hM.k8 | exact hM.k9 | exact hM.k10 | exact hM.k11 | exact hM.k12 | exact hM.k13 | exact hM.k14 | exact hM.k15 | exact hM.k16 | exact hM.k17) hM.r256 dX8_ofP_1 ?_
  refine P_sipush (v := 246) rfl dX8_ofP_4 ?_
  refine P_bipush (v := 14) rfl dX8_ofP_7 ?_
  refine P_iloadn (i := 1) rfl rfl dX8_ofP_9 ?_
  refine P_imul dX8_ofP_10 ?_
  refine P_iadd dX8_ofP_11 ?_
  refine P_iloadn (i := 2) rfl rfl dX8_ofP_12 ?_
  refine P_iadd dX8_ofP_13 ?_
  refine P_iaN (j := 246 + 14 * nn p + k) (by first | exact hM.k0 | exact hM.k1 | exact hM.k2 | exact hM.k3 | exact hM.k4 | exact hM.k5 | exact hM.k6 | exact hM.k7 | exact hM.k8 | exact hM.k9 | exact hM.k10 | exact hM.k11 | exact hM.k12 | exact hM.k13 | exact hM.k14 | exact hM.k15 | exact hM.k16 | exact hM.k17) (n_idx hp) (by first | omega | (simp only [hM.l1, hM.l2, hM.l3, hM.l4, hM.l5, hM.l6, hM.l7, hM.l8, hM.l9, hM.l10, hM.l11, hM.l12, hM.l13, hM.l14, hM.l15, hM.l16, hM.l17]; omega)) (by first | omega | (simp only [hM.l1, hM.l2, hM.l3, hM.l4, hM.l5, hM.l6, hM.l7, hM.l8, hM.l9, hM.l10, hM.l11, hM.l12, hM.l13, hM.l14, hM.l15, hM.l16, hM.l17]; omega)) (hA.p hp9 hk) dX8_ofP_14 ?_
  refine P_ireturn rfl dX8_ofP_15 ?_
  exact ⟨rfl, rfl⟩
theorem s_ofS (hM : WM L m) (hA : RA AI m X) {p w : Int32} {k : Nat} (hp : ib p (xS X).length) (hw : w = Int32.ofNat k) (hk : k < 8) : Sp g 0 iX8_ofS [vr m, vi p, vi w] (L, FI, AI, AL, AR) (0, 0) (QI (L, FI, AI, AL, AR) (x_sl (x_at X (nn p)) k)) := by
  refine Sp.of (ls := [some (vr m), some (vi p), some (vi w)]) (by decide +kernel) rfl rfl ?_
  subst hw
  have hp9 := hp.nn
  have hp8 := hA.s300
  refine P_aloadn (i := 0) rfl rfl dX8_ofS_0 ?_
  refine gX8_7 rfl (by first | exact hM.k0 | exact hM.k1 | exact hM.k2 | exact hM.k3 | exact hM.k4 | exact hM.k5 | exact hM.k6 | exact hM.k7 | exact hM.k8 | exact hM.k9 | exact hM.k10 | exact hM.k11 | exact hM.k12 | exact hM.k13 | exact hM.k14 | exact hM.k15 | exact hM.k16 | exact hM.k17) hM.r256 dX8_ofS_1 ?_
  refine P_sipush (v := 806) rfl dX8_ofS_4 ?_
  refine P_bipush (v := 9) rfl dX8_ofS_7 ?_
  refine P_iloadn (i := 1) rfl rfl dX8_ofS_9 ?_
  refine P_imul dX8_ofS_10 ?_
  refine P_iadd dX8_ofS_11 ?_
  refine P_iloadn (i := 2) rfl rfl dX8_ofS_12 ?_
  refine P_iadd dX8_ofS_13 ?_
  refine P_iaN (j := 806 + 9 * nn p + k) (by first | exact hM.k0 | exact hM.k1 | exact hM.k2 | exact hM.k3 | exact hM.k4 | exact hM.k5 | exact hM.k6 | exact hM.k7 | exact hM.k8 | exact hM.k9 | exact hM.k10 | exact hM.k11 | exact hM.k12 | exact hM.k13 | exact hM.k14 | exact hM.k15 | exact hM.k16 | exact hM.k17) (n_idx hp) (by first | omega | (simp only [hM.l1, hM.l2, hM.l3, hM.l4, hM.l5, hM.l6, hM.l7, hM.l8, hM.l9, hM.l10, hM.l11, hM.l12, hM.l13, hM.l14, hM.l15, hM.l16, hM.l17]; omega)) (by first | omega | (simp only [hM.l1, hM.l2, hM.l3, hM.l4, hM.l5, hM.l6, hM.l7, hM.l8, hM.l9, hM.l10, hM.l11, hM.l12, hM.l13, hM.l14, hM.l15, hM.l16, hM.l17]; omega)) (hA.s hp9 hk) dX8_ofS_14 ?_
  refine P_ireturn rfl dX8_ofS_15 ?_
  exact ⟨rfl, rfl⟩
theorem s_layP (hM : WM L m) {p w v : Int32} {k : Nat} (hp : ib p 40) (hw : w = Int32.ofNat k) (hk : k < 14) : Sp g 0 iX8_layP [vr m, vi p, vi w, vi v] (L, FI, AI, AL, AR) (0, 0) (QV (L, FI, p_up AI (m + 1) (246 + 14 * nn p + k) v, AL, AR)) := by
  refine Sp.of (ls := [some (vr m), some (vi p), some (vi w), some (vi v)]) (by decide +kernel) rfl rfl ?_
  subst hw
  have hp9 := hp.nn
  refine P_aloadn (i := 0) rfl rfl dX8_layP_0 ?_
  refine gX8_7 rfl (by first | exact hM.k0 | exact hM.k1 | exact hM.k2 | exact hM.k3 | exact hM.k4 | exact hM.k5 | exact hM.k6 | exact hM.k7 | exact hM.k8 | exact hM.k9 | exact hM.k10 | exact hM.k11 | exact hM.k12 | exact hM.k13 | exact hM.k14 | exact hM.k15 | exact hM.k16 | exact hM.k17) hM.r256 dX8_layP_1 ?_
  refine P_sipush (v := 246) rfl dX8_layP_4 ?_
  refine P_bipush (v := 14) rfl dX8_layP_7 ?_
  refine P_iloadn (i := 1) rfl rfl dX8_layP_9 ?_
  refine P_imul dX8_layP_10 ?_
  refine P_iadd dX8_layP_11 ?_
  refine P_iloadn (i := 2) rfl rfl dX8_layP_12 ?_
  refine P_iadd dX8_layP_13 ?_
  refine P_iloadn (i := 3) rfl rfl dX8_layP_14 ?_
  refine P_isN (j := 246 + 14 * nn p + k) (by first | exact hM.k0 | exact hM.k1 | exact hM.k2 | exact hM.k3 | exact hM.k4 | exact hM.k5 | exact hM.k6 | exact hM.k7 | exact hM.k8 | exact hM.k9 | exact hM.k10 | exact hM.k11 | exact hM.k12 | exact hM.k13 | exact hM.k14 | exact hM.k15 | exact hM.k16 | exact hM.k17) (n_idx hp) (by first | omega | (simp only [hM.l1, hM.l2, hM.l3, hM.l4, hM.l5, hM.l6, hM.l7, hM.l8, hM.l9, hM.l10, hM.l11, hM.l12, hM.l13, hM.l14, hM.l15, hM.l16, hM.l17]; omega)) (by first | omega | (simp only [hM.l1, hM.l2, hM.l3, hM.l4, hM.l5, hM.l6, hM.l7, hM.l8, hM.l9, hM.l10, hM.l11, hM.l12, hM.l13, hM.l14, hM.l15, hM.l16, hM.l17]; omega)) dX8_layP_15 ?_
  refine P_return rfl dX8_layP_16 ?_
  exact ⟨rfl, rfl⟩
theorem s_layS (hM : WM L m) {p w v : Int32} {k : Nat} (hp : ib p 300) (hw : w = Int32.ofNat k) (hk : k < 9) : Sp g 0 iX8_layS [vr m, vi p, vi w, vi v] (L, FI, AI, AL, AR) (0, 0) (QV (L, FI, p_up AI (m + 1) (806 + 9 * nn p + k) v, AL, AR)) := by
  refine Sp.of (ls := [some (vr m), some (vi p), some (vi w), some (vi v)]) (by decide +kernel) rfl rfl ?_
  subst hw
  have hp9 := hp.nn
  refine P_aloadn (i := 0) rfl rfl dX8_layS_0 ?_
  refine gX8_7 rfl (by first | exact hM.k0 | exact hM.k1 | exact hM.k2 | exact hM.k3 | exact hM.k4 | exact hM.k5 | exact hM.k6 | exact hM.k7 | exact hM.k8 | exact hM.k9 | exact hM.k10 | exact hM.k11 | exact hM.k12 | exact hM.k13 | exact hM.k14 | exact hM.k15 | exact hM.k16 | exact hM.k17) hM.r256 dX8_layS_1 ?_
  refine P_sipush (v := 806) rfl dX8_layS_4 ?_
  refine P_bipush (v := 9) rfl dX8_layS_7 ?_
  refine P_iloadn (i := 1) rfl rfl dX8_layS_9 ?_
  refine P_imul dX8_layS_10 ?_
  refine P_iadd dX8_layS_11 ?_
  refine P_iloadn (i := 2) rfl rfl dX8_layS_12 ?_
  refine P_iadd dX8_layS_13 ?_
  refine P_iloadn (i := 3) rfl rfl dX8_layS_14 ?_
  refine P_isN (j := 806 + 9 * nn p + k) (by first | exact hM.k0 | exact hM.k1 | exact hM.k2 | exact hM.k3 | exact hM.k4 | exact hM.k5 | exact hM.k6 | exact hM.k7 | exact hM.k8 | exact hM.k9 | exact hM.k10 | exact hM.k11 | exact hM.k12 | exact hM.k13 | exact hM.k14 | exact hM.k15 | exact hM.k16 | exact hM.k17) (n_idx hp) (by first | omega | (simp only [hM.l1, hM.l2, hM.l3, hM.l4, hM.l5, hM.l6, hM.l7, hM.l8, hM.l9, hM.l10, hM.l11, hM.l12, hM.l13, hM.l14, hM.l15, hM.l16, hM.l17]; omega)) (by first | omega | (simp only [hM.l1, hM.l2, hM.l3, hM.l4, hM.l5, hM.l6, hM.l7, hM.l8, hM.l9, hM.l10, hM.l11, hM.l12, hM.l13, hM.l14, hM.l15, hM.l16, hM.l17]; omega)) dX8_layS_15 ?_
  refine P_return rfl dX8_layS_16 ?_
  exact ⟨rfl, rfl⟩
end Model1
