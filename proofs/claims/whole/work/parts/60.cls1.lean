/-! ===== the class: how a World holds the mathematical state ===== -/
def l_cell (w : Int64) (k : Nat) : Int32 := (((w.toUInt64 >>> ((Int32.ofNat (9 * k)).toInt64.toUInt64 &&& Int64.toUInt64 63)).toInt64) &&& 511).toInt32
/-- the cell of a byte (0: it is not there) -/
def x_cell (c : Nat → Int64) (i : Nat) : Int32 := l_cell (c (i / 7)) (i % 7)
def CEL (c : Nat → Int64) (t : Nat → Int32) : Prop := ∀ i, i < 4000 → x_cell c i = if t i < 0 then 0 else c_byte (t i) (Int32.ofNat i) + 1
/-- a parcel's object at q, its cells at q + 1 -/
def RP (FI : Nat → Nat → Int32) (AL : Nat → Nat → Int64) (q : Nat) (r t : Nat → Int32) : Prop :=
  (FI 128 q = r 0 ∧ FI 129 q = r 1 ∧ FI 130 q = r 2 ∧ FI 131 q = r 3 ∧ FI 132 q = r 7 ∧ FI 133 q = x_sum (r 3) (r 2) ∧ FI 134 q = r 4 ∧ FI 135 q = r 5 ∧ FI 136 q = r 6 ∧ FI 137 q = r 11 ∧ FI 138 q = r 10 ∧ FI 139 q = r 12) ∧
  (¬ r 12 = 0 → FI 140 q = r 9 ∧ CEL (AL (q + 1)) t) ∧
  (r 5 = 0 → FI 142 q = r 8 ∧ ib (FI 141 q) 4001 ∧ (∀ i, i < 4000 → 0 ≤ t i → i < nn (FI 141 q)) ∧ (0 < nn (FI 141 q) → 0 ≤ t (nn (FI 141 q) - 1))) ∧ ¬ FI 142 q = 0
/-- a parcel that is not there yet -/
def FP (FI : Nat → Nat → Int32) (q : Nat) : Prop := (FI 134 q = 0 ∨ FI 134 q = 1) ∧ FI 135 q = 0 ∧ FI 136 q = 0 ∧ FI 137 q = 0 ∧ FI 138 q = -6 ∧ FI 139 q = 0 ∧ FI 141 q = 0 ∧ FI 142 q = -6
/-- a slice's object -/
def SL (FI : Nat → Nat → Int32) (a : Nat) (σ : XS) : Prop := FI 160 a = σ.1 ∧ FI 161 a = σ.2.1 ∧ FI 162 a = σ.2.2.1 ∧ FI 165 a = σ.2.2.2.1 ∧ FI 163 a = σ.2.2.2.2.1 ∧ FI 164 a = σ.2.2.2.2.2.1 ∧ FI 167 a = σ.2.2.2.2.2.2.1 ∧ FI 166 a = σ.2.2.2.2.2.2.2
abbrev XC : Type := XS × Bool
def xc0 : XC := ((0, 0, 0, 0, 0, 0, 0, 0), false)
def CG (FI : Nat → Nat → Int32) (w : Nat) (X : XW) (n U : Nat) : Prop := FI 192 w = xG X 0 ∧ FI 193 w = Int32.ofNat (xb X) ∧ FI 194 w = Int32.ofNat (xp X) ∧ FI 199 w = Int32.ofNat n ∧ FI 200 w = Int32.ofNat U ∧ FI 201 w = xG X 4 ∧ FI 202 w = xG X 5 ∧ FI 203 w = xG X 6
def CD (AI : Nat → Nat → Int32) (w : Nat) (X : XW) : Prop := ∀ k, 0 < k → k < 8 → AI (w + 5) k = xG X (6 + k)
def CN1 (FI AI : Nat → Nat → Int32) (w : Nat) (X : XW) (i : Nat) : Prop := FI 64 (w + 7 + 2 * i) = xN X i 0 ∧ FI 65 (w + 7 + 2 * i) = xN X i 1 ∧ FI 66 (w + 7 + 2 * i) = xN X i 2 ∧ ∀ k, k < 8 → AI (w + 8 + 2 * i) k = xN X i (3 + k)
def CN (FI AI : Nat → Nat → Int32) (w : Nat) (X : XW) : Prop := ∀ i, i < 8 → CN1 FI AI w X i
def CB1 (FI : Nat → Nat → Int32) (w : Nat) (X : XW) (b : Nat) : Prop := (b < xb X → ∀ k, k < 9 → FI k (w + 23 + b) = xB X b k) ∧ (xb X ≤ b → ∀ k, 5 ≤ k → k < 9 → FI k (w + 23 + b) = 0)
def CB (FI : Nat → Nat → Int32) (w : Nat) (X : XW) : Prop := ∀ b, b < 16 → CB1 FI w X b
def CP1 (FI : Nat → Nat → Int32) (AL : Nat → Nat → Int64) (w : Nat) (X : XW) (p : Nat) : Prop := (p < xp X → RP FI AL (w + 39 + 2 * p) (xP X p) (xT X p)) ∧ (xp X ≤ p → FP FI (w + 39 + 2 * p))
def CP (FI : Nat → Nat → Int32) (AL : Nat → Nat → Int64) (w : Nat) (X : XW) : Prop := ∀ p, p < 40 → CP1 FI AL w X p
def CS1 (FI : Nat → Nat → Int32) (sa : Nat → Nat) (C : List XC) (i : Nat) : Prop := SL FI (sa i) (C.getD i xc0).1 ∧ FI 168 (sa i) = (if (C.getD i xc0).2 = true then 1 else 0)
def CS (FI : Nat → Nat → Int32) (sa : Nat → Nat) (C : List XC) : Prop := ∀ i, i < C.length → CS1 FI sa C i
/-- a World at w: the state (its slices aside), the slices with those that are gone, how many are under way, where the slices lie -/
def CW (L : PL) (FI AI : Nat → Nat → Int32) (AL : Nat → Nat → Int64) (AR : Nat → Nat → Option Nat) (w : Nat) (X : XW) (C : List XC) (U : Nat) (sa : Nat → Nat) : Prop :=
  (WF L w ∧ WA AR w sa) ∧ CG FI w X C.length U ∧ CD AI w X ∧ CN FI AI w X ∧ CB FI w X ∧ CP FI AL w X ∧ CS FI sa C ∧ C.length ≤ 601 ∧ xb X ≤ 16 ∧ xp X ≤ 40
/-- nothing outside the World has changed -/
def FrC (w : Nat) (FI AI : Nat → Nat → Int32) (AL : Nat → Nat → Int64) (AR : Nat → Nat → Option Nat) (F2 A2 : Nat → Nat → Int32) (L2 : Nat → Nat → Int64) (R2 : Nat → Nat → Option Nat) : Prop := ∀ a, (a < w ∨ w + 720 ≤ a) → (∀ j, F2 j a = FI j a) ∧ A2 a = AI a ∧ L2 a = AL a ∧ R2 a = AR a
section CWp
variable {L : PL} {FI AI F2 A2 F3 A3 : Nat → Nat → Int32} {AL L2 L3 : Nat → Nat → Int64} {AR R2 R3 : Nat → Nat → Option Nat} {w : Nat} {X Y : XW} {C : List XC} {U : Nat} {sa : Nat → Nat}
theorem FrC.rf : FrC w FI AI AL AR FI AI AL AR := fun _ _ => ⟨fun _ => rfl, rfl, rfl, rfl⟩
theorem FrC.tr (h1 : FrC w FI AI AL AR F2 A2 L2 R2) (h2 : FrC w F2 A2 L2 R2 F3 A3 L3 R3) : FrC w FI AI AL AR F3 A3 L3 R3 := fun a ha => ⟨fun j => ((h2 a ha).1 j).trans ((h1 a ha).1 j), (h2 a ha).2.1.trans (h1 a ha).2.1, (h2 a ha).2.2.1.trans (h1 a ha).2.2.1, (h2 a ha).2.2.2.trans (h1 a ha).2.2.2⟩
theorem FrC.uF (h : FrC w FI AI AL AR F2 A2 L2 R2) {j a : Nat} {v : Int32} (ha : w ≤ a ∧ a < w + 720) : FrC w FI AI AL AR (p_up F2 j a v) A2 L2 R2 := fun b hb => ⟨fun i => (p_up_n2 _ _ _ _ (by omega)).trans ((h b hb).1 i), (h b hb).2⟩
theorem FrC.uA (h : FrC w FI AI AL AR F2 A2 L2 R2) {a j : Nat} {v : Int32} (ha : w ≤ a ∧ a < w + 720) : FrC w FI AI AL AR F2 (p_up A2 a j v) L2 R2 := fun b hb => ⟨(h b hb).1, (p_up_oth (by omega)).trans (h b hb).2.1, (h b hb).2.2⟩
theorem FrC.uR (h : FrC w FI AI AL AR F2 A2 L2 R2) {a j : Nat} {v : Option Nat} (ha : w ≤ a ∧ a < w + 720) : FrC w FI AI AL AR F2 A2 L2 (p_up R2 a j v) := fun b hb => ⟨(h b hb).1, (h b hb).2.1, (h b hb).2.2.1, (by funext i; exact (p_up_n1 _ _ _ _ (by omega)).trans (congrFun (h b hb).2.2.2 i))⟩
theorem FrC.uL (h : FrC w FI AI AL AR F2 A2 L2 R2) {a j : Nat} {v : Int64} (ha : w ≤ a ∧ a < w + 720) : FrC w FI AI AL AR F2 A2 (p_up L2 a j v) R2 := fun b hb => ⟨(h b hb).1, (h b hb).2.1, (by funext i; exact (p_up_n1 _ _ _ _ (by omega)).trans (congrFun (h b hb).2.2.1 i)), (h b hb).2.2.2⟩
theorem CW.wf (h : CW L FI AI AL AR w X C U sa) : WF L w := h.1.1
theorem CW.wa (h : CW L FI AI AL AR w X C U sa) : WA AR w sa := h.1.2
theorem CW.g (h : CW L FI AI AL AR w X C U sa) : CG FI w X C.length U := h.2.1
theorem CW.d (h : CW L FI AI AL AR w X C U sa) : CD AI w X := h.2.2.1
theorem CW.n (h : CW L FI AI AL AR w X C U sa) : CN FI AI w X := h.2.2.2.1
theorem CW.b (h : CW L FI AI AL AR w X C U sa) : CB FI w X := h.2.2.2.2.1
theorem CW.p (h : CW L FI AI AL AR w X C U sa) : CP FI AL w X := h.2.2.2.2.2.1
theorem CW.s (h : CW L FI AI AL AR w X C U sa) : CS FI sa C := h.2.2.2.2.2.2.1
theorem CW.c601 (h : CW L FI AI AL AR w X C U sa) : C.length ≤ 601 := h.2.2.2.2.2.2.2.1
theorem CW.b16 (h : CW L FI AI AL AR w X C U sa) : xb X ≤ 16 := h.2.2.2.2.2.2.2.2.1
theorem CW.p40 (h : CW L FI AI AL AR w X C U sa) : xp X ≤ 40 := h.2.2.2.2.2.2.2.2.2
theorem WA.s (h : WA AR w sa) {i : Nat} (hi : i < 601) : AR (w + 4) i = some (sa i) := (h.2.2.2.1 i hi).1
theorem WA.lo (h : WA AR w sa) {i : Nat} (hi : i < 601) : w + 119 ≤ sa i ∧ sa i < w + 720 := (h.2.2.2.1 i hi).2
theorem WA.ne (h : WA AR w sa) {i j : Nat} (hi : i < 601) (hj : j < 601) (e : i ≠ j) : sa i ≠ sa j := fun hh => e (h.2.2.2.2 i j hi hj hh)
theorem WF.ks (h : WF L w) (hA : WA AR w sa) {i : Nat} (hi : i < 601) : L.2.1 (sa i) = 5 := by
  have h1 := hA.lo hi
  have h2 := h.kS (i := sa i - w - 119) (by omega)
  rw [show w + 119 + (sa i - w - 119) = sa i by omega] at h2
  exact h2
theorem CG.cg {n : Nat} (h : CG FI w X n U) (e : ∀ j, 192 ≤ j → j < 206 → F2 j w = FI j w) : CG F2 w X n U := by
  unfold CG at h ⊢
  rw [e 192 (by decide) (by decide), e 193 (by decide) (by decide), e 194 (by decide) (by decide), e 199 (by decide) (by decide), e 200 (by decide) (by decide), e 201 (by decide) (by decide), e 202 (by decide) (by decide), e 203 (by decide) (by decide)]
  exact h
theorem CN1.cg {i : Nat} (h : CN1 FI AI w X i) (e : ∀ j, 64 ≤ j → j < 67 → F2 j (w + 7 + 2 * i) = FI j (w + 7 + 2 * i)) (e2 : A2 (w + 8 + 2 * i) = AI (w + 8 + 2 * i)) : CN1 F2 A2 w X i := by
  unfold CN1 at h ⊢
  rw [e 64 (by decide) (by decide), e 65 (by decide) (by decide), e 66 (by decide) (by decide), e2]
  exact h
theorem CB1.cg {b : Nat} (h : CB1 FI w X b) (e : ∀ j, j < 9 → F2 j (w + 23 + b) = FI j (w + 23 + b)) : CB1 F2 w X b :=
  ⟨fun h1 k hk => (e k hk).trans (h.1 h1 k hk), fun h1 k h5 hk => (e k hk).trans (h.2 h1 k h5 hk)⟩
theorem RP.cg {q : Nat} {r t : Nat → Int32} (h : RP FI AL q r t) (e : ∀ j, 128 ≤ j → j < 143 → F2 j q = FI j q) (e2 : L2 (q + 1) = AL (q + 1)) : RP F2 L2 q r t := by
  unfold RP at h ⊢
  rw [e 128 (by decide) (by decide), e 129 (by decide) (by decide), e 130 (by decide) (by decide), e 131 (by decide) (by decide), e 132 (by decide) (by decide), e 133 (by decide) (by decide), e 134 (by decide) (by decide), e 135 (by decide) (by decide), e 136 (by decide) (by decide), e 137 (by decide) (by decide), e 138 (by decide) (by decide), e 139 (by decide) (by decide), e 140 (by decide) (by decide), e 141 (by decide) (by decide), e 142 (by decide) (by decide), e2]
  exact h
theorem FP.cg {q : Nat} (h : FP FI q) (e : ∀ j, 128 ≤ j → j < 143 → F2 j q = FI j q) : FP F2 q := by
  unfold FP at h ⊢
  rw [e 134 (by decide) (by decide), e 135 (by decide) (by decide), e 136 (by decide) (by decide), e 137 (by decide) (by decide), e 138 (by decide) (by decide), e 139 (by decide) (by decide), e 141 (by decide) (by decide), e 142 (by decide) (by decide)]
  exact h
theorem CP1.cg {p : Nat} (h : CP1 FI AL w X p) (e : ∀ j, 128 ≤ j → j < 143 → F2 j (w + 39 + 2 * p) = FI j (w + 39 + 2 * p)) (e2 : L2 (w + 40 + 2 * p) = AL (w + 40 + 2 * p)) : CP1 F2 L2 w X p :=
  ⟨fun h1 => (h.1 h1).cg e (by rw [show w + 39 + 2 * p + 1 = w + 40 + 2 * p by omega]; exact e2), fun h1 => (h.2 h1).cg e⟩
theorem SL.cg {a : Nat} {σ : XS} (h : SL FI a σ) (e : ∀ j, 160 ≤ j → j < 168 → F2 j a = FI j a) : SL F2 a σ := by
  unfold SL at h ⊢
  rw [e 160 (by decide) (by decide), e 161 (by decide) (by decide), e 162 (by decide) (by decide), e 163 (by decide) (by decide), e 164 (by decide) (by decide), e 165 (by decide) (by decide), e 166 (by decide) (by decide), e 167 (by decide) (by decide)]
  exact h
theorem CS1.cg {i : Nat} (h : CS1 FI sa C i) (e : ∀ j, 160 ≤ j → j < 169 → F2 j (sa i) = FI j (sa i)) : CS1 F2 sa C i :=
  ⟨h.1.cg (fun j h1 h2 => e j h1 (by omega)), (e 168 (by decide) (by decide)).trans h.2⟩
/-- a World stays as it is when its cells do -/
theorem CW.fr (h : CW L FI AI AL AR w X C U sa) (e : ∀ a, w ≤ a → a < w + 720 → (∀ j, F2 j a = FI j a) ∧ A2 a = AI a ∧ L2 a = AL a ∧ R2 a = AR a) : CW L F2 A2 L2 R2 w X C U sa := by
  have hw := h.wa
  refine ⟨⟨h.wf, ?_⟩, h.g.cg (fun j _ _ => (e w (by omega) (by omega)).1 j), ?_, fun i hi => (h.n i hi).cg (fun j _ _ => (e _ (by omega) (by omega)).1 j) (e _ (by omega) (by omega)).2.1, fun b hb => (h.b b hb).cg (fun j _ => (e _ (by omega) (by omega)).1 j), fun p hp => (h.p p hp).cg (fun j _ _ => (e _ (by omega) (by omega)).1 j) (e _ (by omega) (by omega)).2.2.1, fun i hi => (h.s i hi).cg (fun j _ _ => ?_), h.c601, h.b16, h.p40⟩
  · refine ⟨fun i hi => ?_, fun i hi => ?_, fun i hi => ?_, fun i hi => ?_, hw.2.2.2.2⟩
    · rw [(e (w + 1) (by omega) (by omega)).2.2.2]; exact hw.1 i hi
    · rw [(e (w + 2) (by omega) (by omega)).2.2.2]; exact hw.2.1 i hi
    · rw [(e (w + 3) (by omega) (by omega)).2.2.2]; exact hw.2.2.1 i hi
    · rw [(e (w + 4) (by omega) (by omega)).2.2.2]; exact hw.2.2.2.1 i hi
  · intro k h1 h2
    rw [(e (w + 5) (by omega) (by omega)).2.1]
    exact h.d k h1 h2
  · have h1 := hw.lo (i := i) (by have := h.c601; omega)
    exact (e _ (by omega) (by omega)).1 j
theorem CW.far {v : Nat} (h : CW L FI AI AL AR w X C U sa) (hf : FrC v FI AI AL AR F2 A2 L2 R2) (hv : v + 720 ≤ w ∨ w + 720 ≤ v) : CW L F2 A2 L2 R2 w X C U sa := h.fr (fun a h1 h2 => hf a (by omega))
/-- the World's state may be named otherwise where its slices are another list -/
theorem CW.xs (h : CW L FI AI AL AR w X C U sa) (l : List XS) : CW L FI AI AL AR w (x_s X l) C U sa := h
end CWp
/-- one object's fields copied to another's -/
def cpF (F : Nat → Nat → Int32) (lo hi a b : Nat) : Nat → Nat → Int32 := fun j c => if c = a ∧ lo ≤ j ∧ j < hi then F j b else F j c
theorem cpF_0 (F : Nat → Nat → Int32) (lo a b : Nat) : cpF F lo lo a b = F := by
  funext j c
  exact if_neg (by omega)
theorem cpF_b {F : Nat → Nat → Int32} {lo hi a b j : Nat} : cpF F lo hi a b j b = F j b := by
  unfold cpF
  split <;> rfl
theorem cpF_a {F : Nat → Nat → Int32} {lo hi a b j : Nat} (h : lo ≤ j ∧ j < hi) : cpF F lo hi a b j a = F j b := if_pos ⟨rfl, h⟩
theorem cpF_c {F : Nat → Nat → Int32} {lo hi a b j c : Nat} (h : c ≠ a) : cpF F lo hi a b j c = F j c := if_neg (fun hh => h hh.1)
theorem cpF_j {F : Nat → Nat → Int32} {lo hi a b j c : Nat} (h : j < lo ∨ hi ≤ j) : cpF F lo hi a b j c = F j c := if_neg (by omega)
theorem cpF_s {F : Nat → Nat → Int32} {lo hi a b : Nat} (h : lo ≤ hi) : p_up (cpF F lo hi a b) hi a (F hi b) = cpF F lo (hi + 1) a b := by
  funext j c
  unfold p_up cpF
  by_cases e : j = hi ∧ c = a
  · rw [if_pos e, if_pos (by omega), e.1]
  · rw [if_neg e]
    by_cases e2 : c = a ∧ lo ≤ j ∧ j < hi
    · rw [if_pos e2, if_pos (by omega)]
    · rw [if_neg e2, if_neg (by omega)]
