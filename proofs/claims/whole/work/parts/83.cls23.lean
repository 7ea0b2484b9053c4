/-! ===== the whole object of the class ===== -/
def WB (L : PL) (AR : Nat → Nat → Option Nat) (w : Nat) : Prop := WF L w ∧ ∃ sa, WA AR w sa
/-- its layout: the object, the history, the slots, the pad -/
def LC (L : PL) (x : Nat) : Prop :=
  (L.2.1 x = 7 ∧ L.2.2.2 224 x = some (x + 1) ∧ L.2.2.2 225 x = some (x + 721) ∧ L.2.2.2 226 x = some (x + 1441) ∧ L.2.2.2 227 x = some (x + 5763) ∧ L.2.2.2 228 x = some (x + 5764) ∧ L.2.2.2 229 x = some (x + 5765)) ∧
  (L.2.1 (x + 1441) = 1 ∧ L.2.2.2 32 (x + 1441) = some (x + 1442) ∧ L.2.1 (x + 1442) = 28 ∧ L.2.2.1 (x + 1442) = 6) ∧
  (L.2.1 (x + 5763) = 28 ∧ L.2.2.1 (x + 5763) = 2 ∧ L.2.1 (x + 5764) = 22 ∧ L.2.2.1 (x + 5764) = 2) ∧
  (L.2.1 (x + 5765) = 3 ∧ L.2.2.2 96 (x + 5765) = some (x + 5766) ∧ L.2.2.2 100 (x + 5765) = some (x + 5767) ∧ L.2.1 (x + 5766) = 23 ∧ L.2.2.1 (x + 5766) = 80 ∧ L.2.1 (x + 5767) = 20 ∧ L.2.2.1 (x + 5767) = 3)
/-- nothing outside the object has changed -/
def FrO (x : Nat) (FI AI : Nat → Nat → Int32) (AL : Nat → Nat → Int64) (AR : Nat → Nat → Option Nat) (F2 A2 : Nat → Nat → Int32) (L2 : Nat → Nat → Int64) (R2 : Nat → Nat → Option Nat) : Prop := ∀ a, (a < x ∨ x + 7208 ≤ a) → (∀ j, F2 j a = FI j a) ∧ A2 a = AI a ∧ L2 a = AL a ∧ R2 a = AR a
/-- the cells of the object that lie in none of its worlds, and the pad, are as before -/
def c_rest (x : Nat) (FI AI : Nat → Nat → Int32) (AR : Nat → Nat → Option Nat) (F2 A2 : Nat → Nat → Int32) (R2 : Nat → Nat → Option Nat) : Prop := F2 33 (x + 1441) = FI 33 (x + 1441) ∧ F2 34 (x + 1441) = FI 34 (x + 1441) ∧ R2 (x + 1442) = AR (x + 1442) ∧ R2 (x + 5763) = AR (x + 5763) ∧ A2 (x + 5764) = AI (x + 5764) ∧ F2 97 (x + 5765) = FI 97 (x + 5765) ∧ A2 (x + 5766) = AI (x + 5766)
def RC (L : PL) (FI AI : Nat → Nat → Int32) (AL : Nat → Nat → Int64) (AR : Nat → Nat → Option Nat) (x : Nat) (Z : ZW) : Prop :=
  LC L x ∧ ((∀ i, i < 6 → AR (x + 1442) i = some (x + 1443 + 720 * i)) ∧ (∀ i, i < 2 → AR (x + 5763) i = some (x + 5768 + 720 * i))) ∧
  CV L FI AI AL AR (x + 1) (zX Z) ∧ WB L AR (x + 721) ∧ (∀ i, i < 6 → WB L AR (x + 1443 + 720 * i)) ∧ (∀ i, i < 2 → WB L AR (x + 5768 + 720 * i)) ∧
  (FI 33 (x + 1441) = Int32.ofNat (zf Z) ∧ zf Z < 6 ∧ FI 34 (x + 1441) = Int32.ofNat (zk Z) ∧ zk Z ≤ 6 ∧ ∀ i, i < zk Z → CV L FI AI AL AR (x + 1443 + 720 * ((zf Z + i) % 6)) (zH Z ((zf Z + i) % 6))) ∧
  (∀ s, s < 2 → AI (x + 5764) s = (if zV Z s = true then 1 else 0) ∧ (zV Z s = true → CV L FI AI AL AR (x + 5768 + 720 * s) (zS Z s))) ∧
  (FI 97 (x + 5765) = Int32.ofNat (zn Z) ∧ zn Z ≤ 80 ∧ ∀ i, i < zn Z → AI (x + 5766) i = zC Z i)
/-- the object has come to Z, and answers r0 -/
def QRC (L : PL) (FI AI : Nat → Nat → Int32) (AL : Nat → Nat → Int64) (AR : Nat → Nat → Option Nat) (x : Nat) (Z : ZW) (r0 : Option PV) : Option PV → PS → Prop := fun r σ => ∃ F2 A2 L2 R2, σ = (L, F2, A2, L2, R2) ∧ r = r0 ∧ FrO x FI AI AL AR F2 A2 L2 R2 ∧ RC L F2 A2 L2 R2 x Z
/-- a state has been kept: the live World is as before -/
def QRK (L : PL) (FI AI : Nat → Nat → Int32) (AL : Nat → Nat → Int64) (AR : Nat → Nat → Option Nat) (x : Nat) (Z : ZW) : Option PV → PS → Prop := fun r σ => ∃ F2 A2 L2 R2, σ = (L, F2, A2, L2, R2) ∧ r = none ∧ FrO x FI AI AL AR F2 A2 L2 R2 ∧ RC L F2 A2 L2 R2 x Z ∧ ∀ a, x + 1 ≤ a → a < x + 1 + 720 → (∀ j, F2 j a = FI j a) ∧ A2 a = AI a ∧ L2 a = AL a ∧ R2 a = AR a
section RCp
variable {L : PL} {FI AI F2 A2 F3 A3 : Nat → Nat → Int32} {AL L2 L3 : Nat → Nat → Int64} {AR R2 R3 : Nat → Nat → Option Nat} {x w : Nat} {Z : ZW} {X : XW}
theorem LC.kx (h : LC L x) : L.2.1 x = 7 := h.1.1
theorem LC.r224 (h : LC L x) : L.2.2.2 224 x = some (x + 1) := h.1.2.1
theorem LC.r225 (h : LC L x) : L.2.2.2 225 x = some (x + 721) := h.1.2.2.1
theorem LC.r226 (h : LC L x) : L.2.2.2 226 x = some (x + 1441) := h.1.2.2.2.1
theorem LC.r227 (h : LC L x) : L.2.2.2 227 x = some (x + 5763) := h.1.2.2.2.2.1
theorem LC.r228 (h : LC L x) : L.2.2.2 228 x = some (x + 5764) := h.1.2.2.2.2.2.1
theorem LC.r229 (h : LC L x) : L.2.2.2 229 x = some (x + 5765) := h.1.2.2.2.2.2.2
theorem LC.kh (h : LC L x) : L.2.1 (x + 1441) = 1 := h.2.1.1
theorem LC.r32 (h : LC L x) : L.2.2.2 32 (x + 1441) = some (x + 1442) := h.2.1.2.1
theorem LC.ks (h : LC L x) : L.2.1 (x + 1442) = 28 := h.2.1.2.2.1
theorem LC.ls (h : LC L x) : L.2.2.1 (x + 1442) = 6 := h.2.1.2.2.2
theorem LC.kt (h : LC L x) : L.2.1 (x + 5763) = 28 := h.2.2.1.1
theorem LC.lt (h : LC L x) : L.2.2.1 (x + 5763) = 2 := h.2.2.1.2.1
theorem LC.kv (h : LC L x) : L.2.1 (x + 5764) = 22 := h.2.2.1.2.2.1
theorem LC.lv (h : LC L x) : L.2.2.1 (x + 5764) = 2 := h.2.2.1.2.2.2
theorem LC.kp (h : LC L x) : L.2.1 (x + 5765) = 3 := h.2.2.2.1
theorem LC.r96 (h : LC L x) : L.2.2.2 96 (x + 5765) = some (x + 5766) := h.2.2.2.2.1
theorem LC.r100 (h : LC L x) : L.2.2.2 100 (x + 5765) = some (x + 5767) := h.2.2.2.2.2.1
theorem LC.kc (h : LC L x) : L.2.1 (x + 5766) = 23 := h.2.2.2.2.2.2.1
theorem LC.lc (h : LC L x) : L.2.2.1 (x + 5766) = 80 := h.2.2.2.2.2.2.2.1
theorem LC.kn (h : LC L x) : L.2.1 (x + 5767) = 20 := h.2.2.2.2.2.2.2.2.1
theorem LC.ln (h : LC L x) : L.2.2.1 (x + 5767) = 3 := h.2.2.2.2.2.2.2.2.2
theorem FrO.rf : FrO x FI AI AL AR FI AI AL AR := fun _ _ => ⟨fun _ => rfl, rfl, rfl, rfl⟩
theorem FrO.tr (h1 : FrO x FI AI AL AR F2 A2 L2 R2) (h2 : FrO x F2 A2 L2 R2 F3 A3 L3 R3) : FrO x FI AI AL AR F3 A3 L3 R3 := fun a ha => ⟨fun j => ((h2 a ha).1 j).trans ((h1 a ha).1 j), (h2 a ha).2.1.trans (h1 a ha).2.1, (h2 a ha).2.2.1.trans (h1 a ha).2.2.1, (h2 a ha).2.2.2.trans (h1 a ha).2.2.2⟩
theorem FrO.fc (h : FrC w FI AI AL AR F2 A2 L2 R2) (hw : x ≤ w ∧ w + 720 ≤ x + 7208) : FrO x FI AI AL AR F2 A2 L2 R2 := fun a ha => h a (by omega)
theorem FrO.uF {j a : Nat} {v : Int32} (h : FrO x FI AI AL AR F2 A2 L2 R2) (ha : x ≤ a ∧ a < x + 7208) : FrO x FI AI AL AR (p_up F2 j a v) A2 L2 R2 := fun b hb => ⟨fun i => (p_up_n2 _ _ _ _ (by omega)).trans ((h b hb).1 i), (h b hb).2⟩
theorem FrO.uA {j a : Nat} {v : Int32} (h : FrO x FI AI AL AR F2 A2 L2 R2) (ha : x ≤ a ∧ a < x + 7208) : FrO x FI AI AL AR F2 (p_up A2 a j v) L2 R2 := fun b hb => ⟨(h b hb).1, (p_up_oth (by omega)).trans (h b hb).2.1, (h b hb).2.2⟩
theorem c_rest.rf : c_rest x FI AI AR FI AI AR := ⟨rfl, rfl, rfl, rfl, rfl, rfl, rfl⟩
theorem c_rest.fc {v : Nat} (h : FrC v FI AI AL AR F2 A2 L2 R2) (hv : v = x + 1 ∨ v = x + 721 ∨ (∃ i, i < 6 ∧ v = x + 1443 + 720 * i) ∨ (∃ i, i < 2 ∧ v = x + 5768 + 720 * i)) : c_rest x FI AI AR F2 A2 R2 := by
  have h1 : (x + 1441 < v ∨ v + 720 ≤ x + 1441) ∧ (x + 1442 < v ∨ v + 720 ≤ x + 1442) ∧ (x + 5763 < v ∨ v + 720 ≤ x + 5763) ∧ (x + 5764 < v ∨ v + 720 ≤ x + 5764) ∧ (x + 5765 < v ∨ v + 720 ≤ x + 5765) ∧ (x + 5766 < v ∨ v + 720 ≤ x + 5766) := by
    rcases hv with e | e | ⟨i, hi, e⟩ | ⟨i, hi, e⟩ <;> omega
  exact ⟨(h _ h1.1).1 _, (h _ h1.1).1 _, (h _ h1.2.1).2.2.2, (h _ h1.2.2.1).2.2.2, (h _ h1.2.2.2.1).2.1, (h _ h1.2.2.2.2.1).1 _, (h _ h1.2.2.2.2.2).2.1⟩
theorem CV.far {v : Nat} (h : CV L FI AI AL AR w X) (hf : FrC v FI AI AL AR F2 A2 L2 R2) (hv : v + 720 ≤ w ∨ w + 720 ≤ v) : CV L F2 A2 L2 R2 w X := h.imp fun _ h1 => h1.far hf hv
theorem WB.far {v : Nat} (h : WB L AR w) (hf : FrC v FI AI AL AR F2 A2 L2 R2) (hv : v + 720 ≤ w ∨ w + 720 ≤ v) : WB L R2 w := by
  refine ⟨h.1, ?_⟩
  obtain ⟨sa, hA⟩ := h.2
  have e : ∀ a, w ≤ a → a < w + 720 → R2 a = AR a := fun a h1 h2 => (hf a (by omega)).2.2.2
  refine ⟨sa, fun i hi => ?_, fun i hi => ?_, fun i hi => ?_, fun i hi => ?_, hA.2.2.2.2⟩
  · rw [e (w + 1) (by omega) (by omega)]; exact hA.1 i hi
  · rw [e (w + 2) (by omega) (by omega)]; exact hA.2.1 i hi
  · rw [e (w + 3) (by omega) (by omega)]; exact hA.2.2.1 i hi
  · rw [e (w + 4) (by omega) (by omega)]; exact hA.2.2.2.1 i hi
theorem CV.wb (h : CV L FI AI AL AR w X) : WB L AR w := by
  obtain ⟨sa, h1⟩ := h
  exact ⟨h1.wf, sa, h1.wa⟩
/-- cells outside the worlds may change -/
theorem CV.oth (h : CV L FI AI AL AR w X) (e : ∀ a, w ≤ a → a < w + 720 → (∀ j, F2 j a = FI j a) ∧ A2 a = AI a ∧ L2 a = AL a ∧ R2 a = AR a) : CV L F2 A2 L2 R2 w X := h.imp fun _ h1 => h1.fr e
theorem RC.lc (h : RC L FI AI AL AR x Z) : LC L x := h.1
theorem RC.sh (h : RC L FI AI AL AR x Z) {i : Nat} (hi : i < 6) : AR (x + 1442) i = some (x + 1443 + 720 * i) := h.2.1.1 i hi
theorem RC.ss (h : RC L FI AI AL AR x Z) {i : Nat} (hi : i < 2) : AR (x + 5763) i = some (x + 5768 + 720 * i) := h.2.1.2 i hi
theorem RC.live (h : RC L FI AI AL AR x Z) : CV L FI AI AL AR (x + 1) (zX Z) := h.2.2.1
theorem RC.fore (h : RC L FI AI AL AR x Z) : WB L AR (x + 721) := h.2.2.2.1
theorem RC.wh (h : RC L FI AI AL AR x Z) {i : Nat} (hi : i < 6) : WB L AR (x + 1443 + 720 * i) := h.2.2.2.2.1 i hi
theorem RC.ws (h : RC L FI AI AL AR x Z) {i : Nat} (hi : i < 2) : WB L AR (x + 5768 + 720 * i) := h.2.2.2.2.2.1 i hi
theorem RC.pf (h : RC L FI AI AL AR x Z) : FI 33 (x + 1441) = Int32.ofNat (zf Z) := h.2.2.2.2.2.2.1.1
theorem RC.f6 (h : RC L FI AI AL AR x Z) : zf Z < 6 := h.2.2.2.2.2.2.1.2.1
theorem RC.pk (h : RC L FI AI AL AR x Z) : FI 34 (x + 1441) = Int32.ofNat (zk Z) := h.2.2.2.2.2.2.1.2.2.1
theorem RC.k6 (h : RC L FI AI AL AR x Z) : zk Z ≤ 6 := h.2.2.2.2.2.2.1.2.2.2.1
theorem RC.h (h : RC L FI AI AL AR x Z) {i : Nat} (hi : i < zk Z) : CV L FI AI AL AR (x + 1443 + 720 * ((zf Z + i) % 6)) (zH Z ((zf Z + i) % 6)) := h.2.2.2.2.2.2.1.2.2.2.2 i hi
theorem RC.v (h : RC L FI AI AL AR x Z) {s : Nat} (hs : s < 2) : AI (x + 5764) s = (if zV Z s = true then 1 else 0) := (h.2.2.2.2.2.2.2.1 s hs).1
theorem RC.s (h : RC L FI AI AL AR x Z) {s : Nat} (hs : s < 2) (hv : zV Z s = true) : CV L FI AI AL AR (x + 5768 + 720 * s) (zS Z s) := (h.2.2.2.2.2.2.2.1 s hs).2 hv
theorem RC.pn (h : RC L FI AI AL AR x Z) : FI 97 (x + 5765) = Int32.ofNat (zn Z) := h.2.2.2.2.2.2.2.2.1
theorem RC.n80 (h : RC L FI AI AL AR x Z) : zn Z ≤ 80 := h.2.2.2.2.2.2.2.2.2.1
theorem RC.c (h : RC L FI AI AL AR x Z) {i : Nat} (hi : i < zn Z) : AI (x + 5766) i = zC Z i := h.2.2.2.2.2.2.2.2.2.2 i hi
/-- the live World has changed -/
theorem RC.up (h : RC L FI AI AL AR x Z) (hf : FrC (x + 1) FI AI AL AR F2 A2 L2 R2) (hc : CV L F2 A2 L2 R2 (x + 1) X) : RC L F2 A2 L2 R2 x (z_x Z X) := by
  obtain ⟨e1, e2, e3, e4, e5, e6, e7⟩ := c_rest.fc (x := x) hf (Or.inl rfl)
  refine ⟨h.lc, ⟨fun i hi => ?_, fun i hi => ?_⟩, hc, h.fore.far hf (by omega), fun i hi => (h.wh hi).far hf (by omega), fun i hi => (h.ws hi).far hf (by omega), ⟨e1.trans h.pf, h.f6, e2.trans h.pk, h.k6, fun i hi => (h.h hi).far hf (by omega)⟩, fun s hs => ⟨?_, fun hv => (h.s hs hv).far hf (by omega)⟩, ⟨e6.trans h.pn, h.n80, fun i hi => ?_⟩⟩
  · rw [e3]; exact h.sh hi
  · rw [e4]; exact h.ss hi
  · rw [e5]; exact h.v hs
  · rw [e7]; exact h.c hi
/-- the World of the forecasts has changed -/
theorem RC.upF (h : RC L FI AI AL AR x Z) (hf : FrC (x + 721) FI AI AL AR F2 A2 L2 R2) (hc : CV L F2 A2 L2 R2 (x + 721) X) : RC L F2 A2 L2 R2 x Z := by
  obtain ⟨e1, e2, e3, e4, e5, e6, e7⟩ := c_rest.fc (x := x) hf (Or.inr (Or.inl rfl))
  refine ⟨h.lc, ⟨fun i hi => ?_, fun i hi => ?_⟩, h.live.far hf (by omega), hc.wb, fun i hi => (h.wh hi).far hf (by omega), fun i hi => (h.ws hi).far hf (by omega), ⟨e1.trans h.pf, h.f6, e2.trans h.pk, h.k6, fun i hi => (h.h hi).far hf (by omega)⟩, fun s hs => ⟨?_, fun hv => (h.s hs hv).far hf (by omega)⟩, ⟨e6.trans h.pn, h.n80, fun i hi => ?_⟩⟩
  · rw [e3]; exact h.sh hi
  · rw [e4]; exact h.ss hi
  · rw [e5]; exact h.v hs
  · rw [e7]; exact h.c hi
theorem c_of_last {M : Nat} (hI : XI M X) : ∀ i, i < (c_of (xS X)).length → ((c_of (xS X)).getD i xc0).1.2.2.2.1 = 0 ∨ ((c_of (xS X)).getD i xc0).1.2.2.2.1 = 1 := by
  intro i hi
  rw [c_of_get]
  rw [c_of_len] at hi
  exact (hI.2.2.2.2.1 (x_at X i) (x_at_mem hi)).2.2.2.2.1
theorem z_fk (Z : ZW) (h6 : zk Z ≤ 6) : (z_f Z + z_k Z) % 6 = (zf Z + zk Z) % 6 ∧ z_k Z ≤ 5 := by
  unfold z_f z_k
  split <;> omega
theorem z_f_lt (Z : ZW) (h : zf Z < 6) : z_f Z < 6 := by
  unfold z_f
  split <;> omega
/-- a state is kept -/
theorem RC.keep (h : RC L FI AI AL AR x Z) {F4 : Nat → Nat → Int32} (hf : FrC (x + 1443 + 720 * ((zf Z + zk Z) % 6)) FI AI AL AR F2 A2 L2 R2) (hc : CV L F2 A2 L2 R2 (x + 1443 + 720 * ((zf Z + zk Z) % 6)) (zX Z)) (h4 : ∀ j a, a ≠ x + 1441 → F4 j a = F2 j a) (e33 : F4 33 (x + 1441) = Int32.ofNat (z_f Z)) (e34 : F4 34 (x + 1441) = Int32.ofNat (z_k Z + 1)) : RC L F4 A2 L2 R2 x (z_keep Z) := by
  have hq : (zf Z + zk Z) % 6 < 6 := Nat.mod_lt _ (by decide)
  obtain ⟨e1, e2, e3, e4, e5, e6, e7⟩ := c_rest.fc (x := x) hf (Or.inr (Or.inr (Or.inl ⟨_, hq, rfl⟩)))
  obtain ⟨k1, k2⟩ := z_fk Z h.k6
  have hf6 := z_f_lt Z h.f6
  have hk6 := h.k6
  have hF : ∀ {w : Nat} {X : XW}, CV L F2 A2 L2 R2 w X → (x + 1442 ≤ w ∨ w + 720 ≤ x + 1441) → CV L F4 A2 L2 R2 w X := fun hv hw => hv.oth (fun a h1 h2 => ⟨fun j => h4 j a (by omega), rfl, rfl, rfl⟩)
  refine ⟨h.lc, ⟨fun i hi => ?_, fun i hi => ?_⟩, hF (h.live.far hf (by omega)) (by omega), h.fore.far hf (by omega), fun i hi => ?_, fun i hi => (h.ws hi).far hf (by omega), ⟨e33, hf6, e34, (show z_k Z + 1 ≤ 6 by omega), fun i hi => ?_⟩, fun s hs => ⟨?_, fun hv => hF ((h.s hs hv).far hf (by omega)) (by omega)⟩, ⟨(h4 _ _ (by omega)).trans (e6.trans h.pn), h.n80, fun i hi => ?_⟩⟩
  · rw [e3]; exact h.sh hi
  · rw [e4]; exact h.ss hi
  · by_cases e : i = (zf Z + zk Z) % 6
    · rw [e]; exact hc.wb
    · exact (h.wh hi).far hf (by omega)
  · have hi2 : i < z_k Z + 1 := hi
    show CV L F4 A2 L2 R2 (x + 1443 + 720 * ((z_f Z + i) % 6)) (if (z_f Z + i) % 6 = (z_f Z + z_k Z) % 6 then zX Z else zH Z ((z_f Z + i) % 6))
    by_cases e : i = z_k Z
    · rw [e, if_pos rfl, k1]
      exact hF hc (by omega)
    · have hne : (z_f Z + i) % 6 ≠ (z_f Z + z_k Z) % 6 := by omega
      rw [if_neg hne]
      rw [k1] at hne
      have h9 : CV L FI AI AL AR (x + 1443 + 720 * ((z_f Z + i) % 6)) (zH Z ((z_f Z + i) % 6)) := by
        by_cases e6 : zk Z = 6
        · have h8 := h.h (i := i + 1) (by have : z_k Z = 5 := if_pos e6; omega)
          rw [show (zf Z + (i + 1)) % 6 = (z_f Z + i) % 6 from by rw [show z_f Z = (zf Z + 1) % 6 from if_pos e6]; omega] at h8
          exact h8
        · have h8 := h.h (i := i) (by have : z_k Z = zk Z := if_neg e6; omega)
          rw [show zf Z = z_f Z from (if_neg e6).symm] at h8
          exact h8
      exact hF (h9.far hf (by omega)) (by omega)
  · rw [e5]; exact h.v hs
  · rw [e7]; exact h.c hi
end RCp
section Cls23
variable {g : PG} {L : PL} {FI AI : Nat → Nat → Int32} {AL : Nat → Nat → Int64} {AR : Nat → Nat → Option Nat} {x : Nat} {Z : ZW} {M : Nat}
/-- as Sp.of, for a method of the library for which the machine has no entry of its own -/
theorem Sp.ofF {g : PG} {d : Nat} {mi : PI} {A : List PV} {σ : PS} {k : Nat × Nat} {Q : Option PV → PS → Prop} {ls : List (Option PV)} (hy : plainFor mi.1 = true) (hz : Nat.ble (lg_sl (A.map tv)).length mi.2.2.1 = true) (hl : lv_args 0 (A.map tv) = p_lc 0 ls) (body : P g d mi 0 ls [] σ k Q) : Sp g d mi A σ k Q := by
  unfold Sp Met
  refine MetFree.of_bodySF (code := mi.2.1) (maxLocals := mi.2.2.1) (ret := mi.2.2.2) hy (fun args s m h hn => ?_) (fun p e s m args below meth c s₁ B hml hv _ => ?_)
  · obtain ⟨meth, c, h1, h2, h3, h4, h5, h6, -, -⟩ := Cond.code_spec hn (atoms_spec (ws := p_ws mi) h _ List.mem_cons_self)
    exact ⟨meth, c, h1, h2, h3, h4, h5, h6⟩
  · obtain ⟨rfl, hR, hK⟩ := hv
    have hts := atoms_spec (ws := p_ws mi) B.pre
    have hown : s.vm.findClass mi.1.cls = some m.cls := findClass_of_methodNamed B.named
    have hl2 := lv_entry (A.map tv) (n := mi.2.2.1) (Nat.le_of_ble_eq_true hz)
    rw [hl] at hl2
    have h := body p e (headSpec (p_ws mi) (p_rm d k)).room s m _ below meth c s.heap [] 0 0 _ ⟨B.exec, B.bytes, hml, B.returns, hown, fun w hw => hts w (List.mem_cons_of_mem _ hw), B.notSynchronized, (name_of_methodNamed B.named B.method).1, hK, by rw [hR.1]; omega, Nat.le_refl _, Nat.le_refl _⟩ (by show 0 + k.1 ≤ k.1; omega) (by show 0 + k.2 ≤ k.2; omega) va_S.rf hR hl2
    simp only [Nat.zero_add] at h
    rw [List.map_nil, ← lg_entry_eq] at h
    obtain ⟨t, a1, o, b1, b2, b3⟩ := h s₁ (by rw [B.state]; rfl) (Stand.of_body B)
    exact ⟨t, o, a1, b1, b2, ⟨b3.1, b3.2⟩⟩
theorem s_fmod6 {n : Nat} (hn : n < 12) : Sp g 0 iF_mod [vi (Int32.ofNat n), vi 6] (L, FI, AI, AL, AR) (0, 0) (QI (L, FI, AI, AL, AR) (Int32.ofNat (n % 6))) := by
  refine Sp.ofF (ls := [some (vi (Int32.ofNat n)), some (vi 6), none]) (by decide +kernel) rfl rfl ?_
  have hx : ∀ n : Nat, n < 12 → (0 : Int32) ≤ Int32.ofNat n ^^^ 6 := by first | decide | decide +kernel
  refine P_iloadn (i := 0) rfl rfl dF_mod_0 ?_
  refine P_iloadn (i := 1) rfl rfl dF_mod_1 ?_
  refine P_irem2 (by decide) dF_mod_2 ?_
  rw [n_rem6 (by omega)]
  refine P_is2 (Or.inl dF_mod_3) rfl rfl ?_
  refine P_iloadn (i := 0) rfl rfl dF_mod_4 ?_
  refine P_iloadn (i := 1) rfl rfl dF_mod_5 ?_
  refine P_ixor dF_mod_6 ?_
  refine P_ifge dF_mod_7 (tgt := 18) rfl (fun h7 => ?_) (fun h7 => absurd (hx n hn) h7)
  refine P_iloadn (i := 2) rfl rfl dF_mod_18 ?_
  refine P_ireturn rfl dF_mod_19 ?_
  exact ⟨rfl, rfl⟩
theorem s_stateAt (hL : LC L x) (ha : ∀ i, i < 6 → AR (x + 1442) i = some (x + 1443 + 720 * i)) {f k : Nat} (hf : FI 33 (x + 1441) = Int32.ofNat f) (h12 : f + k < 12) : Sp g 1 iX1_stateAt [vr (x + 1441), vi (Int32.ofNat k)] (L, FI, AI, AL, AR) (0, 0) (QA (L, FI, AI, AL, AR) (some (x + 1443 + 720 * ((f + k) % 6)))) := by
  refine Sp.of (ls := [some (vr (x + 1441)), some (vi (Int32.ofNat k))]) (by decide +kernel) rfl rfl ?_
  refine P_aloadn (i := 0) rfl rfl dX1_stateAt_0 ?_
  refine gX1_11 rfl (by first | exact hL.kx | exact hL.kh | exact hL.ks | exact hL.kt | exact hL.kv | exact hL.kp | exact hL.kc | exact hL.kn) hL.r32 dX1_stateAt_1 ?_
  refine P_aloadn (i := 0) rfl rfl dX1_stateAt_4 ?_
  refine gX1_30 rfl (by first | exact hL.kx | exact hL.kh | exact hL.ks | exact hL.kt | exact hL.kv | exact hL.kp | exact hL.kc | exact hL.kn) hf dX1_stateAt_5 ?_
  refine P_iloadn (i := 1) rfl rfl dX1_stateAt_8 ?_
  refine P_iadd dX1_stateAt_9 ?_
  rw [n_add]
  refine P_bipush (v := 6) rfl dX1_stateAt_10 ?_
  refine kX1_33 rfl (s_fmod6 h12) (by decide) rfl dX1_stateAt_12 (fun r12 s12 q12 => ?_)
  obtain ⟨rfl, rfl⟩ := q12
  refine P_aaN (t := 28) (j := (f + k) % 6) (by decide) (by first | exact hL.kx | exact hL.kh | exact hL.ks | exact hL.kt | exact hL.kv | exact hL.kp | exact hL.kc | exact hL.kn) rfl (by omega) (by rw [hL.ls]; omega) (ha _ (by omega)) dX1_stateAt_15 ?_
  refine P_areturn rfl dX1_stateAt_16 ?_
  exact ⟨rfl, rfl⟩
theorem s_keep7 (h : RC L FI AI AL AR x Z) (hI : XI M (zX Z)) : Sp g 3 iX1_keep [vr (x + 1441), vr (x + 1)] (L, FI, AI, AL, AR) (0, 0) (QRK L FI AI AL AR x (z_keep Z)) := by
  refine Sp.of (ls := [some (vr (x + 1441)), some (vr (x + 1))]) (by decide +kernel) rfl rfl ?_
  have hL := h.lc
  have hf6 := h.f6
  have hk6 := h.k6
  have hq : (zf Z + zk Z) % 6 < 6 := Nat.mod_lt _ (by decide)
  obtain ⟨hW, sa, hA⟩ := h.wh hq
  obtain ⟨sb, hl⟩ := h.live
  refine P_aloadn (i := 0) rfl rfl dX1_keep_0 ?_
  refine P_aloadn (i := 0) rfl rfl dX1_keep_1 ?_
  refine gX1_18 rfl (by first | exact hL.kx | exact hL.kh | exact hL.ks | exact hL.kt | exact hL.kv | exact hL.kp | exact hL.kc | exact hL.kn) h.pk dX1_keep_2 ?_
  refine kX1_22 rfl (s_stateAt hL (fun i hi => h.sh hi) h.pf (by omega)) (by decide) (by first | exact hL.kx | exact hL.kh | exact hL.ks | exact hL.kt | exact hL.kv | exact hL.kp | exact hL.kc | exact hL.kn) rfl dX1_keep_5 (fun r5 s5 q5 => ?_)
  obtain ⟨rfl, rfl⟩ := q5
  refine P_aloadn (i := 1) rfl rfl dX1_keep_8 ?_
  refine kX1_26 rfl (s_W_copy hW hA hl hI (by omega) (c_of_last hI)) (by decide) hW.kw rfl dX1_keep_9 (fun r9 s9 q9 => ?_)
  obtain ⟨F2, A2, L2, rfl, rfl, hf, hc⟩ := q9
  have hF33 : F2 33 (x + 1441) = Int32.ofNat (zf Z) := (c_rest.fc (x := x) hf (Or.inr (Or.inr (Or.inl ⟨_, hq, rfl⟩)))).1.trans h.pf
  have hF34 : F2 34 (x + 1441) = Int32.ofNat (zk Z) := (c_rest.fc (x := x) hf (Or.inr (Or.inr (Or.inl ⟨_, hq, rfl⟩)))).2.1.trans h.pk
  refine P_aloadn (i := 0) rfl rfl dX1_keep_12 ?_
  refine gX1_18 rfl (by first | exact hL.kx | exact hL.kh | exact hL.ks | exact hL.kt | exact hL.kv | exact hL.kp | exact hL.kc | exact hL.kn) hF34 dX1_keep_13 ?_
  refine P_bipush (v := 6) rfl dX1_keep_16 ?_
  refine P_icmpge dX1_keep_18 (tgt := 34) rfl (fun h18 => ?_) (fun h18 => ?_)
  · refine P_aloadn (i := 0) rfl rfl dX1_keep_34 ?_
    refine P_aloadn (i := 0) rfl rfl dX1_keep_35 ?_
    refine gX1_30 rfl (by first | exact hL.kx | exact hL.kh | exact hL.ks | exact hL.kt | exact hL.kv | exact hL.kp | exact hL.kc | exact hL.kn) hF33 dX1_keep_36 ?_
    refine P_iconst (v := 1) rfl dX1_keep_39 ?_
    refine P_iadd dX1_keep_40 ?_
    refine P_bipush (v := 6) rfl dX1_keep_41 ?_
    refine P_irem2 (by decide) dX1_keep_43 ?_
    have e6 : zk Z = 6 := by have := (n_le (a := 6) (b := zk Z) (by omega) (by omega)).mp h18; omega
    rw [show Int32.ofNat (zf Z) + 1 = Int32.ofNat (zf Z + 1) from n_succ _, n_rem6 (by omega)]
    refine uX1_30 rfl (by first | exact hL.kx | exact hL.kh | exact hL.ks | exact hL.kt | exact hL.kv | exact hL.kp | exact hL.kc | exact hL.kn) dX1_keep_44 ?_
    refine P_return rfl dX1_keep_47 ?_
    refine ⟨_, A2, L2, AR, rfl, rfl, (FrO.fc hf (by omega)).uF (by omega), h.keep hf ⟨sa, hc⟩ (fun j a ha => p_up_of (by omega)) ((p_up_eq _ _ _ _).trans (by rw [show z_f Z = (zf Z + 1) % 6 from if_pos e6])) ?_, fun a h1 h2 => ⟨fun j => (p_up_of (by omega)).trans ((hf a (by omega)).1 j), (hf a (by omega)).2⟩⟩
    exact (p_up_n1 _ _ _ _ (by decide)).trans (hF34.trans (by rw [show z_k Z = 5 from if_pos e6, e6]))
  · refine P_aloadn (i := 0) rfl rfl dX1_keep_21 ?_
    refine P_dup rfl dX1_keep_22 ?_
    refine gX1_18 rfl (by first | exact hL.kx | exact hL.kh | exact hL.ks | exact hL.kt | exact hL.kv | exact hL.kp | exact hL.kc | exact hL.kn) hF34 dX1_keep_23 ?_
    refine P_iconst (v := 1) rfl dX1_keep_26 ?_
    refine P_iadd dX1_keep_27 ?_
    refine uX1_18 rfl (by first | exact hL.kx | exact hL.kh | exact hL.ks | exact hL.kt | exact hL.kv | exact hL.kp | exact hL.kc | exact hL.kn) dX1_keep_28 ?_
    refine P_goto dX1_keep_31 (tgt := 47) rfl ?_
    refine P_return rfl dX1_keep_47 ?_
    have e6 : ¬ zk Z = 6 := fun hh => h18 (by rw [hh]; decide)
    refine ⟨_, A2, L2, AR, rfl, rfl, (FrO.fc hf (by omega)).uF (by omega), h.keep hf ⟨sa, hc⟩ (fun j a ha => p_up_of (by omega)) ?_ ?_, fun a h1 h2 => ⟨fun j => (p_up_of (by omega)).trans ((hf a (by omega)).1 j), (hf a (by omega)).2⟩⟩
    · exact (p_up_n1 _ _ _ _ (by decide)).trans (hF33.trans (by rw [show z_f Z = zf Z from if_neg e6]))
    · exact (p_up_eq _ _ _ _).trans (by rw [show z_k Z = zk Z from if_neg e6]; exact n_succ _)
theorem s_keepInH {X : XW} (h : RC L FI AI AL AR x Z) (hI : XI M (zX Z)) {C : List XC} {U : Nat} {sb : Nat → Nat} (hl : CW L FI AI AL AR (x + 1) X C U sb) : Sp g 4 iX6_keepIn [vr (x + 1), vr (x + 1441)] (L, FI, AI, AL, AR) (0, 0) (QKP L (x + 1) X C U sb (fun F2 A2 L2 R2 => FrO x FI AI AL AR F2 A2 L2 R2 ∧ RC L F2 A2 L2 R2 x (z_keep Z))) := by
  refine Sp.of (ls := [some (vr (x + 1)), some (vr (x + 1441))]) (by decide +kernel) rfl rfl ?_
  have hL := h.lc
  refine P_aloadn (i := 1) rfl rfl dX6_keepIn_0 ?_
  refine P_ifnull dX6_keepIn_1 (tgt := 9) rfl (fun h1 => by cases h1) (fun a1 h1 => ?_)
  cases h1
  refine P_aloadn (i := 1) rfl rfl dX6_keepIn_4 ?_
  refine P_aloadn (i := 0) rfl rfl dX6_keepIn_5 ?_
  refine kX6_141 rfl (s_keep7 h hI) (by decide) hL.kh rfl dX6_keepIn_6 (fun r6 s6 q6 => ?_)
  obtain ⟨F1, A1, B1, R1, rfl, rfl, hf1, h1, hk1⟩ := q6
  refine P_return rfl dX6_keepIn_9 ?_
  exact ⟨F1, A1, B1, R1, rfl, rfl, hl.fr hk1, hf1, h1⟩
theorem s_keepIn0 {w : Nat} {X : XW} {C : List XC} {U : Nat} {sb : Nat → Nat} (hl : CW L FI AI AL AR w X C U sb) : Sp g 4 iX6_keepIn [vr w, vq none] (L, FI, AI, AL, AR) (0, 0) (QKP L w X C U sb (fun F2 A2 L2 R2 => FI = F2 ∧ AI = A2 ∧ AL = L2 ∧ AR = R2)) := by
  refine Sp.of (ls := [some (vr w), some (vq none)]) (by decide +kernel) rfl rfl ?_
  refine P_aloadn (i := 1) rfl rfl dX6_keepIn_0 ?_
  refine P_ifnull dX6_keepIn_1 (tgt := 9) rfl (fun h1 => ?_) (fun a1 h1 => by cases h1)
  refine P_return rfl dX6_keepIn_9 ?_
  exact ⟨FI, AI, AL, AR, rfl, rfl, hl, rfl, rfl, rfl, rfl⟩
end Cls23
