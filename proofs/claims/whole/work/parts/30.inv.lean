/-! ===== what every state keeps ===== -/
def x_cnt (t : Nat → Int32) : Nat → Nat
  | 0 => 0
  | n + 1 => x_cnt t n + (if 0 ≤ t n then 1 else 0)
def qN (N : Nat → Nat → Int32) (nb : Nat) : Prop := ∀ i, i < 8 → (ib (N i 0) 3 ∧ 1 ≤ (N i 1).toInt ∧ (N i 1).toInt ≤ 500 ∧ 64 ≤ (N i 2).toInt ∧ (N i 2).toInt ≤ 20000) ∧ ∀ k, k < 8 → N i (3 + k) = -6 ∨ ib (N i (3 + k)) nb
def qB (B : Nat → Nat → Int32) (nb : Nat) : Prop := ∀ b, b < nb → ib (B b 0) 8 ∧ ib (B b 1) 8 ∧ (16 ≤ (B b 2).toInt ∧ (B b 2).toInt ≤ 1500) ∧ (1 ≤ (B b 3).toInt ∧ (B b 3).toInt ≤ 50) ∧ (1 ≤ (B b 4).toInt ∧ (B b 4).toInt ≤ 1000) ∧ ib (B b 5) 100
def qP (r t : Nat → Int32) (tick : Int32) : Prop :=
  (ib (r 0) 8 ∧ ib (r 1) 8 ∧ (1 ≤ (r 2).toInt ∧ (r 2).toInt ≤ 4000) ∧ ib (r 3) 256 ∧ (r 4 = 0 ∨ r 4 = 1) ∧ ib (r 5) 6 ∧ (1 ≤ (r 7).toInt ∧ (r 7).toInt ≤ 20)) ∧
  (∀ i, i < 4000 → t i = -6 ∨ ib (t i) 256) ∧ r 12 = Int32.ofNat (x_cnt t 4000) ∧ (x_cnt t 4000 = 0 → r 9 = -6 ∧ r 8 = -6) ∧ (x_cnt t 4000 ≠ 0 → 0 ≤ (r 9).toInt ∧ (r 9).toInt ≤ tick.toInt ∧ r 5 = 0) ∧
  (r 8 = -6 ∨ (1 ≤ (r 8).toInt ∧ (r 8).toInt ≤ 4000 ∧ ∀ i : Nat, i < 4000 → (r 8).toInt ≤ (i : Int) → t i < 0)) ∧ (r 5 = 0 → r 10 = -6)
def qS (np : Nat) (tick : Int32) (M : Nat) (σ : XS) : Prop := ib σ.1 np ∧ 0 ≤ σ.2.1.toInt ∧ 1 ≤ σ.2.2.1.toInt ∧ σ.2.1.toInt + σ.2.2.1.toInt ≤ 5500 ∧ (σ.2.2.2.1 = 0 ∨ σ.2.2.2.1 = 1) ∧ ib σ.2.2.2.2.1 21 ∧ ib σ.2.2.2.2.2.1 256 ∧ (tick.toInt ≤ σ.2.2.2.2.2.2.1.toInt ∧ σ.2.2.2.2.2.2.1.toInt ≤ (M : Int) + 6000) ∧ ib σ.2.2.2.2.2.2.2 8
def XI (M : Nat) (X : XW) : Prop :=
  (0 ≤ (xG X 0).toInt ∧ (xG X 0).toInt ≤ (M : Int)) ∧ qN (xN X) (xb X) ∧ qB (xB X) (xb X) ∧ (∀ p, p < xp X → qP (xP X p) (xT X p) (xG X 0)) ∧ (∀ σ, σ ∈ xS X → qS (xp X) (xG X 0) M σ) ∧ xb X ≤ 16 ∧ xp X ≤ 40 ∧ (xS X).length ≤ 300
theorem x_at_mem {X : XW} {s : Nat} (h : s < (xS X).length) : x_at X s ∈ xS X := by
  unfold x_at
  rw [List.getD_eq_getElem?_getD, List.getElem?_eq_getElem h]
  exact List.getElem_mem h
theorem x_cnt_none {t : Nat → Int32} : ∀ n, (∀ i, i < n → t i < 0) → x_cnt t n = 0 := by
  intro n
  induction n with
  | zero => intro _; rfl
  | succ n ih =>
    intro h
    unfold x_cnt
    rw [ih (fun i hi => h i (by omega)), if_neg (Int32.not_le.mpr (h n (by omega)))]
theorem x_cnt_le (t : Nat → Int32) : ∀ n, x_cnt t n ≤ n := by
  intro n
  induction n with
  | zero => exact Nat.le_refl _
  | succ n ih =>
    unfold x_cnt
    split <;> omega
theorem x_cnt_pos {t : Nat → Int32} {i : Nat} (hi : 0 ≤ t i) : ∀ n, i < n → 0 < x_cnt t n := by
  intro n
  induction n with
  | zero => intro h; omega
  | succ n ih =>
    intro h
    unfold x_cnt
    by_cases e : i = n
    · subst e
      rw [if_pos hi]
      omega
    · have := ih (by omega)
      omega
theorem qP.row {r r2 t : Nat → Int32} {tick : Int32} (h : qP r t tick) (e : ∀ k, k ≠ 6 → k ≠ 11 → r2 k = r k) : qP r2 t tick := by
  unfold qP at h ⊢
  rw [e 0 (by decide) (by decide), e 1 (by decide) (by decide), e 2 (by decide) (by decide), e 3 (by decide) (by decide), e 4 (by decide) (by decide), e 5 (by decide) (by decide), e 7 (by decide) (by decide), e 12 (by decide) (by decide), e 9 (by decide) (by decide), e 8 (by decide) (by decide), e 10 (by decide) (by decide)]
  exact h
theorem qP.tick {r t : Nat → Int32} {a b : Int32} (h : qP r t a) (hab : a.toInt ≤ b.toInt) : qP r t b :=
  ⟨h.1, h.2.1, h.2.2.1, h.2.2.2.1, fun hc => ⟨(h.2.2.2.2.1 hc).1, by have := (h.2.2.2.2.1 hc).2.1; omega, (h.2.2.2.2.1 hc).2.2⟩, h.2.2.2.2.2⟩
/-- a parcel at its end -/
theorem qP.end_ {r t r2 t2 : Nat → Int32} {tick st : Int32} (h : qP r t tick) (hs : ib st 6) (hs0 : ¬ st = 0) (e5 : r2 5 = st) (e12 : r2 12 = 0) (e9 : r2 9 = -6) (e8 : r2 8 = -6) (eo : ∀ k, k < 8 → k ≠ 5 → r2 k = r k) (et : ∀ i, t2 i = -6) : qP r2 t2 tick := by
  have hc : x_cnt t2 4000 = 0 := x_cnt_none 4000 (fun i _ => by rw [et]; decide)
  refine ⟨⟨?_, ?_, ?_, ?_, ?_, ?_, ?_⟩, fun i _ => Or.inl (et i), ?_, fun _ => ⟨e9, e8⟩, fun hh => absurd hc hh, Or.inl e8, fun hh => absurd (e5.symm.trans hh) hs0⟩
  · rw [eo 0 (by decide) (by decide)]; exact h.1.1
  · rw [eo 1 (by decide) (by decide)]; exact h.1.2.1
  · rw [eo 2 (by decide) (by decide)]; exact h.1.2.2.1
  · rw [eo 3 (by decide) (by decide)]; exact h.1.2.2.2.1
  · rw [eo 4 (by decide) (by decide)]; exact h.1.2.2.2.2.1
  · rw [e5]; exact hs
  · rw [eo 7 (by decide) (by decide)]; exact h.1.2.2.2.2.2.2
  · rw [e12, hc]; rfl
section XIp
variable {M : Nat} {X : XW}
theorem XI.ok (h : XI M X) : x_ok X := by
  obtain ⟨⟨ht0, htM⟩, hN, hB, hP, hS, h16, h40, h300⟩ := h
  refine ⟨fun p hp hne => ?_, fun p hp => ?_, fun i hi => ?_, ?_⟩
  · have h1 := hP p hp
    have hc : x_cnt (xT X p) 4000 ≠ 0 := fun e => hne (by rw [h1.2.2.1, e]; rfl)
    rw [Int32.le_iff_toInt_le]
    simpa using (h1.2.2.2.2.1 hc).1
  · rcases (hP p hp).2.2.2.2.2.1 with e | e
    · rw [e]; decide
    · omega
  · rw [Int32.le_iff_toInt_le]
    have := (hN i hi).1.2.2.2.1
    simp only [Int32.reduceToInt]
    omega
  · rw [Int32.le_iff_toInt_le]
    simpa using ht0
theorem XI.g (h : XI M X) {k : Nat} {v : Int32} (hk : k ≠ 0) : XI M (x_g X k v) := by
  have e : xG (x_g X k v) 0 = xG X 0 := if_neg (fun hh => hk hh.symm)
  unfold XI
  rw [e]
  exact h
theorem XI.p11 (h : XI M X) {p k : Nat} {v : Int32} (hk : k = 6 ∨ k = 11) : XI M (x_p X p k v) := by
  obtain ⟨hT, hN, hB, hP, hS, hb⟩ := h
  refine ⟨hT, hN, hB, fun q hq => ?_, hS, hb⟩
  exact (hP q hq).row (fun j h6 h11 => p_up_n2 _ _ _ _ (by omega))
theorem XI.cd (h : XI M X) (p why : Nat) (hw : 0 < why) : XI M (x_cd X p why) := (h.g (by omega)).p11 (Or.inr rfl)
theorem XI.rm (h : XI M X) (s : Nat) : XI M (x_rm X s) := by
  obtain ⟨hT, hN, hB, hP, hS, h16, h40, h300⟩ := h
  refine ⟨hT, hN, hB, hP, fun σ hσ => hS σ (List.mem_of_mem_eraseIdx hσ), h16, h40, ?_⟩
  have : ((xS X).eraseIdx s).length ≤ (xS X).length := List.length_eraseIdx_le _ _
  exact Nat.le_trans this h300
theorem XI.drop (h : XI M X) (s why : Nat) (hw : 0 < why) : XI M (x_drop X s why) := (h.cd _ why hw).rm s
theorem XI.end_ (h : XI M X) {p : Nat} {st : Int32} (hs : ib st 6) (hs0 : ¬ st = 0) : XI M (x_end X p st) := by
  obtain ⟨hT, hN, hB, hP, hS, hb⟩ := h
  refine ⟨hT, hN, hB, fun q hq => ?_, hS, hb⟩
  have h1 := hP q hq
  by_cases e : q = p
  · subst e
    refine h1.end_ hs hs0 ?_ ?_ ?_ ?_ (fun k hk h5 => ?_) (fun i => ?_)
    · rw [x_end_p, if_pos rfl]; rfl
    · rw [x_end_p, if_pos rfl]; rfl
    · rw [x_end_p, if_pos rfl]; rfl
    · rw [x_end_p, if_pos rfl]; rfl
    · rw [x_end_p, if_pos rfl, if_neg (by omega), if_neg (by omega), if_neg (by omega), if_neg (by omega), if_neg h5]
    · show (if q = q then (-6 : Int32) else _) = -6
      exact if_pos rfl
  · have e1 : xP (x_end X p st) q = xP X q := by
      funext k
      rw [x_end_p, if_neg e]
    have e2 : xT (x_end X p st) q = xT X q := by
      funext i
      exact if_neg e
    rw [e1, e2]
    exact h1
theorem XI.space (h : XI M X) (node : Int32) (n : Nat) : XI M (x_space node n X) := x_space_ind (R := XI M) (fun _ _ hx => hx.end_ ⟨by decide, by decide⟩ (by decide)) node n X h
theorem XI.fin_ (h : XI M X) (p : Nat) : XI M (x_fin X p) := by
  unfold x_fin
  split
  · exact h
  · split
    · exact h.end_ ⟨by decide, by decide⟩ (by decide)
    · exact h.end_ ⟨by decide, by decide⟩ (by decide)
theorem XI.b678 (h : XI M X) {b k : Nat} {v : Int32} (hk : 5 < k) : XI M (x_b X b k v) := by
  obtain ⟨hT, hN, hB, hP, hS, hb⟩ := h
  refine ⟨hT, hN, fun c hc => ?_, hP, hS, hb⟩
  have h1 := hB c hc
  have e : ∀ j, j < 6 → xB (x_b X b k v) c j = xB X c j := fun j hj => p_up_n2 _ _ _ _ (by omega)
  rw [e 0 (by omega), e 1 (by omega), e 2 (by omega), e 3 (by omega), e 4 (by omega), e 5 (by omega)]
  exact h1
theorem XI.takes (h : XI M X) (b : Nat) (len : Int32) : XI M (x_takes X b len) := by
  unfold x_takes
  split
  · exact (h.b678 (by omega)).b678 (by omega)
  · exact (h.b678 (by omega)).b678 (by omega)
end XIp
