/-! ===== the invariant through sending, forging, setting up ===== -/
section XI7
variable {M N : Nat} {X : XW}
theorem XI.mono (h : XI M X) (hM : M ≤ N) : XI N X :=
  ⟨⟨h.1.1, by have := h.1.2; omega⟩, h.2.1, h.2.2.1, h.2.2.2.1, fun σ hσ => by
    have h9 := h.2.2.2.2.1 σ hσ
    exact ⟨h9.1, h9.2.1, h9.2.2.1, h9.2.2.2.1, h9.2.2.2.2.1, h9.2.2.2.2.2.1, h9.2.2.2.2.2.2.1, ⟨h9.2.2.2.2.2.2.2.1.1, by have := h9.2.2.2.2.2.2.2.1.2; omega⟩, h9.2.2.2.2.2.2.2.2⟩, h.2.2.2.2.2⟩
theorem XI.push (h : XI M X) {σ : XS} (hσ : qS (xp X) (xG X 0) M σ) (hl : (xS X).length < 300) : XI M (x_s X (xS X ++ [σ])) :=
  ⟨h.1, h.2.1, h.2.2.1, h.2.2.2.1, fun τ hτ => by
    rcases List.mem_append.mp hτ with h9 | h9
    · exact h.2.2.2.2.1 τ h9
    · rw [List.mem_singleton.mp h9]; exact hσ, h.2.2.2.2.2.1, h.2.2.2.2.2.2.1, by
    show (xS X ++ [σ]).length ≤ 300
    rw [List.length_append]
    exact hl⟩
theorem XI.addP (h : XI M X) (hp : xp X < 40) {from_ to size seed how : Int32} (hf : ib from_ 8) (ht : ib to 8) (hs : 1 ≤ size.toInt ∧ size.toInt ≤ 4000) (hse : ib seed 256) (hh : 2 ≤ how.toInt ∧ how.toInt ≤ 41) : XI M (x_addP X (x_prow from_ to size seed how)) := by
  have e2 : (how / 2).toInt = how.toInt / 2 := by
    rw [Int32.toInt_div_of_ne_right _ _ (by decide), Int.tdiv_eq_ediv_of_nonneg (by omega)]
    rfl
  have e3 : (c_rem how 2).toInt = how.toInt % 2 := by
    show (how - how / 2 * 2).toInt = _
    rw [i_rem _ _ (by decide), Int.tmod_eq_emod_of_nonneg (by omega)]
    rfl
  refine ⟨h.1, h.2.1, h.2.2.1, fun p hp2 => ?_, fun σ hσ => ?_, h.2.2.2.2.2.1, ?_, h.2.2.2.2.2.2.2⟩
  · have hp3 : p < xp X + 1 := hp2
    show qP (fun k => if p = xp X then x_prow from_ to size seed how k else xP X p k) (fun i => if p = xp X then -6 else xT X p i) (xG X 0)
    by_cases e : p = xp X
    · have er : (fun k : Nat => if p = xp X then x_prow from_ to size seed how k else xP X p k) = x_prow from_ to size seed how := by
        funext k
        exact if_pos e
      rw [er]
      have et : (fun i : Nat => if p = xp X then (-6 : Int32) else xT X p i) = fun _ => -6 := by
        funext i
        exact if_pos e
      rw [et]
      have hc : x_cnt (fun _ => (-6 : Int32)) 4000 = 0 := x_cnt_none 4000 (fun i _ => by decide)
      refine ⟨⟨hf, ht, hs, hse, ?_, (show ib (0 : Int32) 6 from ⟨by decide, by decide⟩), ⟨?_, ?_⟩⟩, fun _ _ => Or.inl rfl, ?_, fun _ => ⟨rfl, rfl⟩, fun hh => absurd hc hh, Or.inl rfl, fun _ => rfl⟩
      · have h9 : how.toInt % 2 = 0 ∨ how.toInt % 2 = 1 := by omega
        rcases h9 with h9 | h9
        · exact Or.inl (i_eq.mpr (e3.trans (by rw [h9]; rfl)))
        · exact Or.inr (i_eq.mpr (e3.trans (by rw [h9]; rfl)))
      · show 1 ≤ (how / 2).toInt
        rw [e2]; omega
      · show (how / 2).toInt ≤ 20
        rw [e2]; omega
      · rw [hc]; rfl
    · have hp4 : p < xp X := by omega
      have er : (fun k : Nat => if p = xp X then x_prow from_ to size seed how k else xP X p k) = xP X p := by
        funext k
        exact if_neg e
      rw [er]
      have et : (fun i : Nat => if p = xp X then (-6 : Int32) else xT X p i) = xT X p := by
        funext i
        exact if_neg e
      rw [et]
      exact h.2.2.2.1 p hp4
  · have h9 := h.2.2.2.2.1 σ hσ
    exact ⟨h9.1.mono (Nat.le_succ _), h9.2⟩
  · show xp X + 1 ≤ 40
    omega
theorem XI.send (h : XI M X) (hp : xp X < 40) (hl : (xS X).length < 300) {from_ to size seed how : Int32} (hf : ib from_ 8) (ht : ib to 8) (hs : 1 ≤ size.toInt ∧ size.toInt ≤ 4000) (hse : ib seed 256) (hh : 2 ≤ how.toInt ∧ how.toInt ≤ 41) : XI M (x_send X from_ to size seed how) := by
  have e2 : (how / 2).toInt = how.toInt / 2 := by
    rw [Int32.toInt_div_of_ne_right _ _ (by decide), Int.tdiv_eq_ediv_of_nonneg (by omega)]
    rfl
  have h1 := h.addP hp hf ht hs hse hh
  have h2 := XI.push h1 (σ := (Int32.ofNat (xp X), 0, size, 1, how / 2, seed, xG X 0, from_)) ⟨ib.of (Nat.lt_succ_self _) (by omega), by show 0 ≤ (0 : Int32).toInt; decide, hs.1, by show (0 : Int32).toInt + size.toInt ≤ 5500; simp only [Int32.reduceToInt]; omega, Or.inr rfl, ⟨by show 0 ≤ (how / 2).toInt; rw [e2]; omega, by show (how / 2).toInt < 21; rw [e2]; omega⟩, hse, ⟨Int.le_refl _, by have := h.1.2; show (xG X 0).toInt ≤ (M : Int) + 6000; omega⟩, hf⟩ hl
  exact h2.g (by decide)
theorem XI.resend (h : XI M X) (hl : (xS X).length < 300) {p : Nat} (hp : p < xp X) : XI M (x_resend X p) := by
  have hq := (h.2.2.2.1 p hp).1
  have h40 := h.2.2.2.2.2.2.1
  have h2 := h.push (σ := (Int32.ofNat p, 0, xP X p 2, 1, xP X p 7, xP X p 3, xG X 0, xP X p 0)) ⟨ib.of hp (by omega), by show 0 ≤ (0 : Int32).toInt; decide, hq.2.2.1.1, by have := hq.2.2.1.2; show (0 : Int32).toInt + (xP X p 2).toInt ≤ 5500; simp only [Int32.reduceToInt]; omega, Or.inr rfl, ⟨by have := hq.2.2.2.2.2.2; show 0 ≤ (xP X p 7).toInt; omega, by have := hq.2.2.2.2.2.2; show (xP X p 7).toInt < 21; omega⟩, hq.2.2.2.1, ⟨Int.le_refl _, by have := h.1.2; show (xG X 0).toInt ≤ (M : Int) + 6000; omega⟩, hq.1⟩ hl
  exact (h2.g (by decide)).p11 (Or.inl rfl)
theorem XI.forge (h : XI M X) (hl : (xS X).length < 300) {p : Nat} (hp : p < xp X) {off len la seed : Int32} (ho : 0 ≤ off.toInt ∧ off.toInt ≤ 3999) (hle : 1 ≤ len.toInt ∧ len.toInt ≤ 1500) (hla : la = 0 ∨ la = 1) (hse : ib seed 256) : XI M (x_forge X p off len la seed) := by
  have hq := (h.2.2.2.1 p hp).1
  have h40 := h.2.2.2.2.2.2.1
  have h2 := h.push (σ := (Int32.ofNat p, off, len, la, 0, seed, xG X 0, xP X p 1)) ⟨ib.of hp (by omega), ho.1, hle.1, by show off.toInt + len.toInt ≤ 5500; omega, hla, (show ib (0 : Int32) 21 from ⟨by decide, by decide⟩), hse, ⟨Int.le_refl _, by have := h.1.2; show (xG X 0).toInt ≤ (M : Int) + 6000; omega⟩, hq.2.1⟩ hl
  exact h2.g (by decide)
theorem XI.node (h : XI M X) {n : Nat} {way to sp : Int32} (hw : ib way 3) (ht : 1 ≤ to.toInt ∧ to.toInt ≤ 500) (hs : 64 ≤ sp.toInt ∧ sp.toInt ≤ 20000) : XI M (x_n (x_n (x_n X n 0 way) n 1 to) n 2 sp) := by
  refine ⟨h.1, fun i hi => ?_, h.2.2⟩
  have h9 := h.2.1 i hi
  have e0 : xN (x_n (x_n (x_n X n 0 way) n 1 to) n 2 sp) i 0 = if i = n then way else xN X i 0 := by
    show p_up (p_up (p_up (xN X) n 0 way) n 1 to) n 2 sp i 0 = _
    rw [p_up_n2 _ _ _ _ (by decide), p_up_n2 _ _ _ _ (by decide)]
    by_cases e : i = n
    · rw [if_pos e, e, p_up_eq]
    · rw [if_neg e, p_up_n1 _ _ _ _ e]
  have e1 : xN (x_n (x_n (x_n X n 0 way) n 1 to) n 2 sp) i 1 = if i = n then to else xN X i 1 := by
    show p_up (p_up (p_up (xN X) n 0 way) n 1 to) n 2 sp i 1 = _
    rw [p_up_n2 _ _ _ _ (by decide)]
    by_cases e : i = n
    · rw [if_pos e, e, p_up_eq]
    · rw [if_neg e, p_up_n1 _ _ _ _ e, p_up_n1 _ _ _ _ e]
  have e2 : xN (x_n (x_n (x_n X n 0 way) n 1 to) n 2 sp) i 2 = if i = n then sp else xN X i 2 := by
    show p_up (p_up (p_up (xN X) n 0 way) n 1 to) n 2 sp i 2 = _
    by_cases e : i = n
    · rw [if_pos e, e, p_up_eq]
    · rw [if_neg e, p_up_n1 _ _ _ _ e, p_up_n1 _ _ _ _ e, p_up_n1 _ _ _ _ e]
  have e3 : ∀ k, xN (x_n (x_n (x_n X n 0 way) n 1 to) n 2 sp) i (3 + k) = xN X i (3 + k) := fun k => by
    show p_up (p_up (p_up (xN X) n 0 way) n 1 to) n 2 sp i (3 + k) = _
    rw [p_up_n2 _ _ _ _ (by omega), p_up_n2 _ _ _ _ (by omega), p_up_n2 _ _ _ _ (by omega)]
  refine ⟨?_, fun k hk => ?_⟩
  · rw [e0, e1, e2]
    by_cases e : i = n
    · rw [if_pos e, if_pos e, if_pos e]; exact ⟨hw, ht.1, ht.2, hs⟩
    · rw [if_neg e, if_neg e, if_neg e]; exact h9.1
  · rw [e3]
    exact h9.2 k hk
theorem XI.route (h : XI M X) {n to : Nat} {b : Int32} (hb : b = -6 ∨ ib b (xb X)) : XI M (x_n X n (3 + to) b) := by
  refine ⟨h.1, fun i hi => ?_, h.2.2⟩
  have h9 := h.2.1 i hi
  have e0 : ∀ k, k < 3 → xN (x_n X n (3 + to) b) i k = xN X i k := fun k hk => p_up_n2 _ _ _ _ (by omega)
  refine ⟨?_, fun k hk => ?_⟩
  · rw [e0 0 (by decide), e0 1 (by decide), e0 2 (by decide)]; exact h9.1
  · show p_up (xN X) n (3 + to) b i (3 + k) = -6 ∨ ib (p_up (xN X) n (3 + to) b i (3 + k)) (xb X)
    unfold p_up
    by_cases e : i = n ∧ 3 + k = 3 + to
    · rw [if_pos e]; exact hb
    · rw [if_neg e]; exact h9.2 k hk
theorem XI.mend (h : XI M X) {b : Nat} {room turns : Int32} (hr : 16 ≤ room.toInt ∧ room.toInt ≤ 1500) (ht : ib turns 100) : XI M (x_b (x_b (x_b X b 2 room) b 5 turns) b 6 0) := by
  refine ⟨h.1, h.2.1, fun c hc => ?_, h.2.2.2⟩
  have h9 := h.2.2.1 c hc
  have eo : ∀ k, k ≠ 2 → k ≠ 5 → k ≠ 6 → xB (x_b (x_b (x_b X b 2 room) b 5 turns) b 6 0) c k = xB X c k := fun k k2 k5 k6 => by
    show p_up (p_up (p_up (xB X) b 2 room) b 5 turns) b 6 0 c k = _
    rw [p_up_n2 _ _ _ _ k6, p_up_n2 _ _ _ _ k5, p_up_n2 _ _ _ _ k2]
  have e2 : xB (x_b (x_b (x_b X b 2 room) b 5 turns) b 6 0) c 2 = if c = b then room else xB X c 2 := by
    show p_up (p_up (p_up (xB X) b 2 room) b 5 turns) b 6 0 c 2 = _
    rw [p_up_n2 _ _ _ _ (by decide), p_up_n2 _ _ _ _ (by decide)]
    by_cases e : c = b
    · rw [if_pos e, e, p_up_eq]
    · rw [if_neg e, p_up_n1 _ _ _ _ e]
  have e5 : xB (x_b (x_b (x_b X b 2 room) b 5 turns) b 6 0) c 5 = if c = b then turns else xB X c 5 := by
    show p_up (p_up (p_up (xB X) b 2 room) b 5 turns) b 6 0 c 5 = _
    rw [p_up_n2 _ _ _ _ (by decide)]
    by_cases e : c = b
    · rw [if_pos e, e, p_up_eq]
    · rw [if_neg e, p_up_n1 _ _ _ _ e, p_up_n1 _ _ _ _ e]
  rw [eo 0 (by decide) (by decide) (by decide), eo 1 (by decide) (by decide) (by decide), eo 3 (by decide) (by decide) (by decide), eo 4 (by decide) (by decide) (by decide), e2, e5]
  by_cases e : c = b
  · rw [if_pos e, if_pos e]; exact ⟨h9.1, h9.2.1, hr, h9.2.2.2.1, h9.2.2.2.2.1, ht⟩
  · rw [if_neg e, if_neg e]; exact h9
theorem XI.addB (h : XI M X) (hb : xb X < 16) {from_ to room delay pace : Int32} (hf : ib from_ 8) (ht : ib to 8) (hr : 16 ≤ room.toInt ∧ room.toInt ≤ 1500) (hd : 1 ≤ delay.toInt ∧ delay.toInt ≤ 50) (hpa : 1 ≤ pace.toInt ∧ pace.toInt ≤ 1000) : XI M (x_addB X (x_brow from_ to room delay pace)) := by
  refine ⟨h.1, fun i hi => ⟨(h.2.1 i hi).1, fun k hk => ((h.2.1 i hi).2 k hk).elim Or.inl (fun h9 => Or.inr (h9.mono (Nat.le_succ _)))⟩, fun c hc => ?_, h.2.2.2.1, h.2.2.2.2.1, hb, h.2.2.2.2.2.2⟩
  have hc2 : c < xb X + 1 := hc
  show ib (if c = xb X then x_brow from_ to room delay pace 0 else xB X c 0) 8 ∧ ib (if c = xb X then x_brow from_ to room delay pace 1 else xB X c 1) 8 ∧ (16 ≤ (if c = xb X then x_brow from_ to room delay pace 2 else xB X c 2).toInt ∧ (if c = xb X then x_brow from_ to room delay pace 2 else xB X c 2).toInt ≤ 1500) ∧ (1 ≤ (if c = xb X then x_brow from_ to room delay pace 3 else xB X c 3).toInt ∧ (if c = xb X then x_brow from_ to room delay pace 3 else xB X c 3).toInt ≤ 50) ∧ (1 ≤ (if c = xb X then x_brow from_ to room delay pace 4 else xB X c 4).toInt ∧ (if c = xb X then x_brow from_ to room delay pace 4 else xB X c 4).toInt ≤ 1000) ∧ ib (if c = xb X then x_brow from_ to room delay pace 5 else xB X c 5) 100
  by_cases e : c = xb X
  · simp only [if_pos e]
    exact ⟨hf, ht, hr, hd, hpa, (show ib (0 : Int32) 100 from ⟨by decide, by decide⟩)⟩
  · simp only [if_neg e]
    exact h.2.2.1 c (by omega)
end XI7
