/-! ===== a parcel's state: once it is not 0 it stays, and the tick of the change is kept ===== -/
def x_st (q : Nat) (X Y : XW) : Prop := (¬ xP X q 5 = 0 → xP Y q 5 = xP X q 5 ∧ xP Y q 10 = xP X q 10) ∧ (xP X q 5 = 0 → xP Y q 5 = 0 ∨ (¬ xP Y q 5 = 0 ∧ xP Y q 10 = xG X 0))
section St
variable {M q : Nat} {X Y W : XW}
theorem x_st.of (h5 : xP Y q 5 = xP X q 5) (h10 : xP Y q 10 = xP X q 10) : x_st q X Y := ⟨fun _ => ⟨h5, h10⟩, fun h => Or.inl (h5.trans h)⟩
theorem x_st.rf (q : Nat) (X : XW) : x_st q X X := x_st.of rfl rfl
theorem x_st.tr (h1 : x_st q X Y) (h2 : x_st q Y W) (hG : xG Y 0 = xG X 0) : x_st q X W := by
  refine ⟨fun h => ?_, fun h => ?_⟩
  · obtain ⟨a1, a2⟩ := h1.1 h
    obtain ⟨b1, b2⟩ := h2.1 (by rw [a1]; exact h)
    exact ⟨b1.trans a1, b2.trans a2⟩
  · rcases h1.2 h with a | ⟨a1, a2⟩
    · rcases h2.2 a with b | ⟨b1, b2⟩
      · exact Or.inl b
      · exact Or.inr ⟨b1, b2.trans hG⟩
    · obtain ⟨b1, b2⟩ := h2.1 a1
      exact Or.inr ⟨by rw [b1]; exact a1, b2.trans a2⟩
theorem x_st.end_ {p : Nat} {st : Int32} (h0 : xP X p 5 = 0) (hs : ¬ st = 0) : x_st q X (x_end X p st) := by
  have e : ∀ k, xP (x_end X p st) q k = if q = p ∧ k = 8 then -6 else if q = p ∧ k = 9 then -6 else if q = p ∧ k = 12 then 0 else if q = p ∧ k = 10 then xG X 0 else if q = p ∧ k = 5 then st else xP X q k := fun k => rfl
  by_cases c : q = p
  · subst c
    refine ⟨fun h => absurd h0 h, fun _ => Or.inr ⟨?_, ?_⟩⟩
    · rw [e, if_neg (by omega), if_neg (by omega), if_neg (by omega), if_neg (by omega), if_pos ⟨rfl, rfl⟩]
      exact hs
    · rw [e, if_neg (by omega), if_neg (by omega), if_neg (by omega), if_pos ⟨rfl, rfl⟩]
  · exact x_st.of (by rw [e, if_neg (by omega), if_neg (by omega), if_neg (by omega), if_neg (by omega), if_neg (by omega)]) (by rw [e, if_neg (by omega), if_neg (by omega), if_neg (by omega), if_neg (by omega), if_neg (by omega)])
theorem x_st.cd {p why : Nat} : x_st q X (x_cd X p why) := x_st.of (show (if q = p ∧ 5 = 11 then _ else xP X q 5) = xP X q 5 from if_neg (by omega)) (show (if q = p ∧ 10 = 11 then _ else xP X q 10) = xP X q 10 from if_neg (by omega))
theorem x_st.drop {s why : Nat} : x_st q X (x_drop X s why) := x_st.cd (X := X) (p := nn (x_at X s).1) (why := why)
theorem x_st.eP (h : xP Y = xP X) : x_st q X Y := x_st.of (by rw [h]) (by rw [h])
theorem x_st.space {node : Int32} (hn : ib node 8) : ∀ n (X : XW), XI M X → x_st q X (x_space node n X) := by
  intro n
  induction n with
  | zero => intro X _; exact x_st.rf q X
  | succ n ih =>
    intro X hI
    rw [show x_space node (n + 1) X = if xN X (nn node) 2 < x_bytes (xP X) node (xp X) then x_space node n (x_end X (nn (x_best (xP X) node (xp X))) 4) else X from rfl]
    by_cases c : xN X (nn node) 2 < x_bytes (xP X) node (xp X)
    · rw [if_pos c]
      rcases x_best_spec (xP X) node (xp X) (by have := hI.2.2.2.2.2.2.1; omega) with h9 | ⟨b, h1, h2, h3, h4⟩
      · exfalso
        rw [x_best_none hI (by rw [h9.1]; decide)] at c
        have h8 := (hI.2.1 _ hn.nn).1.2.2.2.1
        rw [Int32.lt_iff_toInt_lt] at c
        simp only [Int32.reduceToInt] at c
        omega
      · rw [h2, nn_ofn (by have := hI.2.2.2.2.2.2.1; omega)]
        have hq := hI.2.2.2.1 b h1
        have h0 : xP X b 5 = 0 := hq.nz (fun hh => absurd (hq.here.1.mpr h4) (by rw [hh]; decide))
        exact (x_st.end_ h0 (by decide)).tr (ih _ (hI.end_ ⟨by decide, by decide⟩ (by decide))) rfl
    · rw [if_neg c]
      exact x_st.rf q X
theorem x_space_G {node : Int32} : ∀ n (X : XW), xG (x_space node n X) 0 = xG X 0 := by
  intro n
  induction n with
  | zero => intro X; rfl
  | succ n ih =>
    intro X
    rw [show x_space node (n + 1) X = if xN X (nn node) 2 < x_bytes (xP X) node (xp X) then x_space node n (x_end X (nn (x_best (xP X) node (xp X))) 4) else X from rfl]
    split
    · exact (ih _).trans rfl
    · rfl
theorem x_st.fin_ {p : Nat} (h0 : xP X p 5 = 0) : x_st q X (x_fin X p) := by
  unfold x_fin
  split
  · exact x_st.rf q X
  · exact x_st.end_ h0 (by split <;> decide)
theorem x_st.put (hI : XI M X) {s : Nat} (hs : s < (xS X).length) : x_st q X (x_put X s) := by
  rw [x_put_eq]
  by_cases c1 : ¬ xP X (nn (x_at X s).1) 5 = 0
  · rw [if_pos c1]; exact x_st.drop
  · rw [if_neg c1]
    have h0 := Decidable.not_not.mp c1
    by_cases c2 : x_wrong X (nn (x_at X s).1) ((x_at X s).2.1 + (x_at X s).2.2.1) (decide ((x_at X s).2.2.2.1 = 1)) = true
    · rw [if_pos c2]; exact x_st.drop
    · rw [if_neg c2]
      have h2 := hI.put2 hs h0 (by simpa using c2)
      have hp : nn (x_at X s).1 < xp X := (hI.2.2.2.2.1 _ (x_at_mem hs)).1.nn
      have hn := (hI.2.2.2.1 _ hp).1.2.1
      have s2 : x_st q X (x_put2 X s) ∧ xG (x_put2 X s) 0 = xG X 0 := by
        unfold x_put2
        dsimp only
        split
        · exact ⟨x_st.end_ (X := x_g (x_rm X s) 6 (xG X 6 + 1)) h0 (by decide), rfl⟩
        · refine ⟨x_st.of ?_ ?_, rfl⟩
          · exact (p_up_n2 _ _ _ _ (by decide)).trans ((p_up_n2 _ _ _ _ (by decide)).trans (p_up_n2 _ _ _ _ (by decide)))
          · exact (p_up_n2 _ _ _ _ (by decide)).trans ((p_up_n2 _ _ _ _ (by decide)).trans (p_up_n2 _ _ _ _ (by decide)))
      have s3 := s2.1.tr (x_st.space (M := M) (q := q) hn 40 _ h2) s2.2
      have g3 : xG (x_space (xP X (nn (x_at X s).1) 1) 40 (x_put2 X s)) 0 = xG X 0 := (x_space_G _ _).trans s2.2
      unfold x_put3
      by_cases c3 : xP (x_space (xP X (nn (x_at X s).1) 1) 40 (x_put2 X s)) (nn (x_at X s).1) 5 = 0
      · rw [if_pos c3]
        exact s3.tr (x_st.fin_ c3) g3
      · rw [if_neg c3]
        exact s3
theorem x_c1_P {b p : Nat} {fr to e la ho se : Int32} : (xP (x_c1 X b p fr to e la ho se) q 5 = xP X q 5 ∧ xP (x_c1 X b p fr to e la ho se) q 10 = xP X q 10) := by
  unfold x_c1
  split
  · exact ⟨if_neg (by omega), if_neg (by omega)⟩
  · split
    · refine ⟨?_, ?_⟩
      · rw [show xP (x_cd (x_takes (x_g X 4 (xG X 4 + 1)) b (to - fr)) p 4) q 5 = xP (x_takes (x_g X 4 (xG X 4 + 1)) b (to - fr)) q 5 from if_neg (by omega), (x_takes_same _ _ _).2.2.1]
        rfl
      · rw [show xP (x_cd (x_takes (x_g X 4 (xG X 4 + 1)) b (to - fr)) p 4) q 10 = xP (x_takes (x_g X 4 (xG X 4 + 1)) b (to - fr)) q 10 from if_neg (by omega), (x_takes_same _ _ _).2.2.1]
        rfl
    · refine ⟨?_, ?_⟩
      · show xP (x_takes (x_g X 4 (xG X 4 + 1)) b (to - fr)) q 5 = xP X q 5
        rw [(x_takes_same _ _ _).2.2.1]
        rfl
      · show xP (x_takes (x_g X 4 (xG X 4 + 1)) b (to - fr)) q 10 = xP X q 10
        rw [(x_takes_same _ _ _).2.2.1]
        rfl
theorem x_cut_P {b p : Nat} {each e la ho se : Int32} : ∀ n (X : XW) (fr : Int32), xP (x_cut X b p each e la ho se n fr) q 5 = xP X q 5 ∧ xP (x_cut X b p each e la ho se n fr) q 10 = xP X q 10 := by
  intro n
  induction n with
  | zero => intro X fr; exact ⟨rfl, rfl⟩
  | succ n ih =>
    intro X fr
    by_cases c : fr < e
    · rw [x_cut_s c rfl]
      have h1 := ih (x_c1 X b p fr (if fr + each < e then fr + each else e) e la ho se) (if fr + each < e then fr + each else e)
      exact ⟨h1.1.trans x_c1_P.1, h1.2.trans x_c1_P.2⟩
    · rw [x_cut_x c]
      exact ⟨rfl, rfl⟩
theorem x_st.still (hI : XI M X) {s : Nat} (hs : s < (xS X).length) : x_st q X (x_still X s).1 := by
  unfold x_still
  dsimp only
  split
  · exact x_st.put hI hs
  · split
    · exact x_st.drop
    · split
      · exact x_st.drop
      · split
        · exact x_st.drop
        · split
          · exact x_st.of (x_cut_P _ _ _).1 (x_cut_P _ _ _).2
          · split
            · exact (x_st.eP (x_takes_same X _ _).2.2.1).tr x_st.drop (by rw [(x_takes_same X _ _).1])
            · exact x_st.eP (x_takes_same X _ _).2.2.1
theorem x_st.run (hM : M < 100000000) : ∀ n s (X : XW), XI M X → x_st q X (x_run n s X) := by
  intro n
  induction n with
  | zero => intro s X _; exact x_st.rf q X
  | succ n ih =>
    intro s X hI
    rw [x_run_s]
    split
    · rename_i hs
      split
      · exact ih (s + 1) X hI
      · obtain ⟨k1, k2, _⟩ := hI.still hM hs
        have h1 := x_st.still (q := q) hI hs
        split
        · exact h1.tr (ih (s + 1) _ k1) k2.1
        · exact h1.tr (ih s _ k1) k2.1
    · exact x_st.rf q X
theorem x_st.times : ∀ n (X : XW), XI M X → n ≤ xp X → x_st q X (x_times n X) := by
  intro n
  induction n with
  | zero => intro X _ _; exact x_st.rf q X
  | succ n ih =>
    intro X hI hn
    have h1 := ih X hI (by omega)
    obtain ⟨k1, k2, _⟩ := XI.times (M := M) n X hI
    unfold x_times
    dsimp only
    split
    · rename_i c
      have hq := k1.2.2.2.1 n (by rw [k2.2.2.2]; omega)
      have h0 : xP (x_times n X) n 5 = 0 := hq.nz (fun hh => absurd (hq.here.1.mpr c.1) (by rw [hh]; decide))
      exact h1.tr (x_st.end_ h0 (by decide)) k2.1
    · exact h1
theorem x_st.tick (hM : M < 90000000) (hI : XI M X) : x_st q X (x_tick X) := by
  obtain ⟨r1, r2, _⟩ := XI.run (M := M) (by omega) 601 0 X hI (xr_fin_0 (by omega) hI) (fun i σ hi => by omega)
  have h1 := x_st.run (q := q) (M := M) (by omega) 601 0 X hI
  have h2 := x_st.times (q := q) (xp (x_run 601 0 X)) _ r1 (Nat.le_refl _)
  exact h1.tr h2 r2.1
theorem x_dn_none {p : Nat} : ∀ n i, (∀ j, i ≤ j → j < i + n → xP (x_ticks j X) p 5 = 0) → x_dn X p n i = i + n := by
  intro n
  induction n with
  | zero => intro i _; rfl
  | succ n ih =>
    intro i h
    rw [show x_dn X p (n + 1) i = x_dn X p n (i + 1) from if_pos (h i (Nat.le_refl _) (by omega)), ih (i + 1) (fun j h1 h2 => h j (by omega) (by omega))]
    omega
theorem x_dn_at {p k : Nat} (hk : ¬ xP (x_ticks k X) p 5 = 0) : ∀ n i, (∀ j, i ≤ j → j < k → xP (x_ticks j X) p 5 = 0) → i ≤ k → k < i + n → x_dn X p n i = k := by
  intro n
  induction n with
  | zero => intro i _ h1 h2; omega
  | succ n ih =>
    intro i h h1 h2
    by_cases e : i = k
    · subst e
      exact if_neg hk
    · rw [show x_dn X p (n + 1) i = x_dn X p n (i + 1) from if_pos (h i (Nat.le_refl _) (by omega))]
      exact ih (i + 1) (fun j g1 g2 => h j (by omega) g2) (by omega) (by omega)
theorem x_st_stay (hI : XI M X) {i : Nat} (h : ¬ xP (x_ticks i X) q 5 = 0) : ∀ n : Nat, M + (i + n) < 90000000 → xP (x_ticks (i + n) X) q 5 = xP (x_ticks i X) q 5 ∧ xP (x_ticks (i + n) X) q 10 = xP (x_ticks i X) q 10 := by
  intro n
  induction n with
  | zero => intro _; exact ⟨rfl, rfl⟩
  | succ n ih =>
    intro hM
    obtain ⟨a1, a2⟩ := ih (by omega)
    have h1 := (XI.ticks X (i + n) (by omega) hI).1
    obtain ⟨b1, b2⟩ := (x_st.tick (q := q) (by omega) h1).1 (by rw [a1]; exact h)
    exact ⟨b1.trans a1, b2.trans a2⟩
theorem x_st_when (hI : XI M X) (h0 : xP X q 5 = 0) : ∀ n : Nat, M + n < 90000000 → ¬ xP (x_ticks n X) q 5 = 0 → ∃ j, j < n ∧ xP (x_ticks n X) q 10 = xG (x_ticks j X) 0 ∧ ¬ xP (x_ticks (j + 1) X) q 5 = 0 ∧ ∀ i, i ≤ j → xP (x_ticks i X) q 5 = 0 := by
  intro n
  induction n with
  | zero => intro _ h; exact absurd h0 h
  | succ n ih =>
    intro hM h
    have h1 := (XI.ticks X n (by omega) hI).1
    have h2 := x_st.tick (q := q) (by omega) h1
    by_cases c : xP (x_ticks n X) q 5 = 0
    · rcases h2.2 c with e | ⟨_, e⟩
      · exact absurd e h
      · refine ⟨n, by omega, e, h, fun i hi => Decidable.byContradiction fun hh => ?_⟩
        have h3 := (x_st_stay hI hh (n - i) (by omega)).1
        rw [show i + (n - i) = n by omega] at h3
        exact hh (h3.symm.trans c)
    · obtain ⟨j, k1, k2, k3, k4⟩ := ih (by omega) c
      exact ⟨j, by omega, (h2.1 c).2.trans k2, k3, k4⟩
end St
