/-- nothing of the first nS slices and nP parcels is due before v -/
def c_quiet (X : XW) (C : List XC) (nS nP : Nat) (v : Int32) : Prop := (∀ i, i < nS → v ≤ (C.getD i xc0).1.2.2.2.2.2.2.1) ∧ (∀ p, p < nP → p < xp X → 0 < xP X p 12 → v ≤ xP X p 9 + xN X (nn (xP X p 1)) 1)
theorem c_min {x y : Int32} : (if y < x then y else x) ≤ x ∧ (if y < x then y else x) ≤ y := by
  simp only [Int32.le_iff_toInt_le, Int32.lt_iff_toInt_lt]
  split <;> omega
theorem c_letr {x y z : Int32} (h1 : x ≤ y) (h2 : y ≤ z) : x ≤ z := by
  rw [Int32.le_iff_toInt_le] at *
  omega
theorem c_quiet_mn {X : XW} {C : List XC} {nS nP : Nat} {v u : Int32} (h : c_quiet X C nS nP v) (hu : u ≤ v) : c_quiet X C nS nP u := ⟨fun i hi => c_letr hu (h.1 i hi), fun p h1 h2 h3 => c_letr hu (h.2 p h1 h2 h3)⟩
theorem c_quiet_S {X : XW} {C : List XC} {nS nP : Nat} {v : Int32} (h : c_quiet X C nS nP v) (hu : v ≤ (C.getD nS xc0).1.2.2.2.2.2.2.1) : c_quiet X C (nS + 1) nP v := by
  refine ⟨fun i hi => ?_, h.2⟩
  by_cases e : i = nS
  · rw [e]; exact hu
  · exact h.1 i (by omega)
theorem c_quiet_P {X : XW} {C : List XC} {nS nP : Nat} {v : Int32} (h : c_quiet X C nS nP v) (hu : nP < xp X → 0 < xP X nP 12 → v ≤ xP X nP 9 + xN X (nn (xP X nP 1)) 1) : c_quiet X C nS (nP + 1) v := by
  refine ⟨h.1, fun p h1 h2 h3 => ?_⟩
  by_cases e : p = nP
  · subst e; exact hu h2 h3
  · exact h.2 p (by omega) h2 h3
/-! nothing changes in the ticks before -/
theorem x_run_late : ∀ n s (X : XW), (∀ σ, σ ∈ xS X → x_late (xG X 0) σ = true) → x_run n s X = X := by
  intro n
  induction n with
  | zero => intro s X _; rfl
  | succ n ih =>
    intro s X h
    unfold x_run
    by_cases e : s < (xS X).length
    · rw [if_pos e, if_pos (of_decide_eq_true (h _ (x_at_mem e)))]
      exact ih (s + 1) X h
    · rw [if_neg e]
theorem x_times_none (X : XW) : ∀ n, (∀ p, p < n → ¬ (0 ≤ xP X p 9 ∧ xN X (nn (xP X p 1)) 1 ≤ xG X 0 - xP X p 9)) → x_times n X = X := by
  intro n
  induction n with
  | zero => intro _; rfl
  | succ n ih =>
    intro h
    unfold x_times
    dsimp only
    rw [ih (fun p hp => h p (by omega)), if_neg (h n (by omega))]
theorem x_g_g (X : XW) (k : Nat) (u v : Int32) : x_g (x_g X k u) k v = x_g X k v := by
  unfold x_g
  refine Prod.ext ?_ rfl
  funext j
  show (if j = k then v else (if j = k then u else xG X j)) = (if j = k then v else xG X j)
  split <;> rfl
theorem x_g_id (X : XW) (k : Nat) : x_g X k (xG X k) = X := by
  unfold x_g
  refine Prod.ext ?_ rfl
  funext j
  show (if j = k then xG X k else xG X j) = xG X j
  split
  · rename_i e; rw [e]
  · rfl
theorem c_still_tick {M : Nat} {X : XW} (hI : XI M X) (hM : M < 90000000) {T : Int32} (h0 : 0 ≤ T.toInt) (hT : T.toInt < 200000000) (hS : ∀ σ, σ ∈ xS X → T < σ.2.2.2.2.2.2.1) (hP : ∀ p, p < xp X → 0 < xP X p 12 → T < xP X p 9 + xN X (nn (xP X p 1)) 1) : x_tick (x_g X 0 T) = x_g X 0 (T + 1) := by
  have e0 : xG (x_g X 0 T) 0 = T := x_g_e
  have e1 : x_run 601 0 (x_g X 0 T) = x_g X 0 T := x_run_late 601 0 _ (fun σ hσ => by rw [e0]; exact decide_eq_true (hS σ hσ))
  unfold x_tick
  dsimp only
  rw [e1]
  have e2 : x_times (xp (x_g X 0 T)) (x_g X 0 T) = x_g X 0 T := x_times_none _ _ (fun p hp => by
    rw [e0]
    rintro ⟨g1, g2⟩
    have hp2 : p < xp X := hp
    have hq := hI.2.2.2.1 p hp2
    have g3 : (0 : Int32) ≤ xP X p 9 := g1
    have g4 := hP p hp2 (hq.here.1.mpr g3)
    have g5 : xN X (nn (xP X p 1)) 1 ≤ T - xP X p 9 := g2
    have h9 : x_cnt (xT X p) 4000 ≠ 0 := fun hh => by
      rw [(hq.2.2.2.1 hh).1] at g3
      exact absurd g3 (by decide)
    have h8 := hq.2.2.2.2.1 h9
    have h7 := hI.1
    have h6 := (hI.2.1 _ hq.1.2.1.nn).1
    rw [Int32.le_iff_toInt_le, i_sub' (by omega) (by omega)] at g5
    rw [Int32.lt_iff_toInt_lt, i_add' (by omega) (by omega)] at g4
    omega)
  rw [e2, e0]
  exact x_g_g X 0 T (T + 1)
theorem c_leap {M : Nat} {X : XW} (hI : XI M X) (hM : M < 90000000) {v : Int32} (hS : ∀ σ, σ ∈ xS X → v ≤ σ.2.2.2.2.2.2.1) (hP : ∀ p, p < xp X → 0 < xP X p 12 → v ≤ xP X p 9 + xN X (nn (xP X p 1)) 1) : ∀ k : Nat, k ≤ 2000 → (xG X 0).toInt + k ≤ v.toInt → x_ticks k X = x_g X 0 (xG X 0 + Int32.ofNat k) := by
  intro k
  induction k with
  | zero => intro _ _; rw [show xG X 0 + Int32.ofNat 0 = xG X 0 from Int32.add_zero _, x_g_id]; rfl
  | succ k ih =>
    intro hk hv
    have h7 := hI.1
    have ek : (xG X 0 + Int32.ofNat k).toInt = (xG X 0).toInt + k := by
      rw [i_add' (by rw [n_int (by omega)]; omega) (by rw [n_int (by omega)]; omega), n_int (by omega)]
    show x_tick (x_ticks k X) = _
    rw [ih (by omega) (by omega), c_still_tick hI hM (by omega) (by omega) (fun σ hσ => ?_) (fun p h1 h2 => ?_), Int32.add_assoc]
    · rw [show Int32.ofNat k + 1 = Int32.ofNat (k + 1) from n_succ k]
    · have := hS σ hσ
      rw [Int32.le_iff_toInt_le] at this
      rw [Int32.lt_iff_toInt_lt]
      omega
    · have := hP p h1 h2
      rw [Int32.le_iff_toInt_le] at this
      rw [Int32.lt_iff_toInt_lt]
      omega
section Cls17
variable {g : PG} {L : PL} {FI AI : Nat → Nat → Int32} {AL : Nat → Nat → Int64} {AR : Nat → Nat → Option Nat} {w : Nat} {X : XW} {C : List XC} {U : Nat} {sa : Nat → Nat} {M : Nat} {e : Int32}
theorem s_nextEvent (h : CW L FI AI AL AR w X C U sa) (hI : XI M X) : Sp g 3 iX6_nextEvent [vr w, vi e] (L, FI, AI, AL, AR) (0, 0) (fun r σ => ∃ v, r = some (vi (if xG X 0 < v then v else xG X 0)) ∧ σ = (L, FI, AI, AL, AR) ∧ v ≤ e ∧ c_quiet X C C.length 40 v) := by
  refine Sp.of (ls := [some (vr w), some (vi e), none, none, none, none, none]) (by decide +kernel) rfl rfl ?_
  have hw := h.wf
  have hA := h.wa
  have hb16 := h.b16
  have hp40 := h.p40
  have hc601 := h.c601
  have loop2 : ∀ n i : Nat, i + n = 40 → ∀ v : Int32, v ≤ e → c_quiet X C C.length i v → P g 3 iX6_nextEvent 44 [some (vr w), some (vi e), some (vi v), some (vr (w + 3)), some (vi (Int32.ofNat 40)), some (vi (Int32.ofNat i)), none] [] (L, FI, AI, AL, AR) (0, 0) (fun r σ => ∃ v, r = some (vi (if xG X 0 < v then v else xG X 0)) ∧ σ = (L, FI, AI, AL, AR) ∧ v ≤ e ∧ c_quiet X C C.length 40 v) := by
    intro n
    induction n with
    | zero =>
      intro i hi v hv hq
      refine P_iload (i := 5) rfl dX6_nextEvent_44 ?_
      refine P_iload (i := 4) rfl dX6_nextEvent_46 ?_
      refine P_icmpge dX6_nextEvent_48 (tgt := 82) rfl (fun h48 => ?_) (fun h48 => absurd ((n_le (a := 40) (b := i) (by omega) (by omega)).mpr (by omega)) h48)
      refine P_aloadn (i := 0) rfl rfl dX6_nextEvent_82 ?_
      refine gX6_46 rfl (by first | assumption | exact hw.kw | exact hw.k4 | exact hw.k3 | exact hw.k1) h.g.1 dX6_nextEvent_83 ?_
      refine P_iloadn (i := 2) rfl rfl dX6_nextEvent_86 ?_
      refine mX6_225 rfl dX6_nextEvent_87 rfl ?_
      refine P_ireturn rfl dX6_nextEvent_90 ?_
      exact ⟨v, rfl, rfl, hv, by rw [show 40 = i by omega]; exact hq⟩
    | succ n ih =>
      intro i hi v hv hq
      refine P_iload (i := 5) rfl dX6_nextEvent_44 ?_
      refine P_iload (i := 4) rfl dX6_nextEvent_46 ?_
      refine P_icmpge dX6_nextEvent_48 (tgt := 82) rfl (fun h48 => absurd h48 (fun h8 => by have h7 := (n_le (a := 40) (b := i) (by omega) (by omega)).mp h8; omega)) (fun h48 => ?_)
      refine P_aloadn (i := 3) rfl rfl dX6_nextEvent_51 ?_
      refine P_iload (i := 5) rfl dX6_nextEvent_52 ?_
      refine P_aaN (t := 26) (j := i) (by decide) (by first | assumption | exact hw.kw | exact hw.k4 | exact hw.k3 | exact hw.k1) rfl (by omega) (by rw [hw.l3]; omega) (hA.2.2.1 i (by omega)) dX6_nextEvent_54 ?_
      refine P_as6 (Or.inr dX6_nextEvent_55) rfl rfl ?_
      refine P_aload (i := 6) rfl dX6_nextEvent_57 ?_
      refine gX6_218 rfl (hw.kP (by omega)) rfl dX6_nextEvent_59 ?_
      refine P_ifle dX6_nextEvent_62 (tgt := 76) rfl (fun h62 => ?_) (fun h62 => ?_)
      · refine P_inN5 dX6_nextEvent_76 rfl rfl ?_
        refine P_goto dX6_nextEvent_79 (tgt := 44) rfl ?_
        have h0 := ih (i + 1) (by omega) v hv (c_quiet_P hq (fun g1 g2 => absurd h62 (Int32.not_le.mpr (by rw [((h.p i (by omega)).1 g1).1.2.2.2.2.2.2.2.2.2.2.2]; exact g2))))
        refine P_few ?_ h0
        exact ⟨rfl, rfl, rfl, rfl, rfl, rfl, trivial⟩
      · have e9 : i < xp X := Decidable.byContradiction fun e9 => h62 (by rw [((h.p i (by omega)).2 (by omega)).2.2.2.2.2.1]; decide)
        have hpr := ((h.p i (by omega)).1 e9).1
        have hth : 0 < xP X i 12 := by rw [← hpr.2.2.2.2.2.2.2.2.2.2.2]; exact Int32.not_le.mp h62
        have hfp : FI 140 (w + 39 + 2 * i) = xP X i 9 := (((h.p i (by omega)).1 e9).2.1 (fun hh => by rw [hh] at hth; exact absurd hth (by decide))).1
        have hto := (hI.2.2.2.1 i e9).1.2.1
        refine P_iloadn (i := 2) rfl rfl dX6_nextEvent_65 ?_
        refine P_aloadn (i := 0) rfl rfl dX6_nextEvent_66 ?_
        refine P_aload (i := 6) rfl dX6_nextEvent_67 ?_
        refine kX6_221 rfl (s_overdueAt h e9 hto hfp) (by decide) (by first | assumption | exact hw.kw | exact hw.k4 | exact hw.k3 | exact hw.k1) rfl dX6_nextEvent_69 (fun r69 s69 q69 => ?_)
        obtain ⟨rfl, rfl⟩ := q69
        refine mX6_212 rfl dX6_nextEvent_72 rfl ?_
        refine P_is2 (Or.inl dX6_nextEvent_75) rfl rfl ?_
        refine P_inN5 dX6_nextEvent_76 rfl rfl ?_
        refine P_goto dX6_nextEvent_79 (tgt := 44) rfl ?_
        have h0 := ih (i + 1) (by omega) _ (c_letr c_min.1 hv) (c_quiet_P (c_quiet_mn hq c_min.1) (fun g1 g2 => c_min.2))
        refine P_few ?_ h0
        exact ⟨rfl, rfl, rfl, rfl, rfl, rfl, trivial⟩
  have loop : ∀ n i : Nat, i + n = C.length → ∀ v : Int32, v ≤ e → c_quiet X C i 0 v → P g 3 iX6_nextEvent 4 [some (vr w), some (vi e), some (vi v), some (vi (Int32.ofNat i)), none, none, none] [] (L, FI, AI, AL, AR) (0, 0) (fun r σ => ∃ v, r = some (vi (if xG X 0 < v then v else xG X 0)) ∧ σ = (L, FI, AI, AL, AR) ∧ v ≤ e ∧ c_quiet X C C.length 40 v) := by
    intro n
    induction n with
    | zero =>
      intro i hi v hv hq
      refine P_iloadn (i := 3) rfl rfl dX6_nextEvent_4 ?_
      refine P_aloadn (i := 0) rfl rfl dX6_nextEvent_5 ?_
      refine gX6_56 rfl (by first | assumption | exact hw.kw | exact hw.k4 | exact hw.k3 | exact hw.k1) h.g.2.2.2.1 dX6_nextEvent_6 ?_
      refine P_icmpge dX6_nextEvent_9 (tgt := 32) rfl (fun h9 => ?_) (fun h9 => absurd ((n_le (a := C.length) (b := i) (by omega) (by omega)).mpr (by omega)) h9)
      refine P_aloadn (i := 0) rfl rfl dX6_nextEvent_32 ?_
      refine gX6_25 rfl (by first | assumption | exact hw.kw | exact hw.k4 | exact hw.k3 | exact hw.k1) hw.r197 dX6_nextEvent_33 ?_
      refine P_as3 (Or.inl dX6_nextEvent_36) rfl rfl ?_
      refine P_aloadn (i := 3) rfl rfl dX6_nextEvent_37 ?_
      refine P_lenN (t := 26) (by decide) (by first | assumption | exact hw.kw | exact hw.k4 | exact hw.k3 | exact hw.k1) (by rw [hw.l3]) dX6_nextEvent_38 ?_
      refine P_is4 (Or.inr dX6_nextEvent_39) rfl rfl ?_
      refine P_iconst (v := 0) rfl dX6_nextEvent_41 ?_
      refine P_is5 (Or.inr dX6_nextEvent_42) rfl rfl ?_
      exact loop2 40 0 (by omega) v hv (by rw [show C.length = i by omega]; exact hq)
    | succ n ih =>
      intro i hi v hv hq
      refine P_iloadn (i := 3) rfl rfl dX6_nextEvent_4 ?_
      refine P_aloadn (i := 0) rfl rfl dX6_nextEvent_5 ?_
      refine gX6_56 rfl (by first | assumption | exact hw.kw | exact hw.k4 | exact hw.k3 | exact hw.k1) h.g.2.2.2.1 dX6_nextEvent_6 ?_
      refine P_icmpge dX6_nextEvent_9 (tgt := 32) rfl (fun h9 => absurd h9 (fun h8 => by have h7 := (n_le (a := C.length) (b := i) (by omega) (by omega)).mp h8; omega)) (fun h9 => ?_)
      refine P_iloadn (i := 2) rfl rfl dX6_nextEvent_12 ?_
      refine P_aloadn (i := 0) rfl rfl dX6_nextEvent_13 ?_
      refine gX6_31 rfl (by first | assumption | exact hw.kw | exact hw.k4 | exact hw.k3 | exact hw.k1) hw.r198 dX6_nextEvent_14 ?_
      refine P_iloadn (i := 3) rfl rfl dX6_nextEvent_17 ?_
      refine P_aaN (t := 27) (j := i) (by decide) (by first | assumption | exact hw.kw | exact hw.k4 | exact hw.k3 | exact hw.k1) rfl (by omega) (by rw [hw.l4]; omega) (hA.s (by omega)) dX6_nextEvent_18 ?_
      refine gX6_202 rfl (hw.ks hA (by omega)) (h.s i (by omega)).1.2.2.2.2.2.2.1 dX6_nextEvent_19 ?_
      refine mX6_212 rfl dX6_nextEvent_22 rfl ?_
      refine P_is2 (Or.inl dX6_nextEvent_25) rfl rfl ?_
      refine P_inN3 dX6_nextEvent_26 rfl rfl ?_
      refine P_goto dX6_nextEvent_29 (tgt := 4) rfl ?_
      exact ih (i + 1) (by omega) _ (c_letr c_min.1 hv) (c_quiet_S (c_quiet_mn hq c_min.1) c_min.2)
  refine P_iloadn (i := 1) rfl rfl dX6_nextEvent_0 ?_
  refine P_is2 (Or.inl dX6_nextEvent_1) rfl rfl ?_
  refine P_iconst (v := 0) rfl dX6_nextEvent_2 ?_
  refine P_is3 (Or.inl dX6_nextEvent_3) rfl rfl ?_
  exact loop C.length 0 (by omega) e (Int32.le_iff_toInt_le.mpr (Int.le_refl _)) ⟨fun i hi => absurd hi (Nat.not_lt_zero _), fun p hp => absurd hp (Nat.not_lt_zero _)⟩
end Cls17
