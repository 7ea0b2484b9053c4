/-- an order: its kind, three numbers, its mark -/
abbrev TO : Type := Int32 × Int32 × Int32 × Int32 × Int32
def k_nu (c : Nat → Int32) (n : Nat) (x : Nat × Bool) : Nat × Bool := if (x.2 || !t_dg c n 57 x.1) = true then (x.1, true) else ((q_num c n x.1).2, false)
def q_os (c : Nat → Int32) (n s : Nat) : Nat × Bool := k_if c n 33 (k_nu c n (k_sign c n 42 (k_one c n 55 (k_sign c n 62 (k_one c n 55 (s + 1, false))))))
def q_of (c : Nat → Int32) (n s : Nat) : Nat × Bool := k_if c n 46 (k_nu c n (k_sign c n 42 (k_nu c n (k_sign c n 43 (k_nu c n (s + 1, false))))))
/-- where an order from s on ends, or its fault stands -/
def q_o (c : Nat → Int32) (n s : Nat) : Nat × Bool :=
  if t_nx c n s = 115 then q_os c n s else if t_nx c n s = 102 then q_of c n s else if t_nx c n s = 114 ∨ t_nx c n s = 116 then k_nu c n (s + 1, false) else (s, true)
def q_to (c : Nat → Int32) (n s : Nat) : TO :=
  if t_nx c n s = 115 then (115, Int32.ofNat (t_d c n (s + 1)), Int32.ofNat (t_d c n (s + 3)), Int32.ofNat (q_num c n (s + 5)).1, if t_nx c n (q_num c n (s + 5)).2 = 33 then 1 else 0)
  else if t_nx c n s = 102 then (102, Int32.ofNat (q_num c n (s + 1)).1, Int32.ofNat (q_num c n ((q_num c n (s + 1)).2 + 1)).1, Int32.ofNat (q_num c n ((q_num c n ((q_num c n (s + 1)).2 + 1)).2 + 1)).1, if t_nx c n (q_num c n ((q_num c n ((q_num c n (s + 1)).2 + 1)).2 + 1)).2 = 46 then 1 else 0)
  else (t_nx c n s, Int32.ofNat (q_num c n (s + 1)).1, 0, 0, 0)
def q_run (c : Nat → Int32) (n : Nat) : Nat → Nat → List TO → Int32 × List TO
  | 0, s, acc => (Int32.ofNat s, acc)
  | f + 1, s, acc =>
    if (q_o c n s).2 = true then (Int32.ofNat (q_o c n s).1, acc)
    else if n ≤ (q_o c n s).1 then (-6, acc ++ [q_to c n s])
    else if ¬ t_nx c n (q_o c n s).1 = 59 then (Int32.ofNat (q_o c n s).1, acc ++ [q_to c n s])
    else q_run c n f ((q_o c n s).1 + 1) (acc ++ [q_to c n s])
def a_fault (Z : ZW) : Int32 := (q_run (zC Z) (zn Z) 81 0 []).1
def kR (c : Nat → Int32) (n : Nat) (x y : Nat × Bool) : Prop := x = y ∨ (x = (y.1, true) ∧ y.2 = false ∧ t_dg c n 57 y.1 = true)
section KRp
variable {c : Nat → Int32} {n : Nat} {x y : Nat × Bool}
theorem t_dg_ne {g : Int32} {s : Nat} (h : t_dg c n 57 s = true) (hg : g.toInt < 48 ∨ 57 < g.toInt) : ¬ t_nx c n s = g := by
  intro e
  have h1 := of_decide_eq_true h
  have h2 := h1.1
  have h3 := h1.2
  rw [e] at h2 h3
  rw [Int32.le_iff_toInt_le] at h2 h3
  simp only [Int32.reduceToInt] at h2 h3
  omega
theorem kR.sign (h : kR c n x y) {g : Int32} (hg : g.toInt < 48 ∨ 57 < g.toInt) : k_sign c n g x = k_sign c n g y := by
  rcases h with h | ⟨h1, h2, h3⟩
  · rw [h]
  · obtain ⟨e, w⟩ := y
    dsimp only at h1 h2 h3
    subst h1
    subst h2
    have h4 := t_dg_ne h3 hg
    unfold k_sign
    dsimp only
    rw [decide_eq_true h4]
    rfl
theorem kR.kif (h : kR c n x y) {g : Int32} (hg : g.toInt < 48 ∨ 57 < g.toInt) : kR c n (k_if c n g x) (k_if c n g y) := by
  rcases h with h | ⟨h1, h2, h3⟩
  · rw [h]; exact Or.inl rfl
  · obtain ⟨e, w⟩ := y
    dsimp only at h1 h2 h3
    subst h1
    subst h2
    have h4 := t_dg_ne h3 hg
    refine Or.inr ?_
    have e1 : k_is c n g (e, true) = false := rfl
    have e2 : k_is c n g (e, false) = false := by
      show (!false && decide (t_nx c n e = g)) = false
      rw [decide_eq_false h4]
      rfl
    unfold k_if
    rw [e1, e2]
    exact ⟨rfl, rfl, h3⟩
theorem kR_num : kR c n (k_num c n x) (k_nu c n x) := by
  unfold k_num k_nu
  by_cases e : (x.2 || !t_dg c n 57 x.1) = true
  · rw [if_pos e, if_pos e]; exact Or.inl rfl
  · rw [if_neg e, if_neg e]
    by_cases e2 : (decide ((q_num c n x.1).1 ≠ 0) && t_dg c n 57 (q_num c n x.1).2) = true
    · rw [e2]
      rw [Bool.and_eq_true] at e2
      exact Or.inr ⟨rfl, rfl, e2.2⟩
    · have e3 : (decide ((q_num c n x.1).1 ≠ 0) && t_dg c n 57 (q_num c n x.1).2) = false := by
        cases hb : (decide ((q_num c n x.1).1 ≠ 0) && t_dg c n 57 (q_num c n x.1).2) with
        | true => exact absurd hb e2
        | false => rfl
      rw [e3]
      exact Or.inl rfl
theorem k_one_f {h : Int32} (hf : (k_one c n h x).2 = false) : x.2 = false ∧ t_dg c n h x.1 = true ∧ (k_one c n h x).1 = x.1 + 1 := by
  have h1 : (x.2 || !t_dg c n h x.1) = false := hf
  have h2 : (k_one c n h x).1 = x.1 + 1 := if_neg (by rw [h1]; exact Bool.false_ne_true)
  rw [Bool.or_eq_false_iff] at h1
  refine ⟨h1.1, ?_, h2⟩
  cases hx : t_dg c n h x.1 with
  | true => rfl
  | false => rw [hx] at h1; exact absurd h1.2 (by decide)
theorem k_sign_f {g : Int32} (hf : (k_sign c n g x).2 = false) : x.2 = false ∧ t_nx c n x.1 = g ∧ (k_sign c n g x).1 = x.1 + 1 := by
  have h1 : (x.2 || decide (¬ t_nx c n x.1 = g)) = false := hf
  have h2 : (k_sign c n g x).1 = x.1 + 1 := if_neg (by rw [h1]; exact Bool.false_ne_true)
  rw [Bool.or_eq_false_iff, decide_eq_false_iff_not] at h1
  exact ⟨h1.1, Decidable.byContradiction h1.2, h2⟩
theorem k_num_f (hf : (k_num c n x).2 = false) : x.2 = false ∧ t_dg c n 57 x.1 = true ∧ (k_num c n x).1 = (q_num c n x.1).2 ∧ (x.2 || !t_dg c n 57 x.1) = false := by
  unfold k_num at hf ⊢
  by_cases e : (x.2 || !t_dg c n 57 x.1) = true
  · rw [if_pos e] at hf; cases hf
  · rw [if_neg e]
    have e2 : (x.2 || !t_dg c n 57 x.1) = false := by
      cases hb : (x.2 || !t_dg c n 57 x.1) with
      | true => exact absurd hb e
      | false => rfl
    have e3 := e2
    rw [Bool.or_eq_false_iff] at e3
    refine ⟨e3.1, ?_, rfl, e2⟩
    cases hx : t_dg c n 57 x.1 with
    | true => rfl
    | false => rw [hx] at e3; exact absurd e3.2 (by decide)
theorem k_nu_f (hf : (k_nu c n x).2 = false) : x.2 = false ∧ t_dg c n 57 x.1 = true ∧ (k_nu c n x).1 = (q_num c n x.1).2 := by
  unfold k_nu at hf ⊢
  by_cases e : (x.2 || !t_dg c n 57 x.1) = true
  · rw [if_pos e] at hf; cases hf
  · rw [if_neg e]
    have e2 : (x.2 || !t_dg c n 57 x.1) = false := by
      cases hb : (x.2 || !t_dg c n 57 x.1) with
      | true => exact absurd hb e
      | false => rfl
    rw [Bool.or_eq_false_iff] at e2
    refine ⟨e2.1, ?_, rfl⟩
    cases hx : t_dg c n 57 x.1 with
    | true => rfl
    | false => rw [hx] at e2; exact absurd e2.2 (by decide)
theorem k_one_le {h : Int32} (hh : h ≤ 57) (hx : x.1 ≤ n ∨ x.2 = true) {B : Nat} (hB : x.1 ≤ B) (hn : n ≤ B) : (k_one c n h x).1 ≤ B ∧ x.1 ≤ (k_one c n h x).1 := by
  cases hw : (k_one c n h x).2 with
  | false =>
    obtain ⟨k1, k2, k3⟩ := k_one_f hw
    have := (t_dg_d hh k2).2.2
    omega
  | true =>
    have h2 : (k_one c n h x).1 = x.1 := if_pos hw
    omega
theorem t_nx_lt {s : Nat} {g : Int32} (h : t_nx c n s = g) (hg : ¬ g = 0) : s < n := by
  refine Decidable.byContradiction fun hn => ?_
  have h2 : t_nx c n s = 0 := if_neg hn
  exact hg (h.symm.trans h2)
theorem k_sign_le {g : Int32} (hg : ¬ g = 0) {B : Nat} (hB : x.1 ≤ B) (hn : n ≤ B) : (k_sign c n g x).1 ≤ B ∧ x.1 ≤ (k_sign c n g x).1 := by
  cases hw : (k_sign c n g x).2 with
  | false =>
    obtain ⟨k1, k2, k3⟩ := k_sign_f hw
    have := t_nx_lt k2 hg
    omega
  | true =>
    have h2 : (k_sign c n g x).1 = x.1 := if_pos hw
    omega
theorem k_num_le {B : Nat} (hB : x.1 ≤ B) (hn : n ≤ B) : (k_num c n x).1 ≤ B ∧ x.1 ≤ (k_num c n x).1 := by
  unfold k_num
  by_cases e : (x.2 || !t_dg c n 57 x.1) = true
  · rw [if_pos e]; exact ⟨hB, Nat.le_refl _⟩
  · rw [if_neg e]
    have hd : t_dg c n 57 x.1 = true := by
      cases hx : t_dg c n 57 x.1 with
      | true => rfl
      | false => rw [hx] at e; exact absurd (by simp) e
    have h3 := (t_dg_d (by decide) hd).2.2
    have h4 := q_more_n (c := c) (n := n) 5000 (t_d c n x.1) (x.1 + 1) (by omega)
    have h5 := q_more_ge (c := c) (n := n) 5000 (t_d c n x.1) (x.1 + 1)
    exact ⟨Nat.le_trans h4 hn, Nat.le_trans (Nat.le_succ _) h5⟩
theorem k_if_le {g : Int32} (hg : ¬ g = 0) {B : Nat} (hB : x.1 ≤ B) (hn : n ≤ B) : (k_if c n g x).1 ≤ B ∧ x.1 ≤ (k_if c n g x).1 := by
  unfold k_if
  by_cases e : k_is c n g x = true
  · rw [if_pos e]
    unfold k_is at e
    rw [Bool.and_eq_true, decide_eq_true_eq] at e
    have := t_nx_lt e.2 hg
    exact ⟨by show x.1 + 1 ≤ B; omega, Nat.le_succ _⟩
  · rw [if_neg e]; exact ⟨hB, Nat.le_refl _⟩
end KRp
def t_rel (A : Nat → Nat → Int32) (m k : Nat) (o : TO) : Prop := A (m + 16) k = o.1 ∧ A (m + 17) (4 * k + 0) = o.2.1 ∧ ((o.1 = 115 ∨ o.1 = 102) → A (m + 17) (4 * k + 1) = o.2.2.1 ∧ A (m + 17) (4 * k + 2) = o.2.2.2.1 ∧ A (m + 17) (4 * k + 3) = o.2.2.2.2)
def t_to (A : Nat → Nat → Int32) (m k : Nat) (o : TO) : Prop := A (m + 17) (4 * k + 0) = o.2.1 ∧ ((o.1 = 115 ∨ o.1 = 102) → A (m + 17) (4 * k + 1) = o.2.2.1 ∧ A (m + 17) (4 * k + 2) = o.2.2.2.1 ∧ A (m + 17) (4 * k + 3) = o.2.2.2.2)
def QTO (L : PL) (FI AI : Nat → Nat → Int32) (AL : Nat → Nat → Int64) (AR : Nat → Nat → Option Nat) (m : Nat) (c : Nat → Int32) (n s k : Nat) : Option PV → PS → Prop := fun r σ => ∃ (e : Nat) (w : Bool) (A : Nat → Nat → Int32), σ = (L, tg FI m e w (if w = true then k else k + 1), A, AL, AR) ∧ r = none ∧ kR c n (e, w) (q_o c n s) ∧ (∀ a, a ≠ m + 16 → a ≠ m + 17 → A a = AI a) ∧ (∀ i, i < k → A (m + 16) i = AI (m + 16) i) ∧ (∀ i, i < 4 * k → A (m + 17) i = AI (m + 17) i) ∧ (w = false → t_rel A m k (q_to c n s)) ∧ e ≤ 81
section Ref19
variable {g : PG} {L : PL} {FI AI : Nat → Nat → Int32} {AL : Nat → Nat → Int64} {AR : Nat → Nat → Option Nat} {m : Nat} {Z : ZW} {s k n : Nat} {c : Nat → Int32}
theorem k_one_le1 {c : Nat → Int32} {n : Nat} {x : Nat × Bool} {h : Int32} (hh : h ≤ 57) {B : Nat} (hB : x.1 ≤ B) (hn : n ≤ B) : (k_one c n h x).1 ≤ B := by
  cases hw : (k_one c n h x).2 with
  | false =>
    obtain ⟨k1, k2, k3⟩ := k_one_f hw
    have := (t_dg_d hh k2).2.2
    omega
  | true =>
    have h2 : (k_one c n h x).1 = x.1 := if_pos hw
    omega
theorem s_takeOrder (hM : WM L m) (hT : TC FI AI m c n) (hs : s ≤ 80) (hk : k < 28) : Sp g 3 iX8_takeOrder [vr m] (L, tg FI m s false k, AI, AL, AR) (0, 0) (QTO L FI AI AL AR m c n s k) := by
  refine Sp.of (ls := [some (vr m), none]) (by decide +kernel) rfl rfl ?_
  have hn80 := hT.2.1
  have hTC : ∀ A : Nat → Nat → Int32, (∀ a, a ≠ m + 17 → A a = AI a) → TC FI A m c n := fun A hA => ⟨hT.1, hT.2.1, fun i hi => by rw [hA _ (by omega)]; exact hT.2.2 i hi⟩
  have J161 : ∀ (e : Nat) (w : Bool) (A : Nat → Nat → Int32), kR c n (e, w) (q_o c n s) → (∀ a, a ≠ m + 17 → A a = AI a) → (∀ i, i < 4 * k → A (m + 17) i = AI (m + 17) i) → (w = false → t_to A m k (q_to c n s) ∧ (q_to c n s).1 = t_nx c n s) → e ≤ 81 → P g 3 iX8_takeOrder 161 [some (vr m), some (vi (t_nx c n s))] [] (L, tg FI m e w k, A, AL, AR) (0, 0) (QTO L FI AI AL AR m c n s k) := by
    intro e w A hR hB hC hW he
    refine P_aloadn (i := 0) rfl rfl dX8_takeOrder_161 ?_
    refine gX8_243 rfl (by first | exact hM.k0 | exact hM.k1 | exact hM.k2 | exact hM.k3 | exact hM.k4 | exact hM.k5 | exact hM.k6 | exact hM.k7 | exact hM.k8 | exact hM.k9 | exact hM.k10 | exact hM.k11 | exact hM.k12 | exact hM.k13 | exact hM.k14 | exact hM.k15 | exact hM.k16 | exact hM.k17) tg_277 dX8_takeOrder_162 ?_
    refine P_ifne dX8_takeOrder_165 (tgt := 188) rfl (fun h165 => ?_) (fun h165 => ?_)
    · have hw : w = true := b_t h165
      refine P_return rfl dX8_takeOrder_188 ?_
      subst hw
      exact ⟨e, true, A, rfl, rfl, hR, fun a _ h7 => hB a h7, fun i _ => by rw [hB _ (by omega)], hC, (fun hh => by cases hh), he⟩
    · have hw : w = false := by simpa using b_f h165
      refine P_aloadn (i := 0) rfl rfl dX8_takeOrder_168 ?_
      refine gX8_59 rfl (by first | exact hM.k0 | exact hM.k1 | exact hM.k2 | exact hM.k3 | exact hM.k4 | exact hM.k5 | exact hM.k6 | exact hM.k7 | exact hM.k8 | exact hM.k9 | exact hM.k10 | exact hM.k11 | exact hM.k12 | exact hM.k13 | exact hM.k14 | exact hM.k15 | exact hM.k16 | exact hM.k17) hM.r279 dX8_takeOrder_169 ?_
      refine P_aloadn (i := 0) rfl rfl dX8_takeOrder_172 ?_
      refine gX8_250 rfl (by first | exact hM.k0 | exact hM.k1 | exact hM.k2 | exact hM.k3 | exact hM.k4 | exact hM.k5 | exact hM.k6 | exact hM.k7 | exact hM.k8 | exact hM.k9 | exact hM.k10 | exact hM.k11 | exact hM.k12 | exact hM.k13 | exact hM.k14 | exact hM.k15 | exact hM.k16 | exact hM.k17) tg_278 dX8_takeOrder_173 ?_
      refine P_iloadn (i := 1) rfl rfl dX8_takeOrder_176 ?_
      refine P_isN (j := k) (by first | exact hM.k0 | exact hM.k1 | exact hM.k2 | exact hM.k3 | exact hM.k4 | exact hM.k5 | exact hM.k6 | exact hM.k7 | exact hM.k8 | exact hM.k9 | exact hM.k10 | exact hM.k11 | exact hM.k12 | exact hM.k13 | exact hM.k14 | exact hM.k15 | exact hM.k16 | exact hM.k17) rfl (by first | omega | (simp only [hM.l1, hM.l2, hM.l3, hM.l4, hM.l5, hM.l6, hM.l7, hM.l8, hM.l9, hM.l10, hM.l11, hM.l12, hM.l13, hM.l14, hM.l15, hM.l16, hM.l17]; omega)) (by first | omega | (simp only [hM.l1, hM.l2, hM.l3, hM.l4, hM.l5, hM.l6, hM.l7, hM.l8, hM.l9, hM.l10, hM.l11, hM.l12, hM.l13, hM.l14, hM.l15, hM.l16, hM.l17]; omega)) dX8_takeOrder_177 ?_
      refine P_aloadn (i := 0) rfl rfl dX8_takeOrder_178 ?_
      refine P_dup rfl dX8_takeOrder_179 ?_
      refine gX8_250 rfl (by first | exact hM.k0 | exact hM.k1 | exact hM.k2 | exact hM.k3 | exact hM.k4 | exact hM.k5 | exact hM.k6 | exact hM.k7 | exact hM.k8 | exact hM.k9 | exact hM.k10 | exact hM.k11 | exact hM.k12 | exact hM.k13 | exact hM.k14 | exact hM.k15 | exact hM.k16 | exact hM.k17) tg_278 dX8_takeOrder_180 ?_
      refine P_iconst (v := 1) rfl dX8_takeOrder_183 ?_
      refine P_iadd dX8_takeOrder_184 ?_
      refine uX8_250 rfl (by first | exact hM.k0 | exact hM.k1 | exact hM.k2 | exact hM.k3 | exact hM.k4 | exact hM.k5 | exact hM.k6 | exact hM.k7 | exact hM.k8 | exact hM.k9 | exact hM.k10 | exact hM.k11 | exact hM.k12 | exact hM.k13 | exact hM.k14 | exact hM.k15 | exact hM.k16 | exact hM.k17) dX8_takeOrder_185 ?_
      refine P_return rfl dX8_takeOrder_188 ?_
      subst hw
      obtain ⟨h1, h2⟩ := hW rfl
      refine ⟨e, false, _, ?_, rfl, hR, fun a h6 h7 => (p_up_oth h6).trans (hB a h7), fun i hi => (p_up_n2 _ _ _ _ (by omega)).trans (by rw [hB _ (by omega)]), fun i hi => (p_up_n1 _ _ _ _ (by omega)).trans (hC i hi), fun _ => ⟨(p_up_eq _ _ _ _).trans h2.symm, (p_up_n1 _ _ _ _ (by omega)).trans h1.1, fun hh => ?_⟩, he⟩
      · rw [show Int32.ofNat k + 1 = Int32.ofNat (k + 1) from n_add k 1, tg_k]
        rfl
      · obtain ⟨g1, g2, g3⟩ := h1.2 hh
        exact ⟨(p_up_n1 _ _ _ _ (by omega)).trans g1, (p_up_n1 _ _ _ _ (by omega)).trans g2, (p_up_n1 _ _ _ _ (by omega)).trans g3⟩
  refine P_aloadn (i := 0) rfl rfl dX8_takeOrder_0 ?_
  refine kX8_247 rfl (s_next hM hT (by omega)) (by decide) (by first | exact hM.k0 | exact hM.k1 | exact hM.k2 | exact hM.k3 | exact hM.k4 | exact hM.k5 | exact hM.k6 | exact hM.k7 | exact hM.k8 | exact hM.k9 | exact hM.k10 | exact hM.k11 | exact hM.k12 | exact hM.k13 | exact hM.k14 | exact hM.k15 | exact hM.k16 | exact hM.k17) rfl dX8_takeOrder_1 (fun r1 s1 q1 => ?_)
  obtain ⟨rfl, rfl⟩ := q1
  refine P_is1 (Or.inl dX8_takeOrder_4) rfl rfl ?_
  refine P_aloadn (i := 0) rfl rfl dX8_takeOrder_5 ?_
  refine P_dup rfl dX8_takeOrder_6 ?_
  refine gX8_240 rfl (by first | exact hM.k0 | exact hM.k1 | exact hM.k2 | exact hM.k3 | exact hM.k4 | exact hM.k5 | exact hM.k6 | exact hM.k7 | exact hM.k8 | exact hM.k9 | exact hM.k10 | exact hM.k11 | exact hM.k12 | exact hM.k13 | exact hM.k14 | exact hM.k15 | exact hM.k16 | exact hM.k17) tg_276 dX8_takeOrder_7 ?_
  refine P_iconst (v := 1) rfl dX8_takeOrder_10 ?_
  refine P_iadd dX8_takeOrder_11 ?_
  refine uX8_240 rfl (by first | exact hM.k0 | exact hM.k1 | exact hM.k2 | exact hM.k3 | exact hM.k4 | exact hM.k5 | exact hM.k6 | exact hM.k7 | exact hM.k8 | exact hM.k9 | exact hM.k10 | exact hM.k11 | exact hM.k12 | exact hM.k13 | exact hM.k14 | exact hM.k15 | exact hM.k16 | exact hM.k17) dX8_takeOrder_12 ?_
  rw [show Int32.ofNat s + 1 = Int32.ofNat (s + 1) from n_add s 1, tg_s]
  refine P_iloadn (i := 1) rfl rfl dX8_takeOrder_15 ?_
  by_cases e115 : t_nx c n s = 115
  · refine P_lookup (off := 44) (tgt := 60) dX8_takeOrder_16 (by decide) (by rw [e115]; rfl) rfl ?_
    obtain ⟨x0, hx0⟩ : ∃ x : Nat × Bool, x = (s + 1, false) := ⟨_, rfl⟩
    rw [show tg FI m (s + 1) false k = tg FI m x0.1 x0.2 k from by rw [hx0]]
    have hb0 : x0.1 ≤ 81 := by rw [hx0]; show s + 1 ≤ 81; omega
    have hB0 : ∀ a, a ≠ m + 17 → AI a = AI a := fun _ _ => rfl
    have hC0 : ∀ i, i < 4 * k → AI (m + 17) i = AI (m + 17) i := fun _ _ => rfl
    refine P_aloadn (i := 0) rfl rfl dX8_takeOrder_60 ?_
    refine P_iconst (v := 0) rfl dX8_takeOrder_61 ?_
    refine P_bipush (v := 55) rfl dX8_takeOrder_62 ?_
    refine kX8_253 rfl (s_takeOne hM (hTC AI hB0) (s := x0.1) (w := x0.2) (by omega) hk (pl := 0) (z := 55) (by decide)) (by decide) (by first | exact hM.k0 | exact hM.k1 | exact hM.k2 | exact hM.k3 | exact hM.k4 | exact hM.k5 | exact hM.k6 | exact hM.k7 | exact hM.k8 | exact hM.k9 | exact hM.k10 | exact hM.k11 | exact hM.k12 | exact hM.k13 | exact hM.k14 | exact hM.k15 | exact hM.k16 | exact hM.k17) rfl dX8_takeOrder_64 (fun r64 s64 q64 => ?_)
    obtain ⟨rfl, rfl⟩ := q64
    obtain ⟨x1, hx1⟩ : ∃ x, x = k_one c n 55 (x0.1, x0.2) := ⟨_, rfl⟩
    rw [← hx1]
    have hb1 : x1.1 ≤ 81 := by rw [hx1]; exact (k_one_le1 (x := (x0.1, x0.2)) (by decide) hb0 (by omega))
    obtain ⟨A1, hA1⟩ : ∃ A : Nat → Nat → Int32, A = (if x1.2 = true then AI else p_up AI (m + 17) (4 * k + 0) (t_nx c n x0.1 - 48)) := ⟨_, rfl⟩
    rw [← hA1]
    have hB1 : ∀ a, a ≠ m + 17 → A1 a = AI a := fun a ha => by
      rw [hA1]
      split
      · exact hB0 a ha
      · exact (p_up_oth ha).trans (hB0 a ha)
    have hC1 : ∀ i, i < 4 * k → A1 (m + 17) i = AI (m + 17) i := fun i hi => by
      rw [hA1]
      split
      · exact hC0 i hi
      · exact (p_up_n2 _ _ _ _ (by omega)).trans (hC0 i hi)
    refine P_aloadn (i := 0) rfl rfl dX8_takeOrder_67 ?_
    refine P_bipush (v := 62) rfl dX8_takeOrder_68 ?_
    refine kX8_256 rfl (s_takeSign hM (hTC A1 hB1) (s := x1.1) (w := x1.2) (by omega) (z := 62)) (by decide) (by first | exact hM.k0 | exact hM.k1 | exact hM.k2 | exact hM.k3 | exact hM.k4 | exact hM.k5 | exact hM.k6 | exact hM.k7 | exact hM.k8 | exact hM.k9 | exact hM.k10 | exact hM.k11 | exact hM.k12 | exact hM.k13 | exact hM.k14 | exact hM.k15 | exact hM.k16 | exact hM.k17) rfl dX8_takeOrder_70 (fun r70 s70 q70 => ?_)
    obtain ⟨rfl, rfl⟩ := q70
    obtain ⟨x2, hx2⟩ : ∃ x, x = k_sign c n 62 (x1.1, x1.2) := ⟨_, rfl⟩
    rw [← hx2]
    have hb2 : x2.1 ≤ 81 := by rw [hx2]; exact (k_sign_le (x := (x1.1, x1.2)) (by decide) hb1 (by omega)).1
    have hB2 := hB1
    have hC2 := hC1
    refine P_aloadn (i := 0) rfl rfl dX8_takeOrder_73 ?_
    refine P_iconst (v := 1) rfl dX8_takeOrder_74 ?_
    refine P_bipush (v := 55) rfl dX8_takeOrder_75 ?_
    refine kX8_253 rfl (s_takeOne hM (hTC A1 hB2) (s := x2.1) (w := x2.2) (by omega) hk (pl := 1) (z := 55) (by decide)) (by decide) (by first | exact hM.k0 | exact hM.k1 | exact hM.k2 | exact hM.k3 | exact hM.k4 | exact hM.k5 | exact hM.k6 | exact hM.k7 | exact hM.k8 | exact hM.k9 | exact hM.k10 | exact hM.k11 | exact hM.k12 | exact hM.k13 | exact hM.k14 | exact hM.k15 | exact hM.k16 | exact hM.k17) rfl dX8_takeOrder_77 (fun r77 s77 q77 => ?_)
    obtain ⟨rfl, rfl⟩ := q77
    obtain ⟨x3, hx3⟩ : ∃ x, x = k_one c n 55 (x2.1, x2.2) := ⟨_, rfl⟩
    rw [← hx3]
    have hb3 : x3.1 ≤ 81 := by rw [hx3]; exact (k_one_le1 (x := (x2.1, x2.2)) (by decide) hb2 (by omega))
    obtain ⟨A3, hA3⟩ : ∃ A : Nat → Nat → Int32, A = (if x3.2 = true then A1 else p_up A1 (m + 17) (4 * k + 1) (t_nx c n x2.1 - 48)) := ⟨_, rfl⟩
    rw [← hA3]
    have hB3 : ∀ a, a ≠ m + 17 → A3 a = AI a := fun a ha => by
      rw [hA3]
      split
      · exact hB2 a ha
      · exact (p_up_oth ha).trans (hB2 a ha)
    have hC3 : ∀ i, i < 4 * k → A3 (m + 17) i = AI (m + 17) i := fun i hi => by
      rw [hA3]
      split
      · exact hC2 i hi
      · exact (p_up_n2 _ _ _ _ (by omega)).trans (hC2 i hi)
    refine P_aloadn (i := 0) rfl rfl dX8_takeOrder_80 ?_
    refine P_bipush (v := 42) rfl dX8_takeOrder_81 ?_
    refine kX8_256 rfl (s_takeSign hM (hTC A3 hB3) (s := x3.1) (w := x3.2) (by omega) (z := 42)) (by decide) (by first | exact hM.k0 | exact hM.k1 | exact hM.k2 | exact hM.k3 | exact hM.k4 | exact hM.k5 | exact hM.k6 | exact hM.k7 | exact hM.k8 | exact hM.k9 | exact hM.k10 | exact hM.k11 | exact hM.k12 | exact hM.k13 | exact hM.k14 | exact hM.k15 | exact hM.k16 | exact hM.k17) rfl dX8_takeOrder_83 (fun r83 s83 q83 => ?_)
    obtain ⟨rfl, rfl⟩ := q83
    obtain ⟨x4, hx4⟩ : ∃ x, x = k_sign c n 42 (x3.1, x3.2) := ⟨_, rfl⟩
    rw [← hx4]
    have hb4 : x4.1 ≤ 81 := by rw [hx4]; exact (k_sign_le (x := (x3.1, x3.2)) (by decide) hb3 (by omega)).1
    have hB4 := hB3
    have hC4 := hC3
    refine P_aloadn (i := 0) rfl rfl dX8_takeOrder_86 ?_
    refine P_iconst (v := 2) rfl dX8_takeOrder_87 ?_
    refine kX8_259 rfl (s_takeNumber hM (hTC A3 hB4) (s := x4.1) (w := x4.2) (by omega) (pl := 2) hk (by decide)) (by decide) (by first | exact hM.k0 | exact hM.k1 | exact hM.k2 | exact hM.k3 | exact hM.k4 | exact hM.k5 | exact hM.k6 | exact hM.k7 | exact hM.k8 | exact hM.k9 | exact hM.k10 | exact hM.k11 | exact hM.k12 | exact hM.k13 | exact hM.k14 | exact hM.k15 | exact hM.k16 | exact hM.k17) rfl dX8_takeOrder_88 (fun r88 s88 q88 => ?_)
    obtain ⟨rfl, rfl⟩ := q88
    obtain ⟨x5, hx5⟩ : ∃ x, x = k_num c n (x4.1, x4.2) := ⟨_, rfl⟩
    rw [← hx5]
    have hb5 : x5.1 ≤ 81 := by rw [hx5]; exact (k_num_le (x := (x4.1, x4.2)) hb4 (by omega)).1
    obtain ⟨A5, hA5⟩ : ∃ A : Nat → Nat → Int32, A = (if (x4.2 || !t_dg c n 57 x4.1) = true then A3 else p_up A3 (m + 17) (4 * k + 2) (Int32.ofNat (q_num c n x4.1).1)) := ⟨_, rfl⟩
    rw [← hA5]
    have hB5 : ∀ a, a ≠ m + 17 → A5 a = AI a := fun a ha => by
      rw [hA5]
      split
      · exact hB4 a ha
      · exact (p_up_oth ha).trans (hB4 a ha)
    have hC5 : ∀ i, i < 4 * k → A5 (m + 17) i = AI (m + 17) i := fun i hi => by
      rw [hA5]
      split
      · exact hC4 i hi
      · exact (p_up_n2 _ _ _ _ (by omega)).trans (hC4 i hi)
    refine P_aloadn (i := 0) rfl rfl dX8_takeOrder_91 ?_
    refine P_bipush (v := 33) rfl dX8_takeOrder_92 ?_
    refine P_iconst (v := 3) rfl dX8_takeOrder_94 ?_
    refine kX8_262 rfl (s_takeIf hM (hTC A5 hB5) (s := x5.1) (w := x5.2) (by omega) (z := 33) (pl := 3) hk (by decide)) (by decide) (by first | exact hM.k0 | exact hM.k1 | exact hM.k2 | exact hM.k3 | exact hM.k4 | exact hM.k5 | exact hM.k6 | exact hM.k7 | exact hM.k8 | exact hM.k9 | exact hM.k10 | exact hM.k11 | exact hM.k12 | exact hM.k13 | exact hM.k14 | exact hM.k15 | exact hM.k16 | exact hM.k17) rfl dX8_takeOrder_95 (fun r95 s95 q95 => ?_)
    obtain ⟨rfl, rfl⟩ := q95
    obtain ⟨x6, hx6⟩ : ∃ x, x = k_if c n 33 (x5.1, x5.2) := ⟨_, rfl⟩
    rw [← hx6]
    have hb6 : x6.1 ≤ 81 := by rw [hx6]; exact (k_if_le (x := (x5.1, x5.2)) (by decide) hb5 (by omega)).1
    obtain ⟨A6, hA6⟩ : ∃ A : Nat → Nat → Int32, A = p_up A5 (m + 17) (4 * k + 3) (if k_is c n 33 (x5.1, x5.2) = true then 1 else 0) := ⟨_, rfl⟩
    rw [← hA6]
    rw [show x5.2 = x6.2 from by rw [hx6]; rfl]
    have hB6 : ∀ a, a ≠ m + 17 → A6 a = AI a := fun a ha => by rw [hA6]; exact (p_up_oth ha).trans (hB5 a ha)
    have hC6 : ∀ i, i < 4 * k → A6 (m + 17) i = AI (m + 17) i := fun i hi => by rw [hA6]; exact (p_up_n2 _ _ _ _ (by omega)).trans (hC5 i hi)
    refine P_goto dX8_takeOrder_98 (tgt := 161) rfl ?_
    refine J161 x6.1 x6.2 A6 ?_ hB6 hC6 (fun hw => ?_) hb6
    · have e9 : q_o c n s = q_os c n s := if_pos e115
      rw [e9]
      have e8 : (x6.1, x6.2) = k_if c n 33 (k_num c n x4) := by rw [← show x6 = k_if c n 33 (k_num c n x4) from by rw [hx6, hx5]]
      rw [e8]
      have e7 : q_os c n s = k_if c n 33 (k_nu c n x4) := by rw [hx4, hx3, hx2, hx1, hx0]; rfl
      rw [e7]
      exact kR_num.kif (by decide)
    · have f6 : x5.2 = false := by rw [hx6] at hw; exact hw
      rw [hx5] at f6
      obtain ⟨f4, d4, p5, c4⟩ := k_num_f f6
      have f4b : x4.2 = false := f4
      rw [hx4] at f4b
      obtain ⟨f3, g3, p4⟩ := k_sign_f f4b
      have f3b : x3.2 = false := f3
      rw [hx3] at f3b
      obtain ⟨f2, d2, p3⟩ := k_one_f f3b
      have f2b : x2.2 = false := f2
      rw [hx2] at f2b
      obtain ⟨f1, g1, p2⟩ := k_sign_f f2b
      have f1b : x1.2 = false := f1
      rw [hx1] at f1b
      obtain ⟨f0, d0, p1⟩ := k_one_f f1b
      have q0 : x0.1 = s + 1 := by rw [hx0]
      have q1 : x1.1 = s + 2 := by rw [hx1, p1]; show x0.1 + 1 = s + 2; rw [q0]
      have q2 : x2.1 = s + 3 := by rw [hx2, p2]; show x1.1 + 1 = s + 3; rw [q1]
      have q3 : x3.1 = s + 4 := by rw [hx3, p3]; show x2.1 + 1 = s + 4; rw [q2]
      have q4 : x4.1 = s + 5 := by rw [hx4, p4]; show x3.1 + 1 = s + 5; rw [q3]
      have q5 : x5.1 = (q_num c n (s + 5)).2 := by rw [hx5, p5]; show (q_num c n x4.1).2 = _; rw [q4]
      have eto : q_to c n s = (115, Int32.ofNat (t_d c n (s + 1)), Int32.ofNat (t_d c n (s + 3)), Int32.ofNat (q_num c n (s + 5)).1, if t_nx c n (q_num c n (s + 5)).2 = 33 then 1 else 0) := if_pos e115
      rw [eto]
      have w1 : ¬ x1.2 = true := by rw [f1]; exact Bool.false_ne_true
      have w3 : ¬ x3.2 = true := by rw [f3]; exact Bool.false_ne_true
      have w5 : ¬ (x4.2 || !t_dg c n 57 x4.1) = true := by rw [show (x4.2 || !t_dg c n 57 x4.1) = false from c4]; exact Bool.false_ne_true
      rw [if_neg w1] at hA1
      rw [if_neg w3] at hA3
      rw [if_neg w5] at hA5
      have v0 := (t_dg_d (by decide) d0).2.1
      have v2 := (t_dg_d (by decide) d2).2.1
      dsimp only at v0 v2
      rw [q0] at v0 hA1
      rw [q2] at v2 hA3
      rw [q4] at hA5
      have k6 : k_is c n 33 (x5.1, x5.2) = decide (t_nx c n (q_num c n (s + 5)).2 = 33) := by
        unfold k_is
        dsimp only
        rw [show x5.2 = false from by rw [hx5]; exact f6, q5]
        rfl
      rw [k6] at hA6
      refine ⟨⟨?_, fun _ => ⟨?_, ?_, ?_⟩⟩, e115.symm⟩
      · rw [hA6, p_up_n2 _ _ _ _ (by omega), hA5, p_up_n2 _ _ _ _ (by omega), hA3, p_up_n2 _ _ _ _ (by omega), hA1, p_up_eq]; exact v0
      · rw [hA6, p_up_n2 _ _ _ _ (by omega), hA5, p_up_n2 _ _ _ _ (by omega), hA3, p_up_eq]; exact v2
      · rw [hA6, p_up_n2 _ _ _ _ (by omega), hA5, p_up_eq]
      · rw [hA6, p_up_eq]
        by_cases e9 : t_nx c n (q_num c n (s + 5)).2 = 33
        · rw [if_pos (decide_eq_true e9), if_pos e9]
        · rw [if_neg (by rw [decide_eq_true_eq]; exact e9), if_neg e9]
  by_cases e102 : t_nx c n s = 102
  · refine P_lookup (off := 85) (tgt := 101) dX8_takeOrder_16 (by decide) (by rw [e102]; rfl) rfl ?_
    obtain ⟨x0, hx0⟩ : ∃ x : Nat × Bool, x = (s + 1, false) := ⟨_, rfl⟩
    rw [show tg FI m (s + 1) false k = tg FI m x0.1 x0.2 k from by rw [hx0]]
    have hb0 : x0.1 ≤ 81 := by rw [hx0]; show s + 1 ≤ 81; omega
    have hB0 : ∀ a, a ≠ m + 17 → AI a = AI a := fun _ _ => rfl
    have hC0 : ∀ i, i < 4 * k → AI (m + 17) i = AI (m + 17) i := fun _ _ => rfl
    refine P_aloadn (i := 0) rfl rfl dX8_takeOrder_101 ?_
    refine P_iconst (v := 0) rfl dX8_takeOrder_102 ?_
    refine kX8_259 rfl (s_takeNumber hM (hTC AI hB0) (s := x0.1) (w := x0.2) (by omega) (pl := 0) hk (by decide)) (by decide) (by first | exact hM.k0 | exact hM.k1 | exact hM.k2 | exact hM.k3 | exact hM.k4 | exact hM.k5 | exact hM.k6 | exact hM.k7 | exact hM.k8 | exact hM.k9 | exact hM.k10 | exact hM.k11 | exact hM.k12 | exact hM.k13 | exact hM.k14 | exact hM.k15 | exact hM.k16 | exact hM.k17) rfl dX8_takeOrder_103 (fun r103 s103 q103 => ?_)
    obtain ⟨rfl, rfl⟩ := q103
    obtain ⟨x1, hx1⟩ : ∃ x, x = k_num c n (x0.1, x0.2) := ⟨_, rfl⟩
    rw [← hx1]
    have hb1 : x1.1 ≤ 81 := by rw [hx1]; exact (k_num_le (x := (x0.1, x0.2)) hb0 (by omega)).1
    obtain ⟨A1, hA1⟩ : ∃ A : Nat → Nat → Int32, A = (if (x0.2 || !t_dg c n 57 x0.1) = true then AI else p_up AI (m + 17) (4 * k + 0) (Int32.ofNat (q_num c n x0.1).1)) := ⟨_, rfl⟩
    rw [← hA1]
    have hB1 : ∀ a, a ≠ m + 17 → A1 a = AI a := fun a ha => by
      rw [hA1]
      split
      · exact hB0 a ha
      · exact (p_up_oth ha).trans (hB0 a ha)
    have hC1 : ∀ i, i < 4 * k → A1 (m + 17) i = AI (m + 17) i := fun i hi => by
      rw [hA1]
      split
      · exact hC0 i hi
      · exact (p_up_n2 _ _ _ _ (by omega)).trans (hC0 i hi)
    refine P_aloadn (i := 0) rfl rfl dX8_takeOrder_106 ?_
    refine P_bipush (v := 43) rfl dX8_takeOrder_107 ?_
    refine kX8_256 rfl (s_takeSign hM (hTC A1 hB1) (s := x1.1) (w := x1.2) (by omega) (z := 43)) (by decide) (by first | exact hM.k0 | exact hM.k1 | exact hM.k2 | exact hM.k3 | exact hM.k4 | exact hM.k5 | exact hM.k6 | exact hM.k7 | exact hM.k8 | exact hM.k9 | exact hM.k10 | exact hM.k11 | exact hM.k12 | exact hM.k13 | exact hM.k14 | exact hM.k15 | exact hM.k16 | exact hM.k17) rfl dX8_takeOrder_109 (fun r109 s109 q109 => ?_)
    obtain ⟨rfl, rfl⟩ := q109
    obtain ⟨x2, hx2⟩ : ∃ x, x = k_sign c n 43 (x1.1, x1.2) := ⟨_, rfl⟩
    rw [← hx2]
    have hb2 : x2.1 ≤ 81 := by rw [hx2]; exact (k_sign_le (x := (x1.1, x1.2)) (by decide) hb1 (by omega)).1
    have hB2 := hB1
    have hC2 := hC1
    refine P_aloadn (i := 0) rfl rfl dX8_takeOrder_112 ?_
    refine P_iconst (v := 1) rfl dX8_takeOrder_113 ?_
    refine kX8_259 rfl (s_takeNumber hM (hTC A1 hB2) (s := x2.1) (w := x2.2) (by omega) (pl := 1) hk (by decide)) (by decide) (by first | exact hM.k0 | exact hM.k1 | exact hM.k2 | exact hM.k3 | exact hM.k4 | exact hM.k5 | exact hM.k6 | exact hM.k7 | exact hM.k8 | exact hM.k9 | exact hM.k10 | exact hM.k11 | exact hM.k12 | exact hM.k13 | exact hM.k14 | exact hM.k15 | exact hM.k16 | exact hM.k17) rfl dX8_takeOrder_114 (fun r114 s114 q114 => ?_)
    obtain ⟨rfl, rfl⟩ := q114
    obtain ⟨x3, hx3⟩ : ∃ x, x = k_num c n (x2.1, x2.2) := ⟨_, rfl⟩
    rw [← hx3]
    have hb3 : x3.1 ≤ 81 := by rw [hx3]; exact (k_num_le (x := (x2.1, x2.2)) hb2 (by omega)).1
    obtain ⟨A3, hA3⟩ : ∃ A : Nat → Nat → Int32, A = (if (x2.2 || !t_dg c n 57 x2.1) = true then A1 else p_up A1 (m + 17) (4 * k + 1) (Int32.ofNat (q_num c n x2.1).1)) := ⟨_, rfl⟩
    rw [← hA3]
    have hB3 : ∀ a, a ≠ m + 17 → A3 a = AI a := fun a ha => by
      rw [hA3]
      split
      · exact hB2 a ha
      · exact (p_up_oth ha).trans (hB2 a ha)
    have hC3 : ∀ i, i < 4 * k → A3 (m + 17) i = AI (m + 17) i := fun i hi => by
      rw [hA3]
      split
      · exact hC2 i hi
      · exact (p_up_n2 _ _ _ _ (by omega)).trans (hC2 i hi)
    refine P_aloadn (i := 0) rfl rfl dX8_takeOrder_117 ?_
    refine P_bipush (v := 42) rfl dX8_takeOrder_118 ?_
    refine kX8_256 rfl (s_takeSign hM (hTC A3 hB3) (s := x3.1) (w := x3.2) (by omega) (z := 42)) (by decide) (by first | exact hM.k0 | exact hM.k1 | exact hM.k2 | exact hM.k3 | exact hM.k4 | exact hM.k5 | exact hM.k6 | exact hM.k7 | exact hM.k8 | exact hM.k9 | exact hM.k10 | exact hM.k11 | exact hM.k12 | exact hM.k13 | exact hM.k14 | exact hM.k15 | exact hM.k16 | exact hM.k17) rfl dX8_takeOrder_120 (fun r120 s120 q120 => ?_)
    obtain ⟨rfl, rfl⟩ := q120
    obtain ⟨x4, hx4⟩ : ∃ x, x = k_sign c n 42 (x3.1, x3.2) := ⟨_, rfl⟩
    rw [← hx4]
    have hb4 : x4.1 ≤ 81 := by rw [hx4]; exact (k_sign_le (x := (x3.1, x3.2)) (by decide) hb3 (by omega)).1
    have hB4 := hB3
    have hC4 := hC3
    refine P_aloadn (i := 0) rfl rfl dX8_takeOrder_123 ?_
    refine P_iconst (v := 2) rfl dX8_takeOrder_124 ?_
    refine kX8_259 rfl (s_takeNumber hM (hTC A3 hB4) (s := x4.1) (w := x4.2) (by omega) (pl := 2) hk (by decide)) (by decide) (by first | exact hM.k0 | exact hM.k1 | exact hM.k2 | exact hM.k3 | exact hM.k4 | exact hM.k5 | exact hM.k6 | exact hM.k7 | exact hM.k8 | exact hM.k9 | exact hM.k10 | exact hM.k11 | exact hM.k12 | exact hM.k13 | exact hM.k14 | exact hM.k15 | exact hM.k16 | exact hM.k17) rfl dX8_takeOrder_125 (fun r125 s125 q125 => ?_)
    obtain ⟨rfl, rfl⟩ := q125
    obtain ⟨x5, hx5⟩ : ∃ x, x = k_num c n (x4.1, x4.2) := ⟨_, rfl⟩
    rw [← hx5]
    have hb5 : x5.1 ≤ 81 := by rw [hx5]; exact (k_num_le (x := (x4.1, x4.2)) hb4 (by omega)).1
    obtain ⟨A5, hA5⟩ : ∃ A : Nat → Nat → Int32, A = (if (x4.2 || !t_dg c n 57 x4.1) = true then A3 else p_up A3 (m + 17) (4 * k + 2) (Int32.ofNat (q_num c n x4.1).1)) := ⟨_, rfl⟩
    rw [← hA5]
    have hB5 : ∀ a, a ≠ m + 17 → A5 a = AI a := fun a ha => by
      rw [hA5]
      split
      · exact hB4 a ha
      · exact (p_up_oth ha).trans (hB4 a ha)
    have hC5 : ∀ i, i < 4 * k → A5 (m + 17) i = AI (m + 17) i := fun i hi => by
      rw [hA5]
      split
      · exact hC4 i hi
      · exact (p_up_n2 _ _ _ _ (by omega)).trans (hC4 i hi)
    refine P_aloadn (i := 0) rfl rfl dX8_takeOrder_128 ?_
    refine P_bipush (v := 46) rfl dX8_takeOrder_129 ?_
    refine P_iconst (v := 3) rfl dX8_takeOrder_131 ?_
    refine kX8_262 rfl (s_takeIf hM (hTC A5 hB5) (s := x5.1) (w := x5.2) (by omega) (z := 46) (pl := 3) hk (by decide)) (by decide) (by first | exact hM.k0 | exact hM.k1 | exact hM.k2 | exact hM.k3 | exact hM.k4 | exact hM.k5 | exact hM.k6 | exact hM.k7 | exact hM.k8 | exact hM.k9 | exact hM.k10 | exact hM.k11 | exact hM.k12 | exact hM.k13 | exact hM.k14 | exact hM.k15 | exact hM.k16 | exact hM.k17) rfl dX8_takeOrder_132 (fun r132 s132 q132 => ?_)
    obtain ⟨rfl, rfl⟩ := q132
    obtain ⟨x6, hx6⟩ : ∃ x, x = k_if c n 46 (x5.1, x5.2) := ⟨_, rfl⟩
    rw [← hx6]
    have hb6 : x6.1 ≤ 81 := by rw [hx6]; exact (k_if_le (x := (x5.1, x5.2)) (by decide) hb5 (by omega)).1
    obtain ⟨A6, hA6⟩ : ∃ A : Nat → Nat → Int32, A = p_up A5 (m + 17) (4 * k + 3) (if k_is c n 46 (x5.1, x5.2) = true then 1 else 0) := ⟨_, rfl⟩
    rw [← hA6]
    rw [show x5.2 = x6.2 from by rw [hx6]; rfl]
    have hB6 : ∀ a, a ≠ m + 17 → A6 a = AI a := fun a ha => by rw [hA6]; exact (p_up_oth ha).trans (hB5 a ha)
    have hC6 : ∀ i, i < 4 * k → A6 (m + 17) i = AI (m + 17) i := fun i hi => by rw [hA6]; exact (p_up_n2 _ _ _ _ (by omega)).trans (hC5 i hi)
    refine P_goto dX8_takeOrder_135 (tgt := 161) rfl ?_
    refine J161 x6.1 x6.2 A6 ?_ hB6 hC6 (fun hw => ?_) hb6
    · have e9 : q_o c n s = q_of c n s := (if_neg e115).trans (if_pos e102)
      rw [e9]
      have e8 : (x6.1, x6.2) = k_if c n 46 (k_num c n x4) := by rw [← show x6 = k_if c n 46 (k_num c n x4) from by rw [hx6, hx5]]
      rw [e8]
      have e2 : x2 = k_sign c n 43 (k_nu c n (s + 1, false)) := by rw [hx2, hx1, hx0]; exact kR_num.sign (by decide)
      have e4 : x4 = k_sign c n 42 (k_nu c n x2) := by rw [hx4, hx3]; exact kR_num.sign (by decide)
      have e7 : q_of c n s = k_if c n 46 (k_nu c n x4) := by rw [e4, e2]; rfl
      rw [e7]
      exact kR_num.kif (by decide)
    · have f6 : x5.2 = false := by rw [hx6] at hw; exact hw
      rw [hx5] at f6
      obtain ⟨f4, d4, p5, c4⟩ := k_num_f f6
      have f4b : x4.2 = false := f4
      rw [hx4] at f4b
      obtain ⟨f3, g3, p4⟩ := k_sign_f f4b
      have f3b : x3.2 = false := f3
      rw [hx3] at f3b
      obtain ⟨f2, d2, p3, c2⟩ := k_num_f f3b
      have f2b : x2.2 = false := f2
      rw [hx2] at f2b
      obtain ⟨f1, g1, p2⟩ := k_sign_f f2b
      have f1b : x1.2 = false := f1
      rw [hx1] at f1b
      obtain ⟨f0, d0, p1, c0⟩ := k_num_f f1b
      have q0 : x0.1 = s + 1 := by rw [hx0]
      have q1 : x1.1 = (q_num c n (s + 1)).2 := by rw [hx1, p1]; show (q_num c n x0.1).2 = _; rw [q0]
      have q2 : x2.1 = (q_num c n (s + 1)).2 + 1 := by rw [hx2, p2]; show x1.1 + 1 = _; rw [q1]
      have q3 : x3.1 = (q_num c n ((q_num c n (s + 1)).2 + 1)).2 := by rw [hx3, p3]; show (q_num c n x2.1).2 = _; rw [q2]
      have q4 : x4.1 = (q_num c n ((q_num c n (s + 1)).2 + 1)).2 + 1 := by rw [hx4, p4]; show x3.1 + 1 = _; rw [q3]
      have q5 : x5.1 = (q_num c n ((q_num c n ((q_num c n (s + 1)).2 + 1)).2 + 1)).2 := by rw [hx5, p5]; show (q_num c n x4.1).2 = _; rw [q4]
      have eto : q_to c n s = (102, Int32.ofNat (q_num c n (s + 1)).1, Int32.ofNat (q_num c n ((q_num c n (s + 1)).2 + 1)).1, Int32.ofNat (q_num c n ((q_num c n ((q_num c n (s + 1)).2 + 1)).2 + 1)).1, if t_nx c n (q_num c n ((q_num c n ((q_num c n (s + 1)).2 + 1)).2 + 1)).2 = 46 then 1 else 0) := (if_neg e115).trans (if_pos e102)
      rw [eto]
      have w1 : ¬ (x0.2 || !t_dg c n 57 x0.1) = true := by rw [show (x0.2 || !t_dg c n 57 x0.1) = false from c0]; exact Bool.false_ne_true
      have w3 : ¬ (x2.2 || !t_dg c n 57 x2.1) = true := by rw [show (x2.2 || !t_dg c n 57 x2.1) = false from c2]; exact Bool.false_ne_true
      have w5 : ¬ (x4.2 || !t_dg c n 57 x4.1) = true := by rw [show (x4.2 || !t_dg c n 57 x4.1) = false from c4]; exact Bool.false_ne_true
      rw [if_neg w1, q0] at hA1
      rw [if_neg w3, q2] at hA3
      rw [if_neg w5, q4] at hA5
      have k6 : k_is c n 46 (x5.1, x5.2) = decide (t_nx c n (q_num c n ((q_num c n ((q_num c n (s + 1)).2 + 1)).2 + 1)).2 = 46) := by
        unfold k_is
        dsimp only
        rw [show x5.2 = false from by rw [hx5]; exact f6, q5]
        rfl
      rw [k6] at hA6
      refine ⟨⟨?_, fun _ => ⟨?_, ?_, ?_⟩⟩, e102.symm⟩
      · rw [hA6, p_up_n2 _ _ _ _ (by omega), hA5, p_up_n2 _ _ _ _ (by omega), hA3, p_up_n2 _ _ _ _ (by omega), hA1, p_up_eq]
      · rw [hA6, p_up_n2 _ _ _ _ (by omega), hA5, p_up_n2 _ _ _ _ (by omega), hA3, p_up_eq]
      · rw [hA6, p_up_n2 _ _ _ _ (by omega), hA5, p_up_eq]
      · rw [hA6, p_up_eq]
        by_cases e9 : t_nx c n (q_num c n ((q_num c n ((q_num c n (s + 1)).2 + 1)).2 + 1)).2 = 46
        · rw [if_pos (decide_eq_true e9), if_pos e9]
        · rw [if_neg (by rw [decide_eq_true_eq]; exact e9), if_neg e9]
  by_cases e114 : t_nx c n s = 114
  · have hrt : t_nx c n s = 114 ∨ t_nx c n s = 116 := Or.inl e114
    refine P_lookup (off := 122) (tgt := 138) dX8_takeOrder_16 (by decide) (by rw [e114]; rfl) rfl ?_
    obtain ⟨x0, hx0⟩ : ∃ x : Nat × Bool, x = (s + 1, false) := ⟨_, rfl⟩
    rw [show tg FI m (s + 1) false k = tg FI m x0.1 x0.2 k from by rw [hx0]]
    have hb0 : x0.1 ≤ 81 := by rw [hx0]; show s + 1 ≤ 81; omega
    have hB0 : ∀ a, a ≠ m + 17 → AI a = AI a := fun _ _ => rfl
    have hC0 : ∀ i, i < 4 * k → AI (m + 17) i = AI (m + 17) i := fun _ _ => rfl
    refine P_aloadn (i := 0) rfl rfl dX8_takeOrder_138 ?_
    refine P_iconst (v := 0) rfl dX8_takeOrder_139 ?_
    refine kX8_259 rfl (s_takeNumber hM (hTC AI hB0) (s := x0.1) (w := x0.2) (by omega) (pl := 0) hk (by decide)) (by decide) (by first | exact hM.k0 | exact hM.k1 | exact hM.k2 | exact hM.k3 | exact hM.k4 | exact hM.k5 | exact hM.k6 | exact hM.k7 | exact hM.k8 | exact hM.k9 | exact hM.k10 | exact hM.k11 | exact hM.k12 | exact hM.k13 | exact hM.k14 | exact hM.k15 | exact hM.k16 | exact hM.k17) rfl dX8_takeOrder_140 (fun r140 s140 q140 => ?_)
    obtain ⟨rfl, rfl⟩ := q140
    obtain ⟨x1, hx1⟩ : ∃ x, x = k_num c n (x0.1, x0.2) := ⟨_, rfl⟩
    rw [← hx1]
    have hb1 : x1.1 ≤ 81 := by rw [hx1]; exact (k_num_le (x := (x0.1, x0.2)) hb0 (by omega)).1
    obtain ⟨A1, hA1⟩ : ∃ A : Nat → Nat → Int32, A = (if (x0.2 || !t_dg c n 57 x0.1) = true then AI else p_up AI (m + 17) (4 * k + 0) (Int32.ofNat (q_num c n x0.1).1)) := ⟨_, rfl⟩
    rw [← hA1]
    have hB1 : ∀ a, a ≠ m + 17 → A1 a = AI a := fun a ha => by
      rw [hA1]
      split
      · exact hB0 a ha
      · exact (p_up_oth ha).trans (hB0 a ha)
    have hC1 : ∀ i, i < 4 * k → A1 (m + 17) i = AI (m + 17) i := fun i hi => by
      rw [hA1]
      split
      · exact hC0 i hi
      · exact (p_up_n2 _ _ _ _ (by omega)).trans (hC0 i hi)
    refine P_goto dX8_takeOrder_143 (tgt := 161) rfl ?_
    refine J161 x1.1 x1.2 A1 ?_ hB1 hC1 (fun hw => ?_) hb1
    · have e9 : q_o c n s = k_nu c n (s + 1, false) := (if_neg e115).trans ((if_neg e102).trans (if_pos hrt))
      rw [e9]
      have e8 : (x1.1, x1.2) = k_num c n (s + 1, false) := by rw [← show x1 = k_num c n (s + 1, false) from by rw [hx1, hx0]]
      rw [e8]
      exact kR_num
    · rw [hx1] at hw
      obtain ⟨f0, d0, p1, c0⟩ := k_num_f hw
      have q0 : x0.1 = s + 1 := by rw [hx0]
      have eto : q_to c n s = (t_nx c n s, Int32.ofNat (q_num c n (s + 1)).1, 0, 0, 0) := (if_neg e115).trans (if_neg e102)
      rw [eto]
      have w1 : ¬ (x0.2 || !t_dg c n 57 x0.1) = true := by rw [show (x0.2 || !t_dg c n 57 x0.1) = false from c0]; exact Bool.false_ne_true
      rw [if_neg w1, q0] at hA1
      refine ⟨⟨?_, fun hh => hh.elim (fun h9 => absurd h9 e115) (fun h9 => absurd h9 e102)⟩, rfl⟩
      rw [hA1, p_up_eq]
  by_cases e116 : t_nx c n s = 116
  · have hrt : t_nx c n s = 114 ∨ t_nx c n s = 116 := Or.inr e116
    refine P_lookup (off := 122) (tgt := 138) dX8_takeOrder_16 (by decide) (by rw [e116]; rfl) rfl ?_
    obtain ⟨x0, hx0⟩ : ∃ x : Nat × Bool, x = (s + 1, false) := ⟨_, rfl⟩
    rw [show tg FI m (s + 1) false k = tg FI m x0.1 x0.2 k from by rw [hx0]]
    have hb0 : x0.1 ≤ 81 := by rw [hx0]; show s + 1 ≤ 81; omega
    have hB0 : ∀ a, a ≠ m + 17 → AI a = AI a := fun _ _ => rfl
    have hC0 : ∀ i, i < 4 * k → AI (m + 17) i = AI (m + 17) i := fun _ _ => rfl
    refine P_aloadn (i := 0) rfl rfl dX8_takeOrder_138 ?_
    refine P_iconst (v := 0) rfl dX8_takeOrder_139 ?_
    refine kX8_259 rfl (s_takeNumber hM (hTC AI hB0) (s := x0.1) (w := x0.2) (by omega) (pl := 0) hk (by decide)) (by decide) (by first | exact hM.k0 | exact hM.k1 | exact hM.k2 | exact hM.k3 | exact hM.k4 | exact hM.k5 | exact hM.k6 | exact hM.k7 | exact hM.k8 | exact hM.k9 | exact hM.k10 | exact hM.k11 | exact hM.k12 | exact hM.k13 | exact hM.k14 | exact hM.k15 | exact hM.k16 | exact hM.k17) rfl dX8_takeOrder_140 (fun r140 s140 q140 => ?_)
    obtain ⟨rfl, rfl⟩ := q140
    obtain ⟨x1, hx1⟩ : ∃ x, x = k_num c n (x0.1, x0.2) := ⟨_, rfl⟩
    rw [← hx1]
    have hb1 : x1.1 ≤ 81 := by rw [hx1]; exact (k_num_le (x := (x0.1, x0.2)) hb0 (by omega)).1
    obtain ⟨A1, hA1⟩ : ∃ A : Nat → Nat → Int32, A = (if (x0.2 || !t_dg c n 57 x0.1) = true then AI else p_up AI (m + 17) (4 * k + 0) (Int32.ofNat (q_num c n x0.1).1)) := ⟨_, rfl⟩
    rw [← hA1]
    have hB1 : ∀ a, a ≠ m + 17 → A1 a = AI a := fun a ha => by
      rw [hA1]
      split
      · exact hB0 a ha
      · exact (p_up_oth ha).trans (hB0 a ha)
    have hC1 : ∀ i, i < 4 * k → A1 (m + 17) i = AI (m + 17) i := fun i hi => by
      rw [hA1]
      split
      · exact hC0 i hi
      · exact (p_up_n2 _ _ _ _ (by omega)).trans (hC0 i hi)
    refine P_goto dX8_takeOrder_143 (tgt := 161) rfl ?_
    refine J161 x1.1 x1.2 A1 ?_ hB1 hC1 (fun hw => ?_) hb1
    · have e9 : q_o c n s = k_nu c n (s + 1, false) := (if_neg e115).trans ((if_neg e102).trans (if_pos hrt))
      rw [e9]
      have e8 : (x1.1, x1.2) = k_num c n (s + 1, false) := by rw [← show x1 = k_num c n (s + 1, false) from by rw [hx1, hx0]]
      rw [e8]
      exact kR_num
    · rw [hx1] at hw
      obtain ⟨f0, d0, p1, c0⟩ := k_num_f hw
      have q0 : x0.1 = s + 1 := by rw [hx0]
      have eto : q_to c n s = (t_nx c n s, Int32.ofNat (q_num c n (s + 1)).1, 0, 0, 0) := (if_neg e115).trans (if_neg e102)
      rw [eto]
      have w1 : ¬ (x0.2 || !t_dg c n 57 x0.1) = true := by rw [show (x0.2 || !t_dg c n 57 x0.1) = false from c0]; exact Bool.false_ne_true
      rw [if_neg w1, q0] at hA1
      refine ⟨⟨?_, fun hh => hh.elim (fun h9 => absurd h9 e115) (fun h9 => absurd h9 e102)⟩, rfl⟩
      rw [hA1, p_up_eq]
  refine P_lookup (off := 130) (tgt := 146) dX8_takeOrder_16 (by decide) ((lv_osw e102 rfl).trans ((lv_osw e114 rfl).trans ((lv_osw e115 rfl).trans ((lv_osw e116 rfl).trans rfl)))) rfl ?_
  refine P_aloadn (i := 0) rfl rfl dX8_takeOrder_146 ?_
  refine P_dup rfl dX8_takeOrder_147 ?_
  refine gX8_240 rfl (by first | exact hM.k0 | exact hM.k1 | exact hM.k2 | exact hM.k3 | exact hM.k4 | exact hM.k5 | exact hM.k6 | exact hM.k7 | exact hM.k8 | exact hM.k9 | exact hM.k10 | exact hM.k11 | exact hM.k12 | exact hM.k13 | exact hM.k14 | exact hM.k15 | exact hM.k16 | exact hM.k17) tg_276 dX8_takeOrder_148 ?_
  refine P_iconst (v := 1) rfl dX8_takeOrder_151 ?_
  refine P_isub dX8_takeOrder_152 ?_
  rw [show Int32.ofNat (s + 1) - 1 = Int32.ofNat s from n_pred (by omega) (by omega)]
  refine uX8_240 rfl (by first | exact hM.k0 | exact hM.k1 | exact hM.k2 | exact hM.k3 | exact hM.k4 | exact hM.k5 | exact hM.k6 | exact hM.k7 | exact hM.k8 | exact hM.k9 | exact hM.k10 | exact hM.k11 | exact hM.k12 | exact hM.k13 | exact hM.k14 | exact hM.k15 | exact hM.k16 | exact hM.k17) dX8_takeOrder_153 ?_
  rw [tg_s]
  refine P_aloadn (i := 0) rfl rfl dX8_takeOrder_156 ?_
  refine P_iconst (v := 1) rfl dX8_takeOrder_157 ?_
  refine uX8_243 rfl (by first | exact Or.inl rfl | exact Or.inr rfl | assumption) (by first | exact hM.k0 | exact hM.k1 | exact hM.k2 | exact hM.k3 | exact hM.k4 | exact hM.k5 | exact hM.k6 | exact hM.k7 | exact hM.k8 | exact hM.k9 | exact hM.k10 | exact hM.k11 | exact hM.k12 | exact hM.k13 | exact hM.k14 | exact hM.k15 | exact hM.k16 | exact hM.k17) dX8_takeOrder_158 ?_
  rw [show (1 : Int32) = (if true = true then 1 else 0) from rfl, tg_w]
  refine J161 s true AI ?_ (fun _ _ => rfl) (fun _ _ => rfl) (fun hh => by cases hh) (by omega)
  refine Or.inl ?_
  exact ((if_neg e115).trans ((if_neg e102).trans (if_neg (fun hh => hh.elim e114 e116)))).symm
end Ref19
