/-- the slices that are not gone -/
def c_live (C : List XC) : List XC := C.filter (fun c => !c.2)
theorem c_live_len (C : List XC) : (c_live C).length ≤ C.length := List.length_filter_le _ _
theorem c_live_take {C : List XC} {i : Nat} (hi : i < C.length) : c_live (C.take (i + 1)) = c_live (C.take i) ++ (if (C.getD i xc0).2 = true then [] else [C.getD i xc0]) := by
  have e : C.getD i xc0 = C[i] := by rw [List.getD_eq_getElem?_getD, List.getElem?_eq_getElem hi]; rfl
  unfold c_live
  rw [← List.take_append_getElem hi, List.filter_append, e]
  congr 1
  by_cases c : (C[i]).2 = true
  · rw [if_pos c]
    exact List.filter_cons_of_neg (by rw [c]; decide)
  · rw [if_neg c]
    exact List.filter_cons_of_pos (by rw [Bool.not_eq_true] at c; rw [c]; rfl)
theorem c_live_tl (C : List XC) (i : Nat) : (c_live (C.take i)).length ≤ i := by
  have h1 := c_live_len (C.take i)
  have h2 := List.length_take_le i C
  omega
def c_sw (i n j : Nat) : Nat := if j = n then i else if j = i then n else j
theorem c_sw_lt {i n j m : Nat} (hi : i < m) (hn : n < m) (hj : j < m) : c_sw i n j < m := by
  unfold c_sw
  split
  · exact hi
  · split
    · exact hn
    · exact hj
theorem c_sw_inj {i n j k : Nat} (e : c_sw i n j = c_sw i n k) : j = k := by
  unfold c_sw at e
  by_cases a1 : j = n <;> by_cases a2 : j = i <;> by_cases a3 : k = n <;> by_cases a4 : k = i <;> simp only [if_pos, if_neg, a1, a2, a3, a4, not_false_eq_true] at e <;> (repeat' split at e) <;> omega
theorem WA.swap {AR : Nat → Nat → Option Nat} {w : Nat} {sa : Nat → Nat} (h : WA AR w sa) {i n : Nat} (hi : i < 601) (hn : n < 601) : WA (p_up (p_up AR (w + 4) i (some (sa n))) (w + 4) n (some (sa i))) w (fun j => sa (c_sw i n j)) := by
  have e : ∀ a j, a ≠ w + 4 → p_up (p_up AR (w + 4) i (some (sa n))) (w + 4) n (some (sa i)) a j = AR a j := fun a j ha => (p_up_n1 _ _ _ _ ha).trans (p_up_n1 _ _ _ _ ha)
  refine ⟨fun j hj => (e _ _ (by omega)).trans (h.1 j hj), fun j hj => (e _ _ (by omega)).trans (h.2.1 j hj), fun j hj => (e _ _ (by omega)).trans (h.2.2.1 j hj), fun j hj => ⟨?_, h.lo (c_sw_lt hi hn hj)⟩, fun j k hj hk hh => c_sw_inj (h.2.2.2.2 _ _ (c_sw_lt hi hn hj) (c_sw_lt hi hn hk) hh)⟩
  unfold c_sw
  dsimp only
  by_cases e1 : j = n
  · rw [if_pos e1, e1]
    exact p_up_eq _ _ _ _
  · rw [if_neg e1, p_up_n2 _ _ _ _ e1]
    by_cases e2 : j = i
    · rw [if_pos e2, e2]
      exact p_up_eq _ _ _ _
    · rw [if_neg e2, p_up_n2 _ _ _ _ e2]
      exact h.s hj
/-- where the slices lie when those before i are sorted -/
def c_ord (FI : Nat → Nat → Int32) (C : List XC) (sa sb : Nat → Nat) (i : Nat) : Prop := (∀ j, i ≤ j → sb j = sa j) ∧ CS FI sb (c_live (C.take i))
theorem c_ord_s {FI : Nat → Nat → Int32} {C : List XC} {sa sb : Nat → Nat} {i : Nat} (h : c_ord FI C sa sb i) (hs : CS FI sa C) (hi : i < C.length) (hg : ¬ (C.getD i xc0).2 = true) : c_ord FI C sa (fun j => sb (c_sw i (c_live (C.take i)).length j)) (i + 1) := by
  have hl := c_live_tl C i
  refine ⟨fun j hj => ?_, fun j hj => ?_⟩
  · dsimp only
    rw [show c_sw i (c_live (C.take i)).length j = j from by unfold c_sw; rw [if_neg (by omega), if_neg (by omega)]]
    exact h.1 j (by omega)
  · have e9 : c_live (C.take (i + 1)) = c_live (C.take i) ++ [C.getD i xc0] := by rw [c_live_take hi, if_neg hg]
    rw [e9] at hj ⊢
    rw [List.length_append, show ([C.getD i xc0]).length = 1 from rfl] at hj
    unfold CS1
    dsimp only
    by_cases e : j = (c_live (C.take i)).length
    · rw [show c_sw i (c_live (C.take i)).length j = i from if_pos e, h.1 i (Nat.le_refl _)]
      rw [show (c_live (C.take i) ++ [C.getD i xc0]).getD j xc0 = C.getD i xc0 from by rw [e, List.getD_eq_getElem?_getD, List.getElem?_append_right (Nat.le_refl _), Nat.sub_self]; rfl]
      exact hs i hi
    · rw [show c_sw i (c_live (C.take i)).length j = j from by unfold c_sw; rw [if_neg e, if_neg (by omega)]]
      rw [show (c_live (C.take i) ++ [C.getD i xc0]).getD j xc0 = (c_live (C.take i)).getD j xc0 from by rw [List.getD_eq_getElem?_getD, List.getElem?_append_left (by omega), List.getD_eq_getElem?_getD]]
      exact h.2 j (by omega)
theorem c_ord_g {FI : Nat → Nat → Int32} {C : List XC} {sa sb : Nat → Nat} {i : Nat} (h : c_ord FI C sa sb i) (hi : i < C.length) (hg : (C.getD i xc0).2 = true) : c_ord FI C sa sb (i + 1) ∧ c_live (C.take (i + 1)) = c_live (C.take i) := by
  have e9 : c_live (C.take (i + 1)) = c_live (C.take i) := by rw [c_live_take hi, if_pos hg, List.append_nil]
  exact ⟨⟨fun j hj => h.1 j (by omega), by rw [e9]; exact h.2⟩, e9⟩
section Cls16
variable {g : PG} {L : PL} {FI AI : Nat → Nat → Int32} {AL : Nat → Nat → Int64} {AR : Nat → Nat → Option Nat} {w : Nat} {X : XW} {C : List XC} {U : Nat} {sa : Nat → Nat} {M : Nat}
theorem s_closeRanks (h : CW L FI AI AL AR w X C U sa) : Sp g 0 iX6_closeRanks [vr w] (L, FI, AI, AL, AR) (0, 0) (fun r σ => ∃ F2 R2 sb, σ = (L, F2, AI, AL, R2) ∧ r = none ∧ FrC w FI AI AL AR F2 AI AL R2 ∧ CW L F2 AI AL R2 w X (c_live C) U sb) := by
  refine Sp.of (ls := [some (vr w), none, none, none]) (by decide +kernel) rfl rfl ?_
  have hw := h.wf
  have hA := h.wa
  have hb16 := h.b16
  have hp40 := h.p40
  have hc601 := h.c601
  have loop : ∀ n i : Nat, i + n = C.length → ∀ (R : Nat → Nat → Option Nat) (sb : Nat → Nat), FrC w FI AI AL AR FI AI AL R → WA R w sb → c_ord FI C sa sb i → P g 0 iX6_closeRanks 4 [some (vr w), some (vi (Int32.ofNat (c_live (C.take i)).length)), some (vi (Int32.ofNat i)), none] [] (L, FI, AI, AL, R) (0, 0) (fun r σ => ∃ F2 R2 sb, σ = (L, F2, AI, AL, R2) ∧ r = none ∧ FrC w FI AI AL AR F2 AI AL R2 ∧ CW L F2 AI AL R2 w X (c_live C) U sb) := by
    intro n
    induction n with
    | zero =>
      intro i hi R sb hf hB ho
      have hei : C.take i = C := by rw [show i = C.length by omega, List.take_length]
      refine P_iloadn (i := 2) rfl rfl dX6_closeRanks_4 ?_
      refine P_aloadn (i := 0) rfl rfl dX6_closeRanks_5 ?_
      refine gX6_56 rfl (by first | assumption | exact hw.kw | exact hw.k4) h.g.2.2.2.1 dX6_closeRanks_6 ?_
      refine P_icmpge dX6_closeRanks_9 (tgt := 57) rfl (fun h9 => ?_) (fun h9 => absurd ((n_le (a := C.length) (b := i) (by omega) (by omega)).mpr (by omega)) h9)
      refine P_aloadn (i := 0) rfl rfl dX6_closeRanks_57 ?_
      refine P_iloadn (i := 1) rfl rfl dX6_closeRanks_58 ?_
      refine uX6_56 rfl (by first | assumption | exact hw.kw | exact hw.k4) dX6_closeRanks_59 ?_
      refine P_return rfl dX6_closeRanks_62 ?_
      have ho2 := ho.2
      rw [hei] at ho2
      refine ⟨_, R, sb, rfl, rfl, hf.uF (by omega), ?_⟩
      obtain ⟨g0, g1, g2, g3, g4, g5, g6, g7⟩ := h.g
      have hl9 := c_live_len C
      have hc9 := h.c601
      rw [hei]
      exact ⟨⟨hw, hB⟩, ⟨(p_up_n1 _ _ _ _ (by decide)).trans g0, (p_up_n1 _ _ _ _ (by decide)).trans g1, (p_up_n1 _ _ _ _ (by decide)).trans g2, p_up_eq _ _ _ _, (p_up_n1 _ _ _ _ (by decide)).trans g4, (p_up_n1 _ _ _ _ (by decide)).trans g5, (p_up_n1 _ _ _ _ (by decide)).trans g6, (p_up_n1 _ _ _ _ (by decide)).trans g7⟩, h.d, fun i hi => (h.n i hi).cg (fun j h1 h2 => p_up_n1 _ _ _ _ (by omega)) rfl, fun b hb => (h.b b hb).cg (fun j h1 => p_up_n1 _ _ _ _ (by omega)), fun p hp => (h.p p hp).cg (fun j h1 h2 => p_up_n1 _ _ _ _ (by omega)) rfl, fun i hi => (ho2 i hi).cg (fun j h1 h2 => p_up_n1 _ _ _ _ (by have := hB.lo (i := i) (by omega); omega)), by omega, h.b16, h.p40⟩
    | succ n ih =>
      intro i hi R sb hf hB ho
      have hl := c_live_tl C i
      have hks := hw.ks hB (i := i) (by omega)
      have hg : FI 168 (sb i) = (if (C.getD i xc0).2 = true then 1 else 0) := by rw [ho.1 i (Nat.le_refl _)]; exact (h.s i (by omega)).2
      refine P_iloadn (i := 2) rfl rfl dX6_closeRanks_4 ?_
      refine P_aloadn (i := 0) rfl rfl dX6_closeRanks_5 ?_
      refine gX6_56 rfl (by first | assumption | exact hw.kw | exact hw.k4) h.g.2.2.2.1 dX6_closeRanks_6 ?_
      refine P_icmpge dX6_closeRanks_9 (tgt := 57) rfl (fun h9 => absurd h9 (fun h8 => by have h7 := (n_le (a := C.length) (b := i) (by omega) (by omega)).mp h8; omega)) (fun h9 => ?_)
      refine P_aloadn (i := 0) rfl rfl dX6_closeRanks_12 ?_
      refine gX6_31 rfl (by first | assumption | exact hw.kw | exact hw.k4) hw.r198 dX6_closeRanks_13 ?_
      refine P_iloadn (i := 2) rfl rfl dX6_closeRanks_16 ?_
      refine P_aaN (t := 27) (j := i) (by decide) (by first | assumption | exact hw.kw | exact hw.k4) rfl (by omega) (by rw [hw.l4]; omega) (hB.s (by omega)) dX6_closeRanks_17 ?_
      refine P_as3 (Or.inl dX6_closeRanks_18) rfl rfl ?_
      refine P_aloadn (i := 3) rfl rfl dX6_closeRanks_19 ?_
      refine gX6_286 rfl hks hg dX6_closeRanks_20 ?_
      refine P_ifeq dX6_closeRanks_23 (tgt := 29) rfl (fun h23 => ?_) (fun h23 => ?_)
      · have hgone : ¬ (C.getD i xc0).2 = true := b_f h23
        refine P_aloadn (i := 0) rfl rfl dX6_closeRanks_29 ?_
        refine gX6_31 rfl (by first | assumption | exact hw.kw | exact hw.k4) hw.r198 dX6_closeRanks_30 ?_
        refine P_iloadn (i := 2) rfl rfl dX6_closeRanks_33 ?_
        refine P_aloadn (i := 0) rfl rfl dX6_closeRanks_34 ?_
        refine gX6_31 rfl (by first | assumption | exact hw.kw | exact hw.k4) hw.r198 dX6_closeRanks_35 ?_
        refine P_iloadn (i := 1) rfl rfl dX6_closeRanks_38 ?_
        refine P_aaN (t := 27) (j := (c_live (C.take i)).length) (by decide) (by first | assumption | exact hw.kw | exact hw.k4) rfl (by omega) (by rw [hw.l4]; omega) (hB.s (by omega)) dX6_closeRanks_39 ?_
        refine P_asN (t := 27) (ci := 5) (j := i) (by decide) (by first | assumption | exact hw.kw | exact hw.k4) rfl (by omega) (by rw [hw.l4]; omega) (hw.ks hB (by omega)) (by decide) rfl rfl dX6_closeRanks_40 ?_
        refine P_aloadn (i := 0) rfl rfl dX6_closeRanks_41 ?_
        refine gX6_31 rfl (by first | assumption | exact hw.kw | exact hw.k4) hw.r198 dX6_closeRanks_42 ?_
        refine P_iloadn (i := 1) rfl rfl dX6_closeRanks_45 ?_
        refine P_aloadn (i := 3) rfl rfl dX6_closeRanks_46 ?_
        refine P_asN (t := 27) (ci := 5) (j := (c_live (C.take i)).length) (by decide) (by first | assumption | exact hw.kw | exact hw.k4) rfl (by omega) (by rw [hw.l4]; omega) hks (by decide) rfl rfl dX6_closeRanks_47 ?_
        refine P_inN1 dX6_closeRanks_48 rfl rfl ?_
        refine P_inN2 dX6_closeRanks_51 rfl rfl ?_
        refine P_goto dX6_closeRanks_54 (tgt := 4) rfl ?_
        have e9 : (c_live (C.take (i + 1))).length = (c_live (C.take i)).length + 1 := by rw [c_live_take (by omega), if_neg hgone, List.length_append]; rfl
        refine P_few (ls2 := [some (vr w), some (vi (Int32.ofNat ((c_live (C.take i)).length + 1))), some (vi (Int32.ofNat (i + 1))), none]) ⟨rfl, rfl, rfl, trivial⟩ ?_
        rw [← e9]
        exact ih (i + 1) (by omega) _ _ ((hf.uR (by omega)).uR (by omega)) (hB.swap (by omega) (by omega)) (c_ord_s ho h.s (by omega) hgone)
      · have hgone : (C.getD i xc0).2 = true := b_t h23
        refine P_goto dX6_closeRanks_26 (tgt := 51) rfl ?_
        refine P_inN2 dX6_closeRanks_51 rfl rfl ?_
        refine P_goto dX6_closeRanks_54 (tgt := 4) rfl ?_
        obtain ⟨ho2, e9⟩ := c_ord_g ho (by omega) hgone
        refine P_few (ls2 := [some (vr w), some (vi (Int32.ofNat (c_live (C.take i)).length)), some (vi (Int32.ofNat (i + 1))), none]) ⟨rfl, rfl, rfl, trivial⟩ ?_
        rw [← e9]
        exact ih (i + 1) (by omega) R sb hf hB ho2
  refine P_iconst (v := 0) rfl dX6_closeRanks_0 ?_
  refine P_is1 (Or.inl dX6_closeRanks_1) rfl rfl ?_
  refine P_iconst (v := 0) rfl dX6_closeRanks_2 ?_
  refine P_is2 (Or.inl dX6_closeRanks_3) rfl rfl ?_
  have hl0 : c_live (C.take 0) = [] := rfl
  exact loop C.length 0 (by omega) AR sa FrC.rf hA ⟨fun j _ => rfl, fun j hj => by rw [hl0] at hj; exact absurd hj (Nat.not_lt_zero _)⟩
end Cls16
