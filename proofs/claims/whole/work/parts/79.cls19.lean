/-- a World at w between two calls -/
def CV (L : PL) (FI AI : Nat → Nat → Int32) (AL : Nat → Nat → Int64) (AR : Nat → Nat → Option Nat) (w : Nat) (X : XW) : Prop := ∃ sa, CW L FI AI AL AR w X (c_of (xS X)) (xS X).length sa
/-- only the World at w has changed; now it holds X -/
def QPS (L : PL) (FI AI : Nat → Nat → Int32) (AL : Nat → Nat → Int64) (AR : Nat → Nat → Option Nat) (w : Nat) (X : XW) (r0 : Option PV) : Option PV → PS → Prop := fun r σ => ∃ F2 A2 L2 R2, σ = (L, F2, A2, L2, R2) ∧ r = r0 ∧ FrC w FI AI AL AR F2 A2 L2 R2 ∧ CV L F2 A2 L2 R2 w X
theorem x_ticks_G {M : Nat} {X : XW} (hI : XI M X) : ∀ n : Nat, M + n < 90000000 → (xG (x_ticks n X) 0).toInt = (xG X 0).toInt + n := by
  intro n
  induction n with
  | zero => intro _; exact (Int.add_zero _).symm
  | succ n ih =>
    intro hM
    have h1 := (XI.ticks X n (by omega) hI).1
    have h2 := (h1.tick (by omega)).2.2.2.2
    have h3 := ih (by omega)
    have h4 := hI.1
    show (xG (x_tick (x_ticks n X)) 0).toInt = _
    rw [h2, i_add' (by simp only [Int32.reduceToInt]; omega) (by simp only [Int32.reduceToInt]; omega)]
    simp only [Int32.reduceToInt]
    omega
theorem c_next {M : Nat} {Y : XW} (hI : XI M Y) (hM : M < 89000000) {v e : Int32} (hv : v ≤ e) (he : e.toInt ≤ (xG Y 0).toInt + 1000) (hte : (xG Y 0).toInt ≤ e.toInt) (hq : c_quiet Y (c_of (xS Y)) (c_of (xS Y)).length 40 v) : ∃ k : Nat, x_g Y 0 (if xG Y 0 < v then v else xG Y 0) = x_ticks k Y ∧ (if xG Y 0 < v then v else xG Y 0).toInt = (xG Y 0).toInt + k ∧ (if xG Y 0 < v then v else xG Y 0).toInt ≤ e.toInt := by
  have h4 := hI.1
  rw [Int32.le_iff_toInt_le] at hv
  by_cases c : xG Y 0 < v
  · rw [if_pos c]
    rw [Int32.lt_iff_toInt_lt] at c
    have hk : (xG Y 0).toInt + ((v.toInt - (xG Y 0).toInt).toNat : Nat) = v.toInt := by omega
    have h5 := c_leap hI (by omega) (v := v) (fun σ hσ => ?_) (fun p h1 h2 => hq.2 p (by have := hI.2.2.2.2.2.2.1; omega) h1 h2) (v.toInt - (xG Y 0).toInt).toNat (by omega) (by omega)
    · refine ⟨(v.toInt - (xG Y 0).toInt).toNat, ?_, hk.symm, hv⟩
      rw [h5]
      have h6 : v = xG Y 0 + Int32.ofNat (v.toInt - (xG Y 0).toInt).toNat := by
        rw [i_eq, i_add' (by rw [n_int (by omega)]; omega) (by rw [n_int (by omega)]; omega), n_int (by omega)]
        omega
      rw [← h6]
    · obtain ⟨i, hi, e1⟩ := List.getElem_of_mem hσ
      have h6 := hq.1 i (by rw [c_of_len]; exact hi)
      rw [c_of_get, List.getD_eq_getElem?_getD, List.getElem?_eq_getElem hi] at h6
      rw [← e1]
      exact h6
  · rw [if_neg c]
    exact ⟨0, x_g_id Y 0, by omega, hte⟩
section Cls19
variable {g : PG} {L : PL} {FI AI : Nat → Nat → Int32} {AL : Nat → Nat → Int64} {AR : Nat → Nat → Option Nat} {w : Nat} {X : XW} {C : List XC} {U : Nat} {sa : Nat → Nat} {M : Nat} {n : Nat}
theorem s_pass (hv : CV L FI AI AL AR w X) (hI : XI M X) (hM : M < 80000000) (hn : n ≤ 1000) : Sp g 5 iX6_pass [vr w, vi (Int32.ofNat n)] (L, FI, AI, AL, AR) (0, 0) ((QPS L FI AI AL AR w (x_ticks n X) none)) := by
  refine Sp.of (ls := [some (vr w), some (vi (Int32.ofNat n)), none, none, none, none]) (by decide +kernel) rfl rfl ?_
  obtain ⟨sa, h⟩ := hv
  refine P_aloadn (i := 0) rfl rfl dX6_pass_0 ?_
  refine gX6_46 rfl (by exact h.wf.kw) h.g.1 dX6_pass_1 ?_
  refine P_iloadn (i := 1) rfl rfl dX6_pass_4 ?_
  refine P_iadd dX6_pass_5 ?_
  obtain ⟨e, he⟩ : ∃ e : Int32, e = xG X 0 + Int32.ofNat n := ⟨_, rfl⟩
  rw [← he]
  have hI1 := hI.1
  have hen : e.toInt = (xG X 0).toInt + n := by rw [he, i_add' (by rw [n_int (by omega)]; omega) (by rw [n_int (by omega)]; omega), n_int (by omega)]
  refine P_is2 (Or.inl dX6_pass_6) rfl rfl ?_
  refine P_iconst (v := 0) rfl dX6_pass_7 ?_
  refine P_is3 (Or.inl dX6_pass_8) rfl rfl ?_
  have loop : ∀ m i j : Nat, i + m = n → i ≤ j → j ≤ n → ∀ (Y : XW), Y = x_ticks j X → ∀ (F A : Nat → Nat → Int32) (B : Nat → Nat → Int64) (R : Nat → Nat → Option Nat) (sb : Nat → Nat), FrC w FI AI AL AR F A B R → CW L F A B R w Y (c_of (xS Y)) (xS Y).length sb → P g 5 iX6_pass 9 [some (vr w), some (vi (Int32.ofNat n)), some (vi e), some (vi (Int32.ofNat i)), none, none] [] (L, F, A, B, R) (0, 0) (QPS L FI AI AL AR w (x_ticks n X) none) := by
    intro m
    induction m with
    | zero =>
      intro i j hi hij hjn Y hY F A B R sb hf h
      refine P_iloadn (i := 3) rfl rfl dX6_pass_9 ?_
      refine P_iloadn (i := 1) rfl rfl dX6_pass_10 ?_
      refine P_icmpge dX6_pass_11 (tgt := 106) rfl (fun h11 => ?_) (fun h11 => absurd ((n_le (a := n) (b := i) (by omega) (by omega)).mpr (by omega)) h11)
      refine P_return rfl dX6_pass_106 ?_
      have ej : j = n := by omega
      subst ej
      subst hY
      exact ⟨F, A, B, R, rfl, rfl, hf, sb, h⟩
    | succ m ih =>
      intro i j hi hij hjn Y hY F A B R sb hf h
      have hIY : XI (M + 1000) Y := by
        rw [hY]
        exact ((XI.ticks X j (by omega) hI).1).mono (by omega)
      have hTY : (xG Y 0).toInt = (xG X 0).toInt + j := by
        rw [hY]
        exact x_ticks_G hI j (by omega)
      refine P_iloadn (i := 3) rfl rfl dX6_pass_9 ?_
      refine P_iloadn (i := 1) rfl rfl dX6_pass_10 ?_
      refine P_icmpge dX6_pass_11 (tgt := 106) rfl (fun h11 => absurd h11 (fun h8 => by have h7 := (n_le (a := n) (b := i) (by omega) (by omega)).mp h8; omega)) (fun h11 => ?_)
      refine P_aloadn (i := 0) rfl rfl dX6_pass_14 ?_
      refine P_aloadn (i := 0) rfl rfl dX6_pass_15 ?_
      refine P_iloadn (i := 2) rfl rfl dX6_pass_16 ?_
      refine kX6_198 rfl (s_nextEvent h hIY) (by decide) (by first | exact h.wf.kw) rfl dX6_pass_17 (fun r17 s17 q17 => ?_)
      obtain ⟨v17, rfl, rfl, hv17, hq17⟩ := q17
      obtain ⟨k, hk1, hk2, hk3⟩ := c_next hIY (by omega) hv17 (by omega) (by omega) hq17
      generalize (if xG Y 0 < v17 then v17 else xG Y 0) = u at hk1 hk2 hk3 ⊢
      refine uX6_46 rfl (by first | exact h.wf.kw) dX6_pass_20 ?_
      refine P_aloadn (i := 0) rfl rfl dX6_pass_23 ?_
      refine gX6_46 rfl (by first | exact h.wf.kw) (p_up_eq _ _ _ _) dX6_pass_24 ?_
      refine P_iloadn (i := 2) rfl rfl dX6_pass_27 ?_
      refine P_icmplt dX6_pass_28 (tgt := 32) rfl (fun h28 => ?_) (fun h28 => ?_)
      · refine P_aloadn (i := 0) rfl rfl dX6_pass_32 ?_
        refine gX6_56 rfl (by first | exact h.wf.kw) (h.g0 u).g.2.2.2.1 dX6_pass_33 ?_
        refine P_is4 (Or.inr dX6_pass_36) rfl rfl ?_
        refine P_iconst (v := 0) rfl dX6_pass_38 ?_
        refine P_is5 (Or.inr dX6_pass_39) rfl rfl ?_
        have hlt28 := Int32.lt_iff_toInt_lt.mp h28
        have h2 : CW L (p_up F 192 w u) A B R w (x_g Y 0 u) (c_of (xS (x_g Y 0 u))) (xS (x_g Y 0 u)).length sb := h.g0 u
        have hZI : XI (M + 2000) (x_g Y 0 u) := by
          rw [hk1]
          exact ((XI.ticks Y k (by omega) hIY).1).mono (by omega)
        rw [c_of_len]
        refine s_passIn (X0 := x_g Y 0 u) (M := M + 2000) (b := (xS Y).length) (sa := sb) (FI := p_up F 192 w u) (AI := A) (AL := B) (AR := R) (by omega) hIY.2.2.2.2.2.2.2 ?_ (xS Y).length 0 (by omega) _ A B (c_of (xS (x_g Y 0 u))) (x_g Y 0 u) FrC.rf (c_in_0 hZI) h2
        intro F5 A5 B5 C5 X5 hf5 hin5 h5
        have hI5 : XI (M + 2000) X5 := by
          obtain ⟨_, _, _, _, _, _, _, _, _, g6, _⟩ := hin5
          exact g6
        refine P_aloadn (i := 0) rfl rfl dX6_pass_82 ?_
        refine kX6_206 rfl (s_closeRanks h5) (by decide) (by first | exact h5.wf.kw | exact h6.wf.kw | exact h7.wf.kw) rfl dX6_pass_83 (fun r83 s83 q83 => ?_)
        obtain ⟨F6, R6, sb6, rfl, rfl, hf6, h6⟩ := q83
        obtain ⟨hx5, hc5⟩ := c_in_end hin5
        rw [hc5] at h6
        refine P_aloadn (i := 0) rfl rfl dX6_pass_86 ?_
        refine kX6_209 rfl (s_giveUp h6 hI5 (by omega)) (by decide) (by first | exact h5.wf.kw | exact h6.wf.kw | exact h7.wf.kw) rfl dX6_pass_87 (fun r87 s87 q87 => ?_)
        obtain ⟨F7, A7, B7, rfl, rfl, hf7, h7⟩ := q87
        refine P_aloadn (i := 0) rfl rfl dX6_pass_90 ?_
        refine P_dup rfl dX6_pass_91 ?_
        refine gX6_46 rfl (by first | exact h5.wf.kw | exact h6.wf.kw | exact h7.wf.kw) h7.g.1 dX6_pass_92 ?_
        refine P_iconst (v := 1) rfl dX6_pass_95 ?_
        refine P_iadd dX6_pass_96 ?_
        refine uX6_46 rfl (by first | exact h5.wf.kw | exact h6.wf.kw | exact h7.wf.kw) dX6_pass_97 ?_
        refine P_inN3 dX6_pass_100 rfl rfl ?_
        refine P_goto dX6_pass_103 (tgt := 9) rfl ?_
        subst hx5
        have ex : xS (x_times (xp (x_run 601 0 (x_g Y 0 u))) (x_run 601 0 (x_g Y 0 u))) = xS (x_run 601 0 (x_g Y 0 u)) := (XI.times (xp (x_run 601 0 (x_g Y 0 u))) _ hI5).2.2
        have h8 := h7.g0 (xG (x_times (xp (x_run 601 0 (x_g Y 0 u))) (x_run 601 0 (x_g Y 0 u))) 0 + 1)
        rw [← ex] at h8
        have h9 : CW L _ A7 B7 R6 w (x_tick (x_g Y 0 u)) (c_of (xS (x_tick (x_g Y 0 u)))) (xS (x_tick (x_g Y 0 u))).length sb6 := h8
        refine P_few (ls2 := [some (vr w), some (vi (Int32.ofNat n)), some (vi e), some (vi (Int32.ofNat (i + 1))), none, none]) ⟨rfl, rfl, rfl, rfl, trivial⟩ ?_
        refine ih (i + 1) (j + k + 1) (by omega) (by omega) (by omega) (x_tick (x_g Y 0 u)) ?_ _ A7 B7 R6 sb6 ?_ h9
        · rw [hk1, hY, ← x_ticks_add]
          rfl
        · exact ((FrC.tr (FrC.tr (FrC.tr (hf.uF (by omega)) hf5) hf6) hf7).uF (by omega))
      · refine P_return rfl dX6_pass_31 ?_
        have e7 : x_g Y 0 u = x_ticks n X := by
          have h9 := Int32.not_lt.mp h28
          rw [Int32.le_iff_toInt_le] at h9
          rw [hk1, hY, ← x_ticks_add, show j + k = n by omega]
        have h3 : CW L (p_up F 192 w u) A B R w (x_g Y 0 u) (c_of (xS (x_g Y 0 u))) (xS (x_g Y 0 u)).length sb := h.g0 u
        rw [e7] at h3
        exact ⟨_, A, B, R, rfl, rfl, hf.uF (by omega), sb, h3⟩
  exact loop n 0 0 (by omega) (by omega) (by omega) X rfl FI AI AL AR sa FrC.rf h
end Cls19
