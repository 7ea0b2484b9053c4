theorem CW.at_ {L : PL} {FI AI : Nat → Nat → Int32} {AL : Nat → Nat → Int64} {AR : Nat → Nat → Option Nat} {w : Nat} {X : XW} {U : Nat} {sa : Nat → Nat} (h : CW L FI AI AL AR w X (c_of (xS X)) U sa) {i : Nat} (hi : i < (xS X).length) : SL FI (sa i) (x_at X i) := by
  have h1 := (h.s i (by rw [c_of_len]; exact hi)).1
  rw [c_of_get] at h1
  exact h1
theorem CW.ln {L : PL} {FI AI : Nat → Nat → Int32} {AL : Nat → Nat → Int64} {AR : Nat → Nat → Option Nat} {w : Nat} {X : XW} {U : Nat} {sa : Nat → Nat} (h : CW L FI AI AL AR w X (c_of (xS X)) U sa) : FI 199 w = Int32.ofNat (xS X).length := by
  have h1 := h.g.2.2.2.1
  rw [c_of_len] at h1
  exact h1
theorem x_next_pos {M : Nat} {X : XW} (hI : XI M X) : ∀ n, n < (xS X).length → 0 ≤ x_next X (n + 1) := by
  intro n
  induction n with
  | zero =>
    intro hn
    rw [show x_next X 1 = (x_at X 0).2.2.2.2.2.2.1 from if_pos (Or.inl (show (-6 : Int32) < 0 by decide))]
    have := (hI.2.2.2.2.1 _ (x_at_mem hn)).2.2.2.2.2.2.2.1.1
    have := hI.1
    rw [Int32.le_iff_toInt_le]
    simp only [Int32.reduceToInt]
    omega
  | succ n ih =>
    intro hn
    have h1 := ih (by omega)
    by_cases c : x_next X (n + 1) < 0 ∨ (x_at X (n + 1)).2.2.2.2.2.2.1 < x_next X (n + 1)
    · rw [show x_next X (n + 1 + 1) = (x_at X (n + 1)).2.2.2.2.2.2.1 from if_pos c]
      have := (hI.2.2.2.2.1 _ (x_at_mem hn)).2.2.2.2.2.2.2.1.1
      have := hI.1
      rw [Int32.le_iff_toInt_le]
      simp only [Int32.reduceToInt]
      omega
    · rw [show x_next X (n + 1 + 1) = x_next X (n + 1) from if_neg c]
      exact h1
theorem x_next_s {M : Nat} {X : XW} (hI : XI M X) {n : Nat} (hn : n < (xS X).length) (h1 : 0 < n) : (if (x_at X n).2.2.2.2.2.2.1 < x_next X n then (x_at X n).2.2.2.2.2.2.1 else x_next X n) = x_next X (n + 1) := by
  have h2 := x_next_pos hI (n - 1) (by omega)
  rw [show n - 1 + 1 = n by omega] at h2
  by_cases c : (x_at X n).2.2.2.2.2.2.1 < x_next X n
  · rw [if_pos c]
    exact (if_pos (Or.inr c)).symm
  · rw [if_neg c]
    exact (if_neg (fun hh => hh.elim (Int32.not_lt.mpr h2) c)).symm
section Cls20
variable {g : PG} {L : PL} {FI AI : Nat → Nat → Int32} {AL : Nat → Nat → Int64} {AR : Nat → Nat → Option Nat} {w : Nat} {X : XW} {C : List XC} {U : Nat} {sa : Nat → Nat} {M : Nat} {v : Int32}
theorem c_slicesUnderWay (h : CW L FI AI AL AR w X (c_of (xS X)) (xS X).length sa) : Sp g 0 iX6_slicesUnderWay [vr w, vi v] (L, FI, AI, AL, AR) (0, 0) (QI (L, FI, AI, AL, AR) (a_slicesOf X v)) := by
  refine Sp.of (ls := [some (vr w), some (vi v), none, none]) (by decide +kernel) rfl rfl ?_
  have hp40 := h.p40
  have hs601 := h.c601
  rw [c_of_len] at hs601
  have loop : ∀ n i : Nat, i + n = (xS X).length → P g 0 iX6_slicesUnderWay 4 [some (vr w), some (vi v), some (vi (x_num (fun s => decide ((x_at X s).1 = v)) i)), some (vi (Int32.ofNat i))] [] (L, FI, AI, AL, AR) (0, 0) (QI (L, FI, AI, AL, AR) (a_slicesOf X v)) := by
    intro n
    induction n with
    | zero =>
      intro i hi
      refine P_iloadn (i := 3) rfl rfl dX6_slicesUnderWay_4 ?_
      refine P_aloadn (i := 0) rfl rfl dX6_slicesUnderWay_5 ?_
      refine gX6_56 rfl (by first | assumption | exact h.wf.kw | exact h.wf.k1 | exact h.wf.k3 | exact h.wf.k4 | exact h.wf.k5) h.ln dX6_slicesUnderWay_6 ?_
      refine P_icmpge dX6_slicesUnderWay_9 (tgt := 34) rfl (fun h9 => ?_) (fun h9 => absurd ((n_le (by omega) (by omega)).mpr (by omega)) h9)
      refine P_iloadn (i := 2) rfl rfl dX6_slicesUnderWay_34 ?_
      refine P_ireturn rfl dX6_slicesUnderWay_35 ?_
      have e : i = (xS X).length := (by omega)
      subst e
      exact ⟨rfl, rfl⟩
    | succ n ih =>
      intro i hi
      refine P_iloadn (i := 3) rfl rfl dX6_slicesUnderWay_4 ?_
      refine P_aloadn (i := 0) rfl rfl dX6_slicesUnderWay_5 ?_
      refine gX6_56 rfl (by first | assumption | exact h.wf.kw | exact h.wf.k1 | exact h.wf.k3 | exact h.wf.k4 | exact h.wf.k5) h.ln dX6_slicesUnderWay_6 ?_
      refine P_icmpge dX6_slicesUnderWay_9 (tgt := 34) rfl (fun h9 => absurd h9 (fun h9 => by rw [n_le (by omega) (by omega)] at h9; omega)) (fun h9 => ?_)
      refine P_aloadn (i := 0) rfl rfl dX6_slicesUnderWay_12 ?_
      refine gX6_31 rfl (by first | assumption | exact h.wf.kw | exact h.wf.k1 | exact h.wf.k3 | exact h.wf.k4 | exact h.wf.k5) h.wf.r198 dX6_slicesUnderWay_13 ?_
      refine P_iloadn (i := 3) rfl rfl dX6_slicesUnderWay_16 ?_
      refine P_aaN (t := 27) (j := i) (by decide) (by first | assumption | exact h.wf.kw | exact h.wf.k1 | exact h.wf.k3 | exact h.wf.k4 | exact h.wf.k5) rfl (by omega) (by rw [h.wf.l4]; omega) (h.wa.s (by omega)) dX6_slicesUnderWay_17 ?_
      refine gX6_238 rfl (h.wf.ks h.wa (by omega)) (h.at_ (i := i) (by omega)).1 dX6_slicesUnderWay_18 ?_
      refine P_iloadn (i := 1) rfl rfl dX6_slicesUnderWay_21 ?_
      refine P_icmpne dX6_slicesUnderWay_22 (tgt := 28) rfl (fun h22 => ?_) (fun h22 => ?_)
      · refine P_inN3 dX6_slicesUnderWay_28 rfl rfl ?_
        refine P_goto dX6_slicesUnderWay_31 (tgt := 4) rfl ?_
        have e2 := ih (i + 1) (by omega)
        unfold x_num at e2
        rw [if_neg (by rw [decide_eq_true_eq]; exact h22), Int32.add_zero] at e2
        exact e2
      · refine P_in2 (n := 1) (v := _) rfl dX6_slicesUnderWay_25 rfl rfl ?_
        refine P_inN3 dX6_slicesUnderWay_28 rfl rfl ?_
        refine P_goto dX6_slicesUnderWay_31 (tgt := 4) rfl ?_
        have e2 := ih (i + 1) (by omega)
        unfold x_num at e2
        rw [if_pos (show decide ((x_at X i).1 = v) = true from decide_eq_true h22)] at e2
        exact e2
  refine P_iconst (v := 0) rfl dX6_slicesUnderWay_0 ?_
  refine P_is2 (Or.inl dX6_slicesUnderWay_1) rfl rfl ?_
  refine P_iconst (v := 0) rfl dX6_slicesUnderWay_2 ?_
  refine P_is3 (Or.inl dX6_slicesUnderWay_3) rfl rfl ?_
  exact loop ((xS X).length) 0 (by omega)
theorem c_parcelsInState (h : CW L FI AI AL AR w X (c_of (xS X)) (xS X).length sa) : Sp g 0 iX6_parcelsInState [vr w, vi v] (L, FI, AI, AL, AR) (0, 0) (QI (L, FI, AI, AL, AR) (a_parcelsIn X v)) := by
  refine Sp.of (ls := [some (vr w), some (vi v), none, none]) (by decide +kernel) rfl rfl ?_
  have hp40 := h.p40
  have hs601 := h.c601
  rw [c_of_len] at hs601
  have loop : ∀ n i : Nat, i + n = xp X → P g 0 iX6_parcelsInState 4 [some (vr w), some (vi v), some (vi (x_num (fun p => decide (xP X p 5 = v)) i)), some (vi (Int32.ofNat i))] [] (L, FI, AI, AL, AR) (0, 0) (QI (L, FI, AI, AL, AR) (a_parcelsIn X v)) := by
    intro n
    induction n with
    | zero =>
      intro i hi
      refine P_iloadn (i := 3) rfl rfl dX6_parcelsInState_4 ?_
      refine P_aloadn (i := 0) rfl rfl dX6_parcelsInState_5 ?_
      refine gX6_53 rfl (by first | assumption | exact h.wf.kw | exact h.wf.k1 | exact h.wf.k3 | exact h.wf.k4 | exact h.wf.k5) h.g.2.2.1 dX6_parcelsInState_6 ?_
      refine P_icmpge dX6_parcelsInState_9 (tgt := 34) rfl (fun h9 => ?_) (fun h9 => absurd ((n_le (by omega) (by omega)).mpr (by omega)) h9)
      refine P_iloadn (i := 2) rfl rfl dX6_parcelsInState_34 ?_
      refine P_ireturn rfl dX6_parcelsInState_35 ?_
      have e : i = xp X := (by omega)
      subst e
      exact ⟨rfl, rfl⟩
    | succ n ih =>
      intro i hi
      refine P_iloadn (i := 3) rfl rfl dX6_parcelsInState_4 ?_
      refine P_aloadn (i := 0) rfl rfl dX6_parcelsInState_5 ?_
      refine gX6_53 rfl (by first | assumption | exact h.wf.kw | exact h.wf.k1 | exact h.wf.k3 | exact h.wf.k4 | exact h.wf.k5) h.g.2.2.1 dX6_parcelsInState_6 ?_
      refine P_icmpge dX6_parcelsInState_9 (tgt := 34) rfl (fun h9 => absurd h9 (fun h9 => by rw [n_le (by omega) (by omega)] at h9; omega)) (fun h9 => ?_)
      refine P_aloadn (i := 0) rfl rfl dX6_parcelsInState_12 ?_
      refine gX6_25 rfl (by first | assumption | exact h.wf.kw | exact h.wf.k1 | exact h.wf.k3 | exact h.wf.k4 | exact h.wf.k5) h.wf.r197 dX6_parcelsInState_13 ?_
      refine P_iloadn (i := 3) rfl rfl dX6_parcelsInState_16 ?_
      refine P_aaN (t := 26) (j := i) (by decide) (by first | assumption | exact h.wf.kw | exact h.wf.k1 | exact h.wf.k3 | exact h.wf.k4 | exact h.wf.k5) rfl (by omega) (by rw [h.wf.l3]; omega) (h.wa.2.2.1 i (by omega)) dX6_parcelsInState_17 ?_
      refine gX6_118 rfl (h.wf.kP (by omega)) ((h.p i (by omega)).1 (by omega)).1.2.2.2.2.2.2.2.1 dX6_parcelsInState_18 ?_
      refine P_iloadn (i := 1) rfl rfl dX6_parcelsInState_21 ?_
      refine P_icmpne dX6_parcelsInState_22 (tgt := 28) rfl (fun h22 => ?_) (fun h22 => ?_)
      · refine P_inN3 dX6_parcelsInState_28 rfl rfl ?_
        refine P_goto dX6_parcelsInState_31 (tgt := 4) rfl ?_
        have e2 := ih (i + 1) (by omega)
        unfold x_num at e2
        rw [if_neg (by rw [decide_eq_true_eq]; exact h22), Int32.add_zero] at e2
        exact e2
      · refine P_in2 (n := 1) (v := _) rfl dX6_parcelsInState_25 rfl rfl ?_
        refine P_inN3 dX6_parcelsInState_28 rfl rfl ?_
        refine P_goto dX6_parcelsInState_31 (tgt := 4) rfl ?_
        have e2 := ih (i + 1) (by omega)
        unfold x_num at e2
        rw [if_pos (decide_eq_true h22)] at e2
        exact e2
  refine P_iconst (v := 0) rfl dX6_parcelsInState_0 ?_
  refine P_is2 (Or.inl dX6_parcelsInState_1) rfl rfl ?_
  refine P_iconst (v := 0) rfl dX6_parcelsInState_2 ?_
  refine P_is3 (Or.inl dX6_parcelsInState_3) rfl rfl ?_
  exact loop (xp X) 0 (by omega)
theorem c_nextArrival (h : CW L FI AI AL AR w X (c_of (xS X)) (xS X).length sa) (hI : XI M X) : Sp g 0 iX6_nextArrival [vr w] (L, FI, AI, AL, AR) (0, 0) (QI (L, FI, AI, AL, AR) (x_next X (xS X).length)) := by
  refine Sp.of (ls := [some (vr w), none, none]) (by decide +kernel) rfl rfl ?_
  have hs601 := h.c601
  rw [c_of_len] at hs601
  have loop : ∀ n i : Nat, i + n = (xS X).length → 0 < i → P g 0 iX6_nextArrival 22 [some (vr w), some (vi (x_next X i)), some (vi (Int32.ofNat i))] [] (L, FI, AI, AL, AR) (0, 0) (QI (L, FI, AI, AL, AR) (x_next X (xS X).length)) := by
    intro n
    induction n with
    | zero =>
      intro i hi hi0
      refine P_iloadn (i := 2) rfl rfl dX6_nextArrival_22 ?_
      refine P_aloadn (i := 0) rfl rfl dX6_nextArrival_23 ?_
      refine gX6_56 rfl (by first | assumption | exact h.wf.kw | exact h.wf.k1 | exact h.wf.k3 | exact h.wf.k4 | exact h.wf.k5) h.ln dX6_nextArrival_24 ?_
      refine P_icmpge dX6_nextArrival_27 (tgt := 50) rfl (fun h27 => ?_) (fun h27 => absurd ((n_le (by omega) (by omega)).mpr (by omega)) h27)
      refine P_iloadn (i := 1) rfl rfl dX6_nextArrival_50 ?_
      refine P_ireturn rfl dX6_nextArrival_51 ?_
      have e : i = (xS X).length := (by omega)
      subst e
      exact ⟨rfl, rfl⟩
    | succ n ih =>
      intro i hi hi0
      refine P_iloadn (i := 2) rfl rfl dX6_nextArrival_22 ?_
      refine P_aloadn (i := 0) rfl rfl dX6_nextArrival_23 ?_
      refine gX6_56 rfl (by first | assumption | exact h.wf.kw | exact h.wf.k1 | exact h.wf.k3 | exact h.wf.k4 | exact h.wf.k5) h.ln dX6_nextArrival_24 ?_
      refine P_icmpge dX6_nextArrival_27 (tgt := 50) rfl (fun h27 => absurd h27 (fun h9 => by rw [n_le (by omega) (by omega)] at h9; omega)) (fun h27 => ?_)
      refine P_iloadn (i := 1) rfl rfl dX6_nextArrival_30 ?_
      refine P_aloadn (i := 0) rfl rfl dX6_nextArrival_31 ?_
      refine gX6_31 rfl (by first | assumption | exact h.wf.kw | exact h.wf.k1 | exact h.wf.k3 | exact h.wf.k4 | exact h.wf.k5) h.wf.r198 dX6_nextArrival_32 ?_
      refine P_iloadn (i := 2) rfl rfl dX6_nextArrival_35 ?_
      refine P_aaN (t := 27) (j := i) (by decide) (by first | assumption | exact h.wf.kw | exact h.wf.k1 | exact h.wf.k3 | exact h.wf.k4 | exact h.wf.k5) rfl (by omega) (by rw [h.wf.l4]; omega) (h.wa.s (by omega)) dX6_nextArrival_36 ?_
      refine gX6_202 rfl (h.wf.ks h.wa (by omega)) (h.at_ (i := i) (by omega)).2.2.2.2.2.2.1 dX6_nextArrival_37 ?_
      refine mX6_212 rfl dX6_nextArrival_40 rfl ?_
      refine P_is1 (Or.inl dX6_nextArrival_43) rfl rfl ?_
      refine P_inN2 dX6_nextArrival_44 rfl rfl ?_
      refine P_goto dX6_nextArrival_47 (tgt := 22) rfl ?_
      rw [x_next_s hI (by omega) (by omega)]
      exact ih (i + 1) (by omega) (by omega)
  refine P_aloadn (i := 0) rfl rfl dX6_nextArrival_0 ?_
  refine gX6_56 rfl (by first | assumption | exact h.wf.kw | exact h.wf.k1 | exact h.wf.k3 | exact h.wf.k4 | exact h.wf.k5) h.ln dX6_nextArrival_1 ?_
  refine P_ifne dX6_nextArrival_4 (tgt := 10) rfl (fun h4 => ?_) (fun h4 => ?_)
  · have hpos : 0 < (xS X).length := Nat.pos_of_ne_zero (fun hh => by rw [hh] at h4; exact h4 rfl)
    refine P_aloadn (i := 0) rfl rfl dX6_nextArrival_10 ?_
    refine gX6_31 rfl (by first | assumption | exact h.wf.kw | exact h.wf.k1 | exact h.wf.k3 | exact h.wf.k4 | exact h.wf.k5) h.wf.r198 dX6_nextArrival_11 ?_
    refine P_iconst (v := 0) rfl dX6_nextArrival_14 ?_
    refine P_aaN (t := 27) (j := 0) (by decide) (by first | assumption | exact h.wf.kw | exact h.wf.k1 | exact h.wf.k3 | exact h.wf.k4 | exact h.wf.k5) rfl (by omega) (by rw [h.wf.l4]; omega) (h.wa.s (by omega)) dX6_nextArrival_15 ?_
    refine gX6_202 rfl (h.wf.ks h.wa (by omega)) (h.at_ (i := 0) (by omega)).2.2.2.2.2.2.1 dX6_nextArrival_16 ?_
    refine P_is1 (Or.inl dX6_nextArrival_19) rfl rfl ?_
    refine P_iconst (v := 1) rfl dX6_nextArrival_20 ?_
    refine P_is2 (Or.inl dX6_nextArrival_21) rfl rfl ?_
    have h1 := loop ((xS X).length - 1) 1 (by omega) (by omega)
    rw [show x_next X 1 = (x_at X 0).2.2.2.2.2.2.1 from if_pos (Or.inl (show (-6 : Int32) < 0 by decide))] at h1
    exact h1
  · have hz : (xS X).length = 0 := by
      have h9 := congrArg Int32.toInt h4
      rw [n_int (by omega)] at h9
      simp only [Int32.reduceToInt] at h9
      omega
    refine P_bipush (v := (-6)) rfl dX6_nextArrival_7 ?_
    refine P_ireturn rfl dX6_nextArrival_9 ?_
    rw [hz]
    exact ⟨rfl, rfl⟩
theorem c_B_tell {q : Nat} (hk : L.2.1 q = 0) : Sp g 0 iX0_tell [vr q, vi v] (L, FI, AI, AL, AR) (0, 0) (QI (L, FI, AI, AL, AR) (if (0 : Int32) ≤ v ∧ v ≤ 8 then FI (nn v) q else -2)) := by
  refine Sp.of (ls := [some (vr q), some (vi v)]) (by decide +kernel) rfl rfl ?_
  refine P_iloadn (i := 1) rfl rfl dX0_tell_0 ?_
  by_cases e0 : v = 0
  · refine P_tabIn (off := 51) (tgt := 52) dX0_tell_1 (by rw [e0]; decide) (by rw [e0]; decide) (by rw [e0]; rfl) rfl ?_
    refine P_aloadn (i := 0) rfl rfl dX0_tell_52 ?_
    refine gX0_9 rfl hk rfl dX0_tell_53 ?_
    refine P_ireturn rfl dX0_tell_56 ?_
    rw [e0]
    exact ⟨rfl, rfl⟩
  by_cases e1 : v = 1
  · refine P_tabIn (off := 56) (tgt := 57) dX0_tell_1 (by rw [e1]; decide) (by rw [e1]; decide) (by rw [e1]; rfl) rfl ?_
    refine P_aloadn (i := 0) rfl rfl dX0_tell_57 ?_
    refine gX0_15 rfl hk rfl dX0_tell_58 ?_
    refine P_ireturn rfl dX0_tell_61 ?_
    rw [e1]
    exact ⟨rfl, rfl⟩
  by_cases e2 : v = 2
  · refine P_tabIn (off := 61) (tgt := 62) dX0_tell_1 (by rw [e2]; decide) (by rw [e2]; decide) (by rw [e2]; rfl) rfl ?_
    refine P_aloadn (i := 0) rfl rfl dX0_tell_62 ?_
    refine gX0_18 rfl hk rfl dX0_tell_63 ?_
    refine P_ireturn rfl dX0_tell_66 ?_
    rw [e2]
    exact ⟨rfl, rfl⟩
  by_cases e3 : v = 3
  · refine P_tabIn (off := 66) (tgt := 67) dX0_tell_1 (by rw [e3]; decide) (by rw [e3]; decide) (by rw [e3]; rfl) rfl ?_
    refine P_aloadn (i := 0) rfl rfl dX0_tell_67 ?_
    refine gX0_21 rfl hk rfl dX0_tell_68 ?_
    refine P_ireturn rfl dX0_tell_71 ?_
    rw [e3]
    exact ⟨rfl, rfl⟩
  by_cases e4 : v = 4
  · refine P_tabIn (off := 71) (tgt := 72) dX0_tell_1 (by rw [e4]; decide) (by rw [e4]; decide) (by rw [e4]; rfl) rfl ?_
    refine P_aloadn (i := 0) rfl rfl dX0_tell_72 ?_
    refine gX0_24 rfl hk rfl dX0_tell_73 ?_
    refine P_ireturn rfl dX0_tell_76 ?_
    rw [e4]
    exact ⟨rfl, rfl⟩
  by_cases e5 : v = 5
  · refine P_tabIn (off := 76) (tgt := 77) dX0_tell_1 (by rw [e5]; decide) (by rw [e5]; decide) (by rw [e5]; rfl) rfl ?_
    refine P_aloadn (i := 0) rfl rfl dX0_tell_77 ?_
    refine gX0_27 rfl hk rfl dX0_tell_78 ?_
    refine P_ireturn rfl dX0_tell_81 ?_
    rw [e5]
    exact ⟨rfl, rfl⟩
  by_cases e6 : v = 6
  · refine P_tabIn (off := 81) (tgt := 82) dX0_tell_1 (by rw [e6]; decide) (by rw [e6]; decide) (by rw [e6]; rfl) rfl ?_
    refine P_aloadn (i := 0) rfl rfl dX0_tell_82 ?_
    refine gX0_30 rfl hk rfl dX0_tell_83 ?_
    refine P_ireturn rfl dX0_tell_86 ?_
    rw [e6]
    exact ⟨rfl, rfl⟩
  by_cases e7 : v = 7
  · refine P_tabIn (off := 86) (tgt := 87) dX0_tell_1 (by rw [e7]; decide) (by rw [e7]; decide) (by rw [e7]; rfl) rfl ?_
    refine P_aloadn (i := 0) rfl rfl dX0_tell_87 ?_
    refine gX0_33 rfl hk rfl dX0_tell_88 ?_
    refine P_ireturn rfl dX0_tell_91 ?_
    rw [e7]
    exact ⟨rfl, rfl⟩
  by_cases e8 : v = 8
  · refine P_tabIn (off := 91) (tgt := 92) dX0_tell_1 (by rw [e8]; decide) (by rw [e8]; decide) (by rw [e8]; rfl) rfl ?_
    refine P_aloadn (i := 0) rfl rfl dX0_tell_92 ?_
    refine gX0_36 rfl hk rfl dX0_tell_93 ?_
    refine P_ireturn rfl dX0_tell_96 ?_
    rw [e8]
    exact ⟨rfl, rfl⟩
  refine P_tabOut (tgt := 97) dX0_tell_1 (by
    have hne : ∀ k : Nat, k < 2147483648 → ¬ v = Int32.ofNat k → ¬ v.toInt = (k : Int) := fun k hk h1 h2 => h1 (i_eq.mpr (by rw [n_int hk]; exact h2))
    have f0 := hne 0 (by decide) e0
    have f1 := hne 1 (by decide) e1
    have f2 := hne 2 (by decide) e2
    have f3 := hne 3 (by decide) e3
    have f4 := hne 4 (by decide) e4
    have f5 := hne 5 (by decide) e5
    have f6 := hne 6 (by decide) e6
    have f7 := hne 7 (by decide) e7
    have f8 := hne 8 (by decide) e8
    omega) rfl ?_
  refine P_bipush (v := (-2)) rfl dX0_tell_97 ?_
  refine P_ireturn rfl dX0_tell_99 ?_
  rw [if_neg (fun hh => by obtain ⟨h1, h2, h3⟩ := in_nn (a := 0) (b := 8) (by decide) (by decide) hh; rcases (show nn v = 0 ∨ nn v = 1 ∨ nn v = 2 ∨ nn v = 3 ∨ nn v = 4 ∨ nn v = 5 ∨ nn v = 6 ∨ nn v = 7 ∨ nn v = 8 by omega) with e | e | e | e | e | e | e | e | e <;> rw [e] at h3 <;> first | exact e0 h3 | exact e1 h3 | exact e2 h3 | exact e3 h3 | exact e4 h3 | exact e5 h3 | exact e6 h3 | exact e7 h3 | exact e8 h3)]
  exact ⟨rfl, rfl⟩
/-- what a node tells -/
def c_nodeTell (FI AI : Nat → Nat → Int32) (q : Nat) (v : Int32) : Int32 := if (0 : Int32) ≤ v ∧ v ≤ 2 then FI (64 + nn v) q else if (10 : Int32) ≤ v ∧ v ≤ 17 then AI (q + 1) (nn v - 10) else -2
theorem n_10 {v : Int32} (h : (10 : Int32) ≤ v ∧ v ≤ 17) : v - 10 = Int32.ofNat (nn v - 10) := by
  obtain ⟨h1, h2, h3⟩ := in_nn (a := 10) (b := 17) (by decide) (by decide) h
  have h4 := n_sub (a := nn v) (b := 10) h1 (by omega)
  rw [← h3] at h4
  exact h4
theorem n_02 {v : Int32} (e0 : ¬ v = 0) (e1 : ¬ v = 1) (e2 : ¬ v = 2) : ¬ ((0 : Int32) ≤ v ∧ v ≤ 2) := fun hh => by
  obtain ⟨h1, h2, h3⟩ := in_nn (a := 0) (b := 2) (by decide) (by decide) hh
  rcases (show nn v = 0 ∨ nn v = 1 ∨ nn v = 2 by omega) with e | e | e <;> rw [e] at h3 <;> first | exact e0 h3 | exact e1 h3 | exact e2 h3
theorem c_N_tell {q : Nat} (hk : L.2.1 q = 2) (hr : L.2.2.2 67 q = some (q + 1)) (hk1 : L.2.1 (q + 1) = 20) (hl1 : L.2.2.1 (q + 1) = 8) : Sp g 2 iX2_tell [vr q, vi v] (L, FI, AI, AL, AR) (0, 0) (QI (L, FI, AI, AL, AR) (c_nodeTell FI AI q v)) := by
  refine Sp.of (ls := [some (vr q), some (vi v)]) (by decide +kernel) rfl rfl ?_
  refine P_iloadn (i := 1) rfl rfl dX2_tell_0 ?_
  refine P_ifne dX2_tell_1 (tgt := 9) rfl (fun h1 => ?_) (fun h1 => ?_)
  · refine P_iloadn (i := 1) rfl rfl dX2_tell_9 ?_
    refine P_iconst (v := 1) rfl dX2_tell_10 ?_
    refine P_icmpne dX2_tell_11 (tgt := 19) rfl (fun h11 => ?_) (fun h11 => ?_)
    · refine P_iloadn (i := 1) rfl rfl dX2_tell_19 ?_
      refine P_iconst (v := 2) rfl dX2_tell_20 ?_
      refine P_icmpne dX2_tell_21 (tgt := 29) rfl (fun h21 => ?_) (fun h21 => ?_)
      · refine P_iloadn (i := 1) rfl rfl dX2_tell_29 ?_
        refine P_bipush (v := 10) rfl dX2_tell_30 ?_
        refine P_bipush (v := 17) rfl dX2_tell_32 ?_
        refine kX2_31 rfl s_X7_isWithin (by decide) rfl dX2_tell_34 (fun r34 s34 q34 => ?_)
        obtain ⟨rfl, rfl⟩ := q34
        refine P_ifeq dX2_tell_37 (tgt := 51) rfl (fun h37 => ?_) (fun h37 => ?_)
        · refine P_bipush (v := (-2)) rfl dX2_tell_51 ?_
          refine P_ireturn rfl dX2_tell_53 ?_
          rw [show c_nodeTell FI AI q v = -2 from (if_neg (n_02 h1 h11 h21)).trans (if_neg (b_f h37))]
          exact ⟨rfl, rfl⟩
        · have hw := in_nn (a := 10) (b := 17) (by decide) (by decide) (b_t h37)
          refine P_aloadn (i := 0) rfl rfl dX2_tell_40 ?_
          refine P_iloadn (i := 1) rfl rfl dX2_tell_41 ?_
          refine P_bipush (v := 10) rfl dX2_tell_42 ?_
          refine P_isub dX2_tell_44 ?_
          refine kX2_35 rfl (s_routeTo hk hr hk1 hl1) (by decide) hk rfl dX2_tell_45 (fun r45 s45 q45 => ?_)
          obtain ⟨rfl, rfl⟩ := q45
          rw [n_10 (b_t h37), if_pos (q_ib_iff.mpr (ib.of (j := nn v - 10) (by omega) (by omega))), n_nn (by omega)]
          refine P_goto dX2_tell_48 (tgt := 53) rfl ?_
          refine P_ireturn rfl dX2_tell_53 ?_
          rw [show c_nodeTell FI AI q v = AI (q + 1) (nn v - 10) from (if_neg (n_02 h1 h11 h21)).trans (if_pos (b_t h37))]
          exact ⟨rfl, rfl⟩
      · refine P_aloadn (i := 0) rfl rfl dX2_tell_24 ?_
        refine gX2_15 rfl (by first | exact hk | exact hk1) rfl dX2_tell_25 ?_
        refine P_ireturn rfl dX2_tell_28 ?_
        rw [h21]
        exact ⟨rfl, rfl⟩
    · refine P_aloadn (i := 0) rfl rfl dX2_tell_14 ?_
      refine gX2_9 rfl (by first | exact hk | exact hk1) rfl dX2_tell_15 ?_
      refine P_ireturn rfl dX2_tell_18 ?_
      rw [h11]
      exact ⟨rfl, rfl⟩
  · refine P_aloadn (i := 0) rfl rfl dX2_tell_4 ?_
    refine gX2_22 rfl (by first | exact hk | exact hk1) rfl dX2_tell_5 ?_
    refine P_ireturn rfl dX2_tell_8 ?_
    rw [h1]
    exact ⟨rfl, rfl⟩
end Cls20
