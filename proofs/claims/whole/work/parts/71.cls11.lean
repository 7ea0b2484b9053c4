theorem nn_ofn {n : Nat} (h : n < 2147483648) : nn (Int32.ofNat n) = n := n_cn h
/-- something of a parcel is there: three ways to see it -/
theorem qP.here {r t : Nat → Int32} {tick : Int32} (h : qP r t tick) : (0 < r 12 ↔ 0 ≤ r 9) ∧ (r 12 ≤ 0 → r 12 = 0) ∧ (¬ r 12 = 0 → 0 < r 12) := by
  have hc := x_cnt_le t 4000
  have h1 : 0 < r 12 ↔ x_cnt t 4000 ≠ 0 := by
    rw [h.2.2.1]
    constructor
    · intro h2
      have := (n_lt (a := 0) (b := x_cnt t 4000) (by omega) (by omega)).mp h2
      omega
    · intro h2
      exact (n_lt (a := 0) (b := x_cnt t 4000) (by omega) (by omega)).mpr (by omega)
  refine ⟨?_, fun h2 => ?_, fun h2 => ?_⟩
  · rw [h1]
    constructor
    · intro h2
      have h3 := (h.2.2.2.2.1 h2).1
      rw [Int32.le_iff_toInt_le]
      exact h3
    · intro h2 h3
      rw [(h.2.2.2.1 h3).1] at h2
      exact absurd h2 (by decide)
  · have h3 : ¬ x_cnt t 4000 ≠ 0 := fun h4 => Int32.not_lt.mpr h2 (h1.mpr h4)
    rw [h.2.2.1, show x_cnt t 4000 = 0 by omega]
    rfl
  · refine h1.mpr (fun h3 => h2 ?_)
    rw [h.2.2.1, h3]
    rfl
section Cls11p
variable {L : PL} {FI AI : Nat → Nat → Int32} {AL : Nat → Nat → Int64} {AR : Nat → Nat → Option Nat} {w : Nat} {X : XW} {C : List XC} {U : Nat} {sa : Nat → Nat}
theorem CW.end_ (h : CW L FI AI AL AR w X C U sa) {p : Nat} (hp : p < xp X) {st : Int32} (hst : ¬ st = 0) : CW L (p_up (p_up (p_up FI 135 (w + 39 + 2 * p) st) 138 (w + 39 + 2 * p) (xG X 0)) 139 (w + 39 + 2 * p) 0) AI AL AR w (x_end X p st) C U sa := by
  have hp40 := h.p40
  obtain ⟨f0, f1, f2, f3, f4, f5, f6, f7, f8, f9, f10, f11⟩ := ((h.p p (by omega)).1 hp).1
  refine h.par hp (fun j a hja => (p_up_of (by omega)).trans ((p_up_of (by omega)).trans (p_up_of (by omega)))) (fun _ _ => rfl) ?_ rfl rfl rfl rfl rfl (fun q hq => ⟨?_, ?_⟩)
  · have eF : ∀ j, j ≠ 135 → j ≠ 138 → j ≠ 139 → p_up (p_up (p_up FI 135 (w + 39 + 2 * p) st) 138 (w + 39 + 2 * p) (xG X 0)) 139 (w + 39 + 2 * p) 0 j (w + 39 + 2 * p) = FI j (w + 39 + 2 * p) := fun j h5 h8 h9 => (p_up_n1 _ _ _ _ h9).trans ((p_up_n1 _ _ _ _ h8).trans (p_up_n1 _ _ _ _ h5))
    have er : ∀ k, xP (x_end X p st) p k = if k = 8 then -6 else if k = 9 then -6 else if k = 12 then 0 else if k = 10 then xG X 0 else if k = 5 then st else xP X p k := fun k => by
      rw [x_end_p, if_pos rfl]
    have e5 : xP (x_end X p st) p 5 = st := er 5
    have e12 : xP (x_end X p st) p 12 = 0 := er 12
    unfold RP
    rw [eF 128 (by decide) (by decide) (by decide), eF 129 (by decide) (by decide) (by decide), eF 130 (by decide) (by decide) (by decide), eF 131 (by decide) (by decide) (by decide), eF 132 (by decide) (by decide) (by decide), eF 133 (by decide) (by decide) (by decide), eF 134 (by decide) (by decide) (by decide), eF 136 (by decide) (by decide) (by decide), eF 137 (by decide) (by decide) (by decide), e5, e12]
    refine ⟨⟨f0.trans (er 0).symm, f1.trans (er 1).symm, f2.trans (er 2).symm, f3.trans (er 3).symm, f4.trans (er 7).symm, f5.trans (by rw [er 3, er 2]; rfl), f6.trans (er 4).symm, (p_up_n1 _ _ _ _ (by decide)).trans ((p_up_n1 _ _ _ _ (by decide)).trans (p_up_eq _ _ _ _)), f8.trans (er 6).symm, f9.trans (er 11).symm, (p_up_n1 _ _ _ _ (by decide)).trans ((p_up_eq _ _ _ _).trans (er 10).symm), p_up_eq _ _ _ _⟩, fun hh => absurd rfl hh, fun hh => absurd hh hst, by rw [eF 142 (by decide) (by decide) (by decide)]; exact ((h.p p (by omega)).1 hp).2.2.2⟩
  · funext k
    rw [x_end_p, if_neg hq]
  · funext k
    exact if_neg hq
end Cls11p
section Cls11
variable {g : PG} {L : PL} {FI AI : Nat → Nat → Int32} {AL : Nat → Nat → Int64} {AR : Nat → Nat → Option Nat} {w : Nat} {X : XW} {C : List XC} {U : Nat} {sa : Nat → Nat} {M : Nat}
theorem s_bytesAtNode (h : CW L FI AI AL AR w X C U sa) {node : Int32} : Sp g 1 iX6_bytesAtNode [vr w, vi node] (L, FI, AI, AL, AR) (0, 0) (QI (L, FI, AI, AL, AR) (x_bytes (xP X) node (xp X))) := by
  refine Sp.of (ls := [some (vr w), some (vi node), none, none, none, none, none]) (by decide +kernel) rfl rfl ?_
  have hw := h.wf
  have hA := h.wa
  have hb16 := h.b16
  have hp40 := h.p40
  have loop : ∀ n i : Nat, i + n = 40 → ∀ v : Int32, v = x_bytes (xP X) node (if i < xp X then i else xp X) → P g 1 iX6_bytesAtNode 14 [some (vr w), some (vi node), some (vi v), some (vr (w + 3)), some (vi (Int32.ofNat 40)), some (vi (Int32.ofNat i)), none] [] (L, FI, AI, AL, AR) (0, 0) (QI (L, FI, AI, AL, AR) (x_bytes (xP X) node (xp X))) := by
    intro n
    induction n with
    | zero =>
      intro i hi v hv
      refine P_iload (i := 5) rfl dX6_bytesAtNode_14 ?_
      refine P_iload (i := 4) rfl dX6_bytesAtNode_16 ?_
      refine P_icmpge dX6_bytesAtNode_18 (tgt := 50) rfl (fun h18 => ?_) (fun h18 => absurd ((n_le (a := 40) (b := i) (by omega) (by omega)).mpr (by omega)) h18)
      refine P_iloadn (i := 2) rfl rfl dX6_bytesAtNode_50 ?_
      refine P_ireturn rfl dX6_bytesAtNode_51 ?_
      rw [hv]
      exact ⟨by rw [if_neg (show ¬ i < xp X by omega)], rfl⟩
    | succ n ih =>
      intro i hi v hv
      refine P_iload (i := 5) rfl dX6_bytesAtNode_14 ?_
      refine P_iload (i := 4) rfl dX6_bytesAtNode_16 ?_
      refine P_icmpge dX6_bytesAtNode_18 (tgt := 50) rfl (fun h18 => absurd h18 (fun h8 => by have h7 := (n_le (a := 40) (b := i) (by omega) (by omega)).mp h8; omega)) (fun h18 => ?_)
      refine P_aloadn (i := 3) rfl rfl dX6_bytesAtNode_21 ?_
      refine P_iload (i := 5) rfl dX6_bytesAtNode_22 ?_
      refine P_aaN (t := 26) (j := i) (by decide) (by first | assumption | exact hw.kw | exact hw.k3) rfl (by omega) (by rw [hw.l3]; omega) (hA.2.2.1 i (by omega)) dX6_bytesAtNode_24 ?_
      refine P_as6 (Or.inr dX6_bytesAtNode_25) rfl rfl ?_
      refine P_aload (i := 6) rfl dX6_bytesAtNode_27 ?_
      refine gX6_131 rfl (hw.kP (by omega)) rfl dX6_bytesAtNode_29 ?_
      refine P_iloadn (i := 1) rfl rfl dX6_bytesAtNode_32 ?_
      refine P_icmpne dX6_bytesAtNode_33 (tgt := 44) rfl (fun h33 => ?_) (fun h33 => ?_)
      · refine P_inN5 dX6_bytesAtNode_44 rfl rfl ?_
        refine P_goto dX6_bytesAtNode_47 (tgt := 14) rfl ?_
        have h0 := ih (i + 1) (by omega) v (by
          rw [hv]
          by_cases e : i < xp X
          · rw [if_pos e, show (if i + 1 < xp X then i + 1 else xp X) = i + 1 by split <;> omega]
            show _ = x_bytes (xP X) node i + (if xP X i 1 = node then xP X i 12 else 0)
            rw [if_neg (by rw [← ((h.p i (by omega)).1 e).1.2.1]; exact h33), Int32.add_zero]
          · rw [if_neg e, if_neg (by omega)])
        refine P_few ?_ h0
        exact ⟨rfl, rfl, rfl, rfl, rfl, rfl, trivial⟩
      · refine P_iloadn (i := 2) rfl rfl dX6_bytesAtNode_36 ?_
        refine P_aload (i := 6) rfl dX6_bytesAtNode_37 ?_
        refine gX6_218 rfl (hw.kP (by omega)) rfl dX6_bytesAtNode_39 ?_
        refine P_iadd dX6_bytesAtNode_42 ?_
        refine P_is2 (Or.inl dX6_bytesAtNode_43) rfl rfl ?_
        refine P_inN5 dX6_bytesAtNode_44 rfl rfl ?_
        refine P_goto dX6_bytesAtNode_47 (tgt := 14) rfl ?_
        have h0 := ih (i + 1) (by omega) (v + FI 139 (w + 39 + 2 * i)) (by
          rw [hv]
          by_cases e : i < xp X
          · rw [if_pos e, show (if i + 1 < xp X then i + 1 else xp X) = i + 1 by split <;> omega]
            show _ = x_bytes (xP X) node i + (if xP X i 1 = node then xP X i 12 else 0)
            rw [if_pos (by rw [← ((h.p i (by omega)).1 e).1.2.1]; exact h33), ((h.p i (by omega)).1 e).1.2.2.2.2.2.2.2.2.2.2.2]
          · rw [if_neg e, if_neg (show ¬ i + 1 < xp X by omega), ((h.p i (by omega)).2 (by omega)).2.2.2.2.2.1, Int32.add_zero])
        refine P_few ?_ h0
        exact ⟨rfl, rfl, rfl, rfl, rfl, rfl, trivial⟩
  refine P_iconst (v := 0) rfl dX6_bytesAtNode_0 ?_
  refine P_is2 (Or.inl dX6_bytesAtNode_1) rfl rfl ?_
  refine P_aloadn (i := 0) rfl rfl dX6_bytesAtNode_2 ?_
  refine gX6_25 rfl (by first | assumption | exact hw.kw | exact hw.k3) hw.r197 dX6_bytesAtNode_3 ?_
  refine P_as3 (Or.inl dX6_bytesAtNode_6) rfl rfl ?_
  refine P_aloadn (i := 3) rfl rfl dX6_bytesAtNode_7 ?_
  refine P_lenN (t := 26) (by decide) (by first | assumption | exact hw.kw | exact hw.k3) (by rw [hw.l3]) dX6_bytesAtNode_8 ?_
  refine P_is4 (Or.inr dX6_bytesAtNode_9) rfl rfl ?_
  refine P_iconst (v := 0) rfl dX6_bytesAtNode_11 ?_
  refine P_is5 (Or.inr dX6_bytesAtNode_12) rfl rfl ?_
  refine loop 40 0 (by omega) 0 ?_
  by_cases e : 0 < xp X
  · rw [if_pos e]; rfl
  · rw [if_neg e, show xp X = 0 by omega]; rfl
theorem s_parcelsAtNode (h : CW L FI AI AL AR w X C U sa) (hI : XI M X) {node : Int32} : Sp g 1 iX6_parcelsAtNode [vr w, vi node] (L, FI, AI, AL, AR) (0, 0) (QI (L, FI, AI, AL, AR) (a_parcelsAt X node)) := by
  refine Sp.of (ls := [some (vr w), some (vi node), none, none, none, none, none]) (by decide +kernel) rfl rfl ?_
  have hw := h.wf
  have hA := h.wa
  have hb16 := h.b16
  have hp40 := h.p40
  have loop : ∀ n i : Nat, i + n = 40 → ∀ v : Int32, v = x_num (fun p => decide (xP X p 1 = node) && decide (0 ≤ xP X p 9)) (if i < xp X then i else xp X) → P g 1 iX6_parcelsAtNode 14 [some (vr w), some (vi node), some (vi v), some (vr (w + 3)), some (vi (Int32.ofNat 40)), some (vi (Int32.ofNat i)), none] [] (L, FI, AI, AL, AR) (0, 0) (QI (L, FI, AI, AL, AR) (a_parcelsAt X node)) := by
    intro n
    induction n with
    | zero =>
      intro i hi v hv
      refine P_iload (i := 5) rfl dX6_parcelsAtNode_14 ?_
      refine P_iload (i := 4) rfl dX6_parcelsAtNode_16 ?_
      refine P_icmpge dX6_parcelsAtNode_18 (tgt := 53) rfl (fun h18 => ?_) (fun h18 => absurd ((n_le (a := 40) (b := i) (by omega) (by omega)).mpr (by omega)) h18)
      refine P_iloadn (i := 2) rfl rfl dX6_parcelsAtNode_53 ?_
      refine P_ireturn rfl dX6_parcelsAtNode_54 ?_
      rw [hv]
      exact ⟨by rw [if_neg (show ¬ i < xp X by omega)]; rfl, rfl⟩
    | succ n ih =>
      intro i hi v hv
      refine P_iload (i := 5) rfl dX6_parcelsAtNode_14 ?_
      refine P_iload (i := 4) rfl dX6_parcelsAtNode_16 ?_
      refine P_icmpge dX6_parcelsAtNode_18 (tgt := 53) rfl (fun h18 => absurd h18 (fun h8 => by have h7 := (n_le (a := 40) (b := i) (by omega) (by omega)).mp h8; omega)) (fun h18 => ?_)
      refine P_aloadn (i := 3) rfl rfl dX6_parcelsAtNode_21 ?_
      refine P_iload (i := 5) rfl dX6_parcelsAtNode_22 ?_
      refine P_aaN (t := 26) (j := i) (by decide) (by first | assumption | exact hw.kw | exact hw.k3) rfl (by omega) (by rw [hw.l3]; omega) (hA.2.2.1 i (by omega)) dX6_parcelsAtNode_24 ?_
      refine P_as6 (Or.inr dX6_parcelsAtNode_25) rfl rfl ?_
      refine P_aload (i := 6) rfl dX6_parcelsAtNode_27 ?_
      refine gX6_131 rfl (hw.kP (by omega)) rfl dX6_parcelsAtNode_29 ?_
      refine P_iloadn (i := 1) rfl rfl dX6_parcelsAtNode_32 ?_
      refine P_icmpne dX6_parcelsAtNode_33 (tgt := 47) rfl (fun h33 => ?_) (fun h33 => ?_)
      · refine P_inN5 dX6_parcelsAtNode_47 rfl rfl ?_
        refine P_goto dX6_parcelsAtNode_50 (tgt := 14) rfl ?_
        have h0 := ih (i + 1) (by omega) v (by
          rw [hv]
          by_cases e : i < xp X
          · rw [if_pos e, show (if i + 1 < xp X then i + 1 else xp X) = i + 1 by split <;> omega]
            show _ = x_num (fun p => decide (xP X p 1 = node) && decide (0 ≤ xP X p 9)) i + (if (decide (xP X i 1 = node) && decide (0 ≤ xP X i 9)) = true then 1 else 0)
            rw [if_neg (by
              rw [Bool.and_eq_true, decide_eq_true_eq, decide_eq_true_eq]
              rintro ⟨g1, g2⟩
              exact h33 (by rw [((h.p i (by omega)).1 e).1.2.1]; exact g1)), Int32.add_zero]
          · rw [if_neg e, if_neg (by omega)])
        refine P_few ?_ h0
        exact ⟨rfl, rfl, rfl, rfl, rfl, rfl, trivial⟩
      · refine P_aload (i := 6) rfl dX6_parcelsAtNode_36 ?_
        refine gX6_218 rfl (hw.kP (by omega)) rfl dX6_parcelsAtNode_38 ?_
        refine P_ifle dX6_parcelsAtNode_41 (tgt := 47) rfl (fun h41 => ?_) (fun h41 => ?_)
        · refine P_inN5 dX6_parcelsAtNode_47 rfl rfl ?_
          refine P_goto dX6_parcelsAtNode_50 (tgt := 14) rfl ?_
          have h0 := ih (i + 1) (by omega) v (by
            rw [hv]
            by_cases e : i < xp X
            · rw [if_pos e, show (if i + 1 < xp X then i + 1 else xp X) = i + 1 by split <;> omega]
              show _ = x_num (fun p => decide (xP X p 1 = node) && decide (0 ≤ xP X p 9)) i + (if (decide (xP X i 1 = node) && decide (0 ≤ xP X i 9)) = true then 1 else 0)
              rw [if_neg (by
                rw [Bool.and_eq_true, decide_eq_true_eq, decide_eq_true_eq]
                rintro ⟨g1, g2⟩
                exact Int32.not_lt.mpr h41 (by rw [((h.p i (by omega)).1 e).1.2.2.2.2.2.2.2.2.2.2.2]; exact (hI.2.2.2.1 i e).here.1.mpr g2)), Int32.add_zero]
            · rw [if_neg e, if_neg (by omega)])
          refine P_few ?_ h0
          exact ⟨rfl, rfl, rfl, rfl, rfl, rfl, trivial⟩
        · refine P_in2 (n := 1) (v := (v + 1)) rfl dX6_parcelsAtNode_44 rfl rfl ?_
          refine P_inN5 dX6_parcelsAtNode_47 rfl rfl ?_
          refine P_goto dX6_parcelsAtNode_50 (tgt := 14) rfl ?_
          have e : i < xp X := Decidable.byContradiction fun e => h41 (by rw [((h.p i (by omega)).2 (by omega)).2.2.2.2.2.1]; decide)
          have hpr := ((h.p i (by omega)).1 e).1
          have h0 := ih (i + 1) (by omega) (v + 1) (by
            rw [hv, if_pos e, show (if i + 1 < xp X then i + 1 else xp X) = i + 1 by split <;> omega]
            show _ = x_num (fun p => decide (xP X p 1 = node) && decide (0 ≤ xP X p 9)) i + (if (decide (xP X i 1 = node) && decide (0 ≤ xP X i 9)) = true then 1 else 0)
            rw [if_pos (by
              rw [Bool.and_eq_true, decide_eq_true_eq, decide_eq_true_eq]
              exact ⟨by rw [← hpr.2.1]; exact h33, (hI.2.2.2.1 i e).here.1.mp (by rw [← hpr.2.2.2.2.2.2.2.2.2.2.2]; exact Int32.not_le.mp h41)⟩)])
          refine P_few ?_ h0
          exact ⟨rfl, rfl, rfl, rfl, rfl, rfl, trivial⟩
  refine P_iconst (v := 0) rfl dX6_parcelsAtNode_0 ?_
  refine P_is2 (Or.inl dX6_parcelsAtNode_1) rfl rfl ?_
  refine P_aloadn (i := 0) rfl rfl dX6_parcelsAtNode_2 ?_
  refine gX6_25 rfl (by first | assumption | exact hw.kw | exact hw.k3) hw.r197 dX6_parcelsAtNode_3 ?_
  refine P_as3 (Or.inl dX6_parcelsAtNode_6) rfl rfl ?_
  refine P_aloadn (i := 3) rfl rfl dX6_parcelsAtNode_7 ?_
  refine P_lenN (t := 26) (by decide) (by first | assumption | exact hw.kw | exact hw.k3) (by rw [hw.l3]) dX6_parcelsAtNode_8 ?_
  refine P_is4 (Or.inr dX6_parcelsAtNode_9) rfl rfl ?_
  refine P_iconst (v := 0) rfl dX6_parcelsAtNode_11 ?_
  refine P_is5 (Or.inr dX6_parcelsAtNode_12) rfl rfl ?_
  refine loop 40 0 (by omega) 0 ?_
  by_cases e : 0 < xp X
  · rw [if_pos e]; rfl
  · rw [if_neg e, show xp X = 0 by omega]; rfl
theorem s_eldest (h : CW L FI AI AL AR w X C U sa) (hI : XI M X) {node : Int32} : Sp g 1 iX6_eldestAtNode [vr w, vi node] (L, FI, AI, AL, AR) (0, 0) (QA (L, FI, AI, AL, AR) (if x_best (xP X) node (xp X) < 0 then none else some (w + 39 + 2 * nn (x_best (xP X) node (xp X))))) := by
  refine Sp.of (ls := [some (vr w), some (vi node), none, none, none, none, none, none]) (by decide +kernel) rfl rfl ?_
  have hw := h.wf
  have hA := h.wa
  have hb16 := h.b16
  have hp40 := h.p40
  have loop : ∀ n i : Nat, i + n = 40 → ∀ v : Option Nat, v = (if x_best (xP X) node (if i < xp X then i else xp X) < 0 then none else some (w + 39 + 2 * nn (x_best (xP X) node (if i < xp X then i else xp X)))) → P g 1 iX6_eldestAtNode 14 [some (vr w), some (vi node), some (vq v), some (vr (w + 3)), some (vi (Int32.ofNat 40)), some (vi (Int32.ofNat i)), none, none] [] (L, FI, AI, AL, AR) (0, 0) (QA (L, FI, AI, AL, AR) (if x_best (xP X) node (xp X) < 0 then none else some (w + 39 + 2 * nn (x_best (xP X) node (xp X))))) := by
    intro n
    induction n with
    | zero =>
      intro i hi v hv
      refine P_iload (i := 5) rfl dX6_eldestAtNode_14 ?_
      refine P_iload (i := 4) rfl dX6_eldestAtNode_16 ?_
      refine P_icmpge dX6_eldestAtNode_18 (tgt := 81) rfl (fun h18 => ?_) (fun h18 => absurd ((n_le (a := 40) (b := i) (by omega) (by omega)).mpr (by omega)) h18)
      refine P_aloadn (i := 2) rfl rfl dX6_eldestAtNode_81 ?_
      refine P_areturn rfl dX6_eldestAtNode_82 ?_
      exact ⟨by rw [hv, if_neg (show ¬ i < xp X by omega)], rfl⟩
    | succ n ih =>
      intro i hi v hv
      refine P_iload (i := 5) rfl dX6_eldestAtNode_14 ?_
      refine P_iload (i := 4) rfl dX6_eldestAtNode_16 ?_
      refine P_icmpge dX6_eldestAtNode_18 (tgt := 81) rfl (fun h18 => absurd h18 (fun h8 => by have h7 := (n_le (a := 40) (b := i) (by omega) (by omega)).mp h8; omega)) (fun h18 => ?_)
      refine P_aloadn (i := 3) rfl rfl dX6_eldestAtNode_21 ?_
      refine P_iload (i := 5) rfl dX6_eldestAtNode_22 ?_
      refine P_aaN (t := 26) (j := i) (by decide) (by first | assumption | exact hw.kw | exact hw.k3) rfl (by omega) (by rw [hw.l3]; omega) (hA.2.2.1 i (by omega)) dX6_eldestAtNode_24 ?_
      refine P_as6 (Or.inr dX6_eldestAtNode_25) rfl rfl ?_
      refine P_aload (i := 6) rfl dX6_eldestAtNode_27 ?_
      refine gX6_218 rfl (hw.kP (by omega)) rfl dX6_eldestAtNode_29 ?_
      refine P_ifle dX6_eldestAtNode_32 (tgt := 48) rfl (fun h32 => ?_) (fun h32 => ?_)
      · refine P_iconst (v := 0) rfl dX6_eldestAtNode_48 ?_
        refine P_is7 (Or.inr dX6_eldestAtNode_49) rfl rfl ?_
        refine P_iload (i := 7) rfl dX6_eldestAtNode_51 ?_
        refine P_ifeq dX6_eldestAtNode_53 (tgt := 75) rfl (fun h53 => ?_) (fun h53 => ?_)
        · refine P_inN5 dX6_eldestAtNode_75 rfl rfl ?_
          refine P_goto dX6_eldestAtNode_78 (tgt := 14) rfl ?_
          have h0 := ih (i + 1) (by omega) v (by
            rw [hv]
            by_cases e : i < xp X
            · rw [if_pos e, show (if i + 1 < xp X then i + 1 else xp X) = i + 1 by split <;> omega]
              have hb : x_best (xP X) node (i + 1) = x_best (xP X) node i := if_neg (by
                rintro ⟨⟨g1, g2⟩, g3⟩
                exact Int32.not_lt.mpr h32 (by rw [((h.p i (by omega)).1 e).1.2.2.2.2.2.2.2.2.2.2.2]; exact (hI.2.2.2.1 i e).here.1.mpr g2))
              rw [hb]
            · rw [if_neg e, if_neg (show ¬ i + 1 < xp X by omega)])
          refine P_few ?_ h0
          exact ⟨rfl, rfl, rfl, rfl, rfl, rfl, trivial⟩
        · exact absurd rfl h53
      · refine P_aload (i := 6) rfl dX6_eldestAtNode_35 ?_
        refine gX6_131 rfl (hw.kP (by omega)) rfl dX6_eldestAtNode_37 ?_
        refine P_iloadn (i := 1) rfl rfl dX6_eldestAtNode_40 ?_
        refine P_icmpne dX6_eldestAtNode_41 (tgt := 48) rfl (fun h41 => ?_) (fun h41 => ?_)
        · refine P_iconst (v := 0) rfl dX6_eldestAtNode_48 ?_
          refine P_is7 (Or.inr dX6_eldestAtNode_49) rfl rfl ?_
          refine P_iload (i := 7) rfl dX6_eldestAtNode_51 ?_
          refine P_ifeq dX6_eldestAtNode_53 (tgt := 75) rfl (fun h53 => ?_) (fun h53 => ?_)
          · refine P_inN5 dX6_eldestAtNode_75 rfl rfl ?_
            refine P_goto dX6_eldestAtNode_78 (tgt := 14) rfl ?_
            have h0 := ih (i + 1) (by omega) v (by
              rw [hv]
              by_cases e : i < xp X
              · rw [if_pos e, show (if i + 1 < xp X then i + 1 else xp X) = i + 1 by split <;> omega]
                have hb : x_best (xP X) node (i + 1) = x_best (xP X) node i := if_neg (by
                  rintro ⟨⟨g1, g2⟩, g3⟩
                  exact h41 (by rw [((h.p i (by omega)).1 e).1.2.1]; exact g1))
                rw [hb]
              · rw [if_neg e, if_neg (show ¬ i + 1 < xp X by omega)])
            refine P_few ?_ h0
            exact ⟨rfl, rfl, rfl, rfl, rfl, rfl, trivial⟩
          · exact absurd rfl h53
        · refine P_iconst (v := 1) rfl dX6_eldestAtNode_44 ?_
          refine P_goto dX6_eldestAtNode_45 (tgt := 49) rfl ?_
          refine P_is7 (Or.inr dX6_eldestAtNode_49) rfl rfl ?_
          refine P_iload (i := 7) rfl dX6_eldestAtNode_51 ?_
          refine P_ifeq dX6_eldestAtNode_53 (tgt := 75) rfl (fun h53 => ?_) (fun h53 => ?_)
          · exact absurd h53 (by decide)
          · refine P_aloadn (i := 2) rfl rfl dX6_eldestAtNode_56 ?_
            have e : i < xp X := Decidable.byContradiction fun e => h32 (by rw [((h.p i (by omega)).2 (by omega)).2.2.2.2.2.1]; decide)
            have hpr := ((h.p i (by omega)).1 e).1
            have hth : 0 < xP X i 12 := by rw [← hpr.2.2.2.2.2.2.2.2.2.2.2]; exact Int32.not_le.mp h32
            have hfi := (hI.2.2.2.1 i e).here.1.mp hth
            have hfp : FI 140 (w + 39 + 2 * i) = xP X i 9 := (((h.p i (by omega)).1 e).2.1 (fun hh => by rw [hh] at hth; exact absurd hth (by decide))).1
            rw [if_pos e] at hv
            by_cases hbn : x_best (xP X) node i < 0
            · rw [if_pos hbn] at hv
              subst hv
              refine P_ifnull dX6_eldestAtNode_57 (tgt := 72) rfl (fun h57 => ?_) (fun a57 h57 => by cases h57)
              refine P_aload (i := 6) rfl dX6_eldestAtNode_72 ?_
              refine P_as2 (Or.inl dX6_eldestAtNode_74) rfl rfl ?_
              refine P_inN5 dX6_eldestAtNode_75 rfl rfl ?_
              refine P_goto dX6_eldestAtNode_78 (tgt := 14) rfl ?_
              have hb : x_best (xP X) node (i + 1) = Int32.ofNat i := if_pos ⟨⟨by rw [← hpr.2.1]; exact h41, hfi⟩, Or.inl hbn⟩
              have h0 := ih (i + 1) (by omega) (some (w + 39 + 2 * i)) (by
                rw [show (if i + 1 < xp X then i + 1 else xp X) = i + 1 by split <;> omega, hb, if_neg (Int32.not_lt.mpr (n_pos (by omega))), nn_ofn (by omega)])
              refine P_few ?_ h0
              exact ⟨rfl, rfl, rfl, rfl, rfl, rfl, trivial⟩
            · obtain ⟨b, hb1, hb2, hb3, hb4⟩ := (x_best_spec (xP X) node i (by omega)).resolve_left (fun hh => hbn (by rw [hh.1]; decide))
              rw [if_neg hbn, hb2, nn_ofn (by omega)] at hv
              subst hv
              have hpb := hI.2.2.2.1 b (by omega)
              have hfb : FI 140 (w + 39 + 2 * b) = xP X b 9 := (((h.p b (by omega)).1 (by omega)).2.1 (fun hh => by have h9 := hpb.here.1.mpr hb4; rw [hh] at h9; exact absurd h9 (by decide))).1
              refine P_ifnull dX6_eldestAtNode_57 (tgt := 72) rfl (fun h57 => by cases h57) (fun a57 h57 => ?_)
              cases h57
              refine P_aload (i := 6) rfl dX6_eldestAtNode_60 ?_
              refine gX6_232 rfl (hw.kP (by omega)) hfp dX6_eldestAtNode_62 ?_
              refine P_aloadn (i := 2) rfl rfl dX6_eldestAtNode_65 ?_
              refine gX6_232 rfl (hw.kP (by omega)) hfb dX6_eldestAtNode_66 ?_
              refine P_icmpge dX6_eldestAtNode_69 (tgt := 75) rfl (fun h69 => ?_) (fun h69 => ?_)
              · refine P_inN5 dX6_eldestAtNode_75 rfl rfl ?_
                refine P_goto dX6_eldestAtNode_78 (tgt := 14) rfl ?_
                have hb : x_best (xP X) node (i + 1) = x_best (xP X) node i := if_neg (by
                  rintro ⟨⟨g1, g2⟩, g3⟩
                  rcases g3 with g3 | g3
                  · exact hbn g3
                  · rw [hb2, nn_ofn (by omega)] at g3
                    exact Int32.not_lt.mpr h69 g3)
                have h0 := ih (i + 1) (by omega) (some (w + 39 + 2 * b)) (by
                  rw [show (if i + 1 < xp X then i + 1 else xp X) = i + 1 by split <;> omega, hb, if_neg hbn, hb2, nn_ofn (by omega)])
                refine P_few ?_ h0
                exact ⟨rfl, rfl, rfl, rfl, rfl, rfl, trivial⟩
              · refine P_aload (i := 6) rfl dX6_eldestAtNode_72 ?_
                refine P_as2 (Or.inl dX6_eldestAtNode_74) rfl rfl ?_
                refine P_inN5 dX6_eldestAtNode_75 rfl rfl ?_
                refine P_goto dX6_eldestAtNode_78 (tgt := 14) rfl ?_
                have hb : x_best (xP X) node (i + 1) = Int32.ofNat i := if_pos ⟨⟨by rw [← hpr.2.1]; exact h41, hfi⟩, Or.inr (by rw [hb2, nn_ofn (by omega)]; exact Int32.not_le.mp h69)⟩
                have h0 := ih (i + 1) (by omega) (some (w + 39 + 2 * i)) (by
                  rw [show (if i + 1 < xp X then i + 1 else xp X) = i + 1 by split <;> omega, hb, if_neg (Int32.not_lt.mpr (n_pos (by omega))), nn_ofn (by omega)])
                refine P_few ?_ h0
                exact ⟨rfl, rfl, rfl, rfl, rfl, rfl, trivial⟩
  refine P_null dX6_eldestAtNode_0 ?_
  refine P_as2 (Or.inl dX6_eldestAtNode_1) rfl rfl ?_
  refine P_aloadn (i := 0) rfl rfl dX6_eldestAtNode_2 ?_
  refine gX6_25 rfl (by first | assumption | exact hw.kw | exact hw.k3) hw.r197 dX6_eldestAtNode_3 ?_
  refine P_as3 (Or.inl dX6_eldestAtNode_6) rfl rfl ?_
  refine P_aloadn (i := 3) rfl rfl dX6_eldestAtNode_7 ?_
  refine P_lenN (t := 26) (by decide) (by first | assumption | exact hw.kw | exact hw.k3) (by rw [hw.l3]) dX6_eldestAtNode_8 ?_
  refine P_is4 (Or.inr dX6_eldestAtNode_9) rfl rfl ?_
  refine P_iconst (v := 0) rfl dX6_eldestAtNode_11 ?_
  refine P_is5 (Or.inr dX6_eldestAtNode_12) rfl rfl ?_
  refine loop 40 0 (by omega) none ?_
  by_cases e : 0 < xp X
  · rw [if_pos e]; rfl
  · rw [if_neg e, show xp X = 0 by omega]; rfl
end Cls11
