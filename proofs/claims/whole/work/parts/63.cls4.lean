/-! ===== one change of a World ===== -/
section Cls4
variable {L : PL} {FI AI F2 A2 : Nat → Nat → Int32} {AL L2 : Nat → Nat → Int64} {AR : Nat → Nat → Option Nat} {w : Nat} {X : XW} {C : List XC} {U : Nat} {sa : Nat → Nat}
theorem CW.slot (h : CW L FI AI AL AR w X C U sa) {n : Nat} (hn : C.length ≤ n) (hn2 : n < 601) (hF : ∀ j a, ¬ (160 ≤ j ∧ j < 169 ∧ a = sa n) → F2 j a = FI j a) : CW L F2 AI AL AR w X C U sa := by
  have hl := h.wa.lo hn2
  refine ⟨h.1, h.g.cg (fun j h1 h2 => hF j w (by omega)), h.d, fun i hi => (h.n i hi).cg (fun j h1 h2 => hF j _ (by omega)) rfl, fun b hb => (h.b b hb).cg (fun j h1 => hF j _ (by omega)), fun p hp => (h.p p hp).cg (fun j h1 h2 => hF j _ (by omega)) rfl, fun i hi => (h.s i hi).cg (fun j h1 h2 => hF j _ ?_), h.c601, h.b16, h.p40⟩
  have := h.wa.ne (i := i) (j := n) (by omega) hn2 (by omega)
  omega
theorem CW.add (h : CW L FI AI AL AR w X C U sa) (hn : C.length < 601) {σ : XC} (hs : SL FI (sa C.length) σ.1) (hg : FI 168 (sa C.length) = (if σ.2 = true then 1 else 0)) : CW L (p_up FI 199 w (Int32.ofNat (C.length + 1))) AI AL AR w X (C ++ [σ]) U sa := by
  have hlen : (C ++ [σ]).length = C.length + 1 := by rw [List.length_append]; rfl
  refine ⟨h.1, ?_, h.d, fun i hi => (h.n i hi).cg (fun j h1 h2 => p_up_n1 _ _ _ _ (by omega)) rfl, fun b hb => (h.b b hb).cg (fun j h1 => p_up_n1 _ _ _ _ (by omega)), fun p hp => (h.p p hp).cg (fun j h1 h2 => p_up_n1 _ _ _ _ (by omega)) rfl, fun i hi => ?_, by rw [hlen]; omega, h.b16, h.p40⟩
  · obtain ⟨g0, g1, g2, g3, g4, g5, g6, g7⟩ := h.g
    exact ⟨(p_up_n1 _ _ _ _ (by decide)).trans g0, (p_up_n1 _ _ _ _ (by decide)).trans g1, (p_up_n1 _ _ _ _ (by decide)).trans g2, by rw [hlen]; exact p_up_eq _ _ _ _, (p_up_n1 _ _ _ _ (by decide)).trans g4, (p_up_n1 _ _ _ _ (by decide)).trans g5, (p_up_n1 _ _ _ _ (by decide)).trans g6, (p_up_n1 _ _ _ _ (by decide)).trans g7⟩
  · rw [hlen] at hi
    have e : ∀ j, 160 ≤ j → j < 169 → p_up FI 199 w (Int32.ofNat (C.length + 1)) j (sa i) = FI j (sa i) := fun j h1 h2 => p_up_n1 _ _ _ _ (by omega)
    have hgd : (C ++ [σ]).getD i xc0 = if i = C.length then σ else C.getD i xc0 := by
      rw [List.getD_eq_getElem?_getD]
      by_cases e1 : i = C.length
      · rw [if_pos e1, e1, List.getElem?_append_right (Nat.le_refl _), Nat.sub_self]
        rfl
      · rw [if_neg e1, List.getElem?_append_left (by omega), List.getD_eq_getElem?_getD]
    unfold CS1
    rw [hgd]
    by_cases e1 : i = C.length
    · rw [if_pos e1, e1]
      rw [e1] at e
      exact ⟨hs.cg (fun j h1 h2 => e j h1 (by omega)), (e 168 (by decide) (by decide)).trans hg⟩
    · rw [if_neg e1]
      have h9 := (h.s i (by omega)).cg e
      exact h9
theorem CW.setg {F : Nat} {v : Int32} (h : CW L FI AI AL AR w X C U sa) {Y : XW} {V : Nat} (hF : 192 ≤ F) (hg : CG (p_up FI F w v) w Y C.length V) (eN : xN Y = xN X) (eB : xB Y = xB X) (eP : xP Y = xP X) (eT : xT Y = xT X) (eb : xb Y = xb X) (ep : xp Y = xp X) (eD : ∀ k, 0 < k → k < 8 → xG Y (6 + k) = xG X (6 + k)) : CW L (p_up FI F w v) AI AL AR w Y C V sa := by
  refine ⟨h.1, hg, fun k h1 h2 => (h.d k h1 h2).trans (eD k h1 h2).symm, fun i hi => ?_, fun b hb => ?_, fun p hp => ?_, fun i hi => (h.s i hi).cg (fun j h1 h2 => p_up_n1 _ _ _ _ (by omega)), h.c601, by rw [eb]; exact h.b16, by rw [ep]; exact h.p40⟩
  · have h9 : CN1 (p_up FI F w v) AI w X i := (h.n i hi).cg (fun j h1 h2 => p_up_n1 _ _ _ _ (by omega)) rfl
    unfold CN1 at h9 ⊢
    rw [eN]
    exact h9
  · have h9 : CB1 (p_up FI F w v) w X b := (h.b b hb).cg (fun j h1 => p_up_n1 _ _ _ _ (by omega))
    unfold CB1 at h9 ⊢
    rw [eB, eb]
    exact h9
  · have h9 : CP1 (p_up FI F w v) AL w X p := (h.p p hp).cg (fun j h1 h2 => p_up_n1 _ _ _ _ (by omega)) rfl
    unfold CP1 at h9 ⊢
    rw [eP, eT, ep]
    exact h9
theorem CW.u (h : CW L FI AI AL AR w X C U sa) (V : Nat) : CW L (p_up FI 200 w (Int32.ofNat V)) AI AL AR w X C V sa := by
  obtain ⟨g0, g1, g2, g3, g4, g5, g6, g7⟩ := h.g
  exact h.setg (by decide) ⟨(p_up_n1 _ _ _ _ (by decide)).trans g0, (p_up_n1 _ _ _ _ (by decide)).trans g1, (p_up_n1 _ _ _ _ (by decide)).trans g2, (p_up_n1 _ _ _ _ (by decide)).trans g3, p_up_eq _ _ _ _, (p_up_n1 _ _ _ _ (by decide)).trans g5, (p_up_n1 _ _ _ _ (by decide)).trans g6, (p_up_n1 _ _ _ _ (by decide)).trans g7⟩ rfl rfl rfl rfl rfl rfl (fun _ _ _ => rfl)
theorem x_g_o {X : XW} {k j : Nat} {v : Int32} (h : j ≠ k) : xG (x_g X k v) j = xG X j := if_neg h
theorem x_g_e {X : XW} {k : Nat} {v : Int32} : xG (x_g X k v) k = v := if_pos rfl
theorem CW.g0 (h : CW L FI AI AL AR w X C U sa) (v : Int32) : CW L (p_up FI 192 w v) AI AL AR w (x_g X 0 v) C U sa := by
  obtain ⟨g0, g1, g2, g3, g4, g5, g6, g7⟩ := h.g
  exact h.setg (by decide) ⟨(p_up_eq _ _ _ _).trans x_g_e.symm, (p_up_n1 _ _ _ _ (by decide)).trans g1, (p_up_n1 _ _ _ _ (by decide)).trans g2, (p_up_n1 _ _ _ _ (by decide)).trans g3, (p_up_n1 _ _ _ _ (by decide)).trans g4, (p_up_n1 _ _ _ _ (by decide)).trans (g5.trans (x_g_o (by decide)).symm), (p_up_n1 _ _ _ _ (by decide)).trans (g6.trans (x_g_o (by decide)).symm), (p_up_n1 _ _ _ _ (by decide)).trans (g7.trans (x_g_o (by decide)).symm)⟩ rfl rfl rfl rfl rfl rfl (fun k h1 _ => x_g_o (by omega))
theorem CW.g4 (h : CW L FI AI AL AR w X C U sa) (v : Int32) : CW L (p_up FI 201 w v) AI AL AR w (x_g X 4 v) C U sa := by
  obtain ⟨g0, g1, g2, g3, g4, g5, g6, g7⟩ := h.g
  exact h.setg (by decide) ⟨(p_up_n1 _ _ _ _ (by decide)).trans (g0.trans (x_g_o (by decide)).symm), (p_up_n1 _ _ _ _ (by decide)).trans g1, (p_up_n1 _ _ _ _ (by decide)).trans g2, (p_up_n1 _ _ _ _ (by decide)).trans g3, (p_up_n1 _ _ _ _ (by decide)).trans g4, (p_up_eq _ _ _ _).trans x_g_e.symm, (p_up_n1 _ _ _ _ (by decide)).trans (g6.trans (x_g_o (by decide)).symm), (p_up_n1 _ _ _ _ (by decide)).trans (g7.trans (x_g_o (by decide)).symm)⟩ rfl rfl rfl rfl rfl rfl (fun k h1 _ => x_g_o (by omega))
theorem CW.g5 (h : CW L FI AI AL AR w X C U sa) (v : Int32) : CW L (p_up FI 202 w v) AI AL AR w (x_g X 5 v) C U sa := by
  obtain ⟨g0, g1, g2, g3, g4, g5, g6, g7⟩ := h.g
  exact h.setg (by decide) ⟨(p_up_n1 _ _ _ _ (by decide)).trans (g0.trans (x_g_o (by decide)).symm), (p_up_n1 _ _ _ _ (by decide)).trans g1, (p_up_n1 _ _ _ _ (by decide)).trans g2, (p_up_n1 _ _ _ _ (by decide)).trans g3, (p_up_n1 _ _ _ _ (by decide)).trans g4, (p_up_n1 _ _ _ _ (by decide)).trans (g5.trans (x_g_o (by decide)).symm), (p_up_eq _ _ _ _).trans x_g_e.symm, (p_up_n1 _ _ _ _ (by decide)).trans (g7.trans (x_g_o (by decide)).symm)⟩ rfl rfl rfl rfl rfl rfl (fun k h1 _ => x_g_o (by omega))
theorem CW.g6 (h : CW L FI AI AL AR w X C U sa) (v : Int32) : CW L (p_up FI 203 w v) AI AL AR w (x_g X 6 v) C U sa := by
  obtain ⟨g0, g1, g2, g3, g4, g5, g6, g7⟩ := h.g
  exact h.setg (by decide) ⟨(p_up_n1 _ _ _ _ (by decide)).trans (g0.trans (x_g_o (by decide)).symm), (p_up_n1 _ _ _ _ (by decide)).trans g1, (p_up_n1 _ _ _ _ (by decide)).trans g2, (p_up_n1 _ _ _ _ (by decide)).trans g3, (p_up_n1 _ _ _ _ (by decide)).trans g4, (p_up_n1 _ _ _ _ (by decide)).trans (g5.trans (x_g_o (by decide)).symm), (p_up_n1 _ _ _ _ (by decide)).trans (g6.trans (x_g_o (by decide)).symm), (p_up_eq _ _ _ _).trans x_g_e.symm⟩ rfl rfl rfl rfl rfl rfl (fun k h1 _ => x_g_o (by omega))
theorem CW.drp (h : CW L FI AI AL AR w X C U sa) {k : Nat} (hk : 0 < k ∧ k < 8) (v : Int32) : CW L FI (p_up AI (w + 5) k v) AL AR w (x_g X (6 + k) v) C U sa := by
  obtain ⟨g0, g1, g2, g3, g4, g5, g6, g7⟩ := h.g
  refine ⟨h.1, ⟨g0.trans (x_g_o (by omega)).symm, g1, g2, g3, g4, g5.trans (x_g_o (by omega)).symm, g6.trans (x_g_o (by omega)).symm, g7.trans (x_g_o (by omega)).symm⟩, fun j h1 h2 => ?_, fun i hi => (h.n i hi).cg (fun _ _ _ => rfl) (p_up_oth (by omega)), h.b, h.p, h.s, h.c601, h.b16, h.p40⟩
  by_cases e : j = k
  · rw [e]; exact (p_up_eq _ _ _ _).trans x_g_e.symm
  · exact (p_up_n2 _ _ _ _ e).trans ((h.d j h1 h2).trans (x_g_o (by omega)).symm)
/-- a slice of the list is written -/
theorem CW.sl (h : CW L FI AI AL AR w X C U sa) {k : Nat} (hk : k < C.length) {σ : XC} (hF : ∀ j a, ¬ (160 ≤ j ∧ j < 169 ∧ a = sa k) → F2 j a = FI j a) (hs : SL F2 (sa k) σ.1) (hg : F2 168 (sa k) = (if σ.2 = true then 1 else 0)) : CW L F2 AI AL AR w X (C.set k σ) U sa := by
  have hc := h.c601
  have hl := h.wa.lo (i := k) (by omega)
  refine ⟨h.1, ?_, h.d, fun i hi => (h.n i hi).cg (fun j h1 h2 => hF j _ (by omega)) rfl, fun b hb => (h.b b hb).cg (fun j h1 => hF j _ (by omega)), fun p hp => (h.p p hp).cg (fun j h1 h2 => hF j _ (by omega)) rfl, fun i hi => ?_, by rw [List.length_set]; exact hc, h.b16, h.p40⟩
  · rw [List.length_set]
    exact h.g.cg (fun j h1 h2 => hF j w (by omega))
  · rw [List.length_set] at hi
    unfold CS1
    rw [List.getD_eq_getElem?_getD]
    by_cases e : i = k
    · rw [e, List.getElem?_set_self hk]
      exact ⟨hs, hg⟩
    · rw [List.getElem?_set_ne (Ne.symm e), ← List.getD_eq_getElem?_getD]
      have := h.wa.ne (i := i) (j := k) (by omega) (by omega) e
      exact (h.s i hi).cg (fun j h1 h2 => hF j _ (by omega))
/-- a parcel is written -/
theorem CW.par (h : CW L FI AI AL AR w X C U sa) {p : Nat} (hp : p < xp X) {Y : XW} (hF : ∀ j a, ¬ (128 ≤ j ∧ j < 143 ∧ a = w + 39 + 2 * p) → F2 j a = FI j a) (hL : ∀ a, a ≠ w + 40 + 2 * p → L2 a = AL a) (hr : RP F2 L2 (w + 39 + 2 * p) (xP Y p) (xT Y p)) (eG : xG Y = xG X) (eN : xN Y = xN X) (eB : xB Y = xB X) (eb : xb Y = xb X) (ep : xp Y = xp X) (eo : ∀ q, q ≠ p → xP Y q = xP X q ∧ xT Y q = xT X q) : CW L F2 AI L2 AR w Y C U sa := by
  have hp40 := h.p40
  refine ⟨h.1, ?_, ?_, fun i hi => ?_, fun b hb => ?_, fun q hq => ?_, fun i hi => (h.s i hi).cg (fun j h1 h2 => hF j _ (by omega)), h.c601, by rw [eb]; exact h.b16, by rw [ep]; exact h.p40⟩
  · have h9 : CG F2 w X C.length U := h.g.cg (fun j h1 h2 => hF j w (by omega))
    unfold CG at h9 ⊢
    rw [eG, eb, ep]
    exact h9
  · unfold CD
    rw [eG]
    exact h.d
  · have h9 : CN1 F2 AI w X i := (h.n i hi).cg (fun j h1 h2 => hF j _ (by omega)) rfl
    unfold CN1 at h9 ⊢
    rw [eN]
    exact h9
  · have h9 : CB1 F2 w X b := (h.b b hb).cg (fun j h1 => hF j _ (by omega))
    unfold CB1 at h9 ⊢
    rw [eB, eb]
    exact h9
  · by_cases e : q = p
    · rw [e]
      exact ⟨fun _ => hr, fun hh => by rw [ep] at hh; omega⟩
    · have h9 : CP1 F2 L2 w X q := (h.p q hq).cg (fun j h1 h2 => hF j _ (by omega)) (hL _ (by omega))
      unfold CP1 at h9 ⊢
      rw [(eo q e).1, (eo q e).2, ep]
      exact h9
theorem CW.bri (h : CW L FI AI AL AR w X C U sa) {b k : Nat} (hb : b < xb X) (hk : k < 9) (v : Int32) : CW L (p_up FI k (w + 23 + b) v) AI AL AR w (x_b X b k v) C U sa := by
  have hb16 := h.b16
  refine ⟨h.1, h.g.cg (fun j h1 h2 => p_up_n1 _ _ _ _ (by omega)), h.d, fun i hi => (h.n i hi).cg (fun j h1 h2 => p_up_n1 _ _ _ _ (by omega)) rfl, fun c hc => ?_, fun p hp => (h.p p hp).cg (fun j h1 h2 => p_up_n1 _ _ _ _ (by omega)) rfl, fun i hi => (h.s i hi).cg (fun j h1 h2 => p_up_n1 _ _ _ _ (by omega)), h.c601, h.b16, h.p40⟩
  refine ⟨fun h1 j hj => ?_, fun h1 j h5 hj => ?_⟩
  · show p_up FI k (w + 23 + b) v j (w + 23 + c) = p_up (xB X) b k v c j
    by_cases e : c = b ∧ j = k
    · rw [e.1, e.2, p_up_eq, p_up_eq]
    · rw [show p_up (xB X) b k v c j = xB X c j from if_neg e, show p_up FI k (w + 23 + b) v j (w + 23 + c) = FI j (w + 23 + c) from if_neg (by omega)]
      exact (h.b c hc).1 h1 j hj
  · have h2 : xb X ≤ c := h1
    exact (p_up_n2 _ _ _ _ (by omega)).trans ((h.b c hc).2 h1 j h5 hj)
theorem CW.nod (h : CW L FI AI AL AR w X C U sa) {i k : Nat} (hi : i < 8) (hk : k < 3) (v : Int32) : CW L (p_up FI (64 + k) (w + 7 + 2 * i) v) AI AL AR w (x_n X i k v) C U sa := by
  refine ⟨h.1, h.g.cg (fun j h1 h2 => p_up_n1 _ _ _ _ (by omega)), h.d, fun c hc => ?_, fun b hb => (h.b b hb).cg (fun j h1 => p_up_n1 _ _ _ _ (by omega)), fun p hp => (h.p p hp).cg (fun j h1 h2 => p_up_n1 _ _ _ _ (by omega)) rfl, fun i hi => (h.s i hi).cg (fun j h1 h2 => p_up_n1 _ _ _ _ (by omega)), h.c601, h.b16, h.p40⟩
  have h9 := h.n c hc
  have e0 : ∀ j, j < 3 → FI (64 + j) (w + 7 + 2 * c) = xN X c j → p_up FI (64 + k) (w + 7 + 2 * i) v (64 + j) (w + 7 + 2 * c) = xN (x_n X i k v) c j := fun j hj h8 => by
    show _ = p_up (xN X) i k v c j
    by_cases e : c = i ∧ j = k
    · rw [e.1, e.2, p_up_eq, p_up_eq]
    · rw [show p_up (xN X) i k v c j = xN X c j from if_neg e, show p_up FI (64 + k) (w + 7 + 2 * i) v (64 + j) (w + 7 + 2 * c) = FI (64 + j) (w + 7 + 2 * c) from if_neg (by omega)]
      exact h8
  exact ⟨e0 0 (by decide) h9.1, e0 1 (by decide) h9.2.1, e0 2 (by decide) h9.2.2.1, fun j hj => (h9.2.2.2 j hj).trans (show xN X c (3 + j) = p_up (xN X) i k v c (3 + j) from (if_neg (by omega)).symm)⟩
theorem CW.rou (h : CW L FI AI AL AR w X C U sa) {i k : Nat} (hi : i < 8) (hk : k < 8) (v : Int32) : CW L FI (p_up AI (w + 8 + 2 * i) k v) AL AR w (x_n X i (3 + k) v) C U sa := by
  refine ⟨h.1, h.g, fun j h1 h2 => (congrFun (p_up_oth (by omega)) j).trans (h.d j h1 h2), fun c hc => ?_, h.b, h.p, h.s, h.c601, h.b16, h.p40⟩
  have h9 := h.n c hc
  refine ⟨h9.1.trans (show xN X c 0 = p_up (xN X) i (3 + k) v c 0 from (if_neg (by omega)).symm), h9.2.1.trans (show xN X c 1 = p_up (xN X) i (3 + k) v c 1 from (if_neg (by omega)).symm), h9.2.2.1.trans (show xN X c 2 = p_up (xN X) i (3 + k) v c 2 from (if_neg (by omega)).symm), fun j hj => ?_⟩
  show p_up AI (w + 8 + 2 * i) k v (w + 8 + 2 * c) j = p_up (xN X) i (3 + k) v c (3 + j)
  by_cases e : c = i ∧ j = k
  · rw [e.1, e.2, p_up_eq, p_up_eq]
  · rw [show p_up (xN X) i (3 + k) v c (3 + j) = xN X c (3 + j) from if_neg (by omega), show p_up AI (w + 8 + 2 * i) k v (w + 8 + 2 * c) j = AI (w + 8 + 2 * c) j from if_neg (by omega)]
    exact h9.2.2.2 j hj
end Cls4
