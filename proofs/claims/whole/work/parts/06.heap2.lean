section PHeap2
variable {g : PG} {d : Nat} {mi : PI} {pc : Nat} {ls : List (Option PV)} {st : List PV} {σ σ' : PS} {k : Nat × Nat} {Q : Option PV → PS → Prop}
theorem p_el_putA {a j : Nat} {x : Int32} : ∀ b, b ≠ a → p_el g (σ.1, σ.2.1, p_up σ.2.2.1 a j x, σ.2.2.2) b = p_el g σ b := by
  intro b hb
  have h2 : (p_up σ.2.2.1 a j x) b = σ.2.2.1 b := by funext c; exact p_up_n1 _ _ _ _ hb
  unfold p_el p_ar
  dsimp only
  rw [h2]
  rfl
theorem p_el_putL {a j : Nat} {x : Int64} : ∀ b, b ≠ a → p_el g (σ.1, σ.2.1, σ.2.2.1, p_up σ.2.2.2.1 a j x, σ.2.2.2.2) b = p_el g σ b := by
  intro b hb
  have h2 : (p_up σ.2.2.2.1 a j x) b = σ.2.2.2.1 b := by funext c; exact p_up_n1 _ _ _ _ hb
  unfold p_el p_ar
  dsimp only
  rw [h2]
  rfl
theorem p_el_putQ {a j : Nat} {x : Option Nat} : ∀ b, b ≠ a → p_el g (σ.1, σ.2.1, σ.2.2.1, σ.2.2.2.1, p_up σ.2.2.2.2 a j x) b = p_el g σ b := by
  intro b hb
  have h2 : (p_up σ.2.2.2.2 a j x) b = σ.2.2.2.2 b := by funext c; exact p_up_n1 _ _ _ _ hb
  unfold p_el p_ar
  dsimp only
  rw [h2]
  rfl
theorem p_ar0 (σ : PS) (a : Nat) : p_ar σ 0 a = (σ.1.2.2.1 a, .inl (σ.2.2.1 a)) := rfl
theorem p_ar1 (σ : PS) (a : Nat) : p_ar σ 1 a = (σ.1.2.2.1 a, .inr (.inl (σ.2.2.2.1 a))) := rfl
theorem p_ar2 (σ : PS) (a : Nat) : p_ar σ 2 a = (σ.1.2.2.1 a, .inl (σ.2.2.1 a)) := rfl
theorem p_ar3 (σ : PS) (a : Nat) : p_ar σ 3 a = (σ.1.2.2.1 a, .inl (σ.2.2.1 a)) := rfl
theorem p_up_fn {α : Type} (f : Nat → Nat → α) (a j : Nat) (x : α) : p_up f a j x a = fun b => if b = j then x else f a b := by
  funext b
  by_cases h : b = j
  · simp [p_up, h]
  · simp [p_up, h]
/-- an array's place has been written -/
theorem p_Rp_arr {a t : Nat} {H H1 : Heap} {ar : vp_A} (hR : p_Rp g σ H) (hL : σ'.1 = σ.1) (hk : σ.1.2.1 a = 20 + t) (h50 : 20 + t < 50) (har : p_ar σ' t a = ar) (ho : ∀ b, b ≠ a → p_el g σ' b = p_el g σ b) (hz : H1.size = H.size) (h1 : H1[a]? = some (vp_cell (g.2.2.1 t) ar)) (oq : ∀ q, q ≠ a → H1[q]? = H[q]?) : p_Rp g σ' H1 := by
  have hw := p_wl_at (a := a) hR (by omega)
  have hD := p_D (g := g) (σ := σ) (A := fun q => g.2.2.2 ≤ q) (fun _ h => h)
  have he : p_el g σ' a = .inl (g.2.2.1 t, ar) := by
    rw [p_el_arr (σ := σ') (t := t) (by rw [hL]; exact hk), har]
  exact p_Rp_set hR hL (by omega) he ho hz (hR.2.2.set (e := .inl (g.2.2.1 t, ar)) hD hw h1 oq)
theorem p_lo {a : Nat} {H : Heap} (hR : p_Rp g σ H) (ha : σ.1.2.1 a < 50) : g.2.2.2 ≤ a := (hR.2.1 a ha).1
theorem P_iast {a : Nat} {i x : Int32} (hk : σ.1.2.1 a = 20) (h1 : 0 ≤ i) (h2 : i.toNatClampNeg < σ.1.2.2.1 a) (hd : decode mi.2.1 pc = .ok (.iastore, 1)) (kk : P g d mi (pc + 1) ls st (σ.1, σ.2.1, p_up σ.2.2.1 a i.toNatClampNeg x, σ.2.2.2) k Q) : P g d mi pc ls (vi x :: vi i :: vr a :: st) σ k Q := by
  intro p e R s m args below meth c H locs cells slots jls fx hc2 hs hS hR hL
  have hw := p_wl_at (a := a) hR (by rw [hk]; omega)
  rw [p_el_arr (t := 0) hk] at hw
  have hK := fx.2.2.2.2.2.2.2.2.1.1
  refine W.iast fx.1 fx.2.1 (hR.2.2 _ _ hw) ((hK.2 0 _ (p_tys_at (by omega))).1 (σ.1.2.2.1 a) (fun j => .int (σ.2.2.1 a j))) (fun q => by cases q) (by show ¬ (i < 0 ∨ (arrV _ _ _).slots.size ≤ _); rw [arrV_size]; exact p_in h1 h2) rfl rfl hd fun H1 e1 z oq => ?_
  refine kk p e R s m args below meth c H1 _ cells slots jls fx hc2 hs (hS.put z oq (p_lo (a := a) hR (by rw [hk]; omega))) ?_ hL
  refine p_Rp_arr (t := 0) hR rfl hk (by omega) rfl p_el_putA z ?_ oq
  rw [e1]
  dsimp only
  rw [p_ar0, p_ar0, vp_cell_i, vp_cell_i, arrV_store]
  congr 2
  funext q
  try dsimp only
  rw [p_up_fn]
  by_cases hq : q = i.toNatClampNeg
  · simp [updV, hq]
  · simp [updV, hq]
theorem P_zast {a : Nat} {i x : Int32} (hk : σ.1.2.1 a = 22) (h1 : 0 ≤ i) (h2 : i.toNatClampNeg < σ.1.2.2.1 a) (hx : x = 0 ∨ x = 1) (hd : decode mi.2.1 pc = .ok (.bastore, 1)) (kk : P g d mi (pc + 1) ls st (σ.1, σ.2.1, p_up σ.2.2.1 a i.toNatClampNeg x, σ.2.2.2) k Q) : P g d mi pc ls (vi x :: vi i :: vr a :: st) σ k Q := by
  intro p e R s m args below meth c H locs cells slots jls fx hc2 hs hS hR hL
  have hw := p_wl_at (a := a) hR (by rw [hk]; omega)
  rw [p_el_arr (t := 2) hk] at hw
  have hK := fx.2.2.2.2.2.2.2.2.1.1
  refine W.zast fx.1 fx.2.1 (hR.2.2 _ _ hw) ((hK.2 2 _ (p_tys_at (by omega))).1 (σ.1.2.2.1 a) (fun j => .int (σ.2.2.1 a j))) (fun q => by cases q) (by show ¬ (i < 0 ∨ (arrV _ _ _).slots.size ≤ _); rw [arrV_size]; exact p_in h1 h2) rfl rfl hd fun H1 e1 z oq => ?_
  refine kk p e R s m args below meth c H1 _ cells slots jls fx hc2 hs (hS.put z oq (p_lo (a := a) hR (by rw [hk]; omega))) ?_ hL
  have hnx : narrow .boolean (.int x) = .int x := by rcases hx with rfl | rfl <;> rfl
  rw [hnx] at e1
  refine p_Rp_arr (t := 2) hR rfl hk (by omega) rfl p_el_putA z ?_ oq
  rw [e1]
  dsimp only
  rw [p_ar2, p_ar2, vp_cell_i, vp_cell_i, arrV_store]
  congr 2
  funext q
  try dsimp only
  rw [p_up_fn]
  by_cases hq : q = i.toNatClampNeg
  · simp [updV, hq]
  · simp [updV, hq]
theorem P_cast {a : Nat} {i x : Int32} (hk : σ.1.2.1 a = 23) (h1 : 0 ≤ i) (h2 : i.toNatClampNeg < σ.1.2.2.1 a) (hnx : narrow .char (.int x) = .int x) (hd : decode mi.2.1 pc = .ok (.castore, 1)) (kk : P g d mi (pc + 1) ls st (σ.1, σ.2.1, p_up σ.2.2.1 a i.toNatClampNeg x, σ.2.2.2) k Q) : P g d mi pc ls (vi x :: vi i :: vr a :: st) σ k Q := by
  intro p e R s m args below meth c H locs cells slots jls fx hc2 hs hS hR hL
  have hw := p_wl_at (a := a) hR (by rw [hk]; omega)
  rw [p_el_arr (t := 3) hk] at hw
  have hK := fx.2.2.2.2.2.2.2.2.1.1
  refine W.cast fx.1 fx.2.1 (hR.2.2 _ _ hw) ((hK.2 3 _ (p_tys_at (by omega))).1 (σ.1.2.2.1 a) (fun j => .int (σ.2.2.1 a j))) (fun q => by cases q) (by show ¬ (i < 0 ∨ (arrV _ _ _).slots.size ≤ _); rw [arrV_size]; exact p_in h1 h2) rfl rfl hd fun H1 e1 z oq => ?_
  refine kk p e R s m args below meth c H1 _ cells slots jls fx hc2 hs (hS.put z oq (p_lo (a := a) hR (by rw [hk]; omega))) ?_ hL
  rw [hnx] at e1
  refine p_Rp_arr (t := 3) hR rfl hk (by omega) rfl p_el_putA z ?_ oq
  rw [e1]
  dsimp only
  rw [p_ar3, p_ar3, vp_cell_i, vp_cell_i, arrV_store]
  congr 2
  funext q
  try dsimp only
  rw [p_up_fn]
  by_cases hq : q = i.toNatClampNeg
  · simp [updV, hq]
  · simp [updV, hq]
theorem P_last {a : Nat} {i : Int32} {x : Int64} (hk : σ.1.2.1 a = 21) (h1 : 0 ≤ i) (h2 : i.toNatClampNeg < σ.1.2.2.1 a) (hd : decode mi.2.1 pc = .ok (.lastore, 1)) (kk : P g d mi (pc + 1) ls st (σ.1, σ.2.1, σ.2.2.1, p_up σ.2.2.2.1 a i.toNatClampNeg x, σ.2.2.2.2) k Q) : P g d mi pc ls (vl x :: vi i :: vr a :: st) σ k Q := by
  intro p e R s m args below meth c H locs cells slots jls fx hc2 hs hS hR hL
  have hw := p_wl_at (a := a) hR (by rw [hk]; omega)
  rw [p_el_arr (t := 1) hk] at hw
  have hK := fx.2.2.2.2.2.2.2.2.1.1
  refine W.last fx.1 fx.2.1 (hR.2.2 _ _ hw) ((hK.2 1 _ (p_tys_at (by omega))).1 (σ.1.2.2.1 a) (fun j => .long (σ.2.2.2.1 a j))) (fun q => by cases q) (by show ¬ (i < 0 ∨ (arrV _ _ _).slots.size ≤ _); rw [arrV_size]; exact p_in h1 h2) rfl rfl hd fun H1 e1 z oq => ?_
  refine kk p e R s m args below meth c H1 _ cells slots jls fx hc2 hs (hS.put z oq (p_lo (a := a) hR (by rw [hk]; omega))) ?_ hL
  refine p_Rp_arr (t := 1) hR rfl hk (by omega) rfl p_el_putL z ?_ oq
  rw [e1]
  dsimp only
  rw [p_ar1, p_ar1, vp_cell_l, vp_cell_l, arrV_store]
  congr 2
  funext q
  try dsimp only
  rw [p_up_fn]
  by_cases hq : q = i.toNatClampNeg
  · simp [updV, hq]
  · simp [updV, hq]
theorem P_aast {a t v ci : Nat} {i : Int32} {r : vw_C} (ht : 4 ≤ t) (ht9 : t < 9) (hk : σ.1.2.1 a = 20 + t) (h1 : 0 ≤ i) (h2 : i.toNatClampNeg < σ.1.2.2.1 a) (hkv : σ.1.2.1 v = ci) (hci : ci < 20) (hc : p_cls[ci]? = some r) (hty : p_ety t = .object r.1) (hd : decode mi.2.1 pc = .ok (.aastore, 1)) (kk : P g d mi (pc + 1) ls st (σ.1, σ.2.1, σ.2.2.1, σ.2.2.2.1, p_up σ.2.2.2.2 a i.toNatClampNeg (some v)) k Q) : P g d mi pc ls (vr v :: vi i :: vr a :: st) σ k Q := by
  intro p e R s m args below meth c H locs cells slots jls fx hc2 hs hS hR hL
  have hw := p_wl_at (a := a) hR (by omega)
  rw [p_el_arr hk, p_ar_obj ht] at hw
  have hv := p_wl_at (a := v) hR (by omega)
  rw [p_el_obj hkv hci] at hv
  have hK := fx.2.2.2.2.2.2.2.2.1.1
  have hlt : i.toNatClampNeg < σ.1.2.2.1 a := h2
  have h0 : ¬ i < 0 := Int32.not_lt.mpr h1
  obtain ⟨r', hr', cellV, g1, g2, g3, -⟩ := hR.2.2 _ _ hv
  have hcls := (hK.1 ci r hc).2
  have hkt := hK.2 t _ (p_tys_at ht9)
  rw [hty] at hkt
  obtain ⟨kA, comp, k1, k2, k3, -⟩ := hkt.2
  have hcomp : comp = g.2.1.1 ci := Option.some.inj (k3.symm.trans hcls.1)
  subst hcomp
  obtain ⟨kC, hkC, -⟩ := hcls.2
  refine W.aast fx.1 fx.2.1 (hR.2.2 _ _ hw) (fun q h => by cases h) (fun h => by cases h) k1 k2 rfl hkC ⟨h0, by show _ < (arrV _ _ _).slots.size; rw [arrV_size]; exact hlt⟩ g1 (fun q h => by rw [g3] at h; cases h) (by rw [g2]; exact hkC) (by rw [g2]; exact va_assign hcls) rfl rfl hd fun H1 e1 z oq => ?_
  refine kk p e R s m args below meth c H1 _ cells slots jls fx hc2 hs (hS.put z oq (p_lo (a := a) hR (by omega))) ?_ hL
  refine p_Rp_arr (t := t) hR rfl hk (by omega) (p_ar_obj ht) p_el_putQ z ?_ oq
  rw [e1]
  dsimp only
  rw [vp_cell_q, vp_cell_q, arrV_store]
  congr 2
  funext q
  try dsimp only
  rw [p_up_fn]
  by_cases hq : q = i.toNatClampNeg
  · simp [updV, hq, va_rf]
  · simp [updV, hq]
end PHeap2
