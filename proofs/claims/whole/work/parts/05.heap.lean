section PHeap
variable {g : PG} {d : Nat} {mi : PI} {pc : Nat} {ls : List (Option PV)} {st : List PV} {σ σ' : PS} {k : Nat × Nat} {Q : Option PV → PS → Prop}
theorem p_wl_at {a : Nat} {H : Heap} (hR : p_Rp g σ H) (ha : σ.1.2.1 a < 50) : (p_wl g σ)[a - g.2.2.2]? = some (a, p_el g σ a) := by
  obtain ⟨h1, h2⟩ := hR.2.1 a ha
  unfold p_wl
  rw [List.getElem?_map, List.getElem?_range (by omega)]
  simp only [Option.map_some]
  rw [show g.2.2.2 + (a - g.2.2.2) = a by omega]
theorem p_el_obj {a ci : Nat} (hk : σ.1.2.1 a = ci) (hc : ci < 20) : p_el g σ a = .inr (ci, p_fl σ ci a) := by
  unfold p_el; rw [hk, if_pos hc]
theorem p_el_arr {a t : Nat} (hk : σ.1.2.1 a = 20 + t) : p_el g σ a = .inl (g.2.2.1 t, p_ar σ t a) := by
  unfold p_el; rw [hk, if_neg (by omega), show 20 + t - 20 = t by omega]
theorem p_D {A : Nat → Prop} (hA : ∀ q, g.2.2.2 ≤ q → A q) : va_D A (p_wl g σ) := by
  have key : ∀ (k : Nat) (q : Nat × va_E), (p_wl g σ)[k]? = some q → q.1 = g.2.2.2 + k := by
    intro k q h
    unfold p_wl at h
    rw [List.getElem?_map] at h
    cases hr : (List.range σ.1.1)[k]? with
    | none => rw [hr] at h; simp at h
    | some i =>
      have hi : i = k := by
        have := List.getElem?_eq_some_iff.mp hr
        obtain ⟨h1, h2⟩ := this
        simpa using h2.symm
      subst hi
      rw [hr] at h
      simp only [Option.map_some, Option.some.injEq] at h
      rw [← h]
  refine ⟨fun i j p q hp hq hpq => ?_, fun k q h => ?_⟩
  · have h1 := key _ _ hp
    have h2 := key _ _ hq
    omega
  · exact hA _ (by have := key _ _ h; omega)
/-- one cell of the memory has become another one -/
theorem p_wl_set {a : Nat} {e : va_E} {H H1 : Heap} (hR : p_Rp g σ H) (hL : σ'.1 = σ.1) (ha : σ.1.2.1 a < 50) (he : p_el g σ' a = e) (ho : ∀ b, b ≠ a → p_el g σ' b = p_el g σ b) : (p_wl g σ).set (a - g.2.2.2) (a, e) = p_wl g σ' := by
  obtain ⟨h1, h2⟩ := hR.2.1 a ha
  unfold p_wl
  rw [hL]
  apply List.ext_getElem?
  intro i
  by_cases hi : i = a - g.2.2.2
  · subst hi
    rw [List.getElem?_set_self (by simp; omega), List.getElem?_map, List.getElem?_range (by omega)]
    simp only [Option.map_some]
    rw [show g.2.2.2 + (a - g.2.2.2) = a by omega, he]
  · rw [List.getElem?_set_ne (Ne.symm hi), List.getElem?_map, List.getElem?_map]
    by_cases hr : i < σ.1.1
    · rw [List.getElem?_range hr]
      simp only [Option.map_some]
      rw [ho _ (by omega)]
    · rw [List.getElem?_eq_none (by simp; omega)]
      rfl
theorem p_wl_set2 {a : Nat} {e : va_E} {H : Heap} (hR : p_Rp g σ H) (hL : σ'.1.1 = σ.1.1) (ha : σ.1.2.1 a < 50) (he : p_el g σ' a = e) (ho : ∀ b, b ≠ a → p_el g σ' b = p_el g σ b) : (p_wl g σ).set (a - g.2.2.2) (a, e) = p_wl g σ' := by
  obtain ⟨h1, h2⟩ := hR.2.1 a ha
  unfold p_wl
  rw [hL]
  apply List.ext_getElem?
  intro i
  by_cases hi : i = a - g.2.2.2
  · subst hi
    rw [List.getElem?_set_self (by simp; omega), List.getElem?_map, List.getElem?_range (by omega)]
    simp only [Option.map_some]
    rw [show g.2.2.2 + (a - g.2.2.2) = a by omega, he]
  · rw [List.getElem?_set_ne (Ne.symm hi), List.getElem?_map, List.getElem?_map]
    by_cases hr : i < σ.1.1
    · rw [List.getElem?_range hr]
      simp only [Option.map_some]
      rw [ho _ (by omega)]
    · rw [List.getElem?_eq_none (by simp; omega)]
      rfl
theorem p_Rp_set {a : Nat} {e : va_E} {H H1 : Heap} (hR : p_Rp g σ H) (hL : σ'.1 = σ.1) (ha : σ.1.2.1 a < 50) (he : p_el g σ' a = e) (ho : ∀ b, b ≠ a → p_el g σ' b = p_el g σ b) (hz : H1.size = H.size) (h1 : va_P g.2.1 p_cls ((p_wl g σ).set (a - g.2.2.2) (a, e)) H1) : p_Rp g σ' H1 := by
  rw [p_wl_set (H1 := H1) hR hL ha he ho] at h1
  exact ⟨by rw [hz, hL]; exact hR.1, fun b hb => by rw [hL] at hb ⊢; exact hR.2.1 b hb, h1⟩
def p_fV (σ : PS) (ci a j : Nat) : PV := if p_isR (32 * ci + j) = true then vq (σ.1.2.2.2 (32 * ci + j) a) else vi (σ.2.1 (32 * ci + j) a)
theorem p_fV_tv (ci a j : Nat) : tv (p_fV σ ci a j) = p_fv σ ci a j := by
  unfold p_fV p_fv
  split <;> rfl
theorem p_fl_at {ci a j : Nat} (hj : j < p_nf ci) : (p_fl σ ci a)[j]? = some (p_fv σ ci a j) := by
  unfold p_fl
  rw [List.getElem?_map, List.getElem?_range hj]
  rfl
theorem P_getf {idx ci j a : Nat} {C : String} {T : u_T} (hc : p_cls[ci]? = some (C, T, p_nf ci)) (hin : ∀ w ∈ u_ws C T (p_nf ci), w ∈ p_TG) (hj : j < p_nf ci) (hl : Cond.fieldLink mi.1.cls idx (T j).1 (T j).2.1 (T j).2.2.1 ∈ p_TG) (h20 : ci < 20) (hk : σ.1.2.1 a = ci) {v : PV} (hv : p_fV σ ci a j = v) (hd : decode mi.2.1 pc = .ok (.getfield idx, 3)) (kk : P g d mi (pc + 3) ls (v :: st) σ k Q) : P g d mi pc ls (vr a :: st) σ k Q := by
  intro p e R s m args below meth c H locs cells slots jls fx hc2 hs hS hR hL
  have hts := fx.2.2.2.2.2.1
  have hw := p_wl_at (a := a) hR (by rw [hk]; omega)
  rw [p_el_obj hk h20] at hw
  have h := kk p e R s m args below meth c H locs cells slots jls fx hc2 hs hS hR hL
  rw [← hv] at h
  simp only [List.map_cons, p_fV_tv] at h
  exact va_get fx.1 fx.2.1 hts hin fx.2.2.2.2.1 fx.2.2.2.2.2.2.2.2.1.1 hR.2.2 _ hw hc j hj (hts _ hl) (fun _ h9 => h9) (p_fl_at hj) hd h
theorem p_tv_fits {ty : FieldType} {v : PV} (hf : narrow ty (tv v) = tv v) : True := trivial
/-- the memory with a field of a cell changed -/
def p_setF (σ : PS) (f a : Nat) : PV → PS
  | .inl x => (σ.1, p_up σ.2.1 f a x, σ.2.2)
  | .inr (.inl _) => σ
  | .inr (.inr r) => ((σ.1.1, σ.1.2.1, σ.1.2.2.1, p_up σ.1.2.2.2 f a r), σ.2)
theorem p_size_of {A : Nat → Prop} {H0 H : Heap} {H1 : Heap} (h : H1.size = H.size) : H1.size = H.size := h
theorem p_fl_setI {ci a j : Nat} {x : Int32} (hj : j < p_nf ci) (hr : p_isR (32 * ci + j) = false) (h32 : ∀ i, i < p_nf ci → i < 32) : (p_fl σ ci a).set j (.int x) = p_fl (σ.1, p_up σ.2.1 (32 * ci + j) a x, σ.2.2) ci a := by
  apply List.ext_getElem?
  intro i
  by_cases hi : i < p_nf ci
  · rw [p_fl_at hi]
    by_cases hij : i = j
    · subst hij
      rw [List.getElem?_set_self (by simp [p_fl]; exact hi)]
      simp [p_fv, hr, p_up]
    · rw [List.getElem?_set_ne (Ne.symm hij), p_fl_at hi]
      unfold p_fv
      dsimp only
      rw [p_up_n1 _ _ _ _ (by omega)]
  · rw [List.getElem?_eq_none (by simp [p_fl]; omega), List.getElem?_eq_none (by simp [p_fl]; omega)]
theorem p_el_putI {ci a j : Nat} {x : Int32} (hk : σ.1.2.1 a = ci) (hr : p_isR (32 * ci + j) = false) : ∀ b, b ≠ a → p_el g (σ.1, p_up σ.2.1 (32 * ci + j) a x, σ.2.2) b = p_el g σ b := by
  intro b hb
  unfold p_el
  by_cases h : σ.1.2.1 b < 20
  · rw [if_pos h, if_pos h]
    congr 2
    unfold p_fl
    refine List.map_congr_left fun i hi => ?_
    unfold p_fv
    dsimp only
    rw [p_up_n2 _ _ _ _ hb]
  · rw [if_neg h, if_neg h]
    rfl
theorem P_putI {idx ci j a : Nat} {x : Int32} {C : String} {T : u_T} {ty0 : Nat → FieldType} (hc : p_cls[ci]? = some (C, T, p_nf ci)) (hin : ∀ w ∈ u_ws C T (p_nf ci), w ∈ p_TG) (hty : ∀ k, k < p_nf ci → parseFieldDescriptor (T k).2.2.1 = some (ty0 k)) (hnm : ∀ a, a < p_nf ci → ∀ b, b < p_nf ci → a ≠ b → (T a).2.1 ≠ (T b).2.1) (hj : j < p_nf ci) (h32 : ∀ i, i < p_nf ci → i < 32) (hl : Cond.fieldLink mi.1.cls idx (T j).1 (T j).2.1 (T j).2.2.1 ∈ p_TG) (h20 : ci < 20) (hfin : (T j).2.2.2 = false) (hr : p_isR (32 * ci + j) = false) (hk : σ.1.2.1 a = ci) (hn : narrow (ty0 j) (.int x) = .int x) (hfit : fits (ty0 j) (.int x) = true) (hd : decode mi.2.1 pc = .ok (.putfield idx, 3)) (kk : P g d mi (pc + 3) ls st (σ.1, p_up σ.2.1 (32 * ci + j) a x, σ.2.2) k Q) : P g d mi pc ls (vi x :: vr a :: st) σ k Q := by
  intro p e R s m args below meth c H locs cells slots jls fx hc2 hs hS hR hL
  have hts := fx.2.2.2.2.2.1
  have hw := p_wl_at (a := a) hR (by rw [hk]; omega)
  rw [p_el_obj hk h20] at hw
  have hK := fx.2.2.2.2.2.2.2.2.1.1
  have hap := va_apart (own := mi.1.cls) hts hin ty0 hty hnm hK hc
  obtain ⟨r, h1, cell, q1, q2, q3, q4⟩ := hR.2.2 _ _ hw
  have hr' : r = (C, T, p_nf ci) := Option.some.inj (h1.symm.trans hc)
  subst hr'
  obtain ⟨hS1, hfc, kC, hkC, hkind⟩ := hK.1 ci _ hc
  obtain ⟨cf, kf, fi, f, hi, hsl⟩ := hS1 j hj
  have hlay := hts _ (hin _ (u_in_lay hj))
  unfold u_lay at hlay
  rw [if_neg (by rw [hfin]; decide)] at hlay
  have hst := (u_facts hfc hkC (u_lays hts hin hj) hi).1
  have h6 := u_store hfc hkC hkind hlay hi (hty j hj) hn hfit
  refine W.putK fx.1 fx.2.1 (f := f) ⟨fx.2.2.2.2.1, hts _ hl, ⟨_, _, _, hi⟩, hst⟩ (by rw [q2]; exact h6) q1 q3 (by rw [hsl]; exact k2_hasslot (q4 j hj)) rfl rfl hd fun H' e1 e2 e3 => ?_
  rw [hsl] at e1 ⊢
  have hD := p_D (g := g) (σ := σ) (A := fun q => g.2.2.2 ≤ q) (fun _ h => h)
  have hat : va_at g.2.1 p_cls (a, .inr (ci, (p_fl σ ci a).set j (.int x))) H' := ⟨_, hc, t_OB.to (V := updV (vp_V (p_fl σ ci a)) j (.int x)) ⟨_, e1, q2, q3, t_set q4 hap hj (.int x)⟩ (fun i _ => vp_updV_set (by simp [p_fl]; exact hj) (.int x) i)⟩
  have hPset := hR.2.2.set (H1 := H') hD hw hat e3
  have hR' : p_Rp g (σ.1, p_up σ.2.1 (32 * ci + j) a x, σ.2.2) H' := by
    refine p_Rp_set hR rfl (by rw [hk]; omega) ?_ (p_el_putI hk hr) e2 hPset
    rw [p_el_obj (σ := (σ.1, p_up σ.2.1 (32 * ci + j) a x, σ.2.2)) hk h20, p_fl_setI hj hr h32]
  exact kk p e R s m args below meth c H' _ cells slots jls fx hc2 hs (hS.put e2 e3 (hD.2 _ _ hw)) hR' hL
theorem p_fl_setR {ci a j : Nat} {x : Option Nat} (hj : j < p_nf ci) (hr : p_isR (32 * ci + j) = true) : (p_fl σ ci a).set j (va_rf x) = p_fl ((σ.1.1, σ.1.2.1, σ.1.2.2.1, p_up σ.1.2.2.2 (32 * ci + j) a x), σ.2) ci a := by
  apply List.ext_getElem?
  intro i
  by_cases hi : i < p_nf ci
  · rw [p_fl_at hi]
    by_cases hij : i = j
    · subst hij
      rw [List.getElem?_set_self (by simp [p_fl]; exact hi)]
      simp [p_fv, hr, p_up]
    · rw [List.getElem?_set_ne (Ne.symm hij), p_fl_at hi]
      unfold p_fv
      dsimp only
      rw [p_up_n1 _ _ _ _ (by omega)]
  · rw [List.getElem?_eq_none (by simp [p_fl]; omega), List.getElem?_eq_none (by simp [p_fl]; omega)]
theorem p_el_putR {f a : Nat} {x : Option Nat} : ∀ b, b ≠ a → p_el g ((σ.1.1, σ.1.2.1, σ.1.2.2.1, p_up σ.1.2.2.2 f a x), σ.2) b = p_el g σ b := by
  intro b hb
  unfold p_el
  by_cases h : σ.1.2.1 b < 20
  · rw [if_pos h, if_pos h]
    congr 2
    unfold p_fl
    refine List.map_congr_left fun i hi => ?_
    unfold p_fv
    dsimp only
    rw [p_up_n2 _ _ _ _ hb]
  · rw [if_neg h, if_neg h]
    rfl

theorem P_putR {idx ci j a : Nat} {x : Option Nat} {C : String} {T : u_T} {ty0 : Nat → FieldType} (hc : p_cls[ci]? = some (C, T, p_nf ci)) (hin : ∀ w ∈ u_ws C T (p_nf ci), w ∈ p_TG) (hty : ∀ k, k < p_nf ci → parseFieldDescriptor (T k).2.2.1 = some (ty0 k)) (hnm : ∀ a, a < p_nf ci → ∀ b, b < p_nf ci → a ≠ b → (T a).2.1 ≠ (T b).2.1) (hj : j < p_nf ci) (hl : Cond.fieldLink mi.1.cls idx (T j).1 (T j).2.1 (T j).2.2.1 ∈ p_TG) (h20 : ci < 20) (hfin : (T j).2.2.2 = true) (hin2 : mi.1.name = "<init>") (hdecl : (T j).1 = mi.1.cls) (hr : p_isR (32 * ci + j) = true) (hk : σ.1.2.1 a = ci) (hn : narrow (ty0 j) (va_rf x) = va_rf x) (hfit : fits (ty0 j) (va_rf x) = true) (hd : decode mi.2.1 pc = .ok (.putfield idx, 3)) (kk : P g d mi (pc + 3) ls st ((σ.1.1, σ.1.2.1, σ.1.2.2.1, p_up σ.1.2.2.2 (32 * ci + j) a x), σ.2) k Q) : P g d mi pc ls (vq x :: vr a :: st) σ k Q := by
  intro p e R s m args below meth c H locs cells slots jls fx hc2 hs hS hR hL
  have hts := fx.2.2.2.2.2.1
  have hw := p_wl_at (a := a) hR (by rw [hk]; omega)
  rw [p_el_obj hk h20] at hw
  have hK := fx.2.2.2.2.2.2.2.2.1.1
  have hap := va_apart (own := mi.1.cls) hts hin ty0 hty hnm hK hc
  obtain ⟨r, h1, cell, q1, q2, q3, q4⟩ := hR.2.2 _ _ hw
  have hr' : r = (C, T, p_nf ci) := Option.some.inj (h1.symm.trans hc)
  subst hr'
  obtain ⟨hS1, hfc, kC, hkC, hkind⟩ := hK.1 ci _ hc
  obtain ⟨cf, kf, fi, f, hi, hsl⟩ := hS1 j hj
  have hlay := hts _ (hin _ (u_in_lay hj))
  unfold u_lay at hlay
  rw [if_pos hfin] at hlay
  have hst := (u_facts hfc hkC (u_lays hts hin hj) hi).1
  have hcf : m.cls = cf := by
    obtain ⟨_, _, c', _, _, _, -, -, hf', -, -, -, hown2, -⟩ := Cond.laysFinal_spec hlay
    have e1 : c' = cf := by have := hi.symm.trans hf'; simp at this; exact this.1.symm
    rw [hdecl] at hown2
    rw [← e1]; exact Option.some.inj (fx.2.2.2.2.1.symm.trans hown2)
  have h6 := u_fits hfc hkC hkind (Or.inr hlay) hi (hty j hj) hn hfit
  refine W.putFinK fx.1 fx.2.1 fx.2.2.2.2.1 (hts _ hl) hi hst hcf (fx.2.2.2.2.2.2.2.1.trans hin2) (by rw [q2]; exact h6) q1 q3 (by rw [hsl]; exact k2_hasslot (q4 j hj)) rfl rfl hd fun H' e1 e2 e3 => ?_
  rw [hsl] at e1 ⊢
  have hD := p_D (g := g) (σ := σ) (A := fun q => g.2.2.2 ≤ q) (fun _ h => h)
  have hat : va_at g.2.1 p_cls (a, .inr (ci, (p_fl σ ci a).set j (va_rf x))) H' := ⟨_, hc, t_OB.to (V := updV (vp_V (p_fl σ ci a)) j (va_rf x)) ⟨_, e1, q2, q3, t_set q4 hap hj (va_rf x)⟩ (fun i _ => vp_updV_set (by simp [p_fl]; exact hj) (va_rf x) i)⟩
  have hPset := hR.2.2.set (H1 := H') hD hw hat e3
  rw [p_fl_setR hj hr] at hPset
  have hR' : p_Rp g ((σ.1.1, σ.1.2.1, σ.1.2.2.1, p_up σ.1.2.2.2 (32 * ci + j) a x), σ.2) H' := by
    have hset : (p_wl g σ).set (a - g.2.2.2) (a, .inr (ci, p_fl ((σ.1.1, σ.1.2.1, σ.1.2.2.1, p_up σ.1.2.2.2 (32 * ci + j) a x), σ.2) ci a)) = p_wl g ((σ.1.1, σ.1.2.1, σ.1.2.2.1, p_up σ.1.2.2.2 (32 * ci + j) a x), σ.2) := by
      refine p_wl_set2 hR rfl (by rw [hk]; omega) ?_ p_el_putR
      rw [p_el_obj (σ := ((σ.1.1, σ.1.2.1, σ.1.2.2.1, p_up σ.1.2.2.2 (32 * ci + j) a x), σ.2)) hk h20]
    rw [hset] at hPset
    exact ⟨e2.trans hR.1, hR.2.1, hPset⟩
  exact kk p e R s m args below meth c H' _ cells slots jls fx hc2 hs (hS.put e2 e3 (hD.2 _ _ hw)) hR' hL
theorem p_in {i : Int32} {n : Nat} (h1 : 0 ≤ i) (h2 : i.toNatClampNeg < n) : vp_in i n := fun h => by
  rcases h with h | h
  · exact absurd h (Int32.not_lt.mpr h1)
  · omega
theorem p_tys_at {t : Nat} (ht : t < 9) : (p_tys g)[t]? = some (g.2.2.1 t, p_ety t) := by
  unfold p_tys
  rw [List.getElem?_map, List.getElem?_range ht]
  rfl
theorem P_alen {a t : Nat} {v : Int32} (ht : t < 9) (hk : σ.1.2.1 a = 20 + t) (hv : Int32.ofNat (σ.1.2.2.1 a) = v) (hd : decode mi.2.1 pc = .ok (.arraylength, 1)) (kk : P g d mi (pc + 1) ls (vi v :: st) σ k Q) : P g d mi pc ls (vr a :: st) σ k Q := by
  intro p e R s m args below meth c H locs cells slots jls fx hc2 hs hS hR hL
  have hw := p_wl_at (a := a) hR (by rw [hk]; omega)
  rw [p_el_arr hk] at hw
  exact va_alen fx.1 fx.2.1 fx.2.2.2.2.2.2.2.2.1.1 hR.2.2 _ t hw (p_tys_at ht) hv hd (kk p e R s m args below meth c H locs cells slots jls fx hc2 hs hS hR hL)
theorem P_iald {a : Nat} {i v : Int32} (hk : σ.1.2.1 a = 20) (h1 : 0 ≤ i) (h2 : i.toNatClampNeg < σ.1.2.2.1 a) (hv : σ.2.2.1 a i.toNatClampNeg = v) (hd : decode mi.2.1 pc = .ok (.iaload, 1)) (kk : P g d mi (pc + 1) ls (vi v :: st) σ k Q) : P g d mi pc ls (vi i :: vr a :: st) σ k Q := by
  intro p e R s m args below meth c H locs cells slots jls fx hc2 hs hS hR hL
  have hw := p_wl_at (a := a) hR (by rw [hk]; omega)
  rw [p_el_arr (t := 0) hk] at hw
  subst hv
  exact va_iald fx.1 fx.2.1 fx.2.2.2.2.2.2.2.2.1.1 hR.2.2 _ 0 hw (p_tys_at (by omega)) (p_in h1 h2) hd (kk p e R s m args below meth c H locs cells slots jls fx hc2 hs hS hR hL)
theorem P_zald {a : Nat} {i v : Int32} (hk : σ.1.2.1 a = 22) (h1 : 0 ≤ i) (h2 : i.toNatClampNeg < σ.1.2.2.1 a) (hv : σ.2.2.1 a i.toNatClampNeg = v) (hd : decode mi.2.1 pc = .ok (.baload, 1)) (kk : P g d mi (pc + 1) ls (vi v :: st) σ k Q) : P g d mi pc ls (vi i :: vr a :: st) σ k Q := by
  intro p e R s m args below meth c H locs cells slots jls fx hc2 hs hS hR hL
  have hw := p_wl_at (a := a) hR (by rw [hk]; omega)
  rw [p_el_arr (t := 2) hk] at hw
  subst hv
  exact va_zald fx.1 fx.2.1 fx.2.2.2.2.2.2.2.2.1.1 hR.2.2 _ 2 hw (p_tys_at (by omega)) (p_in h1 h2) hd (kk p e R s m args below meth c H locs cells slots jls fx hc2 hs hS hR hL)
theorem P_cald {a : Nat} {i v : Int32} (hk : σ.1.2.1 a = 23) (h1 : 0 ≤ i) (h2 : i.toNatClampNeg < σ.1.2.2.1 a) (hv : σ.2.2.1 a i.toNatClampNeg = v) (hd : decode mi.2.1 pc = .ok (.caload, 1)) (kk : P g d mi (pc + 1) ls (vi v :: st) σ k Q) : P g d mi pc ls (vi i :: vr a :: st) σ k Q := by
  intro p e R s m args below meth c H locs cells slots jls fx hc2 hs hS hR hL
  have hw := p_wl_at (a := a) hR (by rw [hk]; omega)
  rw [p_el_arr (t := 3) hk] at hw
  subst hv
  exact va_cald fx.1 fx.2.1 fx.2.2.2.2.2.2.2.2.1.1 hR.2.2 _ 3 hw (p_tys_at (by omega)) (p_in h1 h2) hd (kk p e R s m args below meth c H locs cells slots jls fx hc2 hs hS hR hL)
theorem P_lald {a : Nat} {i : Int32} {v : Int64} (hk : σ.1.2.1 a = 21) (h1 : 0 ≤ i) (h2 : i.toNatClampNeg < σ.1.2.2.1 a) (hv : σ.2.2.2.1 a i.toNatClampNeg = v) (hd : decode mi.2.1 pc = .ok (.laload, 1)) (kk : P g d mi (pc + 1) ls (vl v :: st) σ k Q) : P g d mi pc ls (vi i :: vr a :: st) σ k Q := by
  intro p e R s m args below meth c H locs cells slots jls fx hc2 hs hS hR hL
  have hw := p_wl_at (a := a) hR (by rw [hk]; omega)
  rw [p_el_arr (t := 1) hk] at hw
  subst hv
  exact va_lald fx.1 fx.2.1 fx.2.2.2.2.2.2.2.2.1.1 hR.2.2 _ 1 hw (p_tys_at (by omega)) (p_in h1 h2) hd (kk p e R s m args below meth c H locs cells slots jls fx hc2 hs hS hR hL)
theorem p_ety_obj {t : Nat} (ht : 4 ≤ t) : ∃ C, p_ety t = .object C := by
  match t, ht with
  | 4, _ => exact ⟨_, rfl⟩
  | 5, _ => exact ⟨_, rfl⟩
  | 6, _ => exact ⟨_, rfl⟩
  | 7, _ => exact ⟨_, rfl⟩
  | t + 8, _ => exact ⟨RX6, rfl⟩
theorem p_ar_obj {t a : Nat} (ht : 4 ≤ t) : p_ar σ t a = (σ.1.2.2.1 a, .inr (.inr (.inr (.inr (σ.2.2.2.2 a))))) := by
  match t, ht with
  | 4, _ => rfl
  | 5, _ => rfl
  | 6, _ => rfl
  | 7, _ => rfl
  | t + 8, _ => rfl
theorem P_aald {a t : Nat} {i : Int32} {v : Option Nat} (ht : 4 ≤ t) (ht9 : t < 9) (hk : σ.1.2.1 a = 20 + t) (h1 : 0 ≤ i) (h2 : i.toNatClampNeg < σ.1.2.2.1 a) (hv : σ.2.2.2.2 a i.toNatClampNeg = v) (hd : decode mi.2.1 pc = .ok (.aaload, 1)) (kk : P g d mi (pc + 1) ls (vq v :: st) σ k Q) : P g d mi pc ls (vi i :: vr a :: st) σ k Q := by
  intro p e R s m args below meth c H locs cells slots jls fx hc2 hs hS hR hL
  have hw := p_wl_at (a := a) hR (by rw [hk]; omega)
  rw [p_el_arr hk, p_ar_obj ht] at hw
  subst hv
  obtain ⟨C, hC⟩ := p_ety_obj ht
  exact va_aldq fx.1 fx.2.1 fx.2.2.2.2.2.2.2.2.1.1 hR.2.2 _ t hw (by rw [p_tys_at ht9, hC]) (p_in h1 h2) hd (kk p e R s m args below meth c H locs cells slots jls fx hc2 hs hS hR hL)
end PHeap
