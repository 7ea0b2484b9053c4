section PNew
variable {g : PG} {d : Nat} {mi : PI} {pc : Nat} {ls : List (Option PV)} {st : List PV} {σ σ' : PS} {k k' : Nat × Nat} {Q : Option PV → PS → Prop}
/-- a new cell q: its kind and length; its fields and places are 0 and null -/
def p_nw (q kd ln : Nat) (σ : PS) : PS := ((σ.1.1 + 1, fun b => if b = q then kd else σ.1.2.1 b, fun b => if b = q then ln else σ.1.2.2.1 b, fun f b => if b = q then none else σ.1.2.2.2 f b), (fun f b => if b = q then 0 else σ.2.1 f b), (fun b i => if b = q then 0 else σ.2.2.1 b i), (fun b i => if b = q then 0 else σ.2.2.2.1 b i), (fun b i => if b = q then none else σ.2.2.2.2 b i))
theorem p_el_nw {q kd ln b : Nat} (hb : b ≠ q) : p_el g (p_nw q kd ln σ) b = p_el g σ b := by
  unfold p_el p_nw p_fl p_fv p_ar
  dsimp only
  simp only [if_neg hb]
theorem p_wl_nw {q kd ln : Nat} (hq : g.2.2.2 + σ.1.1 = q) : p_wl g (p_nw q kd ln σ) = p_wl g σ ++ [(q, p_el g (p_nw q kd ln σ) q)] := by
  unfold p_wl
  show (List.range (σ.1.1 + 1)).map _ = _
  rw [List.range_succ, List.map_append]
  congr 1
  · refine List.map_congr_left fun i hi => ?_
    have hi2 := List.mem_range.mp hi
    rw [p_el_nw (by omega)]
  · simp [hq]
theorem p_Rp_nw {q kd ln : Nat} {H H1 : Heap} (hR : p_Rp g σ H) (hq : g.2.2.2 + σ.1.1 = q) (hz : H1.size = H.size + 1) (ho : ∀ b, b < H.size → H1[b]? = H[b]?) (hat : va_at g.2.1 p_cls (q, p_el g (p_nw q kd ln σ) q) H1) : p_Rp g (p_nw q kd ln σ) H1 := by
  refine ⟨by rw [hz, hR.1]; rfl, fun a ha => ?_, ?_⟩
  · show g.2.2.2 ≤ a ∧ a < g.2.2.2 + (σ.1.1 + 1)
    by_cases h : a = q
    · omega
    · have h2 : (p_nw q kd ln σ).1.2.1 a = σ.1.2.1 a := if_neg h
      rw [h2] at ha
      have := hR.2.1 a ha
      omega
  · rw [p_wl_nw hq]
    have hk : ∀ (i : Nat) (x : Nat × va_E), (p_wl g σ)[i]? = some x → H1[x.1]? = H[x.1]? := fun i x hx => ho x.1 ((hR.2.2 i x hx).lt)
    refine (hR.2.2.kept hk).app (fun i x hx => ?_)
    have hz : i < 1 := (List.getElem?_eq_some_iff.mp hx).1
    rw [show i = 0 by omega] at hx
    cases hx
    exact hat
theorem p_S_nw {H0 H H1 : Heap} {locs : List Loc} {A : Nat → Prop} (hS : va_S A H0 H locs) (hz : H1.size = H.size + 1) (ho : ∀ b, b < H.size → H1[b]? = H[b]?) : va_S A H0 H1 locs :=
  ⟨Nat.le_trans hS.1 (by omega), fun x h1 h2 => (ho x (Nat.lt_of_lt_of_le h1 hS.1)).trans (hS.2.1 x h1 h2), hS.2.2⟩
theorem p_Wk {p : Program} {l : Launch} {e : Env} {R : Room} {s : State} {m : MethodId} {args : Array Value} {below : List Frame} {meth : Method} {c : Code} {H : Heap} {locs : List Loc} {cells slots : Nat} {gf : JFrame} {a b a' b' : Nat} {Qc : Array Value → State → Outcome → State → Prop} {free : Addr → Prop} (h1 : a = a') (h2 : b = b') (h : W p l e R s m args below meth c H locs cells slots (MQ below Qc args s a b free) gf) : W p l e R s m args below meth c H locs cells slots (MQ below Qc args s a' b' free) gf := by
  rw [← h1, ← h2]
  exact h
theorem P_new {idx ci q : Nat} {C : String} {T : u_T} {ty0 : Nat → FieldType} (hc : p_cls[ci]? = some (C, T, p_nf ci)) (hin : ∀ w ∈ u_ws C T (p_nf ci), w ∈ p_TG) (hty : ∀ k, k < p_nf ci → parseFieldDescriptor (T k).2.2.1 = some (ty0 k)) (hdf : ∀ j, j < p_nf ci → defaultValue (ty0 j) = if p_isR (32 * ci + j) = true then .null else .int 0) (h20 : ci < 20) (hl1 : Cond.classLink mi.1.cls idx C ∈ p_TG) (hl2 : Cond.instantiable C (p_nf ci) ∈ p_TG) (hl3 : Cond.initialized C ∈ p_TG) (hq : g.2.2.2 + σ.1.1 = q) (hk1 : k'.1 + 1 = k.1) (hk2 : k'.2 + p_nf ci = k.2) (hd : decode mi.2.1 pc = .ok (.new idx, 3)) (kk : P g d mi (pc + 3) ls (vr q :: st) (p_nw q ci 0 σ) k' Q) : P g d mi pc ls st σ k Q := by
  intro p e R s m args below meth c H locs cells slots jls fx hc2 hs hS hR hL
  have hts := fx.2.2.2.2.2.1
  have hK := fx.2.2.2.2.2.2.2.2.1.1
  have hKn := hK.1 ci _ hc
  refine p_Wk (a := cells + 1 + k'.1) (b := slots + p_nf ci + k'.2) (by omega) (by omega) ?_
  refine W.newcK fx.1 fx.2.1 fx.2.2.2.2.1 (hts _ hl1) (hts _ hl2) (hts _ hl3) rfl hd (by omega) (by omega) hKn.2.1 rfl fun H1 kC hkC e1 z1 o1 => ?_
  have hsz : H.size = q := hR.1.trans hq
  have hfs : ∀ j, j < p_nf ci → defaultValue (ty0 j) = vp_V (p_fl (p_nw q ci 0 σ) ci q) j := by
    intro j hj
    rw [hdf j hj]
    unfold vp_V
    rw [List.getD_eq_getElem?_getD, p_fl_at hj]
    simp only [Option.getD_some]
    unfold p_fv p_nw
    simp [va_rf]
  have hat : va_at g.2.1 p_cls (q, p_el g (p_nw q ci 0 σ) q) H1 := by
    rw [p_el_obj (ci := ci) (by simp [p_nw]) h20]
    rw [hsz] at e1
    exact ⟨_, hc, (u_born ty0 hts hin hKn hkC e1 hty).to hfs⟩
  rw [hsz]
  exact kk p e R s m args below meth c H1 locs (cells + 1) (slots + p_nf ci) jls fx (by omega) (by omega) (p_S_nw hS z1 o1) (p_Rp_nw hR hq z1 o1 hat) hL
theorem P_newa {atype : ArrayType} {t q N : Nat} {n : Int32} (ht : t < 4) (hty : newarray.typeOf atype = p_ety t) (hw : Cond.arrayClass (newarray.typeOf atype) ∈ p_TG) (hn : ¬ n < 0) (hN : n.toNatClampNeg = N) (hb : N * componentBytes (newarray.typeOf atype) ≤ 536870912) (hq : g.2.2.2 + σ.1.1 = q) (hk1 : k'.1 + 1 = k.1) (hk2 : k'.2 + N = k.2) (hd : decode mi.2.1 pc = .ok (.newarray atype, 2)) (kk : P g d mi (pc + 2) ls (vr q :: st) (p_nw q (20 + t) N σ) k' Q) : P g d mi pc ls (vi n :: st) σ k Q := by
  intro p e R s m args below meth c H locs cells slots jls fx hc2 hs hS hR hL
  have hts := fx.2.2.2.2.2.1
  have hK := fx.2.2.2.2.2.2.2.2.1.1
  refine p_Wk (a := cells + 1 + k'.1) (b := slots + N + k'.2) (by omega) (by omega) ?_
  refine va_newaK fx.1 fx.2.1 (hts _ hw) rfl hd rfl hn hN hb (by omega) (by omega) rfl fun H1 cA e1 z1 o1 hAr hNm => ?_
  have hsz : H.size = q := hR.1.trans hq
  have hRA := (hK.2 t _ (p_tys_at (by omega))).2
  have hcA : cA = g.2.2.1 t := by
    rw [hty] at hNm
    match t, ht with
    | 0, _ => exact Option.some.inj (hNm.symm.trans hRA)
    | 1, _ => exact Option.some.inj (hNm.symm.trans hRA)
    | 2, _ => exact Option.some.inj (hNm.symm.trans hRA)
    | 3, _ => exact Option.some.inj (hNm.symm.trans hRA)
  subst hcA
  have hat : va_at g.2.1 p_cls (q, p_el g (p_nw q (20 + t) N σ) q) H1 := by
    rw [p_el_arr (t := t) (by simp [p_nw])]
    rw [hsz, hty] at e1
    show H1[q]? = some (vp_cell _ _)
    rw [e1]
    match t, ht with
    | 0, _ => rw [p_ar0, vp_cell_i]; simp [p_nw]; rfl
    | 1, _ => rw [p_ar1, vp_cell_l]; simp [p_nw]; rfl
    | 2, _ => rw [p_ar2, vp_cell_i]; simp [p_nw]; rfl
    | 3, _ => rw [p_ar3, vp_cell_i]; simp [p_nw]; rfl
  rw [hsz]
  exact kk p e R s m args below meth c H1 locs (cells + 1) (slots + N) jls fx (by omega) (by omega) (p_S_nw hS z1 o1) (p_Rp_nw hR hq z1 o1 hat) hL
theorem P_newq {idx t q N : Nat} {n : Int32} {C : String} (ht : 4 ≤ t) (ht9 : t < 9) (hty : p_ety t = .object C) (hw : Cond.classLink mi.1.cls idx C ∈ p_TG) (hao : C ∈ p_ao) (hn : ¬ n < 0) (hN : n.toNatClampNeg = N) (hb : N * 4 ≤ 536870912) (hq : g.2.2.2 + σ.1.1 = q) (hk1 : k'.1 + 1 = k.1) (hk2 : k'.2 + N = k.2) (hd : decode mi.2.1 pc = .ok (.anewarray idx, 3)) (kk : P g d mi (pc + 3) ls (vr q :: st) (p_nw q (20 + t) N σ) k' Q) : P g d mi pc ls (vi n :: st) σ k Q := by
  intro p e R s m args below meth c H locs cells slots jls fx hc2 hs hS hR hL
  have hts := fx.2.2.2.2.2.1
  have hK := fx.2.2.2.2.2.2.2.2.1.1
  have hover := fx.2.2.2.2.2.2.2.2.1.2.2 C hao
  subst hN
  refine p_Wk (a := cells + 1 + k'.1) (b := slots + n.toNatClampNeg + k'.2) (by omega) (by omega) ?_
  refine W.anew fx.1 fx.2.1 fx.2.2.2.2.1 (hts _ hw) (va_AO.use hover) rfl hd rfl hn hb (by omega) (by omega) fun cA kA comp f1 f2 f3 f4 => ?_
  have hsz : H.size = q := hR.1.trans hq
  generalize hH1 : H.push ({ cls := cA, slots := Array.replicate n.toNatClampNeg .null, vm := .none } : Cell) = H1
  have z1 : H1.size = H.size + 1 := by rw [← hH1, Array.size_push]
  have e1 : H1[H.size]? = some (arrV cA n.toNatClampNeg (fun _ => .null)) := by rw [← hH1, Array.getElem?_push_size, ← arrV_new]
  have o1 : ∀ b : Nat, b < H.size → H1[b]? = H[b]? := fun b hb => by rw [← hH1, Array.getElem?_push, if_neg (Nat.ne_of_lt hb)]
  have hRA := (hK.2 t _ (p_tys_at ht9)).2
  rw [hty] at hRA
  obtain ⟨_, _, -, -, -, k5⟩ := hRA
  have hcA : cA = g.2.2.1 t := Option.some.inj (f1.symm.trans k5)
  subst hcA
  have hat : va_at g.2.1 p_cls (q, p_el g (p_nw q (20 + t) n.toNatClampNeg σ) q) H1 := by
    rw [p_el_arr (t := t) (by simp [p_nw])]
    rw [hsz] at e1
    show H1[q]? = some (vp_cell _ _)
    rw [e1, p_ar_obj ht, vp_cell_q]
    simp [p_nw]
    rfl
  rw [hsz]
  exact kk p e R s m args below meth c H1 locs (cells + 1) (slots + n.toNatClampNeg) jls fx (by omega) (by omega) (p_S_nw hS z1 o1) (p_Rp_nw hR hq z1 o1 hat) hL
end PNew
