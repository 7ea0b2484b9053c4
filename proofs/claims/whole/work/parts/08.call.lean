section PCopy
variable {g : PG} {d : Nat} {mi : PI} {pc : Nat} {ls : List (Option PV)} {st : List PV} {σ σ' : PS} {k k' : Nat × Nat} {Q : Option PV → PS → Prop}
theorem p_nn {z : Int32} (hz : 0 ≤ z) : z.toInt = (z.toNatClampNeg : Int) := by
  have hz0 : (0 : Int) ≤ z.toInt := by simpa using Int32.le_iff_toInt_le.mp hz
  show z.toInt = ((z.toInt.toNat : Nat) : Int)
  omega
/-- System.arraycopy of ints, whole arrays from their beginnings -/
theorem P_copyI {idx a0 a N : Nat} {n : Int32} (h1 : Cond.methodLink mi.1.cls idx arraycopyName ∈ p_TG) (h2 : Cond.native arraycopyName ∈ p_TG) (h3 : Cond.static arraycopyName ∈ p_TG) (h4 : Cond.initialized "java/lang/System" ∈ p_TG) (hk0 : σ.1.2.1 a0 = 20) (hk1 : σ.1.2.1 a = 20) (hn : 0 ≤ n) (hN : n.toNatClampNeg = N) (hl0 : N ≤ σ.1.2.2.1 a0) (hl1 : N ≤ σ.1.2.2.1 a) (hd : decode mi.2.1 pc = .ok (.invokestatic idx, 3)) (hcat : Nat.ble (st.map fun v => (tv v).category).sum 8 = true) (kk : P g d mi (pc + 3) ls st (σ.1, σ.2.1, (fun b i => if b = a ∧ i < N then σ.2.2.1 a0 i else σ.2.2.1 b i), σ.2.2.2) k Q) : P g d mi pc ls (vi n :: vi 0 :: vr a :: vi 0 :: vr a0 :: st) σ k Q := by
  intro p e R s m args below meth c H locs cells slots jls fx hc2 hs hS hR hL
  have hts := fx.2.2.2.2.2.1
  have hcat2 := Nat.le_of_ble_eq_true hcat
  have hw0 := p_wl_at (a := a0) hR (by rw [hk0]; omega)
  rw [p_el_arr (t := 0) hk0] at hw0
  have hw1 := p_wl_at (a := a) hR (by rw [hk1]; omega)
  rw [p_el_arr (t := 0) hk1] at hw1
  have hK := fx.2.2.2.2.2.2.2.2.1.1
  have ht := hK.2 0 _ (p_tys_at (by omega))
  have hc0 : H[a0]? = some (vp_cell (g.2.2.1 0) (σ.1.2.2.1 a0, .inl (σ.2.2.1 a0))) := hR.2.2 _ _ hw0
  have hc1 : H[a]? = some (vp_cell (g.2.2.1 0) (σ.1.2.2.1 a, .inl (σ.2.2.1 a))) := hR.2.2 _ _ hw1
  obtain ⟨-, k0, hk0', cm0, hkk0⟩ := ht.1 (σ.1.2.2.1 a0) (fun j => .int (σ.2.2.1 a0 j))
  obtain ⟨-, k1, hk1', cm1, hkk1⟩ := ht.1 (σ.1.2.2.1 a) (fun j => .int (σ.2.2.1 a j))
  subst hN
  have h60 : (0 : Int32).toNatClampNeg = 0 := rfl
  have h61 : (0 : Int32).toInt = 0 := rfl
  intro T hT X
  obtain ⟨vm', X', step⟩ := X.arraycopy fx.1 fx.2.2.2.2.1 (hts _ h1) (hts _ h2) (hts _ h3) (hts _ h4) (src := a0) (dst := a) (cs := vp_cell (g.2.2.1 0) (σ.1.2.2.1 a0, .inl (σ.2.2.1 a0))) (cd := vp_cell (g.2.2.1 0) (σ.1.2.2.1 a, .inl (σ.2.2.1 a))) (srcPos := 0) (destPos := 0) (n := n) (by rw [hT]; exact hc0) (by rw [hT]; exact hc1)
    (fun _ h => by cases h) (fun _ h => by cases h) (fun h => by cases h) (fun h => by cases h) hk0' hk1' hkk0 hkk1 (by simp [p_ety, refKind]) (by decide) (by decide) (Int32.not_lt.mpr hn)
    (by rw [h61, p_nn hn]; show ¬ _ > ((arrV _ _ _).slots.size : Int); rw [arrV_size]; omega)
    (by rw [h61, p_nn hn]; show ¬ _ > ((arrV _ _ _).slots.size : Int); rw [arrV_size]; omega)
    (fun vm₁ _ i hi => by
      have e9 : (vp_cell (g.2.2.1 0) (σ.1.2.2.1 a0, .inl (σ.2.2.1 a0))).slots.getD ((0 : Int32).toNatClampNeg + i) .null = .int (σ.2.2.1 a0 ((0 : Int32).toNatClampNeg + i)) := by
        show (arrV _ _ _).slots.getD _ _ = _
        rw [Array.getD_eq_getD_getElem?, arrV_read _ _ (by rw [h60]; omega)]
        rfl
      refine ⟨?_, ?_⟩
      · rw [e9]; rfl
      · rw [e9]
        exact trivial)
    (g := F0 m pc jls (.int n :: .int 0 :: .ref a :: .int 0 :: .ref a0 :: st.map tv)) rfl (by rw [fx.2.2.1]; exact hL.1) (rest := st.map tv) rfl (by rw [fx.2.1]; exact hd) (by have := fx.2.2.2.2.2.2.2.2.2.2.1; omega) (by
      have h6 := fx.2.2.2.2.2.2.2.2.2.2.2
      rw [List.map_map]
      show 2 * 0 + (st.map fun v => (tv v).category).sum + (7 + 11) ≤ _
      omega)
  have e1 : copied (vp_cell (g.2.2.1 0) (σ.1.2.2.1 a0, .inl (σ.2.2.1 a0))) (vp_cell (g.2.2.1 0) (σ.1.2.2.1 a, .inl (σ.2.2.1 a))) 0 0 n = vp_cell (g.2.2.1 0) (σ.1.2.2.1 a, .inl (va_cpy (σ.2.2.1 a0) (σ.2.2.1 a) 0 0 n.toNatClampNeg)) := va_copied (fun z => .int z) (g.2.2.1 0) (g.2.2.1 0) (σ.2.2.1 a0) (σ.2.2.1 a) (by rw [h60]; omega)
  rw [e1] at X' step
  have hl : a < H.size := (Array.getElem?_eq_some_iff.mp hc1).1
  have hheap : ((T.setVm vm').setCell a (vp_cell (g.2.2.1 0) (σ.1.2.2.1 a, .inl (va_cpy (σ.2.2.1 a0) (σ.2.2.1 a) 0 0 n.toNatClampNeg)))).heap = H.setIfInBounds a (vp_cell (g.2.2.1 0) (σ.1.2.2.1 a, .inl (va_cpy (σ.2.2.1 a0) (σ.2.2.1 a) 0 0 n.toNatClampNeg))) := by rw [← hT]; rfl
  have oq : ∀ q : Nat, q ≠ a → (H.setIfInBounds a (vp_cell (g.2.2.1 0) (σ.1.2.2.1 a, .inl (va_cpy (σ.2.2.1 a0) (σ.2.2.1 a) 0 0 n.toNatClampNeg))))[q]? = H[q]? := fun q hq => by simp [Array.getElem?_setIfInBounds, Ne.symm hq]
  have hlo := p_lo (a := a) hR (by rw [hk1]; omega)
  have hR' : p_Rp g (σ.1, σ.2.1, (fun b i => if b = a ∧ i < n.toNatClampNeg then σ.2.2.1 a0 i else σ.2.2.1 b i), σ.2.2.2) (H.setIfInBounds a (vp_cell (g.2.2.1 0) (σ.1.2.2.1 a, .inl (va_cpy (σ.2.2.1 a0) (σ.2.2.1 a) 0 0 n.toNatClampNeg)))) := by
    refine p_Rp_arr (t := 0) (a := a) hR rfl hk1 (by omega) rfl ?_ (by simp) (by
      rw [show (H.setIfInBounds a (vp_cell (g.2.2.1 0) (σ.1.2.2.1 a, .inl (va_cpy (σ.2.2.1 a0) (σ.2.2.1 a) 0 0 n.toNatClampNeg))))[a]? = some (vp_cell (g.2.2.1 0) (σ.1.2.2.1 a, .inl (va_cpy (σ.2.2.1 a0) (σ.2.2.1 a) 0 0 n.toNatClampNeg))) by simp [Array.getElem?_setIfInBounds, hl]]
      rw [p_ar0]
      congr 4
      funext i
      simp [va_cpy]) oq
    intro b hb
    unfold p_el p_ar
    dsimp only
    have h2 : (fun i => if b = a ∧ i < n.toNatClampNeg then σ.2.2.1 a0 i else σ.2.2.1 b i) = σ.2.2.1 b := by funext i; simp [hb]
    rw [h2]
    rfl
  obtain ⟨t, a1, b1⟩ := kk p e R s m args below meth c _ _ cells slots jls fx hc2 hs ⟨by simp; exact hS.1, fun q g1 g2 => by
      rw [oq q (fun e => g2 (by rw [e]; exact hlo))]
      exact hS.2.1 q g1 g2, fun q hq => by
      rcases List.mem_append.mp hq with h | h
      · exact hS.2.2 q h
      · obtain ⟨z, -, hz⟩ := List.mem_map.mp h
        rw [← hz]
        exact hlo⟩ hR' hL _ hheap X'
  exact ⟨t, step t a1, b1⟩
/-- System.arraycopy of longs, whole arrays from their beginnings -/
theorem P_copyL {idx a0 a N : Nat} {n : Int32} (h1 : Cond.methodLink mi.1.cls idx arraycopyName ∈ p_TG) (h2 : Cond.native arraycopyName ∈ p_TG) (h3 : Cond.static arraycopyName ∈ p_TG) (h4 : Cond.initialized "java/lang/System" ∈ p_TG) (hk0 : σ.1.2.1 a0 = 21) (hk1 : σ.1.2.1 a = 21) (hn : 0 ≤ n) (hN : n.toNatClampNeg = N) (hl0 : N ≤ σ.1.2.2.1 a0) (hl1 : N ≤ σ.1.2.2.1 a) (hd : decode mi.2.1 pc = .ok (.invokestatic idx, 3)) (hcat : Nat.ble (st.map fun v => (tv v).category).sum 8 = true) (kk : P g d mi (pc + 3) ls st (σ.1, σ.2.1, σ.2.2.1, (fun b i => if b = a ∧ i < N then σ.2.2.2.1 a0 i else σ.2.2.2.1 b i), σ.2.2.2.2) k Q) : P g d mi pc ls (vi n :: vi 0 :: vr a :: vi 0 :: vr a0 :: st) σ k Q := by
  intro p e R s m args below meth c H locs cells slots jls fx hc2 hs hS hR hL
  have hts := fx.2.2.2.2.2.1
  have hcat2 := Nat.le_of_ble_eq_true hcat
  have hw0 := p_wl_at (a := a0) hR (by rw [hk0]; omega)
  rw [p_el_arr (t := 1) hk0] at hw0
  have hw1 := p_wl_at (a := a) hR (by rw [hk1]; omega)
  rw [p_el_arr (t := 1) hk1] at hw1
  have hK := fx.2.2.2.2.2.2.2.2.1.1
  have ht := hK.2 1 _ (p_tys_at (by omega))
  have hc0 : H[a0]? = some (vp_cell (g.2.2.1 1) (σ.1.2.2.1 a0, .inr (.inl (σ.2.2.2.1 a0)))) := hR.2.2 _ _ hw0
  have hc1 : H[a]? = some (vp_cell (g.2.2.1 1) (σ.1.2.2.1 a, .inr (.inl (σ.2.2.2.1 a)))) := hR.2.2 _ _ hw1
  obtain ⟨-, k0, hk0', cm0, hkk0⟩ := ht.1 (σ.1.2.2.1 a0) (fun j => .long (σ.2.2.2.1 a0 j))
  obtain ⟨-, k1, hk1', cm1, hkk1⟩ := ht.1 (σ.1.2.2.1 a) (fun j => .long (σ.2.2.2.1 a j))
  subst hN
  have h60 : (0 : Int32).toNatClampNeg = 0 := rfl
  have h61 : (0 : Int32).toInt = 0 := rfl
  intro T hT X
  obtain ⟨vm', X', step⟩ := X.arraycopy fx.1 fx.2.2.2.2.1 (hts _ h1) (hts _ h2) (hts _ h3) (hts _ h4) (src := a0) (dst := a) (cs := vp_cell (g.2.2.1 1) (σ.1.2.2.1 a0, .inr (.inl (σ.2.2.2.1 a0)))) (cd := vp_cell (g.2.2.1 1) (σ.1.2.2.1 a, .inr (.inl (σ.2.2.2.1 a)))) (srcPos := 0) (destPos := 0) (n := n) (by rw [hT]; exact hc0) (by rw [hT]; exact hc1)
    (fun _ h => by cases h) (fun _ h => by cases h) (fun h => by cases h) (fun h => by cases h) hk0' hk1' hkk0 hkk1 (by simp [p_ety, refKind]) (by decide) (by decide) (Int32.not_lt.mpr hn)
    (by rw [h61, p_nn hn]; show ¬ _ > ((arrV _ _ _).slots.size : Int); rw [arrV_size]; omega)
    (by rw [h61, p_nn hn]; show ¬ _ > ((arrV _ _ _).slots.size : Int); rw [arrV_size]; omega)
    (fun vm₁ _ i hi => by
      have e9 : (vp_cell (g.2.2.1 1) (σ.1.2.2.1 a0, .inr (.inl (σ.2.2.2.1 a0)))).slots.getD ((0 : Int32).toNatClampNeg + i) .null = .long (σ.2.2.2.1 a0 ((0 : Int32).toNatClampNeg + i)) := by
        show (arrV _ _ _).slots.getD _ _ = _
        rw [Array.getD_eq_getD_getElem?, arrV_read _ _ (by rw [h60]; omega)]
        rfl
      refine ⟨?_, ?_⟩
      · rw [e9]; rfl
      · rw [e9]
        exact trivial)
    (g := F0 m pc jls (.int n :: .int 0 :: .ref a :: .int 0 :: .ref a0 :: st.map tv)) rfl (by rw [fx.2.2.1]; exact hL.1) (rest := st.map tv) rfl (by rw [fx.2.1]; exact hd) (by have := fx.2.2.2.2.2.2.2.2.2.2.1; omega) (by
      have h6 := fx.2.2.2.2.2.2.2.2.2.2.2
      rw [List.map_map]
      show 2 * 0 + (st.map fun v => (tv v).category).sum + (7 + 11) ≤ _
      omega)
  have e1 : copied (vp_cell (g.2.2.1 1) (σ.1.2.2.1 a0, .inr (.inl (σ.2.2.2.1 a0)))) (vp_cell (g.2.2.1 1) (σ.1.2.2.1 a, .inr (.inl (σ.2.2.2.1 a)))) 0 0 n = vp_cell (g.2.2.1 1) (σ.1.2.2.1 a, .inr (.inl (va_cpy (σ.2.2.2.1 a0) (σ.2.2.2.1 a) 0 0 n.toNatClampNeg))) := va_copied (fun z => .long z) (g.2.2.1 1) (g.2.2.1 1) (σ.2.2.2.1 a0) (σ.2.2.2.1 a) (by rw [h60]; omega)
  rw [e1] at X' step
  have hl : a < H.size := (Array.getElem?_eq_some_iff.mp hc1).1
  have hheap : ((T.setVm vm').setCell a (vp_cell (g.2.2.1 1) (σ.1.2.2.1 a, .inr (.inl (va_cpy (σ.2.2.2.1 a0) (σ.2.2.2.1 a) 0 0 n.toNatClampNeg))))).heap = H.setIfInBounds a (vp_cell (g.2.2.1 1) (σ.1.2.2.1 a, .inr (.inl (va_cpy (σ.2.2.2.1 a0) (σ.2.2.2.1 a) 0 0 n.toNatClampNeg)))) := by rw [← hT]; rfl
  have oq : ∀ q : Nat, q ≠ a → (H.setIfInBounds a (vp_cell (g.2.2.1 1) (σ.1.2.2.1 a, .inr (.inl (va_cpy (σ.2.2.2.1 a0) (σ.2.2.2.1 a) 0 0 n.toNatClampNeg)))))[q]? = H[q]? := fun q hq => by simp [Array.getElem?_setIfInBounds, Ne.symm hq]
  have hlo := p_lo (a := a) hR (by rw [hk1]; omega)
  have hR' : p_Rp g (σ.1, σ.2.1, σ.2.2.1, (fun b i => if b = a ∧ i < n.toNatClampNeg then σ.2.2.2.1 a0 i else σ.2.2.2.1 b i), σ.2.2.2.2) (H.setIfInBounds a (vp_cell (g.2.2.1 1) (σ.1.2.2.1 a, .inr (.inl (va_cpy (σ.2.2.2.1 a0) (σ.2.2.2.1 a) 0 0 n.toNatClampNeg))))) := by
    refine p_Rp_arr (t := 1) (a := a) hR rfl hk1 (by omega) rfl ?_ (by simp) (by
      rw [show (H.setIfInBounds a (vp_cell (g.2.2.1 1) (σ.1.2.2.1 a, .inr (.inl (va_cpy (σ.2.2.2.1 a0) (σ.2.2.2.1 a) 0 0 n.toNatClampNeg)))))[a]? = some (vp_cell (g.2.2.1 1) (σ.1.2.2.1 a, .inr (.inl (va_cpy (σ.2.2.2.1 a0) (σ.2.2.2.1 a) 0 0 n.toNatClampNeg)))) by simp [Array.getElem?_setIfInBounds, hl]]
      rw [p_ar1]
      congr 5
      funext i
      simp [va_cpy]) oq
    intro b hb
    unfold p_el p_ar
    dsimp only
    have h2 : (fun i => if b = a ∧ i < n.toNatClampNeg then σ.2.2.2.1 a0 i else σ.2.2.2.1 b i) = σ.2.2.2.1 b := by funext i; simp [hb]
    rw [h2]
    rfl
  obtain ⟨t, a1, b1⟩ := kk p e R s m args below meth c _ _ cells slots jls fx hc2 hs ⟨by simp; exact hS.1, fun q g1 g2 => by
      rw [oq q (fun e => g2 (by rw [e]; exact hlo))]
      exact hS.2.1 q g1 g2, fun q hq => by
      rcases List.mem_append.mp hq with h | h
      · exact hS.2.2 q h
      · obtain ⟨z, -, hz⟩ := List.mem_map.mp h
        rw [← hz]
        exact hlo⟩ hR' hL _ hheap X'
  exact ⟨t, step t a1, b1⟩

theorem p_good {w : Cond} (h : w ∈ p_TG) : (w.onTables && w.keeps) = true ∨ ∃ ty, w = .arrayClass ty := good_of_word (List.mem_filter.mp h).2
theorem p_Gws {mi : PI} (h : Cond.code mi.1 mi.2.1 mi.2.2.1 mi.2.2.2 ∈ p_TG) : GoodIn p_TG (p_ws mi) := fun w hw => by
  have : w ∈ p_TG := by
    rcases List.mem_cons.mp hw with h2 | h2
    · rw [h2]; exact h
    · exact h2
  exact ⟨this, p_good this⟩
theorem p_K.vm {u U : State} (h : u.vm = U.vm) (hK : p_K g u) : p_K g U :=
  ⟨va_K.moved (by rw [h]; exact Vm.Alike.refl U.vm) hK.1, fun q hq => (hK.2.1 q hq).same rfl h, fun C hC => (hK.2.2 C hC).moved (by rw [h]; exact Vm.Alike.refl U.vm)⟩
theorem p_blind {A : List PV} : FrameBlind (p_Pc g A σ) := fun a U gf mk h => ⟨h.1, h.2.1, p_K.vm (u := U) rfl h.2.2⟩
def p_push : Option PV → List PV → List PV
  | none, st => st
  | some v, st => v :: st
theorem p_push_tv (r : Option PV) (st : List PV) : (r.map tv).toList ++ st.map tv = (p_push r st).map tv := by cases r <;> rfl
/-- from a call's run to the judgement behind it -/
theorem p_ofRun {p : Program} {e : Env} {R : Room} {s : State} {m : MethodId} {args : Array Value} {below : List Frame} {meth : Method} {c : Code} {H : Heap} {locs : List Loc} {cells slots : Nat} {jls : Array Slot} {a : Array Value} {Q' : Option PV → PS → Prop} {st0 : List Value} {mc : Nat × Nat}
    (hr : va_Run p g.1 e R s m args below meth c H locs cells slots mc.1 mc.2 (F0 m pc jls st0) (st.map tv) (p_QQ g Q' a) (fun q => g.2.2.2 ≤ q))
    (fx : p_Fx g d mi p R s m args meth c) (hc : cells + k.1 ≤ R.cells) (hs : slots + k.2 ≤ R.slots) (hS : va_S (fun q => g.2.2.2 ≤ q) s.heap H locs) (hL : lv_has jls mi.2.2.1 (p_lc 0 ls)) (hk1 : k'.1 + mc.1 = k.1) (hk2 : k'.2 + mc.2 = k.2)
    (kk : ∀ (r : Option PV) (σ' : PS), Q' r σ' → P g d mi (pc + 3) ls (p_push r st) σ' k' Q) :
    W p g.1 e R s m args below meth c H locs cells slots (MQ below (p_QQ g Q) args s (cells + k.1) (slots + k.2) (fun q => g.2.2.2 ≤ q)) (F0 m pc jls st0) := by
  refine p_Wk (a := cells + mc.1 + k'.1) (b := slots + mc.2 + k'.2) (by omega) (by omega) ?_
  intro T hT X
  obtain ⟨v, st₀, t, T', L, h0, X', hLq, e1, e2, ⟨⟨r, σ', hv, hq, hR1⟩, hz, hkp⟩, stp⟩ := hr T hT X
  cases hv
  rw [h0] at hz hkp
  have hS' : va_S (fun q => g.2.2.2 ≤ q) s.heap T'.heap (locs ++ L) := ⟨Nat.le_trans hS.1 (by rw [e1]; exact hz), fun q h1 h2 => by rw [e1, hkp q (Nat.lt_of_lt_of_le h1 hS.1) h2]; exact hS.2.1 q h1 h2, fun q hq => by
      rcases List.mem_append.mp hq with h | h
      · exact hS.2.2 q h
      · exact hLq q h⟩
  obtain ⟨t2, a1, b1⟩ := kk r σ' hq p e R s m args below meth c T'.heap (locs ++ L) (cells + mc.1) (slots + mc.2) jls fx (by omega) (by omega) hS' (by rw [e1]; exact hR1) hL T' rfl X'
  refine ⟨t2, stp t2 ?_, b1⟩
  have h9 : (r.map tv).toList ++ st.map tv = (p_push r st).map tv := p_push_tv r st
  show Steps p.tables e below (T'.setTop (F0 m (pc + 3) jls ((r.map tv).toList ++ st.map tv))) t2
  rw [h9]
  exact a1
theorem p_room {p : Program} {R : Room} {s : State} {m : MethodId} {args : Array Value} {meth : Method} {c : Code} {d' n : Nat} {mc : Nat × Nat} (fx : p_Fx g d mi p R s m args meth c) (hd' : d' < d) (hn : n ≤ 40) : (p_rm d' mc).frames + 1 ≤ R.frames ∧ 8 + (n + 11) + (p_rm d' mc).locals ≤ R.locals := by
  have h1 := fx.2.2.2.2.2.2.2.2.2.2.1
  have h2 := fx.2.2.2.2.2.2.2.2.2.2.2
  show d' + 1 + 1 ≤ _ ∧ 8 + (n + 11) + 64 * (d' + 1) ≤ _
  omega
theorem p_cat8 {st : List PV} (hcat : Nat.ble (st.map fun v => (tv v).category).sum 8 = true) : 2 * 0 + ((st.map tv).map fun v => v.category).sum ≤ 8 := by
  have := Nat.le_of_ble_eq_true hcat
  rw [List.map_map]
  show 2 * 0 + (st.map fun v => (tv v).category).sum ≤ 8
  omega
theorem P_callV {d' idx b ci n : Nat} {y : PI} {C : String} {As full : List PV} {Q' : Option PV → PS → Prop} {mc : Nat × Nat} {r0 : vw_C} (S : Sp g d' y (vr b :: As) σ mc Q') (hd' : d' < d) (hm1 : Cond.methodLink mi.1.cls idx y.1 ∈ p_TG) (hm2 : Cond.instanceMethod y.1 ∈ p_TG) (hm3 : Cond.selects C y.1 y.1 ∈ p_TG) (hm4 : Cond.initialized C ∈ p_TG) (hm5 : Cond.code y.1 y.2.1 y.2.2.1 y.2.2.2 ∈ p_TG)
    (hy : y.1.cls = C ∧ y.1.cls ≠ "java/lang/invoke/MethodHandle" ∧ y.1.cls ≠ "java/lang/invoke/VarHandle" ∧ (parseMethodDescriptor y.1.desc).map (fun d => d.parameters.length) = some n) (h40 : Nat.ble y.2.2.1 40 = true) (hci : p_cls[ci]? = some r0) (hC : r0.1 = C) (h20 : ci < 20) (hk : σ.1.2.1 b = ci) (hn : As.length = n) (hfull : full = As.reverse ++ vr b :: st) (hcat : Nat.ble (st.map fun v => (tv v).category).sum 8 = true) (hk1 : k'.1 + mc.1 = k.1) (hk2 : k'.2 + mc.2 = k.2) (hd : decode mi.2.1 pc = .ok (.invokevirtual idx, 3))
    (kk : ∀ (r : Option PV) (σ' : PS), Q' r σ' → P g d mi (pc + 3) ls (p_push r st) σ' k' Q) : P g d mi pc ls full σ k Q := by
  subst hfull
  intro p e R s m args below meth c H locs cells slots jls fx hc hs hS hR hL
  have hts := fx.2.2.2.2.2.1
  have hw := p_wl_at (a := b) hR (by omega)
  rw [p_el_obj hk h20] at hw
  have hK := fx.2.2.2.2.2.2.2.2.1
  have hGt : GoodIn p_TG (wsV mi.1.cls idx C y.1 (p_ws y)) := by
    intro w hw2
    have : w ∈ p_TG := by
      rcases List.mem_append.mp hw2 with h | h
      · simp only [List.mem_cons, List.not_mem_nil, or_false] at h
        rcases h with rfl | rfl | rfl | rfl <;> assumption
      · exact (p_Gws hm5 w h).1
    exact ⟨this, p_good this⟩
  have hrec := va_recv hK.1 hR.2.2 hci hw
  rw [hC] at hrec
  have hrun := va_runV (p := p) (l := g.1) (e := e) (R := R) (s := s) (m := m) (args := args) (below := below) (meth := meth) (c := c) (H := H) (locs := locs) (cells := cells) (slots := slots) (Ts := p_TG) (own := mi.1.cls) (C := C) (b := b) (As := As.map tv) (rest := st.map tv) (g := F0 m pc jls ((As.reverse ++ vr b :: st).map tv)) (y := y.1) (bytes := y.2.1) (maxL := y.2.2.1) (ret := y.2.2.2) (cc := mi.2.1) (nL := mi.2.2.1) (n := n) (index := idx) ⟨fx.1, fx.2.1, fx.2.2.1, fx.2.2.2.2.1, hts⟩ S
    (cwV n hts hGt rfl rfl rfl hy (p_room fx hd' (Nat.le_of_ble_eq_true h40)))
    ⟨p_blind, hrec, fun U hU hW => ⟨by simp [tv, va_rf], by rw [hU]; exact hR, p_K.moved hW hK⟩⟩ rfl (by simpa using hn) hL.1 (by simp [tv, va_rf]) (p_cat8 hcat) hd ⟨by omega, by omega⟩
  exact p_ofRun hrun fx hc hs hS hL hk1 hk2 kk
theorem P_callS {d' idx n : Nat} {y : PI} {As full : List PV} {Q' : Option PV → PS → Prop} {mc : Nat × Nat} (S : Sp g d' y As σ mc Q') (hd' : d' < d) (hm1 : Cond.methodLink mi.1.cls idx y.1 ∈ p_TG) (hm2 : Cond.static y.1 ∈ p_TG) (hm4 : Cond.initialized y.1.cls ∈ p_TG) (hm5 : Cond.code y.1 y.2.1 y.2.2.1 y.2.2.2 ∈ p_TG)
    (hy : y.1.cls ≠ "java/lang/invoke/MethodHandle" ∧ y.1.cls ≠ "java/lang/invoke/VarHandle" ∧ (parseMethodDescriptor y.1.desc).map (fun d => d.parameters.length) = some n) (h40 : Nat.ble y.2.2.1 40 = true) (hn : As.length = n) (hfull : full = As.reverse ++ st) (hcat : Nat.ble (st.map fun v => (tv v).category).sum 8 = true) (hk1 : k'.1 + mc.1 = k.1) (hk2 : k'.2 + mc.2 = k.2) (hd : decode mi.2.1 pc = .ok (.invokestatic idx, 3))
    (kk : ∀ (r : Option PV) (σ' : PS), Q' r σ' → P g d mi (pc + 3) ls (p_push r st) σ' k' Q) : P g d mi pc ls full σ k Q := by
  subst hfull
  intro p e R s m args below meth c H locs cells slots jls fx hc hs hS hR hL
  have hts := fx.2.2.2.2.2.1
  have hK := fx.2.2.2.2.2.2.2.2.1
  have hrun := va_runS (p := p) (l := g.1) (e := e) (R := R) (s := s) (m := m) (args := args) (below := below) (meth := meth) (c := c) (H := H) (locs := locs) (cells := cells) (slots := slots) (Ts := p_TG) (own := mi.1.cls) (As := As.map tv) (rest := st.map tv) (g := F0 m pc jls ((As.reverse ++ st).map tv)) (y := y.1) (bytes := y.2.1) (maxL := y.2.2.1) (ret := y.2.2.2) (cc := mi.2.1) (nL := mi.2.2.1) (n := n) (index := idx) ⟨fx.1, fx.2.1, fx.2.2.1, fx.2.2.2.2.1, hts⟩ S
    ⟨callB_of n hts (p_Gws hm5) rfl rfl rfl (hts _ hm4) (hts _ hm1) hy (p_room fx hd' (Nat.le_of_ble_eq_true h40)), hts _ hm2⟩
    ⟨p_blind, fun U hU hW => ⟨rfl, by rw [hU]; exact hR, p_K.moved hW hK⟩⟩ rfl (by simpa using hn) hL.1 (by simp) (p_cat8 hcat) hd ⟨by omega, by omega⟩
  exact p_ofRun hrun fx hc hs hS hL hk1 hk2 kk
theorem P_callSN {d' idx n : Nat} {y : PI} {host : String} {As full : List PV} {Q' : Option PV → PS → Prop} {mc : Nat × Nat} (S : Sp g d' y As σ mc Q') (hd' : d' < d) (hm1 : (mi.1.cls, idx, y.1, host) ∈ p_nest) (hm2 : Cond.static y.1 ∈ p_TG) (hm4 : Cond.initialized y.1.cls ∈ p_TG) (hm5 : Cond.code y.1 y.2.1 y.2.2.1 y.2.2.2 ∈ p_TG)
    (hy : y.1.cls ≠ "java/lang/invoke/MethodHandle" ∧ y.1.cls ≠ "java/lang/invoke/VarHandle" ∧ (parseMethodDescriptor y.1.desc).map (fun d => d.parameters.length) = some n) (h40 : Nat.ble y.2.2.1 40 = true) (hn : As.length = n) (hfull : full = As.reverse ++ st) (hcat : Nat.ble (st.map fun v => (tv v).category).sum 8 = true) (hk1 : k'.1 + mc.1 = k.1) (hk2 : k'.2 + mc.2 = k.2) (hd : decode mi.2.1 pc = .ok (.invokestatic idx, 3))
    (kk : ∀ (r : Option PV) (σ' : PS), Q' r σ' → P g d mi (pc + 3) ls (p_push r st) σ' k' Q) : P g d mi pc ls full σ k Q := by
  subst hfull
  intro p e R s m args below meth c H locs cells slots jls fx hc hs hS hR hL
  have hts := fx.2.2.2.2.2.1
  have hK := fx.2.2.2.2.2.2.2.2.1
  have hnw := hK.2.1 _ hm1
  have hrun := va_runSN (p := p) (l := g.1) (e := e) (R := R) (s := s) (m := m) (args := args) (below := below) (meth := meth) (c := c) (H := H) (locs := locs) (cells := cells) (slots := slots) (Ts := p_TG) (own := mi.1.cls) (host := host) (As := As.map tv) (rest := st.map tv) (g := F0 m pc jls ((As.reverse ++ st).map tv)) (y := y.1) (bytes := y.2.1) (maxL := y.2.2.1) (ret := y.2.2.2) (cc := mi.2.1) (nL := mi.2.2.1) (n := n) (index := idx) ⟨fx.1, fx.2.1, fx.2.2.1, fx.2.2.2.2.1, hts⟩ S
    ⟨va_cnB n hts (p_Gws hm5) rfl rfl rfl hnw (hts _ hm4) hy (p_room fx hd' (Nat.le_of_ble_eq_true h40)), hts _ hm2, trivial⟩
    ⟨p_blind, fun U hU hW => ⟨rfl, by rw [hU]; exact hR, p_K.moved hW hK⟩⟩ rfl (by simpa using hn) hL.1 (by simp) (p_cat8 hcat) hd ⟨by omega, by omega⟩
  exact p_ofRun hrun fx hc hs hS hL hk1 hk2 kk
theorem P_callI {d' idx n b : Nat} {y : PI} {As full : List PV} {Q' : Option PV → PS → Prop} {mc : Nat × Nat} (S : Sp g d' y (vr b :: As) σ mc Q') (hd' : d' < d) (hm1 : Cond.methodLink mi.1.cls idx y.1 ∈ p_TG) (hm2 : Cond.instanceMethod y.1 ∈ p_TG) (hm4 : Cond.initialized y.1.cls ∈ p_TG) (hm5 : Cond.code y.1 y.2.1 y.2.2.1 y.2.2.2 ∈ p_TG) (hret : y.2.2.2 = none) (hy1 : y.1.name = "<init>")
    (hy : y.1.cls ≠ "java/lang/invoke/MethodHandle" ∧ y.1.cls ≠ "java/lang/invoke/VarHandle" ∧ (parseMethodDescriptor y.1.desc).map (fun d => d.parameters.length) = some n) (h40 : Nat.ble y.2.2.1 40 = true) (hn : As.length = n) (hfull : full = As.reverse ++ vr b :: st) (hcat : Nat.ble (st.map fun v => (tv v).category).sum 8 = true) (hk1 : k'.1 + mc.1 = k.1) (hk2 : k'.2 + mc.2 = k.2) (hd : decode mi.2.1 pc = .ok (.invokespecial idx, 3))
    (kk : ∀ (r : Option PV) (σ' : PS), Q' r σ' → P g d mi (pc + 3) ls (p_push r st) σ' k' Q) : P g d mi pc ls full σ k Q := by
  subst hfull
  intro p e R s m args below meth c H locs cells slots jls fx hc hs hS hR hL
  have hts := fx.2.2.2.2.2.1
  have hK := fx.2.2.2.2.2.2.2.2.1
  have hws : p_ws y = Cond.code y.1 y.2.1 y.2.2.1 none :: p_TG := by unfold p_ws; rw [hret]
  have hrun := va_runI (p := p) (l := g.1) (e := e) (R := R) (s := s) (m := m) (args := args) (below := below) (meth := meth) (c := c) (H := H) (locs := locs) (cells := cells) (slots := slots) (Ts := p_TG) (own := mi.1.cls) (b := b) (As := As.map tv) (rest := st.map tv) (g := F0 m pc jls ((As.reverse ++ vr b :: st).map tv)) (y := y.1) (bytes := y.2.1) (maxL := y.2.2.1) (cc := mi.2.1) (nL := mi.2.2.1) (n := n) (index := idx) ⟨fx.1, fx.2.1, fx.2.2.1, fx.2.2.2.2.1, hts⟩ S
    (cwI n hts (p_Gws hm5) hws rfl rfl (hts _ hm4) (hts _ hm1) (hts _ hm2) hy1 hy (p_room fx hd' (Nat.le_of_ble_eq_true h40)))
    ⟨p_blind, fun U hU hW => ⟨rfl, by rw [hU]; exact hR, p_K.moved hW hK⟩⟩ rfl (by simpa using hn) hL.1 (by simp [tv, va_rf]) (p_cat8 hcat) hd ⟨by omega, by omega⟩
  exact p_ofRun hrun fx hc hs hS hL hk1 hk2 kk
theorem P_callIN {d' idx n b : Nat} {y : PI} {host : String} {As full : List PV} {Q' : Option PV → PS → Prop} {mc : Nat × Nat} (S : Sp g d' y (vr b :: As) σ mc Q') (hd' : d' < d) (hm1 : (mi.1.cls, idx, y.1, host) ∈ p_nest) (hm2 : Cond.instanceMethod y.1 ∈ p_TG) (hm4 : Cond.initialized y.1.cls ∈ p_TG) (hm5 : Cond.code y.1 y.2.1 y.2.2.1 y.2.2.2 ∈ p_TG) (hret : y.2.2.2 = none) (hy1 : y.1.name = "<init>")
    (hy : y.1.cls ≠ "java/lang/invoke/MethodHandle" ∧ y.1.cls ≠ "java/lang/invoke/VarHandle" ∧ (parseMethodDescriptor y.1.desc).map (fun d => d.parameters.length) = some n) (h40 : Nat.ble y.2.2.1 40 = true) (hn : As.length = n) (hfull : full = As.reverse ++ vr b :: st) (hcat : Nat.ble (st.map fun v => (tv v).category).sum 8 = true) (hk1 : k'.1 + mc.1 = k.1) (hk2 : k'.2 + mc.2 = k.2) (hd : decode mi.2.1 pc = .ok (.invokespecial idx, 3))
    (kk : ∀ (r : Option PV) (σ' : PS), Q' r σ' → P g d mi (pc + 3) ls (p_push r st) σ' k' Q) : P g d mi pc ls full σ k Q := by
  subst hfull
  intro p e R s m args below meth c H locs cells slots jls fx hc hs hS hR hL
  have hts := fx.2.2.2.2.2.1
  have hK := fx.2.2.2.2.2.2.2.2.1
  have hnw := hK.2.1 _ hm1
  have hws : p_ws y = Cond.code y.1 y.2.1 y.2.2.1 none :: p_TG := by unfold p_ws; rw [hret]
  have hG : GoodIn p_TG (p_ws y) := p_Gws hm5
  have hrun := va_runIN (p := p) (l := g.1) (e := e) (R := R) (s := s) (m := m) (args := args) (below := below) (meth := meth) (c := c) (H := H) (locs := locs) (cells := cells) (slots := slots) (Ts := p_TG) (own := mi.1.cls) (host := host) (b := b) (As := As.map tv) (rest := st.map tv) (g := F0 m pc jls ((As.reverse ++ vr b :: st).map tv)) (y := y.1) (bytes := y.2.1) (maxL := y.2.2.1) (cc := mi.2.1) (nL := mi.2.2.1) (n := n) (index := idx) ⟨fx.1, fx.2.1, fx.2.2.1, fx.2.2.2.2.1, hts⟩ S
    ⟨va_cnB n hts hG hws rfl rfl hnw (hts _ hm4) hy (p_room fx hd' (Nat.le_of_ble_eq_true h40)), hy1, hts _ hm2⟩
    ⟨p_blind, fun U hU hW => ⟨rfl, by rw [hU]; exact hR, p_K.moved hW hK⟩⟩ rfl (by simpa using hn) hL.1 (by simp [tv, va_rf]) (p_cat8 hcat) hd ⟨by omega, by omega⟩
  exact p_ofRun hrun fx hc hs hS hL hk1 hk2 kk
end PCopy
