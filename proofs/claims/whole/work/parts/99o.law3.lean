/-! ===== what the machine knows at the law's start ===== -/
theorem p_nest_in : ∀ q ∈ p_nest, Cond.methodLinkNest q.1 q.2.1 q.2.2.1 q.2.2.2 ∈ lw_tbl := List.forall_mem_cons.mpr ⟨(List.mem_append_right _ (List.mem_of_getElem? (i := 61) (by decide +kernel))), List.forall_mem_cons.mpr ⟨(List.mem_append_right _ (List.mem_of_getElem? (i := 103) (by decide +kernel))), List.forall_mem_cons.mpr ⟨(List.mem_append_right _ (List.mem_of_getElem? (i := 172) (by decide +kernel))), List.forall_mem_cons.mpr ⟨(List.mem_append_right _ (List.mem_of_getElem? (i := 285) (by decide +kernel))), List.forall_mem_cons.mpr ⟨(List.mem_append_right _ (List.mem_of_getElem? (i := 341) (by decide +kernel))), List.forall_mem_cons.mpr ⟨(List.mem_append_right _ (List.mem_of_getElem? (i := 411) (by decide +kernel))), List.forall_mem_cons.mpr ⟨(List.mem_append_right _ (List.mem_of_getElem? (i := 429) (by decide +kernel))), List.forall_mem_cons.mpr ⟨(List.mem_append_right _ (List.mem_of_getElem? (i := 507) (by decide +kernel))), List.forall_mem_cons.mpr ⟨(List.mem_append_right _ (List.mem_of_getElem? (i := 729) (by decide +kernel))), List.forall_mem_cons.mpr ⟨(List.mem_append_right _ (List.mem_of_getElem? (i := 786) (by decide +kernel))), fun _ h => absurd h List.not_mem_nil⟩⟩⟩⟩⟩⟩⟩⟩⟩⟩
theorem p_ao_in : ∀ C ∈ p_ao, Cond.arrayOver (.object C) ∈ lw_tbl := List.forall_mem_cons.mpr ⟨(List.mem_append_right _ (List.mem_of_getElem? (i := 27) (by decide +kernel))), List.forall_mem_cons.mpr ⟨(List.mem_append_right _ (List.mem_of_getElem? (i := 29) (by decide +kernel))), List.forall_mem_cons.mpr ⟨(List.mem_append_right _ (List.mem_of_getElem? (i := 31) (by decide +kernel))), List.forall_mem_cons.mpr ⟨(List.mem_append_right _ (List.mem_of_getElem? (i := 33) (by decide +kernel))), List.forall_mem_cons.mpr ⟨(List.mem_append_right _ (List.mem_of_getElem? (i := 270) (by decide +kernel))), fun _ h => absurd h List.not_mem_nil⟩⟩⟩⟩⟩
theorem ar_over {s : State} {args : Array Value} {C : String} (h : (Cond.arrayOver (.object C)).before args s = true) : ∃ cA, ArrOfT s cA (.object C) ∧ va_RA s cA (.object C) := by
  obtain ⟨comp, c, k, h1, h2, h3, h4, h5⟩ := Cond.arrayOver_spec h
  exact ⟨c, fun n z => ⟨fun q hq => (by cases hq), k, h3, comp, h4⟩, k, comp, h3, h4, h1, h5⟩
theorem ar_prim {s : State} {args : Array Value} {ty : FieldType} (hty : ∀ cA, va_RA s cA ty ↔ s.vm.findClass ("[" ++ ty.toString) = some cA) (h : (Cond.arrayClass ty).before args s = true) : ∃ cA, ArrOfT s cA ty ∧ va_RA s cA ty := by
  obtain ⟨c, k, comp, h1, h2, h3⟩ := Cond.arrayClass_spec h
  exact ⟨c, fun n z => ⟨fun q hq => (by cases hq), k, h2, comp, h3⟩, (hty c).mpr h1⟩
section Start
variable {s : State} {args : Array Value}
theorem st_cls (hts : ∀ w ∈ lw_tbl, w.before args s = true) : ∃ D : va_G, ∀ (c : Nat) (q : vw_C), p_cls[c]? = some q → u_Kn s q.1 q.2.1 q.2.2 (D.1 c) (D.2 c) := by
  have htG : ∀ w ∈ p_TG, w.before args s = true := fun w hw => hts w (List.mem_filter.mp hw).1
  obtain ⟨c0, i0, h0⟩ := u_known (C := RX0) (T := TX0) (N := p_nf 0) (n := 9) htG inX0 (htG _ w_60)
  obtain ⟨c1, i1, h1⟩ := u_known (C := RX1) (T := TX1) (N := p_nf 1) (n := 3) htG inX1 (htG _ w_264)
  obtain ⟨c2, i2, h2⟩ := u_known (C := RX2) (T := TX2) (N := p_nf 2) (n := 4) htG inX2 (htG _ w_34)
  obtain ⟨c3, i3, h3⟩ := u_known (C := RX3) (T := TX3) (N := p_nf 3) (n := 6) htG inX3 (htG _ w_284)
  obtain ⟨c4, i4, h4⟩ := u_known (C := RX4) (T := TX4) (N := p_nf 4) (n := 16) htG inX4 (htG _ w_102)
  obtain ⟨c5, i5, h5⟩ := u_known (C := RX5) (T := TX5) (N := p_nf 5) (n := 9) htG inX5 (htG _ w_171)
  obtain ⟨c6, i6, h6⟩ := u_known (C := RX6) (T := TX6) (N := p_nf 6) (n := 14) htG inX6 (htG _ w_21)
  obtain ⟨c7, i7, h7⟩ := u_known (C := RX7) (T := TX7) (N := p_nf 7) (n := 6) htG inX7 (htG _ w_13)
  obtain ⟨c8, i8, h8⟩ := u_known (C := RX8) (T := TX8) (N := p_nf 8) (n := 25) htG inX8 (htG _ w_805)
  refine ⟨(fun k => if k = 0 then c0 else if k = 1 then c1 else if k = 2 then c2 else if k = 3 then c3 else if k = 4 then c4 else if k = 5 then c5 else if k = 6 then c6 else if k = 7 then c7 else c8, fun k => if k = 0 then i0 else if k = 1 then i1 else if k = 2 then i2 else if k = 3 then i3 else if k = 4 then i4 else if k = 5 then i5 else if k = 6 then i6 else if k = 7 then i7 else i8), fun k q hq => ?_⟩
  match k, hq with
  | 0, hq => cases hq; exact h0
  | 1, hq => cases hq; exact h1
  | 2, hq => cases hq; exact h2
  | 3, hq => cases hq; exact h3
  | 4, hq => cases hq; exact h4
  | 5, hq => cases hq; exact h5
  | 6, hq => cases hq; exact h6
  | 7, hq => cases hq; exact h7
  | 8, hq => cases hq; exact h8
  | k + 9, hq => simp [p_cls] at hq
theorem st_arr (hts : ∀ w ∈ lw_tbl, w.before args s = true) : ∃ T : Nat → ClassId, ∀ t, t < 9 → ArrOfT s (T t) (p_ety t) ∧ va_RA s (T t) (p_ety t) := by
  have htG : ∀ w ∈ p_TG, w.before args s = true := fun w hw => hts w (List.mem_filter.mp hw).1
  obtain ⟨c0, h0⟩ := ar_prim (s := s) (ty := .int) (fun _ => Iff.rfl) (htG _ w_59)
  obtain ⟨c1, h1⟩ := ar_prim (s := s) (ty := .long) (fun _ => Iff.rfl) (htG _ w_170)
  obtain ⟨c2, h2⟩ := ar_prim (s := s) (ty := .boolean) (fun _ => Iff.rfl) (htG _ w_312)
  obtain ⟨c3, h3⟩ := ar_prim (s := s) (ty := .char) (fun _ => Iff.rfl) (htG _ w_313)
  obtain ⟨c4, h4⟩ := ar_over (C := RX2) (hts _ (p_ao_in RX2 (by decide +kernel)))
  obtain ⟨c5, h5⟩ := ar_over (C := RX0) (hts _ (p_ao_in RX0 (by decide +kernel)))
  obtain ⟨c6, h6⟩ := ar_over (C := RX4) (hts _ (p_ao_in RX4 (by decide +kernel)))
  obtain ⟨c7, h7⟩ := ar_over (C := RX5) (hts _ (p_ao_in RX5 (by decide +kernel)))
  obtain ⟨c8, h8⟩ := ar_over (C := RX6) (hts _ (p_ao_in RX6 (by decide +kernel)))
  refine ⟨fun k => if k = 0 then c0 else if k = 1 then c1 else if k = 2 then c2 else if k = 3 then c3 else if k = 4 then c4 else if k = 5 then c5 else if k = 6 then c6 else if k = 7 then c7 else c8, fun t ht => ?_⟩
  match t, ht with
  | 0, _ => exact h0
  | 1, _ => exact h1
  | 2, _ => exact h2
  | 3, _ => exact h3
  | 4, _ => exact h4
  | 5, _ => exact h5
  | 6, _ => exact h6
  | 7, _ => exact h7
  | 8, _ => exact h8
  | k + 9, ht => omega
end Start
theorem xi0 : XI 0 x0 := by
  refine ⟨⟨by decide, by decide⟩, fun i hi => ⟨⟨⟨?_, ?_⟩, ?_, ?_, ?_, ?_⟩, fun k hk => Or.inl x0_6⟩, fun b hb => absurd hb (Nat.not_lt_zero _), fun p hp => absurd hp (Nat.not_lt_zero _), fun σ hσ => absurd hσ List.not_mem_nil, Nat.zero_le _, Nat.zero_le _, Nat.zero_le _⟩
  · show 0 ≤ (0 : Int32).toInt; decide
  · show (0 : Int32).toInt < 3; decide
  · show 1 ≤ (60 : Int32).toInt; decide
  · show (60 : Int32).toInt ≤ 500; decide
  · show 64 ≤ (8000 : Int32).toInt; decide
  · show (8000 : Int32).toInt ≤ 20000; decide
theorem zg0 : ZG 0 z0 :=
  ⟨⟨xi0, fun i hi => absurd hi (Nat.not_lt_zero _), fun s _ hv => by cases hv⟩, ⟨fun q hq => absurd hq (Nat.not_lt_zero _), fun i hi => absurd hi (Nat.not_lt_zero _), fun s _ hv => by cases hv⟩, fun i hi => absurd hi (Nat.not_lt_zero _), (by decide : (0 : Nat) < 6), Nat.zero_le _⟩
def s_0 : PS := ((0, fun _ => 50, fun _ => 0, fun _ _ => none), fun _ _ => 0, fun _ _ => 0, fun _ _ => 0, fun _ _ => none)
theorem c_start {p : Program} {e : Env} {s : State} {m : MethodId} {b0 : Nat} {below : List Frame} {meth : Method} {c : Code} {g : PG} {N : Nat} {xs : Nat → Int32} (fx : p_FZ g p s m b0 meth c) (hX : va_X b0 N xs s s.heap) (hbl : b0 < s.heap.size) (hN : N ≤ 3072) : Zj p e s m b0 below meth c g iL_law 0 [some (vr b0), none, none, none] [] s_0 (7226, 1938068) := by
  have hbase : g.2.2.2 = s.heap.size := fx.2.2.2.2.2.2.2.2.2
  obtain ⟨x, hx⟩ : ∃ x, x = g.2.2.2 := ⟨_, rfl⟩
  refine ZnL_7 fx (q := x) (k2 := (7225, 1938062)) (by rw [hx]; rfl) rfl rfl dL_law_0 ?_
  generalize hσ : p_nw x 7 0 s_0 = σ1
  obtain ⟨L1, F1, A1, B1, R1⟩ := σ1
  have z1 : L1.2.1 x = 7 := (congrArg (fun z : PS => z.1.2.1 x) hσ).symm.trans (p_nw_k _ _ _ _)
  have z3 : L1.1 = 1 := (congrArg (fun z : PS => z.1.1) hσ).symm
  refine Z_dup fx rfl dL_law_3 ?_
  refine ZkL_9 fx (g_X7_init z1 (by omega)) (by decide) rfl (k2 := (18, 1639320)) rfl rfl dL_law_4 (fun r4 s4 q4 => ?_)
  obtain ⟨rfl, hn4, hf4, ho4⟩ := q4
  have hn4 : s4.1.1 = L1.1 + 7207 := hn4
  refine Z_as1 fx dL_law_7 rfl ?_
  obtain ⟨m1, hm1⟩ : ∃ m1, m1 = x + 7208 := ⟨_, rfl⟩
  refine ZnL_10 fx (q := m1) (k2 := (17, 1639295)) (by omega) rfl rfl dL_law_8 ?_
  generalize hσ2 : p_nw m1 8 0 s4 = σ2
  obtain ⟨L2, F2, A2, B2, R2⟩ := σ2
  have y1 : L2.2.1 m1 = 8 := (congrArg (fun z : PS => z.1.2.1 m1) hσ2).symm.trans (p_nw_k _ _ _ _)
  have y2 : ∀ f, F2 f m1 = 0 := fun f => (congrArg (fun z : PS => z.2.1 f m1) hσ2).symm.trans (p_nw_z _ _ _ _ f)
  have y3 : L2.1 = s4.1.1 + 1 := (congrArg (fun z : PS => z.1.1) hσ2).symm
  have y4 : p_fr m1 s4 (L2, F2, A2, B2, R2) := by rw [← hσ2]; exact p_fr.nw (Nat.le_refl _)
  refine Z_dup fx rfl dL_law_11 ?_
  refine ZkL_12 fx (g_X8_init y1 y2 (by omega)) (by decide) rfl (k2 := (0, 0)) rfl rfl dL_law_12 (fun r12 s12 q12 => ?_)
  obtain ⟨rfl, hn12, hf12, hM, hZ⟩ := q12
  have ho := ho4.fr (y4.tr hf12) (by omega)
  have hR := ho.rc
  obtain ⟨L3, F3, A3, B3, R3⟩ := s12
  refine Z_as2 fx dL_law_15 rfl ?_
  refine Z_iconst fx (v := 0) rfl dL_law_16 ?_
  refine Z_is3 fx dL_law_17 rfl ?_
  exact c_law fx hX hbl hN hM (by omega) 513 0 z0 F3 A3 B3 R3 (by omega) (by omega) hR hZ zg0
theorem whole_start {p : Program} {e : Env} {s : State} {m : MethodId} {below : List Frame} {meth : Method} {c : Code} (l : Launch) (hflags : l.flags = flags0) {b L : Nat} {xs : Nat → Int32} (hL : L ≤ 3072) (C0 : lw_At p s m meth c b L xs) : W p l e room_1 s m #[Value.ref b] below meth c s.heap [] 0 0 (lw_Z below #[Value.ref b] s) (entryFrame m ([Value.ref b] : List Value).toArray 4) := by
  obtain ⟨hx, hb, hr, hml, hown, hts, hX, hbl, hlocks, hgv⟩ := id C0
  obtain ⟨D, hD⟩ := st_cls hts
  obtain ⟨T, hT⟩ := st_arr hts
  have hK : p_K (l, D, T, s.heap.size) s := by
    refine ⟨⟨hD, fun k q hk => ?_⟩, fun q hq => ?_, fun C hC => ?_⟩
    · have hk9 : k < 9 := by
        have h1 := (List.getElem?_eq_some_iff.mp hk).1
        simpa [p_tys] using h1
      rw [p_tys_at hk9] at hk
      cases hk
      exact hT k hk9
    · exact va_tabs rfl rfl (hts _ (p_nest_in q hq))
    · exact va_AO.of (hts _ (p_ao_in C hC))
  have fx : p_FZ (l, D, T, s.heap.size) p s m b meth c := ⟨hx, hb, hml, hr, hown, fun w hw => hts w (List.mem_filter.mp hw).1, hlocks, trivial, hK, rfl⟩
  have hl2 := lv_entry ([vr b].map tv) (n := 4) (Nat.le_of_ble_eq_true rfl)
  show W p l e room_1 s m #[Value.ref b] below meth c s.heap [] 0 0 (lw_Z below #[Value.ref b] s) (entryFrame m ([vr b].map tv).toArray 4)
  rw [lg_entry_eq]
  rw [show lv_args 0 ([vr b].map tv) = p_lc 0 [some (vr b), none, none, none] from rfl] at hl2
  exact c_start fx hX hbl hL s.heap [] 0 0 _ (by show 0 + 7226 ≤ 600000; omega) (by show 0 + 1938068 ≤ 7302250; omega) va_S.rf ⟨rfl, fun a ha => absurd ha (by show ¬ (50 : Nat) < 50; omega), fun k q hk => by cases hk⟩ hl2
