/-! ===== the typed memory, and the judgement P over it ===== -/
abbrev PV : Type := Int32 ⊕ (Int64 ⊕ Option Nat)
abbrev vi (x : Int32) : PV := .inl x
abbrev vl (x : Int64) : PV := .inr (.inl x)
abbrev vq (r : Option Nat) : PV := .inr (.inr r)
abbrev vr (a : Nat) : PV := .inr (.inr (some a))
def tv : PV → Value
  | .inl x => .int x
  | .inr (.inl x) => .long x
  | .inr (.inr r) => va_rf r
/-- the layout: how many cells, what kind each is (a class's number, 20 + an array's), how long, and the references in fields -/
abbrev PL : Type := Nat × (Nat → Nat) × (Nat → Nat) × (Nat → Nat → Option Nat)
/-- int fields (by field, cell), int arrays (by cell, place), long arrays, arrays of references -/
abbrev PS : Type := PL × (Nat → Nat → Int32) × (Nat → Nat → Int32) × (Nat → Nat → Int64) × (Nat → Nat → Option Nat)
/-- the launch, the classes' numbers and slots, the arrays' classes, the first cell -/
abbrev PG : Type := Launch × va_G × (Nat → ClassId) × Nat
def p_up {α : Type} (f : Nat → Nat → α) (i j : Nat) (v : α) : Nat → Nat → α := fun a b => if a = i ∧ b = j then v else f a b
theorem p_up_at {α : Type} (f : Nat → Nat → α) (i j : Nat) (v : α) (a b : Nat) : p_up f i j v a b = if a = i ∧ b = j then v else f a b := rfl
theorem p_up_eq {α : Type} (f : Nat → Nat → α) (i j : Nat) (v : α) : p_up f i j v i j = v := by simp [p_up]
theorem p_up_n1 {α : Type} (f : Nat → Nat → α) (i j : Nat) (v : α) {a b : Nat} (h : a ≠ i) : p_up f i j v a b = f a b := by simp [p_up, h]
theorem p_up_n2 {α : Type} (f : Nat → Nat → α) (i j : Nat) (v : α) {a b : Nat} (h : b ≠ j) : p_up f i j v a b = f a b := by simp [p_up, h]
def p_fv (σ : PS) (ci a j : Nat) : Value := if p_isR (32 * ci + j) = true then va_rf (σ.1.2.2.2 (32 * ci + j) a) else .int (σ.2.1 (32 * ci + j) a)
def p_fl (σ : PS) (ci a : Nat) : List Value := (List.range (p_nf ci)).map (p_fv σ ci a)
def p_ety : Nat → FieldType
  | 0 => .int
  | 1 => .long
  | 2 => .boolean
  | 3 => .char
  | 4 => .object RX2
  | 5 => .object RX0
  | 6 => .object RX4
  | 7 => .object RX5
  | _ => .object RX6
def p_ar (σ : PS) (ti a : Nat) : vp_A := (σ.1.2.2.1 a, match ti with
  | 0 => .inl (σ.2.2.1 a)
  | 1 => .inr (.inl (σ.2.2.2.1 a))
  | 2 => .inl (σ.2.2.1 a)
  | 3 => .inl (σ.2.2.1 a)
  | _ => .inr (.inr (.inr (.inr (σ.2.2.2.2 a)))))
def p_el (g : PG) (σ : PS) (a : Nat) : va_E := if σ.1.2.1 a < 20 then .inr (σ.1.2.1 a, p_fl σ (σ.1.2.1 a) a) else .inl (g.2.2.1 (σ.1.2.1 a - 20), p_ar σ (σ.1.2.1 a - 20) a)
def p_wl (g : PG) (σ : PS) : va_W := (List.range σ.1.1).map (fun i => (g.2.2.2 + i, p_el g σ (g.2.2.2 + i)))
def p_Rp (g : PG) (σ : PS) (H : Heap) : Prop := H.size = g.2.2.2 + σ.1.1 ∧ (∀ a, σ.1.2.1 a < 50 → g.2.2.2 ≤ a ∧ a < g.2.2.2 + σ.1.1) ∧ va_P g.2.1 p_cls (p_wl g σ) H
def p_tys (g : PG) : List (ClassId × FieldType) := (List.range 9).map (fun t => (g.2.2.1 t, p_ety t))
def p_K (g : PG) (U : State) : Prop := va_K g.2.1 p_cls (p_tys g) U ∧ (∀ q ∈ p_nest, va_Nw (.methodLinkNest q.1 q.2.1 q.2.2.1 q.2.2.2) U) ∧ ∀ C ∈ p_ao, va_AO C U
theorem p_K.moved {g : PG} {s U : State} (hW : s.WarmedH U.vm) (h : p_K g s) : p_K g U :=
  ⟨va_K.moved hW.alike h.1, fun q hq => va_Nw.warmM hW (h.2.1 q hq), fun C hC => (h.2.2 C hC).moved hW.alike⟩
def p_TG : List Cond := lw_tbl.filter goodWord
def p_ws (mi : PI) : List Cond := Cond.code mi.1 mi.2.1 mi.2.2.1 mi.2.2.2 :: p_TG
def p_rm (d : Nat) (k : Nat × Nat) : Room := { frames := d + 1, cells := k.1, slots := k.2, locals := 64 * (d + 1) }
def p_lc : Nat → List (Option PV) → List (Nat × Value)
  | _, [] => []
  | i, none :: r => p_lc (i + 1) r
  | i, some v :: r => (i, tv v) :: p_lc (i + 1) r
def p_Fx (g : PG) (d : Nat) (mi : PI) (p : Program) (R : Room) (s : State) (m : MethodId) (args : Array Value) (meth : Method) (c : Code) : Prop :=
  p.tables.exec = Jvm.exec ∧ c.code = mi.2.1 ∧ c.maxLocals = mi.2.2.1 ∧ meth.sig.returnType = mi.2.2.2 ∧ s.vm.findClass mi.1.cls = some m.cls ∧ (∀ w ∈ p_TG, w.before args s = true) ∧ meth.locks = false ∧ meth.name = mi.1.name ∧ p_K g s ∧ g.2.2.2 ≤ s.heap.size ∧ d + 1 ≤ R.frames ∧ 64 * (d + 1) ≤ R.locals
def p_QQ (g : PG) (Q : Option PV → PS → Prop) : Array Value → State → Outcome → State → Prop := fun _ st oc t => (∃ (r : Option PV) (σ' : PS), oc = .returned (r.map tv) ∧ Q r σ' ∧ p_Rp g σ' t.heap) ∧ va_F (fun q => g.2.2.2 ≤ q) st t
def P (g : PG) (d : Nat) (mi : PI) (pc : Nat) (ls : List (Option PV)) (st : List PV) (σ : PS) (k : Nat × Nat) (Q : Option PV → PS → Prop) : Prop :=
  ∀ (p : Program) (e : Env) (R : Room) (s : State) (m : MethodId) (args : Array Value) (below : List Frame) (meth : Method) (c : Code) (H : Heap) (locs : List Loc) (cells slots : Nat) (jls : Array Slot),
    p_Fx g d mi p R s m args meth c → cells + k.1 ≤ R.cells → slots + k.2 ≤ R.slots → va_S (fun q => g.2.2.2 ≤ q) s.heap H locs → p_Rp g σ H → lv_has jls mi.2.2.1 (p_lc 0 ls) →
    W p g.1 e R s m args below meth c H locs cells slots (MQ below (p_QQ g Q) args s (cells + k.1) (slots + k.2) (fun q => g.2.2.2 ≤ q)) (F0 m pc jls (st.map tv))
def p_Pc (g : PG) (A : List PV) (σ : PS) : Array Value → State → Prop := fun v U => v = (A.map tv).toArray ∧ p_Rp g σ U.heap ∧ p_K g U
/-- a method's contract -/
def Sp (g : PG) (d : Nat) (mi : PI) (A : List PV) (σ : PS) (k : Nat × Nat) (Q : Option PV → PS → Prop) : Prop :=
  Met g.1 mi.1 (p_ws mi) (p_rm d k) (p_Pc g A σ) (p_QQ g Q) k.1 k.2 (fun q => g.2.2.2 ≤ q)
theorem W.post {p : Program} {l : Launch} {e : Env} {R : Room} {s : State} {m : MethodId} {args : Array Value} {below : List Frame} {meth : Method} {c : Code} {H : Heap} {locs : List Loc} {cells slots : Nat} {Q Q' : State → Prop} {g : JFrame} (h : ∀ t, Q t → Q' t) (k : W p l e R s m args below meth c H locs cells slots Q g) : W p l e R s m args below meth c H locs cells slots Q' g := fun T hT X => by
  obtain ⟨t, a, b⟩ := k T hT X
  exact ⟨t, a, h t b⟩
theorem p_QQ.mono {g : PG} {Q Q' : Option PV → PS → Prop} (h : ∀ r σ, Q r σ → Q' r σ) {a : Array Value} {st : State} {o : Outcome} {t : State} (k : p_QQ g Q a st o t) : p_QQ g Q' a st o t := by
  obtain ⟨⟨r, σ', h1, h2, h3⟩, h4⟩ := k
  exact ⟨⟨r, σ', h1, h _ _ h2, h3⟩, h4⟩
theorem P.mono {g : PG} {d : Nat} {mi : PI} {pc : Nat} {ls : List (Option PV)} {st : List PV} {σ : PS} {k : Nat × Nat} {Q Q' : Option PV → PS → Prop} (h : ∀ r σ, Q r σ → Q' r σ) (hp : P g d mi pc ls st σ k Q) : P g d mi pc ls st σ k Q' := by
  intro p e R s m args below meth c H locs cells slots jls fx hc hs hS hR hL
  refine W.post (fun t ht => ?_) (hp p e R s m args below meth c H locs cells slots jls fx hc hs hS hR hL)
  obtain ⟨o, a1, a2, a3, a4⟩ := ht
  exact ⟨o, a1, a2, p_QQ.mono h a3, a4⟩
theorem Sp.of {g : PG} {d : Nat} {mi : PI} {A : List PV} {σ : PS} {k : Nat × Nat} {Q : Option PV → PS → Prop} {ls : List (Option PV)} (hy : plainName mi.1.cls = true) (hz : Nat.ble (lg_sl (A.map tv)).length mi.2.2.1 = true) (hl : lv_args 0 (A.map tv) = p_lc 0 ls) (body : P g d mi 0 ls [] σ k Q) : Sp g d mi A σ k Q := by
  refine Met.ofW (cc := mi.2.1) (maxL := mi.2.2.1) (ret := mi.2.2.2) hy rfl ?_
  intro p e s m args below meth c s₁ B hml hv
  obtain ⟨rfl, hR, hK⟩ := hv
  have hts := atoms_spec (ws := p_ws mi) B.pre
  have hown : s.vm.findClass mi.1.cls = some m.cls := findClass_of_methodNamed B.named
  have hl2 := lv_entry (A.map tv) (n := mi.2.2.1) (Nat.le_of_ble_eq_true hz)
  rw [lg_entry_eq]
  rw [hl] at hl2
  have h := body p e (headSpec (p_ws mi) (p_rm d k)).room s m _ below meth c s.heap [] 0 0 _ ⟨B.exec, B.bytes, hml, B.returns, hown, fun w hw => hts w (List.mem_cons_of_mem _ hw), B.notSynchronized, (name_of_methodNamed B.named B.method).1, hK, by rw [hR.1]; omega, Nat.le_refl _, Nat.le_refl _⟩ (by show 0 + k.1 ≤ k.1; omega) (by show 0 + k.2 ≤ k.2; omega) va_S.rf hR hl2
  simp only [Nat.zero_add] at h
  exact h
section PRows
variable {g : PG} {d : Nat} {mi : PI} {pc : Nat} {ls : List (Option PV)} {st : List PV} {σ : PS} {k : Nat × Nat} {Q : Option PV → PS → Prop}
theorem p_lc_mem : ∀ (ls : List (Option PV)) (i : Nat) (q : Nat × Value), q ∈ p_lc i ls → ∃ (j : Nat) (v : PV), q = (i + j, tv v) ∧ ls[j]? = some (some v)
  | [], _, _, h => by cases h
  | none :: r, i, q, h => by
    obtain ⟨j, v, h1, h2⟩ := p_lc_mem r (i + 1) q h
    exact ⟨j + 1, v, by rw [h1]; congr 1; omega, by simpa using h2⟩
  | some v :: r, i, q, h => by
    rcases List.mem_cons.mp h with h | h
    · exact ⟨0, v, h, rfl⟩
    · obtain ⟨j, w, h1, h2⟩ := p_lc_mem r (i + 1) q h
      exact ⟨j + 1, w, by rw [h1]; congr 1; omega, by simpa using h2⟩
theorem p_lc_of : ∀ (ls : List (Option PV)) (i j : Nat) (v : PV), ls[j]? = some (some v) → (i + j, tv v) ∈ p_lc i ls
  | [], _, _, _, h => by simp at h
  | none :: r, i, 0, v, h => by simp at h
  | none :: r, i, j + 1, v, h => by
    have := p_lc_of r (i + 1) j v (by simpa using h)
    show _ ∈ p_lc (i + 1) r
    rwa [show i + (j + 1) = i + 1 + j by omega]
  | some w :: r, i, 0, v, h => by
    have : w = v := by simpa using h
    subst this
    exact List.mem_cons_self
  | some w :: r, i, j + 1, v, h => by
    have := p_lc_of r (i + 1) j v (by simpa using h)
    refine List.mem_cons_of_mem _ ?_
    rwa [show i + (j + 1) = i + 1 + j by omega]
theorem p_lat {jls : Array Slot} {nL : Nat} (h : lv_has jls nL (p_lc 0 ls)) {i : Nat} {v : PV} (hv : ls[i]? = some (some v)) : jls[i]? = some (.val (tv v)) := by
  have := p_lc_of ls 0 i v hv
  rw [Nat.zero_add] at this
  exact h.2.2 _ this
/-- no long stands at this place -/
def p_nl : Option PV → Bool
  | some (.inr (.inl _)) => false
  | _ => true
def p_nlo : Option (Option PV) → Bool
  | some x => p_nl x
  | none => true
theorem p_cat1 {v : PV} (h : p_nl (some v) = true) : (tv v).category = 1 := by
  rcases v with x | x | x
  · rfl
  · cases h
  · cases x <;> rfl
theorem p_lset {jls : Array Slot} {nL i : Nat} {v : PV} (hn : ∀ j, j + 1 = i → p_nlo ls[j]? = true) {X : List (Nat × Value)} (h : lv_has jls nL X) (hX : X = (i, tv v) :: (p_lc 0 ls).filter (fun q => !(q.1 == i) && !(q.1 + 1 == i && q.2.category == 2))) : lv_has jls nL (p_lc 0 (ls.set i (some v))) := by
  refine ⟨h.1, h.2.1, fun q hq => ?_⟩
  obtain ⟨j, w, h1, h2⟩ := p_lc_mem _ 0 q hq
  rw [Nat.zero_add] at h1
  subst h1
  refine h.2.2 _ ?_
  rw [hX]
  by_cases hj : j = i
  · subst hj
    have hl : j < (ls.set j (some v)).length := (List.getElem?_eq_some_iff.mp h2).1
    rw [List.getElem?_set_self (by simpa using hl)] at h2
    have : v = w := by simpa using h2
    subst this
    exact List.mem_cons_self
  · rw [List.getElem?_set_ne (Ne.symm hj)] at h2
    refine List.mem_cons_of_mem _ (List.mem_filter.mpr ⟨?_, ?_⟩)
    · have := p_lc_of ls 0 j w h2
      rwa [Nat.zero_add] at this
    · have h3 : ¬ (j + 1 = i ∧ (tv w).category = 2) := by
        intro h4
        have h5 := hn j h4.1
        rw [h2] at h5
        rw [p_cat1 h5] at h4
        omega
      simp only [Bool.and_eq_true, Bool.not_eq_true', beq_eq_false_iff_ne, ne_eq, Bool.and_eq_false_iff]
      refine ⟨hj, ?_⟩
      by_cases h6 : j + 1 = i
      · exact Or.inr (fun h7 => h3 ⟨h6, h7⟩)
      · exact Or.inl h6
theorem p_lset2 {jls : Array Slot} {nL i : Nat} {x : Int64} (hn : ∀ j, j + 1 = i → p_nlo ls[j]? = true) {X : List (Nat × Value)} (h : lv_has jls nL X) (hX : X = (i, .long x) :: (p_lc 0 ls).filter (fun q => !(q.1 == i) && (!(q.1 == i + 1) && !(q.1 + 1 == i && q.2.category == 2)))) : lv_has jls nL (p_lc 0 ((ls.set i (some (vl x))).set (i + 1) none)) := by
  refine ⟨h.1, h.2.1, fun q hq => ?_⟩
  obtain ⟨j, w, h1, h2⟩ := p_lc_mem _ 0 q hq
  rw [Nat.zero_add] at h1
  subst h1
  refine h.2.2 _ ?_
  rw [hX]
  have hj1 : j ≠ i + 1 := by
    intro e
    subst e
    have hl := (List.getElem?_eq_some_iff.mp h2).1
    rw [List.getElem?_set_self (by simpa using hl)] at h2
    simp at h2
  rw [List.getElem?_set_ne (Ne.symm hj1)] at h2
  by_cases hj : j = i
  · subst hj
    have hl : j < (ls.set j (some (vl x))).length := (List.getElem?_eq_some_iff.mp h2).1
    rw [List.getElem?_set_self (by simpa using hl)] at h2
    have : vl x = w := by simpa using h2
    subst this
    exact List.mem_cons_self
  · rw [List.getElem?_set_ne (Ne.symm hj)] at h2
    refine List.mem_cons_of_mem _ (List.mem_filter.mpr ⟨?_, ?_⟩)
    · have := p_lc_of ls 0 j w h2
      rwa [Nat.zero_add] at this
    · have h3 : ¬ (j + 1 = i ∧ (tv w).category = 2) := by
        intro h4
        have h5 := hn j h4.1
        rw [h2] at h5
        rw [p_cat1 h5] at h4
        omega
      simp only [Bool.and_eq_true, Bool.not_eq_true', beq_eq_false_iff_ne, ne_eq, Bool.and_eq_false_iff]
      refine ⟨hj, hj1, ?_⟩
      by_cases h6 : j + 1 = i
      · exact Or.inr (fun h7 => h3 ⟨h6, h7⟩)
      · exact Or.inl h6
end PRows
