/-! ===== how slices are cut along a path, in numbers ===== -/
def w_e (r : Nat) : Nat := (r - 8) / 8 * 8
def w_p (r l : Nat) : Nat := if r < l + 8 then w_e r else l
def w_cut (e : Nat) : Nat → Nat → List Nat
  | 0, _ => []
  | n + 1, l => if l = 0 then [] else (if l < e then l else e) :: w_cut e n (l - (if l < e then l else e))
def w_one (r d c : Nat) (x : Nat × Nat) : List (Nat × Nat) := (w_cut (w_p r x.1) x.1 x.1).map (fun k => (k, x.2 + d + (k + 8) / c))
def w_ov (r d c : Nat) : List (Nat × Nat) → List (Nat × Nat)
  | [] => []
  | x :: q => w_one r d c x ++ w_ov r d c q
def w_all (X : XW) : List Int32 → List (Nat × Nat) → List (Nat × Nat)
  | [], q => q
  | b :: bs, q => w_all X bs (w_ov (nn (xB X (nn b) 2)) (nn (xB X (nn b) 3)) (nn (xB X (nn b) 4)) q)
def w_mx (q : List (Nat × Nat)) : Nat → Nat
  | 0 => 0
  | n + 1 => if w_mx q n < (q.getD n (0, 0)).2 then (q.getD n (0, 0)).2 else w_mx q n
def a_slices (X : XW) (from_ to size : Int32) : Int32 :=
  if ¬ (q_ib from_ 8 = true ∧ q_ib to 8 = true ∧ ¬ from_ = to) then -1
  else if ¬ ((1 : Int32) ≤ size ∧ size ≤ 4000) then -2
  else match x_rt X to 8 from_ [] with
  | none => -6
  | some l => Int32.ofNat (w_all X l [(nn size, 0)]).length
def a_time (X : XW) (from_ to size : Int32) : Int32 :=
  if ¬ (q_ib from_ 8 = true ∧ q_ib to 8 = true ∧ ¬ from_ = to) then -1
  else if ¬ ((1 : Int32) ≤ size ∧ size ≤ 4000) then -2
  else match x_rt X to 8 from_ [] with
  | none => -6
  | some l => Int32.ofNat (w_mx (w_all X l [(nn size, 0)]) (w_all X l [(nn size, 0)]).length)
def w_c : List (Nat × Nat) → Nat
  | [] => 0
  | x :: q => (x.1 + 7) / 8 + w_c q
def w_cn : List Nat → Nat
  | [] => 0
  | x :: q => (x + 7) / 8 + w_cn q
def w_ok (T : Nat) (q : List (Nat × Nat)) : Prop := w_c q ≤ 500 ∧ ∀ x, x ∈ q → 1 ≤ x.1 ∧ x.1 ≤ 4000 ∧ x.2 ≤ T
theorem w_c_app (a b : List (Nat × Nat)) : w_c (a ++ b) = w_c a + w_c b := by
  induction a with
  | nil => show w_c b = 0 + w_c b; omega
  | cons x a ih => show (x.1 + 7) / 8 + w_c (a ++ b) = (x.1 + 7) / 8 + w_c a + w_c b; omega
theorem w_c_map (l : List Nat) (f : Nat → Nat) : w_c (l.map (fun k => (k, f k))) = w_cn l := by
  induction l with
  | nil => rfl
  | cons x l ih => show (x + 7) / 8 + w_c (l.map (fun k => (k, f k))) = (x + 7) / 8 + w_cn l; omega
theorem w_len_c (q : List (Nat × Nat)) (h : ∀ x, x ∈ q → 1 ≤ x.1) : q.length ≤ w_c q := by
  induction q with
  | nil => exact Nat.le_refl _
  | cons x q ih =>
    have h1 := h x (List.mem_cons_self)
    have h2 := ih (fun y hy => h y (List.mem_cons_of_mem _ hy))
    show q.length + 1 ≤ (x.1 + 7) / 8 + w_c q
    omega
theorem w_ok.len {T : Nat} {q : List (Nat × Nat)} (h : w_ok T q) : q.length ≤ 500 := Nat.le_trans (w_len_c q (fun x hx => (h.2 x hx).1)) h.1
theorem w_e_8 (r : Nat) (h : 16 ≤ r) : 8 ≤ w_e r ∧ w_e r % 8 = 0 ∧ w_e r ≤ r := by unfold w_e; omega
theorem w_cut_ok {e : Nat} (he : 1 ≤ e) : ∀ n l, l ≤ n → (∀ k, k ∈ w_cut e n l → 1 ≤ k ∧ k ≤ l) ∧ ((e % 8 = 0 ∨ l ≤ e) → w_cn (w_cut e n l) = (l + 7) / 8) := by
  intro n
  induction n with
  | zero =>
    intro l hl
    refine ⟨fun k hk => ?_, fun _ => ?_⟩
    · unfold w_cut at hk; cases hk
    · show 0 = (l + 7) / 8; omega
  | succ n ih =>
    intro l hl
    unfold w_cut
    by_cases e0 : l = 0
    · rw [if_pos e0]
      refine ⟨fun k hk => ?_, fun _ => ?_⟩
      · cases hk
      · show 0 = (l + 7) / 8; omega
    · rw [if_neg e0]
      obtain ⟨z, hz⟩ : ∃ z, z = (if l < e then l else e) := ⟨_, rfl⟩
      rw [← hz]
      have hz1 : 1 ≤ z ∧ z ≤ l ∧ z ≤ e := by
        rw [hz]
        by_cases e1 : l < e
        · rw [if_pos e1]; omega
        · rw [if_neg e1]; omega
      obtain ⟨k1, k2⟩ := ih (l - z) (by omega)
      refine ⟨fun k hk => ?_, fun hh => ?_⟩
      · rcases List.mem_cons.mp hk with h9 | h9
        · omega
        · have := k1 k h9; omega
      · show (z + 7) / 8 + w_cn (w_cut e n (l - z)) = (l + 7) / 8
        by_cases e1 : l < e
        · rw [if_pos e1] at hz
          rw [k2 (Or.inr (by omega))]
          omega
        · rw [if_neg e1] at hz
          rcases hh with h9 | h9
          · rw [k2 (Or.inl h9)]; omega
          · rw [k2 (Or.inr (by omega))]; omega
theorem w_one_ok {T r d c : Nat} (hr : 16 ≤ r) (hd : d ≤ 50) {x : Nat × Nat} (hx : 1 ≤ x.1 ∧ x.1 ≤ 4000 ∧ x.2 ≤ T) : w_c (w_one r d c x) = (x.1 + 7) / 8 ∧ ∀ y, y ∈ w_one r d c x → 1 ≤ y.1 ∧ y.1 ≤ 4000 ∧ y.2 ≤ T + 4100 := by
  have h8 := w_e_8 r hr
  have hp : 1 ≤ w_p r x.1 ∧ (w_p r x.1 % 8 = 0 ∨ x.1 ≤ w_p r x.1) := by
    unfold w_p
    by_cases e : r < x.1 + 8
    · rw [if_pos e]; exact ⟨by omega, Or.inl h8.2.1⟩
    · rw [if_neg e]; exact ⟨hx.1, Or.inr (Nat.le_refl _)⟩
  obtain ⟨k1, k2⟩ := w_cut_ok hp.1 x.1 x.1 (Nat.le_refl _)
  refine ⟨?_, fun y hy => ?_⟩
  · unfold w_one
    rw [w_c_map, k2 hp.2]
  · obtain ⟨k, hk, rfl⟩ := List.mem_map.mp hy
    have h1 := k1 k hk
    have h2 : (k + 8) / c ≤ k + 8 := Nat.div_le_self _ _
    exact ⟨h1.1, by show k ≤ 4000; omega, by show x.2 + d + (k + 8) / c ≤ T + 4100; omega⟩
theorem w_ok_ov {T r d c : Nat} (hr : 16 ≤ r) (hd : d ≤ 50) : ∀ (q : List (Nat × Nat)), (∀ x, x ∈ q → 1 ≤ x.1 ∧ x.1 ≤ 4000 ∧ x.2 ≤ T) → w_c (w_ov r d c q) = w_c q ∧ ∀ y, y ∈ w_ov r d c q → 1 ≤ y.1 ∧ y.1 ≤ 4000 ∧ y.2 ≤ T + 4100 := by
  intro q
  induction q with
  | nil => intro _; exact ⟨rfl, fun y hy => by cases hy⟩
  | cons x q ih =>
    intro h
    obtain ⟨k1, k2⟩ := w_one_ok (c := c) hr hd (h x (List.mem_cons_self))
    obtain ⟨k3, k4⟩ := ih (fun y hy => h y (List.mem_cons_of_mem _ hy))
    refine ⟨?_, fun y hy => ?_⟩
    · show w_c (w_one r d c x ++ w_ov r d c q) = (x.1 + 7) / 8 + w_c q
      rw [w_c_app, k1, k3]
    · rcases List.mem_append.mp hy with h9 | h9
      · exact k2 y h9
      · exact k4 y h9
theorem w_ok.ov {T r d c : Nat} {q : List (Nat × Nat)} (hr : 16 ≤ r) (hd : d ≤ 50) (h : w_ok T q) : w_ok (T + 4100) (w_ov r d c q) := by
  obtain ⟨k1, k2⟩ := w_ok_ov (c := c) hr hd q h.2
  exact ⟨by rw [k1]; exact h.1, k2⟩
theorem w_ov_app (r d c : Nat) (a b : List (Nat × Nat)) : w_ov r d c (a ++ b) = w_ov r d c a ++ w_ov r d c b := by
  induction a with
  | nil => rfl
  | cons x a ih => show w_one r d c x ++ w_ov r d c (a ++ b) = w_one r d c x ++ w_ov r d c a ++ w_ov r d c b; rw [ih, List.append_assoc]
theorem w_ov_take {r d c k : Nat} {q : List (Nat × Nat)} (hk : k < q.length) : w_ov r d c (q.take (k + 1)) = w_ov r d c (q.take k) ++ w_one r d c (q.getD k (0, 0)) := by
  rw [List.take_add_one, w_ov_app, List.getD_eq_getElem?_getD]
  rw [List.getElem?_eq_getElem hk]
  show w_ov r d c (q.take k) ++ (w_one r d c q[k] ++ []) = _
  rw [List.append_nil]
  rfl
theorem w_ov_pre {r d c k : Nat} {q : List (Nat × Nat)} : (w_ov r d c (q.take k)).length ≤ (w_ov r d c q).length := by
  have h : w_ov r d c q = w_ov r d c (q.take k) ++ w_ov r d c (q.drop k) := by rw [← w_ov_app, List.take_append_drop]
  rw [h, List.length_append]
  omega
/-- two arrays hold a list of pairs, as far as n -/
def w_hold (A : Nat → Nat → Int32) (a b : Nat) (q : List (Nat × Nat)) (n : Nat) : Prop := ∀ i, i < n → A a i = Int32.ofNat (q.getD i (0, 0)).1 ∧ A b i = Int32.ofNat (q.getD i (0, 0)).2
theorem w_hold.push {A A2 : Nat → Nat → Int32} {a b : Nat} {q : List (Nat × Nat)} {x : Nat × Nat} (h : w_hold A a b q q.length) (h1 : A2 a q.length = Int32.ofNat x.1) (h2 : A2 b q.length = Int32.ofNat x.2) (ho : ∀ i, i < q.length → A2 a i = A a i ∧ A2 b i = A b i) : w_hold A2 a b (q ++ [x]) (q ++ [x]).length := by
  intro i hi
  rw [List.length_append] at hi
  have hi2 : i < q.length + 1 := hi
  rw [List.getD_eq_getElem?_getD]
  by_cases e : i = q.length
  · rw [e, List.getElem?_append_right (Nat.le_refl _), Nat.sub_self]
    exact ⟨h1, h2⟩
  · rw [List.getElem?_append_left (by omega), ← List.getD_eq_getElem?_getD]
    have h3 := ho i (by omega)
    have h4 := h i (by omega)
    exact ⟨h3.1.trans h4.1, h3.2.trans h4.2⟩
theorem n_div {a b : Nat} (ha : a < 2147483648) (hb : 0 < b) (hb2 : b < 2147483648) : Int32.ofNat a / Int32.ofNat b = Int32.ofNat (a / b) := by
  have h1 : a / b ≤ a := Nat.div_le_self _ _
  rw [i_eq, Int32.toInt_div_of_ne_right _ _ (by
    intro hh
    have h9 := n_int hb2
    rw [hh] at h9
    exact absurd h9 (by show ¬ (-1 : Int) = (b : Int); omega)), n_int ha, n_int hb2, n_int (by omega), Int.tdiv_eq_ediv_of_nonneg (by omega)]
  rfl
theorem n_sub {a b : Nat} (h : b ≤ a) (ha : a < 2147483648) : Int32.ofNat a - Int32.ofNat b = Int32.ofNat (a - b) := by
  rw [i_eq, i_sub, n_int ha, n_int (by omega), n_int (by omega)]
  omega
theorem n_each {r : Nat} (h : 16 ≤ r) (h2 : r ≤ 1500) : (Int32.ofNat r - 8) / 8 * 8 = Int32.ofNat (w_e r) := by
  have h3 : Int32.ofNat r - 8 = Int32.ofNat (r - 8) := n_sub (b := 8) (by omega) (by omega)
  have h4 : Int32.ofNat (r - 8) / 8 = Int32.ofNat ((r - 8) / 8) := n_div (b := 8) (by omega) (by omega) (by omega)
  rw [h3, h4]
  exact n_mul ((r - 8) / 8) 8
def QGO (L : PL) (FI AI : Nat → Nat → Int32) (AL : Nat → Nat → Int64) (AR : Nat → Nat → Option Nat) (m : Nat) (q : List (Nat × Nat)) : Option PV → PS → Prop := fun r σ => ∃ F2 A2, σ = (L, F2, A2, AL, AR) ∧ r = none ∧ (∀ j a, ¬ (j = 275 ∧ a = m) → F2 j a = FI j a) ∧ (∀ a, (a < m + 12 ∨ m + 16 ≤ a) → A2 a = AI a) ∧ F2 275 m = Int32.ofNat q.length ∧ w_hold A2 (m + 12) (m + 13) q q.length
section Ref16
variable {g : PG} {L : PL} {FI AI : Nat → Nat → Int32} {AL : Nat → Nat → Int64} {AR : Nat → Nat → Option Nat} {m : Nat} {Z : ZW} {M : Nat} {X : XW}
theorem w_cut_0 (e n : Nat) : w_cut e n 0 = [] := by
  cases n with
  | zero => rfl
  | succ n => exact if_pos rfl
theorem s_goOver (hM : WM L m) (hA : RA AI m X) (hI : XI M X) {b : Int32} (hb : ib b (xb X)) {q : List (Nat × Nat)} {T : Nat} (hq : w_ok T q) (hT : T < 1000000) (hpc : FI 275 m = Int32.ofNat q.length) (hh : w_hold AI (m + 12) (m + 13) q q.length) : Sp g 1 iX8_goOver [vr m, vi b] (L, FI, AI, AL, AR) (0, 0) (QGO L FI AI AL AR m (w_ov (nn (xB X (nn b) 2)) (nn (xB X (nn b) 3)) (nn (xB X (nn b) 4)) q)) := by
  refine Sp.of (ls := [some (vr m), some (vi b), none, none, none, none, none, none]) (by decide +kernel) rfl rfl ?_
  have hBb := hI.2.2.1 _ hb.nn
  have h16 := hA.b16
  obtain ⟨r, hrr⟩ : ∃ r, r = nn (xB X (nn b) 2) := ⟨_, rfl⟩
  obtain ⟨d, hdd⟩ : ∃ r, r = nn (xB X (nn b) 3) := ⟨_, rfl⟩
  obtain ⟨c, hcc⟩ : ∃ r, r = nn (xB X (nn b) 4) := ⟨_, rfl⟩
  rw [← hrr, ← hdd, ← hcc]
  have h2 := i_cn (xB X (nn b) 2)
  have h3 := i_cn (xB X (nn b) 3)
  have h4 := i_cn (xB X (nn b) 4)
  have hr : 16 ≤ r ∧ r ≤ 1500 := by
    rw [hrr]
    show 16 ≤ (xB X (nn b) 2).toNatClampNeg ∧ (xB X (nn b) 2).toNatClampNeg ≤ 1500
    have := hBb.2.2.1
    omega
  have hd : d ≤ 50 := by
    rw [hdd]
    show (xB X (nn b) 3).toNatClampNeg ≤ 50
    have := hBb.2.2.2.1
    omega
  have hc : 1 ≤ c ∧ c ≤ 1000 := by
    rw [hcc]
    show 1 ≤ (xB X (nn b) 4).toNatClampNeg ∧ (xB X (nn b) 4).toNatClampNeg ≤ 1000
    have := hBb.2.2.2.2.1
    omega
  have hre : xB X (nn b) 2 = Int32.ofNat r := by rw [hrr]; exact (show ib (xB X (nn b) 2) 1501 from ⟨by have := hBb.2.2.1; omega, by have := hBb.2.2.1; omega⟩).eq
  have hde : xB X (nn b) 3 = Int32.ofNat d := by rw [hdd]; exact (show ib (xB X (nn b) 3) 51 from ⟨by have := hBb.2.2.2.1; omega, by have := hBb.2.2.2.1; omega⟩).eq
  have hce : xB X (nn b) 4 = Int32.ofNat c := by rw [hcc]; exact (show ib (xB X (nn b) 4) 1001 from ⟨by have := hBb.2.2.2.2.1; omega, by have := hBb.2.2.2.2.1; omega⟩).eq
  have hwe := w_e_8 r hr.1
  have hq5 := hq.len
  have hq6 : (w_ov r d c q).length ≤ 500 := (hq.ov hr.1 hd).len
  have J142 : ∀ (A : Nat → Nat → Int32), (∀ a, (a < m + 12 ∨ m + 16 ≤ a) → A a = AI a) → w_hold A (m + 14) (m + 15) (w_ov r d c q) (w_ov r d c q).length → P g 1 iX8_goOver 142 [some (vr m), some (vi b), some (vi (Int32.ofNat (w_e r))), some (vi (Int32.ofNat (w_ov r d c q).length)), some (vi (Int32.ofNat q.length)), none, none, none] [] (L, FI, A, AL, AR) (0, 0) (QGO L FI AI AL AR m (w_ov r d c q)) := by
    intro A0 hAo0 hh0
    have loop : ∀ n i : Nat, i + n = (w_ov r d c q).length → ∀ A : Nat → Nat → Int32, (∀ a, (a < m + 12 ∨ m + 16 ≤ a) → A a = AI a) → w_hold A (m + 12) (m + 13) (w_ov r d c q) i → w_hold A (m + 14) (m + 15) (w_ov r d c q) (w_ov r d c q).length → P g 1 iX8_goOver 150 [some (vr m), some (vi b), some (vi (Int32.ofNat (w_e r))), some (vi (Int32.ofNat (w_ov r d c q).length)), some (vi (Int32.ofNat i)), none, none, none] [] (L, p_up FI 275 m (Int32.ofNat (w_ov r d c q).length), A, AL, AR) (0, 0) (QGO L FI AI AL AR m (w_ov r d c q)) := by
      intro n
      induction n with
      | zero =>
        intro i hi A hAo hh1 hh2
        refine P_iload (i := 4) rfl dX8_goOver_150 ?_
        refine P_aloadn (i := 0) rfl rfl dX8_goOver_152 ?_
        refine gX8_223 rfl (by first | exact hM.k0 | exact hM.k1 | exact hM.k2 | exact hM.k3 | exact hM.k4 | exact hM.k5 | exact hM.k6 | exact hM.k7 | exact hM.k8 | exact hM.k9 | exact hM.k10 | exact hM.k11 | exact hM.k12 | exact hM.k13 | exact hM.k14 | exact hM.k15 | exact hM.k16 | exact hM.k17) (p_up_eq _ _ _ _) dX8_goOver_153 ?_
        refine P_icmpge dX8_goOver_156 (tgt := 193) rfl (fun h156 => ?_) (fun h156 => absurd ((n_le (a := (w_ov r d c q).length) (b := i) (by omega) (by omega)).mpr (by omega)) h156)
        refine P_return rfl dX8_goOver_193 ?_
        exact ⟨_, A, rfl, rfl, fun j a hja => p_up_of hja, fun a ha => hAo a ha, p_up_eq _ _ _ _, fun j hj => hh1 j (by omega)⟩
      | succ n ih =>
        intro i hi A hAo hh1 hh2
        refine P_iload (i := 4) rfl dX8_goOver_150 ?_
        refine P_aloadn (i := 0) rfl rfl dX8_goOver_152 ?_
        refine gX8_223 rfl (by first | exact hM.k0 | exact hM.k1 | exact hM.k2 | exact hM.k3 | exact hM.k4 | exact hM.k5 | exact hM.k6 | exact hM.k7 | exact hM.k8 | exact hM.k9 | exact hM.k10 | exact hM.k11 | exact hM.k12 | exact hM.k13 | exact hM.k14 | exact hM.k15 | exact hM.k16 | exact hM.k17) (p_up_eq _ _ _ _) dX8_goOver_153 ?_
        refine P_icmpge dX8_goOver_156 (tgt := 193) rfl (fun h156 => absurd h156 (fun h8 => by have h7 := (n_le (a := (w_ov r d c q).length) (b := i) (by omega) (by omega)).mp h8; omega)) (fun h156 => ?_)
        refine P_aloadn (i := 0) rfl rfl dX8_goOver_159 ?_
        refine gX8_47 rfl (by first | exact hM.k0 | exact hM.k1 | exact hM.k2 | exact hM.k3 | exact hM.k4 | exact hM.k5 | exact hM.k6 | exact hM.k7 | exact hM.k8 | exact hM.k9 | exact hM.k10 | exact hM.k11 | exact hM.k12 | exact hM.k13 | exact hM.k14 | exact hM.k15 | exact hM.k16 | exact hM.k17) hM.r271 dX8_goOver_160 ?_
        refine P_iload (i := 4) rfl dX8_goOver_163 ?_
        refine P_aloadn (i := 0) rfl rfl dX8_goOver_165 ?_
        refine gX8_53 rfl (by first | exact hM.k0 | exact hM.k1 | exact hM.k2 | exact hM.k3 | exact hM.k4 | exact hM.k5 | exact hM.k6 | exact hM.k7 | exact hM.k8 | exact hM.k9 | exact hM.k10 | exact hM.k11 | exact hM.k12 | exact hM.k13 | exact hM.k14 | exact hM.k15 | exact hM.k16 | exact hM.k17) hM.r273 dX8_goOver_166 ?_
        refine P_iload (i := 4) rfl dX8_goOver_169 ?_
        refine P_iaN (j := i) (by first | exact hM.k0 | exact hM.k1 | exact hM.k2 | exact hM.k3 | exact hM.k4 | exact hM.k5 | exact hM.k6 | exact hM.k7 | exact hM.k8 | exact hM.k9 | exact hM.k10 | exact hM.k11 | exact hM.k12 | exact hM.k13 | exact hM.k14 | exact hM.k15 | exact hM.k16 | exact hM.k17) rfl (by first | omega | (simp only [hM.l1, hM.l2, hM.l3, hM.l4, hM.l5, hM.l6, hM.l7, hM.l8, hM.l9, hM.l10, hM.l11, hM.l12, hM.l13, hM.l14, hM.l15, hM.l16, hM.l17]; omega)) (by first | omega | (simp only [hM.l1, hM.l2, hM.l3, hM.l4, hM.l5, hM.l6, hM.l7, hM.l8, hM.l9, hM.l10, hM.l11, hM.l12, hM.l13, hM.l14, hM.l15, hM.l16, hM.l17]; omega)) (hh2 i (by omega)).1 dX8_goOver_171 ?_
        refine P_isN (j := i) (by first | exact hM.k0 | exact hM.k1 | exact hM.k2 | exact hM.k3 | exact hM.k4 | exact hM.k5 | exact hM.k6 | exact hM.k7 | exact hM.k8 | exact hM.k9 | exact hM.k10 | exact hM.k11 | exact hM.k12 | exact hM.k13 | exact hM.k14 | exact hM.k15 | exact hM.k16 | exact hM.k17) rfl (by first | omega | (simp only [hM.l1, hM.l2, hM.l3, hM.l4, hM.l5, hM.l6, hM.l7, hM.l8, hM.l9, hM.l10, hM.l11, hM.l12, hM.l13, hM.l14, hM.l15, hM.l16, hM.l17]; omega)) (by first | omega | (simp only [hM.l1, hM.l2, hM.l3, hM.l4, hM.l5, hM.l6, hM.l7, hM.l8, hM.l9, hM.l10, hM.l11, hM.l12, hM.l13, hM.l14, hM.l15, hM.l16, hM.l17]; omega)) dX8_goOver_172 ?_
        refine P_aloadn (i := 0) rfl rfl dX8_goOver_173 ?_
        refine gX8_50 rfl (by first | exact hM.k0 | exact hM.k1 | exact hM.k2 | exact hM.k3 | exact hM.k4 | exact hM.k5 | exact hM.k6 | exact hM.k7 | exact hM.k8 | exact hM.k9 | exact hM.k10 | exact hM.k11 | exact hM.k12 | exact hM.k13 | exact hM.k14 | exact hM.k15 | exact hM.k16 | exact hM.k17) hM.r272 dX8_goOver_174 ?_
        refine P_iload (i := 4) rfl dX8_goOver_177 ?_
        refine P_aloadn (i := 0) rfl rfl dX8_goOver_179 ?_
        refine gX8_56 rfl (by first | exact hM.k0 | exact hM.k1 | exact hM.k2 | exact hM.k3 | exact hM.k4 | exact hM.k5 | exact hM.k6 | exact hM.k7 | exact hM.k8 | exact hM.k9 | exact hM.k10 | exact hM.k11 | exact hM.k12 | exact hM.k13 | exact hM.k14 | exact hM.k15 | exact hM.k16 | exact hM.k17) hM.r274 dX8_goOver_180 ?_
        refine P_iload (i := 4) rfl dX8_goOver_183 ?_
        refine P_iaN (j := i) (by first | exact hM.k0 | exact hM.k1 | exact hM.k2 | exact hM.k3 | exact hM.k4 | exact hM.k5 | exact hM.k6 | exact hM.k7 | exact hM.k8 | exact hM.k9 | exact hM.k10 | exact hM.k11 | exact hM.k12 | exact hM.k13 | exact hM.k14 | exact hM.k15 | exact hM.k16 | exact hM.k17) rfl (by first | omega | (simp only [hM.l1, hM.l2, hM.l3, hM.l4, hM.l5, hM.l6, hM.l7, hM.l8, hM.l9, hM.l10, hM.l11, hM.l12, hM.l13, hM.l14, hM.l15, hM.l16, hM.l17]; omega)) (by first | omega | (simp only [hM.l1, hM.l2, hM.l3, hM.l4, hM.l5, hM.l6, hM.l7, hM.l8, hM.l9, hM.l10, hM.l11, hM.l12, hM.l13, hM.l14, hM.l15, hM.l16, hM.l17]; omega)) ((p_up_n1 _ _ _ _ (by omega)).trans (hh2 i (by omega)).2) dX8_goOver_185 ?_
        refine P_isN (j := i) (by first | exact hM.k0 | exact hM.k1 | exact hM.k2 | exact hM.k3 | exact hM.k4 | exact hM.k5 | exact hM.k6 | exact hM.k7 | exact hM.k8 | exact hM.k9 | exact hM.k10 | exact hM.k11 | exact hM.k12 | exact hM.k13 | exact hM.k14 | exact hM.k15 | exact hM.k16 | exact hM.k17) rfl (by first | omega | (simp only [hM.l1, hM.l2, hM.l3, hM.l4, hM.l5, hM.l6, hM.l7, hM.l8, hM.l9, hM.l10, hM.l11, hM.l12, hM.l13, hM.l14, hM.l15, hM.l16, hM.l17]; omega)) (by first | omega | (simp only [hM.l1, hM.l2, hM.l3, hM.l4, hM.l5, hM.l6, hM.l7, hM.l8, hM.l9, hM.l10, hM.l11, hM.l12, hM.l13, hM.l14, hM.l15, hM.l16, hM.l17]; omega)) dX8_goOver_186 ?_
        refine P_inN4 dX8_goOver_187 rfl rfl ?_
        refine P_goto dX8_goOver_190 (tgt := 150) rfl ?_
        refine ih (i + 1) (by omega) _ (fun a ha => ?_) (fun j hj => ?_) (fun j hj => ?_)
        · rw [p_up_oth (by omega), p_up_oth (by omega)]; exact hAo a ha
        · by_cases e : j = i
          · rw [e]
            exact ⟨(p_up_n1 _ _ _ _ (by omega)).trans (p_up_eq _ _ _ _), p_up_eq _ _ _ _⟩
          · have h9 := hh1 j (by omega)
            exact ⟨(p_up_n1 _ _ _ _ (by omega)).trans ((p_up_n2 _ _ _ _ e).trans h9.1), (p_up_n2 _ _ _ _ e).trans ((p_up_n1 _ _ _ _ (by omega)).trans h9.2)⟩
        · have h9 := hh2 j hj
          exact ⟨(p_up_n1 _ _ _ _ (by omega)).trans ((p_up_n1 _ _ _ _ (by omega)).trans h9.1), (p_up_n1 _ _ _ _ (by omega)).trans ((p_up_n1 _ _ _ _ (by omega)).trans h9.2)⟩
    refine P_aloadn (i := 0) rfl rfl dX8_goOver_142 ?_
    refine P_iloadn (i := 3) rfl rfl dX8_goOver_143 ?_
    refine uX8_223 rfl (by first | exact hM.k0 | exact hM.k1 | exact hM.k2 | exact hM.k3 | exact hM.k4 | exact hM.k5 | exact hM.k6 | exact hM.k7 | exact hM.k8 | exact hM.k9 | exact hM.k10 | exact hM.k11 | exact hM.k12 | exact hM.k13 | exact hM.k14 | exact hM.k15 | exact hM.k16 | exact hM.k17) dX8_goOver_144 ?_
    refine P_iconst (v := 0) rfl dX8_goOver_147 ?_
    refine P_is4 (Or.inr dX8_goOver_148) rfl rfl ?_
    exact loop (w_ov r d c q).length 0 (by omega) A0 hAo0 (fun i hi => absurd hi (Nat.not_lt_zero i)) hh0
  have loop : ∀ n k : Nat, k + n = q.length → ∀ A : Nat → Nat → Int32, (∀ a, (a < m + 12 ∨ m + 16 ≤ a) → A a = AI a) → w_hold A (m + 12) (m + 13) q q.length → w_hold A (m + 14) (m + 15) (w_ov r d c (q.take k)) (w_ov r d c (q.take k)).length → P g 1 iX8_goOver 21 [some (vr m), some (vi b), some (vi (Int32.ofNat (w_e r))), some (vi (Int32.ofNat (w_ov r d c (q.take k)).length)), some (vi (Int32.ofNat k)), none, none, none] [] (L, FI, A, AL, AR) (0, 0) (QGO L FI AI AL AR m (w_ov r d c q)) := by
    intro n
    induction n with
    | zero =>
      intro k hk A hAo hlh hho
      refine P_iload (i := 4) rfl dX8_goOver_21 ?_
      refine P_aloadn (i := 0) rfl rfl dX8_goOver_23 ?_
      refine gX8_223 rfl (by first | exact hM.k0 | exact hM.k1 | exact hM.k2 | exact hM.k3 | exact hM.k4 | exact hM.k5 | exact hM.k6 | exact hM.k7 | exact hM.k8 | exact hM.k9 | exact hM.k10 | exact hM.k11 | exact hM.k12 | exact hM.k13 | exact hM.k14 | exact hM.k15 | exact hM.k16 | exact hM.k17) hpc dX8_goOver_24 ?_
      refine P_icmpge dX8_goOver_27 (tgt := 142) rfl (fun h27 => ?_) (fun h27 => absurd ((n_le (a := q.length) (b := k) (by omega) (by omega)).mpr (by omega)) h27)
      have hk9 : k = q.length := by omega
      subst hk9
      rw [List.take_length] at hho ⊢
      exact J142 A hAo hho
    | succ n ih =>
      intro k hk A hAo hlh hho
      have hx : 1 ≤ (q.getD k (0, 0)).1 ∧ (q.getD k (0, 0)).1 ≤ 4000 ∧ (q.getD k (0, 0)).2 ≤ T := hq.2 _ (by rw [List.getD_eq_getElem?_getD, List.getElem?_eq_getElem (by omega)]; exact List.getElem_mem _)
      have hwp : 1 ≤ w_p r (q.getD k (0, 0)).1 ∧ w_p r (q.getD k (0, 0)).1 ≤ 4000 := by
        unfold w_p
        have h8 := w_e_8 r hr.1
        by_cases e : r < (q.getD k (0, 0)).1 + 8
        · rw [if_pos e]; omega
        · rw [if_neg e]; omega
      have hA2 : RA A m X := by
        show RF (A (m + 1)) (A (m + 2)) X
        rw [hAo _ (by omega), hAo _ (by omega)]
        exact hA
      have loop2 : ∀ n1 l : Nat, l ≤ n1 → l ≤ 4000 → ∀ (A : Nat → Nat → Int32) (D2 : List (Nat × Nat)), D2 ++ (w_cut (w_p r (q.getD k (0, 0)).1) n1 l).map (fun z => (z, (q.getD k (0, 0)).2 + d + (z + 8) / c)) = (w_ov r d c (q.take (k + 1))) → (∀ a, (a < m + 12 ∨ m + 16 ≤ a) → A a = AI a) → w_hold A (m + 12) (m + 13) q q.length → w_hold A (m + 14) (m + 15) D2 D2.length → P g 1 iX8_goOver 61 [some (vr m), some (vi b), some (vi (Int32.ofNat (w_e r))), some (vi (Int32.ofNat D2.length)), some (vi (Int32.ofNat k)), some (vi (Int32.ofNat l)), some (vi (Int32.ofNat (w_p r (q.getD k (0, 0)).1))), none] [] (L, FI, A, AL, AR) (0, 0) (QGO L FI AI AL AR m (w_ov r d c q)) := by
        intro n1
        induction n1 with
        | zero =>
          intro l hl hl4 A D2 hD hAo hlh hho
          refine P_iload (i := 5) rfl dX8_goOver_61 ?_
          refine P_ifle dX8_goOver_63 (tgt := 136) rfl (fun h63 => ?_) (fun h63 => absurd (by have h9 : (Int32.ofNat l ≤ Int32.ofNat 0) := (n_le (by omega) (by omega)).mpr (by omega); exact h9) h63)
          refine P_inN4 dX8_goOver_136 rfl rfl ?_
          refine P_goto dX8_goOver_139 (tgt := 21) rfl ?_
          have hD2 : D2 = (w_ov r d c (q.take (k + 1))) := by
            rw [← hD]
            have hl0 : l = 0 := by omega
            subst hl0
            rw [w_cut_0, List.map_nil, List.append_nil]
          rw [hD2] at hho ⊢
          refine P_few (ls2 := [some (vr m), some (vi b), some (vi (Int32.ofNat (w_e r))), some (vi (Int32.ofNat (w_ov r d c (q.take (k + 1))).length)), some (vi (Int32.ofNat (k + 1))), none, none, none]) ⟨rfl, rfl, rfl, rfl, rfl, trivial⟩ ?_
          exact ih (k + 1) (by omega) A hAo hlh hho
        | succ n1 ih2 =>
          intro l hl hl4 A D2 hD hAo hlh hho
          by_cases hl0 : l = 0
          · skip
            refine P_iload (i := 5) rfl dX8_goOver_61 ?_
            refine P_ifle dX8_goOver_63 (tgt := 136) rfl (fun h63 => ?_) (fun h63 => absurd (by have h9 : (Int32.ofNat l ≤ Int32.ofNat 0) := (n_le (by omega) (by omega)).mpr (by omega); exact h9) h63)
            refine P_inN4 dX8_goOver_136 rfl rfl ?_
            refine P_goto dX8_goOver_139 (tgt := 21) rfl ?_
            have hD2 : D2 = (w_ov r d c (q.take (k + 1))) := by
              rw [← hD]
              have hl0 : l = 0 := by omega
              subst hl0
              rw [w_cut_0, List.map_nil, List.append_nil]
            rw [hD2] at hho ⊢
            refine P_few (ls2 := [some (vr m), some (vi b), some (vi (Int32.ofNat (w_e r))), some (vi (Int32.ofNat (w_ov r d c (q.take (k + 1))).length)), some (vi (Int32.ofNat (k + 1))), none, none, none]) ⟨rfl, rfl, rfl, rfl, rfl, trivial⟩ ?_
            exact ih (k + 1) (by omega) A hAo hlh hho
          · skip
            refine P_iload (i := 5) rfl dX8_goOver_61 ?_
            refine P_ifle dX8_goOver_63 (tgt := 136) rfl (fun h63 => absurd h63 (fun h8 => by have h7 := (n_le (a := l) (b := 0) (by omega) (by omega)).mp h8; omega)) (fun h63 => ?_)
            have J80 : ∀ z : Nat, z = (if l < (w_p r (q.getD k (0, 0)).1) then l else (w_p r (q.getD k (0, 0)).1)) → P g 1 iX8_goOver 80 [some (vr m), some (vi b), some (vi (Int32.ofNat (w_e r))), some (vi (Int32.ofNat D2.length)), some (vi (Int32.ofNat k)), some (vi (Int32.ofNat l)), some (vi (Int32.ofNat (w_p r (q.getD k (0, 0)).1))), none] [vi (Int32.ofNat z)] (L, FI, A, AL, AR) (0, 0) (QGO L FI AI AL AR m (w_ov r d c q)) := by
              intro z hz
              have hz1 : 1 ≤ z ∧ z ≤ l := by
                rw [hz]
                by_cases e : l < (w_p r (q.getD k (0, 0)).1)
                · rw [if_pos e]; omega
                · rw [if_neg e]; omega
              have hD3 : (D2 ++ [(z, (q.getD k (0, 0)).2 + d + (z + 8) / c)]) ++ (w_cut (w_p r (q.getD k (0, 0)).1) n1 (l - z)).map (fun z => (z, (q.getD k (0, 0)).2 + d + (z + 8) / c)) = (w_ov r d c (q.take (k + 1))) := by
                have hcu : w_cut (w_p r (q.getD k (0, 0)).1) (n1 + 1) l = z :: w_cut (w_p r (q.getD k (0, 0)).1) n1 (l - z) := by
                  rw [hz]
                  exact if_neg (by omega)
                rw [← hD, hcu, List.append_assoc]
                rfl
              have hlen3 : D2.length < (w_ov r d c (q.take (k + 1))).length := by
                rw [← hD3, List.length_append, List.length_append]
                have h1 : ([(z, (q.getD k (0, 0)).2 + d + (z + 8) / c)] : List (Nat × Nat)).length = 1 := rfl
                omega
              have hlen4 : (w_ov r d c (q.take (k + 1))).length ≤ (w_ov r d c q).length := w_ov_pre
              have hA2 : RA A m X := by
                show RF (A (m + 1)) (A (m + 2)) X
                rw [hAo _ (by omega), hAo _ (by omega)]
                exact hA
              have hzc : (z + 8) / c ≤ z + 8 := Nat.div_le_self _ _
              refine P_is7 (Or.inr dX8_goOver_80) rfl rfl ?_
              refine P_aloadn (i := 0) rfl rfl dX8_goOver_82 ?_
              refine gX8_53 rfl (by first | exact hM.k0 | exact hM.k1 | exact hM.k2 | exact hM.k3 | exact hM.k4 | exact hM.k5 | exact hM.k6 | exact hM.k7 | exact hM.k8 | exact hM.k9 | exact hM.k10 | exact hM.k11 | exact hM.k12 | exact hM.k13 | exact hM.k14 | exact hM.k15 | exact hM.k16 | exact hM.k17) hM.r273 dX8_goOver_83 ?_
              refine P_iloadn (i := 3) rfl rfl dX8_goOver_86 ?_
              refine P_iload (i := 7) rfl dX8_goOver_87 ?_
              refine P_isN (j := D2.length) (by first | exact hM.k0 | exact hM.k1 | exact hM.k2 | exact hM.k3 | exact hM.k4 | exact hM.k5 | exact hM.k6 | exact hM.k7 | exact hM.k8 | exact hM.k9 | exact hM.k10 | exact hM.k11 | exact hM.k12 | exact hM.k13 | exact hM.k14 | exact hM.k15 | exact hM.k16 | exact hM.k17) rfl (by first | omega | (simp only [hM.l1, hM.l2, hM.l3, hM.l4, hM.l5, hM.l6, hM.l7, hM.l8, hM.l9, hM.l10, hM.l11, hM.l12, hM.l13, hM.l14, hM.l15, hM.l16, hM.l17]; omega)) (by first | omega | (simp only [hM.l1, hM.l2, hM.l3, hM.l4, hM.l5, hM.l6, hM.l7, hM.l8, hM.l9, hM.l10, hM.l11, hM.l12, hM.l13, hM.l14, hM.l15, hM.l16, hM.l17]; omega)) dX8_goOver_89 ?_
              refine P_aloadn (i := 0) rfl rfl dX8_goOver_90 ?_
              refine gX8_56 rfl (by first | exact hM.k0 | exact hM.k1 | exact hM.k2 | exact hM.k3 | exact hM.k4 | exact hM.k5 | exact hM.k6 | exact hM.k7 | exact hM.k8 | exact hM.k9 | exact hM.k10 | exact hM.k11 | exact hM.k12 | exact hM.k13 | exact hM.k14 | exact hM.k15 | exact hM.k16 | exact hM.k17) hM.r274 dX8_goOver_91 ?_
              refine P_iloadn (i := 3) rfl rfl dX8_goOver_94 ?_
              refine P_aloadn (i := 0) rfl rfl dX8_goOver_95 ?_
              refine gX8_50 rfl (by first | exact hM.k0 | exact hM.k1 | exact hM.k2 | exact hM.k3 | exact hM.k4 | exact hM.k5 | exact hM.k6 | exact hM.k7 | exact hM.k8 | exact hM.k9 | exact hM.k10 | exact hM.k11 | exact hM.k12 | exact hM.k13 | exact hM.k14 | exact hM.k15 | exact hM.k16 | exact hM.k17) hM.r272 dX8_goOver_96 ?_
              refine P_iload (i := 4) rfl dX8_goOver_99 ?_
              refine P_iaN (j := k) (by first | exact hM.k0 | exact hM.k1 | exact hM.k2 | exact hM.k3 | exact hM.k4 | exact hM.k5 | exact hM.k6 | exact hM.k7 | exact hM.k8 | exact hM.k9 | exact hM.k10 | exact hM.k11 | exact hM.k12 | exact hM.k13 | exact hM.k14 | exact hM.k15 | exact hM.k16 | exact hM.k17) rfl (by first | omega | (simp only [hM.l1, hM.l2, hM.l3, hM.l4, hM.l5, hM.l6, hM.l7, hM.l8, hM.l9, hM.l10, hM.l11, hM.l12, hM.l13, hM.l14, hM.l15, hM.l16, hM.l17]; omega)) (by first | omega | (simp only [hM.l1, hM.l2, hM.l3, hM.l4, hM.l5, hM.l6, hM.l7, hM.l8, hM.l9, hM.l10, hM.l11, hM.l12, hM.l13, hM.l14, hM.l15, hM.l16, hM.l17]; omega)) ((p_up_n1 _ _ _ _ (by omega)).trans (hlh k (by omega)).2) dX8_goOver_101 ?_
              refine P_aloadn (i := 0) rfl rfl dX8_goOver_102 ?_
              refine P_iloadn (i := 1) rfl rfl dX8_goOver_103 ?_
              refine P_iconst (v := 3) rfl dX8_goOver_104 ?_
              refine kX8_94 rfl (s_ofB hM (hA2.oth (show m + 14 ≠ m + 1 by omega) (show m + 14 ≠ m + 2 by omega)) (k := 3) hb rfl (by decide)) (by decide) (by first | exact hM.k0 | exact hM.k1 | exact hM.k2 | exact hM.k3 | exact hM.k4 | exact hM.k5 | exact hM.k6 | exact hM.k7 | exact hM.k8 | exact hM.k9 | exact hM.k10 | exact hM.k11 | exact hM.k12 | exact hM.k13 | exact hM.k14 | exact hM.k15 | exact hM.k16 | exact hM.k17) rfl dX8_goOver_105 (fun r105 s105 q105 => ?_)
              obtain ⟨rfl, rfl⟩ := q105
              rw [hde]
              refine P_iadd dX8_goOver_108 ?_
              refine P_iload (i := 7) rfl dX8_goOver_109 ?_
              refine P_bipush (v := 8) rfl dX8_goOver_111 ?_
              refine P_iadd dX8_goOver_113 ?_
              refine P_aloadn (i := 0) rfl rfl dX8_goOver_114 ?_
              refine P_iloadn (i := 1) rfl rfl dX8_goOver_115 ?_
              refine P_iconst (v := 4) rfl dX8_goOver_116 ?_
              refine kX8_94 rfl (s_ofB hM (hA2.oth (show m + 14 ≠ m + 1 by omega) (show m + 14 ≠ m + 2 by omega)) (k := 4) hb rfl (by decide)) (by decide) (by first | exact hM.k0 | exact hM.k1 | exact hM.k2 | exact hM.k3 | exact hM.k4 | exact hM.k5 | exact hM.k6 | exact hM.k7 | exact hM.k8 | exact hM.k9 | exact hM.k10 | exact hM.k11 | exact hM.k12 | exact hM.k13 | exact hM.k14 | exact hM.k15 | exact hM.k16 | exact hM.k17) rfl dX8_goOver_117 (fun r117 s117 q117 => ?_)
              obtain ⟨rfl, rfl⟩ := q117
              rw [hce]
              refine P_idiv (fun hh => by have h9 := (n_eq (a := c) (b := 0) (by omega) (by omega)).mp hh; omega) dX8_goOver_120 ?_
              refine P_iadd dX8_goOver_121 ?_
              rw [show Int32.ofNat (q.getD k (0, 0)).2 + Int32.ofNat d + (Int32.ofNat z + 8) / Int32.ofNat c = Int32.ofNat ((q.getD k (0, 0)).2 + d + (z + 8) / c) from by rw [show Int32.ofNat z + 8 = Int32.ofNat (z + 8) from n_add z 8, n_div (by omega) (by omega) (by omega), n_add, n_add]]
              refine P_isN (j := D2.length) (by first | exact hM.k0 | exact hM.k1 | exact hM.k2 | exact hM.k3 | exact hM.k4 | exact hM.k5 | exact hM.k6 | exact hM.k7 | exact hM.k8 | exact hM.k9 | exact hM.k10 | exact hM.k11 | exact hM.k12 | exact hM.k13 | exact hM.k14 | exact hM.k15 | exact hM.k16 | exact hM.k17) rfl (by first | omega | (simp only [hM.l1, hM.l2, hM.l3, hM.l4, hM.l5, hM.l6, hM.l7, hM.l8, hM.l9, hM.l10, hM.l11, hM.l12, hM.l13, hM.l14, hM.l15, hM.l16, hM.l17]; omega)) (by first | omega | (simp only [hM.l1, hM.l2, hM.l3, hM.l4, hM.l5, hM.l6, hM.l7, hM.l8, hM.l9, hM.l10, hM.l11, hM.l12, hM.l13, hM.l14, hM.l15, hM.l16, hM.l17]; omega)) dX8_goOver_122 ?_
              refine P_inN3 dX8_goOver_123 rfl rfl ?_
              refine P_iload (i := 5) rfl dX8_goOver_126 ?_
              refine P_iload (i := 7) rfl dX8_goOver_128 ?_
              refine P_isub dX8_goOver_130 ?_
              rw [n_sub (show z ≤ l by omega) (by omega)]
              refine P_is5 (Or.inr dX8_goOver_131) rfl rfl ?_
              refine P_goto dX8_goOver_133 (tgt := 61) rfl ?_
              refine P_few (ls2 := [some (vr m), some (vi b), some (vi (Int32.ofNat (w_e r))), some (vi (Int32.ofNat (D2.length + 1))), some (vi (Int32.ofNat k)), some (vi (Int32.ofNat (l - z))), some (vi (Int32.ofNat (w_p r (q.getD k (0, 0)).1))), none]) ⟨rfl, rfl, rfl, rfl, rfl, rfl, rfl, trivial⟩ ?_
              have e9 : Int32.ofNat (D2.length + 1) = Int32.ofNat (D2 ++ [(z, (q.getD k (0, 0)).2 + d + (z + 8) / c)]).length := by rw [List.length_append]; rfl
              rw [e9]
              refine ih2 (l - z) (by omega) (by omega) _ _ hD3 (fun a ha => ?_) (fun i hi => ?_) ?_
              · rw [p_up_oth (by omega), p_up_oth (by omega)]; exact hAo a ha
              · rw [p_up_oth (by omega), p_up_oth (by omega), p_up_oth (by omega), p_up_oth (by omega)]; exact hlh i hi
              · refine hho.push ((p_up_n1 _ _ _ _ (by omega)).trans (p_up_eq _ _ _ _)) (p_up_eq _ _ _ _) (fun i hi => ⟨?_, ?_⟩)
                · exact (p_up_n1 _ _ _ _ (by omega)).trans (p_up_n2 _ _ _ _ (by omega))
                · exact (p_up_n2 _ _ _ _ (by omega)).trans (p_up_n1 _ _ _ _ (by omega))
            refine P_iload (i := 5) rfl dX8_goOver_66 ?_
            refine P_iload (i := 6) rfl dX8_goOver_68 ?_
            refine P_icmpge dX8_goOver_70 (tgt := 78) rfl (fun h70 => ?_) (fun h70 => ?_)
            · refine P_iload (i := 6) rfl dX8_goOver_78 ?_
              exact J80 _ (if_neg (fun h8 => by have h7 := (n_le (a := (w_p r (q.getD k (0, 0)).1)) (b := l) (by omega) (by omega)).mp h70; omega)).symm
            · refine P_iload (i := 5) rfl dX8_goOver_73 ?_
              refine P_goto dX8_goOver_75 (tgt := 80) rfl ?_
              exact J80 _ (if_pos (by have h7 : ¬ (w_p r (q.getD k (0, 0)).1) ≤ l := fun h8 => h70 ((n_le (a := (w_p r (q.getD k (0, 0)).1)) (b := l) (by omega) (by omega)).mpr h8); omega)).symm
      refine P_iload (i := 4) rfl dX8_goOver_21 ?_
      refine P_aloadn (i := 0) rfl rfl dX8_goOver_23 ?_
      refine gX8_223 rfl (by first | exact hM.k0 | exact hM.k1 | exact hM.k2 | exact hM.k3 | exact hM.k4 | exact hM.k5 | exact hM.k6 | exact hM.k7 | exact hM.k8 | exact hM.k9 | exact hM.k10 | exact hM.k11 | exact hM.k12 | exact hM.k13 | exact hM.k14 | exact hM.k15 | exact hM.k16 | exact hM.k17) hpc dX8_goOver_24 ?_
      refine P_icmpge dX8_goOver_27 (tgt := 142) rfl (fun h27 => absurd h27 (fun h8 => by have h7 := (n_le (a := q.length) (b := k) (by omega) (by omega)).mp h8; omega)) (fun h27 => ?_)
      refine P_aloadn (i := 0) rfl rfl dX8_goOver_30 ?_
      refine gX8_47 rfl (by first | exact hM.k0 | exact hM.k1 | exact hM.k2 | exact hM.k3 | exact hM.k4 | exact hM.k5 | exact hM.k6 | exact hM.k7 | exact hM.k8 | exact hM.k9 | exact hM.k10 | exact hM.k11 | exact hM.k12 | exact hM.k13 | exact hM.k14 | exact hM.k15 | exact hM.k16 | exact hM.k17) hM.r271 dX8_goOver_31 ?_
      refine P_iload (i := 4) rfl dX8_goOver_34 ?_
      refine P_iaN (j := k) (by first | exact hM.k0 | exact hM.k1 | exact hM.k2 | exact hM.k3 | exact hM.k4 | exact hM.k5 | exact hM.k6 | exact hM.k7 | exact hM.k8 | exact hM.k9 | exact hM.k10 | exact hM.k11 | exact hM.k12 | exact hM.k13 | exact hM.k14 | exact hM.k15 | exact hM.k16 | exact hM.k17) rfl (by first | omega | (simp only [hM.l1, hM.l2, hM.l3, hM.l4, hM.l5, hM.l6, hM.l7, hM.l8, hM.l9, hM.l10, hM.l11, hM.l12, hM.l13, hM.l14, hM.l15, hM.l16, hM.l17]; omega)) (by first | omega | (simp only [hM.l1, hM.l2, hM.l3, hM.l4, hM.l5, hM.l6, hM.l7, hM.l8, hM.l9, hM.l10, hM.l11, hM.l12, hM.l13, hM.l14, hM.l15, hM.l16, hM.l17]; omega)) (hlh k (by omega)).1 dX8_goOver_36 ?_
      refine P_is5 (Or.inr dX8_goOver_37) rfl rfl ?_
      refine P_few (ls2 := [some (vr m), some (vi b), some (vi (Int32.ofNat (w_e r))), some (vi (Int32.ofNat (w_ov r d c (q.take k)).length)), some (vi (Int32.ofNat k)), some (vi (Int32.ofNat (q.getD k (0, 0)).1)), none, none]) ⟨rfl, rfl, rfl, rfl, rfl, rfl, trivial⟩ ?_
      have J59 : P g 1 iX8_goOver 59 [some (vr m), some (vi b), some (vi (Int32.ofNat (w_e r))), some (vi (Int32.ofNat (w_ov r d c (q.take k)).length)), some (vi (Int32.ofNat k)), some (vi (Int32.ofNat (q.getD k (0, 0)).1)), none, none] [vi (Int32.ofNat (w_p r (q.getD k (0, 0)).1))] (L, FI, A, AL, AR) (0, 0) (QGO L FI AI AL AR m (w_ov r d c q)) := by
        refine P_is6 (Or.inr dX8_goOver_59) rfl rfl ?_
        refine loop2 (q.getD k (0, 0)).1 (q.getD k (0, 0)).1 (Nat.le_refl _) hx.2.1 A _ ?_ hAo hlh hho
        rw [w_ov_take (by omega)]
        rfl
      refine P_iload (i := 5) rfl dX8_goOver_39 ?_
      refine P_bipush (v := 8) rfl dX8_goOver_41 ?_
      refine P_iadd dX8_goOver_43 ?_
      refine P_aloadn (i := 0) rfl rfl dX8_goOver_44 ?_
      refine P_iloadn (i := 1) rfl rfl dX8_goOver_45 ?_
      refine P_iconst (v := 2) rfl dX8_goOver_46 ?_
      refine kX8_94 rfl (s_ofB hM hA2 (k := 2) hb rfl (by decide)) (by decide) (by first | exact hM.k0 | exact hM.k1 | exact hM.k2 | exact hM.k3 | exact hM.k4 | exact hM.k5 | exact hM.k6 | exact hM.k7 | exact hM.k8 | exact hM.k9 | exact hM.k10 | exact hM.k11 | exact hM.k12 | exact hM.k13 | exact hM.k14 | exact hM.k15 | exact hM.k16 | exact hM.k17) rfl dX8_goOver_47 (fun r47 s47 q47 => ?_)
      obtain ⟨rfl, rfl⟩ := q47
      rw [hre]
      refine P_icmple dX8_goOver_50 (tgt := 57) rfl (fun h50 => ?_) (fun h50 => ?_)
      · refine P_iload (i := 5) rfl dX8_goOver_57 ?_
        have e9 : w_p r (q.getD k (0, 0)).1 = (q.getD k (0, 0)).1 := if_neg (fun h8 => by have h7 := (n_le (a := (q.getD k (0, 0)).1 + 8) (b := r) (by omega) (by omega)).mp (by rw [← show Int32.ofNat (q.getD k (0, 0)).1 + 8 = Int32.ofNat ((q.getD k (0, 0)).1 + 8) from n_add _ 8]; exact h50); omega)
        rw [e9] at J59
        exact J59
      · refine P_iloadn (i := 2) rfl rfl dX8_goOver_53 ?_
        refine P_goto dX8_goOver_54 (tgt := 59) rfl ?_
        have e9 : w_p r (q.getD k (0, 0)).1 = w_e r := if_pos (by have h7 : ¬ (q.getD k (0, 0)).1 + 8 ≤ r := fun h8 => h50 (by rw [show Int32.ofNat (q.getD k (0, 0)).1 + 8 = Int32.ofNat ((q.getD k (0, 0)).1 + 8) from n_add _ 8]; exact (n_le (by omega) (by omega)).mpr h8); omega)
        rw [e9] at J59
        exact J59
  refine P_aloadn (i := 0) rfl rfl dX8_goOver_0 ?_
  refine P_iloadn (i := 1) rfl rfl dX8_goOver_1 ?_
  refine P_iconst (v := 2) rfl dX8_goOver_2 ?_
  refine kX8_94 rfl (s_ofB hM hA (k := 2) hb rfl (by decide)) (by decide) (by first | exact hM.k0 | exact hM.k1 | exact hM.k2 | exact hM.k3 | exact hM.k4 | exact hM.k5 | exact hM.k6 | exact hM.k7 | exact hM.k8 | exact hM.k9 | exact hM.k10 | exact hM.k11 | exact hM.k12 | exact hM.k13 | exact hM.k14 | exact hM.k15 | exact hM.k16 | exact hM.k17) rfl dX8_goOver_3 (fun r3 s3 q3 => ?_)
  obtain ⟨rfl, rfl⟩ := q3
  rw [hre]
  refine P_bipush (v := 8) rfl dX8_goOver_6 ?_
  refine P_isub dX8_goOver_8 ?_
  refine P_bipush (v := 8) rfl dX8_goOver_9 ?_
  refine P_idiv (by decide) dX8_goOver_11 ?_
  refine P_bipush (v := 8) rfl dX8_goOver_12 ?_
  refine P_imul dX8_goOver_14 ?_
  rw [n_each hr.1 hr.2]
  refine P_is2 (Or.inl dX8_goOver_15) rfl rfl ?_
  refine P_iconst (v := 0) rfl dX8_goOver_16 ?_
  refine P_is3 (Or.inl dX8_goOver_17) rfl rfl ?_
  refine P_iconst (v := 0) rfl dX8_goOver_18 ?_
  refine P_is4 (Or.inr dX8_goOver_19) rfl rfl ?_
  exact loop q.length 0 (by omega) AI (fun _ _ => rfl) hh (fun i hi => absurd hi (Nat.not_lt_zero i))
end Ref16
