/-- how many of the first n have the property -/
def x_num (f : Nat → Bool) : Nat → Int32
  | 0 => 0
  | n + 1 => x_num f n + (if f n = true then 1 else 0)
def a_parcelsAt (X : XW) (node : Int32) : Int32 := x_num (fun p => decide (xP X p 1 = node) && decide (0 ≤ xP X p 9)) (xp X)
def a_slicesOf (X : XW) (p : Int32) : Int32 := x_num (fun s => decide ((x_at X s).1 = p)) (xS X).length
def a_parcelsIn (X : XW) (st : Int32) : Int32 := x_num (fun p => decide (xP X p 5 = st)) (xp X)
def x_fm (t : Nat → Int32) : Nat → Nat → Nat
  | 0, i => i
  | n + 1, i => if 0 ≤ t i then x_fm t n (i + 1) else i
def x_fg (t : Nat → Int32) : Nat → Nat → Nat
  | 0, i => i
  | n + 1, i => if t i < 0 then x_fg t n (i + 1) else i
def x_next (X : XW) : Nat → Int32
  | 0 => -6
  | n + 1 => if x_next X n < 0 ∨ (x_at X n).2.2.2.2.2.2.1 < x_next X n then (x_at X n).2.2.2.2.2.2.1 else x_next X n
def a_ofNode (X : XW) (n w : Int32) : Int32 :=
  if ¬ q_ib n 8 = true then -1
  else if (0 : Int32) ≤ w ∧ w ≤ 2 then xN X (nn n) (nn w)
  else if (10 : Int32) ≤ w ∧ w ≤ 17 then xN X (nn n) (3 + (nn w - 10))
  else if w = 3 then x_bytes (xP X) n (xp X)
  else if w = 4 then a_parcelsAt X n
  else -2
def a_ofBridge (X : XW) (b w : Int32) : Int32 :=
  if ¬ q_ib b (xb X) = true then -1 else if (0 : Int32) ≤ w ∧ w ≤ 8 then xB X (nn b) (nn w) else -2
def a_ofParcel (X : XW) (p w : Int32) : Int32 :=
  if ¬ q_ib p (xp X) = true then -1
  else if (0 : Int32) ≤ w ∧ w ≤ 6 then xP X (nn p) (nn w)
  else if w = 7 then a_slicesOf X p
  else if w = 8 then xP X (nn p) 12
  else if w = 9 then xP X (nn p) 8
  else if w = 10 then Int32.ofNat (x_fm (xT X (nn p)) 4000 0)
  else if w = 11 then xP X (nn p) 10
  else if w = 12 then x_sum (xP X (nn p) 3) (xP X (nn p) 2)
  else if w = 13 then xP X (nn p) 11
  else -2
def a_byteAt (X : XW) (p at_ : Int32) : Int32 :=
  if ¬ q_ib p (xp X) = true then -1
  else if ¬ ((0 : Int32) ≤ at_ ∧ at_ ≤ 3999) then -2
  else if xT X (nn p) (nn at_) < 0 then -6 else c_byte (xT X (nn p) (nn at_)) at_
def a_head (X : XW) (w : Int32) : Int32 := if w = 1 then Int32.ofNat (xb X) else if w = 2 then Int32.ofNat (xp X) else if w = 3 then Int32.ofNat (xS X).length else xG X (nn w)
def a_count (Z : ZW) (w : Int32) : Int32 :=
  if (0 : Int32) ≤ w ∧ w ≤ 6 then a_head (zX Z) w
  else if (11 : Int32) ≤ w ∧ w ≤ 17 then xG (zX Z) (6 + (nn w - 10))
  else if (20 : Int32) ≤ w ∧ w ≤ 25 then a_parcelsIn (zX Z) (w - 20)
  else if w = 7 then Int32.ofNat (zn Z)
  else if w = 8 then Int32.ofNat (zk Z)
  else if w = 9 then x_next (zX Z) (xS (zX Z)).length
  else -2
def a_gap (X : XW) (p w : Int32) : Int32 :=
  if ¬ q_ib p (xp X) = true then -1
  else if ¬ ((0 : Int32) ≤ w ∧ w ≤ 1) then -2
  else if xP X (nn p) 12 = 0 then -6
  else
    let b := x_fm (xT X (nn p)) 4000 0
    let e := x_fg (xT X (nn p)) (4000 - b) b
    if w = 0 then Int32.ofNat b
    else if e < 4000 then Int32.ofNat e - Int32.ofNat b
    else if 0 ≤ xP X (nn p) 8 then xP X (nn p) 8 - Int32.ofNat b else -6
theorem x_fm_le (t : Nat → Int32) : ∀ n i, i ≤ x_fm t n i ∧ x_fm t n i ≤ i + n := by
  intro n
  induction n with
  | zero => intro i; exact ⟨Nat.le_refl _, Nat.le_refl _⟩
  | succ n ih =>
    intro i
    unfold x_fm
    have h := ih (i + 1)
    split <;> omega
theorem x_fg_le (t : Nat → Int32) : ∀ n i, i ≤ x_fg t n i ∧ x_fg t n i ≤ i + n := by
  intro n
  induction n with
  | zero => intro i; exact ⟨Nat.le_refl _, Nat.le_refl _⟩
  | succ n ih =>
    intro i
    unfold x_fg
    have h := ih (i + 1)
    split <;> omega
theorem n_315 {w : Int32} (h : (10 : Int32) ≤ w ∧ w ≤ 17) : (3 : Int32) + w - 10 = Int32.ofNat (3 + (nn w - 10)) := by
  have h1 := h.1
  have h2 := h.2
  rw [Int32.le_iff_toInt_le] at h1 h2
  simp only [Int32.reduceToInt] at h1 h2
  have h3 := i_cn w
  rw [i_eq, i_sub, i_add]
  show _ = (Int32.ofNat (3 + (w.toNatClampNeg - 10))).toInt
  rw [n_int (by omega)]
  simp only [Int32.reduceToInt]
  omega
theorem n_610 {w : Int32} (h : (11 : Int32) ≤ w ∧ w ≤ 17) : (6 : Int32) + w - 10 = Int32.ofNat (6 + (nn w - 10)) := by
  have h1 := h.1
  have h2 := h.2
  rw [Int32.le_iff_toInt_le] at h1 h2
  simp only [Int32.reduceToInt] at h1 h2
  have h3 := i_cn w
  rw [i_eq, i_sub, i_add]
  show _ = (Int32.ofNat (6 + (w.toNatClampNeg - 10))).toInt
  rw [n_int (by omega)]
  simp only [Int32.reduceToInt]
  omega
theorem in_nn {w : Int32} {a b : Nat} (ha : a < 2147483648) (hb : b < 2147483648) (h : Int32.ofNat a ≤ w ∧ w ≤ Int32.ofNat b) : a ≤ nn w ∧ nn w ≤ b ∧ w = Int32.ofNat (nn w) := by
  have h1 := h.1
  have h2 := h.2
  rw [Int32.le_iff_toInt_le, n_int ha] at h1
  rw [Int32.le_iff_toInt_le, n_int hb] at h2
  have h3 := i_cn w
  refine ⟨?_, ?_, ?_⟩
  · show a ≤ w.toNatClampNeg; omega
  · show w.toNatClampNeg ≤ b; omega
  · show w = Int32.ofNat w.toNatClampNeg
    rw [Int32.ofNat_toNatClampNeg w (by rw [Int32.le_iff_toInt_le]; simp only [Int32.reduceToInt]; omega)]
theorem RF.head {f t : Nat → Int32} {X : XW} (h : RF f t X) {w : Int32} (hw : (0 : Int32) ≤ w ∧ w ≤ 6) : f (nn w) = a_head X w := by
  obtain ⟨h1, h2, h3⟩ := in_nn (a := 0) (b := 6) (by decide) (by decide) hw
  generalize nn w = j at *
  subst h3
  unfold a_head
  rcases (show j = 0 ∨ j = 1 ∨ j = 2 ∨ j = 3 ∨ j = 4 ∨ j = 5 ∨ j = 6 by omega) with e | e | e | e | e | e | e <;> subst e
  · exact h.g (by omega) (by omega) (by omega) (by omega)
  · exact h.nb
  · exact h.np
  · exact h.ns
  · exact h.g (by omega) (by omega) (by omega) (by omega)
  · exact h.g (by omega) (by omega) (by omega) (by omega)
  · exact h.g (by omega) (by omega) (by omega) (by omega)
section Ref14
variable {g : PG} {L : PL} {FI AI : Nat → Nat → Int32} {AL : Nat → Nat → Int64} {AR : Nat → Nat → Option Nat} {m : Nat} {X : XW} {Z : ZW}
theorem s_slicesOf (hM : WM L m) (hA : RA AI m X) {w : Int32} : Sp g 1 iX8_slicesOf [vr m, vi w] (L, FI, AI, AL, AR) (0, 0) (QI (L, FI, AI, AL, AR) (a_slicesOf X w)) := by
  refine Sp.of (ls := [some (vr m), some (vi w), none, none]) (by decide +kernel) rfl rfl ?_
  have hp40 := hA.p40
  have hs30 := hA.s300
  have loop : ∀ n i, i + n = (xS X).length → P g 1 iX8_slicesOf 4 [some (vr m), some (vi w), some (vi (x_num (fun s => decide ((x_at X s).1 = w)) i)), some (vi (Int32.ofNat i))] [] (L, FI, AI, AL, AR) (0, 0) (QI (L, FI, AI, AL, AR) (a_slicesOf X w)) := by
    intro n
    induction n with
    | zero =>
      intro i hi
      refine P_iloadn (i := 3) rfl rfl dX8_slicesOf_4 ?_
      refine P_aloadn (i := 0) rfl rfl dX8_slicesOf_5 ?_
      refine gX8_7 rfl (by first | exact hM.k0 | exact hM.k1 | exact hM.k2 | exact hM.k3 | exact hM.k4 | exact hM.k5 | exact hM.k6 | exact hM.k7 | exact hM.k8 | exact hM.k9 | exact hM.k10 | exact hM.k11 | exact hM.k12 | exact hM.k13 | exact hM.k14 | exact hM.k15 | exact hM.k16 | exact hM.k17) hM.r256 dX8_slicesOf_6 ?_
      refine P_iconst (v := 3) rfl dX8_slicesOf_9 ?_
      refine P_iaN (j := 3) (by first | exact hM.k0 | exact hM.k1 | exact hM.k2 | exact hM.k3 | exact hM.k4 | exact hM.k5 | exact hM.k6 | exact hM.k7 | exact hM.k8 | exact hM.k9 | exact hM.k10 | exact hM.k11 | exact hM.k12 | exact hM.k13 | exact hM.k14 | exact hM.k15 | exact hM.k16 | exact hM.k17) rfl (by first | omega | (simp only [hM.l1, hM.l2, hM.l3, hM.l4, hM.l5, hM.l6, hM.l7, hM.l8, hM.l9, hM.l10, hM.l11, hM.l12, hM.l13, hM.l14, hM.l15, hM.l16, hM.l17]; omega)) (by first | omega | (simp only [hM.l1, hM.l2, hM.l3, hM.l4, hM.l5, hM.l6, hM.l7, hM.l8, hM.l9, hM.l10, hM.l11, hM.l12, hM.l13, hM.l14, hM.l15, hM.l16, hM.l17]; omega)) hA.ns dX8_slicesOf_10 ?_
      refine P_icmpge dX8_slicesOf_11 (tgt := 38) rfl (fun h11 => ?_) (fun h11 => absurd ((n_le (by omega) (by omega)).mpr (by omega)) h11)
      refine P_iloadn (i := 2) rfl rfl dX8_slicesOf_38 ?_
      refine P_ireturn rfl dX8_slicesOf_39 ?_
      have e : i = (xS X).length := (by omega)
      subst e
      exact ⟨rfl, rfl⟩
    | succ n ih =>
      intro i hi
      refine P_iloadn (i := 3) rfl rfl dX8_slicesOf_4 ?_
      refine P_aloadn (i := 0) rfl rfl dX8_slicesOf_5 ?_
      refine gX8_7 rfl (by first | exact hM.k0 | exact hM.k1 | exact hM.k2 | exact hM.k3 | exact hM.k4 | exact hM.k5 | exact hM.k6 | exact hM.k7 | exact hM.k8 | exact hM.k9 | exact hM.k10 | exact hM.k11 | exact hM.k12 | exact hM.k13 | exact hM.k14 | exact hM.k15 | exact hM.k16 | exact hM.k17) hM.r256 dX8_slicesOf_6 ?_
      refine P_iconst (v := 3) rfl dX8_slicesOf_9 ?_
      refine P_iaN (j := 3) (by first | exact hM.k0 | exact hM.k1 | exact hM.k2 | exact hM.k3 | exact hM.k4 | exact hM.k5 | exact hM.k6 | exact hM.k7 | exact hM.k8 | exact hM.k9 | exact hM.k10 | exact hM.k11 | exact hM.k12 | exact hM.k13 | exact hM.k14 | exact hM.k15 | exact hM.k16 | exact hM.k17) rfl (by first | omega | (simp only [hM.l1, hM.l2, hM.l3, hM.l4, hM.l5, hM.l6, hM.l7, hM.l8, hM.l9, hM.l10, hM.l11, hM.l12, hM.l13, hM.l14, hM.l15, hM.l16, hM.l17]; omega)) (by first | omega | (simp only [hM.l1, hM.l2, hM.l3, hM.l4, hM.l5, hM.l6, hM.l7, hM.l8, hM.l9, hM.l10, hM.l11, hM.l12, hM.l13, hM.l14, hM.l15, hM.l16, hM.l17]; omega)) hA.ns dX8_slicesOf_10 ?_
      refine P_icmpge dX8_slicesOf_11 (tgt := 38) rfl (fun h11 => absurd h11 (fun h9 => by rw [n_le (by omega) (by omega)] at h9; omega)) (fun h11 => ?_)
      refine P_iloadn (i := 2) rfl rfl dX8_slicesOf_14 ?_
      refine P_aloadn (i := 0) rfl rfl dX8_slicesOf_15 ?_
      refine P_iloadn (i := 3) rfl rfl dX8_slicesOf_16 ?_
      refine P_iconst (v := 0) rfl dX8_slicesOf_17 ?_
      refine kX8_108 rfl (s_ofS hM hA (k := 0) (by exact ib.of (by omega) (by omega)) rfl (by decide)) (by decide) (by first | exact hM.k0 | exact hM.k1 | exact hM.k2 | exact hM.k3 | exact hM.k4 | exact hM.k5 | exact hM.k6 | exact hM.k7 | exact hM.k8 | exact hM.k9 | exact hM.k10 | exact hM.k11 | exact hM.k12 | exact hM.k13 | exact hM.k14 | exact hM.k15 | exact hM.k16 | exact hM.k17) rfl dX8_slicesOf_18 (fun r18 s18 q18 => ?_)
      obtain ⟨rfl, rfl⟩ := q18
      refine P_iloadn (i := 1) rfl rfl dX8_slicesOf_21 ?_
      refine P_icmpne dX8_slicesOf_22 (tgt := 29) rfl (fun h22 => ?_) (fun h22 => ?_)
      · rw [n_nn (j := i) (by omega)] at h22
        refine P_iconst (v := 0) rfl dX8_slicesOf_29 ?_
        refine P_iadd dX8_slicesOf_30 ?_
        refine P_is2 (Or.inl dX8_slicesOf_31) rfl rfl ?_
        refine P_inN3 dX8_slicesOf_32 rfl rfl ?_
        refine P_goto dX8_slicesOf_35 (tgt := 4) rfl ?_
        have e2 := ih (i + 1) (by omega)
        unfold x_num at e2
        rw [if_neg (by rw [decide_eq_true_eq]; exact h22)] at e2
        exact e2
      · rw [n_nn (j := i) (by omega)] at h22
        refine P_iconst (v := 1) rfl dX8_slicesOf_25 ?_
        refine P_goto dX8_slicesOf_26 (tgt := 30) rfl ?_
        refine P_iadd dX8_slicesOf_30 ?_
        refine P_is2 (Or.inl dX8_slicesOf_31) rfl rfl ?_
        refine P_inN3 dX8_slicesOf_32 rfl rfl ?_
        refine P_goto dX8_slicesOf_35 (tgt := 4) rfl ?_
        have e2 := ih (i + 1) (by omega)
        unfold x_num at e2
        rw [if_pos (show decide ((x_at X i).1 = w) = true from decide_eq_true h22)] at e2
        exact e2
  refine P_iconst (v := 0) rfl dX8_slicesOf_0 ?_
  refine P_is2 (Or.inl dX8_slicesOf_1) rfl rfl ?_
  refine P_iconst (v := 0) rfl dX8_slicesOf_2 ?_
  refine P_is3 (Or.inl dX8_slicesOf_3) rfl rfl ?_
  exact loop ((xS X).length) 0 (by omega)
theorem s_parcelsIn (hM : WM L m) (hA : RA AI m X) {w : Int32} : Sp g 1 iX8_parcelsIn [vr m, vi w] (L, FI, AI, AL, AR) (0, 0) (QI (L, FI, AI, AL, AR) (a_parcelsIn X w)) := by
  refine Sp.of (ls := [some (vr m), some (vi w), none, none]) (by decide +kernel) rfl rfl ?_
  have hp40 := hA.p40
  have hs30 := hA.s300
  have loop : ∀ n i, i + n = xp X → P g 1 iX8_parcelsIn 4 [some (vr m), some (vi w), some (vi (x_num (fun p => decide (xP X p 5 = w)) i)), some (vi (Int32.ofNat i))] [] (L, FI, AI, AL, AR) (0, 0) (QI (L, FI, AI, AL, AR) (a_parcelsIn X w)) := by
    intro n
    induction n with
    | zero =>
      intro i hi
      refine P_iloadn (i := 3) rfl rfl dX8_parcelsIn_4 ?_
      refine P_aloadn (i := 0) rfl rfl dX8_parcelsIn_5 ?_
      refine gX8_7 rfl (by first | exact hM.k0 | exact hM.k1 | exact hM.k2 | exact hM.k3 | exact hM.k4 | exact hM.k5 | exact hM.k6 | exact hM.k7 | exact hM.k8 | exact hM.k9 | exact hM.k10 | exact hM.k11 | exact hM.k12 | exact hM.k13 | exact hM.k14 | exact hM.k15 | exact hM.k16 | exact hM.k17) hM.r256 dX8_parcelsIn_6 ?_
      refine P_iconst (v := 2) rfl dX8_parcelsIn_9 ?_
      refine P_iaN (j := 2) (by first | exact hM.k0 | exact hM.k1 | exact hM.k2 | exact hM.k3 | exact hM.k4 | exact hM.k5 | exact hM.k6 | exact hM.k7 | exact hM.k8 | exact hM.k9 | exact hM.k10 | exact hM.k11 | exact hM.k12 | exact hM.k13 | exact hM.k14 | exact hM.k15 | exact hM.k16 | exact hM.k17) rfl (by first | omega | (simp only [hM.l1, hM.l2, hM.l3, hM.l4, hM.l5, hM.l6, hM.l7, hM.l8, hM.l9, hM.l10, hM.l11, hM.l12, hM.l13, hM.l14, hM.l15, hM.l16, hM.l17]; omega)) (by first | omega | (simp only [hM.l1, hM.l2, hM.l3, hM.l4, hM.l5, hM.l6, hM.l7, hM.l8, hM.l9, hM.l10, hM.l11, hM.l12, hM.l13, hM.l14, hM.l15, hM.l16, hM.l17]; omega)) hA.np dX8_parcelsIn_10 ?_
      refine P_icmpge dX8_parcelsIn_11 (tgt := 38) rfl (fun h11 => ?_) (fun h11 => absurd ((n_le (by omega) (by omega)).mpr (by omega)) h11)
      refine P_iloadn (i := 2) rfl rfl dX8_parcelsIn_38 ?_
      refine P_ireturn rfl dX8_parcelsIn_39 ?_
      have e : i = xp X := (by omega)
      subst e
      exact ⟨rfl, rfl⟩
    | succ n ih =>
      intro i hi
      refine P_iloadn (i := 3) rfl rfl dX8_parcelsIn_4 ?_
      refine P_aloadn (i := 0) rfl rfl dX8_parcelsIn_5 ?_
      refine gX8_7 rfl (by first | exact hM.k0 | exact hM.k1 | exact hM.k2 | exact hM.k3 | exact hM.k4 | exact hM.k5 | exact hM.k6 | exact hM.k7 | exact hM.k8 | exact hM.k9 | exact hM.k10 | exact hM.k11 | exact hM.k12 | exact hM.k13 | exact hM.k14 | exact hM.k15 | exact hM.k16 | exact hM.k17) hM.r256 dX8_parcelsIn_6 ?_
      refine P_iconst (v := 2) rfl dX8_parcelsIn_9 ?_
      refine P_iaN (j := 2) (by first | exact hM.k0 | exact hM.k1 | exact hM.k2 | exact hM.k3 | exact hM.k4 | exact hM.k5 | exact hM.k6 | exact hM.k7 | exact hM.k8 | exact hM.k9 | exact hM.k10 | exact hM.k11 | exact hM.k12 | exact hM.k13 | exact hM.k14 | exact hM.k15 | exact hM.k16 | exact hM.k17) rfl (by first | omega | (simp only [hM.l1, hM.l2, hM.l3, hM.l4, hM.l5, hM.l6, hM.l7, hM.l8, hM.l9, hM.l10, hM.l11, hM.l12, hM.l13, hM.l14, hM.l15, hM.l16, hM.l17]; omega)) (by first | omega | (simp only [hM.l1, hM.l2, hM.l3, hM.l4, hM.l5, hM.l6, hM.l7, hM.l8, hM.l9, hM.l10, hM.l11, hM.l12, hM.l13, hM.l14, hM.l15, hM.l16, hM.l17]; omega)) hA.np dX8_parcelsIn_10 ?_
      refine P_icmpge dX8_parcelsIn_11 (tgt := 38) rfl (fun h11 => absurd h11 (fun h9 => by rw [n_le (by omega) (by omega)] at h9; omega)) (fun h11 => ?_)
      refine P_iloadn (i := 2) rfl rfl dX8_parcelsIn_14 ?_
      refine P_aloadn (i := 0) rfl rfl dX8_parcelsIn_15 ?_
      refine P_iloadn (i := 3) rfl rfl dX8_parcelsIn_16 ?_
      refine P_iconst (v := 5) rfl dX8_parcelsIn_17 ?_
      refine kX8_102 rfl (s_ofP hM hA (k := 5) (by exact ib.of (by omega) (by omega)) rfl (by decide)) (by decide) (by first | exact hM.k0 | exact hM.k1 | exact hM.k2 | exact hM.k3 | exact hM.k4 | exact hM.k5 | exact hM.k6 | exact hM.k7 | exact hM.k8 | exact hM.k9 | exact hM.k10 | exact hM.k11 | exact hM.k12 | exact hM.k13 | exact hM.k14 | exact hM.k15 | exact hM.k16 | exact hM.k17) rfl dX8_parcelsIn_18 (fun r18 s18 q18 => ?_)
      obtain ⟨rfl, rfl⟩ := q18
      refine P_iloadn (i := 1) rfl rfl dX8_parcelsIn_21 ?_
      refine P_icmpne dX8_parcelsIn_22 (tgt := 29) rfl (fun h22 => ?_) (fun h22 => ?_)
      · rw [n_nn (j := i) (by omega)] at h22
        refine P_iconst (v := 0) rfl dX8_parcelsIn_29 ?_
        refine P_iadd dX8_parcelsIn_30 ?_
        refine P_is2 (Or.inl dX8_parcelsIn_31) rfl rfl ?_
        refine P_inN3 dX8_parcelsIn_32 rfl rfl ?_
        refine P_goto dX8_parcelsIn_35 (tgt := 4) rfl ?_
        have e2 := ih (i + 1) (by omega)
        unfold x_num at e2
        rw [if_neg (by rw [decide_eq_true_eq]; exact h22)] at e2
        exact e2
      · rw [n_nn (j := i) (by omega)] at h22
        refine P_iconst (v := 1) rfl dX8_parcelsIn_25 ?_
        refine P_goto dX8_parcelsIn_26 (tgt := 30) rfl ?_
        refine P_iadd dX8_parcelsIn_30 ?_
        refine P_is2 (Or.inl dX8_parcelsIn_31) rfl rfl ?_
        refine P_inN3 dX8_parcelsIn_32 rfl rfl ?_
        refine P_goto dX8_parcelsIn_35 (tgt := 4) rfl ?_
        have e2 := ih (i + 1) (by omega)
        unfold x_num at e2
        rw [if_pos (decide_eq_true h22)] at e2
        exact e2
  refine P_iconst (v := 0) rfl dX8_parcelsIn_0 ?_
  refine P_is2 (Or.inl dX8_parcelsIn_1) rfl rfl ?_
  refine P_iconst (v := 0) rfl dX8_parcelsIn_2 ?_
  refine P_is3 (Or.inl dX8_parcelsIn_3) rfl rfl ?_
  exact loop (xp X) 0 (by omega)
theorem s_parcelsAt (hM : WM L m) (hA : RA AI m X) {w : Int32} : Sp g 1 iX8_parcelsAt [vr m, vi w] (L, FI, AI, AL, AR) (0, 0) (QI (L, FI, AI, AL, AR) (a_parcelsAt X w)) := by
  refine Sp.of (ls := [some (vr m), some (vi w), none, none]) (by decide +kernel) rfl rfl ?_
  have hp40 := hA.p40
  have hs30 := hA.s300
  have loop : ∀ n i, i + n = xp X → P g 1 iX8_parcelsAt 4 [some (vr m), some (vi w), some (vi (x_num (fun p => decide (xP X p 1 = w) && decide (0 ≤ xP X p 9)) i)), some (vi (Int32.ofNat i))] [] (L, FI, AI, AL, AR) (0, 0) (QI (L, FI, AI, AL, AR) (a_parcelsAt X w)) := by
    intro n
    induction n with
    | zero =>
      intro i hi
      refine P_iloadn (i := 3) rfl rfl dX8_parcelsAt_4 ?_
      refine P_aloadn (i := 0) rfl rfl dX8_parcelsAt_5 ?_
      refine gX8_7 rfl (by first | exact hM.k0 | exact hM.k1 | exact hM.k2 | exact hM.k3 | exact hM.k4 | exact hM.k5 | exact hM.k6 | exact hM.k7 | exact hM.k8 | exact hM.k9 | exact hM.k10 | exact hM.k11 | exact hM.k12 | exact hM.k13 | exact hM.k14 | exact hM.k15 | exact hM.k16 | exact hM.k17) hM.r256 dX8_parcelsAt_6 ?_
      refine P_iconst (v := 2) rfl dX8_parcelsAt_9 ?_
      refine P_iaN (j := 2) (by first | exact hM.k0 | exact hM.k1 | exact hM.k2 | exact hM.k3 | exact hM.k4 | exact hM.k5 | exact hM.k6 | exact hM.k7 | exact hM.k8 | exact hM.k9 | exact hM.k10 | exact hM.k11 | exact hM.k12 | exact hM.k13 | exact hM.k14 | exact hM.k15 | exact hM.k16 | exact hM.k17) rfl (by first | omega | (simp only [hM.l1, hM.l2, hM.l3, hM.l4, hM.l5, hM.l6, hM.l7, hM.l8, hM.l9, hM.l10, hM.l11, hM.l12, hM.l13, hM.l14, hM.l15, hM.l16, hM.l17]; omega)) (by first | omega | (simp only [hM.l1, hM.l2, hM.l3, hM.l4, hM.l5, hM.l6, hM.l7, hM.l8, hM.l9, hM.l10, hM.l11, hM.l12, hM.l13, hM.l14, hM.l15, hM.l16, hM.l17]; omega)) hA.np dX8_parcelsAt_10 ?_
      refine P_icmpge dX8_parcelsAt_11 (tgt := 48) rfl (fun h11 => ?_) (fun h11 => absurd ((n_le (by omega) (by omega)).mpr (by omega)) h11)
      refine P_iloadn (i := 2) rfl rfl dX8_parcelsAt_48 ?_
      refine P_ireturn rfl dX8_parcelsAt_49 ?_
      have e : i = xp X := (by omega)
      subst e
      exact ⟨rfl, rfl⟩
    | succ n ih =>
      intro i hi
      refine P_iloadn (i := 3) rfl rfl dX8_parcelsAt_4 ?_
      refine P_aloadn (i := 0) rfl rfl dX8_parcelsAt_5 ?_
      refine gX8_7 rfl (by first | exact hM.k0 | exact hM.k1 | exact hM.k2 | exact hM.k3 | exact hM.k4 | exact hM.k5 | exact hM.k6 | exact hM.k7 | exact hM.k8 | exact hM.k9 | exact hM.k10 | exact hM.k11 | exact hM.k12 | exact hM.k13 | exact hM.k14 | exact hM.k15 | exact hM.k16 | exact hM.k17) hM.r256 dX8_parcelsAt_6 ?_
      refine P_iconst (v := 2) rfl dX8_parcelsAt_9 ?_
      refine P_iaN (j := 2) (by first | exact hM.k0 | exact hM.k1 | exact hM.k2 | exact hM.k3 | exact hM.k4 | exact hM.k5 | exact hM.k6 | exact hM.k7 | exact hM.k8 | exact hM.k9 | exact hM.k10 | exact hM.k11 | exact hM.k12 | exact hM.k13 | exact hM.k14 | exact hM.k15 | exact hM.k16 | exact hM.k17) rfl (by first | omega | (simp only [hM.l1, hM.l2, hM.l3, hM.l4, hM.l5, hM.l6, hM.l7, hM.l8, hM.l9, hM.l10, hM.l11, hM.l12, hM.l13, hM.l14, hM.l15, hM.l16, hM.l17]; omega)) (by first | omega | (simp only [hM.l1, hM.l2, hM.l3, hM.l4, hM.l5, hM.l6, hM.l7, hM.l8, hM.l9, hM.l10, hM.l11, hM.l12, hM.l13, hM.l14, hM.l15, hM.l16, hM.l17]; omega)) hA.np dX8_parcelsAt_10 ?_
      refine P_icmpge dX8_parcelsAt_11 (tgt := 48) rfl (fun h11 => absurd h11 (fun h9 => by rw [n_le (by omega) (by omega)] at h9; omega)) (fun h11 => ?_)
      refine P_iloadn (i := 2) rfl rfl dX8_parcelsAt_14 ?_
      refine P_aloadn (i := 0) rfl rfl dX8_parcelsAt_15 ?_
      refine P_iloadn (i := 3) rfl rfl dX8_parcelsAt_16 ?_
      refine P_iconst (v := 1) rfl dX8_parcelsAt_17 ?_
      refine kX8_102 rfl (s_ofP hM hA (k := 1) (by exact ib.of (by omega) (by omega)) rfl (by decide)) (by decide) (by first | exact hM.k0 | exact hM.k1 | exact hM.k2 | exact hM.k3 | exact hM.k4 | exact hM.k5 | exact hM.k6 | exact hM.k7 | exact hM.k8 | exact hM.k9 | exact hM.k10 | exact hM.k11 | exact hM.k12 | exact hM.k13 | exact hM.k14 | exact hM.k15 | exact hM.k16 | exact hM.k17) rfl dX8_parcelsAt_18 (fun r18 s18 q18 => ?_)
      obtain ⟨rfl, rfl⟩ := q18
      refine P_iloadn (i := 1) rfl rfl dX8_parcelsAt_21 ?_
      refine P_icmpne dX8_parcelsAt_22 (tgt := 39) rfl (fun h22 => ?_) (fun h22 => ?_)
      · rw [n_nn (j := i) (by omega)] at h22
        refine P_iconst (v := 0) rfl dX8_parcelsAt_39 ?_
        refine P_iadd dX8_parcelsAt_40 ?_
        refine P_is2 (Or.inl dX8_parcelsAt_41) rfl rfl ?_
        refine P_inN3 dX8_parcelsAt_42 rfl rfl ?_
        refine P_goto dX8_parcelsAt_45 (tgt := 4) rfl ?_
        have e2 := ih (i + 1) (by omega)
        unfold x_num at e2
        rw [if_neg (by rw [Bool.and_eq_true, decide_eq_true_eq, decide_eq_true_eq]; exact fun hh => h22 hh.1)] at e2
        exact e2
      · rw [n_nn (j := i) (by omega)] at h22
        refine P_aloadn (i := 0) rfl rfl dX8_parcelsAt_25 ?_
        refine P_iloadn (i := 3) rfl rfl dX8_parcelsAt_26 ?_
        refine P_bipush (v := 9) rfl dX8_parcelsAt_27 ?_
        refine kX8_102 rfl (s_ofP hM hA (k := 9) (by exact ib.of (by omega) (by omega)) rfl (by decide)) (by decide) (by first | exact hM.k0 | exact hM.k1 | exact hM.k2 | exact hM.k3 | exact hM.k4 | exact hM.k5 | exact hM.k6 | exact hM.k7 | exact hM.k8 | exact hM.k9 | exact hM.k10 | exact hM.k11 | exact hM.k12 | exact hM.k13 | exact hM.k14 | exact hM.k15 | exact hM.k16 | exact hM.k17) rfl dX8_parcelsAt_29 (fun r29 s29 q29 => ?_)
        obtain ⟨rfl, rfl⟩ := q29
        refine P_iflt dX8_parcelsAt_32 (tgt := 39) rfl (fun h32 => ?_) (fun h32 => ?_)
        · rw [n_nn (j := i) (by omega)] at h32
          refine P_iconst (v := 0) rfl dX8_parcelsAt_39 ?_
          refine P_iadd dX8_parcelsAt_40 ?_
          refine P_is2 (Or.inl dX8_parcelsAt_41) rfl rfl ?_
          refine P_inN3 dX8_parcelsAt_42 rfl rfl ?_
          refine P_goto dX8_parcelsAt_45 (tgt := 4) rfl ?_
          have e2 := ih (i + 1) (by omega)
          unfold x_num at e2
          rw [if_neg (by rw [Bool.and_eq_true, decide_eq_true_eq, decide_eq_true_eq]; exact fun hh => Int32.not_lt.mpr hh.2 h32)] at e2
          exact e2
        · rw [n_nn (j := i) (by omega)] at h32
          refine P_iconst (v := 1) rfl dX8_parcelsAt_35 ?_
          refine P_goto dX8_parcelsAt_36 (tgt := 40) rfl ?_
          refine P_iadd dX8_parcelsAt_40 ?_
          refine P_is2 (Or.inl dX8_parcelsAt_41) rfl rfl ?_
          refine P_inN3 dX8_parcelsAt_42 rfl rfl ?_
          refine P_goto dX8_parcelsAt_45 (tgt := 4) rfl ?_
          have e2 := ih (i + 1) (by omega)
          unfold x_num at e2
          rw [if_pos (by rw [Bool.and_eq_true, decide_eq_true_eq, decide_eq_true_eq]; exact ⟨h22, Int32.not_lt.mp h32⟩)] at e2
          exact e2
  refine P_iconst (v := 0) rfl dX8_parcelsAt_0 ?_
  refine P_is2 (Or.inl dX8_parcelsAt_1) rfl rfl ?_
  refine P_iconst (v := 0) rfl dX8_parcelsAt_2 ?_
  refine P_is3 (Or.inl dX8_parcelsAt_3) rfl rfl ?_
  exact loop (xp X) 0 (by omega)
theorem s_nextArrival (hM : WM L m) (hA : RA AI m X) : Sp g 1 iX8_nextArrival [vr m] (L, FI, AI, AL, AR) (0, 0) (QI (L, FI, AI, AL, AR) (x_next X (xS X).length)) := by
  refine Sp.of (ls := [some (vr m), none, none]) (by decide +kernel) rfl rfl ?_
  have hs30 := hA.s300
  have loop : ∀ n i, i + n = (xS X).length → P g 1 iX8_nextArrival 5 [some (vr m), some (vi (x_next X i)), some (vi (Int32.ofNat i))] [] (L, FI, AI, AL, AR) (0, 0) (QI (L, FI, AI, AL, AR) (x_next X (xS X).length)) := by
    intro n
    induction n with
    | zero =>
      intro i hi
      refine P_iloadn (i := 2) rfl rfl dX8_nextArrival_5 ?_
      refine P_aloadn (i := 0) rfl rfl dX8_nextArrival_6 ?_
      refine gX8_7 rfl (by first | exact hM.k0 | exact hM.k1 | exact hM.k2 | exact hM.k3 | exact hM.k4 | exact hM.k5 | exact hM.k6 | exact hM.k7 | exact hM.k8 | exact hM.k9 | exact hM.k10 | exact hM.k11 | exact hM.k12 | exact hM.k13 | exact hM.k14 | exact hM.k15 | exact hM.k16 | exact hM.k17) hM.r256 dX8_nextArrival_7 ?_
      refine P_iconst (v := 3) rfl dX8_nextArrival_10 ?_
      refine P_iaN (j := 3) (by first | exact hM.k0 | exact hM.k1 | exact hM.k2 | exact hM.k3 | exact hM.k4 | exact hM.k5 | exact hM.k6 | exact hM.k7 | exact hM.k8 | exact hM.k9 | exact hM.k10 | exact hM.k11 | exact hM.k12 | exact hM.k13 | exact hM.k14 | exact hM.k15 | exact hM.k16 | exact hM.k17) rfl (by first | omega | (simp only [hM.l1, hM.l2, hM.l3, hM.l4, hM.l5, hM.l6, hM.l7, hM.l8, hM.l9, hM.l10, hM.l11, hM.l12, hM.l13, hM.l14, hM.l15, hM.l16, hM.l17]; omega)) (by first | omega | (simp only [hM.l1, hM.l2, hM.l3, hM.l4, hM.l5, hM.l6, hM.l7, hM.l8, hM.l9, hM.l10, hM.l11, hM.l12, hM.l13, hM.l14, hM.l15, hM.l16, hM.l17]; omega)) hA.ns dX8_nextArrival_11 ?_
      refine P_icmpge dX8_nextArrival_12 (tgt := 48) rfl (fun h12 => ?_) (fun h12 => absurd ((n_le (by omega) (by omega)).mpr (by omega)) h12)
      refine P_iloadn (i := 1) rfl rfl dX8_nextArrival_48 ?_
      refine P_ireturn rfl dX8_nextArrival_49 ?_
      have e : i = (xS X).length := (by omega)
      subst e
      exact ⟨rfl, rfl⟩
    | succ n ih =>
      intro i hi
      refine P_iloadn (i := 2) rfl rfl dX8_nextArrival_5 ?_
      refine P_aloadn (i := 0) rfl rfl dX8_nextArrival_6 ?_
      refine gX8_7 rfl (by first | exact hM.k0 | exact hM.k1 | exact hM.k2 | exact hM.k3 | exact hM.k4 | exact hM.k5 | exact hM.k6 | exact hM.k7 | exact hM.k8 | exact hM.k9 | exact hM.k10 | exact hM.k11 | exact hM.k12 | exact hM.k13 | exact hM.k14 | exact hM.k15 | exact hM.k16 | exact hM.k17) hM.r256 dX8_nextArrival_7 ?_
      refine P_iconst (v := 3) rfl dX8_nextArrival_10 ?_
      refine P_iaN (j := 3) (by first | exact hM.k0 | exact hM.k1 | exact hM.k2 | exact hM.k3 | exact hM.k4 | exact hM.k5 | exact hM.k6 | exact hM.k7 | exact hM.k8 | exact hM.k9 | exact hM.k10 | exact hM.k11 | exact hM.k12 | exact hM.k13 | exact hM.k14 | exact hM.k15 | exact hM.k16 | exact hM.k17) rfl (by first | omega | (simp only [hM.l1, hM.l2, hM.l3, hM.l4, hM.l5, hM.l6, hM.l7, hM.l8, hM.l9, hM.l10, hM.l11, hM.l12, hM.l13, hM.l14, hM.l15, hM.l16, hM.l17]; omega)) (by first | omega | (simp only [hM.l1, hM.l2, hM.l3, hM.l4, hM.l5, hM.l6, hM.l7, hM.l8, hM.l9, hM.l10, hM.l11, hM.l12, hM.l13, hM.l14, hM.l15, hM.l16, hM.l17]; omega)) hA.ns dX8_nextArrival_11 ?_
      refine P_icmpge dX8_nextArrival_12 (tgt := 48) rfl (fun h12 => absurd h12 (fun h9 => by rw [n_le (by omega) (by omega)] at h9; omega)) (fun h12 => ?_)
      refine P_iloadn (i := 1) rfl rfl dX8_nextArrival_15 ?_
      refine P_iflt dX8_nextArrival_16 (tgt := 30) rfl (fun h16 => ?_) (fun h16 => ?_)
      · refine P_aloadn (i := 0) rfl rfl dX8_nextArrival_30 ?_
        refine P_iloadn (i := 2) rfl rfl dX8_nextArrival_31 ?_
        refine P_bipush (v := 6) rfl dX8_nextArrival_32 ?_
        refine kX8_108 rfl (s_ofS hM hA (k := 6) (by exact ib.of (by omega) (by omega)) rfl (by decide)) (by decide) (by first | exact hM.k0 | exact hM.k1 | exact hM.k2 | exact hM.k3 | exact hM.k4 | exact hM.k5 | exact hM.k6 | exact hM.k7 | exact hM.k8 | exact hM.k9 | exact hM.k10 | exact hM.k11 | exact hM.k12 | exact hM.k13 | exact hM.k14 | exact hM.k15 | exact hM.k16 | exact hM.k17) rfl dX8_nextArrival_34 (fun r34 s34 q34 => ?_)
        obtain ⟨rfl, rfl⟩ := q34
        rw [n_nn (j := i) (by omega), show x_sl (x_at X i) 6 = (x_at X i).2.2.2.2.2.2.1 from rfl]
        refine P_goto dX8_nextArrival_37 (tgt := 41) rfl ?_
        refine P_is1 (Or.inl dX8_nextArrival_41) rfl rfl ?_
        refine P_inN2 dX8_nextArrival_42 rfl rfl ?_
        refine P_goto dX8_nextArrival_45 (tgt := 5) rfl ?_
        have e2 := ih (i + 1) (by omega)
        rw [show x_next X (i + 1) = (x_at X i).2.2.2.2.2.2.1 from if_pos (Or.inl h16)] at e2
        exact e2
      · refine P_aloadn (i := 0) rfl rfl dX8_nextArrival_19 ?_
        refine P_iloadn (i := 2) rfl rfl dX8_nextArrival_20 ?_
        refine P_bipush (v := 6) rfl dX8_nextArrival_21 ?_
        refine kX8_108 rfl (s_ofS hM hA (k := 6) (by exact ib.of (by omega) (by omega)) rfl (by decide)) (by decide) (by first | exact hM.k0 | exact hM.k1 | exact hM.k2 | exact hM.k3 | exact hM.k4 | exact hM.k5 | exact hM.k6 | exact hM.k7 | exact hM.k8 | exact hM.k9 | exact hM.k10 | exact hM.k11 | exact hM.k12 | exact hM.k13 | exact hM.k14 | exact hM.k15 | exact hM.k16 | exact hM.k17) rfl dX8_nextArrival_23 (fun r23 s23 q23 => ?_)
        obtain ⟨rfl, rfl⟩ := q23
        rw [n_nn (j := i) (by omega), show x_sl (x_at X i) 6 = (x_at X i).2.2.2.2.2.2.1 from rfl]
        refine P_iloadn (i := 1) rfl rfl dX8_nextArrival_26 ?_
        refine P_icmpge dX8_nextArrival_27 (tgt := 40) rfl (fun h27 => ?_) (fun h27 => ?_)
        · refine P_iloadn (i := 1) rfl rfl dX8_nextArrival_40 ?_
          refine P_is1 (Or.inl dX8_nextArrival_41) rfl rfl ?_
          refine P_inN2 dX8_nextArrival_42 rfl rfl ?_
          refine P_goto dX8_nextArrival_45 (tgt := 5) rfl ?_
          have e2 := ih (i + 1) (by omega)
          rw [show x_next X (i + 1) = x_next X i from if_neg (fun hh => hh.elim h16 (fun h7 => Int32.not_lt.mpr h27 h7))] at e2
          exact e2
        · refine P_aloadn (i := 0) rfl rfl dX8_nextArrival_30 ?_
          refine P_iloadn (i := 2) rfl rfl dX8_nextArrival_31 ?_
          refine P_bipush (v := 6) rfl dX8_nextArrival_32 ?_
          refine kX8_108 rfl (s_ofS hM hA (k := 6) (by exact ib.of (by omega) (by omega)) rfl (by decide)) (by decide) (by first | exact hM.k0 | exact hM.k1 | exact hM.k2 | exact hM.k3 | exact hM.k4 | exact hM.k5 | exact hM.k6 | exact hM.k7 | exact hM.k8 | exact hM.k9 | exact hM.k10 | exact hM.k11 | exact hM.k12 | exact hM.k13 | exact hM.k14 | exact hM.k15 | exact hM.k16 | exact hM.k17) rfl dX8_nextArrival_34 (fun r34 s34 q34 => ?_)
          obtain ⟨rfl, rfl⟩ := q34
          rw [n_nn (j := i) (by omega), show x_sl (x_at X i) 6 = (x_at X i).2.2.2.2.2.2.1 from rfl]
          refine P_goto dX8_nextArrival_37 (tgt := 41) rfl ?_
          refine P_is1 (Or.inl dX8_nextArrival_41) rfl rfl ?_
          refine P_inN2 dX8_nextArrival_42 rfl rfl ?_
          refine P_goto dX8_nextArrival_45 (tgt := 5) rfl ?_
          have e2 := ih (i + 1) (by omega)
          rw [show x_next X (i + 1) = (x_at X i).2.2.2.2.2.2.1 from if_pos (Or.inr (Int32.not_le.mp h27))] at e2
          exact e2
  refine P_bipush (v := (-6)) rfl dX8_nextArrival_0 ?_
  refine P_is1 (Or.inl dX8_nextArrival_2) rfl rfl ?_
  refine P_iconst (v := 0) rfl dX8_nextArrival_3 ?_
  refine P_is2 (Or.inl dX8_nextArrival_4) rfl rfl ?_
  exact loop (xS X).length 0 (by omega)
theorem s_firstMissing (hM : WM L m) (hA : RA AI m X) {p : Int32} (hp : ib p (xp X)) : Sp g 1 iX8_firstMissing [vr m, vi p] (L, FI, AI, AL, AR) (0, 0) (QI (L, FI, AI, AL, AR) (Int32.ofNat (x_fm (xT X (nn p)) 4000 0))) := by
  refine Sp.of (ls := [some (vr m), some (vi p), none]) (by decide +kernel) rfl rfl ?_
  have hp9 := hp.nn
  have hp40 := hA.p40
  have loop : ∀ n i, i + n = 4000 → x_fm (xT X (nn p)) 4000 0 = x_fm (xT X (nn p)) n i → P g 1 iX8_firstMissing 2 [some (vr m), some (vi p), some (vi (Int32.ofNat i))] [] (L, FI, AI, AL, AR) (0, 0) (QI (L, FI, AI, AL, AR) (Int32.ofNat (x_fm (xT X (nn p)) 4000 0))) := by
    intro n
    induction n with
    | zero =>
      intro i hi hf
      refine P_iloadn (i := 2) rfl rfl dX8_firstMissing_2 ?_
      refine P_sipush (v := 4000) rfl dX8_firstMissing_3 ?_
      refine P_icmpge dX8_firstMissing_6 (tgt := 30) rfl (fun h6 => ?_) (fun h6 => absurd ((n_le (a := 4000) (b := i) (by omega) (by omega)).mpr (by omega)) h6)
      refine P_iloadn (i := 2) rfl rfl dX8_firstMissing_30 ?_
      refine P_ireturn rfl dX8_firstMissing_31 ?_
      rw [hf]
      exact ⟨rfl, rfl⟩
    | succ n ih =>
      intro i hi hf
      refine P_iloadn (i := 2) rfl rfl dX8_firstMissing_2 ?_
      refine P_sipush (v := 4000) rfl dX8_firstMissing_3 ?_
      refine P_icmpge dX8_firstMissing_6 (tgt := 30) rfl (fun h6 => absurd h6 (fun h9 => by have h8 := (n_le (a := 4000) (b := i) (by omega) (by omega)).mp h9; omega)) (fun h6 => ?_)
      refine P_aloadn (i := 0) rfl rfl dX8_firstMissing_9 ?_
      refine gX8_14 rfl (by first | exact hM.k0 | exact hM.k1 | exact hM.k2 | exact hM.k3 | exact hM.k4 | exact hM.k5 | exact hM.k6 | exact hM.k7 | exact hM.k8 | exact hM.k9 | exact hM.k10 | exact hM.k11 | exact hM.k12 | exact hM.k13 | exact hM.k14 | exact hM.k15 | exact hM.k16 | exact hM.k17) hM.r257 dX8_firstMissing_10 ?_
      refine P_sipush (v := 4000) rfl dX8_firstMissing_13 ?_
      refine P_iloadn (i := 1) rfl rfl dX8_firstMissing_16 ?_
      refine P_imul dX8_firstMissing_17 ?_
      refine P_iloadn (i := 2) rfl rfl dX8_firstMissing_18 ?_
      refine P_iadd dX8_firstMissing_19 ?_
      refine P_iaN (j := 4000 * nn p + i) (by first | exact hM.k0 | exact hM.k1 | exact hM.k2 | exact hM.k3 | exact hM.k4 | exact hM.k5 | exact hM.k6 | exact hM.k7 | exact hM.k8 | exact hM.k9 | exact hM.k10 | exact hM.k11 | exact hM.k12 | exact hM.k13 | exact hM.k14 | exact hM.k15 | exact hM.k16 | exact hM.k17) (n_idt hp i) (by first | omega | (simp only [hM.l1, hM.l2, hM.l3, hM.l4, hM.l5, hM.l6, hM.l7, hM.l8, hM.l9, hM.l10, hM.l11, hM.l12, hM.l13, hM.l14, hM.l15, hM.l16, hM.l17]; omega)) (by first | omega | (simp only [hM.l1, hM.l2, hM.l3, hM.l4, hM.l5, hM.l6, hM.l7, hM.l8, hM.l9, hM.l10, hM.l11, hM.l12, hM.l13, hM.l14, hM.l15, hM.l16, hM.l17]; omega)) (hA.tt hp9 (by omega)) dX8_firstMissing_20 ?_
      refine P_iflt dX8_firstMissing_21 (tgt := 30) rfl (fun h21 => ?_) (fun h21 => ?_)
      · refine P_iloadn (i := 2) rfl rfl dX8_firstMissing_30 ?_
        refine P_ireturn rfl dX8_firstMissing_31 ?_
        rw [hf, show x_fm (xT X (nn p)) (n + 1) i = i from if_neg (Int32.not_le.mpr h21)]
        exact ⟨rfl, rfl⟩
      · refine P_inN2 dX8_firstMissing_24 rfl rfl ?_
        refine P_goto dX8_firstMissing_27 (tgt := 2) rfl ?_
        refine ih (i + 1) (by omega) ?_
        rw [hf]
        exact if_pos (Int32.not_lt.mp h21)
  refine P_iconst (v := 0) rfl dX8_firstMissing_0 ?_
  refine P_is2 (Or.inl dX8_firstMissing_1) rfl rfl ?_
  exact loop 4000 0 (by omega) rfl
theorem s_byteAt (hM : WM L m) (hA : RA AI m X) {p b : Int32} : Sp g 2 iX8_byteAt [vr m, vi p, vi b] (L, FI, AI, AL, AR) (0, 0) (QI (L, FI, AI, AL, AR) (a_byteAt X p b)) := by
  refine Sp.of (ls := [some (vr m), some (vi p), some (vi b), none]) (by decide +kernel) rfl rfl ?_
  have hp40 := hA.p40
  refine P_aloadn (i := 0) rfl rfl dX8_byteAt_0 ?_
  refine P_iloadn (i := 1) rfl rfl dX8_byteAt_1 ?_
  refine kX8_131 rfl (s_isParcel hM hA) (by decide) (by first | exact hM.k0 | exact hM.k1 | exact hM.k2 | exact hM.k3 | exact hM.k4 | exact hM.k5 | exact hM.k6 | exact hM.k7 | exact hM.k8 | exact hM.k9 | exact hM.k10 | exact hM.k11 | exact hM.k12 | exact hM.k13 | exact hM.k14 | exact hM.k15 | exact hM.k16 | exact hM.k17) rfl dX8_byteAt_2 (fun r2 s2 q2 => ?_)
  obtain ⟨rfl, rfl⟩ := q2
  refine P_ifne dX8_byteAt_5 (tgt := 10) rfl (fun h5 => ?_) (fun h5 => ?_)
  · have hp : ib p (xp X) := q_ib_iff.mp (b_t h5)
    have hp9 := hp.nn
    refine P_iloadn (i := 2) rfl rfl dX8_byteAt_10 ?_
    refine P_iconst (v := 0) rfl dX8_byteAt_11 ?_
    refine P_sipush (v := 3999) rfl dX8_byteAt_12 ?_
    refine kX8_65 rfl s_X8_in (by decide) rfl dX8_byteAt_15 (fun r15 s15 q15 => ?_)
    obtain ⟨rfl, rfl⟩ := q15
    refine P_ifne dX8_byteAt_18 (tgt := 24) rfl (fun h18 => ?_) (fun h18 => ?_)
    · have hb2 := in_nn (a := 0) (b := 3999) (by decide) (by decide) (b_t h18)
      refine P_aloadn (i := 0) rfl rfl dX8_byteAt_24 ?_
      refine gX8_14 rfl (by first | exact hM.k0 | exact hM.k1 | exact hM.k2 | exact hM.k3 | exact hM.k4 | exact hM.k5 | exact hM.k6 | exact hM.k7 | exact hM.k8 | exact hM.k9 | exact hM.k10 | exact hM.k11 | exact hM.k12 | exact hM.k13 | exact hM.k14 | exact hM.k15 | exact hM.k16 | exact hM.k17) hM.r257 dX8_byteAt_25 ?_
      refine P_sipush (v := 4000) rfl dX8_byteAt_28 ?_
      refine P_iloadn (i := 1) rfl rfl dX8_byteAt_31 ?_
      refine P_imul dX8_byteAt_32 ?_
      refine P_iloadn (i := 2) rfl rfl dX8_byteAt_33 ?_
      refine P_iadd dX8_byteAt_34 ?_
      refine P_iaN (j := 4000 * nn p + nn b) (by first | exact hM.k0 | exact hM.k1 | exact hM.k2 | exact hM.k3 | exact hM.k4 | exact hM.k5 | exact hM.k6 | exact hM.k7 | exact hM.k8 | exact hM.k9 | exact hM.k10 | exact hM.k11 | exact hM.k12 | exact hM.k13 | exact hM.k14 | exact hM.k15 | exact hM.k16 | exact hM.k17) (by have h9 := n_idt hp (nn b); rw [← hb2.2.2] at h9; exact h9) (by first | omega | (simp only [hM.l1, hM.l2, hM.l3, hM.l4, hM.l5, hM.l6, hM.l7, hM.l8, hM.l9, hM.l10, hM.l11, hM.l12, hM.l13, hM.l14, hM.l15, hM.l16, hM.l17]; omega)) (by first | omega | (simp only [hM.l1, hM.l2, hM.l3, hM.l4, hM.l5, hM.l6, hM.l7, hM.l8, hM.l9, hM.l10, hM.l11, hM.l12, hM.l13, hM.l14, hM.l15, hM.l16, hM.l17]; omega)) (hA.tt hp9 (by omega)) dX8_byteAt_35 ?_
      refine P_is3 (Or.inl dX8_byteAt_36) rfl rfl ?_
      refine P_iloadn (i := 3) rfl rfl dX8_byteAt_37 ?_
      refine P_ifge dX8_byteAt_38 (tgt := 46) rfl (fun h38 => ?_) (fun h38 => ?_)
      · refine P_iloadn (i := 3) rfl rfl dX8_byteAt_46 ?_
        refine P_iloadn (i := 2) rfl rfl dX8_byteAt_47 ?_
        refine kX8_141 rfl s_byteOf8 (by decide) rfl dX8_byteAt_48 (fun r48 s48 q48 => ?_)
        obtain ⟨rfl, rfl⟩ := q48
        refine P_ireturn rfl dX8_byteAt_51 ?_
        rw [show a_byteAt X p b = c_byte (xT X (nn p) (nn b)) b from (if_neg (fun hh => hh (b_t h5))).trans ((if_neg (fun hh => hh (b_t h18))).trans (if_neg (Int32.not_lt.mpr h38)))]
        exact ⟨rfl, rfl⟩
      · refine P_bipush (v := (-6)) rfl dX8_byteAt_41 ?_
        refine P_goto dX8_byteAt_43 (tgt := 51) rfl ?_
        refine P_ireturn rfl dX8_byteAt_51 ?_
        rw [show a_byteAt X p b = -6 from (if_neg (fun hh => hh (b_t h5))).trans ((if_neg (fun hh => hh (b_t h18))).trans (if_pos (Int32.not_le.mp h38)))]
        exact ⟨rfl, rfl⟩
    · refine P_bipush (v := (-2)) rfl dX8_byteAt_21 ?_
      refine P_ireturn rfl dX8_byteAt_23 ?_
      rw [show a_byteAt X p b = -2 from (if_neg (fun hh => hh (b_t h5))).trans (if_pos (b_f h18))]
      exact ⟨rfl, rfl⟩
  · refine P_iconst (v := (-1)) rfl dX8_byteAt_8 ?_
    refine P_ireturn rfl dX8_byteAt_9 ?_
    rw [show a_byteAt X p b = -1 from if_pos (b_f h5)]
    exact ⟨rfl, rfl⟩
theorem s_ofBridge (hM : WM L m) (hA : RA AI m X) {b w : Int32} : Sp g 2 iX8_ofBridge [vr m, vi b, vi w] (L, FI, AI, AL, AR) (0, 0) (QI (L, FI, AI, AL, AR) (a_ofBridge X b w)) := by
  refine Sp.of (ls := [some (vr m), some (vi b), some (vi w)]) (by decide +kernel) rfl rfl ?_
  refine P_aloadn (i := 0) rfl rfl dX8_ofBridge_0 ?_
  refine P_iloadn (i := 1) rfl rfl dX8_ofBridge_1 ?_
  refine kX8_91 rfl (s_isBridge hM hA) (by decide) (by first | exact hM.k0 | exact hM.k1 | exact hM.k2 | exact hM.k3 | exact hM.k4 | exact hM.k5 | exact hM.k6 | exact hM.k7 | exact hM.k8 | exact hM.k9 | exact hM.k10 | exact hM.k11 | exact hM.k12 | exact hM.k13 | exact hM.k14 | exact hM.k15 | exact hM.k16 | exact hM.k17) rfl dX8_ofBridge_2 (fun r2 s2 q2 => ?_)
  obtain ⟨rfl, rfl⟩ := q2
  refine P_ifne dX8_ofBridge_5 (tgt := 10) rfl (fun h5 => ?_) (fun h5 => ?_)
  · have hb : ib b (xb X) := q_ib_iff.mp (b_t h5)
    refine P_iloadn (i := 2) rfl rfl dX8_ofBridge_10 ?_
    refine P_iconst (v := 0) rfl dX8_ofBridge_11 ?_
    refine P_bipush (v := 8) rfl dX8_ofBridge_12 ?_
    refine kX8_65 rfl s_X8_in (by decide) rfl dX8_ofBridge_14 (fun r14 s14 q14 => ?_)
    obtain ⟨rfl, rfl⟩ := q14
    refine P_ifeq dX8_ofBridge_17 (tgt := 29) rfl (fun h17 => ?_) (fun h17 => ?_)
    · refine P_bipush (v := (-2)) rfl dX8_ofBridge_29 ?_
      refine P_ireturn rfl dX8_ofBridge_31 ?_
      rw [show a_ofBridge X b w = -2 from (if_neg (fun hh => hh (b_t h5))).trans (if_neg (b_f h17))]
      exact ⟨rfl, rfl⟩
    · have hw := in_nn (a := 0) (b := 8) (by decide) (by decide) (b_t h17)
      refine P_aloadn (i := 0) rfl rfl dX8_ofBridge_20 ?_
      refine P_iloadn (i := 1) rfl rfl dX8_ofBridge_21 ?_
      refine P_iloadn (i := 2) rfl rfl dX8_ofBridge_22 ?_
      refine kX8_94 rfl (s_ofB hM hA (k := nn w) hb hw.2.2 (by omega)) (by decide) (by first | exact hM.k0 | exact hM.k1 | exact hM.k2 | exact hM.k3 | exact hM.k4 | exact hM.k5 | exact hM.k6 | exact hM.k7 | exact hM.k8 | exact hM.k9 | exact hM.k10 | exact hM.k11 | exact hM.k12 | exact hM.k13 | exact hM.k14 | exact hM.k15 | exact hM.k16 | exact hM.k17) rfl dX8_ofBridge_23 (fun r23 s23 q23 => ?_)
      obtain ⟨rfl, rfl⟩ := q23
      refine P_goto dX8_ofBridge_26 (tgt := 31) rfl ?_
      refine P_ireturn rfl dX8_ofBridge_31 ?_
      rw [show a_ofBridge X b w = xB X (nn b) (nn w) from (if_neg (fun hh => hh (b_t h5))).trans (if_pos (b_t h17))]
      exact ⟨rfl, rfl⟩
  · refine P_iconst (v := (-1)) rfl dX8_ofBridge_8 ?_
    refine P_ireturn rfl dX8_ofBridge_9 ?_
    rw [show a_ofBridge X b w = -1 from if_pos (b_f h5)]
    exact ⟨rfl, rfl⟩
theorem s_ofNode (hM : WM L m) (hA : RA AI m X) {n w : Int32} : Sp g 2 iX8_ofNode [vr m, vi n, vi w] (L, FI, AI, AL, AR) (0, 0) (QI (L, FI, AI, AL, AR) (a_ofNode X n w)) := by
  refine Sp.of (ls := [some (vr m), some (vi n), some (vi w)]) (by decide +kernel) rfl rfl ?_
  refine P_iloadn (i := 1) rfl rfl dX8_ofNode_0 ?_
  refine kX8_69 rfl s_isNode (by decide) rfl dX8_ofNode_1 (fun r1 s1 q1 => ?_)
  obtain ⟨rfl, rfl⟩ := q1
  refine P_ifne dX8_ofNode_4 (tgt := 9) rfl (fun h4 => ?_) (fun h4 => ?_)
  · have hn : ib n 8 := q_ib_iff.mp (b_t h4)
    refine P_iloadn (i := 2) rfl rfl dX8_ofNode_9 ?_
    refine P_iconst (v := 0) rfl dX8_ofNode_10 ?_
    refine P_iconst (v := 2) rfl dX8_ofNode_11 ?_
    refine kX8_65 rfl s_X8_in (by decide) rfl dX8_ofNode_12 (fun r12 s12 q12 => ?_)
    obtain ⟨rfl, rfl⟩ := q12
    refine P_ifeq dX8_ofNode_15 (tgt := 25) rfl (fun h15 => ?_) (fun h15 => ?_)
    · refine P_iloadn (i := 2) rfl rfl dX8_ofNode_25 ?_
      refine P_bipush (v := 10) rfl dX8_ofNode_26 ?_
      refine P_bipush (v := 17) rfl dX8_ofNode_28 ?_
      refine kX8_65 rfl s_X8_in (by decide) rfl dX8_ofNode_30 (fun r30 s30 q30 => ?_)
      obtain ⟨rfl, rfl⟩ := q30
      refine P_ifeq dX8_ofNode_33 (tgt := 48) rfl (fun h33 => ?_) (fun h33 => ?_)
      · refine P_iloadn (i := 2) rfl rfl dX8_ofNode_48 ?_
        refine P_iconst (v := 3) rfl dX8_ofNode_49 ?_
        refine P_icmpne dX8_ofNode_50 (tgt := 61) rfl (fun h50 => ?_) (fun h50 => ?_)
        · refine P_iloadn (i := 2) rfl rfl dX8_ofNode_61 ?_
          refine P_iconst (v := 4) rfl dX8_ofNode_62 ?_
          refine P_icmpne dX8_ofNode_63 (tgt := 74) rfl (fun h63 => ?_) (fun h63 => ?_)
          · refine P_bipush (v := (-2)) rfl dX8_ofNode_74 ?_
            refine P_ireturn rfl dX8_ofNode_76 ?_
            rw [show a_ofNode X n w = -2 from (if_neg (fun hh => hh (b_t h4))).trans ((if_neg (b_f h15)).trans ((if_neg (b_f h33)).trans ((if_neg h50).trans (if_neg h63))))]
            exact ⟨rfl, rfl⟩
          · refine P_aloadn (i := 0) rfl rfl dX8_ofNode_66 ?_
            refine P_iloadn (i := 1) rfl rfl dX8_ofNode_67 ?_
            refine kX8_199 rfl (s_parcelsAt hM hA) (by decide) (by first | exact hM.k0 | exact hM.k1 | exact hM.k2 | exact hM.k3 | exact hM.k4 | exact hM.k5 | exact hM.k6 | exact hM.k7 | exact hM.k8 | exact hM.k9 | exact hM.k10 | exact hM.k11 | exact hM.k12 | exact hM.k13 | exact hM.k14 | exact hM.k15 | exact hM.k16 | exact hM.k17) rfl dX8_ofNode_68 (fun r68 s68 q68 => ?_)
            obtain ⟨rfl, rfl⟩ := q68
            refine P_goto dX8_ofNode_71 (tgt := 76) rfl ?_
            refine P_ireturn rfl dX8_ofNode_76 ?_
            rw [show a_ofNode X n w = a_parcelsAt X n from (if_neg (fun hh => hh (b_t h4))).trans ((if_neg (b_f h15)).trans ((if_neg (b_f h33)).trans ((if_neg h50).trans (if_pos h63))))]
            exact ⟨rfl, rfl⟩
        · refine P_aloadn (i := 0) rfl rfl dX8_ofNode_53 ?_
          refine P_iloadn (i := 1) rfl rfl dX8_ofNode_54 ?_
          refine kX8_148 rfl (s_bytesAt hM hA) (by decide) (by first | exact hM.k0 | exact hM.k1 | exact hM.k2 | exact hM.k3 | exact hM.k4 | exact hM.k5 | exact hM.k6 | exact hM.k7 | exact hM.k8 | exact hM.k9 | exact hM.k10 | exact hM.k11 | exact hM.k12 | exact hM.k13 | exact hM.k14 | exact hM.k15 | exact hM.k16 | exact hM.k17) rfl dX8_ofNode_55 (fun r55 s55 q55 => ?_)
          obtain ⟨rfl, rfl⟩ := q55
          refine P_goto dX8_ofNode_58 (tgt := 76) rfl ?_
          refine P_ireturn rfl dX8_ofNode_76 ?_
          rw [show a_ofNode X n w = x_bytes (xP X) n (xp X) from (if_neg (fun hh => hh (b_t h4))).trans ((if_neg (b_f h15)).trans ((if_neg (b_f h33)).trans (if_pos h50)))]
          exact ⟨rfl, rfl⟩
      · have hw := in_nn (a := 10) (b := 17) (by decide) (by decide) (b_t h33)
        refine P_aloadn (i := 0) rfl rfl dX8_ofNode_36 ?_
        refine P_iloadn (i := 1) rfl rfl dX8_ofNode_37 ?_
        refine P_iconst (v := 3) rfl dX8_ofNode_38 ?_
        refine P_iloadn (i := 2) rfl rfl dX8_ofNode_39 ?_
        refine P_iadd dX8_ofNode_40 ?_
        refine P_bipush (v := 10) rfl dX8_ofNode_41 ?_
        refine P_isub dX8_ofNode_43 ?_
        refine kX8_152 rfl (s_ofN hM hA (k := 3 + (nn w - 10)) hn (n_315 (b_t h33)) (by omega)) (by decide) (by first | exact hM.k0 | exact hM.k1 | exact hM.k2 | exact hM.k3 | exact hM.k4 | exact hM.k5 | exact hM.k6 | exact hM.k7 | exact hM.k8 | exact hM.k9 | exact hM.k10 | exact hM.k11 | exact hM.k12 | exact hM.k13 | exact hM.k14 | exact hM.k15 | exact hM.k16 | exact hM.k17) rfl dX8_ofNode_44 (fun r44 s44 q44 => ?_)
        obtain ⟨rfl, rfl⟩ := q44
        refine P_ireturn rfl dX8_ofNode_47 ?_
        rw [show a_ofNode X n w = xN X (nn n) (3 + (nn w - 10)) from (if_neg (fun hh => hh (b_t h4))).trans ((if_neg (b_f h15)).trans (if_pos (b_t h33)))]
        exact ⟨rfl, rfl⟩
    · have hw := in_nn (a := 0) (b := 2) (by decide) (by decide) (b_t h15)
      refine P_aloadn (i := 0) rfl rfl dX8_ofNode_18 ?_
      refine P_iloadn (i := 1) rfl rfl dX8_ofNode_19 ?_
      refine P_iloadn (i := 2) rfl rfl dX8_ofNode_20 ?_
      refine kX8_152 rfl (s_ofN hM hA (k := nn w) hn hw.2.2 (by omega)) (by decide) (by first | exact hM.k0 | exact hM.k1 | exact hM.k2 | exact hM.k3 | exact hM.k4 | exact hM.k5 | exact hM.k6 | exact hM.k7 | exact hM.k8 | exact hM.k9 | exact hM.k10 | exact hM.k11 | exact hM.k12 | exact hM.k13 | exact hM.k14 | exact hM.k15 | exact hM.k16 | exact hM.k17) rfl dX8_ofNode_21 (fun r21 s21 q21 => ?_)
      obtain ⟨rfl, rfl⟩ := q21
      refine P_ireturn rfl dX8_ofNode_24 ?_
      rw [show a_ofNode X n w = xN X (nn n) (nn w) from (if_neg (fun hh => hh (b_t h4))).trans (if_pos (b_t h15))]
      exact ⟨rfl, rfl⟩
  · refine P_iconst (v := (-1)) rfl dX8_ofNode_7 ?_
    refine P_ireturn rfl dX8_ofNode_8 ?_
    rw [show a_ofNode X n w = -1 from if_pos (b_f h4)]
    exact ⟨rfl, rfl⟩
theorem s_ofParcel (hM : WM L m) (hA : RA AI m X) {M : Nat} (hI : XI M X) {p w : Int32} : Sp g 2 iX8_ofParcel [vr m, vi p, vi w] (L, FI, AI, AL, AR) (0, 0) (QI (L, FI, AI, AL, AR) (a_ofParcel X p w)) := by
  refine Sp.of (ls := [some (vr m), some (vi p), some (vi w)]) (by decide +kernel) rfl rfl ?_
  refine P_aloadn (i := 0) rfl rfl dX8_ofParcel_0 ?_
  refine P_iloadn (i := 1) rfl rfl dX8_ofParcel_1 ?_
  refine kX8_131 rfl (s_isParcel hM hA) (by decide) (by first | exact hM.k0 | exact hM.k1 | exact hM.k2 | exact hM.k3 | exact hM.k4 | exact hM.k5 | exact hM.k6 | exact hM.k7 | exact hM.k8 | exact hM.k9 | exact hM.k10 | exact hM.k11 | exact hM.k12 | exact hM.k13 | exact hM.k14 | exact hM.k15 | exact hM.k16 | exact hM.k17) rfl dX8_ofParcel_2 (fun r2 s2 q2 => ?_)
  obtain ⟨rfl, rfl⟩ := q2
  refine P_ifne dX8_ofParcel_5 (tgt := 10) rfl (fun h5 => ?_) (fun h5 => ?_)
  · have hp : ib p (xp X) := q_ib_iff.mp (b_t h5)
    have hp9 := hp.nn
    have hsz : ib (xP X (nn p) 2) 4001 := ⟨by have := (hI.2.2.2.1 _ hp9).1.2.2.1.1; omega, by have := (hI.2.2.2.1 _ hp9).1.2.2.1.2; omega⟩
    refine P_iloadn (i := 2) rfl rfl dX8_ofParcel_10 ?_
    refine P_iconst (v := 0) rfl dX8_ofParcel_11 ?_
    refine P_bipush (v := 6) rfl dX8_ofParcel_12 ?_
    refine kX8_65 rfl s_X8_in (by decide) rfl dX8_ofParcel_14 (fun r14 s14 q14 => ?_)
    obtain ⟨rfl, rfl⟩ := q14
    refine P_ifeq dX8_ofParcel_17 (tgt := 27) rfl (fun h17 => ?_) (fun h17 => ?_)
    · refine P_iloadn (i := 2) rfl rfl dX8_ofParcel_27 ?_
      by_cases e7 : w = 7
      · refine P_tabIn (off := 44) (tgt := 72) dX8_ofParcel_28 (by rw [e7]; decide) (by rw [e7]; decide) (by rw [e7]; rfl) rfl ?_
        refine P_aloadn (i := 0) rfl rfl dX8_ofParcel_72 ?_
        refine P_iloadn (i := 1) rfl rfl dX8_ofParcel_73 ?_
        refine kX8_202 rfl (s_slicesOf hM hA) (by decide) (by first | exact hM.k0 | exact hM.k1 | exact hM.k2 | exact hM.k3 | exact hM.k4 | exact hM.k5 | exact hM.k6 | exact hM.k7 | exact hM.k8 | exact hM.k9 | exact hM.k10 | exact hM.k11 | exact hM.k12 | exact hM.k13 | exact hM.k14 | exact hM.k15 | exact hM.k16 | exact hM.k17) rfl dX8_ofParcel_74 (fun r74 s74 q74 => ?_)
        obtain ⟨rfl, rfl⟩ := q74
        refine P_ireturn rfl dX8_ofParcel_77 ?_
        rw [show a_ofParcel X p w = a_slicesOf X p from (if_neg (fun hh => hh (b_t h5))).trans ((if_neg (b_f h17)).trans (if_pos e7))]
        exact ⟨rfl, rfl⟩
      by_cases e8 : w = 8
      · refine P_tabIn (off := 50) (tgt := 78) dX8_ofParcel_28 (by rw [e8]; decide) (by rw [e8]; decide) (by rw [e8]; rfl) rfl ?_
        refine P_aloadn (i := 0) rfl rfl dX8_ofParcel_78 ?_
        refine P_iloadn (i := 1) rfl rfl dX8_ofParcel_79 ?_
        refine P_bipush (v := 12) rfl dX8_ofParcel_80 ?_
        refine kX8_102 rfl (s_ofP hM hA (k := 12) hp rfl (by decide)) (by decide) (by first | exact hM.k0 | exact hM.k1 | exact hM.k2 | exact hM.k3 | exact hM.k4 | exact hM.k5 | exact hM.k6 | exact hM.k7 | exact hM.k8 | exact hM.k9 | exact hM.k10 | exact hM.k11 | exact hM.k12 | exact hM.k13 | exact hM.k14 | exact hM.k15 | exact hM.k16 | exact hM.k17) rfl dX8_ofParcel_82 (fun r82 s82 q82 => ?_)
        obtain ⟨rfl, rfl⟩ := q82
        refine P_ireturn rfl dX8_ofParcel_85 ?_
        rw [show a_ofParcel X p w = xP X (nn p) 12 from (if_neg (fun hh => hh (b_t h5))).trans ((if_neg (b_f h17)).trans ((if_neg e7).trans (if_pos e8)))]
        exact ⟨rfl, rfl⟩
      by_cases e9 : w = 9
      · refine P_tabIn (off := 58) (tgt := 86) dX8_ofParcel_28 (by rw [e9]; decide) (by rw [e9]; decide) (by rw [e9]; rfl) rfl ?_
        refine P_aloadn (i := 0) rfl rfl dX8_ofParcel_86 ?_
        refine P_iloadn (i := 1) rfl rfl dX8_ofParcel_87 ?_
        refine P_bipush (v := 8) rfl dX8_ofParcel_88 ?_
        refine kX8_102 rfl (s_ofP hM hA (k := 8) hp rfl (by decide)) (by decide) (by first | exact hM.k0 | exact hM.k1 | exact hM.k2 | exact hM.k3 | exact hM.k4 | exact hM.k5 | exact hM.k6 | exact hM.k7 | exact hM.k8 | exact hM.k9 | exact hM.k10 | exact hM.k11 | exact hM.k12 | exact hM.k13 | exact hM.k14 | exact hM.k15 | exact hM.k16 | exact hM.k17) rfl dX8_ofParcel_90 (fun r90 s90 q90 => ?_)
        obtain ⟨rfl, rfl⟩ := q90
        refine P_ireturn rfl dX8_ofParcel_93 ?_
        rw [show a_ofParcel X p w = xP X (nn p) 8 from (if_neg (fun hh => hh (b_t h5))).trans ((if_neg (b_f h17)).trans ((if_neg e7).trans ((if_neg e8).trans (if_pos e9))))]
        exact ⟨rfl, rfl⟩
      by_cases e10 : w = 10
      · refine P_tabIn (off := 66) (tgt := 94) dX8_ofParcel_28 (by rw [e10]; decide) (by rw [e10]; decide) (by rw [e10]; rfl) rfl ?_
        refine P_aloadn (i := 0) rfl rfl dX8_ofParcel_94 ?_
        refine P_iloadn (i := 1) rfl rfl dX8_ofParcel_95 ?_
        refine kX8_205 rfl (s_firstMissing hM hA hp) (by decide) (by first | exact hM.k0 | exact hM.k1 | exact hM.k2 | exact hM.k3 | exact hM.k4 | exact hM.k5 | exact hM.k6 | exact hM.k7 | exact hM.k8 | exact hM.k9 | exact hM.k10 | exact hM.k11 | exact hM.k12 | exact hM.k13 | exact hM.k14 | exact hM.k15 | exact hM.k16 | exact hM.k17) rfl dX8_ofParcel_96 (fun r96 s96 q96 => ?_)
        obtain ⟨rfl, rfl⟩ := q96
        refine P_ireturn rfl dX8_ofParcel_99 ?_
        rw [show a_ofParcel X p w = Int32.ofNat (x_fm (xT X (nn p)) 4000 0) from (if_neg (fun hh => hh (b_t h5))).trans ((if_neg (b_f h17)).trans ((if_neg e7).trans ((if_neg e8).trans ((if_neg e9).trans (if_pos e10)))))]
        exact ⟨rfl, rfl⟩
      by_cases e11 : w = 11
      · refine P_tabIn (off := 72) (tgt := 100) dX8_ofParcel_28 (by rw [e11]; decide) (by rw [e11]; decide) (by rw [e11]; rfl) rfl ?_
        refine P_aloadn (i := 0) rfl rfl dX8_ofParcel_100 ?_
        refine P_iloadn (i := 1) rfl rfl dX8_ofParcel_101 ?_
        refine P_bipush (v := 10) rfl dX8_ofParcel_102 ?_
        refine kX8_102 rfl (s_ofP hM hA (k := 10) hp rfl (by decide)) (by decide) (by first | exact hM.k0 | exact hM.k1 | exact hM.k2 | exact hM.k3 | exact hM.k4 | exact hM.k5 | exact hM.k6 | exact hM.k7 | exact hM.k8 | exact hM.k9 | exact hM.k10 | exact hM.k11 | exact hM.k12 | exact hM.k13 | exact hM.k14 | exact hM.k15 | exact hM.k16 | exact hM.k17) rfl dX8_ofParcel_104 (fun r104 s104 q104 => ?_)
        obtain ⟨rfl, rfl⟩ := q104
        refine P_ireturn rfl dX8_ofParcel_107 ?_
        rw [show a_ofParcel X p w = xP X (nn p) 10 from (if_neg (fun hh => hh (b_t h5))).trans ((if_neg (b_f h17)).trans ((if_neg e7).trans ((if_neg e8).trans ((if_neg e9).trans ((if_neg e10).trans (if_pos e11))))))]
        exact ⟨rfl, rfl⟩
      by_cases e12 : w = 12
      · refine P_tabIn (off := 80) (tgt := 108) dX8_ofParcel_28 (by rw [e12]; decide) (by rw [e12]; decide) (by rw [e12]; rfl) rfl ?_
        refine P_aloadn (i := 0) rfl rfl dX8_ofParcel_108 ?_
        refine P_iloadn (i := 1) rfl rfl dX8_ofParcel_109 ?_
        refine P_iconst (v := 3) rfl dX8_ofParcel_110 ?_
        refine kX8_102 rfl (s_ofP hM hA (k := 3) hp rfl (by decide)) (by decide) (by first | exact hM.k0 | exact hM.k1 | exact hM.k2 | exact hM.k3 | exact hM.k4 | exact hM.k5 | exact hM.k6 | exact hM.k7 | exact hM.k8 | exact hM.k9 | exact hM.k10 | exact hM.k11 | exact hM.k12 | exact hM.k13 | exact hM.k14 | exact hM.k15 | exact hM.k16 | exact hM.k17) rfl dX8_ofParcel_111 (fun r111 s111 q111 => ?_)
        obtain ⟨rfl, rfl⟩ := q111
        refine P_aloadn (i := 0) rfl rfl dX8_ofParcel_114 ?_
        refine P_iloadn (i := 1) rfl rfl dX8_ofParcel_115 ?_
        refine P_iconst (v := 2) rfl dX8_ofParcel_116 ?_
        refine kX8_102 rfl (s_ofP hM hA (k := 2) hp rfl (by decide)) (by decide) (by first | exact hM.k0 | exact hM.k1 | exact hM.k2 | exact hM.k3 | exact hM.k4 | exact hM.k5 | exact hM.k6 | exact hM.k7 | exact hM.k8 | exact hM.k9 | exact hM.k10 | exact hM.k11 | exact hM.k12 | exact hM.k13 | exact hM.k14 | exact hM.k15 | exact hM.k16 | exact hM.k17) rfl dX8_ofParcel_117 (fun r117 s117 q117 => ?_)
        obtain ⟨rfl, rfl⟩ := q117
        refine kX8_158 rfl (s_sumOf hsz) (by decide) rfl dX8_ofParcel_120 (fun r120 s120 q120 => ?_)
        obtain ⟨rfl, rfl⟩ := q120
        refine P_ireturn rfl dX8_ofParcel_123 ?_
        rw [show a_ofParcel X p w = x_sum (xP X (nn p) 3) (xP X (nn p) 2) from (if_neg (fun hh => hh (b_t h5))).trans ((if_neg (b_f h17)).trans ((if_neg e7).trans ((if_neg e8).trans ((if_neg e9).trans ((if_neg e10).trans ((if_neg e11).trans (if_pos e12)))))))]
        exact ⟨rfl, rfl⟩
      by_cases e13 : w = 13
      · refine P_tabIn (off := 96) (tgt := 124) dX8_ofParcel_28 (by rw [e13]; decide) (by rw [e13]; decide) (by rw [e13]; rfl) rfl ?_
        refine P_aloadn (i := 0) rfl rfl dX8_ofParcel_124 ?_
        refine P_iloadn (i := 1) rfl rfl dX8_ofParcel_125 ?_
        refine P_bipush (v := 11) rfl dX8_ofParcel_126 ?_
        refine kX8_102 rfl (s_ofP hM hA (k := 11) hp rfl (by decide)) (by decide) (by first | exact hM.k0 | exact hM.k1 | exact hM.k2 | exact hM.k3 | exact hM.k4 | exact hM.k5 | exact hM.k6 | exact hM.k7 | exact hM.k8 | exact hM.k9 | exact hM.k10 | exact hM.k11 | exact hM.k12 | exact hM.k13 | exact hM.k14 | exact hM.k15 | exact hM.k16 | exact hM.k17) rfl dX8_ofParcel_128 (fun r128 s128 q128 => ?_)
        obtain ⟨rfl, rfl⟩ := q128
        refine P_ireturn rfl dX8_ofParcel_131 ?_
        rw [show a_ofParcel X p w = xP X (nn p) 11 from (if_neg (fun hh => hh (b_t h5))).trans ((if_neg (b_f h17)).trans ((if_neg e7).trans ((if_neg e8).trans ((if_neg e9).trans ((if_neg e10).trans ((if_neg e11).trans ((if_neg e12).trans (if_pos e13))))))))]
        exact ⟨rfl, rfl⟩
      refine P_tabOut (tgt := 132) dX8_ofParcel_28 (by
        have hne : ∀ k : Nat, k < 2147483648 → ¬ w = Int32.ofNat k → ¬ w.toInt = (k : Int) := fun k hk h1 h2 => h1 (i_eq.mpr (by rw [n_int hk]; exact h2))
        have f7 := hne 7 (by decide) e7
        have f8 := hne 8 (by decide) e8
        have f9 := hne 9 (by decide) e9
        have f10 := hne 10 (by decide) e10
        have f11 := hne 11 (by decide) e11
        have f12 := hne 12 (by decide) e12
        have f13 := hne 13 (by decide) e13
        omega) rfl ?_
      refine P_bipush (v := (-2)) rfl dX8_ofParcel_132 ?_
      refine P_ireturn rfl dX8_ofParcel_134 ?_
      rw [show a_ofParcel X p w = -2 from (if_neg (fun hh => hh (b_t h5))).trans ((if_neg (b_f h17)).trans ((if_neg e7).trans ((if_neg e8).trans ((if_neg e9).trans ((if_neg e10).trans ((if_neg e11).trans ((if_neg e12).trans (if_neg e13))))))))]
      exact ⟨rfl, rfl⟩
    · have hw := in_nn (a := 0) (b := 6) (by decide) (by decide) (b_t h17)
      refine P_aloadn (i := 0) rfl rfl dX8_ofParcel_20 ?_
      refine P_iloadn (i := 1) rfl rfl dX8_ofParcel_21 ?_
      refine P_iloadn (i := 2) rfl rfl dX8_ofParcel_22 ?_
      refine kX8_102 rfl (s_ofP hM hA (k := nn w) hp hw.2.2 (by omega)) (by decide) (by first | exact hM.k0 | exact hM.k1 | exact hM.k2 | exact hM.k3 | exact hM.k4 | exact hM.k5 | exact hM.k6 | exact hM.k7 | exact hM.k8 | exact hM.k9 | exact hM.k10 | exact hM.k11 | exact hM.k12 | exact hM.k13 | exact hM.k14 | exact hM.k15 | exact hM.k16 | exact hM.k17) rfl dX8_ofParcel_23 (fun r23 s23 q23 => ?_)
      obtain ⟨rfl, rfl⟩ := q23
      refine P_ireturn rfl dX8_ofParcel_26 ?_
      rw [show a_ofParcel X p w = xP X (nn p) (nn w) from (if_neg (fun hh => hh (b_t h5))).trans (if_pos (b_t h17))]
      exact ⟨rfl, rfl⟩
  · refine P_iconst (v := (-1)) rfl dX8_ofParcel_8 ?_
    refine P_ireturn rfl dX8_ofParcel_9 ?_
    rw [show a_ofParcel X p w = -1 from if_pos (b_f h5)]
    exact ⟨rfl, rfl⟩
theorem s_count (hM : WM L m) (hZ : RZ FI AI m Z) {w : Int32} : Sp g 2 iX8_count [vr m, vi w] (L, FI, AI, AL, AR) (0, 0) (QI (L, FI, AI, AL, AR) (a_count Z w)) := by
  refine Sp.of (ls := [some (vr m), some (vi w)]) (by decide +kernel) rfl rfl ?_
  refine P_iloadn (i := 1) rfl rfl dX8_count_0 ?_
  refine P_iconst (v := 0) rfl dX8_count_1 ?_
  refine P_bipush (v := 6) rfl dX8_count_2 ?_
  refine kX8_65 rfl s_X8_in (by decide) rfl dX8_count_4 (fun r4 s4 q4 => ?_)
  obtain ⟨rfl, rfl⟩ := q4
  refine P_ifeq dX8_count_7 (tgt := 17) rfl (fun h7 => ?_) (fun h7 => ?_)
  · refine P_iloadn (i := 1) rfl rfl dX8_count_17 ?_
    refine P_bipush (v := 11) rfl dX8_count_18 ?_
    refine P_bipush (v := 17) rfl dX8_count_20 ?_
    refine kX8_65 rfl s_X8_in (by decide) rfl dX8_count_22 (fun r22 s22 q22 => ?_)
    obtain ⟨rfl, rfl⟩ := q22
    refine P_ifeq dX8_count_25 (tgt := 41) rfl (fun h25 => ?_) (fun h25 => ?_)
    · refine P_iloadn (i := 1) rfl rfl dX8_count_41 ?_
      refine P_bipush (v := 20) rfl dX8_count_42 ?_
      refine P_bipush (v := 25) rfl dX8_count_44 ?_
      refine kX8_65 rfl s_X8_in (by decide) rfl dX8_count_46 (fun r46 s46 q46 => ?_)
      obtain ⟨rfl, rfl⟩ := q46
      refine P_ifeq dX8_count_49 (tgt := 61) rfl (fun h49 => ?_) (fun h49 => ?_)
      · refine P_iloadn (i := 1) rfl rfl dX8_count_61 ?_
        by_cases e7 : w = 7
        · refine P_tabIn (off := 26) (tgt := 88) dX8_count_62 (by rw [e7]; decide) (by rw [e7]; decide) (by rw [e7]; rfl) rfl ?_
          refine P_aloadn (i := 0) rfl rfl dX8_count_88 ?_
          refine gX8_211 rfl (by first | exact hM.k0 | exact hM.k1 | exact hM.k2 | exact hM.k3 | exact hM.k4 | exact hM.k5 | exact hM.k6 | exact hM.k7 | exact hM.k8 | exact hM.k9 | exact hM.k10 | exact hM.k11 | exact hM.k12 | exact hM.k13 | exact hM.k14 | exact hM.k15 | exact hM.k16 | exact hM.k17) hZ.pn dX8_count_89 ?_
          refine P_ireturn rfl dX8_count_92 ?_
          rw [show a_count Z w = Int32.ofNat (zn Z) from (if_neg (b_f h7)).trans ((if_neg (b_f h25)).trans ((if_neg (b_f h49)).trans (if_pos e7)))]
          exact ⟨rfl, rfl⟩
        by_cases e8 : w = 8
        · refine P_tabIn (off := 31) (tgt := 93) dX8_count_62 (by rw [e8]; decide) (by rw [e8]; decide) (by rw [e8]; rfl) rfl ?_
          refine P_aloadn (i := 0) rfl rfl dX8_count_93 ?_
          refine gX8_73 rfl (by first | exact hM.k0 | exact hM.k1 | exact hM.k2 | exact hM.k3 | exact hM.k4 | exact hM.k5 | exact hM.k6 | exact hM.k7 | exact hM.k8 | exact hM.k9 | exact hM.k10 | exact hM.k11 | exact hM.k12 | exact hM.k13 | exact hM.k14 | exact hM.k15 | exact hM.k16 | exact hM.k17) hZ.pk dX8_count_94 ?_
          refine P_ireturn rfl dX8_count_97 ?_
          rw [show a_count Z w = Int32.ofNat (zk Z) from (if_neg (b_f h7)).trans ((if_neg (b_f h25)).trans ((if_neg (b_f h49)).trans ((if_neg e7).trans (if_pos e8))))]
          exact ⟨rfl, rfl⟩
        by_cases e9 : w = 9
        · refine P_tabIn (off := 36) (tgt := 98) dX8_count_62 (by rw [e9]; decide) (by rw [e9]; decide) (by rw [e9]; rfl) rfl ?_
          refine P_aloadn (i := 0) rfl rfl dX8_count_98 ?_
          refine kX8_214 rfl (s_nextArrival hM hZ.x) (by decide) (by first | exact hM.k0 | exact hM.k1 | exact hM.k2 | exact hM.k3 | exact hM.k4 | exact hM.k5 | exact hM.k6 | exact hM.k7 | exact hM.k8 | exact hM.k9 | exact hM.k10 | exact hM.k11 | exact hM.k12 | exact hM.k13 | exact hM.k14 | exact hM.k15 | exact hM.k16 | exact hM.k17) rfl dX8_count_99 (fun r99 s99 q99 => ?_)
          obtain ⟨rfl, rfl⟩ := q99
          refine P_ireturn rfl dX8_count_102 ?_
          rw [show a_count Z w = x_next (zX Z) (xS (zX Z)).length from (if_neg (b_f h7)).trans ((if_neg (b_f h25)).trans ((if_neg (b_f h49)).trans ((if_neg e7).trans ((if_neg e8).trans (if_pos e9)))))]
          exact ⟨rfl, rfl⟩
        refine P_tabOut (tgt := 103) dX8_count_62 (by
          have hne : ∀ k : Nat, k < 2147483648 → ¬ w = Int32.ofNat k → ¬ w.toInt = (k : Int) := fun k hk h1 h2 => h1 (i_eq.mpr (by rw [n_int hk]; exact h2))
          have f7 := hne 7 (by decide) e7
          have f8 := hne 8 (by decide) e8
          have f9 := hne 9 (by decide) e9
          omega) rfl ?_
        refine P_bipush (v := (-2)) rfl dX8_count_103 ?_
        refine P_ireturn rfl dX8_count_105 ?_
        rw [show a_count Z w = -2 from (if_neg (b_f h7)).trans ((if_neg (b_f h25)).trans ((if_neg (b_f h49)).trans ((if_neg e7).trans ((if_neg e8).trans (if_neg e9)))))]
        exact ⟨rfl, rfl⟩
      · refine P_aloadn (i := 0) rfl rfl dX8_count_52 ?_
        refine P_iloadn (i := 1) rfl rfl dX8_count_53 ?_
        refine P_bipush (v := 20) rfl dX8_count_54 ?_
        refine P_isub dX8_count_56 ?_
        refine kX8_208 rfl (s_parcelsIn hM hZ.x) (by decide) (by first | exact hM.k0 | exact hM.k1 | exact hM.k2 | exact hM.k3 | exact hM.k4 | exact hM.k5 | exact hM.k6 | exact hM.k7 | exact hM.k8 | exact hM.k9 | exact hM.k10 | exact hM.k11 | exact hM.k12 | exact hM.k13 | exact hM.k14 | exact hM.k15 | exact hM.k16 | exact hM.k17) rfl dX8_count_57 (fun r57 s57 q57 => ?_)
        obtain ⟨rfl, rfl⟩ := q57
        refine P_ireturn rfl dX8_count_60 ?_
        rw [show a_count Z w = a_parcelsIn (zX Z) (w - 20) from (if_neg (b_f h7)).trans ((if_neg (b_f h25)).trans (if_pos (b_t h49)))]
        exact ⟨rfl, rfl⟩
    · have hw := in_nn (a := 11) (b := 17) (by decide) (by decide) (b_t h25)
      refine P_aloadn (i := 0) rfl rfl dX8_count_28 ?_
      refine gX8_7 rfl (by first | exact hM.k0 | exact hM.k1 | exact hM.k2 | exact hM.k3 | exact hM.k4 | exact hM.k5 | exact hM.k6 | exact hM.k7 | exact hM.k8 | exact hM.k9 | exact hM.k10 | exact hM.k11 | exact hM.k12 | exact hM.k13 | exact hM.k14 | exact hM.k15 | exact hM.k16 | exact hM.k17) hM.r256 dX8_count_29 ?_
      refine P_bipush (v := 6) rfl dX8_count_32 ?_
      refine P_iloadn (i := 1) rfl rfl dX8_count_34 ?_
      refine P_iadd dX8_count_35 ?_
      refine P_bipush (v := 10) rfl dX8_count_36 ?_
      refine P_isub dX8_count_38 ?_
      refine P_iaN (j := 6 + (nn w - 10)) (by first | exact hM.k0 | exact hM.k1 | exact hM.k2 | exact hM.k3 | exact hM.k4 | exact hM.k5 | exact hM.k6 | exact hM.k7 | exact hM.k8 | exact hM.k9 | exact hM.k10 | exact hM.k11 | exact hM.k12 | exact hM.k13 | exact hM.k14 | exact hM.k15 | exact hM.k16 | exact hM.k17) (n_610 (b_t h25)) (by first | omega | (simp only [hM.l1, hM.l2, hM.l3, hM.l4, hM.l5, hM.l6, hM.l7, hM.l8, hM.l9, hM.l10, hM.l11, hM.l12, hM.l13, hM.l14, hM.l15, hM.l16, hM.l17]; omega)) (by first | omega | (simp only [hM.l1, hM.l2, hM.l3, hM.l4, hM.l5, hM.l6, hM.l7, hM.l8, hM.l9, hM.l10, hM.l11, hM.l12, hM.l13, hM.l14, hM.l15, hM.l16, hM.l17]; omega)) (hZ.x.g (by omega) (by omega) (by omega) (by omega)) dX8_count_39 ?_
      refine P_ireturn rfl dX8_count_40 ?_
      rw [show a_count Z w = xG (zX Z) (6 + (nn w - 10)) from (if_neg (b_f h7)).trans (if_pos (b_t h25))]
      exact ⟨rfl, rfl⟩
  · have hw := in_nn (a := 0) (b := 6) (by decide) (by decide) (b_t h7)
    refine P_aloadn (i := 0) rfl rfl dX8_count_10 ?_
    refine gX8_7 rfl (by first | exact hM.k0 | exact hM.k1 | exact hM.k2 | exact hM.k3 | exact hM.k4 | exact hM.k5 | exact hM.k6 | exact hM.k7 | exact hM.k8 | exact hM.k9 | exact hM.k10 | exact hM.k11 | exact hM.k12 | exact hM.k13 | exact hM.k14 | exact hM.k15 | exact hM.k16 | exact hM.k17) hM.r256 dX8_count_11 ?_
    refine P_iloadn (i := 1) rfl rfl dX8_count_14 ?_
    refine P_iaN (j := nn w) (by first | exact hM.k0 | exact hM.k1 | exact hM.k2 | exact hM.k3 | exact hM.k4 | exact hM.k5 | exact hM.k6 | exact hM.k7 | exact hM.k8 | exact hM.k9 | exact hM.k10 | exact hM.k11 | exact hM.k12 | exact hM.k13 | exact hM.k14 | exact hM.k15 | exact hM.k16 | exact hM.k17) hw.2.2 (by first | omega | (simp only [hM.l1, hM.l2, hM.l3, hM.l4, hM.l5, hM.l6, hM.l7, hM.l8, hM.l9, hM.l10, hM.l11, hM.l12, hM.l13, hM.l14, hM.l15, hM.l16, hM.l17]; omega)) (by first | omega | (simp only [hM.l1, hM.l2, hM.l3, hM.l4, hM.l5, hM.l6, hM.l7, hM.l8, hM.l9, hM.l10, hM.l11, hM.l12, hM.l13, hM.l14, hM.l15, hM.l16, hM.l17]; omega)) (hZ.x.head (b_t h7)) dX8_count_15 ?_
    refine P_ireturn rfl dX8_count_16 ?_
    rw [show a_count Z w = a_head (zX Z) w from if_pos (b_t h7)]
    exact ⟨rfl, rfl⟩
theorem s_gap (hM : WM L m) (hA : RA AI m X) {p w : Int32} : Sp g 2 iX8_gap [vr m, vi p, vi w] (L, FI, AI, AL, AR) (0, 0) (QI (L, FI, AI, AL, AR) (a_gap X p w)) := by
  refine Sp.of (ls := [some (vr m), some (vi p), some (vi w), none, none, none]) (by decide +kernel) rfl rfl ?_
  have hp40 := hA.p40
  refine P_aloadn (i := 0) rfl rfl dX8_gap_0 ?_
  refine P_iloadn (i := 1) rfl rfl dX8_gap_1 ?_
  refine kX8_131 rfl (s_isParcel hM hA) (by decide) (by first | exact hM.k0 | exact hM.k1 | exact hM.k2 | exact hM.k3 | exact hM.k4 | exact hM.k5 | exact hM.k6 | exact hM.k7 | exact hM.k8 | exact hM.k9 | exact hM.k10 | exact hM.k11 | exact hM.k12 | exact hM.k13 | exact hM.k14 | exact hM.k15 | exact hM.k16 | exact hM.k17) rfl dX8_gap_2 (fun r2 s2 q2 => ?_)
  obtain ⟨rfl, rfl⟩ := q2
  refine P_ifne dX8_gap_5 (tgt := 10) rfl (fun h5 => ?_) (fun h5 => ?_)
  · have hp : ib p (xp X) := q_ib_iff.mp (b_t h5)
    have hp9 := hp.nn
    refine P_iloadn (i := 2) rfl rfl dX8_gap_10 ?_
    refine P_iconst (v := 0) rfl dX8_gap_11 ?_
    refine P_iconst (v := 1) rfl dX8_gap_12 ?_
    refine kX8_65 rfl s_X8_in (by decide) rfl dX8_gap_13 (fun r13 s13 q13 => ?_)
    obtain ⟨rfl, rfl⟩ := q13
    refine P_ifne dX8_gap_16 (tgt := 22) rfl (fun h16 => ?_) (fun h16 => ?_)
    · refine P_aloadn (i := 0) rfl rfl dX8_gap_22 ?_
      refine P_iloadn (i := 1) rfl rfl dX8_gap_23 ?_
      refine P_bipush (v := 12) rfl dX8_gap_24 ?_
      refine kX8_102 rfl (s_ofP hM hA (k := 12) hp rfl (by decide)) (by decide) (by first | exact hM.k0 | exact hM.k1 | exact hM.k2 | exact hM.k3 | exact hM.k4 | exact hM.k5 | exact hM.k6 | exact hM.k7 | exact hM.k8 | exact hM.k9 | exact hM.k10 | exact hM.k11 | exact hM.k12 | exact hM.k13 | exact hM.k14 | exact hM.k15 | exact hM.k16 | exact hM.k17) rfl dX8_gap_26 (fun r26 s26 q26 => ?_)
      obtain ⟨rfl, rfl⟩ := q26
      refine P_ifne dX8_gap_29 (tgt := 35) rfl (fun h29 => ?_) (fun h29 => ?_)
      · refine P_aloadn (i := 0) rfl rfl dX8_gap_35 ?_
        refine P_iloadn (i := 1) rfl rfl dX8_gap_36 ?_
        refine kX8_205 rfl (s_firstMissing hM hA hp) (by decide) (by first | exact hM.k0 | exact hM.k1 | exact hM.k2 | exact hM.k3 | exact hM.k4 | exact hM.k5 | exact hM.k6 | exact hM.k7 | exact hM.k8 | exact hM.k9 | exact hM.k10 | exact hM.k11 | exact hM.k12 | exact hM.k13 | exact hM.k14 | exact hM.k15 | exact hM.k16 | exact hM.k17) rfl dX8_gap_37 (fun r37 s37 q37 => ?_)
        obtain ⟨rfl, rfl⟩ := q37
        refine P_is3 (Or.inl dX8_gap_40) rfl rfl ?_
        refine P_iloadn (i := 2) rfl rfl dX8_gap_41 ?_
        refine P_ifne dX8_gap_42 (tgt := 47) rfl (fun h42 => ?_) (fun h42 => ?_)
        · have hbl := x_fm_le (xT X (nn p)) 4000 0
          have hel := x_fg_le (xT X (nn p)) (4000 - (x_fm (xT X (nn p)) 4000 0)) (x_fm (xT X (nn p)) 4000 0)
          have hop : a_gap X p w = if (x_fg (xT X (nn p)) (4000 - (x_fm (xT X (nn p)) 4000 0)) (x_fm (xT X (nn p)) 4000 0)) < 4000 then Int32.ofNat (x_fg (xT X (nn p)) (4000 - (x_fm (xT X (nn p)) 4000 0)) (x_fm (xT X (nn p)) 4000 0)) - Int32.ofNat (x_fm (xT X (nn p)) 4000 0) else if 0 ≤ xP X (nn p) 8 then xP X (nn p) 8 - Int32.ofNat (x_fm (xT X (nn p)) 4000 0) else -6 := (if_neg (fun hh => hh (b_t h5))).trans ((if_neg (fun hh => hh (b_t h16))).trans ((if_neg h29).trans (if_neg h42)))
          have J80 : P g 2 iX8_gap 80 [some (vr m), some (vi p), some (vi w), some (vi (Int32.ofNat (x_fm (xT X (nn p)) 4000 0))), some (vi (Int32.ofNat (x_fg (xT X (nn p)) (4000 - (x_fm (xT X (nn p)) 4000 0)) (x_fm (xT X (nn p)) 4000 0)))), none] [] (L, FI, AI, AL, AR) (0, 0) (QI (L, FI, AI, AL, AR) (a_gap X p w)) := by
            refine P_aloadn (i := 0) rfl rfl dX8_gap_80 ?_
            refine P_iloadn (i := 1) rfl rfl dX8_gap_81 ?_
            refine P_bipush (v := 8) rfl dX8_gap_82 ?_
            refine kX8_102 rfl (s_ofP hM hA (k := 8) hp rfl (by decide)) (by decide) (by first | exact hM.k0 | exact hM.k1 | exact hM.k2 | exact hM.k3 | exact hM.k4 | exact hM.k5 | exact hM.k6 | exact hM.k7 | exact hM.k8 | exact hM.k9 | exact hM.k10 | exact hM.k11 | exact hM.k12 | exact hM.k13 | exact hM.k14 | exact hM.k15 | exact hM.k16 | exact hM.k17) rfl dX8_gap_84 (fun r84 s84 q84 => ?_)
            obtain ⟨rfl, rfl⟩ := q84
            refine P_is5 (Or.inr dX8_gap_87) rfl rfl ?_
            refine P_iload (i := 4) rfl dX8_gap_89 ?_
            refine P_sipush (v := 4000) rfl dX8_gap_91 ?_
            refine P_icmpge dX8_gap_94 (tgt := 104) rfl (fun h94 => ?_) (fun h94 => ?_)
            · refine P_iload (i := 5) rfl dX8_gap_104 ?_
              refine P_iflt dX8_gap_106 (tgt := 116) rfl (fun h106 => ?_) (fun h106 => ?_)
              · refine P_bipush (v := (-6)) rfl dX8_gap_116 ?_
                refine P_ireturn rfl dX8_gap_118 ?_
                rw [hop, if_neg (fun hh => by have h8 := (n_le (a := 4000) (b := (x_fg (xT X (nn p)) (4000 - (x_fm (xT X (nn p)) 4000 0)) (x_fm (xT X (nn p)) 4000 0))) (by omega) (by omega)).mp h94; omega), if_neg (Int32.not_le.mpr h106)]
                exact ⟨rfl, rfl⟩
              · refine P_iload (i := 5) rfl dX8_gap_109 ?_
                refine P_iloadn (i := 3) rfl rfl dX8_gap_111 ?_
                refine P_isub dX8_gap_112 ?_
                refine P_goto dX8_gap_113 (tgt := 118) rfl ?_
                refine P_ireturn rfl dX8_gap_118 ?_
                rw [hop, if_neg (fun hh => by have h8 := (n_le (a := 4000) (b := (x_fg (xT X (nn p)) (4000 - (x_fm (xT X (nn p)) 4000 0)) (x_fm (xT X (nn p)) 4000 0))) (by omega) (by omega)).mp h94; omega), if_pos (Int32.not_lt.mp h106)]
                exact ⟨rfl, rfl⟩
            · refine P_iload (i := 4) rfl dX8_gap_97 ?_
              refine P_iloadn (i := 3) rfl rfl dX8_gap_99 ?_
              refine P_isub dX8_gap_100 ?_
              refine P_goto dX8_gap_101 (tgt := 118) rfl ?_
              refine P_ireturn rfl dX8_gap_118 ?_
              rw [hop, if_pos ((n_lt (a := (x_fg (xT X (nn p)) (4000 - (x_fm (xT X (nn p)) 4000 0)) (x_fm (xT X (nn p)) 4000 0))) (b := 4000) (by omega) (by omega)).mp (Int32.not_le.mp h94))]
              exact ⟨rfl, rfl⟩
          have loop : ∀ n i, i + n = 4000 → (x_fg (xT X (nn p)) (4000 - (x_fm (xT X (nn p)) 4000 0)) (x_fm (xT X (nn p)) 4000 0)) = x_fg (xT X (nn p)) n i → P g 2 iX8_gap 50 [some (vr m), some (vi p), some (vi w), some (vi (Int32.ofNat (x_fm (xT X (nn p)) 4000 0))), some (vi (Int32.ofNat i)), none] [] (L, FI, AI, AL, AR) (0, 0) (QI (L, FI, AI, AL, AR) (a_gap X p w)) := by
            intro n
            induction n with
            | zero =>
              intro i hi hf
              refine P_iload (i := 4) rfl dX8_gap_50 ?_
              refine P_sipush (v := 4000) rfl dX8_gap_52 ?_
              refine P_icmpge dX8_gap_55 (tgt := 80) rfl (fun h55 => ?_) (fun h55 => absurd ((n_le (a := 4000) (b := i) (by omega) (by omega)).mpr (by omega)) h55)
              have e9 : i = (x_fg (xT X (nn p)) (4000 - (x_fm (xT X (nn p)) 4000 0)) (x_fm (xT X (nn p)) 4000 0)) := hf.symm
              rw [e9]
              exact J80
            | succ n ih =>
              intro i hi hf
              refine P_iload (i := 4) rfl dX8_gap_50 ?_
              refine P_sipush (v := 4000) rfl dX8_gap_52 ?_
              refine P_icmpge dX8_gap_55 (tgt := 80) rfl (fun h55 => absurd h55 (fun h9 => by have h8 := (n_le (a := 4000) (b := i) (by omega) (by omega)).mp h9; omega)) (fun h55 => ?_)
              refine P_aloadn (i := 0) rfl rfl dX8_gap_58 ?_
              refine gX8_14 rfl (by first | exact hM.k0 | exact hM.k1 | exact hM.k2 | exact hM.k3 | exact hM.k4 | exact hM.k5 | exact hM.k6 | exact hM.k7 | exact hM.k8 | exact hM.k9 | exact hM.k10 | exact hM.k11 | exact hM.k12 | exact hM.k13 | exact hM.k14 | exact hM.k15 | exact hM.k16 | exact hM.k17) hM.r257 dX8_gap_59 ?_
              refine P_sipush (v := 4000) rfl dX8_gap_62 ?_
              refine P_iloadn (i := 1) rfl rfl dX8_gap_65 ?_
              refine P_imul dX8_gap_66 ?_
              refine P_iload (i := 4) rfl dX8_gap_67 ?_
              refine P_iadd dX8_gap_69 ?_
              refine P_iaN (j := 4000 * nn p + i) (by first | exact hM.k0 | exact hM.k1 | exact hM.k2 | exact hM.k3 | exact hM.k4 | exact hM.k5 | exact hM.k6 | exact hM.k7 | exact hM.k8 | exact hM.k9 | exact hM.k10 | exact hM.k11 | exact hM.k12 | exact hM.k13 | exact hM.k14 | exact hM.k15 | exact hM.k16 | exact hM.k17) (n_idt hp i) (by first | omega | (simp only [hM.l1, hM.l2, hM.l3, hM.l4, hM.l5, hM.l6, hM.l7, hM.l8, hM.l9, hM.l10, hM.l11, hM.l12, hM.l13, hM.l14, hM.l15, hM.l16, hM.l17]; omega)) (by first | omega | (simp only [hM.l1, hM.l2, hM.l3, hM.l4, hM.l5, hM.l6, hM.l7, hM.l8, hM.l9, hM.l10, hM.l11, hM.l12, hM.l13, hM.l14, hM.l15, hM.l16, hM.l17]; omega)) (hA.tt hp9 (by omega)) dX8_gap_70 ?_
              refine P_ifge dX8_gap_71 (tgt := 80) rfl (fun h71 => ?_) (fun h71 => ?_)
              · have e9 : i = (x_fg (xT X (nn p)) (4000 - (x_fm (xT X (nn p)) 4000 0)) (x_fm (xT X (nn p)) 4000 0)) := (hf.trans (if_neg (Int32.not_lt.mpr h71))).symm
                rw [e9]
                exact J80
              · refine P_inN4 dX8_gap_74 rfl rfl ?_
                refine P_goto dX8_gap_77 (tgt := 50) rfl ?_
                refine ih (i + 1) (by omega) ?_
                rw [hf]
                exact if_pos (Int32.not_le.mp h71)
          refine P_iloadn (i := 3) rfl rfl dX8_gap_47 ?_
          refine P_is4 (Or.inr dX8_gap_48) rfl rfl ?_
          exact loop (4000 - (x_fm (xT X (nn p)) 4000 0)) (x_fm (xT X (nn p)) 4000 0) (by omega) rfl
        · refine P_iloadn (i := 3) rfl rfl dX8_gap_45 ?_
          refine P_ireturn rfl dX8_gap_46 ?_
          rw [show a_gap X p w = Int32.ofNat (x_fm (xT X (nn p)) 4000 0) from (if_neg (fun hh => hh (b_t h5))).trans ((if_neg (fun hh => hh (b_t h16))).trans ((if_neg h29).trans (if_pos h42)))]
          exact ⟨rfl, rfl⟩
      · refine P_bipush (v := (-6)) rfl dX8_gap_32 ?_
        refine P_ireturn rfl dX8_gap_34 ?_
        rw [show a_gap X p w = -6 from (if_neg (fun hh => hh (b_t h5))).trans ((if_neg (fun hh => hh (b_t h16))).trans (if_pos h29))]
        exact ⟨rfl, rfl⟩
    · refine P_bipush (v := (-2)) rfl dX8_gap_19 ?_
      refine P_ireturn rfl dX8_gap_21 ?_
      rw [show a_gap X p w = -2 from (if_neg (fun hh => hh (b_t h5))).trans (if_pos (b_f h16))]
      exact ⟨rfl, rfl⟩
  · refine P_iconst (v := (-1)) rfl dX8_gap_8 ?_
    refine P_ireturn rfl dX8_gap_9 ?_
    rw [show a_gap X p w = -1 from if_pos (b_f h5)]
    exact ⟨rfl, rfl⟩
end Ref14
