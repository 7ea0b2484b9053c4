/-- n places filled with a value -/
def flA (A : Nat → Nat → Int32) (dst o n : Nat) (v : Int32) : Nat → Nat → Int32 := fun a j => if a = dst ∧ o ≤ j ∧ j < o + n then v else A a j
theorem flA_0 (A : Nat → Nat → Int32) (dst o : Nat) (v : Int32) : flA A dst o 0 v = A := by
  funext a j
  exact if_neg (by omega)
theorem flA_src {A : Nat → Nat → Int32} {dst o n a : Nat} {v : Int32} (h : a ≠ dst) : flA A dst o n v a = A a := by
  funext j
  exact if_neg (fun hh => h hh.1)
theorem flA_in {A : Nat → Nat → Int32} {dst o n j : Nat} {v : Int32} (h : o ≤ j) (h2 : j < o + n) : flA A dst o n v dst j = v := if_pos ⟨rfl, h, h2⟩
theorem flA_out {A : Nat → Nat → Int32} {dst o n a j : Nat} {v : Int32} (h : j < o ∨ o + n ≤ j) : flA A dst o n v a j = A a j := if_neg (by omega)
theorem flA_s {A : Nat → Nat → Int32} {dst o n j : Nat} {v : Int32} (hj : j = o + n) : p_up (flA A dst o n v) dst j v = flA A dst o (n + 1) v := by
  subst hj
  funext a b
  unfold p_up flA
  by_cases e : a = dst ∧ b = o + n
  · rw [if_pos e, if_pos ⟨e.1, by omega, by omega⟩]
  · rw [if_neg e]
    by_cases e2 : a = dst ∧ o ≤ b ∧ b < o + n
    · rw [if_pos e2, if_pos ⟨e2.1, e2.2.1, by omega⟩]
    · rw [if_neg e2, if_neg (by omega)]
def x_addP (X : XW) (row : Nat → Int32) : XW := (xG X, xN X, xB X, (fun p k => if p = xp X then row k else xP X p k), (fun p i => if p = xp X then -6 else xT X p i), xS X, xb X, xp X + 1)
def x_prow (from_ to size seed how : Int32) : Nat → Int32
  | 0 => from_
  | 1 => to
  | 2 => size
  | 3 => seed
  | 4 => c_rem how 2
  | 5 => 0
  | 6 => 1
  | 7 => how / 2
  | 8 => -6
  | 9 => -6
  | 10 => -6
  | _ => 0
def x_send (X : XW) (from_ to size seed how : Int32) : XW :=
  let X1 := x_addP X (x_prow from_ to size seed how)
  x_g (x_s X1 (xS X1 ++ [(Int32.ofNat (xp X), 0, size, 1, how / 2, seed, xG X 0, from_)])) 4 (xG X 4 + 1)
def z_send (Z : ZW) (kp : Bool) (from_ to size seed how : Int32) : ZW × Int32 :=
  if ¬ (q_ib from_ 8 = true ∧ q_ib to 8 = true ∧ ¬ from_ = to) then (Z, -1)
  else if ¬ (((1 : Int32) ≤ size ∧ size ≤ 4000) ∧ ((0 : Int32) ≤ seed ∧ seed ≤ 255) ∧ ((2 : Int32) ≤ how ∧ how ≤ 41)) then (Z, -2)
  else if xp (zX Z) = 40 ∨ (xS (zX Z)).length = 300 then (Z, -4)
  else (z_x (z_keepIf Z kp) (x_send (zX Z) from_ to size seed how), Int32.ofNat (xp (zX Z)))
def x_resend (X : XW) (p : Nat) : XW :=
  let X1 := x_g (x_s X (xS X ++ [(Int32.ofNat p, 0, xP X p 2, 1, xP X p 7, xP X p 3, xG X 0, xP X p 0)])) 4 (xG X 4 + 1)
  x_p X1 p 6 (xP X p 6 + 1)
def z_resend (Z : ZW) (kp : Bool) (p : Int32) : ZW × Int32 :=
  if ¬ q_ib p (xp (zX Z)) = true then (Z, -1)
  else if (xS (zX Z)).length = 300 then (Z, -4)
  else if ¬ xP (zX Z) (nn p) 5 = 0 then (Z, -5)
  else (z_x (z_keepIf Z kp) (x_resend (zX Z) (nn p)), xP (zX Z) (nn p) 6 + 1)
def x_forge (X : XW) (p : Nat) (off len la seed : Int32) : XW := x_g (x_s X (xS X ++ [(Int32.ofNat p, off, len, la, 0, seed, xG X 0, xP X p 1)])) 4 (xG X 4 + 1)
def z_forge (Z : ZW) (kp : Bool) (p off len la seed : Int32) : ZW × Int32 :=
  if ¬ q_ib p (xp (zX Z)) = true then (Z, -1)
  else if ¬ (((0 : Int32) ≤ off ∧ off ≤ 3999) ∧ ((1 : Int32) ≤ len ∧ len ≤ 1500) ∧ ((0 : Int32) ≤ la ∧ la ≤ 1) ∧ ((0 : Int32) ≤ seed ∧ seed ≤ 255)) then (Z, -2)
  else if (xS (zX Z)).length = 300 then (Z, -4)
  else (z_x (z_keepIf Z kp) (x_forge (zX Z) (nn p) off len la seed), Int32.ofNat ((xS (zX Z)).length + 1))
theorem RF.addP {f t f2 t2 : Nat → Int32} {X : XW} {row : Nat → Int32} (h : RF f t X) (hl : xp X < 40) (h2 : f2 2 = Int32.ofNat (xp X + 1)) (hs : ∀ k, k < 13 → f2 (246 + 14 * xp X + k) = row k) (ho : ∀ i, i ≠ 2 → (i < 246 + 14 * xp X ∨ 246 + 14 * xp X + 14 ≤ i) → f2 i = f i) (ht : ∀ i, i < 4000 → t2 (4000 * xp X + i) = -6) (hto : ∀ i, i < 4000 * xp X → t2 i = t i) : RF f2 t2 (x_addP X row) := by
  have h40 := h.p40; have h16 := h.b16; have h30 := h.s300
  refine ⟨⟨fun j hj g1 g2 g3 => ?_, ?_, ?_, ?_⟩, fun i j hi hj => ?_, fun i j hi hj => ?_, fun i j hi hj => ?_, fun i j hi hj => ?_, fun p i hp hi => ?_, h16, hl, h30⟩
  · exact (ho j g2 (by omega)).trans (h.g hj g1 g2 g3)
  · exact (ho 1 (by omega) (by omega)).trans h.nb
  · exact h2
  · exact (ho 3 (by omega) (by omega)).trans h.ns
  · exact (ho _ (by omega) (by omega)).trans (h.n hi hj)
  · have h5 : i < xb X := hi
    exact (ho _ (by omega) (by omega)).trans (h.b hi hj)
  · have h5 : i < xp X + 1 := hi
    show _ = (if i = xp X then row j else xP X i j)
    by_cases e : i = xp X
    · rw [if_pos e, e]; exact hs j hj
    · rw [if_neg e]; exact (ho _ (by omega) (by omega)).trans (h.p (by omega) hj)
  · have h5 : i < (xS X).length := hi
    exact (ho _ (by omega) (by omega)).trans (h.s hi hj)
  · have h5 : p < xp X + 1 := hp
    show _ = (if p = xp X then -6 else xT X p i)
    by_cases e : p = xp X
    · rw [if_pos e, e]; exact ht i hi
    · rw [if_neg e]; exact (hto _ (by omega)).trans (h.tt (by omega) hi)
section Ref13
variable {g : PG} {L : PL} {FI AI : Nat → Nat → Int32} {AL : Nat → Nat → Int64} {AR : Nat → Nat → Option Nat} {m : Nat} {Z : ZW} {M : Nat}
theorem s_trySend (hM : WM L m) (hZ : RZ FI AI m Z) {from_ to size seed how : Int32} {kp : Bool} : Sp g 4 iX8_trySend [vr m, vi from_, vi to, vi size, vi seed, vi how, vi (if kp = true then 1 else 0)] (L, FI, AI, AL, AR) (0, 0) (RZM L FI AI AL AR m (z_send Z kp from_ to size seed how).1 (some (vi (z_send Z kp from_ to size seed how).2))) := by
  refine Sp.of (ls := [some (vr m), some (vi from_), some (vi to), some (vi size), some (vi seed), some (vi how), some (vi (if kp = true then 1 else 0)), none, none]) (by decide +kernel) rfl rfl ?_
  have hp40 := hZ.x.p40
  have hs30 := hZ.x.s300
  refine P_iloadn (i := 1) rfl rfl dX8_trySend_0 ?_
  refine P_iloadn (i := 2) rfl rfl dX8_trySend_1 ?_
  refine kX8_87 rfl s_areNodes (by decide) rfl dX8_trySend_2 (fun r2 s2 q2 => ?_)
  obtain ⟨rfl, rfl⟩ := q2
  refine P_ifne dX8_trySend_5 (tgt := 10) rfl (fun h5 => ?_) (fun h5 => ?_)
  · refine P_iloadn (i := 3) rfl rfl dX8_trySend_10 ?_
    refine P_iconst (v := 1) rfl dX8_trySend_11 ?_
    refine P_sipush (v := 4000) rfl dX8_trySend_12 ?_
    refine kX8_65 rfl s_X8_in (by decide) rfl dX8_trySend_15 (fun r15 s15 q15 => ?_)
    obtain ⟨rfl, rfl⟩ := q15
    refine P_ifeq dX8_trySend_18 (tgt := 44) rfl (fun h18 => ?_) (fun h18 => ?_)
    · refine P_bipush (v := (-2)) rfl dX8_trySend_44 ?_
      refine P_ireturn rfl dX8_trySend_46 ?_
      rw [show z_send Z kp from_ to size seed how = (Z, -2) from (if_neg (fun hh => hh (b_t h5))).trans (if_pos (fun hh => b_f h18 hh.1))]
      exact ⟨_, _, rfl, rfl, FrM.rf, hZ⟩
    · refine P_iload (i := 4) rfl dX8_trySend_21 ?_
      refine P_iconst (v := 0) rfl dX8_trySend_23 ?_
      refine P_sipush (v := 255) rfl dX8_trySend_24 ?_
      refine kX8_65 rfl s_X8_in (by decide) rfl dX8_trySend_27 (fun r27 s27 q27 => ?_)
      obtain ⟨rfl, rfl⟩ := q27
      refine P_ifeq dX8_trySend_30 (tgt := 44) rfl (fun h30 => ?_) (fun h30 => ?_)
      · refine P_bipush (v := (-2)) rfl dX8_trySend_44 ?_
        refine P_ireturn rfl dX8_trySend_46 ?_
        rw [show z_send Z kp from_ to size seed how = (Z, -2) from (if_neg (fun hh => hh (b_t h5))).trans (if_pos (fun hh => b_f h30 hh.2.1))]
        exact ⟨_, _, rfl, rfl, FrM.rf, hZ⟩
      · refine P_iload (i := 5) rfl dX8_trySend_33 ?_
        refine P_iconst (v := 2) rfl dX8_trySend_35 ?_
        refine P_bipush (v := 41) rfl dX8_trySend_36 ?_
        refine kX8_65 rfl s_X8_in (by decide) rfl dX8_trySend_38 (fun r38 s38 q38 => ?_)
        obtain ⟨rfl, rfl⟩ := q38
        refine P_ifne dX8_trySend_41 (tgt := 47) rfl (fun h41 => ?_) (fun h41 => ?_)
        · refine P_aloadn (i := 0) rfl rfl dX8_trySend_47 ?_
          refine gX8_7 rfl (by first | exact hM.k0 | exact hM.k1 | exact hM.k2 | exact hM.k3 | exact hM.k4 | exact hM.k5 | exact hM.k6 | exact hM.k7 | exact hM.k8 | exact hM.k9 | exact hM.k10 | exact hM.k11 | exact hM.k12 | exact hM.k13 | exact hM.k14 | exact hM.k15 | exact hM.k16 | exact hM.k17) hM.r256 dX8_trySend_48 ?_
          refine P_iconst (v := 2) rfl dX8_trySend_51 ?_
          refine P_iaN (j := 2) (by first | exact hM.k0 | exact hM.k1 | exact hM.k2 | exact hM.k3 | exact hM.k4 | exact hM.k5 | exact hM.k6 | exact hM.k7 | exact hM.k8 | exact hM.k9 | exact hM.k10 | exact hM.k11 | exact hM.k12 | exact hM.k13 | exact hM.k14 | exact hM.k15 | exact hM.k16 | exact hM.k17) rfl (by first | omega | (simp only [hM.l1, hM.l2, hM.l3, hM.l4, hM.l5, hM.l6, hM.l7, hM.l8, hM.l9, hM.l10, hM.l11, hM.l12, hM.l13, hM.l14, hM.l15, hM.l16, hM.l17]; omega)) (by first | omega | (simp only [hM.l1, hM.l2, hM.l3, hM.l4, hM.l5, hM.l6, hM.l7, hM.l8, hM.l9, hM.l10, hM.l11, hM.l12, hM.l13, hM.l14, hM.l15, hM.l16, hM.l17]; omega)) hZ.x.np dX8_trySend_52 ?_
          refine P_bipush (v := 40) rfl dX8_trySend_53 ?_
          refine P_icmpeq dX8_trySend_55 (tgt := 70) rfl (fun h55 => ?_) (fun h55 => ?_)
          · refine P_bipush (v := (-4)) rfl dX8_trySend_70 ?_
            refine P_ireturn rfl dX8_trySend_72 ?_
            rw [show z_send Z kp from_ to size seed how = (Z, -4) from (if_neg (fun hh => hh (b_t h5))).trans ((if_neg (fun hh => hh ⟨b_t h18, b_t h30, b_t h41⟩)).trans (if_pos (Or.inl ((n_eq (b := 40) (by omega) (by omega)).mp h55))))]
            exact ⟨_, _, rfl, rfl, FrM.rf, hZ⟩
          · refine P_aloadn (i := 0) rfl rfl dX8_trySend_58 ?_
            refine gX8_7 rfl (by first | exact hM.k0 | exact hM.k1 | exact hM.k2 | exact hM.k3 | exact hM.k4 | exact hM.k5 | exact hM.k6 | exact hM.k7 | exact hM.k8 | exact hM.k9 | exact hM.k10 | exact hM.k11 | exact hM.k12 | exact hM.k13 | exact hM.k14 | exact hM.k15 | exact hM.k16 | exact hM.k17) hM.r256 dX8_trySend_59 ?_
            refine P_iconst (v := 3) rfl dX8_trySend_62 ?_
            refine P_iaN (j := 3) (by first | exact hM.k0 | exact hM.k1 | exact hM.k2 | exact hM.k3 | exact hM.k4 | exact hM.k5 | exact hM.k6 | exact hM.k7 | exact hM.k8 | exact hM.k9 | exact hM.k10 | exact hM.k11 | exact hM.k12 | exact hM.k13 | exact hM.k14 | exact hM.k15 | exact hM.k16 | exact hM.k17) rfl (by first | omega | (simp only [hM.l1, hM.l2, hM.l3, hM.l4, hM.l5, hM.l6, hM.l7, hM.l8, hM.l9, hM.l10, hM.l11, hM.l12, hM.l13, hM.l14, hM.l15, hM.l16, hM.l17]; omega)) (by first | omega | (simp only [hM.l1, hM.l2, hM.l3, hM.l4, hM.l5, hM.l6, hM.l7, hM.l8, hM.l9, hM.l10, hM.l11, hM.l12, hM.l13, hM.l14, hM.l15, hM.l16, hM.l17]; omega)) hZ.x.ns dX8_trySend_63 ?_
            refine P_sipush (v := 300) rfl dX8_trySend_64 ?_
            refine P_icmpne dX8_trySend_67 (tgt := 73) rfl (fun h67 => ?_) (fun h67 => ?_)
            · refine P_aloadn (i := 0) rfl rfl dX8_trySend_73 ?_
              refine P_iload (i := 6) rfl dX8_trySend_74 ?_
              refine kX8_119 rfl (s_keepIf hM hZ (kp := kp)) (by decide) (by first | exact hM.k0 | exact hM.k1 | exact hM.k2 | exact hM.k3 | exact hM.k4 | exact hM.k5 | exact hM.k6 | exact hM.k7 | exact hM.k8 | exact hM.k9 | exact hM.k10 | exact hM.k11 | exact hM.k12 | exact hM.k13 | exact hM.k14 | exact hM.k15 | exact hM.k16 | exact hM.k17) rfl dX8_trySend_76 (fun r76 s76 q76 => ?_)
              obtain ⟨F2, A2, rfl, rfl, hFr, hZ2⟩ := q76
              have hX2 : RA A2 m (zX Z) := by cases kp <;> exact hZ2.x
              have hn40 : ¬ xp (zX Z) = 40 := fun hh => h55 (by rw [hh]; rfl)
              have hn300 : ¬ (xS (zX Z)).length = 300 := fun hh => h67 (by rw [hh]; rfl)
              have hp40 := hZ.x.p40
              have hp4 : ib (Int32.ofNat (xp (zX Z))) 40 := ib.of (by omega) (by omega)
              have hnp : nn (Int32.ofNat (xp (zX Z))) = xp (zX Z) := n_nn (by omega)
              have J207 : ∀ A3 : Nat → Nat → Int32, (∀ a, a ≠ m + 1 → A3 a = A2 a) → (∀ j, (j < 246 + 14 * xp (zX Z) ∨ 246 + 14 * xp (zX Z) + 14 ≤ j) → A3 (m + 1) j = A2 (m + 1) j) → (∀ k, k < 13 → A3 (m + 1) (246 + 14 * xp (zX Z) + k) = x_prow from_ to size seed how k) → P g 4 iX8_trySend 207 [some (vr m), some (vi from_), some (vi to), some (vi size), some (vi seed), some (vi how), none, some (vi (Int32.ofNat (xp (zX Z)))), some (vi (Int32.ofNat 14))] [] (L, F2, A3, AL, AR) (0, 0) (RZM L FI AI AL AR m (z_send Z kp from_ to size seed how).1 (some (vi (z_send Z kp from_ to size seed how).2))) := by
                intro A3 hB1 hB2 hB3
                have loop : ∀ n i : Nat, i + n = 4000 → P g 4 iX8_trySend 210 [some (vr m), some (vi from_), some (vi to), some (vi size), some (vi seed), some (vi how), none, some (vi (Int32.ofNat (xp (zX Z)))), some (vi (Int32.ofNat i))] [] (L, F2, flA A3 (m + 2) (4000 * xp (zX Z)) i (-6), AL, AR) (0, 0) (RZM L FI AI AL AR m (z_send Z kp from_ to size seed how).1 (some (vi (z_send Z kp from_ to size seed how).2))) := by
                  intro n
                  induction n with
                  | zero =>
                    intro i hi
                    refine P_iload (i := 8) rfl dX8_trySend_210 ?_
                    refine P_sipush (v := 4000) rfl dX8_trySend_212 ?_
                    refine P_icmpge dX8_trySend_215 (tgt := 240) rfl (fun h215 => ?_) (fun h215 => absurd ((n_le (a := 4000) (b := i) (by omega) (by omega)).mpr (by omega)) h215)
                    have e : i = 4000 := by omega
                    subst e
                    refine P_aloadn (i := 0) rfl rfl dX8_trySend_240 ?_
                    refine gX8_7 rfl (by first | exact hM.k0 | exact hM.k1 | exact hM.k2 | exact hM.k3 | exact hM.k4 | exact hM.k5 | exact hM.k6 | exact hM.k7 | exact hM.k8 | exact hM.k9 | exact hM.k10 | exact hM.k11 | exact hM.k12 | exact hM.k13 | exact hM.k14 | exact hM.k15 | exact hM.k16 | exact hM.k17) hM.r256 dX8_trySend_241 ?_
                    refine P_iconst (v := 2) rfl dX8_trySend_244 ?_
                    refine P_dup2 rfl rfl dX8_trySend_245 ?_
                    refine P_iaN (j := 2) (by first | exact hM.k0 | exact hM.k1 | exact hM.k2 | exact hM.k3 | exact hM.k4 | exact hM.k5 | exact hM.k6 | exact hM.k7 | exact hM.k8 | exact hM.k9 | exact hM.k10 | exact hM.k11 | exact hM.k12 | exact hM.k13 | exact hM.k14 | exact hM.k15 | exact hM.k16 | exact hM.k17) rfl (by first | omega | (simp only [hM.l1, hM.l2, hM.l3, hM.l4, hM.l5, hM.l6, hM.l7, hM.l8, hM.l9, hM.l10, hM.l11, hM.l12, hM.l13, hM.l14, hM.l15, hM.l16, hM.l17]; omega)) (by first | omega | (simp only [hM.l1, hM.l2, hM.l3, hM.l4, hM.l5, hM.l6, hM.l7, hM.l8, hM.l9, hM.l10, hM.l11, hM.l12, hM.l13, hM.l14, hM.l15, hM.l16, hM.l17]; omega)) (show _ = Int32.ofNat (xp (zX Z)) from by rw [flA_src (by omega), hB2 2 (by omega)]; exact hX2.np) dX8_trySend_246 ?_
                    refine P_iconst (v := 1) rfl dX8_trySend_247 ?_
                    refine P_iadd dX8_trySend_248 ?_
                    refine P_isN (j := 2) (by first | exact hM.k0 | exact hM.k1 | exact hM.k2 | exact hM.k3 | exact hM.k4 | exact hM.k5 | exact hM.k6 | exact hM.k7 | exact hM.k8 | exact hM.k9 | exact hM.k10 | exact hM.k11 | exact hM.k12 | exact hM.k13 | exact hM.k14 | exact hM.k15 | exact hM.k16 | exact hM.k17) rfl (by first | omega | (simp only [hM.l1, hM.l2, hM.l3, hM.l4, hM.l5, hM.l6, hM.l7, hM.l8, hM.l9, hM.l10, hM.l11, hM.l12, hM.l13, hM.l14, hM.l15, hM.l16, hM.l17]; omega)) (by first | omega | (simp only [hM.l1, hM.l2, hM.l3, hM.l4, hM.l5, hM.l6, hM.l7, hM.l8, hM.l9, hM.l10, hM.l11, hM.l12, hM.l13, hM.l14, hM.l15, hM.l16, hM.l17]; omega)) dX8_trySend_249 ?_
                    rw [show Int32.ofNat (xp (zX Z)) + 1 = Int32.ofNat (xp (zX Z) + 1) from n_add (xp (zX Z)) 1]
                    have hA5 : RA (p_up (flA A3 (m + 2) (4000 * xp (zX Z)) 4000 (-6)) (m + 1) 2 (Int32.ofNat (xp (zX Z) + 1))) m (x_addP (zX Z) (x_prow from_ to size seed how)) := by
                      refine RF.addP (f := A2 (m + 1)) (t := A2 (m + 2)) hX2 (by omega) (p_up_eq _ _ _ _) (fun k hk => ?_) (fun i h1 h2 => ?_) (fun i hi => ?_) (fun i hi => ?_)
                      · rw [p_up_n2 _ _ _ _ (by omega), flA_src (by omega)]; exact hB3 k hk
                      · rw [p_up_n2 _ _ _ _ h1, flA_src (by omega)]; exact hB2 i h2
                      · rw [p_up_n1 _ _ _ _ (by omega)]; exact flA_in (by omega) (by omega)
                      · rw [p_up_n1 _ _ _ _ (by omega), flA_out (by omega), hB1 _ (by omega)]
                    have hF5 : FA m A2 (p_up (flA A3 (m + 2) (4000 * xp (zX Z)) 4000 (-6)) (m + 1) 2 (Int32.ofNat (xp (zX Z) + 1))) := fun a x y => (p_up_oth x).trans ((flA_src y).trans (hB1 a x))
                    refine P_aloadn (i := 0) rfl rfl dX8_trySend_250 ?_
                    refine P_iload (i := 7) rfl dX8_trySend_251 ?_
                    refine P_iconst (v := 0) rfl dX8_trySend_253 ?_
                    refine P_iloadn (i := 3) rfl rfl dX8_trySend_254 ?_
                    refine P_iconst (v := 1) rfl dX8_trySend_255 ?_
                    refine P_iload (i := 5) rfl dX8_trySend_256 ?_
                    refine P_iconst (v := 2) rfl dX8_trySend_258 ?_
                    refine P_idiv (by decide) dX8_trySend_259 ?_
                    refine P_iload (i := 4) rfl dX8_trySend_260 ?_
                    refine P_iloadn (i := 1) rfl rfl dX8_trySend_262 ?_
                    refine kX8_123 rfl (s_makeSlice hM hA5 (by show (xS (zX Z)).length < 300; omega)) (by decide) (by first | exact hM.k0 | exact hM.k1 | exact hM.k2 | exact hM.k3 | exact hM.k4 | exact hM.k5 | exact hM.k6 | exact hM.k7 | exact hM.k8 | exact hM.k9 | exact hM.k10 | exact hM.k11 | exact hM.k12 | exact hM.k13 | exact hM.k14 | exact hM.k15 | exact hM.k16 | exact hM.k17) rfl dX8_trySend_263 (fun r263 s263 q263 => ?_)
                    obtain ⟨A6, rfl, rfl, hF6, hA6⟩ := q263
                    refine P_aloadn (i := 0) rfl rfl dX8_trySend_266 ?_
                    refine gX8_7 rfl (by first | exact hM.k0 | exact hM.k1 | exact hM.k2 | exact hM.k3 | exact hM.k4 | exact hM.k5 | exact hM.k6 | exact hM.k7 | exact hM.k8 | exact hM.k9 | exact hM.k10 | exact hM.k11 | exact hM.k12 | exact hM.k13 | exact hM.k14 | exact hM.k15 | exact hM.k16 | exact hM.k17) hM.r256 dX8_trySend_267 ?_
                    refine P_iconst (v := 4) rfl dX8_trySend_270 ?_
                    refine P_dup2 rfl rfl dX8_trySend_271 ?_
                    refine P_iaN (j := 4) (by first | exact hM.k0 | exact hM.k1 | exact hM.k2 | exact hM.k3 | exact hM.k4 | exact hM.k5 | exact hM.k6 | exact hM.k7 | exact hM.k8 | exact hM.k9 | exact hM.k10 | exact hM.k11 | exact hM.k12 | exact hM.k13 | exact hM.k14 | exact hM.k15 | exact hM.k16 | exact hM.k17) rfl (by first | omega | (simp only [hM.l1, hM.l2, hM.l3, hM.l4, hM.l5, hM.l6, hM.l7, hM.l8, hM.l9, hM.l10, hM.l11, hM.l12, hM.l13, hM.l14, hM.l15, hM.l16, hM.l17]; omega)) (by first | omega | (simp only [hM.l1, hM.l2, hM.l3, hM.l4, hM.l5, hM.l6, hM.l7, hM.l8, hM.l9, hM.l10, hM.l11, hM.l12, hM.l13, hM.l14, hM.l15, hM.l16, hM.l17]; omega)) (show _ = xG (zX Z) 4 from hA6.g (by omega) (by omega) (by omega) (by omega)) dX8_trySend_272 ?_
                    refine P_iconst (v := 1) rfl dX8_trySend_273 ?_
                    refine P_iadd dX8_trySend_274 ?_
                    refine P_isN (j := 4) (by first | exact hM.k0 | exact hM.k1 | exact hM.k2 | exact hM.k3 | exact hM.k4 | exact hM.k5 | exact hM.k6 | exact hM.k7 | exact hM.k8 | exact hM.k9 | exact hM.k10 | exact hM.k11 | exact hM.k12 | exact hM.k13 | exact hM.k14 | exact hM.k15 | exact hM.k16 | exact hM.k17) rfl (by first | omega | (simp only [hM.l1, hM.l2, hM.l3, hM.l4, hM.l5, hM.l6, hM.l7, hM.l8, hM.l9, hM.l10, hM.l11, hM.l12, hM.l13, hM.l14, hM.l15, hM.l16, hM.l17]; omega)) (by first | omega | (simp only [hM.l1, hM.l2, hM.l3, hM.l4, hM.l5, hM.l6, hM.l7, hM.l8, hM.l9, hM.l10, hM.l11, hM.l12, hM.l13, hM.l14, hM.l15, hM.l16, hM.l17]; omega)) dX8_trySend_275 ?_
                    have hF7 := (hF5.tr hF6).u1 (j := 4) (v := xG (zX Z) 4 + 1)
                    refine P_iload (i := 7) rfl dX8_trySend_276 ?_
                    refine P_ireturn rfl dX8_trySend_278 ?_
                    rw [show z_send Z kp from_ to size seed how = (z_x (z_keepIf Z kp) (x_send (zX Z) from_ to size seed how), Int32.ofNat (xp (zX Z))) from (if_neg (fun hh => hh (b_t h5))).trans ((if_neg (fun hh => hh ⟨b_t h18, b_t h30, b_t h41⟩)).trans (if_neg (fun hh => hh.elim hn40 hn300)))]
                    refine ⟨_, _, rfl, rfl, hFr.tr (FrM.fa hF7), hZ2.fa hF7 ?_⟩
                    exact hA6.setG (by omega) (by omega) (by omega) (by omega)
                  | succ n ih =>
                    intro i hi
                    refine P_iload (i := 8) rfl dX8_trySend_210 ?_
                    refine P_sipush (v := 4000) rfl dX8_trySend_212 ?_
                    refine P_icmpge dX8_trySend_215 (tgt := 240) rfl (fun h215 => absurd h215 (fun h9 => by have h8 := (n_le (a := 4000) (b := i) (by omega) (by omega)).mp h9; omega)) (fun h215 => ?_)
                    refine P_aloadn (i := 0) rfl rfl dX8_trySend_218 ?_
                    refine gX8_14 rfl (by first | exact hM.k0 | exact hM.k1 | exact hM.k2 | exact hM.k3 | exact hM.k4 | exact hM.k5 | exact hM.k6 | exact hM.k7 | exact hM.k8 | exact hM.k9 | exact hM.k10 | exact hM.k11 | exact hM.k12 | exact hM.k13 | exact hM.k14 | exact hM.k15 | exact hM.k16 | exact hM.k17) hM.r257 dX8_trySend_219 ?_
                    refine P_sipush (v := 4000) rfl dX8_trySend_222 ?_
                    refine P_iload (i := 7) rfl dX8_trySend_225 ?_
                    refine P_imul dX8_trySend_227 ?_
                    refine P_iload (i := 8) rfl dX8_trySend_228 ?_
                    refine P_iadd dX8_trySend_230 ?_
                    refine P_bipush (v := (-6)) rfl dX8_trySend_231 ?_
                    refine P_isN (j := 4000 * xp (zX Z) + i) (by first | exact hM.k0 | exact hM.k1 | exact hM.k2 | exact hM.k3 | exact hM.k4 | exact hM.k5 | exact hM.k6 | exact hM.k7 | exact hM.k8 | exact hM.k9 | exact hM.k10 | exact hM.k11 | exact hM.k12 | exact hM.k13 | exact hM.k14 | exact hM.k15 | exact hM.k16 | exact hM.k17) (n_ix 4000 (xp (zX Z)) i) (by first | omega | (simp only [hM.l1, hM.l2, hM.l3, hM.l4, hM.l5, hM.l6, hM.l7, hM.l8, hM.l9, hM.l10, hM.l11, hM.l12, hM.l13, hM.l14, hM.l15, hM.l16, hM.l17]; omega)) (by first | omega | (simp only [hM.l1, hM.l2, hM.l3, hM.l4, hM.l5, hM.l6, hM.l7, hM.l8, hM.l9, hM.l10, hM.l11, hM.l12, hM.l13, hM.l14, hM.l15, hM.l16, hM.l17]; omega)) dX8_trySend_233 ?_
                    refine P_inN8 dX8_trySend_234 rfl rfl ?_
                    refine P_goto dX8_trySend_237 (tgt := 210) rfl ?_
                    rw [flA_s rfl]
                    exact ih (i + 1) (by omega)
                refine P_iconst (v := 0) rfl dX8_trySend_207 ?_
                refine P_is8 (Or.inr dX8_trySend_208) rfl rfl ?_
                have h0 := loop 4000 0 (by omega)
                rw [flA_0] at h0
                exact h0
              have loop1 : ∀ n i : Nat, i + n = 14 → P g 4 iX8_trySend 90 [some (vr m), some (vi from_), some (vi to), some (vi size), some (vi seed), some (vi how), none, some (vi (Int32.ofNat (xp (zX Z)))), some (vi (Int32.ofNat i))] [] (L, F2, flA A2 (m + 1) (246 + 14 * xp (zX Z)) i 0, AL, AR) (0, 0) (RZM L FI AI AL AR m (z_send Z kp from_ to size seed how).1 (some (vi (z_send Z kp from_ to size seed how).2))) := by
                intro n
                induction n with
                | zero =>
                  intro i hi
                  refine P_iload (i := 8) rfl dX8_trySend_90 ?_
                  refine P_bipush (v := 14) rfl dX8_trySend_92 ?_
                  refine P_icmpge dX8_trySend_94 (tgt := 112) rfl (fun h94 => ?_) (fun h94 => absurd ((n_le (a := 14) (b := i) (by omega) (by omega)).mpr (by omega)) h94)
                  have e : i = 14 := by omega
                  subst e
                  refine P_aloadn (i := 0) rfl rfl dX8_trySend_112 ?_
                  refine P_iload (i := 7) rfl dX8_trySend_113 ?_
                  refine P_iconst (v := 0) rfl dX8_trySend_115 ?_
                  refine P_iloadn (i := 1) rfl rfl dX8_trySend_116 ?_
                  refine kX8_105 rfl (s_layP hM (k := 0) hp4 rfl (by decide)) (by decide) (by first | exact hM.k0 | exact hM.k1 | exact hM.k2 | exact hM.k3 | exact hM.k4 | exact hM.k5 | exact hM.k6 | exact hM.k7 | exact hM.k8 | exact hM.k9 | exact hM.k10 | exact hM.k11 | exact hM.k12 | exact hM.k13 | exact hM.k14 | exact hM.k15 | exact hM.k16 | exact hM.k17) rfl dX8_trySend_117 (fun r117 s117 q117 => ?_)
                  obtain ⟨rfl, rfl⟩ := q117
                  rw [hnp]
                  refine P_aloadn (i := 0) rfl rfl dX8_trySend_120 ?_
                  refine P_iload (i := 7) rfl dX8_trySend_121 ?_
                  refine P_iconst (v := 1) rfl dX8_trySend_123 ?_
                  refine P_iloadn (i := 2) rfl rfl dX8_trySend_124 ?_
                  refine kX8_105 rfl (s_layP hM (k := 1) hp4 rfl (by decide)) (by decide) (by first | exact hM.k0 | exact hM.k1 | exact hM.k2 | exact hM.k3 | exact hM.k4 | exact hM.k5 | exact hM.k6 | exact hM.k7 | exact hM.k8 | exact hM.k9 | exact hM.k10 | exact hM.k11 | exact hM.k12 | exact hM.k13 | exact hM.k14 | exact hM.k15 | exact hM.k16 | exact hM.k17) rfl dX8_trySend_125 (fun r125 s125 q125 => ?_)
                  obtain ⟨rfl, rfl⟩ := q125
                  rw [hnp]
                  refine P_aloadn (i := 0) rfl rfl dX8_trySend_128 ?_
                  refine P_iload (i := 7) rfl dX8_trySend_129 ?_
                  refine P_iconst (v := 2) rfl dX8_trySend_131 ?_
                  refine P_iloadn (i := 3) rfl rfl dX8_trySend_132 ?_
                  refine kX8_105 rfl (s_layP hM (k := 2) hp4 rfl (by decide)) (by decide) (by first | exact hM.k0 | exact hM.k1 | exact hM.k2 | exact hM.k3 | exact hM.k4 | exact hM.k5 | exact hM.k6 | exact hM.k7 | exact hM.k8 | exact hM.k9 | exact hM.k10 | exact hM.k11 | exact hM.k12 | exact hM.k13 | exact hM.k14 | exact hM.k15 | exact hM.k16 | exact hM.k17) rfl dX8_trySend_133 (fun r133 s133 q133 => ?_)
                  obtain ⟨rfl, rfl⟩ := q133
                  rw [hnp]
                  refine P_aloadn (i := 0) rfl rfl dX8_trySend_136 ?_
                  refine P_iload (i := 7) rfl dX8_trySend_137 ?_
                  refine P_iconst (v := 3) rfl dX8_trySend_139 ?_
                  refine P_iload (i := 4) rfl dX8_trySend_140 ?_
                  refine kX8_105 rfl (s_layP hM (k := 3) hp4 rfl (by decide)) (by decide) (by first | exact hM.k0 | exact hM.k1 | exact hM.k2 | exact hM.k3 | exact hM.k4 | exact hM.k5 | exact hM.k6 | exact hM.k7 | exact hM.k8 | exact hM.k9 | exact hM.k10 | exact hM.k11 | exact hM.k12 | exact hM.k13 | exact hM.k14 | exact hM.k15 | exact hM.k16 | exact hM.k17) rfl dX8_trySend_142 (fun r142 s142 q142 => ?_)
                  obtain ⟨rfl, rfl⟩ := q142
                  rw [hnp]
                  refine P_aloadn (i := 0) rfl rfl dX8_trySend_145 ?_
                  refine P_iload (i := 7) rfl dX8_trySend_146 ?_
                  refine P_iconst (v := 4) rfl dX8_trySend_148 ?_
                  refine P_iload (i := 5) rfl dX8_trySend_149 ?_
                  refine P_iconst (v := 2) rfl dX8_trySend_151 ?_
                  refine P_irem2 (by decide) dX8_trySend_152 ?_
                  refine kX8_105 rfl (s_layP hM (k := 4) hp4 rfl (by decide)) (by decide) (by first | exact hM.k0 | exact hM.k1 | exact hM.k2 | exact hM.k3 | exact hM.k4 | exact hM.k5 | exact hM.k6 | exact hM.k7 | exact hM.k8 | exact hM.k9 | exact hM.k10 | exact hM.k11 | exact hM.k12 | exact hM.k13 | exact hM.k14 | exact hM.k15 | exact hM.k16 | exact hM.k17) rfl dX8_trySend_153 (fun r153 s153 q153 => ?_)
                  obtain ⟨rfl, rfl⟩ := q153
                  rw [hnp]
                  refine P_aloadn (i := 0) rfl rfl dX8_trySend_156 ?_
                  refine P_iload (i := 7) rfl dX8_trySend_157 ?_
                  refine P_bipush (v := 7) rfl dX8_trySend_159 ?_
                  refine P_iload (i := 5) rfl dX8_trySend_161 ?_
                  refine P_iconst (v := 2) rfl dX8_trySend_163 ?_
                  refine P_idiv (by decide) dX8_trySend_164 ?_
                  refine kX8_105 rfl (s_layP hM (k := 7) hp4 rfl (by decide)) (by decide) (by first | exact hM.k0 | exact hM.k1 | exact hM.k2 | exact hM.k3 | exact hM.k4 | exact hM.k5 | exact hM.k6 | exact hM.k7 | exact hM.k8 | exact hM.k9 | exact hM.k10 | exact hM.k11 | exact hM.k12 | exact hM.k13 | exact hM.k14 | exact hM.k15 | exact hM.k16 | exact hM.k17) rfl dX8_trySend_165 (fun r165 s165 q165 => ?_)
                  obtain ⟨rfl, rfl⟩ := q165
                  rw [hnp]
                  refine P_aloadn (i := 0) rfl rfl dX8_trySend_168 ?_
                  refine P_iload (i := 7) rfl dX8_trySend_169 ?_
                  refine P_bipush (v := 6) rfl dX8_trySend_171 ?_
                  refine P_iconst (v := 1) rfl dX8_trySend_173 ?_
                  refine kX8_105 rfl (s_layP hM (k := 6) hp4 rfl (by decide)) (by decide) (by first | exact hM.k0 | exact hM.k1 | exact hM.k2 | exact hM.k3 | exact hM.k4 | exact hM.k5 | exact hM.k6 | exact hM.k7 | exact hM.k8 | exact hM.k9 | exact hM.k10 | exact hM.k11 | exact hM.k12 | exact hM.k13 | exact hM.k14 | exact hM.k15 | exact hM.k16 | exact hM.k17) rfl dX8_trySend_174 (fun r174 s174 q174 => ?_)
                  obtain ⟨rfl, rfl⟩ := q174
                  rw [hnp]
                  refine P_aloadn (i := 0) rfl rfl dX8_trySend_177 ?_
                  refine P_iload (i := 7) rfl dX8_trySend_178 ?_
                  refine P_bipush (v := 8) rfl dX8_trySend_180 ?_
                  refine P_bipush (v := (-6)) rfl dX8_trySend_182 ?_
                  refine kX8_105 rfl (s_layP hM (k := 8) hp4 rfl (by decide)) (by decide) (by first | exact hM.k0 | exact hM.k1 | exact hM.k2 | exact hM.k3 | exact hM.k4 | exact hM.k5 | exact hM.k6 | exact hM.k7 | exact hM.k8 | exact hM.k9 | exact hM.k10 | exact hM.k11 | exact hM.k12 | exact hM.k13 | exact hM.k14 | exact hM.k15 | exact hM.k16 | exact hM.k17) rfl dX8_trySend_184 (fun r184 s184 q184 => ?_)
                  obtain ⟨rfl, rfl⟩ := q184
                  rw [hnp]
                  refine P_aloadn (i := 0) rfl rfl dX8_trySend_187 ?_
                  refine P_iload (i := 7) rfl dX8_trySend_188 ?_
                  refine P_bipush (v := 9) rfl dX8_trySend_190 ?_
                  refine P_bipush (v := (-6)) rfl dX8_trySend_192 ?_
                  refine kX8_105 rfl (s_layP hM (k := 9) hp4 rfl (by decide)) (by decide) (by first | exact hM.k0 | exact hM.k1 | exact hM.k2 | exact hM.k3 | exact hM.k4 | exact hM.k5 | exact hM.k6 | exact hM.k7 | exact hM.k8 | exact hM.k9 | exact hM.k10 | exact hM.k11 | exact hM.k12 | exact hM.k13 | exact hM.k14 | exact hM.k15 | exact hM.k16 | exact hM.k17) rfl dX8_trySend_194 (fun r194 s194 q194 => ?_)
                  obtain ⟨rfl, rfl⟩ := q194
                  rw [hnp]
                  refine P_aloadn (i := 0) rfl rfl dX8_trySend_197 ?_
                  refine P_iload (i := 7) rfl dX8_trySend_198 ?_
                  refine P_bipush (v := 10) rfl dX8_trySend_200 ?_
                  refine P_bipush (v := (-6)) rfl dX8_trySend_202 ?_
                  refine kX8_105 rfl (s_layP hM (k := 10) hp4 rfl (by decide)) (by decide) (by first | exact hM.k0 | exact hM.k1 | exact hM.k2 | exact hM.k3 | exact hM.k4 | exact hM.k5 | exact hM.k6 | exact hM.k7 | exact hM.k8 | exact hM.k9 | exact hM.k10 | exact hM.k11 | exact hM.k12 | exact hM.k13 | exact hM.k14 | exact hM.k15 | exact hM.k16 | exact hM.k17) rfl dX8_trySend_204 (fun r204 s204 q204 => ?_)
                  obtain ⟨rfl, rfl⟩ := q204
                  rw [hnp]
                  refine J207 _ (fun a ha => ?_) (fun j hj => ?_) (fun k hk => ?_)
                  · simp only [p_up_oth ha]
                    exact flA_src ha
                  · simp only [p_up_fn]
                    rw [if_neg (by omega), if_neg (by omega), if_neg (by omega), if_neg (by omega), if_neg (by omega), if_neg (by omega), if_neg (by omega), if_neg (by omega), if_neg (by omega), if_neg (by omega)]
                    exact flA_out (by omega)
                  · simp only [p_up_fn]
                    rcases (show k = 0 ∨ k = 1 ∨ k = 2 ∨ k = 3 ∨ k = 4 ∨ k = 5 ∨ k = 6 ∨ k = 7 ∨ k = 8 ∨ k = 9 ∨ k = 10 ∨ k = 11 ∨ k = 12 by omega) with e | e | e | e | e | e | e | e | e | e | e | e | e <;> subst e <;> simp [x_prow] <;> exact flA_in (by omega) (by omega)
                | succ n ih =>
                  intro i hi
                  refine P_iload (i := 8) rfl dX8_trySend_90 ?_
                  refine P_bipush (v := 14) rfl dX8_trySend_92 ?_
                  refine P_icmpge dX8_trySend_94 (tgt := 112) rfl (fun h94 => absurd h94 (fun h9 => by have h8 := (n_le (a := 14) (b := i) (by omega) (by omega)).mp h9; omega)) (fun h94 => ?_)
                  refine P_aloadn (i := 0) rfl rfl dX8_trySend_97 ?_
                  refine P_iload (i := 7) rfl dX8_trySend_98 ?_
                  refine P_iload (i := 8) rfl dX8_trySend_100 ?_
                  refine P_iconst (v := 0) rfl dX8_trySend_102 ?_
                  refine kX8_105 rfl (s_layP hM (k := i) hp4 rfl (by omega)) (by decide) (by first | exact hM.k0 | exact hM.k1 | exact hM.k2 | exact hM.k3 | exact hM.k4 | exact hM.k5 | exact hM.k6 | exact hM.k7 | exact hM.k8 | exact hM.k9 | exact hM.k10 | exact hM.k11 | exact hM.k12 | exact hM.k13 | exact hM.k14 | exact hM.k15 | exact hM.k16 | exact hM.k17) rfl dX8_trySend_103 (fun r103 s103 q103 => ?_)
                  obtain ⟨rfl, rfl⟩ := q103
                  rw [hnp]
                  refine P_inN8 dX8_trySend_106 rfl rfl ?_
                  refine P_goto dX8_trySend_109 (tgt := 90) rfl ?_
                  rw [flA_s rfl]
                  exact ih (i + 1) (by omega)
              refine P_aloadn (i := 0) rfl rfl dX8_trySend_79 ?_
              refine gX8_7 rfl (by first | exact hM.k0 | exact hM.k1 | exact hM.k2 | exact hM.k3 | exact hM.k4 | exact hM.k5 | exact hM.k6 | exact hM.k7 | exact hM.k8 | exact hM.k9 | exact hM.k10 | exact hM.k11 | exact hM.k12 | exact hM.k13 | exact hM.k14 | exact hM.k15 | exact hM.k16 | exact hM.k17) hM.r256 dX8_trySend_80 ?_
              refine P_iconst (v := 2) rfl dX8_trySend_83 ?_
              refine P_iaN (j := 2) (by first | exact hM.k0 | exact hM.k1 | exact hM.k2 | exact hM.k3 | exact hM.k4 | exact hM.k5 | exact hM.k6 | exact hM.k7 | exact hM.k8 | exact hM.k9 | exact hM.k10 | exact hM.k11 | exact hM.k12 | exact hM.k13 | exact hM.k14 | exact hM.k15 | exact hM.k16 | exact hM.k17) rfl (by first | omega | (simp only [hM.l1, hM.l2, hM.l3, hM.l4, hM.l5, hM.l6, hM.l7, hM.l8, hM.l9, hM.l10, hM.l11, hM.l12, hM.l13, hM.l14, hM.l15, hM.l16, hM.l17]; omega)) (by first | omega | (simp only [hM.l1, hM.l2, hM.l3, hM.l4, hM.l5, hM.l6, hM.l7, hM.l8, hM.l9, hM.l10, hM.l11, hM.l12, hM.l13, hM.l14, hM.l15, hM.l16, hM.l17]; omega)) hX2.np dX8_trySend_84 ?_
              refine P_is7 (Or.inr dX8_trySend_85) rfl rfl ?_
              refine P_iconst (v := 0) rfl dX8_trySend_87 ?_
              refine P_is8 (Or.inr dX8_trySend_88) rfl rfl ?_
              refine P_few (ls2 := [some (vr m), some (vi from_), some (vi to), some (vi size), some (vi seed), some (vi how), none, some (vi (Int32.ofNat (xp (zX Z)))), some (vi (Int32.ofNat 0))]) ⟨rfl, rfl, rfl, rfl, rfl, rfl, rfl, rfl, trivial⟩ ?_
              have h0 := loop1 14 0 (by omega)
              rw [flA_0] at h0
              exact h0
            · refine P_bipush (v := (-4)) rfl dX8_trySend_70 ?_
              refine P_ireturn rfl dX8_trySend_72 ?_
              rw [show z_send Z kp from_ to size seed how = (Z, -4) from (if_neg (fun hh => hh (b_t h5))).trans ((if_neg (fun hh => hh ⟨b_t h18, b_t h30, b_t h41⟩)).trans (if_pos (Or.inr ((n_eq (b := 300) (by omega) (by omega)).mp h67))))]
              exact ⟨_, _, rfl, rfl, FrM.rf, hZ⟩
        · refine P_bipush (v := (-2)) rfl dX8_trySend_44 ?_
          refine P_ireturn rfl dX8_trySend_46 ?_
          rw [show z_send Z kp from_ to size seed how = (Z, -2) from (if_neg (fun hh => hh (b_t h5))).trans (if_pos (fun hh => b_f h41 hh.2.2))]
          exact ⟨_, _, rfl, rfl, FrM.rf, hZ⟩
  · refine P_iconst (v := (-1)) rfl dX8_trySend_8 ?_
    refine P_ireturn rfl dX8_trySend_9 ?_
    rw [show z_send Z kp from_ to size seed how = (Z, -1) from if_pos (b_f h5)]
    exact ⟨_, _, rfl, rfl, FrM.rf, hZ⟩
theorem s_send (hM : WM L m) (hZ : RZ FI AI m Z) {from_ to size seed how : Int32} : Sp g 5 iX8_send [vr m, vi from_, vi to, vi size, vi seed, vi how] (L, FI, AI, AL, AR) (0, 0) (RZM L FI AI AL AR m (z_send Z true from_ to size seed how).1 (some (vi (z_send Z true from_ to size seed how).2))) := by
  refine Sp.of (ls := [some (vr m), some (vi from_), some (vi to), some (vi size), some (vi seed), some (vi how)]) (by decide +kernel) rfl rfl ?_
  refine P_aloadn (i := 0) rfl rfl dX8_send_0 ?_
  refine P_iloadn (i := 1) rfl rfl dX8_send_1 ?_
  refine P_iloadn (i := 2) rfl rfl dX8_send_2 ?_
  refine P_iloadn (i := 3) rfl rfl dX8_send_3 ?_
  refine P_iload (i := 4) rfl dX8_send_4 ?_
  refine P_iload (i := 5) rfl dX8_send_6 ?_
  refine P_iconst (v := 1) rfl dX8_send_8 ?_
  refine kX8_127 rfl (s_trySend hM hZ (kp := true)) (by decide) (by first | exact hM.k0 | exact hM.k1 | exact hM.k2 | exact hM.k3 | exact hM.k4 | exact hM.k5 | exact hM.k6 | exact hM.k7 | exact hM.k8 | exact hM.k9 | exact hM.k10 | exact hM.k11 | exact hM.k12 | exact hM.k13 | exact hM.k14 | exact hM.k15 | exact hM.k16 | exact hM.k17) rfl dX8_send_9 (fun r9 s9 q9 => ?_)
  obtain ⟨F2, A2, rfl, rfl, hFr, hZ2⟩ := q9
  refine P_ireturn rfl dX8_send_12 ?_
  exact ⟨_, _, rfl, rfl, hFr, hZ2⟩
theorem s_tryResend (hM : WM L m) (hZ : RZ FI AI m Z) {p : Int32} {kp : Bool} : Sp g 4 iX8_tryResend [vr m, vi p, vi (if kp = true then 1 else 0)] (L, FI, AI, AL, AR) (0, 0) (RZM L FI AI AL AR m (z_resend Z kp p).1 (some (vi (z_resend Z kp p).2))) := by
  refine Sp.of (ls := [some (vr m), some (vi p), some (vi (if kp = true then 1 else 0))]) (by decide +kernel) rfl rfl ?_
  have hp40 := hZ.x.p40
  have hs30 := hZ.x.s300
  refine P_aloadn (i := 0) rfl rfl dX8_tryResend_0 ?_
  refine P_iloadn (i := 1) rfl rfl dX8_tryResend_1 ?_
  refine kX8_131 rfl (s_isParcel hM hZ.x) (by decide) (by first | exact hM.k0 | exact hM.k1 | exact hM.k2 | exact hM.k3 | exact hM.k4 | exact hM.k5 | exact hM.k6 | exact hM.k7 | exact hM.k8 | exact hM.k9 | exact hM.k10 | exact hM.k11 | exact hM.k12 | exact hM.k13 | exact hM.k14 | exact hM.k15 | exact hM.k16 | exact hM.k17) rfl dX8_tryResend_2 (fun r2 s2 q2 => ?_)
  obtain ⟨rfl, rfl⟩ := q2
  refine P_ifne dX8_tryResend_5 (tgt := 10) rfl (fun h5 => ?_) (fun h5 => ?_)
  · have hp : ib p (xp (zX Z)) := q_ib_iff.mp (b_t h5)
    have hp9 := hp.nn
    refine P_aloadn (i := 0) rfl rfl dX8_tryResend_10 ?_
    refine gX8_7 rfl (by first | exact hM.k0 | exact hM.k1 | exact hM.k2 | exact hM.k3 | exact hM.k4 | exact hM.k5 | exact hM.k6 | exact hM.k7 | exact hM.k8 | exact hM.k9 | exact hM.k10 | exact hM.k11 | exact hM.k12 | exact hM.k13 | exact hM.k14 | exact hM.k15 | exact hM.k16 | exact hM.k17) hM.r256 dX8_tryResend_11 ?_
    refine P_iconst (v := 3) rfl dX8_tryResend_14 ?_
    refine P_iaN (j := 3) (by first | exact hM.k0 | exact hM.k1 | exact hM.k2 | exact hM.k3 | exact hM.k4 | exact hM.k5 | exact hM.k6 | exact hM.k7 | exact hM.k8 | exact hM.k9 | exact hM.k10 | exact hM.k11 | exact hM.k12 | exact hM.k13 | exact hM.k14 | exact hM.k15 | exact hM.k16 | exact hM.k17) rfl (by first | omega | (simp only [hM.l1, hM.l2, hM.l3, hM.l4, hM.l5, hM.l6, hM.l7, hM.l8, hM.l9, hM.l10, hM.l11, hM.l12, hM.l13, hM.l14, hM.l15, hM.l16, hM.l17]; omega)) (by first | omega | (simp only [hM.l1, hM.l2, hM.l3, hM.l4, hM.l5, hM.l6, hM.l7, hM.l8, hM.l9, hM.l10, hM.l11, hM.l12, hM.l13, hM.l14, hM.l15, hM.l16, hM.l17]; omega)) hZ.x.ns dX8_tryResend_15 ?_
    refine P_sipush (v := 300) rfl dX8_tryResend_16 ?_
    refine P_icmpne dX8_tryResend_19 (tgt := 25) rfl (fun h19 => ?_) (fun h19 => ?_)
    · have hn300 : ¬ (xS (zX Z)).length = 300 := fun hh => h19 (by rw [hh]; rfl)
      refine P_aloadn (i := 0) rfl rfl dX8_tryResend_25 ?_
      refine P_iloadn (i := 1) rfl rfl dX8_tryResend_26 ?_
      refine P_iconst (v := 5) rfl dX8_tryResend_27 ?_
      refine kX8_102 rfl (s_ofP hM hZ.x (k := 5) hp rfl (by decide)) (by decide) (by first | exact hM.k0 | exact hM.k1 | exact hM.k2 | exact hM.k3 | exact hM.k4 | exact hM.k5 | exact hM.k6 | exact hM.k7 | exact hM.k8 | exact hM.k9 | exact hM.k10 | exact hM.k11 | exact hM.k12 | exact hM.k13 | exact hM.k14 | exact hM.k15 | exact hM.k16 | exact hM.k17) rfl dX8_tryResend_28 (fun r28 s28 q28 => ?_)
      obtain ⟨rfl, rfl⟩ := q28
      refine P_ifeq dX8_tryResend_31 (tgt := 37) rfl (fun h31 => ?_) (fun h31 => ?_)
      · refine P_aloadn (i := 0) rfl rfl dX8_tryResend_37 ?_
        refine P_iloadn (i := 2) rfl rfl dX8_tryResend_38 ?_
        refine kX8_119 rfl (s_keepIf hM hZ (kp := kp)) (by decide) (by first | exact hM.k0 | exact hM.k1 | exact hM.k2 | exact hM.k3 | exact hM.k4 | exact hM.k5 | exact hM.k6 | exact hM.k7 | exact hM.k8 | exact hM.k9 | exact hM.k10 | exact hM.k11 | exact hM.k12 | exact hM.k13 | exact hM.k14 | exact hM.k15 | exact hM.k16 | exact hM.k17) rfl dX8_tryResend_39 (fun r39 s39 q39 => ?_)
        obtain ⟨F2, A2, rfl, rfl, hFr, hZ2⟩ := q39
        have hX2 : RA A2 m (zX Z) := by cases kp <;> exact hZ2.x
        refine P_aloadn (i := 0) rfl rfl dX8_tryResend_42 ?_
        refine P_iloadn (i := 1) rfl rfl dX8_tryResend_43 ?_
        refine P_iconst (v := 0) rfl dX8_tryResend_44 ?_
        refine P_aloadn (i := 0) rfl rfl dX8_tryResend_45 ?_
        refine P_iloadn (i := 1) rfl rfl dX8_tryResend_46 ?_
        refine P_iconst (v := 2) rfl dX8_tryResend_47 ?_
        refine kX8_102 rfl (s_ofP hM hX2 (k := 2) hp rfl (by decide)) (by decide) (by first | exact hM.k0 | exact hM.k1 | exact hM.k2 | exact hM.k3 | exact hM.k4 | exact hM.k5 | exact hM.k6 | exact hM.k7 | exact hM.k8 | exact hM.k9 | exact hM.k10 | exact hM.k11 | exact hM.k12 | exact hM.k13 | exact hM.k14 | exact hM.k15 | exact hM.k16 | exact hM.k17) rfl dX8_tryResend_48 (fun r48 s48 q48 => ?_)
        obtain ⟨rfl, rfl⟩ := q48
        refine P_iconst (v := 1) rfl dX8_tryResend_51 ?_
        refine P_aloadn (i := 0) rfl rfl dX8_tryResend_52 ?_
        refine P_iloadn (i := 1) rfl rfl dX8_tryResend_53 ?_
        refine P_bipush (v := 7) rfl dX8_tryResend_54 ?_
        refine kX8_102 rfl (s_ofP hM hX2 (k := 7) hp rfl (by decide)) (by decide) (by first | exact hM.k0 | exact hM.k1 | exact hM.k2 | exact hM.k3 | exact hM.k4 | exact hM.k5 | exact hM.k6 | exact hM.k7 | exact hM.k8 | exact hM.k9 | exact hM.k10 | exact hM.k11 | exact hM.k12 | exact hM.k13 | exact hM.k14 | exact hM.k15 | exact hM.k16 | exact hM.k17) rfl dX8_tryResend_56 (fun r56 s56 q56 => ?_)
        obtain ⟨rfl, rfl⟩ := q56
        refine P_aloadn (i := 0) rfl rfl dX8_tryResend_59 ?_
        refine P_iloadn (i := 1) rfl rfl dX8_tryResend_60 ?_
        refine P_iconst (v := 3) rfl dX8_tryResend_61 ?_
        refine kX8_102 rfl (s_ofP hM hX2 (k := 3) hp rfl (by decide)) (by decide) (by first | exact hM.k0 | exact hM.k1 | exact hM.k2 | exact hM.k3 | exact hM.k4 | exact hM.k5 | exact hM.k6 | exact hM.k7 | exact hM.k8 | exact hM.k9 | exact hM.k10 | exact hM.k11 | exact hM.k12 | exact hM.k13 | exact hM.k14 | exact hM.k15 | exact hM.k16 | exact hM.k17) rfl dX8_tryResend_62 (fun r62 s62 q62 => ?_)
        obtain ⟨rfl, rfl⟩ := q62
        refine P_aloadn (i := 0) rfl rfl dX8_tryResend_65 ?_
        refine P_iloadn (i := 1) rfl rfl dX8_tryResend_66 ?_
        refine P_iconst (v := 0) rfl dX8_tryResend_67 ?_
        refine kX8_102 rfl (s_ofP hM hX2 (k := 0) hp rfl (by decide)) (by decide) (by first | exact hM.k0 | exact hM.k1 | exact hM.k2 | exact hM.k3 | exact hM.k4 | exact hM.k5 | exact hM.k6 | exact hM.k7 | exact hM.k8 | exact hM.k9 | exact hM.k10 | exact hM.k11 | exact hM.k12 | exact hM.k13 | exact hM.k14 | exact hM.k15 | exact hM.k16 | exact hM.k17) rfl dX8_tryResend_68 (fun r68 s68 q68 => ?_)
        obtain ⟨rfl, rfl⟩ := q68
        refine kX8_123 rfl (s_makeSlice hM hX2 (by omega)) (by decide) (by first | exact hM.k0 | exact hM.k1 | exact hM.k2 | exact hM.k3 | exact hM.k4 | exact hM.k5 | exact hM.k6 | exact hM.k7 | exact hM.k8 | exact hM.k9 | exact hM.k10 | exact hM.k11 | exact hM.k12 | exact hM.k13 | exact hM.k14 | exact hM.k15 | exact hM.k16 | exact hM.k17) rfl dX8_tryResend_71 (fun r71 s71 q71 => ?_)
        obtain ⟨A3, rfl, rfl, hF3, hA3⟩ := q71
        refine P_aloadn (i := 0) rfl rfl dX8_tryResend_74 ?_
        refine gX8_7 rfl (by first | exact hM.k0 | exact hM.k1 | exact hM.k2 | exact hM.k3 | exact hM.k4 | exact hM.k5 | exact hM.k6 | exact hM.k7 | exact hM.k8 | exact hM.k9 | exact hM.k10 | exact hM.k11 | exact hM.k12 | exact hM.k13 | exact hM.k14 | exact hM.k15 | exact hM.k16 | exact hM.k17) hM.r256 dX8_tryResend_75 ?_
        refine P_iconst (v := 4) rfl dX8_tryResend_78 ?_
        refine P_dup2 rfl rfl dX8_tryResend_79 ?_
        refine P_iaN (j := 4) (by first | exact hM.k0 | exact hM.k1 | exact hM.k2 | exact hM.k3 | exact hM.k4 | exact hM.k5 | exact hM.k6 | exact hM.k7 | exact hM.k8 | exact hM.k9 | exact hM.k10 | exact hM.k11 | exact hM.k12 | exact hM.k13 | exact hM.k14 | exact hM.k15 | exact hM.k16 | exact hM.k17) rfl (by first | omega | (simp only [hM.l1, hM.l2, hM.l3, hM.l4, hM.l5, hM.l6, hM.l7, hM.l8, hM.l9, hM.l10, hM.l11, hM.l12, hM.l13, hM.l14, hM.l15, hM.l16, hM.l17]; omega)) (by first | omega | (simp only [hM.l1, hM.l2, hM.l3, hM.l4, hM.l5, hM.l6, hM.l7, hM.l8, hM.l9, hM.l10, hM.l11, hM.l12, hM.l13, hM.l14, hM.l15, hM.l16, hM.l17]; omega)) (show _ = xG (zX Z) 4 from hA3.g (by omega) (by omega) (by omega) (by omega)) dX8_tryResend_80 ?_
        refine P_iconst (v := 1) rfl dX8_tryResend_81 ?_
        refine P_iadd dX8_tryResend_82 ?_
        refine P_isN (j := 4) (by first | exact hM.k0 | exact hM.k1 | exact hM.k2 | exact hM.k3 | exact hM.k4 | exact hM.k5 | exact hM.k6 | exact hM.k7 | exact hM.k8 | exact hM.k9 | exact hM.k10 | exact hM.k11 | exact hM.k12 | exact hM.k13 | exact hM.k14 | exact hM.k15 | exact hM.k16 | exact hM.k17) rfl (by first | omega | (simp only [hM.l1, hM.l2, hM.l3, hM.l4, hM.l5, hM.l6, hM.l7, hM.l8, hM.l9, hM.l10, hM.l11, hM.l12, hM.l13, hM.l14, hM.l15, hM.l16, hM.l17]; omega)) (by first | omega | (simp only [hM.l1, hM.l2, hM.l3, hM.l4, hM.l5, hM.l6, hM.l7, hM.l8, hM.l9, hM.l10, hM.l11, hM.l12, hM.l13, hM.l14, hM.l15, hM.l16, hM.l17]; omega)) dX8_tryResend_83 ?_
        have hA4 := hA3.setG (k := 4) (v := xG (zX Z) 4 + 1) (by omega) (by omega) (by omega) (by omega)
        refine P_aloadn (i := 0) rfl rfl dX8_tryResend_84 ?_
        refine P_iloadn (i := 1) rfl rfl dX8_tryResend_85 ?_
        refine P_bipush (v := 6) rfl dX8_tryResend_86 ?_
        refine P_aloadn (i := 0) rfl rfl dX8_tryResend_88 ?_
        refine P_iloadn (i := 1) rfl rfl dX8_tryResend_89 ?_
        refine P_bipush (v := 6) rfl dX8_tryResend_90 ?_
        refine kX8_102 rfl (s_ofP hM hA4 (k := 6) hp rfl (by decide)) (by decide) (by first | exact hM.k0 | exact hM.k1 | exact hM.k2 | exact hM.k3 | exact hM.k4 | exact hM.k5 | exact hM.k6 | exact hM.k7 | exact hM.k8 | exact hM.k9 | exact hM.k10 | exact hM.k11 | exact hM.k12 | exact hM.k13 | exact hM.k14 | exact hM.k15 | exact hM.k16 | exact hM.k17) rfl dX8_tryResend_92 (fun r92 s92 q92 => ?_)
        obtain ⟨rfl, rfl⟩ := q92
        refine P_iconst (v := 1) rfl dX8_tryResend_95 ?_
        refine P_iadd dX8_tryResend_96 ?_
        refine kX8_105 rfl (s_layP hM (k := 6) (hp.mono hZ.x.p40) rfl (by decide)) (by decide) (by first | exact hM.k0 | exact hM.k1 | exact hM.k2 | exact hM.k3 | exact hM.k4 | exact hM.k5 | exact hM.k6 | exact hM.k7 | exact hM.k8 | exact hM.k9 | exact hM.k10 | exact hM.k11 | exact hM.k12 | exact hM.k13 | exact hM.k14 | exact hM.k15 | exact hM.k16 | exact hM.k17) rfl dX8_tryResend_97 (fun r97 s97 q97 => ?_)
        obtain ⟨rfl, rfl⟩ := q97
        have hA5 := hA4.setP (i := nn p) (k := 6) (v := xP (zX Z) (nn p) 6 + 1) hp9 (by decide)
        refine P_aloadn (i := 0) rfl rfl dX8_tryResend_100 ?_
        refine P_iloadn (i := 1) rfl rfl dX8_tryResend_101 ?_
        refine P_bipush (v := 6) rfl dX8_tryResend_102 ?_
        refine kX8_102 rfl (s_ofP hM hA5 (k := 6) hp rfl (by decide)) (by decide) (by first | exact hM.k0 | exact hM.k1 | exact hM.k2 | exact hM.k3 | exact hM.k4 | exact hM.k5 | exact hM.k6 | exact hM.k7 | exact hM.k8 | exact hM.k9 | exact hM.k10 | exact hM.k11 | exact hM.k12 | exact hM.k13 | exact hM.k14 | exact hM.k15 | exact hM.k16 | exact hM.k17) rfl dX8_tryResend_104 (fun r104 s104 q104 => ?_)
        obtain ⟨rfl, rfl⟩ := q104
        refine P_ireturn rfl dX8_tryResend_107 ?_
        rw [show z_resend Z kp p = (z_x (z_keepIf Z kp) (x_resend (zX Z) (nn p)), xP (zX Z) (nn p) 6 + 1) from (if_neg (fun hh => hh (b_t h5))).trans ((if_neg hn300).trans (if_neg (fun hh => hh h31)))]
        refine ⟨_, _, rfl, ?_, hFr.tr (FrM.fa (hF3.u1).u1), hZ2.fa (hF3.u1).u1 ?_⟩
        · exact congrArg (fun z => some (vi z)) (p_up_eq _ _ _ _)
        · have e : x_resend (zX Z) (nn p) = x_p (x_g (x_s (zX Z) (xS (zX Z) ++ [(p, 0, xP (zX Z) (nn p) 2, 1, xP (zX Z) (nn p) 7, xP (zX Z) (nn p) 3, xG (zX Z) 0, xP (zX Z) (nn p) 0)])) 4 (xG (zX Z) 4 + 1)) (nn p) 6 (xP (zX Z) (nn p) 6 + 1) := by
            unfold x_resend
            dsimp only
            rw [← hp.eq]
          rw [e]
          exact hA5
      · refine P_bipush (v := (-5)) rfl dX8_tryResend_34 ?_
        refine P_ireturn rfl dX8_tryResend_36 ?_
        rw [show z_resend Z kp p = (Z, -5) from (if_neg (fun hh => hh (b_t h5))).trans ((if_neg hn300).trans (if_pos h31))]
        exact ⟨_, _, rfl, rfl, FrM.rf, hZ⟩
    · refine P_bipush (v := (-4)) rfl dX8_tryResend_22 ?_
      refine P_ireturn rfl dX8_tryResend_24 ?_
      rw [show z_resend Z kp p = (Z, -4) from (if_neg (fun hh => hh (b_t h5))).trans (if_pos ((n_eq (b := 300) (by omega) (by omega)).mp h19))]
      exact ⟨_, _, rfl, rfl, FrM.rf, hZ⟩
  · refine P_iconst (v := (-1)) rfl dX8_tryResend_8 ?_
    refine P_ireturn rfl dX8_tryResend_9 ?_
    rw [show z_resend Z kp p = (Z, -1) from if_pos (b_f h5)]
    exact ⟨_, _, rfl, rfl, FrM.rf, hZ⟩
theorem s_resend (hM : WM L m) (hZ : RZ FI AI m Z) {p : Int32} : Sp g 5 iX8_resend [vr m, vi p] (L, FI, AI, AL, AR) (0, 0) (RZM L FI AI AL AR m (z_resend Z true p).1 (some (vi (z_resend Z true p).2))) := by
  refine Sp.of (ls := [some (vr m), some (vi p)]) (by decide +kernel) rfl rfl ?_
  refine P_aloadn (i := 0) rfl rfl dX8_resend_0 ?_
  refine P_iloadn (i := 1) rfl rfl dX8_resend_1 ?_
  refine P_iconst (v := 1) rfl dX8_resend_2 ?_
  refine kX8_134 rfl (s_tryResend hM hZ (kp := true)) (by decide) (by first | exact hM.k0 | exact hM.k1 | exact hM.k2 | exact hM.k3 | exact hM.k4 | exact hM.k5 | exact hM.k6 | exact hM.k7 | exact hM.k8 | exact hM.k9 | exact hM.k10 | exact hM.k11 | exact hM.k12 | exact hM.k13 | exact hM.k14 | exact hM.k15 | exact hM.k16 | exact hM.k17) rfl dX8_resend_3 (fun r3 s3 q3 => ?_)
  obtain ⟨F2, A2, rfl, rfl, hFr, hZ2⟩ := q3
  refine P_ireturn rfl dX8_resend_6 ?_
  exact ⟨_, _, rfl, rfl, hFr, hZ2⟩
theorem s_tryForge (hM : WM L m) (hZ : RZ FI AI m Z) {p off len la seed : Int32} {kp : Bool} : Sp g 4 iX8_tryForge [vr m, vi p, vi off, vi len, vi la, vi seed, vi (if kp = true then 1 else 0)] (L, FI, AI, AL, AR) (0, 0) (RZM L FI AI AL AR m (z_forge Z kp p off len la seed).1 (some (vi (z_forge Z kp p off len la seed).2))) := by
  refine Sp.of (ls := [some (vr m), some (vi p), some (vi off), some (vi len), some (vi la), some (vi seed), some (vi (if kp = true then 1 else 0))]) (by decide +kernel) rfl rfl ?_
  have hp40 := hZ.x.p40
  have hs30 := hZ.x.s300
  refine P_aloadn (i := 0) rfl rfl dX8_tryForge_0 ?_
  refine P_iloadn (i := 1) rfl rfl dX8_tryForge_1 ?_
  refine kX8_131 rfl (s_isParcel hM hZ.x) (by decide) (by first | exact hM.k0 | exact hM.k1 | exact hM.k2 | exact hM.k3 | exact hM.k4 | exact hM.k5 | exact hM.k6 | exact hM.k7 | exact hM.k8 | exact hM.k9 | exact hM.k10 | exact hM.k11 | exact hM.k12 | exact hM.k13 | exact hM.k14 | exact hM.k15 | exact hM.k16 | exact hM.k17) rfl dX8_tryForge_2 (fun r2 s2 q2 => ?_)
  obtain ⟨rfl, rfl⟩ := q2
  refine P_ifne dX8_tryForge_5 (tgt := 10) rfl (fun h5 => ?_) (fun h5 => ?_)
  · have hp : ib p (xp (zX Z)) := q_ib_iff.mp (b_t h5)
    have hp9 := hp.nn
    refine P_iloadn (i := 2) rfl rfl dX8_tryForge_10 ?_
    refine P_iconst (v := 0) rfl dX8_tryForge_11 ?_
    refine P_sipush (v := 3999) rfl dX8_tryForge_12 ?_
    refine kX8_65 rfl s_X8_in (by decide) rfl dX8_tryForge_15 (fun r15 s15 q15 => ?_)
    obtain ⟨rfl, rfl⟩ := q15
    refine P_ifeq dX8_tryForge_18 (tgt := 54) rfl (fun h18 => ?_) (fun h18 => ?_)
    · refine P_bipush (v := (-2)) rfl dX8_tryForge_54 ?_
      refine P_ireturn rfl dX8_tryForge_56 ?_
      rw [show z_forge Z kp p off len la seed = (Z, -2) from (if_neg (fun hh => hh (b_t h5))).trans (if_pos (fun hh => b_f h18 hh.1))]
      exact ⟨_, _, rfl, rfl, FrM.rf, hZ⟩
    · refine P_iloadn (i := 3) rfl rfl dX8_tryForge_21 ?_
      refine P_iconst (v := 1) rfl dX8_tryForge_22 ?_
      refine P_sipush (v := 1500) rfl dX8_tryForge_23 ?_
      refine kX8_65 rfl s_X8_in (by decide) rfl dX8_tryForge_26 (fun r26 s26 q26 => ?_)
      obtain ⟨rfl, rfl⟩ := q26
      refine P_ifeq dX8_tryForge_29 (tgt := 54) rfl (fun h29 => ?_) (fun h29 => ?_)
      · refine P_bipush (v := (-2)) rfl dX8_tryForge_54 ?_
        refine P_ireturn rfl dX8_tryForge_56 ?_
        rw [show z_forge Z kp p off len la seed = (Z, -2) from (if_neg (fun hh => hh (b_t h5))).trans (if_pos (fun hh => b_f h29 hh.2.1))]
        exact ⟨_, _, rfl, rfl, FrM.rf, hZ⟩
      · refine P_iload (i := 4) rfl dX8_tryForge_32 ?_
        refine P_iconst (v := 0) rfl dX8_tryForge_34 ?_
        refine P_iconst (v := 1) rfl dX8_tryForge_35 ?_
        refine kX8_65 rfl s_X8_in (by decide) rfl dX8_tryForge_36 (fun r36 s36 q36 => ?_)
        obtain ⟨rfl, rfl⟩ := q36
        refine P_ifeq dX8_tryForge_39 (tgt := 54) rfl (fun h39 => ?_) (fun h39 => ?_)
        · refine P_bipush (v := (-2)) rfl dX8_tryForge_54 ?_
          refine P_ireturn rfl dX8_tryForge_56 ?_
          rw [show z_forge Z kp p off len la seed = (Z, -2) from (if_neg (fun hh => hh (b_t h5))).trans (if_pos (fun hh => b_f h39 hh.2.2.1))]
          exact ⟨_, _, rfl, rfl, FrM.rf, hZ⟩
        · refine P_iload (i := 5) rfl dX8_tryForge_42 ?_
          refine P_iconst (v := 0) rfl dX8_tryForge_44 ?_
          refine P_sipush (v := 255) rfl dX8_tryForge_45 ?_
          refine kX8_65 rfl s_X8_in (by decide) rfl dX8_tryForge_48 (fun r48 s48 q48 => ?_)
          obtain ⟨rfl, rfl⟩ := q48
          refine P_ifne dX8_tryForge_51 (tgt := 57) rfl (fun h51 => ?_) (fun h51 => ?_)
          · refine P_aloadn (i := 0) rfl rfl dX8_tryForge_57 ?_
            refine gX8_7 rfl (by first | exact hM.k0 | exact hM.k1 | exact hM.k2 | exact hM.k3 | exact hM.k4 | exact hM.k5 | exact hM.k6 | exact hM.k7 | exact hM.k8 | exact hM.k9 | exact hM.k10 | exact hM.k11 | exact hM.k12 | exact hM.k13 | exact hM.k14 | exact hM.k15 | exact hM.k16 | exact hM.k17) hM.r256 dX8_tryForge_58 ?_
            refine P_iconst (v := 3) rfl dX8_tryForge_61 ?_
            refine P_iaN (j := 3) (by first | exact hM.k0 | exact hM.k1 | exact hM.k2 | exact hM.k3 | exact hM.k4 | exact hM.k5 | exact hM.k6 | exact hM.k7 | exact hM.k8 | exact hM.k9 | exact hM.k10 | exact hM.k11 | exact hM.k12 | exact hM.k13 | exact hM.k14 | exact hM.k15 | exact hM.k16 | exact hM.k17) rfl (by first | omega | (simp only [hM.l1, hM.l2, hM.l3, hM.l4, hM.l5, hM.l6, hM.l7, hM.l8, hM.l9, hM.l10, hM.l11, hM.l12, hM.l13, hM.l14, hM.l15, hM.l16, hM.l17]; omega)) (by first | omega | (simp only [hM.l1, hM.l2, hM.l3, hM.l4, hM.l5, hM.l6, hM.l7, hM.l8, hM.l9, hM.l10, hM.l11, hM.l12, hM.l13, hM.l14, hM.l15, hM.l16, hM.l17]; omega)) hZ.x.ns dX8_tryForge_62 ?_
            refine P_sipush (v := 300) rfl dX8_tryForge_63 ?_
            refine P_icmpne dX8_tryForge_66 (tgt := 72) rfl (fun h66 => ?_) (fun h66 => ?_)
            · have hn300 : ¬ (xS (zX Z)).length = 300 := fun hh => h66 (by rw [hh]; rfl)
              refine P_aloadn (i := 0) rfl rfl dX8_tryForge_72 ?_
              refine P_iload (i := 6) rfl dX8_tryForge_73 ?_
              refine kX8_119 rfl (s_keepIf hM hZ (kp := kp)) (by decide) (by first | exact hM.k0 | exact hM.k1 | exact hM.k2 | exact hM.k3 | exact hM.k4 | exact hM.k5 | exact hM.k6 | exact hM.k7 | exact hM.k8 | exact hM.k9 | exact hM.k10 | exact hM.k11 | exact hM.k12 | exact hM.k13 | exact hM.k14 | exact hM.k15 | exact hM.k16 | exact hM.k17) rfl dX8_tryForge_75 (fun r75 s75 q75 => ?_)
              obtain ⟨F2, A2, rfl, rfl, hFr, hZ2⟩ := q75
              have hX2 : RA A2 m (zX Z) := by cases kp <;> exact hZ2.x
              refine P_aloadn (i := 0) rfl rfl dX8_tryForge_78 ?_
              refine P_iloadn (i := 1) rfl rfl dX8_tryForge_79 ?_
              refine P_iloadn (i := 2) rfl rfl dX8_tryForge_80 ?_
              refine P_iloadn (i := 3) rfl rfl dX8_tryForge_81 ?_
              refine P_iload (i := 4) rfl dX8_tryForge_82 ?_
              refine P_iconst (v := 0) rfl dX8_tryForge_84 ?_
              refine P_iload (i := 5) rfl dX8_tryForge_85 ?_
              refine P_aloadn (i := 0) rfl rfl dX8_tryForge_87 ?_
              refine P_iloadn (i := 1) rfl rfl dX8_tryForge_88 ?_
              refine P_iconst (v := 1) rfl dX8_tryForge_89 ?_
              refine kX8_102 rfl (s_ofP hM hX2 (k := 1) hp rfl (by decide)) (by decide) (by first | exact hM.k0 | exact hM.k1 | exact hM.k2 | exact hM.k3 | exact hM.k4 | exact hM.k5 | exact hM.k6 | exact hM.k7 | exact hM.k8 | exact hM.k9 | exact hM.k10 | exact hM.k11 | exact hM.k12 | exact hM.k13 | exact hM.k14 | exact hM.k15 | exact hM.k16 | exact hM.k17) rfl dX8_tryForge_90 (fun r90 s90 q90 => ?_)
              obtain ⟨rfl, rfl⟩ := q90
              refine kX8_123 rfl (s_makeSlice hM hX2 (by omega)) (by decide) (by first | exact hM.k0 | exact hM.k1 | exact hM.k2 | exact hM.k3 | exact hM.k4 | exact hM.k5 | exact hM.k6 | exact hM.k7 | exact hM.k8 | exact hM.k9 | exact hM.k10 | exact hM.k11 | exact hM.k12 | exact hM.k13 | exact hM.k14 | exact hM.k15 | exact hM.k16 | exact hM.k17) rfl dX8_tryForge_93 (fun r93 s93 q93 => ?_)
              obtain ⟨A3, rfl, rfl, hF3, hA3⟩ := q93
              refine P_aloadn (i := 0) rfl rfl dX8_tryForge_96 ?_
              refine gX8_7 rfl (by first | exact hM.k0 | exact hM.k1 | exact hM.k2 | exact hM.k3 | exact hM.k4 | exact hM.k5 | exact hM.k6 | exact hM.k7 | exact hM.k8 | exact hM.k9 | exact hM.k10 | exact hM.k11 | exact hM.k12 | exact hM.k13 | exact hM.k14 | exact hM.k15 | exact hM.k16 | exact hM.k17) hM.r256 dX8_tryForge_97 ?_
              refine P_iconst (v := 4) rfl dX8_tryForge_100 ?_
              refine P_dup2 rfl rfl dX8_tryForge_101 ?_
              refine P_iaN (j := 4) (by first | exact hM.k0 | exact hM.k1 | exact hM.k2 | exact hM.k3 | exact hM.k4 | exact hM.k5 | exact hM.k6 | exact hM.k7 | exact hM.k8 | exact hM.k9 | exact hM.k10 | exact hM.k11 | exact hM.k12 | exact hM.k13 | exact hM.k14 | exact hM.k15 | exact hM.k16 | exact hM.k17) rfl (by first | omega | (simp only [hM.l1, hM.l2, hM.l3, hM.l4, hM.l5, hM.l6, hM.l7, hM.l8, hM.l9, hM.l10, hM.l11, hM.l12, hM.l13, hM.l14, hM.l15, hM.l16, hM.l17]; omega)) (by first | omega | (simp only [hM.l1, hM.l2, hM.l3, hM.l4, hM.l5, hM.l6, hM.l7, hM.l8, hM.l9, hM.l10, hM.l11, hM.l12, hM.l13, hM.l14, hM.l15, hM.l16, hM.l17]; omega)) (show _ = xG (zX Z) 4 from hA3.g (by omega) (by omega) (by omega) (by omega)) dX8_tryForge_102 ?_
              refine P_iconst (v := 1) rfl dX8_tryForge_103 ?_
              refine P_iadd dX8_tryForge_104 ?_
              refine P_isN (j := 4) (by first | exact hM.k0 | exact hM.k1 | exact hM.k2 | exact hM.k3 | exact hM.k4 | exact hM.k5 | exact hM.k6 | exact hM.k7 | exact hM.k8 | exact hM.k9 | exact hM.k10 | exact hM.k11 | exact hM.k12 | exact hM.k13 | exact hM.k14 | exact hM.k15 | exact hM.k16 | exact hM.k17) rfl (by first | omega | (simp only [hM.l1, hM.l2, hM.l3, hM.l4, hM.l5, hM.l6, hM.l7, hM.l8, hM.l9, hM.l10, hM.l11, hM.l12, hM.l13, hM.l14, hM.l15, hM.l16, hM.l17]; omega)) (by first | omega | (simp only [hM.l1, hM.l2, hM.l3, hM.l4, hM.l5, hM.l6, hM.l7, hM.l8, hM.l9, hM.l10, hM.l11, hM.l12, hM.l13, hM.l14, hM.l15, hM.l16, hM.l17]; omega)) dX8_tryForge_105 ?_
              have hA4 := hA3.setG (k := 4) (v := xG (zX Z) 4 + 1) (by omega) (by omega) (by omega) (by omega)
              refine P_aloadn (i := 0) rfl rfl dX8_tryForge_106 ?_
              refine gX8_7 rfl (by first | exact hM.k0 | exact hM.k1 | exact hM.k2 | exact hM.k3 | exact hM.k4 | exact hM.k5 | exact hM.k6 | exact hM.k7 | exact hM.k8 | exact hM.k9 | exact hM.k10 | exact hM.k11 | exact hM.k12 | exact hM.k13 | exact hM.k14 | exact hM.k15 | exact hM.k16 | exact hM.k17) hM.r256 dX8_tryForge_107 ?_
              refine P_iconst (v := 3) rfl dX8_tryForge_110 ?_
              refine P_iaN (j := 3) (by first | exact hM.k0 | exact hM.k1 | exact hM.k2 | exact hM.k3 | exact hM.k4 | exact hM.k5 | exact hM.k6 | exact hM.k7 | exact hM.k8 | exact hM.k9 | exact hM.k10 | exact hM.k11 | exact hM.k12 | exact hM.k13 | exact hM.k14 | exact hM.k15 | exact hM.k16 | exact hM.k17) rfl (by first | omega | (simp only [hM.l1, hM.l2, hM.l3, hM.l4, hM.l5, hM.l6, hM.l7, hM.l8, hM.l9, hM.l10, hM.l11, hM.l12, hM.l13, hM.l14, hM.l15, hM.l16, hM.l17]; omega)) (by first | omega | (simp only [hM.l1, hM.l2, hM.l3, hM.l4, hM.l5, hM.l6, hM.l7, hM.l8, hM.l9, hM.l10, hM.l11, hM.l12, hM.l13, hM.l14, hM.l15, hM.l16, hM.l17]; omega)) hA4.ns dX8_tryForge_111 ?_
              refine P_ireturn rfl dX8_tryForge_112 ?_
              rw [show z_forge Z kp p off len la seed = (z_x (z_keepIf Z kp) (x_forge (zX Z) (nn p) off len la seed), Int32.ofNat ((xS (zX Z)).length + 1)) from (if_neg (fun hh => hh (b_t h5))).trans ((if_neg (fun hh => hh ⟨b_t h18, b_t h29, b_t h39, b_t h51⟩)).trans (if_neg hn300))]
              refine ⟨_, _, rfl, ?_, hFr.tr (FrM.fa hF3.u1), hZ2.fa hF3.u1 ?_⟩
              · exact congrArg (fun z => some (vi (Int32.ofNat z))) (List.length_append)
              · have e : x_forge (zX Z) (nn p) off len la seed = x_g (x_s (zX Z) (xS (zX Z) ++ [(p, off, len, la, 0, seed, xG (zX Z) 0, xP (zX Z) (nn p) 1)])) 4 (xG (zX Z) 4 + 1) := by
                  unfold x_forge
                  rw [← hp.eq]
                rw [e]
                exact hA4
            · refine P_bipush (v := (-4)) rfl dX8_tryForge_69 ?_
              refine P_ireturn rfl dX8_tryForge_71 ?_
              rw [show z_forge Z kp p off len la seed = (Z, -4) from (if_neg (fun hh => hh (b_t h5))).trans ((if_neg (fun hh => hh ⟨b_t h18, b_t h29, b_t h39, b_t h51⟩)).trans (if_pos ((n_eq (b := 300) (by omega) (by omega)).mp h66)))]
              exact ⟨_, _, rfl, rfl, FrM.rf, hZ⟩
          · refine P_bipush (v := (-2)) rfl dX8_tryForge_54 ?_
            refine P_ireturn rfl dX8_tryForge_56 ?_
            rw [show z_forge Z kp p off len la seed = (Z, -2) from (if_neg (fun hh => hh (b_t h5))).trans (if_pos (fun hh => b_f h51 hh.2.2.2))]
            exact ⟨_, _, rfl, rfl, FrM.rf, hZ⟩
  · refine P_iconst (v := (-1)) rfl dX8_tryForge_8 ?_
    refine P_ireturn rfl dX8_tryForge_9 ?_
    rw [show z_forge Z kp p off len la seed = (Z, -1) from if_pos (b_f h5)]
    exact ⟨_, _, rfl, rfl, FrM.rf, hZ⟩
theorem s_forge (hM : WM L m) (hZ : RZ FI AI m Z) {p off len la seed : Int32} : Sp g 5 iX8_forge [vr m, vi p, vi off, vi len, vi la, vi seed] (L, FI, AI, AL, AR) (0, 0) (RZM L FI AI AL AR m (z_forge Z true p off len la seed).1 (some (vi (z_forge Z true p off len la seed).2))) := by
  refine Sp.of (ls := [some (vr m), some (vi p), some (vi off), some (vi len), some (vi la), some (vi seed)]) (by decide +kernel) rfl rfl ?_
  refine P_aloadn (i := 0) rfl rfl dX8_forge_0 ?_
  refine P_iloadn (i := 1) rfl rfl dX8_forge_1 ?_
  refine P_iloadn (i := 2) rfl rfl dX8_forge_2 ?_
  refine P_iloadn (i := 3) rfl rfl dX8_forge_3 ?_
  refine P_iload (i := 4) rfl dX8_forge_4 ?_
  refine P_iload (i := 5) rfl dX8_forge_6 ?_
  refine P_iconst (v := 1) rfl dX8_forge_8 ?_
  refine kX8_138 rfl (s_tryForge hM hZ (kp := true)) (by decide) (by first | exact hM.k0 | exact hM.k1 | exact hM.k2 | exact hM.k3 | exact hM.k4 | exact hM.k5 | exact hM.k6 | exact hM.k7 | exact hM.k8 | exact hM.k9 | exact hM.k10 | exact hM.k11 | exact hM.k12 | exact hM.k13 | exact hM.k14 | exact hM.k15 | exact hM.k16 | exact hM.k17) rfl dX8_forge_9 (fun r9 s9 q9 => ?_)
  obtain ⟨F2, A2, rfl, rfl, hFr, hZ2⟩ := q9
  refine P_ireturn rfl dX8_forge_12 ?_
  exact ⟨_, _, rfl, rfl, hFr, hZ2⟩
end Ref13
