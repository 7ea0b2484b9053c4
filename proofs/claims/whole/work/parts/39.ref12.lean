def z_node (Z : ZW) (n way to sp : Int32) : ZW × Int32 :=
  if ¬ q_ib n 8 = true then (Z, -1)
  else if ¬ (((0 : Int32) ≤ way ∧ way ≤ 2) ∧ ((1 : Int32) ≤ to ∧ to ≤ 500) ∧ ((64 : Int32) ≤ sp ∧ sp ≤ 20000)) then (Z, -2)
  else (z_x (z_keep Z) (x_n (x_n (x_n (zX Z) (nn n) 0 way) (nn n) 1 to) (nn n) 2 sp), xN (zX Z) (nn n) 0)
def x_addB (X : XW) (row : Nat → Int32) : XW := (xG X, xN X, (fun b k => if b = xb X then row k else xB X b k), xP X, xT X, xS X, xb X + 1, xp X)
def x_brow (from_ to room delay pace : Int32) : Nat → Int32
  | 0 => from_
  | 1 => to
  | 2 => room
  | 3 => delay
  | 4 => pace
  | _ => 0
def z_bridge (Z : ZW) (from_ to room delay pace : Int32) : ZW × Int32 :=
  if ¬ (q_ib from_ 8 = true ∧ q_ib to 8 = true ∧ ¬ from_ = to) then (Z, -1)
  else if ¬ (((16 : Int32) ≤ room ∧ room ≤ 1500) ∧ ((1 : Int32) ≤ delay ∧ delay ≤ 50) ∧ ((1 : Int32) ≤ pace ∧ pace ≤ 1000)) then (Z, -2)
  else if xb (zX Z) = 16 then (Z, -4)
  else (z_x (z_keep Z) (x_addB (zX Z) (x_brow from_ to room delay pace)), Int32.ofNat (xb (zX Z)))
def z_mend (Z : ZW) (b room turns : Int32) : ZW × Int32 :=
  if ¬ q_ib b (xb (zX Z)) = true then (Z, -1)
  else if ¬ (((16 : Int32) ≤ room ∧ room ≤ 1500) ∧ ((0 : Int32) ≤ turns ∧ turns ≤ 99)) then (Z, -2)
  else (z_x (z_keep Z) (x_b (x_b (x_b (zX Z) (nn b) 2 room) (nn b) 5 turns) (nn b) 6 0), xB (zX Z) (nn b) 2)
def z_route (Z : ZW) (n to b : Int32) : ZW × Int32 :=
  if ¬ (q_ib n 8 = true ∧ q_ib to 8 = true ∧ ¬ n = to) ∨ (¬ b = -6 ∧ ¬ q_ib b (xb (zX Z)) = true) then (Z, -1)
  else if ¬ b = -6 ∧ ¬ xB (zX Z) (nn b) 0 = n then (Z, -5)
  else (z_x (z_keep Z) (x_n (zX Z) (nn n) (3 + nn to) b), xN (zX Z) (nn n) (3 + nn to))
def z_keepIf (Z : ZW) (kp : Bool) : ZW := if kp = true then z_keep Z else Z
def z_ticks (Z : ZW) (kp : Bool) (t : Int32) : ZW × Int32 :=
  if ¬ ((1 : Int32) ≤ t ∧ t ≤ 500) then (Z, -2)
  else (z_x (z_keepIf Z kp) (x_ticks (nn t) (zX Z)), xG (x_ticks (nn t) (zX Z)) 0)
theorem RF.addB {f t f2 : Nat → Int32} {X : XW} {row : Nat → Int32} (h : RF f t X) (hl : xb X < 16) (h1 : f2 1 = Int32.ofNat (xb X + 1)) (hs : ∀ k, k < 9 → f2 (102 + 9 * xb X + k) = row k) (ho : ∀ i, i ≠ 1 → (i < 102 + 9 * xb X ∨ 102 + 9 * xb X + 9 ≤ i) → f2 i = f i) : RF f2 t (x_addB X row) := by
  have h40 := h.p40; have h16 := h.b16; have h30 := h.s300
  refine ⟨⟨fun j hj g1 g2 g3 => ?_, ?_, ?_, ?_⟩, fun i j hi hj => ?_, fun i j hi hj => ?_, fun i j hi hj => ?_, fun i j hi hj => ?_, fun p i hp hi => h.tt hp hi, ?_, h40, h30⟩
  · exact (ho j g1 (by omega)).trans (h.g hj g1 g2 g3)
  · exact h1
  · exact (ho 2 (by omega) (by omega)).trans h.np
  · exact (ho 3 (by omega) (by omega)).trans h.ns
  · exact (ho _ (by omega) (by omega)).trans (h.n hi hj)
  · have h5 : i < xb X + 1 := hi
    show _ = (if i = xb X then row j else xB X i j)
    by_cases e : i = xb X
    · rw [if_pos e, e]; exact hs j hj
    · rw [if_neg e]; exact (ho _ (by omega) (by omega)).trans (h.b (by omega) hj)
  · have h5 : i < xp X := hi
    exact (ho _ (by omega) (by omega)).trans (h.p hi hj)
  · have h5 : i < (xS X).length := hi
    exact (ho _ (by omega) (by omega)).trans (h.s hi hj)
  · exact hl
theorem n_idr {p q : Int32} {n k : Nat} (hp : ib p n) (hq : ib q k) : (14 : Int32) + 11 * p + 3 + q = Int32.ofNat (14 + 11 * nn p + (3 + nn q)) := by
  have h1 := hp.eq
  have h2 := hq.eq
  show _ = Int32.ofNat (14 + 11 * p.toNatClampNeg + (3 + q.toNatClampNeg))
  rw [← Nat.add_assoc, Int32.ofNat_add, Int32.ofNat_add, Int32.ofNat_add, Int32.ofNat_mul, ← h1, ← h2]
  rfl
theorem ib_le {n : Int32} {k : Nat} (hk : k < 2147483648) (h0 : (0 : Int32) ≤ n) (h : n ≤ Int32.ofNat k) : nn n ≤ k := by
  have h1 := i_cn n
  rw [Int32.le_iff_toInt_le, n_int hk] at h
  show n.toNatClampNeg ≤ k
  omega
section Ref12
variable {g : PG} {L : PL} {FI AI : Nat → Nat → Int32} {AL : Nat → Nat → Int64} {AR : Nat → Nat → Option Nat} {m : Nat} {Z : ZW} {M : Nat}
theorem s_undo (hM : WM L m) (hZ : RZ FI AI m Z) : Sp g 2 iX8_undo [vr m] (L, FI, AI, AL, AR) (0, 0) (RZM L FI AI AL AR m (z_undo Z).1 (some (vi (z_undo Z).2))) := by
  refine Sp.of (ls := [some (vr m), none, none]) (by decide +kernel) rfl rfl ?_
  have h6f := hZ.f6
  have h6k := hZ.k6
  refine P_aloadn (i := 0) rfl rfl dX8_undo_0 ?_
  refine gX8_73 rfl (by first | exact hM.k0 | exact hM.k1 | exact hM.k2 | exact hM.k3 | exact hM.k4 | exact hM.k5 | exact hM.k6 | exact hM.k7 | exact hM.k8 | exact hM.k9 | exact hM.k10 | exact hM.k11 | exact hM.k12 | exact hM.k13 | exact hM.k14 | exact hM.k15 | exact hM.k16 | exact hM.k17) hZ.pk dX8_undo_1 ?_
  refine P_ifne dX8_undo_4 (tgt := 10) rfl (fun h4 => ?_) (fun h4 => ?_)
  · have hk0 : ¬ zk Z = 0 := fun hh => h4 (by rw [hh]; rfl)
    have hH := hZ.h (i := zk Z - 1) (by omega)
    have h40 := hH.p40
    have loop2 : ∀ n i, i + n = 4000 * (xp (zH Z ((zf Z + (zk Z - 1)) % 6))) → P g 2 iX8_undo 68 [some (vr m), some (vi (Int32.ofNat ((zf Z + (zk Z - 1)) % 6))), some (vi (Int32.ofNat i))] [] (L, (p_up FI 261 m (Int32.ofNat (zk Z - 1))), cpA (cpA AI (m + 1) 0 (m + 3) (3506 * ((zf Z + (zk Z - 1)) % 6)) 3506) (m + 2) (0) (m + 4) (160000 * ((zf Z + (zk Z - 1)) % 6)) i, AL, AR) (0, 0) (RZM L FI AI AL AR m (z_undo Z).1 (some (vi (z_undo Z).2))) := by
      intro n
      induction n with
      | zero =>
        intro i hi
        have e : i = 4000 * (xp (zH Z ((zf Z + (zk Z - 1)) % 6))) := by omega
        refine P_iloadn (i := 2) rfl rfl dX8_undo_68 ?_
        refine P_aloadn (i := 0) rfl rfl dX8_undo_69 ?_
        refine kX8_80 rfl (s_bytesNow hM (np := (xp (zH Z ((zf Z + (zk Z - 1)) % 6)))) (by rw [cpA_src (by omega), cpA_in (by omega) (by omega)]; exact hH.np)) (by decide) (by first | exact hM.k0 | exact hM.k1 | exact hM.k2 | exact hM.k3 | exact hM.k4 | exact hM.k5 | exact hM.k6 | exact hM.k7 | exact hM.k8 | exact hM.k9 | exact hM.k10 | exact hM.k11 | exact hM.k12 | exact hM.k13 | exact hM.k14 | exact hM.k15 | exact hM.k16 | exact hM.k17) rfl dX8_undo_70 (fun r70 s70 q70 => ?_)
        obtain ⟨rfl, rfl⟩ := q70
        refine P_icmpge dX8_undo_73 (tgt := 99) rfl (fun h73 => ?_) (fun h73 => absurd ((n_le (a := 4000 * (xp (zH Z ((zf Z + (zk Z - 1)) % 6)))) (b := i) (by omega) (by omega)).mpr (by omega)) h73)
        subst e
        refine P_aloadn (i := 0) rfl rfl dX8_undo_99 ?_
        refine gX8_73 rfl (by first | exact hM.k0 | exact hM.k1 | exact hM.k2 | exact hM.k3 | exact hM.k4 | exact hM.k5 | exact hM.k6 | exact hM.k7 | exact hM.k8 | exact hM.k9 | exact hM.k10 | exact hM.k11 | exact hM.k12 | exact hM.k13 | exact hM.k14 | exact hM.k15 | exact hM.k16 | exact hM.k17) (p_up_eq _ _ _ _) dX8_undo_100 ?_
        refine P_ireturn rfl dX8_undo_103 ?_
        rw [show z_undo Z = ((zH Z ((zf Z + (zk Z - 1)) % 6), zH Z, zf Z, zk Z - 1, Z.2.2.2.2), Int32.ofNat (zk Z - 1)) from if_neg hk0]
        refine ⟨_, _, rfl, rfl, ⟨fun j a ha => p_up_n2 _ _ _ _ ha, fun a ha => (cpA_src (by omega)).trans (cpA_src (by omega)), p_up_n1 _ _ _ _ (by decide)⟩, ?_⟩
        refine ⟨?_, ⟨(p_up_n1 _ _ _ _ (by decide)).trans hZ.pf, hZ.f6, p_up_eq _ _ _ _, by show zk Z - 1 ≤ 6; omega⟩, fun i hi => ?_, fun s hs => ⟨?_, fun hv => ?_⟩, (p_up_n1 _ _ _ _ (by decide)).trans hZ.pn, hZ.n80, fun i hi => ?_⟩
        · refine RF.cp hH (fun j hj => ?_) (fun j hj => ?_)
          · rw [cpA_src (by omega), cpA_in (by omega) (by omega)]
            exact congrArg (AI (m + 3)) (by omega)
          · have hj2 : j < 4000 * (xp (zH Z ((zf Z + (zk Z - 1)) % 6))) := hj
            rw [cpA_in (by omega) (by omega), cpA_src (by omega)]
            exact congrArg (AI (m + 4)) (by omega)
        · have hi2 : i < zk Z - 1 := hi
          rw [cpA_src (by omega), cpA_src (by omega), cpA_src (by omega), cpA_src (by omega)]
          exact hZ.h (by omega)
        · rw [cpA_src (by omega), cpA_src (by omega)]; exact hZ.v hs
        · rw [cpA_src (by omega), cpA_src (by omega), cpA_src (by omega), cpA_src (by omega)]; exact hZ.s hs hv
        · rw [cpA_src (by omega), cpA_src (by omega)]; exact hZ.c hi
      | succ n ih =>
        intro i hi
        refine P_iloadn (i := 2) rfl rfl dX8_undo_68 ?_
        refine P_aloadn (i := 0) rfl rfl dX8_undo_69 ?_
        refine kX8_80 rfl (s_bytesNow hM (np := (xp (zH Z ((zf Z + (zk Z - 1)) % 6)))) (by rw [cpA_src (by omega), cpA_in (by omega) (by omega)]; exact hH.np)) (by decide) (by first | exact hM.k0 | exact hM.k1 | exact hM.k2 | exact hM.k3 | exact hM.k4 | exact hM.k5 | exact hM.k6 | exact hM.k7 | exact hM.k8 | exact hM.k9 | exact hM.k10 | exact hM.k11 | exact hM.k12 | exact hM.k13 | exact hM.k14 | exact hM.k15 | exact hM.k16 | exact hM.k17) rfl dX8_undo_70 (fun r70 s70 q70 => ?_)
        obtain ⟨rfl, rfl⟩ := q70
        refine P_icmpge dX8_undo_73 (tgt := 99) rfl (fun h73 => absurd h73 (fun h9 => by have h8 := (n_le (a := 4000 * (xp (zH Z ((zf Z + (zk Z - 1)) % 6)))) (b := i) (by omega) (by omega)).mp h9; omega)) (fun h73 => ?_)
        refine P_aloadn (i := 0) rfl rfl dX8_undo_76 ?_
        refine gX8_14 rfl (by first | exact hM.k0 | exact hM.k1 | exact hM.k2 | exact hM.k3 | exact hM.k4 | exact hM.k5 | exact hM.k6 | exact hM.k7 | exact hM.k8 | exact hM.k9 | exact hM.k10 | exact hM.k11 | exact hM.k12 | exact hM.k13 | exact hM.k14 | exact hM.k15 | exact hM.k16 | exact hM.k17) hM.r257 dX8_undo_77 ?_
        refine P_iloadn (i := 2) rfl rfl dX8_undo_80 ?_
        refine P_aloadn (i := 0) rfl rfl dX8_undo_81 ?_
        refine gX8_21 rfl (by first | exact hM.k0 | exact hM.k1 | exact hM.k2 | exact hM.k3 | exact hM.k4 | exact hM.k5 | exact hM.k6 | exact hM.k7 | exact hM.k8 | exact hM.k9 | exact hM.k10 | exact hM.k11 | exact hM.k12 | exact hM.k13 | exact hM.k14 | exact hM.k15 | exact hM.k16 | exact hM.k17) hM.r259 dX8_undo_82 ?_
        refine lX8_13 rfl dX8_undo_85 ?_
        refine P_iloadn (i := 1) rfl rfl dX8_undo_87 ?_
        refine P_imul dX8_undo_88 ?_
        refine P_iloadn (i := 2) rfl rfl dX8_undo_89 ?_
        refine P_iadd dX8_undo_90 ?_
        refine P_iaN (j := 160000 * ((zf Z + (zk Z - 1)) % 6) + i) (by first | exact hM.k0 | exact hM.k1 | exact hM.k2 | exact hM.k3 | exact hM.k4 | exact hM.k5 | exact hM.k6 | exact hM.k7 | exact hM.k8 | exact hM.k9 | exact hM.k10 | exact hM.k11 | exact hM.k12 | exact hM.k13 | exact hM.k14 | exact hM.k15 | exact hM.k16 | exact hM.k17) (n_ix 160000 ((zf Z + (zk Z - 1)) % 6) i) (by first | omega | (simp only [hM.l1, hM.l2, hM.l3, hM.l4, hM.l5, hM.l6, hM.l7, hM.l8, hM.l9, hM.l10, hM.l11, hM.l12, hM.l13, hM.l14, hM.l15, hM.l16, hM.l17]; omega)) (by first | omega | (simp only [hM.l1, hM.l2, hM.l3, hM.l4, hM.l5, hM.l6, hM.l7, hM.l8, hM.l9, hM.l10, hM.l11, hM.l12, hM.l13, hM.l14, hM.l15, hM.l16, hM.l17]; omega)) (show _ = (cpA AI (m + 1) 0 (m + 3) (3506 * ((zf Z + (zk Z - 1)) % 6)) 3506) (m + 4) (160000 * ((zf Z + (zk Z - 1)) % 6) + i) from congrFun (cpA_src (by omega)) _) dX8_undo_91 ?_
        refine P_isN (j := i) (by first | exact hM.k0 | exact hM.k1 | exact hM.k2 | exact hM.k3 | exact hM.k4 | exact hM.k5 | exact hM.k6 | exact hM.k7 | exact hM.k8 | exact hM.k9 | exact hM.k10 | exact hM.k11 | exact hM.k12 | exact hM.k13 | exact hM.k14 | exact hM.k15 | exact hM.k16 | exact hM.k17) rfl (by first | omega | (simp only [hM.l1, hM.l2, hM.l3, hM.l4, hM.l5, hM.l6, hM.l7, hM.l8, hM.l9, hM.l10, hM.l11, hM.l12, hM.l13, hM.l14, hM.l15, hM.l16, hM.l17]; omega)) (by first | omega | (simp only [hM.l1, hM.l2, hM.l3, hM.l4, hM.l5, hM.l6, hM.l7, hM.l8, hM.l9, hM.l10, hM.l11, hM.l12, hM.l13, hM.l14, hM.l15, hM.l16, hM.l17]; omega)) dX8_undo_92 ?_
        refine P_inN2 dX8_undo_93 rfl rfl ?_
        refine P_goto dX8_undo_96 (tgt := 68) rfl ?_
        rw [cpA_s (A := (cpA AI (m + 1) 0 (m + 3) (3506 * ((zf Z + (zk Z - 1)) % 6)) 3506)) (dst := m + 2) (o1 := 0) (src := m + 4) (o2 := 160000 * ((zf Z + (zk Z - 1)) % 6)) (n := i) (by omega) rfl (by rw [Nat.zero_add])]
        exact ih (i + 1) (by omega)
    have loop1 : ∀ n i, i + n = 3506 → P g 2 iX8_undo 35 [some (vr m), some (vi (Int32.ofNat ((zf Z + (zk Z - 1)) % 6))), some (vi (Int32.ofNat i))] [] (L, (p_up FI 261 m (Int32.ofNat (zk Z - 1))), cpA AI (m + 1) (0) (m + 3) (3506 * ((zf Z + (zk Z - 1)) % 6)) i, AL, AR) (0, 0) (RZM L FI AI AL AR m (z_undo Z).1 (some (vi (z_undo Z).2))) := by
      intro n
      induction n with
      | zero =>
        intro i hi
        have e : i = 3506 := by omega
        refine P_iloadn (i := 2) rfl rfl dX8_undo_35 ?_
        refine P_sipush (v := 3506) rfl dX8_undo_36 ?_
        refine P_icmpge dX8_undo_39 (tgt := 66) rfl (fun h39 => ?_) (fun h39 => absurd ((n_le (a := 3506) (b := i) (by omega) (by omega)).mpr (by omega)) h39)
        subst e
        refine P_iconst (v := 0) rfl dX8_undo_66 ?_
        refine P_is2 (Or.inl dX8_undo_67) rfl rfl ?_
        have h0 := loop2 (4000 * (xp (zH Z ((zf Z + (zk Z - 1)) % 6)))) 0 (by omega)
        rw [cpA_0] at h0
        exact h0
      | succ n ih =>
        intro i hi
        refine P_iloadn (i := 2) rfl rfl dX8_undo_35 ?_
        refine P_sipush (v := 3506) rfl dX8_undo_36 ?_
        refine P_icmpge dX8_undo_39 (tgt := 66) rfl (fun h39 => absurd h39 (fun h9 => by have h8 := (n_le (a := 3506) (b := i) (by omega) (by omega)).mp h9; omega)) (fun h39 => ?_)
        refine P_aloadn (i := 0) rfl rfl dX8_undo_42 ?_
        refine gX8_7 rfl (by first | exact hM.k0 | exact hM.k1 | exact hM.k2 | exact hM.k3 | exact hM.k4 | exact hM.k5 | exact hM.k6 | exact hM.k7 | exact hM.k8 | exact hM.k9 | exact hM.k10 | exact hM.k11 | exact hM.k12 | exact hM.k13 | exact hM.k14 | exact hM.k15 | exact hM.k16 | exact hM.k17) hM.r256 dX8_undo_43 ?_
        refine P_iloadn (i := 2) rfl rfl dX8_undo_46 ?_
        refine P_aloadn (i := 0) rfl rfl dX8_undo_47 ?_
        refine gX8_17 rfl (by first | exact hM.k0 | exact hM.k1 | exact hM.k2 | exact hM.k3 | exact hM.k4 | exact hM.k5 | exact hM.k6 | exact hM.k7 | exact hM.k8 | exact hM.k9 | exact hM.k10 | exact hM.k11 | exact hM.k12 | exact hM.k13 | exact hM.k14 | exact hM.k15 | exact hM.k16 | exact hM.k17) hM.r258 dX8_undo_48 ?_
        refine P_sipush (v := 3506) rfl dX8_undo_51 ?_
        refine P_iloadn (i := 1) rfl rfl dX8_undo_54 ?_
        refine P_imul dX8_undo_55 ?_
        refine P_iloadn (i := 2) rfl rfl dX8_undo_56 ?_
        refine P_iadd dX8_undo_57 ?_
        refine P_iaN (j := 3506 * ((zf Z + (zk Z - 1)) % 6) + i) (by first | exact hM.k0 | exact hM.k1 | exact hM.k2 | exact hM.k3 | exact hM.k4 | exact hM.k5 | exact hM.k6 | exact hM.k7 | exact hM.k8 | exact hM.k9 | exact hM.k10 | exact hM.k11 | exact hM.k12 | exact hM.k13 | exact hM.k14 | exact hM.k15 | exact hM.k16 | exact hM.k17) (n_ix 3506 ((zf Z + (zk Z - 1)) % 6) i) (by first | omega | (simp only [hM.l1, hM.l2, hM.l3, hM.l4, hM.l5, hM.l6, hM.l7, hM.l8, hM.l9, hM.l10, hM.l11, hM.l12, hM.l13, hM.l14, hM.l15, hM.l16, hM.l17]; omega)) (by first | omega | (simp only [hM.l1, hM.l2, hM.l3, hM.l4, hM.l5, hM.l6, hM.l7, hM.l8, hM.l9, hM.l10, hM.l11, hM.l12, hM.l13, hM.l14, hM.l15, hM.l16, hM.l17]; omega)) (show _ = AI (m + 3) (3506 * ((zf Z + (zk Z - 1)) % 6) + i) from congrFun (cpA_src (by omega)) _) dX8_undo_58 ?_
        refine P_isN (j := i) (by first | exact hM.k0 | exact hM.k1 | exact hM.k2 | exact hM.k3 | exact hM.k4 | exact hM.k5 | exact hM.k6 | exact hM.k7 | exact hM.k8 | exact hM.k9 | exact hM.k10 | exact hM.k11 | exact hM.k12 | exact hM.k13 | exact hM.k14 | exact hM.k15 | exact hM.k16 | exact hM.k17) rfl (by first | omega | (simp only [hM.l1, hM.l2, hM.l3, hM.l4, hM.l5, hM.l6, hM.l7, hM.l8, hM.l9, hM.l10, hM.l11, hM.l12, hM.l13, hM.l14, hM.l15, hM.l16, hM.l17]; omega)) (by first | omega | (simp only [hM.l1, hM.l2, hM.l3, hM.l4, hM.l5, hM.l6, hM.l7, hM.l8, hM.l9, hM.l10, hM.l11, hM.l12, hM.l13, hM.l14, hM.l15, hM.l16, hM.l17]; omega)) dX8_undo_59 ?_
        refine P_inN2 dX8_undo_60 rfl rfl ?_
        refine P_goto dX8_undo_63 (tgt := 35) rfl ?_
        rw [cpA_s (A := AI) (dst := m + 1) (o1 := 0) (src := m + 3) (o2 := 3506 * ((zf Z + (zk Z - 1)) % 6)) (n := i) (by omega) rfl (by rw [Nat.zero_add])]
        exact ih (i + 1) (by omega)
    refine P_aloadn (i := 0) rfl rfl dX8_undo_10 ?_
    refine P_dup rfl dX8_undo_11 ?_
    refine gX8_73 rfl (by first | exact hM.k0 | exact hM.k1 | exact hM.k2 | exact hM.k3 | exact hM.k4 | exact hM.k5 | exact hM.k6 | exact hM.k7 | exact hM.k8 | exact hM.k9 | exact hM.k10 | exact hM.k11 | exact hM.k12 | exact hM.k13 | exact hM.k14 | exact hM.k15 | exact hM.k16 | exact hM.k17) hZ.pk dX8_undo_12 ?_
    refine P_iconst (v := 1) rfl dX8_undo_15 ?_
    refine P_isub dX8_undo_16 ?_
    rw [n_pred (by omega) (by omega)]
    refine uX8_73 rfl (by first | exact hM.k0 | exact hM.k1 | exact hM.k2 | exact hM.k3 | exact hM.k4 | exact hM.k5 | exact hM.k6 | exact hM.k7 | exact hM.k8 | exact hM.k9 | exact hM.k10 | exact hM.k11 | exact hM.k12 | exact hM.k13 | exact hM.k14 | exact hM.k15 | exact hM.k16 | exact hM.k17) dX8_undo_17 ?_
    refine P_aloadn (i := 0) rfl rfl dX8_undo_20 ?_
    refine gX8_77 rfl (by first | exact hM.k0 | exact hM.k1 | exact hM.k2 | exact hM.k3 | exact hM.k4 | exact hM.k5 | exact hM.k6 | exact hM.k7 | exact hM.k8 | exact hM.k9 | exact hM.k10 | exact hM.k11 | exact hM.k12 | exact hM.k13 | exact hM.k14 | exact hM.k15 | exact hM.k16 | exact hM.k17) ((p_up_n1 _ _ _ _ (by decide)).trans hZ.pf) dX8_undo_21 ?_
    refine P_aloadn (i := 0) rfl rfl dX8_undo_24 ?_
    refine gX8_73 rfl (by first | exact hM.k0 | exact hM.k1 | exact hM.k2 | exact hM.k3 | exact hM.k4 | exact hM.k5 | exact hM.k6 | exact hM.k7 | exact hM.k8 | exact hM.k9 | exact hM.k10 | exact hM.k11 | exact hM.k12 | exact hM.k13 | exact hM.k14 | exact hM.k15 | exact hM.k16 | exact hM.k17) (p_up_eq _ _ _ _) dX8_undo_25 ?_
    refine P_iadd dX8_undo_28 ?_
    refine P_bipush (v := 6) rfl dX8_undo_29 ?_
    refine P_irem2 (by decide) dX8_undo_31 ?_
    rw [show c_rem (Int32.ofNat (zf Z) + Int32.ofNat (zk Z - 1)) 6 = Int32.ofNat ((zf Z + (zk Z - 1)) % 6) from by rw [n_add]; exact n_rem6 (by omega)]
    refine P_is1 (Or.inl dX8_undo_32) rfl rfl ?_
    refine P_iconst (v := 0) rfl dX8_undo_33 ?_
    refine P_is2 (Or.inl dX8_undo_34) rfl rfl ?_
    have h0 := loop1 3506 0 (by omega)
    rw [cpA_0] at h0
    exact h0
  · have hk0 : zk Z = 0 := (n_eq (b := 0) (by omega) (by omega)).mp h4
    refine P_bipush (v := (-5)) rfl dX8_undo_7 ?_
    refine P_ireturn rfl dX8_undo_9 ?_
    rw [show z_undo Z = (Z, -5) from if_pos hk0]
    exact ⟨_, _, rfl, rfl, FrM.rf, hZ⟩
theorem s_save (hM : WM L m) (hZ : RZ FI AI m Z) {s : Int32} : Sp g 2 iX8_save [vr m, vi s] (L, FI, AI, AL, AR) (0, 0) (RZM L FI AI AL AR m (z_save Z s).1 (some (vi (z_save Z s).2))) := by
  refine Sp.of (ls := [some (vr m), some (vi s), none]) (by decide +kernel) rfl rfl ?_
  have h40 := hZ.x.p40
  refine P_iloadn (i := 1) rfl rfl dX8_save_0 ?_
  refine P_iconst (v := 0) rfl dX8_save_1 ?_
  refine P_iconst (v := 1) rfl dX8_save_2 ?_
  refine kX8_65 rfl s_X8_in (by decide) rfl dX8_save_3 (fun r3 s3 q3 => ?_)
  obtain ⟨rfl, rfl⟩ := q3
  refine P_ifne dX8_save_6 (tgt := 12) rfl (fun h6 => ?_) (fun h6 => ?_)
  · have hc := b_t h6
    have hs2 := in_ib (n := 1) (by decide) hc
    obtain ⟨sl, hsl⟩ : ∃ sl, sl = nn s := ⟨_, rfl⟩
    have hsl2 : sl < 2 := by rw [hsl]; exact hs2.nn
    have hse : s = Int32.ofNat sl := by rw [hsl]; exact hs2.eq
    clear hsl hs2 h6
    subst hse
    have loop2 : ∀ n i, i + n = 4000 * xp (zX Z) → P g 2 iX8_save 47 [some (vr m), some (vi (Int32.ofNat sl)), some (vi (Int32.ofNat i))] [] (L, FI, cpA (cpA AI (m + 5) (3506 * sl) (m + 1) 0 3506) (m + 6) (160000 * sl) (m + 2) (0) i, AL, AR) (0, 0) (RZM L FI AI AL AR m (z_save Z (Int32.ofNat sl)).1 (some (vi (z_save Z (Int32.ofNat sl)).2))) := by
      intro n
      induction n with
      | zero =>
        intro i hi
        have e : i = 4000 * xp (zX Z) := by omega
        refine P_iloadn (i := 2) rfl rfl dX8_save_47 ?_
        refine P_aloadn (i := 0) rfl rfl dX8_save_48 ?_
        refine kX8_80 rfl (s_bytesNow hM (np := xp (zX Z)) (by rw [cpA_src (by omega), cpA_src (by omega)]; exact hZ.x.np)) (by decide) (by first | exact hM.k0 | exact hM.k1 | exact hM.k2 | exact hM.k3 | exact hM.k4 | exact hM.k5 | exact hM.k6 | exact hM.k7 | exact hM.k8 | exact hM.k9 | exact hM.k10 | exact hM.k11 | exact hM.k12 | exact hM.k13 | exact hM.k14 | exact hM.k15 | exact hM.k16 | exact hM.k17) rfl dX8_save_49 (fun r49 s49 q49 => ?_)
        obtain ⟨rfl, rfl⟩ := q49
        refine P_icmpge dX8_save_52 (tgt := 78) rfl (fun h52 => ?_) (fun h52 => absurd ((n_le (a := 4000 * xp (zX Z)) (b := i) (by omega) (by omega)).mpr (by omega)) h52)
        subst e
        refine P_aloadn (i := 0) rfl rfl dX8_save_78 ?_
        refine gX8_31 rfl (by first | exact hM.k0 | exact hM.k1 | exact hM.k2 | exact hM.k3 | exact hM.k4 | exact hM.k5 | exact hM.k6 | exact hM.k7 | exact hM.k8 | exact hM.k9 | exact hM.k10 | exact hM.k11 | exact hM.k12 | exact hM.k13 | exact hM.k14 | exact hM.k15 | exact hM.k16 | exact hM.k17) hM.r264 dX8_save_79 ?_
        refine P_iloadn (i := 1) rfl rfl dX8_save_82 ?_
        refine P_iconst (v := 1) rfl dX8_save_83 ?_
        refine P_zsN (j := sl) (by first | exact hM.k0 | exact hM.k1 | exact hM.k2 | exact hM.k3 | exact hM.k4 | exact hM.k5 | exact hM.k6 | exact hM.k7 | exact hM.k8 | exact hM.k9 | exact hM.k10 | exact hM.k11 | exact hM.k12 | exact hM.k13 | exact hM.k14 | exact hM.k15 | exact hM.k16 | exact hM.k17) rfl (by first | omega | (simp only [hM.l1, hM.l2, hM.l3, hM.l4, hM.l5, hM.l6, hM.l7, hM.l8, hM.l9, hM.l10, hM.l11, hM.l12, hM.l13, hM.l14, hM.l15, hM.l16, hM.l17]; omega)) (by first | omega | (simp only [hM.l1, hM.l2, hM.l3, hM.l4, hM.l5, hM.l6, hM.l7, hM.l8, hM.l9, hM.l10, hM.l11, hM.l12, hM.l13, hM.l14, hM.l15, hM.l16, hM.l17]; omega)) (by first | exact Or.inl rfl | exact Or.inr rfl | assumption) dX8_save_84 ?_
        refine P_aloadn (i := 0) rfl rfl dX8_save_85 ?_
        refine gX8_7 rfl (by first | exact hM.k0 | exact hM.k1 | exact hM.k2 | exact hM.k3 | exact hM.k4 | exact hM.k5 | exact hM.k6 | exact hM.k7 | exact hM.k8 | exact hM.k9 | exact hM.k10 | exact hM.k11 | exact hM.k12 | exact hM.k13 | exact hM.k14 | exact hM.k15 | exact hM.k16 | exact hM.k17) hM.r256 dX8_save_86 ?_
        refine P_iconst (v := 0) rfl dX8_save_89 ?_
        refine P_iaN (j := 0) (by first | exact hM.k0 | exact hM.k1 | exact hM.k2 | exact hM.k3 | exact hM.k4 | exact hM.k5 | exact hM.k6 | exact hM.k7 | exact hM.k8 | exact hM.k9 | exact hM.k10 | exact hM.k11 | exact hM.k12 | exact hM.k13 | exact hM.k14 | exact hM.k15 | exact hM.k16 | exact hM.k17) rfl (by first | omega | (simp only [hM.l1, hM.l2, hM.l3, hM.l4, hM.l5, hM.l6, hM.l7, hM.l8, hM.l9, hM.l10, hM.l11, hM.l12, hM.l13, hM.l14, hM.l15, hM.l16, hM.l17]; omega)) (by first | omega | (simp only [hM.l1, hM.l2, hM.l3, hM.l4, hM.l5, hM.l6, hM.l7, hM.l8, hM.l9, hM.l10, hM.l11, hM.l12, hM.l13, hM.l14, hM.l15, hM.l16, hM.l17]; omega)) ((p_up_n1 _ _ _ _ (by omega)).trans ((congrFun (cpA_src (by omega)) _).trans ((congrFun (cpA_src (by omega)) _).trans (hZ.x.g (by omega) (by omega) (by omega) (by omega))))) dX8_save_90 ?_
        refine P_ireturn rfl dX8_save_91 ?_
        rw [show z_save Z (Int32.ofNat sl) = ((zX Z, zH Z, zf Z, zk Z, (fun q => if q = sl then zX Z else zS Z q), (fun q => if q = sl then true else zV Z q), Z.2.2.2.2.2.2), xG (zX Z) 0) from by
          have h9 : z_save Z (Int32.ofNat sl) = _ := if_neg (fun hh => hh hc)
          rw [n_nn (by omega)] at h9
          exact h9]
        refine ⟨_, _, rfl, rfl, ⟨fun _ _ _ => rfl, fun a ha => (p_up_oth (by omega)).trans ((cpA_src (by omega)).trans (cpA_src (by omega))), rfl⟩, ?_⟩
        have e1 : ∀ a, a ≠ m + 5 → a ≠ m + 6 → a ≠ m + 7 → p_up (cpA (cpA AI (m + 5) (3506 * sl) (m + 1) 0 3506) (m + 6) (160000 * sl) (m + 2) 0 (4000 * xp (zX Z))) (m + 7) sl 1 a = AI a := fun a g5 g6 g7 => (p_up_oth g7).trans ((cpA_src g6).trans (cpA_src g5))
        refine ⟨?_, ⟨hZ.pf, hZ.f6, hZ.pk, hZ.k6⟩, fun i hi => ?_, fun s hs => ⟨?_, fun hv => ?_⟩, hZ.pn, hZ.n80, fun i hi => ?_⟩
        · show RF _ _ _
          rw [e1 (m + 1) (by omega) (by omega) (by omega), e1 (m + 2) (by omega) (by omega) (by omega)]
          exact hZ.x
        · rw [e1 (m + 3) (by omega) (by omega) (by omega), e1 (m + 4) (by omega) (by omega) (by omega)]
          exact hZ.h hi
        · show _ = (if (if s = sl then true else zV Z s) = true then (1 : Int32) else 0)
          by_cases e : s = sl
          · rw [if_pos e, e]; exact p_up_eq _ _ _ _
          · rw [if_neg e, p_up_n2 _ _ _ _ e, cpA_src (by omega), cpA_src (by omega)]; exact hZ.v hs
        · have hv2 : (if s = sl then true else zV Z s) = true := hv
          show RF _ _ (if s = sl then zX Z else zS Z s)
          rw [p_up_oth (by omega), p_up_oth (by omega)]
          by_cases e : s = sl
          · rw [if_pos e, e]
            refine RF.cp (f := AI (m + 1)) (t := AI (m + 2)) hZ.x (fun j hj => ?_) (fun j hj => ?_)
            · rw [cpA_src (by omega), cpA_in (by omega) (by omega)]
              exact congrArg (AI (m + 1)) (by omega)
            · rw [cpA_in (by omega) (by omega), cpA_src (by omega)]
              exact congrArg (AI (m + 2)) (by omega)
          · rw [if_neg e] at hv2 ⊢
            have h6 := hZ.s hs hv2
            have h40 := h6.p40
            refine RF.cp h6 (fun j hj => ?_) (fun j hj => ?_)
            · rw [cpA_src (by omega), cpA_out (by omega)]
            · rw [cpA_out (by omega), cpA_src (by omega)]
        · rw [e1 (m + 10) (by omega) (by omega) (by omega)]; exact hZ.c hi
      | succ n ih =>
        intro i hi
        refine P_iloadn (i := 2) rfl rfl dX8_save_47 ?_
        refine P_aloadn (i := 0) rfl rfl dX8_save_48 ?_
        refine kX8_80 rfl (s_bytesNow hM (np := xp (zX Z)) (by rw [cpA_src (by omega), cpA_src (by omega)]; exact hZ.x.np)) (by decide) (by first | exact hM.k0 | exact hM.k1 | exact hM.k2 | exact hM.k3 | exact hM.k4 | exact hM.k5 | exact hM.k6 | exact hM.k7 | exact hM.k8 | exact hM.k9 | exact hM.k10 | exact hM.k11 | exact hM.k12 | exact hM.k13 | exact hM.k14 | exact hM.k15 | exact hM.k16 | exact hM.k17) rfl dX8_save_49 (fun r49 s49 q49 => ?_)
        obtain ⟨rfl, rfl⟩ := q49
        refine P_icmpge dX8_save_52 (tgt := 78) rfl (fun h52 => absurd h52 (fun h9 => by have h8 := (n_le (a := 4000 * xp (zX Z)) (b := i) (by omega) (by omega)).mp h9; omega)) (fun h52 => ?_)
        refine P_aloadn (i := 0) rfl rfl dX8_save_55 ?_
        refine gX8_28 rfl (by first | exact hM.k0 | exact hM.k1 | exact hM.k2 | exact hM.k3 | exact hM.k4 | exact hM.k5 | exact hM.k6 | exact hM.k7 | exact hM.k8 | exact hM.k9 | exact hM.k10 | exact hM.k11 | exact hM.k12 | exact hM.k13 | exact hM.k14 | exact hM.k15 | exact hM.k16 | exact hM.k17) hM.r263 dX8_save_56 ?_
        refine lX8_13 rfl dX8_save_59 ?_
        refine P_iloadn (i := 1) rfl rfl dX8_save_61 ?_
        refine P_imul dX8_save_62 ?_
        refine P_iloadn (i := 2) rfl rfl dX8_save_63 ?_
        refine P_iadd dX8_save_64 ?_
        refine P_aloadn (i := 0) rfl rfl dX8_save_65 ?_
        refine gX8_14 rfl (by first | exact hM.k0 | exact hM.k1 | exact hM.k2 | exact hM.k3 | exact hM.k4 | exact hM.k5 | exact hM.k6 | exact hM.k7 | exact hM.k8 | exact hM.k9 | exact hM.k10 | exact hM.k11 | exact hM.k12 | exact hM.k13 | exact hM.k14 | exact hM.k15 | exact hM.k16 | exact hM.k17) hM.r257 dX8_save_66 ?_
        refine P_iloadn (i := 2) rfl rfl dX8_save_69 ?_
        refine P_iaN (j := i) (by first | exact hM.k0 | exact hM.k1 | exact hM.k2 | exact hM.k3 | exact hM.k4 | exact hM.k5 | exact hM.k6 | exact hM.k7 | exact hM.k8 | exact hM.k9 | exact hM.k10 | exact hM.k11 | exact hM.k12 | exact hM.k13 | exact hM.k14 | exact hM.k15 | exact hM.k16 | exact hM.k17) rfl (by first | omega | (simp only [hM.l1, hM.l2, hM.l3, hM.l4, hM.l5, hM.l6, hM.l7, hM.l8, hM.l9, hM.l10, hM.l11, hM.l12, hM.l13, hM.l14, hM.l15, hM.l16, hM.l17]; omega)) (by first | omega | (simp only [hM.l1, hM.l2, hM.l3, hM.l4, hM.l5, hM.l6, hM.l7, hM.l8, hM.l9, hM.l10, hM.l11, hM.l12, hM.l13, hM.l14, hM.l15, hM.l16, hM.l17]; omega)) (show _ = (cpA AI (m + 5) (3506 * sl) (m + 1) 0 3506) (m + 2) (i) from congrFun (cpA_src (by omega)) _) dX8_save_70 ?_
        refine P_isN (j := 160000 * sl + i) (by first | exact hM.k0 | exact hM.k1 | exact hM.k2 | exact hM.k3 | exact hM.k4 | exact hM.k5 | exact hM.k6 | exact hM.k7 | exact hM.k8 | exact hM.k9 | exact hM.k10 | exact hM.k11 | exact hM.k12 | exact hM.k13 | exact hM.k14 | exact hM.k15 | exact hM.k16 | exact hM.k17) (n_ix 160000 sl i) (by first | omega | (simp only [hM.l1, hM.l2, hM.l3, hM.l4, hM.l5, hM.l6, hM.l7, hM.l8, hM.l9, hM.l10, hM.l11, hM.l12, hM.l13, hM.l14, hM.l15, hM.l16, hM.l17]; omega)) (by first | omega | (simp only [hM.l1, hM.l2, hM.l3, hM.l4, hM.l5, hM.l6, hM.l7, hM.l8, hM.l9, hM.l10, hM.l11, hM.l12, hM.l13, hM.l14, hM.l15, hM.l16, hM.l17]; omega)) dX8_save_71 ?_
        refine P_inN2 dX8_save_72 rfl rfl ?_
        refine P_goto dX8_save_75 (tgt := 47) rfl ?_
        rw [cpA_s (A := (cpA AI (m + 5) (3506 * sl) (m + 1) 0 3506)) (dst := m + 6) (o1 := 160000 * sl) (src := m + 2) (o2 := 0) (n := i) (by omega) (by rw [Nat.zero_add]) rfl]
        exact ih (i + 1) (by omega)
    have loop1 : ∀ n i, i + n = 3506 → P g 2 iX8_save 14 [some (vr m), some (vi (Int32.ofNat sl)), some (vi (Int32.ofNat i))] [] (L, FI, cpA AI (m + 5) (3506 * sl) (m + 1) (0) i, AL, AR) (0, 0) (RZM L FI AI AL AR m (z_save Z (Int32.ofNat sl)).1 (some (vi (z_save Z (Int32.ofNat sl)).2))) := by
      intro n
      induction n with
      | zero =>
        intro i hi
        have e : i = 3506 := by omega
        refine P_iloadn (i := 2) rfl rfl dX8_save_14 ?_
        refine P_sipush (v := 3506) rfl dX8_save_15 ?_
        refine P_icmpge dX8_save_18 (tgt := 45) rfl (fun h18 => ?_) (fun h18 => absurd ((n_le (a := 3506) (b := i) (by omega) (by omega)).mpr (by omega)) h18)
        subst e
        refine P_iconst (v := 0) rfl dX8_save_45 ?_
        refine P_is2 (Or.inl dX8_save_46) rfl rfl ?_
        have h0 := loop2 (4000 * xp (zX Z)) 0 (by omega)
        rw [cpA_0] at h0
        exact h0
      | succ n ih =>
        intro i hi
        refine P_iloadn (i := 2) rfl rfl dX8_save_14 ?_
        refine P_sipush (v := 3506) rfl dX8_save_15 ?_
        refine P_icmpge dX8_save_18 (tgt := 45) rfl (fun h18 => absurd h18 (fun h9 => by have h8 := (n_le (a := 3506) (b := i) (by omega) (by omega)).mp h9; omega)) (fun h18 => ?_)
        refine P_aloadn (i := 0) rfl rfl dX8_save_21 ?_
        refine gX8_24 rfl (by first | exact hM.k0 | exact hM.k1 | exact hM.k2 | exact hM.k3 | exact hM.k4 | exact hM.k5 | exact hM.k6 | exact hM.k7 | exact hM.k8 | exact hM.k9 | exact hM.k10 | exact hM.k11 | exact hM.k12 | exact hM.k13 | exact hM.k14 | exact hM.k15 | exact hM.k16 | exact hM.k17) hM.r262 dX8_save_22 ?_
        refine P_sipush (v := 3506) rfl dX8_save_25 ?_
        refine P_iloadn (i := 1) rfl rfl dX8_save_28 ?_
        refine P_imul dX8_save_29 ?_
        refine P_iloadn (i := 2) rfl rfl dX8_save_30 ?_
        refine P_iadd dX8_save_31 ?_
        refine P_aloadn (i := 0) rfl rfl dX8_save_32 ?_
        refine gX8_7 rfl (by first | exact hM.k0 | exact hM.k1 | exact hM.k2 | exact hM.k3 | exact hM.k4 | exact hM.k5 | exact hM.k6 | exact hM.k7 | exact hM.k8 | exact hM.k9 | exact hM.k10 | exact hM.k11 | exact hM.k12 | exact hM.k13 | exact hM.k14 | exact hM.k15 | exact hM.k16 | exact hM.k17) hM.r256 dX8_save_33 ?_
        refine P_iloadn (i := 2) rfl rfl dX8_save_36 ?_
        refine P_iaN (j := i) (by first | exact hM.k0 | exact hM.k1 | exact hM.k2 | exact hM.k3 | exact hM.k4 | exact hM.k5 | exact hM.k6 | exact hM.k7 | exact hM.k8 | exact hM.k9 | exact hM.k10 | exact hM.k11 | exact hM.k12 | exact hM.k13 | exact hM.k14 | exact hM.k15 | exact hM.k16 | exact hM.k17) rfl (by first | omega | (simp only [hM.l1, hM.l2, hM.l3, hM.l4, hM.l5, hM.l6, hM.l7, hM.l8, hM.l9, hM.l10, hM.l11, hM.l12, hM.l13, hM.l14, hM.l15, hM.l16, hM.l17]; omega)) (by first | omega | (simp only [hM.l1, hM.l2, hM.l3, hM.l4, hM.l5, hM.l6, hM.l7, hM.l8, hM.l9, hM.l10, hM.l11, hM.l12, hM.l13, hM.l14, hM.l15, hM.l16, hM.l17]; omega)) (show _ = AI (m + 1) (i) from congrFun (cpA_src (by omega)) _) dX8_save_37 ?_
        refine P_isN (j := 3506 * sl + i) (by first | exact hM.k0 | exact hM.k1 | exact hM.k2 | exact hM.k3 | exact hM.k4 | exact hM.k5 | exact hM.k6 | exact hM.k7 | exact hM.k8 | exact hM.k9 | exact hM.k10 | exact hM.k11 | exact hM.k12 | exact hM.k13 | exact hM.k14 | exact hM.k15 | exact hM.k16 | exact hM.k17) (n_ix 3506 sl i) (by first | omega | (simp only [hM.l1, hM.l2, hM.l3, hM.l4, hM.l5, hM.l6, hM.l7, hM.l8, hM.l9, hM.l10, hM.l11, hM.l12, hM.l13, hM.l14, hM.l15, hM.l16, hM.l17]; omega)) (by first | omega | (simp only [hM.l1, hM.l2, hM.l3, hM.l4, hM.l5, hM.l6, hM.l7, hM.l8, hM.l9, hM.l10, hM.l11, hM.l12, hM.l13, hM.l14, hM.l15, hM.l16, hM.l17]; omega)) dX8_save_38 ?_
        refine P_inN2 dX8_save_39 rfl rfl ?_
        refine P_goto dX8_save_42 (tgt := 14) rfl ?_
        rw [cpA_s (A := AI) (dst := m + 5) (o1 := 3506 * sl) (src := m + 1) (o2 := 0) (n := i) (by omega) (by rw [Nat.zero_add]) rfl]
        exact ih (i + 1) (by omega)
    refine P_iconst (v := 0) rfl dX8_save_12 ?_
    refine P_is2 (Or.inl dX8_save_13) rfl rfl ?_
    have h0 := loop1 3506 0 (by omega)
    rw [cpA_0] at h0
    exact h0
  · refine P_bipush (v := (-2)) rfl dX8_save_9 ?_
    refine P_ireturn rfl dX8_save_11 ?_
    rw [show z_save Z s = (Z, -2) from if_pos (b_f h6)]
    exact ⟨_, _, rfl, rfl, FrM.rf, hZ⟩
theorem s_restore (hM : WM L m) (hZ : RZ FI AI m Z) {s : Int32} : Sp g 3 iX8_restore [vr m, vi s] (L, FI, AI, AL, AR) (0, 0) (RZM L FI AI AL AR m (z_restore Z s).1 (some (vi (z_restore Z s).2))) := by
  refine Sp.of (ls := [some (vr m), some (vi s), none]) (by decide +kernel) rfl rfl ?_
  refine P_iloadn (i := 1) rfl rfl dX8_restore_0 ?_
  refine P_iconst (v := 0) rfl dX8_restore_1 ?_
  refine P_iconst (v := 1) rfl dX8_restore_2 ?_
  refine kX8_65 rfl s_X8_in (by decide) rfl dX8_restore_3 (fun r3 s3 q3 => ?_)
  obtain ⟨rfl, rfl⟩ := q3
  refine P_ifne dX8_restore_6 (tgt := 12) rfl (fun h6 => ?_) (fun h6 => ?_)
  · have hc := b_t h6
    have hs2 := in_ib (n := 1) (by decide) hc
    obtain ⟨sl, hsl⟩ : ∃ sl, sl = nn s := ⟨_, rfl⟩
    have hsl2 : sl < 2 := by rw [hsl]; exact hs2.nn
    have hse : s = Int32.ofNat sl := by rw [hsl]; exact hs2.eq
    clear hsl hs2 h6
    subst hse
    refine P_aloadn (i := 0) rfl rfl dX8_restore_12 ?_
    refine gX8_31 rfl (by first | exact hM.k0 | exact hM.k1 | exact hM.k2 | exact hM.k3 | exact hM.k4 | exact hM.k5 | exact hM.k6 | exact hM.k7 | exact hM.k8 | exact hM.k9 | exact hM.k10 | exact hM.k11 | exact hM.k12 | exact hM.k13 | exact hM.k14 | exact hM.k15 | exact hM.k16 | exact hM.k17) hM.r264 dX8_restore_13 ?_
    refine P_iloadn (i := 1) rfl rfl dX8_restore_16 ?_
    refine P_zaN (j := sl) (by first | exact hM.k0 | exact hM.k1 | exact hM.k2 | exact hM.k3 | exact hM.k4 | exact hM.k5 | exact hM.k6 | exact hM.k7 | exact hM.k8 | exact hM.k9 | exact hM.k10 | exact hM.k11 | exact hM.k12 | exact hM.k13 | exact hM.k14 | exact hM.k15 | exact hM.k16 | exact hM.k17) rfl (by first | omega | (simp only [hM.l1, hM.l2, hM.l3, hM.l4, hM.l5, hM.l6, hM.l7, hM.l8, hM.l9, hM.l10, hM.l11, hM.l12, hM.l13, hM.l14, hM.l15, hM.l16, hM.l17]; omega)) (by first | omega | (simp only [hM.l1, hM.l2, hM.l3, hM.l4, hM.l5, hM.l6, hM.l7, hM.l8, hM.l9, hM.l10, hM.l11, hM.l12, hM.l13, hM.l14, hM.l15, hM.l16, hM.l17]; omega)) (hZ.v hsl2) dX8_restore_17 ?_
    refine P_ifne dX8_restore_18 (tgt := 24) rfl (fun h18 => ?_) (fun h18 => ?_)
    · have hv := b_t h18
      refine P_aloadn (i := 0) rfl rfl dX8_restore_24 ?_
      refine kX8_84 rfl (s_keep hM hZ) (by decide) (by first | exact hM.k0 | exact hM.k1 | exact hM.k2 | exact hM.k3 | exact hM.k4 | exact hM.k5 | exact hM.k6 | exact hM.k7 | exact hM.k8 | exact hM.k9 | exact hM.k10 | exact hM.k11 | exact hM.k12 | exact hM.k13 | exact hM.k14 | exact hM.k15 | exact hM.k16 | exact hM.k17) rfl dX8_restore_25 (fun r25 s25 q25 => ?_)
      obtain ⟨F2, A2, rfl, rfl, hFr, hZ2⟩ := q25
      have hH := hZ2.s (s := sl) hsl2 hv
      have h40 : xp (zS Z sl) ≤ 40 := hH.p40
      have loop2 : ∀ n i, i + n = 4000 * xp (zS Z sl) → P g 3 iX8_restore 63 [some (vr m), some (vi (Int32.ofNat sl)), some (vi (Int32.ofNat i))] [] (L, F2, cpA (cpA A2 (m + 1) 0 (m + 5) (3506 * sl) 3506) (m + 2) (0) (m + 6) (160000 * sl) i, AL, AR) (0, 0) (RZM L FI AI AL AR m (z_restore Z (Int32.ofNat sl)).1 (some (vi (z_restore Z (Int32.ofNat sl)).2))) := by
        intro n
        induction n with
        | zero =>
          intro i hi
          have e : i = 4000 * xp (zS Z sl) := by omega
          refine P_iloadn (i := 2) rfl rfl dX8_restore_63 ?_
          refine P_aloadn (i := 0) rfl rfl dX8_restore_64 ?_
          refine kX8_80 rfl (s_bytesNow hM (np := xp (zS Z sl)) (by rw [cpA_src (by omega), cpA_in (by omega) (by omega)]; exact hH.np)) (by decide) (by first | exact hM.k0 | exact hM.k1 | exact hM.k2 | exact hM.k3 | exact hM.k4 | exact hM.k5 | exact hM.k6 | exact hM.k7 | exact hM.k8 | exact hM.k9 | exact hM.k10 | exact hM.k11 | exact hM.k12 | exact hM.k13 | exact hM.k14 | exact hM.k15 | exact hM.k16 | exact hM.k17) rfl dX8_restore_65 (fun r65 s65 q65 => ?_)
          obtain ⟨rfl, rfl⟩ := q65
          refine P_icmpge dX8_restore_68 (tgt := 94) rfl (fun h68 => ?_) (fun h68 => absurd ((n_le (a := 4000 * xp (zS Z sl)) (b := i) (by omega) (by omega)).mpr (by omega)) h68)
          subst e
          have hX : RA (cpA (cpA A2 (m + 1) 0 (m + 5) (3506 * sl) 3506) (m + 2) 0 (m + 6) (160000 * sl) (4000 * xp (zS Z sl))) m (zS Z sl) := by
            refine RF.cp hH (fun j hj => ?_) (fun j hj => ?_)
            · rw [cpA_src (by omega), cpA_in (by omega) (by omega)]
              exact congrArg (A2 (m + 5)) (by omega)
            · rw [cpA_in (by omega) (by omega), cpA_src (by omega)]
              exact congrArg (A2 (m + 6)) (by omega)
          refine P_aloadn (i := 0) rfl rfl dX8_restore_94 ?_
          refine gX8_7 rfl (by first | exact hM.k0 | exact hM.k1 | exact hM.k2 | exact hM.k3 | exact hM.k4 | exact hM.k5 | exact hM.k6 | exact hM.k7 | exact hM.k8 | exact hM.k9 | exact hM.k10 | exact hM.k11 | exact hM.k12 | exact hM.k13 | exact hM.k14 | exact hM.k15 | exact hM.k16 | exact hM.k17) hM.r256 dX8_restore_95 ?_
          refine P_iconst (v := 0) rfl dX8_restore_98 ?_
          refine P_iaN (j := 0) (by first | exact hM.k0 | exact hM.k1 | exact hM.k2 | exact hM.k3 | exact hM.k4 | exact hM.k5 | exact hM.k6 | exact hM.k7 | exact hM.k8 | exact hM.k9 | exact hM.k10 | exact hM.k11 | exact hM.k12 | exact hM.k13 | exact hM.k14 | exact hM.k15 | exact hM.k16 | exact hM.k17) rfl (by first | omega | (simp only [hM.l1, hM.l2, hM.l3, hM.l4, hM.l5, hM.l6, hM.l7, hM.l8, hM.l9, hM.l10, hM.l11, hM.l12, hM.l13, hM.l14, hM.l15, hM.l16, hM.l17]; omega)) (by first | omega | (simp only [hM.l1, hM.l2, hM.l3, hM.l4, hM.l5, hM.l6, hM.l7, hM.l8, hM.l9, hM.l10, hM.l11, hM.l12, hM.l13, hM.l14, hM.l15, hM.l16, hM.l17]; omega)) (hX.g (by omega) (by omega) (by omega) (by omega)) dX8_restore_99 ?_
          refine P_ireturn rfl dX8_restore_100 ?_
          rw [show z_restore Z (Int32.ofNat sl) = (z_x (z_keep Z) (zS Z sl), xG (zS Z sl) 0) from by
            have h9 : z_restore Z (Int32.ofNat sl) = _ := (if_neg (fun hh => hh hc)).trans (if_neg (by rw [n_nn (by omega), hv]; decide))
            rw [n_nn (by omega)] at h9
            exact h9]
          refine ⟨_, _, rfl, rfl, hFr.tr ⟨fun _ _ _ => rfl, fun a ha => (cpA_src (by omega)).trans (cpA_src (by omega)), rfl⟩, ?_⟩
          have e1 : ∀ a, a ≠ m + 1 → a ≠ m + 2 → (cpA (cpA A2 (m + 1) 0 (m + 5) (3506 * sl) 3506) (m + 2) 0 (m + 6) (160000 * sl) (4000 * xp (zS Z sl))) a = A2 a := fun a g5 g6 => (cpA_src g6).trans (cpA_src g5)
          exact hZ2.of hX rfl rfl rfl (e1 _ (by omega) (by omega)) (e1 _ (by omega) (by omega)) (e1 _ (by omega) (by omega)) (e1 _ (by omega) (by omega)) (e1 _ (by omega) (by omega)) (e1 _ (by omega) (by omega))
        | succ n ih =>
          intro i hi
          refine P_iloadn (i := 2) rfl rfl dX8_restore_63 ?_
          refine P_aloadn (i := 0) rfl rfl dX8_restore_64 ?_
          refine kX8_80 rfl (s_bytesNow hM (np := xp (zS Z sl)) (by rw [cpA_src (by omega), cpA_in (by omega) (by omega)]; exact hH.np)) (by decide) (by first | exact hM.k0 | exact hM.k1 | exact hM.k2 | exact hM.k3 | exact hM.k4 | exact hM.k5 | exact hM.k6 | exact hM.k7 | exact hM.k8 | exact hM.k9 | exact hM.k10 | exact hM.k11 | exact hM.k12 | exact hM.k13 | exact hM.k14 | exact hM.k15 | exact hM.k16 | exact hM.k17) rfl dX8_restore_65 (fun r65 s65 q65 => ?_)
          obtain ⟨rfl, rfl⟩ := q65
          refine P_icmpge dX8_restore_68 (tgt := 94) rfl (fun h68 => absurd h68 (fun h9 => by have h8 := (n_le (a := 4000 * xp (zS Z sl)) (b := i) (by omega) (by omega)).mp h9; omega)) (fun h68 => ?_)
          refine P_aloadn (i := 0) rfl rfl dX8_restore_71 ?_
          refine gX8_14 rfl (by first | exact hM.k0 | exact hM.k1 | exact hM.k2 | exact hM.k3 | exact hM.k4 | exact hM.k5 | exact hM.k6 | exact hM.k7 | exact hM.k8 | exact hM.k9 | exact hM.k10 | exact hM.k11 | exact hM.k12 | exact hM.k13 | exact hM.k14 | exact hM.k15 | exact hM.k16 | exact hM.k17) hM.r257 dX8_restore_72 ?_
          refine P_iloadn (i := 2) rfl rfl dX8_restore_75 ?_
          refine P_aloadn (i := 0) rfl rfl dX8_restore_76 ?_
          refine gX8_28 rfl (by first | exact hM.k0 | exact hM.k1 | exact hM.k2 | exact hM.k3 | exact hM.k4 | exact hM.k5 | exact hM.k6 | exact hM.k7 | exact hM.k8 | exact hM.k9 | exact hM.k10 | exact hM.k11 | exact hM.k12 | exact hM.k13 | exact hM.k14 | exact hM.k15 | exact hM.k16 | exact hM.k17) hM.r263 dX8_restore_77 ?_
          refine lX8_13 rfl dX8_restore_80 ?_
          refine P_iloadn (i := 1) rfl rfl dX8_restore_82 ?_
          refine P_imul dX8_restore_83 ?_
          refine P_iloadn (i := 2) rfl rfl dX8_restore_84 ?_
          refine P_iadd dX8_restore_85 ?_
          refine P_iaN (j := 160000 * sl + i) (by first | exact hM.k0 | exact hM.k1 | exact hM.k2 | exact hM.k3 | exact hM.k4 | exact hM.k5 | exact hM.k6 | exact hM.k7 | exact hM.k8 | exact hM.k9 | exact hM.k10 | exact hM.k11 | exact hM.k12 | exact hM.k13 | exact hM.k14 | exact hM.k15 | exact hM.k16 | exact hM.k17) (n_ix 160000 sl i) (by first | omega | (simp only [hM.l1, hM.l2, hM.l3, hM.l4, hM.l5, hM.l6, hM.l7, hM.l8, hM.l9, hM.l10, hM.l11, hM.l12, hM.l13, hM.l14, hM.l15, hM.l16, hM.l17]; omega)) (by first | omega | (simp only [hM.l1, hM.l2, hM.l3, hM.l4, hM.l5, hM.l6, hM.l7, hM.l8, hM.l9, hM.l10, hM.l11, hM.l12, hM.l13, hM.l14, hM.l15, hM.l16, hM.l17]; omega)) (show _ = (cpA A2 (m + 1) 0 (m + 5) (3506 * sl) 3506) (m + 6) (160000 * sl + i) from congrFun (cpA_src (by omega)) _) dX8_restore_86 ?_
          refine P_isN (j := i) (by first | exact hM.k0 | exact hM.k1 | exact hM.k2 | exact hM.k3 | exact hM.k4 | exact hM.k5 | exact hM.k6 | exact hM.k7 | exact hM.k8 | exact hM.k9 | exact hM.k10 | exact hM.k11 | exact hM.k12 | exact hM.k13 | exact hM.k14 | exact hM.k15 | exact hM.k16 | exact hM.k17) rfl (by first | omega | (simp only [hM.l1, hM.l2, hM.l3, hM.l4, hM.l5, hM.l6, hM.l7, hM.l8, hM.l9, hM.l10, hM.l11, hM.l12, hM.l13, hM.l14, hM.l15, hM.l16, hM.l17]; omega)) (by first | omega | (simp only [hM.l1, hM.l2, hM.l3, hM.l4, hM.l5, hM.l6, hM.l7, hM.l8, hM.l9, hM.l10, hM.l11, hM.l12, hM.l13, hM.l14, hM.l15, hM.l16, hM.l17]; omega)) dX8_restore_87 ?_
          refine P_inN2 dX8_restore_88 rfl rfl ?_
          refine P_goto dX8_restore_91 (tgt := 63) rfl ?_
          rw [cpA_s (A := (cpA A2 (m + 1) 0 (m + 5) (3506 * sl) 3506)) (dst := m + 2) (o1 := 0) (src := m + 6) (o2 := 160000 * sl) (n := i) (by omega) rfl (by rw [Nat.zero_add])]
          exact ih (i + 1) (by omega)
      have loop1 : ∀ n i, i + n = 3506 → P g 3 iX8_restore 30 [some (vr m), some (vi (Int32.ofNat sl)), some (vi (Int32.ofNat i))] [] (L, F2, cpA A2 (m + 1) (0) (m + 5) (3506 * sl) i, AL, AR) (0, 0) (RZM L FI AI AL AR m (z_restore Z (Int32.ofNat sl)).1 (some (vi (z_restore Z (Int32.ofNat sl)).2))) := by
        intro n
        induction n with
        | zero =>
          intro i hi
          have e : i = 3506 := by omega
          refine P_iloadn (i := 2) rfl rfl dX8_restore_30 ?_
          refine P_sipush (v := 3506) rfl dX8_restore_31 ?_
          refine P_icmpge dX8_restore_34 (tgt := 61) rfl (fun h34 => ?_) (fun h34 => absurd ((n_le (a := 3506) (b := i) (by omega) (by omega)).mpr (by omega)) h34)
          subst e
          refine P_iconst (v := 0) rfl dX8_restore_61 ?_
          refine P_is2 (Or.inl dX8_restore_62) rfl rfl ?_
          have h0 := loop2 (4000 * xp (zS Z sl)) 0 (by omega)
          rw [cpA_0] at h0
          exact h0
        | succ n ih =>
          intro i hi
          refine P_iloadn (i := 2) rfl rfl dX8_restore_30 ?_
          refine P_sipush (v := 3506) rfl dX8_restore_31 ?_
          refine P_icmpge dX8_restore_34 (tgt := 61) rfl (fun h34 => absurd h34 (fun h9 => by have h8 := (n_le (a := 3506) (b := i) (by omega) (by omega)).mp h9; omega)) (fun h34 => ?_)
          refine P_aloadn (i := 0) rfl rfl dX8_restore_37 ?_
          refine gX8_7 rfl (by first | exact hM.k0 | exact hM.k1 | exact hM.k2 | exact hM.k3 | exact hM.k4 | exact hM.k5 | exact hM.k6 | exact hM.k7 | exact hM.k8 | exact hM.k9 | exact hM.k10 | exact hM.k11 | exact hM.k12 | exact hM.k13 | exact hM.k14 | exact hM.k15 | exact hM.k16 | exact hM.k17) hM.r256 dX8_restore_38 ?_
          refine P_iloadn (i := 2) rfl rfl dX8_restore_41 ?_
          refine P_aloadn (i := 0) rfl rfl dX8_restore_42 ?_
          refine gX8_24 rfl (by first | exact hM.k0 | exact hM.k1 | exact hM.k2 | exact hM.k3 | exact hM.k4 | exact hM.k5 | exact hM.k6 | exact hM.k7 | exact hM.k8 | exact hM.k9 | exact hM.k10 | exact hM.k11 | exact hM.k12 | exact hM.k13 | exact hM.k14 | exact hM.k15 | exact hM.k16 | exact hM.k17) hM.r262 dX8_restore_43 ?_
          refine P_sipush (v := 3506) rfl dX8_restore_46 ?_
          refine P_iloadn (i := 1) rfl rfl dX8_restore_49 ?_
          refine P_imul dX8_restore_50 ?_
          refine P_iloadn (i := 2) rfl rfl dX8_restore_51 ?_
          refine P_iadd dX8_restore_52 ?_
          refine P_iaN (j := 3506 * sl + i) (by first | exact hM.k0 | exact hM.k1 | exact hM.k2 | exact hM.k3 | exact hM.k4 | exact hM.k5 | exact hM.k6 | exact hM.k7 | exact hM.k8 | exact hM.k9 | exact hM.k10 | exact hM.k11 | exact hM.k12 | exact hM.k13 | exact hM.k14 | exact hM.k15 | exact hM.k16 | exact hM.k17) (n_ix 3506 sl i) (by first | omega | (simp only [hM.l1, hM.l2, hM.l3, hM.l4, hM.l5, hM.l6, hM.l7, hM.l8, hM.l9, hM.l10, hM.l11, hM.l12, hM.l13, hM.l14, hM.l15, hM.l16, hM.l17]; omega)) (by first | omega | (simp only [hM.l1, hM.l2, hM.l3, hM.l4, hM.l5, hM.l6, hM.l7, hM.l8, hM.l9, hM.l10, hM.l11, hM.l12, hM.l13, hM.l14, hM.l15, hM.l16, hM.l17]; omega)) (show _ = A2 (m + 5) (3506 * sl + i) from congrFun (cpA_src (by omega)) _) dX8_restore_53 ?_
          refine P_isN (j := i) (by first | exact hM.k0 | exact hM.k1 | exact hM.k2 | exact hM.k3 | exact hM.k4 | exact hM.k5 | exact hM.k6 | exact hM.k7 | exact hM.k8 | exact hM.k9 | exact hM.k10 | exact hM.k11 | exact hM.k12 | exact hM.k13 | exact hM.k14 | exact hM.k15 | exact hM.k16 | exact hM.k17) rfl (by first | omega | (simp only [hM.l1, hM.l2, hM.l3, hM.l4, hM.l5, hM.l6, hM.l7, hM.l8, hM.l9, hM.l10, hM.l11, hM.l12, hM.l13, hM.l14, hM.l15, hM.l16, hM.l17]; omega)) (by first | omega | (simp only [hM.l1, hM.l2, hM.l3, hM.l4, hM.l5, hM.l6, hM.l7, hM.l8, hM.l9, hM.l10, hM.l11, hM.l12, hM.l13, hM.l14, hM.l15, hM.l16, hM.l17]; omega)) dX8_restore_54 ?_
          refine P_inN2 dX8_restore_55 rfl rfl ?_
          refine P_goto dX8_restore_58 (tgt := 30) rfl ?_
          rw [cpA_s (A := A2) (dst := m + 1) (o1 := 0) (src := m + 5) (o2 := 3506 * sl) (n := i) (by omega) rfl (by rw [Nat.zero_add])]
          exact ih (i + 1) (by omega)
      refine P_iconst (v := 0) rfl dX8_restore_28 ?_
      refine P_is2 (Or.inl dX8_restore_29) rfl rfl ?_
      have h0 := loop1 3506 0 (by omega)
      rw [cpA_0] at h0
      exact h0
    · refine P_bipush (v := (-5)) rfl dX8_restore_21 ?_
      refine P_ireturn rfl dX8_restore_23 ?_
      have hv : zV Z sl = false := by simpa using b_f h18
      rw [show z_restore Z (Int32.ofNat sl) = (Z, -5) from (if_neg (fun hh => hh hc)).trans (if_pos (by rw [n_nn (by omega)]; exact hv))]
      exact ⟨_, _, rfl, rfl, FrM.rf, hZ⟩
  · refine P_bipush (v := (-2)) rfl dX8_restore_9 ?_
    refine P_ireturn rfl dX8_restore_11 ?_
    rw [show z_restore Z s = (Z, -2) from if_pos (b_f h6)]
    exact ⟨_, _, rfl, rfl, FrM.rf, hZ⟩
theorem s_node (hM : WM L m) (hZ : RZ FI AI m Z) {n way to sp : Int32} : Sp g 3 iX8_node [vr m, vi n, vi way, vi to, vi sp] (L, FI, AI, AL, AR) (0, 0) (RZM L FI AI AL AR m (z_node Z n way to sp).1 (some (vi (z_node Z n way to sp).2))) := by
  refine Sp.of (ls := [some (vr m), some (vi n), some (vi way), some (vi to), some (vi sp), none, none]) (by decide +kernel) rfl rfl ?_
  refine P_iloadn (i := 1) rfl rfl dX8_node_0 ?_
  refine kX8_69 rfl s_isNode (by decide) rfl dX8_node_1 (fun r1 s1 q1 => ?_)
  obtain ⟨rfl, rfl⟩ := q1
  refine P_ifne dX8_node_4 (tgt := 9) rfl (fun h4 => ?_) (fun h4 => ?_)
  · have hn : ib n 8 := q_ib_iff.mp (b_t h4)
    have hn9 := hn.nn
    refine P_iloadn (i := 2) rfl rfl dX8_node_9 ?_
    refine P_iconst (v := 0) rfl dX8_node_10 ?_
    refine P_iconst (v := 2) rfl dX8_node_11 ?_
    refine kX8_65 rfl s_X8_in (by decide) rfl dX8_node_12 (fun r12 s12 q12 => ?_)
    obtain ⟨rfl, rfl⟩ := q12
    refine P_ifeq dX8_node_15 (tgt := 42) rfl (fun h15 => ?_) (fun h15 => ?_)
    · refine P_bipush (v := (-2)) rfl dX8_node_42 ?_
      refine P_ireturn rfl dX8_node_44 ?_
      rw [show z_node Z n way to sp = (Z, -2) from (if_neg (fun hh => hh (b_t h4))).trans (if_pos (fun hh => b_f h15 hh.1))]
      exact ⟨_, _, rfl, rfl, FrM.rf, hZ⟩
    · refine P_iloadn (i := 3) rfl rfl dX8_node_18 ?_
      refine P_iconst (v := 1) rfl dX8_node_19 ?_
      refine P_sipush (v := 500) rfl dX8_node_20 ?_
      refine kX8_65 rfl s_X8_in (by decide) rfl dX8_node_23 (fun r23 s23 q23 => ?_)
      obtain ⟨rfl, rfl⟩ := q23
      refine P_ifeq dX8_node_26 (tgt := 42) rfl (fun h26 => ?_) (fun h26 => ?_)
      · refine P_bipush (v := (-2)) rfl dX8_node_42 ?_
        refine P_ireturn rfl dX8_node_44 ?_
        rw [show z_node Z n way to sp = (Z, -2) from (if_neg (fun hh => hh (b_t h4))).trans (if_pos (fun hh => b_f h26 hh.2.1))]
        exact ⟨_, _, rfl, rfl, FrM.rf, hZ⟩
      · refine P_iload (i := 4) rfl dX8_node_29 ?_
        refine P_bipush (v := 64) rfl dX8_node_31 ?_
        refine P_sipush (v := 20000) rfl dX8_node_33 ?_
        refine kX8_65 rfl s_X8_in (by decide) rfl dX8_node_36 (fun r36 s36 q36 => ?_)
        obtain ⟨rfl, rfl⟩ := q36
        refine P_ifne dX8_node_39 (tgt := 45) rfl (fun h39 => ?_) (fun h39 => ?_)
        · refine P_aloadn (i := 0) rfl rfl dX8_node_45 ?_
          refine kX8_84 rfl (s_keep hM hZ) (by decide) (by first | exact hM.k0 | exact hM.k1 | exact hM.k2 | exact hM.k3 | exact hM.k4 | exact hM.k5 | exact hM.k6 | exact hM.k7 | exact hM.k8 | exact hM.k9 | exact hM.k10 | exact hM.k11 | exact hM.k12 | exact hM.k13 | exact hM.k14 | exact hM.k15 | exact hM.k16 | exact hM.k17) rfl dX8_node_46 (fun r46 s46 q46 => ?_)
          obtain ⟨F2, A2, rfl, rfl, hFr, hZ2⟩ := q46
          refine P_bipush (v := 14) rfl dX8_node_49 ?_
          refine P_bipush (v := 11) rfl dX8_node_51 ?_
          refine P_iloadn (i := 1) rfl rfl dX8_node_53 ?_
          refine P_imul dX8_node_54 ?_
          refine P_iadd dX8_node_55 ?_
          refine P_is5 (Or.inr dX8_node_56) rfl rfl ?_
          refine P_aloadn (i := 0) rfl rfl dX8_node_58 ?_
          refine gX8_7 rfl (by first | exact hM.k0 | exact hM.k1 | exact hM.k2 | exact hM.k3 | exact hM.k4 | exact hM.k5 | exact hM.k6 | exact hM.k7 | exact hM.k8 | exact hM.k9 | exact hM.k10 | exact hM.k11 | exact hM.k12 | exact hM.k13 | exact hM.k14 | exact hM.k15 | exact hM.k16 | exact hM.k17) hM.r256 dX8_node_59 ?_
          refine P_iload (i := 5) rfl dX8_node_62 ?_
          refine P_iconst (v := 0) rfl dX8_node_64 ?_
          refine P_iadd dX8_node_65 ?_
          refine P_iaN (j := 14 + 11 * nn n + 0) (by first | exact hM.k0 | exact hM.k1 | exact hM.k2 | exact hM.k3 | exact hM.k4 | exact hM.k5 | exact hM.k6 | exact hM.k7 | exact hM.k8 | exact hM.k9 | exact hM.k10 | exact hM.k11 | exact hM.k12 | exact hM.k13 | exact hM.k14 | exact hM.k15 | exact hM.k16 | exact hM.k17) (n_idx hn) (by first | omega | (simp only [hM.l1, hM.l2, hM.l3, hM.l4, hM.l5, hM.l6, hM.l7, hM.l8, hM.l9, hM.l10, hM.l11, hM.l12, hM.l13, hM.l14, hM.l15, hM.l16, hM.l17]; omega)) (by first | omega | (simp only [hM.l1, hM.l2, hM.l3, hM.l4, hM.l5, hM.l6, hM.l7, hM.l8, hM.l9, hM.l10, hM.l11, hM.l12, hM.l13, hM.l14, hM.l15, hM.l16, hM.l17]; omega)) (hZ2.x.n hn9 (by decide)) dX8_node_66 ?_
          refine P_is6 (Or.inr dX8_node_67) rfl rfl ?_
          refine P_aloadn (i := 0) rfl rfl dX8_node_69 ?_
          refine gX8_7 rfl (by first | exact hM.k0 | exact hM.k1 | exact hM.k2 | exact hM.k3 | exact hM.k4 | exact hM.k5 | exact hM.k6 | exact hM.k7 | exact hM.k8 | exact hM.k9 | exact hM.k10 | exact hM.k11 | exact hM.k12 | exact hM.k13 | exact hM.k14 | exact hM.k15 | exact hM.k16 | exact hM.k17) hM.r256 dX8_node_70 ?_
          refine P_iload (i := 5) rfl dX8_node_73 ?_
          refine P_iconst (v := 0) rfl dX8_node_75 ?_
          refine P_iadd dX8_node_76 ?_
          refine P_iloadn (i := 2) rfl rfl dX8_node_77 ?_
          refine P_isN (j := 14 + 11 * nn n + 0) (by first | exact hM.k0 | exact hM.k1 | exact hM.k2 | exact hM.k3 | exact hM.k4 | exact hM.k5 | exact hM.k6 | exact hM.k7 | exact hM.k8 | exact hM.k9 | exact hM.k10 | exact hM.k11 | exact hM.k12 | exact hM.k13 | exact hM.k14 | exact hM.k15 | exact hM.k16 | exact hM.k17) (n_idx hn) (by first | omega | (simp only [hM.l1, hM.l2, hM.l3, hM.l4, hM.l5, hM.l6, hM.l7, hM.l8, hM.l9, hM.l10, hM.l11, hM.l12, hM.l13, hM.l14, hM.l15, hM.l16, hM.l17]; omega)) (by first | omega | (simp only [hM.l1, hM.l2, hM.l3, hM.l4, hM.l5, hM.l6, hM.l7, hM.l8, hM.l9, hM.l10, hM.l11, hM.l12, hM.l13, hM.l14, hM.l15, hM.l16, hM.l17]; omega)) dX8_node_78 ?_
          refine P_aloadn (i := 0) rfl rfl dX8_node_79 ?_
          refine gX8_7 rfl (by first | exact hM.k0 | exact hM.k1 | exact hM.k2 | exact hM.k3 | exact hM.k4 | exact hM.k5 | exact hM.k6 | exact hM.k7 | exact hM.k8 | exact hM.k9 | exact hM.k10 | exact hM.k11 | exact hM.k12 | exact hM.k13 | exact hM.k14 | exact hM.k15 | exact hM.k16 | exact hM.k17) hM.r256 dX8_node_80 ?_
          refine P_iload (i := 5) rfl dX8_node_83 ?_
          refine P_iconst (v := 1) rfl dX8_node_85 ?_
          refine P_iadd dX8_node_86 ?_
          refine P_iloadn (i := 3) rfl rfl dX8_node_87 ?_
          refine P_isN (j := 14 + 11 * nn n + 1) (by first | exact hM.k0 | exact hM.k1 | exact hM.k2 | exact hM.k3 | exact hM.k4 | exact hM.k5 | exact hM.k6 | exact hM.k7 | exact hM.k8 | exact hM.k9 | exact hM.k10 | exact hM.k11 | exact hM.k12 | exact hM.k13 | exact hM.k14 | exact hM.k15 | exact hM.k16 | exact hM.k17) (n_idx hn) (by first | omega | (simp only [hM.l1, hM.l2, hM.l3, hM.l4, hM.l5, hM.l6, hM.l7, hM.l8, hM.l9, hM.l10, hM.l11, hM.l12, hM.l13, hM.l14, hM.l15, hM.l16, hM.l17]; omega)) (by first | omega | (simp only [hM.l1, hM.l2, hM.l3, hM.l4, hM.l5, hM.l6, hM.l7, hM.l8, hM.l9, hM.l10, hM.l11, hM.l12, hM.l13, hM.l14, hM.l15, hM.l16, hM.l17]; omega)) dX8_node_88 ?_
          refine P_aloadn (i := 0) rfl rfl dX8_node_89 ?_
          refine gX8_7 rfl (by first | exact hM.k0 | exact hM.k1 | exact hM.k2 | exact hM.k3 | exact hM.k4 | exact hM.k5 | exact hM.k6 | exact hM.k7 | exact hM.k8 | exact hM.k9 | exact hM.k10 | exact hM.k11 | exact hM.k12 | exact hM.k13 | exact hM.k14 | exact hM.k15 | exact hM.k16 | exact hM.k17) hM.r256 dX8_node_90 ?_
          refine P_iload (i := 5) rfl dX8_node_93 ?_
          refine P_iconst (v := 2) rfl dX8_node_95 ?_
          refine P_iadd dX8_node_96 ?_
          refine P_iload (i := 4) rfl dX8_node_97 ?_
          refine P_isN (j := 14 + 11 * nn n + 2) (by first | exact hM.k0 | exact hM.k1 | exact hM.k2 | exact hM.k3 | exact hM.k4 | exact hM.k5 | exact hM.k6 | exact hM.k7 | exact hM.k8 | exact hM.k9 | exact hM.k10 | exact hM.k11 | exact hM.k12 | exact hM.k13 | exact hM.k14 | exact hM.k15 | exact hM.k16 | exact hM.k17) (n_idx hn) (by first | omega | (simp only [hM.l1, hM.l2, hM.l3, hM.l4, hM.l5, hM.l6, hM.l7, hM.l8, hM.l9, hM.l10, hM.l11, hM.l12, hM.l13, hM.l14, hM.l15, hM.l16, hM.l17]; omega)) (by first | omega | (simp only [hM.l1, hM.l2, hM.l3, hM.l4, hM.l5, hM.l6, hM.l7, hM.l8, hM.l9, hM.l10, hM.l11, hM.l12, hM.l13, hM.l14, hM.l15, hM.l16, hM.l17]; omega)) dX8_node_99 ?_
          refine P_iload (i := 6) rfl dX8_node_100 ?_
          refine P_ireturn rfl dX8_node_102 ?_
          rw [show z_node Z n way to sp = (z_x (z_keep Z) (x_n (x_n (x_n (zX Z) (nn n) 0 way) (nn n) 1 to) (nn n) 2 sp), xN (zX Z) (nn n) 0) from (if_neg (fun hh => hh (b_t h4))).trans (if_neg (fun hh => hh ⟨b_t h15, b_t h26, b_t h39⟩))]
          exact ⟨_, _, rfl, rfl, hFr.tr (FrM.fa ((FA.rf.u1).u1).u1), hZ2.fa ((FA.rf.u1).u1).u1 (((hZ2.x.setN hn9 (by decide)).setN hn9 (by decide)).setN hn9 (by decide))⟩
        · refine P_bipush (v := (-2)) rfl dX8_node_42 ?_
          refine P_ireturn rfl dX8_node_44 ?_
          rw [show z_node Z n way to sp = (Z, -2) from (if_neg (fun hh => hh (b_t h4))).trans (if_pos (fun hh => b_f h39 hh.2.2))]
          exact ⟨_, _, rfl, rfl, FrM.rf, hZ⟩
  · refine P_iconst (v := (-1)) rfl dX8_node_7 ?_
    refine P_ireturn rfl dX8_node_8 ?_
    rw [show z_node Z n way to sp = (Z, -1) from if_pos (b_f h4)]
    exact ⟨_, _, rfl, rfl, FrM.rf, hZ⟩
theorem s_mend (hM : WM L m) (hZ : RZ FI AI m Z) {b room turns : Int32} : Sp g 3 iX8_mend [vr m, vi b, vi room, vi turns] (L, FI, AI, AL, AR) (0, 0) (RZM L FI AI AL AR m (z_mend Z b room turns).1 (some (vi (z_mend Z b room turns).2))) := by
  refine Sp.of (ls := [some (vr m), some (vi b), some (vi room), some (vi turns), none, none]) (by decide +kernel) rfl rfl ?_
  refine P_aloadn (i := 0) rfl rfl dX8_mend_0 ?_
  refine P_iloadn (i := 1) rfl rfl dX8_mend_1 ?_
  refine kX8_91 rfl (s_isBridge hM hZ.x) (by decide) (by first | exact hM.k0 | exact hM.k1 | exact hM.k2 | exact hM.k3 | exact hM.k4 | exact hM.k5 | exact hM.k6 | exact hM.k7 | exact hM.k8 | exact hM.k9 | exact hM.k10 | exact hM.k11 | exact hM.k12 | exact hM.k13 | exact hM.k14 | exact hM.k15 | exact hM.k16 | exact hM.k17) rfl dX8_mend_2 (fun r2 s2 q2 => ?_)
  obtain ⟨rfl, rfl⟩ := q2
  refine P_ifne dX8_mend_5 (tgt := 10) rfl (fun h5 => ?_) (fun h5 => ?_)
  · have hn : ib b (xb (zX Z)) := q_ib_iff.mp (b_t h5)
    have hn9 := hn.nn
    have hb16 := hZ.x.b16
    refine P_iloadn (i := 2) rfl rfl dX8_mend_10 ?_
    refine P_bipush (v := 16) rfl dX8_mend_11 ?_
    refine P_sipush (v := 1500) rfl dX8_mend_13 ?_
    refine kX8_65 rfl s_X8_in (by decide) rfl dX8_mend_16 (fun r16 s16 q16 => ?_)
    obtain ⟨rfl, rfl⟩ := q16
    refine P_ifeq dX8_mend_19 (tgt := 32) rfl (fun h19 => ?_) (fun h19 => ?_)
    · refine P_bipush (v := (-2)) rfl dX8_mend_32 ?_
      refine P_ireturn rfl dX8_mend_34 ?_
      rw [show z_mend Z b room turns = (Z, -2) from (if_neg (fun hh => hh (b_t h5))).trans (if_pos (fun hh => b_f h19 hh.1))]
      exact ⟨_, _, rfl, rfl, FrM.rf, hZ⟩
    · refine P_iloadn (i := 3) rfl rfl dX8_mend_22 ?_
      refine P_iconst (v := 0) rfl dX8_mend_23 ?_
      refine P_bipush (v := 99) rfl dX8_mend_24 ?_
      refine kX8_65 rfl s_X8_in (by decide) rfl dX8_mend_26 (fun r26 s26 q26 => ?_)
      obtain ⟨rfl, rfl⟩ := q26
      refine P_ifne dX8_mend_29 (tgt := 35) rfl (fun h29 => ?_) (fun h29 => ?_)
      · refine P_aloadn (i := 0) rfl rfl dX8_mend_35 ?_
        refine kX8_84 rfl (s_keep hM hZ) (by decide) (by first | exact hM.k0 | exact hM.k1 | exact hM.k2 | exact hM.k3 | exact hM.k4 | exact hM.k5 | exact hM.k6 | exact hM.k7 | exact hM.k8 | exact hM.k9 | exact hM.k10 | exact hM.k11 | exact hM.k12 | exact hM.k13 | exact hM.k14 | exact hM.k15 | exact hM.k16 | exact hM.k17) rfl dX8_mend_36 (fun r36 s36 q36 => ?_)
        obtain ⟨F2, A2, rfl, rfl, hFr, hZ2⟩ := q36
        refine P_bipush (v := 102) rfl dX8_mend_39 ?_
        refine P_bipush (v := 9) rfl dX8_mend_41 ?_
        refine P_iloadn (i := 1) rfl rfl dX8_mend_43 ?_
        refine P_imul dX8_mend_44 ?_
        refine P_iadd dX8_mend_45 ?_
        refine P_is4 (Or.inr dX8_mend_46) rfl rfl ?_
        refine P_aloadn (i := 0) rfl rfl dX8_mend_48 ?_
        refine gX8_7 rfl (by first | exact hM.k0 | exact hM.k1 | exact hM.k2 | exact hM.k3 | exact hM.k4 | exact hM.k5 | exact hM.k6 | exact hM.k7 | exact hM.k8 | exact hM.k9 | exact hM.k10 | exact hM.k11 | exact hM.k12 | exact hM.k13 | exact hM.k14 | exact hM.k15 | exact hM.k16 | exact hM.k17) hM.r256 dX8_mend_49 ?_
        refine P_iload (i := 4) rfl dX8_mend_52 ?_
        refine P_iconst (v := 2) rfl dX8_mend_54 ?_
        refine P_iadd dX8_mend_55 ?_
        refine P_iaN (j := 102 + 9 * nn b + 2) (by first | exact hM.k0 | exact hM.k1 | exact hM.k2 | exact hM.k3 | exact hM.k4 | exact hM.k5 | exact hM.k6 | exact hM.k7 | exact hM.k8 | exact hM.k9 | exact hM.k10 | exact hM.k11 | exact hM.k12 | exact hM.k13 | exact hM.k14 | exact hM.k15 | exact hM.k16 | exact hM.k17) (n_idx hn) (by first | omega | (simp only [hM.l1, hM.l2, hM.l3, hM.l4, hM.l5, hM.l6, hM.l7, hM.l8, hM.l9, hM.l10, hM.l11, hM.l12, hM.l13, hM.l14, hM.l15, hM.l16, hM.l17]; omega)) (by first | omega | (simp only [hM.l1, hM.l2, hM.l3, hM.l4, hM.l5, hM.l6, hM.l7, hM.l8, hM.l9, hM.l10, hM.l11, hM.l12, hM.l13, hM.l14, hM.l15, hM.l16, hM.l17]; omega)) (hZ2.x.b hn9 (by decide)) dX8_mend_56 ?_
        refine P_is5 (Or.inr dX8_mend_57) rfl rfl ?_
        refine P_aloadn (i := 0) rfl rfl dX8_mend_59 ?_
        refine gX8_7 rfl (by first | exact hM.k0 | exact hM.k1 | exact hM.k2 | exact hM.k3 | exact hM.k4 | exact hM.k5 | exact hM.k6 | exact hM.k7 | exact hM.k8 | exact hM.k9 | exact hM.k10 | exact hM.k11 | exact hM.k12 | exact hM.k13 | exact hM.k14 | exact hM.k15 | exact hM.k16 | exact hM.k17) hM.r256 dX8_mend_60 ?_
        refine P_iload (i := 4) rfl dX8_mend_63 ?_
        refine P_iconst (v := 2) rfl dX8_mend_65 ?_
        refine P_iadd dX8_mend_66 ?_
        refine P_iloadn (i := 2) rfl rfl dX8_mend_67 ?_
        refine P_isN (j := 102 + 9 * nn b + 2) (by first | exact hM.k0 | exact hM.k1 | exact hM.k2 | exact hM.k3 | exact hM.k4 | exact hM.k5 | exact hM.k6 | exact hM.k7 | exact hM.k8 | exact hM.k9 | exact hM.k10 | exact hM.k11 | exact hM.k12 | exact hM.k13 | exact hM.k14 | exact hM.k15 | exact hM.k16 | exact hM.k17) (n_idx hn) (by first | omega | (simp only [hM.l1, hM.l2, hM.l3, hM.l4, hM.l5, hM.l6, hM.l7, hM.l8, hM.l9, hM.l10, hM.l11, hM.l12, hM.l13, hM.l14, hM.l15, hM.l16, hM.l17]; omega)) (by first | omega | (simp only [hM.l1, hM.l2, hM.l3, hM.l4, hM.l5, hM.l6, hM.l7, hM.l8, hM.l9, hM.l10, hM.l11, hM.l12, hM.l13, hM.l14, hM.l15, hM.l16, hM.l17]; omega)) dX8_mend_68 ?_
        refine P_aloadn (i := 0) rfl rfl dX8_mend_69 ?_
        refine gX8_7 rfl (by first | exact hM.k0 | exact hM.k1 | exact hM.k2 | exact hM.k3 | exact hM.k4 | exact hM.k5 | exact hM.k6 | exact hM.k7 | exact hM.k8 | exact hM.k9 | exact hM.k10 | exact hM.k11 | exact hM.k12 | exact hM.k13 | exact hM.k14 | exact hM.k15 | exact hM.k16 | exact hM.k17) hM.r256 dX8_mend_70 ?_
        refine P_iload (i := 4) rfl dX8_mend_73 ?_
        refine P_iconst (v := 5) rfl dX8_mend_75 ?_
        refine P_iadd dX8_mend_76 ?_
        refine P_iloadn (i := 3) rfl rfl dX8_mend_77 ?_
        refine P_isN (j := 102 + 9 * nn b + 5) (by first | exact hM.k0 | exact hM.k1 | exact hM.k2 | exact hM.k3 | exact hM.k4 | exact hM.k5 | exact hM.k6 | exact hM.k7 | exact hM.k8 | exact hM.k9 | exact hM.k10 | exact hM.k11 | exact hM.k12 | exact hM.k13 | exact hM.k14 | exact hM.k15 | exact hM.k16 | exact hM.k17) (n_idx hn) (by first | omega | (simp only [hM.l1, hM.l2, hM.l3, hM.l4, hM.l5, hM.l6, hM.l7, hM.l8, hM.l9, hM.l10, hM.l11, hM.l12, hM.l13, hM.l14, hM.l15, hM.l16, hM.l17]; omega)) (by first | omega | (simp only [hM.l1, hM.l2, hM.l3, hM.l4, hM.l5, hM.l6, hM.l7, hM.l8, hM.l9, hM.l10, hM.l11, hM.l12, hM.l13, hM.l14, hM.l15, hM.l16, hM.l17]; omega)) dX8_mend_78 ?_
        refine P_aloadn (i := 0) rfl rfl dX8_mend_79 ?_
        refine gX8_7 rfl (by first | exact hM.k0 | exact hM.k1 | exact hM.k2 | exact hM.k3 | exact hM.k4 | exact hM.k5 | exact hM.k6 | exact hM.k7 | exact hM.k8 | exact hM.k9 | exact hM.k10 | exact hM.k11 | exact hM.k12 | exact hM.k13 | exact hM.k14 | exact hM.k15 | exact hM.k16 | exact hM.k17) hM.r256 dX8_mend_80 ?_
        refine P_iload (i := 4) rfl dX8_mend_83 ?_
        refine P_bipush (v := 6) rfl dX8_mend_85 ?_
        refine P_iadd dX8_mend_87 ?_
        refine P_iconst (v := 0) rfl dX8_mend_88 ?_
        refine P_isN (j := 102 + 9 * nn b + 6) (by first | exact hM.k0 | exact hM.k1 | exact hM.k2 | exact hM.k3 | exact hM.k4 | exact hM.k5 | exact hM.k6 | exact hM.k7 | exact hM.k8 | exact hM.k9 | exact hM.k10 | exact hM.k11 | exact hM.k12 | exact hM.k13 | exact hM.k14 | exact hM.k15 | exact hM.k16 | exact hM.k17) (n_idx hn) (by first | omega | (simp only [hM.l1, hM.l2, hM.l3, hM.l4, hM.l5, hM.l6, hM.l7, hM.l8, hM.l9, hM.l10, hM.l11, hM.l12, hM.l13, hM.l14, hM.l15, hM.l16, hM.l17]; omega)) (by first | omega | (simp only [hM.l1, hM.l2, hM.l3, hM.l4, hM.l5, hM.l6, hM.l7, hM.l8, hM.l9, hM.l10, hM.l11, hM.l12, hM.l13, hM.l14, hM.l15, hM.l16, hM.l17]; omega)) dX8_mend_89 ?_
        refine P_iload (i := 5) rfl dX8_mend_90 ?_
        refine P_ireturn rfl dX8_mend_92 ?_
        rw [show z_mend Z b room turns = (z_x (z_keep Z) (x_b (x_b (x_b (zX Z) (nn b) 2 room) (nn b) 5 turns) (nn b) 6 0), xB (zX Z) (nn b) 2) from (if_neg (fun hh => hh (b_t h5))).trans (if_neg (fun hh => hh ⟨b_t h19, b_t h29⟩))]
        exact ⟨_, _, rfl, rfl, hFr.tr (FrM.fa ((FA.rf.u1).u1).u1), hZ2.fa ((FA.rf.u1).u1).u1 (((hZ2.x.setB hn9 (by decide)).setB hn9 (by decide)).setB hn9 (by decide))⟩
      · refine P_bipush (v := (-2)) rfl dX8_mend_32 ?_
        refine P_ireturn rfl dX8_mend_34 ?_
        rw [show z_mend Z b room turns = (Z, -2) from (if_neg (fun hh => hh (b_t h5))).trans (if_pos (fun hh => b_f h29 hh.2))]
        exact ⟨_, _, rfl, rfl, FrM.rf, hZ⟩
  · refine P_iconst (v := (-1)) rfl dX8_mend_8 ?_
    refine P_ireturn rfl dX8_mend_9 ?_
    rw [show z_mend Z b room turns = (Z, -1) from if_pos (b_f h5)]
    exact ⟨_, _, rfl, rfl, FrM.rf, hZ⟩
theorem s_route (hM : WM L m) (hZ : RZ FI AI m Z) {n to b : Int32} : Sp g 3 iX8_route [vr m, vi n, vi to, vi b] (L, FI, AI, AL, AR) (0, 0) (RZM L FI AI AL AR m (z_route Z n to b).1 (some (vi (z_route Z n to b).2))) := by
  refine Sp.of (ls := [some (vr m), some (vi n), some (vi to), some (vi b), none, none]) (by decide +kernel) rfl rfl ?_
  refine P_iloadn (i := 1) rfl rfl dX8_route_0 ?_
  refine P_iloadn (i := 2) rfl rfl dX8_route_1 ?_
  refine kX8_87 rfl s_areNodes (by decide) rfl dX8_route_2 (fun r2 s2 q2 => ?_)
  obtain ⟨rfl, rfl⟩ := q2
  refine P_ifeq dX8_route_5 (tgt := 22) rfl (fun h5 => ?_) (fun h5 => ?_)
  · refine P_iconst (v := (-1)) rfl dX8_route_22 ?_
    refine P_ireturn rfl dX8_route_23 ?_
    rw [show z_route Z n to b = (Z, -1) from if_pos (Or.inl (b_f h5))]
    exact ⟨_, _, rfl, rfl, FrM.rf, hZ⟩
  · have hn : ib n 8 := q_ib_iff.mp (b_t h5).1
    have hto : ib to 8 := q_ib_iff.mp (b_t h5).2.1
    have hn9 := hn.nn
    have hto9 := hto.nn
    refine P_iloadn (i := 3) rfl rfl dX8_route_8 ?_
    refine P_bipush (v := (-6)) rfl dX8_route_9 ?_
    refine P_icmpeq dX8_route_11 (tgt := 24) rfl (fun h11 => ?_) (fun h11 => ?_)
    · refine P_iloadn (i := 3) rfl rfl dX8_route_24 ?_
      refine P_bipush (v := (-6)) rfl dX8_route_25 ?_
      refine P_icmpeq dX8_route_27 (tgt := 43) rfl (fun h27 => ?_) (fun h27 => ?_)
      · refine P_aloadn (i := 0) rfl rfl dX8_route_43 ?_
        refine kX8_84 rfl (s_keep hM hZ) (by decide) (by first | exact hM.k0 | exact hM.k1 | exact hM.k2 | exact hM.k3 | exact hM.k4 | exact hM.k5 | exact hM.k6 | exact hM.k7 | exact hM.k8 | exact hM.k9 | exact hM.k10 | exact hM.k11 | exact hM.k12 | exact hM.k13 | exact hM.k14 | exact hM.k15 | exact hM.k16 | exact hM.k17) rfl dX8_route_44 (fun r44 s44 q44 => ?_)
        obtain ⟨F2, A2, rfl, rfl, hFr, hZ2⟩ := q44
        refine P_bipush (v := 14) rfl dX8_route_47 ?_
        refine P_bipush (v := 11) rfl dX8_route_49 ?_
        refine P_iloadn (i := 1) rfl rfl dX8_route_51 ?_
        refine P_imul dX8_route_52 ?_
        refine P_iadd dX8_route_53 ?_
        refine P_iconst (v := 3) rfl dX8_route_54 ?_
        refine P_iadd dX8_route_55 ?_
        refine P_iloadn (i := 2) rfl rfl dX8_route_56 ?_
        refine P_iadd dX8_route_57 ?_
        refine P_is4 (Or.inr dX8_route_58) rfl rfl ?_
        refine P_aloadn (i := 0) rfl rfl dX8_route_60 ?_
        refine gX8_7 rfl (by first | exact hM.k0 | exact hM.k1 | exact hM.k2 | exact hM.k3 | exact hM.k4 | exact hM.k5 | exact hM.k6 | exact hM.k7 | exact hM.k8 | exact hM.k9 | exact hM.k10 | exact hM.k11 | exact hM.k12 | exact hM.k13 | exact hM.k14 | exact hM.k15 | exact hM.k16 | exact hM.k17) hM.r256 dX8_route_61 ?_
        refine P_iload (i := 4) rfl dX8_route_64 ?_
        refine P_iaN (j := 14 + 11 * nn n + (3 + nn to)) (by first | exact hM.k0 | exact hM.k1 | exact hM.k2 | exact hM.k3 | exact hM.k4 | exact hM.k5 | exact hM.k6 | exact hM.k7 | exact hM.k8 | exact hM.k9 | exact hM.k10 | exact hM.k11 | exact hM.k12 | exact hM.k13 | exact hM.k14 | exact hM.k15 | exact hM.k16 | exact hM.k17) (n_idr hn hto) (by first | omega | (simp only [hM.l1, hM.l2, hM.l3, hM.l4, hM.l5, hM.l6, hM.l7, hM.l8, hM.l9, hM.l10, hM.l11, hM.l12, hM.l13, hM.l14, hM.l15, hM.l16, hM.l17]; omega)) (by first | omega | (simp only [hM.l1, hM.l2, hM.l3, hM.l4, hM.l5, hM.l6, hM.l7, hM.l8, hM.l9, hM.l10, hM.l11, hM.l12, hM.l13, hM.l14, hM.l15, hM.l16, hM.l17]; omega)) (hZ2.x.n hn9 (by omega)) dX8_route_66 ?_
        refine P_is5 (Or.inr dX8_route_67) rfl rfl ?_
        refine P_aloadn (i := 0) rfl rfl dX8_route_69 ?_
        refine gX8_7 rfl (by first | exact hM.k0 | exact hM.k1 | exact hM.k2 | exact hM.k3 | exact hM.k4 | exact hM.k5 | exact hM.k6 | exact hM.k7 | exact hM.k8 | exact hM.k9 | exact hM.k10 | exact hM.k11 | exact hM.k12 | exact hM.k13 | exact hM.k14 | exact hM.k15 | exact hM.k16 | exact hM.k17) hM.r256 dX8_route_70 ?_
        refine P_iload (i := 4) rfl dX8_route_73 ?_
        refine P_iloadn (i := 3) rfl rfl dX8_route_75 ?_
        refine P_isN (j := 14 + 11 * nn n + (3 + nn to)) (by first | exact hM.k0 | exact hM.k1 | exact hM.k2 | exact hM.k3 | exact hM.k4 | exact hM.k5 | exact hM.k6 | exact hM.k7 | exact hM.k8 | exact hM.k9 | exact hM.k10 | exact hM.k11 | exact hM.k12 | exact hM.k13 | exact hM.k14 | exact hM.k15 | exact hM.k16 | exact hM.k17) (n_idr hn hto) (by first | omega | (simp only [hM.l1, hM.l2, hM.l3, hM.l4, hM.l5, hM.l6, hM.l7, hM.l8, hM.l9, hM.l10, hM.l11, hM.l12, hM.l13, hM.l14, hM.l15, hM.l16, hM.l17]; omega)) (by first | omega | (simp only [hM.l1, hM.l2, hM.l3, hM.l4, hM.l5, hM.l6, hM.l7, hM.l8, hM.l9, hM.l10, hM.l11, hM.l12, hM.l13, hM.l14, hM.l15, hM.l16, hM.l17]; omega)) dX8_route_76 ?_
        refine P_iload (i := 5) rfl dX8_route_77 ?_
        refine P_ireturn rfl dX8_route_79 ?_
        rw [show z_route Z n to b = (z_x (z_keep Z) (x_n (zX Z) (nn n) (3 + nn to) b), xN (zX Z) (nn n) (3 + nn to)) from (if_neg (fun hh => hh.elim (fun h9 => h9 (b_t h5)) (fun h9 => h9.1 h11))).trans (if_neg (fun hh => hh.1 h27))]
        exact ⟨_, _, rfl, rfl, hFr.tr (FrM.fa FA.rf.u1), hZ2.fa FA.rf.u1 (hZ2.x.setN hn9 (by omega))⟩
      · exact absurd h11 h27
    · refine P_aloadn (i := 0) rfl rfl dX8_route_14 ?_
      refine P_iloadn (i := 3) rfl rfl dX8_route_15 ?_
      refine kX8_91 rfl (s_isBridge hM hZ.x) (by decide) (by first | exact hM.k0 | exact hM.k1 | exact hM.k2 | exact hM.k3 | exact hM.k4 | exact hM.k5 | exact hM.k6 | exact hM.k7 | exact hM.k8 | exact hM.k9 | exact hM.k10 | exact hM.k11 | exact hM.k12 | exact hM.k13 | exact hM.k14 | exact hM.k15 | exact hM.k16 | exact hM.k17) rfl dX8_route_16 (fun r16 s16 q16 => ?_)
      obtain ⟨rfl, rfl⟩ := q16
      refine P_ifne dX8_route_19 (tgt := 24) rfl (fun h19 => ?_) (fun h19 => ?_)
      · have hb : ib b (xb (zX Z)) := q_ib_iff.mp (b_t h19)
        refine P_iloadn (i := 3) rfl rfl dX8_route_24 ?_
        refine P_bipush (v := (-6)) rfl dX8_route_25 ?_
        refine P_icmpeq dX8_route_27 (tgt := 43) rfl (fun h27 => ?_) (fun h27 => ?_)
        · exact absurd h27 h11
        · refine P_aloadn (i := 0) rfl rfl dX8_route_30 ?_
          refine P_iloadn (i := 3) rfl rfl dX8_route_31 ?_
          refine P_iconst (v := 0) rfl dX8_route_32 ?_
          refine kX8_94 rfl (s_ofB hM hZ.x (k := 0) hb rfl (by decide)) (by decide) (by first | exact hM.k0 | exact hM.k1 | exact hM.k2 | exact hM.k3 | exact hM.k4 | exact hM.k5 | exact hM.k6 | exact hM.k7 | exact hM.k8 | exact hM.k9 | exact hM.k10 | exact hM.k11 | exact hM.k12 | exact hM.k13 | exact hM.k14 | exact hM.k15 | exact hM.k16 | exact hM.k17) rfl dX8_route_33 (fun r33 s33 q33 => ?_)
          obtain ⟨rfl, rfl⟩ := q33
          refine P_iloadn (i := 1) rfl rfl dX8_route_36 ?_
          refine P_icmpeq dX8_route_37 (tgt := 43) rfl (fun h37 => ?_) (fun h37 => ?_)
          · refine P_aloadn (i := 0) rfl rfl dX8_route_43 ?_
            refine kX8_84 rfl (s_keep hM hZ) (by decide) (by first | exact hM.k0 | exact hM.k1 | exact hM.k2 | exact hM.k3 | exact hM.k4 | exact hM.k5 | exact hM.k6 | exact hM.k7 | exact hM.k8 | exact hM.k9 | exact hM.k10 | exact hM.k11 | exact hM.k12 | exact hM.k13 | exact hM.k14 | exact hM.k15 | exact hM.k16 | exact hM.k17) rfl dX8_route_44 (fun r44 s44 q44 => ?_)
            obtain ⟨F2, A2, rfl, rfl, hFr, hZ2⟩ := q44
            refine P_bipush (v := 14) rfl dX8_route_47 ?_
            refine P_bipush (v := 11) rfl dX8_route_49 ?_
            refine P_iloadn (i := 1) rfl rfl dX8_route_51 ?_
            refine P_imul dX8_route_52 ?_
            refine P_iadd dX8_route_53 ?_
            refine P_iconst (v := 3) rfl dX8_route_54 ?_
            refine P_iadd dX8_route_55 ?_
            refine P_iloadn (i := 2) rfl rfl dX8_route_56 ?_
            refine P_iadd dX8_route_57 ?_
            refine P_is4 (Or.inr dX8_route_58) rfl rfl ?_
            refine P_aloadn (i := 0) rfl rfl dX8_route_60 ?_
            refine gX8_7 rfl (by first | exact hM.k0 | exact hM.k1 | exact hM.k2 | exact hM.k3 | exact hM.k4 | exact hM.k5 | exact hM.k6 | exact hM.k7 | exact hM.k8 | exact hM.k9 | exact hM.k10 | exact hM.k11 | exact hM.k12 | exact hM.k13 | exact hM.k14 | exact hM.k15 | exact hM.k16 | exact hM.k17) hM.r256 dX8_route_61 ?_
            refine P_iload (i := 4) rfl dX8_route_64 ?_
            refine P_iaN (j := 14 + 11 * nn n + (3 + nn to)) (by first | exact hM.k0 | exact hM.k1 | exact hM.k2 | exact hM.k3 | exact hM.k4 | exact hM.k5 | exact hM.k6 | exact hM.k7 | exact hM.k8 | exact hM.k9 | exact hM.k10 | exact hM.k11 | exact hM.k12 | exact hM.k13 | exact hM.k14 | exact hM.k15 | exact hM.k16 | exact hM.k17) (n_idr hn hto) (by first | omega | (simp only [hM.l1, hM.l2, hM.l3, hM.l4, hM.l5, hM.l6, hM.l7, hM.l8, hM.l9, hM.l10, hM.l11, hM.l12, hM.l13, hM.l14, hM.l15, hM.l16, hM.l17]; omega)) (by first | omega | (simp only [hM.l1, hM.l2, hM.l3, hM.l4, hM.l5, hM.l6, hM.l7, hM.l8, hM.l9, hM.l10, hM.l11, hM.l12, hM.l13, hM.l14, hM.l15, hM.l16, hM.l17]; omega)) (hZ2.x.n hn9 (by omega)) dX8_route_66 ?_
            refine P_is5 (Or.inr dX8_route_67) rfl rfl ?_
            refine P_aloadn (i := 0) rfl rfl dX8_route_69 ?_
            refine gX8_7 rfl (by first | exact hM.k0 | exact hM.k1 | exact hM.k2 | exact hM.k3 | exact hM.k4 | exact hM.k5 | exact hM.k6 | exact hM.k7 | exact hM.k8 | exact hM.k9 | exact hM.k10 | exact hM.k11 | exact hM.k12 | exact hM.k13 | exact hM.k14 | exact hM.k15 | exact hM.k16 | exact hM.k17) hM.r256 dX8_route_70 ?_
            refine P_iload (i := 4) rfl dX8_route_73 ?_
            refine P_iloadn (i := 3) rfl rfl dX8_route_75 ?_
            refine P_isN (j := 14 + 11 * nn n + (3 + nn to)) (by first | exact hM.k0 | exact hM.k1 | exact hM.k2 | exact hM.k3 | exact hM.k4 | exact hM.k5 | exact hM.k6 | exact hM.k7 | exact hM.k8 | exact hM.k9 | exact hM.k10 | exact hM.k11 | exact hM.k12 | exact hM.k13 | exact hM.k14 | exact hM.k15 | exact hM.k16 | exact hM.k17) (n_idr hn hto) (by first | omega | (simp only [hM.l1, hM.l2, hM.l3, hM.l4, hM.l5, hM.l6, hM.l7, hM.l8, hM.l9, hM.l10, hM.l11, hM.l12, hM.l13, hM.l14, hM.l15, hM.l16, hM.l17]; omega)) (by first | omega | (simp only [hM.l1, hM.l2, hM.l3, hM.l4, hM.l5, hM.l6, hM.l7, hM.l8, hM.l9, hM.l10, hM.l11, hM.l12, hM.l13, hM.l14, hM.l15, hM.l16, hM.l17]; omega)) dX8_route_76 ?_
            refine P_iload (i := 5) rfl dX8_route_77 ?_
            refine P_ireturn rfl dX8_route_79 ?_
            rw [show z_route Z n to b = (z_x (z_keep Z) (x_n (zX Z) (nn n) (3 + nn to) b), xN (zX Z) (nn n) (3 + nn to)) from (if_neg (fun hh => hh.elim (fun h9 => h9 (b_t h5)) (fun h9 => h9.2 (b_t h19)))).trans (if_neg (fun hh => hh.2 h37))]
            exact ⟨_, _, rfl, rfl, hFr.tr (FrM.fa FA.rf.u1), hZ2.fa FA.rf.u1 (hZ2.x.setN hn9 (by omega))⟩
          · refine P_bipush (v := (-5)) rfl dX8_route_40 ?_
            refine P_ireturn rfl dX8_route_42 ?_
            rw [show z_route Z n to b = (Z, -5) from (if_neg (fun hh => hh.elim (fun h9 => h9 (b_t h5)) (fun h9 => h9.2 (b_t h19)))).trans (if_pos ⟨h27, h37⟩)]
            exact ⟨_, _, rfl, rfl, FrM.rf, hZ⟩
      · refine P_iconst (v := (-1)) rfl dX8_route_22 ?_
        refine P_ireturn rfl dX8_route_23 ?_
        rw [show z_route Z n to b = (Z, -1) from if_pos (Or.inr ⟨h11, b_f h19⟩)]
        exact ⟨_, _, rfl, rfl, FrM.rf, hZ⟩
theorem s_bridge (hM : WM L m) (hZ : RZ FI AI m Z) {from_ to room delay pace : Int32} : Sp g 3 iX8_bridge [vr m, vi from_, vi to, vi room, vi delay, vi pace] (L, FI, AI, AL, AR) (0, 0) (RZM L FI AI AL AR m (z_bridge Z from_ to room delay pace).1 (some (vi (z_bridge Z from_ to room delay pace).2))) := by
  refine Sp.of (ls := [some (vr m), some (vi from_), some (vi to), some (vi room), some (vi delay), some (vi pace), none]) (by decide +kernel) rfl rfl ?_
  have hb16 := hZ.x.b16
  refine P_iloadn (i := 1) rfl rfl dX8_bridge_0 ?_
  refine P_iloadn (i := 2) rfl rfl dX8_bridge_1 ?_
  refine kX8_87 rfl s_areNodes (by decide) rfl dX8_bridge_2 (fun r2 s2 q2 => ?_)
  obtain ⟨rfl, rfl⟩ := q2
  refine P_ifne dX8_bridge_5 (tgt := 10) rfl (fun h5 => ?_) (fun h5 => ?_)
  · refine P_iloadn (i := 3) rfl rfl dX8_bridge_10 ?_
    refine P_bipush (v := 16) rfl dX8_bridge_11 ?_
    refine P_sipush (v := 1500) rfl dX8_bridge_13 ?_
    refine kX8_65 rfl s_X8_in (by decide) rfl dX8_bridge_16 (fun r16 s16 q16 => ?_)
    obtain ⟨rfl, rfl⟩ := q16
    refine P_ifeq dX8_bridge_19 (tgt := 45) rfl (fun h19 => ?_) (fun h19 => ?_)
    · refine P_bipush (v := (-2)) rfl dX8_bridge_45 ?_
      refine P_ireturn rfl dX8_bridge_47 ?_
      rw [show z_bridge Z from_ to room delay pace = (Z, -2) from (if_neg (fun hh => hh (b_t h5))).trans (if_pos (fun hh => b_f h19 hh.1))]
      exact ⟨_, _, rfl, rfl, FrM.rf, hZ⟩
    · refine P_iload (i := 4) rfl dX8_bridge_22 ?_
      refine P_iconst (v := 1) rfl dX8_bridge_24 ?_
      refine P_bipush (v := 50) rfl dX8_bridge_25 ?_
      refine kX8_65 rfl s_X8_in (by decide) rfl dX8_bridge_27 (fun r27 s27 q27 => ?_)
      obtain ⟨rfl, rfl⟩ := q27
      refine P_ifeq dX8_bridge_30 (tgt := 45) rfl (fun h30 => ?_) (fun h30 => ?_)
      · refine P_bipush (v := (-2)) rfl dX8_bridge_45 ?_
        refine P_ireturn rfl dX8_bridge_47 ?_
        rw [show z_bridge Z from_ to room delay pace = (Z, -2) from (if_neg (fun hh => hh (b_t h5))).trans (if_pos (fun hh => b_f h30 hh.2.1))]
        exact ⟨_, _, rfl, rfl, FrM.rf, hZ⟩
      · refine P_iload (i := 5) rfl dX8_bridge_33 ?_
        refine P_iconst (v := 1) rfl dX8_bridge_35 ?_
        refine P_sipush (v := 1000) rfl dX8_bridge_36 ?_
        refine kX8_65 rfl s_X8_in (by decide) rfl dX8_bridge_39 (fun r39 s39 q39 => ?_)
        obtain ⟨rfl, rfl⟩ := q39
        refine P_ifne dX8_bridge_42 (tgt := 48) rfl (fun h42 => ?_) (fun h42 => ?_)
        · refine P_aloadn (i := 0) rfl rfl dX8_bridge_48 ?_
          refine gX8_7 rfl (by first | exact hM.k0 | exact hM.k1 | exact hM.k2 | exact hM.k3 | exact hM.k4 | exact hM.k5 | exact hM.k6 | exact hM.k7 | exact hM.k8 | exact hM.k9 | exact hM.k10 | exact hM.k11 | exact hM.k12 | exact hM.k13 | exact hM.k14 | exact hM.k15 | exact hM.k16 | exact hM.k17) hM.r256 dX8_bridge_49 ?_
          refine P_iconst (v := 1) rfl dX8_bridge_52 ?_
          refine P_iaN (j := 1) (by first | exact hM.k0 | exact hM.k1 | exact hM.k2 | exact hM.k3 | exact hM.k4 | exact hM.k5 | exact hM.k6 | exact hM.k7 | exact hM.k8 | exact hM.k9 | exact hM.k10 | exact hM.k11 | exact hM.k12 | exact hM.k13 | exact hM.k14 | exact hM.k15 | exact hM.k16 | exact hM.k17) rfl (by first | omega | (simp only [hM.l1, hM.l2, hM.l3, hM.l4, hM.l5, hM.l6, hM.l7, hM.l8, hM.l9, hM.l10, hM.l11, hM.l12, hM.l13, hM.l14, hM.l15, hM.l16, hM.l17]; omega)) (by first | omega | (simp only [hM.l1, hM.l2, hM.l3, hM.l4, hM.l5, hM.l6, hM.l7, hM.l8, hM.l9, hM.l10, hM.l11, hM.l12, hM.l13, hM.l14, hM.l15, hM.l16, hM.l17]; omega)) hZ.x.nb dX8_bridge_53 ?_
          refine P_bipush (v := 16) rfl dX8_bridge_54 ?_
          refine P_icmpne dX8_bridge_56 (tgt := 62) rfl (fun h56 => ?_) (fun h56 => ?_)
          · have hnb : ¬ xb (zX Z) = 16 := fun hh => h56 (by rw [hh]; rfl)
            refine P_aloadn (i := 0) rfl rfl dX8_bridge_62 ?_
            refine kX8_84 rfl (s_keep hM hZ) (by decide) (by first | exact hM.k0 | exact hM.k1 | exact hM.k2 | exact hM.k3 | exact hM.k4 | exact hM.k5 | exact hM.k6 | exact hM.k7 | exact hM.k8 | exact hM.k9 | exact hM.k10 | exact hM.k11 | exact hM.k12 | exact hM.k13 | exact hM.k14 | exact hM.k15 | exact hM.k16 | exact hM.k17) rfl dX8_bridge_63 (fun r63 s63 q63 => ?_)
            obtain ⟨F2, A2, rfl, rfl, hFr, hZ2⟩ := q63
            refine P_bipush (v := 102) rfl dX8_bridge_66 ?_
            refine P_bipush (v := 9) rfl dX8_bridge_68 ?_
            refine P_aloadn (i := 0) rfl rfl dX8_bridge_70 ?_
            refine gX8_7 rfl (by first | exact hM.k0 | exact hM.k1 | exact hM.k2 | exact hM.k3 | exact hM.k4 | exact hM.k5 | exact hM.k6 | exact hM.k7 | exact hM.k8 | exact hM.k9 | exact hM.k10 | exact hM.k11 | exact hM.k12 | exact hM.k13 | exact hM.k14 | exact hM.k15 | exact hM.k16 | exact hM.k17) hM.r256 dX8_bridge_71 ?_
            refine P_iconst (v := 1) rfl dX8_bridge_74 ?_
            refine P_iaN (j := 1) (by first | exact hM.k0 | exact hM.k1 | exact hM.k2 | exact hM.k3 | exact hM.k4 | exact hM.k5 | exact hM.k6 | exact hM.k7 | exact hM.k8 | exact hM.k9 | exact hM.k10 | exact hM.k11 | exact hM.k12 | exact hM.k13 | exact hM.k14 | exact hM.k15 | exact hM.k16 | exact hM.k17) rfl (by first | omega | (simp only [hM.l1, hM.l2, hM.l3, hM.l4, hM.l5, hM.l6, hM.l7, hM.l8, hM.l9, hM.l10, hM.l11, hM.l12, hM.l13, hM.l14, hM.l15, hM.l16, hM.l17]; omega)) (by first | omega | (simp only [hM.l1, hM.l2, hM.l3, hM.l4, hM.l5, hM.l6, hM.l7, hM.l8, hM.l9, hM.l10, hM.l11, hM.l12, hM.l13, hM.l14, hM.l15, hM.l16, hM.l17]; omega)) hZ2.x.nb dX8_bridge_75 ?_
            refine P_imul dX8_bridge_76 ?_
            refine P_iadd dX8_bridge_77 ?_
            refine P_is6 (Or.inr dX8_bridge_78) rfl rfl ?_
            refine P_aloadn (i := 0) rfl rfl dX8_bridge_80 ?_
            refine gX8_7 rfl (by first | exact hM.k0 | exact hM.k1 | exact hM.k2 | exact hM.k3 | exact hM.k4 | exact hM.k5 | exact hM.k6 | exact hM.k7 | exact hM.k8 | exact hM.k9 | exact hM.k10 | exact hM.k11 | exact hM.k12 | exact hM.k13 | exact hM.k14 | exact hM.k15 | exact hM.k16 | exact hM.k17) hM.r256 dX8_bridge_81 ?_
            refine P_iload (i := 6) rfl dX8_bridge_84 ?_
            refine P_iconst (v := 0) rfl dX8_bridge_86 ?_
            refine P_iadd dX8_bridge_87 ?_
            refine P_iloadn (i := 1) rfl rfl dX8_bridge_88 ?_
            refine P_isN (j := 102 + 9 * xb (zX Z) + 0) (by first | exact hM.k0 | exact hM.k1 | exact hM.k2 | exact hM.k3 | exact hM.k4 | exact hM.k5 | exact hM.k6 | exact hM.k7 | exact hM.k8 | exact hM.k9 | exact hM.k10 | exact hM.k11 | exact hM.k12 | exact hM.k13 | exact hM.k14 | exact hM.k15 | exact hM.k16 | exact hM.k17) (by rw [show (102 : Int32) + 9 * Int32.ofNat (xb (z_keep Z).1) + 0 = Int32.ofNat (102 + 9 * xb (zX Z) + 0) from by rw [Int32.ofNat_add, Int32.ofNat_add, Int32.ofNat_mul]; rfl]) (by first | omega | (simp only [hM.l1, hM.l2, hM.l3, hM.l4, hM.l5, hM.l6, hM.l7, hM.l8, hM.l9, hM.l10, hM.l11, hM.l12, hM.l13, hM.l14, hM.l15, hM.l16, hM.l17]; omega)) (by first | omega | (simp only [hM.l1, hM.l2, hM.l3, hM.l4, hM.l5, hM.l6, hM.l7, hM.l8, hM.l9, hM.l10, hM.l11, hM.l12, hM.l13, hM.l14, hM.l15, hM.l16, hM.l17]; omega)) dX8_bridge_89 ?_
            refine P_aloadn (i := 0) rfl rfl dX8_bridge_90 ?_
            refine gX8_7 rfl (by first | exact hM.k0 | exact hM.k1 | exact hM.k2 | exact hM.k3 | exact hM.k4 | exact hM.k5 | exact hM.k6 | exact hM.k7 | exact hM.k8 | exact hM.k9 | exact hM.k10 | exact hM.k11 | exact hM.k12 | exact hM.k13 | exact hM.k14 | exact hM.k15 | exact hM.k16 | exact hM.k17) hM.r256 dX8_bridge_91 ?_
            refine P_iload (i := 6) rfl dX8_bridge_94 ?_
            refine P_iconst (v := 1) rfl dX8_bridge_96 ?_
            refine P_iadd dX8_bridge_97 ?_
            refine P_iloadn (i := 2) rfl rfl dX8_bridge_98 ?_
            refine P_isN (j := 102 + 9 * xb (zX Z) + 1) (by first | exact hM.k0 | exact hM.k1 | exact hM.k2 | exact hM.k3 | exact hM.k4 | exact hM.k5 | exact hM.k6 | exact hM.k7 | exact hM.k8 | exact hM.k9 | exact hM.k10 | exact hM.k11 | exact hM.k12 | exact hM.k13 | exact hM.k14 | exact hM.k15 | exact hM.k16 | exact hM.k17) (by rw [show (102 : Int32) + 9 * Int32.ofNat (xb (z_keep Z).1) + 1 = Int32.ofNat (102 + 9 * xb (zX Z) + 1) from by rw [Int32.ofNat_add, Int32.ofNat_add, Int32.ofNat_mul]; rfl]) (by first | omega | (simp only [hM.l1, hM.l2, hM.l3, hM.l4, hM.l5, hM.l6, hM.l7, hM.l8, hM.l9, hM.l10, hM.l11, hM.l12, hM.l13, hM.l14, hM.l15, hM.l16, hM.l17]; omega)) (by first | omega | (simp only [hM.l1, hM.l2, hM.l3, hM.l4, hM.l5, hM.l6, hM.l7, hM.l8, hM.l9, hM.l10, hM.l11, hM.l12, hM.l13, hM.l14, hM.l15, hM.l16, hM.l17]; omega)) dX8_bridge_99 ?_
            refine P_aloadn (i := 0) rfl rfl dX8_bridge_100 ?_
            refine gX8_7 rfl (by first | exact hM.k0 | exact hM.k1 | exact hM.k2 | exact hM.k3 | exact hM.k4 | exact hM.k5 | exact hM.k6 | exact hM.k7 | exact hM.k8 | exact hM.k9 | exact hM.k10 | exact hM.k11 | exact hM.k12 | exact hM.k13 | exact hM.k14 | exact hM.k15 | exact hM.k16 | exact hM.k17) hM.r256 dX8_bridge_101 ?_
            refine P_iload (i := 6) rfl dX8_bridge_104 ?_
            refine P_iconst (v := 2) rfl dX8_bridge_106 ?_
            refine P_iadd dX8_bridge_107 ?_
            refine P_iloadn (i := 3) rfl rfl dX8_bridge_108 ?_
            refine P_isN (j := 102 + 9 * xb (zX Z) + 2) (by first | exact hM.k0 | exact hM.k1 | exact hM.k2 | exact hM.k3 | exact hM.k4 | exact hM.k5 | exact hM.k6 | exact hM.k7 | exact hM.k8 | exact hM.k9 | exact hM.k10 | exact hM.k11 | exact hM.k12 | exact hM.k13 | exact hM.k14 | exact hM.k15 | exact hM.k16 | exact hM.k17) (by rw [show (102 : Int32) + 9 * Int32.ofNat (xb (z_keep Z).1) + 2 = Int32.ofNat (102 + 9 * xb (zX Z) + 2) from by rw [Int32.ofNat_add, Int32.ofNat_add, Int32.ofNat_mul]; rfl]) (by first | omega | (simp only [hM.l1, hM.l2, hM.l3, hM.l4, hM.l5, hM.l6, hM.l7, hM.l8, hM.l9, hM.l10, hM.l11, hM.l12, hM.l13, hM.l14, hM.l15, hM.l16, hM.l17]; omega)) (by first | omega | (simp only [hM.l1, hM.l2, hM.l3, hM.l4, hM.l5, hM.l6, hM.l7, hM.l8, hM.l9, hM.l10, hM.l11, hM.l12, hM.l13, hM.l14, hM.l15, hM.l16, hM.l17]; omega)) dX8_bridge_109 ?_
            refine P_aloadn (i := 0) rfl rfl dX8_bridge_110 ?_
            refine gX8_7 rfl (by first | exact hM.k0 | exact hM.k1 | exact hM.k2 | exact hM.k3 | exact hM.k4 | exact hM.k5 | exact hM.k6 | exact hM.k7 | exact hM.k8 | exact hM.k9 | exact hM.k10 | exact hM.k11 | exact hM.k12 | exact hM.k13 | exact hM.k14 | exact hM.k15 | exact hM.k16 | exact hM.k17) hM.r256 dX8_bridge_111 ?_
            refine P_iload (i := 6) rfl dX8_bridge_114 ?_
            refine P_iconst (v := 3) rfl dX8_bridge_116 ?_
            refine P_iadd dX8_bridge_117 ?_
            refine P_iload (i := 4) rfl dX8_bridge_118 ?_
            refine P_isN (j := 102 + 9 * xb (zX Z) + 3) (by first | exact hM.k0 | exact hM.k1 | exact hM.k2 | exact hM.k3 | exact hM.k4 | exact hM.k5 | exact hM.k6 | exact hM.k7 | exact hM.k8 | exact hM.k9 | exact hM.k10 | exact hM.k11 | exact hM.k12 | exact hM.k13 | exact hM.k14 | exact hM.k15 | exact hM.k16 | exact hM.k17) (by rw [show (102 : Int32) + 9 * Int32.ofNat (xb (z_keep Z).1) + 3 = Int32.ofNat (102 + 9 * xb (zX Z) + 3) from by rw [Int32.ofNat_add, Int32.ofNat_add, Int32.ofNat_mul]; rfl]) (by first | omega | (simp only [hM.l1, hM.l2, hM.l3, hM.l4, hM.l5, hM.l6, hM.l7, hM.l8, hM.l9, hM.l10, hM.l11, hM.l12, hM.l13, hM.l14, hM.l15, hM.l16, hM.l17]; omega)) (by first | omega | (simp only [hM.l1, hM.l2, hM.l3, hM.l4, hM.l5, hM.l6, hM.l7, hM.l8, hM.l9, hM.l10, hM.l11, hM.l12, hM.l13, hM.l14, hM.l15, hM.l16, hM.l17]; omega)) dX8_bridge_120 ?_
            refine P_aloadn (i := 0) rfl rfl dX8_bridge_121 ?_
            refine gX8_7 rfl (by first | exact hM.k0 | exact hM.k1 | exact hM.k2 | exact hM.k3 | exact hM.k4 | exact hM.k5 | exact hM.k6 | exact hM.k7 | exact hM.k8 | exact hM.k9 | exact hM.k10 | exact hM.k11 | exact hM.k12 | exact hM.k13 | exact hM.k14 | exact hM.k15 | exact hM.k16 | exact hM.k17) hM.r256 dX8_bridge_122 ?_
            refine P_iload (i := 6) rfl dX8_bridge_125 ?_
            refine P_iconst (v := 4) rfl dX8_bridge_127 ?_
            refine P_iadd dX8_bridge_128 ?_
            refine P_iload (i := 5) rfl dX8_bridge_129 ?_
            refine P_isN (j := 102 + 9 * xb (zX Z) + 4) (by first | exact hM.k0 | exact hM.k1 | exact hM.k2 | exact hM.k3 | exact hM.k4 | exact hM.k5 | exact hM.k6 | exact hM.k7 | exact hM.k8 | exact hM.k9 | exact hM.k10 | exact hM.k11 | exact hM.k12 | exact hM.k13 | exact hM.k14 | exact hM.k15 | exact hM.k16 | exact hM.k17) (by rw [show (102 : Int32) + 9 * Int32.ofNat (xb (z_keep Z).1) + 4 = Int32.ofNat (102 + 9 * xb (zX Z) + 4) from by rw [Int32.ofNat_add, Int32.ofNat_add, Int32.ofNat_mul]; rfl]) (by first | omega | (simp only [hM.l1, hM.l2, hM.l3, hM.l4, hM.l5, hM.l6, hM.l7, hM.l8, hM.l9, hM.l10, hM.l11, hM.l12, hM.l13, hM.l14, hM.l15, hM.l16, hM.l17]; omega)) (by first | omega | (simp only [hM.l1, hM.l2, hM.l3, hM.l4, hM.l5, hM.l6, hM.l7, hM.l8, hM.l9, hM.l10, hM.l11, hM.l12, hM.l13, hM.l14, hM.l15, hM.l16, hM.l17]; omega)) dX8_bridge_131 ?_
            refine P_aloadn (i := 0) rfl rfl dX8_bridge_132 ?_
            refine gX8_7 rfl (by first | exact hM.k0 | exact hM.k1 | exact hM.k2 | exact hM.k3 | exact hM.k4 | exact hM.k5 | exact hM.k6 | exact hM.k7 | exact hM.k8 | exact hM.k9 | exact hM.k10 | exact hM.k11 | exact hM.k12 | exact hM.k13 | exact hM.k14 | exact hM.k15 | exact hM.k16 | exact hM.k17) hM.r256 dX8_bridge_133 ?_
            refine P_iload (i := 6) rfl dX8_bridge_136 ?_
            refine P_iconst (v := 5) rfl dX8_bridge_138 ?_
            refine P_iadd dX8_bridge_139 ?_
            refine P_iconst (v := 0) rfl dX8_bridge_140 ?_
            refine P_isN (j := 102 + 9 * xb (zX Z) + 5) (by first | exact hM.k0 | exact hM.k1 | exact hM.k2 | exact hM.k3 | exact hM.k4 | exact hM.k5 | exact hM.k6 | exact hM.k7 | exact hM.k8 | exact hM.k9 | exact hM.k10 | exact hM.k11 | exact hM.k12 | exact hM.k13 | exact hM.k14 | exact hM.k15 | exact hM.k16 | exact hM.k17) (by rw [show (102 : Int32) + 9 * Int32.ofNat (xb (z_keep Z).1) + 5 = Int32.ofNat (102 + 9 * xb (zX Z) + 5) from by rw [Int32.ofNat_add, Int32.ofNat_add, Int32.ofNat_mul]; rfl]) (by first | omega | (simp only [hM.l1, hM.l2, hM.l3, hM.l4, hM.l5, hM.l6, hM.l7, hM.l8, hM.l9, hM.l10, hM.l11, hM.l12, hM.l13, hM.l14, hM.l15, hM.l16, hM.l17]; omega)) (by first | omega | (simp only [hM.l1, hM.l2, hM.l3, hM.l4, hM.l5, hM.l6, hM.l7, hM.l8, hM.l9, hM.l10, hM.l11, hM.l12, hM.l13, hM.l14, hM.l15, hM.l16, hM.l17]; omega)) dX8_bridge_141 ?_
            refine P_aloadn (i := 0) rfl rfl dX8_bridge_142 ?_
            refine gX8_7 rfl (by first | exact hM.k0 | exact hM.k1 | exact hM.k2 | exact hM.k3 | exact hM.k4 | exact hM.k5 | exact hM.k6 | exact hM.k7 | exact hM.k8 | exact hM.k9 | exact hM.k10 | exact hM.k11 | exact hM.k12 | exact hM.k13 | exact hM.k14 | exact hM.k15 | exact hM.k16 | exact hM.k17) hM.r256 dX8_bridge_143 ?_
            refine P_iload (i := 6) rfl dX8_bridge_146 ?_
            refine P_bipush (v := 6) rfl dX8_bridge_148 ?_
            refine P_iadd dX8_bridge_150 ?_
            refine P_iconst (v := 0) rfl dX8_bridge_151 ?_
            refine P_isN (j := 102 + 9 * xb (zX Z) + 6) (by first | exact hM.k0 | exact hM.k1 | exact hM.k2 | exact hM.k3 | exact hM.k4 | exact hM.k5 | exact hM.k6 | exact hM.k7 | exact hM.k8 | exact hM.k9 | exact hM.k10 | exact hM.k11 | exact hM.k12 | exact hM.k13 | exact hM.k14 | exact hM.k15 | exact hM.k16 | exact hM.k17) (by rw [show (102 : Int32) + 9 * Int32.ofNat (xb (z_keep Z).1) + 6 = Int32.ofNat (102 + 9 * xb (zX Z) + 6) from by rw [Int32.ofNat_add, Int32.ofNat_add, Int32.ofNat_mul]; rfl]) (by first | omega | (simp only [hM.l1, hM.l2, hM.l3, hM.l4, hM.l5, hM.l6, hM.l7, hM.l8, hM.l9, hM.l10, hM.l11, hM.l12, hM.l13, hM.l14, hM.l15, hM.l16, hM.l17]; omega)) (by first | omega | (simp only [hM.l1, hM.l2, hM.l3, hM.l4, hM.l5, hM.l6, hM.l7, hM.l8, hM.l9, hM.l10, hM.l11, hM.l12, hM.l13, hM.l14, hM.l15, hM.l16, hM.l17]; omega)) dX8_bridge_152 ?_
            refine P_aloadn (i := 0) rfl rfl dX8_bridge_153 ?_
            refine gX8_7 rfl (by first | exact hM.k0 | exact hM.k1 | exact hM.k2 | exact hM.k3 | exact hM.k4 | exact hM.k5 | exact hM.k6 | exact hM.k7 | exact hM.k8 | exact hM.k9 | exact hM.k10 | exact hM.k11 | exact hM.k12 | exact hM.k13 | exact hM.k14 | exact hM.k15 | exact hM.k16 | exact hM.k17) hM.r256 dX8_bridge_154 ?_
            refine P_iload (i := 6) rfl dX8_bridge_157 ?_
            refine P_bipush (v := 7) rfl dX8_bridge_159 ?_
            refine P_iadd dX8_bridge_161 ?_
            refine P_iconst (v := 0) rfl dX8_bridge_162 ?_
            refine P_isN (j := 102 + 9 * xb (zX Z) + 7) (by first | exact hM.k0 | exact hM.k1 | exact hM.k2 | exact hM.k3 | exact hM.k4 | exact hM.k5 | exact hM.k6 | exact hM.k7 | exact hM.k8 | exact hM.k9 | exact hM.k10 | exact hM.k11 | exact hM.k12 | exact hM.k13 | exact hM.k14 | exact hM.k15 | exact hM.k16 | exact hM.k17) (by rw [show (102 : Int32) + 9 * Int32.ofNat (xb (z_keep Z).1) + 7 = Int32.ofNat (102 + 9 * xb (zX Z) + 7) from by rw [Int32.ofNat_add, Int32.ofNat_add, Int32.ofNat_mul]; rfl]) (by first | omega | (simp only [hM.l1, hM.l2, hM.l3, hM.l4, hM.l5, hM.l6, hM.l7, hM.l8, hM.l9, hM.l10, hM.l11, hM.l12, hM.l13, hM.l14, hM.l15, hM.l16, hM.l17]; omega)) (by first | omega | (simp only [hM.l1, hM.l2, hM.l3, hM.l4, hM.l5, hM.l6, hM.l7, hM.l8, hM.l9, hM.l10, hM.l11, hM.l12, hM.l13, hM.l14, hM.l15, hM.l16, hM.l17]; omega)) dX8_bridge_163 ?_
            refine P_aloadn (i := 0) rfl rfl dX8_bridge_164 ?_
            refine gX8_7 rfl (by first | exact hM.k0 | exact hM.k1 | exact hM.k2 | exact hM.k3 | exact hM.k4 | exact hM.k5 | exact hM.k6 | exact hM.k7 | exact hM.k8 | exact hM.k9 | exact hM.k10 | exact hM.k11 | exact hM.k12 | exact hM.k13 | exact hM.k14 | exact hM.k15 | exact hM.k16 | exact hM.k17) hM.r256 dX8_bridge_165 ?_
            refine P_iload (i := 6) rfl dX8_bridge_168 ?_
            refine P_bipush (v := 8) rfl dX8_bridge_170 ?_
            refine P_iadd dX8_bridge_172 ?_
            refine P_iconst (v := 0) rfl dX8_bridge_173 ?_
            refine P_isN (j := 102 + 9 * xb (zX Z) + 8) (by first | exact hM.k0 | exact hM.k1 | exact hM.k2 | exact hM.k3 | exact hM.k4 | exact hM.k5 | exact hM.k6 | exact hM.k7 | exact hM.k8 | exact hM.k9 | exact hM.k10 | exact hM.k11 | exact hM.k12 | exact hM.k13 | exact hM.k14 | exact hM.k15 | exact hM.k16 | exact hM.k17) (by rw [show (102 : Int32) + 9 * Int32.ofNat (xb (z_keep Z).1) + 8 = Int32.ofNat (102 + 9 * xb (zX Z) + 8) from by rw [Int32.ofNat_add, Int32.ofNat_add, Int32.ofNat_mul]; rfl]) (by first | omega | (simp only [hM.l1, hM.l2, hM.l3, hM.l4, hM.l5, hM.l6, hM.l7, hM.l8, hM.l9, hM.l10, hM.l11, hM.l12, hM.l13, hM.l14, hM.l15, hM.l16, hM.l17]; omega)) (by first | omega | (simp only [hM.l1, hM.l2, hM.l3, hM.l4, hM.l5, hM.l6, hM.l7, hM.l8, hM.l9, hM.l10, hM.l11, hM.l12, hM.l13, hM.l14, hM.l15, hM.l16, hM.l17]; omega)) dX8_bridge_174 ?_
            refine P_aloadn (i := 0) rfl rfl dX8_bridge_175 ?_
            refine gX8_7 rfl (by first | exact hM.k0 | exact hM.k1 | exact hM.k2 | exact hM.k3 | exact hM.k4 | exact hM.k5 | exact hM.k6 | exact hM.k7 | exact hM.k8 | exact hM.k9 | exact hM.k10 | exact hM.k11 | exact hM.k12 | exact hM.k13 | exact hM.k14 | exact hM.k15 | exact hM.k16 | exact hM.k17) hM.r256 dX8_bridge_176 ?_
            refine P_iconst (v := 1) rfl dX8_bridge_179 ?_
            refine P_dup2 rfl rfl dX8_bridge_180 ?_
            refine P_iaN (j := 1) (by first | exact hM.k0 | exact hM.k1 | exact hM.k2 | exact hM.k3 | exact hM.k4 | exact hM.k5 | exact hM.k6 | exact hM.k7 | exact hM.k8 | exact hM.k9 | exact hM.k10 | exact hM.k11 | exact hM.k12 | exact hM.k13 | exact hM.k14 | exact hM.k15 | exact hM.k16 | exact hM.k17) rfl (by first | omega | (simp only [hM.l1, hM.l2, hM.l3, hM.l4, hM.l5, hM.l6, hM.l7, hM.l8, hM.l9, hM.l10, hM.l11, hM.l12, hM.l13, hM.l14, hM.l15, hM.l16, hM.l17]; omega)) (by first | omega | (simp only [hM.l1, hM.l2, hM.l3, hM.l4, hM.l5, hM.l6, hM.l7, hM.l8, hM.l9, hM.l10, hM.l11, hM.l12, hM.l13, hM.l14, hM.l15, hM.l16, hM.l17]; omega)) ((p_up_n2 _ _ _ _ (by omega)).trans ((p_up_n2 _ _ _ _ (by omega)).trans ((p_up_n2 _ _ _ _ (by omega)).trans ((p_up_n2 _ _ _ _ (by omega)).trans ((p_up_n2 _ _ _ _ (by omega)).trans ((p_up_n2 _ _ _ _ (by omega)).trans ((p_up_n2 _ _ _ _ (by omega)).trans ((p_up_n2 _ _ _ _ (by omega)).trans ((p_up_n2 _ _ _ _ (by omega)).trans (hZ2.x.nb)))))))))) dX8_bridge_181 ?_
            refine P_iconst (v := 1) rfl dX8_bridge_182 ?_
            refine P_iadd dX8_bridge_183 ?_
            refine P_isN (j := 1) (by first | exact hM.k0 | exact hM.k1 | exact hM.k2 | exact hM.k3 | exact hM.k4 | exact hM.k5 | exact hM.k6 | exact hM.k7 | exact hM.k8 | exact hM.k9 | exact hM.k10 | exact hM.k11 | exact hM.k12 | exact hM.k13 | exact hM.k14 | exact hM.k15 | exact hM.k16 | exact hM.k17) rfl (by first | omega | (simp only [hM.l1, hM.l2, hM.l3, hM.l4, hM.l5, hM.l6, hM.l7, hM.l8, hM.l9, hM.l10, hM.l11, hM.l12, hM.l13, hM.l14, hM.l15, hM.l16, hM.l17]; omega)) (by first | omega | (simp only [hM.l1, hM.l2, hM.l3, hM.l4, hM.l5, hM.l6, hM.l7, hM.l8, hM.l9, hM.l10, hM.l11, hM.l12, hM.l13, hM.l14, hM.l15, hM.l16, hM.l17]; omega)) dX8_bridge_184 ?_
            rw [show Int32.ofNat (xb (zX (z_keep Z))) + 1 = Int32.ofNat (xb (zX Z) + 1) from n_add _ 1]
            refine P_aloadn (i := 0) rfl rfl dX8_bridge_185 ?_
            refine gX8_7 rfl (by first | exact hM.k0 | exact hM.k1 | exact hM.k2 | exact hM.k3 | exact hM.k4 | exact hM.k5 | exact hM.k6 | exact hM.k7 | exact hM.k8 | exact hM.k9 | exact hM.k10 | exact hM.k11 | exact hM.k12 | exact hM.k13 | exact hM.k14 | exact hM.k15 | exact hM.k16 | exact hM.k17) hM.r256 dX8_bridge_186 ?_
            refine P_iconst (v := 1) rfl dX8_bridge_189 ?_
            refine P_iaN (j := 1) (by first | exact hM.k0 | exact hM.k1 | exact hM.k2 | exact hM.k3 | exact hM.k4 | exact hM.k5 | exact hM.k6 | exact hM.k7 | exact hM.k8 | exact hM.k9 | exact hM.k10 | exact hM.k11 | exact hM.k12 | exact hM.k13 | exact hM.k14 | exact hM.k15 | exact hM.k16 | exact hM.k17) rfl (by first | omega | (simp only [hM.l1, hM.l2, hM.l3, hM.l4, hM.l5, hM.l6, hM.l7, hM.l8, hM.l9, hM.l10, hM.l11, hM.l12, hM.l13, hM.l14, hM.l15, hM.l16, hM.l17]; omega)) (by first | omega | (simp only [hM.l1, hM.l2, hM.l3, hM.l4, hM.l5, hM.l6, hM.l7, hM.l8, hM.l9, hM.l10, hM.l11, hM.l12, hM.l13, hM.l14, hM.l15, hM.l16, hM.l17]; omega)) (p_up_eq _ _ _ _) dX8_bridge_190 ?_
            refine P_iconst (v := 1) rfl dX8_bridge_191 ?_
            refine P_isub dX8_bridge_192 ?_
            rw [show Int32.ofNat (xb (zX Z) + 1) - 1 = Int32.ofNat (xb (zX Z)) from n_pred (by omega) (by omega)]
            refine P_ireturn rfl dX8_bridge_193 ?_
            rw [show z_bridge Z from_ to room delay pace = (z_x (z_keep Z) (x_addB (zX Z) (x_brow from_ to room delay pace)), Int32.ofNat (xb (zX Z))) from (if_neg (fun hh => hh (b_t h5))).trans ((if_neg (fun hh => hh ⟨b_t h19, b_t h30, b_t h42⟩)).trans (if_neg hnb))]
            refine ⟨_, _, rfl, rfl, hFr.tr (FrM.fa FA.rf.u1.u1.u1.u1.u1.u1.u1.u1.u1.u1), hZ2.fa FA.rf.u1.u1.u1.u1.u1.u1.u1.u1.u1.u1 (RA.up ?_)⟩
            have e2 : ∀ (B : Nat → Nat → Int32) (j : Nat) (v : Int32), p_up B (m + 1) j v (m + 2) = B (m + 2) := fun B j v => p_up_oth (by omega)
            simp only [e2]
            refine RF.addB (f := A2 (m + 1)) hZ2.x (by show xb (zX Z) < 16; omega) ?_ (fun k hk => ?_) (fun i h1 h2 => ?_)
            · exact if_pos rfl
            · show _ = x_brow from_ to room delay pace k
              simp only [p_up_fn]
              rcases (show k = 0 ∨ k = 1 ∨ k = 2 ∨ k = 3 ∨ k = 4 ∨ k = 5 ∨ k = 6 ∨ k = 7 ∨ k = 8 by omega) with e | e | e | e | e | e | e | e | e <;> subst e <;> (rw [if_neg (by omega)]; simp [x_brow])
            · simp only [p_up_fn]
              rw [if_neg h1, if_neg (by omega), if_neg (by omega), if_neg (by omega), if_neg (by omega), if_neg (by omega), if_neg (by omega), if_neg (by omega), if_neg (by omega), if_neg (by omega)]
          · have hnb : xb (zX Z) = 16 := (n_eq (b := 16) (by omega) (by omega)).mp h56
            refine P_bipush (v := (-4)) rfl dX8_bridge_59 ?_
            refine P_ireturn rfl dX8_bridge_61 ?_
            rw [show z_bridge Z from_ to room delay pace = (Z, -4) from (if_neg (fun hh => hh (b_t h5))).trans ((if_neg (fun hh => hh ⟨b_t h19, b_t h30, b_t h42⟩)).trans (if_pos hnb))]
            exact ⟨_, _, rfl, rfl, FrM.rf, hZ⟩
        · refine P_bipush (v := (-2)) rfl dX8_bridge_45 ?_
          refine P_ireturn rfl dX8_bridge_47 ?_
          rw [show z_bridge Z from_ to room delay pace = (Z, -2) from (if_neg (fun hh => hh (b_t h5))).trans (if_pos (fun hh => b_f h42 hh.2.2))]
          exact ⟨_, _, rfl, rfl, FrM.rf, hZ⟩
  · refine P_iconst (v := (-1)) rfl dX8_bridge_8 ?_
    refine P_ireturn rfl dX8_bridge_9 ?_
    rw [show z_bridge Z from_ to room delay pace = (Z, -1) from if_pos (b_f h5)]
    exact ⟨_, _, rfl, rfl, FrM.rf, hZ⟩
theorem s_keepIf (hM : WM L m) (hZ : RZ FI AI m Z) {kp : Bool} : Sp g 3 iX8_keepIf [vr m, vi (if kp = true then 1 else 0)] (L, FI, AI, AL, AR) (0, 0) (RZM L FI AI AL AR m (z_keepIf Z kp) none) := by
  refine Sp.of (ls := [some (vr m), some (vi (if kp = true then 1 else 0))]) (by decide +kernel) rfl rfl ?_
  refine P_iloadn (i := 1) rfl rfl dX8_keepIf_0 ?_
  refine P_ifeq dX8_keepIf_1 (tgt := 8) rfl (fun h1 => ?_) (fun h1 => ?_)
  · refine P_return rfl dX8_keepIf_8 ?_
    have e : kp = false := by simpa using b_f h1
    rw [e]
    exact ⟨_, _, rfl, rfl, FrM.rf, hZ⟩
  · refine P_aloadn (i := 0) rfl rfl dX8_keepIf_4 ?_
    refine kX8_84 rfl (s_keep hM hZ) (by decide) (by first | exact hM.k0 | exact hM.k1 | exact hM.k2 | exact hM.k3 | exact hM.k4 | exact hM.k5 | exact hM.k6 | exact hM.k7 | exact hM.k8 | exact hM.k9 | exact hM.k10 | exact hM.k11 | exact hM.k12 | exact hM.k13 | exact hM.k14 | exact hM.k15 | exact hM.k16 | exact hM.k17) rfl dX8_keepIf_5 (fun r5 s5 q5 => ?_)
    obtain ⟨F2, A2, rfl, rfl, hFr, hZ2⟩ := q5
    refine P_return rfl dX8_keepIf_8 ?_
    rw [show kp = true from b_t h1]
    exact ⟨_, _, rfl, rfl, hFr, hZ2⟩
theorem s_tryTicks (hM : WM L m) (hZ : RZ FI AI m Z) (hI : XI M (zX Z)) (hMM : M < 80000000) {t : Int32} {kp : Bool} : Sp g 9 iX8_tryTicks [vr m, vi t, vi (if kp = true then 1 else 0)] (L, FI, AI, AL, AR) (0, 0) (RZM L FI AI AL AR m (z_ticks Z kp t).1 (some (vi (z_ticks Z kp t).2))) := by
  refine Sp.of (ls := [some (vr m), some (vi t), some (vi (if kp = true then 1 else 0)), none]) (by decide +kernel) rfl rfl ?_
  refine P_iloadn (i := 1) rfl rfl dX8_tryTicks_0 ?_
  refine P_iconst (v := 1) rfl dX8_tryTicks_1 ?_
  refine P_sipush (v := 500) rfl dX8_tryTicks_2 ?_
  refine kX8_65 rfl s_X8_in (by decide) rfl dX8_tryTicks_5 (fun r5 s5 q5 => ?_)
  obtain ⟨rfl, rfl⟩ := q5
  refine P_ifne dX8_tryTicks_8 (tgt := 14) rfl (fun h8 => ?_) (fun h8 => ?_)
  · have hc := b_t h8
    have ht : ib t 501 := by
      have h1 := hc.1
      have h2 := hc.2
      rw [Int32.le_iff_toInt_le] at h1 h2
      simp only [Int32.reduceToInt] at h1 h2
      exact ⟨by omega, by omega⟩
    have ht9 := ht.nn
    refine P_aloadn (i := 0) rfl rfl dX8_tryTicks_14 ?_
    refine P_iloadn (i := 2) rfl rfl dX8_tryTicks_15 ?_
    refine kX8_119 rfl (s_keepIf hM hZ (kp := kp)) (by decide) (by first | exact hM.k0 | exact hM.k1 | exact hM.k2 | exact hM.k3 | exact hM.k4 | exact hM.k5 | exact hM.k6 | exact hM.k7 | exact hM.k8 | exact hM.k9 | exact hM.k10 | exact hM.k11 | exact hM.k12 | exact hM.k13 | exact hM.k14 | exact hM.k15 | exact hM.k16 | exact hM.k17) rfl dX8_tryTicks_16 (fun r16 s16 q16 => ?_)
    obtain ⟨F2, A2, rfl, rfl, hFr, hZ2⟩ := q16
    have loop : ∀ n i, i + n = nn t → ∀ (A : Nat → Nat → Int32), FA m A2 A → RZ F2 A m (z_x (z_keepIf Z kp) (x_ticks i (zX Z))) → P g 9 iX8_tryTicks 21 [some (vr m), some (vi t), none, some (vi (Int32.ofNat i))] [] (L, F2, A, AL, AR) (0, 0) (RZM L FI AI AL AR m (z_ticks Z kp t).1 (some (vi (z_ticks Z kp t).2))) := by
      intro n
      induction n with
      | zero =>
        intro i hi A hFA hZ3
        refine P_iloadn (i := 3) rfl rfl dX8_tryTicks_21 ?_
        refine P_iloadn (i := 1) rfl rfl dX8_tryTicks_22 ?_
        refine P_icmpge dX8_tryTicks_23 (tgt := 36) rfl (fun h23 => ?_) (fun h23 => absurd ((ht.leN (i := i) (by omega)).mpr (by show nn t ≤ i; omega)) h23)
        refine P_aloadn (i := 0) rfl rfl dX8_tryTicks_36 ?_
        refine gX8_7 rfl (by first | exact hM.k0 | exact hM.k1 | exact hM.k2 | exact hM.k3 | exact hM.k4 | exact hM.k5 | exact hM.k6 | exact hM.k7 | exact hM.k8 | exact hM.k9 | exact hM.k10 | exact hM.k11 | exact hM.k12 | exact hM.k13 | exact hM.k14 | exact hM.k15 | exact hM.k16 | exact hM.k17) hM.r256 dX8_tryTicks_37 ?_
        refine P_iconst (v := 0) rfl dX8_tryTicks_40 ?_
        refine P_iaN (j := 0) (by first | exact hM.k0 | exact hM.k1 | exact hM.k2 | exact hM.k3 | exact hM.k4 | exact hM.k5 | exact hM.k6 | exact hM.k7 | exact hM.k8 | exact hM.k9 | exact hM.k10 | exact hM.k11 | exact hM.k12 | exact hM.k13 | exact hM.k14 | exact hM.k15 | exact hM.k16 | exact hM.k17) rfl (by first | omega | (simp only [hM.l1, hM.l2, hM.l3, hM.l4, hM.l5, hM.l6, hM.l7, hM.l8, hM.l9, hM.l10, hM.l11, hM.l12, hM.l13, hM.l14, hM.l15, hM.l16, hM.l17]; omega)) (by first | omega | (simp only [hM.l1, hM.l2, hM.l3, hM.l4, hM.l5, hM.l6, hM.l7, hM.l8, hM.l9, hM.l10, hM.l11, hM.l12, hM.l13, hM.l14, hM.l15, hM.l16, hM.l17]; omega)) (hZ3.x.g (by omega) (by omega) (by omega) (by omega)) dX8_tryTicks_41 ?_
        refine P_ireturn rfl dX8_tryTicks_42 ?_
        rw [show z_ticks Z kp t = (z_x (z_keepIf Z kp) (x_ticks (nn t) (zX Z)), xG (x_ticks (nn t) (zX Z)) 0) from if_neg (fun hh => hh hc)]
        have e : i = nn t := by omega
        subst e
        exact ⟨_, _, rfl, rfl, hFr.tr (FrM.fa hFA), hZ3⟩
      | succ n ih =>
        intro i hi A hFA hZ3
        have hIi := (XI.ticks (M := M) (zX Z) i (by omega) hI).1
        refine P_iloadn (i := 3) rfl rfl dX8_tryTicks_21 ?_
        refine P_iloadn (i := 1) rfl rfl dX8_tryTicks_22 ?_
        refine P_icmpge dX8_tryTicks_23 (tgt := 36) rfl (fun h23 => absurd h23 (fun h9 => by have h8 : nn t ≤ i := (ht.leN (i := i) (by omega)).mp h9; omega)) (fun h23 => ?_)
        refine P_aloadn (i := 0) rfl rfl dX8_tryTicks_26 ?_
        refine kX8_193 rfl (s_passTick hM hZ3.x hIi (by omega)) (by decide) (by first | exact hM.k0 | exact hM.k1 | exact hM.k2 | exact hM.k3 | exact hM.k4 | exact hM.k5 | exact hM.k6 | exact hM.k7 | exact hM.k8 | exact hM.k9 | exact hM.k10 | exact hM.k11 | exact hM.k12 | exact hM.k13 | exact hM.k14 | exact hM.k15 | exact hM.k16 | exact hM.k17) rfl dX8_tryTicks_27 (fun r27 s27 q27 => ?_)
        obtain ⟨A4, rfl, rfl, hF4, hA4⟩ := q27
        refine P_inN3 dX8_tryTicks_30 rfl rfl ?_
        refine P_goto dX8_tryTicks_33 (tgt := 21) rfl ?_
        exact ih (i + 1) (by omega) A4 (hFA.tr hF4) (hZ3.fa hF4 hA4)
    
    refine P_iconst (v := 0) rfl dX8_tryTicks_19 ?_
    refine P_is3 (Or.inl dX8_tryTicks_20) rfl rfl ?_
    refine P_few (ls2 := [some (vr m), some (vi t), none, some (vi (Int32.ofNat 0))]) ⟨rfl, rfl, rfl, trivial⟩ ?_
    exact loop (nn t) 0 (by omega) A2 FA.rf (by cases kp <;> exact hZ2)
  · refine P_bipush (v := (-2)) rfl dX8_tryTicks_11 ?_
    refine P_ireturn rfl dX8_tryTicks_13 ?_
    rw [show z_ticks Z kp t = (Z, -2) from if_pos (b_f h8)]
    exact ⟨_, _, rfl, rfl, FrM.rf, hZ⟩
theorem s_ticks (hM : WM L m) (hZ : RZ FI AI m Z) (hI : XI M (zX Z)) (hMM : M < 80000000) {t : Int32} : Sp g 10 iX8_ticks [vr m, vi t] (L, FI, AI, AL, AR) (0, 0) (RZM L FI AI AL AR m (z_ticks Z true t).1 (some (vi (z_ticks Z true t).2))) := by
  refine Sp.of (ls := [some (vr m), some (vi t)]) (by decide +kernel) rfl rfl ?_
  refine P_aloadn (i := 0) rfl rfl dX8_ticks_0 ?_
  refine P_iloadn (i := 1) rfl rfl dX8_ticks_1 ?_
  refine P_iconst (v := 1) rfl dX8_ticks_2 ?_
  refine kX8_196 rfl (s_tryTicks hM hZ hI hMM (kp := true)) (by decide) (by first | exact hM.k0 | exact hM.k1 | exact hM.k2 | exact hM.k3 | exact hM.k4 | exact hM.k5 | exact hM.k6 | exact hM.k7 | exact hM.k8 | exact hM.k9 | exact hM.k10 | exact hM.k11 | exact hM.k12 | exact hM.k13 | exact hM.k14 | exact hM.k15 | exact hM.k16 | exact hM.k17) rfl dX8_ticks_3 (fun r3 s3 q3 => ?_)
  obtain ⟨F2, A2, rfl, rfl, hFr, hZ2⟩ := q3
  refine P_ireturn rfl dX8_ticks_6 ?_
  exact ⟨_, _, rfl, rfl, hFr, hZ2⟩
end Ref12
