theorem n_rem6 {a : Nat} (ha : a < 2147483648) : c_rem (Int32.ofNat a) 6 = Int32.ofNat (a % 6) := by
  rw [i_eq]
  show (Int32.ofNat a - Int32.ofNat a / 6 * 6).toInt = _
  rw [i_rem _ _ (by decide), n_int ha, n_int (by omega), Int.tmod_eq_emod_of_nonneg (by omega)]
  simp only [Int32.reduceToInt]
  omega
theorem n_ix (c p i : Nat) : Int32.ofNat c * Int32.ofNat p + Int32.ofNat i = Int32.ofNat (c * p + i) := by rw [n_mul, n_add]
/-- n places copied from one array to another -/
def cpA (A : Nat → Nat → Int32) (dst o1 src o2 n : Nat) : Nat → Nat → Int32 := fun a j => if a = dst ∧ o1 ≤ j ∧ j < o1 + n then A src (o2 + (j - o1)) else A a j
theorem cpA_0 (A : Nat → Nat → Int32) (dst o1 src o2 : Nat) : cpA A dst o1 src o2 0 = A := by
  funext a j
  exact if_neg (by omega)
theorem cpA_src {A : Nat → Nat → Int32} {dst o1 src o2 n a : Nat} (h : a ≠ dst) : cpA A dst o1 src o2 n a = A a := by
  funext j
  exact if_neg (fun hh => h hh.1)
theorem cpA_in {A : Nat → Nat → Int32} {dst o1 src o2 n j : Nat} (h : o1 ≤ j) (h2 : j < o1 + n) : cpA A dst o1 src o2 n dst j = A src (o2 + (j - o1)) := if_pos ⟨rfl, h, h2⟩
theorem cpA_out {A : Nat → Nat → Int32} {dst o1 src o2 n a j : Nat} (h : j < o1 ∨ o1 + n ≤ j) : cpA A dst o1 src o2 n a j = A a j := if_neg (by omega)
theorem cpA_s {A : Nat → Nat → Int32} {dst o1 src o2 n j k : Nat} (h : src ≠ dst) (hv : k = o2 + n) (hj : j = o1 + n) : p_up (cpA A dst o1 src o2 n) dst j (A src k) = cpA A dst o1 src o2 (n + 1) := by
  subst hv
  subst hj
  funext a b
  unfold p_up cpA
  by_cases e : a = dst ∧ b = o1 + n
  · rw [if_pos e, if_pos ⟨e.1, by omega, by omega⟩, e.2, Nat.add_sub_cancel_left]
  · rw [if_neg e]
    by_cases e2 : a = dst ∧ o1 ≤ b ∧ b < o1 + n
    · rw [if_pos e2, if_pos ⟨e2.1, e2.2.1, by omega⟩]
    · rw [if_neg e2, if_neg (by omega)]
theorem RF.cp {f t f2 t2 : Nat → Int32} {X : XW} (h : RF f t X) (hf : ∀ k, k < 3506 → f2 k = f k) (ht : ∀ k, k < 4000 * xp X → t2 k = t k) : RF f2 t2 X := by
  have h16 := h.b16; have h40 := h.p40; have h30 := h.s300
  exact ⟨⟨fun k hk g1 g2 g3 => (hf k (by omega)).trans (h.g hk g1 g2 g3), (hf 1 (by omega)).trans h.nb, (hf 2 (by omega)).trans h.np, (hf 3 (by omega)).trans h.ns⟩,
    fun i k hi hk => (hf _ (by omega)).trans (h.n hi hk), fun i k hi hk => (hf _ (by omega)).trans (h.b hi hk), fun i k hi hk => (hf _ (by omega)).trans (h.p hi hk), fun i k hi hk => (hf _ (by omega)).trans (h.s hi hk), fun p i hp hi => (ht _ (by omega)).trans (h.tt hp hi), h16, h40, h30⟩
/-- the whole state: what there is, the history (by place), its first place, how many are kept, the slots, whether they are saved, the pad's characters, its length -/
abbrev ZW : Type := XW × (Nat → XW) × Nat × Nat × (Nat → XW) × (Nat → Bool) × (Nat → Int32) × Nat
abbrev zX (Z : ZW) : XW := Z.1
abbrev zH (Z : ZW) : Nat → XW := Z.2.1
abbrev zf (Z : ZW) : Nat := Z.2.2.1
abbrev zk (Z : ZW) : Nat := Z.2.2.2.1
abbrev zS (Z : ZW) : Nat → XW := Z.2.2.2.2.1
abbrev zV (Z : ZW) : Nat → Bool := Z.2.2.2.2.2.1
abbrev zC (Z : ZW) : Nat → Int32 := Z.2.2.2.2.2.2.1
abbrev zn (Z : ZW) : Nat := Z.2.2.2.2.2.2.2
def RZ (FI AI : Nat → Nat → Int32) (m : Nat) (Z : ZW) : Prop :=
  RA AI m (zX Z) ∧ (FI 260 m = Int32.ofNat (zf Z) ∧ zf Z < 6 ∧ FI 261 m = Int32.ofNat (zk Z) ∧ zk Z ≤ 6) ∧
  (∀ i, i < zk Z → RF (fun k => AI (m + 3) (3506 * ((zf Z + i) % 6) + k)) (fun k => AI (m + 4) (160000 * ((zf Z + i) % 6) + k)) (zH Z ((zf Z + i) % 6))) ∧
  (∀ s, s < 2 → AI (m + 7) s = (if zV Z s = true then 1 else 0) ∧ (zV Z s = true → RF (fun k => AI (m + 5) (3506 * s + k)) (fun k => AI (m + 6) (160000 * s + k)) (zS Z s))) ∧
  (FI 268 m = Int32.ofNat (zn Z) ∧ zn Z ≤ 80 ∧ ∀ i, i < zn Z → AI (m + 10) i = zC Z i)
def FrM (m : Nat) (FI AI F2 A2 : Nat → Nat → Int32) : Prop := (∀ j a, a ≠ m → F2 j a = FI j a) ∧ (∀ a, (a < m ∨ m + 16 ≤ a) → A2 a = AI a) ∧ F2 278 m = FI 278 m
def RZM (L : PL) (FI AI : Nat → Nat → Int32) (AL : Nat → Nat → Int64) (AR : Nat → Nat → Option Nat) (m : Nat) (Z : ZW) (r0 : Option PV) : Option PV → PS → Prop := fun r σ => ∃ F2 A2, σ = (L, F2, A2, AL, AR) ∧ r = r0 ∧ FrM m FI AI F2 A2 ∧ RZ F2 A2 m Z
def z_x (Z : ZW) (X : XW) : ZW := (X, Z.2)
section RZp
variable {FI AI F2 A2 F3 A3 : Nat → Nat → Int32} {m : Nat} {Z : ZW} {X : XW}
theorem RZ.x (h : RZ FI AI m Z) : RA AI m (zX Z) := h.1
theorem RZ.pf (h : RZ FI AI m Z) : FI 260 m = Int32.ofNat (zf Z) := h.2.1.1
theorem RZ.f6 (h : RZ FI AI m Z) : zf Z < 6 := h.2.1.2.1
theorem RZ.pk (h : RZ FI AI m Z) : FI 261 m = Int32.ofNat (zk Z) := h.2.1.2.2.1
theorem RZ.k6 (h : RZ FI AI m Z) : zk Z ≤ 6 := h.2.1.2.2.2
theorem RZ.h (h : RZ FI AI m Z) {i : Nat} (hi : i < zk Z) : RF (fun k => AI (m + 3) (3506 * ((zf Z + i) % 6) + k)) (fun k => AI (m + 4) (160000 * ((zf Z + i) % 6) + k)) (zH Z ((zf Z + i) % 6)) := h.2.2.1 i hi
theorem RZ.v (h : RZ FI AI m Z) {s : Nat} (hs : s < 2) : AI (m + 7) s = (if zV Z s = true then 1 else 0) := (h.2.2.2.1 s hs).1
theorem RZ.s (h : RZ FI AI m Z) {s : Nat} (hs : s < 2) (hv : zV Z s = true) : RF (fun k => AI (m + 5) (3506 * s + k)) (fun k => AI (m + 6) (160000 * s + k)) (zS Z s) := (h.2.2.2.1 s hs).2 hv
theorem RZ.pn (h : RZ FI AI m Z) : FI 268 m = Int32.ofNat (zn Z) := h.2.2.2.2.1
theorem RZ.n80 (h : RZ FI AI m Z) : zn Z ≤ 80 := h.2.2.2.2.2.1
theorem RZ.c (h : RZ FI AI m Z) {i : Nat} (hi : i < zn Z) : AI (m + 10) i = zC Z i := h.2.2.2.2.2.2 i hi
theorem FrM.rf : FrM m FI AI FI AI := ⟨fun _ _ _ => rfl, fun _ _ => rfl, rfl⟩
theorem FrM.tr (h1 : FrM m FI AI F2 A2) (h2 : FrM m F2 A2 F3 A3) : FrM m FI AI F3 A3 := ⟨fun j a h => (h2.1 j a h).trans (h1.1 j a h), fun a h => (h2.2.1 a h).trans (h1.2.1 a h), h2.2.2.trans h1.2.2⟩
theorem FrM.fa (h : FA m AI A2) : FrM m FI AI FI A2 := ⟨fun _ _ _ => rfl, fun a ha => h a (by omega) (by omega), rfl⟩
theorem RZ.of (h : RZ FI AI m Z) (hX : RA A2 m X) (e0 : F2 260 m = FI 260 m) (e1 : F2 261 m = FI 261 m) (e8 : F2 268 m = FI 268 m) (a3 : A2 (m + 3) = AI (m + 3)) (a4 : A2 (m + 4) = AI (m + 4)) (a5 : A2 (m + 5) = AI (m + 5)) (a6 : A2 (m + 6) = AI (m + 6)) (a7 : A2 (m + 7) = AI (m + 7)) (a10 : A2 (m + 10) = AI (m + 10)) : RZ F2 A2 m (z_x Z X) := by
  refine ⟨hX, ⟨e0.trans h.pf, h.f6, e1.trans h.pk, h.k6⟩, fun i hi => ?_, fun s hs => ⟨?_, fun hv => ?_⟩, e8.trans h.pn, h.n80, fun i hi => ?_⟩
  · rw [a3, a4]; exact h.h hi
  · rw [a7]; exact h.v hs
  · rw [a5, a6]; exact h.s hs hv
  · rw [a10]; exact h.c hi
theorem RZ.fa (h : RZ FI AI m Z) (hF : FA m AI A2) (hX : RA A2 m X) : RZ FI A2 m (z_x Z X) := h.of hX rfl rfl rfl (hF _ (by omega) (by omega)) (hF _ (by omega) (by omega)) (hF _ (by omega) (by omega)) (hF _ (by omega) (by omega)) (hF _ (by omega) (by omega)) (hF _ (by omega) (by omega))
end RZp
def z_f (Z : ZW) : Nat := if zk Z = 6 then (zf Z + 1) % 6 else zf Z
def z_k (Z : ZW) : Nat := if zk Z = 6 then 5 else zk Z
def z_keep (Z : ZW) : ZW := (zX Z, (fun q => if q = (z_f Z + z_k Z) % 6 then zX Z else zH Z q), z_f Z, z_k Z + 1, Z.2.2.2.2)
def z_undo (Z : ZW) : ZW × Int32 := if zk Z = 0 then (Z, -5) else ((zH Z ((zf Z + (zk Z - 1)) % 6), zH Z, zf Z, zk Z - 1, Z.2.2.2.2), Int32.ofNat (zk Z - 1))
def z_save (Z : ZW) (s : Int32) : ZW × Int32 := if ¬ ((0 : Int32) ≤ s ∧ s ≤ 1) then (Z, -2) else ((zX Z, zH Z, zf Z, zk Z, (fun q => if q = nn s then zX Z else zS Z q), (fun q => if q = nn s then true else zV Z q), Z.2.2.2.2.2.2), xG (zX Z) 0)
def z_restore (Z : ZW) (s : Int32) : ZW × Int32 := if ¬ ((0 : Int32) ≤ s ∧ s ≤ 1) then (Z, -2) else if zV Z (nn s) = false then (Z, -5) else (z_x (z_keep Z) (zS Z (nn s)), xG (zS Z (nn s)) 0)
theorem in_ib {s : Int32} {n : Nat} (hn : n < 2147483648) (h : (0 : Int32) ≤ s ∧ s ≤ Int32.ofNat n) : ib s (n + 1) := by
  have h1 := h.1
  have h2 := h.2
  rw [Int32.le_iff_toInt_le] at h1 h2
  rw [n_int hn] at h2
  simp only [Int32.reduceToInt] at h1
  exact ⟨h1, by omega⟩
section Ref11
variable {g : PG} {L : PL} {FI AI : Nat → Nat → Int32} {AL : Nat → Nat → Int64} {AR : Nat → Nat → Option Nat} {m : Nat} {Z : ZW}
theorem s_bytesNow (hM : WM L m) {np : Nat} (h : AI (m + 1) 2 = Int32.ofNat np) : Sp g 0 iX8_bytesNow [vr m] (L, FI, AI, AL, AR) (0, 0) (QI (L, FI, AI, AL, AR) (Int32.ofNat (4000 * np))) := by
  refine Sp.of (ls := [some (vr m)]) (by decide +kernel) rfl rfl ?_
  refine P_sipush (v := 4000) rfl dX8_bytesNow_0 ?_
  refine P_aloadn (i := 0) rfl rfl dX8_bytesNow_3 ?_
  refine gX8_7 rfl (by first | exact hM.k0 | exact hM.k1 | exact hM.k2 | exact hM.k3 | exact hM.k4 | exact hM.k5 | exact hM.k6 | exact hM.k7 | exact hM.k8 | exact hM.k9 | exact hM.k10 | exact hM.k11 | exact hM.k12 | exact hM.k13 | exact hM.k14 | exact hM.k15 | exact hM.k16 | exact hM.k17) hM.r256 dX8_bytesNow_4 ?_
  refine P_iconst (v := 2) rfl dX8_bytesNow_7 ?_
  refine P_iaN (j := 2) (by first | exact hM.k0 | exact hM.k1 | exact hM.k2 | exact hM.k3 | exact hM.k4 | exact hM.k5 | exact hM.k6 | exact hM.k7 | exact hM.k8 | exact hM.k9 | exact hM.k10 | exact hM.k11 | exact hM.k12 | exact hM.k13 | exact hM.k14 | exact hM.k15 | exact hM.k16 | exact hM.k17) rfl (by first | omega | (simp only [hM.l1, hM.l2, hM.l3, hM.l4, hM.l5, hM.l6, hM.l7, hM.l8, hM.l9, hM.l10, hM.l11, hM.l12, hM.l13, hM.l14, hM.l15, hM.l16, hM.l17]; omega)) (by first | omega | (simp only [hM.l1, hM.l2, hM.l3, hM.l4, hM.l5, hM.l6, hM.l7, hM.l8, hM.l9, hM.l10, hM.l11, hM.l12, hM.l13, hM.l14, hM.l15, hM.l16, hM.l17]; omega)) h dX8_bytesNow_8 ?_
  refine P_imul dX8_bytesNow_9 ?_
  refine P_ireturn rfl dX8_bytesNow_10 ?_
  exact ⟨congrArg (fun z => some (vi z)) (n_mul 4000 np), rfl⟩
theorem s_layAside (hM : WM L m) {np : Nat} (hnp : np ≤ 40) (h : AI (m + 1) 2 = Int32.ofNat np) : Sp g 1 iX8_layAside [vr m] (L, FI, AI, AL, AR) (0, 0) (QV (L, FI, (cpA (cpA AI (m + 8) 0 (m + 1) 0 3506) (m + 9) 0 (m + 2) 0 (4000 * np)), AL, AR)) := by
  refine Sp.of (ls := [some (vr m), none]) (by decide +kernel) rfl rfl ?_
  have loop2 : ∀ n i, i + n = 4000 * np → P g 1 iX8_layAside 29 [some (vr m), some (vi (Int32.ofNat i))] [] (L, FI, cpA (cpA AI (m + 8) 0 (m + 1) 0 3506) (m + 9) (0) (m + 2) (0) i, AL, AR) (0, 0) (QV (L, FI, (cpA (cpA AI (m + 8) 0 (m + 1) 0 3506) (m + 9) 0 (m + 2) 0 (4000 * np)), AL, AR)) := by
    intro n
    induction n with
    | zero =>
      intro i hi
      have e : i = 4000 * np := by omega
      refine P_iloadn (i := 1) rfl rfl dX8_layAside_29 ?_
      refine P_aloadn (i := 0) rfl rfl dX8_layAside_30 ?_
      refine kX8_80 rfl (s_bytesNow hM (np := np) (by rw [cpA_src (by omega), cpA_src (by omega)]; exact h)) (by decide) (by first | exact hM.k0 | exact hM.k1 | exact hM.k2 | exact hM.k3 | exact hM.k4 | exact hM.k5 | exact hM.k6 | exact hM.k7 | exact hM.k8 | exact hM.k9 | exact hM.k10 | exact hM.k11 | exact hM.k12 | exact hM.k13 | exact hM.k14 | exact hM.k15 | exact hM.k16 | exact hM.k17) rfl dX8_layAside_31 (fun r31 s31 q31 => ?_)
      obtain ⟨rfl, rfl⟩ := q31
      refine P_icmpge dX8_layAside_34 (tgt := 55) rfl (fun h34 => ?_) (fun h34 => absurd ((n_le (a := 4000 * np) (b := i) (by omega) (by omega)).mpr (by omega)) h34)
      refine P_return rfl dX8_layAside_55 ?_
      subst e
      exact ⟨rfl, rfl⟩
    | succ n ih =>
      intro i hi
      refine P_iloadn (i := 1) rfl rfl dX8_layAside_29 ?_
      refine P_aloadn (i := 0) rfl rfl dX8_layAside_30 ?_
      refine kX8_80 rfl (s_bytesNow hM (np := np) (by rw [cpA_src (by omega), cpA_src (by omega)]; exact h)) (by decide) (by first | exact hM.k0 | exact hM.k1 | exact hM.k2 | exact hM.k3 | exact hM.k4 | exact hM.k5 | exact hM.k6 | exact hM.k7 | exact hM.k8 | exact hM.k9 | exact hM.k10 | exact hM.k11 | exact hM.k12 | exact hM.k13 | exact hM.k14 | exact hM.k15 | exact hM.k16 | exact hM.k17) rfl dX8_layAside_31 (fun r31 s31 q31 => ?_)
      obtain ⟨rfl, rfl⟩ := q31
      refine P_icmpge dX8_layAside_34 (tgt := 55) rfl (fun h34 => absurd h34 (fun h9 => by have h8 := (n_le (a := 4000 * np) (b := i) (by omega) (by omega)).mp h9; omega)) (fun h34 => ?_)
      refine P_aloadn (i := 0) rfl rfl dX8_layAside_37 ?_
      refine gX8_38 rfl (by first | exact hM.k0 | exact hM.k1 | exact hM.k2 | exact hM.k3 | exact hM.k4 | exact hM.k5 | exact hM.k6 | exact hM.k7 | exact hM.k8 | exact hM.k9 | exact hM.k10 | exact hM.k11 | exact hM.k12 | exact hM.k13 | exact hM.k14 | exact hM.k15 | exact hM.k16 | exact hM.k17) hM.r266 dX8_layAside_38 ?_
      refine P_iloadn (i := 1) rfl rfl dX8_layAside_41 ?_
      refine P_aloadn (i := 0) rfl rfl dX8_layAside_42 ?_
      refine gX8_14 rfl (by first | exact hM.k0 | exact hM.k1 | exact hM.k2 | exact hM.k3 | exact hM.k4 | exact hM.k5 | exact hM.k6 | exact hM.k7 | exact hM.k8 | exact hM.k9 | exact hM.k10 | exact hM.k11 | exact hM.k12 | exact hM.k13 | exact hM.k14 | exact hM.k15 | exact hM.k16 | exact hM.k17) hM.r257 dX8_layAside_43 ?_
      refine P_iloadn (i := 1) rfl rfl dX8_layAside_46 ?_
      refine P_iaN (j := i) (by first | exact hM.k0 | exact hM.k1 | exact hM.k2 | exact hM.k3 | exact hM.k4 | exact hM.k5 | exact hM.k6 | exact hM.k7 | exact hM.k8 | exact hM.k9 | exact hM.k10 | exact hM.k11 | exact hM.k12 | exact hM.k13 | exact hM.k14 | exact hM.k15 | exact hM.k16 | exact hM.k17) rfl (by first | omega | (simp only [hM.l1, hM.l2, hM.l3, hM.l4, hM.l5, hM.l6, hM.l7, hM.l8, hM.l9, hM.l10, hM.l11, hM.l12, hM.l13, hM.l14, hM.l15, hM.l16, hM.l17]; omega)) (by first | omega | (simp only [hM.l1, hM.l2, hM.l3, hM.l4, hM.l5, hM.l6, hM.l7, hM.l8, hM.l9, hM.l10, hM.l11, hM.l12, hM.l13, hM.l14, hM.l15, hM.l16, hM.l17]; omega)) (show _ = (cpA AI (m + 8) 0 (m + 1) 0 3506) (m + 2) (i) from congrFun (cpA_src (by omega)) _) dX8_layAside_47 ?_
      refine P_isN (j := i) (by first | exact hM.k0 | exact hM.k1 | exact hM.k2 | exact hM.k3 | exact hM.k4 | exact hM.k5 | exact hM.k6 | exact hM.k7 | exact hM.k8 | exact hM.k9 | exact hM.k10 | exact hM.k11 | exact hM.k12 | exact hM.k13 | exact hM.k14 | exact hM.k15 | exact hM.k16 | exact hM.k17) rfl (by first | omega | (simp only [hM.l1, hM.l2, hM.l3, hM.l4, hM.l5, hM.l6, hM.l7, hM.l8, hM.l9, hM.l10, hM.l11, hM.l12, hM.l13, hM.l14, hM.l15, hM.l16, hM.l17]; omega)) (by first | omega | (simp only [hM.l1, hM.l2, hM.l3, hM.l4, hM.l5, hM.l6, hM.l7, hM.l8, hM.l9, hM.l10, hM.l11, hM.l12, hM.l13, hM.l14, hM.l15, hM.l16, hM.l17]; omega)) dX8_layAside_48 ?_
      refine P_inN1 dX8_layAside_49 rfl rfl ?_
      refine P_goto dX8_layAside_52 (tgt := 29) rfl ?_
      rw [cpA_s (A := (cpA AI (m + 8) 0 (m + 1) 0 3506)) (dst := m + 9) (o1 := 0) (src := m + 2) (o2 := 0) (n := i) (by omega) (by rw [Nat.zero_add]) (by rw [Nat.zero_add])]
      exact ih (i + 1) (by omega)
  have loop1 : ∀ n i, i + n = 3506 → P g 1 iX8_layAside 2 [some (vr m), some (vi (Int32.ofNat i))] [] (L, FI, cpA AI (m + 8) (0) (m + 1) (0) i, AL, AR) (0, 0) (QV (L, FI, (cpA (cpA AI (m + 8) 0 (m + 1) 0 3506) (m + 9) 0 (m + 2) 0 (4000 * np)), AL, AR)) := by
    intro n
    induction n with
    | zero =>
      intro i hi
      have e : i = 3506 := by omega
      refine P_iloadn (i := 1) rfl rfl dX8_layAside_2 ?_
      refine P_sipush (v := 3506) rfl dX8_layAside_3 ?_
      refine P_icmpge dX8_layAside_6 (tgt := 27) rfl (fun h6 => ?_) (fun h6 => absurd ((n_le (a := 3506) (b := i) (by omega) (by omega)).mpr (by omega)) h6)
      refine P_iconst (v := 0) rfl dX8_layAside_27 ?_
      refine P_is1 (Or.inl dX8_layAside_28) rfl rfl ?_
      subst e
      have h0 := loop2 (4000 * np) 0 (by omega)
      rw [cpA_0] at h0
      exact h0
    | succ n ih =>
      intro i hi
      refine P_iloadn (i := 1) rfl rfl dX8_layAside_2 ?_
      refine P_sipush (v := 3506) rfl dX8_layAside_3 ?_
      refine P_icmpge dX8_layAside_6 (tgt := 27) rfl (fun h6 => absurd h6 (fun h9 => by have h8 := (n_le (a := 3506) (b := i) (by omega) (by omega)).mp h9; omega)) (fun h6 => ?_)
      refine P_aloadn (i := 0) rfl rfl dX8_layAside_9 ?_
      refine gX8_35 rfl (by first | exact hM.k0 | exact hM.k1 | exact hM.k2 | exact hM.k3 | exact hM.k4 | exact hM.k5 | exact hM.k6 | exact hM.k7 | exact hM.k8 | exact hM.k9 | exact hM.k10 | exact hM.k11 | exact hM.k12 | exact hM.k13 | exact hM.k14 | exact hM.k15 | exact hM.k16 | exact hM.k17) hM.r265 dX8_layAside_10 ?_
      refine P_iloadn (i := 1) rfl rfl dX8_layAside_13 ?_
      refine P_aloadn (i := 0) rfl rfl dX8_layAside_14 ?_
      refine gX8_7 rfl (by first | exact hM.k0 | exact hM.k1 | exact hM.k2 | exact hM.k3 | exact hM.k4 | exact hM.k5 | exact hM.k6 | exact hM.k7 | exact hM.k8 | exact hM.k9 | exact hM.k10 | exact hM.k11 | exact hM.k12 | exact hM.k13 | exact hM.k14 | exact hM.k15 | exact hM.k16 | exact hM.k17) hM.r256 dX8_layAside_15 ?_
      refine P_iloadn (i := 1) rfl rfl dX8_layAside_18 ?_
      refine P_iaN (j := i) (by first | exact hM.k0 | exact hM.k1 | exact hM.k2 | exact hM.k3 | exact hM.k4 | exact hM.k5 | exact hM.k6 | exact hM.k7 | exact hM.k8 | exact hM.k9 | exact hM.k10 | exact hM.k11 | exact hM.k12 | exact hM.k13 | exact hM.k14 | exact hM.k15 | exact hM.k16 | exact hM.k17) rfl (by first | omega | (simp only [hM.l1, hM.l2, hM.l3, hM.l4, hM.l5, hM.l6, hM.l7, hM.l8, hM.l9, hM.l10, hM.l11, hM.l12, hM.l13, hM.l14, hM.l15, hM.l16, hM.l17]; omega)) (by first | omega | (simp only [hM.l1, hM.l2, hM.l3, hM.l4, hM.l5, hM.l6, hM.l7, hM.l8, hM.l9, hM.l10, hM.l11, hM.l12, hM.l13, hM.l14, hM.l15, hM.l16, hM.l17]; omega)) (show _ = AI (m + 1) (i) from congrFun (cpA_src (by omega)) _) dX8_layAside_19 ?_
      refine P_isN (j := i) (by first | exact hM.k0 | exact hM.k1 | exact hM.k2 | exact hM.k3 | exact hM.k4 | exact hM.k5 | exact hM.k6 | exact hM.k7 | exact hM.k8 | exact hM.k9 | exact hM.k10 | exact hM.k11 | exact hM.k12 | exact hM.k13 | exact hM.k14 | exact hM.k15 | exact hM.k16 | exact hM.k17) rfl (by first | omega | (simp only [hM.l1, hM.l2, hM.l3, hM.l4, hM.l5, hM.l6, hM.l7, hM.l8, hM.l9, hM.l10, hM.l11, hM.l12, hM.l13, hM.l14, hM.l15, hM.l16, hM.l17]; omega)) (by first | omega | (simp only [hM.l1, hM.l2, hM.l3, hM.l4, hM.l5, hM.l6, hM.l7, hM.l8, hM.l9, hM.l10, hM.l11, hM.l12, hM.l13, hM.l14, hM.l15, hM.l16, hM.l17]; omega)) dX8_layAside_20 ?_
      refine P_inN1 dX8_layAside_21 rfl rfl ?_
      refine P_goto dX8_layAside_24 (tgt := 2) rfl ?_
      rw [cpA_s (A := AI) (dst := m + 8) (o1 := 0) (src := m + 1) (o2 := 0) (n := i) (by omega) (by rw [Nat.zero_add]) (by rw [Nat.zero_add])]
      exact ih (i + 1) (by omega)
  refine P_iconst (v := 0) rfl dX8_layAside_0 ?_
  refine P_is1 (Or.inl dX8_layAside_1) rfl rfl ?_
  have h0 := loop1 3506 0 (by omega)
  rw [cpA_0] at h0
  exact h0
theorem s_layBack (hM : WM L m) {np : Nat} (hnp : np ≤ 40) (h : AI (m + 8) 2 = Int32.ofNat np) : Sp g 1 iX8_layBack [vr m] (L, FI, AI, AL, AR) (0, 0) (QV (L, FI, (cpA (cpA AI (m + 1) 0 (m + 8) 0 3506) (m + 2) 0 (m + 9) 0 (4000 * np)), AL, AR)) := by
  refine Sp.of (ls := [some (vr m), none]) (by decide +kernel) rfl rfl ?_
  have loop2 : ∀ n i, i + n = 4000 * np → P g 1 iX8_layBack 29 [some (vr m), some (vi (Int32.ofNat i))] [] (L, FI, cpA (cpA AI (m + 1) 0 (m + 8) 0 3506) (m + 2) (0) (m + 9) (0) i, AL, AR) (0, 0) (QV (L, FI, (cpA (cpA AI (m + 1) 0 (m + 8) 0 3506) (m + 2) 0 (m + 9) 0 (4000 * np)), AL, AR)) := by
    intro n
    induction n with
    | zero =>
      intro i hi
      have e : i = 4000 * np := by omega
      refine P_iloadn (i := 1) rfl rfl dX8_layBack_29 ?_
      refine P_aloadn (i := 0) rfl rfl dX8_layBack_30 ?_
      refine kX8_80 rfl (s_bytesNow hM (np := np) (by rw [cpA_src (by omega), cpA_in (by omega) (by omega)]; exact h)) (by decide) (by first | exact hM.k0 | exact hM.k1 | exact hM.k2 | exact hM.k3 | exact hM.k4 | exact hM.k5 | exact hM.k6 | exact hM.k7 | exact hM.k8 | exact hM.k9 | exact hM.k10 | exact hM.k11 | exact hM.k12 | exact hM.k13 | exact hM.k14 | exact hM.k15 | exact hM.k16 | exact hM.k17) rfl dX8_layBack_31 (fun r31 s31 q31 => ?_)
      obtain ⟨rfl, rfl⟩ := q31
      refine P_icmpge dX8_layBack_34 (tgt := 55) rfl (fun h34 => ?_) (fun h34 => absurd ((n_le (a := 4000 * np) (b := i) (by omega) (by omega)).mpr (by omega)) h34)
      refine P_return rfl dX8_layBack_55 ?_
      subst e
      exact ⟨rfl, rfl⟩
    | succ n ih =>
      intro i hi
      refine P_iloadn (i := 1) rfl rfl dX8_layBack_29 ?_
      refine P_aloadn (i := 0) rfl rfl dX8_layBack_30 ?_
      refine kX8_80 rfl (s_bytesNow hM (np := np) (by rw [cpA_src (by omega), cpA_in (by omega) (by omega)]; exact h)) (by decide) (by first | exact hM.k0 | exact hM.k1 | exact hM.k2 | exact hM.k3 | exact hM.k4 | exact hM.k5 | exact hM.k6 | exact hM.k7 | exact hM.k8 | exact hM.k9 | exact hM.k10 | exact hM.k11 | exact hM.k12 | exact hM.k13 | exact hM.k14 | exact hM.k15 | exact hM.k16 | exact hM.k17) rfl dX8_layBack_31 (fun r31 s31 q31 => ?_)
      obtain ⟨rfl, rfl⟩ := q31
      refine P_icmpge dX8_layBack_34 (tgt := 55) rfl (fun h34 => absurd h34 (fun h9 => by have h8 := (n_le (a := 4000 * np) (b := i) (by omega) (by omega)).mp h9; omega)) (fun h34 => ?_)
      refine P_aloadn (i := 0) rfl rfl dX8_layBack_37 ?_
      refine gX8_14 rfl (by first | exact hM.k0 | exact hM.k1 | exact hM.k2 | exact hM.k3 | exact hM.k4 | exact hM.k5 | exact hM.k6 | exact hM.k7 | exact hM.k8 | exact hM.k9 | exact hM.k10 | exact hM.k11 | exact hM.k12 | exact hM.k13 | exact hM.k14 | exact hM.k15 | exact hM.k16 | exact hM.k17) hM.r257 dX8_layBack_38 ?_
      refine P_iloadn (i := 1) rfl rfl dX8_layBack_41 ?_
      refine P_aloadn (i := 0) rfl rfl dX8_layBack_42 ?_
      refine gX8_38 rfl (by first | exact hM.k0 | exact hM.k1 | exact hM.k2 | exact hM.k3 | exact hM.k4 | exact hM.k5 | exact hM.k6 | exact hM.k7 | exact hM.k8 | exact hM.k9 | exact hM.k10 | exact hM.k11 | exact hM.k12 | exact hM.k13 | exact hM.k14 | exact hM.k15 | exact hM.k16 | exact hM.k17) hM.r266 dX8_layBack_43 ?_
      refine P_iloadn (i := 1) rfl rfl dX8_layBack_46 ?_
      refine P_iaN (j := i) (by first | exact hM.k0 | exact hM.k1 | exact hM.k2 | exact hM.k3 | exact hM.k4 | exact hM.k5 | exact hM.k6 | exact hM.k7 | exact hM.k8 | exact hM.k9 | exact hM.k10 | exact hM.k11 | exact hM.k12 | exact hM.k13 | exact hM.k14 | exact hM.k15 | exact hM.k16 | exact hM.k17) rfl (by first | omega | (simp only [hM.l1, hM.l2, hM.l3, hM.l4, hM.l5, hM.l6, hM.l7, hM.l8, hM.l9, hM.l10, hM.l11, hM.l12, hM.l13, hM.l14, hM.l15, hM.l16, hM.l17]; omega)) (by first | omega | (simp only [hM.l1, hM.l2, hM.l3, hM.l4, hM.l5, hM.l6, hM.l7, hM.l8, hM.l9, hM.l10, hM.l11, hM.l12, hM.l13, hM.l14, hM.l15, hM.l16, hM.l17]; omega)) (show _ = (cpA AI (m + 1) 0 (m + 8) 0 3506) (m + 9) (i) from congrFun (cpA_src (by omega)) _) dX8_layBack_47 ?_
      refine P_isN (j := i) (by first | exact hM.k0 | exact hM.k1 | exact hM.k2 | exact hM.k3 | exact hM.k4 | exact hM.k5 | exact hM.k6 | exact hM.k7 | exact hM.k8 | exact hM.k9 | exact hM.k10 | exact hM.k11 | exact hM.k12 | exact hM.k13 | exact hM.k14 | exact hM.k15 | exact hM.k16 | exact hM.k17) rfl (by first | omega | (simp only [hM.l1, hM.l2, hM.l3, hM.l4, hM.l5, hM.l6, hM.l7, hM.l8, hM.l9, hM.l10, hM.l11, hM.l12, hM.l13, hM.l14, hM.l15, hM.l16, hM.l17]; omega)) (by first | omega | (simp only [hM.l1, hM.l2, hM.l3, hM.l4, hM.l5, hM.l6, hM.l7, hM.l8, hM.l9, hM.l10, hM.l11, hM.l12, hM.l13, hM.l14, hM.l15, hM.l16, hM.l17]; omega)) dX8_layBack_48 ?_
      refine P_inN1 dX8_layBack_49 rfl rfl ?_
      refine P_goto dX8_layBack_52 (tgt := 29) rfl ?_
      rw [cpA_s (A := (cpA AI (m + 1) 0 (m + 8) 0 3506)) (dst := m + 2) (o1 := 0) (src := m + 9) (o2 := 0) (n := i) (by omega) (by rw [Nat.zero_add]) (by rw [Nat.zero_add])]
      exact ih (i + 1) (by omega)
  have loop1 : ∀ n i, i + n = 3506 → P g 1 iX8_layBack 2 [some (vr m), some (vi (Int32.ofNat i))] [] (L, FI, cpA AI (m + 1) (0) (m + 8) (0) i, AL, AR) (0, 0) (QV (L, FI, (cpA (cpA AI (m + 1) 0 (m + 8) 0 3506) (m + 2) 0 (m + 9) 0 (4000 * np)), AL, AR)) := by
    intro n
    induction n with
    | zero =>
      intro i hi
      have e : i = 3506 := by omega
      refine P_iloadn (i := 1) rfl rfl dX8_layBack_2 ?_
      refine P_sipush (v := 3506) rfl dX8_layBack_3 ?_
      refine P_icmpge dX8_layBack_6 (tgt := 27) rfl (fun h6 => ?_) (fun h6 => absurd ((n_le (a := 3506) (b := i) (by omega) (by omega)).mpr (by omega)) h6)
      refine P_iconst (v := 0) rfl dX8_layBack_27 ?_
      refine P_is1 (Or.inl dX8_layBack_28) rfl rfl ?_
      subst e
      have h0 := loop2 (4000 * np) 0 (by omega)
      rw [cpA_0] at h0
      exact h0
    | succ n ih =>
      intro i hi
      refine P_iloadn (i := 1) rfl rfl dX8_layBack_2 ?_
      refine P_sipush (v := 3506) rfl dX8_layBack_3 ?_
      refine P_icmpge dX8_layBack_6 (tgt := 27) rfl (fun h6 => absurd h6 (fun h9 => by have h8 := (n_le (a := 3506) (b := i) (by omega) (by omega)).mp h9; omega)) (fun h6 => ?_)
      refine P_aloadn (i := 0) rfl rfl dX8_layBack_9 ?_
      refine gX8_7 rfl (by first | exact hM.k0 | exact hM.k1 | exact hM.k2 | exact hM.k3 | exact hM.k4 | exact hM.k5 | exact hM.k6 | exact hM.k7 | exact hM.k8 | exact hM.k9 | exact hM.k10 | exact hM.k11 | exact hM.k12 | exact hM.k13 | exact hM.k14 | exact hM.k15 | exact hM.k16 | exact hM.k17) hM.r256 dX8_layBack_10 ?_
      refine P_iloadn (i := 1) rfl rfl dX8_layBack_13 ?_
      refine P_aloadn (i := 0) rfl rfl dX8_layBack_14 ?_
      refine gX8_35 rfl (by first | exact hM.k0 | exact hM.k1 | exact hM.k2 | exact hM.k3 | exact hM.k4 | exact hM.k5 | exact hM.k6 | exact hM.k7 | exact hM.k8 | exact hM.k9 | exact hM.k10 | exact hM.k11 | exact hM.k12 | exact hM.k13 | exact hM.k14 | exact hM.k15 | exact hM.k16 | exact hM.k17) hM.r265 dX8_layBack_15 ?_
      refine P_iloadn (i := 1) rfl rfl dX8_layBack_18 ?_
      refine P_iaN (j := i) (by first | exact hM.k0 | exact hM.k1 | exact hM.k2 | exact hM.k3 | exact hM.k4 | exact hM.k5 | exact hM.k6 | exact hM.k7 | exact hM.k8 | exact hM.k9 | exact hM.k10 | exact hM.k11 | exact hM.k12 | exact hM.k13 | exact hM.k14 | exact hM.k15 | exact hM.k16 | exact hM.k17) rfl (by first | omega | (simp only [hM.l1, hM.l2, hM.l3, hM.l4, hM.l5, hM.l6, hM.l7, hM.l8, hM.l9, hM.l10, hM.l11, hM.l12, hM.l13, hM.l14, hM.l15, hM.l16, hM.l17]; omega)) (by first | omega | (simp only [hM.l1, hM.l2, hM.l3, hM.l4, hM.l5, hM.l6, hM.l7, hM.l8, hM.l9, hM.l10, hM.l11, hM.l12, hM.l13, hM.l14, hM.l15, hM.l16, hM.l17]; omega)) (show _ = AI (m + 8) (i) from congrFun (cpA_src (by omega)) _) dX8_layBack_19 ?_
      refine P_isN (j := i) (by first | exact hM.k0 | exact hM.k1 | exact hM.k2 | exact hM.k3 | exact hM.k4 | exact hM.k5 | exact hM.k6 | exact hM.k7 | exact hM.k8 | exact hM.k9 | exact hM.k10 | exact hM.k11 | exact hM.k12 | exact hM.k13 | exact hM.k14 | exact hM.k15 | exact hM.k16 | exact hM.k17) rfl (by first | omega | (simp only [hM.l1, hM.l2, hM.l3, hM.l4, hM.l5, hM.l6, hM.l7, hM.l8, hM.l9, hM.l10, hM.l11, hM.l12, hM.l13, hM.l14, hM.l15, hM.l16, hM.l17]; omega)) (by first | omega | (simp only [hM.l1, hM.l2, hM.l3, hM.l4, hM.l5, hM.l6, hM.l7, hM.l8, hM.l9, hM.l10, hM.l11, hM.l12, hM.l13, hM.l14, hM.l15, hM.l16, hM.l17]; omega)) dX8_layBack_20 ?_
      refine P_inN1 dX8_layBack_21 rfl rfl ?_
      refine P_goto dX8_layBack_24 (tgt := 2) rfl ?_
      rw [cpA_s (A := AI) (dst := m + 1) (o1 := 0) (src := m + 8) (o2 := 0) (n := i) (by omega) (by rw [Nat.zero_add]) (by rw [Nat.zero_add])]
      exact ih (i + 1) (by omega)
  refine P_iconst (v := 0) rfl dX8_layBack_0 ?_
  refine P_is1 (Or.inl dX8_layBack_1) rfl rfl ?_
  have h0 := loop1 3506 0 (by omega)
  rw [cpA_0] at h0
  exact h0
theorem s_keep (hM : WM L m) (hZ : RZ FI AI m Z) : Sp g 2 iX8_keep [vr m] (L, FI, AI, AL, AR) (0, 0) (RZM L FI AI AL AR m (z_keep Z) none) := by
  refine Sp.of (ls := [some (vr m), none, none]) (by decide +kernel) rfl rfl ?_
  have h6f := hZ.f6
  have h6k := hZ.k6
  have J32 : ∀ (F2 : Nat → Nat → Int32) (f k : Nat), F2 260 m = Int32.ofNat f → F2 261 m = Int32.ofNat k → F2 268 m = FI 268 m → F2 278 m = FI 278 m → (∀ j a, a ≠ m → F2 j a = FI j a) → f < 6 → k < 6 → f = z_f Z → k = z_k Z → P g 2 iX8_keep 32 [some (vr m), none, none] [] (L, F2, AI, AL, AR) (0, 0) (RZM L FI AI AL AR m (z_keep Z) none) := by
    intro F2 f k hF0 hF1 hF8 hF7 hFo hf6 hk6 hf hk
    have hp40 := hZ.x.p40
    have loop2 : ∀ n i, i + n = 4000 * xp (zX Z) → P g 2 iX8_keep 80 [some (vr m), some (vi (Int32.ofNat ((f + k) % 6))), some (vi (Int32.ofNat i))] [] (L, F2, cpA (cpA AI (m + 3) (3506 * ((f + k) % 6)) (m + 1) 0 3506) (m + 4) (160000 * ((f + k) % 6)) (m + 2) (0) i, AL, AR) (0, 0) (RZM L FI AI AL AR m (z_keep Z) none) := by
      intro n
      induction n with
      | zero =>
        intro i hi
        have e : i = 4000 * xp (zX Z) := by omega
        refine P_iloadn (i := 2) rfl rfl dX8_keep_80 ?_
        refine P_aloadn (i := 0) rfl rfl dX8_keep_81 ?_
        refine kX8_80 rfl (s_bytesNow hM (np := xp (zX Z)) (by rw [cpA_src (by omega), cpA_src (by omega)]; exact hZ.x.np)) (by decide) (by first | exact hM.k0 | exact hM.k1 | exact hM.k2 | exact hM.k3 | exact hM.k4 | exact hM.k5 | exact hM.k6 | exact hM.k7 | exact hM.k8 | exact hM.k9 | exact hM.k10 | exact hM.k11 | exact hM.k12 | exact hM.k13 | exact hM.k14 | exact hM.k15 | exact hM.k16 | exact hM.k17) rfl dX8_keep_82 (fun r82 s82 q82 => ?_)
        obtain ⟨rfl, rfl⟩ := q82
        refine P_icmpge dX8_keep_85 (tgt := 111) rfl (fun h85 => ?_) (fun h85 => absurd ((n_le (a := 4000 * xp (zX Z)) (b := i) (by omega) (by omega)).mpr (by omega)) h85)
        subst e
        refine P_aloadn (i := 0) rfl rfl dX8_keep_111 ?_
        refine P_dup rfl dX8_keep_112 ?_
        refine gX8_73 rfl (by first | exact hM.k0 | exact hM.k1 | exact hM.k2 | exact hM.k3 | exact hM.k4 | exact hM.k5 | exact hM.k6 | exact hM.k7 | exact hM.k8 | exact hM.k9 | exact hM.k10 | exact hM.k11 | exact hM.k12 | exact hM.k13 | exact hM.k14 | exact hM.k15 | exact hM.k16 | exact hM.k17) hF1 dX8_keep_113 ?_
        refine P_iconst (v := 1) rfl dX8_keep_116 ?_
        refine P_iadd dX8_keep_117 ?_
        refine uX8_73 rfl (by first | exact hM.k0 | exact hM.k1 | exact hM.k2 | exact hM.k3 | exact hM.k4 | exact hM.k5 | exact hM.k6 | exact hM.k7 | exact hM.k8 | exact hM.k9 | exact hM.k10 | exact hM.k11 | exact hM.k12 | exact hM.k13 | exact hM.k14 | exact hM.k15 | exact hM.k16 | exact hM.k17) dX8_keep_118 ?_
        refine P_return rfl dX8_keep_121 ?_
        refine ⟨_, _, rfl, rfl, ⟨fun j a ha => (p_up_n2 _ _ _ _ ha).trans (hFo j a ha), fun a ha => (cpA_src (by omega)).trans (cpA_src (by omega)), (p_up_n1 _ _ _ _ (by decide)).trans hF7⟩, ?_⟩
        have ezf : zf (z_keep Z) = f := hf.symm
        have ezk : zk (z_keep Z) = k + 1 := by rw [hk]; rfl
        have hx := hZ.x
        refine ⟨?_, ⟨?_, ?_, ?_, ?_⟩, fun i hi => ?_, fun s hs => ⟨?_, fun hv => ?_⟩, ?_, hZ.n80, fun i hi => ?_⟩
        · show RF ((cpA (cpA AI (m + 3) (3506 * ((f + k) % 6)) (m + 1) 0 3506) (m + 4) (160000 * ((f + k) % 6)) (m + 2) 0 (4000 * xp (zX Z))) (m + 1)) ((cpA (cpA AI (m + 3) (3506 * ((f + k) % 6)) (m + 1) 0 3506) (m + 4) (160000 * ((f + k) % 6)) (m + 2) 0 (4000 * xp (zX Z))) (m + 2)) (zX Z)
          rw [cpA_src (by omega), cpA_src (by omega), cpA_src (by omega), cpA_src (by omega)]
          exact hx
        · rw [ezf]; exact (p_up_n1 _ _ _ _ (by decide)).trans hF0
        · rw [ezf]; exact hf6
        · rw [ezk]; exact (p_up_eq _ _ _ _).trans (n_add k 1)
        · rw [ezk]; omega
        · rw [ezk] at hi
          rw [ezf]
          have eH : zH (z_keep Z) ((f + i) % 6) = if (f + i) % 6 = ((f + k) % 6) then zX Z else zH Z ((f + i) % 6) := by rw [hf, hk]; rfl
          rw [eH]
          by_cases e : i = k
          · subst e
            rw [if_pos rfl]
            refine RF.cp (f := AI (m + 1)) (t := AI (m + 2)) hx (fun j hj => ?_) (fun j hj => ?_)
            · rw [cpA_src (by omega), cpA_in (by omega) (by omega)]
              exact congrArg (AI (m + 1)) (by omega)
            · rw [cpA_in (by omega) (by omega), cpA_src (by omega)]
              exact congrArg (AI (m + 2)) (by omega)
          · have e2 : ¬ (f + i) % 6 = ((f + k) % 6) := by omega
            rw [if_neg e2]
            have h9 : ∃ i0, i0 < zk Z ∧ (zf Z + i0) % 6 = (f + i) % 6 := by
              unfold z_f at hf
              unfold z_k at hk
              by_cases e6 : zk Z = 6
              · rw [if_pos e6] at hf hk
                exact ⟨i + 1, by omega, by omega⟩
              · rw [if_neg e6] at hf hk
                exact ⟨i, by omega, by omega⟩
            obtain ⟨i0, h8, h7⟩ := h9
            have h6 := hZ.h h8
            rw [h7] at h6
            have h40 := h6.p40
            refine RF.cp h6 (fun j hj => ?_) (fun j hj => ?_)
            · rw [cpA_src (by omega), cpA_out (by omega)]
            · rw [cpA_out (by omega), cpA_src (by omega)]
        · rw [cpA_src (by omega), cpA_src (by omega)]; exact hZ.v hs
        · rw [cpA_src (by omega), cpA_src (by omega), cpA_src (by omega), cpA_src (by omega)]; exact hZ.s hs hv
        · exact (p_up_n1 _ _ _ _ (by decide)).trans (hF8.trans hZ.pn)
        · rw [cpA_src (by omega), cpA_src (by omega)]; exact hZ.c hi
      | succ n ih =>
        intro i hi
        refine P_iloadn (i := 2) rfl rfl dX8_keep_80 ?_
        refine P_aloadn (i := 0) rfl rfl dX8_keep_81 ?_
        refine kX8_80 rfl (s_bytesNow hM (np := xp (zX Z)) (by rw [cpA_src (by omega), cpA_src (by omega)]; exact hZ.x.np)) (by decide) (by first | exact hM.k0 | exact hM.k1 | exact hM.k2 | exact hM.k3 | exact hM.k4 | exact hM.k5 | exact hM.k6 | exact hM.k7 | exact hM.k8 | exact hM.k9 | exact hM.k10 | exact hM.k11 | exact hM.k12 | exact hM.k13 | exact hM.k14 | exact hM.k15 | exact hM.k16 | exact hM.k17) rfl dX8_keep_82 (fun r82 s82 q82 => ?_)
        obtain ⟨rfl, rfl⟩ := q82
        refine P_icmpge dX8_keep_85 (tgt := 111) rfl (fun h85 => absurd h85 (fun h9 => by have h8 := (n_le (a := 4000 * xp (zX Z)) (b := i) (by omega) (by omega)).mp h9; omega)) (fun h85 => ?_)
        refine P_aloadn (i := 0) rfl rfl dX8_keep_88 ?_
        refine gX8_21 rfl (by first | exact hM.k0 | exact hM.k1 | exact hM.k2 | exact hM.k3 | exact hM.k4 | exact hM.k5 | exact hM.k6 | exact hM.k7 | exact hM.k8 | exact hM.k9 | exact hM.k10 | exact hM.k11 | exact hM.k12 | exact hM.k13 | exact hM.k14 | exact hM.k15 | exact hM.k16 | exact hM.k17) hM.r259 dX8_keep_89 ?_
        refine lX8_13 rfl dX8_keep_92 ?_
        refine P_iloadn (i := 1) rfl rfl dX8_keep_94 ?_
        refine P_imul dX8_keep_95 ?_
        refine P_iloadn (i := 2) rfl rfl dX8_keep_96 ?_
        refine P_iadd dX8_keep_97 ?_
        refine P_aloadn (i := 0) rfl rfl dX8_keep_98 ?_
        refine gX8_14 rfl (by first | exact hM.k0 | exact hM.k1 | exact hM.k2 | exact hM.k3 | exact hM.k4 | exact hM.k5 | exact hM.k6 | exact hM.k7 | exact hM.k8 | exact hM.k9 | exact hM.k10 | exact hM.k11 | exact hM.k12 | exact hM.k13 | exact hM.k14 | exact hM.k15 | exact hM.k16 | exact hM.k17) hM.r257 dX8_keep_99 ?_
        refine P_iloadn (i := 2) rfl rfl dX8_keep_102 ?_
        refine P_iaN (j := i) (by first | exact hM.k0 | exact hM.k1 | exact hM.k2 | exact hM.k3 | exact hM.k4 | exact hM.k5 | exact hM.k6 | exact hM.k7 | exact hM.k8 | exact hM.k9 | exact hM.k10 | exact hM.k11 | exact hM.k12 | exact hM.k13 | exact hM.k14 | exact hM.k15 | exact hM.k16 | exact hM.k17) rfl (by first | omega | (simp only [hM.l1, hM.l2, hM.l3, hM.l4, hM.l5, hM.l6, hM.l7, hM.l8, hM.l9, hM.l10, hM.l11, hM.l12, hM.l13, hM.l14, hM.l15, hM.l16, hM.l17]; omega)) (by first | omega | (simp only [hM.l1, hM.l2, hM.l3, hM.l4, hM.l5, hM.l6, hM.l7, hM.l8, hM.l9, hM.l10, hM.l11, hM.l12, hM.l13, hM.l14, hM.l15, hM.l16, hM.l17]; omega)) (show _ = (cpA AI (m + 3) (3506 * ((f + k) % 6)) (m + 1) 0 3506) (m + 2) (i) from congrFun (cpA_src (by omega)) _) dX8_keep_103 ?_
        refine P_isN (j := 160000 * ((f + k) % 6) + i) (by first | exact hM.k0 | exact hM.k1 | exact hM.k2 | exact hM.k3 | exact hM.k4 | exact hM.k5 | exact hM.k6 | exact hM.k7 | exact hM.k8 | exact hM.k9 | exact hM.k10 | exact hM.k11 | exact hM.k12 | exact hM.k13 | exact hM.k14 | exact hM.k15 | exact hM.k16 | exact hM.k17) (n_ix 160000 ((f + k) % 6) i) (by first | omega | (simp only [hM.l1, hM.l2, hM.l3, hM.l4, hM.l5, hM.l6, hM.l7, hM.l8, hM.l9, hM.l10, hM.l11, hM.l12, hM.l13, hM.l14, hM.l15, hM.l16, hM.l17]; omega)) (by first | omega | (simp only [hM.l1, hM.l2, hM.l3, hM.l4, hM.l5, hM.l6, hM.l7, hM.l8, hM.l9, hM.l10, hM.l11, hM.l12, hM.l13, hM.l14, hM.l15, hM.l16, hM.l17]; omega)) dX8_keep_104 ?_
        refine P_inN2 dX8_keep_105 rfl rfl ?_
        refine P_goto dX8_keep_108 (tgt := 80) rfl ?_
        rw [cpA_s (A := (cpA AI (m + 3) (3506 * ((f + k) % 6)) (m + 1) 0 3506)) (dst := m + 4) (o1 := 160000 * ((f + k) % 6)) (src := m + 2) (o2 := 0) (n := i) (by omega) (by rw [Nat.zero_add]) rfl]
        exact ih (i + 1) (by omega)
    have loop1 : ∀ n i, i + n = 3506 → P g 2 iX8_keep 47 [some (vr m), some (vi (Int32.ofNat ((f + k) % 6))), some (vi (Int32.ofNat i))] [] (L, F2, cpA AI (m + 3) (3506 * ((f + k) % 6)) (m + 1) (0) i, AL, AR) (0, 0) (RZM L FI AI AL AR m (z_keep Z) none) := by
      intro n
      induction n with
      | zero =>
        intro i hi
        have e : i = 3506 := by omega
        refine P_iloadn (i := 2) rfl rfl dX8_keep_47 ?_
        refine P_sipush (v := 3506) rfl dX8_keep_48 ?_
        refine P_icmpge dX8_keep_51 (tgt := 78) rfl (fun h51 => ?_) (fun h51 => absurd ((n_le (a := 3506) (b := i) (by omega) (by omega)).mpr (by omega)) h51)
        refine P_iconst (v := 0) rfl dX8_keep_78 ?_
        refine P_is2 (Or.inl dX8_keep_79) rfl rfl ?_
        subst e
        have h0 := loop2 (4000 * xp (zX Z)) 0 (by omega)
        rw [cpA_0] at h0
        exact h0
      | succ n ih =>
        intro i hi
        refine P_iloadn (i := 2) rfl rfl dX8_keep_47 ?_
        refine P_sipush (v := 3506) rfl dX8_keep_48 ?_
        refine P_icmpge dX8_keep_51 (tgt := 78) rfl (fun h51 => absurd h51 (fun h9 => by have h8 := (n_le (a := 3506) (b := i) (by omega) (by omega)).mp h9; omega)) (fun h51 => ?_)
        refine P_aloadn (i := 0) rfl rfl dX8_keep_54 ?_
        refine gX8_17 rfl (by first | exact hM.k0 | exact hM.k1 | exact hM.k2 | exact hM.k3 | exact hM.k4 | exact hM.k5 | exact hM.k6 | exact hM.k7 | exact hM.k8 | exact hM.k9 | exact hM.k10 | exact hM.k11 | exact hM.k12 | exact hM.k13 | exact hM.k14 | exact hM.k15 | exact hM.k16 | exact hM.k17) hM.r258 dX8_keep_55 ?_
        refine P_sipush (v := 3506) rfl dX8_keep_58 ?_
        refine P_iloadn (i := 1) rfl rfl dX8_keep_61 ?_
        refine P_imul dX8_keep_62 ?_
        refine P_iloadn (i := 2) rfl rfl dX8_keep_63 ?_
        refine P_iadd dX8_keep_64 ?_
        refine P_aloadn (i := 0) rfl rfl dX8_keep_65 ?_
        refine gX8_7 rfl (by first | exact hM.k0 | exact hM.k1 | exact hM.k2 | exact hM.k3 | exact hM.k4 | exact hM.k5 | exact hM.k6 | exact hM.k7 | exact hM.k8 | exact hM.k9 | exact hM.k10 | exact hM.k11 | exact hM.k12 | exact hM.k13 | exact hM.k14 | exact hM.k15 | exact hM.k16 | exact hM.k17) hM.r256 dX8_keep_66 ?_
        refine P_iloadn (i := 2) rfl rfl dX8_keep_69 ?_
        refine P_iaN (j := i) (by first | exact hM.k0 | exact hM.k1 | exact hM.k2 | exact hM.k3 | exact hM.k4 | exact hM.k5 | exact hM.k6 | exact hM.k7 | exact hM.k8 | exact hM.k9 | exact hM.k10 | exact hM.k11 | exact hM.k12 | exact hM.k13 | exact hM.k14 | exact hM.k15 | exact hM.k16 | exact hM.k17) rfl (by first | omega | (simp only [hM.l1, hM.l2, hM.l3, hM.l4, hM.l5, hM.l6, hM.l7, hM.l8, hM.l9, hM.l10, hM.l11, hM.l12, hM.l13, hM.l14, hM.l15, hM.l16, hM.l17]; omega)) (by first | omega | (simp only [hM.l1, hM.l2, hM.l3, hM.l4, hM.l5, hM.l6, hM.l7, hM.l8, hM.l9, hM.l10, hM.l11, hM.l12, hM.l13, hM.l14, hM.l15, hM.l16, hM.l17]; omega)) (show _ = AI (m + 1) (i) from congrFun (cpA_src (by omega)) _) dX8_keep_70 ?_
        refine P_isN (j := 3506 * ((f + k) % 6) + i) (by first | exact hM.k0 | exact hM.k1 | exact hM.k2 | exact hM.k3 | exact hM.k4 | exact hM.k5 | exact hM.k6 | exact hM.k7 | exact hM.k8 | exact hM.k9 | exact hM.k10 | exact hM.k11 | exact hM.k12 | exact hM.k13 | exact hM.k14 | exact hM.k15 | exact hM.k16 | exact hM.k17) (n_ix 3506 ((f + k) % 6) i) (by first | omega | (simp only [hM.l1, hM.l2, hM.l3, hM.l4, hM.l5, hM.l6, hM.l7, hM.l8, hM.l9, hM.l10, hM.l11, hM.l12, hM.l13, hM.l14, hM.l15, hM.l16, hM.l17]; omega)) (by first | omega | (simp only [hM.l1, hM.l2, hM.l3, hM.l4, hM.l5, hM.l6, hM.l7, hM.l8, hM.l9, hM.l10, hM.l11, hM.l12, hM.l13, hM.l14, hM.l15, hM.l16, hM.l17]; omega)) dX8_keep_71 ?_
        refine P_inN2 dX8_keep_72 rfl rfl ?_
        refine P_goto dX8_keep_75 (tgt := 47) rfl ?_
        rw [cpA_s (A := AI) (dst := m + 3) (o1 := 3506 * ((f + k) % 6)) (src := m + 1) (o2 := 0) (n := i) (by omega) (by rw [Nat.zero_add]) rfl]
        exact ih (i + 1) (by omega)
    refine P_aloadn (i := 0) rfl rfl dX8_keep_32 ?_
    refine gX8_77 rfl (by first | exact hM.k0 | exact hM.k1 | exact hM.k2 | exact hM.k3 | exact hM.k4 | exact hM.k5 | exact hM.k6 | exact hM.k7 | exact hM.k8 | exact hM.k9 | exact hM.k10 | exact hM.k11 | exact hM.k12 | exact hM.k13 | exact hM.k14 | exact hM.k15 | exact hM.k16 | exact hM.k17) hF0 dX8_keep_33 ?_
    refine P_aloadn (i := 0) rfl rfl dX8_keep_36 ?_
    refine gX8_73 rfl (by first | exact hM.k0 | exact hM.k1 | exact hM.k2 | exact hM.k3 | exact hM.k4 | exact hM.k5 | exact hM.k6 | exact hM.k7 | exact hM.k8 | exact hM.k9 | exact hM.k10 | exact hM.k11 | exact hM.k12 | exact hM.k13 | exact hM.k14 | exact hM.k15 | exact hM.k16 | exact hM.k17) hF1 dX8_keep_37 ?_
    refine P_iadd dX8_keep_40 ?_
    refine P_bipush (v := 6) rfl dX8_keep_41 ?_
    refine P_irem2 (by decide) dX8_keep_43 ?_
    rw [show c_rem (Int32.ofNat f + Int32.ofNat k) 6 = Int32.ofNat ((f + k) % 6) from by rw [n_add]; exact n_rem6 (by omega)]
    refine P_is1 (Or.inl dX8_keep_44) rfl rfl ?_
    refine P_iconst (v := 0) rfl dX8_keep_45 ?_
    refine P_is2 (Or.inl dX8_keep_46) rfl rfl ?_
    have h0 := loop1 3506 0 (by omega)
    rw [cpA_0] at h0
    exact h0
  refine P_aloadn (i := 0) rfl rfl dX8_keep_0 ?_
  refine gX8_73 rfl (by first | exact hM.k0 | exact hM.k1 | exact hM.k2 | exact hM.k3 | exact hM.k4 | exact hM.k5 | exact hM.k6 | exact hM.k7 | exact hM.k8 | exact hM.k9 | exact hM.k10 | exact hM.k11 | exact hM.k12 | exact hM.k13 | exact hM.k14 | exact hM.k15 | exact hM.k16 | exact hM.k17) hZ.pk dX8_keep_1 ?_
  refine P_bipush (v := 6) rfl dX8_keep_4 ?_
  refine P_icmpne dX8_keep_6 (tgt := 32) rfl (fun h6 => ?_) (fun h6 => ?_)
  · have hk6 : ¬ zk Z = 6 := fun hh => h6 (by rw [hh]; rfl)
    refine J32 FI (zf Z) (zk Z) hZ.pf hZ.pk rfl rfl (fun _ _ _ => rfl) h6f (by omega) (if_neg hk6).symm (if_neg hk6).symm
  · have hk6 : zk Z = 6 := (n_eq (b := 6) (by omega) (by omega)).mp h6
    refine P_aloadn (i := 0) rfl rfl dX8_keep_9 ?_
    refine P_aloadn (i := 0) rfl rfl dX8_keep_10 ?_
    refine gX8_77 rfl (by first | exact hM.k0 | exact hM.k1 | exact hM.k2 | exact hM.k3 | exact hM.k4 | exact hM.k5 | exact hM.k6 | exact hM.k7 | exact hM.k8 | exact hM.k9 | exact hM.k10 | exact hM.k11 | exact hM.k12 | exact hM.k13 | exact hM.k14 | exact hM.k15 | exact hM.k16 | exact hM.k17) hZ.pf dX8_keep_11 ?_
    refine P_iconst (v := 1) rfl dX8_keep_14 ?_
    refine P_iadd dX8_keep_15 ?_
    refine P_bipush (v := 6) rfl dX8_keep_16 ?_
    refine P_irem2 (by decide) dX8_keep_18 ?_
    rw [show c_rem (Int32.ofNat (zf Z) + 1) 6 = Int32.ofNat ((zf Z + 1) % 6) from by rw [show Int32.ofNat (zf Z) + 1 = Int32.ofNat (zf Z + 1) from n_add (zf Z) 1]; exact n_rem6 (by omega)]
    refine uX8_77 rfl (by first | exact hM.k0 | exact hM.k1 | exact hM.k2 | exact hM.k3 | exact hM.k4 | exact hM.k5 | exact hM.k6 | exact hM.k7 | exact hM.k8 | exact hM.k9 | exact hM.k10 | exact hM.k11 | exact hM.k12 | exact hM.k13 | exact hM.k14 | exact hM.k15 | exact hM.k16 | exact hM.k17) dX8_keep_19 ?_
    refine P_aloadn (i := 0) rfl rfl dX8_keep_22 ?_
    refine P_dup rfl dX8_keep_23 ?_
    refine gX8_73 rfl (by first | exact hM.k0 | exact hM.k1 | exact hM.k2 | exact hM.k3 | exact hM.k4 | exact hM.k5 | exact hM.k6 | exact hM.k7 | exact hM.k8 | exact hM.k9 | exact hM.k10 | exact hM.k11 | exact hM.k12 | exact hM.k13 | exact hM.k14 | exact hM.k15 | exact hM.k16 | exact hM.k17) ((p_up_n1 _ _ _ _ (by decide)).trans hZ.pk) dX8_keep_24 ?_
    refine P_iconst (v := 1) rfl dX8_keep_27 ?_
    refine P_isub dX8_keep_28 ?_
    refine uX8_73 rfl (by first | exact hM.k0 | exact hM.k1 | exact hM.k2 | exact hM.k3 | exact hM.k4 | exact hM.k5 | exact hM.k6 | exact hM.k7 | exact hM.k8 | exact hM.k9 | exact hM.k10 | exact hM.k11 | exact hM.k12 | exact hM.k13 | exact hM.k14 | exact hM.k15 | exact hM.k16 | exact hM.k17) dX8_keep_29 ?_
    refine J32 _ ((zf Z + 1) % 6) 5 ((p_up_n1 _ _ _ _ (by decide)).trans (p_up_eq _ _ _ _)) ((p_up_eq _ _ _ _).trans ?_) ((p_up_n1 _ _ _ _ (by decide)).trans (p_up_n1 _ _ _ _ (by decide))) ((p_up_n1 _ _ _ _ (by decide)).trans (p_up_n1 _ _ _ _ (by decide))) (fun j a ha => (p_up_n2 _ _ _ _ ha).trans (p_up_n2 _ _ _ _ ha)) (by omega) (by omega) (if_pos hk6).symm (if_pos hk6).symm
    rw [hk6]
    rfl
end Ref11
