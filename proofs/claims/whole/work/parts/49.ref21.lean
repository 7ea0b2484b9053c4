def z_obey (Z : ZW) (o : TO) : ZW × Int32 :=
  if o.1 = 115 then z_send Z false o.2.1 o.2.2.1 o.2.2.2.1 0 (41 - o.2.2.2.2)
  else if o.1 = 102 then z_forge Z false o.2.1 o.2.2.1 o.2.2.2.1 o.2.2.2.2 255
  else if o.1 = 114 then z_resend Z false o.2.1
  else z_ticks Z false o.2.1
def z_exec : ZW → List TO → Nat → ZW × Nat
  | Z, [], k => (Z, k)
  | Z, o :: os, k => if 0 ≤ (z_obey Z o).2 then z_exec (z_obey Z o).1 os (k + 1) else ((z_obey Z o).1, k)
def z_nop (Z : ZW) : ZW := (zX Z, zH Z, zf Z, zk Z, zS Z, zV Z, zC Z, 0)
def z_carry (Z : ZW) : ZW × Int32 :=
  if ¬ a_fault Z < 0 then (Z, -3)
  else (z_nop (z_exec (z_keep Z) (q_run (zC Z) (zn Z) 81 0 []).2 0).1, Int32.ofNat (z_exec (z_keep Z) (q_run (zC Z) (zn Z) 81 0 []).2 0).2)
theorem XI.ticks1 {M : Nat} {X : XW} (h : XI M X) (hM : M < 80000000) {t : Nat} (ht : t ≤ 500) : XI (M + 500) (x_ticks t X) := ((XI.ticks X t (by omega) h).1).mono (by omega)
theorem i_ge' {n : Nat} {x : Int32} (hn : n < 2147483648) (h : Int32.ofNat n ≤ x) : (n : Int) ≤ x.toInt := by
  rw [Int32.le_iff_toInt_le, n_int hn] at h; exact h
theorem i_le' {n : Nat} {x : Int32} (hn : n < 2147483648) (h : x ≤ Int32.ofNat n) : x.toInt ≤ (n : Int) := by
  rw [Int32.le_iff_toInt_le, n_int hn] at h; exact h
theorem z_send_I {Z : ZW} {M : Nat} (h : XI M (zX Z)) (a b c d e : Int32) : XI M (zX (z_send Z false a b c d e).1) := by
  unfold z_send
  split
  · exact h
  · rename_i h1
    split
    · exact h
    · rename_i h2
      split
      · exact h
      · rename_i h3
        have h1 := Decidable.byContradiction h1
        have h2 := Decidable.byContradiction h2
        have h40 := h.2.2.2.2.2.2.1
        have h30 := h.2.2.2.2.2.2.2
        exact h.send (by omega) (by omega) (q_ib_iff.mp h1.1) (q_ib_iff.mp h1.2.1) ⟨i_ge' (n := 1) (by decide) h2.1.1, i_le' (n := 4000) (by decide) h2.1.2⟩ (in_ib (n := 255) (by decide) h2.2.1) ⟨i_ge' (n := 2) (by decide) h2.2.2.1, i_le' (n := 41) (by decide) h2.2.2.2⟩
theorem z_resend_I {Z : ZW} {M : Nat} (h : XI M (zX Z)) (a : Int32) : XI M (zX (z_resend Z false a).1) := by
  unfold z_resend
  split
  · exact h
  · rename_i h1
    split
    · exact h
    · rename_i h2
      split
      · exact h
      · have h1 := Decidable.byContradiction h1
        have h30 := h.2.2.2.2.2.2.2
        exact h.resend (by omega) (q_ib_iff.mp h1).nn
theorem z_forge_I {Z : ZW} {M : Nat} (h : XI M (zX Z)) (a b c d e : Int32) : XI M (zX (z_forge Z false a b c d e).1) := by
  unfold z_forge
  split
  · exact h
  · rename_i h1
    split
    · exact h
    · rename_i h2
      split
      · exact h
      · rename_i h3
        have h1 := Decidable.byContradiction h1
        have h2 := Decidable.byContradiction h2
        have h30 := h.2.2.2.2.2.2.2
        refine h.forge (by omega) (q_ib_iff.mp h1).nn ⟨i_ge' (n := 0) (by decide) h2.1.1, i_le' (n := 3999) (by decide) h2.1.2⟩ ⟨i_ge' (n := 1) (by decide) h2.2.1.1, i_le' (n := 1500) (by decide) h2.2.1.2⟩ ?_ (in_ib (n := 255) (by decide) h2.2.2.2)
        have h4 := i_ge' (n := 0) (by decide) h2.2.2.1.1
        have h5 := i_le' (n := 1) (by decide) h2.2.2.1.2
        have h6 : d.toInt = 0 ∨ d.toInt = 1 := by omega
        exact h6.elim (fun h7 => Or.inl (i_eq.mpr h7)) (fun h7 => Or.inr (i_eq.mpr h7))
theorem z_ticks_I {Z : ZW} {M : Nat} (h : XI M (zX Z)) (hM : M < 80000000) (t : Int32) : XI (M + 500) (zX (z_ticks Z false t).1) := by
  unfold z_ticks
  split
  · exact h.mono (by omega)
  · rename_i h1
    have h1 := Decidable.byContradiction h1
    exact h.ticks1 hM (ib_le (by decide) (Int32.le_trans (by decide) h1.1) (k := 500) h1.2)
theorem z_obey_I {Z : ZW} {M : Nat} (h : XI M (zX Z)) (hM : M < 80000000) (o : TO) : XI (M + 500) (zX (z_obey Z o).1) := by
  unfold z_obey
  split
  · exact (z_send_I h _ _ _ _ _).mono (by omega)
  · split
    · exact (z_forge_I h _ _ _ _ _).mono (by omega)
    · split
      · exact (z_resend_I h _).mono (by omega)
      · exact z_ticks_I h hM _
theorem t_rel.fr {FI AI F2 A2 : Nat → Nat → Int32} {m k : Nat} {o : TO} (hF : FrM m FI AI F2 A2) (h : t_rel AI m k o) : t_rel A2 m k o := h.cg (by rw [hF.2.1 _ (by omega)]) (fun i _ => by rw [hF.2.1 _ (by omega)])
def FrW (m : Nat) (FI AI F2 A2 : Nat → Nat → Int32) : Prop := (∀ j a, a ≠ m → F2 j a = FI j a) ∧ ∀ a, (a < m ∨ m + 18 ≤ a) → A2 a = AI a
theorem FrM.w {m : Nat} {FI AI F2 A2 : Nat → Nat → Int32} (h : FrM m FI AI F2 A2) : FrW m FI AI F2 A2 := ⟨h.1, fun a ha => h.2.1 a (by omega)⟩
theorem FrW.tr {m : Nat} {FI AI F2 A2 F3 A3 : Nat → Nat → Int32} (h1 : FrW m FI AI F2 A2) (h2 : FrW m F2 A2 F3 A3) : FrW m FI AI F3 A3 := ⟨fun j a h => (h2.1 j a h).trans (h1.1 j a h), fun a h => (h2.2 a h).trans (h1.2 a h)⟩
/-- the end of a public method of the reference -/
def RZW (L : PL) (FI AI : Nat → Nat → Int32) (AL : Nat → Nat → Int64) (AR : Nat → Nat → Option Nat) (m : Nat) (Z : ZW) (r0 : Option PV) : Option PV → PS → Prop := fun r σ => ∃ F2 A2, σ = (L, F2, A2, AL, AR) ∧ r = r0 ∧ FrW m FI AI F2 A2 ∧ RZ F2 A2 m Z
theorem RZ.tc {FI AI : Nat → Nat → Int32} {m : Nat} {Z : ZW} (h : RZ FI AI m Z) : TC FI AI m (zC Z) (zn Z) := ⟨h.pn, h.n80, fun i hi => h.c hi⟩
section Ref21
variable {g : PG} {L : PL} {FI AI : Nat → Nat → Int32} {AL : Nat → Nat → Int64} {AR : Nat → Nat → Option Nat} {m : Nat} {Z : ZW} {k n : Nat} {c : Nat → Int32} {M : Nat} {o : TO}
theorem s_carry (hM : WM L m) (hZ : RZ FI AI m Z) (hI : XI M (zX Z)) (hMM : M < 80000000) (hk : k < 28) (ht : t_rel AI m k o) : Sp g 10 iX8_carry [vr m, vi (Int32.ofNat k)] (L, FI, AI, AL, AR) (0, 0) (RZM L FI AI AL AR m (z_obey Z o).1 (some (vi (z_obey Z o).2))) := by
  refine Sp.of (ls := [some (vr m), some (vi (Int32.ofNat k)), none]) (by decide +kernel) rfl rfl ?_
  refine P_iconst (v := 4) rfl dX8_carry_0 ?_
  refine P_iloadn (i := 1) rfl rfl dX8_carry_1 ?_
  refine P_imul dX8_carry_2 ?_
  refine P_is2 (Or.inl dX8_carry_3) rfl rfl ?_
  refine P_aloadn (i := 0) rfl rfl dX8_carry_4 ?_
  refine gX8_59 rfl (by first | exact hM.k0 | exact hM.k1 | exact hM.k2 | exact hM.k3 | exact hM.k4 | exact hM.k5 | exact hM.k6 | exact hM.k7 | exact hM.k8 | exact hM.k9 | exact hM.k10 | exact hM.k11 | exact hM.k12 | exact hM.k13 | exact hM.k14 | exact hM.k15 | exact hM.k16 | exact hM.k17) hM.r279 dX8_carry_5 ?_
  refine P_iloadn (i := 1) rfl rfl dX8_carry_8 ?_
  refine P_iaN (j := k) (by first | exact hM.k0 | exact hM.k1 | exact hM.k2 | exact hM.k3 | exact hM.k4 | exact hM.k5 | exact hM.k6 | exact hM.k7 | exact hM.k8 | exact hM.k9 | exact hM.k10 | exact hM.k11 | exact hM.k12 | exact hM.k13 | exact hM.k14 | exact hM.k15 | exact hM.k16 | exact hM.k17) rfl (by first | omega | (simp only [hM.l1, hM.l2, hM.l3, hM.l4, hM.l5, hM.l6, hM.l7, hM.l8, hM.l9, hM.l10, hM.l11, hM.l12, hM.l13, hM.l14, hM.l15, hM.l16, hM.l17]; omega)) (by first | omega | (simp only [hM.l1, hM.l2, hM.l3, hM.l4, hM.l5, hM.l6, hM.l7, hM.l8, hM.l9, hM.l10, hM.l11, hM.l12, hM.l13, hM.l14, hM.l15, hM.l16, hM.l17]; omega)) ht.1 dX8_carry_9 ?_
  by_cases e115 : o.1 = 115
  · have hsf : o.1 = 115 ∨ o.1 = 102 := Or.inl e115
    refine P_lookup (off := 34) (tgt := 44) dX8_carry_10 (by decide) (by rw [e115]; rfl) rfl ?_
    refine P_aloadn (i := 0) rfl rfl dX8_carry_44 ?_
    refine P_aloadn (i := 0) rfl rfl dX8_carry_45 ?_
    refine gX8_62 rfl (by first | exact hM.k0 | exact hM.k1 | exact hM.k2 | exact hM.k3 | exact hM.k4 | exact hM.k5 | exact hM.k6 | exact hM.k7 | exact hM.k8 | exact hM.k9 | exact hM.k10 | exact hM.k11 | exact hM.k12 | exact hM.k13 | exact hM.k14 | exact hM.k15 | exact hM.k16 | exact hM.k17) hM.r280 dX8_carry_46 ?_
    refine P_iloadn (i := 2) rfl rfl dX8_carry_49 ?_
    refine P_iaN (j := 4 * k + 0) (by first | exact hM.k0 | exact hM.k1 | exact hM.k2 | exact hM.k3 | exact hM.k4 | exact hM.k5 | exact hM.k6 | exact hM.k7 | exact hM.k8 | exact hM.k9 | exact hM.k10 | exact hM.k11 | exact hM.k12 | exact hM.k13 | exact hM.k14 | exact hM.k15 | exact hM.k16 | exact hM.k17) (n_mul 4 k) (by first | omega | (simp only [hM.l1, hM.l2, hM.l3, hM.l4, hM.l5, hM.l6, hM.l7, hM.l8, hM.l9, hM.l10, hM.l11, hM.l12, hM.l13, hM.l14, hM.l15, hM.l16, hM.l17]; omega)) (by first | omega | (simp only [hM.l1, hM.l2, hM.l3, hM.l4, hM.l5, hM.l6, hM.l7, hM.l8, hM.l9, hM.l10, hM.l11, hM.l12, hM.l13, hM.l14, hM.l15, hM.l16, hM.l17]; omega)) ht.2.1 dX8_carry_50 ?_
    refine P_aloadn (i := 0) rfl rfl dX8_carry_51 ?_
    refine gX8_62 rfl (by first | exact hM.k0 | exact hM.k1 | exact hM.k2 | exact hM.k3 | exact hM.k4 | exact hM.k5 | exact hM.k6 | exact hM.k7 | exact hM.k8 | exact hM.k9 | exact hM.k10 | exact hM.k11 | exact hM.k12 | exact hM.k13 | exact hM.k14 | exact hM.k15 | exact hM.k16 | exact hM.k17) hM.r280 dX8_carry_52 ?_
    refine P_iloadn (i := 2) rfl rfl dX8_carry_55 ?_
    refine P_iconst (v := 1) rfl dX8_carry_56 ?_
    refine P_iadd dX8_carry_57 ?_
    refine P_iaN (j := 4 * k + 1) (by first | exact hM.k0 | exact hM.k1 | exact hM.k2 | exact hM.k3 | exact hM.k4 | exact hM.k5 | exact hM.k6 | exact hM.k7 | exact hM.k8 | exact hM.k9 | exact hM.k10 | exact hM.k11 | exact hM.k12 | exact hM.k13 | exact hM.k14 | exact hM.k15 | exact hM.k16 | exact hM.k17) (show (4 : Int32) * Int32.ofNat k + 1 = Int32.ofNat (4 * k + 1) from n_ix 4 k 1) (by first | omega | (simp only [hM.l1, hM.l2, hM.l3, hM.l4, hM.l5, hM.l6, hM.l7, hM.l8, hM.l9, hM.l10, hM.l11, hM.l12, hM.l13, hM.l14, hM.l15, hM.l16, hM.l17]; omega)) (by first | omega | (simp only [hM.l1, hM.l2, hM.l3, hM.l4, hM.l5, hM.l6, hM.l7, hM.l8, hM.l9, hM.l10, hM.l11, hM.l12, hM.l13, hM.l14, hM.l15, hM.l16, hM.l17]; omega)) (ht.2.2 hsf).1 dX8_carry_58 ?_
    refine P_aloadn (i := 0) rfl rfl dX8_carry_59 ?_
    refine gX8_62 rfl (by first | exact hM.k0 | exact hM.k1 | exact hM.k2 | exact hM.k3 | exact hM.k4 | exact hM.k5 | exact hM.k6 | exact hM.k7 | exact hM.k8 | exact hM.k9 | exact hM.k10 | exact hM.k11 | exact hM.k12 | exact hM.k13 | exact hM.k14 | exact hM.k15 | exact hM.k16 | exact hM.k17) hM.r280 dX8_carry_60 ?_
    refine P_iloadn (i := 2) rfl rfl dX8_carry_63 ?_
    refine P_iconst (v := 2) rfl dX8_carry_64 ?_
    refine P_iadd dX8_carry_65 ?_
    refine P_iaN (j := 4 * k + 2) (by first | exact hM.k0 | exact hM.k1 | exact hM.k2 | exact hM.k3 | exact hM.k4 | exact hM.k5 | exact hM.k6 | exact hM.k7 | exact hM.k8 | exact hM.k9 | exact hM.k10 | exact hM.k11 | exact hM.k12 | exact hM.k13 | exact hM.k14 | exact hM.k15 | exact hM.k16 | exact hM.k17) (show (4 : Int32) * Int32.ofNat k + 2 = Int32.ofNat (4 * k + 2) from n_ix 4 k 2) (by first | omega | (simp only [hM.l1, hM.l2, hM.l3, hM.l4, hM.l5, hM.l6, hM.l7, hM.l8, hM.l9, hM.l10, hM.l11, hM.l12, hM.l13, hM.l14, hM.l15, hM.l16, hM.l17]; omega)) (by first | omega | (simp only [hM.l1, hM.l2, hM.l3, hM.l4, hM.l5, hM.l6, hM.l7, hM.l8, hM.l9, hM.l10, hM.l11, hM.l12, hM.l13, hM.l14, hM.l15, hM.l16, hM.l17]; omega)) (ht.2.2 hsf).2.1 dX8_carry_66 ?_
    refine P_iconst (v := 0) rfl dX8_carry_67 ?_
    refine P_bipush (v := 41) rfl dX8_carry_68 ?_
    refine P_aloadn (i := 0) rfl rfl dX8_carry_70 ?_
    refine gX8_62 rfl (by first | exact hM.k0 | exact hM.k1 | exact hM.k2 | exact hM.k3 | exact hM.k4 | exact hM.k5 | exact hM.k6 | exact hM.k7 | exact hM.k8 | exact hM.k9 | exact hM.k10 | exact hM.k11 | exact hM.k12 | exact hM.k13 | exact hM.k14 | exact hM.k15 | exact hM.k16 | exact hM.k17) hM.r280 dX8_carry_71 ?_
    refine P_iloadn (i := 2) rfl rfl dX8_carry_74 ?_
    refine P_iconst (v := 3) rfl dX8_carry_75 ?_
    refine P_iadd dX8_carry_76 ?_
    refine P_iaN (j := 4 * k + 3) (by first | exact hM.k0 | exact hM.k1 | exact hM.k2 | exact hM.k3 | exact hM.k4 | exact hM.k5 | exact hM.k6 | exact hM.k7 | exact hM.k8 | exact hM.k9 | exact hM.k10 | exact hM.k11 | exact hM.k12 | exact hM.k13 | exact hM.k14 | exact hM.k15 | exact hM.k16 | exact hM.k17) (show (4 : Int32) * Int32.ofNat k + 3 = Int32.ofNat (4 * k + 3) from n_ix 4 k 3) (by first | omega | (simp only [hM.l1, hM.l2, hM.l3, hM.l4, hM.l5, hM.l6, hM.l7, hM.l8, hM.l9, hM.l10, hM.l11, hM.l12, hM.l13, hM.l14, hM.l15, hM.l16, hM.l17]; omega)) (by first | omega | (simp only [hM.l1, hM.l2, hM.l3, hM.l4, hM.l5, hM.l6, hM.l7, hM.l8, hM.l9, hM.l10, hM.l11, hM.l12, hM.l13, hM.l14, hM.l15, hM.l16, hM.l17]; omega)) (ht.2.2 hsf).2.2 dX8_carry_77 ?_
    refine P_isub dX8_carry_78 ?_
    refine P_iconst (v := 0) rfl dX8_carry_79 ?_
    refine kX8_127 rfl (s_trySend hM hZ (kp := false)) (by decide) (by first | exact hM.k0 | exact hM.k1 | exact hM.k2 | exact hM.k3 | exact hM.k4 | exact hM.k5 | exact hM.k6 | exact hM.k7 | exact hM.k8 | exact hM.k9 | exact hM.k10 | exact hM.k11 | exact hM.k12 | exact hM.k13 | exact hM.k14 | exact hM.k15 | exact hM.k16 | exact hM.k17) rfl dX8_carry_80 (fun r80 s80 q80 => ?_)
    obtain ⟨F2, A2, rfl, rfl, hFr, hZ2⟩ := q80
    refine P_ireturn rfl dX8_carry_83 ?_
    rw [show z_obey Z o = z_send Z false o.2.1 o.2.2.1 o.2.2.2.1 0 (41 - o.2.2.2.2) from if_pos e115]
    exact ⟨_, _, rfl, rfl, hFr, hZ2⟩
  by_cases e102 : o.1 = 102
  · have hsf : o.1 = 115 ∨ o.1 = 102 := Or.inr e102
    refine P_lookup (off := 74) (tgt := 84) dX8_carry_10 (by decide) (by rw [e102]; rfl) rfl ?_
    refine P_aloadn (i := 0) rfl rfl dX8_carry_84 ?_
    refine P_aloadn (i := 0) rfl rfl dX8_carry_85 ?_
    refine gX8_62 rfl (by first | exact hM.k0 | exact hM.k1 | exact hM.k2 | exact hM.k3 | exact hM.k4 | exact hM.k5 | exact hM.k6 | exact hM.k7 | exact hM.k8 | exact hM.k9 | exact hM.k10 | exact hM.k11 | exact hM.k12 | exact hM.k13 | exact hM.k14 | exact hM.k15 | exact hM.k16 | exact hM.k17) hM.r280 dX8_carry_86 ?_
    refine P_iloadn (i := 2) rfl rfl dX8_carry_89 ?_
    refine P_iaN (j := 4 * k + 0) (by first | exact hM.k0 | exact hM.k1 | exact hM.k2 | exact hM.k3 | exact hM.k4 | exact hM.k5 | exact hM.k6 | exact hM.k7 | exact hM.k8 | exact hM.k9 | exact hM.k10 | exact hM.k11 | exact hM.k12 | exact hM.k13 | exact hM.k14 | exact hM.k15 | exact hM.k16 | exact hM.k17) (n_mul 4 k) (by first | omega | (simp only [hM.l1, hM.l2, hM.l3, hM.l4, hM.l5, hM.l6, hM.l7, hM.l8, hM.l9, hM.l10, hM.l11, hM.l12, hM.l13, hM.l14, hM.l15, hM.l16, hM.l17]; omega)) (by first | omega | (simp only [hM.l1, hM.l2, hM.l3, hM.l4, hM.l5, hM.l6, hM.l7, hM.l8, hM.l9, hM.l10, hM.l11, hM.l12, hM.l13, hM.l14, hM.l15, hM.l16, hM.l17]; omega)) ht.2.1 dX8_carry_90 ?_
    refine P_aloadn (i := 0) rfl rfl dX8_carry_91 ?_
    refine gX8_62 rfl (by first | exact hM.k0 | exact hM.k1 | exact hM.k2 | exact hM.k3 | exact hM.k4 | exact hM.k5 | exact hM.k6 | exact hM.k7 | exact hM.k8 | exact hM.k9 | exact hM.k10 | exact hM.k11 | exact hM.k12 | exact hM.k13 | exact hM.k14 | exact hM.k15 | exact hM.k16 | exact hM.k17) hM.r280 dX8_carry_92 ?_
    refine P_iloadn (i := 2) rfl rfl dX8_carry_95 ?_
    refine P_iconst (v := 1) rfl dX8_carry_96 ?_
    refine P_iadd dX8_carry_97 ?_
    refine P_iaN (j := 4 * k + 1) (by first | exact hM.k0 | exact hM.k1 | exact hM.k2 | exact hM.k3 | exact hM.k4 | exact hM.k5 | exact hM.k6 | exact hM.k7 | exact hM.k8 | exact hM.k9 | exact hM.k10 | exact hM.k11 | exact hM.k12 | exact hM.k13 | exact hM.k14 | exact hM.k15 | exact hM.k16 | exact hM.k17) (show (4 : Int32) * Int32.ofNat k + 1 = Int32.ofNat (4 * k + 1) from n_ix 4 k 1) (by first | omega | (simp only [hM.l1, hM.l2, hM.l3, hM.l4, hM.l5, hM.l6, hM.l7, hM.l8, hM.l9, hM.l10, hM.l11, hM.l12, hM.l13, hM.l14, hM.l15, hM.l16, hM.l17]; omega)) (by first | omega | (simp only [hM.l1, hM.l2, hM.l3, hM.l4, hM.l5, hM.l6, hM.l7, hM.l8, hM.l9, hM.l10, hM.l11, hM.l12, hM.l13, hM.l14, hM.l15, hM.l16, hM.l17]; omega)) (ht.2.2 hsf).1 dX8_carry_98 ?_
    refine P_aloadn (i := 0) rfl rfl dX8_carry_99 ?_
    refine gX8_62 rfl (by first | exact hM.k0 | exact hM.k1 | exact hM.k2 | exact hM.k3 | exact hM.k4 | exact hM.k5 | exact hM.k6 | exact hM.k7 | exact hM.k8 | exact hM.k9 | exact hM.k10 | exact hM.k11 | exact hM.k12 | exact hM.k13 | exact hM.k14 | exact hM.k15 | exact hM.k16 | exact hM.k17) hM.r280 dX8_carry_100 ?_
    refine P_iloadn (i := 2) rfl rfl dX8_carry_103 ?_
    refine P_iconst (v := 2) rfl dX8_carry_104 ?_
    refine P_iadd dX8_carry_105 ?_
    refine P_iaN (j := 4 * k + 2) (by first | exact hM.k0 | exact hM.k1 | exact hM.k2 | exact hM.k3 | exact hM.k4 | exact hM.k5 | exact hM.k6 | exact hM.k7 | exact hM.k8 | exact hM.k9 | exact hM.k10 | exact hM.k11 | exact hM.k12 | exact hM.k13 | exact hM.k14 | exact hM.k15 | exact hM.k16 | exact hM.k17) (show (4 : Int32) * Int32.ofNat k + 2 = Int32.ofNat (4 * k + 2) from n_ix 4 k 2) (by first | omega | (simp only [hM.l1, hM.l2, hM.l3, hM.l4, hM.l5, hM.l6, hM.l7, hM.l8, hM.l9, hM.l10, hM.l11, hM.l12, hM.l13, hM.l14, hM.l15, hM.l16, hM.l17]; omega)) (by first | omega | (simp only [hM.l1, hM.l2, hM.l3, hM.l4, hM.l5, hM.l6, hM.l7, hM.l8, hM.l9, hM.l10, hM.l11, hM.l12, hM.l13, hM.l14, hM.l15, hM.l16, hM.l17]; omega)) (ht.2.2 hsf).2.1 dX8_carry_106 ?_
    refine P_aloadn (i := 0) rfl rfl dX8_carry_107 ?_
    refine gX8_62 rfl (by first | exact hM.k0 | exact hM.k1 | exact hM.k2 | exact hM.k3 | exact hM.k4 | exact hM.k5 | exact hM.k6 | exact hM.k7 | exact hM.k8 | exact hM.k9 | exact hM.k10 | exact hM.k11 | exact hM.k12 | exact hM.k13 | exact hM.k14 | exact hM.k15 | exact hM.k16 | exact hM.k17) hM.r280 dX8_carry_108 ?_
    refine P_iloadn (i := 2) rfl rfl dX8_carry_111 ?_
    refine P_iconst (v := 3) rfl dX8_carry_112 ?_
    refine P_iadd dX8_carry_113 ?_
    refine P_iaN (j := 4 * k + 3) (by first | exact hM.k0 | exact hM.k1 | exact hM.k2 | exact hM.k3 | exact hM.k4 | exact hM.k5 | exact hM.k6 | exact hM.k7 | exact hM.k8 | exact hM.k9 | exact hM.k10 | exact hM.k11 | exact hM.k12 | exact hM.k13 | exact hM.k14 | exact hM.k15 | exact hM.k16 | exact hM.k17) (show (4 : Int32) * Int32.ofNat k + 3 = Int32.ofNat (4 * k + 3) from n_ix 4 k 3) (by first | omega | (simp only [hM.l1, hM.l2, hM.l3, hM.l4, hM.l5, hM.l6, hM.l7, hM.l8, hM.l9, hM.l10, hM.l11, hM.l12, hM.l13, hM.l14, hM.l15, hM.l16, hM.l17]; omega)) (by first | omega | (simp only [hM.l1, hM.l2, hM.l3, hM.l4, hM.l5, hM.l6, hM.l7, hM.l8, hM.l9, hM.l10, hM.l11, hM.l12, hM.l13, hM.l14, hM.l15, hM.l16, hM.l17]; omega)) (ht.2.2 hsf).2.2 dX8_carry_114 ?_
    refine P_sipush (v := 255) rfl dX8_carry_115 ?_
    refine P_iconst (v := 0) rfl dX8_carry_118 ?_
    refine kX8_138 rfl (s_tryForge hM hZ (kp := false)) (by decide) (by first | exact hM.k0 | exact hM.k1 | exact hM.k2 | exact hM.k3 | exact hM.k4 | exact hM.k5 | exact hM.k6 | exact hM.k7 | exact hM.k8 | exact hM.k9 | exact hM.k10 | exact hM.k11 | exact hM.k12 | exact hM.k13 | exact hM.k14 | exact hM.k15 | exact hM.k16 | exact hM.k17) rfl dX8_carry_119 (fun r119 s119 q119 => ?_)
    obtain ⟨F2, A2, rfl, rfl, hFr, hZ2⟩ := q119
    refine P_ireturn rfl dX8_carry_122 ?_
    rw [show z_obey Z o = z_forge Z false o.2.1 o.2.2.1 o.2.2.2.1 o.2.2.2.2 255 from (if_neg e115).trans (if_pos e102)]
    exact ⟨_, _, rfl, rfl, hFr, hZ2⟩
  by_cases e114 : o.1 = 114
  · refine P_lookup (off := 113) (tgt := 123) dX8_carry_10 (by decide) (by rw [e114]; rfl) rfl ?_
    refine P_aloadn (i := 0) rfl rfl dX8_carry_123 ?_
    refine P_aloadn (i := 0) rfl rfl dX8_carry_124 ?_
    refine gX8_62 rfl (by first | exact hM.k0 | exact hM.k1 | exact hM.k2 | exact hM.k3 | exact hM.k4 | exact hM.k5 | exact hM.k6 | exact hM.k7 | exact hM.k8 | exact hM.k9 | exact hM.k10 | exact hM.k11 | exact hM.k12 | exact hM.k13 | exact hM.k14 | exact hM.k15 | exact hM.k16 | exact hM.k17) hM.r280 dX8_carry_125 ?_
    refine P_iloadn (i := 2) rfl rfl dX8_carry_128 ?_
    refine P_iaN (j := 4 * k + 0) (by first | exact hM.k0 | exact hM.k1 | exact hM.k2 | exact hM.k3 | exact hM.k4 | exact hM.k5 | exact hM.k6 | exact hM.k7 | exact hM.k8 | exact hM.k9 | exact hM.k10 | exact hM.k11 | exact hM.k12 | exact hM.k13 | exact hM.k14 | exact hM.k15 | exact hM.k16 | exact hM.k17) (n_mul 4 k) (by first | omega | (simp only [hM.l1, hM.l2, hM.l3, hM.l4, hM.l5, hM.l6, hM.l7, hM.l8, hM.l9, hM.l10, hM.l11, hM.l12, hM.l13, hM.l14, hM.l15, hM.l16, hM.l17]; omega)) (by first | omega | (simp only [hM.l1, hM.l2, hM.l3, hM.l4, hM.l5, hM.l6, hM.l7, hM.l8, hM.l9, hM.l10, hM.l11, hM.l12, hM.l13, hM.l14, hM.l15, hM.l16, hM.l17]; omega)) ht.2.1 dX8_carry_129 ?_
    refine P_iconst (v := 0) rfl dX8_carry_130 ?_
    refine kX8_134 rfl (s_tryResend hM hZ (kp := false)) (by decide) (by first | exact hM.k0 | exact hM.k1 | exact hM.k2 | exact hM.k3 | exact hM.k4 | exact hM.k5 | exact hM.k6 | exact hM.k7 | exact hM.k8 | exact hM.k9 | exact hM.k10 | exact hM.k11 | exact hM.k12 | exact hM.k13 | exact hM.k14 | exact hM.k15 | exact hM.k16 | exact hM.k17) rfl dX8_carry_131 (fun r131 s131 q131 => ?_)
    obtain ⟨F2, A2, rfl, rfl, hFr, hZ2⟩ := q131
    refine P_ireturn rfl dX8_carry_134 ?_
    rw [show z_obey Z o = z_resend Z false o.2.1 from (if_neg e115).trans ((if_neg e102).trans (if_pos e114))]
    exact ⟨_, _, rfl, rfl, hFr, hZ2⟩
  refine P_lookup (off := 125) (tgt := 135) dX8_carry_10 (by decide) ((lv_osw e102 rfl).trans ((lv_osw e114 rfl).trans ((lv_osw e115 rfl).trans rfl))) rfl ?_
  refine P_aloadn (i := 0) rfl rfl dX8_carry_135 ?_
  refine P_aloadn (i := 0) rfl rfl dX8_carry_136 ?_
  refine gX8_62 rfl (by first | exact hM.k0 | exact hM.k1 | exact hM.k2 | exact hM.k3 | exact hM.k4 | exact hM.k5 | exact hM.k6 | exact hM.k7 | exact hM.k8 | exact hM.k9 | exact hM.k10 | exact hM.k11 | exact hM.k12 | exact hM.k13 | exact hM.k14 | exact hM.k15 | exact hM.k16 | exact hM.k17) hM.r280 dX8_carry_137 ?_
  refine P_iloadn (i := 2) rfl rfl dX8_carry_140 ?_
  refine P_iaN (j := 4 * k + 0) (by first | exact hM.k0 | exact hM.k1 | exact hM.k2 | exact hM.k3 | exact hM.k4 | exact hM.k5 | exact hM.k6 | exact hM.k7 | exact hM.k8 | exact hM.k9 | exact hM.k10 | exact hM.k11 | exact hM.k12 | exact hM.k13 | exact hM.k14 | exact hM.k15 | exact hM.k16 | exact hM.k17) (n_mul 4 k) (by first | omega | (simp only [hM.l1, hM.l2, hM.l3, hM.l4, hM.l5, hM.l6, hM.l7, hM.l8, hM.l9, hM.l10, hM.l11, hM.l12, hM.l13, hM.l14, hM.l15, hM.l16, hM.l17]; omega)) (by first | omega | (simp only [hM.l1, hM.l2, hM.l3, hM.l4, hM.l5, hM.l6, hM.l7, hM.l8, hM.l9, hM.l10, hM.l11, hM.l12, hM.l13, hM.l14, hM.l15, hM.l16, hM.l17]; omega)) ht.2.1 dX8_carry_141 ?_
  refine P_iconst (v := 0) rfl dX8_carry_142 ?_
  refine kX8_196 rfl (s_tryTicks hM hZ hI hMM (kp := false)) (by decide) (by first | exact hM.k0 | exact hM.k1 | exact hM.k2 | exact hM.k3 | exact hM.k4 | exact hM.k5 | exact hM.k6 | exact hM.k7 | exact hM.k8 | exact hM.k9 | exact hM.k10 | exact hM.k11 | exact hM.k12 | exact hM.k13 | exact hM.k14 | exact hM.k15 | exact hM.k16 | exact hM.k17) rfl dX8_carry_143 (fun r143 s143 q143 => ?_)
  obtain ⟨F2, A2, rfl, rfl, hFr, hZ2⟩ := q143
  refine P_ireturn rfl dX8_carry_146 ?_
  rw [show z_obey Z o = z_ticks Z false o.2.1 from (if_neg e115).trans ((if_neg e102).trans (if_neg e114))]
  exact ⟨_, _, rfl, rfl, hFr, hZ2⟩
theorem s_carryOut8 (hM : WM L m) (hZ : RZ FI AI m Z) (hI : XI M (zX Z)) (hMM : M < 70000000) : Sp g 11 iX8_carryOut [vr m] (L, FI, AI, AL, AR) (0, 0) (RZW L FI AI AL AR m (z_carry Z).1 (some (vi (z_carry Z).2))) := by
  refine Sp.of (ls := [some (vr m), none]) (by decide +kernel) rfl rfl ?_
  refine P_aloadn (i := 0) rfl rfl dX8_carryOut_0 ?_
  refine kX8_268 rfl (s_fault8 hM hZ.tc) (by decide) (by first | exact hM.k0 | exact hM.k1 | exact hM.k2 | exact hM.k3 | exact hM.k4 | exact hM.k5 | exact hM.k6 | exact hM.k7 | exact hM.k8 | exact hM.k9 | exact hM.k10 | exact hM.k11 | exact hM.k12 | exact hM.k13 | exact hM.k14 | exact hM.k15 | exact hM.k16 | exact hM.k17) rfl dX8_carryOut_1 (fun r1 s1 q1 => ?_)
  obtain ⟨F2, A2, rfl, rfl, hFa, hFm, hAa, hlt9⟩ := q1
  have hfr2 : FrW m FI AI F2 A2 := ⟨hFa, fun a ha => hAa a (by omega) (by omega)⟩
  have hX2 : RA A2 m (zX Z) := by
    show RF (A2 (m + 1)) (A2 (m + 2)) (zX Z)
    rw [hAa _ (by omega) (by omega), hAa _ (by omega) (by omega)]
    exact hZ.x
  have hZ2 : RZ F2 A2 m Z := hZ.of hX2 (hFm _ (by decide) (by decide) (by decide)) (hFm _ (by decide) (by decide) (by decide)) (hFm _ (by decide) (by decide) (by decide)) (hAa _ (by omega) (by omega)) (hAa _ (by omega) (by omega)) (hAa _ (by omega) (by omega)) (hAa _ (by omega) (by omega)) (hAa _ (by omega) (by omega)) (hAa _ (by omega) (by omega))
  refine P_iflt dX8_carryOut_4 (tgt := 10) rfl (fun h4 => ?_) (fun h4 => ?_)
  · have hflt : a_fault Z < 0 := h4
    obtain ⟨h278, hl28, hhold⟩ := hlt9 h4
    refine P_aloadn (i := 0) rfl rfl dX8_carryOut_10 ?_
    refine kX8_84 rfl (s_keep hM hZ2) (by decide) (by first | exact hM.k0 | exact hM.k1 | exact hM.k2 | exact hM.k3 | exact hM.k4 | exact hM.k5 | exact hM.k6 | exact hM.k7 | exact hM.k8 | exact hM.k9 | exact hM.k10 | exact hM.k11 | exact hM.k12 | exact hM.k13 | exact hM.k14 | exact hM.k15 | exact hM.k16 | exact hM.k17) rfl dX8_carryOut_11 (fun r11 s11 q11 => ?_)
    obtain ⟨F3, A3, rfl, rfl, hF3, hZ3⟩ := q11
    have J38 : ∀ (i : Nat) (Z3 : ZW) (F3 A3 : Nat → Nat → Int32), FrW m FI AI F3 A3 → RZ F3 A3 m Z3 → (z_exec (z_keep Z) (q_run (zC Z) (zn Z) 81 0 []).2 0) = (Z3, i) → P g 11 iX8_carryOut 38 [some (vr m), some (vi (Int32.ofNat i))] [] (L, F3, A3, AL, AR) (0, 0) (RZW L FI AI AL AR m (z_carry Z).1 (some (vi (z_carry Z).2))) := by
      intro i Z3 F3 A3 hfr hZ3 hex
      have hop : z_carry Z = (z_nop Z3, Int32.ofNat i) := by
        have h9 : z_carry Z = (z_nop (z_exec (z_keep Z) (q_run (zC Z) (zn Z) 81 0 []).2 0).1, Int32.ofNat (z_exec (z_keep Z) (q_run (zC Z) (zn Z) 81 0 []).2 0).2) := if_neg (fun hh => hh hflt)
        rw [h9, hex]
      refine P_aloadn (i := 0) rfl rfl dX8_carryOut_38 ?_
      refine P_iconst (v := 0) rfl dX8_carryOut_39 ?_
      refine uX8_211 rfl (by first | exact hM.k0 | exact hM.k1 | exact hM.k2 | exact hM.k3 | exact hM.k4 | exact hM.k5 | exact hM.k6 | exact hM.k7 | exact hM.k8 | exact hM.k9 | exact hM.k10 | exact hM.k11 | exact hM.k12 | exact hM.k13 | exact hM.k14 | exact hM.k15 | exact hM.k16 | exact hM.k17) dX8_carryOut_40 ?_
      refine P_iloadn (i := 1) rfl rfl dX8_carryOut_43 ?_
      refine P_ireturn rfl dX8_carryOut_44 ?_
      rw [hop]
      refine ⟨_, _, rfl, rfl, FrW.tr hfr ⟨fun j a ha => p_up_n2 _ _ _ _ ha, fun _ _ => rfl⟩, ?_⟩
      exact ⟨hZ3.1, ⟨(p_up_n1 _ _ _ _ (by decide)).trans hZ3.pf, hZ3.f6, (p_up_n1 _ _ _ _ (by decide)).trans hZ3.pk, hZ3.k6⟩, hZ3.2.2.1, hZ3.2.2.2.1, p_up_eq _ _ _ _, Nat.zero_le _, fun i hi => absurd hi (Nat.not_lt_zero i)⟩
    have loop : ∀ n i : Nat, i + n = (q_run (zC Z) (zn Z) 81 0 []).2.length → ∀ (Z3 : ZW) (F3 A3 : Nat → Nat → Int32), FrW m FI AI F3 A3 → RZ F3 A3 m Z3 → XI (M + 500 * i) (zX Z3) → F3 278 m = Int32.ofNat (q_run (zC Z) (zn Z) 81 0 []).2.length → t_hold A3 m (q_run (zC Z) (zn Z) 81 0 []).2 → (z_exec (z_keep Z) (q_run (zC Z) (zn Z) 81 0 []).2 0) = z_exec Z3 ((q_run (zC Z) (zn Z) 81 0 []).2.drop i) i → P g 11 iX8_carryOut 16 [some (vr m), some (vi (Int32.ofNat i))] [] (L, F3, A3, AL, AR) (0, 0) (RZW L FI AI AL AR m (z_carry Z).1 (some (vi (z_carry Z).2))) := by
      intro n
      induction n with
      | zero =>
        intro i hi Z3 F3 A3 hfr hZ3 hI3 h278 hhold hex
        refine P_iloadn (i := 1) rfl rfl dX8_carryOut_16 ?_
        refine P_aloadn (i := 0) rfl rfl dX8_carryOut_17 ?_
        refine gX8_250 rfl (by first | exact hM.k0 | exact hM.k1 | exact hM.k2 | exact hM.k3 | exact hM.k4 | exact hM.k5 | exact hM.k6 | exact hM.k7 | exact hM.k8 | exact hM.k9 | exact hM.k10 | exact hM.k11 | exact hM.k12 | exact hM.k13 | exact hM.k14 | exact hM.k15 | exact hM.k16 | exact hM.k17) h278 dX8_carryOut_18 ?_
        refine P_icmpge dX8_carryOut_21 (tgt := 38) rfl (fun h21 => ?_) (fun h21 => absurd ((n_le (a := (q_run (zC Z) (zn Z) 81 0 []).2.length) (b := i) (by omega) (by omega)).mpr (by omega)) h21)
        have hdr : (q_run (zC Z) (zn Z) 81 0 []).2.drop i = [] := List.drop_of_length_le (by omega)
        rw [hdr] at hex
        exact J38 i Z3 F3 A3 hfr hZ3 hex
      | succ n ih =>
        intro i hi Z3 F3 A3 hfr hZ3 hI3 h278 hhold hex
        have hdr : (q_run (zC Z) (zn Z) 81 0 []).2.drop i = (q_run (zC Z) (zn Z) 81 0 []).2.getD i (0, 0, 0, 0, 0) :: (q_run (zC Z) (zn Z) 81 0 []).2.drop (i + 1) := by
          rw [List.drop_eq_getElem_cons (by omega), List.getD_eq_getElem?_getD, List.getElem?_eq_getElem (by omega)]
          rfl
        refine P_iloadn (i := 1) rfl rfl dX8_carryOut_16 ?_
        refine P_aloadn (i := 0) rfl rfl dX8_carryOut_17 ?_
        refine gX8_250 rfl (by first | exact hM.k0 | exact hM.k1 | exact hM.k2 | exact hM.k3 | exact hM.k4 | exact hM.k5 | exact hM.k6 | exact hM.k7 | exact hM.k8 | exact hM.k9 | exact hM.k10 | exact hM.k11 | exact hM.k12 | exact hM.k13 | exact hM.k14 | exact hM.k15 | exact hM.k16 | exact hM.k17) h278 dX8_carryOut_18 ?_
        refine P_icmpge dX8_carryOut_21 (tgt := 38) rfl (fun h21 => absurd h21 (fun h8 => by have h7 := (n_le (a := (q_run (zC Z) (zn Z) 81 0 []).2.length) (b := i) (by omega) (by omega)).mp h8; omega)) (fun h21 => ?_)
        refine P_aloadn (i := 0) rfl rfl dX8_carryOut_24 ?_
        refine P_iloadn (i := 1) rfl rfl dX8_carryOut_25 ?_
        refine kX8_271 rfl (s_carry hM hZ3 hI3 (by omega) (show i < 28 by omega) (hhold i (by omega))) (by decide) (by first | exact hM.k0 | exact hM.k1 | exact hM.k2 | exact hM.k3 | exact hM.k4 | exact hM.k5 | exact hM.k6 | exact hM.k7 | exact hM.k8 | exact hM.k9 | exact hM.k10 | exact hM.k11 | exact hM.k12 | exact hM.k13 | exact hM.k14 | exact hM.k15 | exact hM.k16 | exact hM.k17) rfl dX8_carryOut_26 (fun r26 s26 q26 => ?_)
        obtain ⟨F4, A4, rfl, rfl, hF4, hZ4⟩ := q26
        refine P_iflt dX8_carryOut_29 (tgt := 38) rfl (fun h29 => ?_) (fun h29 => ?_)
        · rw [hdr] at hex
          exact J38 i _ F4 A4 (hfr.tr hF4.w) hZ4 (hex.trans (if_neg (Int32.not_le.mpr h29)))
        · refine P_inN1 dX8_carryOut_32 rfl rfl ?_
          refine P_goto dX8_carryOut_35 (tgt := 16) rfl ?_
          rw [hdr] at hex
          refine ih (i + 1) (by omega) (z_obey Z3 ((q_run (zC Z) (zn Z) 81 0 []).2.getD i (0, 0, 0, 0, 0))).1 F4 A4 (hfr.tr hF4.w) hZ4 ((z_obey_I hI3 (by omega) _).mono (by omega)) (hF4.2.2.trans h278) (fun j hj => (hhold j hj).fr hF4) ?_
          rw [hex]
          exact if_pos (Int32.not_lt.mp h29)
    refine P_iconst (v := 0) rfl dX8_carryOut_14 ?_
    refine P_is1 (Or.inl dX8_carryOut_15) rfl rfl ?_
    exact loop (q_run (zC Z) (zn Z) 81 0 []).2.length 0 (by omega) (z_keep Z) F3 A3 (hfr2.tr hF3.w) hZ3 hI (hF3.2.2.trans h278) (fun j hj => (hhold j hj).fr hF3) rfl
  · refine P_bipush (v := (-3)) rfl dX8_carryOut_7 ?_
    refine P_ireturn rfl dX8_carryOut_9 ?_
    rw [show z_carry Z = (Z, -3) from if_pos h4]
    exact ⟨_, _, rfl, rfl, hfr2, hZ2⟩
end Ref21
