theorem c_rem2 {how : Int32} (h : 0 ≤ how.toInt) : c_rem how 2 = 0 ∨ c_rem how 2 = 1 := by
  have e3 : (c_rem how 2).toInt = how.toInt % 2 := by
    show (how - how / 2 * 2).toInt = _
    rw [i_rem _ _ (by decide), Int.tmod_eq_emod_of_nonneg h]
    rfl
  have h9 : how.toInt % 2 = 0 ∨ how.toInt % 2 = 1 := by omega
  exact h9.elim (fun h9 => Or.inl (i_eq.mpr (e3.trans (by rw [h9]; rfl)))) (fun h9 => Or.inr (i_eq.mpr (e3.trans (by rw [h9]; rfl))))
section Cls6
variable {g : PG} {L : PL} {FI AI : Nat → Nat → Int32} {AL : Nat → Nat → Int64} {AR : Nat → Nat → Option Nat} {w : Nat} {X : XW} {C : List XC} {U : Nat} {sa : Nat → Nat} {M : Nat}
theorem s_begin (hk : L.2.1 w = 4) {from_ to size seed how : Int32} (hsz : ib size 4001) (hse : ib seed 256) (hh : 0 ≤ how.toInt) : Sp g 1 iX4_begin [vr w, vi from_, vi to, vi size, vi seed, vi how] (L, FI, AI, AL, AR) (0, 0) (QV (L, bF FI w from_ to size seed how, AI, AL, AR)) := by
  refine Sp.of (ls := [some (vr w), some (vi from_), some (vi to), some (vi size), some (vi seed), some (vi how), none, none]) (by decide +kernel) rfl rfl ?_
  have hsz9 := hsz.nn
  have h01 := c_rem2 hh
  have loop : ∀ n i : Nat, i + n = nn size → P g 1 iX4_begin 52 [some (vr w), some (vi from_), some (vi to), some (vi size), some (vi seed), some (vi how), some (vi (x_sumN seed i)), some (vi (Int32.ofNat i))] [] (L, (p_up (p_up (p_up (p_up (p_up (p_up FI 128 w from_) 129 w to) 130 w size) 131 w seed) 132 w (how / 2)) 134 w (c_rem how 2)), AI, AL, AR) (0, 0) (QV (L, bF FI w from_ to size seed how, AI, AL, AR)) := by
    intro n
    induction n with
    | zero =>
      intro i hi
      have e : i = nn size := by omega
      subst e
      refine P_iload (i := 7) rfl dX4_begin_52 ?_
      refine P_aloadn (i := 0) rfl rfl dX4_begin_54 ?_
      refine gX4_28 rfl (by assumption) ((p_up_n1 _ _ _ _ (by decide)).trans ((p_up_n1 _ _ _ _ (by decide)).trans ((p_up_n1 _ _ _ _ (by decide)).trans (p_up_eq _ _ _ _)))) dX4_begin_55 ?_
      refine P_icmpge dX4_begin_58 (tgt := 81) rfl (fun h58 => ?_) (fun h58 => absurd ((hsz.leN (i := nn size) (by omega)).mpr (Nat.le_refl _)) h58)
      refine P_aloadn (i := 0) rfl rfl dX4_begin_81 ?_
      refine P_iload (i := 6) rfl dX4_begin_82 ?_
      refine lX4_45 rfl dX4_begin_84 ?_
      refine P_irem2 (by decide) dX4_begin_86 ?_
      refine uX4_46 rfl (by assumption) dX4_begin_87 ?_
      refine P_return rfl dX4_begin_90 ?_
      exact ⟨rfl, rfl⟩
    | succ n ih =>
      intro i hi
      refine P_iload (i := 7) rfl dX4_begin_52 ?_
      refine P_aloadn (i := 0) rfl rfl dX4_begin_54 ?_
      refine gX4_28 rfl (by assumption) ((p_up_n1 _ _ _ _ (by decide)).trans ((p_up_n1 _ _ _ _ (by decide)).trans ((p_up_n1 _ _ _ _ (by decide)).trans (p_up_eq _ _ _ _)))) dX4_begin_55 ?_
      refine P_icmpge dX4_begin_58 (tgt := 81) rfl (fun h58 => absurd h58 (fun h9 => by have h8 : nn size ≤ i := (hsz.leN (by omega)).mp h9; omega)) (fun h58 => ?_)
      refine P_iload (i := 6) rfl dX4_begin_61 ?_
      refine P_aloadn (i := 0) rfl rfl dX4_begin_63 ?_
      refine gX4_31 rfl (by assumption) ((p_up_n1 _ _ _ _ (by decide)).trans ((p_up_n1 _ _ _ _ (by decide)).trans (p_up_eq _ _ _ _))) dX4_begin_64 ?_
      refine P_iload (i := 7) rfl dX4_begin_67 ?_
      refine kX4_41 rfl (s_byteOf7 hse (ib.of (j := i) (by omega) (by omega))) (by decide) rfl dX4_begin_69 (fun r69 s69 q69 => ?_)
      obtain ⟨rfl, rfl⟩ := q69
      refine P_iadd dX4_begin_72 ?_
      refine P_is6 (Or.inr dX4_begin_73) rfl rfl ?_
      refine P_inN7 dX4_begin_75 rfl rfl ?_
      refine P_goto dX4_begin_78 (tgt := 52) rfl ?_
      exact ih (i + 1) (by omega)
  have J43 : ∀ z : Int32, z = c_rem how 2 → P g 1 iX4_begin 43 [some (vr w), some (vi from_), some (vi to), some (vi size), some (vi seed), some (vi how), none, none] [vi z, vr w] (L, p_up (p_up (p_up (p_up (p_up FI 128 w from_) 129 w to) 130 w size) 131 w seed) 132 w (how / 2), AI, AL, AR) (0, 0) (QV (L, bF FI w from_ to size seed how, AI, AL, AR)) := by
    intro z hz
    subst hz
    refine uX4_37 rfl h01 (by assumption) dX4_begin_43 ?_
    refine P_iconst (v := 0) rfl dX4_begin_46 ?_
    refine P_is6 (Or.inr dX4_begin_47) rfl rfl ?_
    refine P_iconst (v := 0) rfl dX4_begin_49 ?_
    refine P_is7 (Or.inr dX4_begin_50) rfl rfl ?_
    exact loop (nn size) 0 (by omega)
  refine P_aloadn (i := 0) rfl rfl dX4_begin_0 ?_
  refine P_iloadn (i := 1) rfl rfl dX4_begin_1 ?_
  refine uX4_22 rfl (by assumption) dX4_begin_2 ?_
  refine P_aloadn (i := 0) rfl rfl dX4_begin_5 ?_
  refine P_iloadn (i := 2) rfl rfl dX4_begin_6 ?_
  refine uX4_25 rfl (by assumption) dX4_begin_7 ?_
  refine P_aloadn (i := 0) rfl rfl dX4_begin_10 ?_
  refine P_iloadn (i := 3) rfl rfl dX4_begin_11 ?_
  refine uX4_28 rfl (by assumption) dX4_begin_12 ?_
  refine P_aloadn (i := 0) rfl rfl dX4_begin_15 ?_
  refine P_iload (i := 4) rfl dX4_begin_16 ?_
  refine uX4_31 rfl (by assumption) dX4_begin_18 ?_
  refine P_aloadn (i := 0) rfl rfl dX4_begin_21 ?_
  refine P_iload (i := 5) rfl dX4_begin_22 ?_
  refine P_iconst (v := 2) rfl dX4_begin_24 ?_
  refine P_idiv (by decide) dX4_begin_25 ?_
  refine uX4_34 rfl (by assumption) dX4_begin_26 ?_
  refine P_aloadn (i := 0) rfl rfl dX4_begin_29 ?_
  refine P_iload (i := 5) rfl dX4_begin_30 ?_
  refine P_iconst (v := 2) rfl dX4_begin_32 ?_
  refine P_irem2 (by decide) dX4_begin_33 ?_
  refine P_iconst (v := 1) rfl dX4_begin_34 ?_
  refine P_icmpne dX4_begin_35 (tgt := 42) rfl (fun h35 => ?_) (fun h35 => ?_)
  · refine P_iconst (v := 0) rfl dX4_begin_42 ?_
    refine J43 0 ?_
    exact h01.elim Eq.symm (fun h9 => absurd h9 h35)
  · refine P_iconst (v := 1) rfl dX4_begin_38 ?_
    refine P_goto dX4_begin_39 (tgt := 43) rfl ?_
    exact J43 1 h35.symm
theorem bF_o {F : Nat → Nat → Int32} {q j a : Nat} {from_ to size seed how : Int32} (h : ¬ (128 ≤ j ∧ j < 143 ∧ a = q)) : bF F q from_ to size seed how j a = F j a :=
  (p_up_of (by omega)).trans ((p_up_of (by omega)).trans ((p_up_of (by omega)).trans ((p_up_of (by omega)).trans ((p_up_of (by omega)).trans ((p_up_of (by omega)).trans (p_up_of (by omega)))))))
theorem CW.addP (h : CW L FI AI AL AR w X C U sa) (hp : xp X < 40) {from_ to size seed how : Int32} : CW L (bF (p_up FI 194 w (Int32.ofNat (xp X + 1))) (w + 39 + 2 * xp X) from_ to size seed how) AI AL AR w (x_addP X (x_prow0 from_ to size seed how)) C U sa := by
  have ho : ∀ j a, ¬ (128 ≤ j ∧ j < 143 ∧ a = w + 39 + 2 * xp X) → ¬ (j = 194 ∧ a = w) → bF (p_up FI 194 w (Int32.ofNat (xp X + 1))) (w + 39 + 2 * xp X) from_ to size seed how j a = FI j a := fun j a h1 h2 => (bF_o h1).trans (p_up_of h2)
  have e194 : bF (p_up FI 194 w (Int32.ofNat (xp X + 1))) (w + 39 + 2 * xp X) from_ to size seed how 194 w = Int32.ofNat (xp X + 1) := (bF_o (by omega)).trans (p_up_eq _ _ _ _)
  obtain ⟨g0, g1, g2, g3, g4, g5, g6, g7⟩ := h.g
  refine ⟨h.1, ⟨(ho _ _ (by omega) (by omega)).trans g0, (ho _ _ (by omega) (by omega)).trans g1, e194, (ho _ _ (by omega) (by omega)).trans g3, (ho _ _ (by omega) (by omega)).trans g4, (ho _ _ (by omega) (by omega)).trans g5, (ho _ _ (by omega) (by omega)).trans g6, (ho _ _ (by omega) (by omega)).trans g7⟩, h.d, fun i hi => (h.n i hi).cg (fun j h1 h2 => ho j _ (by omega) (by omega)) rfl, fun b hb => (h.b b hb).cg (fun j h1 => ho j _ (by omega) (by omega)), fun p hp9 => ?_, fun i hi => (h.s i hi).cg (fun j h1 h2 => ho j _ (by omega) (by omega)), h.c601, h.b16, hp⟩
  have hp1 := h.p p hp9
  by_cases e : p = xp X
  · refine ⟨fun _ => ?_, fun h1 => ?_⟩
    · obtain ⟨f0, f1, f2, f3, f4, f5, f6, f7⟩ := hp1.2 (by omega)
      have er : xP (x_addP X (x_prow0 from_ to size seed how)) p = x_prow0 from_ to size seed how := by
        funext k
        exact if_pos e
      have et : xT (x_addP X (x_prow0 from_ to size seed how)) p = fun _ => -6 := by
        funext k
        exact if_pos e
      rw [er, et, e]
      rw [e] at f1 f2 f3 f4 f5 f6 f7
      have eo : ∀ j, 135 ≤ j → bF (p_up FI 194 w (Int32.ofNat (xp X + 1))) (w + 39 + 2 * xp X) from_ to size seed how j (w + 39 + 2 * xp X) = FI j (w + 39 + 2 * xp X) := fun j hj => (p_up_n1 _ _ _ _ (by omega)).trans ((p_up_n1 _ _ _ _ (by omega)).trans ((p_up_n1 _ _ _ _ (by omega)).trans ((p_up_n1 _ _ _ _ (by omega)).trans ((p_up_n1 _ _ _ _ (by omega)).trans ((p_up_n1 _ _ _ _ (by omega)).trans ((p_up_n1 _ _ _ _ (by omega)).trans (p_up_n2 _ _ _ _ (by omega))))))))
      unfold RP
      rw [eo 135 (by decide), eo 136 (by decide), eo 137 (by decide), eo 138 (by decide), eo 139 (by decide), eo 140 (by decide), eo 141 (by decide), eo 142 (by decide)]
      refine ⟨⟨(p_up_n1 _ _ _ _ (by decide)).trans ((p_up_n1 _ _ _ _ (by decide)).trans ((p_up_n1 _ _ _ _ (by decide)).trans ((p_up_n1 _ _ _ _ (by decide)).trans ((p_up_n1 _ _ _ _ (by decide)).trans ((p_up_n1 _ _ _ _ (by decide)).trans (p_up_eq _ _ _ _)))))), (p_up_n1 _ _ _ _ (by decide)).trans ((p_up_n1 _ _ _ _ (by decide)).trans ((p_up_n1 _ _ _ _ (by decide)).trans ((p_up_n1 _ _ _ _ (by decide)).trans ((p_up_n1 _ _ _ _ (by decide)).trans (p_up_eq _ _ _ _))))), (p_up_n1 _ _ _ _ (by decide)).trans ((p_up_n1 _ _ _ _ (by decide)).trans ((p_up_n1 _ _ _ _ (by decide)).trans ((p_up_n1 _ _ _ _ (by decide)).trans (p_up_eq _ _ _ _)))), (p_up_n1 _ _ _ _ (by decide)).trans ((p_up_n1 _ _ _ _ (by decide)).trans ((p_up_n1 _ _ _ _ (by decide)).trans (p_up_eq _ _ _ _))), (p_up_n1 _ _ _ _ (by decide)).trans ((p_up_n1 _ _ _ _ (by decide)).trans (p_up_eq _ _ _ _)), p_up_eq _ _ _ _, (p_up_n1 _ _ _ _ (by decide)).trans (p_up_eq _ _ _ _), f1, f2, f3, f4, f5⟩, fun hh => absurd rfl hh, fun _ => ⟨f7, ?_, fun i hi h9 => absurd h9 (show ¬ (0 : Int32) ≤ -6 by decide), fun h9 => ?_⟩, by rw [f7]; decide⟩
      · rw [f6]; exact ⟨by decide, by decide⟩
      · rw [f6] at h9; exact absurd h9 (by decide)
    · have h2 : xp X + 1 ≤ p := h1
      omega
  · have h9 : CP1 (bF (p_up FI 194 w (Int32.ofNat (xp X + 1))) (w + 39 + 2 * xp X) from_ to size seed how) AL w X p := hp1.cg (fun j h1 h2 => ho j _ (by omega) (by omega)) rfl
    have er : xP (x_addP X (x_prow0 from_ to size seed how)) p = xP X p := by
      funext k
      exact if_neg e
    have et : xT (x_addP X (x_prow0 from_ to size seed how)) p = xT X p := by
      funext k
      exact if_neg e
    refine ⟨fun h1 => ?_, fun h1 => ?_⟩
    · have h2 : p < xp X + 1 := h1
      rw [er, et]
      exact h9.1 (by omega)
    · have h2 : xp X + 1 ≤ p := h1
      exact h9.2 (by omega)
theorem x_send_eq (X : XW) (from_ to size seed how : Int32) : xP (x_send X from_ to size seed how) = xP (x_resend (x_addP X (x_prow0 from_ to size seed how)) (xp X)) := by
  funext p k
  show (if p = xp X then x_prow from_ to size seed how k else xP X p k) = p_up (fun p k => if p = xp X then x_prow0 from_ to size seed how k else xP X p k) (xp X) 6 ((if xp X = xp X then x_prow0 from_ to size seed how 6 else xP X (xp X) 6) + 1) p k
  rw [if_pos rfl]
  by_cases e : p = xp X
  · rw [if_pos e]
    by_cases e6 : k = 6
    · rw [e, e6, p_up_eq]; rfl
    · rw [p_up_n2 _ _ _ _ e6, if_pos e]
      exact (if_neg e6).symm
  · rw [if_neg e, p_up_n1 _ _ _ _ e, if_neg e]
theorem s_sendParcel (h : CW L FI AI AL AR w X C U sa) {from_ to size seed how : Int32} (hsz : ib size 4001) (hse : ib seed 256) (hh : 0 ≤ how.toInt) (hp : xp X < 40) (hc : C.length < 601) : Sp g 3 iX6_sendParcel [vr w, vi from_, vi to, vi size, vi seed, vi how] (L, FI, AI, AL, AR) (0, 0) (QCW L FI AI AL AR w (x_send X from_ to size seed how) (C ++ [((Int32.ofNat (xp X), 0, size, 1, how / 2, seed, xG X 0, from_), false)]) (U + 1) sa (some (vi (Int32.ofNat (xp X))))) := by
  refine Sp.of (ls := [some (vr w), some (vi from_), some (vi to), some (vi size), some (vi seed), some (vi how), none]) (by decide +kernel) rfl rfl ?_
  have hw := h.wf
  have hA := h.wa
  have hb16 := h.b16
  have hp40 := h.p40
  have hkp := hw.kP (i := xp X) hp
  refine P_aloadn (i := 0) rfl rfl dX6_sendParcel_0 ?_
  refine gX6_53 rfl (by first | exact hw.kw | exact hw.k3 | exact hkp) h.g.2.2.1 dX6_sendParcel_1 ?_
  refine P_is6 (Or.inr dX6_sendParcel_4) rfl rfl ?_
  refine P_aloadn (i := 0) rfl rfl dX6_sendParcel_6 ?_
  refine P_dup rfl dX6_sendParcel_7 ?_
  refine gX6_53 rfl (by first | exact hw.kw | exact hw.k3 | exact hkp) h.g.2.2.1 dX6_sendParcel_8 ?_
  refine P_iconst (v := 1) rfl dX6_sendParcel_11 ?_
  refine P_iadd dX6_sendParcel_12 ?_
  rw [show Int32.ofNat (xp X) + 1 = Int32.ofNat (xp X + 1) from n_add (xp X) 1]
  refine uX6_53 rfl (by first | exact hw.kw | exact hw.k3 | exact hkp) dX6_sendParcel_13 ?_
  refine P_aloadn (i := 0) rfl rfl dX6_sendParcel_16 ?_
  refine gX6_25 rfl (by first | exact hw.kw | exact hw.k3 | exact hkp) hw.r197 dX6_sendParcel_17 ?_
  refine P_iload (i := 6) rfl dX6_sendParcel_20 ?_
  refine P_aaN (t := 26) (j := xp X) (by decide) (by first | exact hw.kw | exact hw.k3 | exact hkp) rfl (by omega) (by rw [hw.l3]; omega) (hA.2.2.1 _ (by omega)) dX6_sendParcel_22 ?_
  refine P_iloadn (i := 1) rfl rfl dX6_sendParcel_23 ?_
  refine P_iloadn (i := 2) rfl rfl dX6_sendParcel_24 ?_
  refine P_iloadn (i := 3) rfl rfl dX6_sendParcel_25 ?_
  refine P_iload (i := 4) rfl dX6_sendParcel_26 ?_
  refine P_iload (i := 5) rfl dX6_sendParcel_28 ?_
  refine kX6_102 rfl (s_begin hkp hsz hse hh) (by decide) hkp rfl dX6_sendParcel_30 (fun r30 s30 q30 => ?_)
  obtain ⟨rfl, rfl⟩ := q30
  have h2 := h.addP hp (from_ := from_) (to := to) (size := size) (seed := seed) (how := how)
  have hpi : ib (Int32.ofNat (xp X)) (xp (x_addP X (x_prow0 from_ to size seed how))) := ib.of (by show xp X < xp X + 1; omega) (by omega)
  have hnp : nn (Int32.ofNat (xp X)) = xp X := n_nn (by omega)
  refine P_aloadn (i := 0) rfl rfl dX6_sendParcel_33 ?_
  refine P_iload (i := 6) rfl dX6_sendParcel_34 ?_
  refine kX6_106 rfl (s_launch h2 hpi hc) (by decide) (by first | exact hw.kw | exact hw.k3 | exact hkp) rfl dX6_sendParcel_36 (fun r36 s36 q36 => ?_)
  obtain ⟨F3, A3, B3, rfl, rfl, hf3, h3⟩ := q36
  refine P_pop rfl dX6_sendParcel_39 ?_
  refine P_iload (i := 6) rfl dX6_sendParcel_40 ?_
  refine P_ireturn rfl dX6_sendParcel_42 ?_
  refine ⟨F3, A3, B3, rfl, rfl, FrC.tr (fun a ha => ⟨fun j => (bF_o (by omega)).trans (p_up_of (by omega)), rfl, rfl, rfl⟩) hf3, ?_⟩
  rw [hnp] at h3
  have e0 : ∀ k, xP (x_addP X (x_prow0 from_ to size seed how)) (xp X) k = x_prow0 from_ to size seed how k := fun k => if_pos rfl
  rw [e0, e0, e0, e0] at h3
  exact h3.eqv rfl rfl rfl (x_send_eq X from_ to size seed how) rfl rfl rfl
theorem s_forgeSlice (h : CW L FI AI AL AR w X C U sa) {p off len la seed : Int32} (hp : ib p (xp X)) (hla : la = 0 ∨ la = 1) (hc : C.length < 601) : Sp g 2 iX6_forgeSlice [vr w, vi p, vi off, vi len, vi la, vi seed] (L, FI, AI, AL, AR) (0, 0) (QCW L FI AI AL AR w (x_forge X (nn p) off len la seed) (C ++ [((p, off, len, la, 0, seed, xG X 0, xP X (nn p) 1), false)]) (U + 1) sa (some (vi (Int32.ofNat (U + 1))))) := by
  refine Sp.of (ls := [some (vr w), some (vi p), some (vi off), some (vi len), some (vi la), some (vi seed), none]) (by decide +kernel) rfl rfl ?_
  have hw := h.wf
  have hA := h.wa
  have hb16 := h.b16
  have hp40 := h.p40
  have hp9 := hp.nn
  have hsl := hA.lo (i := C.length) hc
  have hks := hw.ks hA (i := C.length) hc
  have hkp := hw.kP (i := nn p) (by omega)
  have J32 : ∀ z : Int32, z = la → P g 2 iX6_forgeSlice 32 [some (vr w), some (vi p), some (vi off), some (vi len), some (vi la), some (vi seed), some (vr (sa C.length))] [vi z, vi len, vi off, vr (sa C.length)] (L, p_up FI 160 (sa C.length) p, AI, AL, AR) (0, 0) (QCW L FI AI AL AR w (x_forge X (nn p) off len la seed) (C ++ [((p, off, len, la, 0, seed, xG X 0, xP X (nn p) 1), false)]) (U + 1) sa (some (vi (Int32.ofNat (U + 1))))) := by
    intro z hz
    subst hz
    refine kX6_123 rfl (s_span hks hla) (by decide) hks rfl dX6_forgeSlice_32 (fun r32 s32 q32 => ?_)
    obtain ⟨rfl, rfl⟩ := q32
    refine P_aload (i := 6) rfl dX6_forgeSlice_35 ?_
    refine P_iconst (v := 0) rfl dX6_forgeSlice_37 ?_
    refine uX6_130 rfl (by first | exact hw.kw | exact hw.k3 | exact hw.k4 | exact hks) dX6_forgeSlice_38 ?_
    refine P_aload (i := 6) rfl dX6_forgeSlice_41 ?_
    refine P_iload (i := 5) rfl dX6_forgeSlice_43 ?_
    refine uX6_134 rfl (by first | exact hw.kw | exact hw.k3 | exact hw.k4 | exact hks) dX6_forgeSlice_45 ?_
    refine P_aload (i := 6) rfl dX6_forgeSlice_48 ?_
    refine P_aloadn (i := 0) rfl rfl dX6_forgeSlice_50 ?_
    refine gX6_25 rfl (by first | exact hw.kw | exact hw.k3 | exact hw.k4 | exact hks) hw.r197 dX6_forgeSlice_51 ?_
    refine P_iloadn (i := 1) rfl rfl dX6_forgeSlice_54 ?_
    refine P_aaN (t := 26) (j := nn p) (by decide) (by first | exact hw.kw | exact hw.k3 | exact hw.k4 | exact hks) hp.eq (by omega) (by rw [hw.l3]; omega) (hA.2.2.1 _ (by omega)) dX6_forgeSlice_55 ?_
    refine gX6_148 rfl hkp ((p_up_n1 _ _ _ _ (by decide)).trans ((p_up_n1 _ _ _ _ (by decide)).trans ((p_up_n1 _ _ _ _ (by decide)).trans ((p_up_n1 _ _ _ _ (by decide)).trans ((p_up_n1 _ _ _ _ (by decide)).trans ((p_up_n1 _ _ _ _ (by decide)).trans (((h.p (nn p) (by omega)).1 hp.nn).1.2.1))))))) dX6_forgeSlice_56 ?_
    refine P_aloadn (i := 0) rfl rfl dX6_forgeSlice_59 ?_
    refine gX6_46 rfl (by first | exact hw.kw | exact hw.k3 | exact hw.k4 | exact hks) ((p_up_n1 _ _ _ _ (by decide)).trans ((p_up_n1 _ _ _ _ (by decide)).trans ((p_up_n1 _ _ _ _ (by decide)).trans ((p_up_n1 _ _ _ _ (by decide)).trans ((p_up_n1 _ _ _ _ (by decide)).trans ((p_up_n1 _ _ _ _ (by decide)).trans (h.g.1))))))) dX6_forgeSlice_60 ?_
    refine kX6_138 rfl (s_arrive hks) (by decide) hks rfl dX6_forgeSlice_63 (fun r63 s63 q63 => ?_)
    obtain ⟨rfl, rfl⟩ := q63
    have hFs : ∀ (j a : Nat), ¬ (160 ≤ j ∧ j < 169 ∧ a = sa C.length) → (p_up (p_up (p_up (p_up (p_up (p_up (p_up (p_up (p_up (FI) 160 (sa C.length) p) 161 (sa C.length) off) 162 (sa C.length) len) 165 (sa C.length) z) 163 (sa C.length) 0) 164 (sa C.length) seed) 166 (sa C.length) (xP X (nn p) 1)) 167 (sa C.length) (xG X 0)) 168 (sa C.length) 0) j a = FI j a := fun j a hja => (p_up_of (by omega)).trans ((p_up_of (by omega)).trans ((p_up_of (by omega)).trans ((p_up_of (by omega)).trans ((p_up_of (by omega)).trans ((p_up_of (by omega)).trans ((p_up_of (by omega)).trans ((p_up_of (by omega)).trans ((p_up_of (by omega)).trans (rfl)))))))))
    have hS := h.slot (Nat.le_refl _) (by omega) hFs
    have hL : SL (p_up (p_up (p_up (p_up (p_up (p_up (p_up (p_up (p_up (FI) 160 (sa C.length) p) 161 (sa C.length) off) 162 (sa C.length) len) 165 (sa C.length) z) 163 (sa C.length) 0) 164 (sa C.length) seed) 166 (sa C.length) (xP X (nn p) 1)) 167 (sa C.length) (xG X 0)) 168 (sa C.length) 0) (sa C.length) (((p, off, len, z, 0, seed, xG X 0, xP X (nn p) 1), false) : XC).1 := ⟨(p_up_n1 _ _ _ _ (by decide)).trans ((p_up_n1 _ _ _ _ (by decide)).trans ((p_up_n1 _ _ _ _ (by decide)).trans ((p_up_n1 _ _ _ _ (by decide)).trans ((p_up_n1 _ _ _ _ (by decide)).trans ((p_up_n1 _ _ _ _ (by decide)).trans ((p_up_n1 _ _ _ _ (by decide)).trans ((p_up_n1 _ _ _ _ (by decide)).trans (p_up_eq _ _ _ _)))))))), (p_up_n1 _ _ _ _ (by decide)).trans ((p_up_n1 _ _ _ _ (by decide)).trans ((p_up_n1 _ _ _ _ (by decide)).trans ((p_up_n1 _ _ _ _ (by decide)).trans ((p_up_n1 _ _ _ _ (by decide)).trans ((p_up_n1 _ _ _ _ (by decide)).trans ((p_up_n1 _ _ _ _ (by decide)).trans (p_up_eq _ _ _ _))))))), (p_up_n1 _ _ _ _ (by decide)).trans ((p_up_n1 _ _ _ _ (by decide)).trans ((p_up_n1 _ _ _ _ (by decide)).trans ((p_up_n1 _ _ _ _ (by decide)).trans ((p_up_n1 _ _ _ _ (by decide)).trans ((p_up_n1 _ _ _ _ (by decide)).trans (p_up_eq _ _ _ _)))))), (p_up_n1 _ _ _ _ (by decide)).trans ((p_up_n1 _ _ _ _ (by decide)).trans ((p_up_n1 _ _ _ _ (by decide)).trans ((p_up_n1 _ _ _ _ (by decide)).trans ((p_up_n1 _ _ _ _ (by decide)).trans (p_up_eq _ _ _ _))))), (p_up_n1 _ _ _ _ (by decide)).trans ((p_up_n1 _ _ _ _ (by decide)).trans ((p_up_n1 _ _ _ _ (by decide)).trans ((p_up_n1 _ _ _ _ (by decide)).trans (p_up_eq _ _ _ _)))), (p_up_n1 _ _ _ _ (by decide)).trans ((p_up_n1 _ _ _ _ (by decide)).trans ((p_up_n1 _ _ _ _ (by decide)).trans (p_up_eq _ _ _ _))), (p_up_n1 _ _ _ _ (by decide)).trans (p_up_eq _ _ _ _), (p_up_n1 _ _ _ _ (by decide)).trans ((p_up_n1 _ _ _ _ (by decide)).trans (p_up_eq _ _ _ _))⟩
    have hG : (p_up (p_up (p_up (p_up (p_up (p_up (p_up (p_up (p_up (FI) 160 (sa C.length) p) 161 (sa C.length) off) 162 (sa C.length) len) 165 (sa C.length) z) 163 (sa C.length) 0) 164 (sa C.length) seed) 166 (sa C.length) (xP X (nn p) 1)) 167 (sa C.length) (xG X 0)) 168 (sa C.length) 0) 168 (sa C.length) = (if (((p, off, len, z, 0, seed, xG X 0, xP X (nn p) 1), false) : XC).2 = true then 1 else 0) := p_up_eq _ _ _ _
    generalize (p_up (p_up (p_up (p_up (p_up (p_up (p_up (p_up (p_up (FI) 160 (sa C.length) p) 161 (sa C.length) off) 162 (sa C.length) len) 165 (sa C.length) z) 163 (sa C.length) 0) 164 (sa C.length) seed) 166 (sa C.length) (xP X (nn p) 1)) 167 (sa C.length) (xG X 0)) 168 (sa C.length) 0) = F1 at hFs hS hL hG ⊢
    refine P_aloadn (i := 0) rfl rfl dX6_forgeSlice_66 ?_
    refine kX6_142 rfl (s_countNew hw.kw hS.g.2.2.2.1 hS.g.2.2.2.2.1 hS.g.2.2.2.2.2.1) (by decide) (by first | exact hw.kw | exact hw.k3 | exact hw.k4 | exact hks) rfl dX6_forgeSlice_67 (fun r67 s67 q67 => ?_)
    obtain ⟨rfl, rfl⟩ := q67
    have hT := ((hS.add (σ := ((p, off, len, z, 0, seed, xG X 0, xP X (nn p) 1), false)) (by omega) hL hG).u (U + 1)).g4 (xG X 4 + 1)
    refine P_aloadn (i := 0) rfl rfl dX6_forgeSlice_70 ?_
    refine gX6_59 rfl (by first | exact hw.kw | exact hw.k3 | exact hw.k4 | exact hks) hT.g.2.2.2.2.1 dX6_forgeSlice_71 ?_
    refine P_ireturn rfl dX6_forgeSlice_74 ?_
    have hf1 : FrC w FI AI AL AR F1 AI AL AR := fun a ha => ⟨fun j => hFs j a (by omega), rfl, rfl, rfl⟩
    refine ⟨_, _, _, rfl, rfl, ((hf1.uF (by omega)).uF (by omega)).uF (by omega), ?_⟩
    exact hT.xs _
  refine P_aloadn (i := 0) rfl rfl dX6_forgeSlice_0 ?_
  refine gX6_31 rfl (by first | exact hw.kw | exact hw.k4) hw.r198 dX6_forgeSlice_1 ?_
  refine P_aloadn (i := 0) rfl rfl dX6_forgeSlice_4 ?_
  refine gX6_56 rfl (by first | exact hw.kw | exact hw.k4) h.g.2.2.2.1 dX6_forgeSlice_5 ?_
  refine P_aaN (t := 27) (j := C.length) (by decide) (by first | exact hw.kw | exact hw.k4) rfl (by omega) (by rw [hw.l4]; omega) (hA.s (by omega)) dX6_forgeSlice_8 ?_
  refine P_as6 (Or.inr dX6_forgeSlice_9) rfl rfl ?_
  refine P_aload (i := 6) rfl dX6_forgeSlice_11 ?_
  refine P_iloadn (i := 1) rfl rfl dX6_forgeSlice_13 ?_
  refine uX6_117 rfl hks dX6_forgeSlice_14 ?_
  refine P_aload (i := 6) rfl dX6_forgeSlice_17 ?_
  refine P_iloadn (i := 2) rfl rfl dX6_forgeSlice_19 ?_
  refine P_iloadn (i := 3) rfl rfl dX6_forgeSlice_20 ?_
  refine P_iload (i := 4) rfl dX6_forgeSlice_21 ?_
  refine P_iconst (v := 1) rfl dX6_forgeSlice_23 ?_
  refine P_icmpne dX6_forgeSlice_24 (tgt := 31) rfl (fun h24 => ?_) (fun h24 => ?_)
  · refine P_iconst (v := 0) rfl dX6_forgeSlice_31 ?_
    refine J32 0 ?_
    exact hla.elim Eq.symm (fun h9 => absurd h9 h24)
  · refine P_iconst (v := 1) rfl dX6_forgeSlice_27 ?_
    refine P_goto dX6_forgeSlice_28 (tgt := 32) rfl ?_
    exact J32 1 h24.symm
theorem s_errSend (h : CW L FI AI AL AR w X C U sa) (hU : U < 1000000) {from_ to size seed how : Int32} : Sp g 2 iX6_errorOfSending [vr w, vi from_, vi to, vi size, vi seed, vi how] (L, FI, AI, AL, AR) (0, 0) (QI (L, FI, AI, AL, AR) (e_send X U from_ to size seed how)) := by
  refine Sp.of (ls := [some (vr w), some (vi from_), some (vi to), some (vi size), some (vi seed), some (vi how)]) (by decide +kernel) rfl rfl ?_
  have hw := h.wf
  have hA := h.wa
  have hb16 := h.b16
  have hp40 := h.p40
  refine P_iloadn (i := 1) rfl rfl dX6_errorOfSending_0 ?_
  refine P_iloadn (i := 2) rfl rfl dX6_errorOfSending_1 ?_
  refine kX6_94 rfl s_isPair (by decide) rfl dX6_errorOfSending_2 (fun r2 s2 q2 => ?_)
  obtain ⟨rfl, rfl⟩ := q2
  refine P_ifne dX6_errorOfSending_5 (tgt := 10) rfl (fun h5 => ?_) (fun h5 => ?_)
  · refine P_iloadn (i := 3) rfl rfl dX6_errorOfSending_10 ?_
    refine P_iconst (v := 1) rfl dX6_errorOfSending_11 ?_
    refine P_sipush (v := 4000) rfl dX6_errorOfSending_12 ?_
    refine kX6_90 rfl s_X7_isWithin (by decide) rfl dX6_errorOfSending_15 (fun r15 s15 q15 => ?_)
    obtain ⟨rfl, rfl⟩ := q15
    refine P_ifeq dX6_errorOfSending_18 (tgt := 33) rfl (fun h18 => ?_) (fun h18 => ?_)
    · refine P_bipush (v := (-2)) rfl dX6_errorOfSending_33 ?_
      refine P_ireturn rfl dX6_errorOfSending_35 ?_
      rw [show e_send X U from_ to size seed how = -2 from (if_neg (fun hh => hh (b_t h5))).trans (if_pos (fun hh => b_f h18 hh.1))]
      exact ⟨rfl, rfl⟩
    · refine P_iload (i := 4) rfl dX6_errorOfSending_21 ?_
      refine P_iconst (v := 0) rfl dX6_errorOfSending_23 ?_
      refine P_sipush (v := 255) rfl dX6_errorOfSending_24 ?_
      refine kX6_90 rfl s_X7_isWithin (by decide) rfl dX6_errorOfSending_27 (fun r27 s27 q27 => ?_)
      obtain ⟨rfl, rfl⟩ := q27
      refine P_ifne dX6_errorOfSending_30 (tgt := 36) rfl (fun h30 => ?_) (fun h30 => ?_)
      · refine P_iload (i := 5) rfl dX6_errorOfSending_36 ?_
        refine P_iconst (v := 2) rfl dX6_errorOfSending_38 ?_
        refine P_bipush (v := 41) rfl dX6_errorOfSending_39 ?_
        refine kX6_90 rfl s_X7_isWithin (by decide) rfl dX6_errorOfSending_41 (fun r41 s41 q41 => ?_)
        obtain ⟨rfl, rfl⟩ := q41
        refine P_ifne dX6_errorOfSending_44 (tgt := 50) rfl (fun h44 => ?_) (fun h44 => ?_)
        · refine P_aloadn (i := 0) rfl rfl dX6_errorOfSending_50 ?_
          refine gX6_53 rfl (by first | assumption | exact hw.kw | exact hw.k1 | exact hw.k2 | exact hw.k3 | exact hw.k4 | exact hw.k5 | exact hw.k6) h.g.2.2.1 dX6_errorOfSending_51 ?_
          refine P_bipush (v := 40) rfl dX6_errorOfSending_54 ?_
          refine P_icmpge dX6_errorOfSending_56 (tgt := 66) rfl (fun h56 => ?_) (fun h56 => ?_)
          · refine P_bipush (v := (-4)) rfl dX6_errorOfSending_66 ?_
            refine P_goto dX6_errorOfSending_68 (tgt := 72) rfl ?_
            refine P_ireturn rfl dX6_errorOfSending_72 ?_
            rw [show e_send X U from_ to size seed how = -4 from (if_neg (fun hh => hh (b_t h5))).trans ((if_neg (fun hh => hh ⟨b_t h18, b_t h30, b_t h44⟩)).trans (if_pos (Or.inl ((n_le (a := 40) (by omega) (by omega)).mp h56))))]
            exact ⟨rfl, rfl⟩
          · refine P_aloadn (i := 0) rfl rfl dX6_errorOfSending_59 ?_
            refine kX6_98 rfl (s_isFull hw.kw h.g.2.2.2.2.1 hU) (by decide) (by first | assumption | exact hw.kw | exact hw.k1 | exact hw.k2 | exact hw.k3 | exact hw.k4 | exact hw.k5 | exact hw.k6) rfl dX6_errorOfSending_60 (fun r60 s60 q60 => ?_)
            obtain ⟨rfl, rfl⟩ := q60
            refine P_ifeq dX6_errorOfSending_63 (tgt := 71) rfl (fun h63 => ?_) (fun h63 => ?_)
            · refine P_iconst (v := 0) rfl dX6_errorOfSending_71 ?_
              refine P_ireturn rfl dX6_errorOfSending_72 ?_
              rw [show e_send X U from_ to size seed how = 0 from (if_neg (fun hh => hh (b_t h5))).trans ((if_neg (fun hh => hh ⟨b_t h18, b_t h30, b_t h44⟩)).trans (if_neg (fun hh => hh.elim (fun h9 => h56 ((n_le (a := 40) (by omega) (by omega)).mpr h9)) (b_f h63))))]
              exact ⟨rfl, rfl⟩
            · refine P_bipush (v := (-4)) rfl dX6_errorOfSending_66 ?_
              refine P_goto dX6_errorOfSending_68 (tgt := 72) rfl ?_
              refine P_ireturn rfl dX6_errorOfSending_72 ?_
              rw [show e_send X U from_ to size seed how = -4 from (if_neg (fun hh => hh (b_t h5))).trans ((if_neg (fun hh => hh ⟨b_t h18, b_t h30, b_t h44⟩)).trans (if_pos (Or.inr (b_t h63))))]
              exact ⟨rfl, rfl⟩
        · refine P_bipush (v := (-2)) rfl dX6_errorOfSending_47 ?_
          refine P_ireturn rfl dX6_errorOfSending_49 ?_
          rw [show e_send X U from_ to size seed how = -2 from (if_neg (fun hh => hh (b_t h5))).trans (if_pos (fun hh => b_f h44 hh.2.2))]
          exact ⟨rfl, rfl⟩
      · refine P_bipush (v := (-2)) rfl dX6_errorOfSending_33 ?_
        refine P_ireturn rfl dX6_errorOfSending_35 ?_
        rw [show e_send X U from_ to size seed how = -2 from (if_neg (fun hh => hh (b_t h5))).trans (if_pos (fun hh => b_f h30 hh.2.1))]
        exact ⟨rfl, rfl⟩
  · refine P_iconst (v := (-1)) rfl dX6_errorOfSending_8 ?_
    refine P_ireturn rfl dX6_errorOfSending_9 ?_
    rw [show e_send X U from_ to size seed how = -1 from if_pos (b_f h5)]
    exact ⟨rfl, rfl⟩
theorem s_errResend (h : CW L FI AI AL AR w X C U sa) (hU : U < 1000000) {p : Int32} : Sp g 2 iX6_errorOfResending [vr w, vi p] (L, FI, AI, AL, AR) (0, 0) (QI (L, FI, AI, AL, AR) (e_resend X U p)) := by
  refine Sp.of (ls := [some (vr w), some (vi p), none]) (by decide +kernel) rfl rfl ?_
  have hw := h.wf
  have hA := h.wa
  have hb16 := h.b16
  have hp40 := h.p40
  refine P_aloadn (i := 0) rfl rfl dX6_errorOfResending_0 ?_
  refine P_iloadn (i := 1) rfl rfl dX6_errorOfResending_1 ?_
  refine kX6_110 rfl (s_parcelAt h) (by decide) (by first | assumption | exact hw.kw | exact hw.k1 | exact hw.k2 | exact hw.k3 | exact hw.k4 | exact hw.k5 | exact hw.k6) rfl dX6_errorOfResending_2 (fun r2 s2 q2 => ?_)
  obtain ⟨rfl, rfl⟩ := q2
  by_cases hq : q_ib p (xp X) = true
  · have hp := q_ib_iff.mp hq
    have hp9 := hp.nn
    have hkp := hw.kP (i := nn p) (by omega)
    rw [if_pos hq]
    refine P_as2 (Or.inl dX6_errorOfResending_5) rfl rfl ?_
    refine P_aloadn (i := 2) rfl rfl dX6_errorOfResending_6 ?_
    refine P_ifnonnull dX6_errorOfResending_7 (tgt := 12) rfl (fun a7 h7 => ?_) (fun h7 => by cases h7)
    cases h7
    refine P_aloadn (i := 0) rfl rfl dX6_errorOfResending_12 ?_
    refine kX6_98 rfl (s_isFull hw.kw h.g.2.2.2.2.1 hU) (by decide) (by first | assumption | exact hw.kw | exact hw.k1 | exact hw.k2 | exact hw.k3 | exact hw.k4 | exact hw.k5 | exact hw.k6) rfl dX6_errorOfResending_13 (fun r13 s13 q13 => ?_)
    obtain ⟨rfl, rfl⟩ := q13
    refine P_ifeq dX6_errorOfResending_16 (tgt := 22) rfl (fun h16 => ?_) (fun h16 => ?_)
    · refine P_aloadn (i := 2) rfl rfl dX6_errorOfResending_22 ?_
      refine gX6_114 rfl (by first | assumption | exact hw.kw | exact hw.k1 | exact hw.k2 | exact hw.k3 | exact hw.k4 | exact hw.k5 | exact hw.k6) ((h.p (nn p) (by omega)).1 hp9).1.2.2.2.2.2.2.2.1 dX6_errorOfResending_23 ?_
      refine P_ifeq dX6_errorOfResending_26 (tgt := 34) rfl (fun h26 => ?_) (fun h26 => ?_)
      · refine P_iconst (v := 0) rfl dX6_errorOfResending_34 ?_
        refine P_ireturn rfl dX6_errorOfResending_35 ?_
        rw [show e_resend X U p = 0 from (if_neg (fun hh => hh hq)).trans ((if_neg (b_f h16)).trans (if_neg (fun hh => hh h26)))]
        exact ⟨rfl, rfl⟩
      · refine P_bipush (v := (-5)) rfl dX6_errorOfResending_29 ?_
        refine P_goto dX6_errorOfResending_31 (tgt := 35) rfl ?_
        refine P_ireturn rfl dX6_errorOfResending_35 ?_
        rw [show e_resend X U p = -5 from (if_neg (fun hh => hh hq)).trans ((if_neg (b_f h16)).trans (if_pos h26))]
        exact ⟨rfl, rfl⟩
    · refine P_bipush (v := (-4)) rfl dX6_errorOfResending_19 ?_
      refine P_ireturn rfl dX6_errorOfResending_21 ?_
      rw [show e_resend X U p = -4 from (if_neg (fun hh => hh hq)).trans (if_pos (b_t h16))]
      exact ⟨rfl, rfl⟩
  · rw [if_neg hq]
    refine P_as2 (Or.inl dX6_errorOfResending_5) rfl rfl ?_
    refine P_aloadn (i := 2) rfl rfl dX6_errorOfResending_6 ?_
    refine P_ifnonnull dX6_errorOfResending_7 (tgt := 12) rfl (fun a7 h7 => by cases h7) (fun h7 => ?_)
    refine P_iconst (v := (-1)) rfl dX6_errorOfResending_10 ?_
    refine P_ireturn rfl dX6_errorOfResending_11 ?_
    rw [show e_resend X U p = -1 from if_pos hq]
    exact ⟨rfl, rfl⟩
theorem s_errForge (h : CW L FI AI AL AR w X C U sa) (hU : U < 1000000) {p off len la seed : Int32} : Sp g 2 iX6_errorOfForging [vr w, vi p, vi off, vi len, vi la, vi seed] (L, FI, AI, AL, AR) (0, 0) (QI (L, FI, AI, AL, AR) (e_forge X U p off len la seed)) := by
  refine Sp.of (ls := [some (vr w), some (vi p), some (vi off), some (vi len), some (vi la), some (vi seed)]) (by decide +kernel) rfl rfl ?_
  have hw := h.wf
  have hA := h.wa
  have hb16 := h.b16
  have hp40 := h.p40
  refine P_aloadn (i := 0) rfl rfl dX6_errorOfForging_0 ?_
  refine P_iloadn (i := 1) rfl rfl dX6_errorOfForging_1 ?_
  refine kX6_110 rfl (s_parcelAt h) (by decide) (by first | assumption | exact hw.kw | exact hw.k1 | exact hw.k2 | exact hw.k3 | exact hw.k4 | exact hw.k5 | exact hw.k6) rfl dX6_errorOfForging_2 (fun r2 s2 q2 => ?_)
  obtain ⟨rfl, rfl⟩ := q2
  by_cases hq : q_ib p (xp X) = true
  · have hp := q_ib_iff.mp hq
    have hp9 := hp.nn
    have hkp := hw.kP (i := nn p) (by omega)
    rw [if_pos hq]
    refine P_ifnonnull dX6_errorOfForging_5 (tgt := 10) rfl (fun a5 h5 => ?_) (fun h5 => by cases h5)
    cases h5
    refine P_iloadn (i := 2) rfl rfl dX6_errorOfForging_10 ?_
    refine P_iconst (v := 0) rfl dX6_errorOfForging_11 ?_
    refine P_sipush (v := 3999) rfl dX6_errorOfForging_12 ?_
    refine kX6_90 rfl s_X7_isWithin (by decide) rfl dX6_errorOfForging_15 (fun r15 s15 q15 => ?_)
    obtain ⟨rfl, rfl⟩ := q15
    refine P_ifeq dX6_errorOfForging_18 (tgt := 32) rfl (fun h18 => ?_) (fun h18 => ?_)
    · refine P_bipush (v := (-2)) rfl dX6_errorOfForging_32 ?_
      refine P_ireturn rfl dX6_errorOfForging_34 ?_
      rw [show e_forge X U p off len la seed = -2 from (if_neg (fun hh => hh hq)).trans (if_pos (fun hh => b_f h18 hh.1))]
      exact ⟨rfl, rfl⟩
    · refine P_iloadn (i := 3) rfl rfl dX6_errorOfForging_21 ?_
      refine P_iconst (v := 1) rfl dX6_errorOfForging_22 ?_
      refine P_sipush (v := 1500) rfl dX6_errorOfForging_23 ?_
      refine kX6_90 rfl s_X7_isWithin (by decide) rfl dX6_errorOfForging_26 (fun r26 s26 q26 => ?_)
      obtain ⟨rfl, rfl⟩ := q26
      refine P_ifne dX6_errorOfForging_29 (tgt := 35) rfl (fun h29 => ?_) (fun h29 => ?_)
      · refine P_iload (i := 4) rfl dX6_errorOfForging_35 ?_
        refine P_iconst (v := 0) rfl dX6_errorOfForging_37 ?_
        refine P_iconst (v := 1) rfl dX6_errorOfForging_38 ?_
        refine kX6_90 rfl s_X7_isWithin (by decide) rfl dX6_errorOfForging_39 (fun r39 s39 q39 => ?_)
        obtain ⟨rfl, rfl⟩ := q39
        refine P_ifeq dX6_errorOfForging_42 (tgt := 57) rfl (fun h42 => ?_) (fun h42 => ?_)
        · refine P_bipush (v := (-2)) rfl dX6_errorOfForging_57 ?_
          refine P_ireturn rfl dX6_errorOfForging_59 ?_
          rw [show e_forge X U p off len la seed = -2 from (if_neg (fun hh => hh hq)).trans (if_pos (fun hh => b_f h42 hh.2.2.1))]
          exact ⟨rfl, rfl⟩
        · refine P_iload (i := 5) rfl dX6_errorOfForging_45 ?_
          refine P_iconst (v := 0) rfl dX6_errorOfForging_47 ?_
          refine P_sipush (v := 255) rfl dX6_errorOfForging_48 ?_
          refine kX6_90 rfl s_X7_isWithin (by decide) rfl dX6_errorOfForging_51 (fun r51 s51 q51 => ?_)
          obtain ⟨rfl, rfl⟩ := q51
          refine P_ifne dX6_errorOfForging_54 (tgt := 60) rfl (fun h54 => ?_) (fun h54 => ?_)
          · refine P_aloadn (i := 0) rfl rfl dX6_errorOfForging_60 ?_
            refine kX6_98 rfl (s_isFull hw.kw h.g.2.2.2.2.1 hU) (by decide) (by first | assumption | exact hw.kw | exact hw.k1 | exact hw.k2 | exact hw.k3 | exact hw.k4 | exact hw.k5 | exact hw.k6) rfl dX6_errorOfForging_61 (fun r61 s61 q61 => ?_)
            obtain ⟨rfl, rfl⟩ := q61
            refine P_ifeq dX6_errorOfForging_64 (tgt := 72) rfl (fun h64 => ?_) (fun h64 => ?_)
            · refine P_iconst (v := 0) rfl dX6_errorOfForging_72 ?_
              refine P_ireturn rfl dX6_errorOfForging_73 ?_
              rw [show e_forge X U p off len la seed = 0 from (if_neg (fun hh => hh hq)).trans ((if_neg (fun hh => hh ⟨b_t h18, b_t h29, b_t h42, b_t h54⟩)).trans (if_neg (b_f h64)))]
              exact ⟨rfl, rfl⟩
            · refine P_bipush (v := (-4)) rfl dX6_errorOfForging_67 ?_
              refine P_goto dX6_errorOfForging_69 (tgt := 73) rfl ?_
              refine P_ireturn rfl dX6_errorOfForging_73 ?_
              rw [show e_forge X U p off len la seed = -4 from (if_neg (fun hh => hh hq)).trans ((if_neg (fun hh => hh ⟨b_t h18, b_t h29, b_t h42, b_t h54⟩)).trans (if_pos (b_t h64)))]
              exact ⟨rfl, rfl⟩
          · refine P_bipush (v := (-2)) rfl dX6_errorOfForging_57 ?_
            refine P_ireturn rfl dX6_errorOfForging_59 ?_
            rw [show e_forge X U p off len la seed = -2 from (if_neg (fun hh => hh hq)).trans (if_pos (fun hh => b_f h54 hh.2.2.2))]
            exact ⟨rfl, rfl⟩
      · refine P_bipush (v := (-2)) rfl dX6_errorOfForging_32 ?_
        refine P_ireturn rfl dX6_errorOfForging_34 ?_
        rw [show e_forge X U p off len la seed = -2 from (if_neg (fun hh => hh hq)).trans (if_pos (fun hh => b_f h29 hh.2.1))]
        exact ⟨rfl, rfl⟩
  · rw [if_neg hq]
    refine P_ifnonnull dX6_errorOfForging_5 (tgt := 10) rfl (fun a5 h5 => by cases h5) (fun h5 => ?_)
    refine P_iconst (v := (-1)) rfl dX6_errorOfForging_8 ?_
    refine P_ireturn rfl dX6_errorOfForging_9 ?_
    rw [show e_forge X U p off len la seed = -1 from if_pos hq]
    exact ⟨rfl, rfl⟩
end Cls6
