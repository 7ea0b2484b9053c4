section Ref7
variable {g : PG} {L : PL} {FI AI : Nat → Nat → Int32} {AL : Nat → Nat → Int64} {AR : Nat → Nat → Option Nat} {m : Nat} {X : XW}
theorem s_layBytes (hM : WM L m) (hA : RA AI m X) {p a b seed ov : Int32} (hp : ib p (xp X)) (ha : ib a 4001) (hb : ib b 4001) (hab : nn a ≤ nn b) (ho : ov = 0 ∨ ov = 1) : Sp g 1 iX8_layBytes [vr m, vi p, vi a, vi b, vi seed, vi ov] (L, FI, AI, AL, AR) (0, 0) (RM L FI AI AL AR m (x_layb X (nn p) (nn a) (nn b) seed (decide (ov = 1))) none) := by
  refine Sp.of (ls := [some (vr m), some (vi p), some (vi a), some (vi b), some (vi seed), some (vi ov), none, none, none]) (by decide +kernel) rfl rfl ?_
  have hp9 := hp.nn
  have hb9 := hb.nn
  have hp40 := hA.p40
  have hp40b : ib p 40 := hp.mono (by omega)
  have hov : ¬ ov = 0 → ov = 1 := fun h => ho.resolve_left h
  refine P_iconst (v := 0) rfl dX8_layBytes_0 ?_
  refine P_is6 (Or.inr dX8_layBytes_1) rfl rfl ?_
  refine P_iloadn (i := 2) rfl rfl dX8_layBytes_3 ?_
  refine P_is7 (Or.inr dX8_layBytes_4) rfl rfl ?_
  have loop : ∀ n i, i + n = nn b → nn a ≤ i → i ≤ nn b → ∀ (B : Nat → Nat → Int32) (hB : ∀ b, b ≠ m + 2 → B b = AI b) (hC : ∀ z, B (m + 2) z = if 4000 * nn p + nn a ≤ z ∧ z < 4000 * nn p + i then (if xT X (nn p) (z - 4000 * nn p) < 0 ∨ ov = 1 then seed else xT X (nn p) (z - 4000 * nn p)) else AI (m + 2) z), P g 1 iX8_layBytes 6 [some (vr m), some (vi p), some (vi a), some (vi b), some (vi seed), some (vi ov), some (vi (x_more (xT X (nn p)) (nn a) (i - nn a))), some (vi (Int32.ofNat i)), none] [] (L, FI, B, AL, AR) (0, 0) (RM L FI AI AL AR m (x_layb X (nn p) (nn a) (nn b) seed (decide (ov = 1))) none) := by
    intro n
    induction n with
    | zero =>
      intro i hi hai hib B hB hC
      have hie : i - nn a = nn b - nn a := (by omega)
      have hB2 : RA B m (x_t X (fun q z => if q = nn p then x_lay (xT X (nn p)) (nn a) (nn b) seed (decide (ov = 1)) z else xT X q z)) := by
        show RF (B (m + 1)) (B (m + 2)) _
        rw [hB (m + 1) (by omega)]
        refine RF.setT hA (fun q z hq hz => ?_)
        rw [hC]
        by_cases e : q = nn p
        · rw [if_pos e, e]
          unfold x_lay
          by_cases e2 : nn a ≤ z ∧ z < nn b
          · rw [if_pos (by omega), show 4000 * nn p + z - 4000 * nn p = z by omega]
            by_cases e3 : xT X (nn p) z < 0 ∨ ov = 1
            · rw [if_pos e3, if_pos ⟨e2.1, e2.2, e3.imp id (fun h => decide_eq_true h)⟩]
            · rw [if_neg e3, if_neg (fun hh => e3 (hh.2.2.imp id (fun h => of_decide_eq_true h)))]
          · rw [if_neg (by omega), if_neg (fun hh => e2 ⟨hh.1, hh.2.1⟩)]
            exact hA.tt hp9 hz
        · rw [if_neg (by omega), if_neg e]
          exact hA.tt hq hz
      refine P_iload (i := 7) rfl dX8_layBytes_6 ?_
      refine P_iloadn (i := 3) rfl rfl dX8_layBytes_8 ?_
      refine P_icmpge dX8_layBytes_9 (tgt := 82) rfl (fun h9 => ?_) (fun h9 => absurd ((hb.leN (by omega)).mpr (by show nn b ≤ i; omega)) h9)
      refine P_aloadn (i := 0) rfl rfl dX8_layBytes_82 ?_
      refine P_iloadn (i := 1) rfl rfl dX8_layBytes_83 ?_
      refine P_bipush (v := 12) rfl dX8_layBytes_84 ?_
      refine P_aloadn (i := 0) rfl rfl dX8_layBytes_86 ?_
      refine P_iloadn (i := 1) rfl rfl dX8_layBytes_87 ?_
      refine P_bipush (v := 12) rfl dX8_layBytes_88 ?_
      refine kX8_102 rfl (s_ofP hM hB2 (k := 12) (by first | assumption | (apply ib.mono (by assumption); omega)) rfl (by decide)) (by decide) (by first | exact hM.k0 | exact hM.k1 | exact hM.k2 | exact hM.k3 | exact hM.k4 | exact hM.k5 | exact hM.k6 | exact hM.k7 | exact hM.k8 | exact hM.k9 | exact hM.k10 | exact hM.k11 | exact hM.k12 | exact hM.k13 | exact hM.k14 | exact hM.k15 | exact hM.k16 | exact hM.k17) rfl dX8_layBytes_90 (fun r90 s90 q90 => ?_)
      obtain ⟨rfl, rfl⟩ := q90
      refine P_iload (i := 6) rfl dX8_layBytes_93 ?_
      refine P_iadd dX8_layBytes_95 ?_
      refine kX8_105 rfl (s_layP hM (k := 12) hp40b rfl (by decide)) (by decide) (by first | exact hM.k0 | exact hM.k1 | exact hM.k2 | exact hM.k3 | exact hM.k4 | exact hM.k5 | exact hM.k6 | exact hM.k7 | exact hM.k8 | exact hM.k9 | exact hM.k10 | exact hM.k11 | exact hM.k12 | exact hM.k13 | exact hM.k14 | exact hM.k15 | exact hM.k16 | exact hM.k17) rfl dX8_layBytes_96 (fun r96 s96 q96 => ?_)
      obtain ⟨rfl, rfl⟩ := q96
      refine P_return rfl dX8_layBytes_99 ?_
      refine ⟨_, rfl, rfl, (fun b0 h1 h2 => (p_up_oth h1).trans (hB b0 h2)), ?_⟩
      have h9 := hB2.setP (i := nn p) (k := 12) (v := xP X (nn p) 12 + x_more (xT X (nn p)) (nn a) (i - nn a)) hp9 (by decide)
      rw [hie] at h9 ⊢
      exact h9
    | succ n ih =>
      intro i hi hai hib B hB hC
      have hti : B (m + 2) (4000 * nn p + i) = xT X (nn p) i := by
        rw [hC, if_neg (by omega)]
        exact hA.tt hp9 (by omega)
      refine P_iload (i := 7) rfl dX8_layBytes_6 ?_
      refine P_iloadn (i := 3) rfl rfl dX8_layBytes_8 ?_
      refine P_icmpge dX8_layBytes_9 (tgt := 82) rfl (fun h9 => absurd h9 (fun h9 => by have h8 : nn b ≤ i := (hb.leN (by omega)).mp h9; omega)) (fun h9 => ?_)
      refine P_sipush (v := 4000) rfl dX8_layBytes_12 ?_
      refine P_iloadn (i := 1) rfl rfl dX8_layBytes_15 ?_
      refine P_imul dX8_layBytes_16 ?_
      refine P_iload (i := 7) rfl dX8_layBytes_17 ?_
      refine P_iadd dX8_layBytes_19 ?_
      rw [n_idt hp i]
      refine P_is8 (Or.inr dX8_layBytes_20) rfl rfl ?_
      refine P_iload (i := 6) rfl dX8_layBytes_22 ?_
      refine P_aloadn (i := 0) rfl rfl dX8_layBytes_24 ?_
      refine gX8_14 rfl (by first | exact hM.k0 | exact hM.k1 | exact hM.k2 | exact hM.k3 | exact hM.k4 | exact hM.k5 | exact hM.k6 | exact hM.k7 | exact hM.k8 | exact hM.k9 | exact hM.k10 | exact hM.k11 | exact hM.k12 | exact hM.k13 | exact hM.k14 | exact hM.k15 | exact hM.k16 | exact hM.k17) hM.r257 dX8_layBytes_25 ?_
      refine P_iload (i := 8) rfl dX8_layBytes_28 ?_
      refine P_iaN (j := 4000 * nn p + i) (by first | exact hM.k0 | exact hM.k1 | exact hM.k2 | exact hM.k3 | exact hM.k4 | exact hM.k5 | exact hM.k6 | exact hM.k7 | exact hM.k8 | exact hM.k9 | exact hM.k10 | exact hM.k11 | exact hM.k12 | exact hM.k13 | exact hM.k14 | exact hM.k15 | exact hM.k16 | exact hM.k17) rfl (by first | omega | (simp only [hM.l1, hM.l2, hM.l3, hM.l4, hM.l5, hM.l6, hM.l7, hM.l8, hM.l9, hM.l10, hM.l11, hM.l12, hM.l13, hM.l14, hM.l15, hM.l16, hM.l17]; omega)) (by first | omega | (simp only [hM.l1, hM.l2, hM.l3, hM.l4, hM.l5, hM.l6, hM.l7, hM.l8, hM.l9, hM.l10, hM.l11, hM.l12, hM.l13, hM.l14, hM.l15, hM.l16, hM.l17]; omega)) hti dX8_layBytes_30 ?_
      refine P_ifge dX8_layBytes_31 (tgt := 38) rfl (fun h31 => ?_) (fun h31 => ?_)
      · refine P_iconst (v := 0) rfl dX8_layBytes_38 ?_
        refine P_iadd dX8_layBytes_39 ?_
        refine P_is6 (Or.inr dX8_layBytes_40) rfl rfl ?_
        refine P_aloadn (i := 0) rfl rfl dX8_layBytes_42 ?_
        refine gX8_14 rfl (by first | exact hM.k0 | exact hM.k1 | exact hM.k2 | exact hM.k3 | exact hM.k4 | exact hM.k5 | exact hM.k6 | exact hM.k7 | exact hM.k8 | exact hM.k9 | exact hM.k10 | exact hM.k11 | exact hM.k12 | exact hM.k13 | exact hM.k14 | exact hM.k15 | exact hM.k16 | exact hM.k17) hM.r257 dX8_layBytes_43 ?_
        refine P_iload (i := 8) rfl dX8_layBytes_46 ?_
        refine P_aloadn (i := 0) rfl rfl dX8_layBytes_48 ?_
        refine gX8_14 rfl (by first | exact hM.k0 | exact hM.k1 | exact hM.k2 | exact hM.k3 | exact hM.k4 | exact hM.k5 | exact hM.k6 | exact hM.k7 | exact hM.k8 | exact hM.k9 | exact hM.k10 | exact hM.k11 | exact hM.k12 | exact hM.k13 | exact hM.k14 | exact hM.k15 | exact hM.k16 | exact hM.k17) hM.r257 dX8_layBytes_49 ?_
        refine P_iload (i := 8) rfl dX8_layBytes_52 ?_
        refine P_iaN (j := 4000 * nn p + i) (by first | exact hM.k0 | exact hM.k1 | exact hM.k2 | exact hM.k3 | exact hM.k4 | exact hM.k5 | exact hM.k6 | exact hM.k7 | exact hM.k8 | exact hM.k9 | exact hM.k10 | exact hM.k11 | exact hM.k12 | exact hM.k13 | exact hM.k14 | exact hM.k15 | exact hM.k16 | exact hM.k17) rfl (by first | omega | (simp only [hM.l1, hM.l2, hM.l3, hM.l4, hM.l5, hM.l6, hM.l7, hM.l8, hM.l9, hM.l10, hM.l11, hM.l12, hM.l13, hM.l14, hM.l15, hM.l16, hM.l17]; omega)) (by first | omega | (simp only [hM.l1, hM.l2, hM.l3, hM.l4, hM.l5, hM.l6, hM.l7, hM.l8, hM.l9, hM.l10, hM.l11, hM.l12, hM.l13, hM.l14, hM.l15, hM.l16, hM.l17]; omega)) hti dX8_layBytes_54 ?_
        refine P_iflt dX8_layBytes_55 (tgt := 63) rfl (fun h55 => ?_) (fun h55 => ?_)
        · refine P_iload (i := 4) rfl dX8_layBytes_63 ?_
          refine P_goto dX8_layBytes_65 (tgt := 75) rfl ?_
          refine P_isN (j := 4000 * nn p + i) (by first | exact hM.k0 | exact hM.k1 | exact hM.k2 | exact hM.k3 | exact hM.k4 | exact hM.k5 | exact hM.k6 | exact hM.k7 | exact hM.k8 | exact hM.k9 | exact hM.k10 | exact hM.k11 | exact hM.k12 | exact hM.k13 | exact hM.k14 | exact hM.k15 | exact hM.k16 | exact hM.k17) rfl (by first | omega | (simp only [hM.l1, hM.l2, hM.l3, hM.l4, hM.l5, hM.l6, hM.l7, hM.l8, hM.l9, hM.l10, hM.l11, hM.l12, hM.l13, hM.l14, hM.l15, hM.l16, hM.l17]; omega)) (by first | omega | (simp only [hM.l1, hM.l2, hM.l3, hM.l4, hM.l5, hM.l6, hM.l7, hM.l8, hM.l9, hM.l10, hM.l11, hM.l12, hM.l13, hM.l14, hM.l15, hM.l16, hM.l17]; omega)) dX8_layBytes_75 ?_
          refine P_inN7 dX8_layBytes_76 rfl rfl ?_
          refine P_goto dX8_layBytes_79 (tgt := 6) rfl ?_
          refine P_few (ls2 := [some (vr m), some (vi p), some (vi a), some (vi b), some (vi seed), some (vi ov), some (vi (x_more (xT X (nn p)) (nn a) (i + 1 - nn a))), some (vi (Int32.ofNat (i + 1))), none]) ⟨rfl, rfl, rfl, rfl, rfl, rfl, congrArg (fun z => some (vi z)) ?_, rfl, trivial⟩ (ih (i + 1) (by omega) (by omega) (by omega) _ (fun b0 hb0 => (p_up_oth hb0).trans (hB b0 hb0)) (fun z => ?_))
          · rw [show i + 1 - nn a = (i - nn a) + 1 by omega]
            show _ = x_more (xT X (nn p)) (nn a) (i - nn a) + (if xT X (nn p) (nn a + (i - nn a)) < 0 then 1 else 0)
            rw [show nn a + (i - nn a) = i by omega, if_neg (Int32.not_lt.mpr h31)]
          · rw [p_up_fn]
            by_cases e : z = 4000 * nn p + i
            · refine (if_pos e).trans ?_
              rw [if_pos (by omega), e, show 4000 * nn p + i - 4000 * nn p = i by omega]
              exact (if_pos (Or.inl h55)).symm
            · refine (if_neg e).trans ?_
              rw [hC]
              by_cases e2 : 4000 * nn p + nn a ≤ z ∧ z < 4000 * nn p + i
              · exact (if_pos e2).trans (if_pos (by omega)).symm
              · exact (if_neg e2).trans (if_neg (by omega)).symm
        · refine P_iload (i := 5) rfl dX8_layBytes_58 ?_
          refine P_ifeq dX8_layBytes_60 (tgt := 68) rfl (fun h60 => ?_) (fun h60 => ?_)
          · refine P_aloadn (i := 0) rfl rfl dX8_layBytes_68 ?_
            refine gX8_14 rfl (by first | exact hM.k0 | exact hM.k1 | exact hM.k2 | exact hM.k3 | exact hM.k4 | exact hM.k5 | exact hM.k6 | exact hM.k7 | exact hM.k8 | exact hM.k9 | exact hM.k10 | exact hM.k11 | exact hM.k12 | exact hM.k13 | exact hM.k14 | exact hM.k15 | exact hM.k16 | exact hM.k17) hM.r257 dX8_layBytes_69 ?_
            refine P_iload (i := 8) rfl dX8_layBytes_72 ?_
            refine P_iaN (j := 4000 * nn p + i) (by first | exact hM.k0 | exact hM.k1 | exact hM.k2 | exact hM.k3 | exact hM.k4 | exact hM.k5 | exact hM.k6 | exact hM.k7 | exact hM.k8 | exact hM.k9 | exact hM.k10 | exact hM.k11 | exact hM.k12 | exact hM.k13 | exact hM.k14 | exact hM.k15 | exact hM.k16 | exact hM.k17) rfl (by first | omega | (simp only [hM.l1, hM.l2, hM.l3, hM.l4, hM.l5, hM.l6, hM.l7, hM.l8, hM.l9, hM.l10, hM.l11, hM.l12, hM.l13, hM.l14, hM.l15, hM.l16, hM.l17]; omega)) (by first | omega | (simp only [hM.l1, hM.l2, hM.l3, hM.l4, hM.l5, hM.l6, hM.l7, hM.l8, hM.l9, hM.l10, hM.l11, hM.l12, hM.l13, hM.l14, hM.l15, hM.l16, hM.l17]; omega)) hti dX8_layBytes_74 ?_
            refine P_isN (j := 4000 * nn p + i) (by first | exact hM.k0 | exact hM.k1 | exact hM.k2 | exact hM.k3 | exact hM.k4 | exact hM.k5 | exact hM.k6 | exact hM.k7 | exact hM.k8 | exact hM.k9 | exact hM.k10 | exact hM.k11 | exact hM.k12 | exact hM.k13 | exact hM.k14 | exact hM.k15 | exact hM.k16 | exact hM.k17) rfl (by first | omega | (simp only [hM.l1, hM.l2, hM.l3, hM.l4, hM.l5, hM.l6, hM.l7, hM.l8, hM.l9, hM.l10, hM.l11, hM.l12, hM.l13, hM.l14, hM.l15, hM.l16, hM.l17]; omega)) (by first | omega | (simp only [hM.l1, hM.l2, hM.l3, hM.l4, hM.l5, hM.l6, hM.l7, hM.l8, hM.l9, hM.l10, hM.l11, hM.l12, hM.l13, hM.l14, hM.l15, hM.l16, hM.l17]; omega)) dX8_layBytes_75 ?_
            refine P_inN7 dX8_layBytes_76 rfl rfl ?_
            refine P_goto dX8_layBytes_79 (tgt := 6) rfl ?_
            refine P_few (ls2 := [some (vr m), some (vi p), some (vi a), some (vi b), some (vi seed), some (vi ov), some (vi (x_more (xT X (nn p)) (nn a) (i + 1 - nn a))), some (vi (Int32.ofNat (i + 1))), none]) ⟨rfl, rfl, rfl, rfl, rfl, rfl, congrArg (fun z => some (vi z)) ?_, rfl, trivial⟩ (ih (i + 1) (by omega) (by omega) (by omega) _ (fun b0 hb0 => (p_up_oth hb0).trans (hB b0 hb0)) (fun z => ?_))
            · rw [show i + 1 - nn a = (i - nn a) + 1 by omega]
              show _ = x_more (xT X (nn p)) (nn a) (i - nn a) + (if xT X (nn p) (nn a + (i - nn a)) < 0 then 1 else 0)
              rw [show nn a + (i - nn a) = i by omega, if_neg (Int32.not_lt.mpr h31)]
            · rw [p_up_fn]
              by_cases e : z = 4000 * nn p + i
              · refine (if_pos e).trans ?_
                rw [if_pos (by omega), e, show 4000 * nn p + i - 4000 * nn p = i by omega]
                exact (if_neg (fun hh => hh.elim (fun h1 => h55 h1) (fun h1 => by rw [h60] at h1; exact absurd h1 (by decide)))).symm
              · refine (if_neg e).trans ?_
                rw [hC]
                by_cases e2 : 4000 * nn p + nn a ≤ z ∧ z < 4000 * nn p + i
                · exact (if_pos e2).trans (if_pos (by omega)).symm
                · exact (if_neg e2).trans (if_neg (by omega)).symm
          · refine P_iload (i := 4) rfl dX8_layBytes_63 ?_
            refine P_goto dX8_layBytes_65 (tgt := 75) rfl ?_
            refine P_isN (j := 4000 * nn p + i) (by first | exact hM.k0 | exact hM.k1 | exact hM.k2 | exact hM.k3 | exact hM.k4 | exact hM.k5 | exact hM.k6 | exact hM.k7 | exact hM.k8 | exact hM.k9 | exact hM.k10 | exact hM.k11 | exact hM.k12 | exact hM.k13 | exact hM.k14 | exact hM.k15 | exact hM.k16 | exact hM.k17) rfl (by first | omega | (simp only [hM.l1, hM.l2, hM.l3, hM.l4, hM.l5, hM.l6, hM.l7, hM.l8, hM.l9, hM.l10, hM.l11, hM.l12, hM.l13, hM.l14, hM.l15, hM.l16, hM.l17]; omega)) (by first | omega | (simp only [hM.l1, hM.l2, hM.l3, hM.l4, hM.l5, hM.l6, hM.l7, hM.l8, hM.l9, hM.l10, hM.l11, hM.l12, hM.l13, hM.l14, hM.l15, hM.l16, hM.l17]; omega)) dX8_layBytes_75 ?_
            refine P_inN7 dX8_layBytes_76 rfl rfl ?_
            refine P_goto dX8_layBytes_79 (tgt := 6) rfl ?_
            refine P_few (ls2 := [some (vr m), some (vi p), some (vi a), some (vi b), some (vi seed), some (vi ov), some (vi (x_more (xT X (nn p)) (nn a) (i + 1 - nn a))), some (vi (Int32.ofNat (i + 1))), none]) ⟨rfl, rfl, rfl, rfl, rfl, rfl, congrArg (fun z => some (vi z)) ?_, rfl, trivial⟩ (ih (i + 1) (by omega) (by omega) (by omega) _ (fun b0 hb0 => (p_up_oth hb0).trans (hB b0 hb0)) (fun z => ?_))
            · rw [show i + 1 - nn a = (i - nn a) + 1 by omega]
              show _ = x_more (xT X (nn p)) (nn a) (i - nn a) + (if xT X (nn p) (nn a + (i - nn a)) < 0 then 1 else 0)
              rw [show nn a + (i - nn a) = i by omega, if_neg (Int32.not_lt.mpr h31)]
            · rw [p_up_fn]
              by_cases e : z = 4000 * nn p + i
              · refine (if_pos e).trans ?_
                rw [if_pos (by omega), e, show 4000 * nn p + i - 4000 * nn p = i by omega]
                exact (if_pos (Or.inr (hov h60))).symm
              · refine (if_neg e).trans ?_
                rw [hC]
                by_cases e2 : 4000 * nn p + nn a ≤ z ∧ z < 4000 * nn p + i
                · exact (if_pos e2).trans (if_pos (by omega)).symm
                · exact (if_neg e2).trans (if_neg (by omega)).symm
      · have h31 := Int32.not_le.mp h31
        refine P_iconst (v := 1) rfl dX8_layBytes_34 ?_
        refine P_goto dX8_layBytes_35 (tgt := 39) rfl ?_
        refine P_iadd dX8_layBytes_39 ?_
        refine P_is6 (Or.inr dX8_layBytes_40) rfl rfl ?_
        refine P_aloadn (i := 0) rfl rfl dX8_layBytes_42 ?_
        refine gX8_14 rfl (by first | exact hM.k0 | exact hM.k1 | exact hM.k2 | exact hM.k3 | exact hM.k4 | exact hM.k5 | exact hM.k6 | exact hM.k7 | exact hM.k8 | exact hM.k9 | exact hM.k10 | exact hM.k11 | exact hM.k12 | exact hM.k13 | exact hM.k14 | exact hM.k15 | exact hM.k16 | exact hM.k17) hM.r257 dX8_layBytes_43 ?_
        refine P_iload (i := 8) rfl dX8_layBytes_46 ?_
        refine P_aloadn (i := 0) rfl rfl dX8_layBytes_48 ?_
        refine gX8_14 rfl (by first | exact hM.k0 | exact hM.k1 | exact hM.k2 | exact hM.k3 | exact hM.k4 | exact hM.k5 | exact hM.k6 | exact hM.k7 | exact hM.k8 | exact hM.k9 | exact hM.k10 | exact hM.k11 | exact hM.k12 | exact hM.k13 | exact hM.k14 | exact hM.k15 | exact hM.k16 | exact hM.k17) hM.r257 dX8_layBytes_49 ?_
        refine P_iload (i := 8) rfl dX8_layBytes_52 ?_
        refine P_iaN (j := 4000 * nn p + i) (by first | exact hM.k0 | exact hM.k1 | exact hM.k2 | exact hM.k3 | exact hM.k4 | exact hM.k5 | exact hM.k6 | exact hM.k7 | exact hM.k8 | exact hM.k9 | exact hM.k10 | exact hM.k11 | exact hM.k12 | exact hM.k13 | exact hM.k14 | exact hM.k15 | exact hM.k16 | exact hM.k17) rfl (by first | omega | (simp only [hM.l1, hM.l2, hM.l3, hM.l4, hM.l5, hM.l6, hM.l7, hM.l8, hM.l9, hM.l10, hM.l11, hM.l12, hM.l13, hM.l14, hM.l15, hM.l16, hM.l17]; omega)) (by first | omega | (simp only [hM.l1, hM.l2, hM.l3, hM.l4, hM.l5, hM.l6, hM.l7, hM.l8, hM.l9, hM.l10, hM.l11, hM.l12, hM.l13, hM.l14, hM.l15, hM.l16, hM.l17]; omega)) hti dX8_layBytes_54 ?_
        refine P_iflt dX8_layBytes_55 (tgt := 63) rfl (fun h55 => ?_) (fun h55 => ?_)
        · refine P_iload (i := 4) rfl dX8_layBytes_63 ?_
          refine P_goto dX8_layBytes_65 (tgt := 75) rfl ?_
          refine P_isN (j := 4000 * nn p + i) (by first | exact hM.k0 | exact hM.k1 | exact hM.k2 | exact hM.k3 | exact hM.k4 | exact hM.k5 | exact hM.k6 | exact hM.k7 | exact hM.k8 | exact hM.k9 | exact hM.k10 | exact hM.k11 | exact hM.k12 | exact hM.k13 | exact hM.k14 | exact hM.k15 | exact hM.k16 | exact hM.k17) rfl (by first | omega | (simp only [hM.l1, hM.l2, hM.l3, hM.l4, hM.l5, hM.l6, hM.l7, hM.l8, hM.l9, hM.l10, hM.l11, hM.l12, hM.l13, hM.l14, hM.l15, hM.l16, hM.l17]; omega)) (by first | omega | (simp only [hM.l1, hM.l2, hM.l3, hM.l4, hM.l5, hM.l6, hM.l7, hM.l8, hM.l9, hM.l10, hM.l11, hM.l12, hM.l13, hM.l14, hM.l15, hM.l16, hM.l17]; omega)) dX8_layBytes_75 ?_
          refine P_inN7 dX8_layBytes_76 rfl rfl ?_
          refine P_goto dX8_layBytes_79 (tgt := 6) rfl ?_
          refine P_few (ls2 := [some (vr m), some (vi p), some (vi a), some (vi b), some (vi seed), some (vi ov), some (vi (x_more (xT X (nn p)) (nn a) (i + 1 - nn a))), some (vi (Int32.ofNat (i + 1))), none]) ⟨rfl, rfl, rfl, rfl, rfl, rfl, congrArg (fun z => some (vi z)) ?_, rfl, trivial⟩ (ih (i + 1) (by omega) (by omega) (by omega) _ (fun b0 hb0 => (p_up_oth hb0).trans (hB b0 hb0)) (fun z => ?_))
          · rw [show i + 1 - nn a = (i - nn a) + 1 by omega]
            show _ = x_more (xT X (nn p)) (nn a) (i - nn a) + (if xT X (nn p) (nn a + (i - nn a)) < 0 then 1 else 0)
            rw [show nn a + (i - nn a) = i by omega, if_pos h31]
          · rw [p_up_fn]
            by_cases e : z = 4000 * nn p + i
            · refine (if_pos e).trans ?_
              rw [if_pos (by omega), e, show 4000 * nn p + i - 4000 * nn p = i by omega]
              exact (if_pos (Or.inl h55)).symm
            · refine (if_neg e).trans ?_
              rw [hC]
              by_cases e2 : 4000 * nn p + nn a ≤ z ∧ z < 4000 * nn p + i
              · exact (if_pos e2).trans (if_pos (by omega)).symm
              · exact (if_neg e2).trans (if_neg (by omega)).symm
        · refine P_iload (i := 5) rfl dX8_layBytes_58 ?_
          refine P_ifeq dX8_layBytes_60 (tgt := 68) rfl (fun h60 => ?_) (fun h60 => ?_)
          · refine P_aloadn (i := 0) rfl rfl dX8_layBytes_68 ?_
            refine gX8_14 rfl (by first | exact hM.k0 | exact hM.k1 | exact hM.k2 | exact hM.k3 | exact hM.k4 | exact hM.k5 | exact hM.k6 | exact hM.k7 | exact hM.k8 | exact hM.k9 | exact hM.k10 | exact hM.k11 | exact hM.k12 | exact hM.k13 | exact hM.k14 | exact hM.k15 | exact hM.k16 | exact hM.k17) hM.r257 dX8_layBytes_69 ?_
            refine P_iload (i := 8) rfl dX8_layBytes_72 ?_
            refine P_iaN (j := 4000 * nn p + i) (by first | exact hM.k0 | exact hM.k1 | exact hM.k2 | exact hM.k3 | exact hM.k4 | exact hM.k5 | exact hM.k6 | exact hM.k7 | exact hM.k8 | exact hM.k9 | exact hM.k10 | exact hM.k11 | exact hM.k12 | exact hM.k13 | exact hM.k14 | exact hM.k15 | exact hM.k16 | exact hM.k17) rfl (by first | omega | (simp only [hM.l1, hM.l2, hM.l3, hM.l4, hM.l5, hM.l6, hM.l7, hM.l8, hM.l9, hM.l10, hM.l11, hM.l12, hM.l13, hM.l14, hM.l15, hM.l16, hM.l17]; omega)) (by first | omega | (simp only [hM.l1, hM.l2, hM.l3, hM.l4, hM.l5, hM.l6, hM.l7, hM.l8, hM.l9, hM.l10, hM.l11, hM.l12, hM.l13, hM.l14, hM.l15, hM.l16, hM.l17]; omega)) hti dX8_layBytes_74 ?_
            refine P_isN (j := 4000 * nn p + i) (by first | exact hM.k0 | exact hM.k1 | exact hM.k2 | exact hM.k3 | exact hM.k4 | exact hM.k5 | exact hM.k6 | exact hM.k7 | exact hM.k8 | exact hM.k9 | exact hM.k10 | exact hM.k11 | exact hM.k12 | exact hM.k13 | exact hM.k14 | exact hM.k15 | exact hM.k16 | exact hM.k17) rfl (by first | omega | (simp only [hM.l1, hM.l2, hM.l3, hM.l4, hM.l5, hM.l6, hM.l7, hM.l8, hM.l9, hM.l10, hM.l11, hM.l12, hM.l13, hM.l14, hM.l15, hM.l16, hM.l17]; omega)) (by first | omega | (simp only [hM.l1, hM.l2, hM.l3, hM.l4, hM.l5, hM.l6, hM.l7, hM.l8, hM.l9, hM.l10, hM.l11, hM.l12, hM.l13, hM.l14, hM.l15, hM.l16, hM.l17]; omega)) dX8_layBytes_75 ?_
            refine P_inN7 dX8_layBytes_76 rfl rfl ?_
            refine P_goto dX8_layBytes_79 (tgt := 6) rfl ?_
            refine P_few (ls2 := [some (vr m), some (vi p), some (vi a), some (vi b), some (vi seed), some (vi ov), some (vi (x_more (xT X (nn p)) (nn a) (i + 1 - nn a))), some (vi (Int32.ofNat (i + 1))), none]) ⟨rfl, rfl, rfl, rfl, rfl, rfl, congrArg (fun z => some (vi z)) ?_, rfl, trivial⟩ (ih (i + 1) (by omega) (by omega) (by omega) _ (fun b0 hb0 => (p_up_oth hb0).trans (hB b0 hb0)) (fun z => ?_))
            · rw [show i + 1 - nn a = (i - nn a) + 1 by omega]
              show _ = x_more (xT X (nn p)) (nn a) (i - nn a) + (if xT X (nn p) (nn a + (i - nn a)) < 0 then 1 else 0)
              rw [show nn a + (i - nn a) = i by omega, if_pos h31]
            · rw [p_up_fn]
              by_cases e : z = 4000 * nn p + i
              · refine (if_pos e).trans ?_
                rw [if_pos (by omega), e, show 4000 * nn p + i - 4000 * nn p = i by omega]
                exact (if_neg (fun hh => hh.elim (fun h1 => h55 h1) (fun h1 => by rw [h60] at h1; exact absurd h1 (by decide)))).symm
              · refine (if_neg e).trans ?_
                rw [hC]
                by_cases e2 : 4000 * nn p + nn a ≤ z ∧ z < 4000 * nn p + i
                · exact (if_pos e2).trans (if_pos (by omega)).symm
                · exact (if_neg e2).trans (if_neg (by omega)).symm
          · refine P_iload (i := 4) rfl dX8_layBytes_63 ?_
            refine P_goto dX8_layBytes_65 (tgt := 75) rfl ?_
            refine P_isN (j := 4000 * nn p + i) (by first | exact hM.k0 | exact hM.k1 | exact hM.k2 | exact hM.k3 | exact hM.k4 | exact hM.k5 | exact hM.k6 | exact hM.k7 | exact hM.k8 | exact hM.k9 | exact hM.k10 | exact hM.k11 | exact hM.k12 | exact hM.k13 | exact hM.k14 | exact hM.k15 | exact hM.k16 | exact hM.k17) rfl (by first | omega | (simp only [hM.l1, hM.l2, hM.l3, hM.l4, hM.l5, hM.l6, hM.l7, hM.l8, hM.l9, hM.l10, hM.l11, hM.l12, hM.l13, hM.l14, hM.l15, hM.l16, hM.l17]; omega)) (by first | omega | (simp only [hM.l1, hM.l2, hM.l3, hM.l4, hM.l5, hM.l6, hM.l7, hM.l8, hM.l9, hM.l10, hM.l11, hM.l12, hM.l13, hM.l14, hM.l15, hM.l16, hM.l17]; omega)) dX8_layBytes_75 ?_
            refine P_inN7 dX8_layBytes_76 rfl rfl ?_
            refine P_goto dX8_layBytes_79 (tgt := 6) rfl ?_
            refine P_few (ls2 := [some (vr m), some (vi p), some (vi a), some (vi b), some (vi seed), some (vi ov), some (vi (x_more (xT X (nn p)) (nn a) (i + 1 - nn a))), some (vi (Int32.ofNat (i + 1))), none]) ⟨rfl, rfl, rfl, rfl, rfl, rfl, congrArg (fun z => some (vi z)) ?_, rfl, trivial⟩ (ih (i + 1) (by omega) (by omega) (by omega) _ (fun b0 hb0 => (p_up_oth hb0).trans (hB b0 hb0)) (fun z => ?_))
            · rw [show i + 1 - nn a = (i - nn a) + 1 by omega]
              show _ = x_more (xT X (nn p)) (nn a) (i - nn a) + (if xT X (nn p) (nn a + (i - nn a)) < 0 then 1 else 0)
              rw [show nn a + (i - nn a) = i by omega, if_pos h31]
            · rw [p_up_fn]
              by_cases e : z = 4000 * nn p + i
              · refine (if_pos e).trans ?_
                rw [if_pos (by omega), e, show 4000 * nn p + i - 4000 * nn p = i by omega]
                exact (if_pos (Or.inr (hov h60))).symm
              · refine (if_neg e).trans ?_
                rw [hC]
                by_cases e2 : 4000 * nn p + nn a ≤ z ∧ z < 4000 * nn p + i
                · exact (if_pos e2).trans (if_pos (by omega)).symm
                · exact (if_neg e2).trans (if_neg (by omega)).symm
  have h1 := loop (nn b - nn a) (nn a) (by omega) (Nat.le_refl _) hab AI (fun _ _ => rfl) (fun z => by rw [if_neg (by omega)])
  rw [← ha.eq, Nat.sub_self] at h1
  exact h1
end Ref7
