theorem x_best_none {X : XW} {M : Nat} (hI : XI M X) {node : Int32} (hb : x_best (xP X) node (xp X) < 0) : x_bytes (xP X) node (xp X) = 0 := by
  have h40 := hI.2.2.2.2.2.2.1
  rcases x_best_spec (xP X) node (xp X) (by omega) with ⟨_, h2⟩ | ⟨b, h1, h2, _, _⟩
  · refine x_bytes_zero _ (fun p hp hn => ?_)
    have hq := hI.2.2.2.1 p hp
    refine Decidable.byContradiction fun hh => ?_
    exact h2 p hp ⟨hn, hq.here.1.mp (hq.here.2.2 hh)⟩
  · rw [h2] at hb
    exact absurd hb (Int32.not_lt.mpr (n_pos (by omega)))
theorem c_due {t f o : Int32} (ht : t.toInt ≤ 1000000000) (hf : 0 ≤ f.toInt ∧ f.toInt ≤ t.toInt) (ho : 0 ≤ o.toInt ∧ o.toInt ≤ 500) : t < f + o ↔ ¬ o ≤ t - f := by
  rw [Int32.lt_iff_toInt_lt, Int32.le_iff_toInt_le, i_add' (by omega) (by omega), i_sub' (by omega) (by omega)]
  omega
section Cls12
variable {g : PG} {L : PL} {FI AI : Nat → Nat → Int32} {AL : Nat → Nat → Int64} {AR : Nat → Nat → Option Nat} {w : Nat} {X : XW} {C : List XC} {U : Nat} {sa : Nat → Nat} {M : Nat}
theorem s_keepToSpace (h : CW L FI AI AL AR w X C U sa) (hI : XI M X) {node sp : Int32} (hsp : sp = xN X (nn node) 2) (hsp0 : 0 ≤ sp) : Sp g 2 iX6_keepToSpace [vr w, vi node, vi sp] (L, FI, AI, AL, AR) (0, 0) (QCW L FI AI AL AR w (x_space node 40 X) C U sa none) := by
  refine Sp.of (ls := [some (vr w), some (vi node), some (vi sp), none, none]) (by decide +kernel) rfl rfl ?_
  have hw := h.wf
  have hA := h.wa
  have hb16 := h.b16
  have hp40 := h.p40
  have loop : ∀ n i : Nat, i + n = 40 → ∀ (Y : XW) (F A : Nat → Nat → Int32) (B : Nat → Nat → Int64), FrC w FI AI AL AR F A B AR → CW L F A B AR w Y C U sa → XI M Y → x_space node 40 X = x_space node n Y → xN Y = xN X → P g 2 iX6_keepToSpace 2 [some (vr w), some (vi node), some (vi sp), some (vi (Int32.ofNat i)), none] [] (L, F, A, B, AR) (0, 0) (QCW L FI AI AL AR w (x_space node 40 X) C U sa none) := by
    intro n
    induction n with
    | zero =>
      intro i hi Y F A B hf hY hIY hq hN
      have hq : x_space node 40 X = Y := hq
      refine P_iloadn (i := 3) rfl rfl dX6_keepToSpace_2 ?_
      refine P_bipush (v := 40) rfl dX6_keepToSpace_3 ?_
      refine P_icmpge dX6_keepToSpace_5 (tgt := 46) rfl (fun h5 => ?_) (fun h5 => absurd ((n_le (a := 40) (b := i) (by omega) (by omega)).mpr (by omega)) h5)
      refine P_return rfl dX6_keepToSpace_46 ?_
      rw [hq]
      exact ⟨F, A, B, rfl, rfl, hf, hY⟩
    | succ n ih =>
      intro i hi Y F A B hf hY hIY hq hN
      refine P_iloadn (i := 3) rfl rfl dX6_keepToSpace_2 ?_
      refine P_bipush (v := 40) rfl dX6_keepToSpace_3 ?_
      refine P_icmpge dX6_keepToSpace_5 (tgt := 46) rfl (fun h5 => absurd h5 (fun h8 => by have h7 := (n_le (a := 40) (b := i) (by omega) (by omega)).mp h8; omega)) (fun h5 => ?_)
      refine P_aloadn (i := 0) rfl rfl dX6_keepToSpace_8 ?_
      refine P_iloadn (i := 1) rfl rfl dX6_keepToSpace_9 ?_
      refine kX6_333 rfl (s_bytesAtNode hY) (by decide) (by first | assumption | exact hw.kw | exact hw.k3 | exact hw.k1) rfl dX6_keepToSpace_10 (fun r10 s10 q10 => ?_)
      obtain ⟨rfl, rfl⟩ := q10
      refine P_iloadn (i := 2) rfl rfl dX6_keepToSpace_13 ?_
      refine P_icmple dX6_keepToSpace_14 (tgt := 46) rfl (fun h14 => ?_) (fun h14 => ?_)
      · refine P_return rfl dX6_keepToSpace_46 ?_
        have e9 : x_space node (n + 1) Y = Y := if_neg (by rw [hN, ← hsp]; exact Int32.not_lt.mpr h14)
        rw [hq, e9]
        exact ⟨F, A, B, rfl, rfl, hf, hY⟩
      · have hgt := Int32.not_le.mp h14
        have hbn : ¬ x_best (xP Y) node (xp Y) < 0 := fun hh => by
          rw [x_best_none hIY hh] at hgt
          exact Int32.not_lt.mpr hsp0 hgt
        obtain ⟨b, hb1, hb2, hb3, hb4⟩ := (x_best_spec (xP Y) node (xp Y) (by have := hY.p40; omega)).resolve_left (fun hh => hbn (by rw [hh.1]; decide))
        have hYp := hY.p40
        refine P_aloadn (i := 0) rfl rfl dX6_keepToSpace_17 ?_
        refine P_iloadn (i := 1) rfl rfl dX6_keepToSpace_18 ?_
        refine kX6_336 rfl (s_eldest hY hIY) (by decide) (by first | assumption | exact hw.kw | exact hw.k3 | exact hw.k1) rfl dX6_keepToSpace_19 (fun r19 s19 q19 => ?_)
        obtain ⟨rfl, rfl⟩ := q19
        rw [if_neg hbn, hb2, nn_ofn (by omega)]
        refine P_as4 (Or.inr dX6_keepToSpace_22) rfl rfl ?_
        refine P_aload (i := 4) rfl dX6_keepToSpace_24 ?_
        refine P_ifnonnull dX6_keepToSpace_26 (tgt := 30) rfl (fun a26 h26 => ?_) (fun h26 => by cases h26)
        cases h26
        refine P_aload (i := 4) rfl dX6_keepToSpace_30 ?_
        refine P_iconst (v := 4) rfl dX6_keepToSpace_32 ?_
        refine P_aloadn (i := 0) rfl rfl dX6_keepToSpace_33 ?_
        refine gX6_46 rfl (by first | assumption | exact hw.kw | exact hw.k3 | exact hw.k1) hY.g.1 dX6_keepToSpace_34 ?_
        refine kX6_314 rfl (s_end7 (hw.lp (p := b) (by omega))) (by decide) (hw.kP (by omega)) rfl dX6_keepToSpace_37 (fun r37 s37 q37 => ?_)
        obtain ⟨rfl, rfl⟩ := q37
        have hY2 := hY.end_ hb1 (st := 4) (by decide)
        refine P_inN3 dX6_keepToSpace_40 rfl rfl ?_
        refine P_goto dX6_keepToSpace_43 (tgt := 2) rfl ?_
        refine P_few (ls2 := [some (vr w), some (vi node), some (vi sp), some (vi (Int32.ofNat (i + 1))), none]) ⟨rfl, rfl, rfl, rfl, trivial⟩ ?_
        have e9 : x_space node (n + 1) Y = x_space node n (x_end Y b 4) := by
          show (if xN Y (nn node) 2 < x_bytes (xP Y) node (xp Y) then x_space node n (x_end Y (nn (x_best (xP Y) node (xp Y))) 4) else Y) = _
          rw [if_pos (by rw [hN, ← hsp]; exact hgt), hb2, nn_ofn (by omega)]
        exact ih (i + 1) (by omega) (x_end Y b 4) _ A B (((hf.uF (by omega)).uF (by omega)).uF (by omega)) hY2 (hIY.end_ ⟨by decide, by decide⟩ (by decide)) (hq.trans e9) hN
  refine P_iconst (v := 0) rfl dX6_keepToSpace_0 ?_
  refine P_is3 (Or.inl dX6_keepToSpace_1) rfl rfl ?_
  exact loop 40 0 (by omega) X FI AI AL FrC.rf h hI rfl rfl
theorem s_overdueAt (h : CW L FI AI AL AR w X C U sa) {i : Nat} (hi : i < xp X) (hto : ib (xP X i 1) 8) (hfp : FI 140 (w + 39 + 2 * i) = xP X i 9) : Sp g 2 iX6_overdueAt [vr w, vr (w + 39 + 2 * i)] (L, FI, AI, AL, AR) (0, 0) (QI (L, FI, AI, AL, AR) (xP X i 9 + xN X (nn (xP X i 1)) 1)) := by
  refine Sp.of (ls := [some (vr w), some (vr (w + 39 + 2 * i)), none]) (by decide +kernel) rfl rfl ?_
  have hw := h.wf
  have hA := h.wa
  have hb16 := h.b16
  have hp40 := h.p40
  refine P_aloadn (i := 0) rfl rfl dX6_overdueAt_0 ?_
  refine P_aloadn (i := 1) rfl rfl dX6_overdueAt_1 ?_
  refine gX6_131 rfl (hw.kP (by omega)) ((h.p i (by omega)).1 hi).1.2.1 dX6_overdueAt_2 ?_
  refine kX6_228 rfl (s_nodeAt h) (by decide) (by first | assumption | exact hw.kw | exact hw.k3 | exact hw.k1) rfl dX6_overdueAt_5 (fun r5 s5 q5 => ?_)
  obtain ⟨rfl, rfl⟩ := q5
  rw [if_pos (q_ib_iff.mpr hto)]
  refine P_as2 (Or.inl dX6_overdueAt_8) rfl rfl ?_
  refine P_aloadn (i := 1) rfl rfl dX6_overdueAt_9 ?_
  refine gX6_232 rfl (hw.kP (by omega)) hfp dX6_overdueAt_10 ?_
  refine P_aloadn (i := 2) rfl rfl dX6_overdueAt_13 ?_
  refine P_ifnonnull dX6_overdueAt_14 (tgt := 21) rfl (fun a14 h14 => ?_) (fun h14 => by cases h14)
  cases h14
  refine P_aloadn (i := 2) rfl rfl dX6_overdueAt_21 ?_
  refine gX6_235 rfl (hw.kN hto.nn) (h.n _ hto.nn).2.1 dX6_overdueAt_22 ?_
  refine P_iadd dX6_overdueAt_25 ?_
  refine P_ireturn rfl dX6_overdueAt_26 ?_
  exact ⟨rfl, rfl⟩
theorem s_giveUp (h : CW L FI AI AL AR w X C U sa) (hI : XI M X) (hMM : M < 100000000) : Sp g 3 iX6_giveUpOverdue [vr w] (L, FI, AI, AL, AR) (0, 0) (QCW L FI AI AL AR w (x_times (xp X) X) C U sa none) := by
  refine Sp.of (ls := [some (vr w), none, none, none, none]) (by decide +kernel) rfl rfl ?_
  have hw := h.wf
  have hA := h.wa
  have hb16 := h.b16
  have hp40 := h.p40
  have loop : ∀ n i : Nat, i + n = 40 → ∀ (F A : Nat → Nat → Int32) (B : Nat → Nat → Int64), FrC w FI AI AL AR F A B AR → CW L F A B AR w (x_times (if i < xp X then i else xp X) X) C U sa → P g 3 iX6_giveUpOverdue 10 [some (vr w), some (vr (w + 3)), some (vi (Int32.ofNat 40)), some (vi (Int32.ofNat i)), none] [] (L, F, A, B, AR) (0, 0) (QCW L FI AI AL AR w (x_times (xp X) X) C U sa none) := by
    intro n
    induction n with
    | zero =>
      intro i hi F A B hf hY
      refine P_iloadn (i := 3) rfl rfl dX6_giveUpOverdue_10 ?_
      refine P_iloadn (i := 2) rfl rfl dX6_giveUpOverdue_11 ?_
      refine P_icmpge dX6_giveUpOverdue_12 (tgt := 57) rfl (fun h12 => ?_) (fun h12 => absurd ((n_le (a := 40) (b := i) (by omega) (by omega)).mpr (by omega)) h12)
      refine P_return rfl dX6_giveUpOverdue_57 ?_
      rw [if_neg (show ¬ i < xp X by omega)] at hY
      exact ⟨F, A, B, rfl, rfl, hf, hY⟩
    | succ n ih =>
      intro i hi F A B hf hY
      obtain ⟨hIY, hkp, _⟩ := XI.times (M := M) i X hI
      refine P_iloadn (i := 3) rfl rfl dX6_giveUpOverdue_10 ?_
      refine P_iloadn (i := 2) rfl rfl dX6_giveUpOverdue_11 ?_
      refine P_icmpge dX6_giveUpOverdue_12 (tgt := 57) rfl (fun h12 => absurd h12 (fun h8 => by have h7 := (n_le (a := 40) (b := i) (by omega) (by omega)).mp h8; omega)) (fun h12 => ?_)
      refine P_aloadn (i := 1) rfl rfl dX6_giveUpOverdue_15 ?_
      refine P_iloadn (i := 3) rfl rfl dX6_giveUpOverdue_16 ?_
      refine P_aaN (t := 26) (j := i) (by decide) (by first | assumption | exact hw.kw | exact hw.k3 | exact hw.k1) rfl (by omega) (by rw [hw.l3]; omega) (hA.2.2.1 i (by omega)) dX6_giveUpOverdue_17 ?_
      refine P_as4 (Or.inr dX6_giveUpOverdue_18) rfl rfl ?_
      refine P_aload (i := 4) rfl dX6_giveUpOverdue_20 ?_
      refine gX6_218 rfl (hw.kP (by omega)) rfl dX6_giveUpOverdue_22 ?_
      refine P_ifle dX6_giveUpOverdue_25 (tgt := 51) rfl (fun h25 => ?_) (fun h25 => ?_)
      · refine P_inN3 dX6_giveUpOverdue_51 rfl rfl ?_
        refine P_goto dX6_giveUpOverdue_54 (tgt := 10) rfl ?_
        refine P_few (ls2 := [some (vr w), some (vr (w + 3)), some (vi (Int32.ofNat 40)), some (vi (Int32.ofNat (i + 1))), none]) ⟨rfl, rfl, rfl, rfl, trivial⟩ ?_
        refine ih (i + 1) (by omega) F A B hf ?_
        by_cases e : i < xp X
        · rw [show (if i + 1 < xp X then i + 1 else xp X) = i + 1 by split <;> omega]
          rw [if_pos e] at hY
          have hYp := (hY.p i (by omega)).1 (by rw [hkp.2.2.2]; exact e)
          have hqi := hIY.2.2.2.1 i (by rw [hkp.2.2.2]; exact e)
          have e9 : x_times (i + 1) X = x_times i X := if_neg (by
            rintro ⟨g1, g2⟩
            exact Int32.not_lt.mpr h25 (by rw [hYp.1.2.2.2.2.2.2.2.2.2.2.2]; exact hqi.here.1.mpr g1))
          rw [e9]
          exact hY
        · rw [if_neg (show ¬ i + 1 < xp X by omega)]
          rw [if_neg e] at hY
          exact hY
      · have e : i < xp X := Decidable.byContradiction fun e => h25 (by
          rw [if_neg e] at hY
          rw [((hY.p i (by omega)).2 (by rw [(XI.times (M := M) (xp X) X hI).2.1.2.2.2]; omega)).2.2.2.2.2.1]; decide)
        rw [if_pos e] at hY
        have hei : i < xp (x_times i X) := by rw [hkp.2.2.2]; exact e
        have hYp := (hY.p i (by omega)).1 hei
        have hqi := hIY.2.2.2.1 i hei
        have hth : 0 < xP (x_times i X) i 12 := by rw [← hYp.1.2.2.2.2.2.2.2.2.2.2.2]; exact Int32.not_le.mp h25
        have hfi := hqi.here.1.mp hth
        have hfp := (hYp.2.1 (fun hh => by rw [hh] at hth; exact absurd hth (by decide))).1
        have hto := hqi.1.2.1
        have hton := hto.nn
        have hcz : x_cnt (xT (x_times i X) i) 4000 ≠ 0 := fun hh => by
          rw [(hqi.2.2.2.1 hh).1] at hfi
          exact absurd hfi (by decide)
        have hdue := c_due (t := xG (x_times i X) 0) (f := xP (x_times i X) i 9) (o := xN (x_times i X) (nn (xP (x_times i X) i 1)) 1) (by have := hIY.1; omega) ⟨(hqi.2.2.2.2.1 hcz).1, (hqi.2.2.2.2.1 hcz).2.1⟩ (by have := (hIY.2.1 _ hton).1; omega)
        refine P_aloadn (i := 0) rfl rfl dX6_giveUpOverdue_28 ?_
        refine gX6_46 rfl (by first | assumption | exact hw.kw | exact hw.k3 | exact hw.k1) hY.g.1 dX6_giveUpOverdue_29 ?_
        refine P_aloadn (i := 0) rfl rfl dX6_giveUpOverdue_32 ?_
        refine P_aload (i := 4) rfl dX6_giveUpOverdue_33 ?_
        refine kX6_221 rfl (s_overdueAt hY hei hto hfp) (by decide) (by first | assumption | exact hw.kw | exact hw.k3 | exact hw.k1) rfl dX6_giveUpOverdue_35 (fun r35 s35 q35 => ?_)
        obtain ⟨rfl, rfl⟩ := q35
        refine P_icmplt dX6_giveUpOverdue_38 (tgt := 51) rfl (fun h38 => ?_) (fun h38 => ?_)
        · refine P_inN3 dX6_giveUpOverdue_51 rfl rfl ?_
          refine P_goto dX6_giveUpOverdue_54 (tgt := 10) rfl ?_
          refine P_few (ls2 := [some (vr w), some (vr (w + 3)), some (vi (Int32.ofNat 40)), some (vi (Int32.ofNat (i + 1))), none]) ⟨rfl, rfl, rfl, rfl, trivial⟩ ?_
          refine ih (i + 1) (by omega) F A B hf ?_
          rw [show (if i + 1 < xp X then i + 1 else xp X) = i + 1 by split <;> omega]
          have e9 : x_times (i + 1) X = x_times i X := if_neg (fun hh => hdue.mp h38 hh.2)
          rw [e9]
          exact hY
        · have hY2 := hY.end_ hei (st := 3) (by decide)
          refine P_aload (i := 4) rfl dX6_giveUpOverdue_41 ?_
          refine P_iconst (v := 3) rfl dX6_giveUpOverdue_43 ?_
          refine P_aloadn (i := 0) rfl rfl dX6_giveUpOverdue_44 ?_
          refine gX6_46 rfl (by first | assumption | exact hw.kw | exact hw.k3 | exact hw.k1) hY.g.1 dX6_giveUpOverdue_45 ?_
          refine kX6_314 rfl (s_end7 (hw.lp (p := i) (by omega))) (by decide) (hw.kP (by omega)) rfl dX6_giveUpOverdue_48 (fun r48 s48 q48 => ?_)
          obtain ⟨rfl, rfl⟩ := q48
          refine P_inN3 dX6_giveUpOverdue_51 rfl rfl ?_
          refine P_goto dX6_giveUpOverdue_54 (tgt := 10) rfl ?_
          refine P_few (ls2 := [some (vr w), some (vr (w + 3)), some (vi (Int32.ofNat 40)), some (vi (Int32.ofNat (i + 1))), none]) ⟨rfl, rfl, rfl, rfl, trivial⟩ ?_
          refine ih (i + 1) (by omega) _ A B (((hf.uF (by omega)).uF (by omega)).uF (by omega)) ?_
          rw [show (if i + 1 < xp X then i + 1 else xp X) = i + 1 by split <;> omega]
          have e9 : x_times (i + 1) X = x_end (x_times i X) i 3 := if_pos ⟨hfi, Decidable.not_not.mp (fun hh => h38 (hdue.mpr hh))⟩
          rw [e9]
          exact hY2
  refine P_aloadn (i := 0) rfl rfl dX6_giveUpOverdue_0 ?_
  refine gX6_25 rfl (by first | assumption | exact hw.kw | exact hw.k3 | exact hw.k1) hw.r197 dX6_giveUpOverdue_1 ?_
  refine P_as1 (Or.inl dX6_giveUpOverdue_4) rfl rfl ?_
  refine P_aloadn (i := 1) rfl rfl dX6_giveUpOverdue_5 ?_
  refine P_lenN (t := 26) (by decide) (by first | assumption | exact hw.kw | exact hw.k3 | exact hw.k1) (by rw [hw.l3]) dX6_giveUpOverdue_6 ?_
  refine P_is2 (Or.inl dX6_giveUpOverdue_7) rfl rfl ?_
  refine P_iconst (v := 0) rfl dX6_giveUpOverdue_8 ?_
  refine P_is3 (Or.inl dX6_giveUpOverdue_9) rfl rfl ?_
  refine loop 40 0 (by omega) FI AI AL FrC.rf ?_
  by_cases e : 0 < xp X
  · rw [if_pos e]; exact h
  · rw [if_neg e, show xp X = 0 by omega]; exact h
end Cls12
