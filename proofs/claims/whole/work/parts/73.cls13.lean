section Cls13p
variable {M : Nat} {X : XW}
theorem XI.put2 (h : XI M X) {s : Nat} (hs : s < (xS X).length) (hst0 : xP X (nn (x_at X s).1) 5 = 0) (hw0 : x_wrong X (nn (x_at X s).1) ((x_at X s).2.1 + (x_at X s).2.2.1) (decide ((x_at X s).2.2.2.1 = 1)) = false) : XI M (x_put2 X s) := by
  have hσ := h.2.2.2.2.1 _ (x_at_mem hs)
  obtain ⟨p, hpe⟩ : ∃ p, p = nn (x_at X s).1 := ⟨_, rfl⟩
  obtain ⟨a, hae⟩ : ∃ a, a = (x_at X s).2.1 := ⟨_, rfl⟩
  obtain ⟨ln, hle⟩ : ∃ ln, ln = (x_at X s).2.2.1 := ⟨_, rfl⟩
  obtain ⟨la, hlae⟩ : ∃ la, la = (x_at X s).2.2.2.1 := ⟨_, rfl⟩
  obtain ⟨seed, hse⟩ : ∃ sd, sd = (x_at X s).2.2.2.2.2.1 := ⟨_, rfl⟩
  obtain ⟨node, hne⟩ : ∃ n, n = xP X p 1 := ⟨_, rfl⟩
  have hp : p < xp X := by rw [hpe]; exact hσ.1.nn
  have ha0 : 0 ≤ a.toInt := by rw [hae]; exact hσ.2.1
  have hl1 : 1 ≤ ln.toInt := by rw [hle]; exact hσ.2.2.1
  have hal : a.toInt + ln.toInt ≤ 5500 := by rw [hae, hle]; exact hσ.2.2.2.1
  have hsd : ib seed 256 := by rw [hse]; exact hσ.2.2.2.2.2.2.1
  have hadd : (a + ln).toInt = a.toInt + ln.toInt := i_add' (by omega) (by omega)
  have hst : xP X p 5 = 0 := by rw [hpe]; exact hst0
  have hw2 : x_wrong X p (a + ln) (decide (la = 1)) = false := by rw [hpe, hae, hle, hlae]; exact hw0
  unfold x_wrong at hw2
  rw [Bool.or_eq_false_iff, Bool.or_eq_false_iff] at hw2
  obtain ⟨⟨w1, w2⟩, w3⟩ := hw2
  have hb4 : (a + ln).toInt ≤ 4000 := by
    have h9 := Int32.not_lt.mp (of_decide_eq_false w1)
    rw [Int32.le_iff_toInt_le] at h9
    simpa using h9
  have h1 : XI M (x_g (x_rm X s) 6 (xG X 6 + 1)) := (h.rm s).g (by decide)
  have e1 : x_put2 X s = if xN X (nn node) 0 = 2 ∧ x_any (xT X p) (nn a) (nn (a + ln) - nn a) = true then x_end (x_g (x_rm X s) 6 (xG X 6 + 1)) p 5 else x_p (x_p (x_layb (x_g (x_rm X s) 6 (xG X 6 + 1)) p (nn a) (nn (a + ln)) seed (decide (xN X (nn node) 0 = 1))) p 8 (if decide (la = 1) = true then a + ln else xP (x_layb (x_g (x_rm X s) 6 (xG X 6 + 1)) p (nn a) (nn (a + ln)) seed (decide (xN X (nn node) 0 = 1))) p 8)) p 9 (if xP (x_p (x_layb (x_g (x_rm X s) 6 (xG X 6 + 1)) p (nn a) (nn (a + ln)) seed (decide (xN X (nn node) 0 = 1))) p 8 (if decide (la = 1) = true then a + ln else xP (x_layb (x_g (x_rm X s) 6 (xG X 6 + 1)) p (nn a) (nn (a + ln)) seed (decide (xN X (nn node) 0 = 1))) p 8)) p 9 < 0 then xG X 0 else xP (x_p (x_layb (x_g (x_rm X s) 6 (xG X 6 + 1)) p (nn a) (nn (a + ln)) seed (decide (xN X (nn node) 0 = 1))) p 8 (if decide (la = 1) = true then a + ln else xP (x_layb (x_g (x_rm X s) 6 (xG X 6 + 1)) p (nn a) (nn (a + ln)) seed (decide (xN X (nn node) 0 = 1))) p 8)) p 9) := by
    rw [hne, hpe, hae, hle, hlae, hse]; rfl
  rw [e1]
  split
  · exact h1.end_ ⟨by decide, by decide⟩ (by decide)
  · obtain ⟨hT, hN, hB, hP, hS, hb⟩ := h1
    refine ⟨hT, hN, hB, fun q hq => ?_, hS, hb⟩
    by_cases e : q = p
    · subst e
      have hr := h.2.2.2.1 q hp
      have c1 := i_cn a
      have c2 := i_cn (a + ln)
      refine hr.lay (e := a + ln) (seed := seed) (a := nn a) (la := decide (la = 1)) (over := decide (xN X (nn node) 0 = 1)) hst h.1.1 hsd (by show a.toNatClampNeg < (a + ln).toNatClampNeg; omega) (by omega) hb4 (fun h8 => ?_) (fun hl i hi1 hi2 => ?_) ?_ ?_ ?_ (fun k hk k8 k9 => ?_) (fun i => ?_)
      · rw [Bool.and_eq_false_iff] at w2
        rcases w2 with w2 | w2
        · exact absurd h8 (of_decide_eq_false w2)
        · rw [Bool.or_eq_false_iff] at w2
          exact of_decide_eq_false w2.1
      · rw [hl, Bool.true_and] at w3
        have := x_any_false _ w3 (i - nn (a + ln)) (by omega)
        rw [show nn (a + ln) + (i - nn (a + ln)) = i by omega] at this
        exact this
      · exact (p_up_n2 _ _ _ _ (by decide)).trans ((p_up_n2 _ _ _ _ (by decide)).trans (p_up_eq _ _ _ _))
      · refine (p_up_n2 _ _ _ _ (by decide)).trans ((p_up_eq _ _ _ _).trans ?_)
        congr 1
        exact p_up_n2 _ _ _ _ (by decide)
      · refine (p_up_eq _ _ _ _).trans ?_
        have e9 : ∀ z, xP (x_p (x_layb (x_g (x_rm X s) 6 (xG X 6 + 1)) q (nn a) (nn (a + ln)) seed (decide (xN X (nn node) 0 = 1))) q 8 z) q 9 = xP X q 9 := fun z => (p_up_n2 _ _ _ _ (by decide)).trans (p_up_n2 _ _ _ _ (by decide))
        rw [e9]
        rfl
      · by_cases k12 : k = 12
        · omega
        · exact (p_up_n2 _ _ _ _ k9).trans ((p_up_n2 _ _ _ _ k8).trans (p_up_n2 _ _ _ _ k12))
      · show (if q = q then _ else _) = _
        exact if_pos rfl
    · have hr := hP q hq
      have er : ∀ (Y : XW) (k : Nat) (v : Int32), xP (x_p Y p k v) q = xP Y q := fun Y k v => by
        funext j
        exact p_up_n1 _ _ _ _ e
      rw [er, er]
      have e3 : xP (x_layb (x_g (x_rm X s) 6 (xG X 6 + 1)) p (nn a) (nn (a + ln)) seed (decide (xN X (nn node) 0 = 1))) q = xP X q := by
        funext j
        exact p_up_n1 _ _ _ _ e
      rw [e3]
      have e4 : ∀ (Y : XW) (k : Nat) (v : Int32), xT (x_p Y p k v) = xT Y := fun _ _ _ => rfl
      rw [e4, e4]
      have e5 : xT (x_layb (x_g (x_rm X s) 6 (xG X 6 + 1)) p (nn a) (nn (a + ln)) seed (decide (xN X (nn node) 0 = 1))) q = xT X q := by
        funext i
        exact if_neg e
      rw [e5]
      exact hr
end Cls13p
section Cls13
variable {g : PG} {L : PL} {FI AI : Nat → Nat → Int32} {AL : Nat → Nat → Int64} {AR : Nat → Nat → Option Nat} {w : Nat} {X : XW} {C : List XC} {U : Nat} {sa : Nat → Nat} {M : Nat} {s k : Nat}
theorem x_put2_1 (X : XW) (s : Nat) : xP (x_put2 X s) (nn (x_at X s).1) 1 = xP X (nn (x_at X s).1) 1 := by
  unfold x_put2
  dsimp only
  split
  · rw [x_end_p, if_pos rfl]; rfl
  · exact (p_up_n2 _ _ _ _ (by decide)).trans ((p_up_n2 _ _ _ _ (by decide)).trans (p_up_n2 _ _ _ _ (by decide)))
theorem s_join (h : CW L FI AI AL AR w X C U sa) (hI : XI M X) (hs : s < (xS X).length) (hk : k < C.length) (hkC : C.getD k xc0 = ((x_at X s), false)) : Sp g 3 iX6_join [vr w, vr (sa k), vr (w + 39 + 2 * nn (x_at X s).1), vr (w + 7 + 2 * nn (xP X (nn (x_at X s).1) 1))] (L, FI, AI, AL, AR) (0, 0) (QCW L FI AI AL AR w (x_put X s) (C.set k ((x_at X s), true)) U sa none) := by
  refine Sp.of (ls := [some (vr w), some (vr (sa k)), some (vr (w + 39 + 2 * nn (x_at X s).1)), some (vr (w + 7 + 2 * nn (xP X (nn (x_at X s).1) 1)))]) (by decide +kernel) rfl rfl ?_
  have hw := h.wf
  have hA := h.wa
  have hb16 := h.b16
  have hp40 := h.p40
  have hσ := hI.2.2.2.2.1 _ (x_at_mem hs)
  have hp : nn (x_at X s).1 < xp X := hσ.1.nn
  have hpl : nn (x_at X s).1 < 40 := by omega
  have hσp : (x_at X s).1 = Int32.ofNat (nn (x_at X s).1) := hσ.1.eq
  have hc601 := h.c601
  have hsl := hA.lo (i := k) (by omega)
  have hks := hw.ks hA (i := k) (by omega)
  have hkp := hw.kP hpl
  have hlq := hw.lp hpl
  have hne : sa k ≠ (w + 39 + 2 * nn (x_at X s).1) := by omega
  have hcs := h.s k hk
  unfold CS1 at hcs
  rw [hkC] at hcs
  have hSL : SL FI (sa k) (x_at X s) := hcs.1
  have hrp := (h.p (nn (x_at X s).1) hpl).1 hp
  have hqX := hI.2.2.2.1 (nn (x_at X s).1) hp
  have hto := hqX.1.2.1
  have hton := hto.nn
  have hdrop : ∀ why, 0 < why ∧ why < 8 → CW L (p_up (p_up FI 168 (sa k) 1) 137 (w + 39 + 2 * nn (x_at X s).1) (xP X (nn (x_at X s).1) 11 + 1)) (p_up AI (w + 5) why (xG X (6 + why) + 1)) AL AR w (x_drop X s why) (C.set k ((x_at X s), true)) U sa := fun why hwy => ((h.sl hk (σ := ((x_at X s), true)) (F2 := p_up FI 168 (sa k) 1) (fun j a hja => p_up_of (by omega)) (hSL.cg (fun j h6 h7 => p_up_n1 _ _ _ _ (by omega))) (p_up_eq _ _ _ _)).pf11 hp _).drp hwy _
  have hfd : ∀ (u v : Int32) (z : Nat), FrC w FI AI AL AR (p_up (p_up FI 168 (sa k) 1) 137 (w + 39 + 2 * nn (x_at X s).1) u) (p_up AI (w + 5) z v) AL AR := fun u v z => ((FrC.rf.uF (by omega)).uF (by omega)).uA (by omega)
  refine P_aloadn (i := 2) rfl rfl dX6_join_0 ?_
  refine gX6_118 rfl hkp hrp.1.2.2.2.2.2.2.2.1 dX6_join_1 ?_
  refine P_ifeq dX6_join_4 (tgt := 16) rfl (fun h4 => ?_) (fun h4 => ?_)
  · have h5 := h4
    refine P_aloadn (i := 2) rfl rfl dX6_join_16 ?_
    refine P_aloadn (i := 1) rfl rfl dX6_join_17 ?_
    refine kX6_304 rfl (s_fits hlq hrp hqX h5 hSL hks hσ.2.1 hσ.2.2.1 hσ.2.2.2.1 hσ.2.2.2.2.1) (by decide) hkp rfl dX6_join_18 (fun r18 s18 q18 => ?_)
    obtain ⟨rfl, rfl⟩ := q18
    refine P_ifne dX6_join_21 (tgt := 33) rfl (fun h21 => ?_) (fun h21 => ?_)
    · have hwr : x_wrong X (nn (x_at X s).1) ((x_at X s).2.1 + (x_at X s).2.2.1) (decide ((x_at X s).2.2.2.1 = 1)) = false := by
        have h9 := b_f2 h21
        cases hx : x_wrong X (nn (x_at X s).1) ((x_at X s).2.1 + (x_at X s).2.2.1) (decide ((x_at X s).2.2.2.1 = 1)) with
        | true => exact absurd hx h9
        | false => rfl
      have he4 : ((x_at X s).2.1 + (x_at X s).2.2.1).toInt ≤ 4000 := by
        have h9 := hwr
        unfold x_wrong at h9
        rw [Bool.or_eq_false_iff, Bool.or_eq_false_iff] at h9
        have h8 := Int32.not_lt.mp (of_decide_eq_false h9.1.1)
        rw [Int32.le_iff_toInt_le] at h8
        exact h8
      have hput : x_put X s = x_put3 (x_put2 X s) (nn (x_at X s).1) (xP X (nn (x_at X s).1) 1) := (x_put_eq X s).trans ((if_neg (fun hh => hh h5)).trans (if_neg (by rw [hwr]; exact Bool.false_ne_true)))
      have hIY := hI.put2 hs h5 hwr
      have hkpY := (x_put2_kp X s).1
      have hY1 : xP (x_put2 X s) (nn (x_at X s).1) 1 = xP X (nn (x_at X s).1) 1 := x_put2_1 X s
      have hsp0 : 0 ≤ xN (x_put2 X s) (nn (xP X (nn (x_at X s).1) 1)) 2 := by
        rw [hkpY.2.1, Int32.le_iff_toInt_le]
        have := (hI.2.1 _ hton).1.2.2.2.1
        simp only [Int32.reduceToInt]
        omega
      refine P_aloadn (i := 1) rfl rfl dX6_join_33 ?_
      refine P_iconst (v := 1) rfl dX6_join_34 ?_
      refine uX6_286 rfl (by first | exact Or.inl rfl | exact Or.inr rfl | assumption) hks dX6_join_35 ?_
      refine P_aloadn (i := 0) rfl rfl dX6_join_38 ?_
      refine P_dup rfl dX6_join_39 ?_
      refine gX6_68 rfl (by first | assumption | exact hw.kw | exact hw.k3 | exact hw.k1 | exact hkp) ((p_up_n1 _ _ _ _ (by decide)).trans h.g.2.2.2.2.2.2.2) dX6_join_40 ?_
      refine P_iconst (v := 1) rfl dX6_join_43 ?_
      refine P_iadd dX6_join_44 ?_
      refine uX6_68 rfl (by first | assumption | exact hw.kw | exact hw.k3 | exact hw.k1 | exact hkp) dX6_join_45 ?_
      have h1 : CW L (p_up (p_up FI 168 (sa k) 1) 203 w (xG X 6 + 1)) AI AL AR w (x_g X 6 (xG X 6 + 1)) (C.set k ((x_at X s), true)) U sa := (h.sl hk (σ := ((x_at X s), true)) (F2 := p_up FI 168 (sa k) 1) (fun j a hja => p_up_of (by omega)) (hSL.cg (fun j h6 h7 => p_up_n1 _ _ _ _ (by omega))) (p_up_eq _ _ _ _)).g6 _
      have hrp1 : RP (p_up (p_up FI 168 (sa k) 1) 203 w (xG X 6 + 1)) AL (w + 39 + 2 * nn (x_at X s).1) (xP X (nn (x_at X s).1)) (xT X (nn (x_at X s).1)) := (h1.p (nn (x_at X s).1) hpl).1 hp
      have hSL1 : SL (p_up (p_up FI 168 (sa k) 1) 203 w (xG X 6 + 1)) (sa k) (x_at X s) := hSL.cg (fun j h6 h7 => (p_up_n1 _ _ _ _ (by omega)).trans (p_up_n1 _ _ _ _ (by omega)))
      have J106 : ∀ (F A : Nat → Nat → Int32) (B : Nat → Nat → Int64), FrC w FI AI AL AR F A B AR → CW L F A B AR w (x_put2 X s) (C.set k ((x_at X s), true)) U sa → P g 3 iX6_join 98 [some (vr w), some (vr (sa k)), some (vr (w + 39 + 2 * nn (x_at X s).1)), some (vr (w + 7 + 2 * nn (xP X (nn (x_at X s).1) 1)))] [] (L, F, A, B, AR) (0, 0) (QCW L FI AI AL AR w (x_put X s) (C.set k ((x_at X s), true)) U sa none) := by
        intro F A B hf hY
        refine P_aloadn (i := 0) rfl rfl dX6_join_98 ?_
        refine P_aloadn (i := 2) rfl rfl dX6_join_99 ?_
        refine gX6_131 rfl hkp (((hY.p (nn (x_at X s).1) hpl).1 (by rw [hkpY.2.2.2]; exact hp)).1.2.1.trans hY1) dX6_join_100 ?_
        refine P_aloadn (i := 3) rfl rfl dX6_join_103 ?_
        refine gX6_321 rfl (hw.kN hto.nn) (hY.n _ hto.nn).2.2.1 dX6_join_104 ?_
        refine kX6_324 rfl (s_keepToSpace hY hIY rfl hsp0) (by decide) (by first | assumption | exact hw.kw | exact hw.k3 | exact hw.k1 | exact hkp) rfl dX6_join_107 (fun r107 s107 q107 => ?_)
        obtain ⟨F3, A3, B3, rfl, rfl, hf3, h3⟩ := q107
        obtain ⟨Y3, hY3⟩ : ∃ Y3, Y3 = x_space (xP X (nn (x_at X s).1) 1) 40 (x_put2 X s) := ⟨_, rfl⟩
        rw [← hY3] at h3
        have hf3 := hf.tr hf3
        have hI3 : XI M Y3 := by rw [hY3]; exact hIY.space _ _
        have hxp3 : xp Y3 = xp X := by rw [hY3]; exact ((x_kp.space _ _ _).2.2.2).trans hkpY.2.2.2
        have hrp3 := (h3.p (nn (x_at X s).1) hpl).1 (by rw [hxp3]; exact hp)
        have hq3 := hI3.2.2.2.1 (nn (x_at X s).1) (by rw [hxp3]; exact hp)
        have hput3 : (if xP Y3 (nn (x_at X s).1) 5 = 0 then x_fin Y3 (nn (x_at X s).1) else Y3) = x_put3 (x_put2 X s) (nn (x_at X s).1) (xP X (nn (x_at X s).1) 1) := by rw [hY3]; rfl
        refine P_aloadn (i := 2) rfl rfl dX6_join_110 ?_
        refine kX6_327 rfl (s_isComplete hlq) (by decide) hkp rfl dX6_join_111 (fun r111 s111 q111 => ?_)
        obtain ⟨rfl, rfl⟩ := q111
        refine P_ifeq dX6_join_114 (tgt := 137) rfl (fun h114 => ?_) (fun h114 => ?_)
        · have hnc := b_f h114
          refine P_return rfl dX6_join_137 ?_
          have e9 : x_put3 (x_put2 X s) (nn (x_at X s).1) (xP X (nn (x_at X s).1) 1) = Y3 := by
            rw [← hput3]
            by_cases hst : xP Y3 (nn (x_at X s).1) 5 = 0
            · rw [if_pos hst]
              refine if_pos ?_
              have h142 := (hrp3.2.2.1 hst).1
              rw [hrp3.1.2.2.2.2.2.2.2.2.2.2.2, h142] at hnc
              by_cases h8 : xP Y3 (nn (x_at X s).1) 8 = -6
              · exact Or.inl (by rw [h8]; decide)
              · have hful := hq3.full h8
                have hc9 := x_cnt_le (xT Y3 (nn (x_at X s).1)) 4000
                have hn9 := hful.1.nn
                rw [hq3.2.2.1] at hnc ⊢
                refine Or.inr ?_
                rw [hful.1.eq] at hnc ⊢
                have h7 : ¬ x_cnt (xT Y3 (nn (x_at X s).1)) 4000 = (xP Y3 (nn (x_at X s).1) 8).toNatClampNeg := fun hh => hnc (by rw [hh])
                have h6 := hful.2.2
                have h5 : x_cnt (xT Y3 (nn (x_at X s).1)) 4000 ≤ (xP Y3 (nn (x_at X s).1) 8).toNatClampNeg := by
                  have h4 : x_cnt (xT Y3 (nn (x_at X s).1)) (nn (xP Y3 (nn (x_at X s).1) 8)) ≤ (xP Y3 (nn (x_at X s).1) 8).toNatClampNeg := h6.2
                  omega
                exact (n_lt (by omega) (by have h4 : (xP Y3 (nn (x_at X s).1) 8).toNatClampNeg < 4001 := hn9; omega)).mpr (by omega)
            · exact if_neg hst
          exact ⟨F3, A3, B3, rfl, rfl, hf3, by rw [hput, e9]; exact h3⟩
        · have hcm := b_t h114
          have hst0 : xP Y3 (nn (x_at X s).1) 5 = 0 := Decidable.byContradiction fun hh => by
            have h9 := hq3.2.2.2.2.1
            have h8 : x_cnt (xT Y3 (nn (x_at X s).1)) 4000 = 0 := Decidable.byContradiction fun h7 => hh (h9 h7).2.2
            rw [hrp3.1.2.2.2.2.2.2.2.2.2.2.2, hq3.2.2.1, h8] at hcm
            exact hrp3.2.2.2 hcm.symm
          have h142 := (hrp3.2.2.1 hst0).1
          rw [hrp3.1.2.2.2.2.2.2.2.2.2.2.2, h142] at hcm
          have h8n : ¬ xP Y3 (nn (x_at X s).1) 8 = -6 := fun hh => by
            rw [hq3.2.2.1, hh] at hcm
            have := x_cnt_le (xT Y3 (nn (x_at X s).1)) 4000
            have h7 := congrArg Int32.toInt hcm
            rw [n_int (by omega)] at h7
            rw [show (-6 : Int32).toInt = -6 by decide] at h7
            omega
          have hful := hq3.full h8n
          have hcn : x_cnt (xT Y3 (nn (x_at X s).1)) 4000 = nn (xP Y3 (nn (x_at X s).1) 8) := by
            have h7 := hful.1.eq
            have h6 : Int32.ofNat (x_cnt (xT Y3 (nn (x_at X s).1)) 4000) = Int32.ofNat (nn (xP Y3 (nn (x_at X s).1) 8)) := by rw [← hq3.2.2.1, hcm]; exact h7
            have := x_cnt_le (xT Y3 (nn (x_at X s).1)) 4000
            have := hful.1.nn
            exact (n_eq (by omega) (by omega)).mp h6
          have hfin : x_fin Y3 (nn (x_at X s).1) = x_end Y3 (nn (x_at X s).1) (if xP Y3 (nn (x_at X s).1) 8 = xP Y3 (nn (x_at X s).1) 2 ∧ c_rem (x_csum (xT Y3 (nn (x_at X s).1)) (nn (xP Y3 (nn (x_at X s).1) 8))) 65521 = x_sum (xP Y3 (nn (x_at X s).1) 3) (xP Y3 (nn (x_at X s).1) 8) then 1 else 2) := if_neg (by
            rw [hcm]
            rintro (h7 | h7)
            · rw [Int32.lt_iff_toInt_lt] at h7
              have := hful.1.1
              simp only [Int32.reduceToInt] at h7
              omega
            · exact Int32.lt_irrefl h7)
          refine P_aloadn (i := 2) rfl rfl dX6_join_117 ?_
          refine P_aloadn (i := 2) rfl rfl dX6_join_118 ?_
          refine kX6_330 rfl (s_isAsSent hlq hrp3 hq3 hst0 h8n hcn) (by decide) hkp rfl dX6_join_119 (fun r119 s119 q119 => ?_)
          obtain ⟨rfl, rfl⟩ := q119
          refine P_ifeq dX6_join_122 (tgt := 129) rfl (fun h122 => ?_) (fun h122 => ?_)
          · have hno := b_f h122
            refine P_iconst (v := 2) rfl dX6_join_129 ?_
            refine P_aloadn (i := 0) rfl rfl dX6_join_130 ?_
            refine gX6_46 rfl (by first | assumption | exact hw.kw | exact hw.k3 | exact hw.k1 | exact hkp) h3.g.1 dX6_join_131 ?_
            refine kX6_314 rfl (s_end7 hlq) (by decide) hkp rfl dX6_join_134 (fun r134 s134 q134 => ?_)
            obtain ⟨rfl, rfl⟩ := q134
            refine P_return rfl dX6_join_137 ?_
            have e9 : x_put3 (x_put2 X s) (nn (x_at X s).1) (xP X (nn (x_at X s).1) 1) = x_end Y3 (nn (x_at X s).1) 2 := by
              rw [← hput3, if_pos hst0, hfin, if_neg hno]
            refine ⟨_, A3, B3, rfl, rfl, ((hf3.uF (by omega)).uF (by omega)).uF (by omega), ?_⟩
            rw [hput, e9]
            exact h3.end_ (by rw [hxp3]; exact hp) (by decide)
          · have hyes := b_t h122
            refine P_iconst (v := 1) rfl dX6_join_125 ?_
            refine P_goto dX6_join_126 (tgt := 130) rfl ?_
            refine P_aloadn (i := 0) rfl rfl dX6_join_130 ?_
            refine gX6_46 rfl (by first | assumption | exact hw.kw | exact hw.k3 | exact hw.k1 | exact hkp) h3.g.1 dX6_join_131 ?_
            refine kX6_314 rfl (s_end7 hlq) (by decide) hkp rfl dX6_join_134 (fun r134 s134 q134 => ?_)
            obtain ⟨rfl, rfl⟩ := q134
            refine P_return rfl dX6_join_137 ?_
            have e9 : x_put3 (x_put2 X s) (nn (x_at X s).1) (xP X (nn (x_at X s).1) 1) = x_end Y3 (nn (x_at X s).1) 1 := by
              rw [← hput3, if_pos hst0, hfin, if_pos hyes]
            refine ⟨_, A3, B3, rfl, rfl, ((hf3.uF (by omega)).uF (by omega)).uF (by omega), ?_⟩
            rw [hput, e9]
            exact h3.end_ (by rw [hxp3]; exact hp) (by decide)
      have J99 : ¬ (xN X (nn (xP X (nn (x_at X s).1) 1)) 0 = 2 ∧ x_any (xT X (nn (x_at X s).1)) (nn (x_at X s).2.1) (nn ((x_at X s).2.1 + (x_at X s).2.2.1) - nn (x_at X s).2.1) = true) → ∀ z : Int32, z = (if xN X (nn (xP X (nn (x_at X s).1) 1)) 0 = 1 then 1 else 0) → P g 3 iX6_join 91 [some (vr w), some (vr (sa k)), some (vr (w + 39 + 2 * nn (x_at X s).1)), some (vr (w + 7 + 2 * nn (xP X (nn (x_at X s).1) 1)))] [vi z, vr (sa k), vr (w + 39 + 2 * nn (x_at X s).1)] (L, (p_up (p_up FI 168 (sa k) 1) 203 w (xG X 6 + 1)), AI, AL, AR) (0, 0) (QCW L FI AI AL AR w (x_put X s) (C.set k ((x_at X s), true)) U sa none) := by
        intro hno z hz
        have hz1 : z = 0 ∨ z = 1 := by rw [hz]; exact b_01
        refine P_aloadn (i := 0) rfl rfl dX6_join_91 ?_
        refine gX6_46 rfl (by first | assumption | exact hw.kw | exact hw.k3 | exact hw.k1 | exact hkp) ((p_up_n1 _ _ _ _ (by decide)).trans ((p_up_n1 _ _ _ _ (by decide)).trans h.g.1)) dX6_join_92 ?_
        refine kX6_317 rfl (s_lay hlq hrp1 hqX h5 hSL1 hks hne hσ.2.1 hσ.2.2.1 hσ.2.2.2.1 hσ.2.2.2.2.1 hσ.2.2.2.2.2.2.1 he4 hz1) (by decide) hkp rfl dX6_join_95 (fun r95 s95 q95 => ?_)
        obtain ⟨F2, B2, rfl, rfl, hFo, hBo, hR⟩ := q95
        have e2 : x_put2 X s = x_p (x_p (x_layb (x_g (x_rm X s) 6 (xG X 6 + 1)) (nn (x_at X s).1) (nn (x_at X s).2.1) (nn ((x_at X s).2.1 + (x_at X s).2.2.1)) (x_at X s).2.2.2.2.2.1 (decide (xN X (nn (xP X (nn (x_at X s).1) 1)) 0 = 1))) (nn (x_at X s).1) 8 (if decide ((x_at X s).2.2.2.1 = 1) = true then ((x_at X s).2.1 + (x_at X s).2.2.1) else xP (x_layb (x_g (x_rm X s) 6 (xG X 6 + 1)) (nn (x_at X s).1) (nn (x_at X s).2.1) (nn ((x_at X s).2.1 + (x_at X s).2.2.1)) (x_at X s).2.2.2.2.2.1 (decide (xN X (nn (xP X (nn (x_at X s).1) 1)) 0 = 1))) (nn (x_at X s).1) 8)) (nn (x_at X s).1) 9 (if xP (x_p (x_layb (x_g (x_rm X s) 6 (xG X 6 + 1)) (nn (x_at X s).1) (nn (x_at X s).2.1) (nn ((x_at X s).2.1 + (x_at X s).2.2.1)) (x_at X s).2.2.2.2.2.1 (decide (xN X (nn (xP X (nn (x_at X s).1) 1)) 0 = 1))) (nn (x_at X s).1) 8 (if decide ((x_at X s).2.2.2.1 = 1) = true then ((x_at X s).2.1 + (x_at X s).2.2.1) else xP (x_layb (x_g (x_rm X s) 6 (xG X 6 + 1)) (nn (x_at X s).1) (nn (x_at X s).2.1) (nn ((x_at X s).2.1 + (x_at X s).2.2.1)) (x_at X s).2.2.2.2.2.1 (decide (xN X (nn (xP X (nn (x_at X s).1) 1)) 0 = 1))) (nn (x_at X s).1) 8)) (nn (x_at X s).1) 9 < 0 then xG X 0 else xP (x_p (x_layb (x_g (x_rm X s) 6 (xG X 6 + 1)) (nn (x_at X s).1) (nn (x_at X s).2.1) (nn ((x_at X s).2.1 + (x_at X s).2.2.1)) (x_at X s).2.2.2.2.2.1 (decide (xN X (nn (xP X (nn (x_at X s).1) 1)) 0 = 1))) (nn (x_at X s).1) 8 (if decide ((x_at X s).2.2.2.1 = 1) = true then ((x_at X s).2.1 + (x_at X s).2.2.1) else xP (x_layb (x_g (x_rm X s) 6 (xG X 6 + 1)) (nn (x_at X s).1) (nn (x_at X s).2.1) (nn ((x_at X s).2.1 + (x_at X s).2.2.1)) (x_at X s).2.2.2.2.2.1 (decide (xN X (nn (xP X (nn (x_at X s).1) 1)) 0 = 1))) (nn (x_at X s).1) 8)) (nn (x_at X s).1) 9) := if_neg hno
        have hov : decide (z = 1) = (decide (xN X (nn (xP X (nn (x_at X s).1) 1)) 0 = 1)) := by
          rw [hz]
          by_cases e : xN X (nn (xP X (nn (x_at X s).1) 1)) 0 = 1
          · rw [if_pos e, decide_eq_true e]; rfl
          · rw [if_neg e, decide_eq_false e]; rfl
        have er : xP (x_put2 X s) (nn (x_at X s).1) = l_row (xP X (nn (x_at X s).1)) (xT X (nn (x_at X s).1)) (xG X 0) (x_at X s) := by
          have e8 : ∀ z, xP (x_p (x_layb (x_g (x_rm X s) 6 (xG X 6 + 1)) (nn (x_at X s).1) (nn (x_at X s).2.1) (nn ((x_at X s).2.1 + (x_at X s).2.2.1)) (x_at X s).2.2.2.2.2.1 (decide (xN X (nn (xP X (nn (x_at X s).1) 1)) 0 = 1))) (nn (x_at X s).1) 8 z) (nn (x_at X s).1) 9 = xP X (nn (x_at X s).1) 9 := fun z => (p_up_n2 _ _ _ _ (by decide)).trans (p_up_n2 _ _ _ _ (by decide))
          have e7 : xP (x_layb (x_g (x_rm X s) 6 (xG X 6 + 1)) (nn (x_at X s).1) (nn (x_at X s).2.1) (nn ((x_at X s).2.1 + (x_at X s).2.2.1)) (x_at X s).2.2.2.2.2.1 (decide (xN X (nn (xP X (nn (x_at X s).1) 1)) 0 = 1))) (nn (x_at X s).1) 8 = xP X (nn (x_at X s).1) 8 := p_up_n2 _ _ _ _ (by decide)
          rw [e2, e8, e7]
          funext j
          unfold l_row
          by_cases j9 : j = 9
          · rw [j9]
            exact (p_up_eq _ _ _ _).trans rfl
          · refine (p_up_n2 _ _ _ _ j9).trans ?_
            by_cases j8 : j = 8
            · rw [if_pos j8, j8]
              refine (p_up_eq _ _ _ _).trans ?_
              by_cases e : (x_at X s).2.2.2.1 = 1
              · rw [if_pos e, if_pos (decide_eq_true e)]
              · rw [if_neg e, if_neg (by rw [decide_eq_true_eq]; exact e)]
            · refine (p_up_n2 _ _ _ _ j8).trans ?_
              rw [if_neg j8, if_neg j9]
              by_cases j12 : j = 12
              · rw [if_pos j12, j12]
                exact (p_up_eq _ _ _ _).trans rfl
              · rw [if_neg j12]
                exact p_up_n2 _ _ _ _ j12
        have et : xT (x_put2 X s) (nn (x_at X s).1) = x_lay (xT X (nn (x_at X s).1)) (nn (x_at X s).2.1) (nn ((x_at X s).2.1 + (x_at X s).2.2.1)) (x_at X s).2.2.2.2.2.1 (decide (z = 1)) := by
          rw [e2, hov]
          funext j
          exact if_pos rfl
        refine J106 F2 AI B2 (fun a ha => ⟨fun j => (hFo j a (by omega)).trans ((p_up_of (by omega)).trans (p_up_of (by omega))), rfl, hBo a (by omega), rfl⟩) ?_
        refine h1.par hp hFo (fun a ha => hBo a (by omega)) (by rw [er, et]; exact hR) (by rw [e2]; rfl) (by rw [e2]; rfl) (by rw [e2]; rfl) (by rw [e2]; rfl) (by rw [e2]; rfl) (fun q hq => ⟨?_, ?_⟩)
        · rw [e2]
          funext j
          exact (p_up_n1 _ _ _ _ hq).trans ((p_up_n1 _ _ _ _ hq).trans (p_up_n1 _ _ _ _ hq))
        · rw [e2]
          funext j
          exact if_neg hq
      have J84 : ¬ (xN X (nn (xP X (nn (x_at X s).1) 1)) 0 = 2 ∧ x_any (xT X (nn (x_at X s).1)) (nn (x_at X s).2.1) (nn ((x_at X s).2.1 + (x_at X s).2.2.1) - nn (x_at X s).2.1) = true) → P g 3 iX6_join 76 [some (vr w), some (vr (sa k)), some (vr (w + 39 + 2 * nn (x_at X s).1)), some (vr (w + 7 + 2 * nn (xP X (nn (x_at X s).1) 1)))] [] (L, (p_up (p_up FI 168 (sa k) 1) 203 w (xG X 6 + 1)), AI, AL, AR) (0, 0) (QCW L FI AI AL AR w (x_put X s) (C.set k ((x_at X s), true)) U sa none) := by
        intro hno
        refine P_aloadn (i := 2) rfl rfl dX6_join_76 ?_
        refine P_aloadn (i := 1) rfl rfl dX6_join_77 ?_
        refine P_aloadn (i := 3) rfl rfl dX6_join_78 ?_
        refine gX6_308 rfl (hw.kN hto.nn) ((p_up_n1 _ _ _ _ (by decide)).trans ((p_up_n1 _ _ _ _ (by decide)).trans (h.n _ hto.nn).1)) dX6_join_79 ?_
        refine P_iconst (v := 1) rfl dX6_join_82 ?_
        refine P_icmpne dX6_join_83 (tgt := 90) rfl (fun h83 => ?_) (fun h83 => ?_)
        · refine P_iconst (v := 0) rfl dX6_join_90 ?_
          exact J99 hno 0 (if_neg h83).symm
        · refine P_iconst (v := 1) rfl dX6_join_86 ?_
          refine P_goto dX6_join_87 (tgt := 91) rfl ?_
          exact J99 hno 1 (if_pos h83).symm
      refine P_aloadn (i := 3) rfl rfl dX6_join_48 ?_
      refine gX6_308 rfl (hw.kN hto.nn) ((p_up_n1 _ _ _ _ (by decide)).trans ((p_up_n1 _ _ _ _ (by decide)).trans (h.n _ hto.nn).1)) dX6_join_49 ?_
      refine P_iconst (v := 2) rfl dX6_join_52 ?_
      refine P_icmpne dX6_join_53 (tgt := 76) rfl (fun h53 => ?_) (fun h53 => ?_)
      · exact J84 (fun hh => h53 hh.1)
      · refine P_aloadn (i := 2) rfl rfl dX6_join_56 ?_
        refine P_aloadn (i := 1) rfl rfl dX6_join_57 ?_
        refine kX6_311 rfl (s_overlaps hlq hrp1 hqX hSL1 hks hσ.2.1 hσ.2.2.1 hσ.2.2.2.1 he4) (by decide) hkp rfl dX6_join_58 (fun r58 s58 q58 => ?_)
        obtain ⟨rfl, rfl⟩ := q58
        refine P_ifeq dX6_join_61 (tgt := 76) rfl (fun h61 => ?_) (fun h61 => ?_)
        · exact J84 (fun hh => b_f h61 hh.2)
        · refine P_aloadn (i := 2) rfl rfl dX6_join_64 ?_
          refine P_iconst (v := 5) rfl dX6_join_65 ?_
          refine P_aloadn (i := 0) rfl rfl dX6_join_66 ?_
          refine gX6_46 rfl (by first | assumption | exact hw.kw | exact hw.k3 | exact hw.k1 | exact hkp) ((p_up_n1 _ _ _ _ (by decide)).trans ((p_up_n1 _ _ _ _ (by decide)).trans h.g.1)) dX6_join_67 ?_
          refine kX6_314 rfl (s_end7 hlq) (by decide) hkp rfl dX6_join_70 (fun r70 s70 q70 => ?_)
          obtain ⟨rfl, rfl⟩ := q70
          refine P_goto dX6_join_73 (tgt := 98) rfl ?_
          have e2 : x_put2 X s = x_end (x_g (x_rm X s) 6 (xG X 6 + 1)) (nn (x_at X s).1) 5 := if_pos ⟨h53, b_t h61⟩
          refine J106 _ AI AL (((((FrC.rf.uF (by omega)).uF (by omega)).uF (by omega)).uF (by omega)).uF (by omega)) ?_
          rw [e2]
          exact h1.end_ hp (by decide)
    · have hwr : x_wrong X (nn (x_at X s).1) ((x_at X s).2.1 + (x_at X s).2.2.1) (decide ((x_at X s).2.2.2.1 = 1)) = true := b_t2 h21
      refine P_aloadn (i := 0) rfl rfl dX6_join_24 ?_
      refine P_aloadn (i := 1) rfl rfl dX6_join_25 ?_
      refine P_aloadn (i := 2) rfl rfl dX6_join_26 ?_
      refine P_bipush (v := 6) rfl dX6_join_27 ?_
      refine kX6_256 rfl (s_drop7 (k := 6) hw hA hks hpl (by decide) (hSL.1.trans hσp) (h.d 6 (by decide) (by decide)) hrp.1.2.2.2.2.2.2.2.2.2.1) (by decide) (by first | assumption | exact hw.kw | exact hw.k3 | exact hw.k1 | exact hkp) rfl dX6_join_29 (fun r29 s29 q29 => ?_)
      obtain ⟨rfl, rfl⟩ := q29
      refine P_return rfl dX6_join_32 ?_
      rw [show x_put X s = x_drop X s 6 from (x_put_eq X s).trans ((if_neg (fun hh => hh h5)).trans (if_pos hwr))]
      exact ⟨_, _, _, rfl, rfl, hfd _ _ _, hdrop 6 (by decide)⟩
  · refine P_aloadn (i := 0) rfl rfl dX6_join_7 ?_
    refine P_aloadn (i := 1) rfl rfl dX6_join_8 ?_
    refine P_aloadn (i := 2) rfl rfl dX6_join_9 ?_
    refine P_bipush (v := 7) rfl dX6_join_10 ?_
    refine kX6_256 rfl (s_drop7 (k := 7) hw hA hks hpl (by decide) (hSL.1.trans hσp) (h.d 7 (by decide) (by decide)) hrp.1.2.2.2.2.2.2.2.2.2.1) (by decide) (by first | assumption | exact hw.kw | exact hw.k3 | exact hw.k1 | exact hkp) rfl dX6_join_12 (fun r12 s12 q12 => ?_)
    obtain ⟨rfl, rfl⟩ := q12
    refine P_return rfl dX6_join_15 ?_
    rw [show x_put X s = x_drop X s 7 from (x_put_eq X s).trans (if_pos h4)]
    exact ⟨_, _, _, rfl, rfl, hfd _ _ _, hdrop 7 (by decide)⟩
end Cls13
