theorem x_at_eq {X Y : XW} (h : xS Y = xS X) {s : Nat} : x_at Y s = x_at X s := by unfold x_at; rw [h]
/-- how a treated slice leaves the list of the class, and that of the reference -/
def c_left (X : XW) (s k : Nat) (C C2 : List XC) : Prop :=
  ((x_still X s).2 = true ∧ ∃ τ, C2 = C.set k (τ, false) ∧ xS (x_still X s).1 = (xS X).set s τ) ∨
  ((x_still X s).2 = false ∧ ∃ l, C2 = C.set k ((x_at X s), true) ++ l.map (fun τ => (τ, false)) ∧ xS (x_still X s).1 = (xS X).eraseIdx s ++ l)
def QTR (L : PL) (FI AI : Nat → Nat → Int32) (AL : Nat → Nat → Int64) (AR : Nat → Nat → Option Nat) (w : Nat) (X : XW) (s k : Nat) (C : List XC) (sa : Nat → Nat) : Option PV → PS → Prop := fun r σ => ∃ F2 A2 L2 C2, σ = (L, F2, A2, L2, AR) ∧ r = none ∧ FrC w FI AI AL AR F2 A2 L2 AR ∧ CW L F2 A2 L2 AR w (x_still X s).1 C2 (xS (x_still X s).1).length sa ∧ c_left X s k C C2
section Cls15
variable {g : PG} {L : PL} {FI AI : Nat → Nat → Int32} {AL : Nat → Nat → Int64} {AR : Nat → Nat → Option Nat} {w : Nat} {X : XW} {C : List XC} {U : Nat} {sa : Nat → Nat} {M : Nat} {s k : Nat}
theorem s_treat (h : CW L FI AI AL AR w X C (xS X).length sa) (hI : XI M X) (hMM : M < 100000000) (hs : s < (xS X).length) (hk : k < C.length) (hkC : C.getD k xc0 = ((x_at X s), false)) (hdead : C.length ≤ 299 + (xS X).length) : Sp g 4 iX6_treat [vr w, vr (sa k)] (L, FI, AI, AL, AR) (0, 0) (QTR L FI AI AL AR w X s k C sa) := by
  refine Sp.of (ls := [some (vr w), some (vr (sa k)), none, none, none]) (by decide +kernel) rfl rfl ?_
  have hw := h.wf
  have hA := h.wa
  have hb16 := h.b16
  have hp40 := h.p40
  have hσ := hI.2.2.2.2.1 _ (x_at_mem hs)
  have hp : nn (x_at X s).1 < xp X := hσ.1.nn
  have hpl : nn (x_at X s).1 < 40 := by omega
  have hσp : (x_at X s).1 = Int32.ofNat (nn (x_at X s).1) := hσ.1.eq
  have hc601 := h.c601
  have hs300 := hI.2.2.2.2.2.2.2
  have hsl := hA.lo (i := k) (by omega)
  have hks := hw.ks hA (i := k) (by omega)
  have hkp := hw.kP hpl
  have hcs := h.s k hk
  unfold CS1 at hcs
  rw [hkC] at hcs
  have hSL : SL FI (sa k) (x_at X s) := hcs.1
  have hrp := (h.p (nn (x_at X s).1) hpl).1 hp
  have hqX := hI.2.2.2.1 (nn (x_at X s).1) hp
  have hto := hqX.1.2.1
  have hton := hto.nn
  have hatI := hσ.2.2.2.2.2.2.2.2
  have hatn := hatI.nn
  have hsp : x_still X s = if (x_at X s).2.2.2.2.2.2.2 = (xP X (nn (x_at X s).1) 1) then (x_put X s, false) else if (x_at X s).2.2.2.2.1 = 0 then (x_drop X s 1, false) else if (xN X (nn (x_at X s).2.2.2.2.2.2.2) (3 + nn (xP X (nn (x_at X s).1) 1))) < 0 then (x_drop X s 2, false) else if (decide (0 ≤ (xN X (nn (x_at X s).2.2.2.2.2.2.2) (3 + nn (xP X (nn (x_at X s).1) 1)))) && decide (xB X (nn (xN X (nn (x_at X s).2.2.2.2.2.2.2) (3 + nn (xP X (nn (x_at X s).1) 1)))) 2 < (x_at X s).2.2.1 + 8)) = true ∧ xP X (nn (x_at X s).1) 4 = 0 then (x_drop X s 3, false) else if (decide (0 ≤ (xN X (nn (x_at X s).2.2.2.2.2.2.2) (3 + nn (xP X (nn (x_at X s).1) 1)))) && decide (xB X (nn (xN X (nn (x_at X s).2.2.2.2.2.2.2) (3 + nn (xP X (nn (x_at X s).1) 1)))) 2 < (x_at X s).2.2.1 + 8)) = true then (x_cutup X s (nn (xN X (nn (x_at X s).2.2.2.2.2.2.2) (3 + nn (xP X (nn (x_at X s).1) 1)))), false) else if x_took X (nn (xN X (nn (x_at X s).2.2.2.2.2.2.2) (3 + nn (xP X (nn (x_at X s).1) 1)))) = true then (x_drop (x_takes X (nn (xN X (nn (x_at X s).2.2.2.2.2.2.2) (3 + nn (xP X (nn (x_at X s).1) 1)))) (x_at X s).2.2.1) s 4, false) else (x_s (x_takes X (nn (xN X (nn (x_at X s).2.2.2.2.2.2.2) (3 + nn (xP X (nn (x_at X s).1) 1)))) (x_at X s).2.2.1) ((xS (x_takes X (nn (xN X (nn (x_at X s).2.2.2.2.2.2.2) (3 + nn (xP X (nn (x_at X s).1) 1)))) (x_at X s).2.2.1)).set s (x_over (x_takes X (nn (xN X (nn (x_at X s).2.2.2.2.2.2.2) (3 + nn (xP X (nn (x_at X s).1) 1)))) (x_at X s).2.2.1) (nn (xN X (nn (x_at X s).2.2.2.2.2.2.2) (3 + nn (xP X (nn (x_at X s).1) 1)))) ((x_at X s).1, (x_at X s).2.1, (x_at X s).2.2.1, (x_at X s).2.2.2.1, (x_at X s).2.2.2.2.1 - 1, (x_at X s).2.2.2.2.2.1, (x_at X s).2.2.2.2.2.2.1, (x_at X s).2.2.2.2.2.2.2))), true) := rfl
  refine P_aloadn (i := 0) rfl rfl dX6_treat_0 ?_
  refine P_aloadn (i := 1) rfl rfl dX6_treat_1 ?_
  refine gX6_238 rfl hks hSL.1 dX6_treat_2 ?_
  refine kX6_114 rfl (s_parcelAt h) (by decide) (by first | assumption | exact hw.kw | exact hw.k3 | exact hw.k1) rfl dX6_treat_5 (fun r5 s5 q5 => ?_)
  obtain ⟨rfl, rfl⟩ := q5
  rw [if_pos (q_ib_iff.mpr hσ.1)]
  refine P_as2 (Or.inl dX6_treat_8) rfl rfl ?_
  refine P_aloadn (i := 0) rfl rfl dX6_treat_9 ?_
  refine P_aloadn (i := 1) rfl rfl dX6_treat_10 ?_
  refine gX6_241 rfl hks hSL.2.2.2.2.2.2.2 dX6_treat_11 ?_
  refine kX6_228 rfl (s_nodeAt h) (by decide) (by first | assumption | exact hw.kw | exact hw.k3 | exact hw.k1) rfl dX6_treat_14 (fun r14 s14 q14 => ?_)
  obtain ⟨rfl, rfl⟩ := q14
  rw [if_pos (q_ib_iff.mpr hatI)]
  refine P_as3 (Or.inl dX6_treat_17) rfl rfl ?_
  refine P_aloadn (i := 2) rfl rfl dX6_treat_18 ?_
  refine P_ifnull dX6_treat_19 (tgt := 26) rfl (fun h19 => by cases h19) (fun a19 h19 => ?_)
  cases h19
  refine P_aloadn (i := 3) rfl rfl dX6_treat_22 ?_
  refine P_ifnonnull dX6_treat_23 (tgt := 27) rfl (fun a23 h23 => ?_) (fun h23 => by cases h23)
  cases h23
  refine P_aloadn (i := 0) rfl rfl dX6_treat_27 ?_
  refine P_aloadn (i := 3) rfl rfl dX6_treat_28 ?_
  refine P_aloadn (i := 2) rfl rfl dX6_treat_29 ?_
  refine gX6_131 rfl hkp hrp.1.2.1 dX6_treat_30 ?_
  refine kX6_244 rfl (s_routeW hw hatn) (by decide) (hw.kN hatn) rfl dX6_treat_33 (fun r33 s33 q33 => ?_)
  obtain ⟨rfl, rfl⟩ := q33
  rw [if_pos (q_ib_iff.mpr hto), (h.n _ hatn).2.2.2 _ hton]
  refine kX6_247 rfl (s_bridgeAt h) (by decide) (by first | assumption | exact hw.kw | exact hw.k3 | exact hw.k1) rfl dX6_treat_36 (fun r36 s36 q36 => ?_)
  obtain ⟨rfl, rfl⟩ := q36
  obtain ⟨rb, hrb⟩ : ∃ rb : Option Nat, rb = (if q_ib (xN X (nn (x_at X s).2.2.2.2.2.2.2) (3 + nn (xP X (nn (x_at X s).1) 1))) (xb X) = true then some (w + 23 + nn (xN X (nn (x_at X s).2.2.2.2.2.2.2) (3 + nn (xP X (nn (x_at X s).1) 1)))) else none) := ⟨_, rfl⟩
  rw [← hrb]
  refine P_as4 (Or.inr dX6_treat_39) rfl rfl ?_
  refine P_aloadn (i := 0) rfl rfl dX6_treat_41 ?_
  refine P_dup rfl dX6_treat_42 ?_
  refine gX6_59 rfl (by first | assumption | exact hw.kw | exact hw.k3 | exact hw.k1) h.g.2.2.2.2.1 dX6_treat_43 ?_
  refine P_iconst (v := 1) rfl dX6_treat_46 ?_
  refine P_isub dX6_treat_47 ?_
  rw [n_pred (show 0 < (xS X).length by omega) (by omega)]
  refine uX6_59 rfl (by first | assumption | exact hw.kw | exact hw.k3 | exact hw.k1) dX6_treat_48 ?_
  have h1 : CW L (p_up FI 200 w (Int32.ofNat ((xS X).length - 1))) AI AL AR w X C ((xS X).length - 1) sa := h.u _
  have hSG : SL (p_up FI 200 w (Int32.ofNat ((xS X).length - 1))) (sa k) (x_at X s) := hSL.cg (fun j h6 h7 => p_up_n1 _ _ _ _ (by omega))
  have hrG := (h1.p (nn (x_at X s).1) hpl).1 hp
  have hdrop : ∀ why, 0 < why ∧ why < 8 → CW L (p_up (p_up (p_up FI 200 w (Int32.ofNat ((xS X).length - 1))) 168 (sa k) 1) 137 (w + 39 + 2 * nn (x_at X s).1) (xP X (nn (x_at X s).1) 11 + 1)) (p_up AI (w + 5) why (xG X (6 + why) + 1)) AL AR w (x_drop X s why) (C.set k ((x_at X s), true)) ((xS X).length - 1) sa := fun why hwy => ((h1.sl hk (σ := ((x_at X s), true)) (F2 := p_up (p_up FI 200 w (Int32.ofNat ((xS X).length - 1))) 168 (sa k) 1) (fun j a hja => p_up_of (by omega)) (hSG.cg (fun j h6 h7 => p_up_n1 _ _ _ _ (by omega))) (p_up_eq _ _ _ _)).pf11 hp _).drp hwy _
  refine P_aloadn (i := 1) rfl rfl dX6_treat_51 ?_
  refine gX6_241 rfl hks hSG.2.2.2.2.2.2.2 dX6_treat_52 ?_
  refine P_aloadn (i := 2) rfl rfl dX6_treat_55 ?_
  refine gX6_131 rfl hkp hrG.1.2.1 dX6_treat_56 ?_
  refine P_icmpne dX6_treat_59 (tgt := 72) rfl (fun h59 => ?_) (fun h59 => ?_)
  · refine P_aloadn (i := 1) rfl rfl dX6_treat_72 ?_
    refine gX6_255 rfl hks hSG.2.2.2.2.1 dX6_treat_73 ?_
    refine P_ifgt dX6_treat_76 (tgt := 89) rfl (fun h76 => ?_) (fun h76 => ?_)
    · have hh0 : ¬ (x_at X s).2.2.2.2.1 = 0 := fun hh => by rw [hh] at h76; exact absurd h76 (by decide)
      refine P_aload (i := 4) rfl dX6_treat_89 ?_
      refine P_ifnonnull dX6_treat_91 (tgt := 104) rfl (fun a91 h91 => ?_) (fun h91 => ?_)
      · have hbi : ib (xN X (nn (x_at X s).2.2.2.2.2.2.2) (3 + nn (xP X (nn (x_at X s).1) 1))) (xb X) := by
          have h9 : q_ib (xN X (nn (x_at X s).2.2.2.2.2.2.2) (3 + nn (xP X (nn (x_at X s).1) 1))) (xb X) = true := Decidable.byContradiction fun hh => by rw [if_neg hh] at hrb; rw [hrb] at h91; cases h91
          exact q_ib_iff.mp h9
        have hbl : nn (xN X (nn (x_at X s).2.2.2.2.2.2.2) (3 + nn (xP X (nn (x_at X s).1) 1))) < 16 := by have := hbi.nn; omega
        have ha91 : a91 = (w + 23 + nn (xN X (nn (x_at X s).2.2.2.2.2.2.2) (3 + nn (xP X (nn (x_at X s).1) 1)))) := by
          rw [if_pos (q_ib_iff.mpr hbi)] at hrb
          rw [hrb] at h91
          exact (Option.some.inj h91).symm
        subst h91
        subst ha91
        have hkb := hw.kB hbl
        have hbrp : ¬ (xN X (nn (x_at X s).2.2.2.2.2.2.2) (3 + nn (xP X (nn (x_at X s).1) 1))) < 0 := fun hh => by
          rw [Int32.lt_iff_toInt_lt] at hh
          have := hbi.1
          simp only [Int32.reduceToInt] at hh
          omega
        refine P_aload (i := 4) rfl dX6_treat_104 ?_
        refine P_aloadn (i := 1) rfl rfl dX6_treat_106 ?_
        refine gX6_260 rfl hks hSG.2.2.1 dX6_treat_107 ?_
        refine kX6_263 rfl (s_bears hkb) (by decide) hkb rfl dX6_treat_110 (fun r110 s110 q110 => ?_)
        obtain ⟨rfl, rfl⟩ := q110
        rw [show (p_up FI 200 w (Int32.ofNat ((xS X).length - 1))) 2 (w + 23 + nn (xN X (nn (x_at X s).2.2.2.2.2.2.2) (3 + nn (xP X (nn (x_at X s).1) 1)))) = xB X (nn (xN X (nn (x_at X s).2.2.2.2.2.2.2) (3 + nn (xP X (nn (x_at X s).1) 1)))) 2 from (h1.b _ hbl).1 hbi.nn 2 (by decide)]
        refine P_ifeq dX6_treat_113 (tgt := 127) rfl (fun h113 => ?_) (fun h113 => ?_)
        · have hlg0 := Int32.not_le.mp (b_f h113)
          have hlg : (decide (0 ≤ (xN X (nn (x_at X s).2.2.2.2.2.2.2) (3 + nn (xP X (nn (x_at X s).1) 1)))) && decide (xB X (nn (xN X (nn (x_at X s).2.2.2.2.2.2.2) (3 + nn (xP X (nn (x_at X s).1) 1)))) 2 < (x_at X s).2.2.1 + 8)) = true := by
            rw [Bool.and_eq_true, decide_eq_true_eq, decide_eq_true_eq]
            exact ⟨Int32.not_lt.mp hbrp, hlg0⟩
          refine P_aloadn (i := 2) rfl rfl dX6_treat_127 ?_
          refine gX6_270 rfl hkp hrG.1.2.2.2.2.2.2.1 dX6_treat_128 ?_
          refine P_ifeq dX6_treat_131 (tgt := 145) rfl (fun h131 => ?_) (fun h131 => ?_)
          · refine P_aloadn (i := 0) rfl rfl dX6_treat_145 ?_
            refine P_aloadn (i := 1) rfl rfl dX6_treat_146 ?_
            refine P_aloadn (i := 2) rfl rfl dX6_treat_147 ?_
            refine P_iconst (v := 3) rfl dX6_treat_148 ?_
            refine kX6_256 rfl (s_drop7 (k := 3) hw hA hks hpl (by decide) (hSG.1.trans hσp) (h1.d 3 (by decide) (by decide)) hrG.1.2.2.2.2.2.2.2.2.2.1) (by decide) (by first | assumption | exact hw.kw | exact hw.k3 | exact hw.k1) rfl dX6_treat_149 (fun r149 s149 q149 => ?_)
            obtain ⟨rfl, rfl⟩ := q149
            refine P_return rfl dX6_treat_152 ?_
            have e9 : x_still X s = (x_drop X s 3, false) := hsp.trans ((if_neg h59).trans ((if_neg hh0).trans ((if_neg hbrp).trans (if_pos ⟨hlg, h131⟩))))
            unfold QTR
            rw [e9]
            refine ⟨_, _, _, C.set k ((x_at X s), true), rfl, rfl, (((FrC.rf.uF (by omega)).uF (by omega)).uF (by omega)).uA (by omega), ?_, Or.inr ⟨by rw [e9], [], by rw [List.map_nil, List.append_nil], ?_⟩⟩
            · show CW L _ _ AL AR w (x_drop X s 3) (C.set k ((x_at X s), true)) (xS (x_drop X s 3)).length sa
              rw [show (xS (x_drop X s 3)).length = (xS X).length - 1 from by rw [(x_drop_kp X s 3 (by decide)).2, List.length_eraseIdx, if_pos hs]]
              exact hdrop 3 (by decide)
            · rw [e9, List.append_nil]
              exact (x_drop_kp X s 3 (by decide)).2
          · refine P_aloadn (i := 0) rfl rfl dX6_treat_134 ?_
            refine P_aloadn (i := 1) rfl rfl dX6_treat_135 ?_
            refine P_aloadn (i := 2) rfl rfl dX6_treat_136 ?_
            refine P_aload (i := 4) rfl dX6_treat_137 ?_
            refine kX6_274 rfl (s_cutUp h1 hI hMM hs hk hkC hbi.nn hh0 hlg0 hdead) (by decide) (by first | assumption | exact hw.kw | exact hw.k3 | exact hw.k1) rfl dX6_treat_139 (fun r139 s139 q139 => ?_)
            obtain ⟨F3, A3, l3, rfl, rfl, hf3, h3, hx3⟩ := q139
            refine P_goto dX6_treat_142 (tgt := 152) rfl ?_
            refine P_return rfl dX6_treat_152 ?_
            have e9 : x_still X s = (x_cutup X s (nn (xN X (nn (x_at X s).2.2.2.2.2.2.2) (3 + nn (xP X (nn (x_at X s).1) 1)))), false) := hsp.trans ((if_neg h59).trans ((if_neg hh0).trans ((if_neg hbrp).trans ((if_neg (fun hh => h131 hh.2)).trans (if_pos hlg)))))
            unfold QTR
            rw [e9]
            exact ⟨F3, A3, AL, _, rfl, rfl, FrC.tr (FrC.rf.uF (by omega)) hf3, h3, Or.inr ⟨by rw [e9], l3, rfl, by rw [e9]; exact hx3⟩⟩
        · have hlg : ¬ (decide (0 ≤ (xN X (nn (x_at X s).2.2.2.2.2.2.2) (3 + nn (xP X (nn (x_at X s).1) 1)))) && decide (xB X (nn (xN X (nn (x_at X s).2.2.2.2.2.2.2) (3 + nn (xP X (nn (x_at X s).1) 1)))) 2 < (x_at X s).2.2.1 + 8)) = true := by
            rw [Bool.and_eq_true, decide_eq_true_eq, decide_eq_true_eq]
            exact fun hh => Int32.not_lt.mpr (b_t h113) hh.2
          have hbb := (h1.b _ hbl).1 hbi.nn
          have hb6 : (p_up FI 200 w (Int32.ofNat ((xS X).length - 1))) 6 (w + 23 + nn (xN X (nn (x_at X s).2.2.2.2.2.2.2) (3 + nn (xP X (nn (x_at X s).1) 1)))) = xB X (nn (xN X (nn (x_at X s).2.2.2.2.2.2.2) (3 + nn (xP X (nn (x_at X s).1) 1)))) 6 := hbb 6 (by decide)
          have hb5 : (p_up FI 200 w (Int32.ofNat ((xS X).length - 1))) 5 (w + 23 + nn (xN X (nn (x_at X s).2.2.2.2.2.2.2) (3 + nn (xP X (nn (x_at X s).1) 1)))) = xB X (nn (xN X (nn (x_at X s).2.2.2.2.2.2.2) (3 + nn (xP X (nn (x_at X s).1) 1)))) 5 := hbb 5 (by decide)
          have hb7 : (p_up FI 200 w (Int32.ofNat ((xS X).length - 1))) 7 (w + 23 + nn (xN X (nn (x_at X s).2.2.2.2.2.2.2) (3 + nn (xP X (nn (x_at X s).1) 1)))) = xB X (nn (xN X (nn (x_at X s).2.2.2.2.2.2.2) (3 + nn (xP X (nn (x_at X s).1) 1)))) 7 := hbb 7 (by decide)
          have hb8 : (p_up FI 200 w (Int32.ofNat ((xS X).length - 1))) 8 (w + 23 + nn (xN X (nn (x_at X s).2.2.2.2.2.2.2) (3 + nn (xP X (nn (x_at X s).1) 1)))) = xB X (nn (xN X (nn (x_at X s).2.2.2.2.2.2.2) (3 + nn (xP X (nn (x_at X s).1) 1)))) 8 := hbb 8 (by decide)
          have hb1 : (p_up FI 200 w (Int32.ofNat ((xS X).length - 1))) 1 (w + 23 + nn (xN X (nn (x_at X s).2.2.2.2.2.2.2) (3 + nn (xP X (nn (x_at X s).1) 1)))) = xB X (nn (xN X (nn (x_at X s).2.2.2.2.2.2.2) (3 + nn (xP X (nn (x_at X s).1) 1)))) 1 := hbb 1 (by decide)
          have hb3 : (p_up FI 200 w (Int32.ofNat ((xS X).length - 1))) 3 (w + 23 + nn (xN X (nn (x_at X s).2.2.2.2.2.2.2) (3 + nn (xP X (nn (x_at X s).1) 1)))) = xB X (nn (xN X (nn (x_at X s).2.2.2.2.2.2.2) (3 + nn (xP X (nn (x_at X s).1) 1)))) 3 := hbb 3 (by decide)
          have hb4 : (p_up FI 200 w (Int32.ofNat ((xS X).length - 1))) 4 (w + 23 + nn (xN X (nn (x_at X s).2.2.2.2.2.2.2) (3 + nn (xP X (nn (x_at X s).1) 1)))) = xB X (nn (xN X (nn (x_at X s).2.2.2.2.2.2.2) (3 + nn (xP X (nn (x_at X s).1) 1)))) 4 := hbb 4 (by decide)
          have hpace : 1 ≤ (xB X (nn (xN X (nn (x_at X s).2.2.2.2.2.2.2) (3 + nn (xP X (nn (x_at X s).1) 1)))) 4).toInt := (hI.2.2.1 _ hbi.nn).2.2.2.2.1.1
          have hnf : ¬ 300 ≤ (xS X).length - 1 := by omega
          by_cases htk : c_lost ((p_up FI 200 w (Int32.ofNat ((xS X).length - 1))) 6 (w + 23 + nn (xN X (nn (x_at X s).2.2.2.2.2.2.2) (3 + nn (xP X (nn (x_at X s).1) 1)))) + 1) ((p_up FI 200 w (Int32.ofNat ((xS X).length - 1))) 5 (w + 23 + nn (xN X (nn (x_at X s).2.2.2.2.2.2.2) (3 + nn (xP X (nn (x_at X s).1) 1))))) = true
          · have htk2 : x_took X (nn (xN X (nn (x_at X s).2.2.2.2.2.2.2) (3 + nn (xP X (nn (x_at X s).1) 1)))) = true := by rw [hb6, hb5] at htk; exact htk
            refine P_aloadn (i := 0) rfl rfl dX6_treat_116 ?_
            refine P_aloadn (i := 1) rfl rfl dX6_treat_117 ?_
            refine P_aloadn (i := 2) rfl rfl dX6_treat_118 ?_
            refine P_aload (i := 4) rfl dX6_treat_119 ?_
            refine kX6_266 rfl (s_goOn_lost hw hA hks hpl hbl (hSG.1.trans hσp) h1.g.2.2.2.2.1 (by omega) hnf htk (h1.d 4 (by decide) (by decide)) hrG.1.2.2.2.2.2.2.2.2.2.1) (by decide) (by first | assumption | exact hw.kw | exact hw.k3 | exact hw.k1) rfl dX6_treat_121 (fun r121 s121 q121 => ?_)
            obtain ⟨rfl, rfl⟩ := q121
            refine P_goto dX6_treat_124 (tgt := 152) rfl ?_
            refine P_return rfl dX6_treat_152 ?_
            have e9 : x_still X s = (x_drop (x_takes X (nn (xN X (nn (x_at X s).2.2.2.2.2.2.2) (3 + nn (xP X (nn (x_at X s).1) 1)))) (x_at X s).2.2.1) s 4, false) := hsp.trans ((if_neg h59).trans ((if_neg hh0).trans ((if_neg hbrp).trans ((if_neg (fun hh => hlg hh.1)).trans ((if_neg hlg).trans (if_pos htk2))))))
            have hsame := x_takes_same X (nn (xN X (nn (x_at X s).2.2.2.2.2.2.2) (3 + nn (xP X (nn (x_at X s).1) 1)))) (x_at X s).2.2.1
            have hat : x_at (x_takes X (nn (xN X (nn (x_at X s).2.2.2.2.2.2.2) (3 + nn (xP X (nn (x_at X s).1) 1)))) (x_at X s).2.2.1) s = x_at X s := x_at_eq hsame.2.2.2.2.1
            have hxe : xS (x_drop (x_takes X (nn (xN X (nn (x_at X s).2.2.2.2.2.2.2) (3 + nn (xP X (nn (x_at X s).1) 1)))) (x_at X s).2.2.1) s 4) = (xS X).eraseIdx s := by
              rw [(x_drop_kp _ s 4 (by decide)).2, hsame.2.2.2.2.1]
            unfold QTR
            rw [e9]
            refine ⟨_, _, AL, C.set k ((x_at X s), true), rfl, rfl, ((((((FrC.rf.uF (by omega)).uF (by omega)).uF (by omega)).uF (by omega)).uF (by omega)).uA (by omega)), ?_, Or.inr ⟨by rw [e9], [], by rw [List.map_nil, List.append_nil], by rw [e9, List.append_nil]; exact hxe⟩⟩
            show CW L _ _ AL AR w (x_drop (x_takes X (nn (xN X (nn (x_at X s).2.2.2.2.2.2.2) (3 + nn (xP X (nn (x_at X s).1) 1)))) (x_at X s).2.2.1) s 4) (C.set k ((x_at X s), true)) (xS (x_drop (x_takes X (nn (xN X (nn (x_at X s).2.2.2.2.2.2.2) (3 + nn (xP X (nn (x_at X s).1) 1)))) (x_at X s).2.2.1) s 4)).length sa
            rw [hxe, List.length_eraseIdx, if_pos hs]
            unfold x_drop
            rw [hat, x_takes_l htk2, hb6, hb7]
            have hbx : nn (xN X (nn (x_at X s).2.2.2.2.2.2.2) (3 + nn (xP X (nn (x_at X s).1) 1))) < xb X := hbi.nn
            exact ((((h1.bri hbx (show 6 < 9 by decide) (xB X (nn (xN X (nn (x_at X s).2.2.2.2.2.2.2) (3 + nn (xP X (nn (x_at X s).1) 1)))) 6 + 1)).bri hbx (show 7 < 9 by decide) (xB X (nn (xN X (nn (x_at X s).2.2.2.2.2.2.2) (3 + nn (xP X (nn (x_at X s).1) 1)))) 7 + 1)).sl hk (σ := ((x_at X s), true)) (F2 := p_up (p_up (p_up (p_up FI 200 w (Int32.ofNat ((xS X).length - 1))) 6 (w + 23 + nn (xN X (nn (x_at X s).2.2.2.2.2.2.2) (3 + nn (xP X (nn (x_at X s).1) 1)))) (xB X (nn (xN X (nn (x_at X s).2.2.2.2.2.2.2) (3 + nn (xP X (nn (x_at X s).1) 1)))) 6 + 1)) 7 (w + 23 + nn (xN X (nn (x_at X s).2.2.2.2.2.2.2) (3 + nn (xP X (nn (x_at X s).1) 1)))) (xB X (nn (xN X (nn (x_at X s).2.2.2.2.2.2.2) (3 + nn (xP X (nn (x_at X s).1) 1)))) 7 + 1)) 168 (sa k) 1) (fun j a hja => p_up_of (by omega)) (hSG.cg (fun j h6 h7 => (p_up_n1 _ _ _ _ (by omega)).trans ((p_up_n1 _ _ _ _ (by omega)).trans (p_up_n1 _ _ _ _ (by omega))))) (p_up_eq _ _ _ _)).pf11 hp _).drp (show 0 < 4 ∧ 4 < 8 by decide) _
          · have htk2 : ¬ x_took X (nn (xN X (nn (x_at X s).2.2.2.2.2.2.2) (3 + nn (xP X (nn (x_at X s).1) 1)))) = true := by rw [hb6, hb5] at htk; exact htk
            refine P_aloadn (i := 0) rfl rfl dX6_treat_116 ?_
            refine P_aloadn (i := 1) rfl rfl dX6_treat_117 ?_
            refine P_aloadn (i := 2) rfl rfl dX6_treat_118 ?_
            refine P_aload (i := 4) rfl dX6_treat_119 ?_
            refine kX6_266 rfl (s_goOn_over hw hA hks hpl hbl (hSG.1.trans hσp) h1.g.2.2.2.2.1 (by omega) hnf htk hSG.2.2.1 hSG.2.2.2.2.1 h1.g.1) (by decide) (by first | assumption | exact hw.kw | exact hw.k3 | exact hw.k1) rfl dX6_treat_121 (fun r121 s121 q121 => ?_)
            obtain ⟨rfl, rfl⟩ := q121
            refine P_goto dX6_treat_124 (tgt := 152) rfl ?_
            refine P_return rfl dX6_treat_152 ?_
            have e9 : x_still X s = (x_s (x_takes X (nn (xN X (nn (x_at X s).2.2.2.2.2.2.2) (3 + nn (xP X (nn (x_at X s).1) 1)))) (x_at X s).2.2.1) ((xS (x_takes X (nn (xN X (nn (x_at X s).2.2.2.2.2.2.2) (3 + nn (xP X (nn (x_at X s).1) 1)))) (x_at X s).2.2.1)).set s (x_over (x_takes X (nn (xN X (nn (x_at X s).2.2.2.2.2.2.2) (3 + nn (xP X (nn (x_at X s).1) 1)))) (x_at X s).2.2.1) (nn (xN X (nn (x_at X s).2.2.2.2.2.2.2) (3 + nn (xP X (nn (x_at X s).1) 1)))) ((x_at X s).1, (x_at X s).2.1, (x_at X s).2.2.1, (x_at X s).2.2.2.1, (x_at X s).2.2.2.2.1 - 1, (x_at X s).2.2.2.2.2.1, (x_at X s).2.2.2.2.2.2.1, (x_at X s).2.2.2.2.2.2.2))), true) := hsp.trans ((if_neg h59).trans ((if_neg hh0).trans ((if_neg hbrp).trans ((if_neg (fun hh => hlg hh.1)).trans ((if_neg hlg).trans (if_neg htk2))))))
            obtain ⟨q1, q2, q3, q4, q5, q6, q7, q8⟩ := x_takes_same X (nn (xN X (nn (x_at X s).2.2.2.2.2.2.2) (3 + nn (xP X (nn (x_at X s).1) 1)))) (x_at X s).2.2.1
            have htau : x_over (x_takes X (nn (xN X (nn (x_at X s).2.2.2.2.2.2.2) (3 + nn (xP X (nn (x_at X s).1) 1)))) (x_at X s).2.2.1) (nn (xN X (nn (x_at X s).2.2.2.2.2.2.2) (3 + nn (xP X (nn (x_at X s).1) 1)))) ((x_at X s).1, (x_at X s).2.1, (x_at X s).2.2.1, (x_at X s).2.2.2.1, (x_at X s).2.2.2.2.1 - 1, (x_at X s).2.2.2.2.2.1, (x_at X s).2.2.2.2.2.2.1, (x_at X s).2.2.2.2.2.2.2) = ((x_at X s).1, (x_at X s).2.1, (x_at X s).2.2.1, (x_at X s).2.2.2.1, (x_at X s).2.2.2.2.1 - 1, (x_at X s).2.2.2.2.2.1, xG X 0 + c_time (xB X (nn (xN X (nn (x_at X s).2.2.2.2.2.2.2) (3 + nn (xP X (nn (x_at X s).1) 1)))) 3) (xB X (nn (xN X (nn (x_at X s).2.2.2.2.2.2.2) (3 + nn (xP X (nn (x_at X s).1) 1)))) 4) (x_at X s).2.2.1, xB X (nn (xN X (nn (x_at X s).2.2.2.2.2.2.2) (3 + nn (xP X (nn (x_at X s).1) 1)))) 1) := by
              unfold x_over
              dsimp only
              rw [q8 _ 3 (by decide), q8 _ 4 (by decide), q8 _ 1 (by decide), q1, c_time_eq hpace]
            rw [htau, q5] at e9
            unfold QTR
            rw [e9]
            refine ⟨_, _, AL, C.set k (((x_at X s).1, (x_at X s).2.1, (x_at X s).2.2.1, (x_at X s).2.2.2.1, (x_at X s).2.2.2.2.1 - 1, (x_at X s).2.2.2.2.2.1, xG X 0 + c_time (xB X (nn (xN X (nn (x_at X s).2.2.2.2.2.2.2) (3 + nn (xP X (nn (x_at X s).1) 1)))) 3) (xB X (nn (xN X (nn (x_at X s).2.2.2.2.2.2.2) (3 + nn (xP X (nn (x_at X s).1) 1)))) 4) (x_at X s).2.2.1, xB X (nn (xN X (nn (x_at X s).2.2.2.2.2.2.2) (3 + nn (xP X (nn (x_at X s).1) 1)))) 1), false), rfl, rfl, ((((((((FrC.rf.uF (by omega)).uF (by omega)).uF (by omega)).uF (by omega)).uF (by omega)).uF (by omega)).uF (by omega)).uF (by omega)), ?_, Or.inl ⟨by rw [e9], ((x_at X s).1, (x_at X s).2.1, (x_at X s).2.2.1, (x_at X s).2.2.2.1, (x_at X s).2.2.2.2.1 - 1, (x_at X s).2.2.2.2.2.1, xG X 0 + c_time (xB X (nn (xN X (nn (x_at X s).2.2.2.2.2.2.2) (3 + nn (xP X (nn (x_at X s).1) 1)))) 3) (xB X (nn (xN X (nn (x_at X s).2.2.2.2.2.2.2) (3 + nn (xP X (nn (x_at X s).1) 1)))) 4) (x_at X s).2.2.1, xB X (nn (xN X (nn (x_at X s).2.2.2.2.2.2.2) (3 + nn (xP X (nn (x_at X s).1) 1)))) 1), rfl, by rw [e9]; rfl⟩⟩
            show CW L _ _ AL AR w (x_s (x_takes X (nn (xN X (nn (x_at X s).2.2.2.2.2.2.2) (3 + nn (xP X (nn (x_at X s).1) 1)))) (x_at X s).2.2.1) ((xS X).set s ((x_at X s).1, (x_at X s).2.1, (x_at X s).2.2.1, (x_at X s).2.2.2.1, (x_at X s).2.2.2.2.1 - 1, (x_at X s).2.2.2.2.2.1, xG X 0 + c_time (xB X (nn (xN X (nn (x_at X s).2.2.2.2.2.2.2) (3 + nn (xP X (nn (x_at X s).1) 1)))) 3) (xB X (nn (xN X (nn (x_at X s).2.2.2.2.2.2.2) (3 + nn (xP X (nn (x_at X s).1) 1)))) 4) (x_at X s).2.2.1, xB X (nn (xN X (nn (x_at X s).2.2.2.2.2.2.2) (3 + nn (xP X (nn (x_at X s).1) 1)))) 1))) (C.set k (((x_at X s).1, (x_at X s).2.1, (x_at X s).2.2.1, (x_at X s).2.2.2.1, (x_at X s).2.2.2.2.1 - 1, (x_at X s).2.2.2.2.2.1, xG X 0 + c_time (xB X (nn (xN X (nn (x_at X s).2.2.2.2.2.2.2) (3 + nn (xP X (nn (x_at X s).1) 1)))) 3) (xB X (nn (xN X (nn (x_at X s).2.2.2.2.2.2.2) (3 + nn (xP X (nn (x_at X s).1) 1)))) 4) (x_at X s).2.2.1, xB X (nn (xN X (nn (x_at X s).2.2.2.2.2.2.2) (3 + nn (xP X (nn (x_at X s).1) 1)))) 1), false)) ((xS X).set s ((x_at X s).1, (x_at X s).2.1, (x_at X s).2.2.1, (x_at X s).2.2.2.1, (x_at X s).2.2.2.2.1 - 1, (x_at X s).2.2.2.2.2.1, xG X 0 + c_time (xB X (nn (xN X (nn (x_at X s).2.2.2.2.2.2.2) (3 + nn (xP X (nn (x_at X s).1) 1)))) 3) (xB X (nn (xN X (nn (x_at X s).2.2.2.2.2.2.2) (3 + nn (xP X (nn (x_at X s).1) 1)))) 4) (x_at X s).2.2.1, xB X (nn (xN X (nn (x_at X s).2.2.2.2.2.2.2) (3 + nn (xP X (nn (x_at X s).1) 1)))) 1)).length sa
            rw [List.length_set, x_takes_o htk2]
            have hbx : nn (xN X (nn (x_at X s).2.2.2.2.2.2.2) (3 + nn (xP X (nn (x_at X s).1) 1))) < xb X := hbi.nn
            have hSLn : SL (p_up (p_up (p_up (p_up (p_up (p_up (p_up FI 200 w (Int32.ofNat ((xS X).length - 1))) 6 (w + 23 + nn (xN X (nn (x_at X s).2.2.2.2.2.2.2) (3 + nn (xP X (nn (x_at X s).1) 1)))) ((p_up FI 200 w (Int32.ofNat ((xS X).length - 1))) 6 (w + 23 + nn (xN X (nn (x_at X s).2.2.2.2.2.2.2) (3 + nn (xP X (nn (x_at X s).1) 1)))) + 1)) 8 (w + 23 + nn (xN X (nn (x_at X s).2.2.2.2.2.2.2) (3 + nn (xP X (nn (x_at X s).1) 1)))) ((p_up FI 200 w (Int32.ofNat ((xS X).length - 1))) 8 (w + 23 + nn (xN X (nn (x_at X s).2.2.2.2.2.2.2) (3 + nn (xP X (nn (x_at X s).1) 1)))) + ((x_at X s).2.2.1 + 8))) 163 (sa k) ((x_at X s).2.2.2.2.1 - 1)) 166 (sa k) ((p_up FI 200 w (Int32.ofNat ((xS X).length - 1))) 1 (w + 23 + nn (xN X (nn (x_at X s).2.2.2.2.2.2.2) (3 + nn (xP X (nn (x_at X s).1) 1)))))) 167 (sa k) (xG X 0 + c_time ((p_up FI 200 w (Int32.ofNat ((xS X).length - 1))) 3 (w + 23 + nn (xN X (nn (x_at X s).2.2.2.2.2.2.2) (3 + nn (xP X (nn (x_at X s).1) 1))))) ((p_up FI 200 w (Int32.ofNat ((xS X).length - 1))) 4 (w + 23 + nn (xN X (nn (x_at X s).2.2.2.2.2.2.2) (3 + nn (xP X (nn (x_at X s).1) 1))))) (x_at X s).2.2.1)) 168 (sa k) 0) (sa k) ((x_at X s).1, (x_at X s).2.1, (x_at X s).2.2.1, (x_at X s).2.2.2.1, (x_at X s).2.2.2.2.1 - 1, (x_at X s).2.2.2.2.2.1, xG X 0 + c_time (xB X (nn (xN X (nn (x_at X s).2.2.2.2.2.2.2) (3 + nn (xP X (nn (x_at X s).1) 1)))) 3) (xB X (nn (xN X (nn (x_at X s).2.2.2.2.2.2.2) (3 + nn (xP X (nn (x_at X s).1) 1)))) 4) (x_at X s).2.2.1, xB X (nn (xN X (nn (x_at X s).2.2.2.2.2.2.2) (3 + nn (xP X (nn (x_at X s).1) 1)))) 1) := ⟨(p_up_n1 _ _ _ _ (by decide)).trans ((p_up_n1 _ _ _ _ (by decide)).trans ((p_up_n1 _ _ _ _ (by decide)).trans ((p_up_n1 _ _ _ _ (by decide)).trans ((p_up_n1 _ _ _ _ (by decide)).trans ((p_up_n1 _ _ _ _ (by decide)).trans (hSG.1)))))), (p_up_n1 _ _ _ _ (by decide)).trans ((p_up_n1 _ _ _ _ (by decide)).trans ((p_up_n1 _ _ _ _ (by decide)).trans ((p_up_n1 _ _ _ _ (by decide)).trans ((p_up_n1 _ _ _ _ (by decide)).trans ((p_up_n1 _ _ _ _ (by decide)).trans (hSG.2.1)))))), (p_up_n1 _ _ _ _ (by decide)).trans ((p_up_n1 _ _ _ _ (by decide)).trans ((p_up_n1 _ _ _ _ (by decide)).trans ((p_up_n1 _ _ _ _ (by decide)).trans ((p_up_n1 _ _ _ _ (by decide)).trans ((p_up_n1 _ _ _ _ (by decide)).trans (hSG.2.2.1)))))), (p_up_n1 _ _ _ _ (by decide)).trans ((p_up_n1 _ _ _ _ (by decide)).trans ((p_up_n1 _ _ _ _ (by decide)).trans ((p_up_n1 _ _ _ _ (by decide)).trans ((p_up_n1 _ _ _ _ (by decide)).trans ((p_up_n1 _ _ _ _ (by decide)).trans (hSG.2.2.2.1)))))), (p_up_n1 _ _ _ _ (by decide)).trans ((p_up_n1 _ _ _ _ (by decide)).trans ((p_up_n1 _ _ _ _ (by decide)).trans (p_up_eq _ _ _ _))), (p_up_n1 _ _ _ _ (by decide)).trans ((p_up_n1 _ _ _ _ (by decide)).trans ((p_up_n1 _ _ _ _ (by decide)).trans ((p_up_n1 _ _ _ _ (by decide)).trans ((p_up_n1 _ _ _ _ (by decide)).trans ((p_up_n1 _ _ _ _ (by decide)).trans (hSG.2.2.2.2.2.1)))))), (p_up_n1 _ _ _ _ (by decide)).trans ((p_up_eq _ _ _ _).trans (by rw [hb3, hb4])), (p_up_n1 _ _ _ _ (by decide)).trans ((p_up_n1 _ _ _ _ (by decide)).trans ((p_up_eq _ _ _ _).trans hb1))⟩
            have hcw := (((h1.bri hbx (show 6 < 9 by decide) ((p_up FI 200 w (Int32.ofNat ((xS X).length - 1))) 6 (w + 23 + nn (xN X (nn (x_at X s).2.2.2.2.2.2.2) (3 + nn (xP X (nn (x_at X s).1) 1)))) + 1)).bri hbx (show 8 < 9 by decide) ((p_up FI 200 w (Int32.ofNat ((xS X).length - 1))) 8 (w + 23 + nn (xN X (nn (x_at X s).2.2.2.2.2.2.2) (3 + nn (xP X (nn (x_at X s).1) 1)))) + ((x_at X s).2.2.1 + 8))).sl hk (σ := (((x_at X s).1, (x_at X s).2.1, (x_at X s).2.2.1, (x_at X s).2.2.2.1, (x_at X s).2.2.2.2.1 - 1, (x_at X s).2.2.2.2.2.1, xG X 0 + c_time (xB X (nn (xN X (nn (x_at X s).2.2.2.2.2.2.2) (3 + nn (xP X (nn (x_at X s).1) 1)))) 3) (xB X (nn (xN X (nn (x_at X s).2.2.2.2.2.2.2) (3 + nn (xP X (nn (x_at X s).1) 1)))) 4) (x_at X s).2.2.1, xB X (nn (xN X (nn (x_at X s).2.2.2.2.2.2.2) (3 + nn (xP X (nn (x_at X s).1) 1)))) 1), false)) (fun j a hja => (p_up_of (by omega)).trans ((p_up_of (by omega)).trans ((p_up_of (by omega)).trans (p_up_of (by omega))))) hSLn (p_up_eq _ _ _ _)).u ((xS X).length - 1 + 1)
            rw [show (xS X).length - 1 + 1 = (xS X).length by omega] at hcw ⊢
            rw [hb6, hb8] at hcw ⊢
            exact hcw.xs _
      · have hbrn : (xN X (nn (x_at X s).2.2.2.2.2.2.2) (3 + nn (xP X (nn (x_at X s).1) 1))) < 0 := by
          rcases (hI.2.1 _ hatn).2 _ hton with h9 | h9
          · rw [h9]; decide
          · rw [if_pos (q_ib_iff.mpr h9)] at hrb
            rw [hrb] at h91
            cases h91
        refine P_aloadn (i := 0) rfl rfl dX6_treat_94 ?_
        refine P_aloadn (i := 1) rfl rfl dX6_treat_95 ?_
        refine P_aloadn (i := 2) rfl rfl dX6_treat_96 ?_
        refine P_iconst (v := 2) rfl dX6_treat_97 ?_
        refine kX6_256 rfl (s_drop7 (k := 2) hw hA hks hpl (by decide) (hSG.1.trans hσp) (h1.d 2 (by decide) (by decide)) hrG.1.2.2.2.2.2.2.2.2.2.1) (by decide) (by first | assumption | exact hw.kw | exact hw.k3 | exact hw.k1) rfl dX6_treat_98 (fun r98 s98 q98 => ?_)
        obtain ⟨rfl, rfl⟩ := q98
        refine P_goto dX6_treat_101 (tgt := 152) rfl ?_
        refine P_return rfl dX6_treat_152 ?_
        have e9 : x_still X s = (x_drop X s 2, false) := hsp.trans ((if_neg h59).trans ((if_neg hh0).trans (if_pos hbrn)))
        unfold QTR
        rw [e9]
        refine ⟨_, _, _, C.set k ((x_at X s), true), rfl, rfl, (((FrC.rf.uF (by omega)).uF (by omega)).uF (by omega)).uA (by omega), ?_, Or.inr ⟨by rw [e9], [], by rw [List.map_nil, List.append_nil], ?_⟩⟩
        · show CW L _ _ AL AR w (x_drop X s 2) (C.set k ((x_at X s), true)) (xS (x_drop X s 2)).length sa
          rw [show (xS (x_drop X s 2)).length = (xS X).length - 1 from by rw [(x_drop_kp X s 2 (by decide)).2, List.length_eraseIdx, if_pos hs]]
          exact hdrop 2 (by decide)
        · rw [e9, List.append_nil]
          exact (x_drop_kp X s 2 (by decide)).2
    · have hh0 : (x_at X s).2.2.2.2.1 = 0 := by
        have h9 := Int32.not_lt.mp h76
        rw [Int32.le_iff_toInt_le] at h9
        have h8 := hσ.2.2.2.2.2.1.1
        rw [i_eq]
        simp only [Int32.reduceToInt] at h9 ⊢
        omega
      refine P_aloadn (i := 0) rfl rfl dX6_treat_79 ?_
      refine P_aloadn (i := 1) rfl rfl dX6_treat_80 ?_
      refine P_aloadn (i := 2) rfl rfl dX6_treat_81 ?_
      refine P_iconst (v := 1) rfl dX6_treat_82 ?_
      refine kX6_256 rfl (s_drop7 (k := 1) hw hA hks hpl (by decide) (hSG.1.trans hσp) (h1.d 1 (by decide) (by decide)) hrG.1.2.2.2.2.2.2.2.2.2.1) (by decide) (by first | assumption | exact hw.kw | exact hw.k3 | exact hw.k1) rfl dX6_treat_83 (fun r83 s83 q83 => ?_)
      obtain ⟨rfl, rfl⟩ := q83
      refine P_goto dX6_treat_86 (tgt := 152) rfl ?_
      refine P_return rfl dX6_treat_152 ?_
      have e9 : x_still X s = (x_drop X s 1, false) := hsp.trans ((if_neg h59).trans (if_pos hh0))
      unfold QTR
      rw [e9]
      refine ⟨_, _, _, C.set k ((x_at X s), true), rfl, rfl, (((FrC.rf.uF (by omega)).uF (by omega)).uF (by omega)).uA (by omega), ?_, Or.inr ⟨by rw [e9], [], by rw [List.map_nil, List.append_nil], ?_⟩⟩
      · show CW L _ _ AL AR w (x_drop X s 1) (C.set k ((x_at X s), true)) (xS (x_drop X s 1)).length sa
        rw [show (xS (x_drop X s 1)).length = (xS X).length - 1 from by rw [(x_drop_kp X s 1 (by decide)).2, List.length_eraseIdx, if_pos hs]]
        exact hdrop 1 (by decide)
      · rw [e9, List.append_nil]
        exact (x_drop_kp X s 1 (by decide)).2
  · refine P_aloadn (i := 0) rfl rfl dX6_treat_62 ?_
    refine P_aloadn (i := 1) rfl rfl dX6_treat_63 ?_
    refine P_aloadn (i := 2) rfl rfl dX6_treat_64 ?_
    refine P_aloadn (i := 3) rfl rfl dX6_treat_65 ?_
    refine kX6_251 rfl (by have h9 := s_join (g := g) h1 hI hs hk hkC; rw [← h59] at h9; exact h9) (by decide) (by first | assumption | exact hw.kw | exact hw.k3 | exact hw.k1) rfl dX6_treat_66 (fun r66 s66 q66 => ?_)
    obtain ⟨F3, A3, B3, rfl, rfl, hf3, h3⟩ := q66
    refine P_goto dX6_treat_69 (tgt := 152) rfl ?_
    refine P_return rfl dX6_treat_152 ?_
    have e9 : x_still X s = (x_put X s, false) := hsp.trans (if_pos h59)
    unfold QTR
    rw [e9]
    refine ⟨F3, A3, B3, C.set k ((x_at X s), true), rfl, rfl, FrC.tr (FrC.rf.uF (by omega)) hf3, ?_, Or.inr ⟨by rw [e9], [], by rw [List.map_nil, List.append_nil], ?_⟩⟩
    · show CW L _ _ _ AR w (x_put X s) (C.set k ((x_at X s), true)) (xS (x_put X s)).length sa
      rw [show (xS (x_put X s)).length = (xS X).length - 1 from by rw [(x_put_kp X s).2, List.length_eraseIdx, if_pos hs]]
      exact h3
    · rw [e9, List.append_nil]
      exact (x_put_kp X s).2
end Cls15
