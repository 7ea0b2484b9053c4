section Cls7
variable {g : PG} {L : PL} {FI AI : Nat → Nat → Int32} {AL : Nat → Nat → Int64} {AR : Nat → Nat → Option Nat} {w : Nat} {X : XW} {C : List XC} {U : Nat} {sa : Nat → Nat} {M : Nat} {a b p k : Nat} {v1 v2 len hops tick : Int32}
theorem s_drop7 (hw : WF L w) (hA : WA AR w sa) (hka : L.2.1 a = 5) (hp : p < 40) (hk : 0 < k ∧ k < 8) (h160 : FI 160 a = Int32.ofNat p) (hd : AI (w + 5) k = v1) (hl : FI 137 (w + 39 + 2 * p) = v2) : Sp g 0 iX6_drop [vr w, vr a, vi (Int32.ofNat k)] (L, FI, AI, AL, AR) (0, 0) (QV (L, p_up (p_up FI 168 a 1) 137 (w + 39 + 2 * p) (v2 + 1), p_up AI (w + 5) k (v1 + 1), AL, AR)) := by
  refine Sp.of (ls := [some (vr w), some (vr a), some (vi (Int32.ofNat k))]) (by decide +kernel) rfl rfl ?_
  have hkp := hw.kP (i := p) hp
  refine P_aloadn (i := 1) rfl rfl dX6_drop_0 ?_
  refine P_iconst (v := 1) rfl dX6_drop_1 ?_
  refine uX6_270 rfl (by first | exact Or.inl rfl | exact Or.inr rfl | assumption) (by first | assumption | exact hw.kw | exact hw.k3 | exact hw.k5) dX6_drop_2 ?_
  refine P_aloadn (i := 0) rfl rfl dX6_drop_5 ?_
  refine gX6_35 rfl (by first | assumption | exact hw.kw | exact hw.k3 | exact hw.k5) hw.r204 dX6_drop_6 ?_
  refine P_iloadn (i := 2) rfl rfl dX6_drop_9 ?_
  refine P_dup2 rfl rfl dX6_drop_10 ?_
  refine P_iaN (j := k) (by first | assumption | exact hw.kw | exact hw.k3 | exact hw.k5) rfl (by omega) (by rw [hw.l5]; omega) hd dX6_drop_11 ?_
  refine P_iconst (v := 1) rfl dX6_drop_12 ?_
  refine P_iadd dX6_drop_13 ?_
  refine P_isN (j := k) (by first | assumption | exact hw.kw | exact hw.k3 | exact hw.k5) rfl (by omega) (by rw [hw.l5]; omega) dX6_drop_14 ?_
  refine P_aloadn (i := 0) rfl rfl dX6_drop_15 ?_
  refine gX6_25 rfl (by first | assumption | exact hw.kw | exact hw.k3 | exact hw.k5) hw.r197 dX6_drop_16 ?_
  refine P_aloadn (i := 1) rfl rfl dX6_drop_19 ?_
  refine gX6_117 rfl (by first | assumption | exact hw.kw | exact hw.k3 | exact hw.k5) ((p_up_n1 _ _ _ _ (by decide)).trans h160) dX6_drop_20 ?_
  refine P_aaN (t := 26) (j := p) (by decide) (by first | assumption | exact hw.kw | exact hw.k3 | exact hw.k5) rfl (by omega) (by rw [hw.l3]; omega) (hA.2.2.1 _ hp) dX6_drop_23 ?_
  refine P_dup rfl dX6_drop_24 ?_
  refine gX6_285 rfl (by first | assumption | exact hw.kw | exact hw.k3 | exact hw.k5) ((p_up_n1 _ _ _ _ (by decide)).trans hl) dX6_drop_25 ?_
  refine P_iconst (v := 1) rfl dX6_drop_28 ?_
  refine P_iadd dX6_drop_29 ?_
  refine uX6_285 rfl (by first | assumption | exact hw.kw | exact hw.k3 | exact hw.k5) dX6_drop_30 ?_
  refine P_return rfl dX6_drop_33 ?_
  exact ⟨rfl, rfl⟩
theorem s_goOn_full (hw : WF L w) (hA : WA AR w sa) (hka : L.2.1 a = 5) (hp : p < 40) (hb : b < 16) (h160 : FI 160 a = Int32.ofNat p) (hU : FI 200 w = Int32.ofNat U) (hU2 : U < 1000000) (hf : 300 ≤ U) (hd : AI (w + 5) 5 = v1) (hl : FI 137 (w + 39 + 2 * p) = v2) : Sp g 1 iX6_goOn [vr w, vr a, vr (w + 23 + b)] (L, FI, AI, AL, AR) (0, 0) (QV (L, p_up (p_up FI 168 a 1) 137 (w + 39 + 2 * p) (v2 + 1), p_up AI (w + 5) 5 (v1 + 1), AL, AR)) := by
  refine Sp.of (ls := [some (vr w), some (vr a), some (vr (w + 23 + b))]) (by decide +kernel) rfl rfl ?_
  have hkb := hw.kB (i := b) hb
  refine P_aloadn (i := 0) rfl rfl dX6_goOn_0 ?_
  refine kX6_98 rfl (s_isFull hw.kw hU hU2) (by decide) (by first | assumption | exact hw.kw | exact hw.k3 | exact hw.k5) rfl dX6_goOn_1 (fun r1 s1 q1 => ?_)
  obtain ⟨rfl, rfl⟩ := q1
  refine P_ifeq dX6_goOn_4 (tgt := 16) rfl (fun h4 => ?_) (fun h4 => ?_)
  · exact absurd (show (if 300 ≤ U then (1 : Int32) else 0) = 0 from h4) (by rw [if_pos hf]; decide)
  · refine P_aloadn (i := 0) rfl rfl dX6_goOn_7 ?_
    refine P_aloadn (i := 1) rfl rfl dX6_goOn_8 ?_
    refine P_iconst (v := 5) rfl dX6_goOn_9 ?_
    refine kX6_240 rfl (s_drop7 (k := 5) hw hA hka hp (by decide) h160 hd hl) (by decide) (by first | assumption | exact hw.kw | exact hw.k3 | exact hw.k5) rfl dX6_goOn_10 (fun r10 s10 q10 => ?_)
    obtain ⟨rfl, rfl⟩ := q10
    refine P_goto dX6_goOn_13 (tgt := 89) rfl ?_
    refine P_return rfl dX6_goOn_89 ?_
    exact ⟨rfl, rfl⟩
theorem s_goOn_lost (hw : WF L w) (hA : WA AR w sa) (hka : L.2.1 a = 5) (hp : p < 40) (hb : b < 16) (h160 : FI 160 a = Int32.ofNat p) (hU : FI 200 w = Int32.ofNat U) (hU2 : U < 1000000) (hf : ¬ 300 ≤ U) (hlo : c_lost (FI 6 (w + 23 + b) + 1) (FI 5 (w + 23 + b)) = true) (hd : AI (w + 5) 4 = v1) (hl : FI 137 (w + 39 + 2 * p) = v2) : Sp g 1 iX6_goOn [vr w, vr a, vr (w + 23 + b)] (L, FI, AI, AL, AR) (0, 0) (QV (L, p_up (p_up (p_up (p_up FI 6 (w + 23 + b) (FI 6 (w + 23 + b) + 1)) 7 (w + 23 + b) (FI 7 (w + 23 + b) + 1)) 168 a 1) 137 (w + 39 + 2 * p) (v2 + 1), p_up AI (w + 5) 4 (v1 + 1), AL, AR)) := by
  refine Sp.of (ls := [some (vr w), some (vr a), some (vr (w + 23 + b))]) (by decide +kernel) rfl rfl ?_
  have hkb := hw.kB (i := b) hb
  refine P_aloadn (i := 0) rfl rfl dX6_goOn_0 ?_
  refine kX6_98 rfl (s_isFull hw.kw hU hU2) (by decide) (by first | assumption | exact hw.kw | exact hw.k3 | exact hw.k5) rfl dX6_goOn_1 (fun r1 s1 q1 => ?_)
  obtain ⟨rfl, rfl⟩ := q1
  refine P_ifeq dX6_goOn_4 (tgt := 16) rfl (fun h4 => ?_) (fun h4 => ?_)
  · refine P_aloadn (i := 2) rfl rfl dX6_goOn_16 ?_
    refine kX6_275 rfl (s_loses hkb) (by decide) (by first | assumption | exact hw.kw | exact hw.k3 | exact hw.k5) rfl dX6_goOn_17 (fun r17 s17 q17 => ?_)
    obtain ⟨F9, A9, L9, R9, rfl, rfl, rfl, rfl, hif⟩ := q17
    rw [if_pos hlo] at hif
    obtain ⟨rfl, rfl⟩ := hif
    refine P_ifeq dX6_goOn_20 (tgt := 32) rfl (fun h20 => ?_) (fun h20 => ?_)
    · exact absurd h20 (by decide)
    · refine P_aloadn (i := 0) rfl rfl dX6_goOn_23 ?_
      refine P_aloadn (i := 1) rfl rfl dX6_goOn_24 ?_
      refine P_iconst (v := 4) rfl dX6_goOn_25 ?_
      refine kX6_240 rfl (s_drop7 (k := 4) hw hA hka hp (by decide) ((p_up_n1 _ _ _ _ (by decide)).trans ((p_up_n1 _ _ _ _ (by decide)).trans (h160))) hd ((p_up_n1 _ _ _ _ (by decide)).trans ((p_up_n1 _ _ _ _ (by decide)).trans (hl)))) (by decide) (by first | assumption | exact hw.kw | exact hw.k3 | exact hw.k5) rfl dX6_goOn_26 (fun r26 s26 q26 => ?_)
      obtain ⟨rfl, rfl⟩ := q26
      refine P_goto dX6_goOn_29 (tgt := 89) rfl ?_
      refine P_return rfl dX6_goOn_89 ?_
      exact ⟨rfl, rfl⟩
  · exact absurd (if_neg hf) h4
theorem s_goOn_over (hw : WF L w) (hA : WA AR w sa) (hka : L.2.1 a = 5) (hp : p < 40) (hb : b < 16) (h160 : FI 160 a = Int32.ofNat p) (hU : FI 200 w = Int32.ofNat U) (hU2 : U < 1000000) (hf : ¬ 300 ≤ U) (hlo : ¬ c_lost (FI 6 (w + 23 + b) + 1) (FI 5 (w + 23 + b)) = true) (h162 : FI 162 a = len) (h163 : FI 163 a = hops) (h192 : FI 192 w = tick) : Sp g 1 iX6_goOn [vr w, vr a, vr (w + 23 + b)] (L, FI, AI, AL, AR) (0, 0) (QV (L, p_up (p_up (p_up (p_up (p_up (p_up (p_up FI 6 (w + 23 + b) (FI 6 (w + 23 + b) + 1)) 8 (w + 23 + b) (FI 8 (w + 23 + b) + (len + 8))) 163 a (hops - 1)) 166 a (FI 1 (w + 23 + b))) 167 a (tick + c_time (FI 3 (w + 23 + b)) (FI 4 (w + 23 + b)) len)) 168 a 0) 200 w (Int32.ofNat (U + 1)), AI, AL, AR)) := by
  refine Sp.of (ls := [some (vr w), some (vr a), some (vr (w + 23 + b))]) (by decide +kernel) rfl rfl ?_
  have hkb := hw.kB (i := b) hb
  refine P_aloadn (i := 0) rfl rfl dX6_goOn_0 ?_
  refine kX6_98 rfl (s_isFull hw.kw hU hU2) (by decide) (by first | assumption | exact hw.kw | exact hw.k3 | exact hw.k5) rfl dX6_goOn_1 (fun r1 s1 q1 => ?_)
  obtain ⟨rfl, rfl⟩ := q1
  refine P_ifeq dX6_goOn_4 (tgt := 16) rfl (fun h4 => ?_) (fun h4 => ?_)
  · refine P_aloadn (i := 2) rfl rfl dX6_goOn_16 ?_
    refine kX6_275 rfl (s_loses hkb) (by decide) (by first | assumption | exact hw.kw | exact hw.k3 | exact hw.k5) rfl dX6_goOn_17 (fun r17 s17 q17 => ?_)
    obtain ⟨F9, A9, L9, R9, rfl, rfl, rfl, rfl, hif⟩ := q17
    rw [if_neg hlo] at hif
    obtain ⟨rfl, rfl⟩ := hif
    refine P_ifeq dX6_goOn_20 (tgt := 32) rfl (fun h20 => ?_) (fun h20 => ?_)
    · refine P_aloadn (i := 2) rfl rfl dX6_goOn_32 ?_
      refine P_dup rfl dX6_goOn_33 ?_
      refine gX6_278 rfl (by first | assumption | exact hw.kw | exact hw.k3 | exact hw.k5) ((p_up_n1 _ _ _ _ (by decide)).trans (rfl)) dX6_goOn_34 ?_
      refine P_aloadn (i := 1) rfl rfl dX6_goOn_37 ?_
      refine gX6_244 rfl (by first | assumption | exact hw.kw | exact hw.k3 | exact hw.k5) ((p_up_n1 _ _ _ _ (by decide)).trans (h162)) dX6_goOn_38 ?_
      refine P_bipush (v := 8) rfl dX6_goOn_41 ?_
      refine P_iadd dX6_goOn_43 ?_
      refine P_iadd dX6_goOn_44 ?_
      refine uX6_278 rfl (by first | assumption | exact hw.kw | exact hw.k3 | exact hw.k5) dX6_goOn_45 ?_
      refine P_aloadn (i := 1) rfl rfl dX6_goOn_48 ?_
      refine P_dup rfl dX6_goOn_49 ?_
      refine gX6_130 rfl (by first | assumption | exact hw.kw | exact hw.k3 | exact hw.k5) ((p_up_n1 _ _ _ _ (by decide)).trans ((p_up_n1 _ _ _ _ (by decide)).trans (h163))) dX6_goOn_50 ?_
      refine P_iconst (v := 1) rfl dX6_goOn_53 ?_
      refine P_isub dX6_goOn_54 ?_
      refine uX6_130 rfl (by first | assumption | exact hw.kw | exact hw.k3 | exact hw.k5) dX6_goOn_55 ?_
      refine P_aloadn (i := 1) rfl rfl dX6_goOn_58 ?_
      refine P_aloadn (i := 2) rfl rfl dX6_goOn_59 ?_
      refine gX6_281 rfl (by first | assumption | exact hw.kw | exact hw.k3 | exact hw.k5) ((p_up_n1 _ _ _ _ (by decide)).trans ((p_up_n1 _ _ _ _ (by decide)).trans ((p_up_n1 _ _ _ _ (by decide)).trans (rfl)))) dX6_goOn_60 ?_
      refine P_aloadn (i := 0) rfl rfl dX6_goOn_63 ?_
      refine gX6_46 rfl (by first | assumption | exact hw.kw | exact hw.k3 | exact hw.k5) ((p_up_n1 _ _ _ _ (by decide)).trans ((p_up_n1 _ _ _ _ (by decide)).trans ((p_up_n1 _ _ _ _ (by decide)).trans (h192)))) dX6_goOn_64 ?_
      refine P_aloadn (i := 2) rfl rfl dX6_goOn_67 ?_
      refine P_aloadn (i := 1) rfl rfl dX6_goOn_68 ?_
      refine gX6_244 rfl (by first | assumption | exact hw.kw | exact hw.k3 | exact hw.k5) ((p_up_n1 _ _ _ _ (by decide)).trans ((p_up_n1 _ _ _ _ (by decide)).trans ((p_up_n1 _ _ _ _ (by decide)).trans (h162)))) dX6_goOn_69 ?_
      refine kX6_282 rfl (s_ticksFor hkb) (by decide) (by first | assumption | exact hw.kw | exact hw.k3 | exact hw.k5) rfl dX6_goOn_72 (fun r72 s72 q72 => ?_)
      obtain ⟨rfl, rfl⟩ := q72
      rw [show p_up (p_up (p_up FI 6 (w + 23 + b) (FI 6 (w + 23 + b) + 1)) 8 (w + 23 + b) (FI 8 (w + 23 + b) + (len + 8))) 163 a (hops - 1) 3 (w + 23 + b) = FI 3 (w + 23 + b) from ((p_up_n1 _ _ _ _ (by decide)).trans ((p_up_n1 _ _ _ _ (by decide)).trans ((p_up_n1 _ _ _ _ (by decide)).trans (rfl)))), show p_up (p_up (p_up FI 6 (w + 23 + b) (FI 6 (w + 23 + b) + 1)) 8 (w + 23 + b) (FI 8 (w + 23 + b) + (len + 8))) 163 a (hops - 1) 4 (w + 23 + b) = FI 4 (w + 23 + b) from ((p_up_n1 _ _ _ _ (by decide)).trans ((p_up_n1 _ _ _ _ (by decide)).trans ((p_up_n1 _ _ _ _ (by decide)).trans (rfl))))]
      refine P_iadd dX6_goOn_75 ?_
      refine kX6_138 rfl (s_arrive hka) (by decide) (by first | assumption | exact hw.kw | exact hw.k3 | exact hw.k5) rfl dX6_goOn_76 (fun r76 s76 q76 => ?_)
      obtain ⟨rfl, rfl⟩ := q76
      refine P_aloadn (i := 0) rfl rfl dX6_goOn_79 ?_
      refine P_dup rfl dX6_goOn_80 ?_
      refine gX6_59 rfl (by first | assumption | exact hw.kw | exact hw.k3 | exact hw.k5) ((p_up_n1 _ _ _ _ (by decide)).trans ((p_up_n1 _ _ _ _ (by decide)).trans ((p_up_n1 _ _ _ _ (by decide)).trans ((p_up_n1 _ _ _ _ (by decide)).trans ((p_up_n1 _ _ _ _ (by decide)).trans ((p_up_n1 _ _ _ _ (by decide)).trans (hU))))))) dX6_goOn_81 ?_
      
      refine P_iconst (v := 1) rfl dX6_goOn_84 ?_
      refine P_iadd dX6_goOn_85 ?_
      refine uX6_59 rfl (by first | assumption | exact hw.kw | exact hw.k3 | exact hw.k5) dX6_goOn_86 ?_
      rw [show Int32.ofNat U + 1 = Int32.ofNat (U + 1) from n_add U 1]
      refine P_return rfl dX6_goOn_89 ?_
      exact ⟨rfl, rfl⟩
    · exact absurd rfl h20
  · exact absurd (if_neg hf) h4
end Cls7
