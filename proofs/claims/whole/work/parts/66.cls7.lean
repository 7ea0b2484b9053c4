section Cls7
variable {g : PG} {L : PL} {FI AI : Nat → Nat → Int32} {AL : Nat → Nat → Int64} {AR : Nat → Nat → Option Nat} {w : Nat} {X : XW} {C : List XC} {U : Nat} {sa : Nat → Nat} {M : Nat} {a b p k : Nat} {v1 v2 len hops tick : Int32}
theorem s_drop7 (hw : WF L w) (hA : WA AR w sa) (hka : L.2.1 a = 5) (hp : p < 40) (hk : 0 < k ∧ k < 8) (h160 : FI 160 a = Int32.ofNat p) (hd : AI (w + 5) k = v1) (hl : FI 137 (w + 39 + 2 * p) = v2) : Sp g 0 iX6_drop [vr w, vr a, vr (w + 39 + 2 * p), vi (Int32.ofNat k)] (L, FI, AI, AL, AR) (0, 0) (QV (L, p_up (p_up FI 168 a 1) 137 (w + 39 + 2 * p) (v2 + 1), p_up AI (w + 5) k (v1 + 1), AL, AR)) := by
  refine Sp.of (ls := [some (vr w), some (vr a), some (vr (w + 39 + 2 * p)), some (vi (Int32.ofNat k))]) (by decide +kernel) rfl rfl ?_
  have hkp := hw.kP (i := p) hp
  refine P_aloadn (i := 1) rfl rfl dX6_drop_0 ?_
  refine P_iconst (v := 1) rfl dX6_drop_1 ?_
  refine uX6_286 rfl (by first | exact Or.inl rfl | exact Or.inr rfl | assumption) (by first | assumption | exact hw.kw | exact hw.k3 | exact hw.k5) dX6_drop_2 ?_
  refine P_aloadn (i := 0) rfl rfl dX6_drop_5 ?_
  refine gX6_35 rfl (by first | assumption | exact hw.kw | exact hw.k3 | exact hw.k5) hw.r204 dX6_drop_6 ?_
  refine P_iloadn (i := 3) rfl rfl dX6_drop_9 ?_
  refine P_dup2 rfl rfl dX6_drop_10 ?_
  refine P_iaN (j := k) (by first | assumption | exact hw.kw | exact hw.k3 | exact hw.k5) rfl (by omega) (by rw [hw.l5]; omega) hd dX6_drop_11 ?_
  refine P_iconst (v := 1) rfl dX6_drop_12 ?_
  refine P_iadd dX6_drop_13 ?_
  refine P_isN (j := k) (by first | assumption | exact hw.kw | exact hw.k3 | exact hw.k5) rfl (by omega) (by rw [hw.l5]; omega) dX6_drop_14 ?_
  refine P_aloadn (i := 2) rfl rfl dX6_drop_15 ?_
  refine P_dup rfl dX6_drop_16 ?_
  refine gX6_301 rfl hkp ((p_up_n1 _ _ _ _ (by decide)).trans hl) dX6_drop_17 ?_
  refine P_iconst (v := 1) rfl dX6_drop_20 ?_
  refine P_iadd dX6_drop_21 ?_
  refine uX6_301 rfl (by first | assumption | exact hw.kw | exact hw.k3 | exact hw.k5) dX6_drop_22 ?_
  refine P_return rfl dX6_drop_25 ?_
  exact ⟨rfl, rfl⟩
theorem s_goOn_full (hw : WF L w) (hA : WA AR w sa) (hka : L.2.1 a = 5) (hp : p < 40) (hb : b < 16) (h160 : FI 160 a = Int32.ofNat p) (hU : FI 200 w = Int32.ofNat U) (hU2 : U < 1000000) (hf : 300 ≤ U) (hd : AI (w + 5) 5 = v1) (hl : FI 137 (w + 39 + 2 * p) = v2) : Sp g 1 iX6_goOn [vr w, vr a, vr (w + 39 + 2 * p), vr (w + 23 + b)] (L, FI, AI, AL, AR) (0, 0) (QV (L, p_up (p_up FI 168 a 1) 137 (w + 39 + 2 * p) (v2 + 1), p_up AI (w + 5) 5 (v1 + 1), AL, AR)) := by
  refine Sp.of (ls := [some (vr w), some (vr a), some (vr (w + 39 + 2 * p)), some (vr (w + 23 + b))]) (by decide +kernel) rfl rfl ?_
  have hkb := hw.kB (i := b) hb
  refine P_aloadn (i := 0) rfl rfl dX6_goOn_0 ?_
  refine kX6_159 rfl (s_isFull hw.kw hU hU2) (by decide) (by first | assumption | exact hw.kw | exact hw.k3 | exact hw.k5) rfl dX6_goOn_1 (fun r1 s1 q1 => ?_)
  obtain ⟨rfl, rfl⟩ := q1
  refine P_ifeq dX6_goOn_4 (tgt := 17) rfl (fun h4 => ?_) (fun h4 => ?_)
  · exact absurd (show (if 300 ≤ U then (1 : Int32) else 0) = 0 from h4) (by rw [if_pos hf]; decide)
  · refine P_aloadn (i := 0) rfl rfl dX6_goOn_7 ?_
    refine P_aloadn (i := 1) rfl rfl dX6_goOn_8 ?_
    refine P_aloadn (i := 2) rfl rfl dX6_goOn_9 ?_
    refine P_iconst (v := 5) rfl dX6_goOn_10 ?_
    refine kX6_256 rfl (s_drop7 (k := 5) hw hA hka hp (by decide) h160 hd hl) (by decide) (by first | assumption | exact hw.kw | exact hw.k3 | exact hw.k5) rfl dX6_goOn_11 (fun r11 s11 q11 => ?_)
    obtain ⟨rfl, rfl⟩ := q11
    refine P_goto dX6_goOn_14 (tgt := 91) rfl ?_
    refine P_return rfl dX6_goOn_91 ?_
    exact ⟨rfl, rfl⟩
theorem s_goOn_lost (hw : WF L w) (hA : WA AR w sa) (hka : L.2.1 a = 5) (hp : p < 40) (hb : b < 16) (h160 : FI 160 a = Int32.ofNat p) (hU : FI 200 w = Int32.ofNat U) (hU2 : U < 1000000) (hf : ¬ 300 ≤ U) (hlo : c_lost (FI 6 (w + 23 + b) + 1) (FI 5 (w + 23 + b)) = true) (hd : AI (w + 5) 4 = v1) (hl : FI 137 (w + 39 + 2 * p) = v2) : Sp g 1 iX6_goOn [vr w, vr a, vr (w + 39 + 2 * p), vr (w + 23 + b)] (L, FI, AI, AL, AR) (0, 0) (QV (L, p_up (p_up (p_up (p_up FI 6 (w + 23 + b) (FI 6 (w + 23 + b) + 1)) 7 (w + 23 + b) (FI 7 (w + 23 + b) + 1)) 168 a 1) 137 (w + 39 + 2 * p) (v2 + 1), p_up AI (w + 5) 4 (v1 + 1), AL, AR)) := by
  refine Sp.of (ls := [some (vr w), some (vr a), some (vr (w + 39 + 2 * p)), some (vr (w + 23 + b))]) (by decide +kernel) rfl rfl ?_
  have hkb := hw.kB (i := b) hb
  refine P_aloadn (i := 0) rfl rfl dX6_goOn_0 ?_
  refine kX6_159 rfl (s_isFull hw.kw hU hU2) (by decide) (by first | assumption | exact hw.kw | exact hw.k3 | exact hw.k5) rfl dX6_goOn_1 (fun r1 s1 q1 => ?_)
  obtain ⟨rfl, rfl⟩ := q1
  refine P_ifeq dX6_goOn_4 (tgt := 17) rfl (fun h4 => ?_) (fun h4 => ?_)
  · refine P_aloadn (i := 3) rfl rfl dX6_goOn_17 ?_
    refine kX6_291 rfl (s_loses hkb) (by decide) (by first | assumption | exact hw.kw | exact hw.k3 | exact hw.k5) rfl dX6_goOn_18 (fun r18 s18 q18 => ?_)
    obtain ⟨F9, A9, L9, R9, rfl, rfl, rfl, rfl, hif⟩ := q18
    rw [if_pos hlo] at hif
    obtain ⟨rfl, rfl⟩ := hif
    refine P_ifeq dX6_goOn_21 (tgt := 34) rfl (fun h21 => ?_) (fun h21 => ?_)
    · exact absurd h21 (by decide)
    · refine P_aloadn (i := 0) rfl rfl dX6_goOn_24 ?_
      refine P_aloadn (i := 1) rfl rfl dX6_goOn_25 ?_
      refine P_aloadn (i := 2) rfl rfl dX6_goOn_26 ?_
      refine P_iconst (v := 4) rfl dX6_goOn_27 ?_
      refine kX6_256 rfl (s_drop7 (k := 4) hw hA hka hp (by decide) ((p_up_n1 _ _ _ _ (by decide)).trans ((p_up_n1 _ _ _ _ (by decide)).trans (h160))) hd ((p_up_n1 _ _ _ _ (by decide)).trans ((p_up_n1 _ _ _ _ (by decide)).trans (hl)))) (by decide) (by first | assumption | exact hw.kw | exact hw.k3 | exact hw.k5) rfl dX6_goOn_28 (fun r28 s28 q28 => ?_)
      obtain ⟨rfl, rfl⟩ := q28
      refine P_goto dX6_goOn_31 (tgt := 91) rfl ?_
      refine P_return rfl dX6_goOn_91 ?_
      exact ⟨rfl, rfl⟩
  · exact absurd (if_neg hf) h4
theorem s_goOn_over (hw : WF L w) (hA : WA AR w sa) (hka : L.2.1 a = 5) (hp : p < 40) (hb : b < 16) (h160 : FI 160 a = Int32.ofNat p) (hU : FI 200 w = Int32.ofNat U) (hU2 : U < 1000000) (hf : ¬ 300 ≤ U) (hlo : ¬ c_lost (FI 6 (w + 23 + b) + 1) (FI 5 (w + 23 + b)) = true) (h162 : FI 162 a = len) (h163 : FI 163 a = hops) (h192 : FI 192 w = tick) : Sp g 1 iX6_goOn [vr w, vr a, vr (w + 39 + 2 * p), vr (w + 23 + b)] (L, FI, AI, AL, AR) (0, 0) (QV (L, p_up (p_up (p_up (p_up (p_up (p_up (p_up FI 6 (w + 23 + b) (FI 6 (w + 23 + b) + 1)) 8 (w + 23 + b) (FI 8 (w + 23 + b) + (len + 8))) 163 a (hops - 1)) 166 a (FI 1 (w + 23 + b))) 167 a (tick + c_time (FI 3 (w + 23 + b)) (FI 4 (w + 23 + b)) len)) 168 a 0) 200 w (Int32.ofNat (U + 1)), AI, AL, AR)) := by
  refine Sp.of (ls := [some (vr w), some (vr a), some (vr (w + 39 + 2 * p)), some (vr (w + 23 + b))]) (by decide +kernel) rfl rfl ?_
  have hkb := hw.kB (i := b) hb
  refine P_aloadn (i := 0) rfl rfl dX6_goOn_0 ?_
  refine kX6_159 rfl (s_isFull hw.kw hU hU2) (by decide) (by first | assumption | exact hw.kw | exact hw.k3 | exact hw.k5) rfl dX6_goOn_1 (fun r1 s1 q1 => ?_)
  obtain ⟨rfl, rfl⟩ := q1
  refine P_ifeq dX6_goOn_4 (tgt := 17) rfl (fun h4 => ?_) (fun h4 => ?_)
  · refine P_aloadn (i := 3) rfl rfl dX6_goOn_17 ?_
    refine kX6_291 rfl (s_loses hkb) (by decide) (by first | assumption | exact hw.kw | exact hw.k3 | exact hw.k5) rfl dX6_goOn_18 (fun r18 s18 q18 => ?_)
    obtain ⟨F9, A9, L9, R9, rfl, rfl, rfl, rfl, hif⟩ := q18
    rw [if_neg hlo] at hif
    obtain ⟨rfl, rfl⟩ := hif
    refine P_ifeq dX6_goOn_21 (tgt := 34) rfl (fun h21 => ?_) (fun h21 => ?_)
    · refine P_aloadn (i := 3) rfl rfl dX6_goOn_34 ?_
      refine P_dup rfl dX6_goOn_35 ?_
      refine gX6_294 rfl (by first | assumption | exact hw.kw | exact hw.k3 | exact hw.k5) ((p_up_n1 _ _ _ _ (by decide)).trans (rfl)) dX6_goOn_36 ?_
      refine P_aloadn (i := 1) rfl rfl dX6_goOn_39 ?_
      refine gX6_260 rfl (by first | assumption | exact hw.kw | exact hw.k3 | exact hw.k5) ((p_up_n1 _ _ _ _ (by decide)).trans (h162)) dX6_goOn_40 ?_
      refine P_bipush (v := 8) rfl dX6_goOn_43 ?_
      refine P_iadd dX6_goOn_45 ?_
      refine P_iadd dX6_goOn_46 ?_
      refine uX6_294 rfl (by first | assumption | exact hw.kw | exact hw.k3 | exact hw.k5) dX6_goOn_47 ?_
      refine P_aloadn (i := 1) rfl rfl dX6_goOn_50 ?_
      refine P_dup rfl dX6_goOn_51 ?_
      refine gX6_255 rfl (by first | assumption | exact hw.kw | exact hw.k3 | exact hw.k5) ((p_up_n1 _ _ _ _ (by decide)).trans ((p_up_n1 _ _ _ _ (by decide)).trans (h163))) dX6_goOn_52 ?_
      refine P_iconst (v := 1) rfl dX6_goOn_55 ?_
      refine P_isub dX6_goOn_56 ?_
      refine uX6_255 rfl (by first | assumption | exact hw.kw | exact hw.k3 | exact hw.k5) dX6_goOn_57 ?_
      refine P_aloadn (i := 1) rfl rfl dX6_goOn_60 ?_
      refine P_aloadn (i := 3) rfl rfl dX6_goOn_61 ?_
      refine gX6_297 rfl (by first | assumption | exact hw.kw | exact hw.k3 | exact hw.k5) ((p_up_n1 _ _ _ _ (by decide)).trans ((p_up_n1 _ _ _ _ (by decide)).trans ((p_up_n1 _ _ _ _ (by decide)).trans (rfl)))) dX6_goOn_62 ?_
      refine P_aloadn (i := 0) rfl rfl dX6_goOn_65 ?_
      refine gX6_46 rfl (by first | assumption | exact hw.kw | exact hw.k3 | exact hw.k5) ((p_up_n1 _ _ _ _ (by decide)).trans ((p_up_n1 _ _ _ _ (by decide)).trans ((p_up_n1 _ _ _ _ (by decide)).trans (h192)))) dX6_goOn_66 ?_
      refine P_aloadn (i := 3) rfl rfl dX6_goOn_69 ?_
      refine P_aloadn (i := 1) rfl rfl dX6_goOn_70 ?_
      refine gX6_260 rfl (by first | assumption | exact hw.kw | exact hw.k3 | exact hw.k5) ((p_up_n1 _ _ _ _ (by decide)).trans ((p_up_n1 _ _ _ _ (by decide)).trans ((p_up_n1 _ _ _ _ (by decide)).trans (h162)))) dX6_goOn_71 ?_
      refine kX6_298 rfl (s_ticksFor hkb) (by decide) (by first | assumption | exact hw.kw | exact hw.k3 | exact hw.k5) rfl dX6_goOn_74 (fun r74 s74 q74 => ?_)
      obtain ⟨rfl, rfl⟩ := q74
      rw [show p_up (p_up (p_up FI 6 (w + 23 + b) (FI 6 (w + 23 + b) + 1)) 8 (w + 23 + b) (FI 8 (w + 23 + b) + (len + 8))) 163 a (hops - 1) 3 (w + 23 + b) = FI 3 (w + 23 + b) from ((p_up_n1 _ _ _ _ (by decide)).trans ((p_up_n1 _ _ _ _ (by decide)).trans ((p_up_n1 _ _ _ _ (by decide)).trans (rfl)))), show p_up (p_up (p_up FI 6 (w + 23 + b) (FI 6 (w + 23 + b) + 1)) 8 (w + 23 + b) (FI 8 (w + 23 + b) + (len + 8))) 163 a (hops - 1) 4 (w + 23 + b) = FI 4 (w + 23 + b) from ((p_up_n1 _ _ _ _ (by decide)).trans ((p_up_n1 _ _ _ _ (by decide)).trans ((p_up_n1 _ _ _ _ (by decide)).trans (rfl))))]
      refine P_iadd dX6_goOn_77 ?_
      refine kX6_134 rfl (s_arrive hka) (by decide) (by first | assumption | exact hw.kw | exact hw.k3 | exact hw.k5) rfl dX6_goOn_78 (fun r78 s78 q78 => ?_)
      obtain ⟨rfl, rfl⟩ := q78
      refine P_aloadn (i := 0) rfl rfl dX6_goOn_81 ?_
      refine P_dup rfl dX6_goOn_82 ?_
      refine gX6_59 rfl (by first | assumption | exact hw.kw | exact hw.k3 | exact hw.k5) ((p_up_n1 _ _ _ _ (by decide)).trans ((p_up_n1 _ _ _ _ (by decide)).trans ((p_up_n1 _ _ _ _ (by decide)).trans ((p_up_n1 _ _ _ _ (by decide)).trans ((p_up_n1 _ _ _ _ (by decide)).trans ((p_up_n1 _ _ _ _ (by decide)).trans (hU))))))) dX6_goOn_83 ?_
      
      refine P_iconst (v := 1) rfl dX6_goOn_86 ?_
      refine P_iadd dX6_goOn_87 ?_
      refine uX6_59 rfl (by first | assumption | exact hw.kw | exact hw.k3 | exact hw.k5) dX6_goOn_88 ?_
      rw [show Int32.ofNat U + 1 = Int32.ofNat (U + 1) from n_add U 1]
      refine P_return rfl dX6_goOn_91 ?_
      exact ⟨rfl, rfl⟩
    · exact absurd rfl h21
  · exact absurd (if_neg hf) h4
end Cls7
