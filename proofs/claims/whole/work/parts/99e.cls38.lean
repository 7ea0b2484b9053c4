/-- the class's error of an order -/
def e_of (X : XW) (U : Nat) (o : TO) : Int32 := if o.1 = 115 then e_send X U o.2.1 o.2.2.1 o.2.2.2.1 0 (41 - o.2.2.2.2) else if o.1 = 114 then e_resend X U o.2.1 else if o.1 = 102 then e_forge X U o.2.1 o.2.2.1 o.2.2.2.1 o.2.2.2.2 255 else if (1 : Int32) ≤ o.2.1 ∧ o.2.1 ≤ 500 then 0 else -2
theorem k_how {v : Int32} (h : v = 0 ∨ v = 1) : (if v = 0 then (41 : Int32) else 40) = 41 - v := by
  rcases h with e | e <;> subst e <;> decide
theorem k_last {v : Int32} (h : v = 0 ∨ v = 1) : (if v = 0 then (0 : Int32) else 1) = v := by
  rcases h with e | e <;> subst e <;> decide
theorem e_send_neg {X : XW} {U : Nat} {a b c d e : Int32} (h : ¬ e_send X U a b c d e = 0) : ¬ 0 ≤ e_send X U a b c d e := by
  unfold e_send at h ⊢
  split
  · decide
  · split
    · decide
    · split
      · decide
      · rename_i h1 h2 h3
        rw [if_neg h1, if_neg h2, if_neg h3] at h
        exact absurd rfl h
theorem e_resend_neg {X : XW} {U : Nat} {a : Int32} (h : ¬ e_resend X U a = 0) : ¬ 0 ≤ e_resend X U a := by
  unfold e_resend at h ⊢
  split
  · decide
  · split
    · decide
    · split
      · decide
      · rename_i h1 h2 h3
        rw [if_neg h1, if_neg h2, if_neg h3] at h
        exact absurd rfl h
theorem e_forge_neg {X : XW} {U : Nat} {a b c d e : Int32} (h : ¬ e_forge X U a b c d e = 0) : ¬ 0 ≤ e_forge X U a b c d e := by
  unfold e_forge at h ⊢
  split
  · decide
  · split
    · decide
    · split
      · decide
      · rename_i h1 h2 h3
        rw [if_neg h1, if_neg h2, if_neg h3] at h
        exact absurd rfl h
/-- an order that cannot be obeyed changes nothing -/
theorem z_obey_no {Z : ZW} {M : Nat} (hI : XI M (zX Z)) {o : TO} (h : ¬ e_of (zX Z) (xS (zX Z)).length o = 0) : (z_obey Z o).1 = Z ∧ ¬ 0 ≤ (z_obey Z o).2 := by
  unfold e_of at h
  unfold z_obey
  by_cases e1 : o.1 = 115
  · rw [if_pos e1] at h ⊢
    rw [z_send_e hI, if_neg h]
    exact ⟨rfl, e_send_neg h⟩
  · rw [if_neg e1] at h ⊢
    by_cases e2 : o.1 = 102
    · rw [if_neg (show ¬ o.1 = 114 by rw [e2]; decide), if_pos e2] at h
      rw [if_pos e2, z_forge_e hI, if_neg h]
      exact ⟨rfl, e_forge_neg h⟩
    · rw [if_neg e2] at h ⊢
      by_cases e3 : o.1 = 114
      · rw [if_pos e3] at h ⊢
        rw [z_resend_e hI, if_neg h]
        exact ⟨rfl, e_resend_neg h⟩
      · rw [if_neg e3] at h ⊢
        by_cases e4 : (1 : Int32) ≤ o.2.1 ∧ o.2.1 ≤ 500
        · rw [if_pos e4] at h
          exact absurd rfl h
        · unfold z_ticks
          rw [if_pos e4]
          exact ⟨rfl, show ¬ (0 : Int32) ≤ -2 by decide⟩
/-- how often each parcel was sent -/
def h_six (M : Nat) (X : XW) : Prop := ∀ q, q < xp X → 0 ≤ (xP X q 6).toInt ∧ (xP X q 6).toInt ≤ (M : Int)
def QOB (L : PL) (FI AI : Nat → Nat → Int32) (AL : Nat → Nat → Int64) (AR : Nat → Nat → Option Nat) (x : Nat) (Z : ZW) (o : TO) : Option PV → PS → Prop := fun r σ => ∃ F2 A2 L2 R2, σ = (L, F2, A2, L2, R2) ∧ r = some (vi (if 0 ≤ (z_obey Z o).2 then 1 else 0)) ∧ FrC (x + 1) FI AI AL AR F2 A2 L2 R2 ∧ RC L F2 A2 L2 R2 x (z_obey Z o).1
section Cls38
variable {g : PG} {L : PL} {FI AI : Nat → Nat → Int32} {AL : Nat → Nat → Int64} {AR : Nat → Nat → Option Nat} {x : Nat} {X : XW} {C : List XC} {U : Nat} {sa : Nat → Nat} {M : Nat} {c : Nat → Int32} {n s : Nat} {o : TO} {Z : ZW}

theorem g_errorOf (hl : CW L FI AI AL AR (x + 1) X C U sa) (hU : U < 1000000) (hP : PT L FI AI x c n s) (hto : c_to FI AI x o) (hm : (o.1 = 115 ∨ o.1 = 102) → o.2.2.2.2 = 0 ∨ o.2.2.2.2 = 1) : Sp g 3 iX6_errorOf [vr (x + 1), vr (x + 5765)] (L, FI, AI, AL, AR) (0, 0) (QI (L, FI, AI, AL, AR) (e_of X U o)) := by
  refine Sp.of (ls := [some (vr (x + 1)), some (vr (x + 5765)), none, none, none]) (by decide +kernel) rfl rfl ?_
  obtain ⟨n1, hn1⟩ : ∃ v, AI (x + 5767) 1 = v := ⟨_, rfl⟩
  obtain ⟨n2, hn2⟩ : ∃ v, AI (x + 5767) 2 = v := ⟨_, rfl⟩
  refine P_aloadn (i := 1) rfl rfl dX6_errorOf_0 ?_
  refine gX6_151 rfl (by first | exact hP.hl.kp | exact hP.hl.kn | exact hl.wf.kw) hP.hl.r100 dX6_errorOf_1 ?_
  refine P_iconst (v := 0) rfl dX6_errorOf_4 ?_
  refine P_iaN (j := 0) (by first | exact hP.hl.kp | exact hP.hl.kn | exact hl.wf.kw) rfl (by decide) (by rw [hP.hl.ln]; decide) hto.2.1 dX6_errorOf_5 ?_
  refine P_is2 (Or.inl dX6_errorOf_6) rfl rfl ?_
  refine P_aloadn (i := 1) rfl rfl dX6_errorOf_7 ?_
  refine gX6_151 rfl (by first | exact hP.hl.kp | exact hP.hl.kn | exact hl.wf.kw) hP.hl.r100 dX6_errorOf_8 ?_
  refine P_iconst (v := 1) rfl dX6_errorOf_11 ?_
  refine P_iaN (j := 1) (by first | exact hP.hl.kp | exact hP.hl.kn | exact hl.wf.kw) rfl (by decide) (by rw [hP.hl.ln]; decide) hn1 dX6_errorOf_12 ?_
  refine P_is3 (Or.inl dX6_errorOf_13) rfl rfl ?_
  refine P_aloadn (i := 1) rfl rfl dX6_errorOf_14 ?_
  refine gX6_151 rfl (by first | exact hP.hl.kp | exact hP.hl.kn | exact hl.wf.kw) hP.hl.r100 dX6_errorOf_15 ?_
  refine P_iconst (v := 2) rfl dX6_errorOf_18 ?_
  refine P_iaN (j := 2) (by first | exact hP.hl.kp | exact hP.hl.kn | exact hl.wf.kw) rfl (by decide) (by rw [hP.hl.ln]; decide) hn2 dX6_errorOf_19 ?_
  refine P_is4 (Or.inr dX6_errorOf_20) rfl rfl ?_
  refine P_aloadn (i := 1) rfl rfl dX6_errorOf_22 ?_
  refine gX6_160 rfl (by first | exact hP.hl.kp | exact hP.hl.kn | exact hl.wf.kw) hto.1 dX6_errorOf_23 ?_
  refine P_bipush (v := 115) rfl dX6_errorOf_26 ?_
  refine P_icmpne dX6_errorOf_28 (tgt := 45) rfl (fun h28 => ?_) (fun h28 => ?_)
  · refine P_aloadn (i := 1) rfl rfl dX6_errorOf_45 ?_
    refine gX6_160 rfl (by first | exact hP.hl.kp | exact hP.hl.kn | exact hl.wf.kw) hto.1 dX6_errorOf_46 ?_
    refine P_bipush (v := 114) rfl dX6_errorOf_49 ?_
    refine P_icmpne dX6_errorOf_51 (tgt := 60) rfl (fun h51 => ?_) (fun h51 => ?_)
    · refine P_aloadn (i := 1) rfl rfl dX6_errorOf_60 ?_
      refine gX6_160 rfl (by first | exact hP.hl.kp | exact hP.hl.kn | exact hl.wf.kw) hto.1 dX6_errorOf_61 ?_
      refine P_bipush (v := 102) rfl dX6_errorOf_64 ?_
      refine P_icmpne dX6_errorOf_66 (tgt := 85) rfl (fun h66 => ?_) (fun h66 => ?_)
      · refine P_iloadn (i := 2) rfl rfl dX6_errorOf_85 ?_
        refine kX6_191 rfl s_isTicks (by decide) rfl dX6_errorOf_86 (fun r86 s86 q86 => ?_)
        obtain ⟨rfl, rfl⟩ := q86
        refine P_ifeq dX6_errorOf_89 (tgt := 96) rfl (fun h89 => ?_) (fun h89 => ?_)
        · refine P_bipush (v := (-2)) rfl dX6_errorOf_96 ?_
          refine P_ireturn rfl dX6_errorOf_98 ?_
          rw [show e_of X U o = -2 from (if_neg h28).trans ((if_neg h51).trans ((if_neg h66).trans (if_neg (b_f h89))))]
          exact ⟨rfl, rfl⟩
        · refine P_iconst (v := 0) rfl dX6_errorOf_92 ?_
          refine P_goto dX6_errorOf_93 (tgt := 98) rfl ?_
          refine P_ireturn rfl dX6_errorOf_98 ?_
          rw [show e_of X U o = 0 from (if_neg h28).trans ((if_neg h51).trans ((if_neg h66).trans (if_pos (b_t h89))))]
          exact ⟨rfl, rfl⟩
      · have hsf : o.1 = 115 ∨ o.1 = 102 := Or.inr h66
        obtain ⟨t1, t2, t3⟩ := hto.2.2 hsf
        have u1 : n1 = o.2.2.1 := hn1.symm.trans t1
        have u2 : n2 = o.2.2.2.1 := hn2.symm.trans t2
        subst u1
        subst u2
        have hmk := hm hsf
        have hhow : (if FI 101 (x + 5765) = 0 then (41 : Int32) else 40) = 41 - o.2.2.2.2 := by rw [t3]; exact k_how hmk
        have hlast : (if FI 101 (x + 5765) = 0 then (0 : Int32) else 1) = o.2.2.2.2 := by rw [t3]; exact k_last hmk
        refine P_aloadn (i := 0) rfl rfl dX6_errorOf_69 ?_
        refine P_iloadn (i := 2) rfl rfl dX6_errorOf_70 ?_
        refine P_iloadn (i := 3) rfl rfl dX6_errorOf_71 ?_
        refine P_iload (i := 4) rfl dX6_errorOf_72 ?_
        refine P_aloadn (i := 1) rfl rfl dX6_errorOf_74 ?_
        refine kX6_172 rfl (g_last hP) (by decide) hP.hl.kp rfl dX6_errorOf_75 (fun r75 s75 q75 => ?_)
        obtain ⟨rfl, rfl⟩ := q75
        rw [hlast]
        refine P_sipush (v := 255) rfl dX6_errorOf_78 ?_
        refine kX6_188 rfl (s_errForge hl hU) (by decide) hl.wf.kw rfl dX6_errorOf_81 (fun r81 s81 q81 => ?_)
        obtain ⟨rfl, rfl⟩ := q81
        refine P_ireturn rfl dX6_errorOf_84 ?_
        rw [show e_of X U o = e_forge X U o.2.1 o.2.2.1 o.2.2.2.1 o.2.2.2.2 255 from (if_neg h28).trans ((if_neg h51).trans (if_pos h66))]
        exact ⟨rfl, rfl⟩
    · refine P_aloadn (i := 0) rfl rfl dX6_errorOf_54 ?_
      refine P_iloadn (i := 2) rfl rfl dX6_errorOf_55 ?_
      refine kX6_185 rfl (s_errResend hl hU) (by decide) hl.wf.kw rfl dX6_errorOf_56 (fun r56 s56 q56 => ?_)
      obtain ⟨rfl, rfl⟩ := q56
      refine P_ireturn rfl dX6_errorOf_59 ?_
      rw [show e_of X U o = e_resend X U o.2.1 from (if_neg h28).trans (if_pos h51)]
      exact ⟨rfl, rfl⟩
  · have hsf : o.1 = 115 ∨ o.1 = 102 := Or.inl h28
    obtain ⟨t1, t2, t3⟩ := hto.2.2 hsf
    have u1 : n1 = o.2.2.1 := hn1.symm.trans t1
    have u2 : n2 = o.2.2.2.1 := hn2.symm.trans t2
    subst u1
    subst u2
    have hmk := hm hsf
    have hhow : (if FI 101 (x + 5765) = 0 then (41 : Int32) else 40) = 41 - o.2.2.2.2 := by rw [t3]; exact k_how hmk
    have hlast : (if FI 101 (x + 5765) = 0 then (0 : Int32) else 1) = o.2.2.2.2 := by rw [t3]; exact k_last hmk
    refine P_aloadn (i := 0) rfl rfl dX6_errorOf_31 ?_
    refine P_iloadn (i := 2) rfl rfl dX6_errorOf_32 ?_
    refine P_iloadn (i := 3) rfl rfl dX6_errorOf_33 ?_
    refine P_iload (i := 4) rfl dX6_errorOf_34 ?_
    refine P_iconst (v := 0) rfl dX6_errorOf_36 ?_
    refine P_aloadn (i := 1) rfl rfl dX6_errorOf_37 ?_
    refine kX6_164 rfl (g_how hP) (by decide) hP.hl.kp rfl dX6_errorOf_38 (fun r38 s38 q38 => ?_)
    obtain ⟨rfl, rfl⟩ := q38
    rw [hhow]
    refine kX6_182 rfl (s_errSend hl hU) (by decide) hl.wf.kw rfl dX6_errorOf_41 (fun r41 s41 q41 => ?_)
    obtain ⟨rfl, rfl⟩ := q41
    refine P_ireturn rfl dX6_errorOf_44 ?_
    rw [show e_of X U o = e_send X U o.2.1 o.2.2.1 o.2.2.2.1 0 (41 - o.2.2.2.2) from if_pos h28]
    exact ⟨rfl, rfl⟩
theorem g_obey (hR : RC L FI AI AL AR x Z) (hI : XI M (zX Z)) (hMM : M < 80000000) (h6 : h_six M (zX Z)) (hP : PT L FI AI x c n s) (hto : c_to FI AI x o) (hm : (o.1 = 115 ∨ o.1 = 102) → o.2.2.2.2 = 0 ∨ o.2.2.2.2 = 1) : Sp g 6 iX6_obey [vr (x + 1), vr (x + 5765)] (L, FI, AI, AL, AR) (0, 0) (QOB L FI AI AL AR x Z o) := by
  refine Sp.of (ls := [some (vr (x + 1)), some (vr (x + 5765)), none, none, none]) (by decide +kernel) rfl rfl ?_
  obtain ⟨n1, hn1⟩ : ∃ v, AI (x + 5767) 1 = v := ⟨_, rfl⟩
  obtain ⟨n2, hn2⟩ : ∃ v, AI (x + 5767) 2 = v := ⟨_, rfl⟩
  obtain ⟨sa, hl⟩ := hR.live
  have h300 := hI.2.2.2.2.2.2.2
  have h40 := hI.2.2.2.2.2.2.1
  refine P_aloadn (i := 1) rfl rfl dX6_obey_0 ?_
  refine gX6_151 rfl (by first | exact hP.hl.kp | exact hP.hl.kn | exact hl.wf.kw) hP.hl.r100 dX6_obey_1 ?_
  refine P_iconst (v := 0) rfl dX6_obey_4 ?_
  refine P_iaN (j := 0) (by first | exact hP.hl.kp | exact hP.hl.kn | exact hl.wf.kw) rfl (by decide) (by rw [hP.hl.ln]; decide) hto.2.1 dX6_obey_5 ?_
  refine P_is2 (Or.inl dX6_obey_6) rfl rfl ?_
  refine P_aloadn (i := 1) rfl rfl dX6_obey_7 ?_
  refine gX6_151 rfl (by first | exact hP.hl.kp | exact hP.hl.kn | exact hl.wf.kw) hP.hl.r100 dX6_obey_8 ?_
  refine P_iconst (v := 1) rfl dX6_obey_11 ?_
  refine P_iaN (j := 1) (by first | exact hP.hl.kp | exact hP.hl.kn | exact hl.wf.kw) rfl (by decide) (by rw [hP.hl.ln]; decide) hn1 dX6_obey_12 ?_
  refine P_is3 (Or.inl dX6_obey_13) rfl rfl ?_
  refine P_aloadn (i := 1) rfl rfl dX6_obey_14 ?_
  refine gX6_151 rfl (by first | exact hP.hl.kp | exact hP.hl.kn | exact hl.wf.kw) hP.hl.r100 dX6_obey_15 ?_
  refine P_iconst (v := 2) rfl dX6_obey_18 ?_
  refine P_iaN (j := 2) (by first | exact hP.hl.kp | exact hP.hl.kn | exact hl.wf.kw) rfl (by decide) (by rw [hP.hl.ln]; decide) hn2 dX6_obey_19 ?_
  refine P_is4 (Or.inr dX6_obey_20) rfl rfl ?_
  refine P_aloadn (i := 0) rfl rfl dX6_obey_22 ?_
  refine P_aloadn (i := 1) rfl rfl dX6_obey_23 ?_
  refine kX6_156 rfl (g_errorOf hl (by omega) hP hto hm) (by decide) hl.wf.kw rfl dX6_obey_24 (fun r24 s24 q24 => ?_)
  obtain ⟨rfl, rfl⟩ := q24
  refine P_ifeq dX6_obey_27 (tgt := 32) rfl (fun h27 => ?_) (fun h27 => ?_)
  · refine P_aloadn (i := 1) rfl rfl dX6_obey_32 ?_
    refine gX6_160 rfl (by first | exact hP.hl.kp | exact hP.hl.kn | exact hl.wf.kw) hto.1 dX6_obey_33 ?_
    refine P_bipush (v := 115) rfl dX6_obey_36 ?_
    refine P_icmpne dX6_obey_38 (tgt := 58) rfl (fun h38 => ?_) (fun h38 => ?_)
    · refine P_aloadn (i := 1) rfl rfl dX6_obey_58 ?_
      refine gX6_160 rfl (by first | exact hP.hl.kp | exact hP.hl.kn | exact hl.wf.kw) hto.1 dX6_obey_59 ?_
      refine P_bipush (v := 114) rfl dX6_obey_62 ?_
      refine P_icmpne dX6_obey_64 (tgt := 76) rfl (fun h64 => ?_) (fun h64 => ?_)
      · refine P_aloadn (i := 1) rfl rfl dX6_obey_76 ?_
        refine gX6_160 rfl (by first | exact hP.hl.kp | exact hP.hl.kn | exact hl.wf.kw) hto.1 dX6_obey_77 ?_
        refine P_bipush (v := 102) rfl dX6_obey_80 ?_
        refine P_icmpne dX6_obey_82 (tgt := 104) rfl (fun h82 => ?_) (fun h82 => ?_)
        · have het : (if (1 : Int32) ≤ o.2.1 ∧ o.2.1 ≤ 500 then (0 : Int32) else -2) = 0 := (show e_of (zX Z) (xS (zX Z)).length o = _ from (if_neg h38).trans ((if_neg h64).trans (if_neg h82))).symm.trans h27
          have ht0 : (1 : Int32) ≤ o.2.1 ∧ o.2.1 ≤ 500 := Decidable.byContradiction fun hh => by rw [if_neg hh] at het; exact absurd het (by decide)
          have ht := in_nn (a := 1) (b := 500) (by decide) (by decide) ht0
          refine P_aloadn (i := 0) rfl rfl dX6_obey_104 ?_
          refine P_iloadn (i := 2) rfl rfl dX6_obey_105 ?_
          refine kX6_178 rfl (by have h9 := s_pass (g := g) (n := nn o.2.1) hR.live (M := M) hI hMM (by omega); rw [← ht.2.2] at h9; exact h9) (by decide) hl.wf.kw rfl dX6_obey_106 (fun r106 s106 q106 => ?_)
          obtain ⟨F2, A2, B2, R2, rfl, rfl, hf2, h2⟩ := q106
          refine P_iconst (v := 1) rfl dX6_obey_109 ?_
          refine P_zreturn rfl (by first | exact Or.inl rfl | exact Or.inr rfl | assumption) dX6_obey_110 ?_
          have hz : z_obey Z o = (z_x Z (x_ticks (nn o.2.1) (zX Z)), xG (x_ticks (nn o.2.1) (zX Z)) 0) := (show z_obey Z o = z_ticks Z false o.2.1 from (if_neg h38).trans ((if_neg h82).trans (if_neg h64))).trans (if_neg (fun hh => hh ht0))
          have hpos : (0 : Int32) ≤ xG (x_ticks (nn o.2.1) (zX Z)) 0 := Int32.le_iff_toInt_le.mpr (hI.ticks1 hMM ht.2.1).1.1
          unfold QOB
          rw [hz]
          exact ⟨F2, A2, B2, R2, rfl, by rw [if_pos hpos], hf2, hR.up hf2 h2⟩
        · have hsf : o.1 = 115 ∨ o.1 = 102 := Or.inr h82
          obtain ⟨t1, t2, t3⟩ := hto.2.2 hsf
          have u1 : n1 = o.2.2.1 := hn1.symm.trans t1
          have u2 : n2 = o.2.2.2.1 := hn2.symm.trans t2
          subst u1
          subst u2
          have hmk := hm hsf
          have hhow : (if FI 101 (x + 5765) = 0 then (41 : Int32) else 40) = 41 - o.2.2.2.2 := by rw [t3]; exact k_how hmk
          have hlast : (if FI 101 (x + 5765) = 0 then (0 : Int32) else 1) = o.2.2.2.2 := by rw [t3]; exact k_last hmk
          have he : e_forge (zX Z) (xS (zX Z)).length o.2.1 o.2.2.1 o.2.2.2.1 o.2.2.2.2 255 = 0 := (show e_of (zX Z) (xS (zX Z)).length o = _ from (if_neg h38).trans ((if_neg h64).trans (if_pos h82))).symm.trans h27
          obtain ⟨k1, k2, k3, k4, k5, k6⟩ := e_forge_ok he
          have hl2 : CW L FI AI AL AR (x + 1) (zX Z) (c_of (xS (zX Z))) (xS (zX Z)).length sa := hl
          refine P_aloadn (i := 0) rfl rfl dX6_obey_85 ?_
          refine P_iloadn (i := 2) rfl rfl dX6_obey_86 ?_
          refine P_iloadn (i := 3) rfl rfl dX6_obey_87 ?_
          refine P_iload (i := 4) rfl dX6_obey_88 ?_
          refine P_aloadn (i := 1) rfl rfl dX6_obey_90 ?_
          refine kX6_172 rfl (g_last hP) (by decide) hP.hl.kp rfl dX6_obey_91 (fun r91 s91 q91 => ?_)
          obtain ⟨rfl, rfl⟩ := q91
          rw [hlast]
          refine P_sipush (v := 255) rfl dX6_obey_94 ?_
          refine kX6_175 rfl (s_forgeSlice hl2 k1 k4 (by rw [c_of_len]; omega)) (by decide) hl.wf.kw rfl dX6_obey_97 (fun r97 s97 q97 => ?_)
          obtain ⟨F2, A2, B2, rfl, rfl, hf2, h2⟩ := q97
          refine P_pop rfl dX6_obey_100 ?_
          refine P_goto dX6_obey_101 (tgt := 109) rfl ?_
          refine P_iconst (v := 1) rfl dX6_obey_109 ?_
          refine P_zreturn rfl (by first | exact Or.inl rfl | exact Or.inr rfl | assumption) dX6_obey_110 ?_
          have hz : z_obey Z o = (z_x Z (x_forge (zX Z) (nn o.2.1) o.2.2.1 o.2.2.2.1 o.2.2.2.2 255), Int32.ofNat ((xS (zX Z)).length + 1)) := (show z_obey Z o = z_forge Z false o.2.1 o.2.2.1 o.2.2.2.1 o.2.2.2.2 255 from (if_neg h38).trans (if_pos h82)).trans ((z_forge_e hI false _ _ _ _ _).trans (if_pos he))
          have h3 : CW L F2 A2 B2 AR (x + 1) (x_forge (zX Z) (nn o.2.1) o.2.2.1 o.2.2.2.1 o.2.2.2.2 255) (c_of (xS (x_forge (zX Z) (nn o.2.1) o.2.2.1 o.2.2.2.1 o.2.2.2.2 255))) (xS (x_forge (zX Z) (nn o.2.1) o.2.2.1 o.2.2.2.1 o.2.2.2.2 255)).length sa := by
            have e9 : xS (x_forge (zX Z) (nn o.2.1) o.2.2.1 o.2.2.2.1 o.2.2.2.2 255) = xS (zX Z) ++ [(o.2.1, o.2.2.1, o.2.2.2.1, o.2.2.2.2, 0, 255, xG (zX Z) 0, xP (zX Z) (nn o.2.1) 1)] := by
              have e8 : xS (x_forge (zX Z) (nn o.2.1) o.2.2.1 o.2.2.2.1 o.2.2.2.2 255) = xS (zX Z) ++ [(Int32.ofNat (nn o.2.1), o.2.2.1, o.2.2.2.1, o.2.2.2.2, 0, 255, xG (zX Z) 0, xP (zX Z) (nn o.2.1) 1)] := rfl
              rw [← k1.eq] at e8
              exact e8
            rw [e9, c_of_app, List.length_append]
            exact h2
          have hpos : (0 : Int32) ≤ Int32.ofNat ((xS (zX Z)).length + 1) := n_pos (by omega)
          unfold QOB
          rw [hz]
          exact ⟨F2, A2, B2, AR, rfl, by rw [if_pos hpos], hf2, hR.up hf2 ⟨sa, h3⟩⟩
      · have he : e_resend (zX Z) (xS (zX Z)).length o.2.1 = 0 := (show e_of (zX Z) (xS (zX Z)).length o = _ from (if_neg h38).trans (if_pos h64)).symm.trans h27
        obtain ⟨k1, k2, k3⟩ := e_resend_ok he
        have hl2 : CW L FI AI AL AR (x + 1) (zX Z) (c_of (xS (zX Z))) (xS (zX Z)).length sa := hl
        refine P_aloadn (i := 0) rfl rfl dX6_obey_67 ?_
        refine P_iloadn (i := 2) rfl rfl dX6_obey_68 ?_
        refine kX6_106 rfl (s_launch hl2 k1 (by rw [c_of_len]; omega)) (by decide) hl.wf.kw rfl dX6_obey_69 (fun r69 s69 q69 => ?_)
        obtain ⟨F2, A2, B2, rfl, rfl, hf2, h2⟩ := q69
        refine P_pop rfl dX6_obey_72 ?_
        refine P_goto dX6_obey_73 (tgt := 109) rfl ?_
        refine P_iconst (v := 1) rfl dX6_obey_109 ?_
        refine P_zreturn rfl (by first | exact Or.inl rfl | exact Or.inr rfl | assumption) dX6_obey_110 ?_
        have hz : z_obey Z o = (z_x Z (x_resend (zX Z) (nn o.2.1)), xP (zX Z) (nn o.2.1) 6 + 1) := (show z_obey Z o = z_resend Z false o.2.1 from (if_neg h38).trans ((if_neg (show ¬ o.1 = 102 by rw [h64]; decide)).trans (if_pos h64))).trans ((z_resend_e hI false _).trans (if_pos he))
        have h3 : CW L F2 A2 B2 AR (x + 1) (x_resend (zX Z) (nn o.2.1)) (c_of (xS (x_resend (zX Z) (nn o.2.1)))) (xS (x_resend (zX Z) (nn o.2.1))).length sa := by
          have e9 : xS (x_resend (zX Z) (nn o.2.1)) = xS (zX Z) ++ [(o.2.1, 0, xP (zX Z) (nn o.2.1) 2, 1, xP (zX Z) (nn o.2.1) 7, xP (zX Z) (nn o.2.1) 3, xG (zX Z) 0, xP (zX Z) (nn o.2.1) 0)] := by
            have e8 : xS (x_resend (zX Z) (nn o.2.1)) = xS (zX Z) ++ [(Int32.ofNat (nn o.2.1), 0, xP (zX Z) (nn o.2.1) 2, 1, xP (zX Z) (nn o.2.1) 7, xP (zX Z) (nn o.2.1) 3, xG (zX Z) 0, xP (zX Z) (nn o.2.1) 0)] := rfl
            rw [← k1.eq] at e8
            exact e8
          rw [e9, c_of_app, List.length_append]
          exact h2
        have hpos : (0 : Int32) ≤ xP (zX Z) (nn o.2.1) 6 + 1 := by
          have h7 := h6 _ k1.nn
          have h8 : (1 : Int32).toInt = 1 := rfl
          rw [Int32.le_iff_toInt_le, i_add' (by rw [h8]; omega) (by rw [h8]; omega), h8]
          exact (show (0 : Int) ≤ _ by omega)
        unfold QOB
        rw [hz]
        exact ⟨F2, A2, B2, AR, rfl, by rw [if_pos hpos], hf2, hR.up hf2 ⟨sa, h3⟩⟩
    · have hsf : o.1 = 115 ∨ o.1 = 102 := Or.inl h38
      obtain ⟨t1, t2, t3⟩ := hto.2.2 hsf
      have u1 : n1 = o.2.2.1 := hn1.symm.trans t1
      have u2 : n2 = o.2.2.2.1 := hn2.symm.trans t2
      subst u1
      subst u2
      have hmk := hm hsf
      have hhow : (if FI 101 (x + 5765) = 0 then (41 : Int32) else 40) = 41 - o.2.2.2.2 := by rw [t3]; exact k_how hmk
      have hlast : (if FI 101 (x + 5765) = 0 then (0 : Int32) else 1) = o.2.2.2.2 := by rw [t3]; exact k_last hmk
      have he : e_send (zX Z) (xS (zX Z)).length o.2.1 o.2.2.1 o.2.2.2.1 0 (41 - o.2.2.2.2) = 0 := (show e_of (zX Z) (xS (zX Z)).length o = _ from if_pos h38).symm.trans h27
      obtain ⟨k1, k2, k3, k4, k5, k6⟩ := e_send_ok he
      have hl2 : CW L FI AI AL AR (x + 1) (zX Z) (c_of (xS (zX Z))) (xS (zX Z)).length sa := hl
      refine P_aloadn (i := 0) rfl rfl dX6_obey_41 ?_
      refine P_iloadn (i := 2) rfl rfl dX6_obey_42 ?_
      refine P_iloadn (i := 3) rfl rfl dX6_obey_43 ?_
      refine P_iload (i := 4) rfl dX6_obey_44 ?_
      refine P_iconst (v := 0) rfl dX6_obey_46 ?_
      refine P_aloadn (i := 1) rfl rfl dX6_obey_47 ?_
      refine kX6_164 rfl (g_how hP) (by decide) hP.hl.kp rfl dX6_obey_48 (fun r48 s48 q48 => ?_)
      obtain ⟨rfl, rfl⟩ := q48
      rw [hhow]
      refine kX6_168 rfl (s_sendParcel hl2 ⟨by omega, by omega⟩ k3 (by omega) k5 (by rw [c_of_len]; omega)) (by decide) hl.wf.kw rfl dX6_obey_51 (fun r51 s51 q51 => ?_)
      obtain ⟨F2, A2, B2, rfl, rfl, hf2, h2⟩ := q51
      refine P_pop rfl dX6_obey_54 ?_
      refine P_goto dX6_obey_55 (tgt := 109) rfl ?_
      refine P_iconst (v := 1) rfl dX6_obey_109 ?_
      refine P_zreturn rfl (by first | exact Or.inl rfl | exact Or.inr rfl | assumption) dX6_obey_110 ?_
      have hz : z_obey Z o = (z_x Z (x_send (zX Z) o.2.1 o.2.2.1 o.2.2.2.1 0 (41 - o.2.2.2.2)), Int32.ofNat (xp (zX Z))) := (show z_obey Z o = z_send Z false o.2.1 o.2.2.1 o.2.2.2.1 0 (41 - o.2.2.2.2) from if_pos h38).trans ((z_send_e hI false _ _ _ _ _).trans (if_pos he))
      have h3 : CW L F2 A2 B2 AR (x + 1) (x_send (zX Z) o.2.1 o.2.2.1 o.2.2.2.1 0 (41 - o.2.2.2.2)) (c_of (xS (x_send (zX Z) o.2.1 o.2.2.1 o.2.2.2.1 0 (41 - o.2.2.2.2)))) (xS (x_send (zX Z) o.2.1 o.2.2.1 o.2.2.2.1 0 (41 - o.2.2.2.2))).length sa := by
        have e9 : xS (x_send (zX Z) o.2.1 o.2.2.1 o.2.2.2.1 0 (41 - o.2.2.2.2)) = xS (zX Z) ++ [(Int32.ofNat (xp (zX Z)), 0, o.2.2.2.1, 1, (41 - o.2.2.2.2) / 2, 0, xG (zX Z) 0, o.2.1)] := rfl
        rw [e9, c_of_app, List.length_append]
        exact h2
      have hpos : (0 : Int32) ≤ Int32.ofNat (xp (zX Z)) := n_pos (by omega)
      unfold QOB
      rw [hz]
      exact ⟨F2, A2, B2, AR, rfl, by rw [if_pos hpos], hf2, hR.up hf2 ⟨sa, h3⟩⟩
  · refine P_iconst (v := 0) rfl dX6_obey_30 ?_
    refine P_zreturn rfl (by first | exact Or.inl rfl | exact Or.inr rfl | assumption) dX6_obey_31 ?_
    obtain ⟨z1, z2⟩ := z_obey_no hI h27
    exact ⟨FI, AI, AL, AR, rfl, by rw [if_neg z2], fun _ _ => ⟨fun _ => rfl, rfl, rfl, rfl⟩, by rw [z1]; exact hR⟩
end Cls38
