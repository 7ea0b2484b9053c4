/-- the class's error of an order -/
def e_of (X : XW) (U : Nat) (o : TO) : Int32 := if o.1 = 115 then e_send X U o.2.1 o.2.2.1 o.2.2.2.1 0 (41 - o.2.2.2.2) else if o.1 = 114 then e_resend X U o.2.1 else if o.1 = 102 then e_forge X U o.2.1 o.2.2.1 o.2.2.2.1 o.2.2.2.2 255 else if (1 : Int32) ≤ o.2.1 ∧ o.2.1 ≤ 500 then 0 else -2
theorem k_how {v : Int32} (h : v = 0 ∨ v = 1) : (if v = 0 then (41 : Int32) else 40) = 41 - v := by
  rcases h with e | e <;> subst e <;> decide
theorem k_last {v : Int32} (h : v = 0 ∨ v = 1) : (if v = 0 then (0 : Int32) else 1) = v := by
  rcases h with e | e <;> subst e <;> decide
theorem e_send_neg {X : XW} {U : Nat} {a b c d e : Int32} (h : ¬ e_send X U a b c d e = 0) : ¬ 0 ≤ e_send X U a b c d e := by
  unfold e_send at h ⊢
  split
  · decide
  · split
    · decide
    · split
      · decide
      · rename_i h1 h2 h3
        rw [if_neg h1, if_neg h2, if_neg h3] at h
        exact absurd rfl h
theorem e_resend_neg {X : XW} {U : Nat} {a : Int32} (h : ¬ e_resend X U a = 0) : ¬ 0 ≤ e_resend X U a := by
  unfold e_resend at h ⊢
  split
  · decide
  · split
    · decide
    · split
      · decide
      · rename_i h1 h2 h3
        rw [if_neg h1, if_neg h2, if_neg h3] at h
        exact absurd rfl h
theorem e_forge_neg {X : XW} {U : Nat} {a b c d e : Int32} (h : ¬ e_forge X U a b c d e = 0) : ¬ 0 ≤ e_forge X U a b c d e := by
  unfold e_forge at h ⊢
  split
  · decide
  · split
    · decide
    · split
      · decide
      · rename_i h1 h2 h3
        rw [if_neg h1, if_neg h2, if_neg h3] at h
        exact absurd rfl h
/-- an order that cannot be obeyed changes nothing -/
theorem z_obey_no {Z : ZW} {M : Nat} (hI : XI M (zX Z)) {o : TO} (h : ¬ e_of (zX Z) (xS (zX Z)).length o = 0) : (z_obey Z o).1 = Z ∧ ¬ 0 ≤ (z_obey Z o).2 := by
  unfold e_of at h
  unfold z_obey
  by_cases e1 : o.1 = 115
  · rw [if_pos e1] at h ⊢
    rw [z_send_e hI, if_neg h]
    exact ⟨rfl, e_send_neg h⟩
  · rw [if_neg e1] at h ⊢
    by_cases e2 : o.1 = 102
    · rw [if_neg (show ¬ o.1 = 114 by rw [e2]; decide), if_pos e2] at h
      rw [if_pos e2, z_forge_e hI, if_neg h]
      exact ⟨rfl, e_forge_neg h⟩
    · rw [if_neg e2] at h ⊢
      by_cases e3 : o.1 = 114
      · rw [if_pos e3] at h ⊢
        rw [z_resend_e hI, if_neg h]
        exact ⟨rfl, e_resend_neg h⟩
      · rw [if_neg e3] at h ⊢
        by_cases e4 : (1 : Int32) ≤ o.2.1 ∧ o.2.1 ≤ 500
        · rw [if_pos e4] at h
          exact absurd rfl h
        · unfold z_ticks
          rw [if_pos e4]
          exact ⟨rfl, show ¬ (0 : Int32) ≤ -2 by decide⟩
/-- how often each parcel was sent -/
def h_six (M : Nat) (X : XW) : Prop := ∀ q, q < xp X → 0 ≤ (xP X q 6).toInt ∧ (xP X q 6).toInt ≤ (M : Int)
def QOB (L : PL) (FI AI : Nat → Nat → Int32) (AL : Nat → Nat → Int64) (AR : Nat → Nat → Option Nat) (x : Nat) (Z : ZW) (o : TO) : Option PV → PS → Prop := fun r σ => ∃ F2 A2 L2 R2, σ = (L, F2, A2, L2, R2) ∧ r = some (vi (if 0 ≤ (z_obey Z o).2 then 1 else 0)) ∧ FrC (x + 1) FI AI AL AR F2 A2 L2 R2 ∧ RC L F2 A2 L2 R2 x (z_obey Z o).1
section Cls38
variable {g : PG} {L : PL} {FI AI : Nat → Nat → Int32} {AL : Nat → Nat → Int64} {AR : Nat → Nat → Option Nat} {x : Nat} {X : XW} {C : List XC} {U : Nat} {sa : Nat → Nat} {M : Nat} {c : Nat → Int32} {n s : Nat} {o : TO} {Z : ZW}

theorem g_obey (hR : RC L FI AI AL AR x Z) (hI : XI M (zX Z)) (hMM : M < 80000000) (h6 : h_six M (zX Z)) (hP : PT L FI AI x c n s) (hto : c_to FI AI x o) (hm : (o.1 = 115 ∨ o.1 = 102) → o.2.2.2.2 = 0 ∨ o.2.2.2.2 = 1) : Sp g 6 iX6_obey [vr (x + 1), vr (x + 5765)] (L, FI, AI, AL, AR) (0, 0) (QOB L FI AI AL AR x Z o) := by
  refine Sp.of (ls := [some (vr (x + 1)), some (vr (x + 5765)), none, none, none]) (by decide +kernel) rfl rfl ?_
  obtain ⟨n1, hn1⟩ : ∃ v, AI (x + 5767) 1 = v := ⟨_, rfl⟩
  obtain ⟨n2, hn2⟩ : ∃ v, AI (x + 5767) 2 = v := ⟨_, rfl⟩
  obtain ⟨sa, hl⟩ := hR.live
  have h300 := hI.2.2.2.2.2.2.2
  have h40 := hI.2.2.2.2.2.2.1
  refine P_aloadn (i := 1) rfl rfl dX6_obey_0 ?_
  refine gX6_163 rfl (by first | exact hP.hl.kp | exact hP.hl.kn | exact hl.wf.kw) hP.hl.r100 dX6_obey_1 ?_
  refine P_iconst (v := 0) rfl dX6_obey_4 ?_
  refine P_iaN (j := 0) (by first | exact hP.hl.kp | exact hP.hl.kn | exact hl.wf.kw) rfl (by decide) (by rw [hP.hl.ln]; decide) hto.2.1 dX6_obey_5 ?_
  refine P_is2 (Or.inl dX6_obey_6) rfl rfl ?_
  refine P_aloadn (i := 1) rfl rfl dX6_obey_7 ?_
  refine gX6_163 rfl (by first | exact hP.hl.kp | exact hP.hl.kn | exact hl.wf.kw) hP.hl.r100 dX6_obey_8 ?_
  refine P_iconst (v := 1) rfl dX6_obey_11 ?_
  refine P_iaN (j := 1) (by first | exact hP.hl.kp | exact hP.hl.kn | exact hl.wf.kw) rfl (by decide) (by rw [hP.hl.ln]; decide) hn1 dX6_obey_12 ?_
  refine P_is3 (Or.inl dX6_obey_13) rfl rfl ?_
  refine P_aloadn (i := 1) rfl rfl dX6_obey_14 ?_
  refine gX6_163 rfl (by first | exact hP.hl.kp | exact hP.hl.kn | exact hl.wf.kw) hP.hl.r100 dX6_obey_15 ?_
  refine P_iconst (v := 2) rfl dX6_obey_18 ?_
  refine P_iaN (j := 2) (by first | exact hP.hl.kp | exact hP.hl.kn | exact hl.wf.kw) rfl (by decide) (by rw [hP.hl.ln]; decide) hn2 dX6_obey_19 ?_
  refine P_is4 (Or.inr dX6_obey_20) rfl rfl ?_
  refine P_aloadn (i := 1) rfl rfl dX6_obey_22 ?_
  refine gX6_168 rfl (by first | exact hP.hl.kp | exact hP.hl.kn | exact hl.wf.kw) hto.1 dX6_obey_23 ?_
  refine P_bipush (v := 115) rfl dX6_obey_26 ?_
  refine P_icmpne dX6_obey_28 (tgt := 54) rfl (fun h28 => ?_) (fun h28 => ?_)
  · refine P_aloadn (i := 1) rfl rfl dX6_obey_54 ?_
    refine gX6_168 rfl (by first | exact hP.hl.kp | exact hP.hl.kn | exact hl.wf.kw) hto.1 dX6_obey_55 ?_
    refine P_bipush (v := 114) rfl dX6_obey_58 ?_
    refine P_icmpne dX6_obey_60 (tgt := 78) rfl (fun h60 => ?_) (fun h60 => ?_)
    · refine P_aloadn (i := 1) rfl rfl dX6_obey_78 ?_
      refine gX6_168 rfl (by first | exact hP.hl.kp | exact hP.hl.kn | exact hl.wf.kw) hto.1 dX6_obey_79 ?_
      refine P_bipush (v := 102) rfl dX6_obey_82 ?_
      refine P_icmpne dX6_obey_84 (tgt := 112) rfl (fun h84 => ?_) (fun h84 => ?_)
      · refine P_iloadn (i := 2) rfl rfl dX6_obey_112 ?_
        refine kX6_190 rfl s_isTicks (by decide) rfl dX6_obey_113 (fun r113 s113 q113 => ?_)
        obtain ⟨rfl, rfl⟩ := q113
        refine P_ifne dX6_obey_116 (tgt := 121) rfl (fun h116 => ?_) (fun h116 => ?_)
        · have ht0 : (1 : Int32) ≤ o.2.1 ∧ o.2.1 ≤ 500 := b_t h116
          have ht := in_nn (a := 1) (b := 500) (by decide) (by decide) ht0
          refine P_aloadn (i := 0) rfl rfl dX6_obey_121 ?_
          refine P_iloadn (i := 2) rfl rfl dX6_obey_122 ?_
          refine kX6_194 rfl (by have h9 := s_pass (g := g) (n := nn o.2.1) hR.live (M := M) hI hMM (by omega); rw [← ht.2.2] at h9; exact h9) (by decide) hl.wf.kw rfl dX6_obey_123 (fun r123 s123 q123 => ?_)
          obtain ⟨F2, A2, B2, R2, rfl, rfl, hf2, h2⟩ := q123
          refine P_iconst (v := 1) rfl dX6_obey_126 ?_
          refine P_zreturn rfl (by first | exact Or.inl rfl | exact Or.inr rfl | assumption) dX6_obey_127 ?_
          have hz : z_obey Z o = (z_x Z (x_ticks (nn o.2.1) (zX Z)), xG (x_ticks (nn o.2.1) (zX Z)) 0) := (show z_obey Z o = z_ticks Z false o.2.1 from (if_neg h28).trans ((if_neg h84).trans (if_neg h60))).trans (if_neg (fun hh => hh ht0))
          have hpos : (0 : Int32) ≤ xG (x_ticks (nn o.2.1) (zX Z)) 0 := Int32.le_iff_toInt_le.mpr (hI.ticks1 hMM ht.2.1).1.1
          unfold QOB
          rw [hz]
          exact ⟨F2, A2, B2, R2, rfl, by rw [if_pos hpos], hf2, hR.up hf2 h2⟩
        · have he : ¬ (if (1 : Int32) ≤ o.2.1 ∧ o.2.1 ≤ 500 then (0 : Int32) else -2) = 0 := by rw [if_neg (b_f h116)]; decide
          refine P_iconst (v := 0) rfl dX6_obey_119 ?_
          refine P_zreturn rfl (by first | exact Or.inl rfl | exact Or.inr rfl | assumption) dX6_obey_120 ?_
          have heo : ¬ e_of (zX Z) (xS (zX Z)).length o = 0 := by
            rw [show e_of (zX Z) (xS (zX Z)).length o = (if (1 : Int32) ≤ o.2.1 ∧ o.2.1 ≤ 500 then (0 : Int32) else -2) from (if_neg h28).trans ((if_neg h60).trans (if_neg h84))]
            exact he
          obtain ⟨z1, z2⟩ := z_obey_no hI heo
          exact ⟨FI, AI, AL, AR, rfl, by rw [if_neg z2], fun _ _ => ⟨fun _ => rfl, rfl, rfl, rfl⟩, by rw [z1]; exact hR⟩
      · have hsf : o.1 = 115 ∨ o.1 = 102 := Or.inr h84
        obtain ⟨t1, t2, t3⟩ := hto.2.2 hsf
        have u1 : n1 = o.2.2.1 := hn1.symm.trans t1
        have u2 : n2 = o.2.2.2.1 := hn2.symm.trans t2
        subst u1
        subst u2
        have hmk := hm hsf
        have hhow : (if FI 101 (x + 5765) = 0 then (41 : Int32) else 40) = 41 - o.2.2.2.2 := by rw [t3]; exact k_how hmk
        have hlast : (if FI 101 (x + 5765) = 0 then (0 : Int32) else 1) = o.2.2.2.2 := by rw [t3]; exact k_last hmk
        refine P_aloadn (i := 0) rfl rfl dX6_obey_87 ?_
        refine P_iloadn (i := 2) rfl rfl dX6_obey_88 ?_
        refine P_iloadn (i := 3) rfl rfl dX6_obey_89 ?_
        refine P_iload (i := 4) rfl dX6_obey_90 ?_
        refine P_aloadn (i := 1) rfl rfl dX6_obey_92 ?_
        refine kX6_184 rfl (g_last hP) (by decide) hP.hl.kp rfl dX6_obey_93 (fun r93 s93 q93 => ?_)
        obtain ⟨rfl, rfl⟩ := q93
        rw [hlast]
        refine P_sipush (v := 255) rfl dX6_obey_96 ?_
        refine P_null dX6_obey_99 ?_
        refine kX6_187 rfl (s_forgeSlice hl (by omega) (by rw [c_of_len]; omega) (fun _ => s_keepIn0 hl)) (by decide) hl.wf.kw rfl dX6_obey_100 (fun r100 s100 q100 => ?_)
        obtain q100 := q100
        rcases q100 with ⟨he, F1, A1, B1, R1, ⟨rfl, rfl, rfl, rfl⟩, F2, A2, B2, rfl, rfl, hf2, h2⟩ | ⟨he, rfl, rfl⟩
        · obtain ⟨k1, k2, k3, k4, k5, k6⟩ := e_forge_ok he
          have hpos : (0 : Int32) ≤ Int32.ofNat ((xS (zX Z)).length + 1) := n_pos (by omega)
          refine P_iflt dX6_obey_103 (tgt := 110) rfl (fun h103 => ?_) (fun h103 => ?_)
          · exact absurd h103 (Int32.not_lt.mpr hpos)
          · refine P_iconst (v := 1) rfl dX6_obey_106 ?_
            refine P_goto dX6_obey_107 (tgt := 111) rfl ?_
            refine P_zreturn rfl (by first | exact Or.inl rfl | exact Or.inr rfl | assumption) dX6_obey_111 ?_
            have hz : z_obey Z o = (z_x Z (x_forge (zX Z) (nn o.2.1) o.2.2.1 o.2.2.2.1 o.2.2.2.2 255), Int32.ofNat ((xS (zX Z)).length + 1)) := (show z_obey Z o = z_forge Z false o.2.1 o.2.2.1 o.2.2.2.1 o.2.2.2.2 255 from (if_neg h28).trans (if_pos h84)).trans ((z_forge_e hI false _ _ _ _ _).trans (if_pos he))
            have h3 : CW L F2 A2 B2 AR (x + 1) (x_forge (zX Z) (nn o.2.1) o.2.2.1 o.2.2.2.1 o.2.2.2.2 255) (c_of (xS (x_forge (zX Z) (nn o.2.1) o.2.2.1 o.2.2.2.1 o.2.2.2.2 255))) (xS (x_forge (zX Z) (nn o.2.1) o.2.2.1 o.2.2.2.1 o.2.2.2.2 255)).length sa := by
              have e9 : xS (x_forge (zX Z) (nn o.2.1) o.2.2.1 o.2.2.2.1 o.2.2.2.2 255) = xS (zX Z) ++ [(o.2.1, o.2.2.1, o.2.2.2.1, o.2.2.2.2, 0, 255, xG (zX Z) 0, xP (zX Z) (nn o.2.1) 1)] := by
                have e8 : xS (x_forge (zX Z) (nn o.2.1) o.2.2.1 o.2.2.2.1 o.2.2.2.2 255) = xS (zX Z) ++ [(Int32.ofNat (nn o.2.1), o.2.2.1, o.2.2.2.1, o.2.2.2.2, 0, 255, xG (zX Z) 0, xP (zX Z) (nn o.2.1) 1)] := rfl
                rw [← k1.eq] at e8
                exact e8
              rw [e9, c_of_app, List.length_append]
              exact h2
            unfold QOB
            rw [hz]
            exact ⟨F2, A2, B2, AR, rfl, by rw [if_pos hpos], hf2, hR.up hf2 ⟨sa, h3⟩⟩
        · refine P_iflt dX6_obey_103 (tgt := 110) rfl (fun h103 => ?_) (fun h103 => ?_)
          · refine P_iconst (v := 0) rfl dX6_obey_110 ?_
            refine P_zreturn rfl (by first | exact Or.inl rfl | exact Or.inr rfl | assumption) dX6_obey_111 ?_
            have heo : ¬ e_of (zX Z) (xS (zX Z)).length o = 0 := by
              rw [show e_of (zX Z) (xS (zX Z)).length o = e_forge (zX Z) (xS (zX Z)).length o.2.1 o.2.2.1 o.2.2.2.1 o.2.2.2.2 255 from (if_neg h28).trans ((if_neg (show ¬ o.1 = 114 from h60)).trans (if_pos h84))]
              exact he
            obtain ⟨z1, z2⟩ := z_obey_no hI heo
            exact ⟨FI, AI, AL, AR, rfl, by rw [if_neg z2], fun _ _ => ⟨fun _ => rfl, rfl, rfl, rfl⟩, by rw [z1]; exact hR⟩
          · exact absurd (Int32.not_lt.mp h103) (e_forge_neg he)
    · refine P_aloadn (i := 0) rfl rfl dX6_obey_63 ?_
      refine P_iloadn (i := 2) rfl rfl dX6_obey_64 ?_
      refine P_null dX6_obey_65 ?_
      refine kX6_180 rfl (s_sendAgain hl (by omega) (by rw [c_of_len]; omega) (fun _ => s_keepIn0 hl)) (by decide) hl.wf.kw rfl dX6_obey_66 (fun r66 s66 q66 => ?_)
      obtain q66 := q66
      rcases q66 with ⟨he, F1, A1, B1, R1, ⟨rfl, rfl, rfl, rfl⟩, F2, A2, B2, rfl, rfl, hf2, h2⟩ | ⟨he, rfl, rfl⟩
      · obtain ⟨k1, k2, k3⟩ := e_resend_ok he
        have hpos : (0 : Int32) ≤ xP (zX Z) (nn o.2.1) 6 + 1 := by
          have h7 := h6 _ k1.nn
          have h8 : (1 : Int32).toInt = 1 := rfl
          rw [Int32.le_iff_toInt_le, i_add' (by rw [h8]; omega) (by rw [h8]; omega), h8]
          exact (show (0 : Int) ≤ _ by omega)
        refine P_iflt dX6_obey_69 (tgt := 76) rfl (fun h69 => ?_) (fun h69 => ?_)
        · exact absurd h69 (Int32.not_lt.mpr hpos)
        · refine P_iconst (v := 1) rfl dX6_obey_72 ?_
          refine P_goto dX6_obey_73 (tgt := 77) rfl ?_
          refine P_zreturn rfl (by first | exact Or.inl rfl | exact Or.inr rfl | assumption) dX6_obey_77 ?_
          have hz : z_obey Z o = (z_x Z (x_resend (zX Z) (nn o.2.1)), xP (zX Z) (nn o.2.1) 6 + 1) := (show z_obey Z o = z_resend Z false o.2.1 from (if_neg h28).trans ((if_neg (show ¬ o.1 = 102 by rw [h60]; decide)).trans (if_pos h60))).trans ((z_resend_e hI false _).trans (if_pos he))
          have h3 : CW L F2 A2 B2 AR (x + 1) (x_resend (zX Z) (nn o.2.1)) (c_of (xS (x_resend (zX Z) (nn o.2.1)))) (xS (x_resend (zX Z) (nn o.2.1))).length sa := by
            have e9 : xS (x_resend (zX Z) (nn o.2.1)) = xS (zX Z) ++ [(o.2.1, 0, xP (zX Z) (nn o.2.1) 2, 1, xP (zX Z) (nn o.2.1) 7, xP (zX Z) (nn o.2.1) 3, xG (zX Z) 0, xP (zX Z) (nn o.2.1) 0)] := by
              have e8 : xS (x_resend (zX Z) (nn o.2.1)) = xS (zX Z) ++ [(Int32.ofNat (nn o.2.1), 0, xP (zX Z) (nn o.2.1) 2, 1, xP (zX Z) (nn o.2.1) 7, xP (zX Z) (nn o.2.1) 3, xG (zX Z) 0, xP (zX Z) (nn o.2.1) 0)] := rfl
              rw [← k1.eq] at e8
              exact e8
            rw [e9, c_of_app, List.length_append]
            exact h2
          unfold QOB
          rw [hz]
          exact ⟨F2, A2, B2, AR, rfl, by rw [if_pos hpos], hf2, hR.up hf2 ⟨sa, h3⟩⟩
      · refine P_iflt dX6_obey_69 (tgt := 76) rfl (fun h69 => ?_) (fun h69 => ?_)
        · refine P_iconst (v := 0) rfl dX6_obey_76 ?_
          refine P_zreturn rfl (by first | exact Or.inl rfl | exact Or.inr rfl | assumption) dX6_obey_77 ?_
          have heo : ¬ e_of (zX Z) (xS (zX Z)).length o = 0 := by
            rw [show e_of (zX Z) (xS (zX Z)).length o = e_resend (zX Z) (xS (zX Z)).length o.2.1 from (if_neg h28).trans (if_pos h60)]
            exact he
          obtain ⟨z1, z2⟩ := z_obey_no hI heo
          exact ⟨FI, AI, AL, AR, rfl, by rw [if_neg z2], fun _ _ => ⟨fun _ => rfl, rfl, rfl, rfl⟩, by rw [z1]; exact hR⟩
        · exact absurd (Int32.not_lt.mp h69) (e_resend_neg he)
  · have hsf : o.1 = 115 ∨ o.1 = 102 := Or.inl h28
    obtain ⟨t1, t2, t3⟩ := hto.2.2 hsf
    have u1 : n1 = o.2.2.1 := hn1.symm.trans t1
    have u2 : n2 = o.2.2.2.1 := hn2.symm.trans t2
    subst u1
    subst u2
    have hmk := hm hsf
    have hhow : (if FI 101 (x + 5765) = 0 then (41 : Int32) else 40) = 41 - o.2.2.2.2 := by rw [t3]; exact k_how hmk
    have hlast : (if FI 101 (x + 5765) = 0 then (0 : Int32) else 1) = o.2.2.2.2 := by rw [t3]; exact k_last hmk
    refine P_aloadn (i := 0) rfl rfl dX6_obey_31 ?_
    refine P_iloadn (i := 2) rfl rfl dX6_obey_32 ?_
    refine P_iloadn (i := 3) rfl rfl dX6_obey_33 ?_
    refine P_iload (i := 4) rfl dX6_obey_34 ?_
    refine P_iconst (v := 0) rfl dX6_obey_36 ?_
    refine P_aloadn (i := 1) rfl rfl dX6_obey_37 ?_
    refine kX6_172 rfl (g_how hP) (by decide) hP.hl.kp rfl dX6_obey_38 (fun r38 s38 q38 => ?_)
    obtain ⟨rfl, rfl⟩ := q38
    rw [hhow]
    refine P_null dX6_obey_41 ?_
    refine kX6_176 rfl (s_sendParcel hl (by omega) (by rw [c_of_len]; omega) (fun _ => s_keepIn0 hl)) (by decide) hl.wf.kw rfl dX6_obey_42 (fun r42 s42 q42 => ?_)
    obtain q42 := q42
    rcases q42 with ⟨he, F1, A1, B1, R1, ⟨rfl, rfl, rfl, rfl⟩, F2, A2, B2, rfl, rfl, hf2, h2⟩ | ⟨he, rfl, rfl⟩
    · obtain ⟨k1, k2, k3, k4, k5, k6⟩ := e_send_ok he
      have hpos : (0 : Int32) ≤ Int32.ofNat (xp (zX Z)) := n_pos (by omega)
      refine P_iflt dX6_obey_45 (tgt := 52) rfl (fun h45 => ?_) (fun h45 => ?_)
      · exact absurd h45 (Int32.not_lt.mpr hpos)
      · refine P_iconst (v := 1) rfl dX6_obey_48 ?_
        refine P_goto dX6_obey_49 (tgt := 53) rfl ?_
        refine P_zreturn rfl (by first | exact Or.inl rfl | exact Or.inr rfl | assumption) dX6_obey_53 ?_
        have hz : z_obey Z o = (z_x Z (x_send (zX Z) o.2.1 o.2.2.1 o.2.2.2.1 0 (41 - o.2.2.2.2)), Int32.ofNat (xp (zX Z))) := (show z_obey Z o = z_send Z false o.2.1 o.2.2.1 o.2.2.2.1 0 (41 - o.2.2.2.2) from if_pos h28).trans ((z_send_e hI false _ _ _ _ _).trans (if_pos he))
        have h3 : CW L F2 A2 B2 AR (x + 1) (x_send (zX Z) o.2.1 o.2.2.1 o.2.2.2.1 0 (41 - o.2.2.2.2)) (c_of (xS (x_send (zX Z) o.2.1 o.2.2.1 o.2.2.2.1 0 (41 - o.2.2.2.2)))) (xS (x_send (zX Z) o.2.1 o.2.2.1 o.2.2.2.1 0 (41 - o.2.2.2.2))).length sa := by
          have e9 : xS (x_send (zX Z) o.2.1 o.2.2.1 o.2.2.2.1 0 (41 - o.2.2.2.2)) = xS (zX Z) ++ [(Int32.ofNat (xp (zX Z)), 0, o.2.2.2.1, 1, (41 - o.2.2.2.2) / 2, 0, xG (zX Z) 0, o.2.1)] := rfl
          rw [e9, c_of_app, List.length_append]
          exact h2
        unfold QOB
        rw [hz]
        exact ⟨F2, A2, B2, AR, rfl, by rw [if_pos hpos], hf2, hR.up hf2 ⟨sa, h3⟩⟩
    · refine P_iflt dX6_obey_45 (tgt := 52) rfl (fun h45 => ?_) (fun h45 => ?_)
      · refine P_iconst (v := 0) rfl dX6_obey_52 ?_
        refine P_zreturn rfl (by first | exact Or.inl rfl | exact Or.inr rfl | assumption) dX6_obey_53 ?_
        have heo : ¬ e_of (zX Z) (xS (zX Z)).length o = 0 := by
          rw [show e_of (zX Z) (xS (zX Z)).length o = e_send (zX Z) (xS (zX Z)).length o.2.1 o.2.2.1 o.2.2.2.1 0 (41 - o.2.2.2.2) from if_pos h28]
          exact he
        obtain ⟨z1, z2⟩ := z_obey_no hI heo
        exact ⟨FI, AI, AL, AR, rfl, by rw [if_neg z2], fun _ _ => ⟨fun _ => rfl, rfl, rfl, rfl⟩, by rw [z1]; exact hR⟩
      · exact absurd (Int32.not_lt.mp h45) (e_send_neg he)
end Cls38
