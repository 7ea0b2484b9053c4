theorem q_run_acc (c : Nat → Int32) (n : Nat) : ∀ (f s : Nat) (acc : List TO), q_run c n f s acc = ((q_run c n f s []).1, acc ++ (q_run c n f s []).2) := by
  intro f
  induction f with
  | zero =>
    intro s acc
    show (Int32.ofNat s, acc) = (Int32.ofNat s, acc ++ [])
    rw [List.append_nil]
  | succ f ih =>
    intro s acc
    rw [q_run_s, q_run_s]
    by_cases e1 : (q_o c n s).2 = true
    · rw [if_pos e1, if_pos e1, List.append_nil]
    · rw [if_neg e1, if_neg e1]
      by_cases e2 : n ≤ (q_o c n s).1
      · rw [if_pos e2, if_pos e2]
        rfl
      · rw [if_neg e2, if_neg e2]
        by_cases e3 : ¬ t_nx c n (q_o c n s).1 = 59
        · rw [if_pos e3, if_pos e3]
          rfl
        · rw [if_neg e3, if_neg e3, ih _ (acc ++ [q_to c n s]), ih _ ([] ++ [q_to c n s]), List.nil_append, List.append_assoc]
theorem q_from_acc (c : Nat → Int32) (n f s : Nat) (acc : List TO) : q_from c n f s acc = ((q_from c n f s []).1, acc ++ (q_from c n f s []).2) := by
  unfold q_from
  split
  · exact q_run_acc c n f 0 acc
  · split
    · exact q_run_acc c n f (s + 1) acc
    · show (Int32.ofNat s, acc) = (Int32.ofNat s, acc ++ [])
      rw [List.append_nil]
theorem n_m6 {e : Nat} (h : e ≤ 80) (h2 : Int32.ofNat e = -6) : False := by
  have h3 := n_pos (j := e) (by omega)
  rw [h2] at h3
  exact absurd h3 (by decide)
/-- what is still to be read: s is the place behind the last order -/
def q_rem (c : Nat → Int32) (n f s : Nat) (os : List TO) : Prop := (s < n ∧ q_from c n f s [] = (-6, os)) ∨ (n ≤ s ∧ os = [])
theorem q_rem_step {c : Nat → Int32} {n f s s2 : Nat} {os : List TO} (h : q_from c n (f + 1) s [] = (-6, os)) (hs : q_from c n (f + 1) s [] = q_run c n (f + 1) s2 []) (eo : (q_o c n s2).2 = false) : ∃ os2, os = q_to c n s2 :: os2 ∧ q_rem c n f (q_o c n s2).1 os2 := by
  rw [hs] at h
  by_cases e2 : n ≤ (q_o c n s2).1
  · rw [q_run_s, if_neg (by rw [eo]; decide), if_pos e2] at h
    exact ⟨[], (congrArg Prod.snd h).symm, Or.inr ⟨e2, rfl⟩⟩
  · rw [q_run_on eo e2, q_from_acc] at h
    have h1 := congrArg Prod.fst h
    have h2 := congrArg Prod.snd h
    exact ⟨(q_from c n f (q_o c n s2).1 []).2, h2.symm, Or.inl ⟨by omega, Prod.ext h1 rfl⟩⟩
theorem q_to_mark (c : Nat → Int32) (n s : Nat) : (q_to c n s).2.2.2.2 = 0 ∨ (q_to c n s).2.2.2.2 = 1 := by
  unfold q_to
  split
  · dsimp only
    split
    · exact Or.inr rfl
    · exact Or.inl rfl
  · split
    · dsimp only
      split
      · exact Or.inr rfl
      · exact Or.inl rfl
    · exact Or.inl rfl
section Cls39
variable {g : PG} {L : PL} {FI AI : Nat → Nat → Int32} {AL : Nat → Nat → Int64} {AR : Nat → Nat → Option Nat} {x : Nat} {c : Nat → Int32} {n s : Nat} {Z : ZW} {M : Nat}
theorem PT.far {F2 A2 : Nat → Nat → Int32} {L2 : Nat → Nat → Int64} {R2 : Nat → Nat → Option Nat} (h : PT L FI AI x c n s) (hf : FrC (x + 1) FI AI AL AR F2 A2 L2 R2) : PT L F2 A2 x c n s := h.up ((hf _ (by omega)).1 97) (hf _ (by omega)).2.1 (((hf _ (by omega)).1 98).trans h.at_) h.le

theorem g_carryOut (h : RC L FI AI AL AR x Z) (hG : ZG M Z) (hM : M + 40500 < 80000000) : Sp g 7 iX7_carryOut [vr x] (L, FI, AI, AL, AR) (0, 0) (QRC L FI AI AL AR x (z_carry Z).1 (some (vi (z_carry Z).2))) := by
  refine Sp.of (ls := [some (vr x), none, none]) (by decide +kernel) rfl rfl ?_
  have hL := h.lc
  obtain ⟨c, hcc⟩ : ∃ c, c = zC Z := ⟨_, rfl⟩
  obtain ⟨n, hnn⟩ : ∃ n, n = zn Z := ⟨_, rfl⟩
  have hn80 : n ≤ 80 := by rw [hnn]; exact h.n80
  have hpb := h.pb hG.2.2.1
  rw [← hcc, ← hnn] at hpb
  have J : ∀ (f s i k : Nat) (os : List TO) (Z2 : ZW) (F A : Nat → Nat → Int32) (B : Nat → Nat → Int64) (R : Nat → Nat → Option Nat) (M2 : Nat), PT L F A x c n s → RC L F A B R x Z2 → Z2.2.2.2.2.2 = Z.2.2.2.2.2 → XI M2 (zX Z2) → h_six M2 (zX Z2) → M2 + 500 * f < 80000000 → q_rem c n f s os → n < s + f → i ≤ s → FrO x FI AI AL AR F A B R → P g 7 iX7_carryOut 38 [some (vr x), some (vi (Int32.ofNat k)), some (vi (Int32.ofNat i))] [] (L, F, A, B, R) (0, 0) (QRC L FI AI AL AR x (z_nop (z_exec Z2 os k).1) (some (vi (Int32.ofNat (z_exec Z2 os k).2)))) := by
    intro f
    induction f with
    | zero =>
      intro s i k os Z2 F A B R M2 hT _ _ _ _ _ _ hfu
      have := hT.le
      omega
    | succ f ih =>
      intro s i k os Z2 F A B R M2 hT hR hzc hI h6 hM2 hrem hfu hi hf
      have hsn := hT.le
      rcases hrem with ⟨hlt, hq⟩ | ⟨hsn2, rfl⟩
      · refine P_iloadn (i := 2) rfl rfl dX7_carryOut_38 ?_
        refine P_aloadn (i := 0) rfl rfl dX7_carryOut_39 ?_
        refine gX7_37 rfl (by first | exact hL.kx | exact hL.kh | exact hL.kp | exact hL.kn | exact hL.kc) hL.r229 dX7_carryOut_40 ?_
        refine gX7_159 rfl (by first | exact hL.kx | exact hL.kh | exact hL.kp | exact hL.kn | exact hL.kc) hT.pn dX7_carryOut_43 ?_
        refine P_icmpge dX7_carryOut_46 (tgt := 102) rfl (fun h46 => absurd h46 (fun h8 => by have h7 := (n_le (a := n) (b := i) (by omega) (by omega)).mp h8; omega)) (fun h46 => ?_)
        refine P_aloadn (i := 0) rfl rfl dX7_carryOut_49 ?_
        refine gX7_37 rfl (by first | exact hL.kx | exact hL.kh | exact hL.kp | exact hL.kn | exact hL.kc) hL.r229 dX7_carryOut_50 ?_
        refine gX7_212 rfl (by first | exact hL.kx | exact hL.kh | exact hL.kp | exact hL.kn | exact hL.kc) hT.at_ dX7_carryOut_53 ?_
        refine P_aloadn (i := 0) rfl rfl dX7_carryOut_56 ?_
        refine gX7_37 rfl (by first | exact hL.kx | exact hL.kh | exact hL.kp | exact hL.kn | exact hL.kc) hL.r229 dX7_carryOut_57 ?_
        refine gX7_159 rfl (by first | exact hL.kx | exact hL.kh | exact hL.kp | exact hL.kn | exact hL.kc) hT.pn dX7_carryOut_60 ?_
        refine P_icmpge dX7_carryOut_63 (tgt := 102) rfl (fun h63 => absurd h63 (fun h8 => by have h7 := (n_le (a := n) (b := s) (by omega) (by omega)).mp h8; omega)) (fun h63 => ?_)
        refine P_aloadn (i := 0) rfl rfl dX7_carryOut_66 ?_
        refine gX7_37 rfl (by first | exact hL.kx | exact hL.kh | exact hL.kp | exact hL.kn | exact hL.kc) hL.r229 dX7_carryOut_67 ?_
        refine kX7_215 rfl (g_readOrder hT) (by decide) hL.kp rfl dX7_carryOut_70 (fun r70 s70 q70 => ?_)
        obtain q70 := q70
        rcases q70 with ⟨h0, F2, A2, rfl, hr2, hp, hc⟩ | ⟨h0, rfl, rfl⟩
        · obtain ⟨s2, hs2⟩ : ∃ s2, s2 = (if 0 < s then s + 1 else s) := ⟨_, rfl⟩
          rw [← hs2] at hp hc
          have hss : s ≤ s2 := by rw [hs2]; split <;> omega
          have hes : q_from c n (f + 1) s [] = q_run c n (f + 1) s2 [] := by
            unfold q_from
            by_cases e0 : s = 0
            · rw [if_pos e0, show s2 = 0 from by rw [hs2, if_neg (by omega)]; exact e0]
            · rw [if_neg e0, if_pos (Decidable.byContradiction fun hh => h0 ⟨by omega, hh⟩), show s2 = s + 1 from by rw [hs2, if_pos (by omega)]]
          have hle := hp.le
          rcases hc with ⟨eo, rfl, hto⟩ | ⟨eo, rfl⟩
          · obtain ⟨os2, rfl, hrem2⟩ := q_rem_step hq hes eo
            have hR2 := hR.rd hr2
            have hkw : L.2.1 (x + 1) = 6 := by obtain ⟨sb, hl⟩ := hR2.live; exact hl.wf.kw
            refine P_ifeq dX7_carryOut_73 (tgt := 102) rfl (fun h73 => absurd h73 (by decide)) (fun h73 => ?_)
            refine P_aloadn (i := 0) rfl rfl dX7_carryOut_76 ?_
            refine gX7_10 rfl (by first | exact hL.kx | exact hL.kh | exact hL.kp | exact hL.kn | exact hL.kc) hL.r224 dX7_carryOut_77 ?_
            refine P_aloadn (i := 0) rfl rfl dX7_carryOut_80 ?_
            refine gX7_37 rfl (by first | exact hL.kx | exact hL.kh | exact hL.kp | exact hL.kn | exact hL.kc) hL.r229 dX7_carryOut_81 ?_
            refine kX7_219 rfl (g_obey hR2 hI (by omega) h6 hp hto (fun _ => q_to_mark c n s2)) (by decide) hkw rfl dX7_carryOut_84 (fun r84 s84 q84 => ?_)
            obtain q84 := q84
            obtain ⟨F3, A3, B3, R3, rfl, rfl, hf3, hR3⟩ := q84
            have hfo : FrO x FI AI AL AR F3 A3 B3 R3 := (hf.tr hr2.fr).tr (FrO.fc hf3 (by omega))
            by_cases hpos : (0 : Int32) ≤ (z_obey Z2 (q_to c n s2)).2
            · rw [if_pos hpos]
              refine P_ifne dX7_carryOut_87 (tgt := 93) rfl (fun h87 => ?_) (fun h87 => absurd h87 (by decide))
              refine P_inN1 dX7_carryOut_93 rfl rfl ?_
              refine P_inN2 dX7_carryOut_96 rfl rfl ?_
              refine P_goto dX7_carryOut_99 (tgt := 38) rfl ?_
              rw [show z_exec Z2 (q_to c n s2 :: os2) k = z_exec (z_obey Z2 (q_to c n s2)).1 os2 (k + 1) from if_pos hpos]
              have hge := q_o_ge eo
              exact ih (q_o c n s2).1 (i + 1) (k + 1) os2 _ F3 A3 B3 R3 (M2 + 500) (hp.far hf3) hR3 ((congrArg (fun z => z.2.2.2.2) (z_obey_2 Z2 (q_to c n s2))).trans hzc) (z_obey_I hI (by omega) _) (z_obey_six h6 hI (by omega) _) (by omega) hrem2 (by omega) (by omega) hfo
            · rw [if_neg hpos]
              rw [show z_exec Z2 (q_to c n s2 :: os2) k = ((z_obey Z2 (q_to c n s2)).1, k) from if_neg hpos]
              refine P_ifne dX7_carryOut_87 (tgt := 93) rfl (fun h87 => absurd h87 (fun hh => hh rfl)) (fun h87 => ?_)
              refine P_goto dX7_carryOut_90 (tgt := 102) rfl ?_
              refine P_aloadn (i := 0) rfl rfl dX7_carryOut_102 ?_
              refine gX7_37 rfl (by first | exact hL.kx | exact hL.kh | exact hL.kp | exact hL.kn | exact hL.kc) hL.r229 dX7_carryOut_103 ?_
              refine P_iconst (v := 0) rfl dX7_carryOut_106 ?_
              refine uX7_159 rfl (by first | exact hL.kx | exact hL.kh | exact hL.kp | exact hL.kn | exact hL.kc) dX7_carryOut_107 ?_
              refine P_iloadn (i := 1) rfl rfl dX7_carryOut_110 ?_
              refine P_ireturn rfl dX7_carryOut_111 ?_
              exact ⟨_, _, _, _, rfl, rfl, hfo.uF (by omega), hR3.pad (fun j a ha => p_up_of (by omega)) (fun _ _ _ => rfl) (p_up_eq _ _ _ _) (by omega) (fun i hi => absurd hi (Nat.not_lt_zero _))⟩
          · rw [hes, q_run_s, if_pos eo] at hq
            exact (n_m6 (by omega) (congrArg Prod.fst hq)).elim
        · exact (n_m6 (e := s) (by omega) ((show q_from c n (f + 1) s [] = (Int32.ofNat s, []) from (if_neg (show ¬ s = 0 by omega)).trans (if_neg h0.2)).symm.trans hq |> congrArg Prod.fst)).elim
      · rw [show z_exec Z2 [] k = (Z2, k) from rfl]
        refine P_iloadn (i := 2) rfl rfl dX7_carryOut_38 ?_
        refine P_aloadn (i := 0) rfl rfl dX7_carryOut_39 ?_
        refine gX7_37 rfl (by first | exact hL.kx | exact hL.kh | exact hL.kp | exact hL.kn | exact hL.kc) hL.r229 dX7_carryOut_40 ?_
        refine gX7_159 rfl (by first | exact hL.kx | exact hL.kh | exact hL.kp | exact hL.kn | exact hL.kc) hT.pn dX7_carryOut_43 ?_
        refine P_icmpge dX7_carryOut_46 (tgt := 102) rfl (fun h46 => ?_) (fun h46 => ?_)
        · refine P_aloadn (i := 0) rfl rfl dX7_carryOut_102 ?_
          refine gX7_37 rfl (by first | exact hL.kx | exact hL.kh | exact hL.kp | exact hL.kn | exact hL.kc) hL.r229 dX7_carryOut_103 ?_
          refine P_iconst (v := 0) rfl dX7_carryOut_106 ?_
          refine uX7_159 rfl (by first | exact hL.kx | exact hL.kh | exact hL.kp | exact hL.kn | exact hL.kc) dX7_carryOut_107 ?_
          refine P_iloadn (i := 1) rfl rfl dX7_carryOut_110 ?_
          refine P_ireturn rfl dX7_carryOut_111 ?_
          exact ⟨_, _, _, _, rfl, rfl, hf.uF (by omega), hR.pad (fun j a ha => p_up_of (by omega)) (fun _ _ _ => rfl) (p_up_eq _ _ _ _) (by omega) (fun i hi => absurd hi (Nat.not_lt_zero _))⟩
        · refine P_aloadn (i := 0) rfl rfl dX7_carryOut_49 ?_
          refine gX7_37 rfl (by first | exact hL.kx | exact hL.kh | exact hL.kp | exact hL.kn | exact hL.kc) hL.r229 dX7_carryOut_50 ?_
          refine gX7_212 rfl (by first | exact hL.kx | exact hL.kh | exact hL.kp | exact hL.kn | exact hL.kc) hT.at_ dX7_carryOut_53 ?_
          refine P_aloadn (i := 0) rfl rfl dX7_carryOut_56 ?_
          refine gX7_37 rfl (by first | exact hL.kx | exact hL.kh | exact hL.kp | exact hL.kn | exact hL.kc) hL.r229 dX7_carryOut_57 ?_
          refine gX7_159 rfl (by first | exact hL.kx | exact hL.kh | exact hL.kp | exact hL.kn | exact hL.kc) hT.pn dX7_carryOut_60 ?_
          refine P_icmpge dX7_carryOut_63 (tgt := 102) rfl (fun h63 => ?_) (fun h63 => absurd ((n_le (a := n) (b := s) (by omega) (by omega)).mpr hsn2) h63)
          refine P_aloadn (i := 0) rfl rfl dX7_carryOut_102 ?_
          refine gX7_37 rfl (by first | exact hL.kx | exact hL.kh | exact hL.kp | exact hL.kn | exact hL.kc) hL.r229 dX7_carryOut_103 ?_
          refine P_iconst (v := 0) rfl dX7_carryOut_106 ?_
          refine uX7_159 rfl (by first | exact hL.kx | exact hL.kh | exact hL.kp | exact hL.kn | exact hL.kc) dX7_carryOut_107 ?_
          refine P_iloadn (i := 1) rfl rfl dX7_carryOut_110 ?_
          refine P_ireturn rfl dX7_carryOut_111 ?_
          exact ⟨_, _, _, _, rfl, rfl, hf.uF (by omega), hR.pad (fun j a ha => p_up_of (by omega)) (fun _ _ _ => rfl) (p_up_eq _ _ _ _) (by omega) (fun i hi => absurd hi (Nat.not_lt_zero _))⟩
  refine P_aloadn (i := 0) rfl rfl dX7_carryOut_0 ?_
  refine gX7_37 rfl (by first | exact hL.kx | exact hL.kh | exact hL.kp | exact hL.kn | exact hL.kc) hL.r229 dX7_carryOut_1 ?_
  refine kX7_209 rfl (g_findFault hpb) (by decide) hL.kp rfl dX7_carryOut_4 (fun r4 s4 q4 => ?_)
  obtain q4 := q4
  obtain ⟨F1, A1, rfl, rfl, hr1, hor⟩ := q4
  have h1 := h.rd hr1
  refine P_bipush (v := (-6)) rfl dX7_carryOut_7 ?_
  refine P_icmpeq dX7_carryOut_9 (tgt := 15) rfl (fun h9 => ?_) (fun h9 => ?_)
  · have hq6 : (q_run c n 81 0 []).1 = -6 := h9
    have hfa : ¬ ¬ a_fault Z < 0 := by unfold a_fault; rw [← hcc, ← hnn, hq6]; decide
    rw [show z_carry Z = (z_nop (z_exec (z_keep Z) (q_run (zC Z) (zn Z) 81 0 []).2 0).1, Int32.ofNat (z_exec (z_keep Z) (q_run (zC Z) (zn Z) 81 0 []).2 0).2) from if_neg hfa, ← hcc, ← hnn]
    refine P_aloadn (i := 0) rfl rfl dX7_carryOut_15 ?_
    refine gX7_22 rfl (by first | exact hL.kx | exact hL.kh | exact hL.kp | exact hL.kn | exact hL.kc) hL.r226 dX7_carryOut_16 ?_
    refine P_aloadn (i := 0) rfl rfl dX7_carryOut_19 ?_
    refine gX7_10 rfl (by first | exact hL.kx | exact hL.kh | exact hL.kp | exact hL.kn | exact hL.kc) hL.r224 dX7_carryOut_20 ?_
    refine kX7_49 rfl (s_keep7 h1 hG.1.1) (by decide) hL.kh rfl dX7_carryOut_23 (fun r23 s23 q23 => ?_)
    obtain ⟨F2, A2, B2, R2, rfl, rfl, hf2, h2, -⟩ := q23
    refine P_iconst (v := 0) rfl dX7_carryOut_26 ?_
    refine P_is1 (Or.inl dX7_carryOut_27) rfl rfl ?_
    refine P_aloadn (i := 0) rfl rfl dX7_carryOut_28 ?_
    refine gX7_37 rfl (by first | exact hL.kx | exact hL.kh | exact hL.kp | exact hL.kn | exact hL.kc) hL.r229 dX7_carryOut_29 ?_
    refine P_iconst (v := 0) rfl dX7_carryOut_32 ?_
    refine uX7_212 rfl (by first | exact hL.kx | exact hL.kh | exact hL.kp | exact hL.kn | exact hL.kc) dX7_carryOut_33 ?_
    refine P_iconst (v := 0) rfl dX7_carryOut_36 ?_
    refine P_is2 (Or.inl dX7_carryOut_37) rfl rfl ?_
    have hk6 := hG.2.1.keep hG.f hG.k
    have h3 : RC L (p_up F2 98 (x + 5765) 0) A2 B2 R2 x (z_keep Z) := h2.rd (c_rd.rf.uF (Or.inl rfl))
    have hpb3 := h2.pb (hG.2.2.1.eq (Y := z_keep Z) rfl)
    rw [show zC (z_keep Z) = c from hcc.symm, show zn (z_keep Z) = n from hnn.symm] at hpb3
    have hn0 : 0 < n := Decidable.byContradiction fun hh => by
      have e0 : n = 0 := by omega
      rw [e0] at hq6
      have h7 : q_run c 0 81 0 [] = (Int32.ofNat 0, []) := by
        rw [q_run_s, show q_o c 0 0 = (0, true) from rfl, if_pos rfl]
      rw [h7] at hq6
      exact absurd hq6 (by decide)
    exact J 81 0 0 0 (q_run c n 81 0 []).2 (z_keep Z) _ A2 B2 R2 M (hpb3.pt (Nat.zero_le _)) h3 rfl hG.1.1 hG.2.1.1 (by omega) (Or.inl ⟨hn0, Prod.ext hq6 rfl⟩) (by omega) (Nat.le_refl _) ((hr1.fr.tr hf2).uF (by omega))
  · have hfa : ¬ a_fault Z < 0 := by
      unfold a_fault
      rw [← hcc, ← hnn]
      rcases hor with e | ⟨e, he, e2⟩
      · exact absurd e h9
      · rw [e2]
        exact Int32.not_lt.mpr (n_pos (by omega))
    rw [show z_carry Z = (Z, -3) from if_pos hfa]
    refine P_bipush (v := (-3)) rfl dX7_carryOut_12 ?_
    refine P_ireturn rfl dX7_carryOut_14 ?_
    exact ⟨F1, A1, AL, AR, rfl, rfl, hr1.fr, h1⟩
end Cls39
