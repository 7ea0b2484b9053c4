def c_to (F A : Nat → Nat → Int32) (x : Nat) (o : TO) : Prop := F 99 (x + 5765) = o.1 ∧ A (x + 5767) 0 = o.2.1 ∧ ((o.1 = 115 ∨ o.1 = 102) → A (x + 5767) 1 = o.2.2.1 ∧ A (x + 5767) 2 = o.2.2.2.1 ∧ F 101 (x + 5765) = o.2.2.2.2)
/-- the end of reading an order that begins at s -/
def QRO (L : PL) (FI AI : Nat → Nat → Int32) (AL : Nat → Nat → Int64) (AR : Nat → Nat → Option Nat) (x : Nat) (c : Nat → Int32) (n s : Nat) : Option PV → PS → Prop := fun r σ => ∃ F2 A2, σ = (L, F2, A2, AL, AR) ∧ c_rd x FI AI F2 A2 ∧ PT L F2 A2 x c n (q_o c n s).1 ∧ (((q_o c n s).2 = false ∧ r = some (vi 1) ∧ c_to F2 A2 x (q_to c n s)) ∨ ((q_o c n s).2 = true ∧ r = some (vi 0)))
theorem n_fit {v : Int32} (h : ib v 256) : fits .char (.int v) = true := by
  have h1 := h.1
  have h2 := h.2
  show (decide ((0 : Int32) ≤ v) && decide (v ≤ 65535)) = true
  rw [decide_eq_true (Int32.le_iff_toInt_le.mpr (by simp only [Int32.reduceToInt]; omega)), decide_eq_true (Int32.le_iff_toInt_le.mpr (by simp only [Int32.reduceToInt]; omega))]
  rfl
section Cls36
variable {g : PG} {L : PL} {FI AI : Nat → Nat → Int32} {AL : Nat → Nat → Int64} {AR : Nat → Nat → Option Nat} {x : Nat} {c : Nat → Int32} {n s : Nat}

theorem c_rO {F A : Nat → Nat → Int32} {K : Int32} {N : Nat → Int32} (h : PR L FI AI x c n F A s K N) : P g 3 iX3_readOrder 18 [some (vr (x + 5765))] [] (L, F, A, AL, AR) (0, 0) (QRO L FI AI AL AR x c n s) := by
  have hL := h.pt.hl
  refine P_aloadn (i := 0) rfl rfl dX3_readOrder_18 ?_
  refine P_aloadn (i := 0) rfl rfl dX3_readOrder_19 ?_
  refine kX3_48 rfl (g_here h.pt) (by decide) (by first | exact hL.kp | exact hL.kc | exact hL.kn) rfl dX3_readOrder_20 (fun r20 s20 q20 => ?_)
  obtain ⟨rfl, rfl⟩ := q20
  refine uX3_52 rfl (n_nar h.pt.nx) (n_fit h.pt.nx) (by first | exact hL.kp | exact hL.kc | exact hL.kn) dX3_readOrder_23 ?_
  have hk := h.kind (v := t_nx c n s)
  refine P_aloadn (i := 0) rfl rfl dX3_readOrder_26 ?_
  refine gX3_52 rfl (by first | exact hL.kp | exact hL.kc | exact hL.kn) hk.2.2.1 dX3_readOrder_27 ?_
  refine P_bipush (v := 115) rfl dX3_readOrder_30 ?_
  refine P_icmpne dX3_readOrder_32 (tgt := 102) rfl (fun h32 => ?_) (fun h32 => ?_)
  · have e115 : ¬ t_nx c n s = 115 := h32
    refine P_aloadn (i := 0) rfl rfl dX3_readOrder_102 ?_
    refine gX3_52 rfl (by first | exact hL.kp | exact hL.kc | exact hL.kn) hk.2.2.1 dX3_readOrder_103 ?_
    refine P_bipush (v := 102) rfl dX3_readOrder_106 ?_
    refine P_icmpne dX3_readOrder_108 (tgt := 178) rfl (fun h108 => ?_) (fun h108 => ?_)
    · have e102 : ¬ t_nx c n s = 102 := h108
      refine P_aloadn (i := 0) rfl rfl dX3_readOrder_178 ?_
      refine gX3_52 rfl (by first | exact hL.kp | exact hL.kc | exact hL.kn) hk.2.2.1 dX3_readOrder_179 ?_
      refine P_bipush (v := 114) rfl dX3_readOrder_182 ?_
      refine P_icmpeq dX3_readOrder_184 (tgt := 198) rfl (fun h184 => ?_) (fun h184 => ?_)
      · have e114 : t_nx c n s = 114 := h184
        have hp0 := hk.take (t := s + 1) (t_nx_lt e114 (by decide))
        have hE0 : q_o c n s = k_nu c n (s + 1, false) := (if_neg e115).trans ((if_neg e102).trans (if_pos (Or.inl e114)))
        have hT : q_to c n s = (t_nx c n s, Int32.ofNat (q_num c n (s + 1)).1, 0, 0, 0) := (if_neg e115).trans (if_neg e102)
        refine P_aloadn (i := 0) rfl rfl dX3_readOrder_198 ?_
        refine P_dup rfl dX3_readOrder_199 ?_
        refine gX3_37 rfl (by first | exact hL.kp | exact hL.kc | exact hL.kn) hk.pt.at_ dX3_readOrder_200 ?_
        refine P_iconst (v := 1) rfl dX3_readOrder_203 ?_
        refine P_iadd dX3_readOrder_204 ?_
        rw [show Int32.ofNat s + 1 = Int32.ofNat (s + 1) from n_succ s]
        refine uX3_37 rfl (by first | exact hL.kp | exact hL.kc | exact hL.kn) dX3_readOrder_205 ?_
        refine P_aloadn (i := 0) rfl rfl dX3_readOrder_208 ?_
        refine P_iconst (v := 0) rfl dX3_readOrder_209 ?_
        refine kX3_60 rfl (g_readNumber hp0.pt (i := 0) (by decide)) (by decide) (by first | exact hL.kp | exact hL.kc | exact hL.kn) rfl dX3_readOrder_210 (fun r210 s210 q210 => ?_)
        obtain q210 := q210
        rcases q210 with ⟨e210, rfl, rfl⟩ | ⟨e210, rfl, rfl⟩
        · have hp1 := (hp0.take (t := (q_num c n (s + 1)).2) (q_more_n 5000 _ _ (t_dg_lt e210))).num (i := 0) (v := Int32.ofNat (q_num c n (s + 1)).1)
          have hE1 : q_o c n s = ((q_num c n (s + 1)).2, false) := by rw [hE0, k_nu_s, if_pos e210]
          refine P_zreturn rfl (by first | exact Or.inl rfl | exact Or.inr rfl | assumption) dX3_readOrder_213 ?_
          exact ⟨_, _, rfl, hp1.1, by rw [hE1]; exact hp1.pt, Or.inl ⟨congrArg Prod.snd hE1, rfl, by rw [hT]; exact ⟨hp1.2.2.1, hp1.2.2.2 0 (by decide), fun hh => hh.elim (fun q => absurd q e115) (fun q => absurd q e102)⟩⟩⟩
        · have hpz := hp0.num (i := 0) (v := 0)
          have hEz : q_o c n s = (s + 1, true) := by rw [hE0, k_nu_s, if_neg e210]
          refine P_zreturn rfl (by first | exact Or.inl rfl | exact Or.inr rfl | assumption) dX3_readOrder_213 ?_
          exact ⟨_, _, rfl, hpz.1, by rw [hEz]; exact hpz.pt, Or.inr ⟨congrArg Prod.snd hEz, rfl⟩⟩
      · refine P_aloadn (i := 0) rfl rfl dX3_readOrder_187 ?_
        refine gX3_52 rfl (by first | exact hL.kp | exact hL.kc | exact hL.kn) hk.2.2.1 dX3_readOrder_188 ?_
        refine P_bipush (v := 116) rfl dX3_readOrder_191 ?_
        refine P_icmpeq dX3_readOrder_193 (tgt := 198) rfl (fun h193 => ?_) (fun h193 => ?_)
        · have e116 : t_nx c n s = 116 := h193
          have hp0 := hk.take (t := s + 1) (t_nx_lt e116 (by decide))
          have hE0 : q_o c n s = k_nu c n (s + 1, false) := (if_neg e115).trans ((if_neg e102).trans (if_pos (Or.inr e116)))
          have hT : q_to c n s = (t_nx c n s, Int32.ofNat (q_num c n (s + 1)).1, 0, 0, 0) := (if_neg e115).trans (if_neg e102)
          refine P_aloadn (i := 0) rfl rfl dX3_readOrder_198 ?_
          refine P_dup rfl dX3_readOrder_199 ?_
          refine gX3_37 rfl (by first | exact hL.kp | exact hL.kc | exact hL.kn) hk.pt.at_ dX3_readOrder_200 ?_
          refine P_iconst (v := 1) rfl dX3_readOrder_203 ?_
          refine P_iadd dX3_readOrder_204 ?_
          rw [show Int32.ofNat s + 1 = Int32.ofNat (s + 1) from n_succ s]
          refine uX3_37 rfl (by first | exact hL.kp | exact hL.kc | exact hL.kn) dX3_readOrder_205 ?_
          refine P_aloadn (i := 0) rfl rfl dX3_readOrder_208 ?_
          refine P_iconst (v := 0) rfl dX3_readOrder_209 ?_
          refine kX3_60 rfl (g_readNumber hp0.pt (i := 0) (by decide)) (by decide) (by first | exact hL.kp | exact hL.kc | exact hL.kn) rfl dX3_readOrder_210 (fun r210 s210 q210 => ?_)
          obtain q210 := q210
          rcases q210 with ⟨e210, rfl, rfl⟩ | ⟨e210, rfl, rfl⟩
          · have hp1 := (hp0.take (t := (q_num c n (s + 1)).2) (q_more_n 5000 _ _ (t_dg_lt e210))).num (i := 0) (v := Int32.ofNat (q_num c n (s + 1)).1)
            have hE1 : q_o c n s = ((q_num c n (s + 1)).2, false) := by rw [hE0, k_nu_s, if_pos e210]
            refine P_zreturn rfl (by first | exact Or.inl rfl | exact Or.inr rfl | assumption) dX3_readOrder_213 ?_
            exact ⟨_, _, rfl, hp1.1, by rw [hE1]; exact hp1.pt, Or.inl ⟨congrArg Prod.snd hE1, rfl, by rw [hT]; exact ⟨hp1.2.2.1, hp1.2.2.2 0 (by decide), fun hh => hh.elim (fun q => absurd q e115) (fun q => absurd q e102)⟩⟩⟩
          · have hpz := hp0.num (i := 0) (v := 0)
            have hEz : q_o c n s = (s + 1, true) := by rw [hE0, k_nu_s, if_neg e210]
            refine P_zreturn rfl (by first | exact Or.inl rfl | exact Or.inr rfl | assumption) dX3_readOrder_213 ?_
            exact ⟨_, _, rfl, hpz.1, by rw [hEz]; exact hpz.pt, Or.inr ⟨congrArg Prod.snd hEz, rfl⟩⟩
        · refine P_iconst (v := 0) rfl dX3_readOrder_196 ?_
          refine P_zreturn rfl (by first | exact Or.inl rfl | exact Or.inr rfl | assumption) dX3_readOrder_197 ?_
          have hEz : q_o c n s = (s, true) := (if_neg e115).trans ((if_neg e102).trans (if_neg (fun hh => hh.elim (fun q => h184 q) (fun q => h193 q))))
          exact ⟨_, _, rfl, hk.1, by rw [hEz]; exact hk.pt, Or.inr ⟨congrArg Prod.snd hEz, rfl⟩⟩
    · have e102 : t_nx c n s = 102 := h108
      have hp0 := hk.take (t := s + 1) (t_nx_lt e102 (by decide))
      have e0 := e102
      have hE0 : q_o c n s = k_if c n 46 (k_nu c n (k_sign c n 42 (k_nu c n (k_sign c n 43 (k_nu c n (s + 1, false)))))) := (if_neg e115).trans (if_pos e102)
      have hT : q_to c n s = (102, Int32.ofNat (q_num c n (s + 1)).1, Int32.ofNat (q_num c n ((q_num c n (s + 1)).2 + 1)).1, Int32.ofNat (q_num c n ((q_num c n ((q_num c n (s + 1)).2 + 1)).2 + 1)).1, if t_nx c n (q_num c n ((q_num c n ((q_num c n (s + 1)).2 + 1)).2 + 1)).2 = 46 then 1 else 0) := (if_neg e115).trans (if_pos e102)
      refine P_aloadn (i := 0) rfl rfl dX3_readOrder_111 ?_
      refine P_dup rfl dX3_readOrder_112 ?_
      refine gX3_37 rfl (by first | exact hL.kp | exact hL.kc | exact hL.kn) hk.pt.at_ dX3_readOrder_113 ?_
      refine P_iconst (v := 1) rfl dX3_readOrder_116 ?_
      refine P_iadd dX3_readOrder_117 ?_
      rw [show Int32.ofNat s + 1 = Int32.ofNat (s + 1) from n_succ s]
      refine uX3_37 rfl (by first | exact hL.kp | exact hL.kc | exact hL.kn) dX3_readOrder_118 ?_
      refine P_aloadn (i := 0) rfl rfl dX3_readOrder_121 ?_
      refine P_iconst (v := 0) rfl dX3_readOrder_122 ?_
      refine kX3_60 rfl (g_readNumber hp0.pt (i := 0) (by decide)) (by decide) (by first | exact hL.kp | exact hL.kc | exact hL.kn) rfl dX3_readOrder_123 (fun r123 s123 q123 => ?_)
      obtain q123 := q123
      rcases q123 with ⟨e123, rfl, rfl⟩ | ⟨e123, rfl, rfl⟩
      · have hp1 := (hp0.take (t := (q_num c n (s + 1)).2) (q_more_n 5000 _ _ (t_dg_lt e123))).num (i := 0) (v := Int32.ofNat (q_num c n (s + 1)).1)
        have hE1 : q_o c n s = k_if c n 46 (k_nu c n (k_sign c n 42 (k_nu c n (k_sign c n 43 ((q_num c n (s + 1)).2, false))))) := by rw [hE0, k_nu_s, if_pos e123]
        refine P_ifeq dX3_readOrder_126 (tgt := 176) rfl (fun h126 => absurd h126 (by decide)) (fun h126 => ?_)
        refine P_aloadn (i := 0) rfl rfl dX3_readOrder_129 ?_
        refine P_bipush (v := 43) rfl dX3_readOrder_130 ?_
        refine kX3_44 rfl (g_take hp1.pt) (by decide) (by first | exact hL.kp | exact hL.kc | exact hL.kn) rfl dX3_readOrder_132 (fun r132 s132 q132 => ?_)
        obtain q132 := q132
        rcases q132 with ⟨e132, rfl, rfl⟩ | ⟨e132, rfl, rfl⟩
        · have hp2 := hp1.take (t := (q_num c n (s + 1)).2 + 1) (t_nx_lt e132 (by decide))
          have hE2 : q_o c n s = k_if c n 46 (k_nu c n (k_sign c n 42 (k_nu c n ((q_num c n (s + 1)).2 + 1, false)))) := by rw [hE1, k_sign_s, if_pos e132]
          refine P_ifeq dX3_readOrder_135 (tgt := 176) rfl (fun h135 => absurd h135 (by decide)) (fun h135 => ?_)
          refine P_aloadn (i := 0) rfl rfl dX3_readOrder_138 ?_
          refine P_iconst (v := 1) rfl dX3_readOrder_139 ?_
          refine kX3_60 rfl (g_readNumber hp2.pt (i := 1) (by decide)) (by decide) (by first | exact hL.kp | exact hL.kc | exact hL.kn) rfl dX3_readOrder_140 (fun r140 s140 q140 => ?_)
          obtain q140 := q140
          rcases q140 with ⟨e140, rfl, rfl⟩ | ⟨e140, rfl, rfl⟩
          · have hp3 := (hp2.take (t := (q_num c n ((q_num c n (s + 1)).2 + 1)).2) (q_more_n 5000 _ _ (t_dg_lt e140))).num (i := 1) (v := Int32.ofNat (q_num c n ((q_num c n (s + 1)).2 + 1)).1)
            have hE3 : q_o c n s = k_if c n 46 (k_nu c n (k_sign c n 42 ((q_num c n ((q_num c n (s + 1)).2 + 1)).2, false))) := by rw [hE2, k_nu_s, if_pos e140]
            refine P_ifeq dX3_readOrder_143 (tgt := 176) rfl (fun h143 => absurd h143 (by decide)) (fun h143 => ?_)
            refine P_aloadn (i := 0) rfl rfl dX3_readOrder_146 ?_
            refine P_bipush (v := 42) rfl dX3_readOrder_147 ?_
            refine kX3_44 rfl (g_take hp3.pt) (by decide) (by first | exact hL.kp | exact hL.kc | exact hL.kn) rfl dX3_readOrder_149 (fun r149 s149 q149 => ?_)
            obtain q149 := q149
            rcases q149 with ⟨e149, rfl, rfl⟩ | ⟨e149, rfl, rfl⟩
            · have hp4 := hp3.take (t := (q_num c n ((q_num c n (s + 1)).2 + 1)).2 + 1) (t_nx_lt e149 (by decide))
              have hE4 : q_o c n s = k_if c n 46 (k_nu c n ((q_num c n ((q_num c n (s + 1)).2 + 1)).2 + 1, false)) := by rw [hE3, k_sign_s, if_pos e149]
              refine P_ifeq dX3_readOrder_152 (tgt := 176) rfl (fun h152 => absurd h152 (by decide)) (fun h152 => ?_)
              refine P_aloadn (i := 0) rfl rfl dX3_readOrder_155 ?_
              refine P_iconst (v := 2) rfl dX3_readOrder_156 ?_
              refine kX3_60 rfl (g_readNumber hp4.pt (i := 2) (by decide)) (by decide) (by first | exact hL.kp | exact hL.kc | exact hL.kn) rfl dX3_readOrder_157 (fun r157 s157 q157 => ?_)
              obtain q157 := q157
              rcases q157 with ⟨e157, rfl, rfl⟩ | ⟨e157, rfl, rfl⟩
              · have hp5 := (hp4.take (t := (q_num c n ((q_num c n ((q_num c n (s + 1)).2 + 1)).2 + 1)).2) (q_more_n 5000 _ _ (t_dg_lt e157))).num (i := 2) (v := Int32.ofNat (q_num c n ((q_num c n ((q_num c n (s + 1)).2 + 1)).2 + 1)).1)
                have hE5 : q_o c n s = k_if c n 46 ((q_num c n ((q_num c n ((q_num c n (s + 1)).2 + 1)).2 + 1)).2, false) := by rw [hE4, k_nu_s, if_pos e157]
                refine P_ifeq dX3_readOrder_160 (tgt := 176) rfl (fun h160 => absurd h160 (by decide)) (fun h160 => ?_)
                refine P_aloadn (i := 0) rfl rfl dX3_readOrder_163 ?_
                refine P_bipush (v := 46) rfl dX3_readOrder_164 ?_
                refine kX3_63 rfl (g_readMark hp5.pt) (by decide) (by first | exact hL.kp | exact hL.kc | exact hL.kn) rfl dX3_readOrder_166 (fun r166 s166 q166 => ?_)
                obtain ⟨rfl, rfl⟩ := q166
                by_cases e166 : t_nx c n ((q_num c n ((q_num c n ((q_num c n (s + 1)).2 + 1)).2 + 1)).2) = 46
                · rw [if_pos e166, if_pos e166]
                  have hp6 := (hp5.take (t := (q_num c n ((q_num c n ((q_num c n (s + 1)).2 + 1)).2 + 1)).2 + 1) (t_nx_lt e166 (by decide))).mark (v := 1)
                  have hE6 : q_o c n s = ((q_num c n ((q_num c n ((q_num c n (s + 1)).2 + 1)).2 + 1)).2 + 1, false) := by rw [hE5, k_if_s, if_pos e166]
                  refine P_ifeq dX3_readOrder_169 (tgt := 176) rfl (fun h169 => absurd h169 (by decide)) (fun h169 => ?_)
                  refine P_iconst (v := 1) rfl dX3_readOrder_172 ?_
                  refine P_goto dX3_readOrder_173 (tgt := 177) rfl ?_
                  refine P_zreturn rfl (by first | exact Or.inl rfl | exact Or.inr rfl | assumption) dX3_readOrder_177 ?_
                  exact ⟨_, _, rfl, hp6.1, by rw [hE6]; exact hp6.pt, Or.inl ⟨congrArg Prod.snd hE6, rfl, by rw [hT]; exact ⟨hp6.2.2.1.trans e0, hp6.2.2.2 0 (by decide), fun _ => ⟨hp6.2.2.2 1 (by decide), hp6.2.2.2 2 (by decide), (p_up_eq _ _ _ _).trans (if_pos e166).symm⟩⟩⟩⟩
                · rw [if_neg e166, if_neg e166]
                  have hp6 := hp5.mark (v := 0)
                  have hE6 : q_o c n s = ((q_num c n ((q_num c n ((q_num c n (s + 1)).2 + 1)).2 + 1)).2, false) := by rw [hE5, k_if_s, if_neg e166]
                  refine P_ifeq dX3_readOrder_169 (tgt := 176) rfl (fun h169 => absurd h169 (by decide)) (fun h169 => ?_)
                  refine P_iconst (v := 1) rfl dX3_readOrder_172 ?_
                  refine P_goto dX3_readOrder_173 (tgt := 177) rfl ?_
                  refine P_zreturn rfl (by first | exact Or.inl rfl | exact Or.inr rfl | assumption) dX3_readOrder_177 ?_
                  exact ⟨_, _, rfl, hp6.1, by rw [hE6]; exact hp6.pt, Or.inl ⟨congrArg Prod.snd hE6, rfl, by rw [hT]; exact ⟨hp6.2.2.1.trans e0, hp6.2.2.2 0 (by decide), fun _ => ⟨hp6.2.2.2 1 (by decide), hp6.2.2.2 2 (by decide), (p_up_eq _ _ _ _).trans (if_neg e166).symm⟩⟩⟩⟩
              · have hpz := hp4.num (i := 2) (v := 0)
                have hEz : q_o c n s = ((q_num c n ((q_num c n (s + 1)).2 + 1)).2 + 1, true) := by rw [hE4, k_nu_s, if_neg e157, k_if_t]
                refine P_ifeq dX3_readOrder_160 (tgt := 176) rfl (fun h160 => ?_) (fun h160 => absurd rfl h160)
                refine P_iconst (v := 0) rfl dX3_readOrder_176 ?_
                refine P_zreturn rfl (by first | exact Or.inl rfl | exact Or.inr rfl | assumption) dX3_readOrder_177 ?_
                exact ⟨_, _, rfl, hpz.1, by rw [hEz]; exact hpz.pt, Or.inr ⟨congrArg Prod.snd hEz, rfl⟩⟩
            · have hEz : q_o c n s = ((q_num c n ((q_num c n (s + 1)).2 + 1)).2, true) := by rw [hE3, k_sign_s, if_neg e149, k_nu_t, k_if_t]
              refine P_ifeq dX3_readOrder_152 (tgt := 176) rfl (fun h152 => ?_) (fun h152 => absurd rfl h152)
              refine P_iconst (v := 0) rfl dX3_readOrder_176 ?_
              refine P_zreturn rfl (by first | exact Or.inl rfl | exact Or.inr rfl | assumption) dX3_readOrder_177 ?_
              exact ⟨_, _, rfl, hp3.1, by rw [hEz]; exact hp3.pt, Or.inr ⟨congrArg Prod.snd hEz, rfl⟩⟩
          · have hpz := hp2.num (i := 1) (v := 0)
            have hEz : q_o c n s = ((q_num c n (s + 1)).2 + 1, true) := by rw [hE2, k_nu_s, if_neg e140, k_sign_t, k_nu_t, k_if_t]
            refine P_ifeq dX3_readOrder_143 (tgt := 176) rfl (fun h143 => ?_) (fun h143 => absurd rfl h143)
            refine P_iconst (v := 0) rfl dX3_readOrder_176 ?_
            refine P_zreturn rfl (by first | exact Or.inl rfl | exact Or.inr rfl | assumption) dX3_readOrder_177 ?_
            exact ⟨_, _, rfl, hpz.1, by rw [hEz]; exact hpz.pt, Or.inr ⟨congrArg Prod.snd hEz, rfl⟩⟩
        · have hEz : q_o c n s = ((q_num c n (s + 1)).2, true) := by rw [hE1, k_sign_s, if_neg e132, k_nu_t, k_sign_t, k_nu_t, k_if_t]
          refine P_ifeq dX3_readOrder_135 (tgt := 176) rfl (fun h135 => ?_) (fun h135 => absurd rfl h135)
          refine P_iconst (v := 0) rfl dX3_readOrder_176 ?_
          refine P_zreturn rfl (by first | exact Or.inl rfl | exact Or.inr rfl | assumption) dX3_readOrder_177 ?_
          exact ⟨_, _, rfl, hp1.1, by rw [hEz]; exact hp1.pt, Or.inr ⟨congrArg Prod.snd hEz, rfl⟩⟩
      · have hpz := hp0.num (i := 0) (v := 0)
        have hEz : q_o c n s = (s + 1, true) := by rw [hE0, k_nu_s, if_neg e123, k_sign_t, k_nu_t, k_sign_t, k_nu_t, k_if_t]
        refine P_ifeq dX3_readOrder_126 (tgt := 176) rfl (fun h126 => ?_) (fun h126 => absurd rfl h126)
        refine P_iconst (v := 0) rfl dX3_readOrder_176 ?_
        refine P_zreturn rfl (by first | exact Or.inl rfl | exact Or.inr rfl | assumption) dX3_readOrder_177 ?_
        exact ⟨_, _, rfl, hpz.1, by rw [hEz]; exact hpz.pt, Or.inr ⟨congrArg Prod.snd hEz, rfl⟩⟩
  · have e115 : t_nx c n s = 115 := h32
    have hp0 := hk.take (t := s + 1) (t_nx_lt e115 (by decide))
    have e0 := e115
    have hE0 : q_o c n s = k_if c n 33 (k_nu c n (k_sign c n 42 (k_one c n 55 (k_sign c n 62 (k_one c n 55 (s + 1, false)))))) := if_pos e115
    have hT : q_to c n s = (115, Int32.ofNat (t_d c n (s + 1)), Int32.ofNat (t_d c n (s + 3)), Int32.ofNat (q_num c n (s + 5)).1, if t_nx c n (q_num c n (s + 5)).2 = 33 then 1 else 0) := if_pos e115
    refine P_aloadn (i := 0) rfl rfl dX3_readOrder_35 ?_
    refine P_dup rfl dX3_readOrder_36 ?_
    refine gX3_37 rfl (by first | exact hL.kp | exact hL.kc | exact hL.kn) hk.pt.at_ dX3_readOrder_37 ?_
    refine P_iconst (v := 1) rfl dX3_readOrder_40 ?_
    refine P_iadd dX3_readOrder_41 ?_
    rw [show Int32.ofNat s + 1 = Int32.ofNat (s + 1) from n_succ s]
    refine uX3_37 rfl (by first | exact hL.kp | exact hL.kc | exact hL.kn) dX3_readOrder_42 ?_
    refine P_aloadn (i := 0) rfl rfl dX3_readOrder_45 ?_
    refine P_iconst (v := 0) rfl dX3_readOrder_46 ?_
    refine kX3_56 rfl (g_readNode hp0.pt (i := 0) (by decide)) (by decide) (by first | exact hL.kp | exact hL.kc | exact hL.kn) rfl dX3_readOrder_47 (fun r47 s47 q47 => ?_)
    obtain q47 := q47
    rcases q47 with ⟨e47, rfl, rfl⟩ | ⟨e47, rfl, rfl⟩
    · have hp1 := (hp0.take (t := s + 1 + 1) (t_dg_lt e47)).num (i := 0) (v := Int32.ofNat (t_d c n (s + 1)))
      have hE1 : q_o c n s = k_if c n 33 (k_nu c n (k_sign c n 42 (k_one c n 55 (k_sign c n 62 (s + 1 + 1, false))))) := by rw [hE0, k_one_s, if_pos e47]
      refine P_ifeq dX3_readOrder_50 (tgt := 100) rfl (fun h50 => absurd h50 (by decide)) (fun h50 => ?_)
      refine P_aloadn (i := 0) rfl rfl dX3_readOrder_53 ?_
      refine P_bipush (v := 62) rfl dX3_readOrder_54 ?_
      refine kX3_44 rfl (g_take hp1.pt) (by decide) (by first | exact hL.kp | exact hL.kc | exact hL.kn) rfl dX3_readOrder_56 (fun r56 s56 q56 => ?_)
      obtain q56 := q56
      rcases q56 with ⟨e56, rfl, rfl⟩ | ⟨e56, rfl, rfl⟩
      · have hp2 := hp1.take (t := s + 1 + 1 + 1) (t_nx_lt e56 (by decide))
        have hE2 : q_o c n s = k_if c n 33 (k_nu c n (k_sign c n 42 (k_one c n 55 (s + 1 + 1 + 1, false)))) := by rw [hE1, k_sign_s, if_pos e56]
        refine P_ifeq dX3_readOrder_59 (tgt := 100) rfl (fun h59 => absurd h59 (by decide)) (fun h59 => ?_)
        refine P_aloadn (i := 0) rfl rfl dX3_readOrder_62 ?_
        refine P_iconst (v := 1) rfl dX3_readOrder_63 ?_
        refine kX3_56 rfl (g_readNode hp2.pt (i := 1) (by decide)) (by decide) (by first | exact hL.kp | exact hL.kc | exact hL.kn) rfl dX3_readOrder_64 (fun r64 s64 q64 => ?_)
        obtain q64 := q64
        rcases q64 with ⟨e64, rfl, rfl⟩ | ⟨e64, rfl, rfl⟩
        · have hp3 := (hp2.take (t := s + 1 + 1 + 1 + 1) (t_dg_lt e64)).num (i := 1) (v := Int32.ofNat (t_d c n (s + 1 + 1 + 1)))
          have hE3 : q_o c n s = k_if c n 33 (k_nu c n (k_sign c n 42 (s + 1 + 1 + 1 + 1, false))) := by rw [hE2, k_one_s, if_pos e64]
          refine P_ifeq dX3_readOrder_67 (tgt := 100) rfl (fun h67 => absurd h67 (by decide)) (fun h67 => ?_)
          refine P_aloadn (i := 0) rfl rfl dX3_readOrder_70 ?_
          refine P_bipush (v := 42) rfl dX3_readOrder_71 ?_
          refine kX3_44 rfl (g_take hp3.pt) (by decide) (by first | exact hL.kp | exact hL.kc | exact hL.kn) rfl dX3_readOrder_73 (fun r73 s73 q73 => ?_)
          obtain q73 := q73
          rcases q73 with ⟨e73, rfl, rfl⟩ | ⟨e73, rfl, rfl⟩
          · have hp4 := hp3.take (t := s + 1 + 1 + 1 + 1 + 1) (t_nx_lt e73 (by decide))
            have hE4 : q_o c n s = k_if c n 33 (k_nu c n (s + 1 + 1 + 1 + 1 + 1, false)) := by rw [hE3, k_sign_s, if_pos e73]
            refine P_ifeq dX3_readOrder_76 (tgt := 100) rfl (fun h76 => absurd h76 (by decide)) (fun h76 => ?_)
            refine P_aloadn (i := 0) rfl rfl dX3_readOrder_79 ?_
            refine P_iconst (v := 2) rfl dX3_readOrder_80 ?_
            refine kX3_60 rfl (g_readNumber hp4.pt (i := 2) (by decide)) (by decide) (by first | exact hL.kp | exact hL.kc | exact hL.kn) rfl dX3_readOrder_81 (fun r81 s81 q81 => ?_)
            obtain q81 := q81
            rcases q81 with ⟨e81, rfl, rfl⟩ | ⟨e81, rfl, rfl⟩
            · have hp5 := (hp4.take (t := (q_num c n (s + 1 + 1 + 1 + 1 + 1)).2) (q_more_n 5000 _ _ (t_dg_lt e81))).num (i := 2) (v := Int32.ofNat (q_num c n (s + 1 + 1 + 1 + 1 + 1)).1)
              have hE5 : q_o c n s = k_if c n 33 ((q_num c n (s + 1 + 1 + 1 + 1 + 1)).2, false) := by rw [hE4, k_nu_s, if_pos e81]
              refine P_ifeq dX3_readOrder_84 (tgt := 100) rfl (fun h84 => absurd h84 (by decide)) (fun h84 => ?_)
              refine P_aloadn (i := 0) rfl rfl dX3_readOrder_87 ?_
              refine P_bipush (v := 33) rfl dX3_readOrder_88 ?_
              refine kX3_63 rfl (g_readMark hp5.pt) (by decide) (by first | exact hL.kp | exact hL.kc | exact hL.kn) rfl dX3_readOrder_90 (fun r90 s90 q90 => ?_)
              obtain ⟨rfl, rfl⟩ := q90
              by_cases e90 : t_nx c n ((q_num c n (s + 1 + 1 + 1 + 1 + 1)).2) = 33
              · rw [if_pos e90, if_pos e90]
                have hp6 := (hp5.take (t := (q_num c n (s + 1 + 1 + 1 + 1 + 1)).2 + 1) (t_nx_lt e90 (by decide))).mark (v := 1)
                have hE6 : q_o c n s = ((q_num c n (s + 1 + 1 + 1 + 1 + 1)).2 + 1, false) := by rw [hE5, k_if_s, if_pos e90]
                refine P_ifeq dX3_readOrder_93 (tgt := 100) rfl (fun h93 => absurd h93 (by decide)) (fun h93 => ?_)
                refine P_iconst (v := 1) rfl dX3_readOrder_96 ?_
                refine P_goto dX3_readOrder_97 (tgt := 101) rfl ?_
                refine P_zreturn rfl (by first | exact Or.inl rfl | exact Or.inr rfl | assumption) dX3_readOrder_101 ?_
                exact ⟨_, _, rfl, hp6.1, by rw [hE6]; exact hp6.pt, Or.inl ⟨congrArg Prod.snd hE6, rfl, by rw [hT]; exact ⟨hp6.2.2.1.trans e0, hp6.2.2.2 0 (by decide), fun _ => ⟨hp6.2.2.2 1 (by decide), hp6.2.2.2 2 (by decide), (p_up_eq _ _ _ _).trans (if_pos e90).symm⟩⟩⟩⟩
              · rw [if_neg e90, if_neg e90]
                have hp6 := hp5.mark (v := 0)
                have hE6 : q_o c n s = ((q_num c n (s + 1 + 1 + 1 + 1 + 1)).2, false) := by rw [hE5, k_if_s, if_neg e90]
                refine P_ifeq dX3_readOrder_93 (tgt := 100) rfl (fun h93 => absurd h93 (by decide)) (fun h93 => ?_)
                refine P_iconst (v := 1) rfl dX3_readOrder_96 ?_
                refine P_goto dX3_readOrder_97 (tgt := 101) rfl ?_
                refine P_zreturn rfl (by first | exact Or.inl rfl | exact Or.inr rfl | assumption) dX3_readOrder_101 ?_
                exact ⟨_, _, rfl, hp6.1, by rw [hE6]; exact hp6.pt, Or.inl ⟨congrArg Prod.snd hE6, rfl, by rw [hT]; exact ⟨hp6.2.2.1.trans e0, hp6.2.2.2 0 (by decide), fun _ => ⟨hp6.2.2.2 1 (by decide), hp6.2.2.2 2 (by decide), (p_up_eq _ _ _ _).trans (if_neg e90).symm⟩⟩⟩⟩
            · have hpz := hp4.num (i := 2) (v := 0)
              have hEz : q_o c n s = (s + 1 + 1 + 1 + 1 + 1, true) := by rw [hE4, k_nu_s, if_neg e81, k_if_t]
              refine P_ifeq dX3_readOrder_84 (tgt := 100) rfl (fun h84 => ?_) (fun h84 => absurd rfl h84)
              refine P_iconst (v := 0) rfl dX3_readOrder_100 ?_
              refine P_zreturn rfl (by first | exact Or.inl rfl | exact Or.inr rfl | assumption) dX3_readOrder_101 ?_
              exact ⟨_, _, rfl, hpz.1, by rw [hEz]; exact hpz.pt, Or.inr ⟨congrArg Prod.snd hEz, rfl⟩⟩
          · have hEz : q_o c n s = (s + 1 + 1 + 1 + 1, true) := by rw [hE3, k_sign_s, if_neg e73, k_nu_t, k_if_t]
            refine P_ifeq dX3_readOrder_76 (tgt := 100) rfl (fun h76 => ?_) (fun h76 => absurd rfl h76)
            refine P_iconst (v := 0) rfl dX3_readOrder_100 ?_
            refine P_zreturn rfl (by first | exact Or.inl rfl | exact Or.inr rfl | assumption) dX3_readOrder_101 ?_
            exact ⟨_, _, rfl, hp3.1, by rw [hEz]; exact hp3.pt, Or.inr ⟨congrArg Prod.snd hEz, rfl⟩⟩
        · have hEz : q_o c n s = (s + 1 + 1 + 1, true) := by rw [hE2, k_one_s, if_neg e64, k_sign_t, k_nu_t, k_if_t]
          refine P_ifeq dX3_readOrder_67 (tgt := 100) rfl (fun h67 => ?_) (fun h67 => absurd rfl h67)
          refine P_iconst (v := 0) rfl dX3_readOrder_100 ?_
          refine P_zreturn rfl (by first | exact Or.inl rfl | exact Or.inr rfl | assumption) dX3_readOrder_101 ?_
          exact ⟨_, _, rfl, hp2.1, by rw [hEz]; exact hp2.pt, Or.inr ⟨congrArg Prod.snd hEz, rfl⟩⟩
      · have hEz : q_o c n s = (s + 1 + 1, true) := by rw [hE1, k_sign_s, if_neg e56, k_one_t, k_sign_t, k_nu_t, k_if_t]
        refine P_ifeq dX3_readOrder_59 (tgt := 100) rfl (fun h59 => ?_) (fun h59 => absurd rfl h59)
        refine P_iconst (v := 0) rfl dX3_readOrder_100 ?_
        refine P_zreturn rfl (by first | exact Or.inl rfl | exact Or.inr rfl | assumption) dX3_readOrder_101 ?_
        exact ⟨_, _, rfl, hp1.1, by rw [hEz]; exact hp1.pt, Or.inr ⟨congrArg Prod.snd hEz, rfl⟩⟩
    · have hEz : q_o c n s = (s + 1, true) := by rw [hE0, k_one_s, if_neg e47, k_sign_t, k_one_t, k_sign_t, k_nu_t, k_if_t]
      refine P_ifeq dX3_readOrder_50 (tgt := 100) rfl (fun h50 => ?_) (fun h50 => absurd rfl h50)
      refine P_iconst (v := 0) rfl dX3_readOrder_100 ?_
      refine P_zreturn rfl (by first | exact Or.inl rfl | exact Or.inr rfl | assumption) dX3_readOrder_101 ?_
      exact ⟨_, _, rfl, hp0.1, by rw [hEz]; exact hp0.pt, Or.inr ⟨congrArg Prod.snd hEz, rfl⟩⟩
theorem g_readOrder (h : PT L FI AI x c n s) : Sp g 3 iX3_readOrder [vr (x + 5765)] (L, FI, AI, AL, AR) (0, 0) (fun r σ => (¬ (0 < s ∧ ¬ t_nx c n s = 59) ∧ QRO L FI AI AL AR x c n (if 0 < s then s + 1 else s) r σ) ∨ ((0 < s ∧ ¬ t_nx c n s = 59) ∧ r = some (vi 0) ∧ σ = (L, FI, AI, AL, AR))) := by
  refine Sp.of (ls := [some (vr (x + 5765))]) (by decide +kernel) rfl rfl ?_
  have hL := h.hl
  have hn80 := h.n80
  have hsn := h.le
  have hr : PR L FI AI x c n FI AI s (FI 99 (x + 5765)) (fun j => AI (x + 5767) j) := ⟨c_rd.rf, h, rfl, fun _ _ => rfl⟩
  refine P_aloadn (i := 0) rfl rfl dX3_readOrder_0 ?_
  refine gX3_37 rfl (by first | exact hL.kp | exact hL.kc | exact hL.kn) h.at_ dX3_readOrder_1 ?_
  refine P_ifle dX3_readOrder_4 (tgt := 18) rfl (fun h4 => ?_) (fun h4 => ?_)
  · have hs0 : ¬ 0 < s := by
      have h7 := (n_le (a := s) (b := 0) (by omega) (by decide)).mp h4
      omega
    refine P.mono (fun r σ hq => Or.inl ⟨fun hh => hs0 hh.1, ?_⟩) (c_rO hr)
    rw [if_neg hs0]
    exact hq
  · have hs0 : 0 < s := Decidable.byContradiction fun hh => h4 ((n_le (a := s) (b := 0) (by omega) (by decide)).mpr (by omega))
    refine P_aloadn (i := 0) rfl rfl dX3_readOrder_7 ?_
    refine P_bipush (v := 59) rfl dX3_readOrder_8 ?_
    refine kX3_44 rfl (g_take h) (by decide) (by first | exact hL.kp | exact hL.kc | exact hL.kn) rfl dX3_readOrder_10 (fun r10 s10 q10 => ?_)
    obtain q10 := q10
    rcases q10 with ⟨e, rfl, rfl⟩ | ⟨e, rfl, rfl⟩
    · refine P_ifne dX3_readOrder_13 (tgt := 18) rfl (fun h13 => ?_) (fun h13 => absurd h13 (by decide))
      refine P.mono (fun r σ hq => Or.inl ⟨fun hh => hh.2 e, ?_⟩) (c_rO (hr.take (t := s + 1) (t_nx_lt e (by decide))))
      rw [if_pos hs0]
      exact hq
    · refine P_ifne dX3_readOrder_13 (tgt := 18) rfl (fun h13 => absurd h13 (fun hh => hh rfl)) (fun h13 => ?_)
      refine P_iconst (v := 0) rfl dX3_readOrder_16 ?_
      refine P_zreturn rfl (by first | exact Or.inl rfl | exact Or.inr rfl | assumption) dX3_readOrder_17 ?_
      exact Or.inr ⟨⟨hs0, e⟩, rfl, rfl⟩
end Cls36
