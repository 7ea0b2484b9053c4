theorem c_dig {v : Int32} (h : ib v 256) {a : Int32} {b : Nat} (hb : b ≤ 9) (ha : a = Int32.ofNat (48 + b)) : ((0 : Int32) ≤ v - 48 ∧ v - 48 ≤ Int32.ofNat b) ↔ ((48 : Int32) ≤ v ∧ v ≤ a) := by
  have h1 := h.1
  have h2 := h.2
  subst ha
  have e : (v - 48).toInt = v.toInt - 48 := by
    rw [i_sub' (by simp only [Int32.reduceToInt]; omega) (by simp only [Int32.reduceToInt]; omega)]
    rfl
  simp only [Int32.le_iff_toInt_le, e, n_int (show b < 2147483648 by omega), n_int (show 48 + b < 2147483648 by omega), Int32.reduceToInt]
  omega
theorem c_dig_n {v : Int32} (h : (0 : Int32) ≤ v - 48) : v - 48 = Int32.ofNat (nn (v - 48)) := (Int32.ofNat_toNatClampNeg (v - 48) h).symm
theorem p_up_same {α : Type} {f : Nat → Nat → α} {i j : Nat} {v : α} (h : f i j = v) : p_up f i j v = f := by
  funext a b
  unfold p_up
  split
  · rename_i e; rw [e.1, e.2]; exact h.symm
  · rfl
theorem c_d9 {v : Int32} (h : ib v 256) (hd : (0 : Int32) ≤ v - 48 ∧ v - 48 ≤ 9) : nn (v - 48) ≤ 9 := by
  obtain ⟨h1, h2, h3⟩ := in_nn (a := 0) (b := 9) (by decide) (by decide) hd
  exact h2
theorem t_dg_lt {c : Nat → Int32} {n s : Nat} {h : Int32} (e : t_dg c n h s = true) : s < n := Decidable.byContradiction fun hh => by
  have h1 := of_decide_eq_true e
  rw [show t_nx c n s = 0 from if_neg hh] at h1
  exact absurd h1.1 (by decide)
section Cls34
variable {g : PG} {L : PL} {FI AI : Nat → Nat → Int32} {AL : Nat → Nat → Int64} {AR : Nat → Nat → Option Nat} {x : Nat} {c : Nat → Int32} {n s i : Nat}

theorem g_readNode (h : PT L FI AI x c n s) (hi : i < 3) : Sp g 1 iX3_readNode [vr (x + 5765), vi (Int32.ofNat i)] (L, FI, AI, AL, AR) (0, 0) (fun r σ => (t_dg c n 55 s = true ∧ r = some (vi 1) ∧ σ = (L, p_up FI 98 (x + 5765) (Int32.ofNat (s + 1)), p_up AI (x + 5767) i (Int32.ofNat (t_d c n s)), AL, AR)) ∨ (¬ t_dg c n 55 s = true ∧ r = some (vi 0) ∧ σ = (L, FI, AI, AL, AR))) := by
  refine Sp.of (ls := [some (vr (x + 5765)), some (vi (Int32.ofNat i)), none]) (by decide +kernel) rfl rfl ?_
  have hn80 := h.n80
  have hsn := h.le
  refine P_aloadn (i := 0) rfl rfl dX3_readNode_0 ?_
  refine kX3_48 rfl (g_here h) (by decide) (by first | exact h.hl.kp | exact h.hl.kc | exact h.hl.kn) rfl dX3_readNode_1 (fun r1 s1 q1 => ?_)
  obtain ⟨rfl, rfl⟩ := q1
  refine P_bipush (v := 48) rfl dX3_readNode_4 ?_
  refine P_isub dX3_readNode_6 ?_
  refine P_is2 (Or.inl dX3_readNode_7) rfl rfl ?_
  refine P_iloadn (i := 2) rfl rfl dX3_readNode_8 ?_
  refine P_iconst (v := 0) rfl dX3_readNode_9 ?_
  refine P_bipush (v := 7) rfl dX3_readNode_10 ?_
  refine kX3_21 rfl s_X7_isWithin (by decide) rfl dX3_readNode_12 (fun r12 s12 q12 => ?_)
  obtain ⟨rfl, rfl⟩ := q12
  refine P_ifne dX3_readNode_15 (tgt := 20) rfl (fun h15 => ?_) (fun h15 => ?_)
  · have hd := b_t h15
    have hdg : t_dg c n 55 s = true := decide_eq_true ((c_dig (h.nx (t := s)) (b := 7) (by decide) rfl).mp hd)
    refine P_aloadn (i := 0) rfl rfl dX3_readNode_20 ?_
    refine gX3_15 rfl (by first | exact h.hl.kp | exact h.hl.kc | exact h.hl.kn) h.hl.r100 dX3_readNode_21 ?_
    refine P_iloadn (i := 1) rfl rfl dX3_readNode_24 ?_
    refine P_iloadn (i := 2) rfl rfl dX3_readNode_25 ?_
    refine P_isN (j := i) (by first | exact h.hl.kp | exact h.hl.kc | exact h.hl.kn) rfl (by omega) (by rw [h.hl.ln]; exact hi) dX3_readNode_26 ?_
    refine P_aloadn (i := 0) rfl rfl dX3_readNode_27 ?_
    refine P_dup rfl dX3_readNode_28 ?_
    refine gX3_37 rfl (by first | exact h.hl.kp | exact h.hl.kc | exact h.hl.kn) h.at_ dX3_readNode_29 ?_
    refine P_iconst (v := 1) rfl dX3_readNode_32 ?_
    refine P_iadd dX3_readNode_33 ?_
    rw [show Int32.ofNat s + 1 = Int32.ofNat (s + 1) from n_succ s]
    refine uX3_37 rfl (by first | exact h.hl.kp | exact h.hl.kc | exact h.hl.kn) dX3_readNode_34 ?_
    refine P_iconst (v := 1) rfl dX3_readNode_37 ?_
    refine P_zreturn rfl (by first | exact Or.inl rfl | exact Or.inr rfl | assumption) dX3_readNode_38 ?_
    rw [c_dig_n hd.1]
    exact Or.inl ⟨hdg, rfl, rfl⟩
  · have hdg : ¬ t_dg c n 55 s = true := fun hh => b_f h15 ((c_dig (h.nx (t := s)) (b := 7) (by decide) rfl).mpr (of_decide_eq_true hh))
    refine P_iconst (v := 0) rfl dX3_readNode_18 ?_
    refine P_zreturn rfl (by first | exact Or.inl rfl | exact Or.inr rfl | assumption) dX3_readNode_19 ?_
    exact Or.inr ⟨hdg, rfl, rfl⟩
theorem g_readNumber (h : PT L FI AI x c n s) (hi : i < 3) : Sp g 2 iX3_readNumber [vr (x + 5765), vi (Int32.ofNat i)] (L, FI, AI, AL, AR) (0, 0) (fun r σ => (t_dg c n 57 s = true ∧ r = some (vi 1) ∧ σ = (L, p_up FI 98 (x + 5765) (Int32.ofNat (q_num c n s).2), p_up AI (x + 5767) i (Int32.ofNat (q_num c n s).1), AL, AR)) ∨ (¬ t_dg c n 57 s = true ∧ r = some (vi 0) ∧ σ = (L, FI, p_up AI (x + 5767) i 0, AL, AR))) := by
  refine Sp.of (ls := [some (vr (x + 5765)), some (vi (Int32.ofNat i)), none, none, none, none]) (by decide +kernel) rfl rfl ?_
  have hn80 := h.n80
  have hsn := h.le
  have J : ∀ k p F v : Nat, p + k = n → k < F → s < p → v ≤ 4999 → q_num c n s = q_more c n F v p → t_dg c n 57 s = true → P g 2 iX3_readNumber 7 [some (vr (x + 5765)), some (vi (Int32.ofNat i)), some (vi (Int32.ofNat s)), some (vi (Int32.ofNat v)), none, none] [] (L, p_up FI 98 (x + 5765) (Int32.ofNat p), AI, AL, AR) (0, 0) (fun r σ => (t_dg c n 57 s = true ∧ r = some (vi 1) ∧ σ = (L, p_up FI 98 (x + 5765) (Int32.ofNat (q_num c n s).2), p_up AI (x + 5767) i (Int32.ofNat (q_num c n s).1), AL, AR)) ∨ (¬ t_dg c n 57 s = true ∧ r = some (vi 0) ∧ σ = (L, FI, p_up AI (x + 5767) i 0, AL, AR))) := by
    intro k
    induction k with
    | zero =>
      intro p F v hp hF hs hv hq hd0
      obtain ⟨F, rfl⟩ : ∃ F1, F = F1 + 1 := ⟨F - 1, by omega⟩
      have h2 : PT L (p_up FI 98 (x + 5765) (Int32.ofNat p)) AI x c n p := h.up (p_up_n1 _ _ _ _ (by decide)) rfl (p_up_eq _ _ _ _) (by omega)
      refine P_aloadn (i := 0) rfl rfl dX3_readNumber_7 ?_
      refine gX3_37 rfl (by first | exact h2.hl.kp | exact h2.hl.kc | exact h2.hl.kn) h2.at_ dX3_readNumber_8 ?_
      refine P_aloadn (i := 0) rfl rfl dX3_readNumber_11 ?_
      refine gX3_29 rfl (by first | exact h2.hl.kp | exact h2.hl.kc | exact h2.hl.kn) h2.pn dX3_readNumber_12 ?_
      refine P_icmpge dX3_readNumber_15 (tgt := 99) rfl (fun h15 => ?_) (fun h15 => absurd ((n_le (a := n) (b := p) (by omega) (by omega)).mpr (by omega)) h15)
      refine P_aloadn (i := 0) rfl rfl dX3_readNumber_99 ?_
      refine gX3_15 rfl (by first | exact h2.hl.kp | exact h2.hl.kc | exact h2.hl.kn) h2.hl.r100 dX3_readNumber_100 ?_
      refine P_iloadn (i := 1) rfl rfl dX3_readNumber_103 ?_
      refine P_iloadn (i := 3) rfl rfl dX3_readNumber_104 ?_
      refine P_isN (j := i) (by first | exact h2.hl.kp | exact h2.hl.kc | exact h2.hl.kn) rfl (by omega) (by rw [h2.hl.ln]; exact hi) dX3_readNumber_105 ?_
      refine P_aloadn (i := 0) rfl rfl dX3_readNumber_106 ?_
      refine gX3_37 rfl (by first | exact h2.hl.kp | exact h2.hl.kc | exact h2.hl.kn) h2.at_ dX3_readNumber_107 ?_
      refine P_iloadn (i := 2) rfl rfl dX3_readNumber_110 ?_
      refine P_icmple dX3_readNumber_111 (tgt := 118) rfl (fun h111 => absurd h111 (fun h8 => by have h7 := (n_le (a := p) (b := s) (by omega) (by omega)).mp h8; omega)) (fun h111 => ?_)
      refine P_iconst (v := 1) rfl dX3_readNumber_114 ?_
      refine P_goto dX3_readNumber_115 (tgt := 119) rfl ?_
      refine P_zreturn rfl (by first | exact Or.inl rfl | exact Or.inr rfl | assumption) dX3_readNumber_119 ?_
      rw [hq, show q_more c n (F + 1) v p = (v, p) from if_neg (fun hh => by have h9 := t_dg_lt hh.2.1; omega)]
      exact Or.inl ⟨hd0, rfl, rfl⟩
    | succ k ih =>
      intro p F v hp hF hs hv hq hd0
      obtain ⟨F, rfl⟩ : ∃ F1, F = F1 + 1 := ⟨F - 1, by omega⟩
      have h2 : PT L (p_up FI 98 (x + 5765) (Int32.ofNat p)) AI x c n p := h.up (p_up_n1 _ _ _ _ (by decide)) rfl (p_up_eq _ _ _ _) (by omega)
      refine P_aloadn (i := 0) rfl rfl dX3_readNumber_7 ?_
      refine gX3_37 rfl (by first | exact h2.hl.kp | exact h2.hl.kc | exact h2.hl.kn) h2.at_ dX3_readNumber_8 ?_
      refine P_aloadn (i := 0) rfl rfl dX3_readNumber_11 ?_
      refine gX3_29 rfl (by first | exact h2.hl.kp | exact h2.hl.kc | exact h2.hl.kn) h2.pn dX3_readNumber_12 ?_
      refine P_icmpge dX3_readNumber_15 (tgt := 99) rfl (fun h15 => absurd h15 (fun h8 => by have h7 := (n_le (a := n) (b := p) (by omega) (by omega)).mp h8; omega)) (fun h15 => ?_)
      refine P_aloadn (i := 0) rfl rfl dX3_readNumber_18 ?_
      refine kX3_48 rfl (g_here h2) (by decide) (by first | exact h2.hl.kp | exact h2.hl.kc | exact h2.hl.kn) rfl dX3_readNumber_19 (fun r19 s19 q19 => ?_)
      obtain ⟨rfl, rfl⟩ := q19
      refine P_bipush (v := 48) rfl dX3_readNumber_22 ?_
      refine P_isub dX3_readNumber_24 ?_
      refine P_is4 (Or.inr dX3_readNumber_25) rfl rfl ?_
      refine P_aloadn (i := 0) rfl rfl dX3_readNumber_27 ?_
      refine gX3_37 rfl (by first | exact h2.hl.kp | exact h2.hl.kc | exact h2.hl.kn) h2.at_ dX3_readNumber_28 ?_
      refine P_iloadn (i := 2) rfl rfl dX3_readNumber_31 ?_
      refine P_icmple dX3_readNumber_32 (tgt := 43) rfl (fun h32 => absurd h32 (fun h8 => by have h7 := (n_le (a := p) (b := s) (by omega) (by omega)).mp h8; omega)) (fun h32 => ?_)
      refine P_iloadn (i := 3) rfl rfl dX3_readNumber_35 ?_
      refine P_ifne dX3_readNumber_36 (tgt := 43) rfl (fun h36 => ?_) (fun h36 => ?_)
      · refine P_iconst (v := 0) rfl dX3_readNumber_43 ?_
        refine P_is5 (Or.inr dX3_readNumber_44) rfl rfl ?_
        refine P_iload (i := 4) rfl dX3_readNumber_46 ?_
        refine P_iconst (v := 0) rfl dX3_readNumber_48 ?_
        refine P_bipush (v := 9) rfl dX3_readNumber_49 ?_
        refine kX3_21 rfl s_X7_isWithin (by decide) rfl dX3_readNumber_51 (fun r51 s51 q51 => ?_)
        obtain ⟨rfl, rfl⟩ := q51
        refine P_ifeq dX3_readNumber_54 (tgt := 99) rfl (fun h54 => ?_) (fun h54 => ?_)
        · refine P_aloadn (i := 0) rfl rfl dX3_readNumber_99 ?_
          refine gX3_15 rfl (by first | exact h2.hl.kp | exact h2.hl.kc | exact h2.hl.kn) h2.hl.r100 dX3_readNumber_100 ?_
          refine P_iloadn (i := 1) rfl rfl dX3_readNumber_103 ?_
          refine P_iloadn (i := 3) rfl rfl dX3_readNumber_104 ?_
          refine P_isN (j := i) (by first | exact h2.hl.kp | exact h2.hl.kc | exact h2.hl.kn) rfl (by omega) (by rw [h2.hl.ln]; exact hi) dX3_readNumber_105 ?_
          refine P_aloadn (i := 0) rfl rfl dX3_readNumber_106 ?_
          refine gX3_37 rfl (by first | exact h2.hl.kp | exact h2.hl.kc | exact h2.hl.kn) h2.at_ dX3_readNumber_107 ?_
          refine P_iloadn (i := 2) rfl rfl dX3_readNumber_110 ?_
          refine P_icmple dX3_readNumber_111 (tgt := 118) rfl (fun h111 => absurd h111 (fun h8 => by have h7 := (n_le (a := p) (b := s) (by omega) (by omega)).mp h8; omega)) (fun h111 => ?_)
          refine P_iconst (v := 1) rfl dX3_readNumber_114 ?_
          refine P_goto dX3_readNumber_115 (tgt := 119) rfl ?_
          refine P_zreturn rfl (by first | exact Or.inl rfl | exact Or.inr rfl | assumption) dX3_readNumber_119 ?_
          rw [hq, show q_more c n (F + 1) v p = (v, p) from if_neg (fun hh => b_f h54 ((c_dig (h2.nx (t := p)) (b := 9) (by decide) rfl).mpr (of_decide_eq_true hh.2.1)))]
          exact Or.inl ⟨hd0, rfl, rfl⟩
        · have hd := b_t h54
          have hdg : t_dg c n 57 p = true := decide_eq_true ((c_dig (h2.nx (t := p)) (b := 9) (by decide) rfl).mp hd)
          have hdd : t_nx c n p - 48 = Int32.ofNat (t_d c n p) := c_dig_n hd.1
          have hd9 : t_d c n p ≤ 9 := c_d9 (h2.nx (t := p)) hd
          refine P_iload (i := 5) rfl dX3_readNumber_57 ?_
          refine P_ifne dX3_readNumber_59 (tgt := 99) rfl (fun h59 => ?_) (fun h59 => ?_)
          · exact absurd rfl h59
          · refine P_iloadn (i := 3) rfl rfl dX3_readNumber_62 ?_
            refine P_bipush (v := 10) rfl dX3_readNumber_63 ?_
            refine P_imul dX3_readNumber_65 ?_
            refine P_iload (i := 4) rfl dX3_readNumber_66 ?_
            refine P_iadd dX3_readNumber_68 ?_
            rw [show Int32.ofNat v * 10 = Int32.ofNat (v * 10) from n_mul v 10, hdd, n_add]
            refine P_sipush (v := 4999) rfl dX3_readNumber_69 ?_
            refine P_icmple dX3_readNumber_72 (tgt := 78) rfl (fun h72 => ?_) (fun h72 => ?_)
            · have hle := (n_le (a := v * 10 + t_d c n p) (b := 4999) (by omega) (by decide)).mp h72
              refine P_iloadn (i := 3) rfl rfl dX3_readNumber_78 ?_
              refine P_bipush (v := 10) rfl dX3_readNumber_79 ?_
              refine P_imul dX3_readNumber_81 ?_
              refine P_iload (i := 4) rfl dX3_readNumber_82 ?_
              refine P_iadd dX3_readNumber_84 ?_
              rw [show Int32.ofNat v * 10 = Int32.ofNat (v * 10) from n_mul v 10, n_add]
              refine P_is3 (Or.inl dX3_readNumber_85) rfl rfl ?_
              refine P_aloadn (i := 0) rfl rfl dX3_readNumber_86 ?_
              refine P_dup rfl dX3_readNumber_87 ?_
              refine gX3_37 rfl (by first | exact h2.hl.kp | exact h2.hl.kc | exact h2.hl.kn) h2.at_ dX3_readNumber_88 ?_
              refine P_iconst (v := 1) rfl dX3_readNumber_91 ?_
              refine P_iadd dX3_readNumber_92 ?_
              rw [show Int32.ofNat p + 1 = Int32.ofNat (p + 1) from n_succ p]
              refine uX3_37 rfl (by first | exact h2.hl.kp | exact h2.hl.kc | exact h2.hl.kn) dX3_readNumber_93 ?_
              refine P_goto dX3_readNumber_96 (tgt := 7) rfl ?_
              rw [p_up_up]
              refine P_few (ls2 := [some (vr (x + 5765)), some (vi (Int32.ofNat i)), some (vi (Int32.ofNat s)), some (vi (Int32.ofNat (v * 10 + t_d c n p))), none, none]) ⟨rfl, rfl, rfl, rfl, trivial⟩ ?_
              exact ih (p + 1) F (v * 10 + t_d c n p) (by omega) (by omega) (by omega) hle (hq.trans (if_pos ⟨fun hh => h36 (by rw [hh]; rfl), hdg, hle⟩)) hd0
            · refine P_goto dX3_readNumber_75 (tgt := 99) rfl ?_
              refine P_aloadn (i := 0) rfl rfl dX3_readNumber_99 ?_
              refine gX3_15 rfl (by first | exact h2.hl.kp | exact h2.hl.kc | exact h2.hl.kn) h2.hl.r100 dX3_readNumber_100 ?_
              refine P_iloadn (i := 1) rfl rfl dX3_readNumber_103 ?_
              refine P_iloadn (i := 3) rfl rfl dX3_readNumber_104 ?_
              refine P_isN (j := i) (by first | exact h2.hl.kp | exact h2.hl.kc | exact h2.hl.kn) rfl (by omega) (by rw [h2.hl.ln]; exact hi) dX3_readNumber_105 ?_
              refine P_aloadn (i := 0) rfl rfl dX3_readNumber_106 ?_
              refine gX3_37 rfl (by first | exact h2.hl.kp | exact h2.hl.kc | exact h2.hl.kn) h2.at_ dX3_readNumber_107 ?_
              refine P_iloadn (i := 2) rfl rfl dX3_readNumber_110 ?_
              refine P_icmple dX3_readNumber_111 (tgt := 118) rfl (fun h111 => absurd h111 (fun h8 => by have h7 := (n_le (a := p) (b := s) (by omega) (by omega)).mp h8; omega)) (fun h111 => ?_)
              refine P_iconst (v := 1) rfl dX3_readNumber_114 ?_
              refine P_goto dX3_readNumber_115 (tgt := 119) rfl ?_
              refine P_zreturn rfl (by first | exact Or.inl rfl | exact Or.inr rfl | assumption) dX3_readNumber_119 ?_
              rw [hq, show q_more c n (F + 1) v p = (v, p) from if_neg (fun hh => h72 ((n_le (a := v * 10 + t_d c n p) (b := 4999) (by omega) (by decide)).mpr hh.2.2))]
              exact Or.inl ⟨hd0, rfl, rfl⟩
      · refine P_iconst (v := 1) rfl dX3_readNumber_39 ?_
        refine P_goto dX3_readNumber_40 (tgt := 44) rfl ?_
        refine P_is5 (Or.inr dX3_readNumber_44) rfl rfl ?_
        refine P_iload (i := 4) rfl dX3_readNumber_46 ?_
        refine P_iconst (v := 0) rfl dX3_readNumber_48 ?_
        refine P_bipush (v := 9) rfl dX3_readNumber_49 ?_
        refine kX3_21 rfl s_X7_isWithin (by decide) rfl dX3_readNumber_51 (fun r51 s51 q51 => ?_)
        obtain ⟨rfl, rfl⟩ := q51
        refine P_ifeq dX3_readNumber_54 (tgt := 99) rfl (fun h54 => ?_) (fun h54 => ?_)
        · refine P_aloadn (i := 0) rfl rfl dX3_readNumber_99 ?_
          refine gX3_15 rfl (by first | exact h2.hl.kp | exact h2.hl.kc | exact h2.hl.kn) h2.hl.r100 dX3_readNumber_100 ?_
          refine P_iloadn (i := 1) rfl rfl dX3_readNumber_103 ?_
          refine P_iloadn (i := 3) rfl rfl dX3_readNumber_104 ?_
          refine P_isN (j := i) (by first | exact h2.hl.kp | exact h2.hl.kc | exact h2.hl.kn) rfl (by omega) (by rw [h2.hl.ln]; exact hi) dX3_readNumber_105 ?_
          refine P_aloadn (i := 0) rfl rfl dX3_readNumber_106 ?_
          refine gX3_37 rfl (by first | exact h2.hl.kp | exact h2.hl.kc | exact h2.hl.kn) h2.at_ dX3_readNumber_107 ?_
          refine P_iloadn (i := 2) rfl rfl dX3_readNumber_110 ?_
          refine P_icmple dX3_readNumber_111 (tgt := 118) rfl (fun h111 => absurd h111 (fun h8 => by have h7 := (n_le (a := p) (b := s) (by omega) (by omega)).mp h8; omega)) (fun h111 => ?_)
          refine P_iconst (v := 1) rfl dX3_readNumber_114 ?_
          refine P_goto dX3_readNumber_115 (tgt := 119) rfl ?_
          refine P_zreturn rfl (by first | exact Or.inl rfl | exact Or.inr rfl | assumption) dX3_readNumber_119 ?_
          rw [hq, show q_more c n (F + 1) v p = (v, p) from if_neg (fun hh => b_f h54 ((c_dig (h2.nx (t := p)) (b := 9) (by decide) rfl).mpr (of_decide_eq_true hh.2.1)))]
          exact Or.inl ⟨hd0, rfl, rfl⟩
        · have hd := b_t h54
          have hdg : t_dg c n 57 p = true := decide_eq_true ((c_dig (h2.nx (t := p)) (b := 9) (by decide) rfl).mp hd)
          have hdd : t_nx c n p - 48 = Int32.ofNat (t_d c n p) := c_dig_n hd.1
          have hd9 : t_d c n p ≤ 9 := c_d9 (h2.nx (t := p)) hd
          refine P_iload (i := 5) rfl dX3_readNumber_57 ?_
          refine P_ifne dX3_readNumber_59 (tgt := 99) rfl (fun h59 => ?_) (fun h59 => ?_)
          · refine P_aloadn (i := 0) rfl rfl dX3_readNumber_99 ?_
            refine gX3_15 rfl (by first | exact h2.hl.kp | exact h2.hl.kc | exact h2.hl.kn) h2.hl.r100 dX3_readNumber_100 ?_
            refine P_iloadn (i := 1) rfl rfl dX3_readNumber_103 ?_
            refine P_iloadn (i := 3) rfl rfl dX3_readNumber_104 ?_
            refine P_isN (j := i) (by first | exact h2.hl.kp | exact h2.hl.kc | exact h2.hl.kn) rfl (by omega) (by rw [h2.hl.ln]; exact hi) dX3_readNumber_105 ?_
            refine P_aloadn (i := 0) rfl rfl dX3_readNumber_106 ?_
            refine gX3_37 rfl (by first | exact h2.hl.kp | exact h2.hl.kc | exact h2.hl.kn) h2.at_ dX3_readNumber_107 ?_
            refine P_iloadn (i := 2) rfl rfl dX3_readNumber_110 ?_
            refine P_icmple dX3_readNumber_111 (tgt := 118) rfl (fun h111 => absurd h111 (fun h8 => by have h7 := (n_le (a := p) (b := s) (by omega) (by omega)).mp h8; omega)) (fun h111 => ?_)
            refine P_iconst (v := 1) rfl dX3_readNumber_114 ?_
            refine P_goto dX3_readNumber_115 (tgt := 119) rfl ?_
            refine P_zreturn rfl (by first | exact Or.inl rfl | exact Or.inr rfl | assumption) dX3_readNumber_119 ?_
            rw [hq, show q_more c n (F + 1) v p = (v, p) from if_neg (fun hh => hh.1 ((n_eqz (by omega)).mp h36))]
            exact Or.inl ⟨hd0, rfl, rfl⟩
          · exact absurd h59 (by decide)
  refine P_aloadn (i := 0) rfl rfl dX3_readNumber_0 ?_
  refine gX3_37 rfl (by first | exact h.hl.kp | exact h.hl.kc | exact h.hl.kn) h.at_ dX3_readNumber_1 ?_
  refine P_is2 (Or.inl dX3_readNumber_4) rfl rfl ?_
  refine P_iconst (v := 0) rfl dX3_readNumber_5 ?_
  refine P_is3 (Or.inl dX3_readNumber_6) rfl rfl ?_
  refine P_aloadn (i := 0) rfl rfl dX3_readNumber_7 ?_
  refine gX3_37 rfl (by first | exact h.hl.kp | exact h.hl.kc | exact h.hl.kn) h.at_ dX3_readNumber_8 ?_
  refine P_aloadn (i := 0) rfl rfl dX3_readNumber_11 ?_
  refine gX3_29 rfl (by first | exact h.hl.kp | exact h.hl.kc | exact h.hl.kn) h.pn dX3_readNumber_12 ?_
  refine P_icmpge dX3_readNumber_15 (tgt := 99) rfl (fun h15 => ?_) (fun h15 => ?_)
  · refine P_aloadn (i := 0) rfl rfl dX3_readNumber_99 ?_
    refine gX3_15 rfl (by first | exact h.hl.kp | exact h.hl.kc | exact h.hl.kn) h.hl.r100 dX3_readNumber_100 ?_
    refine P_iloadn (i := 1) rfl rfl dX3_readNumber_103 ?_
    refine P_iloadn (i := 3) rfl rfl dX3_readNumber_104 ?_
    refine P_isN (j := i) (by first | exact h.hl.kp | exact h.hl.kc | exact h.hl.kn) rfl (by omega) (by rw [h.hl.ln]; exact hi) dX3_readNumber_105 ?_
    refine P_aloadn (i := 0) rfl rfl dX3_readNumber_106 ?_
    refine gX3_37 rfl (by first | exact h.hl.kp | exact h.hl.kc | exact h.hl.kn) h.at_ dX3_readNumber_107 ?_
    refine P_iloadn (i := 2) rfl rfl dX3_readNumber_110 ?_
    refine P_icmple dX3_readNumber_111 (tgt := 118) rfl (fun h111 => ?_) (fun h111 => absurd ((n_le (a := s) (b := s) (by omega) (by omega)).mpr (Nat.le_refl _)) h111)
    refine P_iconst (v := 0) rfl dX3_readNumber_118 ?_
    refine P_zreturn rfl (by first | exact Or.inl rfl | exact Or.inr rfl | assumption) dX3_readNumber_119 ?_
    exact Or.inr ⟨fun hh => by have h9 := t_dg_lt hh; have h8 := (n_le (a := n) (b := s) (by omega) (by omega)).mp h15; omega, rfl, rfl⟩
  · have hsl : s < n := Decidable.byContradiction fun hh => h15 ((n_le (a := n) (b := s) (by omega) (by omega)).mpr (by omega))
    refine P_aloadn (i := 0) rfl rfl dX3_readNumber_18 ?_
    refine kX3_48 rfl (g_here h) (by decide) (by first | exact h.hl.kp | exact h.hl.kc | exact h.hl.kn) rfl dX3_readNumber_19 (fun r19 s19 q19 => ?_)
    obtain ⟨rfl, rfl⟩ := q19
    refine P_bipush (v := 48) rfl dX3_readNumber_22 ?_
    refine P_isub dX3_readNumber_24 ?_
    refine P_is4 (Or.inr dX3_readNumber_25) rfl rfl ?_
    refine P_aloadn (i := 0) rfl rfl dX3_readNumber_27 ?_
    refine gX3_37 rfl (by first | exact h.hl.kp | exact h.hl.kc | exact h.hl.kn) h.at_ dX3_readNumber_28 ?_
    refine P_iloadn (i := 2) rfl rfl dX3_readNumber_31 ?_
    refine P_icmple dX3_readNumber_32 (tgt := 43) rfl (fun h32 => ?_) (fun h32 => absurd ((n_le (a := s) (b := s) (by omega) (by omega)).mpr (Nat.le_refl _)) h32)
    refine P_iconst (v := 0) rfl dX3_readNumber_43 ?_
    refine P_is5 (Or.inr dX3_readNumber_44) rfl rfl ?_
    refine P_iload (i := 4) rfl dX3_readNumber_46 ?_
    refine P_iconst (v := 0) rfl dX3_readNumber_48 ?_
    refine P_bipush (v := 9) rfl dX3_readNumber_49 ?_
    refine kX3_21 rfl s_X7_isWithin (by decide) rfl dX3_readNumber_51 (fun r51 s51 q51 => ?_)
    obtain ⟨rfl, rfl⟩ := q51
    refine P_ifeq dX3_readNumber_54 (tgt := 99) rfl (fun h54 => ?_) (fun h54 => ?_)
    · refine P_aloadn (i := 0) rfl rfl dX3_readNumber_99 ?_
      refine gX3_15 rfl (by first | exact h.hl.kp | exact h.hl.kc | exact h.hl.kn) h.hl.r100 dX3_readNumber_100 ?_
      refine P_iloadn (i := 1) rfl rfl dX3_readNumber_103 ?_
      refine P_iloadn (i := 3) rfl rfl dX3_readNumber_104 ?_
      refine P_isN (j := i) (by first | exact h.hl.kp | exact h.hl.kc | exact h.hl.kn) rfl (by omega) (by rw [h.hl.ln]; exact hi) dX3_readNumber_105 ?_
      refine P_aloadn (i := 0) rfl rfl dX3_readNumber_106 ?_
      refine gX3_37 rfl (by first | exact h.hl.kp | exact h.hl.kc | exact h.hl.kn) h.at_ dX3_readNumber_107 ?_
      refine P_iloadn (i := 2) rfl rfl dX3_readNumber_110 ?_
      refine P_icmple dX3_readNumber_111 (tgt := 118) rfl (fun h111 => ?_) (fun h111 => absurd ((n_le (a := s) (b := s) (by omega) (by omega)).mpr (Nat.le_refl _)) h111)
      refine P_iconst (v := 0) rfl dX3_readNumber_118 ?_
      refine P_zreturn rfl (by first | exact Or.inl rfl | exact Or.inr rfl | assumption) dX3_readNumber_119 ?_
      exact Or.inr ⟨fun hh => b_f h54 ((c_dig (h.nx (t := s)) (b := 9) (by decide) rfl).mpr (of_decide_eq_true hh)), rfl, rfl⟩
    · have hd := b_t h54
      have hdg : t_dg c n 57 s = true := decide_eq_true ((c_dig (h.nx (t := s)) (b := 9) (by decide) rfl).mp hd)
      have hdd : t_nx c n s - 48 = Int32.ofNat (t_d c n s) := c_dig_n hd.1
      have hd9 : t_d c n s ≤ 9 := c_d9 (h.nx (t := s)) hd
      refine P_iload (i := 5) rfl dX3_readNumber_57 ?_
      refine P_ifne dX3_readNumber_59 (tgt := 99) rfl (fun h59 => ?_) (fun h59 => ?_)
      · exact absurd rfl h59
      · refine P_iloadn (i := 3) rfl rfl dX3_readNumber_62 ?_
        refine P_bipush (v := 10) rfl dX3_readNumber_63 ?_
        refine P_imul dX3_readNumber_65 ?_
        refine P_iload (i := 4) rfl dX3_readNumber_66 ?_
        refine P_iadd dX3_readNumber_68 ?_
        rw [hdd, show (0 : Int32) * 10 + Int32.ofNat (t_d c n s) = Int32.ofNat (t_d c n s) from by rw [Int32.zero_mul, Int32.zero_add]]
        refine P_sipush (v := 4999) rfl dX3_readNumber_69 ?_
        refine P_icmple dX3_readNumber_72 (tgt := 78) rfl (fun h72 => ?_) (fun h72 => absurd ((n_le (a := t_d c n s) (b := 4999) (by omega) (by decide)).mpr (by omega)) h72)
        refine P_iloadn (i := 3) rfl rfl dX3_readNumber_78 ?_
        refine P_bipush (v := 10) rfl dX3_readNumber_79 ?_
        refine P_imul dX3_readNumber_81 ?_
        refine P_iload (i := 4) rfl dX3_readNumber_82 ?_
        refine P_iadd dX3_readNumber_84 ?_
        rw [show (0 : Int32) * 10 + Int32.ofNat (t_d c n s) = Int32.ofNat (t_d c n s) from by rw [Int32.zero_mul, Int32.zero_add]]
        refine P_is3 (Or.inl dX3_readNumber_85) rfl rfl ?_
        refine P_aloadn (i := 0) rfl rfl dX3_readNumber_86 ?_
        refine P_dup rfl dX3_readNumber_87 ?_
        refine gX3_37 rfl (by first | exact h.hl.kp | exact h.hl.kc | exact h.hl.kn) h.at_ dX3_readNumber_88 ?_
        refine P_iconst (v := 1) rfl dX3_readNumber_91 ?_
        refine P_iadd dX3_readNumber_92 ?_
        rw [show Int32.ofNat s + 1 = Int32.ofNat (s + 1) from n_succ s]
        refine uX3_37 rfl (by first | exact h.hl.kp | exact h.hl.kc | exact h.hl.kn) dX3_readNumber_93 ?_
        refine P_goto dX3_readNumber_96 (tgt := 7) rfl ?_
        refine P_few (ls2 := [some (vr (x + 5765)), some (vi (Int32.ofNat i)), some (vi (Int32.ofNat s)), some (vi (Int32.ofNat (t_d c n s))), none, none]) ⟨rfl, rfl, rfl, rfl, trivial⟩ ?_
        exact J (n - (s + 1)) (s + 1) 5000 (t_d c n s) (by omega) (by omega) (by omega) (by omega) rfl hdg
end Cls34
