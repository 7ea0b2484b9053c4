/-- the pad: its n characters c, s is read next -/
def PT (L : PL) (FI AI : Nat → Nat → Int32) (x : Nat) (c : Nat → Int32) (n s : Nat) : Prop := LC L x ∧ FI 97 (x + 5765) = Int32.ofNat n ∧ n ≤ 80 ∧ (∀ i, i < n → AI (x + 5766) i = c i ∧ ib (c i) 256) ∧ FI 98 (x + 5765) = Int32.ofNat s ∧ s ≤ n
theorem t_nx_ib {c : Nat → Int32} {n s : Nat} (h : ∀ i, i < n → ib (c i) 256) : ib (t_nx c n s) 256 := by
  unfold t_nx
  split
  · rename_i e; exact h s e
  · exact ⟨by decide, by decide⟩
theorem n_nar {v : Int32} (h : ib v 256) : narrow .char (.int v) = .int v := by
  have h1 := n_narrow (n := nn v) (by have := h.nn; omega)
  rw [← h.eq] at h1
  exact h1
section PTp
variable {L : PL} {FI AI F2 A2 : Nat → Nat → Int32} {x : Nat} {c : Nat → Int32} {n s t : Nat}
theorem PT.hl (h : PT L FI AI x c n s) : LC L x := h.1
theorem PT.pn (h : PT L FI AI x c n s) : FI 97 (x + 5765) = Int32.ofNat n := h.2.1
theorem PT.n80 (h : PT L FI AI x c n s) : n ≤ 80 := h.2.2.1
theorem PT.ch (h : PT L FI AI x c n s) {i : Nat} (hi : i < n) : AI (x + 5766) i = c i := (h.2.2.2.1 i hi).1
theorem PT.nx (h : PT L FI AI x c n s) : ib (t_nx c n t) 256 := t_nx_ib (fun i hi => (h.2.2.2.1 i hi).2)
theorem PT.at_ (h : PT L FI AI x c n s) : FI 98 (x + 5765) = Int32.ofNat s := h.2.2.2.2.1
theorem PT.le (h : PT L FI AI x c n s) : s ≤ n := h.2.2.2.2.2
theorem PT.up (h : PT L FI AI x c n s) (e97 : F2 97 (x + 5765) = FI 97 (x + 5765)) (ea : A2 (x + 5766) = AI (x + 5766)) (e98 : F2 98 (x + 5765) = Int32.ofNat t) (ht : t ≤ n) : PT L F2 A2 x c n t := ⟨h.1, e97.trans h.pn, h.n80, fun i hi => ⟨(congrFun ea i).trans (h.ch hi), (h.2.2.2.1 i hi).2⟩, e98, ht⟩
end PTp
section Cls33
variable {g : PG} {L : PL} {FI AI : Nat → Nat → Int32} {AL : Nat → Nat → Int64} {AR : Nat → Nat → Option Nat} {x : Nat} {c : Nat → Int32} {n s : Nat}

theorem g_here (h : PT L FI AI x c n s) : Sp g 0 iX3_here [vr (x + 5765)] (L, FI, AI, AL, AR) (0, 0) (QI (L, FI, AI, AL, AR) (t_nx c n s)) := by
  refine Sp.of (ls := [some (vr (x + 5765))]) (by decide +kernel) rfl rfl ?_
  have hn80 := h.n80
  have hsn := h.le
  refine P_aloadn (i := 0) rfl rfl dX3_here_0 ?_
  refine gX3_37 rfl (by first | exact h.hl.kp | exact h.hl.kc | exact h.hl.kn) h.at_ dX3_here_1 ?_
  refine P_aloadn (i := 0) rfl rfl dX3_here_4 ?_
  refine gX3_29 rfl (by first | exact h.hl.kp | exact h.hl.kc | exact h.hl.kn) h.pn dX3_here_5 ?_
  refine P_icmpge dX3_here_8 (tgt := 23) rfl (fun h8 => ?_) (fun h8 => ?_)
  · have hs : ¬ s < n := by have h7 := (n_le (a := n) (b := s) (by omega) (by omega)).mp h8; omega
    refine P_iconst (v := 0) rfl dX3_here_23 ?_
    refine P_creturn rfl (by decide) dX3_here_24 ?_
    rw [show t_nx c n s = 0 from if_neg hs]
    exact ⟨rfl, rfl⟩
  · have hs : s < n := Decidable.byContradiction fun hh => h8 ((n_le (a := n) (b := s) (by omega) (by omega)).mpr (by omega))
    refine P_aloadn (i := 0) rfl rfl dX3_here_11 ?_
    refine gX3_9 rfl (by first | exact h.hl.kp | exact h.hl.kc | exact h.hl.kn) h.hl.r96 dX3_here_12 ?_
    refine P_aloadn (i := 0) rfl rfl dX3_here_15 ?_
    refine gX3_37 rfl (by first | exact h.hl.kp | exact h.hl.kc | exact h.hl.kn) h.at_ dX3_here_16 ?_
    refine P_caN (j := s) (by first | exact h.hl.kp | exact h.hl.kc | exact h.hl.kn) rfl (by omega) (by rw [h.hl.lc]; omega) (h.ch hs) dX3_here_19 ?_
    refine P_goto dX3_here_20 (tgt := 24) rfl ?_
    refine P_creturn rfl (by have h7 := n_nar (h.nx (t := s)); rw [show t_nx c n s = c s from if_pos hs] at h7; exact h7) dX3_here_24 ?_
    rw [show t_nx c n s = c s from if_pos hs]
    exact ⟨rfl, rfl⟩
theorem g_take (h : PT L FI AI x c n s) {v : Int32} : Sp g 1 iX3_take [vr (x + 5765), vi v] (L, FI, AI, AL, AR) (0, 0) (fun r σ => (t_nx c n s = v ∧ r = some (vi 1) ∧ σ = (L, p_up FI 98 (x + 5765) (Int32.ofNat (s + 1)), AI, AL, AR)) ∨ (¬ t_nx c n s = v ∧ r = some (vi 0) ∧ σ = (L, FI, AI, AL, AR))) := by
  refine Sp.of (ls := [some (vr (x + 5765)), some (vi v)]) (by decide +kernel) rfl rfl ?_
  have hn80 := h.n80
  have hsn := h.le
  refine P_aloadn (i := 0) rfl rfl dX3_take_0 ?_
  refine kX3_48 rfl (g_here h) (by decide) (by first | exact h.hl.kp | exact h.hl.kc | exact h.hl.kn) rfl dX3_take_1 (fun r1 s1 q1 => ?_)
  obtain ⟨rfl, rfl⟩ := q1
  refine P_iloadn (i := 1) rfl rfl dX3_take_4 ?_
  refine P_icmpeq dX3_take_5 (tgt := 10) rfl (fun h5 => ?_) (fun h5 => ?_)
  · refine P_aloadn (i := 0) rfl rfl dX3_take_10 ?_
    refine P_dup rfl dX3_take_11 ?_
    refine gX3_37 rfl (by first | exact h.hl.kp | exact h.hl.kc | exact h.hl.kn) h.at_ dX3_take_12 ?_
    refine P_iconst (v := 1) rfl dX3_take_15 ?_
    refine P_iadd dX3_take_16 ?_
    rw [show Int32.ofNat s + 1 = Int32.ofNat (s + 1) from n_succ s]
    refine uX3_37 rfl (by first | exact h.hl.kp | exact h.hl.kc | exact h.hl.kn) dX3_take_17 ?_
    refine P_iconst (v := 1) rfl dX3_take_20 ?_
    refine P_zreturn rfl (by first | exact Or.inl rfl | exact Or.inr rfl | assumption) dX3_take_21 ?_
    exact Or.inl ⟨h5, rfl, rfl⟩
  · refine P_iconst (v := 0) rfl dX3_take_8 ?_
    refine P_zreturn rfl (by first | exact Or.inl rfl | exact Or.inr rfl | assumption) dX3_take_9 ?_
    exact Or.inr ⟨h5, rfl, rfl⟩
theorem g_readMark (h : PT L FI AI x c n s) {v : Int32} : Sp g 2 iX3_readMark [vr (x + 5765), vi v] (L, FI, AI, AL, AR) (0, 0) (fun r σ => r = some (vi 1) ∧ σ = (L, p_up (if t_nx c n s = v then p_up FI 98 (x + 5765) (Int32.ofNat (s + 1)) else FI) 101 (x + 5765) (if t_nx c n s = v then 1 else 0), AI, AL, AR)) := by
  refine Sp.of (ls := [some (vr (x + 5765)), some (vi v)]) (by decide +kernel) rfl rfl ?_
  have hn80 := h.n80
  have hsn := h.le
  refine P_aloadn (i := 0) rfl rfl dX3_readMark_0 ?_
  refine P_aloadn (i := 0) rfl rfl dX3_readMark_1 ?_
  refine P_iloadn (i := 1) rfl rfl dX3_readMark_2 ?_
  refine kX3_44 rfl (g_take h) (by decide) (by first | exact h.hl.kp | exact h.hl.kc | exact h.hl.kn) rfl dX3_readMark_3 (fun r3 s3 q3 => ?_)
  obtain q3 := q3
  rcases q3 with ⟨e, rfl, rfl⟩ | ⟨e, rfl, rfl⟩
  · rw [if_pos e, if_pos e]
    refine uX3_33 rfl (by first | exact Or.inl rfl | exact Or.inr rfl | assumption) (by first | exact h.hl.kp | exact h.hl.kc | exact h.hl.kn) dX3_readMark_6 ?_
    refine P_iconst (v := 1) rfl dX3_readMark_9 ?_
    refine P_zreturn rfl (by first | exact Or.inl rfl | exact Or.inr rfl | assumption) dX3_readMark_10 ?_
    exact ⟨rfl, rfl⟩
  · rw [if_neg e, if_neg e]
    refine uX3_33 rfl (by first | exact Or.inl rfl | exact Or.inr rfl | assumption) (by first | exact h.hl.kp | exact h.hl.kc | exact h.hl.kn) dX3_readMark_6 ?_
    refine P_iconst (v := 1) rfl dX3_readMark_9 ?_
    refine P_zreturn rfl (by first | exact Or.inl rfl | exact Or.inr rfl | assumption) dX3_readMark_10 ?_
    exact ⟨rfl, rfl⟩
theorem g_how (h : PT L FI AI x c n s) : Sp g 0 iX3_how [vr (x + 5765)] (L, FI, AI, AL, AR) (0, 0) (QI (L, FI, AI, AL, AR) (if FI 101 (x + 5765) = 0 then 41 else 40)) := by
  refine Sp.of (ls := [some (vr (x + 5765))]) (by decide +kernel) rfl rfl ?_
  have hn80 := h.n80
  have hsn := h.le
  refine P_bipush (v := 40) rfl dX3_how_0 ?_
  refine P_aloadn (i := 0) rfl rfl dX3_how_2 ?_
  refine gX3_33 rfl (by first | exact h.hl.kp | exact h.hl.kc | exact h.hl.kn) rfl dX3_how_3 ?_
  refine P_ifeq dX3_how_6 (tgt := 13) rfl (fun h6 => ?_) (fun h6 => ?_)
  · refine P_iconst (v := 1) rfl dX3_how_13 ?_
    refine P_iadd dX3_how_14 ?_
    refine P_ireturn rfl dX3_how_15 ?_
    rw [if_pos h6]
    exact ⟨rfl, rfl⟩
  · refine P_iconst (v := 0) rfl dX3_how_9 ?_
    refine P_goto dX3_how_10 (tgt := 14) rfl ?_
    refine P_iadd dX3_how_14 ?_
    refine P_ireturn rfl dX3_how_15 ?_
    rw [if_neg h6]
    exact ⟨rfl, rfl⟩
theorem g_last (h : PT L FI AI x c n s) : Sp g 0 iX3_last [vr (x + 5765)] (L, FI, AI, AL, AR) (0, 0) (QI (L, FI, AI, AL, AR) (if FI 101 (x + 5765) = 0 then 0 else 1)) := by
  refine Sp.of (ls := [some (vr (x + 5765))]) (by decide +kernel) rfl rfl ?_
  have hn80 := h.n80
  have hsn := h.le
  refine P_aloadn (i := 0) rfl rfl dX3_last_0 ?_
  refine gX3_33 rfl (by first | exact h.hl.kp | exact h.hl.kc | exact h.hl.kn) rfl dX3_last_1 ?_
  refine P_ifeq dX3_last_4 (tgt := 11) rfl (fun h4 => ?_) (fun h4 => ?_)
  · refine P_iconst (v := 0) rfl dX3_last_11 ?_
    refine P_ireturn rfl dX3_last_12 ?_
    rw [if_pos h4]
    exact ⟨rfl, rfl⟩
  · refine P_iconst (v := 1) rfl dX3_last_7 ?_
    refine P_goto dX3_last_8 (tgt := 12) rfl ?_
    refine P_ireturn rfl dX3_last_12 ?_
    rw [if_neg h4]
    exact ⟨rfl, rfl⟩
end Cls33
