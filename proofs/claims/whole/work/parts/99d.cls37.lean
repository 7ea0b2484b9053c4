/-- what is read from the place s on (there the class stands: behind an order) -/
def q_from (c : Nat → Int32) (n f s : Nat) (acc : List TO) : Int32 × List TO := if s = 0 then q_run c n f 0 acc else if t_nx c n s = 59 then q_run c n f (s + 1) acc else (Int32.ofNat s, acc)
theorem q_run_s (c : Nat → Int32) (n f s : Nat) (acc : List TO) : q_run c n (f + 1) s acc = if (q_o c n s).2 = true then (Int32.ofNat (q_o c n s).1, acc) else if n ≤ (q_o c n s).1 then (-6, acc ++ [q_to c n s]) else if ¬ t_nx c n (q_o c n s).1 = 59 then (Int32.ofNat (q_o c n s).1, acc ++ [q_to c n s]) else q_run c n f ((q_o c n s).1 + 1) (acc ++ [q_to c n s]) := rfl
theorem q_run_on {c : Nat → Int32} {n f s : Nat} {acc : List TO} (h : (q_o c n s).2 = false) (hn : ¬ n ≤ (q_o c n s).1) : q_run c n (f + 1) s acc = q_from c n f (q_o c n s).1 (acc ++ [q_to c n s]) := by
  have h2 := q_o_ge h
  rw [q_run_s, if_neg (by rw [h]; decide), if_neg hn]
  unfold q_from
  rw [if_neg (show ¬ (q_o c n s).1 = 0 by omega)]
  by_cases e : t_nx c n (q_o c n s).1 = 59
  · rw [if_neg (fun hh => hh e), if_pos e]
  · rw [if_pos e, if_neg e]
/-- the text of a whole object, wherever it is read next -/
def PB (L : PL) (FI AI : Nat → Nat → Int32) (x : Nat) (c : Nat → Int32) (n : Nat) : Prop := LC L x ∧ FI 97 (x + 5765) = Int32.ofNat n ∧ n ≤ 80 ∧ (∀ i, i < n → AI (x + 5766) i = c i ∧ ib (c i) 256)
def QFF (L : PL) (FI AI : Nat → Nat → Int32) (AL : Nat → Nat → Int64) (AR : Nat → Nat → Option Nat) (x : Nat) (v : Int32) : Option PV → PS → Prop := fun r σ => ∃ F2 A2, σ = (L, F2, A2, AL, AR) ∧ r = some (vi v) ∧ c_rd x FI AI F2 A2 ∧ (v = -6 ∨ ∃ e, e ≤ 80 ∧ v = Int32.ofNat e)
section Cls37p
variable {L : PL} {FI AI F2 A2 F3 A3 : Nat → Nat → Int32} {AL : Nat → Nat → Int64} {AR : Nat → Nat → Option Nat} {x : Nat} {c : Nat → Int32} {n s : Nat} {Z : ZW}
theorem PB.pt (h : PB L FI AI x c n) (hs : s ≤ n) : PT L (p_up FI 98 (x + 5765) (Int32.ofNat s)) AI x c n s := ⟨h.1, (p_up_n1 _ _ _ _ (by decide)).trans h.2.1, h.2.2.1, h.2.2.2, p_up_eq _ _ _ _, hs⟩
theorem c_rd.tr (h1 : c_rd x FI AI F2 A2) (h2 : c_rd x F2 A2 F3 A3) : c_rd x FI AI F3 A3 := ⟨fun j a h => (h2.1 j a h).trans (h1.1 j a h), fun a h => (h2.2 a h).trans (h1.2 a h)⟩
theorem PB.rd (h : PB L FI AI x c n) (h2 : c_rd x FI AI F2 A2) : PB L F2 A2 x c n := ⟨h.1, (h2.1 _ _ (by omega)).trans h.2.1, h.2.2.1, fun i hi => ⟨(congrFun (h2.2 _ (by omega)) i).trans (h.2.2.2 i hi).1, (h.2.2.2 i hi).2⟩⟩
theorem RC.rd (h : RC L FI AI AL AR x Z) (h2 : c_rd x FI AI F2 A2) : RC L F2 A2 AL AR x Z := h.pad (fun j a ha => h2.1 j a (fun hh => ha hh.1)) (fun a _ h3 => h2.2 a h3) ((h2.1 _ _ (by omega)).trans h.pn) h.n80 (fun i hi => (congrFun (h2.2 _ (by omega)) i).trans (h.c hi))
theorem c_rd.fr (h : c_rd x FI AI F2 A2) : FrO x FI AI AL AR F2 A2 AL AR := fun a ha => ⟨fun j => h.1 j a (by omega), h.2 a (by omega), rfl, rfl⟩
theorem RC.pb (h : RC L FI AI AL AR x Z) (hc : zch Z) : PB L FI AI x (zC Z) (zn Z) := ⟨h.lc, h.pn, h.n80, fun i hi => ⟨h.c hi, hc i hi⟩⟩
end Cls37p
section Cls37
variable {g : PG} {L : PL} {FI AI : Nat → Nat → Int32} {AL : Nat → Nat → Int64} {AR : Nat → Nat → Option Nat} {x : Nat} {c : Nat → Int32} {n s : Nat} {Z : ZW}

theorem g_findFault (h : PB L FI AI x c n) : Sp g 4 iX3_findFault [vr (x + 5765)] (L, FI, AI, AL, AR) (0, 0) (QFF L FI AI AL AR x (q_run c n 81 0 []).1) := by
  refine Sp.of (ls := [some (vr (x + 5765)), none]) (by decide +kernel) rfl rfl ?_
  have hL := h.1
  have hn80 := h.2.2.1
  have J : ∀ (f s i : Nat) (acc : List TO) (F A : Nat → Nat → Int32), s ≤ n → n < s + f → i ≤ s → (s = 0 ∨ s < n) → PT L F A x c n s → c_rd x FI AI F A → q_run c n 81 0 [] = q_from c n f s acc → P g 4 iX3_findFault 7 [some (vr (x + 5765)), some (vi (Int32.ofNat i))] [] (L, F, A, AL, AR) (0, 0) (QFF L FI AI AL AR x (q_run c n 81 0 []).1) := by
    intro f
    induction f with
    | zero => intro s i acc F A h1 h2; omega
    | succ f ih =>
      intro s i acc F A hsn hf hi h0n hT hr hq
      refine P_iloadn (i := 1) rfl rfl dX3_findFault_7 ?_
      refine P_aloadn (i := 0) rfl rfl dX3_findFault_8 ?_
      refine gX3_29 rfl (by first | exact hL.kp | exact hL.kc | exact hL.kn) hT.pn dX3_findFault_9 ?_
      refine P_icmpgt dX3_findFault_12 (tgt := 47) rfl (fun h12 => absurd h12 (fun h8 => by have h7 := (n_lt (a := n) (b := i) (by omega) (by omega)).mp h8; omega)) (fun h12 => ?_)
      refine P_aloadn (i := 0) rfl rfl dX3_findFault_15 ?_
      refine kX3_40 rfl (g_readOrder hT) (by decide) (by first | exact hL.kp | exact hL.kc | exact hL.kn) rfl dX3_findFault_16 (fun r16 s16 q16 => ?_)
      obtain q16 := q16
      rcases q16 with ⟨h0, F2, A2, rfl, hr2, hp, hc⟩ | ⟨h0, rfl, rfl⟩
      · obtain ⟨s2, hs2⟩ : ∃ s2, s2 = (if 0 < s then s + 1 else s) := ⟨_, rfl⟩
        rw [← hs2] at hp hc
        have hss : s ≤ s2 := by rw [hs2]; split <;> omega
        have hes : q_from c n (f + 1) s acc = q_run c n (f + 1) s2 acc := by
          unfold q_from
          by_cases e0 : s = 0
          · rw [if_pos e0, show s2 = 0 from by rw [hs2, if_neg (by omega)]; exact e0]
          · rw [if_neg e0, if_pos (Decidable.byContradiction fun hh => h0 ⟨by omega, hh⟩), show s2 = s + 1 from by rw [hs2, if_pos (by omega)]]
        have hle := hp.le
        rcases hc with ⟨eo, rfl, _⟩ | ⟨eo, rfl⟩
        · have hge := q_o_ge eo
          refine P_ifne dX3_findFault_19 (tgt := 27) rfl (fun h19 => ?_) (fun h19 => absurd h19 (by decide))
          refine P_aloadn (i := 0) rfl rfl dX3_findFault_27 ?_
          refine gX3_37 rfl (by first | exact hL.kp | exact hL.kc | exact hL.kn) hp.at_ dX3_findFault_28 ?_
          refine P_aloadn (i := 0) rfl rfl dX3_findFault_31 ?_
          refine gX3_29 rfl (by first | exact hL.kp | exact hL.kc | exact hL.kn) hp.pn dX3_findFault_32 ?_
          refine P_icmplt dX3_findFault_35 (tgt := 41) rfl (fun h35 => ?_) (fun h35 => ?_)
          · have h7 : ¬ n ≤ (q_o c n s2).1 := fun hh => absurd ((n_lt (by omega) (by omega)).mp h35) (by omega)
            refine P_inN1 dX3_findFault_41 rfl rfl ?_
            refine P_goto dX3_findFault_44 (tgt := 7) rfl ?_
            exact ih (q_o c n s2).1 (i + 1) (acc ++ [q_to c n s2]) F2 A2 hp.le (by omega) (by omega) (Or.inr (by omega)) hp (hr.tr hr2) (hq.trans (hes.trans (q_run_on eo h7)))
          · have h7 : n ≤ (q_o c n s2).1 := Decidable.byContradiction fun hh => h35 ((n_lt (by omega) (by omega)).mpr (by omega))
            refine P_bipush (v := (-6)) rfl dX3_findFault_38 ?_
            refine P_ireturn rfl dX3_findFault_40 ?_
            rw [show (q_run c n 81 0 []).1 = -6 from by rw [hq, hes, q_run_s, if_neg (by rw [eo]; decide), if_pos h7]]
            exact ⟨F2, A2, rfl, rfl, hr.tr hr2, Or.inl rfl⟩
        · refine P_ifne dX3_findFault_19 (tgt := 27) rfl (fun h19 => absurd h19 (fun hh => hh rfl)) (fun h19 => ?_)
          refine P_aloadn (i := 0) rfl rfl dX3_findFault_22 ?_
          refine gX3_37 rfl (by first | exact hL.kp | exact hL.kc | exact hL.kn) hp.at_ dX3_findFault_23 ?_
          refine P_ireturn rfl dX3_findFault_26 ?_
          rw [show (q_run c n 81 0 []).1 = Int32.ofNat (q_o c n s2).1 from by rw [hq, hes, q_run_s, if_pos eo]]
          exact ⟨F2, A2, rfl, rfl, hr.tr hr2, Or.inr ⟨_, by omega, rfl⟩⟩
      · refine P_ifne dX3_findFault_19 (tgt := 27) rfl (fun h19 => absurd h19 (fun hh => hh rfl)) (fun h19 => ?_)
        refine P_aloadn (i := 0) rfl rfl dX3_findFault_22 ?_
        refine gX3_37 rfl (by first | exact hL.kp | exact hL.kc | exact hL.kn) hT.at_ dX3_findFault_23 ?_
        refine P_ireturn rfl dX3_findFault_26 ?_
        rw [show (q_run c n 81 0 []).1 = Int32.ofNat s from by rw [hq]; unfold q_from; rw [if_neg (show ¬ s = 0 by omega), if_neg h0.2]]
        exact ⟨F, A, rfl, rfl, hr, Or.inr ⟨s, by omega, rfl⟩⟩
  refine P_aloadn (i := 0) rfl rfl dX3_findFault_0 ?_
  refine P_iconst (v := 0) rfl dX3_findFault_1 ?_
  refine uX3_37 rfl (by first | exact hL.kp | exact hL.kc | exact hL.kn) dX3_findFault_2 ?_
  refine P_iconst (v := 0) rfl dX3_findFault_5 ?_
  refine P_is1 (Or.inl dX3_findFault_6) rfl rfl ?_
  exact J 81 0 0 [] _ _ (Nat.zero_le _) (by omega) (Nat.le_refl _) (Or.inl rfl) (h.pt (Nat.zero_le _)) (c_rd.rf.uF (Or.inl rfl)) rfl
theorem g_fault (h : RC L FI AI AL AR x Z) (hc : zch Z) : Sp g 5 iX7_fault [vr x] (L, FI, AI, AL, AR) (0, 0) (QRC L FI AI AL AR x Z (some (vi (a_fault Z)))) := by
  refine Sp.of (ls := [some (vr x)]) (by decide +kernel) rfl rfl ?_
  have hL := h.lc
  refine P_aloadn (i := 0) rfl rfl dX7_fault_0 ?_
  refine gX7_37 rfl (by first | exact h.lc.kx | exact h.lc.kp) h.lc.r229 dX7_fault_1 ?_
  refine kX7_209 rfl (g_findFault (h.pb hc)) (by decide) (by first | exact h.lc.kx | exact h.lc.kp) rfl dX7_fault_4 (fun r4 s4 q4 => ?_)
  obtain ⟨F2, A2, rfl, rfl, hr, _⟩ := q4
  refine P_ireturn rfl dX7_fault_7 ?_
  exact ⟨F2, A2, AL, AR, rfl, rfl, hr.fr, h.rd hr⟩
end Cls37
