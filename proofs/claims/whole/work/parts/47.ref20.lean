theorem tg_init {FI : Nat → Nat → Int32} {m : Nat} : p_up (p_up (p_up FI 276 m 0) 277 m 0) 278 m 0 = tg FI m 0 false 0 := by
  rw [p_up_sw (i := 277) (i2 := 278) _ _ _ (by decide), p_up_sw (i := 276) (i2 := 278) _ _ _ (by decide), p_up_sw (i := 276) (i2 := 277) _ _ _ (by decide)]
  rfl
theorem k_if_ge (c : Nat → Int32) (n : Nat) (g : Int32) (x : Nat × Bool) : x.1 ≤ (k_if c n g x).1 ∧ (k_if c n g x).2 = x.2 := by
  unfold k_if
  split
  · exact ⟨Nat.le_succ _, rfl⟩
  · exact ⟨Nat.le_refl _, rfl⟩
theorem q_num_ge (c : Nat → Int32) (n s : Nat) : s + 1 ≤ (q_num c n s).2 := q_more_ge 5000 _ _
theorem q_o_ge {c : Nat → Int32} {n s : Nat} (h : (q_o c n s).2 = false) : s + 2 ≤ (q_o c n s).1 := by
  unfold q_o at h ⊢
  by_cases e1 : t_nx c n s = 115
  · rw [if_pos e1] at h ⊢
    have h0 := k_if_ge c n 33 (k_nu c n (k_sign c n 42 (k_one c n 55 (k_sign c n 62 (k_one c n 55 (s + 1, false))))))
    have h5 : (k_nu c n (k_sign c n 42 (k_one c n 55 (k_sign c n 62 (k_one c n 55 (s + 1, false)))))).2 = false := h0.2.symm.trans h
    obtain ⟨f4, d4, p4⟩ := k_nu_f h5
    obtain ⟨f3, g3, p3⟩ := k_sign_f f4
    obtain ⟨f2, d2, p2⟩ := k_one_f f3
    obtain ⟨f1, g1, p1⟩ := k_sign_f f2
    obtain ⟨f0, d0, p0⟩ := k_one_f f1
    have h6 := q_num_ge c n (k_sign c n 42 (k_one c n 55 (k_sign c n 62 (k_one c n 55 (s + 1, false))))).1
    rw [← p4] at h6
    have h7 := h0.1
    have p0' : (k_one c n 55 (s + 1, false)).1 = s + 1 + 1 := p0
    show s + 2 ≤ (q_os c n s).1
    unfold q_os
    omega
  · rw [if_neg e1] at h ⊢
    by_cases e2 : t_nx c n s = 102
    · rw [if_pos e2] at h ⊢
      have h0 := k_if_ge c n 46 (k_nu c n (k_sign c n 42 (k_nu c n (k_sign c n 43 (k_nu c n (s + 1, false))))))
      have h5 : (k_nu c n (k_sign c n 42 (k_nu c n (k_sign c n 43 (k_nu c n (s + 1, false)))))).2 = false := h0.2.symm.trans h
      obtain ⟨f4, d4, p4⟩ := k_nu_f h5
      obtain ⟨f3, g3, p3⟩ := k_sign_f f4
      obtain ⟨f2, d2, p2⟩ := k_nu_f f3
      obtain ⟨f1, g1, p1⟩ := k_sign_f f2
      obtain ⟨f0, d0, p0⟩ := k_nu_f f1
      have h6 := q_num_ge c n (k_sign c n 42 (k_nu c n (k_sign c n 43 (k_nu c n (s + 1, false))))).1
      rw [← p4] at h6
      have h8 := q_num_ge c n (k_sign c n 43 (k_nu c n (s + 1, false))).1
      rw [← p2] at h8
      have h9 : s + 1 + 1 ≤ (q_num c n (s + 1)).2 := q_num_ge c n (s + 1)
      have p0' : (k_nu c n (s + 1, false)).1 = (q_num c n (s + 1)).2 := p0
      have h7 := h0.1
      show s + 2 ≤ (q_of c n s).1
      unfold q_of
      omega
    · rw [if_neg e2] at h ⊢
      by_cases e3 : t_nx c n s = 114 ∨ t_nx c n s = 116
      · rw [if_pos e3] at h ⊢
        obtain ⟨f0, d0, p0⟩ := k_nu_f h
        have h9 : s + 1 + 1 ≤ (q_num c n (s + 1)).2 := q_num_ge c n (s + 1)
        have p0' : (k_nu c n (s + 1, false)).1 = (q_num c n (s + 1)).2 := p0
        omega
      · rw [if_neg e3] at h
        cases h
def t_hold (A : Nat → Nat → Int32) (m : Nat) (l : List TO) : Prop := ∀ i, i < l.length → t_rel A m i (l.getD i (0, 0, 0, 0, 0))
theorem t_rel.cg {A A2 : Nat → Nat → Int32} {m k : Nat} {o : TO} (h : t_rel A m k o) (h6 : A2 (m + 16) k = A (m + 16) k) (h7 : ∀ i, i < 4 * k + 4 → A2 (m + 17) i = A (m + 17) i) : t_rel A2 m k o :=
  ⟨h6.trans h.1, (h7 _ (by omega)).trans h.2.1, fun hh => ⟨(h7 _ (by omega)).trans (h.2.2 hh).1, (h7 _ (by omega)).trans (h.2.2 hh).2.1, (h7 _ (by omega)).trans (h.2.2 hh).2.2⟩⟩
theorem t_hold.push {A A2 : Nat → Nat → Int32} {m : Nat} {l : List TO} {o : TO} (h : t_hold A m l) (h6 : ∀ i, i < l.length → A2 (m + 16) i = A (m + 16) i) (h7 : ∀ i, i < 4 * l.length → A2 (m + 17) i = A (m + 17) i) (ho : t_rel A2 m l.length o) : t_hold A2 m (l ++ [o]) := by
  intro i hi
  rw [List.length_append] at hi
  have hi2 : i < l.length + 1 := hi
  rw [List.getD_eq_getElem?_getD]
  by_cases e : i = l.length
  · rw [e, List.getElem?_append_right (Nat.le_refl _), Nat.sub_self]
    exact ho
  · rw [List.getElem?_append_left (by omega), ← List.getD_eq_getElem?_getD]
    exact (h i (by omega)).cg (h6 i (by omega)) (fun j hj => h7 j (by omega))
def QFT (L : PL) (FI AI : Nat → Nat → Int32) (AL : Nat → Nat → Int64) (AR : Nat → Nat → Option Nat) (m : Nat) (c : Nat → Int32) (n : Nat) : Option PV → PS → Prop := fun r σ => ∃ F2 A2, σ = (L, F2, A2, AL, AR) ∧ r = some (vi (q_run c n 81 0 []).1) ∧ (∀ j a, a ≠ m → F2 j a = FI j a) ∧ (∀ j, j ≠ 276 → j ≠ 277 → j ≠ 278 → F2 j m = FI j m) ∧ (∀ a, a ≠ m + 16 → a ≠ m + 17 → A2 a = AI a) ∧ ((q_run c n 81 0 []).1 < 0 → F2 278 m = Int32.ofNat (q_run c n 81 0 []).2.length ∧ (q_run c n 81 0 []).2.length ≤ 28 ∧ t_hold A2 m (q_run c n 81 0 []).2)
section Ref20
variable {g : PG} {L : PL} {FI AI : Nat → Nat → Int32} {AL : Nat → Nat → Int64} {AR : Nat → Nat → Option Nat} {m : Nat} {Z : ZW} {s k n : Nat} {c : Nat → Int32} {M : Nat}
theorem s_fault8 (hM : WM L m) (hT : TC FI AI m c n) : Sp g 4 iX8_fault [vr m] (L, FI, AI, AL, AR) (0, 0) (QFT L FI AI AL AR m c n) := by
  refine Sp.of (ls := [some (vr m)]) (by decide +kernel) rfl rfl ?_
  have hn80 := hT.2.1
  have J19 : ∀ (f s k : Nat) (acc : List TO) (A0 : Nat → Nat → Int32) (e : Nat) (w : Bool) (A : Nat → Nat → Int32), s ≤ n → n < s + f → 3 * k ≤ s → acc.length = k → t_hold A0 m acc → (∀ a, a ≠ m + 16 → a ≠ m + 17 → A0 a = AI a) → q_run c n 81 0 [] = q_run c n f s acc → kR c n (e, w) (q_o c n s) → (∀ a, a ≠ m + 16 → a ≠ m + 17 → A a = A0 a) → (∀ i, i < k → A (m + 16) i = A0 (m + 16) i) → (∀ i, i < 4 * k → A (m + 17) i = A0 (m + 17) i) → (w = false → t_rel A m k (q_to c n s)) → e ≤ 81 → P g 4 iX8_fault 19 [some (vr m)] [] (L, tg FI m e w (if w = true then k else k + 1), A, AL, AR) (0, 0) (QFT L FI AI AL AR m c n) := by
    intro f
    induction f with
    | zero => intro s k acc A0 e w A hs hf; omega
    | succ f ih =>
      intro s k acc A0 e w A hs hf h3k hk hh0 hA0 hq hR hA hA6 hA7 hrel he
      cases w with
      | true =>
        have hres : (q_run c n 81 0 []).1 = Int32.ofNat e := by
          rw [hq]
          rcases hR with h9 | ⟨h9, h8, h7⟩
          · have h6 : (q_o c n s).2 = true := by rw [← h9]
            have h5 : (q_o c n s).1 = e := by rw [← h9]
            rw [show q_run c n (f + 1) s acc = (Int32.ofNat (q_o c n s).1, acc) from if_pos h6, h5]
          · have h5 : e = (q_o c n s).1 := congrArg Prod.fst h9
            have h4 := (t_dg_d (by decide) h7).2.2
            rw [show q_run c n (f + 1) s acc = (Int32.ofNat (q_o c n s).1, acc ++ [q_to c n s]) from (if_neg (by rw [h8]; exact Bool.false_ne_true)).trans ((if_neg (by omega)).trans (if_pos (t_dg_ne h7 (by decide)))), h5]
        rw [if_pos rfl]
        refine P_aloadn (i := 0) rfl rfl dX8_fault_19 ?_
        refine gX8_243 rfl (by first | exact hM.k0 | exact hM.k1 | exact hM.k2 | exact hM.k3 | exact hM.k4 | exact hM.k5 | exact hM.k6 | exact hM.k7 | exact hM.k8 | exact hM.k9 | exact hM.k10 | exact hM.k11 | exact hM.k12 | exact hM.k13 | exact hM.k14 | exact hM.k15 | exact hM.k16 | exact hM.k17) tg_277 dX8_fault_20 ?_
        refine P_ifne dX8_fault_23 (tgt := 57) rfl (fun h23 => ?_) (fun h23 => ?_)
        · refine P_aloadn (i := 0) rfl rfl dX8_fault_57 ?_
          refine gX8_243 rfl (by first | exact hM.k0 | exact hM.k1 | exact hM.k2 | exact hM.k3 | exact hM.k4 | exact hM.k5 | exact hM.k6 | exact hM.k7 | exact hM.k8 | exact hM.k9 | exact hM.k10 | exact hM.k11 | exact hM.k12 | exact hM.k13 | exact hM.k14 | exact hM.k15 | exact hM.k16 | exact hM.k17) tg_277 dX8_fault_58 ?_
          refine P_ifeq dX8_fault_61 (tgt := 71) rfl (fun h61 => ?_) (fun h61 => ?_)
          · exact absurd (show (1 : Int32) = 0 from h61) (by decide)
          · refine P_aloadn (i := 0) rfl rfl dX8_fault_64 ?_
            refine gX8_240 rfl (by first | exact hM.k0 | exact hM.k1 | exact hM.k2 | exact hM.k3 | exact hM.k4 | exact hM.k5 | exact hM.k6 | exact hM.k7 | exact hM.k8 | exact hM.k9 | exact hM.k10 | exact hM.k11 | exact hM.k12 | exact hM.k13 | exact hM.k14 | exact hM.k15 | exact hM.k16 | exact hM.k17) tg_276 dX8_fault_65 ?_
            refine P_goto dX8_fault_68 (tgt := 73) rfl ?_
            refine P_ireturn rfl dX8_fault_73 ?_
            refine ⟨_, A, rfl, congrArg (fun z => some (vi z)) hres.symm, (fun j a ha => tg_a ha), (fun j h6 h7 h8 => tg_o h6 h7 h8), (fun a h6 h7 => (hA a h6 h7).trans (hA0 a h6 h7)), fun hh => ?_⟩
            rw [hres] at hh
            exact absurd hh (Int32.not_lt.mpr (n_pos (by omega)))
        · exact absurd (show (1 : Int32) = 0 from h23) (by decide)
      | false =>
        have hqo : (e, false) = q_o c n s := by
          rcases hR with h9 | ⟨h9, h8, h7⟩
          · exact h9
          · have := congrArg Prod.snd h9
            cases this
        have hge := q_o_ge (c := c) (n := n) (s := s) (by rw [← hqo])
        rw [← hqo] at hge
        have hge2 : s + 2 ≤ e := hge
        have hT2 : TC FI A m c n := ⟨hT.1, hT.2.1, fun i hi => by rw [hA _ (by omega) (by omega), hA0 _ (by omega) (by omega)]; exact hT.2.2 i hi⟩
        rw [if_neg Bool.false_ne_true]
        refine P_aloadn (i := 0) rfl rfl dX8_fault_19 ?_
        refine gX8_243 rfl (by first | exact hM.k0 | exact hM.k1 | exact hM.k2 | exact hM.k3 | exact hM.k4 | exact hM.k5 | exact hM.k6 | exact hM.k7 | exact hM.k8 | exact hM.k9 | exact hM.k10 | exact hM.k11 | exact hM.k12 | exact hM.k13 | exact hM.k14 | exact hM.k15 | exact hM.k16 | exact hM.k17) tg_277 dX8_fault_20 ?_
        refine P_ifne dX8_fault_23 (tgt := 57) rfl (fun h23 => ?_) (fun h23 => ?_)
        · exact absurd rfl h23
        · refine P_aloadn (i := 0) rfl rfl dX8_fault_26 ?_
          refine gX8_240 rfl (by first | exact hM.k0 | exact hM.k1 | exact hM.k2 | exact hM.k3 | exact hM.k4 | exact hM.k5 | exact hM.k6 | exact hM.k7 | exact hM.k8 | exact hM.k9 | exact hM.k10 | exact hM.k11 | exact hM.k12 | exact hM.k13 | exact hM.k14 | exact hM.k15 | exact hM.k16 | exact hM.k17) tg_276 dX8_fault_27 ?_
          refine P_aloadn (i := 0) rfl rfl dX8_fault_30 ?_
          refine gX8_211 rfl (by first | exact hM.k0 | exact hM.k1 | exact hM.k2 | exact hM.k3 | exact hM.k4 | exact hM.k5 | exact hM.k6 | exact hM.k7 | exact hM.k8 | exact hM.k9 | exact hM.k10 | exact hM.k11 | exact hM.k12 | exact hM.k13 | exact hM.k14 | exact hM.k15 | exact hM.k16 | exact hM.k17) ((tg_o (by decide) (by decide) (by decide)).trans hT.1) dX8_fault_31 ?_
          refine P_icmpge dX8_fault_34 (tgt := 57) rfl (fun h34 => ?_) (fun h34 => ?_)
          · have hne : n ≤ e := (n_le (by omega) (by omega)).mp h34
            refine P_aloadn (i := 0) rfl rfl dX8_fault_57 ?_
            refine gX8_243 rfl (by first | exact hM.k0 | exact hM.k1 | exact hM.k2 | exact hM.k3 | exact hM.k4 | exact hM.k5 | exact hM.k6 | exact hM.k7 | exact hM.k8 | exact hM.k9 | exact hM.k10 | exact hM.k11 | exact hM.k12 | exact hM.k13 | exact hM.k14 | exact hM.k15 | exact hM.k16 | exact hM.k17) tg_277 dX8_fault_58 ?_
            refine P_ifeq dX8_fault_61 (tgt := 71) rfl (fun h61 => ?_) (fun h61 => ?_)
            · refine P_bipush (v := (-6)) rfl dX8_fault_71 ?_
              refine P_ireturn rfl dX8_fault_73 ?_
              have hres : q_run c n 81 0 [] = (-6, acc ++ [q_to c n s]) := by
                rw [hq]
                exact (if_neg (by rw [← hqo]; exact Bool.false_ne_true)).trans (if_pos (by rw [← hqo]; exact hne))
              refine ⟨_, A, rfl, congrArg (fun z => some (vi z)) (congrArg Prod.fst hres).symm, (fun j a ha => tg_a ha), (fun j h6 h7 h8 => tg_o h6 h7 h8), (fun a h6 h7 => (hA a h6 h7).trans (hA0 a h6 h7)), fun _ => ?_⟩
              rw [hres]
              have hlen : (acc ++ [q_to c n s]).length = k + 1 := by rw [List.length_append, hk]; rfl
              refine ⟨by rw [hlen]; exact tg_278, by rw [hlen]; omega, ?_⟩
              refine hh0.push (by rw [hk]; exact hA6) (by rw [hk]; exact hA7) ?_
              rw [hk]
              exact hrel rfl
            · exact absurd rfl h61
          · have hne : ¬ n ≤ e := fun hh => h34 ((n_le (by omega) (by omega)).mpr hh)
            refine P_aloadn (i := 0) rfl rfl dX8_fault_37 ?_
            refine P_bipush (v := 59) rfl dX8_fault_38 ?_
            refine kX8_256 rfl (s_takeSign hM hT2 (s := e) (w := false) (by omega) (z := 59)) (by decide) (by first | exact hM.k0 | exact hM.k1 | exact hM.k2 | exact hM.k3 | exact hM.k4 | exact hM.k5 | exact hM.k6 | exact hM.k7 | exact hM.k8 | exact hM.k9 | exact hM.k10 | exact hM.k11 | exact hM.k12 | exact hM.k13 | exact hM.k14 | exact hM.k15 | exact hM.k16 | exact hM.k17) rfl dX8_fault_40 (fun r40 s40 q40 => ?_)
            obtain ⟨rfl, rfl⟩ := q40
            by_cases h59 : t_nx c n e = 59
            · rw [show k_sign c n 59 (e, false) = (e + 1, false) from by unfold k_sign; dsimp only; rw [h59]; rfl]
              refine P_aloadn (i := 0) rfl rfl dX8_fault_43 ?_
              refine gX8_243 rfl (by first | exact hM.k0 | exact hM.k1 | exact hM.k2 | exact hM.k3 | exact hM.k4 | exact hM.k5 | exact hM.k6 | exact hM.k7 | exact hM.k8 | exact hM.k9 | exact hM.k10 | exact hM.k11 | exact hM.k12 | exact hM.k13 | exact hM.k14 | exact hM.k15 | exact hM.k16 | exact hM.k17) tg_277 dX8_fault_44 ?_
              refine P_ifne dX8_fault_47 (tgt := 19) rfl (fun h47 => ?_) (fun h47 => ?_)
              · exact absurd rfl h47
              · refine P_aloadn (i := 0) rfl rfl dX8_fault_50 ?_
                refine kX8_265 rfl (s_takeOrder hM hT2 (s := e + 1) (k := k + 1) (by omega) (by omega)) (by decide) (by first | exact hM.k0 | exact hM.k1 | exact hM.k2 | exact hM.k3 | exact hM.k4 | exact hM.k5 | exact hM.k6 | exact hM.k7 | exact hM.k8 | exact hM.k9 | exact hM.k10 | exact hM.k11 | exact hM.k12 | exact hM.k13 | exact hM.k14 | exact hM.k15 | exact hM.k16 | exact hM.k17) rfl dX8_fault_51 (fun r51 s51 q51 => ?_)
                obtain ⟨e2, w2, A2, rfl, rfl, hR2, hB2, hB6, hB7, hrel2, he2⟩ := q51
                refine P_goto dX8_fault_54 (tgt := 19) rfl ?_
                refine ih (e + 1) (k + 1) (acc ++ [q_to c n s]) A e2 w2 A2 (by omega) (by omega) (by omega) (by rw [List.length_append, hk]; rfl) ?_ (fun a h6 h7 => (hA a h6 h7).trans (hA0 a h6 h7)) ?_ hR2 hB2 hB6 hB7 hrel2 he2
                · refine hh0.push (by rw [hk]; exact hA6) (by rw [hk]; exact hA7) ?_
                  rw [hk]
                  exact hrel rfl
                · rw [hq]
                  have h7 : q_run c n (f + 1) s acc = q_run c n f ((q_o c n s).1 + 1) (acc ++ [q_to c n s]) := (if_neg (by rw [← hqo]; exact Bool.false_ne_true)).trans ((if_neg (by rw [← hqo]; exact hne)).trans (if_neg (by rw [← hqo]; exact fun hh => hh h59)))
                  rw [h7, ← hqo]
            · rw [show k_sign c n 59 (e, false) = (e, true) from by unfold k_sign; dsimp only; rw [decide_eq_true h59]; rfl]
              have hres : (q_run c n 81 0 []).1 = Int32.ofNat e := by
                rw [hq]
                have h7 : q_run c n (f + 1) s acc = (Int32.ofNat (q_o c n s).1, acc ++ [q_to c n s]) := (if_neg (by rw [← hqo]; exact Bool.false_ne_true)).trans ((if_neg (by rw [← hqo]; exact hne)).trans (if_pos (by rw [← hqo]; exact h59)))
                rw [h7, ← hqo]
              refine P_aloadn (i := 0) rfl rfl dX8_fault_43 ?_
              refine gX8_243 rfl (by first | exact hM.k0 | exact hM.k1 | exact hM.k2 | exact hM.k3 | exact hM.k4 | exact hM.k5 | exact hM.k6 | exact hM.k7 | exact hM.k8 | exact hM.k9 | exact hM.k10 | exact hM.k11 | exact hM.k12 | exact hM.k13 | exact hM.k14 | exact hM.k15 | exact hM.k16 | exact hM.k17) tg_277 dX8_fault_44 ?_
              refine P_ifne dX8_fault_47 (tgt := 19) rfl (fun h47 => ?_) (fun h47 => ?_)
              · refine P_aloadn (i := 0) rfl rfl dX8_fault_19 ?_
                refine gX8_243 rfl (by first | exact hM.k0 | exact hM.k1 | exact hM.k2 | exact hM.k3 | exact hM.k4 | exact hM.k5 | exact hM.k6 | exact hM.k7 | exact hM.k8 | exact hM.k9 | exact hM.k10 | exact hM.k11 | exact hM.k12 | exact hM.k13 | exact hM.k14 | exact hM.k15 | exact hM.k16 | exact hM.k17) tg_277 dX8_fault_20 ?_
                refine P_ifne dX8_fault_23 (tgt := 57) rfl (fun h23 => ?_) (fun h23 => ?_)
                · refine P_aloadn (i := 0) rfl rfl dX8_fault_57 ?_
                  refine gX8_243 rfl (by first | exact hM.k0 | exact hM.k1 | exact hM.k2 | exact hM.k3 | exact hM.k4 | exact hM.k5 | exact hM.k6 | exact hM.k7 | exact hM.k8 | exact hM.k9 | exact hM.k10 | exact hM.k11 | exact hM.k12 | exact hM.k13 | exact hM.k14 | exact hM.k15 | exact hM.k16 | exact hM.k17) tg_277 dX8_fault_58 ?_
                  refine P_ifeq dX8_fault_61 (tgt := 71) rfl (fun h61 => ?_) (fun h61 => ?_)
                  · exact absurd (show (1 : Int32) = 0 from h61) (by decide)
                  · refine P_aloadn (i := 0) rfl rfl dX8_fault_64 ?_
                    refine gX8_240 rfl (by first | exact hM.k0 | exact hM.k1 | exact hM.k2 | exact hM.k3 | exact hM.k4 | exact hM.k5 | exact hM.k6 | exact hM.k7 | exact hM.k8 | exact hM.k9 | exact hM.k10 | exact hM.k11 | exact hM.k12 | exact hM.k13 | exact hM.k14 | exact hM.k15 | exact hM.k16 | exact hM.k17) tg_276 dX8_fault_65 ?_
                    refine P_goto dX8_fault_68 (tgt := 73) rfl ?_
                    refine P_ireturn rfl dX8_fault_73 ?_
                    refine ⟨_, A, rfl, congrArg (fun z => some (vi z)) hres.symm, (fun j a ha => tg_a ha), (fun j h6 h7 h8 => tg_o h6 h7 h8), (fun a h6 h7 => (hA a h6 h7).trans (hA0 a h6 h7)), fun hh => ?_⟩
                    rw [hres] at hh
                    exact absurd hh (Int32.not_lt.mpr (n_pos (by omega)))
                · exact absurd (show (1 : Int32) = 0 from h23) (by decide)
              · exact absurd (show (1 : Int32) = 0 from h47) (by decide)
  refine P_aloadn (i := 0) rfl rfl dX8_fault_0 ?_
  refine P_iconst (v := 0) rfl dX8_fault_1 ?_
  refine uX8_240 rfl (by first | exact hM.k0 | exact hM.k1 | exact hM.k2 | exact hM.k3 | exact hM.k4 | exact hM.k5 | exact hM.k6 | exact hM.k7 | exact hM.k8 | exact hM.k9 | exact hM.k10 | exact hM.k11 | exact hM.k12 | exact hM.k13 | exact hM.k14 | exact hM.k15 | exact hM.k16 | exact hM.k17) dX8_fault_2 ?_
  refine P_aloadn (i := 0) rfl rfl dX8_fault_5 ?_
  refine P_iconst (v := 0) rfl dX8_fault_6 ?_
  refine uX8_243 rfl (by first | exact Or.inl rfl | exact Or.inr rfl | assumption) (by first | exact hM.k0 | exact hM.k1 | exact hM.k2 | exact hM.k3 | exact hM.k4 | exact hM.k5 | exact hM.k6 | exact hM.k7 | exact hM.k8 | exact hM.k9 | exact hM.k10 | exact hM.k11 | exact hM.k12 | exact hM.k13 | exact hM.k14 | exact hM.k15 | exact hM.k16 | exact hM.k17) dX8_fault_7 ?_
  refine P_aloadn (i := 0) rfl rfl dX8_fault_10 ?_
  refine P_iconst (v := 0) rfl dX8_fault_11 ?_
  refine uX8_250 rfl (by first | exact hM.k0 | exact hM.k1 | exact hM.k2 | exact hM.k3 | exact hM.k4 | exact hM.k5 | exact hM.k6 | exact hM.k7 | exact hM.k8 | exact hM.k9 | exact hM.k10 | exact hM.k11 | exact hM.k12 | exact hM.k13 | exact hM.k14 | exact hM.k15 | exact hM.k16 | exact hM.k17) dX8_fault_12 ?_
  rw [tg_init]
  refine P_aloadn (i := 0) rfl rfl dX8_fault_15 ?_
  refine kX8_265 rfl (s_takeOrder hM hT (s := 0) (k := 0) (by omega) (by omega)) (by decide) (by first | exact hM.k0 | exact hM.k1 | exact hM.k2 | exact hM.k3 | exact hM.k4 | exact hM.k5 | exact hM.k6 | exact hM.k7 | exact hM.k8 | exact hM.k9 | exact hM.k10 | exact hM.k11 | exact hM.k12 | exact hM.k13 | exact hM.k14 | exact hM.k15 | exact hM.k16 | exact hM.k17) rfl dX8_fault_16 (fun r16 s16 q16 => ?_)
  obtain ⟨e2, w2, A2, rfl, rfl, hR2, hB2, hB6, hB7, hrel2, he2⟩ := q16
  exact J19 81 0 0 [] AI e2 w2 A2 (by omega) (by omega) (by omega) rfl (fun i hi => absurd hi (Nat.not_lt_zero i)) (fun _ _ _ => rfl) rfl hR2 hB2 hB6 hB7 hrel2 he2
end Ref20
