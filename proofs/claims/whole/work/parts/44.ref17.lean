def QGA (L : PL) (FI AI : Nat → Nat → Int32) (AL : Nat → Nat → Int64) (AR : Nat → Nat → Option Nat) (m : Nat) (X : XW) (from_ to size : Int32) : Option PV → PS → Prop := fun r σ => ∃ F2 A2, σ = (L, F2, A2, AL, AR) ∧ (∀ j a, ¬ (j = 270 ∧ a = m) → ¬ (j = 275 ∧ a = m) → F2 j a = FI j a) ∧ (∀ a, (a < m + 11 ∨ m + 16 ≤ a) → A2 a = AI a) ∧ ((x_rt X to 8 from_ [] = none ∧ r = some (vi 0)) ∨ ∃ l, x_rt X to 8 from_ [] = some l ∧ r = some (vi 1) ∧ F2 275 m = Int32.ofNat (w_all X l [(nn size, 0)]).length ∧ w_hold A2 (m + 12) (m + 13) (w_all X l [(nn size, 0)]) (w_all X l [(nn size, 0)]).length ∧ w_ok 40000 (w_all X l [(nn size, 0)]))
theorem w_ok.mono {T U : Nat} {q : List (Nat × Nat)} (h : w_ok T q) (hU : T ≤ U) : w_ok U q := ⟨h.1, fun x hx => by have := h.2 x hx; omega⟩
theorem x_room {X : XW} {M : Nat} (hI : XI M X) {b : Nat} (hb : b < xb X) : 16 ≤ nn (xB X b 2) ∧ nn (xB X b 2) ≤ 1500 ∧ nn (xB X b 3) ≤ 50 ∧ 1 ≤ nn (xB X b 4) ∧ nn (xB X b 4) ≤ 1000 := by
  have hBb := hI.2.2.1 _ hb
  have h2 := i_cn (xB X b 2)
  have h3 := i_cn (xB X b 3)
  have h4 := i_cn (xB X b 4)
  have k2 := hBb.2.2.1; have k3 := hBb.2.2.2.1; have k4 := hBb.2.2.2.2.1
  show 16 ≤ (xB X b 2).toNatClampNeg ∧ (xB X b 2).toNatClampNeg ≤ 1500 ∧ (xB X b 3).toNatClampNeg ≤ 50 ∧ 1 ≤ (xB X b 4).toNatClampNeg ∧ (xB X b 4).toNatClampNeg ≤ 1000
  omega
theorem w_mx_le {T : Nat} {q : List (Nat × Nat)} (h : w_ok T q) : ∀ n, n ≤ q.length → w_mx q n ≤ T := by
  intro n
  induction n with
  | zero => intro _; exact Nat.zero_le _
  | succ n ih =>
    intro hn
    have h1 := ih (by omega)
    have h2 := (h.2 (q.getD n (0, 0)) (by rw [List.getD_eq_getElem?_getD, List.getElem?_eq_getElem (by omega)]; exact List.getElem_mem _)).2.2
    show (if w_mx q n < (q.getD n (0, 0)).2 then (q.getD n (0, 0)).2 else w_mx q n) ≤ T
    split
    · exact h2
    · exact h1
section Ref17
variable {g : PG} {L : PL} {FI AI : Nat → Nat → Int32} {AL : Nat → Nat → Int64} {AR : Nat → Nat → Option Nat} {m : Nat} {Z : ZW} {M : Nat} {X : XW}
theorem s_goAll (hM : WM L m) (hA : RA AI m X) (hI : XI M X) {from_ to size : Int32} (hfrom : ib from_ 8) (hto : ib to 8) (hsz : ib size 4001) (hs1 : 1 ≤ nn size) : Sp g 2 iX8_goAll [vr m, vi from_, vi to, vi size] (L, FI, AI, AL, AR) (0, 0) (QGA L FI AI AL AR m X from_ to size) := by
  refine Sp.of (ls := [some (vr m), some (vi from_), some (vi to), some (vi size), none]) (by decide +kernel) rfl rfl ?_
  refine P_aloadn (i := 0) rfl rfl dX8_goAll_0 ?_
  refine P_iloadn (i := 1) rfl rfl dX8_goAll_1 ?_
  refine P_iloadn (i := 2) rfl rfl dX8_goAll_2 ?_
  refine kX8_220 rfl (s_findRoute hM hA hI hfrom hto) (by decide) (by first | exact hM.k0 | exact hM.k1 | exact hM.k2 | exact hM.k3 | exact hM.k4 | exact hM.k5 | exact hM.k6 | exact hM.k7 | exact hM.k8 | exact hM.k9 | exact hM.k10 | exact hM.k11 | exact hM.k12 | exact hM.k13 | exact hM.k14 | exact hM.k15 | exact hM.k16 | exact hM.k17) rfl dX8_goAll_3 (fun r3 s3 q3 => ?_)
  obtain ⟨F2, A2, rfl, hF, hAo, hq⟩ := q3
  rcases hq with hq | hq
  · obtain ⟨hq, rfl⟩ := hq
    have hq : _ ∧ True := ⟨hq, trivial⟩
    refine P_ifne dX8_goAll_6 (tgt := 11) rfl (fun h6 => ?_) (fun h6 => ?_)
    · exact absurd rfl h6
    · refine P_iconst (v := 0) rfl dX8_goAll_9 ?_
      refine P_zreturn rfl (by first | exact Or.inl rfl | exact Or.inr rfl | assumption) dX8_goAll_10 ?_
      exact ⟨F2, A2, rfl, fun j a h7 _ => hF j a h7, fun a ha => hAo a (by omega), Or.inl ⟨hq.1, rfl⟩⟩
  · obtain ⟨l, hl, rfl, h270, hal⟩ := hq
    obtain ⟨k1, k2, k3, k4⟩ := x_rt_ok hI hto 8 from_ [] l hfrom (fun b hb => by cases hb) hl
    have k6 : l.length ≤ 0 + 8 := k3
    have hbi : ∀ i, i < l.length → ib (l.getD i 0) (xb X) := fun i hi => k1 _ (by rw [List.getD_eq_getElem?_getD, List.getElem?_eq_getElem hi]; exact List.getElem_mem hi)
    have loop : ∀ n k : Nat, k + n = l.length → ∀ (F3 A : Nat → Nat → Int32) (q : List (Nat × Nat)), w_all X l [(nn size, 0)] = w_all X (l.drop k) q → w_ok (4100 * k) q → (∀ j a, ¬ (j = 270 ∧ a = m) → ¬ (j = 275 ∧ a = m) → F3 j a = FI j a) → (∀ a, (a < m + 11 ∨ m + 16 ≤ a) → A a = AI a) → F3 275 m = Int32.ofNat q.length → w_hold A (m + 12) (m + 13) q q.length → F3 270 m = Int32.ofNat l.length → (∀ i, i < l.length → A (m + 11) i = l.getD i 0) → P g 2 iX8_goAll 33 [some (vr m), some (vi from_), some (vi to), some (vi size), some (vi (Int32.ofNat k))] [] (L, F3, A, AL, AR) (0, 0) (QGA L FI AI AL AR m X from_ to size) := by
      intro n
      induction n with
      | zero =>
        intro k hk F3 A q hqe hq hFo hAo hpc hh h270 hal
        refine P_iload (i := 4) rfl dX8_goAll_33 ?_
        refine P_aloadn (i := 0) rfl rfl dX8_goAll_35 ?_
        refine gX8_217 rfl (by first | exact hM.k0 | exact hM.k1 | exact hM.k2 | exact hM.k3 | exact hM.k4 | exact hM.k5 | exact hM.k6 | exact hM.k7 | exact hM.k8 | exact hM.k9 | exact hM.k10 | exact hM.k11 | exact hM.k12 | exact hM.k13 | exact hM.k14 | exact hM.k15 | exact hM.k16 | exact hM.k17) h270 dX8_goAll_36 ?_
        refine P_icmpge dX8_goAll_39 (tgt := 59) rfl (fun h39 => ?_) (fun h39 => absurd ((n_le (a := l.length) (b := k) (by omega) (by omega)).mpr (by omega)) h39)
        refine P_iconst (v := 1) rfl dX8_goAll_59 ?_
        refine P_zreturn rfl (by first | exact Or.inl rfl | exact Or.inr rfl | assumption) dX8_goAll_60 ?_
        have e9 : w_all X l [(nn size, 0)] = q := by
          rw [hqe, List.drop_of_length_le (by omega)]
          rfl
        refine ⟨F3, A, rfl, hFo, hAo, Or.inr ⟨l, hl, rfl, ?_, ?_, ?_⟩⟩
        · rw [e9]; exact hpc
        · rw [e9]; exact hh
        · rw [e9]; exact hq.mono (by omega)
      | succ n ih =>
        intro k hk F3 A q hqe hq hFo hAo hpc hh h270 hal
        have hb := hbi k (by omega)
        have hrm := x_room hI hb.nn
        have hA2 : RA A m X := by
          show RF (A (m + 1)) (A (m + 2)) X
          rw [hAo _ (by omega), hAo _ (by omega)]
          exact hA
        have hdr : l.drop k = l.getD k 0 :: l.drop (k + 1) := by
          rw [List.drop_eq_getElem_cons (by omega), List.getD_eq_getElem?_getD, List.getElem?_eq_getElem (by omega)]
          rfl
        refine P_iload (i := 4) rfl dX8_goAll_33 ?_
        refine P_aloadn (i := 0) rfl rfl dX8_goAll_35 ?_
        refine gX8_217 rfl (by first | exact hM.k0 | exact hM.k1 | exact hM.k2 | exact hM.k3 | exact hM.k4 | exact hM.k5 | exact hM.k6 | exact hM.k7 | exact hM.k8 | exact hM.k9 | exact hM.k10 | exact hM.k11 | exact hM.k12 | exact hM.k13 | exact hM.k14 | exact hM.k15 | exact hM.k16 | exact hM.k17) h270 dX8_goAll_36 ?_
        refine P_icmpge dX8_goAll_39 (tgt := 59) rfl (fun h39 => absurd h39 (fun h8 => by have h7 := (n_le (a := l.length) (b := k) (by omega) (by omega)).mp h8; omega)) (fun h39 => ?_)
        refine P_aloadn (i := 0) rfl rfl dX8_goAll_42 ?_
        refine P_aloadn (i := 0) rfl rfl dX8_goAll_43 ?_
        refine gX8_44 rfl (by first | exact hM.k0 | exact hM.k1 | exact hM.k2 | exact hM.k3 | exact hM.k4 | exact hM.k5 | exact hM.k6 | exact hM.k7 | exact hM.k8 | exact hM.k9 | exact hM.k10 | exact hM.k11 | exact hM.k12 | exact hM.k13 | exact hM.k14 | exact hM.k15 | exact hM.k16 | exact hM.k17) hM.r269 dX8_goAll_44 ?_
        refine P_iload (i := 4) rfl dX8_goAll_47 ?_
        refine P_iaN (j := k) (by first | exact hM.k0 | exact hM.k1 | exact hM.k2 | exact hM.k3 | exact hM.k4 | exact hM.k5 | exact hM.k6 | exact hM.k7 | exact hM.k8 | exact hM.k9 | exact hM.k10 | exact hM.k11 | exact hM.k12 | exact hM.k13 | exact hM.k14 | exact hM.k15 | exact hM.k16 | exact hM.k17) rfl (by first | omega | (simp only [hM.l1, hM.l2, hM.l3, hM.l4, hM.l5, hM.l6, hM.l7, hM.l8, hM.l9, hM.l10, hM.l11, hM.l12, hM.l13, hM.l14, hM.l15, hM.l16, hM.l17]; omega)) (by first | omega | (simp only [hM.l1, hM.l2, hM.l3, hM.l4, hM.l5, hM.l6, hM.l7, hM.l8, hM.l9, hM.l10, hM.l11, hM.l12, hM.l13, hM.l14, hM.l15, hM.l16, hM.l17]; omega)) (hal k (by omega)) dX8_goAll_49 ?_
        refine kX8_226 rfl (s_goOver hM hA2 hI hb hq (by omega) hpc hh) (by decide) (by first | exact hM.k0 | exact hM.k1 | exact hM.k2 | exact hM.k3 | exact hM.k4 | exact hM.k5 | exact hM.k6 | exact hM.k7 | exact hM.k8 | exact hM.k9 | exact hM.k10 | exact hM.k11 | exact hM.k12 | exact hM.k13 | exact hM.k14 | exact hM.k15 | exact hM.k16 | exact hM.k17) rfl dX8_goAll_50 (fun r50 s50 q50 => ?_)
        obtain ⟨F4, A4, rfl, rfl, hF4, hA4, hpc4, hh4⟩ := q50
        refine P_inN4 dX8_goAll_53 rfl rfl ?_
        refine P_goto dX8_goAll_56 (tgt := 33) rfl ?_
        refine ih (k + 1) (by omega) F4 A4 _ ?_ (hq.ov hrm.1 hrm.2.2.1) ?_ ?_ hpc4 hh4 ?_ ?_
        · rw [hqe, hdr]
          rfl
        · intro j a h7 h8
          exact (hF4 j a h8).trans (hFo j a h7 h8)
        · intro a ha
          exact (hA4 a (by omega)).trans (hAo a ha)
        · exact (hF4 270 m (by omega)).trans h270
        · intro i hi
          rw [hA4 _ (by omega)]
          exact hal i hi
    refine P_ifne dX8_goAll_6 (tgt := 11) rfl (fun h6 => ?_) (fun h6 => ?_)
    · refine P_aloadn (i := 0) rfl rfl dX8_goAll_11 ?_
      refine P_iconst (v := 1) rfl dX8_goAll_12 ?_
      refine uX8_223 rfl (by first | exact hM.k0 | exact hM.k1 | exact hM.k2 | exact hM.k3 | exact hM.k4 | exact hM.k5 | exact hM.k6 | exact hM.k7 | exact hM.k8 | exact hM.k9 | exact hM.k10 | exact hM.k11 | exact hM.k12 | exact hM.k13 | exact hM.k14 | exact hM.k15 | exact hM.k16 | exact hM.k17) dX8_goAll_13 ?_
      refine P_aloadn (i := 0) rfl rfl dX8_goAll_16 ?_
      refine gX8_47 rfl (by first | exact hM.k0 | exact hM.k1 | exact hM.k2 | exact hM.k3 | exact hM.k4 | exact hM.k5 | exact hM.k6 | exact hM.k7 | exact hM.k8 | exact hM.k9 | exact hM.k10 | exact hM.k11 | exact hM.k12 | exact hM.k13 | exact hM.k14 | exact hM.k15 | exact hM.k16 | exact hM.k17) hM.r271 dX8_goAll_17 ?_
      refine P_iconst (v := 0) rfl dX8_goAll_20 ?_
      refine P_iloadn (i := 3) rfl rfl dX8_goAll_21 ?_
      refine P_isN (j := 0) (by first | exact hM.k0 | exact hM.k1 | exact hM.k2 | exact hM.k3 | exact hM.k4 | exact hM.k5 | exact hM.k6 | exact hM.k7 | exact hM.k8 | exact hM.k9 | exact hM.k10 | exact hM.k11 | exact hM.k12 | exact hM.k13 | exact hM.k14 | exact hM.k15 | exact hM.k16 | exact hM.k17) rfl (by first | omega | (simp only [hM.l1, hM.l2, hM.l3, hM.l4, hM.l5, hM.l6, hM.l7, hM.l8, hM.l9, hM.l10, hM.l11, hM.l12, hM.l13, hM.l14, hM.l15, hM.l16, hM.l17]; omega)) (by first | omega | (simp only [hM.l1, hM.l2, hM.l3, hM.l4, hM.l5, hM.l6, hM.l7, hM.l8, hM.l9, hM.l10, hM.l11, hM.l12, hM.l13, hM.l14, hM.l15, hM.l16, hM.l17]; omega)) dX8_goAll_22 ?_
      refine P_aloadn (i := 0) rfl rfl dX8_goAll_23 ?_
      refine gX8_50 rfl (by first | exact hM.k0 | exact hM.k1 | exact hM.k2 | exact hM.k3 | exact hM.k4 | exact hM.k5 | exact hM.k6 | exact hM.k7 | exact hM.k8 | exact hM.k9 | exact hM.k10 | exact hM.k11 | exact hM.k12 | exact hM.k13 | exact hM.k14 | exact hM.k15 | exact hM.k16 | exact hM.k17) hM.r272 dX8_goAll_24 ?_
      refine P_iconst (v := 0) rfl dX8_goAll_27 ?_
      refine P_iconst (v := 0) rfl dX8_goAll_28 ?_
      refine P_isN (j := 0) (by first | exact hM.k0 | exact hM.k1 | exact hM.k2 | exact hM.k3 | exact hM.k4 | exact hM.k5 | exact hM.k6 | exact hM.k7 | exact hM.k8 | exact hM.k9 | exact hM.k10 | exact hM.k11 | exact hM.k12 | exact hM.k13 | exact hM.k14 | exact hM.k15 | exact hM.k16 | exact hM.k17) rfl (by first | omega | (simp only [hM.l1, hM.l2, hM.l3, hM.l4, hM.l5, hM.l6, hM.l7, hM.l8, hM.l9, hM.l10, hM.l11, hM.l12, hM.l13, hM.l14, hM.l15, hM.l16, hM.l17]; omega)) (by first | omega | (simp only [hM.l1, hM.l2, hM.l3, hM.l4, hM.l5, hM.l6, hM.l7, hM.l8, hM.l9, hM.l10, hM.l11, hM.l12, hM.l13, hM.l14, hM.l15, hM.l16, hM.l17]; omega)) dX8_goAll_29 ?_
      refine P_iconst (v := 0) rfl dX8_goAll_30 ?_
      refine P_is4 (Or.inr dX8_goAll_31) rfl rfl ?_
      refine loop l.length 0 (by omega) _ _ [(nn size, 0)] rfl ⟨?_, ?_⟩ ?_ ?_ (p_up_eq _ _ _ _) ?_ ?_ ?_
      · show (nn size + 7) / 8 + 0 ≤ 500
        have := hsz.nn; omega
      · intro x hx
        rw [List.mem_singleton.mp hx]
        have := hsz.nn
        exact ⟨hs1, by show nn size ≤ 4000; omega, Nat.le_refl _⟩
      · intro j a h7 h8
        exact (p_up_of h8).trans (hF j a h7)
      · intro a ha
        rw [p_up_oth (by omega), p_up_oth (by omega)]
        exact hAo a (by omega)
      · intro i hi
        have hi2 : i < 1 := hi
        have hi0 : i = 0 := by omega
        subst hi0
        exact ⟨(p_up_n1 _ _ _ _ (by omega)).trans ((p_up_eq _ _ _ _).trans hsz.eq), p_up_eq _ _ _ _⟩
      · exact (p_up_n1 _ _ _ _ (by decide)).trans h270
      · intro i hi
        rw [p_up_oth (by omega), p_up_oth (by omega)]
        exact hal i hi
    · exact absurd h6 (by decide)
theorem s_slices (hM : WM L m) (hZ : RZ FI AI m Z) (hI : XI M (zX Z)) {from_ to size : Int32} : Sp g 3 iX8_slices [vr m, vi from_, vi to, vi size] (L, FI, AI, AL, AR) (0, 0) (RZM L FI AI AL AR m Z (some (vi (a_slices (zX Z) from_ to size)))) := by
  refine Sp.of (ls := [some (vr m), some (vi from_), some (vi to), some (vi size)]) (by decide +kernel) rfl rfl ?_
  refine P_iloadn (i := 1) rfl rfl dX8_slices_0 ?_
  refine P_iloadn (i := 2) rfl rfl dX8_slices_1 ?_
  refine kX8_87 rfl s_areNodes (by decide) rfl dX8_slices_2 (fun r2 s2 q2 => ?_)
  obtain ⟨rfl, rfl⟩ := q2
  refine P_ifne dX8_slices_5 (tgt := 10) rfl (fun h5 => ?_) (fun h5 => ?_)
  · refine P_iloadn (i := 3) rfl rfl dX8_slices_10 ?_
    refine P_iconst (v := 1) rfl dX8_slices_11 ?_
    refine P_sipush (v := 4000) rfl dX8_slices_12 ?_
    refine kX8_65 rfl s_X8_in (by decide) rfl dX8_slices_15 (fun r15 s15 q15 => ?_)
    obtain ⟨rfl, rfl⟩ := q15
    refine P_ifne dX8_slices_18 (tgt := 24) rfl (fun h18 => ?_) (fun h18 => ?_)
    · have hpr := b_t h5
      have hfrom : ib from_ 8 := q_ib_iff.mp hpr.1
      have hto : ib to 8 := q_ib_iff.mp hpr.2.1
      have hc := b_t h18
      have hs9 := in_nn (a := 1) (b := 4000) (by decide) (by decide) hc
      have hsz : ib size 4001 := by
        have h1 := hc.1
        have h2 := hc.2
        rw [Int32.le_iff_toInt_le] at h1 h2
        simp only [Int32.reduceToInt] at h1 h2
        exact ⟨by omega, by omega⟩
      refine P_aloadn (i := 0) rfl rfl dX8_slices_24 ?_
      refine P_iloadn (i := 1) rfl rfl dX8_slices_25 ?_
      refine P_iloadn (i := 2) rfl rfl dX8_slices_26 ?_
      refine P_iloadn (i := 3) rfl rfl dX8_slices_27 ?_
      refine kX8_229 rfl (s_goAll hM hZ.x hI hfrom hto hsz hs9.1) (by decide) (by first | exact hM.k0 | exact hM.k1 | exact hM.k2 | exact hM.k3 | exact hM.k4 | exact hM.k5 | exact hM.k6 | exact hM.k7 | exact hM.k8 | exact hM.k9 | exact hM.k10 | exact hM.k11 | exact hM.k12 | exact hM.k13 | exact hM.k14 | exact hM.k15 | exact hM.k16 | exact hM.k17) rfl dX8_slices_28 (fun r28 s28 q28 => ?_)
      obtain ⟨F2, A2, rfl, hF, hAo, hq⟩ := q28
      have hfin := hZ.same (F2 := F2) (A2 := A2) (fun j hj hj5 => hF j m (fun hh => hj hh.1) (fun hh => hj5 hh.1)) (fun j a ha => hF j a (fun hh => ha hh.2) (fun hh => ha hh.2)) (fun a ha => hAo a (by omega))
      rcases hq with hq | hq
      · obtain ⟨hq, rfl⟩ := hq
        have hq : _ ∧ True := ⟨hq, trivial⟩
        refine P_ifeq dX8_slices_31 (tgt := 41) rfl (fun h31 => ?_) (fun h31 => ?_)
        · refine P_bipush (v := (-6)) rfl dX8_slices_41 ?_
          refine P_ireturn rfl dX8_slices_43 ?_
          have hop : a_slices (zX Z) from_ to size = -6 := by
            unfold a_slices
            rw [if_neg (fun hh => hh hpr), if_neg (fun hh => hh hc), hq.1]
          rw [hop]
          exact ⟨_, _, rfl, rfl, hfin⟩
        · exact absurd rfl h31
      · obtain ⟨l, hl, rfl, h275, hh, hok⟩ := hq
        refine P_ifeq dX8_slices_31 (tgt := 41) rfl (fun h31 => ?_) (fun h31 => ?_)
        · exact absurd h31 (by decide)
        · refine P_aloadn (i := 0) rfl rfl dX8_slices_34 ?_
          refine gX8_223 rfl (by first | exact hM.k0 | exact hM.k1 | exact hM.k2 | exact hM.k3 | exact hM.k4 | exact hM.k5 | exact hM.k6 | exact hM.k7 | exact hM.k8 | exact hM.k9 | exact hM.k10 | exact hM.k11 | exact hM.k12 | exact hM.k13 | exact hM.k14 | exact hM.k15 | exact hM.k16 | exact hM.k17) h275 dX8_slices_35 ?_
          refine P_goto dX8_slices_38 (tgt := 43) rfl ?_
          refine P_ireturn rfl dX8_slices_43 ?_
          have hop : a_slices (zX Z) from_ to size = Int32.ofNat (w_all (zX Z) l [(nn size, 0)]).length := by
            unfold a_slices
            rw [if_neg (fun hh => hh hpr), if_neg (fun hh => hh hc), hl]
          rw [hop]
          exact ⟨_, _, rfl, rfl, hfin⟩
    · refine P_bipush (v := (-2)) rfl dX8_slices_21 ?_
      refine P_ireturn rfl dX8_slices_23 ?_
      rw [show a_slices (zX Z) from_ to size = -2 from (if_neg (fun hh => hh (b_t h5))).trans (if_pos (b_f h18))]
      exact ⟨_, _, rfl, rfl, FrM.rf, hZ⟩
  · refine P_iconst (v := (-1)) rfl dX8_slices_8 ?_
    refine P_ireturn rfl dX8_slices_9 ?_
    rw [show a_slices (zX Z) from_ to size = -1 from if_pos (b_f h5)]
    exact ⟨_, _, rfl, rfl, FrM.rf, hZ⟩
theorem s_time (hM : WM L m) (hZ : RZ FI AI m Z) (hI : XI M (zX Z)) {from_ to size : Int32} : Sp g 3 iX8_time [vr m, vi from_, vi to, vi size] (L, FI, AI, AL, AR) (0, 0) (RZM L FI AI AL AR m Z (some (vi (a_time (zX Z) from_ to size)))) := by
  refine Sp.of (ls := [some (vr m), some (vi from_), some (vi to), some (vi size), none, none]) (by decide +kernel) rfl rfl ?_
  refine P_iloadn (i := 1) rfl rfl dX8_time_0 ?_
  refine P_iloadn (i := 2) rfl rfl dX8_time_1 ?_
  refine kX8_87 rfl s_areNodes (by decide) rfl dX8_time_2 (fun r2 s2 q2 => ?_)
  obtain ⟨rfl, rfl⟩ := q2
  refine P_ifne dX8_time_5 (tgt := 10) rfl (fun h5 => ?_) (fun h5 => ?_)
  · refine P_iloadn (i := 3) rfl rfl dX8_time_10 ?_
    refine P_iconst (v := 1) rfl dX8_time_11 ?_
    refine P_sipush (v := 4000) rfl dX8_time_12 ?_
    refine kX8_65 rfl s_X8_in (by decide) rfl dX8_time_15 (fun r15 s15 q15 => ?_)
    obtain ⟨rfl, rfl⟩ := q15
    refine P_ifne dX8_time_18 (tgt := 24) rfl (fun h18 => ?_) (fun h18 => ?_)
    · have hpr := b_t h5
      have hfrom : ib from_ 8 := q_ib_iff.mp hpr.1
      have hto : ib to 8 := q_ib_iff.mp hpr.2.1
      have hc := b_t h18
      have hs9 := in_nn (a := 1) (b := 4000) (by decide) (by decide) hc
      have hsz : ib size 4001 := by
        have h1 := hc.1
        have h2 := hc.2
        rw [Int32.le_iff_toInt_le] at h1 h2
        simp only [Int32.reduceToInt] at h1 h2
        exact ⟨by omega, by omega⟩
      refine P_aloadn (i := 0) rfl rfl dX8_time_24 ?_
      refine P_iloadn (i := 1) rfl rfl dX8_time_25 ?_
      refine P_iloadn (i := 2) rfl rfl dX8_time_26 ?_
      refine P_iloadn (i := 3) rfl rfl dX8_time_27 ?_
      refine kX8_229 rfl (s_goAll hM hZ.x hI hfrom hto hsz hs9.1) (by decide) (by first | exact hM.k0 | exact hM.k1 | exact hM.k2 | exact hM.k3 | exact hM.k4 | exact hM.k5 | exact hM.k6 | exact hM.k7 | exact hM.k8 | exact hM.k9 | exact hM.k10 | exact hM.k11 | exact hM.k12 | exact hM.k13 | exact hM.k14 | exact hM.k15 | exact hM.k16 | exact hM.k17) rfl dX8_time_28 (fun r28 s28 q28 => ?_)
      obtain ⟨F2, A2, rfl, hF, hAo, hq⟩ := q28
      have hfin := hZ.same (F2 := F2) (A2 := A2) (fun j hj hj5 => hF j m (fun hh => hj hh.1) (fun hh => hj5 hh.1)) (fun j a ha => hF j a (fun hh => ha hh.2) (fun hh => ha hh.2)) (fun a ha => hAo a (by omega))
      rcases hq with hq | hq
      · obtain ⟨hq, rfl⟩ := hq
        have hq : _ ∧ True := ⟨hq, trivial⟩
        refine P_ifne dX8_time_31 (tgt := 37) rfl (fun h31 => ?_) (fun h31 => ?_)
        · exact absurd rfl h31
        · refine P_bipush (v := (-6)) rfl dX8_time_34 ?_
          refine P_ireturn rfl dX8_time_36 ?_
          have hop : a_time (zX Z) from_ to size = -6 := by
            unfold a_time
            rw [if_neg (fun hh => hh hpr), if_neg (fun hh => hh hc), hq.1]
          rw [hop]
          exact ⟨_, _, rfl, rfl, hfin⟩
      · obtain ⟨l, hl, rfl, h275, hh, hok⟩ := hq
        have hop : a_time (zX Z) from_ to size = Int32.ofNat (w_mx (w_all (zX Z) l [(nn size, 0)]) (w_all (zX Z) l [(nn size, 0)]).length) := by
          unfold a_time
          rw [if_neg (fun hh => hh hpr), if_neg (fun hh => hh hc), hl]
        have hlen := hok.len
        have loop : ∀ n k : Nat, k + n = (w_all (zX Z) l [(nn size, 0)]).length → P g 3 iX8_time 43 [some (vr m), some (vi from_), some (vi to), some (vi size), some (vi (Int32.ofNat (w_mx (w_all (zX Z) l [(nn size, 0)]) k))), some (vi (Int32.ofNat k))] [] (L, F2, A2, AL, AR) (0, 0) (RZM L FI AI AL AR m Z (some (vi (a_time (zX Z) from_ to size)))) := by
          intro n
          induction n with
          | zero =>
            intro k hk
            refine P_iload (i := 5) rfl dX8_time_43 ?_
            refine P_aloadn (i := 0) rfl rfl dX8_time_45 ?_
            refine gX8_223 rfl (by first | exact hM.k0 | exact hM.k1 | exact hM.k2 | exact hM.k3 | exact hM.k4 | exact hM.k5 | exact hM.k6 | exact hM.k7 | exact hM.k8 | exact hM.k9 | exact hM.k10 | exact hM.k11 | exact hM.k12 | exact hM.k13 | exact hM.k14 | exact hM.k15 | exact hM.k16 | exact hM.k17) h275 dX8_time_46 ?_
            refine P_icmpge dX8_time_49 (tgt := 84) rfl (fun h49 => ?_) (fun h49 => absurd ((n_le (a := (w_all (zX Z) l [(nn size, 0)]).length) (b := k) (by omega) (by omega)).mpr (by omega)) h49)
            refine P_iload (i := 4) rfl dX8_time_84 ?_
            refine P_ireturn rfl dX8_time_86 ?_
            rw [hop]
            exact ⟨_, _, rfl, by rw [show (w_all (zX Z) l [(nn size, 0)]).length = k by omega], hfin⟩
          | succ n ih =>
            intro k hk
            have hm1 := w_mx_le hok k (by omega)
            have hm2 := (hok.2 ((w_all (zX Z) l [(nn size, 0)]).getD k (0, 0)) (by rw [List.getD_eq_getElem?_getD, List.getElem?_eq_getElem (by omega)]; exact List.getElem_mem _)).2.2
            refine P_iload (i := 5) rfl dX8_time_43 ?_
            refine P_aloadn (i := 0) rfl rfl dX8_time_45 ?_
            refine gX8_223 rfl (by first | exact hM.k0 | exact hM.k1 | exact hM.k2 | exact hM.k3 | exact hM.k4 | exact hM.k5 | exact hM.k6 | exact hM.k7 | exact hM.k8 | exact hM.k9 | exact hM.k10 | exact hM.k11 | exact hM.k12 | exact hM.k13 | exact hM.k14 | exact hM.k15 | exact hM.k16 | exact hM.k17) h275 dX8_time_46 ?_
            refine P_icmpge dX8_time_49 (tgt := 84) rfl (fun h49 => absurd h49 (fun h8 => by have h7 := (n_le (a := (w_all (zX Z) l [(nn size, 0)]).length) (b := k) (by omega) (by omega)).mp h8; omega)) (fun h49 => ?_)
            refine P_aloadn (i := 0) rfl rfl dX8_time_52 ?_
            refine gX8_50 rfl (by first | exact hM.k0 | exact hM.k1 | exact hM.k2 | exact hM.k3 | exact hM.k4 | exact hM.k5 | exact hM.k6 | exact hM.k7 | exact hM.k8 | exact hM.k9 | exact hM.k10 | exact hM.k11 | exact hM.k12 | exact hM.k13 | exact hM.k14 | exact hM.k15 | exact hM.k16 | exact hM.k17) hM.r272 dX8_time_53 ?_
            refine P_iload (i := 5) rfl dX8_time_56 ?_
            refine P_iaN (j := k) (by first | exact hM.k0 | exact hM.k1 | exact hM.k2 | exact hM.k3 | exact hM.k4 | exact hM.k5 | exact hM.k6 | exact hM.k7 | exact hM.k8 | exact hM.k9 | exact hM.k10 | exact hM.k11 | exact hM.k12 | exact hM.k13 | exact hM.k14 | exact hM.k15 | exact hM.k16 | exact hM.k17) rfl (by first | omega | (simp only [hM.l1, hM.l2, hM.l3, hM.l4, hM.l5, hM.l6, hM.l7, hM.l8, hM.l9, hM.l10, hM.l11, hM.l12, hM.l13, hM.l14, hM.l15, hM.l16, hM.l17]; omega)) (by first | omega | (simp only [hM.l1, hM.l2, hM.l3, hM.l4, hM.l5, hM.l6, hM.l7, hM.l8, hM.l9, hM.l10, hM.l11, hM.l12, hM.l13, hM.l14, hM.l15, hM.l16, hM.l17]; omega)) (hh k (by omega)).2 dX8_time_58 ?_
            refine P_iload (i := 4) rfl dX8_time_59 ?_
            refine P_icmple dX8_time_61 (tgt := 74) rfl (fun h61 => ?_) (fun h61 => ?_)
            · refine P_iload (i := 4) rfl dX8_time_74 ?_
              refine P_is4 (Or.inr dX8_time_76) rfl rfl ?_
              refine P_inN5 dX8_time_78 rfl rfl ?_
              refine P_goto dX8_time_81 (tgt := 43) rfl ?_
              have e2 := ih (k + 1) (by omega)
              rw [show w_mx (w_all (zX Z) l [(nn size, 0)]) (k + 1) = w_mx (w_all (zX Z) l [(nn size, 0)]) k from if_neg (fun h8 => by have h7 := (n_le (by omega) (by omega)).mp h61; omega)] at e2
              exact e2
            · refine P_aloadn (i := 0) rfl rfl dX8_time_64 ?_
              refine gX8_50 rfl (by first | exact hM.k0 | exact hM.k1 | exact hM.k2 | exact hM.k3 | exact hM.k4 | exact hM.k5 | exact hM.k6 | exact hM.k7 | exact hM.k8 | exact hM.k9 | exact hM.k10 | exact hM.k11 | exact hM.k12 | exact hM.k13 | exact hM.k14 | exact hM.k15 | exact hM.k16 | exact hM.k17) hM.r272 dX8_time_65 ?_
              refine P_iload (i := 5) rfl dX8_time_68 ?_
              refine P_iaN (j := k) (by first | exact hM.k0 | exact hM.k1 | exact hM.k2 | exact hM.k3 | exact hM.k4 | exact hM.k5 | exact hM.k6 | exact hM.k7 | exact hM.k8 | exact hM.k9 | exact hM.k10 | exact hM.k11 | exact hM.k12 | exact hM.k13 | exact hM.k14 | exact hM.k15 | exact hM.k16 | exact hM.k17) rfl (by first | omega | (simp only [hM.l1, hM.l2, hM.l3, hM.l4, hM.l5, hM.l6, hM.l7, hM.l8, hM.l9, hM.l10, hM.l11, hM.l12, hM.l13, hM.l14, hM.l15, hM.l16, hM.l17]; omega)) (by first | omega | (simp only [hM.l1, hM.l2, hM.l3, hM.l4, hM.l5, hM.l6, hM.l7, hM.l8, hM.l9, hM.l10, hM.l11, hM.l12, hM.l13, hM.l14, hM.l15, hM.l16, hM.l17]; omega)) (hh k (by omega)).2 dX8_time_70 ?_
              refine P_goto dX8_time_71 (tgt := 76) rfl ?_
              refine P_is4 (Or.inr dX8_time_76) rfl rfl ?_
              refine P_inN5 dX8_time_78 rfl rfl ?_
              refine P_goto dX8_time_81 (tgt := 43) rfl ?_
              have e2 := ih (k + 1) (by omega)
              rw [show w_mx (w_all (zX Z) l [(nn size, 0)]) (k + 1) = ((w_all (zX Z) l [(nn size, 0)]).getD k (0, 0)).2 from if_pos (by have h7 : ¬ ((w_all (zX Z) l [(nn size, 0)]).getD k (0, 0)).2 ≤ w_mx (w_all (zX Z) l [(nn size, 0)]) k := fun h8 => h61 ((n_le (by omega) (by omega)).mpr h8); omega)] at e2
              exact e2
        refine P_ifne dX8_time_31 (tgt := 37) rfl (fun h31 => ?_) (fun h31 => ?_)
        · refine P_iconst (v := 0) rfl dX8_time_37 ?_
          refine P_is4 (Or.inr dX8_time_38) rfl rfl ?_
          refine P_iconst (v := 0) rfl dX8_time_40 ?_
          refine P_is5 (Or.inr dX8_time_41) rfl rfl ?_
          exact loop (w_all (zX Z) l [(nn size, 0)]).length 0 (by omega)
        · exact absurd h31 (by decide)
    · refine P_bipush (v := (-2)) rfl dX8_time_21 ?_
      refine P_ireturn rfl dX8_time_23 ?_
      rw [show a_time (zX Z) from_ to size = -2 from (if_neg (fun hh => hh (b_t h5))).trans (if_pos (b_f h18))]
      exact ⟨_, _, rfl, rfl, FrM.rf, hZ⟩
  · refine P_iconst (v := (-1)) rfl dX8_time_8 ?_
    refine P_ireturn rfl dX8_time_9 ?_
    rw [show a_time (zX Z) from_ to size = -1 from if_pos (b_f h5)]
    exact ⟨_, _, rfl, rfl, FrM.rf, hZ⟩
end Ref17
