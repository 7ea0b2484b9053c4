/-- how many of the first n parcels have a first slice -/
def x_cntF (P : Nat → Nat → Int32) : Nat → Nat
  | 0 => 0
  | n + 1 => x_cntF P n + (if 0 ≤ P n 9 then 1 else 0)
theorem x_best_spec (P : Nat → Nat → Int32) (node : Int32) : ∀ n, n < 1000 → (x_best P node n = -6 ∧ ∀ p, p < n → ¬ (P p 1 = node ∧ 0 ≤ P p 9)) ∨ ∃ b, b < n ∧ x_best P node n = Int32.ofNat b ∧ P b 1 = node ∧ 0 ≤ P b 9 := by
  intro n
  induction n with
  | zero => intro _; exact Or.inl ⟨rfl, fun p hp => by omega⟩
  | succ n ih =>
    intro hn
    have ih := ih (by omega)
    unfold x_best
    by_cases c : (P n 1 = node ∧ 0 ≤ P n 9) ∧ (x_best P node n < 0 ∨ P n 9 < P (nn (x_best P node n)) 9)
    · rw [if_pos c]
      exact Or.inr ⟨n, by omega, rfl, c.1.1, c.1.2⟩
    · rw [if_neg c]
      rcases ih with ⟨h1, h2⟩ | ⟨b, h1, h2, h3, h4⟩
      · refine Or.inl ⟨h1, fun p hp hc => ?_⟩
        by_cases e : p = n
        · subst e
          exact c ⟨hc, Or.inl (by rw [h1]; decide)⟩
        · exact h2 p (by omega) hc
      · exact Or.inr ⟨b, by omega, h2, h3, h4⟩
theorem x_bytes_zero {P : Nat → Nat → Int32} {node : Int32} : ∀ n, (∀ p, p < n → P p 1 = node → P p 12 = 0) → x_bytes P node n = 0 := by
  intro n
  induction n with
  | zero => intro _; rfl
  | succ n ih =>
    intro h
    rw [x_bytes_s, ih (fun p hp => h p (by omega))]
    by_cases c : P n 1 = node
    · rw [if_pos c, h n (by omega) c]; rfl
    · rw [if_neg c]; rfl
theorem x_cntF_pos {P : Nat → Nat → Int32} : ∀ n p, p < n → 0 ≤ P p 9 → 0 < x_cntF P n := by
  intro n
  induction n with
  | zero => intro p hp; omega
  | succ n ih =>
    intro p hp h
    unfold x_cntF
    by_cases e : p = n
    · subst e
      rw [if_pos h]; omega
    · have := ih p (by omega) h
      omega
theorem x_cntF_same {P P2 : Nat → Nat → Int32} : ∀ n, (∀ p, p < n → P2 p 9 = P p 9) → x_cntF P2 n = x_cntF P n := by
  intro n
  induction n with
  | zero => intro _; rfl
  | succ n ih =>
    intro h
    unfold x_cntF
    rw [ih (fun p hp => h p (by omega)), h n (by omega)]
theorem x_cntF_less {P P2 : Nat → Nat → Int32} {b : Nat} (hb : 0 ≤ P b 9) (h2 : P2 b 9 = -6) (ho : ∀ p, p ≠ b → P2 p 9 = P p 9) : ∀ n, b < n → x_cntF P2 n + 1 = x_cntF P n := by
  intro n
  induction n with
  | zero => intro h; omega
  | succ n ih =>
    intro h
    unfold x_cntF
    by_cases e : b = n
    · subst e
      rw [if_pos hb, h2, if_neg (by decide), x_cntF_same b (fun p hp => ho p (by omega))]
    · have h3 := ih (by omega)
      rw [ho n (fun h => e h.symm)]
      omega
theorem x_cntF_le (P : Nat → Nat → Int32) : ∀ n, x_cntF P n ≤ n := by
  intro n
  induction n with
  | zero => exact Nat.le_refl _
  | succ n ih =>
    unfold x_cntF
    split <;> omega
theorem x_end_p (X : XW) (p : Nat) (st : Int32) (q k : Nat) : xP (x_end X p st) q k = if q = p then (if k = 8 then -6 else if k = 9 then -6 else if k = 12 then 0 else if k = 10 then xG X 0 else if k = 5 then st else xP X q k) else xP X q k := by
  show p_up (p_up (p_up (p_up (p_up (xP X) p 5 st) p 10 (xG X 0)) p 12 0) p 9 (-6)) p 8 (-6) q k = _
  simp only [p_up_at]
  by_cases e : q = p
  · simp [e]
  · simp [e]
section Ref5
variable {g : PG} {L : PL} {FI AI : Nat → Nat → Int32} {AL : Nat → Nat → Int64} {AR : Nat → Nat → Option Nat} {m : Nat} {X : XW}
theorem s_makeSpace (hM : WM L m) (hA : RA AI m X) {node : Int32} (hn8 : ib node 8) (hsp : 0 ≤ xN X (nn node) 2) (hH : ∀ p, p < xp X → ¬ xP X p 12 = 0 → 0 ≤ xP X p 9) : Sp g 3 iX8_makeSpace [vr m, vi node] (L, FI, AI, AL, AR) (0, 0) (RM L FI AI AL AR m (x_space node 40 X) none) := by
  refine Sp.of (ls := [some (vr m), some (vi node), none, none, none]) (by decide +kernel) rfl rfl ?_
  have main : ∀ n, ∀ (Y : XW) (A : Nat → Nat → Int32), FA m AI A → RA A m Y → 0 ≤ xN Y (nn node) 2 → (∀ p, p < xp Y → ¬ xP Y p 12 = 0 → 0 ≤ xP Y p 9) → x_cntF (xP Y) (xp Y) ≤ n → P g 3 iX8_makeSpace 0 [some (vr m), some (vi node), none, none, none] [] (L, FI, A, AL, AR) (0, 0) (RM L FI AI AL AR m (x_space node n Y) none) := by
    intro n
    induction n with
    | zero =>
      intro Y A hFB hB hsp hH hcn
      refine P_aloadn (i := 0) rfl rfl dX8_makeSpace_0 ?_
      refine P_iloadn (i := 1) rfl rfl dX8_makeSpace_1 ?_
      refine kX8_148 rfl (s_bytesAt hM hB) (by decide) (by first | exact hM.k0 | exact hM.k1 | exact hM.k2 | exact hM.k3 | exact hM.k4 | exact hM.k5 | exact hM.k6 | exact hM.k7 | exact hM.k8 | exact hM.k9 | exact hM.k10 | exact hM.k11 | exact hM.k12 | exact hM.k13 | exact hM.k14 | exact hM.k15 | exact hM.k16 | exact hM.k17) rfl dX8_makeSpace_2 (fun r2 s2 q2 => ?_)
      obtain ⟨rfl, rfl⟩ := q2
      refine P_aloadn (i := 0) rfl rfl dX8_makeSpace_5 ?_
      refine P_iloadn (i := 1) rfl rfl dX8_makeSpace_6 ?_
      refine P_iconst (v := 2) rfl dX8_makeSpace_7 ?_
      refine kX8_152 rfl (s_ofN hM hB (k := 2) hn8 rfl (by decide)) (by decide) (by first | exact hM.k0 | exact hM.k1 | exact hM.k2 | exact hM.k3 | exact hM.k4 | exact hM.k5 | exact hM.k6 | exact hM.k7 | exact hM.k8 | exact hM.k9 | exact hM.k10 | exact hM.k11 | exact hM.k12 | exact hM.k13 | exact hM.k14 | exact hM.k15 | exact hM.k16 | exact hM.k17) rfl dX8_makeSpace_8 (fun r8 s8 q8 => ?_)
      obtain ⟨rfl, rfl⟩ := q8
      refine P_icmple dX8_makeSpace_11 (tgt := 103) rfl (fun h11 => ?_) (fun h11 => absurd (Int32.not_lt.mp (fun h => by rw [x_bytes_zero (xp Y) (fun p hp hpn => Decidable.byContradiction fun hne => by have h8 := x_cntF_pos (P := xP Y) (xp Y) p hp (hH p hp hne); omega)] at h; exact absurd hsp (Int32.not_le.mpr h))) h11)
      refine P_return rfl dX8_makeSpace_103 ?_
      exact ⟨A, rfl, rfl, hFB, hB⟩
    | succ n ihn =>
      intro Y A hFB hB hsp hH hcn
      have hp40 := hB.p40
      refine P_aloadn (i := 0) rfl rfl dX8_makeSpace_0 ?_
      refine P_iloadn (i := 1) rfl rfl dX8_makeSpace_1 ?_
      refine kX8_148 rfl (s_bytesAt hM hB) (by decide) (by first | exact hM.k0 | exact hM.k1 | exact hM.k2 | exact hM.k3 | exact hM.k4 | exact hM.k5 | exact hM.k6 | exact hM.k7 | exact hM.k8 | exact hM.k9 | exact hM.k10 | exact hM.k11 | exact hM.k12 | exact hM.k13 | exact hM.k14 | exact hM.k15 | exact hM.k16 | exact hM.k17) rfl dX8_makeSpace_2 (fun r2 s2 q2 => ?_)
      obtain ⟨rfl, rfl⟩ := q2
      refine P_aloadn (i := 0) rfl rfl dX8_makeSpace_5 ?_
      refine P_iloadn (i := 1) rfl rfl dX8_makeSpace_6 ?_
      refine P_iconst (v := 2) rfl dX8_makeSpace_7 ?_
      refine kX8_152 rfl (s_ofN hM hB (k := 2) hn8 rfl (by decide)) (by decide) (by first | exact hM.k0 | exact hM.k1 | exact hM.k2 | exact hM.k3 | exact hM.k4 | exact hM.k5 | exact hM.k6 | exact hM.k7 | exact hM.k8 | exact hM.k9 | exact hM.k10 | exact hM.k11 | exact hM.k12 | exact hM.k13 | exact hM.k14 | exact hM.k15 | exact hM.k16 | exact hM.k17) rfl dX8_makeSpace_8 (fun r8 s8 q8 => ?_)
      obtain ⟨rfl, rfl⟩ := q8
      refine P_icmple dX8_makeSpace_11 (tgt := 103) rfl (fun h11 => ?_) (fun h11 => ?_)
      · refine P_return rfl dX8_makeSpace_103 ?_
        exact ⟨A, rfl, rfl, hFB, by unfold x_space; rw [if_neg (Int32.not_lt.mpr h11)]; exact hB⟩
      · have hgt := Int32.not_le.mp h11
        have hsx : x_space node (n + 1) Y = x_space node n (x_end Y (nn (x_best (xP Y) node (xp Y))) 4) := by
          show (if _ then _ else _) = _
          rw [if_pos hgt]
        obtain ⟨b0, e1, e2, e3, e4⟩ : ∃ b, b < xp Y ∧ x_best (xP Y) node (xp Y) = Int32.ofNat b ∧ xP Y b 1 = node ∧ 0 ≤ xP Y b 9 := by
          rcases x_best_spec (xP Y) node (xp Y) (by omega) with ⟨_, e9⟩ | h
          · rw [x_bytes_zero (xp Y) (fun p hp hpn => Decidable.byContradiction fun hne => e9 p hp ⟨hpn, hH p hp hne⟩)] at hgt
            exact absurd hsp (Int32.not_le.mpr hgt)
          · exact h
        have hbb : ib (x_best (xP Y) node (xp Y)) (xp Y) := by rw [e2]; exact ib.of e1 (by omega)
        refine P_bipush (v := (-6)) rfl dX8_makeSpace_14 ?_
        refine P_is2 (Or.inl dX8_makeSpace_16) rfl rfl ?_
        refine P_iconst (v := 0) rfl dX8_makeSpace_17 ?_
        refine P_is3 (Or.inl dX8_makeSpace_18) rfl rfl ?_
        have loop : ∀ n1 i, i + n1 = xp Y → P g 3 iX8_makeSpace 19 [some (vr m), some (vi node), some (vi (x_best (xP Y) node i)), some (vi (Int32.ofNat i)), none] [] (L, FI, A, AL, AR) (0, 0) (RM L FI AI AL AR m (x_space node (n + 1) Y) none) := by
          intro n1
          induction n1 with
          | zero =>
            intro i hi
            have e : i = xp Y := (by omega)
            subst e
            refine P_iloadn (i := 3) rfl rfl dX8_makeSpace_19 ?_
            refine P_aloadn (i := 0) rfl rfl dX8_makeSpace_20 ?_
            refine gX8_7 rfl (by first | exact hM.k0 | exact hM.k1 | exact hM.k2 | exact hM.k3 | exact hM.k4 | exact hM.k5 | exact hM.k6 | exact hM.k7 | exact hM.k8 | exact hM.k9 | exact hM.k10 | exact hM.k11 | exact hM.k12 | exact hM.k13 | exact hM.k14 | exact hM.k15 | exact hM.k16 | exact hM.k17) hM.r256 dX8_makeSpace_21 ?_
            refine P_iconst (v := 2) rfl dX8_makeSpace_24 ?_
            refine P_iaN (j := 2) (by first | exact hM.k0 | exact hM.k1 | exact hM.k2 | exact hM.k3 | exact hM.k4 | exact hM.k5 | exact hM.k6 | exact hM.k7 | exact hM.k8 | exact hM.k9 | exact hM.k10 | exact hM.k11 | exact hM.k12 | exact hM.k13 | exact hM.k14 | exact hM.k15 | exact hM.k16 | exact hM.k17) rfl (by first | omega | (simp only [hM.l1, hM.l2, hM.l3, hM.l4, hM.l5, hM.l6, hM.l7, hM.l8, hM.l9, hM.l10, hM.l11, hM.l12, hM.l13, hM.l14, hM.l15, hM.l16, hM.l17]; omega)) (by first | omega | (simp only [hM.l1, hM.l2, hM.l3, hM.l4, hM.l5, hM.l6, hM.l7, hM.l8, hM.l9, hM.l10, hM.l11, hM.l12, hM.l13, hM.l14, hM.l15, hM.l16, hM.l17]; omega)) hB.np dX8_makeSpace_25 ?_
            refine P_icmpge dX8_makeSpace_26 (tgt := 94) rfl (fun h26 => ?_) (fun h26 => absurd ((n_le (by omega) (by omega)).mpr (by omega)) h26)
            refine P_aloadn (i := 0) rfl rfl dX8_makeSpace_94 ?_
            refine P_iloadn (i := 2) rfl rfl dX8_makeSpace_95 ?_
            refine P_iconst (v := 4) rfl dX8_makeSpace_96 ?_
            refine kX8_155 rfl (s_end hM hB hbb) (by decide) (by first | exact hM.k0 | exact hM.k1 | exact hM.k2 | exact hM.k3 | exact hM.k4 | exact hM.k5 | exact hM.k6 | exact hM.k7 | exact hM.k8 | exact hM.k9 | exact hM.k10 | exact hM.k11 | exact hM.k12 | exact hM.k13 | exact hM.k14 | exact hM.k15 | exact hM.k16 | exact hM.k17) rfl dX8_makeSpace_97 (fun r97 s97 q97 => ?_)
            obtain ⟨A2, rfl, rfl, hF2, hA2⟩ := q97
            refine P_goto dX8_makeSpace_100 (tgt := 0) rfl ?_
            refine P_few (ls2 := [some (vr m), some (vi node), none, none, none]) ⟨rfl, rfl, trivial⟩ ?_
            refine P.mono (fun r s hq => ?_) (ihn (x_end Y (nn (x_best (xP Y) node (xp Y))) 4) A2 (hFB.tr hF2) hA2 hsp ?_ ?_)
            · obtain ⟨A3, e1, e2, e3, e4⟩ := hq
              exact ⟨A3, e1, e2, e3, by rw [hsx]; exact e4⟩
            · intro p hp hne
              rw [x_end_p] at hne ⊢
              by_cases e : p = nn (x_best (xP Y) node (xp Y))
              · rw [if_pos e] at hne
                exact absurd rfl hne
              · rw [if_neg e] at hne ⊢
                exact hH p hp hne
            · have h7 := x_cntF_less (P := xP Y) (P2 := xP (x_end Y (nn (x_best (xP Y) node (xp Y))) 4)) (b := b0) e4 (by rw [x_end_p, if_pos (by rw [e2, n_nn (by omega)])]; rfl) (fun p hp => by rw [x_end_p, if_neg (by rw [e2, n_nn (by omega)]; exact hp)]) (xp Y) e1
              show x_cntF _ (xp Y) ≤ n
              omega
          | succ n1 ih =>
            intro i hi
            refine P_iloadn (i := 3) rfl rfl dX8_makeSpace_19 ?_
            refine P_aloadn (i := 0) rfl rfl dX8_makeSpace_20 ?_
            refine gX8_7 rfl (by first | exact hM.k0 | exact hM.k1 | exact hM.k2 | exact hM.k3 | exact hM.k4 | exact hM.k5 | exact hM.k6 | exact hM.k7 | exact hM.k8 | exact hM.k9 | exact hM.k10 | exact hM.k11 | exact hM.k12 | exact hM.k13 | exact hM.k14 | exact hM.k15 | exact hM.k16 | exact hM.k17) hM.r256 dX8_makeSpace_21 ?_
            refine P_iconst (v := 2) rfl dX8_makeSpace_24 ?_
            refine P_iaN (j := 2) (by first | exact hM.k0 | exact hM.k1 | exact hM.k2 | exact hM.k3 | exact hM.k4 | exact hM.k5 | exact hM.k6 | exact hM.k7 | exact hM.k8 | exact hM.k9 | exact hM.k10 | exact hM.k11 | exact hM.k12 | exact hM.k13 | exact hM.k14 | exact hM.k15 | exact hM.k16 | exact hM.k17) rfl (by first | omega | (simp only [hM.l1, hM.l2, hM.l3, hM.l4, hM.l5, hM.l6, hM.l7, hM.l8, hM.l9, hM.l10, hM.l11, hM.l12, hM.l13, hM.l14, hM.l15, hM.l16, hM.l17]; omega)) (by first | omega | (simp only [hM.l1, hM.l2, hM.l3, hM.l4, hM.l5, hM.l6, hM.l7, hM.l8, hM.l9, hM.l10, hM.l11, hM.l12, hM.l13, hM.l14, hM.l15, hM.l16, hM.l17]; omega)) hB.np dX8_makeSpace_25 ?_
            refine P_icmpge dX8_makeSpace_26 (tgt := 94) rfl (fun h26 => absurd h26 (fun h9 => by rw [n_le (by omega) (by omega)] at h9; omega)) (fun h26 => ?_)
            refine P_aloadn (i := 0) rfl rfl dX8_makeSpace_29 ?_
            refine P_iloadn (i := 3) rfl rfl dX8_makeSpace_30 ?_
            refine P_iconst (v := 1) rfl dX8_makeSpace_31 ?_
            refine kX8_102 rfl (s_ofP hM hB (k := 1) (by exact ib.of (by omega) (by omega)) rfl (by decide)) (by decide) (by first | exact hM.k0 | exact hM.k1 | exact hM.k2 | exact hM.k3 | exact hM.k4 | exact hM.k5 | exact hM.k6 | exact hM.k7 | exact hM.k8 | exact hM.k9 | exact hM.k10 | exact hM.k11 | exact hM.k12 | exact hM.k13 | exact hM.k14 | exact hM.k15 | exact hM.k16 | exact hM.k17) rfl dX8_makeSpace_32 (fun r32 s32 q32 => ?_)
            obtain ⟨rfl, rfl⟩ := q32
            refine P_iloadn (i := 1) rfl rfl dX8_makeSpace_35 ?_
            refine P_icmpne dX8_makeSpace_36 (tgt := 53) rfl (fun h36 => ?_) (fun h36 => ?_)
            · refine P_iconst (v := 0) rfl dX8_makeSpace_53 ?_
              refine P_is4 (Or.inr dX8_makeSpace_54) rfl rfl ?_
              refine P_iload (i := 4) rfl dX8_makeSpace_56 ?_
              refine P_ifeq dX8_makeSpace_58 (tgt := 86) rfl (fun h58 => ?_) (fun h58 => absurd (rfl) h58)
              refine P_iloadn (i := 2) rfl rfl dX8_makeSpace_86 ?_
              refine P_is2 (Or.inl dX8_makeSpace_87) rfl rfl ?_
              refine P_inN3 dX8_makeSpace_88 rfl rfl ?_
              refine P_goto dX8_makeSpace_91 (tgt := 19) rfl ?_
              refine P_few (ls2 := [some (vr m), some (vi node), some (vi (x_best (xP Y) node (i + 1))), some (vi (Int32.ofNat (i + 1))), none]) ⟨rfl, rfl, congrArg (fun z => some (vi z)) (show x_best (xP Y) node i = x_best (xP Y) node (i + 1) from (if_neg (show ¬ ((xP Y i 1 = node ∧ 0 ≤ xP Y i 9) ∧ (x_best (xP Y) node i < 0 ∨ xP Y i 9 < xP Y (nn (x_best (xP Y) node i)) 9)) from fun hh => h36 (by rw [n_nn (j := i) (by omega)]; exact hh.1.1))).symm), rfl, trivial⟩ (ih (i + 1) (by omega))
            · refine P_aloadn (i := 0) rfl rfl dX8_makeSpace_39 ?_
              refine P_iloadn (i := 3) rfl rfl dX8_makeSpace_40 ?_
              refine P_bipush (v := 9) rfl dX8_makeSpace_41 ?_
              refine kX8_102 rfl (s_ofP hM hB (k := 9) (by exact ib.of (by omega) (by omega)) rfl (by decide)) (by decide) (by first | exact hM.k0 | exact hM.k1 | exact hM.k2 | exact hM.k3 | exact hM.k4 | exact hM.k5 | exact hM.k6 | exact hM.k7 | exact hM.k8 | exact hM.k9 | exact hM.k10 | exact hM.k11 | exact hM.k12 | exact hM.k13 | exact hM.k14 | exact hM.k15 | exact hM.k16 | exact hM.k17) rfl dX8_makeSpace_43 (fun r43 s43 q43 => ?_)
              obtain ⟨rfl, rfl⟩ := q43
              refine P_iflt dX8_makeSpace_46 (tgt := 53) rfl (fun h46 => ?_) (fun h46 => ?_)
              · refine P_iconst (v := 0) rfl dX8_makeSpace_53 ?_
                refine P_is4 (Or.inr dX8_makeSpace_54) rfl rfl ?_
                refine P_iload (i := 4) rfl dX8_makeSpace_56 ?_
                refine P_ifeq dX8_makeSpace_58 (tgt := 86) rfl (fun h58 => ?_) (fun h58 => absurd (rfl) h58)
                refine P_iloadn (i := 2) rfl rfl dX8_makeSpace_86 ?_
                refine P_is2 (Or.inl dX8_makeSpace_87) rfl rfl ?_
                refine P_inN3 dX8_makeSpace_88 rfl rfl ?_
                refine P_goto dX8_makeSpace_91 (tgt := 19) rfl ?_
                refine P_few (ls2 := [some (vr m), some (vi node), some (vi (x_best (xP Y) node (i + 1))), some (vi (Int32.ofNat (i + 1))), none]) ⟨rfl, rfl, congrArg (fun z => some (vi z)) (show x_best (xP Y) node i = x_best (xP Y) node (i + 1) from (if_neg (show ¬ ((xP Y i 1 = node ∧ 0 ≤ xP Y i 9) ∧ (x_best (xP Y) node i < 0 ∨ xP Y i 9 < xP Y (nn (x_best (xP Y) node i)) 9)) from fun hh => Int32.not_lt.mpr hh.1.2 (by rw [n_nn (j := i) (by omega)] at h46; exact h46))).symm), rfl, trivial⟩ (ih (i + 1) (by omega))
              · refine P_iconst (v := 1) rfl dX8_makeSpace_49 ?_
                refine P_goto dX8_makeSpace_50 (tgt := 54) rfl ?_
                refine P_is4 (Or.inr dX8_makeSpace_54) rfl rfl ?_
                refine P_iload (i := 4) rfl dX8_makeSpace_56 ?_
                refine P_ifeq dX8_makeSpace_58 (tgt := 86) rfl (fun h58 => absurd h58 (by decide)) (fun h58 => ?_)
                refine P_iloadn (i := 2) rfl rfl dX8_makeSpace_61 ?_
                refine P_iflt dX8_makeSpace_62 (tgt := 82) rfl (fun h62 => ?_) (fun h62 => ?_)
                · refine P_iloadn (i := 3) rfl rfl dX8_makeSpace_82 ?_
                  refine P_goto dX8_makeSpace_83 (tgt := 87) rfl ?_
                  refine P_is2 (Or.inl dX8_makeSpace_87) rfl rfl ?_
                  refine P_inN3 dX8_makeSpace_88 rfl rfl ?_
                  refine P_goto dX8_makeSpace_91 (tgt := 19) rfl ?_
                  refine P_few (ls2 := [some (vr m), some (vi node), some (vi (x_best (xP Y) node (i + 1))), some (vi (Int32.ofNat (i + 1))), none]) ⟨rfl, rfl, congrArg (fun z => some (vi z)) (show Int32.ofNat i = x_best (xP Y) node (i + 1) from (if_pos (show (xP Y i 1 = node ∧ 0 ≤ xP Y i 9) ∧ (x_best (xP Y) node i < 0 ∨ xP Y i 9 < xP Y (nn (x_best (xP Y) node i)) 9) from ⟨⟨(by rw [n_nn (j := i) (by omega)] at h36; exact h36), Int32.not_lt.mp (by rw [n_nn (j := i) (by omega)] at h46; exact h46)⟩, Or.inl h62⟩)).symm), rfl, trivial⟩ (ih (i + 1) (by omega))
                · refine P_aloadn (i := 0) rfl rfl dX8_makeSpace_65 ?_
                  refine P_iloadn (i := 3) rfl rfl dX8_makeSpace_66 ?_
                  refine P_bipush (v := 9) rfl dX8_makeSpace_67 ?_
                  refine kX8_102 rfl (s_ofP hM hB (k := 9) (by exact ib.of (by omega) (by omega)) rfl (by decide)) (by decide) (by first | exact hM.k0 | exact hM.k1 | exact hM.k2 | exact hM.k3 | exact hM.k4 | exact hM.k5 | exact hM.k6 | exact hM.k7 | exact hM.k8 | exact hM.k9 | exact hM.k10 | exact hM.k11 | exact hM.k12 | exact hM.k13 | exact hM.k14 | exact hM.k15 | exact hM.k16 | exact hM.k17) rfl dX8_makeSpace_69 (fun r69 s69 q69 => ?_)
                  obtain ⟨rfl, rfl⟩ := q69
                  refine P_aloadn (i := 0) rfl rfl dX8_makeSpace_72 ?_
                  refine P_iloadn (i := 2) rfl rfl dX8_makeSpace_73 ?_
                  refine P_bipush (v := 9) rfl dX8_makeSpace_74 ?_
                  have hbb : ib (x_best (xP Y) node i) (xp Y) := by
                    rcases x_best_spec (xP Y) node i (by omega) with ⟨e1, _⟩ | ⟨b0, e1, e2, _⟩
                    · exact absurd (e1 ▸ (by decide : (-6 : Int32) < 0)) h62
                    · rw [e2]; exact ib.of (by omega) (by omega)
                  refine kX8_102 rfl (s_ofP hM hB (k := 9) hbb rfl (by decide)) (by decide) (by first | exact hM.k0 | exact hM.k1 | exact hM.k2 | exact hM.k3 | exact hM.k4 | exact hM.k5 | exact hM.k6 | exact hM.k7 | exact hM.k8 | exact hM.k9 | exact hM.k10 | exact hM.k11 | exact hM.k12 | exact hM.k13 | exact hM.k14 | exact hM.k15 | exact hM.k16 | exact hM.k17) rfl dX8_makeSpace_76 (fun r76 s76 q76 => ?_)
                  obtain ⟨rfl, rfl⟩ := q76
                  refine P_icmpge dX8_makeSpace_79 (tgt := 86) rfl (fun h79 => ?_) (fun h79 => ?_)
                  · refine P_iloadn (i := 2) rfl rfl dX8_makeSpace_86 ?_
                    refine P_is2 (Or.inl dX8_makeSpace_87) rfl rfl ?_
                    refine P_inN3 dX8_makeSpace_88 rfl rfl ?_
                    refine P_goto dX8_makeSpace_91 (tgt := 19) rfl ?_
                    refine P_few (ls2 := [some (vr m), some (vi node), some (vi (x_best (xP Y) node (i + 1))), some (vi (Int32.ofNat (i + 1))), none]) ⟨rfl, rfl, congrArg (fun z => some (vi z)) (show x_best (xP Y) node i = x_best (xP Y) node (i + 1) from (if_neg (show ¬ ((xP Y i 1 = node ∧ 0 ≤ xP Y i 9) ∧ (x_best (xP Y) node i < 0 ∨ xP Y i 9 < xP Y (nn (x_best (xP Y) node i)) 9)) from fun hh => hh.2.elim (fun h1 => h62 h1) (fun h1 => Int32.not_lt.mpr h79 (show xP Y (nn (Int32.ofNat i)) 9 < _ by rw [n_nn (j := i) (by omega)]; exact h1)))).symm), rfl, trivial⟩ (ih (i + 1) (by omega))
                  · refine P_iloadn (i := 3) rfl rfl dX8_makeSpace_82 ?_
                    refine P_goto dX8_makeSpace_83 (tgt := 87) rfl ?_
                    refine P_is2 (Or.inl dX8_makeSpace_87) rfl rfl ?_
                    refine P_inN3 dX8_makeSpace_88 rfl rfl ?_
                    refine P_goto dX8_makeSpace_91 (tgt := 19) rfl ?_
                    refine P_few (ls2 := [some (vr m), some (vi node), some (vi (x_best (xP Y) node (i + 1))), some (vi (Int32.ofNat (i + 1))), none]) ⟨rfl, rfl, congrArg (fun z => some (vi z)) (show Int32.ofNat i = x_best (xP Y) node (i + 1) from (if_pos (show (xP Y i 1 = node ∧ 0 ≤ xP Y i 9) ∧ (x_best (xP Y) node i < 0 ∨ xP Y i 9 < xP Y (nn (x_best (xP Y) node i)) 9) from ⟨⟨(by rw [n_nn (j := i) (by omega)] at h36; exact h36), Int32.not_lt.mp (by rw [n_nn (j := i) (by omega)] at h46; exact h46)⟩, Or.inr (by have h7 := Int32.not_le.mp h79; rw [n_nn (j := i) (by omega)] at h7; exact h7)⟩)).symm), rfl, trivial⟩ (ih (i + 1) (by omega))
        refine P_few (ls2 := [some (vr m), some (vi node), some (vi (-6)), some (vi 0), none]) ⟨rfl, rfl, rfl, rfl, trivial⟩ ?_
        exact loop (xp Y) 0 (by omega)
  exact main 40 X AI FA.rf hA hsp hH (Nat.le_trans (x_cntF_le _ _) hA.p40)
end Ref5
