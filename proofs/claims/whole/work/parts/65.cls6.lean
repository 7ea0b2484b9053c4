theorem c_rem2 {how : Int32} (h : 0 ≤ how.toInt) : c_rem how 2 = 0 ∨ c_rem how 2 = 1 := by
  have e3 : (c_rem how 2).toInt = how.toInt % 2 := by
    show (how - how / 2 * 2).toInt = _
    rw [i_rem _ _ (by decide), Int.tmod_eq_emod_of_nonneg h]
    rfl
  have h9 : how.toInt % 2 = 0 ∨ how.toInt % 2 = 1 := by omega
  exact h9.elim (fun h9 => Or.inl (i_eq.mpr (e3.trans (by rw [h9]; rfl)))) (fun h9 => Or.inr (i_eq.mpr (e3.trans (by rw [h9]; rfl))))
theorem e_send_ok {X : XW} {U : Nat} {from_ to size seed how : Int32} (h : e_send X U from_ to size seed how = 0) : (ib from_ 8 ∧ ib to 8 ∧ ¬ from_ = to) ∧ (1 ≤ size.toInt ∧ size.toInt ≤ 4000) ∧ ib seed 256 ∧ (2 ≤ how.toInt ∧ how.toInt ≤ 41) ∧ xp X < 40 ∧ U < 300 := by
  unfold e_send at h
  by_cases c1 : ¬ (q_ib from_ 8 = true ∧ q_ib to 8 = true ∧ ¬ from_ = to)
  · rw [if_pos c1] at h; exact absurd h (by decide)
  · rw [if_neg c1] at h
    by_cases c2 : ¬ (((1 : Int32) ≤ size ∧ size ≤ 4000) ∧ ((0 : Int32) ≤ seed ∧ seed ≤ 255) ∧ ((2 : Int32) ≤ how ∧ how ≤ 41))
    · rw [if_pos c2] at h; exact absurd h (by decide)
    · rw [if_neg c2] at h
      by_cases c3 : 40 ≤ xp X ∨ 300 ≤ U
      · rw [if_pos c3] at h; exact absurd h (by decide)
      · have c1 := Decidable.not_not.mp c1
        have c2 := Decidable.not_not.mp c2
        simp only [Int32.le_iff_toInt_le, Int32.reduceToInt] at c2
        exact ⟨⟨q_ib_iff.mp c1.1, q_ib_iff.mp c1.2.1, c1.2.2⟩, c2.1, ⟨c2.2.1.1, by omega⟩, c2.2.2, by omega, by omega⟩
theorem e_resend_ok {X : XW} {U : Nat} {p : Int32} (h : e_resend X U p = 0) : ib p (xp X) ∧ U < 300 ∧ xP X (nn p) 5 = 0 := by
  unfold e_resend at h
  by_cases c1 : ¬ q_ib p (xp X) = true
  · rw [if_pos c1] at h; exact absurd h (by decide)
  · rw [if_neg c1] at h
    by_cases c2 : 300 ≤ U
    · rw [if_pos c2] at h; exact absurd h (by decide)
    · rw [if_neg c2] at h
      by_cases c3 : ¬ xP X (nn p) 5 = 0
      · rw [if_pos c3] at h; exact absurd h (by decide)
      · exact ⟨q_ib_iff.mp (Decidable.not_not.mp c1), by omega, Decidable.not_not.mp c3⟩
theorem e_forge_ok {X : XW} {U : Nat} {p off len la seed : Int32} (h : e_forge X U p off len la seed = 0) : ib p (xp X) ∧ (0 ≤ off.toInt ∧ off.toInt ≤ 3999) ∧ (1 ≤ len.toInt ∧ len.toInt ≤ 1500) ∧ (la = 0 ∨ la = 1) ∧ ib seed 256 ∧ U < 300 := by
  unfold e_forge at h
  by_cases c1 : ¬ q_ib p (xp X) = true
  · rw [if_pos c1] at h; exact absurd h (by decide)
  · rw [if_neg c1] at h
    by_cases c2 : ¬ (((0 : Int32) ≤ off ∧ off ≤ 3999) ∧ ((1 : Int32) ≤ len ∧ len ≤ 1500) ∧ ((0 : Int32) ≤ la ∧ la ≤ 1) ∧ ((0 : Int32) ≤ seed ∧ seed ≤ 255))
    · rw [if_pos c2] at h; exact absurd h (by decide)
    · rw [if_neg c2] at h
      by_cases c3 : 300 ≤ U
      · rw [if_pos c3] at h; exact absurd h (by decide)
      · have c2 := Decidable.not_not.mp c2
        simp only [Int32.le_iff_toInt_le, Int32.reduceToInt] at c2
        refine ⟨q_ib_iff.mp (Decidable.not_not.mp c1), c2.1, c2.2.1, ?_, ⟨c2.2.2.2.1, by omega⟩, by omega⟩
        rcases (show la.toInt = 0 ∨ la.toInt = 1 by omega) with e | e
        · exact Or.inl (i_eq.mpr e)
        · exact Or.inr (i_eq.mpr e)
section Cls6
variable {g : PG} {L : PL} {FI AI : Nat → Nat → Int32} {AL : Nat → Nat → Int64} {AR : Nat → Nat → Option Nat} {w : Nat} {X : XW} {C : List XC} {U : Nat} {sa : Nat → Nat} {M : Nat}
theorem s_begin (hk : L.2.1 w = 4) {from_ to size seed how : Int32} (hsz : ib size 4001) (hse : ib seed 256) (hh : 0 ≤ how.toInt) : Sp g 1 iX4_begin [vr w, vi from_, vi to, vi size, vi seed, vi how] (L, FI, AI, AL, AR) (0, 0) (QV (L, bF FI w from_ to size seed how, AI, AL, AR)) := by
  refine Sp.of (ls := [some (vr w), some (vi from_), some (vi to), some (vi size), some (vi seed), some (vi how), none, none]) (by decide +kernel) rfl rfl ?_
  have hsz9 := hsz.nn
  have h01 := c_rem2 hh
  have loop : ∀ n i : Nat, i + n = nn size → P g 1 iX4_begin 52 [some (vr w), some (vi from_), some (vi to), some (vi size), some (vi seed), some (vi how), some (vi (x_sumN seed i)), some (vi (Int32.ofNat i))] [] (L, (p_up (p_up (p_up (p_up (p_up (p_up FI 128 w from_) 129 w to) 130 w size) 131 w seed) 132 w (how / 2)) 134 w (c_rem how 2)), AI, AL, AR) (0, 0) (QV (L, bF FI w from_ to size seed how, AI, AL, AR)) := by
    intro n
    induction n with
    | zero =>
      intro i hi
      have e : i = nn size := by omega
      subst e
      refine P_iload (i := 7) rfl dX4_begin_52 ?_
      refine P_aloadn (i := 0) rfl rfl dX4_begin_54 ?_
      refine gX4_28 rfl (by assumption) ((p_up_n1 _ _ _ _ (by decide)).trans ((p_up_n1 _ _ _ _ (by decide)).trans ((p_up_n1 _ _ _ _ (by decide)).trans (p_up_eq _ _ _ _)))) dX4_begin_55 ?_
      refine P_icmpge dX4_begin_58 (tgt := 81) rfl (fun h58 => ?_) (fun h58 => absurd ((hsz.leN (i := nn size) (by omega)).mpr (Nat.le_refl _)) h58)
      refine P_aloadn (i := 0) rfl rfl dX4_begin_81 ?_
      refine P_iload (i := 6) rfl dX4_begin_82 ?_
      refine lX4_45 rfl dX4_begin_84 ?_
      refine P_irem2 (by decide) dX4_begin_86 ?_
      refine uX4_46 rfl (by assumption) dX4_begin_87 ?_
      refine P_return rfl dX4_begin_90 ?_
      exact ⟨rfl, rfl⟩
    | succ n ih =>
      intro i hi
      refine P_iload (i := 7) rfl dX4_begin_52 ?_
      refine P_aloadn (i := 0) rfl rfl dX4_begin_54 ?_
      refine gX4_28 rfl (by assumption) ((p_up_n1 _ _ _ _ (by decide)).trans ((p_up_n1 _ _ _ _ (by decide)).trans ((p_up_n1 _ _ _ _ (by decide)).trans (p_up_eq _ _ _ _)))) dX4_begin_55 ?_
      refine P_icmpge dX4_begin_58 (tgt := 81) rfl (fun h58 => absurd h58 (fun h9 => by have h8 : nn size ≤ i := (hsz.leN (by omega)).mp h9; omega)) (fun h58 => ?_)
      refine P_iload (i := 6) rfl dX4_begin_61 ?_
      refine P_aloadn (i := 0) rfl rfl dX4_begin_63 ?_
      refine gX4_31 rfl (by assumption) ((p_up_n1 _ _ _ _ (by decide)).trans ((p_up_n1 _ _ _ _ (by decide)).trans (p_up_eq _ _ _ _))) dX4_begin_64 ?_
      refine P_iload (i := 7) rfl dX4_begin_67 ?_
      refine kX4_41 rfl (s_byteOf7 hse (ib.of (j := i) (by omega) (by omega))) (by decide) rfl dX4_begin_69 (fun r69 s69 q69 => ?_)
      obtain ⟨rfl, rfl⟩ := q69
      refine P_iadd dX4_begin_72 ?_
      refine P_is6 (Or.inr dX4_begin_73) rfl rfl ?_
      refine P_inN7 dX4_begin_75 rfl rfl ?_
      refine P_goto dX4_begin_78 (tgt := 52) rfl ?_
      exact ih (i + 1) (by omega)
  have J43 : ∀ z : Int32, z = c_rem how 2 → P g 1 iX4_begin 43 [some (vr w), some (vi from_), some (vi to), some (vi size), some (vi seed), some (vi how), none, none] [vi z, vr w] (L, p_up (p_up (p_up (p_up (p_up FI 128 w from_) 129 w to) 130 w size) 131 w seed) 132 w (how / 2), AI, AL, AR) (0, 0) (QV (L, bF FI w from_ to size seed how, AI, AL, AR)) := by
    intro z hz
    subst hz
    refine uX4_37 rfl h01 (by assumption) dX4_begin_43 ?_
    refine P_iconst (v := 0) rfl dX4_begin_46 ?_
    refine P_is6 (Or.inr dX4_begin_47) rfl rfl ?_
    refine P_iconst (v := 0) rfl dX4_begin_49 ?_
    refine P_is7 (Or.inr dX4_begin_50) rfl rfl ?_
    exact loop (nn size) 0 (by omega)
  refine P_aloadn (i := 0) rfl rfl dX4_begin_0 ?_
  refine P_iloadn (i := 1) rfl rfl dX4_begin_1 ?_
  refine uX4_22 rfl (by assumption) dX4_begin_2 ?_
  refine P_aloadn (i := 0) rfl rfl dX4_begin_5 ?_
  refine P_iloadn (i := 2) rfl rfl dX4_begin_6 ?_
  refine uX4_25 rfl (by assumption) dX4_begin_7 ?_
  refine P_aloadn (i := 0) rfl rfl dX4_begin_10 ?_
  refine P_iloadn (i := 3) rfl rfl dX4_begin_11 ?_
  refine uX4_28 rfl (by assumption) dX4_begin_12 ?_
  refine P_aloadn (i := 0) rfl rfl dX4_begin_15 ?_
  refine P_iload (i := 4) rfl dX4_begin_16 ?_
  refine uX4_31 rfl (by assumption) dX4_begin_18 ?_
  refine P_aloadn (i := 0) rfl rfl dX4_begin_21 ?_
  refine P_iload (i := 5) rfl dX4_begin_22 ?_
  refine P_iconst (v := 2) rfl dX4_begin_24 ?_
  refine P_idiv (by decide) dX4_begin_25 ?_
  refine uX4_34 rfl (by assumption) dX4_begin_26 ?_
  refine P_aloadn (i := 0) rfl rfl dX4_begin_29 ?_
  refine P_iload (i := 5) rfl dX4_begin_30 ?_
  refine P_iconst (v := 2) rfl dX4_begin_32 ?_
  refine P_irem2 (by decide) dX4_begin_33 ?_
  refine P_iconst (v := 1) rfl dX4_begin_34 ?_
  refine P_icmpne dX4_begin_35 (tgt := 42) rfl (fun h35 => ?_) (fun h35 => ?_)
  · refine P_iconst (v := 0) rfl dX4_begin_42 ?_
    refine J43 0 ?_
    exact h01.elim Eq.symm (fun h9 => absurd h9 h35)
  · refine P_iconst (v := 1) rfl dX4_begin_38 ?_
    refine P_goto dX4_begin_39 (tgt := 43) rfl ?_
    exact J43 1 h35.symm
theorem bF_o {F : Nat → Nat → Int32} {q j a : Nat} {from_ to size seed how : Int32} (h : ¬ (128 ≤ j ∧ j < 143 ∧ a = q)) : bF F q from_ to size seed how j a = F j a :=
  (p_up_of (by omega)).trans ((p_up_of (by omega)).trans ((p_up_of (by omega)).trans ((p_up_of (by omega)).trans ((p_up_of (by omega)).trans ((p_up_of (by omega)).trans (p_up_of (by omega)))))))
theorem CW.addP (h : CW L FI AI AL AR w X C U sa) (hp : xp X < 40) {from_ to size seed how : Int32} : CW L (bF (p_up FI 194 w (Int32.ofNat (xp X + 1))) (w + 39 + 2 * xp X) from_ to size seed how) AI AL AR w (x_addP X (x_prow0 from_ to size seed how)) C U sa := by
  have ho : ∀ j a, ¬ (128 ≤ j ∧ j < 143 ∧ a = w + 39 + 2 * xp X) → ¬ (j = 194 ∧ a = w) → bF (p_up FI 194 w (Int32.ofNat (xp X + 1))) (w + 39 + 2 * xp X) from_ to size seed how j a = FI j a := fun j a h1 h2 => (bF_o h1).trans (p_up_of h2)
  have e194 : bF (p_up FI 194 w (Int32.ofNat (xp X + 1))) (w + 39 + 2 * xp X) from_ to size seed how 194 w = Int32.ofNat (xp X + 1) := (bF_o (by omega)).trans (p_up_eq _ _ _ _)
  obtain ⟨g0, g1, g2, g3, g4, g5, g6, g7⟩ := h.g
  refine ⟨h.1, ⟨(ho _ _ (by omega) (by omega)).trans g0, (ho _ _ (by omega) (by omega)).trans g1, e194, (ho _ _ (by omega) (by omega)).trans g3, (ho _ _ (by omega) (by omega)).trans g4, (ho _ _ (by omega) (by omega)).trans g5, (ho _ _ (by omega) (by omega)).trans g6, (ho _ _ (by omega) (by omega)).trans g7⟩, h.d, fun i hi => (h.n i hi).cg (fun j h1 h2 => ho j _ (by omega) (by omega)) rfl, fun b hb => (h.b b hb).cg (fun j h1 => ho j _ (by omega) (by omega)), fun p hp9 => ?_, fun i hi => (h.s i hi).cg (fun j h1 h2 => ho j _ (by omega) (by omega)), h.c601, h.b16, hp⟩
  have hp1 := h.p p hp9
  by_cases e : p = xp X
  · refine ⟨fun _ => ?_, fun h1 => ?_⟩
    · obtain ⟨f0, f1, f2, f3, f4, f5, f6, f7⟩ := hp1.2 (by omega)
      have er : xP (x_addP X (x_prow0 from_ to size seed how)) p = x_prow0 from_ to size seed how := by
        funext k
        exact if_pos e
      have et : xT (x_addP X (x_prow0 from_ to size seed how)) p = fun _ => -6 := by
        funext k
        exact if_pos e
      rw [er, et, e]
      rw [e] at f1 f2 f3 f4 f5 f6 f7
      have eo : ∀ j, 135 ≤ j → bF (p_up FI 194 w (Int32.ofNat (xp X + 1))) (w + 39 + 2 * xp X) from_ to size seed how j (w + 39 + 2 * xp X) = FI j (w + 39 + 2 * xp X) := fun j hj => (p_up_n1 _ _ _ _ (by omega)).trans ((p_up_n1 _ _ _ _ (by omega)).trans ((p_up_n1 _ _ _ _ (by omega)).trans ((p_up_n1 _ _ _ _ (by omega)).trans ((p_up_n1 _ _ _ _ (by omega)).trans ((p_up_n1 _ _ _ _ (by omega)).trans ((p_up_n1 _ _ _ _ (by omega)).trans (p_up_n2 _ _ _ _ (by omega))))))))
      unfold RP
      rw [eo 135 (by decide), eo 136 (by decide), eo 137 (by decide), eo 138 (by decide), eo 139 (by decide), eo 140 (by decide), eo 141 (by decide), eo 142 (by decide)]
      refine ⟨⟨(p_up_n1 _ _ _ _ (by decide)).trans ((p_up_n1 _ _ _ _ (by decide)).trans ((p_up_n1 _ _ _ _ (by decide)).trans ((p_up_n1 _ _ _ _ (by decide)).trans ((p_up_n1 _ _ _ _ (by decide)).trans ((p_up_n1 _ _ _ _ (by decide)).trans (p_up_eq _ _ _ _)))))), (p_up_n1 _ _ _ _ (by decide)).trans ((p_up_n1 _ _ _ _ (by decide)).trans ((p_up_n1 _ _ _ _ (by decide)).trans ((p_up_n1 _ _ _ _ (by decide)).trans ((p_up_n1 _ _ _ _ (by decide)).trans (p_up_eq _ _ _ _))))), (p_up_n1 _ _ _ _ (by decide)).trans ((p_up_n1 _ _ _ _ (by decide)).trans ((p_up_n1 _ _ _ _ (by decide)).trans ((p_up_n1 _ _ _ _ (by decide)).trans (p_up_eq _ _ _ _)))), (p_up_n1 _ _ _ _ (by decide)).trans ((p_up_n1 _ _ _ _ (by decide)).trans ((p_up_n1 _ _ _ _ (by decide)).trans (p_up_eq _ _ _ _))), (p_up_n1 _ _ _ _ (by decide)).trans ((p_up_n1 _ _ _ _ (by decide)).trans (p_up_eq _ _ _ _)), p_up_eq _ _ _ _, (p_up_n1 _ _ _ _ (by decide)).trans (p_up_eq _ _ _ _), f1, f2, f3, f4, f5⟩, fun hh => absurd rfl hh, fun _ => ⟨f7, ?_, fun i hi h9 => absurd h9 (show ¬ (0 : Int32) ≤ -6 by decide), fun h9 => ?_⟩, by rw [f7]; decide⟩
      · rw [f6]; exact ⟨by decide, by decide⟩
      · rw [f6] at h9; exact absurd h9 (by decide)
    · have h2 : xp X + 1 ≤ p := h1
      omega
  · have h9 : CP1 (bF (p_up FI 194 w (Int32.ofNat (xp X + 1))) (w + 39 + 2 * xp X) from_ to size seed how) AL w X p := hp1.cg (fun j h1 h2 => ho j _ (by omega) (by omega)) rfl
    have er : xP (x_addP X (x_prow0 from_ to size seed how)) p = xP X p := by
      funext k
      exact if_neg e
    have et : xT (x_addP X (x_prow0 from_ to size seed how)) p = xT X p := by
      funext k
      exact if_neg e
    refine ⟨fun h1 => ?_, fun h1 => ?_⟩
    · have h2 : p < xp X + 1 := h1
      rw [er, et]
      exact h9.1 (by omega)
    · have h2 : xp X + 1 ≤ p := h1
      exact h9.2 (by omega)
theorem x_send_eq (X : XW) (from_ to size seed how : Int32) : xP (x_send X from_ to size seed how) = xP (x_resend (x_addP X (x_prow0 from_ to size seed how)) (xp X)) := by
  funext p k
  show (if p = xp X then x_prow from_ to size seed how k else xP X p k) = p_up (fun p k => if p = xp X then x_prow0 from_ to size seed how k else xP X p k) (xp X) 6 ((if xp X = xp X then x_prow0 from_ to size seed how 6 else xP X (xp X) 6) + 1) p k
  rw [if_pos rfl]
  by_cases e : p = xp X
  · rw [if_pos e]
    by_cases e6 : k = 6
    · rw [e, e6, p_up_eq]; rfl
    · rw [p_up_n2 _ _ _ _ e6, if_pos e]
      exact (if_neg e6).symm
  · rw [if_neg e, p_up_n1 _ _ _ _ e, if_neg e]
def QKP (L : PL) (w : Nat) (X : XW) (C : List XC) (U : Nat) (sa : Nat → Nat) (B : (Nat → Nat → Int32) → (Nat → Nat → Int32) → (Nat → Nat → Int64) → (Nat → Nat → Option Nat) → Prop) : Option PV → PS → Prop := fun r σ => ∃ F2 A2 L2 R2, σ = (L, F2, A2, L2, R2) ∧ r = none ∧ CW L F2 A2 L2 R2 w X C U sa ∧ B F2 A2 L2 R2
def QKW (L : PL) (w : Nat) (X : XW) (C : List XC) (U : Nat) (sa : Nat → Nat) (B : (Nat → Nat → Int32) → (Nat → Nat → Int32) → (Nat → Nat → Int64) → (Nat → Nat → Option Nat) → Prop) (r0 : Option PV) : Option PV → PS → Prop := fun r σ => ∃ F2 A2 L2 R2, B F2 A2 L2 R2 ∧ QCW L F2 A2 L2 R2 w X C U sa r0 r σ
/-- an error, and nothing has changed; or none, and Q -/
def QEK (S : PS) (e : Int32) (Q : Option PV → PS → Prop) : Option PV → PS → Prop := fun r σ => (e = 0 ∧ Q r σ) ∨ (¬ e = 0 ∧ r = some (vi e) ∧ σ = S)
theorem bF_194 {F : Nat → Nat → Int32} {q w : Nat} {v from_ to size seed how : Int32} : p_up (bF F q from_ to size seed how) 194 w v = bF (p_up F 194 w v) q from_ to size seed how := by
  funext j a
  by_cases e1 : j = 194 ∧ a = w
  · obtain ⟨rfl, rfl⟩ := e1
    exact (p_up_eq _ _ _ _).trans ((bF_o (by omega)).trans (p_up_eq _ _ _ _)).symm
  · rw [p_up_of e1]
    unfold bF
    simp only [p_up_at, if_neg e1]
theorem s_sendParcel (h : CW L FI AI AL AR w X C U sa) {from_ to size seed how : Int32} {B : (Nat → Nat → Int32) → (Nat → Nat → Int32) → (Nat → Nat → Int64) → (Nat → Nat → Option Nat) → Prop} {rc : Option Nat} (hU : U < 1000000) (hc : C.length < 601) (hK : e_send X U from_ to size seed how = 0 → Sp g 4 iX6_keepIn [vr w, vq rc] (L, FI, AI, AL, AR) (0, 0) (QKP L w X C U sa B)) : Sp g 5 iX6_sendParcel [vr w, vi from_, vi to, vi size, vi seed, vi how, vq rc] (L, FI, AI, AL, AR) (0, 0) (QEK (L, FI, AI, AL, AR) (e_send X U from_ to size seed how) (QKW L w (x_send X from_ to size seed how) (C ++ [((Int32.ofNat (xp X), 0, size, 1, how / 2, seed, xG X 0, from_), false)]) (U + 1) sa B (some (vi (Int32.ofNat (xp X)))))) := by
  refine Sp.of (ls := [some (vr w), some (vi from_), some (vi to), some (vi size), some (vi seed), some (vi how), some (vq rc), none, none]) (by decide +kernel) (by cases rc <;> rfl) (by cases rc <;> rfl) ?_
  have hw := h.wf
  have hA := h.wa
  have hb16 := h.b16
  have hp40 := h.p40
  have hsl := hA.lo (i := C.length) hc
  have hks := hw.ks hA (i := C.length) hc
  refine P_iloadn (i := 1) rfl rfl dX6_sendParcel_0 ?_
  refine P_iloadn (i := 2) rfl rfl dX6_sendParcel_1 ?_
  refine kX6_94 rfl s_isPair (by decide) rfl dX6_sendParcel_2 (fun r2 s2 q2 => ?_)
  obtain ⟨rfl, rfl⟩ := q2
  refine P_ifne dX6_sendParcel_5 (tgt := 10) rfl (fun h5 => ?_) (fun h5 => ?_)
  · refine P_iloadn (i := 3) rfl rfl dX6_sendParcel_10 ?_
    refine P_iconst (v := 1) rfl dX6_sendParcel_11 ?_
    refine P_sipush (v := 4000) rfl dX6_sendParcel_12 ?_
    refine kX6_90 rfl s_X7_isWithin (by decide) rfl dX6_sendParcel_15 (fun r15 s15 q15 => ?_)
    obtain ⟨rfl, rfl⟩ := q15
    refine P_ifeq dX6_sendParcel_18 (tgt := 33) rfl (fun h18 => ?_) (fun h18 => ?_)
    · refine P_bipush (v := (-2)) rfl dX6_sendParcel_33 ?_
      refine P_ireturn rfl dX6_sendParcel_35 ?_
      have he : e_send X U from_ to size seed how = -2 := (if_neg (fun hh => hh (b_t h5))).trans (if_pos (fun hh => b_f h18 hh.1))
      exact Or.inr ⟨by rw [he]; decide, by rw [he], rfl⟩
    · refine P_iload (i := 4) rfl dX6_sendParcel_21 ?_
      refine P_iconst (v := 0) rfl dX6_sendParcel_23 ?_
      refine P_sipush (v := 255) rfl dX6_sendParcel_24 ?_
      refine kX6_90 rfl s_X7_isWithin (by decide) rfl dX6_sendParcel_27 (fun r27 s27 q27 => ?_)
      obtain ⟨rfl, rfl⟩ := q27
      refine P_ifne dX6_sendParcel_30 (tgt := 36) rfl (fun h30 => ?_) (fun h30 => ?_)
      · refine P_iload (i := 5) rfl dX6_sendParcel_36 ?_
        refine P_iconst (v := 2) rfl dX6_sendParcel_38 ?_
        refine P_bipush (v := 41) rfl dX6_sendParcel_39 ?_
        refine kX6_90 rfl s_X7_isWithin (by decide) rfl dX6_sendParcel_41 (fun r41 s41 q41 => ?_)
        obtain ⟨rfl, rfl⟩ := q41
        refine P_ifne dX6_sendParcel_44 (tgt := 50) rfl (fun h44 => ?_) (fun h44 => ?_)
        · refine P_aloadn (i := 0) rfl rfl dX6_sendParcel_50 ?_
          refine kX6_98 rfl (s_freeSlice h hU) (by decide) (by first | assumption | exact hw.kw | exact hw.k1 | exact hw.k2 | exact hw.k3 | exact hw.k4 | exact hw.k5 | exact hw.k6) rfl dX6_sendParcel_51 (fun r51 s51 q51 => ?_)
          obtain ⟨rfl, rfl⟩ := q51
          by_cases hf : 300 ≤ U
          · rw [if_pos (show 300 ≤ U ∨ 601 ≤ C.length from Or.inl hf)]
            refine P_as7 (Or.inr dX6_sendParcel_54) rfl rfl ?_
            refine P_aload (i := 7) rfl dX6_sendParcel_56 ?_
            refine P_ifnull dX6_sendParcel_58 (tgt := 73) rfl (fun h58 => ?_) (fun a58 h58 => by cases h58)
            refine P_bipush (v := (-4)) rfl dX6_sendParcel_73 ?_
            refine P_ireturn rfl dX6_sendParcel_75 ?_
            have he : e_send X U from_ to size seed how = -4 := (if_neg (fun hh => hh (b_t h5))).trans ((if_neg (fun hh => hh ⟨b_t h18, b_t h30, b_t h44⟩)).trans (if_pos (Or.inr hf)))
            exact Or.inr ⟨by rw [he]; decide, by rw [he], rfl⟩
          · rw [if_neg (show ¬ (300 ≤ U ∨ 601 ≤ C.length) by omega)]
            refine P_as7 (Or.inr dX6_sendParcel_54) rfl rfl ?_
            refine P_aload (i := 7) rfl dX6_sendParcel_56 ?_
            refine P_ifnull dX6_sendParcel_58 (tgt := 73) rfl (fun h58 => by cases h58) (fun a58 h58 => ?_)
            cases h58
            refine P_aloadn (i := 0) rfl rfl dX6_sendParcel_61 ?_
            refine gX6_53 rfl (by first | exact hw.kw | exact hw.k3 | exact hw.k4 | exact hks | exact hkp) h.g.2.2.1 dX6_sendParcel_62 ?_
            refine P_aloadn (i := 0) rfl rfl dX6_sendParcel_65 ?_
            refine gX6_25 rfl (by first | exact hw.kw | exact hw.k3 | exact hw.k4 | exact hks | exact hkp) hw.r197 dX6_sendParcel_66 ?_
            refine P_lenN (t := 26) (by decide) (by first | exact hw.kw | exact hw.k3 | exact hw.k4 | exact hks | exact hkp) (by rw [hw.l3]) dX6_sendParcel_69 ?_
            refine P_icmplt dX6_sendParcel_70 (tgt := 76) rfl (fun h70 => ?_) (fun h70 => ?_)
            · have hp : xp X < 40 := (n_lt (a := xp X) (b := 40) (by omega) (by omega)).mp h70
              have he0 : e_send X U from_ to size seed how = 0 := (if_neg (fun hh => hh (b_t h5))).trans ((if_neg (fun hh => hh ⟨b_t h18, b_t h30, b_t h44⟩)).trans (if_neg (fun hh => hh.elim (fun h9 => by omega) hf)))
              obtain ⟨-, hsz1, hse, hho, -, -⟩ := e_send_ok he0
              have hsz : ib size 4001 := ⟨by omega, by omega⟩
              have hh : 0 ≤ how.toInt := by omega
              have hkp := hw.kP (i := xp X) hp
              refine P_aloadn (i := 0) rfl rfl dX6_sendParcel_76 ?_
              refine P_aload (i := 6) rfl dX6_sendParcel_77 ?_
              refine kX6_102 rfl (hK he0) (by decide) (by first | exact hw.kw | exact hw.k3 | exact hw.k4 | exact hks | exact hkp) rfl dX6_sendParcel_79 (fun r79 s79 q79 => ?_)
              obtain ⟨F2, A2, L2, R2, rfl, rfl, h9, hB⟩ := q79
              have hA9 := h9.wa
              refine P_aloadn (i := 0) rfl rfl dX6_sendParcel_82 ?_
              refine gX6_53 rfl (by first | exact hw.kw | exact hw.k3 | exact hw.k4 | exact hks | exact hkp) h9.g.2.2.1 dX6_sendParcel_83 ?_
              refine P_is8 (Or.inr dX6_sendParcel_86) rfl rfl ?_
              refine P_aloadn (i := 0) rfl rfl dX6_sendParcel_88 ?_
              refine gX6_25 rfl (by first | exact hw.kw | exact hw.k3 | exact hw.k4 | exact hks | exact hkp) hw.r197 dX6_sendParcel_89 ?_
              refine P_iload (i := 8) rfl dX6_sendParcel_92 ?_
              refine P_aaN (t := 26) (j := xp X) (by decide) (by first | exact hw.kw | exact hw.k3 | exact hw.k4 | exact hks | exact hkp) rfl (by omega) (by rw [hw.l3]; omega) (hA9.2.2.1 _ (by omega)) dX6_sendParcel_94 ?_
              refine P_iloadn (i := 1) rfl rfl dX6_sendParcel_95 ?_
              refine P_iloadn (i := 2) rfl rfl dX6_sendParcel_96 ?_
              refine P_iloadn (i := 3) rfl rfl dX6_sendParcel_97 ?_
              refine P_iload (i := 4) rfl dX6_sendParcel_98 ?_
              refine P_iload (i := 5) rfl dX6_sendParcel_100 ?_
              refine kX6_106 rfl (s_begin hkp hsz hse hh) (by decide) hkp rfl dX6_sendParcel_102 (fun r102 s102 q102 => ?_)
              obtain ⟨rfl, rfl⟩ := q102
              refine P_aloadn (i := 0) rfl rfl dX6_sendParcel_105 ?_
              refine P_dup rfl dX6_sendParcel_106 ?_
              refine gX6_53 rfl (by first | exact hw.kw | exact hw.k3 | exact hw.k4 | exact hks | exact hkp) ((bF_o (by omega)).trans h9.g.2.2.1) dX6_sendParcel_107 ?_
              refine P_iconst (v := 1) rfl dX6_sendParcel_110 ?_
              refine P_iadd dX6_sendParcel_111 ?_
              refine uX6_53 rfl (by first | exact hw.kw | exact hw.k3 | exact hw.k4 | exact hks | exact hkp) dX6_sendParcel_112 ?_
              rw [show Int32.ofNat (xp X) + 1 = Int32.ofNat (xp X + 1) from n_add (xp X) 1, bF_194]
              have h2 := h9.addP hp (from_ := from_) (to := to) (size := size) (seed := seed) (how := how)
              have hpi : ib (Int32.ofNat (xp X)) (xp (x_addP X (x_prow0 from_ to size seed how))) := ib.of (by show xp X < xp X + 1; omega) (by omega)
              have hnp : nn (Int32.ofNat (xp X)) = xp X := n_nn (by omega)
              refine P_aloadn (i := 0) rfl rfl dX6_sendParcel_115 ?_
              refine P_aload (i := 7) rfl dX6_sendParcel_116 ?_
              refine P_iload (i := 8) rfl dX6_sendParcel_118 ?_
              refine P_aloadn (i := 0) rfl rfl dX6_sendParcel_120 ?_
              refine gX6_25 rfl (by first | exact hw.kw | exact hw.k3 | exact hw.k4 | exact hks | exact hkp) hw.r197 dX6_sendParcel_121 ?_
              refine P_iload (i := 8) rfl dX6_sendParcel_124 ?_
              refine P_aaN (t := 26) (j := xp X) (by decide) (by first | exact hw.kw | exact hw.k3 | exact hw.k4 | exact hks | exact hkp) rfl (by omega) (by rw [hw.l3]; omega) (hA9.2.2.1 _ (by omega)) dX6_sendParcel_126 ?_
              refine kX6_110 rfl (s_launch h2 hnp hpi hc) (by decide) (by first | exact hw.kw | exact hw.k3 | exact hw.k4 | exact hks | exact hkp) rfl dX6_sendParcel_127 (fun r127 s127 q127 => ?_)
              obtain ⟨F3, A3, B3, rfl, rfl, hf3, h3⟩ := q127
              refine P_iload (i := 8) rfl dX6_sendParcel_130 ?_
              refine P_ireturn rfl dX6_sendParcel_132 ?_
              refine Or.inl ⟨he0, F2, A2, L2, R2, hB, F3, A3, B3, rfl, rfl, FrC.tr (fun a ha => ⟨fun j => (bF_o (by omega)).trans (p_up_of (by omega)), rfl, rfl, rfl⟩) hf3, ?_⟩
              rw [hnp] at h3
              have e0 : ∀ k, xP (x_addP X (x_prow0 from_ to size seed how)) (xp X) k = x_prow0 from_ to size seed how k := fun k => if_pos rfl
              rw [e0, e0, e0, e0] at h3
              exact h3.eqv rfl rfl rfl (x_send_eq X from_ to size seed how) rfl rfl rfl
            · refine P_bipush (v := (-4)) rfl dX6_sendParcel_73 ?_
              refine P_ireturn rfl dX6_sendParcel_75 ?_
              have he : e_send X U from_ to size seed how = -4 := (if_neg (fun hh => hh (b_t h5))).trans ((if_neg (fun hh => hh ⟨b_t h18, b_t h30, b_t h44⟩)).trans (if_pos (Or.inl (Nat.le_of_not_lt (fun hh => h70 ((n_lt (a := xp X) (b := 40) (by omega) (by omega)).mpr hh))))))
              exact Or.inr ⟨by rw [he]; decide, by rw [he], rfl⟩
        · refine P_bipush (v := (-2)) rfl dX6_sendParcel_47 ?_
          refine P_ireturn rfl dX6_sendParcel_49 ?_
          have he : e_send X U from_ to size seed how = -2 := (if_neg (fun hh => hh (b_t h5))).trans (if_pos (fun hh => b_f h44 hh.2.2))
          exact Or.inr ⟨by rw [he]; decide, by rw [he], rfl⟩
      · refine P_bipush (v := (-2)) rfl dX6_sendParcel_33 ?_
        refine P_ireturn rfl dX6_sendParcel_35 ?_
        have he : e_send X U from_ to size seed how = -2 := (if_neg (fun hh => hh (b_t h5))).trans (if_pos (fun hh => b_f h30 hh.2.1))
        exact Or.inr ⟨by rw [he]; decide, by rw [he], rfl⟩
  · refine P_iconst (v := (-1)) rfl dX6_sendParcel_8 ?_
    refine P_ireturn rfl dX6_sendParcel_9 ?_
    have he : e_send X U from_ to size seed how = -1 := if_pos (b_f h5)
    exact Or.inr ⟨by rw [he]; decide, by rw [he], rfl⟩
theorem s_sendAgain (h : CW L FI AI AL AR w X C U sa) {p : Int32} {B : (Nat → Nat → Int32) → (Nat → Nat → Int32) → (Nat → Nat → Int64) → (Nat → Nat → Option Nat) → Prop} {rc : Option Nat} (hU : U < 1000000) (hc : C.length < 601) (hK : e_resend X U p = 0 → Sp g 4 iX6_keepIn [vr w, vq rc] (L, FI, AI, AL, AR) (0, 0) (QKP L w X C U sa B)) : Sp g 5 iX6_sendAgain [vr w, vi p, vq rc] (L, FI, AI, AL, AR) (0, 0) (QEK (L, FI, AI, AL, AR) (e_resend X U p) (QKW L w (x_resend X (nn p)) (C ++ [((p, 0, xP X (nn p) 2, 1, xP X (nn p) 7, xP X (nn p) 3, xG X 0, xP X (nn p) 0), false)]) (U + 1) sa B (some (vi (xP X (nn p) 6 + 1))))) := by
  refine Sp.of (ls := [some (vr w), some (vi p), some (vq rc), none, none]) (by decide +kernel) (by cases rc <;> rfl) (by cases rc <;> rfl) ?_
  have hw := h.wf
  have hA := h.wa
  have hb16 := h.b16
  have hp40 := h.p40
  have hsl := hA.lo (i := C.length) hc
  have hks := hw.ks hA (i := C.length) hc
  refine P_aloadn (i := 0) rfl rfl dX6_sendAgain_0 ?_
  refine P_iloadn (i := 1) rfl rfl dX6_sendAgain_1 ?_
  refine kX6_114 rfl (s_parcelAt h) (by decide) (by first | assumption | exact hw.kw | exact hw.k1 | exact hw.k2 | exact hw.k3 | exact hw.k4 | exact hw.k5 | exact hw.k6) rfl dX6_sendAgain_2 (fun r2 s2 q2 => ?_)
  obtain ⟨rfl, rfl⟩ := q2
  by_cases hq : q_ib p (xp X) = true
  · have hp := q_ib_iff.mp hq
    have hp9 := hp.nn
    have hkp := hw.kP (i := nn p) (by omega)
    rw [if_pos hq]
    refine P_as3 (Or.inl dX6_sendAgain_5) rfl rfl ?_
    refine P_aloadn (i := 3) rfl rfl dX6_sendAgain_6 ?_
    refine P_ifnonnull dX6_sendAgain_7 (tgt := 12) rfl (fun a7 h7 => ?_) (fun h7 => by cases h7)
    cases h7
    refine P_aloadn (i := 0) rfl rfl dX6_sendAgain_12 ?_
    refine kX6_98 rfl (s_freeSlice h hU) (by decide) (by first | exact hw.kw | exact hw.k3 | exact hw.k4 | exact hks | exact hkp) rfl dX6_sendAgain_13 (fun r13 s13 q13 => ?_)
    obtain ⟨rfl, rfl⟩ := q13
    by_cases hf : 300 ≤ U
    · rw [if_pos (show 300 ≤ U ∨ 601 ≤ C.length from Or.inl hf)]
      refine P_as4 (Or.inr dX6_sendAgain_16) rfl rfl ?_
      refine P_aload (i := 4) rfl dX6_sendAgain_18 ?_
      refine P_ifnonnull dX6_sendAgain_20 (tgt := 26) rfl (fun a20 h20 => by cases h20) (fun h20 => ?_)
      refine P_bipush (v := (-4)) rfl dX6_sendAgain_23 ?_
      refine P_ireturn rfl dX6_sendAgain_25 ?_
      have he : e_resend X U p = -4 := (if_neg (fun hh => hh hq)).trans (if_pos hf)
      exact Or.inr ⟨by rw [he]; decide, by rw [he], rfl⟩
    · rw [if_neg (show ¬ (300 ≤ U ∨ 601 ≤ C.length) by omega)]
      refine P_as4 (Or.inr dX6_sendAgain_16) rfl rfl ?_
      refine P_aload (i := 4) rfl dX6_sendAgain_18 ?_
      refine P_ifnonnull dX6_sendAgain_20 (tgt := 26) rfl (fun a20 h20 => ?_) (fun h20 => by cases h20)
      cases h20
      refine P_aloadn (i := 3) rfl rfl dX6_sendAgain_26 ?_
      refine gX6_118 rfl hkp ((h.p (nn p) (by omega)).1 hp9).1.2.2.2.2.2.2.2.1 dX6_sendAgain_27 ?_
      refine P_ifeq dX6_sendAgain_30 (tgt := 36) rfl (fun h30 => ?_) (fun h30 => ?_)
      · have he0 : e_resend X U p = 0 := (if_neg (fun hh => hh hq)).trans ((if_neg hf).trans (if_neg (fun hh => hh h30)))
        refine P_aloadn (i := 0) rfl rfl dX6_sendAgain_36 ?_
        refine P_aloadn (i := 2) rfl rfl dX6_sendAgain_37 ?_
        refine kX6_102 rfl (hK he0) (by decide) (by first | exact hw.kw | exact hw.k3 | exact hw.k4 | exact hks | exact hkp) rfl dX6_sendAgain_38 (fun r38 s38 q38 => ?_)
        obtain ⟨F2, A2, L2, R2, rfl, rfl, h9, hB⟩ := q38
        refine P_aloadn (i := 0) rfl rfl dX6_sendAgain_41 ?_
        refine P_aload (i := 4) rfl dX6_sendAgain_42 ?_
        refine P_iloadn (i := 1) rfl rfl dX6_sendAgain_44 ?_
        refine P_aloadn (i := 3) rfl rfl dX6_sendAgain_45 ?_
        refine kX6_110 rfl (s_launch h9 rfl hp hc) (by decide) (by first | exact hw.kw | exact hw.k3 | exact hw.k4 | exact hks | exact hkp) rfl dX6_sendAgain_46 (fun r46 s46 q46 => ?_)
        obtain ⟨F3, A3, B3, rfl, rfl, hf3, h3⟩ := q46
        refine P_aloadn (i := 3) rfl rfl dX6_sendAgain_49 ?_
        refine gX6_121 rfl hkp (((h3.p (nn p) (by omega)).1 (show nn p < xp (x_resend X (nn p)) from hp9)).1.2.2.2.2.2.2.2.2.1.trans (show xP (x_resend X (nn p)) (nn p) 6 = xP X (nn p) 6 + 1 from p_up_eq _ _ _ _)) dX6_sendAgain_50 ?_
        refine P_ireturn rfl dX6_sendAgain_53 ?_
        exact Or.inl ⟨he0, F2, A2, L2, R2, hB, F3, A3, B3, rfl, rfl, hf3, h3⟩
      · refine P_bipush (v := (-5)) rfl dX6_sendAgain_33 ?_
        refine P_ireturn rfl dX6_sendAgain_35 ?_
        have he : e_resend X U p = -5 := (if_neg (fun hh => hh hq)).trans ((if_neg hf).trans (if_pos h30))
        exact Or.inr ⟨by rw [he]; decide, by rw [he], rfl⟩
  · rw [if_neg hq]
    refine P_as3 (Or.inl dX6_sendAgain_5) rfl rfl ?_
    refine P_aloadn (i := 3) rfl rfl dX6_sendAgain_6 ?_
    refine P_ifnonnull dX6_sendAgain_7 (tgt := 12) rfl (fun a7 h7 => by cases h7) (fun h7 => ?_)
    refine P_iconst (v := (-1)) rfl dX6_sendAgain_10 ?_
    refine P_ireturn rfl dX6_sendAgain_11 ?_
    have he : e_resend X U p = -1 := if_pos hq
    exact Or.inr ⟨by rw [he]; decide, by rw [he], rfl⟩
theorem s_forgeSlice (h : CW L FI AI AL AR w X C U sa) {p off len la seed : Int32} {B : (Nat → Nat → Int32) → (Nat → Nat → Int32) → (Nat → Nat → Int64) → (Nat → Nat → Option Nat) → Prop} {rc : Option Nat} (hU : U < 1000000) (hc : C.length < 601) (hK : e_forge X U p off len la seed = 0 → Sp g 4 iX6_keepIn [vr w, vq rc] (L, FI, AI, AL, AR) (0, 0) (QKP L w X C U sa B)) : Sp g 5 iX6_forgeSlice [vr w, vi p, vi off, vi len, vi la, vi seed, vq rc] (L, FI, AI, AL, AR) (0, 0) (QEK (L, FI, AI, AL, AR) (e_forge X U p off len la seed) (QKW L w (x_forge X (nn p) off len la seed) (C ++ [((p, off, len, la, 0, seed, xG X 0, xP X (nn p) 1), false)]) (U + 1) sa B (some (vi (Int32.ofNat (U + 1)))))) := by
  refine Sp.of (ls := [some (vr w), some (vi p), some (vi off), some (vi len), some (vi la), some (vi seed), some (vq rc), none, none]) (by decide +kernel) (by cases rc <;> rfl) (by cases rc <;> rfl) ?_
  have hw := h.wf
  have hA := h.wa
  have hb16 := h.b16
  have hp40 := h.p40
  have hsl := hA.lo (i := C.length) hc
  have hks := hw.ks hA (i := C.length) hc
  refine P_aloadn (i := 0) rfl rfl dX6_forgeSlice_0 ?_
  refine P_iloadn (i := 1) rfl rfl dX6_forgeSlice_1 ?_
  refine kX6_114 rfl (s_parcelAt h) (by decide) (by first | assumption | exact hw.kw | exact hw.k1 | exact hw.k2 | exact hw.k3 | exact hw.k4 | exact hw.k5 | exact hw.k6) rfl dX6_forgeSlice_2 (fun r2 s2 q2 => ?_)
  obtain ⟨rfl, rfl⟩ := q2
  by_cases hq : q_ib p (xp X) = true
  · have hp := q_ib_iff.mp hq
    have hp9 := hp.nn
    have hkp := hw.kP (i := nn p) (by omega)
    rw [if_pos hq]
    refine P_as7 (Or.inr dX6_forgeSlice_5) rfl rfl ?_
    refine P_aload (i := 7) rfl dX6_forgeSlice_7 ?_
    refine P_ifnonnull dX6_forgeSlice_9 (tgt := 14) rfl (fun a9 h9 => ?_) (fun h9 => by cases h9)
    cases h9
    refine P_iloadn (i := 2) rfl rfl dX6_forgeSlice_14 ?_
    refine P_iconst (v := 0) rfl dX6_forgeSlice_15 ?_
    refine P_sipush (v := 3999) rfl dX6_forgeSlice_16 ?_
    refine kX6_90 rfl s_X7_isWithin (by decide) rfl dX6_forgeSlice_19 (fun r19 s19 q19 => ?_)
    obtain ⟨rfl, rfl⟩ := q19
    refine P_ifeq dX6_forgeSlice_22 (tgt := 36) rfl (fun h22 => ?_) (fun h22 => ?_)
    · refine P_bipush (v := (-2)) rfl dX6_forgeSlice_36 ?_
      refine P_ireturn rfl dX6_forgeSlice_38 ?_
      have he : e_forge X U p off len la seed = -2 := (if_neg (fun hh => hh hq)).trans (if_pos (fun hh => b_f h22 hh.1))
      exact Or.inr ⟨by rw [he]; decide, by rw [he], rfl⟩
    · refine P_iloadn (i := 3) rfl rfl dX6_forgeSlice_25 ?_
      refine P_iconst (v := 1) rfl dX6_forgeSlice_26 ?_
      refine P_sipush (v := 1500) rfl dX6_forgeSlice_27 ?_
      refine kX6_90 rfl s_X7_isWithin (by decide) rfl dX6_forgeSlice_30 (fun r30 s30 q30 => ?_)
      obtain ⟨rfl, rfl⟩ := q30
      refine P_ifne dX6_forgeSlice_33 (tgt := 39) rfl (fun h33 => ?_) (fun h33 => ?_)
      · refine P_iload (i := 4) rfl dX6_forgeSlice_39 ?_
        refine P_iconst (v := 0) rfl dX6_forgeSlice_41 ?_
        refine P_iconst (v := 1) rfl dX6_forgeSlice_42 ?_
        refine kX6_90 rfl s_X7_isWithin (by decide) rfl dX6_forgeSlice_43 (fun r43 s43 q43 => ?_)
        obtain ⟨rfl, rfl⟩ := q43
        refine P_ifeq dX6_forgeSlice_46 (tgt := 61) rfl (fun h46 => ?_) (fun h46 => ?_)
        · refine P_bipush (v := (-2)) rfl dX6_forgeSlice_61 ?_
          refine P_ireturn rfl dX6_forgeSlice_63 ?_
          have he : e_forge X U p off len la seed = -2 := (if_neg (fun hh => hh hq)).trans (if_pos (fun hh => b_f h46 hh.2.2.1))
          exact Or.inr ⟨by rw [he]; decide, by rw [he], rfl⟩
        · refine P_iload (i := 5) rfl dX6_forgeSlice_49 ?_
          refine P_iconst (v := 0) rfl dX6_forgeSlice_51 ?_
          refine P_sipush (v := 255) rfl dX6_forgeSlice_52 ?_
          refine kX6_90 rfl s_X7_isWithin (by decide) rfl dX6_forgeSlice_55 (fun r55 s55 q55 => ?_)
          obtain ⟨rfl, rfl⟩ := q55
          refine P_ifne dX6_forgeSlice_58 (tgt := 64) rfl (fun h58 => ?_) (fun h58 => ?_)
          · refine P_aloadn (i := 0) rfl rfl dX6_forgeSlice_64 ?_
            refine kX6_98 rfl (s_freeSlice h hU) (by decide) (by first | exact hw.kw | exact hw.k3 | exact hw.k4 | exact hks | exact hkp) rfl dX6_forgeSlice_65 (fun r65 s65 q65 => ?_)
            obtain ⟨rfl, rfl⟩ := q65
            by_cases hf : 300 ≤ U
            · rw [if_pos (show 300 ≤ U ∨ 601 ≤ C.length from Or.inl hf)]
              refine P_as8 (Or.inr dX6_forgeSlice_68) rfl rfl ?_
              refine P_aload (i := 8) rfl dX6_forgeSlice_70 ?_
              refine P_ifnonnull dX6_forgeSlice_72 (tgt := 78) rfl (fun a72 h72 => by cases h72) (fun h72 => ?_)
              refine P_bipush (v := (-4)) rfl dX6_forgeSlice_75 ?_
              refine P_ireturn rfl dX6_forgeSlice_77 ?_
              have he : e_forge X U p off len la seed = -4 := (if_neg (fun hh => hh hq)).trans ((if_neg (fun hh => hh ⟨b_t h22, b_t h33, b_t h46, b_t h58⟩)).trans (if_pos hf))
              exact Or.inr ⟨by rw [he]; decide, by rw [he], rfl⟩
            · rw [if_neg (show ¬ (300 ≤ U ∨ 601 ≤ C.length) by omega)]
              refine P_as8 (Or.inr dX6_forgeSlice_68) rfl rfl ?_
              refine P_aload (i := 8) rfl dX6_forgeSlice_70 ?_
              refine P_ifnonnull dX6_forgeSlice_72 (tgt := 78) rfl (fun a72 h72 => ?_) (fun h72 => by cases h72)
              cases h72
              refine P_aloadn (i := 0) rfl rfl dX6_forgeSlice_78 ?_
              refine P_aload (i := 6) rfl dX6_forgeSlice_79 ?_
              have he0 : e_forge X U p off len la seed = 0 := (if_neg (fun hh => hh hq)).trans ((if_neg (fun hh => hh ⟨b_t h22, b_t h33, b_t h46, b_t h58⟩)).trans (if_neg hf))
              obtain ⟨-, -, -, hla, -, -⟩ := e_forge_ok he0
              refine kX6_102 rfl (hK he0) (by decide) (by first | exact hw.kw | exact hw.k3 | exact hw.k4 | exact hks | exact hkp) rfl dX6_forgeSlice_81 (fun r81 s81 q81 => ?_)
              obtain ⟨F2, A2, L2, R2, rfl, rfl, h9, hB⟩ := q81
              have hA9 := h9.wa
              have J108 : ∀ z : Int32, la = z → P g 5 iX6_forgeSlice 108 [some (vr w), some (vi p), some (vi off), some (vi len), some (vi la), some (vi seed), some (vq rc), some (vr (w + 39 + 2 * nn p)), some (vr (sa C.length))] [vi z, vi len, vi off, vr (sa C.length)] (L, p_up (p_up (p_up F2 160 (sa C.length) p) 164 (sa C.length) seed) 163 (sa C.length) 0, A2, L2, R2) (0, 0) (QEK (L, FI, AI, AL, AR) (e_forge X U p off len la seed) (QKW L w (x_forge X (nn p) off len la seed) (C ++ [((p, off, len, la, 0, seed, xG X 0, xP X (nn p) 1), false)]) (U + 1) sa B (some (vi (Int32.ofNat (U + 1)))))) := by
                intro z hz
                subst hz
                refine kX6_127 rfl (s_span hks hla) (by decide) hks rfl dX6_forgeSlice_108 (fun r108 s108 q108 => ?_)
                obtain ⟨rfl, rfl⟩ := q108
                refine P_aload (i := 8) rfl dX6_forgeSlice_111 ?_
                refine P_aload (i := 7) rfl dX6_forgeSlice_113 ?_
                refine gX6_131 rfl hkp ((p_up_n1 _ _ _ _ (by decide)).trans ((p_up_n1 _ _ _ _ (by decide)).trans ((p_up_n1 _ _ _ _ (by decide)).trans ((p_up_n1 _ _ _ _ (by decide)).trans ((p_up_n1 _ _ _ _ (by decide)).trans ((p_up_n1 _ _ _ _ (by decide)).trans (((h9.p (nn p) (by omega)).1 hp9).1.2.1))))))) dX6_forgeSlice_115 ?_
                refine P_aloadn (i := 0) rfl rfl dX6_forgeSlice_118 ?_
                refine gX6_46 rfl (by first | exact hw.kw | exact hw.k3 | exact hw.k4 | exact hks | exact hkp) ((p_up_n1 _ _ _ _ (by decide)).trans ((p_up_n1 _ _ _ _ (by decide)).trans ((p_up_n1 _ _ _ _ (by decide)).trans ((p_up_n1 _ _ _ _ (by decide)).trans ((p_up_n1 _ _ _ _ (by decide)).trans ((p_up_n1 _ _ _ _ (by decide)).trans (h9.g.1))))))) dX6_forgeSlice_119 ?_
                refine kX6_134 rfl (s_arrive hks) (by decide) hks rfl dX6_forgeSlice_122 (fun r122 s122 q122 => ?_)
                obtain ⟨rfl, rfl⟩ := q122
                have hFs : ∀ (j a : Nat), ¬ (160 ≤ j ∧ j < 169 ∧ a = sa C.length) → (p_up (p_up (p_up (p_up (p_up (p_up (p_up (p_up (p_up (F2) 160 (sa C.length) p) 164 (sa C.length) seed) 163 (sa C.length) 0) 161 (sa C.length) off) 162 (sa C.length) len) 165 (sa C.length) la) 166 (sa C.length) (xP X (nn p) 1)) 167 (sa C.length) (xG X 0)) 168 (sa C.length) 0) j a = F2 j a := fun j a hja => (p_up_of (by omega)).trans ((p_up_of (by omega)).trans ((p_up_of (by omega)).trans ((p_up_of (by omega)).trans ((p_up_of (by omega)).trans ((p_up_of (by omega)).trans ((p_up_of (by omega)).trans ((p_up_of (by omega)).trans ((p_up_of (by omega)).trans (rfl)))))))))
                have hS := h9.slot (Nat.le_refl _) (by omega) hFs
                have hL : SL (p_up (p_up (p_up (p_up (p_up (p_up (p_up (p_up (p_up (F2) 160 (sa C.length) p) 164 (sa C.length) seed) 163 (sa C.length) 0) 161 (sa C.length) off) 162 (sa C.length) len) 165 (sa C.length) la) 166 (sa C.length) (xP X (nn p) 1)) 167 (sa C.length) (xG X 0)) 168 (sa C.length) 0) (sa C.length) (((p, off, len, la, 0, seed, xG X 0, xP X (nn p) 1), false) : XC).1 := ⟨(p_up_n1 _ _ _ _ (by decide)).trans ((p_up_n1 _ _ _ _ (by decide)).trans ((p_up_n1 _ _ _ _ (by decide)).trans ((p_up_n1 _ _ _ _ (by decide)).trans ((p_up_n1 _ _ _ _ (by decide)).trans ((p_up_n1 _ _ _ _ (by decide)).trans ((p_up_n1 _ _ _ _ (by decide)).trans ((p_up_n1 _ _ _ _ (by decide)).trans (p_up_eq _ _ _ _)))))))), (p_up_n1 _ _ _ _ (by decide)).trans ((p_up_n1 _ _ _ _ (by decide)).trans ((p_up_n1 _ _ _ _ (by decide)).trans ((p_up_n1 _ _ _ _ (by decide)).trans ((p_up_n1 _ _ _ _ (by decide)).trans (p_up_eq _ _ _ _))))), (p_up_n1 _ _ _ _ (by decide)).trans ((p_up_n1 _ _ _ _ (by decide)).trans ((p_up_n1 _ _ _ _ (by decide)).trans ((p_up_n1 _ _ _ _ (by decide)).trans (p_up_eq _ _ _ _)))), (p_up_n1 _ _ _ _ (by decide)).trans ((p_up_n1 _ _ _ _ (by decide)).trans ((p_up_n1 _ _ _ _ (by decide)).trans (p_up_eq _ _ _ _))), (p_up_n1 _ _ _ _ (by decide)).trans ((p_up_n1 _ _ _ _ (by decide)).trans ((p_up_n1 _ _ _ _ (by decide)).trans ((p_up_n1 _ _ _ _ (by decide)).trans ((p_up_n1 _ _ _ _ (by decide)).trans ((p_up_n1 _ _ _ _ (by decide)).trans (p_up_eq _ _ _ _)))))), (p_up_n1 _ _ _ _ (by decide)).trans ((p_up_n1 _ _ _ _ (by decide)).trans ((p_up_n1 _ _ _ _ (by decide)).trans ((p_up_n1 _ _ _ _ (by decide)).trans ((p_up_n1 _ _ _ _ (by decide)).trans ((p_up_n1 _ _ _ _ (by decide)).trans ((p_up_n1 _ _ _ _ (by decide)).trans (p_up_eq _ _ _ _))))))), (p_up_n1 _ _ _ _ (by decide)).trans (p_up_eq _ _ _ _), (p_up_n1 _ _ _ _ (by decide)).trans ((p_up_n1 _ _ _ _ (by decide)).trans (p_up_eq _ _ _ _))⟩
                have hG : (p_up (p_up (p_up (p_up (p_up (p_up (p_up (p_up (p_up (F2) 160 (sa C.length) p) 164 (sa C.length) seed) 163 (sa C.length) 0) 161 (sa C.length) off) 162 (sa C.length) len) 165 (sa C.length) la) 166 (sa C.length) (xP X (nn p) 1)) 167 (sa C.length) (xG X 0)) 168 (sa C.length) 0) 168 (sa C.length) = (if (((p, off, len, la, 0, seed, xG X 0, xP X (nn p) 1), false) : XC).2 = true then 1 else 0) := p_up_eq _ _ _ _
                generalize (p_up (p_up (p_up (p_up (p_up (p_up (p_up (p_up (p_up (F2) 160 (sa C.length) p) 164 (sa C.length) seed) 163 (sa C.length) 0) 161 (sa C.length) off) 162 (sa C.length) len) 165 (sa C.length) la) 166 (sa C.length) (xP X (nn p) 1)) 167 (sa C.length) (xG X 0)) 168 (sa C.length) 0) = F1 at hFs hS hL hG ⊢
                refine P_aloadn (i := 0) rfl rfl dX6_forgeSlice_125 ?_
                refine kX6_138 rfl (s_countNew hw.kw hS.g.2.2.2.1 hS.g.2.2.2.2.1 hS.g.2.2.2.2.2.1) (by decide) (by first | exact hw.kw | exact hw.k3 | exact hw.k4 | exact hks | exact hkp) rfl dX6_forgeSlice_126 (fun r126 s126 q126 => ?_)
                obtain ⟨rfl, rfl⟩ := q126
                have hT := ((hS.add (σ := ((p, off, len, la, 0, seed, xG X 0, xP X (nn p) 1), false)) (by omega) hL hG).u (U + 1)).g4 (xG X 4 + 1)
                refine P_aloadn (i := 0) rfl rfl dX6_forgeSlice_129 ?_
                refine gX6_59 rfl (by first | exact hw.kw | exact hw.k3 | exact hw.k4 | exact hks | exact hkp) hT.g.2.2.2.2.1 dX6_forgeSlice_130 ?_
                refine P_ireturn rfl dX6_forgeSlice_133 ?_
                have hf1 : FrC w F2 A2 L2 R2 F1 A2 L2 R2 := fun a ha => ⟨fun j => hFs j a (by omega), rfl, rfl, rfl⟩
                refine Or.inl ⟨he0, F2, A2, L2, R2, hB, _, _, _, rfl, rfl, ((hf1.uF (by omega)).uF (by omega)).uF (by omega), ?_⟩
                exact hT.xs _
              refine P_aload (i := 8) rfl dX6_forgeSlice_84 ?_
              refine P_iloadn (i := 1) rfl rfl dX6_forgeSlice_86 ?_
              refine P_iload (i := 5) rfl dX6_forgeSlice_87 ?_
              refine P_iconst (v := 0) rfl dX6_forgeSlice_89 ?_
              refine kX6_124 rfl (s_Sbegin hks) (by decide) hks rfl dX6_forgeSlice_90 (fun r90 s90 q90 => ?_)
              obtain ⟨rfl, rfl⟩ := q90
              refine P_aload (i := 8) rfl dX6_forgeSlice_93 ?_
              refine P_iloadn (i := 2) rfl rfl dX6_forgeSlice_95 ?_
              refine P_iloadn (i := 3) rfl rfl dX6_forgeSlice_96 ?_
              refine P_iload (i := 4) rfl dX6_forgeSlice_97 ?_
              refine P_iconst (v := 1) rfl dX6_forgeSlice_99 ?_
              refine P_icmpne dX6_forgeSlice_100 (tgt := 107) rfl (fun h100 => ?_) (fun h100 => ?_)
              · refine P_iconst (v := 0) rfl dX6_forgeSlice_107 ?_
                refine J108 0 ?_
                exact hla.elim id (fun h9 => absurd h9 h100)
              · refine P_iconst (v := 1) rfl dX6_forgeSlice_103 ?_
                refine P_goto dX6_forgeSlice_104 (tgt := 108) rfl ?_
                exact J108 1 h100
          · refine P_bipush (v := (-2)) rfl dX6_forgeSlice_61 ?_
            refine P_ireturn rfl dX6_forgeSlice_63 ?_
            have he : e_forge X U p off len la seed = -2 := (if_neg (fun hh => hh hq)).trans (if_pos (fun hh => b_f h58 hh.2.2.2))
            exact Or.inr ⟨by rw [he]; decide, by rw [he], rfl⟩
      · refine P_bipush (v := (-2)) rfl dX6_forgeSlice_36 ?_
        refine P_ireturn rfl dX6_forgeSlice_38 ?_
        have he : e_forge X U p off len la seed = -2 := (if_neg (fun hh => hh hq)).trans (if_pos (fun hh => b_f h33 hh.2.1))
        exact Or.inr ⟨by rw [he]; decide, by rw [he], rfl⟩
  · rw [if_neg hq]
    refine P_as7 (Or.inr dX6_forgeSlice_5) rfl rfl ?_
    refine P_aload (i := 7) rfl dX6_forgeSlice_7 ?_
    refine P_ifnonnull dX6_forgeSlice_9 (tgt := 14) rfl (fun a9 h9 => by cases h9) (fun h9 => ?_)
    refine P_iconst (v := (-1)) rfl dX6_forgeSlice_12 ?_
    refine P_ireturn rfl dX6_forgeSlice_13 ?_
    have he : e_forge X U p off len la seed = -1 := if_pos hq
    exact Or.inr ⟨by rw [he]; decide, by rw [he], rfl⟩
end Cls6
