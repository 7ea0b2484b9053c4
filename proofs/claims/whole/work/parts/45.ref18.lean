/-! ===== texts ===== -/
def t_nx (c : Nat → Int32) (n s : Nat) : Int32 := if s < n then c s else 0
def t_dg (c : Nat → Int32) (n : Nat) (h : Int32) (s : Nat) : Bool := decide ((48 : Int32) ≤ t_nx c n s ∧ t_nx c n s ≤ h)
def t_d (c : Nat → Int32) (n s : Nat) : Nat := nn (t_nx c n s - 48)
def q_more (c : Nat → Int32) (n : Nat) : Nat → Nat → Nat → Nat × Nat
  | 0, v, s => (v, s)
  | f + 1, v, s => if v ≠ 0 ∧ t_dg c n 57 s = true ∧ v * 10 + t_d c n s ≤ 4999 then q_more c n f (v * 10 + t_d c n s) (s + 1) else (v, s)
def q_num (c : Nat → Int32) (n s : Nat) : Nat × Nat := q_more c n 5000 (t_d c n s) (s + 1)
def k_sign (c : Nat → Int32) (n : Nat) (g : Int32) (x : Nat × Bool) : Nat × Bool := (if (x.2 || decide (¬ t_nx c n x.1 = g)) = true then x.1 else x.1 + 1, x.2 || decide (¬ t_nx c n x.1 = g))
def k_one (c : Nat → Int32) (n : Nat) (h : Int32) (x : Nat × Bool) : Nat × Bool := (if (x.2 || !t_dg c n h x.1) = true then x.1 else x.1 + 1, x.2 || !t_dg c n h x.1)
def k_num (c : Nat → Int32) (n : Nat) (x : Nat × Bool) : Nat × Bool := if (x.2 || !t_dg c n 57 x.1) = true then (x.1, true) else ((q_num c n x.1).2, decide ((q_num c n x.1).1 ≠ 0) && t_dg c n 57 (q_num c n x.1).2)
def k_is (c : Nat → Int32) (n : Nat) (g : Int32) (x : Nat × Bool) : Bool := !x.2 && decide (t_nx c n x.1 = g)
def k_if (c : Nat → Int32) (n : Nat) (g : Int32) (x : Nat × Bool) : Nat × Bool := (if k_is c n g x = true then x.1 + 1 else x.1, x.2)
/-- the reference's reading state in its fields -/
def tg (FI : Nat → Nat → Int32) (m s : Nat) (w : Bool) (k : Nat) : Nat → Nat → Int32 := p_up (p_up (p_up FI 278 m (Int32.ofNat k)) 277 m (if w = true then 1 else 0)) 276 m (Int32.ofNat s)
def TC (FI AI : Nat → Nat → Int32) (m : Nat) (c : Nat → Int32) (n : Nat) : Prop := FI 268 m = Int32.ofNat n ∧ n ≤ 80 ∧ ∀ i, i < n → AI (m + 10) i = c i
section TGp
variable {FI AI : Nat → Nat → Int32} {m s k : Nat} {w : Bool} {c : Nat → Int32} {n : Nat}
theorem tg_276 : tg FI m s w k 276 m = Int32.ofNat s := p_up_eq _ _ _ _
theorem tg_277 : tg FI m s w k 277 m = (if w = true then 1 else 0) := (p_up_n1 _ _ _ _ (by decide)).trans (p_up_eq _ _ _ _)
theorem tg_278 : tg FI m s w k 278 m = Int32.ofNat k := (p_up_n1 _ _ _ _ (by decide)).trans ((p_up_n1 _ _ _ _ (by decide)).trans (p_up_eq _ _ _ _))
theorem tg_o {j : Nat} (h6 : j ≠ 276) (h7 : j ≠ 277) (h8 : j ≠ 278) {a : Nat} : tg FI m s w k j a = FI j a := (p_up_n1 _ _ _ _ h6).trans ((p_up_n1 _ _ _ _ h7).trans (p_up_n1 _ _ _ _ h8))
theorem tg_a {j a : Nat} (h : a ≠ m) : tg FI m s w k j a = FI j a := (p_up_n2 _ _ _ _ h).trans ((p_up_n2 _ _ _ _ h).trans (p_up_n2 _ _ _ _ h))
theorem p_up_up {α : Type} (f : Nat → Nat → α) (i j : Nat) (u v : α) : p_up (p_up f i j u) i j v = p_up f i j v := by
  funext a b
  unfold p_up
  by_cases e : a = i ∧ b = j
  · rw [if_pos e, if_pos e]
  · rw [if_neg e, if_neg e, if_neg e]
theorem p_up_sw {α : Type} (f : Nat → Nat → α) {i i2 j j2 : Nat} (u v : α) (h : i ≠ i2) : p_up (p_up f i j u) i2 j2 v = p_up (p_up f i2 j2 v) i j u := by
  funext a b
  unfold p_up
  by_cases e : a = i ∧ b = j
  · by_cases e2 : a = i2 ∧ b = j2
    · exact absurd (e.1.symm.trans e2.1) h
    · rw [if_neg e2, if_pos e, if_pos e]
  · by_cases e2 : a = i2 ∧ b = j2
    · rw [if_pos e2, if_neg e, if_pos e2]
    · rw [if_neg e2, if_neg e, if_neg e, if_neg e2]
theorem tg_s (s2 : Nat) : p_up (tg FI m s w k) 276 m (Int32.ofNat s2) = tg FI m s2 w k := p_up_up _ _ _ _ _
theorem tg_w (w2 : Bool) : p_up (tg FI m s w k) 277 m (if w2 = true then 1 else 0) = tg FI m s w2 k := by
  unfold tg
  rw [p_up_sw _ _ _ (by decide), p_up_up]
theorem tg_k (k2 : Nat) : p_up (tg FI m s w k) 278 m (Int32.ofNat k2) = tg FI m s w k2 := by
  unfold tg
  rw [p_up_sw (i := 276) (i2 := 278) _ _ _ (by decide), p_up_sw (i := 277) (i2 := 278) _ _ _ (by decide), p_up_up]
theorem t_dg_d {h : Int32} (hh : h ≤ 57) (hd : t_dg c n h s = true) : t_d c n s < 10 ∧ t_nx c n s - 48 = Int32.ofNat (t_d c n s) ∧ s < n := by
  have h1 := of_decide_eq_true hd
  have h2 := h1.1
  have h3 := h1.2
  rw [Int32.le_iff_toInt_le] at h2 h3 hh
  simp only [Int32.reduceToInt] at h2 hh
  have h4 : (t_nx c n s - 48).toInt = (t_nx c n s).toInt - 48 := by
    rw [i_sub]
    simp only [Int32.reduceToInt]
    omega
  have h5 : ib (t_nx c n s - 48) 10 := ⟨by omega, by omega⟩
  refine ⟨h5.nn, h5.eq, ?_⟩
  have h6 : ¬ ¬ s < n := fun hn => by
    have h7 : t_nx c n s = 0 := if_neg hn
    rw [h7] at h2
    exact absurd h2 (by decide)
  exact Decidable.byContradiction h6
theorem q_more_ge : ∀ f v s, s ≤ (q_more c n f v s).2 := by
  intro f
  induction f with
  | zero => intro v s; exact Nat.le_refl _
  | succ f ih =>
    intro v s
    unfold q_more
    split
    · have := ih (v * 10 + t_d c n s) (s + 1); omega
    · exact Nat.le_refl _
theorem q_more_le : ∀ f v s, v ≤ 4999 → (q_more c n f v s).1 ≤ 4999 := by
  intro f
  induction f with
  | zero => intro v s h; exact h
  | succ f ih =>
    intro v s h
    unfold q_more
    split
    · rename_i h2; exact ih _ _ h2.2.2
    · exact h
theorem q_more_n : ∀ f v s, s ≤ n → (q_more c n f v s).2 ≤ n := by
  intro f
  induction f with
  | zero => intro v s h; exact h
  | succ f ih =>
    intro v s h
    unfold q_more
    split
    · rename_i h2
      have := (t_dg_d (by decide) h2.2.1).2.2
      exact ih _ _ (by omega)
    · exact h
end TGp
def z_wipe (Z : ZW) : ZW × Int32 := ((zX Z, zH Z, zf Z, zk Z, zS Z, zV Z, zC Z, 0), Int32.ofNat (zn Z))
section Ref18
variable {g : PG} {L : PL} {FI AI : Nat → Nat → Int32} {AL : Nat → Nat → Int64} {AR : Nat → Nat → Option Nat} {m : Nat} {Z : ZW} {s k n : Nat} {w : Bool} {c : Nat → Int32}
theorem s_wipe (hM : WM L m) (hZ : RZ FI AI m Z) : Sp g 0 iX8_wipe [vr m] (L, FI, AI, AL, AR) (0, 0) (RZM L FI AI AL AR m (z_wipe Z).1 (some (vi (z_wipe Z).2))) := by
  refine Sp.of (ls := [some (vr m), none]) (by decide +kernel) rfl rfl ?_
  refine P_aloadn (i := 0) rfl rfl dX8_wipe_0 ?_
  refine gX8_211 rfl (by first | exact hM.k0 | exact hM.k1 | exact hM.k2 | exact hM.k3 | exact hM.k4 | exact hM.k5 | exact hM.k6 | exact hM.k7 | exact hM.k8 | exact hM.k9 | exact hM.k10 | exact hM.k11 | exact hM.k12 | exact hM.k13 | exact hM.k14 | exact hM.k15 | exact hM.k16 | exact hM.k17) hZ.pn dX8_wipe_1 ?_
  refine P_is1 (Or.inl dX8_wipe_4) rfl rfl ?_
  refine P_aloadn (i := 0) rfl rfl dX8_wipe_5 ?_
  refine P_iconst (v := 0) rfl dX8_wipe_6 ?_
  refine uX8_211 rfl (by first | exact hM.k0 | exact hM.k1 | exact hM.k2 | exact hM.k3 | exact hM.k4 | exact hM.k5 | exact hM.k6 | exact hM.k7 | exact hM.k8 | exact hM.k9 | exact hM.k10 | exact hM.k11 | exact hM.k12 | exact hM.k13 | exact hM.k14 | exact hM.k15 | exact hM.k16 | exact hM.k17) dX8_wipe_7 ?_
  refine P_iloadn (i := 1) rfl rfl dX8_wipe_10 ?_
  refine P_ireturn rfl dX8_wipe_11 ?_
  refine ⟨_, _, rfl, rfl, ⟨fun j a ha => p_up_n2 _ _ _ _ ha, fun _ _ => rfl, p_up_n1 _ _ _ _ (by decide)⟩, ?_⟩
  exact ⟨hZ.1, ⟨(p_up_n1 _ _ _ _ (by decide)).trans hZ.pf, hZ.f6, (p_up_n1 _ _ _ _ (by decide)).trans hZ.pk, hZ.k6⟩, hZ.2.2.1, hZ.2.2.2.1, p_up_eq _ _ _ _, Nat.zero_le _, fun i hi => absurd hi (Nat.not_lt_zero i)⟩
theorem s_next (hM : WM L m) (hT : TC FI AI m c n) (hs : s < 1000000) : Sp g 0 iX8_next [vr m] (L, tg FI m s w k, AI, AL, AR) (0, 0) (QI (L, tg FI m s w k, AI, AL, AR) (t_nx c n s)) := by
  refine Sp.of (ls := [some (vr m)]) (by decide +kernel) rfl rfl ?_
  have hn80 := hT.2.1
  refine P_aloadn (i := 0) rfl rfl dX8_next_0 ?_
  refine gX8_240 rfl (by first | exact hM.k0 | exact hM.k1 | exact hM.k2 | exact hM.k3 | exact hM.k4 | exact hM.k5 | exact hM.k6 | exact hM.k7 | exact hM.k8 | exact hM.k9 | exact hM.k10 | exact hM.k11 | exact hM.k12 | exact hM.k13 | exact hM.k14 | exact hM.k15 | exact hM.k16 | exact hM.k17) tg_276 dX8_next_1 ?_
  refine P_aloadn (i := 0) rfl rfl dX8_next_4 ?_
  refine gX8_211 rfl (by first | exact hM.k0 | exact hM.k1 | exact hM.k2 | exact hM.k3 | exact hM.k4 | exact hM.k5 | exact hM.k6 | exact hM.k7 | exact hM.k8 | exact hM.k9 | exact hM.k10 | exact hM.k11 | exact hM.k12 | exact hM.k13 | exact hM.k14 | exact hM.k15 | exact hM.k16 | exact hM.k17) ((tg_o (by decide) (by decide) (by decide)).trans hT.1) dX8_next_5 ?_
  refine P_icmpge dX8_next_8 (tgt := 23) rfl (fun h8 => ?_) (fun h8 => ?_)
  · refine P_iconst (v := 0) rfl dX8_next_23 ?_
    refine P_ireturn rfl dX8_next_24 ?_
    rw [show t_nx c n s = 0 from if_neg (by have h7 := (n_le (by omega) (by omega)).mp h8; omega)]
    exact ⟨rfl, rfl⟩
  · have hlt : s < n := by
      have h7 : ¬ n ≤ s := fun h9 => h8 ((n_le (by omega) (by omega)).mpr h9)
      omega
    refine P_aloadn (i := 0) rfl rfl dX8_next_11 ?_
    refine gX8_41 rfl (by first | exact hM.k0 | exact hM.k1 | exact hM.k2 | exact hM.k3 | exact hM.k4 | exact hM.k5 | exact hM.k6 | exact hM.k7 | exact hM.k8 | exact hM.k9 | exact hM.k10 | exact hM.k11 | exact hM.k12 | exact hM.k13 | exact hM.k14 | exact hM.k15 | exact hM.k16 | exact hM.k17) hM.r267 dX8_next_12 ?_
    refine P_aloadn (i := 0) rfl rfl dX8_next_15 ?_
    refine gX8_240 rfl (by first | exact hM.k0 | exact hM.k1 | exact hM.k2 | exact hM.k3 | exact hM.k4 | exact hM.k5 | exact hM.k6 | exact hM.k7 | exact hM.k8 | exact hM.k9 | exact hM.k10 | exact hM.k11 | exact hM.k12 | exact hM.k13 | exact hM.k14 | exact hM.k15 | exact hM.k16 | exact hM.k17) tg_276 dX8_next_16 ?_
    refine P_iaN (j := s) (by first | exact hM.k0 | exact hM.k1 | exact hM.k2 | exact hM.k3 | exact hM.k4 | exact hM.k5 | exact hM.k6 | exact hM.k7 | exact hM.k8 | exact hM.k9 | exact hM.k10 | exact hM.k11 | exact hM.k12 | exact hM.k13 | exact hM.k14 | exact hM.k15 | exact hM.k16 | exact hM.k17) rfl (by first | omega | (simp only [hM.l1, hM.l2, hM.l3, hM.l4, hM.l5, hM.l6, hM.l7, hM.l8, hM.l9, hM.l10, hM.l11, hM.l12, hM.l13, hM.l14, hM.l15, hM.l16, hM.l17]; omega)) (by first | omega | (simp only [hM.l1, hM.l2, hM.l3, hM.l4, hM.l5, hM.l6, hM.l7, hM.l8, hM.l9, hM.l10, hM.l11, hM.l12, hM.l13, hM.l14, hM.l15, hM.l16, hM.l17]; omega)) (hT.2.2 s hlt) dX8_next_19 ?_
    refine P_goto dX8_next_20 (tgt := 24) rfl ?_
    refine P_ireturn rfl dX8_next_24 ?_
    rw [show t_nx c n s = c s from if_pos hlt]
    exact ⟨rfl, rfl⟩
theorem s_takeSign (hM : WM L m) (hT : TC FI AI m c n) (hs : s < 1000000) {z : Int32} : Sp g 1 iX8_takeSign [vr m, vi z] (L, tg FI m s w k, AI, AL, AR) (0, 0) (QV (L, tg FI m (k_sign c n z (s, w)).1 (k_sign c n z (s, w)).2 k, AI, AL, AR)) := by
  refine Sp.of (ls := [some (vr m), some (vi z)]) (by decide +kernel) rfl rfl ?_
  have J24 : ∀ w2 : Bool, w2 = (w || decide (¬ t_nx c n s = z)) → P g 1 iX8_takeSign 24 [some (vr m), some (vi z)] [] (L, tg FI m s w2 k, AI, AL, AR) (0, 0) (QV (L, tg FI m (k_sign c n z (s, w)).1 (k_sign c n z (s, w)).2 k, AI, AL, AR)) := by
    intro w2 hw2
    have hk : k_sign c n z (s, w) = (if w2 = true then s else s + 1, w2) := by rw [hw2]; rfl
    rw [hk]
    refine P_aloadn (i := 0) rfl rfl dX8_takeSign_24 ?_
    refine P_dup rfl dX8_takeSign_25 ?_
    refine gX8_240 rfl (by first | exact hM.k0 | exact hM.k1 | exact hM.k2 | exact hM.k3 | exact hM.k4 | exact hM.k5 | exact hM.k6 | exact hM.k7 | exact hM.k8 | exact hM.k9 | exact hM.k10 | exact hM.k11 | exact hM.k12 | exact hM.k13 | exact hM.k14 | exact hM.k15 | exact hM.k16 | exact hM.k17) tg_276 dX8_takeSign_26 ?_
    refine P_aloadn (i := 0) rfl rfl dX8_takeSign_29 ?_
    refine gX8_243 rfl (by first | exact hM.k0 | exact hM.k1 | exact hM.k2 | exact hM.k3 | exact hM.k4 | exact hM.k5 | exact hM.k6 | exact hM.k7 | exact hM.k8 | exact hM.k9 | exact hM.k10 | exact hM.k11 | exact hM.k12 | exact hM.k13 | exact hM.k14 | exact hM.k15 | exact hM.k16 | exact hM.k17) tg_277 dX8_takeSign_30 ?_
    refine P_ifeq dX8_takeSign_33 (tgt := 40) rfl (fun h33 => ?_) (fun h33 => ?_)
    · have hw3 : ¬ w2 = true := b_f h33
      refine P_iconst (v := 1) rfl dX8_takeSign_40 ?_
      refine P_iadd dX8_takeSign_41 ?_
      refine uX8_240 rfl (by first | exact hM.k0 | exact hM.k1 | exact hM.k2 | exact hM.k3 | exact hM.k4 | exact hM.k5 | exact hM.k6 | exact hM.k7 | exact hM.k8 | exact hM.k9 | exact hM.k10 | exact hM.k11 | exact hM.k12 | exact hM.k13 | exact hM.k14 | exact hM.k15 | exact hM.k16 | exact hM.k17) dX8_takeSign_42 ?_
      refine P_return rfl dX8_takeSign_45 ?_
      refine ⟨rfl, ?_⟩
      rw [if_neg hw3, show Int32.ofNat s + 1 = Int32.ofNat (s + 1) from n_add s 1, tg_s]
    · have hw3 : w2 = true := b_t h33
      refine P_iconst (v := 0) rfl dX8_takeSign_36 ?_
      refine P_goto dX8_takeSign_37 (tgt := 41) rfl ?_
      refine P_iadd dX8_takeSign_41 ?_
      refine uX8_240 rfl (by first | exact hM.k0 | exact hM.k1 | exact hM.k2 | exact hM.k3 | exact hM.k4 | exact hM.k5 | exact hM.k6 | exact hM.k7 | exact hM.k8 | exact hM.k9 | exact hM.k10 | exact hM.k11 | exact hM.k12 | exact hM.k13 | exact hM.k14 | exact hM.k15 | exact hM.k16 | exact hM.k17) dX8_takeSign_42 ?_
      refine P_return rfl dX8_takeSign_45 ?_
      refine ⟨rfl, ?_⟩
      rw [if_pos hw3, show Int32.ofNat s + 0 = Int32.ofNat s from n_add s 0, tg_s]
  refine P_aloadn (i := 0) rfl rfl dX8_takeSign_0 ?_
  refine P_aloadn (i := 0) rfl rfl dX8_takeSign_1 ?_
  refine gX8_243 rfl (by first | exact hM.k0 | exact hM.k1 | exact hM.k2 | exact hM.k3 | exact hM.k4 | exact hM.k5 | exact hM.k6 | exact hM.k7 | exact hM.k8 | exact hM.k9 | exact hM.k10 | exact hM.k11 | exact hM.k12 | exact hM.k13 | exact hM.k14 | exact hM.k15 | exact hM.k16 | exact hM.k17) tg_277 dX8_takeSign_2 ?_
  refine P_ifne dX8_takeSign_5 (tgt := 16) rfl (fun h5 => ?_) (fun h5 => ?_)
  · have hw : w = true := b_t h5
    refine P_iconst (v := 1) rfl dX8_takeSign_16 ?_
    refine P_goto dX8_takeSign_17 (tgt := 21) rfl ?_
    refine uX8_243 rfl (by first | exact Or.inl rfl | exact Or.inr rfl | assumption) (by first | exact hM.k0 | exact hM.k1 | exact hM.k2 | exact hM.k3 | exact hM.k4 | exact hM.k5 | exact hM.k6 | exact hM.k7 | exact hM.k8 | exact hM.k9 | exact hM.k10 | exact hM.k11 | exact hM.k12 | exact hM.k13 | exact hM.k14 | exact hM.k15 | exact hM.k16 | exact hM.k17) dX8_takeSign_21 ?_
    have h0 := J24 true (by rw [hw]; rfl)
    rw [← tg_w (w := w) true] at h0
    exact h0
  · have hw : w = false := by simpa using b_f h5
    refine P_aloadn (i := 0) rfl rfl dX8_takeSign_8 ?_
    refine kX8_247 rfl (s_next hM hT hs) (by decide) (by first | exact hM.k0 | exact hM.k1 | exact hM.k2 | exact hM.k3 | exact hM.k4 | exact hM.k5 | exact hM.k6 | exact hM.k7 | exact hM.k8 | exact hM.k9 | exact hM.k10 | exact hM.k11 | exact hM.k12 | exact hM.k13 | exact hM.k14 | exact hM.k15 | exact hM.k16 | exact hM.k17) rfl dX8_takeSign_9 (fun r9 s9 q9 => ?_)
    obtain ⟨rfl, rfl⟩ := q9
    refine P_iloadn (i := 1) rfl rfl dX8_takeSign_12 ?_
    refine P_icmpeq dX8_takeSign_13 (tgt := 20) rfl (fun h13 => ?_) (fun h13 => ?_)
    · refine P_iconst (v := 0) rfl dX8_takeSign_20 ?_
      refine uX8_243 rfl (by first | exact Or.inl rfl | exact Or.inr rfl | assumption) (by first | exact hM.k0 | exact hM.k1 | exact hM.k2 | exact hM.k3 | exact hM.k4 | exact hM.k5 | exact hM.k6 | exact hM.k7 | exact hM.k8 | exact hM.k9 | exact hM.k10 | exact hM.k11 | exact hM.k12 | exact hM.k13 | exact hM.k14 | exact hM.k15 | exact hM.k16 | exact hM.k17) dX8_takeSign_21 ?_
      have h0 := J24 false (by rw [hw, h13]; simp)
      rw [← tg_w (w := w) false] at h0
      exact h0
    · refine P_iconst (v := 1) rfl dX8_takeSign_16 ?_
      refine P_goto dX8_takeSign_17 (tgt := 21) rfl ?_
      refine uX8_243 rfl (by first | exact Or.inl rfl | exact Or.inr rfl | assumption) (by first | exact hM.k0 | exact hM.k1 | exact hM.k2 | exact hM.k3 | exact hM.k4 | exact hM.k5 | exact hM.k6 | exact hM.k7 | exact hM.k8 | exact hM.k9 | exact hM.k10 | exact hM.k11 | exact hM.k12 | exact hM.k13 | exact hM.k14 | exact hM.k15 | exact hM.k16 | exact hM.k17) dX8_takeSign_21 ?_
      have h0 := J24 true (by rw [hw]; simp [h13])
      rw [← tg_w (w := w) true] at h0
      exact h0
theorem s_takeOne (hM : WM L m) (hT : TC FI AI m c n) (hs : s < 1000000) {z : Int32} {pl : Nat} (hk : k < 28) (hpl : pl < 4) : Sp g 1 iX8_takeOne [vr m, vi (Int32.ofNat pl), vi z] (L, tg FI m s w k, AI, AL, AR) (0, 0) (QV (L, tg FI m (k_one c n z (s, w)).1 (k_one c n z (s, w)).2 k, (if (k_one c n z (s, w)).2 = true then AI else p_up AI (m + 17) (4 * k + pl) (t_nx c n s - 48)), AL, AR)) := by
  refine Sp.of (ls := [some (vr m), some (vi (Int32.ofNat pl)), some (vi z)]) (by decide +kernel) rfl rfl ?_
  have J29 : ∀ w2 : Bool, w2 = (w || !t_dg c n z s) → P g 1 iX8_takeOne 29 [some (vr m), some (vi (Int32.ofNat pl)), some (vi z)] [] (L, tg FI m s w2 k, AI, AL, AR) (0, 0) (QV (L, tg FI m (k_one c n z (s, w)).1 (k_one c n z (s, w)).2 k, (if (k_one c n z (s, w)).2 = true then AI else p_up AI (m + 17) (4 * k + pl) (t_nx c n s - 48)), AL, AR)) := by
    intro w2 hw2
    have hk : k_one c n z (s, w) = (if w2 = true then s else s + 1, w2) := by rw [hw2]; rfl
    rw [hk]
    refine P_aloadn (i := 0) rfl rfl dX8_takeOne_29 ?_
    refine gX8_243 rfl (by first | exact hM.k0 | exact hM.k1 | exact hM.k2 | exact hM.k3 | exact hM.k4 | exact hM.k5 | exact hM.k6 | exact hM.k7 | exact hM.k8 | exact hM.k9 | exact hM.k10 | exact hM.k11 | exact hM.k12 | exact hM.k13 | exact hM.k14 | exact hM.k15 | exact hM.k16 | exact hM.k17) tg_277 dX8_takeOne_30 ?_
    refine P_ifne dX8_takeOne_33 (tgt := 66) rfl (fun h33 => ?_) (fun h33 => ?_)
    · have hw3 : w2 = true := b_t h33
      refine P_return rfl dX8_takeOne_66 ?_
      refine ⟨rfl, ?_⟩
      rw [if_pos hw3, if_pos hw3]
    · have hw3 : ¬ w2 = true := b_f h33
      refine P_aloadn (i := 0) rfl rfl dX8_takeOne_36 ?_
      refine gX8_62 rfl (by first | exact hM.k0 | exact hM.k1 | exact hM.k2 | exact hM.k3 | exact hM.k4 | exact hM.k5 | exact hM.k6 | exact hM.k7 | exact hM.k8 | exact hM.k9 | exact hM.k10 | exact hM.k11 | exact hM.k12 | exact hM.k13 | exact hM.k14 | exact hM.k15 | exact hM.k16 | exact hM.k17) hM.r280 dX8_takeOne_37 ?_
      refine P_iconst (v := 4) rfl dX8_takeOne_40 ?_
      refine P_aloadn (i := 0) rfl rfl dX8_takeOne_41 ?_
      refine gX8_250 rfl (by first | exact hM.k0 | exact hM.k1 | exact hM.k2 | exact hM.k3 | exact hM.k4 | exact hM.k5 | exact hM.k6 | exact hM.k7 | exact hM.k8 | exact hM.k9 | exact hM.k10 | exact hM.k11 | exact hM.k12 | exact hM.k13 | exact hM.k14 | exact hM.k15 | exact hM.k16 | exact hM.k17) tg_278 dX8_takeOne_42 ?_
      refine P_imul dX8_takeOne_45 ?_
      refine P_iloadn (i := 1) rfl rfl dX8_takeOne_46 ?_
      refine P_iadd dX8_takeOne_47 ?_
      refine P_aloadn (i := 0) rfl rfl dX8_takeOne_48 ?_
      refine kX8_247 rfl (s_next hM hT hs) (by decide) (by first | exact hM.k0 | exact hM.k1 | exact hM.k2 | exact hM.k3 | exact hM.k4 | exact hM.k5 | exact hM.k6 | exact hM.k7 | exact hM.k8 | exact hM.k9 | exact hM.k10 | exact hM.k11 | exact hM.k12 | exact hM.k13 | exact hM.k14 | exact hM.k15 | exact hM.k16 | exact hM.k17) rfl dX8_takeOne_49 (fun r49 s49 q49 => ?_)
      obtain ⟨rfl, rfl⟩ := q49
      refine P_bipush (v := 48) rfl dX8_takeOne_52 ?_
      refine P_isub dX8_takeOne_54 ?_
      refine P_isN (j := 4 * k + pl) (by first | exact hM.k0 | exact hM.k1 | exact hM.k2 | exact hM.k3 | exact hM.k4 | exact hM.k5 | exact hM.k6 | exact hM.k7 | exact hM.k8 | exact hM.k9 | exact hM.k10 | exact hM.k11 | exact hM.k12 | exact hM.k13 | exact hM.k14 | exact hM.k15 | exact hM.k16 | exact hM.k17) (n_ix 4 k pl) (by first | omega | (simp only [hM.l1, hM.l2, hM.l3, hM.l4, hM.l5, hM.l6, hM.l7, hM.l8, hM.l9, hM.l10, hM.l11, hM.l12, hM.l13, hM.l14, hM.l15, hM.l16, hM.l17]; omega)) (by first | omega | (simp only [hM.l1, hM.l2, hM.l3, hM.l4, hM.l5, hM.l6, hM.l7, hM.l8, hM.l9, hM.l10, hM.l11, hM.l12, hM.l13, hM.l14, hM.l15, hM.l16, hM.l17]; omega)) dX8_takeOne_55 ?_
      refine P_aloadn (i := 0) rfl rfl dX8_takeOne_56 ?_
      refine P_dup rfl dX8_takeOne_57 ?_
      refine gX8_240 rfl (by first | exact hM.k0 | exact hM.k1 | exact hM.k2 | exact hM.k3 | exact hM.k4 | exact hM.k5 | exact hM.k6 | exact hM.k7 | exact hM.k8 | exact hM.k9 | exact hM.k10 | exact hM.k11 | exact hM.k12 | exact hM.k13 | exact hM.k14 | exact hM.k15 | exact hM.k16 | exact hM.k17) tg_276 dX8_takeOne_58 ?_
      refine P_iconst (v := 1) rfl dX8_takeOne_61 ?_
      refine P_iadd dX8_takeOne_62 ?_
      refine uX8_240 rfl (by first | exact hM.k0 | exact hM.k1 | exact hM.k2 | exact hM.k3 | exact hM.k4 | exact hM.k5 | exact hM.k6 | exact hM.k7 | exact hM.k8 | exact hM.k9 | exact hM.k10 | exact hM.k11 | exact hM.k12 | exact hM.k13 | exact hM.k14 | exact hM.k15 | exact hM.k16 | exact hM.k17) dX8_takeOne_63 ?_
      refine P_return rfl dX8_takeOne_66 ?_
      refine ⟨rfl, ?_⟩
      rw [if_neg hw3, if_neg hw3, show Int32.ofNat s + 1 = Int32.ofNat (s + 1) from n_add s 1, tg_s]
  refine P_aloadn (i := 0) rfl rfl dX8_takeOne_0 ?_
  refine P_aloadn (i := 0) rfl rfl dX8_takeOne_1 ?_
  refine gX8_243 rfl (by first | exact hM.k0 | exact hM.k1 | exact hM.k2 | exact hM.k3 | exact hM.k4 | exact hM.k5 | exact hM.k6 | exact hM.k7 | exact hM.k8 | exact hM.k9 | exact hM.k10 | exact hM.k11 | exact hM.k12 | exact hM.k13 | exact hM.k14 | exact hM.k15 | exact hM.k16 | exact hM.k17) tg_277 dX8_takeOne_2 ?_
  refine P_ifne dX8_takeOne_5 (tgt := 21) rfl (fun h5 => ?_) (fun h5 => ?_)
  · have hw : w = true := b_t h5
    refine P_iconst (v := 1) rfl dX8_takeOne_21 ?_
    refine P_goto dX8_takeOne_22 (tgt := 26) rfl ?_
    refine uX8_243 rfl (by first | exact Or.inl rfl | exact Or.inr rfl | assumption) (by first | exact hM.k0 | exact hM.k1 | exact hM.k2 | exact hM.k3 | exact hM.k4 | exact hM.k5 | exact hM.k6 | exact hM.k7 | exact hM.k8 | exact hM.k9 | exact hM.k10 | exact hM.k11 | exact hM.k12 | exact hM.k13 | exact hM.k14 | exact hM.k15 | exact hM.k16 | exact hM.k17) dX8_takeOne_26 ?_
    have h0 := J29 true (by rw [hw]; rfl)
    rw [← tg_w (w := w) true] at h0
    exact h0
  · have hw : w = false := by simpa using b_f h5
    refine P_aloadn (i := 0) rfl rfl dX8_takeOne_8 ?_
    refine kX8_247 rfl (s_next hM hT hs) (by decide) (by first | exact hM.k0 | exact hM.k1 | exact hM.k2 | exact hM.k3 | exact hM.k4 | exact hM.k5 | exact hM.k6 | exact hM.k7 | exact hM.k8 | exact hM.k9 | exact hM.k10 | exact hM.k11 | exact hM.k12 | exact hM.k13 | exact hM.k14 | exact hM.k15 | exact hM.k16 | exact hM.k17) rfl dX8_takeOne_9 (fun r9 s9 q9 => ?_)
    obtain ⟨rfl, rfl⟩ := q9
    refine P_bipush (v := 48) rfl dX8_takeOne_12 ?_
    refine P_iloadn (i := 2) rfl rfl dX8_takeOne_14 ?_
    refine kX8_65 rfl s_X8_in (by decide) rfl dX8_takeOne_15 (fun r15 s15 q15 => ?_)
    obtain ⟨rfl, rfl⟩ := q15
    refine P_ifne dX8_takeOne_18 (tgt := 25) rfl (fun h18 => ?_) (fun h18 => ?_)
    · refine P_iconst (v := 0) rfl dX8_takeOne_25 ?_
      refine uX8_243 rfl (by first | exact Or.inl rfl | exact Or.inr rfl | assumption) (by first | exact hM.k0 | exact hM.k1 | exact hM.k2 | exact hM.k3 | exact hM.k4 | exact hM.k5 | exact hM.k6 | exact hM.k7 | exact hM.k8 | exact hM.k9 | exact hM.k10 | exact hM.k11 | exact hM.k12 | exact hM.k13 | exact hM.k14 | exact hM.k15 | exact hM.k16 | exact hM.k17) dX8_takeOne_26 ?_
      have h0 := J29 false (by rw [hw, show t_dg c n z s = true from decide_eq_true (b_t h18)]; rfl)
      rw [← tg_w (w := w) false] at h0
      exact h0
    · refine P_iconst (v := 1) rfl dX8_takeOne_21 ?_
      refine P_goto dX8_takeOne_22 (tgt := 26) rfl ?_
      refine uX8_243 rfl (by first | exact Or.inl rfl | exact Or.inr rfl | assumption) (by first | exact hM.k0 | exact hM.k1 | exact hM.k2 | exact hM.k3 | exact hM.k4 | exact hM.k5 | exact hM.k6 | exact hM.k7 | exact hM.k8 | exact hM.k9 | exact hM.k10 | exact hM.k11 | exact hM.k12 | exact hM.k13 | exact hM.k14 | exact hM.k15 | exact hM.k16 | exact hM.k17) dX8_takeOne_26 ?_
      have h0 := J29 true (by rw [hw, show t_dg c n z s = false from decide_eq_false (b_f h18)]; rfl)
      rw [← tg_w (w := w) true] at h0
      exact h0
theorem s_takeIf (hM : WM L m) (hT : TC FI AI m c n) (hs : s < 1000000) {z : Int32} {pl : Nat} (hk : k < 28) (hpl : pl < 4) : Sp g 1 iX8_takeIf [vr m, vi z, vi (Int32.ofNat pl)] (L, tg FI m s w k, AI, AL, AR) (0, 0) (QV (L, tg FI m (k_if c n z (s, w)).1 w k, p_up AI (m + 17) (4 * k + pl) (if k_is c n z (s, w) = true then 1 else 0), AL, AR)) := by
  refine Sp.of (ls := [some (vr m), some (vi z), some (vi (Int32.ofNat pl)), none]) (by decide +kernel) rfl rfl ?_
  have J20 : ∀ b : Bool, b = k_is c n z (s, w) → P g 1 iX8_takeIf 20 [some (vr m), some (vi z), some (vi (Int32.ofNat pl)), none] [vi (if b = true then 1 else 0)] (L, tg FI m s w k, AI, AL, AR) (0, 0) (QV (L, tg FI m (k_if c n z (s, w)).1 w k, p_up AI (m + 17) (4 * k + pl) (if k_is c n z (s, w) = true then 1 else 0), AL, AR)) := by
    intro b hb
    have hk : k_if c n z (s, w) = (if b = true then s + 1 else s, w) := by rw [hb]; rfl
    rw [hk, ← hb]
    cases b with
    | true =>
      rw [if_pos rfl, if_pos rfl]
      refine P_is3 (Or.inl dX8_takeIf_20) rfl rfl ?_
      refine P_aloadn (i := 0) rfl rfl dX8_takeIf_21 ?_
      refine P_dup rfl dX8_takeIf_22 ?_
      refine gX8_240 rfl (by first | exact hM.k0 | exact hM.k1 | exact hM.k2 | exact hM.k3 | exact hM.k4 | exact hM.k5 | exact hM.k6 | exact hM.k7 | exact hM.k8 | exact hM.k9 | exact hM.k10 | exact hM.k11 | exact hM.k12 | exact hM.k13 | exact hM.k14 | exact hM.k15 | exact hM.k16 | exact hM.k17) tg_276 dX8_takeIf_23 ?_
      refine P_iloadn (i := 3) rfl rfl dX8_takeIf_26 ?_
      refine P_ifeq dX8_takeIf_27 (tgt := 34) rfl (fun h27 => ?_) (fun h27 => ?_)
      · exact absurd h27 (by decide)
      · refine P_iconst (v := 1) rfl dX8_takeIf_30 ?_
        refine P_goto dX8_takeIf_31 (tgt := 35) rfl ?_
        refine P_iadd dX8_takeIf_35 ?_
        refine uX8_240 rfl (by first | exact hM.k0 | exact hM.k1 | exact hM.k2 | exact hM.k3 | exact hM.k4 | exact hM.k5 | exact hM.k6 | exact hM.k7 | exact hM.k8 | exact hM.k9 | exact hM.k10 | exact hM.k11 | exact hM.k12 | exact hM.k13 | exact hM.k14 | exact hM.k15 | exact hM.k16 | exact hM.k17) dX8_takeIf_36 ?_
        rw [show Int32.ofNat s + 1 = Int32.ofNat (s + 1) from n_add s 1, tg_s]
        refine P_aloadn (i := 0) rfl rfl dX8_takeIf_39 ?_
        refine gX8_62 rfl (by first | exact hM.k0 | exact hM.k1 | exact hM.k2 | exact hM.k3 | exact hM.k4 | exact hM.k5 | exact hM.k6 | exact hM.k7 | exact hM.k8 | exact hM.k9 | exact hM.k10 | exact hM.k11 | exact hM.k12 | exact hM.k13 | exact hM.k14 | exact hM.k15 | exact hM.k16 | exact hM.k17) hM.r280 dX8_takeIf_40 ?_
        refine P_iconst (v := 4) rfl dX8_takeIf_43 ?_
        refine P_aloadn (i := 0) rfl rfl dX8_takeIf_44 ?_
        refine gX8_250 rfl (by first | exact hM.k0 | exact hM.k1 | exact hM.k2 | exact hM.k3 | exact hM.k4 | exact hM.k5 | exact hM.k6 | exact hM.k7 | exact hM.k8 | exact hM.k9 | exact hM.k10 | exact hM.k11 | exact hM.k12 | exact hM.k13 | exact hM.k14 | exact hM.k15 | exact hM.k16 | exact hM.k17) tg_278 dX8_takeIf_45 ?_
        refine P_imul dX8_takeIf_48 ?_
        refine P_iloadn (i := 2) rfl rfl dX8_takeIf_49 ?_
        refine P_iadd dX8_takeIf_50 ?_
        refine P_iloadn (i := 3) rfl rfl dX8_takeIf_51 ?_
        refine P_ifeq dX8_takeIf_52 (tgt := 59) rfl (fun h52 => ?_) (fun h52 => ?_)
        · exact absurd h52 (by decide)
        · refine P_iconst (v := 1) rfl dX8_takeIf_55 ?_
          refine P_goto dX8_takeIf_56 (tgt := 60) rfl ?_
          refine P_isN (j := 4 * k + pl) (by first | exact hM.k0 | exact hM.k1 | exact hM.k2 | exact hM.k3 | exact hM.k4 | exact hM.k5 | exact hM.k6 | exact hM.k7 | exact hM.k8 | exact hM.k9 | exact hM.k10 | exact hM.k11 | exact hM.k12 | exact hM.k13 | exact hM.k14 | exact hM.k15 | exact hM.k16 | exact hM.k17) (n_ix 4 k pl) (by first | omega | (simp only [hM.l1, hM.l2, hM.l3, hM.l4, hM.l5, hM.l6, hM.l7, hM.l8, hM.l9, hM.l10, hM.l11, hM.l12, hM.l13, hM.l14, hM.l15, hM.l16, hM.l17]; omega)) (by first | omega | (simp only [hM.l1, hM.l2, hM.l3, hM.l4, hM.l5, hM.l6, hM.l7, hM.l8, hM.l9, hM.l10, hM.l11, hM.l12, hM.l13, hM.l14, hM.l15, hM.l16, hM.l17]; omega)) dX8_takeIf_60 ?_
          refine P_return rfl dX8_takeIf_61 ?_
          exact ⟨rfl, rfl⟩
    | false =>
      rw [if_neg Bool.false_ne_true, if_neg Bool.false_ne_true]
      refine P_is3 (Or.inl dX8_takeIf_20) rfl rfl ?_
      refine P_aloadn (i := 0) rfl rfl dX8_takeIf_21 ?_
      refine P_dup rfl dX8_takeIf_22 ?_
      refine gX8_240 rfl (by first | exact hM.k0 | exact hM.k1 | exact hM.k2 | exact hM.k3 | exact hM.k4 | exact hM.k5 | exact hM.k6 | exact hM.k7 | exact hM.k8 | exact hM.k9 | exact hM.k10 | exact hM.k11 | exact hM.k12 | exact hM.k13 | exact hM.k14 | exact hM.k15 | exact hM.k16 | exact hM.k17) tg_276 dX8_takeIf_23 ?_
      refine P_iloadn (i := 3) rfl rfl dX8_takeIf_26 ?_
      refine P_ifeq dX8_takeIf_27 (tgt := 34) rfl (fun h27 => ?_) (fun h27 => ?_)
      · refine P_iconst (v := 0) rfl dX8_takeIf_34 ?_
        refine P_iadd dX8_takeIf_35 ?_
        refine uX8_240 rfl (by first | exact hM.k0 | exact hM.k1 | exact hM.k2 | exact hM.k3 | exact hM.k4 | exact hM.k5 | exact hM.k6 | exact hM.k7 | exact hM.k8 | exact hM.k9 | exact hM.k10 | exact hM.k11 | exact hM.k12 | exact hM.k13 | exact hM.k14 | exact hM.k15 | exact hM.k16 | exact hM.k17) dX8_takeIf_36 ?_
        rw [show Int32.ofNat s + 0 = Int32.ofNat (s + 0) from n_add s 0, tg_s]
        refine P_aloadn (i := 0) rfl rfl dX8_takeIf_39 ?_
        refine gX8_62 rfl (by first | exact hM.k0 | exact hM.k1 | exact hM.k2 | exact hM.k3 | exact hM.k4 | exact hM.k5 | exact hM.k6 | exact hM.k7 | exact hM.k8 | exact hM.k9 | exact hM.k10 | exact hM.k11 | exact hM.k12 | exact hM.k13 | exact hM.k14 | exact hM.k15 | exact hM.k16 | exact hM.k17) hM.r280 dX8_takeIf_40 ?_
        refine P_iconst (v := 4) rfl dX8_takeIf_43 ?_
        refine P_aloadn (i := 0) rfl rfl dX8_takeIf_44 ?_
        refine gX8_250 rfl (by first | exact hM.k0 | exact hM.k1 | exact hM.k2 | exact hM.k3 | exact hM.k4 | exact hM.k5 | exact hM.k6 | exact hM.k7 | exact hM.k8 | exact hM.k9 | exact hM.k10 | exact hM.k11 | exact hM.k12 | exact hM.k13 | exact hM.k14 | exact hM.k15 | exact hM.k16 | exact hM.k17) tg_278 dX8_takeIf_45 ?_
        refine P_imul dX8_takeIf_48 ?_
        refine P_iloadn (i := 2) rfl rfl dX8_takeIf_49 ?_
        refine P_iadd dX8_takeIf_50 ?_
        refine P_iloadn (i := 3) rfl rfl dX8_takeIf_51 ?_
        refine P_ifeq dX8_takeIf_52 (tgt := 59) rfl (fun h52 => ?_) (fun h52 => ?_)
        · refine P_iconst (v := 0) rfl dX8_takeIf_59 ?_
          refine P_isN (j := 4 * k + pl) (by first | exact hM.k0 | exact hM.k1 | exact hM.k2 | exact hM.k3 | exact hM.k4 | exact hM.k5 | exact hM.k6 | exact hM.k7 | exact hM.k8 | exact hM.k9 | exact hM.k10 | exact hM.k11 | exact hM.k12 | exact hM.k13 | exact hM.k14 | exact hM.k15 | exact hM.k16 | exact hM.k17) (n_ix 4 k pl) (by first | omega | (simp only [hM.l1, hM.l2, hM.l3, hM.l4, hM.l5, hM.l6, hM.l7, hM.l8, hM.l9, hM.l10, hM.l11, hM.l12, hM.l13, hM.l14, hM.l15, hM.l16, hM.l17]; omega)) (by first | omega | (simp only [hM.l1, hM.l2, hM.l3, hM.l4, hM.l5, hM.l6, hM.l7, hM.l8, hM.l9, hM.l10, hM.l11, hM.l12, hM.l13, hM.l14, hM.l15, hM.l16, hM.l17]; omega)) dX8_takeIf_60 ?_
          refine P_return rfl dX8_takeIf_61 ?_
          exact ⟨rfl, rfl⟩
        · exact absurd rfl h52
      · exact absurd rfl h27
  refine P_aloadn (i := 0) rfl rfl dX8_takeIf_0 ?_
  refine gX8_243 rfl (by first | exact hM.k0 | exact hM.k1 | exact hM.k2 | exact hM.k3 | exact hM.k4 | exact hM.k5 | exact hM.k6 | exact hM.k7 | exact hM.k8 | exact hM.k9 | exact hM.k10 | exact hM.k11 | exact hM.k12 | exact hM.k13 | exact hM.k14 | exact hM.k15 | exact hM.k16 | exact hM.k17) tg_277 dX8_takeIf_1 ?_
  refine P_ifne dX8_takeIf_4 (tgt := 19) rfl (fun h4 => ?_) (fun h4 => ?_)
  · have hw : w = true := b_t h4
    refine P_iconst (v := 0) rfl dX8_takeIf_19 ?_
    exact J20 false (by rw [hw]; rfl)
  · have hw : w = false := by simpa using b_f h4
    refine P_aloadn (i := 0) rfl rfl dX8_takeIf_7 ?_
    refine kX8_247 rfl (s_next hM hT hs) (by decide) (by first | exact hM.k0 | exact hM.k1 | exact hM.k2 | exact hM.k3 | exact hM.k4 | exact hM.k5 | exact hM.k6 | exact hM.k7 | exact hM.k8 | exact hM.k9 | exact hM.k10 | exact hM.k11 | exact hM.k12 | exact hM.k13 | exact hM.k14 | exact hM.k15 | exact hM.k16 | exact hM.k17) rfl dX8_takeIf_8 (fun r8 s8 q8 => ?_)
    obtain ⟨rfl, rfl⟩ := q8
    refine P_iloadn (i := 1) rfl rfl dX8_takeIf_11 ?_
    refine P_icmpne dX8_takeIf_12 (tgt := 19) rfl (fun h12 => ?_) (fun h12 => ?_)
    · refine P_iconst (v := 0) rfl dX8_takeIf_19 ?_
      exact J20 false (by rw [hw]; show false = (!false && decide (t_nx c n s = z)); simp [h12])
    · refine P_iconst (v := 1) rfl dX8_takeIf_15 ?_
      refine P_goto dX8_takeIf_16 (tgt := 20) rfl ?_
      exact J20 true (by rw [hw]; show true = (!false && decide (t_nx c n s = z)); simp [h12])
theorem n_v10 {c : Nat → Int32} {n s2 : Nat} (v : Nat) (h : t_nx c n s2 - 48 = Int32.ofNat (t_d c n s2)) : (10 : Int32) * Int32.ofNat v + t_nx c n s2 - 48 = Int32.ofNat (v * 10 + t_d c n s2) := by
  have h1 : (10 : Int32) * Int32.ofNat v = Int32.ofNat (v * 10) := by
    rw [Nat.mul_comm v 10]
    exact n_mul 10 v
  rw [h1, Int32.ofNat_add, ← h]
  rw [i_eq, i_sub, i_add, i_add, i_sub]
  omega
theorem s_takeNumber (hM : WM L m) (hT : TC FI AI m c n) (hs : s < 1000000) {pl : Nat} (hk : k < 28) (hpl : pl < 4) : Sp g 2 iX8_takeNumber [vr m, vi (Int32.ofNat pl)] (L, tg FI m s w k, AI, AL, AR) (0, 0) (QV (L, tg FI m (k_num c n (s, w)).1 (k_num c n (s, w)).2 k, (if (w || !t_dg c n 57 s) = true then AI else p_up AI (m + 17) (4 * k + pl) (Int32.ofNat (q_num c n s).1)), AL, AR)) := by
  refine Sp.of (ls := [some (vr m), some (vi (Int32.ofNat pl)), none, none, none]) (by decide +kernel) rfl rfl ?_
  have hn80 := hT.2.1
  rcases hc9 : (w || !t_dg c n 57 s) with _ | _
  · have hwd : (w || !t_dg c n 57 s) = false := hc9
    have hdg0 : t_dg c n 57 s = true := by
      cases hx : t_dg c n 57 s with
      | true => rfl
      | false => rw [hx] at hc9; simp at hc9
    have hd0 := t_dg_d (by decide) hdg0
    have J38f : ∀ (s2 v : Nat) (w2 : Bool), (q_num c n s = (v, s2)) → w2 = (decide (v ≠ 0) && t_dg c n 57 s2) → P g 2 iX8_takeNumber 38 [some (vr m), some (vi (Int32.ofNat pl)), some (vi (Int32.ofNat (4 * k + pl))), some (vi 0), none] [] (L, tg FI m s2 w2 k, p_up AI (m + 17) (4 * k + pl) (Int32.ofNat v), AL, AR) (0, 0) (QV (L, tg FI m (k_num c n (s, w)).1 (k_num c n (s, w)).2 k, (if (w || !t_dg c n 57 s) = true then AI else p_up AI (m + 17) (4 * k + pl) (Int32.ofNat (q_num c n s).1)), AL, AR)) := by
      intro s2 v w2 hq hw2
      have hk2 : k_num c n (s, w) = (s2, w2) := by
        rw [hw2]
        unfold k_num
        rw [if_neg (by rw [hwd]; exact Bool.false_ne_true), hq]
      rw [hk2, hq, if_neg (by rw [hwd]; exact Bool.false_ne_true)]
      refine P_iloadn (i := 3) rfl rfl dX8_takeNumber_38 ?_
      refine P_ifeq dX8_takeNumber_39 (tgt := 114) rfl (fun h39 => ?_) (fun h39 => ?_)
      · refine P_return rfl dX8_takeNumber_114 ?_
        exact ⟨rfl, rfl⟩
      · exact absurd rfl h39
    have loop : ∀ f v s2 : Nat, v ≠ 0 → v ≤ 4999 → 5000 ≤ v + f → s2 ≤ n → q_num c n s = q_more c n f v s2 → P g 2 iX8_takeNumber 38 [some (vr m), some (vi (Int32.ofNat pl)), some (vi (Int32.ofNat (4 * k + pl))), some (vi 1), none] [] (L, tg FI m s2 false k, p_up AI (m + 17) (4 * k + pl) (Int32.ofNat v), AL, AR) (0, 0) (QV (L, tg FI m (k_num c n (s, w)).1 (k_num c n (s, w)).2 k, (if (w || !t_dg c n 57 s) = true then AI else p_up AI (m + 17) (4 * k + pl) (Int32.ofNat (q_num c n s).1)), AL, AR)) := by
      intro f
      induction f with
      | zero => intro v s2 hv hv2 hf hs2 hq; omega
      | succ f ih =>
        intro v s2 hv hv2 hf hs2 hq
        refine P_iloadn (i := 3) rfl rfl dX8_takeNumber_38 ?_
        refine P_ifeq dX8_takeNumber_39 (tgt := 114) rfl (fun h39 => ?_) (fun h39 => ?_)
        · exact absurd h39 (by decide)
        · refine P_aloadn (i := 0) rfl rfl dX8_takeNumber_42 ?_
          refine kX8_247 rfl (s_next hM (show TC FI (p_up AI (m + 17) (4 * k + pl) (Int32.ofNat v)) m c n from ⟨hT.1, hT.2.1, fun i hi => (p_up_n1 _ _ _ _ (by omega)).trans (hT.2.2 i hi)⟩) (by omega)) (by decide) (by first | exact hM.k0 | exact hM.k1 | exact hM.k2 | exact hM.k3 | exact hM.k4 | exact hM.k5 | exact hM.k6 | exact hM.k7 | exact hM.k8 | exact hM.k9 | exact hM.k10 | exact hM.k11 | exact hM.k12 | exact hM.k13 | exact hM.k14 | exact hM.k15 | exact hM.k16 | exact hM.k17) rfl dX8_takeNumber_43 (fun r43 s43 q43 => ?_)
          obtain ⟨rfl, rfl⟩ := q43
          refine P_bipush (v := 48) rfl dX8_takeNumber_46 ?_
          refine P_bipush (v := 57) rfl dX8_takeNumber_48 ?_
          refine kX8_65 rfl s_X8_in (by decide) rfl dX8_takeNumber_50 (fun r50 s50 q50 => ?_)
          obtain ⟨rfl, rfl⟩ := q50
          refine P_ifeq dX8_takeNumber_53 (tgt := 114) rfl (fun h53 => ?_) (fun h53 => ?_)
          · have hdg : t_dg c n 57 s2 = false := decide_eq_false (b_f h53)
            refine P_return rfl dX8_takeNumber_114 ?_
            have hq2 : q_num c n s = (v, s2) := by
              rw [hq]
              exact if_neg (fun hh => by rw [hdg] at hh; exact absurd hh.2.1 Bool.false_ne_true)
            have hk2 : k_num c n (s, w) = (s2, false) := by
              unfold k_num
              rw [if_neg (by rw [hwd]; exact Bool.false_ne_true), hq2]
              show (s2, decide (v ≠ 0) && t_dg c n 57 s2) = _
              rw [hdg, Bool.and_false]
            rw [hk2, hq2, if_neg (by rw [hwd]; exact Bool.false_ne_true)]
            exact ⟨rfl, rfl⟩
          · have hdg : t_dg c n 57 s2 = true := decide_eq_true (b_t h53)
            have hd := t_dg_d (by decide) hdg
            refine P_bipush (v := 10) rfl dX8_takeNumber_56 ?_
            refine P_aloadn (i := 0) rfl rfl dX8_takeNumber_58 ?_
            refine gX8_62 rfl (by first | exact hM.k0 | exact hM.k1 | exact hM.k2 | exact hM.k3 | exact hM.k4 | exact hM.k5 | exact hM.k6 | exact hM.k7 | exact hM.k8 | exact hM.k9 | exact hM.k10 | exact hM.k11 | exact hM.k12 | exact hM.k13 | exact hM.k14 | exact hM.k15 | exact hM.k16 | exact hM.k17) hM.r280 dX8_takeNumber_59 ?_
            refine P_iloadn (i := 2) rfl rfl dX8_takeNumber_62 ?_
            refine P_iaN (j := (4 * k + pl)) (by first | exact hM.k0 | exact hM.k1 | exact hM.k2 | exact hM.k3 | exact hM.k4 | exact hM.k5 | exact hM.k6 | exact hM.k7 | exact hM.k8 | exact hM.k9 | exact hM.k10 | exact hM.k11 | exact hM.k12 | exact hM.k13 | exact hM.k14 | exact hM.k15 | exact hM.k16 | exact hM.k17) rfl (by first | omega | (simp only [hM.l1, hM.l2, hM.l3, hM.l4, hM.l5, hM.l6, hM.l7, hM.l8, hM.l9, hM.l10, hM.l11, hM.l12, hM.l13, hM.l14, hM.l15, hM.l16, hM.l17]; omega)) (by first | omega | (simp only [hM.l1, hM.l2, hM.l3, hM.l4, hM.l5, hM.l6, hM.l7, hM.l8, hM.l9, hM.l10, hM.l11, hM.l12, hM.l13, hM.l14, hM.l15, hM.l16, hM.l17]; omega)) (p_up_eq _ _ _ _) dX8_takeNumber_63 ?_
            refine P_imul dX8_takeNumber_64 ?_
            refine P_aloadn (i := 0) rfl rfl dX8_takeNumber_65 ?_
            refine kX8_247 rfl (s_next hM (show TC FI (p_up AI (m + 17) (4 * k + pl) (Int32.ofNat v)) m c n from ⟨hT.1, hT.2.1, fun i hi => (p_up_n1 _ _ _ _ (by omega)).trans (hT.2.2 i hi)⟩) (by omega)) (by decide) (by first | exact hM.k0 | exact hM.k1 | exact hM.k2 | exact hM.k3 | exact hM.k4 | exact hM.k5 | exact hM.k6 | exact hM.k7 | exact hM.k8 | exact hM.k9 | exact hM.k10 | exact hM.k11 | exact hM.k12 | exact hM.k13 | exact hM.k14 | exact hM.k15 | exact hM.k16 | exact hM.k17) rfl dX8_takeNumber_66 (fun r66 s66 q66 => ?_)
            obtain ⟨rfl, rfl⟩ := q66
            refine P_iadd dX8_takeNumber_69 ?_
            refine P_bipush (v := 48) rfl dX8_takeNumber_70 ?_
            refine P_isub dX8_takeNumber_72 ?_
            rw [n_v10 v hd.2.1]
            refine P_is4 (Or.inr dX8_takeNumber_73) rfl rfl ?_
            refine P_iload (i := 4) rfl dX8_takeNumber_75 ?_
            refine P_sipush (v := 4999) rfl dX8_takeNumber_77 ?_
            refine P_icmple dX8_takeNumber_80 (tgt := 93) rfl (fun h80 => ?_) (fun h80 => ?_)
            · refine P_aloadn (i := 0) rfl rfl dX8_takeNumber_93 ?_
              refine gX8_62 rfl (by first | exact hM.k0 | exact hM.k1 | exact hM.k2 | exact hM.k3 | exact hM.k4 | exact hM.k5 | exact hM.k6 | exact hM.k7 | exact hM.k8 | exact hM.k9 | exact hM.k10 | exact hM.k11 | exact hM.k12 | exact hM.k13 | exact hM.k14 | exact hM.k15 | exact hM.k16 | exact hM.k17) hM.r280 dX8_takeNumber_94 ?_
              refine P_iloadn (i := 2) rfl rfl dX8_takeNumber_97 ?_
              refine P_iload (i := 4) rfl dX8_takeNumber_98 ?_
              refine P_isN (j := (4 * k + pl)) (by first | exact hM.k0 | exact hM.k1 | exact hM.k2 | exact hM.k3 | exact hM.k4 | exact hM.k5 | exact hM.k6 | exact hM.k7 | exact hM.k8 | exact hM.k9 | exact hM.k10 | exact hM.k11 | exact hM.k12 | exact hM.k13 | exact hM.k14 | exact hM.k15 | exact hM.k16 | exact hM.k17) rfl (by first | omega | (simp only [hM.l1, hM.l2, hM.l3, hM.l4, hM.l5, hM.l6, hM.l7, hM.l8, hM.l9, hM.l10, hM.l11, hM.l12, hM.l13, hM.l14, hM.l15, hM.l16, hM.l17]; omega)) (by first | omega | (simp only [hM.l1, hM.l2, hM.l3, hM.l4, hM.l5, hM.l6, hM.l7, hM.l8, hM.l9, hM.l10, hM.l11, hM.l12, hM.l13, hM.l14, hM.l15, hM.l16, hM.l17]; omega)) dX8_takeNumber_100 ?_
              rw [p_up_up]
              refine P_aloadn (i := 0) rfl rfl dX8_takeNumber_101 ?_
              refine P_dup rfl dX8_takeNumber_102 ?_
              refine gX8_240 rfl (by first | exact hM.k0 | exact hM.k1 | exact hM.k2 | exact hM.k3 | exact hM.k4 | exact hM.k5 | exact hM.k6 | exact hM.k7 | exact hM.k8 | exact hM.k9 | exact hM.k10 | exact hM.k11 | exact hM.k12 | exact hM.k13 | exact hM.k14 | exact hM.k15 | exact hM.k16 | exact hM.k17) tg_276 dX8_takeNumber_103 ?_
              refine P_iconst (v := 1) rfl dX8_takeNumber_106 ?_
              refine P_iadd dX8_takeNumber_107 ?_
              refine uX8_240 rfl (by first | exact hM.k0 | exact hM.k1 | exact hM.k2 | exact hM.k3 | exact hM.k4 | exact hM.k5 | exact hM.k6 | exact hM.k7 | exact hM.k8 | exact hM.k9 | exact hM.k10 | exact hM.k11 | exact hM.k12 | exact hM.k13 | exact hM.k14 | exact hM.k15 | exact hM.k16 | exact hM.k17) dX8_takeNumber_108 ?_
              rw [show Int32.ofNat s2 + 1 = Int32.ofNat (s2 + 1) from n_add s2 1, tg_s]
              refine P_goto dX8_takeNumber_111 (tgt := 38) rfl ?_
              refine P_few (ls2 := [some (vr m), some (vi (Int32.ofNat pl)), some (vi (Int32.ofNat (4 * k + pl))), some (vi 1), none]) ⟨rfl, rfl, rfl, rfl, trivial⟩ ?_
              have h8 : v * 10 + t_d c n s2 ≤ 4999 := (n_le (a := v * 10 + t_d c n s2) (b := 4999) (by omega) (by omega)).mp h80
              refine ih (v * 10 + t_d c n s2) (s2 + 1) (by omega) (by omega) (by omega) (by omega) ?_
              rw [hq]
              exact if_pos ⟨by omega, hdg, h8⟩
            · refine P_aloadn (i := 0) rfl rfl dX8_takeNumber_83 ?_
              refine P_iconst (v := 1) rfl dX8_takeNumber_84 ?_
              refine uX8_243 rfl (by first | exact Or.inl rfl | exact Or.inr rfl | assumption) (by first | exact hM.k0 | exact hM.k1 | exact hM.k2 | exact hM.k3 | exact hM.k4 | exact hM.k5 | exact hM.k6 | exact hM.k7 | exact hM.k8 | exact hM.k9 | exact hM.k10 | exact hM.k11 | exact hM.k12 | exact hM.k13 | exact hM.k14 | exact hM.k15 | exact hM.k16 | exact hM.k17) dX8_takeNumber_85 ?_
              rw [show (1 : Int32) = (if true = true then 1 else 0) from rfl, tg_w]
              refine P_iconst (v := 0) rfl dX8_takeNumber_88 ?_
              refine P_is3 (Or.inl dX8_takeNumber_89) rfl rfl ?_
              refine P_goto dX8_takeNumber_90 (tgt := 111) rfl ?_
              refine P_goto dX8_takeNumber_111 (tgt := 38) rfl ?_
              refine P_few (ls2 := [some (vr m), some (vi (Int32.ofNat pl)), some (vi (Int32.ofNat (4 * k + pl))), some (vi 0), none]) ⟨rfl, rfl, rfl, rfl, trivial⟩ ?_
              have h8 : ¬ v * 10 + t_d c n s2 ≤ 4999 := fun h9 => h80 ((n_le (a := v * 10 + t_d c n s2) (b := 4999) (by omega) (by omega)).mpr h9)
              refine J38f s2 v true ?_ ?_
              · rw [hq]
                exact if_neg (fun hh => h8 hh.2.2)
              · rw [hdg, decide_eq_true (show v ≠ 0 by omega)]
                rfl

    rw [← hwd]
    refine P_aloadn (i := 0) rfl rfl dX8_takeNumber_0 ?_
    refine P_iloadn (i := 1) rfl rfl dX8_takeNumber_1 ?_
    refine P_bipush (v := 57) rfl dX8_takeNumber_2 ?_
    refine kX8_253 rfl (s_takeOne hM hT hs hk hpl) (by decide) (by first | exact hM.k0 | exact hM.k1 | exact hM.k2 | exact hM.k3 | exact hM.k4 | exact hM.k5 | exact hM.k6 | exact hM.k7 | exact hM.k8 | exact hM.k9 | exact hM.k10 | exact hM.k11 | exact hM.k12 | exact hM.k13 | exact hM.k14 | exact hM.k15 | exact hM.k16 | exact hM.k17) rfl dX8_takeNumber_4 (fun r4 s4 q4 => ?_)
    obtain ⟨rfl, rfl⟩ := q4
    have hk1 : k_one c n 57 (s, w) = (s + 1, false) := by unfold k_one; rw [hc9]; rfl
    rw [hk1]
    rw [if_neg Bool.false_ne_true]
    rw [hd0.2.1]
    refine P_iconst (v := 4) rfl dX8_takeNumber_7 ?_
    refine P_aloadn (i := 0) rfl rfl dX8_takeNumber_8 ?_
    refine gX8_250 rfl (by first | exact hM.k0 | exact hM.k1 | exact hM.k2 | exact hM.k3 | exact hM.k4 | exact hM.k5 | exact hM.k6 | exact hM.k7 | exact hM.k8 | exact hM.k9 | exact hM.k10 | exact hM.k11 | exact hM.k12 | exact hM.k13 | exact hM.k14 | exact hM.k15 | exact hM.k16 | exact hM.k17) tg_278 dX8_takeNumber_9 ?_
    refine P_imul dX8_takeNumber_12 ?_
    refine P_iloadn (i := 1) rfl rfl dX8_takeNumber_13 ?_
    refine P_iadd dX8_takeNumber_14 ?_
    rw [show (4 : Int32) * Int32.ofNat k + Int32.ofNat pl = Int32.ofNat (4 * k + pl) from n_ix 4 k pl]
    refine P_is2 (Or.inl dX8_takeNumber_15) rfl rfl ?_
    refine P_aloadn (i := 0) rfl rfl dX8_takeNumber_16 ?_
    refine gX8_243 rfl (by first | exact hM.k0 | exact hM.k1 | exact hM.k2 | exact hM.k3 | exact hM.k4 | exact hM.k5 | exact hM.k6 | exact hM.k7 | exact hM.k8 | exact hM.k9 | exact hM.k10 | exact hM.k11 | exact hM.k12 | exact hM.k13 | exact hM.k14 | exact hM.k15 | exact hM.k16 | exact hM.k17) tg_277 dX8_takeNumber_17 ?_
    refine P_ifne dX8_takeNumber_20 (tgt := 36) rfl (fun h20 => ?_) (fun h20 => ?_)
    · exact absurd rfl h20
    · refine P_aloadn (i := 0) rfl rfl dX8_takeNumber_23 ?_
      refine gX8_62 rfl (by first | exact hM.k0 | exact hM.k1 | exact hM.k2 | exact hM.k3 | exact hM.k4 | exact hM.k5 | exact hM.k6 | exact hM.k7 | exact hM.k8 | exact hM.k9 | exact hM.k10 | exact hM.k11 | exact hM.k12 | exact hM.k13 | exact hM.k14 | exact hM.k15 | exact hM.k16 | exact hM.k17) hM.r280 dX8_takeNumber_24 ?_
      refine P_iloadn (i := 2) rfl rfl dX8_takeNumber_27 ?_
      refine P_iaN (j := (4 * k + pl)) (by first | exact hM.k0 | exact hM.k1 | exact hM.k2 | exact hM.k3 | exact hM.k4 | exact hM.k5 | exact hM.k6 | exact hM.k7 | exact hM.k8 | exact hM.k9 | exact hM.k10 | exact hM.k11 | exact hM.k12 | exact hM.k13 | exact hM.k14 | exact hM.k15 | exact hM.k16 | exact hM.k17) rfl (by first | omega | (simp only [hM.l1, hM.l2, hM.l3, hM.l4, hM.l5, hM.l6, hM.l7, hM.l8, hM.l9, hM.l10, hM.l11, hM.l12, hM.l13, hM.l14, hM.l15, hM.l16, hM.l17]; omega)) (by first | omega | (simp only [hM.l1, hM.l2, hM.l3, hM.l4, hM.l5, hM.l6, hM.l7, hM.l8, hM.l9, hM.l10, hM.l11, hM.l12, hM.l13, hM.l14, hM.l15, hM.l16, hM.l17]; omega)) (p_up_eq _ _ _ _) dX8_takeNumber_28 ?_
      refine P_ifle dX8_takeNumber_29 (tgt := 36) rfl (fun h29 => ?_) (fun h29 => ?_)
      · have hz0 : t_d c n s = 0 := by have h8 := (n_le (a := t_d c n s) (b := 0) (by omega) (by omega)).mp h29; omega
        refine P_iconst (v := 0) rfl dX8_takeNumber_36 ?_
        refine P_is3 (Or.inl dX8_takeNumber_37) rfl rfl ?_
        refine J38f (s + 1) (t_d c n s) false ?_ ?_
        · unfold q_num q_more
          exact if_neg (fun hh => hh.1 hz0)
        · rw [hz0]
          rfl
      · have hz0 : ¬ t_d c n s = 0 := fun hh => h29 (by rw [hh]; decide)
        refine P_iconst (v := 1) rfl dX8_takeNumber_32 ?_
        refine P_goto dX8_takeNumber_33 (tgt := 37) rfl ?_
        refine P_is3 (Or.inl dX8_takeNumber_37) rfl rfl ?_
        exact loop 5000 (t_d c n s) (s + 1) hz0 (by omega) (by omega) (by omega) rfl
  · skip
    refine P_aloadn (i := 0) rfl rfl dX8_takeNumber_0 ?_
    refine P_iloadn (i := 1) rfl rfl dX8_takeNumber_1 ?_
    refine P_bipush (v := 57) rfl dX8_takeNumber_2 ?_
    refine kX8_253 rfl (s_takeOne hM hT hs hk hpl) (by decide) (by first | exact hM.k0 | exact hM.k1 | exact hM.k2 | exact hM.k3 | exact hM.k4 | exact hM.k5 | exact hM.k6 | exact hM.k7 | exact hM.k8 | exact hM.k9 | exact hM.k10 | exact hM.k11 | exact hM.k12 | exact hM.k13 | exact hM.k14 | exact hM.k15 | exact hM.k16 | exact hM.k17) rfl dX8_takeNumber_4 (fun r4 s4 q4 => ?_)
    obtain ⟨rfl, rfl⟩ := q4
    have hk1 : k_one c n 57 (s, w) = (s, true) := by unfold k_one; rw [hc9]; rfl
    rw [hk1]
    rw [if_pos rfl]
    refine P_iconst (v := 4) rfl dX8_takeNumber_7 ?_
    refine P_aloadn (i := 0) rfl rfl dX8_takeNumber_8 ?_
    refine gX8_250 rfl (by first | exact hM.k0 | exact hM.k1 | exact hM.k2 | exact hM.k3 | exact hM.k4 | exact hM.k5 | exact hM.k6 | exact hM.k7 | exact hM.k8 | exact hM.k9 | exact hM.k10 | exact hM.k11 | exact hM.k12 | exact hM.k13 | exact hM.k14 | exact hM.k15 | exact hM.k16 | exact hM.k17) tg_278 dX8_takeNumber_9 ?_
    refine P_imul dX8_takeNumber_12 ?_
    refine P_iloadn (i := 1) rfl rfl dX8_takeNumber_13 ?_
    refine P_iadd dX8_takeNumber_14 ?_
    rw [show (4 : Int32) * Int32.ofNat k + Int32.ofNat pl = Int32.ofNat (4 * k + pl) from n_ix 4 k pl]
    refine P_is2 (Or.inl dX8_takeNumber_15) rfl rfl ?_
    refine P_aloadn (i := 0) rfl rfl dX8_takeNumber_16 ?_
    refine gX8_243 rfl (by first | exact hM.k0 | exact hM.k1 | exact hM.k2 | exact hM.k3 | exact hM.k4 | exact hM.k5 | exact hM.k6 | exact hM.k7 | exact hM.k8 | exact hM.k9 | exact hM.k10 | exact hM.k11 | exact hM.k12 | exact hM.k13 | exact hM.k14 | exact hM.k15 | exact hM.k16 | exact hM.k17) tg_277 dX8_takeNumber_17 ?_
    refine P_ifne dX8_takeNumber_20 (tgt := 36) rfl (fun h20 => ?_) (fun h20 => ?_)
    · refine P_iconst (v := 0) rfl dX8_takeNumber_36 ?_
      refine P_is3 (Or.inl dX8_takeNumber_37) rfl rfl ?_
      refine P_iloadn (i := 3) rfl rfl dX8_takeNumber_38 ?_
      refine P_ifeq dX8_takeNumber_39 (tgt := 114) rfl (fun h39 => ?_) (fun h39 => ?_)
      · refine P_return rfl dX8_takeNumber_114 ?_
        have hk2 : k_num c n (s, w) = (s, true) := if_pos hc9
        rw [hk2]
        exact ⟨rfl, rfl⟩
      · exact absurd rfl h39
    · exact absurd (show (1 : Int32) = 0 from h20) (by decide)
end Ref18
