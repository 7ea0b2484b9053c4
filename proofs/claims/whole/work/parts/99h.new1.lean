/-! ===== what is made: a cell's whole content, and what stays ===== -/
def cc (σ : PS) (b : Nat) : Nat × Nat × (Nat → Option Nat) × (Nat → Int32) × (Nat → Int32) × (Nat → Int64) × (Nat → Option Nat) := (σ.1.2.1 b, σ.1.2.2.1 b, (fun f => σ.1.2.2.2 f b), (fun f => σ.2.1 f b), σ.2.2.1 b, σ.2.2.2.1 b, σ.2.2.2.2 b)
/-- below q nothing has changed -/
def p_fr (q : Nat) (σ σ' : PS) : Prop := ∀ b, b < q → cc σ' b = cc σ b
section PFr
variable {q a : Nat} {σ σ2 σ3 : PS} {n0 : Nat} {kd ln : Nat → Nat} {FR : Nat → Nat → Option Nat} {L : PL} {FI AI : Nat → Nat → Int32} {AL : Nat → Nat → Int64} {AR : Nat → Nat → Option Nat}
theorem p_fr.rf : p_fr q σ σ := fun _ _ => rfl
theorem p_fr.tr (h1 : p_fr q σ σ2) (h2 : p_fr q σ2 σ3) : p_fr q σ σ3 := fun b hb => (h2 b hb).trans (h1 b hb)
theorem p_fr.le {p : Nat} (h : p_fr q σ σ2) (hp : p ≤ q) : p_fr p σ σ2 := fun b hb => h b (by omega)
theorem cc.nw {kd ln b : Nat} (hb : b ≠ a) : cc (p_nw a kd ln σ) b = cc σ b := by
  unfold cc p_nw
  dsimp only
  simp only [if_neg hb]
theorem cc.uF {j b : Nat} {v : Int32} (hb : b ≠ a) : cc (L, p_up FI j a v, AI, AL, AR) b = cc (L, FI, AI, AL, AR) b := by
  unfold cc
  dsimp only
  rw [show (fun f => p_up FI j a v f b) = (fun f => FI f b) from funext fun f => p_up_n2 _ _ _ _ hb]
theorem cc.uR {j b : Nat} {v : Option Nat} (hb : b ≠ a) : cc ((n0, kd, ln, p_up FR j a v), FI, AI, AL, AR) b = cc ((n0, kd, ln, FR), FI, AI, AL, AR) b := by
  unfold cc
  dsimp only
  rw [show (fun f => p_up FR j a v f b) = (fun f => FR f b) from funext fun f => p_up_n2 _ _ _ _ hb]
theorem cc.uA {j b : Nat} {v : Int32} (hb : b ≠ a) : cc (L, FI, p_up AI a j v, AL, AR) b = cc (L, FI, AI, AL, AR) b := by
  unfold cc
  dsimp only
  rw [show p_up AI a j v b = AI b from p_up_oth hb]
theorem cc.uQ {j b : Nat} {v : Option Nat} (hb : b ≠ a) : cc (L, FI, AI, AL, p_up AR a j v) b = cc (L, FI, AI, AL, AR) b := by
  unfold cc
  dsimp only
  rw [show p_up AR a j v b = AR b from funext fun i => p_up_n1 _ _ _ _ hb]
theorem p_fr.nw {kd ln : Nat} (h : q ≤ a) : p_fr q σ (p_nw a kd ln σ) := fun b hb => cc.nw (by omega)
theorem p_fr.uF {j : Nat} {v : Int32} (h : q ≤ a) : p_fr q (L, FI, AI, AL, AR) (L, p_up FI j a v, AI, AL, AR) := fun b hb => cc.uF (by omega)
theorem p_fr.uR {j : Nat} {v : Option Nat} (h : q ≤ a) : p_fr q ((n0, kd, ln, FR), FI, AI, AL, AR) ((n0, kd, ln, p_up FR j a v), FI, AI, AL, AR) := fun b hb => cc.uR (by omega)
theorem p_fr.uA {j : Nat} {v : Int32} (h : q ≤ a) : p_fr q (L, FI, AI, AL, AR) (L, FI, p_up AI a j v, AL, AR) := fun b hb => cc.uA (by omega)
theorem p_fr.uQ {j : Nat} {v : Option Nat} (h : q ≤ a) : p_fr q (L, FI, AI, AL, AR) (L, FI, AI, AL, p_up AR a j v) := fun b hb => cc.uQ (by omega)
/-- what one cell's content says -/
theorem cc.ck {b : Nat} (h : cc σ2 b = cc σ b) : σ2.1.2.1 b = σ.1.2.1 b := congrArg (fun z => z.1) h
theorem cc.cl {b : Nat} (h : cc σ2 b = cc σ b) : σ2.1.2.2.1 b = σ.1.2.2.1 b := congrArg (fun z => z.2.1) h
theorem cc.fr {b : Nat} (h : cc σ2 b = cc σ b) (f : Nat) : σ2.1.2.2.2 f b = σ.1.2.2.2 f b := congrFun (congrArg (fun z => z.2.2.1) h) f
theorem cc.fi {b : Nat} (h : cc σ2 b = cc σ b) (f : Nat) : σ2.2.1 f b = σ.2.1 f b := congrFun (congrArg (fun z => z.2.2.2.1) h) f
theorem cc.ai {b : Nat} (h : cc σ2 b = cc σ b) : σ2.2.2.1 b = σ.2.2.1 b := congrArg (fun z => z.2.2.2.2.1) h
theorem cc.al {b : Nat} (h : cc σ2 b = cc σ b) : σ2.2.2.2.1 b = σ.2.2.2.1 b := congrArg (fun z => z.2.2.2.2.2.1) h
theorem cc.ar {b : Nat} (h : cc σ2 b = cc σ b) : σ2.2.2.2.2 b = σ.2.2.2.2 b := congrArg (fun z => z.2.2.2.2.2.2) h
end PFr
/-- a node, a bridge, a parcel, a slice as they are made -/
def ND (σ : PS) (a : Nat) : Prop := (σ.1.2.1 a = 2 ∧ σ.1.2.2.2 67 a = some (a + 1) ∧ σ.1.2.1 (a + 1) = 20 ∧ σ.1.2.2.1 (a + 1) = 8) ∧ σ.2.1 64 a = 0 ∧ σ.2.1 65 a = 60 ∧ σ.2.1 66 a = 8000 ∧ ∀ k, k < 8 → σ.2.2.1 (a + 1) k = -6
def BD (σ : PS) (a : Nat) : Prop := σ.1.2.1 a = 0 ∧ ∀ f, σ.2.1 f a = 0
def PD (σ : PS) (a : Nat) : Prop := (σ.1.2.1 a = 4 ∧ σ.1.2.2.2 143 a = some (a + 1) ∧ σ.1.2.1 (a + 1) = 21 ∧ σ.1.2.2.1 (a + 1) = 572) ∧ FP σ.2.1 a
def SD (σ : PS) (a : Nat) : Prop := σ.1.2.1 a = 5
theorem ND.cg {σ σ2 : PS} {a : Nat} (h : ND σ a) (e0 : cc σ2 a = cc σ a) (e1 : cc σ2 (a + 1) = cc σ (a + 1)) : ND σ2 a :=
  ⟨⟨(cc.ck e0).trans h.1.1, (cc.fr e0 67).trans h.1.2.1, (cc.ck e1).trans h.1.2.2.1, (cc.cl e1).trans h.1.2.2.2⟩, (cc.fi e0 64).trans h.2.1, (cc.fi e0 65).trans h.2.2.1, (cc.fi e0 66).trans h.2.2.2.1, fun k hk => (congrFun (cc.ai e1) k).trans (h.2.2.2.2 k hk)⟩
theorem BD.cg {σ σ2 : PS} {a : Nat} (h : BD σ a) (e0 : cc σ2 a = cc σ a) : BD σ2 a := ⟨(cc.ck e0).trans h.1, fun f => (cc.fi e0 f).trans (h.2 f)⟩
theorem PD.cg {σ σ2 : PS} {a : Nat} (h : PD σ a) (e0 : cc σ2 a = cc σ a) (e1 : cc σ2 (a + 1) = cc σ (a + 1)) : PD σ2 a := by
  refine ⟨⟨(cc.ck e0).trans h.1.1, (cc.fr e0 143).trans h.1.2.1, (cc.ck e1).trans h.1.2.2.1, (cc.cl e1).trans h.1.2.2.2⟩, ?_⟩
  have h2 := h.2
  unfold FP at h2 ⊢
  rw [cc.fi e0, cc.fi e0, cc.fi e0, cc.fi e0, cc.fi e0, cc.fi e0, cc.fi e0, cc.fi e0]
  exact h2
theorem SD.cg {σ σ2 : PS} {a : Nat} (h : SD σ a) (e0 : cc σ2 a = cc σ a) : SD σ2 a := (cc.ck e0).trans h
/-- the end of a constructor that made n cells: σ as it was, the object at a -/
def QC (σ : PS) (a n : Nat) (φ : PS → Prop) : Option PV → PS → Prop := fun r σ2 => r = none ∧ σ2.1.1 = σ.1.1 + n ∧ p_fr a σ σ2 ∧ φ σ2
section Ctor
variable {g : PG} {L : PL} {FI AI : Nat → Nat → Int32} {AL : Nat → Nat → Int64} {AR : Nat → Nat → Option Nat} {a : Nat}

theorem g_X0_init (hk : L.2.1 a = 0) (hz : ∀ f, FI f a = 0) : Sp g 0 iX0_init [vr a] (L, FI, AI, AL, AR) (0, 0) (QC (L, FI, AI, AL, AR) a 0 (fun σ => BD σ a)) := by
  refine Sp.of (ls := [some (vr a)]) (by decide +kernel) rfl rfl ?_
  refine P_aloadn (i := 0) rfl rfl dX0_init_0 ?_
  refine oX0_3 rfl dX0_init_1 rfl ?_
  refine P_return rfl dX0_init_4 ?_
  exact ⟨rfl, rfl, p_fr.rf, hk, hz⟩
theorem g_X5_init (hk : L.2.1 a = 5) : Sp g 0 iX5_init [vr a] (L, FI, AI, AL, AR) (0, 0) (QC (L, FI, AI, AL, AR) a 0 (fun σ => SD σ a)) := by
  refine Sp.of (ls := [some (vr a)]) (by decide +kernel) rfl rfl ?_
  refine P_aloadn (i := 0) rfl rfl dX5_init_0 ?_
  refine oX5_1 rfl dX5_init_1 rfl ?_
  refine P_return rfl dX5_init_4 ?_
  exact ⟨rfl, rfl, p_fr.rf, hk⟩
theorem g_X4_init (hk : L.2.1 a = 4) (hz : ∀ f, FI f a = 0) (hq : g.2.2.2 + L.1 = a + 1) : Sp g 0 iX4_init [vr a] (L, FI, AI, AL, AR) (1, 572) (QC (L, FI, AI, AL, AR) a 1 (fun σ => PD σ a)) := by
  refine Sp.of (ls := [some (vr a)]) (by decide +kernel) rfl rfl ?_
  refine P_aloadn (i := 0) rfl rfl dX4_init_0 ?_
  refine oX4_3 rfl dX4_init_1 rfl ?_
  refine P_aloadn (i := 0) rfl rfl dX4_init_4 ?_
  refine P_bipush (v := (-6)) rfl dX4_init_5 ?_
  refine uX4_9 rfl (by assumption) dX4_init_7 ?_
  refine P_aloadn (i := 0) rfl rfl dX4_init_10 ?_
  refine P_bipush (v := (-6)) rfl dX4_init_11 ?_
  refine uX4_15 rfl (by assumption) dX4_init_13 ?_
  refine P_aloadn (i := 0) rfl rfl dX4_init_16 ?_
  refine P_sipush (v := 572) rfl dX4_init_17 ?_
  refine P_nw1 (q := a + 1) (N := 572) (k2 := (0, 0)) rfl (by decide) hq rfl rfl dX4_init_20 ?_
  refine uX4_18 rfl rfl (show (if a = a + 1 then 21 else L.2.1 a) = 4 from (if_neg (by omega)).trans hk) dX4_init_22 ?_
  refine P_return rfl dX4_init_25 ?_
  refine ⟨rfl, rfl, ?_, ?_⟩
  · exact ((p_fr.uF (Nat.le_refl a)).tr (p_fr.uF (Nat.le_refl a))).tr ((p_fr.nw (Nat.le_succ a)).tr (p_fr.uR (Nat.le_refl a)))
  · have e1 : ¬ a = a + 1 := by omega
    refine ⟨⟨(if_neg e1).trans hk, by simp [p_up], if_pos rfl, if_pos rfl⟩, ?_⟩
    have hF : ∀ f, ((fun f b => if b = a + 1 then (0 : Int32) else p_up (p_up FI 138 a (-6)) 142 a (-6) f b) : Nat → Nat → Int32) f a = p_up (p_up FI 138 a (-6)) 142 a (-6) f a := fun f => if_neg e1
    have h0 : ∀ f, f ≠ 138 → f ≠ 142 → ((fun f b => if b = a + 1 then (0 : Int32) else p_up (p_up FI 138 a (-6)) 142 a (-6) f b) : Nat → Nat → Int32) f a = 0 := fun f h1 h2 => (hF f).trans ((p_up_n1 _ _ _ _ h2).trans ((p_up_n1 _ _ _ _ h1).trans (hz f)))
    exact ⟨Or.inl (h0 134 (by decide) (by decide)), h0 135 (by decide) (by decide), h0 136 (by decide) (by decide), h0 137 (by decide) (by decide), (hF 138).trans ((p_up_n1 _ _ _ _ (by decide)).trans (p_up_eq _ _ _ _)), h0 139 (by decide) (by decide), h0 141 (by decide) (by decide), (hF 142).trans (p_up_eq _ _ _ _)⟩
/-- a pad as it is made -/
def TD (σ : PS) (a : Nat) : Prop := (σ.1.2.1 a = 3 ∧ σ.1.2.2.2 96 a = some (a + 1) ∧ σ.1.2.2.2 100 a = some (a + 2) ∧ σ.1.2.1 (a + 1) = 23 ∧ σ.1.2.2.1 (a + 1) = 80 ∧ σ.1.2.1 (a + 2) = 20 ∧ σ.1.2.2.1 (a + 2) = 3) ∧ σ.2.1 97 a = 0
theorem TD.cg {σ σ2 : PS} {a : Nat} (h : TD σ a) (e0 : cc σ2 a = cc σ a) (e1 : cc σ2 (a + 1) = cc σ (a + 1)) (e2 : cc σ2 (a + 2) = cc σ (a + 2)) : TD σ2 a :=
  ⟨⟨(cc.ck e0).trans h.1.1, (cc.fr e0 96).trans h.1.2.1, (cc.fr e0 100).trans h.1.2.2.1, (cc.ck e1).trans h.1.2.2.2.1, (cc.cl e1).trans h.1.2.2.2.2.1, (cc.ck e2).trans h.1.2.2.2.2.2.1, (cc.cl e2).trans h.1.2.2.2.2.2.2⟩, (cc.fi e0 97).trans h.2⟩
theorem g_X3_init (hk : L.2.1 a = 3) (hz : ∀ f, FI f a = 0) (hq : g.2.2.2 + L.1 = a + 1) : Sp g 0 iX3_init [vr a] (L, FI, AI, AL, AR) (2, 83) (QC (L, FI, AI, AL, AR) a 2 (fun σ => TD σ a)) := by
  refine Sp.of (ls := [some (vr a)]) (by decide +kernel) rfl rfl ?_
  have e1 : ¬ a = a + 1 := by omega
  have e2 : ¬ a = a + 2 := by omega
  have e3 : ¬ a + 1 = a + 2 := by omega
  refine P_aloadn (i := 0) rfl rfl dX3_init_0 ?_
  refine oX3_3 rfl dX3_init_1 rfl ?_
  refine P_aloadn (i := 0) rfl rfl dX3_init_4 ?_
  refine P_bipush (v := 80) rfl dX3_init_5 ?_
  refine P_nw3 (q := a + 1) (N := 80) (k2 := (1, 3)) rfl (by decide) hq rfl rfl dX3_init_7 ?_
  refine uX3_9 rfl rfl ((if_neg e1).trans hk) dX3_init_9 ?_
  refine P_aloadn (i := 0) rfl rfl dX3_init_12 ?_
  refine P_iconst (v := 3) rfl dX3_init_13 ?_
  refine P_nw0 (q := a + 2) (N := 3) (k2 := (0, 0)) rfl (by decide) (by show g.2.2.2 + (L.1 + 1) = a + 2; omega) rfl rfl dX3_init_14 ?_
  refine uX3_15 rfl rfl ((if_neg e2).trans ((if_neg e1).trans hk)) dX3_init_16 ?_
  refine P_return rfl dX3_init_19 ?_
  refine ⟨rfl, rfl, ?_, ?_⟩
  · exact ((p_fr.nw (Nat.le_succ a)).tr (p_fr.uR (Nat.le_refl a))).tr ((p_fr.nw (show a ≤ a + 2 by omega)).tr (p_fr.uR (Nat.le_refl a)))
  · exact ⟨⟨(if_neg e2).trans ((if_neg e1).trans hk), by simp [p_up], by simp [p_up], (if_neg e3).trans (if_pos rfl), (if_neg e3).trans (if_pos rfl), if_pos rfl, if_pos rfl⟩, (if_neg e2).trans ((if_neg e1).trans (hz 97))⟩
theorem c_X2_loop {S2 : PL} {F : Nat → Nat → Int32} {B : Nat → Nat → Int64} {R : Nat → Nat → Option Nat} (hn : S2.1 = L.1 + 1) (hk2 : S2.2.1 a = 2) (hr : S2.2.2.2 67 a = some (a + 1)) (hka : S2.2.1 (a + 1) = 20) (hla : S2.2.2.1 (a + 1) = 8) (h64 : F 64 a = 0) (h65 : F 65 a = 60) (h66 : F 66 a = 8000) : ∀ (n i : Nat) (A : Nat → Nat → Int32), i + n = 8 → (∀ j, j < i → A (a + 1) j = -6) → p_fr a (L, FI, AI, AL, AR) (S2, F, A, B, R) → P g 0 iX2_init 27 [some (vr a), some (vi (Int32.ofNat i))] [] (S2, F, A, B, R) (0, 0) (QC (L, FI, AI, AL, AR) a 1 (fun σ => ND σ a)) := by
  intro n
  induction n with
  | zero =>
    intro i A hi hA hfr
    refine P_iloadn (i := 1) rfl rfl dX2_init_27 ?_
    refine P_bipush (v := 8) rfl dX2_init_28 ?_
    refine P_icmpge dX2_init_30 (tgt := 47) rfl (fun h30 => ?_) (fun h30 => absurd ((n_le (a := 8) (b := i) (by omega) (by omega)).mpr (by omega)) h30)
    refine P_return rfl dX2_init_47 ?_
    exact ⟨rfl, hn, hfr, ⟨hk2, hr, hka, hla⟩, h64, h65, h66, fun k hk => hA k (by omega)⟩
  | succ n ih =>
    intro i A hi hA hfr
    refine P_iloadn (i := 1) rfl rfl dX2_init_27 ?_
    refine P_bipush (v := 8) rfl dX2_init_28 ?_
    refine P_icmpge dX2_init_30 (tgt := 47) rfl (fun h30 => absurd h30 (fun h8 => by have h7 := (n_le (a := 8) (b := i) (by omega) (by omega)).mp h8; omega)) (fun h30 => ?_)
    refine P_aloadn (i := 0) rfl rfl dX2_init_33 ?_
    refine gX2_18 rfl hk2 hr dX2_init_34 ?_
    refine P_iloadn (i := 1) rfl rfl dX2_init_37 ?_
    refine P_bipush (v := (-6)) rfl dX2_init_38 ?_
    refine P_isN (j := i) hka rfl (by omega) (by rw [hla]; omega) dX2_init_40 ?_
    refine P_inN1 dX2_init_41 rfl rfl ?_
    refine P_goto dX2_init_44 (tgt := 27) rfl ?_
    exact ih (i + 1) (p_up A (a + 1) i (-6)) (by omega) (fun j hj => by
      by_cases e : j = i
      · rw [e]; exact p_up_eq _ _ _ _
      · exact (p_up_n2 _ _ _ _ e).trans (hA j (by omega))) (fun b hb => (cc.uA (by omega)).trans (hfr b hb))
theorem g_X2_init (hk : L.2.1 a = 2) (hz : ∀ f, FI f a = 0) (hq : g.2.2.2 + L.1 = a + 1) : Sp g 0 iX2_init [vr a] (L, FI, AI, AL, AR) (1, 8) (QC (L, FI, AI, AL, AR) a 1 (fun σ => ND σ a)) := by
  refine Sp.of (ls := [some (vr a), none]) (by decide +kernel) rfl rfl ?_
  have e1 : ¬ a = a + 1 := by omega
  refine P_aloadn (i := 0) rfl rfl dX2_init_0 ?_
  refine oX2_3 rfl dX2_init_1 rfl ?_
  refine P_aloadn (i := 0) rfl rfl dX2_init_4 ?_
  refine P_bipush (v := 60) rfl dX2_init_5 ?_
  refine uX2_9 rfl (by assumption) dX2_init_7 ?_
  refine P_aloadn (i := 0) rfl rfl dX2_init_10 ?_
  refine P_sipush (v := 8000) rfl dX2_init_11 ?_
  refine uX2_15 rfl (by assumption) dX2_init_14 ?_
  refine P_aloadn (i := 0) rfl rfl dX2_init_17 ?_
  refine P_bipush (v := 8) rfl dX2_init_18 ?_
  refine P_nw0 (q := a + 1) (N := 8) (k2 := (0, 0)) rfl (by decide) hq rfl rfl dX2_init_20 ?_
  refine uX2_18 rfl rfl ((if_neg e1).trans hk) dX2_init_22 ?_
  refine P_iconst (v := 0) rfl dX2_init_25 ?_
  refine P_is1 (Or.inl dX2_init_26) rfl rfl ?_
  exact c_X2_loop rfl ((if_neg e1).trans hk) (by simp [p_up]) (if_pos rfl) (if_pos rfl) (by simp [p_up, hz]) (by simp [p_up]) (by simp [p_up]) 8 0 _ rfl (fun j hj => absurd hj (Nat.not_lt_zero _)) (((p_fr.uF (Nat.le_refl a)).tr (p_fr.uF (Nat.le_refl a))).tr ((p_fr.nw (Nat.le_succ a)).tr (p_fr.uR (Nat.le_refl a))))
end Ctor
