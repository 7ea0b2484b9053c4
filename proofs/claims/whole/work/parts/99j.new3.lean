/-! ===== the first state ===== -/
def x0 : XW := ((fun _ => 0), (fun _ k => if k = 1 then 60 else if k = 2 then 8000 else if 3 ≤ k then -6 else 0), (fun _ _ => 0), (fun _ _ => 0), (fun _ _ => 0), [], 0, 0)
def CVs (σ : PS) (w : Nat) (X : XW) : Prop := CV σ.1 σ.2.1 σ.2.2.1 σ.2.2.2.1 σ.2.2.2.2 w X
theorem WI.cv {σ : PS} {w : Nat} (h : WI σ w 8 16 40 601) : CVs σ w x0 := by
  obtain ⟨⟨⟨h1, h2⟩, hz, ha⟩, hN, hB, hP, hS⟩ := h
  refine ⟨fun i => w + 119 + i, ⟨⟨h1, h2, fun i hi => ?_, fun i hi => (hB i hi).2.1, fun i hi => ?_, fun i hi => (hS i hi).2⟩, ⟨fun i hi => (hN i hi).1, fun i hi => (hB i hi).1, fun i hi => (hP i hi).1, fun i hi => ⟨(hS i hi).1, (show w + 119 ≤ w + 119 + i by omega), (show w + 119 + i < w + 720 by omega)⟩, fun i j _ _ e => (show i = j by have e2 : w + 119 + i = w + 119 + j := e; omega)⟩⟩, ⟨hz _, hz _, hz _, hz _, hz _, hz _, hz _, hz _⟩, fun k _ _ => ha k, fun i hi => ?_, fun b hb => ⟨fun hh => absurd hh (Nat.not_lt_zero _), fun _ k _ _ => (hB b hb).2.2 k⟩, fun p hp => ⟨fun hh => absurd hh (Nat.not_lt_zero _), fun _ => (hP p hp).2.2⟩, fun i hi => absurd hi (Nat.not_lt_zero _), Nat.zero_le _, Nat.zero_le _, Nat.zero_le _⟩
  · have h3 := (hN i hi).2.1
    rw [show w + 8 + 2 * i = w + 7 + 2 * i + 1 by omega]
    exact h3
  · have h3 := (hP i hi).2.1
    rw [show w + 40 + 2 * i = w + 39 + 2 * i + 1 by omega]
    exact h3
  · have h3 := (hN i hi).2.2
    refine ⟨h3.1, h3.2.1, h3.2.2.1, fun k hk => ?_⟩
    rw [show w + 8 + 2 * i = w + 7 + 2 * i + 1 by omega]
    refine (h3.2.2.2 k hk).trans ?_
    show -6 = (if 3 + k = 1 then (60 : Int32) else if 3 + k = 2 then 8000 else if 3 ≤ 3 + k then -6 else 0)
    rw [if_neg (by omega), if_neg (by omega), if_pos (by omega)]
theorem WF.cg {L L2 : PL} {w : Nat} (h : WF L w) (ek : ∀ a, w ≤ a → a < w + 720 → L2.2.1 a = L.2.1 a) (el : ∀ a, w ≤ a → a < w + 720 → L2.2.2.1 a = L.2.2.1 a) (er : ∀ f a, w ≤ a → a < w + 720 → L2.2.2.2 f a = L.2.2.2 f a) : WF L2 w := by
  refine ⟨⟨?_, ?_, ?_, ?_, ?_, ?_, ?_⟩, ⟨?_, ?_, ?_, ?_, ?_, ?_, ?_, ?_, ?_, ?_, ?_, ?_⟩, fun i hi => ⟨?_, ?_, ?_, ?_⟩, fun i hi => ?_, fun i hi => ⟨?_, ?_, ?_, ?_⟩, fun i hi => ?_⟩
  · exact (ek _ (by omega) (by omega)).trans h.kw
  · exact (er _ _ (by omega) (by omega)).trans h.r195
  · exact (er _ _ (by omega) (by omega)).trans h.r196
  · exact (er _ _ (by omega) (by omega)).trans h.r197
  · exact (er _ _ (by omega) (by omega)).trans h.r198
  · exact (er _ _ (by omega) (by omega)).trans h.r204
  · exact (er _ _ (by omega) (by omega)).trans h.r205
  · exact (ek _ (by omega) (by omega)).trans h.k1
  · exact (el _ (by omega) (by omega)).trans h.l1
  · exact (ek _ (by omega) (by omega)).trans h.k2
  · exact (el _ (by omega) (by omega)).trans h.l2
  · exact (ek _ (by omega) (by omega)).trans h.k3
  · exact (el _ (by omega) (by omega)).trans h.l3
  · exact (ek _ (by omega) (by omega)).trans h.k4
  · exact (el _ (by omega) (by omega)).trans h.l4
  · exact (ek _ (by omega) (by omega)).trans h.k5
  · exact (el _ (by omega) (by omega)).trans h.l5
  · exact (ek _ (by omega) (by omega)).trans h.k6
  · exact (el _ (by omega) (by omega)).trans h.l6
  · exact (ek _ (by omega) (by omega)).trans (h.kN hi)
  · exact (er _ _ (by omega) (by omega)).trans (h.rN hi)
  · exact (ek _ (by omega) (by omega)).trans (h.kR hi)
  · exact (el _ (by omega) (by omega)).trans (h.lR hi)
  · exact (ek _ (by omega) (by omega)).trans (h.kB hi)
  · exact (ek _ (by omega) (by omega)).trans (h.kP hi)
  · exact (er _ _ (by omega) (by omega)).trans (h.rP hi)
  · exact (ek _ (by omega) (by omega)).trans (h.kC hi)
  · exact (el _ (by omega) (by omega)).trans (h.lC hi)
  · exact (ek _ (by omega) (by omega)).trans (h.kS hi)
theorem CVs.cg {σ σ2 : PS} {w : Nat} {X : XW} (h : CVs σ w X) (e : ∀ a, w ≤ a → a < w + 720 → cc σ2 a = cc σ a) : CVs σ2 w X := by
  obtain ⟨sa, hl⟩ := h
  have h2 := hl.fr (F2 := σ2.2.1) (A2 := σ2.2.2.1) (L2 := σ2.2.2.2.1) (R2 := σ2.2.2.2.2) (fun a h1 h2 => ⟨fun j => cc.fi (e a h1 h2) j, cc.ai (e a h1 h2), cc.al (e a h1 h2), cc.ar (e a h1 h2)⟩)
  exact ⟨sa, ⟨h2.wf.cg (fun a h1 h2 => cc.ck (e a h1 h2)) (fun a h1 h2 => cc.cl (e a h1 h2)) (fun f a h1 h2 => cc.fr (e a h1 h2) f), h2.1.2⟩, h2.2⟩
/-- a history while it is made -/
def HI (σ : PS) (a n : Nat) : Prop := ((σ.1.2.1 a = 1 ∧ σ.1.2.2.2 32 a = some (a + 1) ∧ σ.1.2.1 (a + 1) = 28 ∧ σ.1.2.2.1 (a + 1) = 6) ∧ ∀ f, σ.2.1 f a = 0) ∧ ∀ j, j < n → σ.2.2.2.2 (a + 1) j = some (a + 2 + 720 * j) ∧ CVs σ (a + 2 + 720 * j) x0
theorem HI.cg {σ σ2 : PS} {a n : Nat} (h : HI σ a n) (e : ∀ b, a ≤ b → b < a + 2 + 720 * n → cc σ2 b = cc σ b) : HI σ2 a n := by
  have e0 := e a (by omega) (by omega)
  have e1 := e (a + 1) (by omega) (by omega)
  exact ⟨⟨⟨(cc.ck e0).trans h.1.1.1, (cc.fr e0 32).trans h.1.1.2.1, (cc.ck e1).trans h.1.1.2.2.1, (cc.cl e1).trans h.1.1.2.2.2⟩, fun f => (cc.fi e0 f).trans (h.1.2 f)⟩, fun j hj => ⟨(congrFun (cc.ar e1) j).trans (h.2 j hj).1, (h.2 j hj).2.cg (fun b h1 h2 => e b (by omega) (by omega))⟩⟩
section New3
variable {g : PG} {σ0 : PS} {L : PL} {FI AI : Nat → Nat → Int32} {AL : Nat → Nat → Int64} {AR : Nat → Nat → Option Nat} {a x i n : Nat}
theorem HI.s (h : HI (L, FI, AI, AL, AR) a n) (hd : CVs (L, FI, AI, AL, AR) (a + 2 + 720 * n) x0) : HI (L, FI, AI, AL, p_up AR (a + 1) n (some (a + 2 + 720 * n))) a (n + 1) := by
  refine ⟨h.1, fun j hj => ?_⟩
  by_cases e : j = n
  · subst e
    exact ⟨p_up_eq _ _ _ _, hd.cg (fun b h1 h2 => cc.uQ (by omega))⟩
  · exact ⟨(p_up_n2 _ _ _ _ e).trans (h.2 j (by omega)).1, (h.2 j (by omega)).2.cg (fun b h1 h2 => cc.uQ (by omega))⟩
theorem c_X1 (hq0 : g.2.2.2 + σ0.1.1 = a + 1) : ∀ (n i : Nat) (L : PL) (FI AI : Nat → Nat → Int32) (AL : Nat → Nat → Int64) (AR : Nat → Nat → Option Nat) (k : Nat × Nat), i + n = 6 → k.1 = 720 * n → k.2 = 29864 * n → HI (L, FI, AI, AL, AR) a i → g.2.2.2 + L.1 = a + 2 + 720 * i → p_fr a σ0 (L, FI, AI, AL, AR) → P g 2 iX1_init 15 [some (vr a), some (vi (Int32.ofNat i))] [] (L, FI, AI, AL, AR) k (QC σ0 a 4321 (fun σ => HI σ a 6)) := by
  intro n
  induction n with
  | zero =>
    intro i L FI AI AL AR k hi hk1 hk2 hw hq hfr
    have hii : i = 6 := by omega
    subst hii
    refine P_iloadn (i := 1) rfl rfl dX1_init_15 ?_
    refine P_bipush (v := 6) rfl dX1_init_16 ?_
    refine P_icmpge dX1_init_18 (tgt := 40) rfl (fun h18 => ?_) (fun h18 => absurd ((n_le (a := 6) (b := 6) (by omega) (by omega)).mpr (by omega)) h18)
    refine P_return rfl dX1_init_40 ?_
    exact ⟨rfl, (show L.1 = σ0.1.1 + 4321 by omega), hfr, hw⟩
  | succ n ih =>
    intro i L FI AI AL AR k hi hk1 hk2 hw hq hfr
    refine P_iloadn (i := 1) rfl rfl dX1_init_15 ?_
    refine P_bipush (v := 6) rfl dX1_init_16 ?_
    refine P_icmpge dX1_init_18 (tgt := 40) rfl (fun h18 => absurd h18 (fun h8 => by have h7 := (n_le (a := 6) (b := i) (by omega) (by omega)).mp h8; omega)) (fun h18 => ?_)
    refine P_aloadn (i := 0) rfl rfl dX1_init_21 ?_
    refine gX1_11 rfl hw.1.1.1 hw.1.1.2.1 dX1_init_22 ?_
    refine P_iloadn (i := 1) rfl rfl dX1_init_25 ?_
    refine nX1_9 (q := a + 2 + 720 * i) (k2 := (k.1 - 1, k.2 - 14)) rfl (by show g.2.2.2 + L.1 = a + 2 + 720 * i; omega) (by show k.1 - 1 + 1 = k.1; omega) (by show k.2 - 14 + 14 = k.2; omega) dX1_init_26 ?_
    generalize hσ : p_nw (a + 2 + 720 * i) 6 0 (L, FI, AI, AL, AR) = σ1
    obtain ⟨L1, F1, A1, B1, R1⟩ := σ1
    have z1 : L1.2.1 (a + 2 + 720 * i) = 6 := (congrArg (fun z : PS => z.1.2.1 (a + 2 + 720 * i)) hσ).symm.trans (p_nw_k _ _ _ _)
    have z2 : ∀ f, F1 f (a + 2 + 720 * i) = 0 := fun f => (congrArg (fun z : PS => z.2.1 f (a + 2 + 720 * i)) hσ).symm.trans (p_nw_z _ _ _ _ f)
    have z3 : L1.1 = L.1 + 1 := (congrArg (fun z : PS => z.1.1) hσ).symm
    have z4 : p_fr (a + 2 + 720 * i) (L, FI, AI, AL, AR) (L1, F1, A1, B1, R1) := by rw [← hσ]; exact p_fr.nw (Nat.le_refl _)
    refine P_dup rfl dX1_init_29 ?_
    refine kX1_17 rfl (g_X6_init z1 z2 (by omega)) (by decide) rfl (k2 := (k.1 - 720, k.2 - 29864)) (by show k.1 - 720 + 719 = k.1 - 1; omega) (by show k.2 - 29864 + 29850 = k.2 - 14; omega) dX1_init_30 (fun r30 s30 q30 => ?_)
    obtain ⟨rfl, hn2, hf2, hd2⟩ := q30
    obtain ⟨L2, F2, A2, B2, R2⟩ := s30
    have hn3 : L2.1 = L1.1 + 719 := hn2
    have hw2 : HI (L2, F2, A2, B2, R2) a i := hw.cg (fun b h1 h2 => (z4.tr hf2) b (by omega))
    have hkd : L2.2.1 (a + 2 + 720 * i) = 6 := hd2.1.1.1.1
    refine P_asN (t := 28) (ci := 6) (j := i) (by decide) hw2.1.1.2.2.1 rfl (by omega) (by rw [show L2.2.2.1 (a + 1) = 6 from hw2.1.1.2.2.2]; omega) hkd (by decide) rfl rfl dX1_init_33 ?_
    refine P_inN1 dX1_init_34 rfl rfl ?_
    refine P_goto dX1_init_37 (tgt := 15) rfl ?_
    exact ih (i + 1) L2 F2 A2 B2 (p_up R2 (a + 1) i (some (a + 2 + 720 * i))) _ (by omega) (by show k.1 - 720 = _; omega) (by show k.2 - 29864 = _; omega) (hw2.s hd2.cv) (by omega) (((hfr.tr (z4.le (by omega))).tr (hf2.le (by omega))).tr (p_fr.uQ (by omega)))
theorem g_X1_init (hk : L.2.1 a = 1) (hz : ∀ f, FI f a = 0) (hq : g.2.2.2 + L.1 = a + 1) : Sp g 2 iX1_init [vr a] (L, FI, AI, AL, AR) (4321, 179190) (QC (L, FI, AI, AL, AR) a 4321 (fun σ => HI σ a 6)) := by
  refine Sp.of (ls := [some (vr a), none]) (by decide +kernel) rfl rfl ?_
  refine P_aloadn (i := 0) rfl rfl dX1_init_0 ?_
  refine oX1_3 rfl dX1_init_1 rfl ?_
  refine P_aloadn (i := 0) rfl rfl dX1_init_4 ?_
  refine P_bipush (v := 6) rfl dX1_init_5 ?_
  refine qX1_9 (q := a + 1) (N := 6) (k2 := (4320, 179184)) rfl rfl (by decide) hq rfl rfl dX1_init_7 ?_
  refine uX1_11 rfl rfl (by simp [p_nw, hk]) dX1_init_10 ?_
  refine P_iconst (v := 0) rfl dX1_init_13 ?_
  refine P_is1 (Or.inl dX1_init_14) rfl rfl ?_
  exact c_X1 hq 6 0 _ _ _ _ _ _ rfl rfl rfl ⟨⟨⟨by simp [p_nw, hk], by simp [p_nw, p_up], by simp [p_nw], by simp [p_nw]⟩, fun f => by simp [p_nw, hz]⟩, fun j hj => absurd hj (Nat.not_lt_zero _)⟩ (by show g.2.2.2 + (L.1 + 1) = _; omega) ((p_fr.nw (Nat.le_succ a)).tr (p_fr.uR (Nat.le_refl a)))
end New3
