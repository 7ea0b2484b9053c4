/-! ===== the whole object is made: so many of its fields -/
theorem p_nw_l (q kd ln : Nat) (σ : PS) : (p_nw q kd ln σ).1.2.2.1 q = ln := if_pos rfl
theorem p_nw_a (q kd ln : Nat) (σ : PS) (k : Nat) : (p_nw q kd ln σ).2.2.1 q k = 0 := if_pos rfl
def OS (n : Nat) (σ : PS) (x : Nat) : Prop := σ.1.2.1 x = 7 ∧ (0 < n → σ.1.2.2.2 224 x = some (x + 1) ∧ CVs σ (x + 1) x0) ∧ (1 < n → σ.1.2.2.2 225 x = some (x + 721) ∧ CVs σ (x + 721) x0) ∧ (2 < n → σ.1.2.2.2 226 x = some (x + 1441) ∧ HI σ (x + 1441) 6) ∧ (3 < n → σ.1.2.2.2 227 x = some (x + 5763) ∧ σ.1.2.1 (x + 5763) = 28 ∧ σ.1.2.2.1 (x + 5763) = 2) ∧ (4 < n → σ.1.2.2.2 228 x = some (x + 5764) ∧ (σ.1.2.1 (x + 5764) = 22 ∧ σ.1.2.2.1 (x + 5764) = 2) ∧ ∀ k, σ.2.2.1 (x + 5764) k = 0) ∧ (5 < n → σ.1.2.2.2 229 x = some (x + 5765) ∧ TD σ (x + 5765))
theorem OS.cg {σ σ2 : PS} {n x T : Nat} (h : OS n σ x) (e0 : σ2.1.2.1 x = σ.1.2.1 x) (er : ∀ f, f < 224 + n → σ2.1.2.2.2 f x = σ.1.2.2.2 f x) (e3 : 3 < n → σ2.1.2.1 (x + 5763) = σ.1.2.1 (x + 5763) ∧ σ2.1.2.2.1 (x + 5763) = σ.1.2.2.1 (x + 5763)) (e : ∀ b, x < b → b < T → b ≠ x + 5763 → cc σ2 b = cc σ b) (t0 : 0 < n → x + 721 ≤ T) (t1 : 1 < n → x + 1441 ≤ T) (t2 : 2 < n → x + 5763 ≤ T) (t4 : 4 < n → x + 5765 ≤ T) (t5 : 5 < n → x + 5768 ≤ T) : OS n σ2 x := by
  refine ⟨e0.trans h.1, fun hh => ?_, fun hh => ?_, fun hh => ?_, fun hh => ?_, fun hh => ?_, fun hh => ?_⟩
  · have := t0 hh
    exact ⟨(er 224 (by omega)).trans (h.2.1 hh).1, (h.2.1 hh).2.cg (fun b h1 h2 => e b (by omega) (by omega) (by omega))⟩
  · have := t1 hh
    exact ⟨(er 225 (by omega)).trans (h.2.2.1 hh).1, (h.2.2.1 hh).2.cg (fun b h1 h2 => e b (by omega) (by omega) (by omega))⟩
  · have := t2 hh
    exact ⟨(er 226 (by omega)).trans (h.2.2.2.1 hh).1, (h.2.2.2.1 hh).2.cg (fun b h1 h2 => e b (by omega) (by omega) (by omega))⟩
  · exact ⟨(er 227 (by omega)).trans (h.2.2.2.2.1 hh).1, (e3 hh).1.trans (h.2.2.2.2.1 hh).2.1, (e3 hh).2.trans (h.2.2.2.2.1 hh).2.2⟩
  · have := t4 hh
    have e1 := e (x + 5764) (by omega) (by omega) (by omega)
    exact ⟨(er 228 (by omega)).trans (h.2.2.2.2.2.1 hh).1, ⟨(cc.ck e1).trans (h.2.2.2.2.2.1 hh).2.1.1, (cc.cl e1).trans (h.2.2.2.2.2.1 hh).2.1.2⟩, fun k => (congrFun (cc.ai e1) k).trans ((h.2.2.2.2.2.1 hh).2.2 k)⟩
  · have := t5 hh
    exact ⟨(er 229 (by omega)).trans (h.2.2.2.2.2.2 hh).1, (h.2.2.2.2.2.2 hh).2.cg (e _ (by omega) (by omega) (by omega)) (e _ (by omega) (by omega) (by omega)) (e _ (by omega) (by omega) (by omega))⟩
theorem OS.fr {σ σ2 : PS} {n x q : Nat} (h : OS n σ x) (hf : p_fr q σ σ2) (hx : x < q) (t0 : 0 < n → x + 721 ≤ q) (t1 : 1 < n → x + 1441 ≤ q) (t2 : 2 < n → x + 5763 ≤ q) (t3 : 3 < n → x + 5764 ≤ q) (t4 : 4 < n → x + 5765 ≤ q) (t5 : 5 < n → x + 5768 ≤ q) : OS n σ2 x :=
  h.cg (T := q) (cc.ck (hf x hx)) (fun f _ => cc.fr (hf x hx) f) (fun hh => ⟨cc.ck (hf _ (by have := t3 hh; omega)), cc.cl (hf _ (by have := t3 hh; omega))⟩) (fun b _ h2 _ => hf b h2) t0 t1 t2 t4 t5
theorem OS.put {n0 n x : Nat} {kd ln : Nat → Nat} {FR : Nat → Nat → Option Nat} {FI AI : Nat → Nat → Int32} {AL : Nat → Nat → Int64} {AR : Nat → Nat → Option Nat} {v : Option Nat} (h : OS n ((n0, kd, ln, FR), FI, AI, AL, AR) x) : OS n ((n0, kd, ln, p_up FR (224 + n) x v), FI, AI, AL, AR) x :=
  h.cg (T := x + 5768) rfl (fun f hf => p_up_n1 _ _ _ _ (by omega)) (fun _ => ⟨rfl, rfl⟩) (fun b hb _ _ => cc.uR (by omega)) (fun _ => by omega) (fun _ => by omega) (fun _ => by omega) (fun _ => by omega) (fun _ => Nat.le_refl _)
section OSa
variable {σ : PS} {x : Nat}
theorem OS.a0 (h : OS 0 σ x) (hd : σ.1.2.2.2 224 x = some (x + 1) ∧ CVs σ (x + 1) x0) : OS 1 σ x := ⟨h.1, fun _ => hd, fun hh => absurd hh (by decide), fun hh => absurd hh (by decide), fun hh => absurd hh (by decide), fun hh => absurd hh (by decide), fun hh => absurd hh (by decide)⟩
theorem OS.a1 (h : OS 1 σ x) (hd : σ.1.2.2.2 225 x = some (x + 721) ∧ CVs σ (x + 721) x0) : OS 2 σ x := ⟨h.1, fun _ => h.2.1 (by decide), fun _ => hd, fun hh => absurd hh (by decide), fun hh => absurd hh (by decide), fun hh => absurd hh (by decide), fun hh => absurd hh (by decide)⟩
theorem OS.a2 (h : OS 2 σ x) (hd : σ.1.2.2.2 226 x = some (x + 1441) ∧ HI σ (x + 1441) 6) : OS 3 σ x := ⟨h.1, fun _ => h.2.1 (by decide), fun _ => h.2.2.1 (by decide), fun _ => hd, fun hh => absurd hh (by decide), fun hh => absurd hh (by decide), fun hh => absurd hh (by decide)⟩
theorem OS.a3 (h : OS 3 σ x) (hd : σ.1.2.2.2 227 x = some (x + 5763) ∧ σ.1.2.1 (x + 5763) = 28 ∧ σ.1.2.2.1 (x + 5763) = 2) : OS 4 σ x := ⟨h.1, fun _ => h.2.1 (by decide), fun _ => h.2.2.1 (by decide), fun _ => h.2.2.2.1 (by decide), fun _ => hd, fun hh => absurd hh (by decide), fun hh => absurd hh (by decide)⟩
theorem OS.a4 (h : OS 4 σ x) (hd : σ.1.2.2.2 228 x = some (x + 5764) ∧ (σ.1.2.1 (x + 5764) = 22 ∧ σ.1.2.2.1 (x + 5764) = 2) ∧ ∀ k, σ.2.2.1 (x + 5764) k = 0) : OS 5 σ x := ⟨h.1, fun _ => h.2.1 (by decide), fun _ => h.2.2.1 (by decide), fun _ => h.2.2.2.1 (by decide), fun _ => h.2.2.2.2.1 (by decide), fun _ => hd, fun hh => absurd hh (by decide)⟩
theorem OS.a5 (h : OS 5 σ x) (hd : σ.1.2.2.2 229 x = some (x + 5765) ∧ TD σ (x + 5765)) : OS 6 σ x := ⟨h.1, fun _ => h.2.1 (by decide), fun _ => h.2.2.1 (by decide), fun _ => h.2.2.2.1 (by decide), fun _ => h.2.2.2.2.1 (by decide), fun _ => h.2.2.2.2.2.1 (by decide), fun _ => hd⟩
end OSa
/-- the object's end: all its fields, and so many saved worlds -/
def OE (n : Nat) (σ : PS) (x : Nat) : Prop := OS 6 σ x ∧ ∀ j, j < n → σ.2.2.2.2 (x + 5763) j = some (x + 5768 + 720 * j) ∧ CVs σ (x + 5768 + 720 * j) x0
theorem OE.s {n x : Nat} {L : PL} {FI AI : Nat → Nat → Int32} {AL : Nat → Nat → Int64} {AR : Nat → Nat → Option Nat} (h : OE n (L, FI, AI, AL, AR) x) (hd : CVs (L, FI, AI, AL, AR) (x + 5768 + 720 * n) x0) : OE (n + 1) (L, FI, AI, AL, p_up AR (x + 5763) n (some (x + 5768 + 720 * n))) x := by
  refine ⟨h.1.cg (T := x + 5768) rfl (fun _ _ => rfl) (fun _ => ⟨rfl, rfl⟩) (fun b _ _ hb => cc.uQ hb) (fun _ => by omega) (fun _ => by omega) (fun _ => by omega) (fun _ => by omega) (fun _ => Nat.le_refl _), fun j hj => ?_⟩
  by_cases e : j = n
  · subst e
    refine ⟨?_, hd.cg (fun b h1 h2 => cc.uQ (a := x + 5763) (by omega))⟩
    dsimp only
    rw [p_up_eq]
  · refine ⟨?_, (h.2 j (by omega)).2.cg (fun b h1 h2 => cc.uQ (a := x + 5763) (by omega))⟩
    dsimp only
    rw [p_up_n2 _ _ _ _ e]
    exact (h.2 j (by omega)).1
theorem OE.fr {σ σ2 : PS} {n x q : Nat} (h : OE n σ x) (hf : p_fr q σ σ2) (hq : x + 5768 + 720 * n ≤ q) : OE n σ2 x :=
  ⟨h.1.fr hf (by omega) (fun _ => by omega) (fun _ => by omega) (fun _ => by omega) (fun _ => by omega) (fun _ => by omega) (fun _ => by omega), fun j hj => ⟨(congrFun (cc.ar (hf _ (by omega))) j).trans (h.2 j hj).1, (h.2 j hj).2.cg (fun b h1 h2 => hf b (by omega))⟩⟩
def z0 : ZW := (x0, (fun _ => x0), 0, 0, (fun _ => x0), (fun _ => false), (fun _ => 0), 0)
theorem OE.rc {σ : PS} {x : Nat} (h : OE 2 σ x) : RC σ.1 σ.2.1 σ.2.2.1 σ.2.2.2.1 σ.2.2.2.2 x z0 := by
  obtain ⟨⟨hk, f0, f1, f2, f3, f4, f5⟩, hs⟩ := h
  have f0 := f0 (by decide)
  have f1 := f1 (by decide)
  have f2 := f2 (by decide)
  have f3 := f3 (by decide)
  have f4 := f4 (by decide)
  have f5 := f5 (by decide)
  have hh : ∀ i, i < 6 → σ.2.2.2.2 (x + 1442) i = some (x + 1443 + 720 * i) ∧ CVs σ (x + 1443 + 720 * i) x0 := f2.2.2
  exact ⟨⟨⟨hk, f0.1, f1.1, f2.1, f3.1, f4.1, f5.1⟩, f2.2.1.1, ⟨f3.2.1, f3.2.2, f4.2.1.1, f4.2.1.2⟩, f5.2.1⟩, ⟨fun i hi => (hh i hi).1, fun i hi => (hs i hi).1⟩, f0.2, CV.wb f1.2, fun i hi => CV.wb (hh i hi).2, fun i hi => CV.wb (hs i hi).2, ⟨f2.2.1.2 33, by decide, f2.2.1.2 34, by decide, fun i hi => absurd hi (Nat.not_lt_zero _)⟩, fun s hs => ⟨f4.2.2 s, fun hv => by cases hv⟩, f5.2.2, Nat.zero_le _, fun i hi => absurd hi (Nat.not_lt_zero _)⟩
section New4
variable {g : PG} {σ0 : PS} {L : PL} {FI AI : Nat → Nat → Int32} {AL : Nat → Nat → Int64} {AR : Nat → Nat → Option Nat} {x i n : Nat}
theorem c_X7 (hq0 : g.2.2.2 + σ0.1.1 = x + 1) : ∀ (n i : Nat) (L : PL) (FI AI : Nat → Nat → Int32) (AL : Nat → Nat → Int64) (AR : Nat → Nat → Option Nat) (k : Nat × Nat), i + n = 2 → k.1 = 720 * n → k.2 = 29864 * n → OE i (L, FI, AI, AL, AR) x → g.2.2.2 + L.1 = x + 5768 + 720 * i → p_fr x σ0 (L, FI, AI, AL, AR) → P g 3 iX7_init 65 [some (vr x), some (vi (Int32.ofNat i))] [] (L, FI, AI, AL, AR) k (QC σ0 x 7207 (fun σ => OE 2 σ x)) := by
  intro n
  induction n with
  | zero =>
    intro i L FI AI AL AR k hi hk1 hk2 hw hq hfr
    have hii : i = 2 := by omega
    subst hii
    refine P_iloadn (i := 1) rfl rfl dX7_init_65 ?_
    refine P_iconst (v := 2) rfl dX7_init_66 ?_
    refine P_icmpge dX7_init_67 (tgt := 89) rfl (fun h67 => ?_) (fun h67 => absurd ((n_le (a := 2) (b := 2) (by omega) (by omega)).mpr (by omega)) h67)
    refine P_return rfl dX7_init_89 ?_
    exact ⟨rfl, (show L.1 = σ0.1.1 + 7207 by omega), hfr, hw⟩
  | succ n ih =>
    intro i L FI AI AL AR k hi hk1 hk2 hw hq hfr
    refine P_iloadn (i := 1) rfl rfl dX7_init_65 ?_
    refine P_iconst (v := 2) rfl dX7_init_66 ?_
    refine P_icmpge dX7_init_67 (tgt := 89) rfl (fun h67 => absurd h67 (fun h8 => by have h7 := (n_le (a := 2) (b := i) (by omega) (by omega)).mp h8; omega)) (fun h67 => ?_)
    refine P_aloadn (i := 0) rfl rfl dX7_init_70 ?_
    refine gX7_26 rfl hw.1.1 (hw.1.2.2.2.2.1 (by decide)).1 dX7_init_71 ?_
    refine P_iloadn (i := 1) rfl rfl dX7_init_74 ?_
    refine nX7_7 (q := x + 5768 + 720 * i) (k2 := (k.1 - 1, k.2 - 14)) rfl (by show g.2.2.2 + L.1 = x + 5768 + 720 * i; omega) (by show k.1 - 1 + 1 = k.1; omega) (by show k.2 - 14 + 14 = k.2; omega) dX7_init_75 ?_
    generalize hσ : p_nw (x + 5768 + 720 * i) 6 0 (L, FI, AI, AL, AR) = σ1
    obtain ⟨L1, F1, A1, B1, R1⟩ := σ1
    have z1 : L1.2.1 (x + 5768 + 720 * i) = 6 := (congrArg (fun z : PS => z.1.2.1 (x + 5768 + 720 * i)) hσ).symm.trans (p_nw_k _ _ _ _)
    have z2 : ∀ f, F1 f (x + 5768 + 720 * i) = 0 := fun f => (congrArg (fun z : PS => z.2.1 f (x + 5768 + 720 * i)) hσ).symm.trans (p_nw_z _ _ _ _ f)
    have z3 : L1.1 = L.1 + 1 := (congrArg (fun z : PS => z.1.1) hσ).symm
    have z4 : p_fr (x + 5768 + 720 * i) (L, FI, AI, AL, AR) (L1, F1, A1, B1, R1) := by rw [← hσ]; exact p_fr.nw (Nat.le_refl _)
    refine P_dup rfl dX7_init_78 ?_
    refine kX7_9 rfl (g_X6_init z1 z2 (by omega)) (by decide) rfl (k2 := (k.1 - 720, k.2 - 29864)) (by show k.1 - 720 + 719 = k.1 - 1; omega) (by show k.2 - 29864 + 29850 = k.2 - 14; omega) dX7_init_79 (fun r79 s79 q79 => ?_)
    obtain ⟨rfl, hn2, hf2, hd2⟩ := q79
    obtain ⟨L2, F2, A2, B2, R2⟩ := s79
    have hn3 : L2.1 = L1.1 + 719 := hn2
    have hw2 : OE i (L2, F2, A2, B2, R2) x := hw.fr (z4.tr hf2) (Nat.le_refl _)
    have hkd : L2.2.1 (x + 5768 + 720 * i) = 6 := hd2.1.1.1.1
    refine P_asN (t := 28) (ci := 6) (j := i) (by decide) (hw2.1.2.2.2.2.1 (by decide)).2.1 rfl (by omega) (by rw [show L2.2.2.1 (x + 5763) = 2 from (hw2.1.2.2.2.2.1 (by decide)).2.2]; omega) hkd (by decide) rfl rfl dX7_init_82 ?_
    refine P_inN1 dX7_init_83 rfl rfl ?_
    refine P_goto dX7_init_86 (tgt := 65) rfl ?_
    exact ih (i + 1) L2 F2 A2 B2 (p_up R2 (x + 5763) i (some (x + 5768 + 720 * i))) _ (by omega) (by show k.1 - 720 = _; omega) (by show k.2 - 29864 = _; omega) (hw2.s hd2.cv) (by omega) (((hfr.tr (z4.le (by omega))).tr (hf2.le (by omega))).tr (p_fr.uQ (by omega)))
theorem g_X7_init (hk : L.2.1 x = 7) (hq : g.2.2.2 + L.1 = x + 1) : Sp g 3 iX7_init [vr x] (L, FI, AI, AL, AR) (7207, 298742) (QC (L, FI, AI, AL, AR) x 7207 (fun σ => OE 2 σ x)) := by
  refine Sp.of (ls := [some (vr x), none]) (by decide +kernel) rfl rfl ?_
  refine P_aloadn (i := 0) rfl rfl dX7_init_0 ?_
  refine oX7_1 rfl dX7_init_1 rfl ?_
  generalize hτ0 : ((L, FI, AI, AL, AR) : PS) = τ0
  have o0 : OS 0 τ0 x := by rw [← hτ0]; exact ⟨hk, fun hh => absurd hh (by decide), fun hh => absurd hh (by decide), fun hh => absurd hh (by decide), fun hh => absurd hh (by decide), fun hh => absurd hh (by decide), fun hh => absurd hh (by decide)⟩
  have m0 : τ0.1.1 = L.1 := (congrArg (fun z : PS => z.1.1) hτ0).symm
  obtain ⟨σ0, hσ0⟩ : ∃ σ0, σ0 = τ0 := ⟨_, rfl⟩
  have r0 : p_fr x σ0 τ0 := by rw [hσ0]; exact p_fr.rf
  refine P.mono (Q := QC σ0 x 7207 (fun σ => OE 2 σ x)) (fun r σ hq9 => by rw [hσ0] at hq9; exact hq9) ?_
  refine P_aloadn (i := 0) rfl rfl dX7_init_4 ?_
  refine nX7_7 (q := x + 1) (k2 := (7206, 298728)) rfl (by omega) rfl rfl dX7_init_5 ?_
  generalize hσ_0 : p_nw (x + 1) 6 0 τ0 = σ1_0
  obtain ⟨⟨N1_0, D1_0, E1_0, G1_0⟩, F1_0, A1_0, B1_0, R1_0⟩ := σ1_0
  have z1_0 : D1_0 (x + 1) = 6 := (congrArg (fun z : PS => z.1.2.1 (x + 1)) hσ_0).symm.trans (p_nw_k _ _ _ _)
  have z2_0 : ∀ f, F1_0 f (x + 1) = 0 := fun f => (congrArg (fun z : PS => z.2.1 f (x + 1)) hσ_0).symm.trans (p_nw_z _ _ _ _ f)
  have z3_0 : N1_0 = τ0.1.1 + 1 := (congrArg (fun z : PS => z.1.1) hσ_0).symm
  have z4_0 : p_fr (x + 1) τ0 ((N1_0, D1_0, E1_0, G1_0), F1_0, A1_0, B1_0, R1_0) := by rw [← hσ_0]; exact p_fr.nw (Nat.le_refl _)
  refine P_dup rfl dX7_init_8 ?_
  refine kX7_9 rfl (g_X6_init z1_0 z2_0 (by show g.2.2.2 + N1_0 = _; omega)) (by decide) rfl (k2 := (6487, 268878)) rfl rfl dX7_init_9 (fun r9 s9 q9 => ?_)
  obtain ⟨rfl, hn2_0, hf2_0, hd2_0⟩ := q9
  obtain ⟨⟨N2_0, D2_0, E2_0, G2_0⟩, F2_0, A2_0, B2_0, R2_0⟩ := s9
  have hn3_0 : N2_0 = N1_0 + 719 := hn2_0
  have o2_0 : OS 0 ((N2_0, D2_0, E2_0, G2_0), F2_0, A2_0, B2_0, R2_0) x := o0.fr (z4_0.tr hf2_0) (by omega) (fun _ => by omega) (fun _ => by omega) (fun _ => by omega) (fun _ => by omega) (fun _ => by omega) (fun _ => by omega)
  refine uX7_10 rfl rfl (show D2_0 x = 7 from o2_0.1) dX7_init_12 ?_
  have p1 := (o2_0.put (v := some (x + 1))).a0 ⟨p_up_eq _ _ _ _, hd2_0.cv.cg (fun b h1 h2 => cc.uR (by omega))⟩
  generalize hτ1 : (((N2_0, D2_0, E2_0, p_up G2_0 224 x (some (x + 1))), F2_0, A2_0, B2_0, R2_0) : PS) = τ1
  have o1 : OS 1 τ1 x := by rw [← hτ1]; exact p1
  have m1 : τ1.1.1 = N2_0 := (congrArg (fun z : PS => z.1.1) hτ1).symm
  have r1 : p_fr x σ0 τ1 := by rw [← hτ1]; exact ((r0.tr (z4_0.le (by omega))).tr (hf2_0.le (by omega))).tr (p_fr.uR (Nat.le_refl x))
  refine P_aloadn (i := 0) rfl rfl dX7_init_15 ?_
  refine nX7_7 (q := x + 721) (k2 := (6486, 268864)) rfl (by omega) rfl rfl dX7_init_16 ?_
  generalize hσ_1 : p_nw (x + 721) 6 0 τ1 = σ1_1
  obtain ⟨⟨N1_1, D1_1, E1_1, G1_1⟩, F1_1, A1_1, B1_1, R1_1⟩ := σ1_1
  have z1_1 : D1_1 (x + 721) = 6 := (congrArg (fun z : PS => z.1.2.1 (x + 721)) hσ_1).symm.trans (p_nw_k _ _ _ _)
  have z2_1 : ∀ f, F1_1 f (x + 721) = 0 := fun f => (congrArg (fun z : PS => z.2.1 f (x + 721)) hσ_1).symm.trans (p_nw_z _ _ _ _ f)
  have z3_1 : N1_1 = τ1.1.1 + 1 := (congrArg (fun z : PS => z.1.1) hσ_1).symm
  have z4_1 : p_fr (x + 721) τ1 ((N1_1, D1_1, E1_1, G1_1), F1_1, A1_1, B1_1, R1_1) := by rw [← hσ_1]; exact p_fr.nw (Nat.le_refl _)
  refine P_dup rfl dX7_init_19 ?_
  refine kX7_9 rfl (g_X6_init z1_1 z2_1 (by show g.2.2.2 + N1_1 = _; omega)) (by decide) rfl (k2 := (5767, 239014)) rfl rfl dX7_init_20 (fun r20 s20 q20 => ?_)
  obtain ⟨rfl, hn2_1, hf2_1, hd2_1⟩ := q20
  obtain ⟨⟨N2_1, D2_1, E2_1, G2_1⟩, F2_1, A2_1, B2_1, R2_1⟩ := s20
  have hn3_1 : N2_1 = N1_1 + 719 := hn2_1
  have o2_1 : OS 1 ((N2_1, D2_1, E2_1, G2_1), F2_1, A2_1, B2_1, R2_1) x := o1.fr (z4_1.tr hf2_1) (by omega) (fun _ => by omega) (fun _ => by omega) (fun _ => by omega) (fun _ => by omega) (fun _ => by omega) (fun _ => by omega)
  refine uX7_16 rfl rfl (show D2_1 x = 7 from o2_1.1) dX7_init_23 ?_
  have p2 := (o2_1.put (v := some (x + 721))).a1 ⟨p_up_eq _ _ _ _, hd2_1.cv.cg (fun b h1 h2 => cc.uR (by omega))⟩
  generalize hτ2 : (((N2_1, D2_1, E2_1, p_up G2_1 225 x (some (x + 721))), F2_1, A2_1, B2_1, R2_1) : PS) = τ2
  have o2 : OS 2 τ2 x := by rw [← hτ2]; exact p2
  have m2 : τ2.1.1 = N2_1 := (congrArg (fun z : PS => z.1.1) hτ2).symm
  have r2 : p_fr x σ0 τ2 := by rw [← hτ2]; exact ((r1.tr (z4_1.le (by omega))).tr (hf2_1.le (by omega))).tr (p_fr.uR (Nat.le_refl x))
  refine P_aloadn (i := 0) rfl rfl dX7_init_26 ?_
  refine nX7_19 (q := x + 1441) (k2 := (5766, 239011)) rfl (by omega) rfl rfl dX7_init_27 ?_
  generalize hσ_2 : p_nw (x + 1441) 1 0 τ2 = σ1_2
  obtain ⟨⟨N1_2, D1_2, E1_2, G1_2⟩, F1_2, A1_2, B1_2, R1_2⟩ := σ1_2
  have z1_2 : D1_2 (x + 1441) = 1 := (congrArg (fun z : PS => z.1.2.1 (x + 1441)) hσ_2).symm.trans (p_nw_k _ _ _ _)
  have z2_2 : ∀ f, F1_2 f (x + 1441) = 0 := fun f => (congrArg (fun z : PS => z.2.1 f (x + 1441)) hσ_2).symm.trans (p_nw_z _ _ _ _ f)
  have z3_2 : N1_2 = τ2.1.1 + 1 := (congrArg (fun z : PS => z.1.1) hσ_2).symm
  have z4_2 : p_fr (x + 1441) τ2 ((N1_2, D1_2, E1_2, G1_2), F1_2, A1_2, B1_2, R1_2) := by rw [← hσ_2]; exact p_fr.nw (Nat.le_refl _)
  refine P_dup rfl dX7_init_30 ?_
  refine kX7_21 rfl (g_X1_init z1_2 z2_2 (by show g.2.2.2 + N1_2 = _; omega)) (by decide) rfl (k2 := (1445, 59821)) rfl rfl dX7_init_31 (fun r31 s31 q31 => ?_)
  obtain ⟨rfl, hn2_2, hf2_2, hd2_2⟩ := q31
  obtain ⟨⟨N2_2, D2_2, E2_2, G2_2⟩, F2_2, A2_2, B2_2, R2_2⟩ := s31
  have hn3_2 : N2_2 = N1_2 + 4321 := hn2_2
  have o2_2 : OS 2 ((N2_2, D2_2, E2_2, G2_2), F2_2, A2_2, B2_2, R2_2) x := o2.fr (z4_2.tr hf2_2) (by omega) (fun _ => by omega) (fun _ => by omega) (fun _ => by omega) (fun _ => by omega) (fun _ => by omega) (fun _ => by omega)
  refine uX7_22 rfl rfl (show D2_2 x = 7 from o2_2.1) dX7_init_34 ?_
  have p3 := (o2_2.put (v := some (x + 1441))).a2 ⟨p_up_eq _ _ _ _, hd2_2.cg (fun b h1 h2 => cc.uR (by omega))⟩
  generalize hτ3 : (((N2_2, D2_2, E2_2, p_up G2_2 226 x (some (x + 1441))), F2_2, A2_2, B2_2, R2_2) : PS) = τ3
  have o3 : OS 3 τ3 x := by rw [← hτ3]; exact p3
  have m3 : τ3.1.1 = N2_2 := (congrArg (fun z : PS => z.1.1) hτ3).symm
  have r3 : p_fr x σ0 τ3 := by rw [← hτ3]; exact ((r2.tr (z4_2.le (by omega))).tr (hf2_2.le (by omega))).tr (p_fr.uR (Nat.le_refl x))
  refine P_aloadn (i := 0) rfl rfl dX7_init_37 ?_
  refine P_iconst (v := 2) rfl dX7_init_38 ?_
  refine qX7_7 (q := x + 5763) (N := 2) (k2 := (1444, 59819)) rfl rfl (by decide) (by omega) rfl rfl dX7_init_39 ?_
  generalize hσ_3 : p_nw (x + 5763) 28 2 τ3 = σ1_3
  obtain ⟨⟨N1_3, D1_3, E1_3, G1_3⟩, F1_3, A1_3, B1_3, R1_3⟩ := σ1_3
  have z1_3 : D1_3 (x + 5763) = 28 := (congrArg (fun z : PS => z.1.2.1 (x + 5763)) hσ_3).symm.trans (p_nw_k _ _ _ _)
  have z2_3 : ∀ f, F1_3 f (x + 5763) = 0 := fun f => (congrArg (fun z : PS => z.2.1 f (x + 5763)) hσ_3).symm.trans (p_nw_z _ _ _ _ f)
  have z3_3 : N1_3 = τ3.1.1 + 1 := (congrArg (fun z : PS => z.1.1) hσ_3).symm
  have z4_3 : p_fr (x + 5763) τ3 ((N1_3, D1_3, E1_3, G1_3), F1_3, A1_3, B1_3, R1_3) := by rw [← hσ_3]; exact p_fr.nw (Nat.le_refl _)
  have z5_3 : E1_3 (x + 5763) = 2 := (congrArg (fun z : PS => z.1.2.2.1 (x + 5763)) hσ_3).symm.trans (p_nw_l _ _ _ _)
  have z6_3 : ∀ k, A1_3 (x + 5763) k = 0 := fun k => (congrArg (fun z : PS => z.2.2.1 (x + 5763) k) hσ_3).symm.trans (p_nw_a _ _ _ _ k)
  have o2_3 : OS 3 ((N1_3, D1_3, E1_3, G1_3), F1_3, A1_3, B1_3, R1_3) x := o3.fr z4_3 (by omega) (fun _ => by omega) (fun _ => by omega) (fun _ => by omega) (fun _ => by omega) (fun _ => by omega) (fun _ => by omega)
  refine uX7_26 rfl rfl (show D1_3 x = 7 from o2_3.1) dX7_init_42 ?_
  have p4 := (o2_3.put (v := some (x + 5763))).a3 ⟨p_up_eq _ _ _ _, z1_3, z5_3⟩
  generalize hτ4 : (((N1_3, D1_3, E1_3, p_up G1_3 227 x (some (x + 5763))), F1_3, A1_3, B1_3, R1_3) : PS) = τ4
  have o4 : OS 4 τ4 x := by rw [← hτ4]; exact p4
  have m4 : τ4.1.1 = N1_3 := (congrArg (fun z : PS => z.1.1) hτ4).symm
  have r4 : p_fr x σ0 τ4 := by rw [← hτ4]; exact (r3.tr (z4_3.le (by omega))).tr (p_fr.uR (Nat.le_refl x))
  refine P_aloadn (i := 0) rfl rfl dX7_init_45 ?_
  refine P_iconst (v := 2) rfl dX7_init_46 ?_
  refine P_nw2 (q := x + 5764) (N := 2) (k2 := (1443, 59817)) rfl (by decide) (by omega) rfl rfl dX7_init_47 ?_
  generalize hσ_4 : p_nw (x + 5764) 22 2 τ4 = σ1_4
  obtain ⟨⟨N1_4, D1_4, E1_4, G1_4⟩, F1_4, A1_4, B1_4, R1_4⟩ := σ1_4
  have z1_4 : D1_4 (x + 5764) = 22 := (congrArg (fun z : PS => z.1.2.1 (x + 5764)) hσ_4).symm.trans (p_nw_k _ _ _ _)
  have z2_4 : ∀ f, F1_4 f (x + 5764) = 0 := fun f => (congrArg (fun z : PS => z.2.1 f (x + 5764)) hσ_4).symm.trans (p_nw_z _ _ _ _ f)
  have z3_4 : N1_4 = τ4.1.1 + 1 := (congrArg (fun z : PS => z.1.1) hσ_4).symm
  have z4_4 : p_fr (x + 5764) τ4 ((N1_4, D1_4, E1_4, G1_4), F1_4, A1_4, B1_4, R1_4) := by rw [← hσ_4]; exact p_fr.nw (Nat.le_refl _)
  have z5_4 : E1_4 (x + 5764) = 2 := (congrArg (fun z : PS => z.1.2.2.1 (x + 5764)) hσ_4).symm.trans (p_nw_l _ _ _ _)
  have z6_4 : ∀ k, A1_4 (x + 5764) k = 0 := fun k => (congrArg (fun z : PS => z.2.2.1 (x + 5764) k) hσ_4).symm.trans (p_nw_a _ _ _ _ k)
  have o2_4 : OS 4 ((N1_4, D1_4, E1_4, G1_4), F1_4, A1_4, B1_4, R1_4) x := o4.fr z4_4 (by omega) (fun _ => by omega) (fun _ => by omega) (fun _ => by omega) (fun _ => by omega) (fun _ => by omega) (fun _ => by omega)
  refine uX7_30 rfl rfl (show D1_4 x = 7 from o2_4.1) dX7_init_49 ?_
  have p5 := (o2_4.put (v := some (x + 5764))).a4 ⟨p_up_eq _ _ _ _, ⟨z1_4, z5_4⟩, z6_4⟩
  generalize hτ5 : (((N1_4, D1_4, E1_4, p_up G1_4 228 x (some (x + 5764))), F1_4, A1_4, B1_4, R1_4) : PS) = τ5
  have o5 : OS 5 τ5 x := by rw [← hτ5]; exact p5
  have m5 : τ5.1.1 = N1_4 := (congrArg (fun z : PS => z.1.1) hτ5).symm
  have r5 : p_fr x σ0 τ5 := by rw [← hτ5]; exact (r4.tr (z4_4.le (by omega))).tr (p_fr.uR (Nat.le_refl x))
  refine P_aloadn (i := 0) rfl rfl dX7_init_52 ?_
  refine nX7_34 (q := x + 5765) (k2 := (1442, 59811)) rfl (by omega) rfl rfl dX7_init_53 ?_
  generalize hσ_5 : p_nw (x + 5765) 3 0 τ5 = σ1_5
  obtain ⟨⟨N1_5, D1_5, E1_5, G1_5⟩, F1_5, A1_5, B1_5, R1_5⟩ := σ1_5
  have z1_5 : D1_5 (x + 5765) = 3 := (congrArg (fun z : PS => z.1.2.1 (x + 5765)) hσ_5).symm.trans (p_nw_k _ _ _ _)
  have z2_5 : ∀ f, F1_5 f (x + 5765) = 0 := fun f => (congrArg (fun z : PS => z.2.1 f (x + 5765)) hσ_5).symm.trans (p_nw_z _ _ _ _ f)
  have z3_5 : N1_5 = τ5.1.1 + 1 := (congrArg (fun z : PS => z.1.1) hσ_5).symm
  have z4_5 : p_fr (x + 5765) τ5 ((N1_5, D1_5, E1_5, G1_5), F1_5, A1_5, B1_5, R1_5) := by rw [← hσ_5]; exact p_fr.nw (Nat.le_refl _)
  refine P_dup rfl dX7_init_56 ?_
  refine kX7_36 rfl (g_X3_init z1_5 z2_5 (by show g.2.2.2 + N1_5 = _; omega)) (by decide) rfl (k2 := (1440, 59728)) rfl rfl dX7_init_57 (fun r57 s57 q57 => ?_)
  obtain ⟨rfl, hn2_5, hf2_5, hd2_5⟩ := q57
  obtain ⟨⟨N2_5, D2_5, E2_5, G2_5⟩, F2_5, A2_5, B2_5, R2_5⟩ := s57
  have hn3_5 : N2_5 = N1_5 + 2 := hn2_5
  have o2_5 : OS 5 ((N2_5, D2_5, E2_5, G2_5), F2_5, A2_5, B2_5, R2_5) x := o5.fr (z4_5.tr hf2_5) (by omega) (fun _ => by omega) (fun _ => by omega) (fun _ => by omega) (fun _ => by omega) (fun _ => by omega) (fun _ => by omega)
  refine uX7_37 rfl rfl (show D2_5 x = 7 from o2_5.1) dX7_init_60 ?_
  have p6 := (o2_5.put (v := some (x + 5765))).a5 ⟨p_up_eq _ _ _ _, hd2_5.cg (cc.uR (by omega)) (cc.uR (by omega)) (cc.uR (by omega))⟩
  generalize hτ6 : (((N2_5, D2_5, E2_5, p_up G2_5 229 x (some (x + 5765))), F2_5, A2_5, B2_5, R2_5) : PS) = τ6
  have o6 : OS 6 τ6 x := by rw [← hτ6]; exact p6
  have m6 : τ6.1.1 = N2_5 := (congrArg (fun z : PS => z.1.1) hτ6).symm
  have r6 : p_fr x σ0 τ6 := by rw [← hτ6]; exact ((r5.tr (z4_5.le (by omega))).tr (hf2_5.le (by omega))).tr (p_fr.uR (Nat.le_refl x))
  refine P_iconst (v := 0) rfl dX7_init_63 ?_
  refine P_is1 (Or.inl dX7_init_64) rfl rfl ?_
  obtain ⟨L9, F9, A9, B9, R9⟩ := τ6
  have m9 : L9.1 = N2_5 := m6
  exact c_X7 (by rw [hσ0]; omega) 2 0 _ _ _ _ _ _ rfl rfl rfl ⟨o6, fun j hj => absurd hj (Nat.not_lt_zero _)⟩ (by omega) r6
end New4
