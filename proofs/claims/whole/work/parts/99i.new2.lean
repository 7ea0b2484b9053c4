/-! ===== a World is made ===== -/
theorem p_nw_k (q kd ln : Nat) (σ : PS) : (p_nw q kd ln σ).1.2.1 q = kd := if_pos rfl
theorem p_nw_z (q kd ln : Nat) (σ : PS) (f : Nat) : (p_nw q kd ln σ).2.1 f q = 0 := if_pos rfl
/-- its object and its arrays -/
def HW (σ : PS) (w : Nat) : Prop :=
  ((σ.1.2.1 w = 6 ∧ σ.1.2.2.2 195 w = some (w + 1) ∧ σ.1.2.2.2 196 w = some (w + 2) ∧ σ.1.2.2.2 197 w = some (w + 3) ∧ σ.1.2.2.2 198 w = some (w + 4) ∧ σ.1.2.2.2 204 w = some (w + 5) ∧ σ.1.2.2.2 205 w = some (w + 6)) ∧
  (σ.1.2.1 (w + 1) = 24 ∧ σ.1.2.2.1 (w + 1) = 8 ∧ σ.1.2.1 (w + 2) = 25 ∧ σ.1.2.2.1 (w + 2) = 16 ∧ σ.1.2.1 (w + 3) = 26 ∧ σ.1.2.2.1 (w + 3) = 40 ∧ σ.1.2.1 (w + 4) = 27 ∧ σ.1.2.2.1 (w + 4) = 601 ∧ σ.1.2.1 (w + 5) = 20 ∧ σ.1.2.2.1 (w + 5) = 8 ∧ σ.1.2.1 (w + 6) = 25 ∧ σ.1.2.2.1 (w + 6) = 8)) ∧
  (∀ f, σ.2.1 f w = 0) ∧ (∀ k, σ.2.2.1 (w + 5) k = 0)
theorem HW.fr {σ σ2 : PS} {w q : Nat} (h : HW σ w) (hf : p_fr q σ σ2) (hq : w + 7 ≤ q) : HW σ2 w := by
  have e0 := hf w (by omega)
  have e1 := hf (w + 1) (by omega)
  have e2 := hf (w + 2) (by omega)
  have e3 := hf (w + 3) (by omega)
  have e4 := hf (w + 4) (by omega)
  have e5 := hf (w + 5) (by omega)
  have e6 := hf (w + 6) (by omega)
  refine ⟨⟨?_, ?_⟩, fun f => (cc.fi e0 f).trans (h.2.1 f), fun k => (congrFun (cc.ai e5) k).trans (h.2.2 k)⟩
  · rw [cc.ck e0, cc.fr e0, cc.fr e0, cc.fr e0, cc.fr e0, cc.fr e0, cc.fr e0]
    exact h.1.1
  · rw [cc.ck e1, cc.cl e1, cc.ck e2, cc.cl e2, cc.ck e3, cc.cl e3, cc.ck e4, cc.cl e4, cc.ck e5, cc.cl e5, cc.ck e6, cc.cl e6]
    exact h.1.2
/-- a World while it is made: so many nodes, bridges, parcels, slices -/
def WI (σ : PS) (w n1 n2 n3 n4 : Nat) : Prop := HW σ w ∧ (∀ j, j < n1 → σ.2.2.2.2 (w + 1) j = some (w + 7 + 2 * j) ∧ ND σ (w + 7 + 2 * j)) ∧ (∀ j, j < n2 → σ.2.2.2.2 (w + 2) j = some (w + 23 + j) ∧ BD σ (w + 23 + j)) ∧ (∀ j, j < n3 → σ.2.2.2.2 (w + 3) j = some (w + 39 + 2 * j) ∧ PD σ (w + 39 + 2 * j)) ∧ (∀ j, j < n4 → σ.2.2.2.2 (w + 4) j = some (w + 119 + j) ∧ SD σ (w + 119 + j))
theorem WI.fr {σ σ2 : PS} {w q n1 n2 n3 n4 : Nat} (h : WI σ w n1 n2 n3 n4) (hf : p_fr q σ σ2) (h1 : w + 7 + 2 * n1 ≤ q) (h2 : n2 = 0 ∨ w + 23 + n2 ≤ q) (h3 : n3 = 0 ∨ w + 39 + 2 * n3 ≤ q) (h4 : n4 = 0 ∨ w + 119 + n4 ≤ q) : WI σ2 w n1 n2 n3 n4 := by
  refine ⟨h.1.fr hf (by omega), fun j hj => ?_, fun j hj => ?_, fun j hj => ?_, fun j hj => ?_⟩
  · exact ⟨(congrFun (cc.ar (hf (w + 1) (by omega))) j).trans (h.2.1 j hj).1, (h.2.1 j hj).2.cg (hf _ (by omega)) (hf _ (by omega))⟩
  · exact ⟨(congrFun (cc.ar (hf (w + 2) (by omega))) j).trans (h.2.2.1 j hj).1, (h.2.2.1 j hj).2.cg (hf _ (by omega))⟩
  · exact ⟨(congrFun (cc.ar (hf (w + 3) (by omega))) j).trans (h.2.2.2.1 j hj).1, (h.2.2.2.1 j hj).2.cg (hf _ (by omega)) (hf _ (by omega))⟩
  · exact ⟨(congrFun (cc.ar (hf (w + 4) (by omega))) j).trans (h.2.2.2.2 j hj).1, (h.2.2.2.2 j hj).2.cg (hf _ (by omega))⟩
section New2
variable {g : PG} {σ0 : PS} {L : PL} {FI AI : Nat → Nat → Int32} {AL : Nat → Nat → Int64} {AR : Nat → Nat → Option Nat} {w i n n1 n2 n3 n4 : Nat}
theorem WI.s1 (h : WI (L, FI, AI, AL, AR) w n1 n2 n3 n4) (hd : ND (L, FI, AI, AL, AR) (w + 7 + 2 * n1)) : WI (L, FI, AI, AL, p_up AR (w + 1) n1 (some (w + 7 + 2 * n1))) w (n1 + 1) n2 n3 n4 := by
  refine ⟨h.1, fun j hj => by
    by_cases e : j = n1
    · subst e; exact ⟨p_up_eq _ _ _ _, hd⟩
    · exact ⟨(p_up_n2 _ _ _ _ e).trans (h.2.1 j (by omega)).1, (h.2.1 j (by omega)).2⟩, fun j hj => ⟨(p_up_n1 _ _ _ _ (by omega)).trans (h.2.2.1 j hj).1, (h.2.2.1 j hj).2⟩, fun j hj => ⟨(p_up_n1 _ _ _ _ (by omega)).trans (h.2.2.2.1 j hj).1, (h.2.2.2.1 j hj).2⟩, fun j hj => ⟨(p_up_n1 _ _ _ _ (by omega)).trans (h.2.2.2.2 j hj).1, (h.2.2.2.2 j hj).2⟩⟩
theorem WI.s2 (h : WI (L, FI, AI, AL, AR) w n1 n2 n3 n4) (hd : BD (L, FI, AI, AL, AR) (w + 23 + n2)) : WI (L, FI, AI, AL, p_up AR (w + 2) n2 (some (w + 23 + n2))) w n1 (n2 + 1) n3 n4 := by
  refine ⟨h.1, fun j hj => ⟨(p_up_n1 _ _ _ _ (by omega)).trans (h.2.1 j hj).1, (h.2.1 j hj).2⟩, fun j hj => by
    by_cases e : j = n2
    · subst e; exact ⟨p_up_eq _ _ _ _, hd⟩
    · exact ⟨(p_up_n2 _ _ _ _ e).trans (h.2.2.1 j (by omega)).1, (h.2.2.1 j (by omega)).2⟩, fun j hj => ⟨(p_up_n1 _ _ _ _ (by omega)).trans (h.2.2.2.1 j hj).1, (h.2.2.2.1 j hj).2⟩, fun j hj => ⟨(p_up_n1 _ _ _ _ (by omega)).trans (h.2.2.2.2 j hj).1, (h.2.2.2.2 j hj).2⟩⟩
theorem WI.s3 (h : WI (L, FI, AI, AL, AR) w n1 n2 n3 n4) (hd : PD (L, FI, AI, AL, AR) (w + 39 + 2 * n3)) : WI (L, FI, AI, AL, p_up AR (w + 3) n3 (some (w + 39 + 2 * n3))) w n1 n2 (n3 + 1) n4 := by
  refine ⟨h.1, fun j hj => ⟨(p_up_n1 _ _ _ _ (by omega)).trans (h.2.1 j hj).1, (h.2.1 j hj).2⟩, fun j hj => ⟨(p_up_n1 _ _ _ _ (by omega)).trans (h.2.2.1 j hj).1, (h.2.2.1 j hj).2⟩, fun j hj => by
    by_cases e : j = n3
    · subst e; exact ⟨p_up_eq _ _ _ _, hd⟩
    · exact ⟨(p_up_n2 _ _ _ _ e).trans (h.2.2.2.1 j (by omega)).1, (h.2.2.2.1 j (by omega)).2⟩, fun j hj => ⟨(p_up_n1 _ _ _ _ (by omega)).trans (h.2.2.2.2 j hj).1, (h.2.2.2.2 j hj).2⟩⟩
theorem WI.s4 (h : WI (L, FI, AI, AL, AR) w n1 n2 n3 n4) (hd : SD (L, FI, AI, AL, AR) (w + 119 + n4)) : WI (L, FI, AI, AL, p_up AR (w + 4) n4 (some (w + 119 + n4))) w n1 n2 n3 (n4 + 1) := by
  refine ⟨h.1, fun j hj => ⟨(p_up_n1 _ _ _ _ (by omega)).trans (h.2.1 j hj).1, (h.2.1 j hj).2⟩, fun j hj => ⟨(p_up_n1 _ _ _ _ (by omega)).trans (h.2.2.1 j hj).1, (h.2.2.1 j hj).2⟩, fun j hj => ⟨(p_up_n1 _ _ _ _ (by omega)).trans (h.2.2.2.1 j hj).1, (h.2.2.2.1 j hj).2⟩, fun j hj => by
    by_cases e : j = n4
    · subst e; exact ⟨p_up_eq _ _ _ _, hd⟩
    · exact ⟨(p_up_n2 _ _ _ _ e).trans (h.2.2.2.2 j (by omega)).1, (h.2.2.2.2 j (by omega)).2⟩⟩
theorem c_X6_4 (hq0 : g.2.2.2 + σ0.1.1 = w + 1) : ∀ (n i : Nat) (L : PL) (FI AI : Nat → Nat → Int32) (AL : Nat → Nat → Int64) (AR : Nat → Nat → Option Nat) (k : Nat × Nat), i + n = 601 → k.1 = 1 * n + 0 → k.2 = 9 * n + 0 → WI (L, FI, AI, AL, AR) w 8 16 40 i → g.2.2.2 + L.1 = w + 119 + i → p_fr w σ0 (L, FI, AI, AL, AR) → P g 1 iX6_init 150 [some (vr w), some (vi (Int32.ofNat i))] [] (L, FI, AI, AL, AR) k (QC σ0 w 719 (fun σ => WI σ w 8 16 40 601)) := by
  intro n
  induction n with
  | zero =>
    intro i L FI AI AL AR k hi hk1 hk2 hw hq hfr
    have hii : i = 601 := by omega
    subst hii
    refine P_iloadn (i := 1) rfl rfl dX6_init_150 ?_
    refine P_aloadn (i := 0) rfl rfl dX6_init_151 ?_
    refine gX6_31 rfl hw.1.1.1.1 hw.1.1.1.2.2.2.2.1 dX6_init_152 ?_
    refine P_lenN (t := 27) (by decide) hw.1.1.2.2.2.2.2.2.2.1 (congrArg Int32.ofNat hw.1.1.2.2.2.2.2.2.2.2.1) dX6_init_155 ?_
    refine P_icmpge dX6_init_156 (tgt := 178) rfl (fun h156 => ?_) (fun h156 => absurd ((n_le (a := 601) (b := 601) (by omega) (by omega)).mpr (by omega)) h156)
    refine P_return rfl dX6_init_178 ?_
    exact ⟨rfl, (show L.1 = σ0.1.1 + 719 by omega), hfr, hw⟩
  | succ n ih =>
    intro i L FI AI AL AR k hi hk1 hk2 hw hq hfr
    refine P_iloadn (i := 1) rfl rfl dX6_init_150 ?_
    refine P_aloadn (i := 0) rfl rfl dX6_init_151 ?_
    refine gX6_31 rfl hw.1.1.1.1 hw.1.1.1.2.2.2.2.1 dX6_init_152 ?_
    refine P_lenN (t := 27) (by decide) hw.1.1.2.2.2.2.2.2.2.1 (congrArg Int32.ofNat hw.1.1.2.2.2.2.2.2.2.2.1) dX6_init_155 ?_
    refine P_icmpge dX6_init_156 (tgt := 178) rfl (fun h156 => absurd h156 (fun h8 => by have h7 := (n_le (a := 601) (b := i) (by omega) (by omega)).mp h8; omega)) (fun h156 => ?_)
    refine P_aloadn (i := 0) rfl rfl dX6_init_159 ?_
    refine gX6_31 rfl hw.1.1.1.1 hw.1.1.1.2.2.2.2.1 dX6_init_160 ?_
    refine P_iloadn (i := 1) rfl rfl dX6_init_163 ?_
    refine nX6_29 (q := w + 119 + i) (k2 := (k.1 - 1, k.2 - 9)) rfl (by show g.2.2.2 + L.1 = w + 119 + i; omega) (by show k.1 - 1 + 1 = k.1; omega) (by show k.2 - 9 + 9 = k.2; omega) dX6_init_164 ?_
    generalize hσ : p_nw (w + 119 + i) 5 0 (L, FI, AI, AL, AR) = σ1
    obtain ⟨L1, F1, A1, B1, R1⟩ := σ1
    have z1 : L1.2.1 (w + 119 + i) = 5 := (congrArg (fun z : PS => z.1.2.1 (w + 119 + i)) hσ).symm.trans (p_nw_k _ _ _ _)
    have z2 : ∀ f, F1 f (w + 119 + i) = 0 := fun f => (congrArg (fun z : PS => z.2.1 f (w + 119 + i)) hσ).symm.trans (p_nw_z _ _ _ _ f)
    have z3 : L1.1 = L.1 + 1 := (congrArg (fun z : PS => z.1.1) hσ).symm
    have z4 : p_fr (w + 119 + i) (L, FI, AI, AL, AR) (L1, F1, A1, B1, R1) := by rw [← hσ]; exact p_fr.nw (Nat.le_refl _)
    refine P_dup rfl dX6_init_167 ?_
    refine kX6_45 rfl (g_X5_init z1) (by decide) rfl (k2 := (k.1 - 1, k.2 - 9)) (by show k.1 - 1 + 0 = k.1 - 1; omega) (by show k.2 - 9 + 0 = k.2 - 9; omega) dX6_init_168 (fun r168 s168 q168 => ?_)
    obtain ⟨rfl, hn2, hf2, hd2⟩ := q168
    obtain ⟨L2, F2, A2, B2, R2⟩ := s168
    have hn3 : L2.1 = L1.1 + 0 := hn2
    have hw2 : WI (L2, F2, A2, B2, R2) w 8 16 40 i := hw.fr (z4.tr hf2) (by omega) (by omega) (by omega) (by omega)
    have hkd : L2.2.1 (w + 119 + i) = 5 := hd2
    refine P_asN (t := 27) (ci := 5) (j := i) (by decide) hw2.1.1.2.2.2.2.2.2.2.1 rfl (by omega) (by rw [show L2.2.2.1 (w + 4) = 601 from hw2.1.1.2.2.2.2.2.2.2.2.1]; omega) hkd (by decide) rfl rfl dX6_init_171 ?_
    refine P_inN1 dX6_init_172 rfl rfl ?_
    refine P_goto dX6_init_175 (tgt := 150) rfl ?_
    exact ih (i + 1) L2 F2 A2 B2 (p_up R2 (w + 4) i (some (w + 119 + i))) _ (by omega) (by show k.1 - 1 = _; omega) (by show k.2 - 9 = _; omega) (hw2.s4 hd2) (by omega) (((hfr.tr (z4.le (by omega))).tr (hf2.le (by omega))).tr (p_fr.uQ (by omega)))
theorem c_X6_3 (hq0 : g.2.2.2 + σ0.1.1 = w + 1) : ∀ (n i : Nat) (L : PL) (FI AI : Nat → Nat → Int32) (AL : Nat → Nat → Int64) (AR : Nat → Nat → Option Nat) (k : Nat × Nat), i + n = 40 → k.1 = 2 * n + 601 → k.2 = 588 * n + 5409 → WI (L, FI, AI, AL, AR) w 8 16 i 0 → g.2.2.2 + L.1 = w + 39 + 2 * i → p_fr w σ0 (L, FI, AI, AL, AR) → P g 1 iX6_init 120 [some (vr w), some (vi (Int32.ofNat i))] [] (L, FI, AI, AL, AR) k (QC σ0 w 719 (fun σ => WI σ w 8 16 40 601)) := by
  intro n
  induction n with
  | zero =>
    intro i L FI AI AL AR k hi hk1 hk2 hw hq hfr
    have hii : i = 40 := by omega
    subst hii
    refine P_iloadn (i := 1) rfl rfl dX6_init_120 ?_
    refine P_aloadn (i := 0) rfl rfl dX6_init_121 ?_
    refine gX6_25 rfl hw.1.1.1.1 hw.1.1.1.2.2.2.1 dX6_init_122 ?_
    refine P_lenN (t := 26) (by decide) hw.1.1.2.2.2.2.2.1 (congrArg Int32.ofNat hw.1.1.2.2.2.2.2.2.1) dX6_init_125 ?_
    refine P_icmpge dX6_init_126 (tgt := 148) rfl (fun h126 => ?_) (fun h126 => absurd ((n_le (a := 40) (b := 40) (by omega) (by omega)).mpr (by omega)) h126)
    refine P_iconst (v := 0) rfl dX6_init_148 ?_
    refine P_is1 (Or.inl dX6_init_149) rfl rfl ?_
    exact c_X6_4 hq0 601 0 _ _ _ _ _ k (by omega) (by omega) (by omega) hw (by omega) hfr
  | succ n ih =>
    intro i L FI AI AL AR k hi hk1 hk2 hw hq hfr
    refine P_iloadn (i := 1) rfl rfl dX6_init_120 ?_
    refine P_aloadn (i := 0) rfl rfl dX6_init_121 ?_
    refine gX6_25 rfl hw.1.1.1.1 hw.1.1.1.2.2.2.1 dX6_init_122 ?_
    refine P_lenN (t := 26) (by decide) hw.1.1.2.2.2.2.2.1 (congrArg Int32.ofNat hw.1.1.2.2.2.2.2.2.1) dX6_init_125 ?_
    refine P_icmpge dX6_init_126 (tgt := 148) rfl (fun h126 => absurd h126 (fun h8 => by have h7 := (n_le (a := 40) (b := i) (by omega) (by omega)).mp h8; omega)) (fun h126 => ?_)
    refine P_aloadn (i := 0) rfl rfl dX6_init_129 ?_
    refine gX6_25 rfl hw.1.1.1.1 hw.1.1.1.2.2.2.1 dX6_init_130 ?_
    refine P_iloadn (i := 1) rfl rfl dX6_init_133 ?_
    refine nX6_23 (q := w + 39 + 2 * i) (k2 := (k.1 - 1, k.2 - 16)) rfl (by show g.2.2.2 + L.1 = w + 39 + 2 * i; omega) (by show k.1 - 1 + 1 = k.1; omega) (by show k.2 - 16 + 16 = k.2; omega) dX6_init_134 ?_
    generalize hσ : p_nw (w + 39 + 2 * i) 4 0 (L, FI, AI, AL, AR) = σ1
    obtain ⟨L1, F1, A1, B1, R1⟩ := σ1
    have z1 : L1.2.1 (w + 39 + 2 * i) = 4 := (congrArg (fun z : PS => z.1.2.1 (w + 39 + 2 * i)) hσ).symm.trans (p_nw_k _ _ _ _)
    have z2 : ∀ f, F1 f (w + 39 + 2 * i) = 0 := fun f => (congrArg (fun z : PS => z.2.1 f (w + 39 + 2 * i)) hσ).symm.trans (p_nw_z _ _ _ _ f)
    have z3 : L1.1 = L.1 + 1 := (congrArg (fun z : PS => z.1.1) hσ).symm
    have z4 : p_fr (w + 39 + 2 * i) (L, FI, AI, AL, AR) (L1, F1, A1, B1, R1) := by rw [← hσ]; exact p_fr.nw (Nat.le_refl _)
    refine P_dup rfl dX6_init_137 ?_
    refine kX6_44 rfl (g_X4_init z1 z2 (by omega)) (by decide) rfl (k2 := (k.1 - 2, k.2 - 588)) (by show k.1 - 2 + 1 = k.1 - 1; omega) (by show k.2 - 588 + 572 = k.2 - 16; omega) dX6_init_138 (fun r138 s138 q138 => ?_)
    obtain ⟨rfl, hn2, hf2, hd2⟩ := q138
    obtain ⟨L2, F2, A2, B2, R2⟩ := s138
    have hn3 : L2.1 = L1.1 + 1 := hn2
    have hw2 : WI (L2, F2, A2, B2, R2) w 8 16 i 0 := hw.fr (z4.tr hf2) (by omega) (by omega) (by omega) (by omega)
    have hkd : L2.2.1 (w + 39 + 2 * i) = 4 := hd2.1.1
    refine P_asN (t := 26) (ci := 4) (j := i) (by decide) hw2.1.1.2.2.2.2.2.1 rfl (by omega) (by rw [show L2.2.2.1 (w + 3) = 40 from hw2.1.1.2.2.2.2.2.2.1]; omega) hkd (by decide) rfl rfl dX6_init_141 ?_
    refine P_inN1 dX6_init_142 rfl rfl ?_
    refine P_goto dX6_init_145 (tgt := 120) rfl ?_
    exact ih (i + 1) L2 F2 A2 B2 (p_up R2 (w + 3) i (some (w + 39 + 2 * i))) _ (by omega) (by show k.1 - 2 = _; omega) (by show k.2 - 588 = _; omega) (hw2.s3 hd2) (by omega) (((hfr.tr (z4.le (by omega))).tr (hf2.le (by omega))).tr (p_fr.uQ (by omega)))
theorem c_X6_2 (hq0 : g.2.2.2 + σ0.1.1 = w + 1) : ∀ (n i : Nat) (L : PL) (FI AI : Nat → Nat → Int32) (AL : Nat → Nat → Int64) (AR : Nat → Nat → Option Nat) (k : Nat × Nat), i + n = 16 → k.1 = 1 * n + 681 → k.2 = 9 * n + 28929 → WI (L, FI, AI, AL, AR) w 8 i 0 0 → g.2.2.2 + L.1 = w + 23 + i → p_fr w σ0 (L, FI, AI, AL, AR) → P g 1 iX6_init 90 [some (vr w), some (vi (Int32.ofNat i))] [] (L, FI, AI, AL, AR) k (QC σ0 w 719 (fun σ => WI σ w 8 16 40 601)) := by
  intro n
  induction n with
  | zero =>
    intro i L FI AI AL AR k hi hk1 hk2 hw hq hfr
    have hii : i = 16 := by omega
    subst hii
    refine P_iloadn (i := 1) rfl rfl dX6_init_90 ?_
    refine P_aloadn (i := 0) rfl rfl dX6_init_91 ?_
    refine gX6_19 rfl hw.1.1.1.1 hw.1.1.1.2.2.1 dX6_init_92 ?_
    refine P_lenN (t := 25) (by decide) hw.1.1.2.2.2.1 (congrArg Int32.ofNat hw.1.1.2.2.2.2.1) dX6_init_95 ?_
    refine P_icmpge dX6_init_96 (tgt := 118) rfl (fun h96 => ?_) (fun h96 => absurd ((n_le (a := 16) (b := 16) (by omega) (by omega)).mpr (by omega)) h96)
    refine P_iconst (v := 0) rfl dX6_init_118 ?_
    refine P_is1 (Or.inl dX6_init_119) rfl rfl ?_
    exact c_X6_3 hq0 40 0 _ _ _ _ _ k (by omega) (by omega) (by omega) hw (by omega) hfr
  | succ n ih =>
    intro i L FI AI AL AR k hi hk1 hk2 hw hq hfr
    refine P_iloadn (i := 1) rfl rfl dX6_init_90 ?_
    refine P_aloadn (i := 0) rfl rfl dX6_init_91 ?_
    refine gX6_19 rfl hw.1.1.1.1 hw.1.1.1.2.2.1 dX6_init_92 ?_
    refine P_lenN (t := 25) (by decide) hw.1.1.2.2.2.1 (congrArg Int32.ofNat hw.1.1.2.2.2.2.1) dX6_init_95 ?_
    refine P_icmpge dX6_init_96 (tgt := 118) rfl (fun h96 => absurd h96 (fun h8 => by have h7 := (n_le (a := 16) (b := i) (by omega) (by omega)).mp h8; omega)) (fun h96 => ?_)
    refine P_aloadn (i := 0) rfl rfl dX6_init_99 ?_
    refine gX6_19 rfl hw.1.1.1.1 hw.1.1.1.2.2.1 dX6_init_100 ?_
    refine P_iloadn (i := 1) rfl rfl dX6_init_103 ?_
    refine nX6_17 (q := w + 23 + i) (k2 := (k.1 - 1, k.2 - 9)) rfl (by show g.2.2.2 + L.1 = w + 23 + i; omega) (by show k.1 - 1 + 1 = k.1; omega) (by show k.2 - 9 + 9 = k.2; omega) dX6_init_104 ?_
    generalize hσ : p_nw (w + 23 + i) 0 0 (L, FI, AI, AL, AR) = σ1
    obtain ⟨L1, F1, A1, B1, R1⟩ := σ1
    have z1 : L1.2.1 (w + 23 + i) = 0 := (congrArg (fun z : PS => z.1.2.1 (w + 23 + i)) hσ).symm.trans (p_nw_k _ _ _ _)
    have z2 : ∀ f, F1 f (w + 23 + i) = 0 := fun f => (congrArg (fun z : PS => z.2.1 f (w + 23 + i)) hσ).symm.trans (p_nw_z _ _ _ _ f)
    have z3 : L1.1 = L.1 + 1 := (congrArg (fun z : PS => z.1.1) hσ).symm
    have z4 : p_fr (w + 23 + i) (L, FI, AI, AL, AR) (L1, F1, A1, B1, R1) := by rw [← hσ]; exact p_fr.nw (Nat.le_refl _)
    refine P_dup rfl dX6_init_107 ?_
    refine kX6_43 rfl (g_X0_init z1 z2) (by decide) rfl (k2 := (k.1 - 1, k.2 - 9)) (by show k.1 - 1 + 0 = k.1 - 1; omega) (by show k.2 - 9 + 0 = k.2 - 9; omega) dX6_init_108 (fun r108 s108 q108 => ?_)
    obtain ⟨rfl, hn2, hf2, hd2⟩ := q108
    obtain ⟨L2, F2, A2, B2, R2⟩ := s108
    have hn3 : L2.1 = L1.1 + 0 := hn2
    have hw2 : WI (L2, F2, A2, B2, R2) w 8 i 0 0 := hw.fr (z4.tr hf2) (by omega) (by omega) (by omega) (by omega)
    have hkd : L2.2.1 (w + 23 + i) = 0 := hd2.1
    refine P_asN (t := 25) (ci := 0) (j := i) (by decide) hw2.1.1.2.2.2.1 rfl (by omega) (by rw [show L2.2.2.1 (w + 2) = 16 from hw2.1.1.2.2.2.2.1]; omega) hkd (by decide) rfl rfl dX6_init_111 ?_
    refine P_inN1 dX6_init_112 rfl rfl ?_
    refine P_goto dX6_init_115 (tgt := 90) rfl ?_
    exact ih (i + 1) L2 F2 A2 B2 (p_up R2 (w + 2) i (some (w + 23 + i))) _ (by omega) (by show k.1 - 1 = _; omega) (by show k.2 - 9 = _; omega) (hw2.s2 hd2) (by omega) (((hfr.tr (z4.le (by omega))).tr (hf2.le (by omega))).tr (p_fr.uQ (by omega)))
theorem c_X6_1 (hq0 : g.2.2.2 + σ0.1.1 = w + 1) : ∀ (n i : Nat) (L : PL) (FI AI : Nat → Nat → Int32) (AL : Nat → Nat → Int64) (AR : Nat → Nat → Option Nat) (k : Nat × Nat), i + n = 8 → k.1 = 2 * n + 697 → k.2 = 12 * n + 29073 → WI (L, FI, AI, AL, AR) w i 0 0 0 → g.2.2.2 + L.1 = w + 7 + 2 * i → p_fr w σ0 (L, FI, AI, AL, AR) → P g 1 iX6_init 60 [some (vr w), some (vi (Int32.ofNat i))] [] (L, FI, AI, AL, AR) k (QC σ0 w 719 (fun σ => WI σ w 8 16 40 601)) := by
  intro n
  induction n with
  | zero =>
    intro i L FI AI AL AR k hi hk1 hk2 hw hq hfr
    have hii : i = 8 := by omega
    subst hii
    refine P_iloadn (i := 1) rfl rfl dX6_init_60 ?_
    refine P_aloadn (i := 0) rfl rfl dX6_init_61 ?_
    refine gX6_11 rfl hw.1.1.1.1 hw.1.1.1.2.1 dX6_init_62 ?_
    refine P_lenN (t := 24) (by decide) hw.1.1.2.1 (congrArg Int32.ofNat hw.1.1.2.2.1) dX6_init_65 ?_
    refine P_icmpge dX6_init_66 (tgt := 88) rfl (fun h66 => ?_) (fun h66 => absurd ((n_le (a := 8) (b := 8) (by omega) (by omega)).mpr (by omega)) h66)
    refine P_iconst (v := 0) rfl dX6_init_88 ?_
    refine P_is1 (Or.inl dX6_init_89) rfl rfl ?_
    exact c_X6_2 hq0 16 0 _ _ _ _ _ k (by omega) (by omega) (by omega) hw (by omega) hfr
  | succ n ih =>
    intro i L FI AI AL AR k hi hk1 hk2 hw hq hfr
    refine P_iloadn (i := 1) rfl rfl dX6_init_60 ?_
    refine P_aloadn (i := 0) rfl rfl dX6_init_61 ?_
    refine gX6_11 rfl hw.1.1.1.1 hw.1.1.1.2.1 dX6_init_62 ?_
    refine P_lenN (t := 24) (by decide) hw.1.1.2.1 (congrArg Int32.ofNat hw.1.1.2.2.1) dX6_init_65 ?_
    refine P_icmpge dX6_init_66 (tgt := 88) rfl (fun h66 => absurd h66 (fun h8 => by have h7 := (n_le (a := 8) (b := i) (by omega) (by omega)).mp h8; omega)) (fun h66 => ?_)
    refine P_aloadn (i := 0) rfl rfl dX6_init_69 ?_
    refine gX6_11 rfl hw.1.1.1.1 hw.1.1.1.2.1 dX6_init_70 ?_
    refine P_iloadn (i := 1) rfl rfl dX6_init_73 ?_
    refine nX6_9 (q := w + 7 + 2 * i) (k2 := (k.1 - 1, k.2 - 4)) rfl (by show g.2.2.2 + L.1 = w + 7 + 2 * i; omega) (by show k.1 - 1 + 1 = k.1; omega) (by show k.2 - 4 + 4 = k.2; omega) dX6_init_74 ?_
    generalize hσ : p_nw (w + 7 + 2 * i) 2 0 (L, FI, AI, AL, AR) = σ1
    obtain ⟨L1, F1, A1, B1, R1⟩ := σ1
    have z1 : L1.2.1 (w + 7 + 2 * i) = 2 := (congrArg (fun z : PS => z.1.2.1 (w + 7 + 2 * i)) hσ).symm.trans (p_nw_k _ _ _ _)
    have z2 : ∀ f, F1 f (w + 7 + 2 * i) = 0 := fun f => (congrArg (fun z : PS => z.2.1 f (w + 7 + 2 * i)) hσ).symm.trans (p_nw_z _ _ _ _ f)
    have z3 : L1.1 = L.1 + 1 := (congrArg (fun z : PS => z.1.1) hσ).symm
    have z4 : p_fr (w + 7 + 2 * i) (L, FI, AI, AL, AR) (L1, F1, A1, B1, R1) := by rw [← hσ]; exact p_fr.nw (Nat.le_refl _)
    refine P_dup rfl dX6_init_77 ?_
    refine kX6_42 rfl (g_X2_init z1 z2 (by omega)) (by decide) rfl (k2 := (k.1 - 2, k.2 - 12)) (by show k.1 - 2 + 1 = k.1 - 1; omega) (by show k.2 - 12 + 8 = k.2 - 4; omega) dX6_init_78 (fun r78 s78 q78 => ?_)
    obtain ⟨rfl, hn2, hf2, hd2⟩ := q78
    obtain ⟨L2, F2, A2, B2, R2⟩ := s78
    have hn3 : L2.1 = L1.1 + 1 := hn2
    have hw2 : WI (L2, F2, A2, B2, R2) w i 0 0 0 := hw.fr (z4.tr hf2) (by omega) (by omega) (by omega) (by omega)
    have hkd : L2.2.1 (w + 7 + 2 * i) = 2 := hd2.1.1
    refine P_asN (t := 24) (ci := 2) (j := i) (by decide) hw2.1.1.2.1 rfl (by omega) (by rw [show L2.2.2.1 (w + 1) = 8 from hw2.1.1.2.2.1]; omega) hkd (by decide) rfl rfl dX6_init_81 ?_
    refine P_inN1 dX6_init_82 rfl rfl ?_
    refine P_goto dX6_init_85 (tgt := 60) rfl ?_
    exact ih (i + 1) L2 F2 A2 B2 (p_up R2 (w + 1) i (some (w + 7 + 2 * i))) _ (by omega) (by show k.1 - 2 = _; omega) (by show k.2 - 12 = _; omega) (hw2.s1 hd2) (by omega) (((hfr.tr (z4.le (by omega))).tr (hf2.le (by omega))).tr (p_fr.uQ (by omega)))
theorem g_X6_init (hk : L.2.1 w = 6) (hz : ∀ f, FI f w = 0) (hq : g.2.2.2 + L.1 = w + 1) : Sp g 1 iX6_init [vr w] (L, FI, AI, AL, AR) (719, 29850) (QC (L, FI, AI, AL, AR) w 719 (fun σ => WI σ w 8 16 40 601)) := by
  refine Sp.of (ls := [some (vr w), none]) (by decide +kernel) rfl rfl ?_
  refine P_aloadn (i := 0) rfl rfl dX6_init_0 ?_
  refine oX6_3 rfl dX6_init_1 rfl ?_
  refine P_aloadn (i := 0) rfl rfl dX6_init_4 ?_
  refine P_bipush (v := 8) rfl dX6_init_5 ?_
  refine qX6_9 (q := w + 1) (N := 8) (k2 := (718, 29842)) rfl rfl (by decide) (by show g.2.2.2 + L.1 = w + 1; omega) rfl rfl dX6_init_7 ?_
  refine uX6_11 rfl rfl (by simp [p_nw, hk]) dX6_init_10 ?_
  refine P_aloadn (i := 0) rfl rfl dX6_init_13 ?_
  refine P_bipush (v := 16) rfl dX6_init_14 ?_
  refine qX6_17 (q := w + 2) (N := 16) (k2 := (717, 29826)) rfl rfl (by decide) (by show g.2.2.2 + L.1 + 1 = w + 2; omega) rfl rfl dX6_init_16 ?_
  refine uX6_19 rfl rfl (by simp [p_nw, hk]) dX6_init_19 ?_
  refine P_aloadn (i := 0) rfl rfl dX6_init_22 ?_
  refine P_bipush (v := 40) rfl dX6_init_23 ?_
  refine qX6_23 (q := w + 3) (N := 40) (k2 := (716, 29786)) rfl rfl (by decide) (by show g.2.2.2 + L.1 + 1 + 1 = w + 3; omega) rfl rfl dX6_init_25 ?_
  refine uX6_25 rfl rfl (by simp [p_nw, hk]) dX6_init_28 ?_
  refine P_aloadn (i := 0) rfl rfl dX6_init_31 ?_
  refine P_sipush (v := 601) rfl dX6_init_32 ?_
  refine qX6_29 (q := w + 4) (N := 601) (k2 := (715, 29185)) rfl rfl (by decide) (by show g.2.2.2 + L.1 + 1 + 1 + 1 = w + 4; omega) rfl rfl dX6_init_35 ?_
  refine uX6_31 rfl rfl (by simp [p_nw, hk]) dX6_init_38 ?_
  refine P_aloadn (i := 0) rfl rfl dX6_init_41 ?_
  refine P_bipush (v := 8) rfl dX6_init_42 ?_
  refine P_nw0 (q := w + 5) (N := 8) (k2 := (714, 29177)) rfl (by decide) (by show g.2.2.2 + L.1 + 1 + 1 + 1 + 1 = w + 5; omega) rfl rfl dX6_init_44 ?_
  refine uX6_35 rfl rfl (by simp [p_nw, hk]) dX6_init_46 ?_
  refine P_aloadn (i := 0) rfl rfl dX6_init_49 ?_
  refine P_bipush (v := 8) rfl dX6_init_50 ?_
  refine qX6_17 (q := w + 6) (N := 8) (k2 := (713, 29169)) rfl rfl (by decide) (by show g.2.2.2 + L.1 + 1 + 1 + 1 + 1 + 1 = w + 6; omega) rfl rfl dX6_init_52 ?_
  refine uX6_39 rfl rfl (by simp [p_nw, hk]) dX6_init_55 ?_
  refine P_iconst (v := 0) rfl dX6_init_58 ?_
  refine P_is1 (Or.inl dX6_init_59) rfl rfl ?_
  refine c_X6_1 hq 8 0 _ _ _ _ _ _ rfl rfl rfl ⟨⟨⟨⟨by simp [p_nw, hk], by simp [p_nw, p_up], by simp [p_nw, p_up], by simp [p_nw, p_up], by simp [p_nw, p_up], by simp [p_nw, p_up], by simp [p_nw, p_up]⟩, by simp [p_nw], by simp [p_nw], by simp [p_nw], by simp [p_nw], by simp [p_nw], by simp [p_nw], by simp [p_nw], by simp [p_nw], by simp [p_nw], by simp [p_nw], by simp [p_nw], by simp [p_nw]⟩, fun f => by simp [p_nw, hz], fun k => by simp [p_nw]⟩, fun j hj => absurd hj (Nat.not_lt_zero _), fun j hj => absurd hj (Nat.not_lt_zero _), fun j hj => absurd hj (Nat.not_lt_zero _), fun j hj => absurd hj (Nat.not_lt_zero _)⟩ (by show g.2.2.2 + (L.1 + 1 + 1 + 1 + 1 + 1 + 1) = w + 7 + 2 * 0; omega) ?_
  exact (((((((((((p_fr.nw (show w ≤ w + 1 by omega)).tr (p_fr.uR (Nat.le_refl w))).tr (p_fr.nw (show w ≤ w + 2 by omega))).tr (p_fr.uR (Nat.le_refl w))).tr (p_fr.nw (show w ≤ w + 3 by omega))).tr (p_fr.uR (Nat.le_refl w))).tr (p_fr.nw (show w ≤ w + 4 by omega))).tr (p_fr.uR (Nat.le_refl w))).tr (p_fr.nw (show w ≤ w + 5 by omega))).tr (p_fr.uR (Nat.le_refl w))).tr (p_fr.nw (show w ≤ w + 6 by omega))).tr (p_fr.uR (Nat.le_refl w))
end New2
