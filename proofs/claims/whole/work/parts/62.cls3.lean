def QCW (L : PL) (FI AI : Nat → Nat → Int32) (AL : Nat → Nat → Int64) (AR : Nat → Nat → Option Nat) (w : Nat) (X : XW) (C : List XC) (U : Nat) (sa : Nat → Nat) (r0 : Option PV) : Option PV → PS → Prop := fun r σ => ∃ F2 A2 L2, σ = (L, F2, A2, L2, AR) ∧ r = r0 ∧ FrC w FI AI AL AR F2 A2 L2 AR ∧ CW L F2 A2 L2 AR w X C U sa
def KF (FI AI : Nat → Nat → Int32) (AL : Nat → Nat → Int64) (AR : Nat → Nat → Option Nat) (w : Nat) (X : XW) (n U : Nat) (F A : Nat → Nat → Int32) (L2 : Nat → Nat → Int64) : Prop := FrC w FI AI AL AR F A L2 AR ∧ CG F w X n U ∧ CD A w X
section Cls3
variable {g : PG} {L : PL} {FI AI : Nat → Nat → Int32} {AL : Nat → Nat → Int64} {AR : Nat → Nat → Option Nat} {F2 A2 : Nat → Nat → Int32} {L2 : Nat → Nat → Int64} {w v : Nat} {X : XW} {C : List XC} {U : Nat} {sa sb : Nat → Nat} {M : Nat}
theorem s_W_copy (hw : WF L w) (hA : WA AR w sa) (hv : CW L FI AI AL AR v X C U sb) (hI : XI M X) (hwv : w + 720 ≤ v ∨ v + 720 ≤ w) (hCl : ∀ i, i < C.length → (C.getD i xc0).1.2.2.2.1 = 0 ∨ (C.getD i xc0).1.2.2.2.1 = 1) : Sp g 2 iX6_copyFrom [vr w, vr v] (L, FI, AI, AL, AR) (0, 0) (QCW L FI AI AL AR w X C U sa none) := by
  refine Sp.of (ls := [some (vr w), some (vr v), none]) (by decide +kernel) rfl rfl ?_
  have hc601 := hv.c601
  have JS : ∀ n i : Nat, i + n = C.length → ∀ (F A : Nat → Nat → Int32) (B : Nat → Nat → Int64), KF FI AI AL AR w X C.length U F A B → CN F A w X → CB F w X → CP F B w X → (∀ j, j < i → CS1 F sa C j) → P g 2 iX6_copyFrom 180 [some (vr w), some (vr v), some (vi (Int32.ofNat i))] [] (L, F, A, B, AR) (0, 0) (QCW L FI AI AL AR w X C U sa none) := by
    intro n
    induction n with
    | zero =>
      intro i hi F A B hK hN hB hP hS
      refine P_iloadn (i := 2) rfl rfl dX6_copyFrom_180 ?_
      refine P_aloadn (i := 0) rfl rfl dX6_copyFrom_181 ?_
      refine gX6_56 rfl (by first | exact hw.kw | exact hv.wf.kw | exact hw.k1 | exact hw.k2 | exact hw.k3 | exact hw.k4 | exact hw.k5 | exact hw.k6 | exact hv.wf.k1 | exact hv.wf.k2 | exact hv.wf.k3 | exact hv.wf.k4 | exact hv.wf.k5 | exact hv.wf.k6) hK.2.1.2.2.2.1 dX6_copyFrom_182 ?_
      refine P_icmpge dX6_copyFrom_185 (tgt := 209) rfl (fun h185 => ?_) (fun h185 => absurd ((n_le (a := C.length) (b := i) (by omega) (by omega)).mpr (by omega)) h185)
      refine P_return rfl dX6_copyFrom_209 ?_
      exact ⟨F, A, B, rfl, rfl, hK.1, ⟨hw, hA⟩, hK.2.1, hK.2.2, hN, hB, hP, fun j hj => hS j (by omega), hv.c601, hv.b16, hv.p40⟩
    | succ n ih =>
      intro i hi F A B hK hN hB hP hS
      have hv2 := hv.far hK.1 hwv
      have hci0 := hv2.s i (by omega)
      have hb5 : F 165 (sb i) = 0 ∨ F 165 (sb i) = 1 := by rw [hci0.1.2.2.2.1]; exact hCl i (by omega)
      have hb8 : F 168 (sb i) = 0 ∨ F 168 (sb i) = 1 := by rw [hci0.2]; exact b_01
      refine P_iloadn (i := 2) rfl rfl dX6_copyFrom_180 ?_
      refine P_aloadn (i := 0) rfl rfl dX6_copyFrom_181 ?_
      refine gX6_56 rfl (by first | exact hw.kw | exact hv.wf.kw | exact hw.k1 | exact hw.k2 | exact hw.k3 | exact hw.k4 | exact hw.k5 | exact hw.k6 | exact hv.wf.k1 | exact hv.wf.k2 | exact hv.wf.k3 | exact hv.wf.k4 | exact hv.wf.k5 | exact hv.wf.k6) hK.2.1.2.2.2.1 dX6_copyFrom_182 ?_
      refine P_icmpge dX6_copyFrom_185 (tgt := 209) rfl (fun h185 => absurd h185 (fun h8 => by have h7 := (n_le (a := C.length) (b := i) (by omega) (by omega)).mp h8; omega)) (fun h185 => ?_)
      refine P_aloadn (i := 0) rfl rfl dX6_copyFrom_188 ?_
      refine gX6_31 rfl (by first | exact hw.kw | exact hv.wf.kw | exact hw.k1 | exact hw.k2 | exact hw.k3 | exact hw.k4 | exact hw.k5 | exact hw.k6 | exact hv.wf.k1 | exact hv.wf.k2 | exact hv.wf.k3 | exact hv.wf.k4 | exact hv.wf.k5 | exact hv.wf.k6) hw.r198 dX6_copyFrom_189 ?_
      refine P_iloadn (i := 2) rfl rfl dX6_copyFrom_192 ?_
      refine P_aaN (t := 27) (j := i) (by decide) (by first | exact hw.kw | exact hv.wf.kw | exact hw.k1 | exact hw.k2 | exact hw.k3 | exact hw.k4 | exact hw.k5 | exact hw.k6 | exact hv.wf.k1 | exact hv.wf.k2 | exact hv.wf.k3 | exact hv.wf.k4 | exact hv.wf.k5 | exact hv.wf.k6) rfl (by omega) (by rw [hw.l4]; omega) (hA.s (by omega)) dX6_copyFrom_193 ?_
      refine P_aloadn (i := 1) rfl rfl dX6_copyFrom_194 ?_
      refine gX6_31 rfl (by first | exact hw.kw | exact hv.wf.kw | exact hw.k1 | exact hw.k2 | exact hw.k3 | exact hw.k4 | exact hw.k5 | exact hw.k6 | exact hv.wf.k1 | exact hv.wf.k2 | exact hv.wf.k3 | exact hv.wf.k4 | exact hv.wf.k5 | exact hv.wf.k6) hv.wf.r198 dX6_copyFrom_195 ?_
      refine P_iloadn (i := 2) rfl rfl dX6_copyFrom_198 ?_
      refine P_aaN (t := 27) (j := i) (by decide) (by first | exact hw.kw | exact hv.wf.kw | exact hw.k1 | exact hw.k2 | exact hw.k3 | exact hw.k4 | exact hw.k5 | exact hw.k6 | exact hv.wf.k1 | exact hv.wf.k2 | exact hv.wf.k3 | exact hv.wf.k4 | exact hv.wf.k5 | exact hv.wf.k6) rfl (by omega) (by rw [hv.wf.l4]; omega) (hv2.wa.s (by omega)) dX6_copyFrom_199 ?_
      refine kX6_87 rfl (s_S_copy (hw.ks hA (by omega)) (hv.wf.ks hv2.wa (by omega)) hb5 hb8) (by decide) (hw.ks hA (by omega)) rfl dX6_copyFrom_200 (fun r200 s200 q200 => ?_)
      obtain ⟨rfl, rfl⟩ := q200
      refine P_inN2 dX6_copyFrom_203 rfl rfl ?_
      refine P_goto dX6_copyFrom_206 (tgt := 180) rfl ?_
      have hsi := hA.lo (i := i) (by omega)
      have hci := hv2.s i (by omega)
      refine ih (i + 1) (by omega) _ _ _ ⟨?_, hK.2.1.cg (fun j h6 _ => cpF_j (by omega)), hK.2.2⟩ (fun k hk => (hN k hk).cg (fun j _ _ => cpF_j (by omega)) rfl) (fun k hk => (hB k hk).cg (fun j _ => cpF_j (by omega))) (fun k hk => (hP k hk).cg (fun j _ _ => cpF_j (by omega)) rfl) (fun j hj => ?_)
      · exact hK.1.tr (fun a ha => ⟨fun j => cpF_c (by omega), rfl, rfl, rfl⟩)
      · by_cases e : j = i
        · rw [e]
          refine ⟨?_, ?_⟩
          · obtain ⟨g0, g1, g2, g3, g4, g5, g6, g7⟩ := hci.1
            exact ⟨(cpF_a (by decide)).trans g0, (cpF_a (by decide)).trans g1, (cpF_a (by decide)).trans g2, (cpF_a (by decide)).trans g3, (cpF_a (by decide)).trans g4, (cpF_a (by decide)).trans g5, (cpF_a (by decide)).trans g6, (cpF_a (by decide)).trans g7⟩
          · exact (cpF_a (by decide)).trans hci.2
        · exact (hS j (by omega)).cg (fun k _ _ => cpF_c (hA.ne (by omega) (by omega) e))
  have JP : ∀ n i : Nat, i + n = 40 → ∀ (F A : Nat → Nat → Int32) (B : Nat → Nat → Int64), KF FI AI AL AR w X C.length U F A B → CN F A w X → CB F w X → (∀ p, p < i → CP1 F B w X p) → P g 2 iX6_copyFrom 148 [some (vr w), some (vr v), some (vi (Int32.ofNat i))] [] (L, F, A, B, AR) (0, 0) (QCW L FI AI AL AR w X C U sa none) := by
    intro n
    induction n with
    | zero =>
      intro i hi F A B hK hN hB hP
      refine P_iloadn (i := 2) rfl rfl dX6_copyFrom_148 ?_
      refine P_aloadn (i := 0) rfl rfl dX6_copyFrom_149 ?_
      refine gX6_25 rfl (by first | exact hw.kw | exact hv.wf.kw | exact hw.k1 | exact hw.k2 | exact hw.k3 | exact hw.k4 | exact hw.k5 | exact hw.k6 | exact hv.wf.k1 | exact hv.wf.k2 | exact hv.wf.k3 | exact hv.wf.k4 | exact hv.wf.k5 | exact hv.wf.k6) hw.r197 dX6_copyFrom_150 ?_
      refine P_lenN (t := 26) (by decide) (by first | exact hw.kw | exact hv.wf.kw | exact hw.k1 | exact hw.k2 | exact hw.k3 | exact hw.k4 | exact hw.k5 | exact hw.k6 | exact hv.wf.k1 | exact hv.wf.k2 | exact hv.wf.k3 | exact hv.wf.k4 | exact hv.wf.k5 | exact hv.wf.k6) (by rw [hw.l3]) dX6_copyFrom_153 ?_
      refine P_icmpge dX6_copyFrom_154 (tgt := 178) rfl (fun h154 => ?_) (fun h154 => absurd ((n_le (a := 40) (b := i) (by omega) (by omega)).mpr (by omega)) h154)
      refine P_iconst (v := 0) rfl dX6_copyFrom_178 ?_
      refine P_is2 (Or.inl dX6_copyFrom_179) rfl rfl ?_
      refine P_few (ls2 := [some (vr w), some (vr v), some (vi (Int32.ofNat 0))]) ⟨rfl, rfl, rfl, trivial⟩ ?_
      exact JS C.length 0 (by omega) F A B hK hN hB (fun p hp => hP p (by omega)) (fun j hj => absurd hj (Nat.not_lt_zero j))
    | succ n ih =>
      intro i hi F A B hK hN hB hP
      have hv2 := hv.far hK.1 hwv
      have hb4 : F 134 (v + 39 + 2 * i) = 0 ∨ F 134 (v + 39 + 2 * i) = 1 := by
        have hpi := hv2.p i (by omega)
        by_cases h1 : i < xp X
        · rw [(hpi.1 h1).1.2.2.2.2.2.2.1]; exact (hI.2.2.2.1 i h1).1.2.2.2.2.1
        · exact (hpi.2 (by omega)).1
      refine P_iloadn (i := 2) rfl rfl dX6_copyFrom_148 ?_
      refine P_aloadn (i := 0) rfl rfl dX6_copyFrom_149 ?_
      refine gX6_25 rfl (by first | exact hw.kw | exact hv.wf.kw | exact hw.k1 | exact hw.k2 | exact hw.k3 | exact hw.k4 | exact hw.k5 | exact hw.k6 | exact hv.wf.k1 | exact hv.wf.k2 | exact hv.wf.k3 | exact hv.wf.k4 | exact hv.wf.k5 | exact hv.wf.k6) hw.r197 dX6_copyFrom_150 ?_
      refine P_lenN (t := 26) (by decide) (by first | exact hw.kw | exact hv.wf.kw | exact hw.k1 | exact hw.k2 | exact hw.k3 | exact hw.k4 | exact hw.k5 | exact hw.k6 | exact hv.wf.k1 | exact hv.wf.k2 | exact hv.wf.k3 | exact hv.wf.k4 | exact hv.wf.k5 | exact hv.wf.k6) (by rw [hw.l3]) dX6_copyFrom_153 ?_
      refine P_icmpge dX6_copyFrom_154 (tgt := 178) rfl (fun h154 => absurd h154 (fun h8 => by have h7 := (n_le (a := 40) (b := i) (by omega) (by omega)).mp h8; omega)) (fun h154 => ?_)
      refine P_aloadn (i := 0) rfl rfl dX6_copyFrom_157 ?_
      refine gX6_25 rfl (by first | exact hw.kw | exact hv.wf.kw | exact hw.k1 | exact hw.k2 | exact hw.k3 | exact hw.k4 | exact hw.k5 | exact hw.k6 | exact hv.wf.k1 | exact hv.wf.k2 | exact hv.wf.k3 | exact hv.wf.k4 | exact hv.wf.k5 | exact hv.wf.k6) hw.r197 dX6_copyFrom_158 ?_
      refine P_iloadn (i := 2) rfl rfl dX6_copyFrom_161 ?_
      refine P_aaN (t := 26) (j := i) (by decide) (by first | exact hw.kw | exact hv.wf.kw | exact hw.k1 | exact hw.k2 | exact hw.k3 | exact hw.k4 | exact hw.k5 | exact hw.k6 | exact hv.wf.k1 | exact hv.wf.k2 | exact hv.wf.k3 | exact hv.wf.k4 | exact hv.wf.k5 | exact hv.wf.k6) rfl (by omega) (by rw [hw.l3]; omega) (hA.2.2.1 i (by omega)) dX6_copyFrom_162 ?_
      refine P_aloadn (i := 1) rfl rfl dX6_copyFrom_163 ?_
      refine gX6_25 rfl (by first | exact hw.kw | exact hv.wf.kw | exact hw.k1 | exact hw.k2 | exact hw.k3 | exact hw.k4 | exact hw.k5 | exact hw.k6 | exact hv.wf.k1 | exact hv.wf.k2 | exact hv.wf.k3 | exact hv.wf.k4 | exact hv.wf.k5 | exact hv.wf.k6) hv.wf.r197 dX6_copyFrom_164 ?_
      refine P_iloadn (i := 2) rfl rfl dX6_copyFrom_167 ?_
      refine P_aaN (t := 26) (j := i) (by decide) (by first | exact hw.kw | exact hv.wf.kw | exact hw.k1 | exact hw.k2 | exact hw.k3 | exact hw.k4 | exact hw.k5 | exact hw.k6 | exact hv.wf.k1 | exact hv.wf.k2 | exact hv.wf.k3 | exact hv.wf.k4 | exact hv.wf.k5 | exact hv.wf.k6) rfl (by omega) (by rw [hv.wf.l3]; omega) (hv2.wa.2.2.1 i (by omega)) dX6_copyFrom_168 ?_
      refine kX6_84 rfl (s_P_copy (ra := w + 40 + 2 * i) (rb := v + 40 + 2 * i) (hw.kP (by omega)) (hv.wf.kP (by omega)) hb4 (hw.rP (by omega)) (hv.wf.rP (by omega)) (hw.kC (by omega)) (hv.wf.kC (by omega)) (hw.lC (by omega)) (hv.wf.lC (by omega))) (by decide) (hw.kP (by omega)) rfl dX6_copyFrom_169 (fun r169 s169 q169 => ?_)
      obtain ⟨rfl, rfl⟩ := q169
      refine P_inN2 dX6_copyFrom_172 rfl rfl ?_
      refine P_goto dX6_copyFrom_175 (tgt := 148) rfl ?_
      have e9 : ∀ c, c ≠ w + 40 + 2 * i → (if 0 < F 139 (v + 39 + 2 * i) then (fun c k => if c = w + 40 + 2 * i ∧ k < 572 then B (v + 40 + 2 * i) k else B c k) else B) c = B c := fun c hc => by
        split
        · funext k
          exact if_neg (fun hh => hc hh.1)
        · rfl
      refine ih (i + 1) (by omega) _ _ _ ⟨?_, hK.2.1.cg (fun j h6 _ => cpF_j (by omega)), hK.2.2⟩ (fun k hk => (hN k hk).cg (fun j _ _ => cpF_j (by omega)) rfl) (fun k hk => (hB k hk).cg (fun j _ => cpF_j (by omega))) (fun p hp => ?_)
      · exact hK.1.tr (fun a ha => ⟨fun j => cpF_c (by omega), rfl, e9 a (by omega), rfl⟩)
      · by_cases e : p = i
        · rw [e]
          have hpi := hv2.p i (by omega)
          refine ⟨fun h1 => ?_, fun h1 => ?_⟩
          · obtain ⟨g1, g2, g3, g4⟩ := hpi.1 h1
            obtain ⟨f0, f1, f2, f3, f4, f5, f6, f7, f8, f9, f10, f11⟩ := g1
            refine ⟨⟨(cpF_a (by decide)).trans f0, (cpF_a (by decide)).trans f1, (cpF_a (by decide)).trans f2, (cpF_a (by decide)).trans f3, (cpF_a (by decide)).trans f4, (cpF_a (by decide)).trans f5, (cpF_a (by decide)).trans f6, (cpF_a (by decide)).trans f7, (cpF_a (by decide)).trans f8, (cpF_a (by decide)).trans f9, (cpF_a (by decide)).trans f10, (cpF_a (by decide)).trans f11⟩, fun h2 => ⟨(cpF_a (by decide)).trans (g2 h2).1, ?_⟩, fun h2 => ?_, by rw [cpF_a (by decide)]; exact g4⟩
            · have hq := hI.2.2.2.1 i h1
              have hpos : 0 < F 139 (v + 39 + 2 * i) := by
                rw [f11, hq.2.2.1]
                rw [hq.2.2.1] at h2
                have h3 := x_cnt_le (xT X i) 4000
                have h4 : ¬ x_cnt (xT X i) 4000 = 0 := fun hh => h2 (by rw [hh]; rfl)
                have h5 := (n_lt (a := 0) (b := x_cnt (xT X i) 4000) (by omega) (by omega)).mpr (by omega)
                exact h5
              rw [if_pos hpos]
              intro k hk
              rw [← (g2 h2).2 k hk]
              unfold x_cell
              have h6 : k / 7 < 572 := by omega
              show l_cell (if w + 39 + 2 * i + 1 = w + 40 + 2 * i ∧ k / 7 < 572 then B (v + 40 + 2 * i) (k / 7) else B (w + 39 + 2 * i + 1) (k / 7)) (k % 7) = _
              rw [if_pos (by omega), show v + 39 + 2 * i + 1 = v + 40 + 2 * i by omega]
            · rw [cpF_a (by decide), cpF_a (by decide)]
              exact g3 h2
          · obtain ⟨f0, f1, f2, f3, f4, f5, f6, f7⟩ := hpi.2 h1
            exact ⟨by rw [cpF_a (by decide)]; exact f0, (cpF_a (by decide)).trans f1, (cpF_a (by decide)).trans f2, (cpF_a (by decide)).trans f3, (cpF_a (by decide)).trans f4, (cpF_a (by decide)).trans f5, (cpF_a (by decide)).trans f6, (cpF_a (by decide)).trans f7⟩
        · exact (hP p (by omega)).cg (fun j _ _ => cpF_c (by omega)) (e9 _ (by omega))
  have JB : ∀ n i : Nat, i + n = 16 → ∀ (F A : Nat → Nat → Int32) (B : Nat → Nat → Int64), KF FI AI AL AR w X C.length U F A B → CN F A w X → (∀ p, p < i → CB1 F w X p) → P g 2 iX6_copyFrom 116 [some (vr w), some (vr v), some (vi (Int32.ofNat i))] [] (L, F, A, B, AR) (0, 0) (QCW L FI AI AL AR w X C U sa none) := by
    intro n
    induction n with
    | zero =>
      intro i hi F A B hK hN hB
      refine P_iloadn (i := 2) rfl rfl dX6_copyFrom_116 ?_
      refine P_aloadn (i := 0) rfl rfl dX6_copyFrom_117 ?_
      refine gX6_19 rfl (by first | exact hw.kw | exact hv.wf.kw | exact hw.k1 | exact hw.k2 | exact hw.k3 | exact hw.k4 | exact hw.k5 | exact hw.k6 | exact hv.wf.k1 | exact hv.wf.k2 | exact hv.wf.k3 | exact hv.wf.k4 | exact hv.wf.k5 | exact hv.wf.k6) hw.r196 dX6_copyFrom_118 ?_
      refine P_lenN (t := 25) (by decide) (by first | exact hw.kw | exact hv.wf.kw | exact hw.k1 | exact hw.k2 | exact hw.k3 | exact hw.k4 | exact hw.k5 | exact hw.k6 | exact hv.wf.k1 | exact hv.wf.k2 | exact hv.wf.k3 | exact hv.wf.k4 | exact hv.wf.k5 | exact hv.wf.k6) (by rw [hw.l2]) dX6_copyFrom_121 ?_
      refine P_icmpge dX6_copyFrom_122 (tgt := 146) rfl (fun h122 => ?_) (fun h122 => absurd ((n_le (a := 16) (b := i) (by omega) (by omega)).mpr (by omega)) h122)
      refine P_iconst (v := 0) rfl dX6_copyFrom_146 ?_
      refine P_is2 (Or.inl dX6_copyFrom_147) rfl rfl ?_
      refine P_few (ls2 := [some (vr w), some (vr v), some (vi (Int32.ofNat 0))]) ⟨rfl, rfl, rfl, trivial⟩ ?_
      exact JP 40 0 (by omega) F A B hK hN (fun p hp => hB p (by omega)) (fun j hj => absurd hj (Nat.not_lt_zero j))
    | succ n ih =>
      intro i hi F A B hK hN hB
      have hv2 := hv.far hK.1 hwv
      refine P_iloadn (i := 2) rfl rfl dX6_copyFrom_116 ?_
      refine P_aloadn (i := 0) rfl rfl dX6_copyFrom_117 ?_
      refine gX6_19 rfl (by first | exact hw.kw | exact hv.wf.kw | exact hw.k1 | exact hw.k2 | exact hw.k3 | exact hw.k4 | exact hw.k5 | exact hw.k6 | exact hv.wf.k1 | exact hv.wf.k2 | exact hv.wf.k3 | exact hv.wf.k4 | exact hv.wf.k5 | exact hv.wf.k6) hw.r196 dX6_copyFrom_118 ?_
      refine P_lenN (t := 25) (by decide) (by first | exact hw.kw | exact hv.wf.kw | exact hw.k1 | exact hw.k2 | exact hw.k3 | exact hw.k4 | exact hw.k5 | exact hw.k6 | exact hv.wf.k1 | exact hv.wf.k2 | exact hv.wf.k3 | exact hv.wf.k4 | exact hv.wf.k5 | exact hv.wf.k6) (by rw [hw.l2]) dX6_copyFrom_121 ?_
      refine P_icmpge dX6_copyFrom_122 (tgt := 146) rfl (fun h122 => absurd h122 (fun h8 => by have h7 := (n_le (a := 16) (b := i) (by omega) (by omega)).mp h8; omega)) (fun h122 => ?_)
      refine P_aloadn (i := 0) rfl rfl dX6_copyFrom_125 ?_
      refine gX6_19 rfl (by first | exact hw.kw | exact hv.wf.kw | exact hw.k1 | exact hw.k2 | exact hw.k3 | exact hw.k4 | exact hw.k5 | exact hw.k6 | exact hv.wf.k1 | exact hv.wf.k2 | exact hv.wf.k3 | exact hv.wf.k4 | exact hv.wf.k5 | exact hv.wf.k6) hw.r196 dX6_copyFrom_126 ?_
      refine P_iloadn (i := 2) rfl rfl dX6_copyFrom_129 ?_
      refine P_aaN (t := 25) (j := i) (by decide) (by first | exact hw.kw | exact hv.wf.kw | exact hw.k1 | exact hw.k2 | exact hw.k3 | exact hw.k4 | exact hw.k5 | exact hw.k6 | exact hv.wf.k1 | exact hv.wf.k2 | exact hv.wf.k3 | exact hv.wf.k4 | exact hv.wf.k5 | exact hv.wf.k6) rfl (by omega) (by rw [hw.l2]; omega) (hA.2.1 i (by omega)) dX6_copyFrom_130 ?_
      refine P_aloadn (i := 1) rfl rfl dX6_copyFrom_131 ?_
      refine gX6_19 rfl (by first | exact hw.kw | exact hv.wf.kw | exact hw.k1 | exact hw.k2 | exact hw.k3 | exact hw.k4 | exact hw.k5 | exact hw.k6 | exact hv.wf.k1 | exact hv.wf.k2 | exact hv.wf.k3 | exact hv.wf.k4 | exact hv.wf.k5 | exact hv.wf.k6) hv.wf.r196 dX6_copyFrom_132 ?_
      refine P_iloadn (i := 2) rfl rfl dX6_copyFrom_135 ?_
      refine P_aaN (t := 25) (j := i) (by decide) (by first | exact hw.kw | exact hv.wf.kw | exact hw.k1 | exact hw.k2 | exact hw.k3 | exact hw.k4 | exact hw.k5 | exact hw.k6 | exact hv.wf.k1 | exact hv.wf.k2 | exact hv.wf.k3 | exact hv.wf.k4 | exact hv.wf.k5 | exact hv.wf.k6) rfl (by omega) (by rw [hv.wf.l2]; omega) (hv2.wa.2.1 i (by omega)) dX6_copyFrom_136 ?_
      refine kX6_81 rfl (s_B_copy (hw.kB (by omega)) (hv.wf.kB (by omega))) (by decide) (hw.kB (by omega)) rfl dX6_copyFrom_137 (fun r137 s137 q137 => ?_)
      obtain ⟨rfl, rfl⟩ := q137
      refine P_inN2 dX6_copyFrom_140 rfl rfl ?_
      refine P_goto dX6_copyFrom_143 (tgt := 116) rfl ?_
      refine ih (i + 1) (by omega) _ _ _ ⟨?_, hK.2.1.cg (fun j h6 _ => cpF_j (by omega)), hK.2.2⟩ (fun k hk => (hN k hk).cg (fun j _ _ => cpF_j (by omega)) rfl) (fun k hk => ?_)
      · exact hK.1.tr (fun a ha => ⟨fun j => cpF_c (by omega), rfl, rfl, rfl⟩)
      · by_cases e : k = i
        · rw [e]
          have hbi := hv2.b i (by omega)
          exact ⟨fun h1 j hj => (cpF_a (by omega)).trans (hbi.1 h1 j hj), fun h1 j h5 hj => (cpF_a (by omega)).trans (hbi.2 h1 j h5 hj)⟩
        · exact (hB k (by omega)).cg (fun j _ => cpF_c (by omega))
  have JN : ∀ n i : Nat, i + n = 8 → ∀ (F A : Nat → Nat → Int32) (B : Nat → Nat → Int64), KF FI AI AL AR w X C.length U F A B → (∀ p, p < i → CN1 F A w X p) → P g 2 iX6_copyFrom 84 [some (vr w), some (vr v), some (vi (Int32.ofNat i))] [] (L, F, A, B, AR) (0, 0) (QCW L FI AI AL AR w X C U sa none) := by
    intro n
    induction n with
    | zero =>
      intro i hi F A B hK hN
      refine P_iloadn (i := 2) rfl rfl dX6_copyFrom_84 ?_
      refine P_aloadn (i := 0) rfl rfl dX6_copyFrom_85 ?_
      refine gX6_11 rfl (by first | exact hw.kw | exact hv.wf.kw | exact hw.k1 | exact hw.k2 | exact hw.k3 | exact hw.k4 | exact hw.k5 | exact hw.k6 | exact hv.wf.k1 | exact hv.wf.k2 | exact hv.wf.k3 | exact hv.wf.k4 | exact hv.wf.k5 | exact hv.wf.k6) hw.r195 dX6_copyFrom_86 ?_
      refine P_lenN (t := 24) (by decide) (by first | exact hw.kw | exact hv.wf.kw | exact hw.k1 | exact hw.k2 | exact hw.k3 | exact hw.k4 | exact hw.k5 | exact hw.k6 | exact hv.wf.k1 | exact hv.wf.k2 | exact hv.wf.k3 | exact hv.wf.k4 | exact hv.wf.k5 | exact hv.wf.k6) (by rw [hw.l1]) dX6_copyFrom_89 ?_
      refine P_icmpge dX6_copyFrom_90 (tgt := 114) rfl (fun h90 => ?_) (fun h90 => absurd ((n_le (a := 8) (b := i) (by omega) (by omega)).mpr (by omega)) h90)
      refine P_iconst (v := 0) rfl dX6_copyFrom_114 ?_
      refine P_is2 (Or.inl dX6_copyFrom_115) rfl rfl ?_
      refine P_few (ls2 := [some (vr w), some (vr v), some (vi (Int32.ofNat 0))]) ⟨rfl, rfl, rfl, trivial⟩ ?_
      exact JB 16 0 (by omega) F A B hK (fun p hp => hN p (by omega)) (fun j hj => absurd hj (Nat.not_lt_zero j))
    | succ n ih =>
      intro i hi F A B hK hN
      have hv2 := hv.far hK.1 hwv
      refine P_iloadn (i := 2) rfl rfl dX6_copyFrom_84 ?_
      refine P_aloadn (i := 0) rfl rfl dX6_copyFrom_85 ?_
      refine gX6_11 rfl (by first | exact hw.kw | exact hv.wf.kw | exact hw.k1 | exact hw.k2 | exact hw.k3 | exact hw.k4 | exact hw.k5 | exact hw.k6 | exact hv.wf.k1 | exact hv.wf.k2 | exact hv.wf.k3 | exact hv.wf.k4 | exact hv.wf.k5 | exact hv.wf.k6) hw.r195 dX6_copyFrom_86 ?_
      refine P_lenN (t := 24) (by decide) (by first | exact hw.kw | exact hv.wf.kw | exact hw.k1 | exact hw.k2 | exact hw.k3 | exact hw.k4 | exact hw.k5 | exact hw.k6 | exact hv.wf.k1 | exact hv.wf.k2 | exact hv.wf.k3 | exact hv.wf.k4 | exact hv.wf.k5 | exact hv.wf.k6) (by rw [hw.l1]) dX6_copyFrom_89 ?_
      refine P_icmpge dX6_copyFrom_90 (tgt := 114) rfl (fun h90 => absurd h90 (fun h8 => by have h7 := (n_le (a := 8) (b := i) (by omega) (by omega)).mp h8; omega)) (fun h90 => ?_)
      refine P_aloadn (i := 0) rfl rfl dX6_copyFrom_93 ?_
      refine gX6_11 rfl (by first | exact hw.kw | exact hv.wf.kw | exact hw.k1 | exact hw.k2 | exact hw.k3 | exact hw.k4 | exact hw.k5 | exact hw.k6 | exact hv.wf.k1 | exact hv.wf.k2 | exact hv.wf.k3 | exact hv.wf.k4 | exact hv.wf.k5 | exact hv.wf.k6) hw.r195 dX6_copyFrom_94 ?_
      refine P_iloadn (i := 2) rfl rfl dX6_copyFrom_97 ?_
      refine P_aaN (t := 24) (j := i) (by decide) (by first | exact hw.kw | exact hv.wf.kw | exact hw.k1 | exact hw.k2 | exact hw.k3 | exact hw.k4 | exact hw.k5 | exact hw.k6 | exact hv.wf.k1 | exact hv.wf.k2 | exact hv.wf.k3 | exact hv.wf.k4 | exact hv.wf.k5 | exact hv.wf.k6) rfl (by omega) (by rw [hw.l1]; omega) (hA.1 i (by omega)) dX6_copyFrom_98 ?_
      refine P_aloadn (i := 1) rfl rfl dX6_copyFrom_99 ?_
      refine gX6_11 rfl (by first | exact hw.kw | exact hv.wf.kw | exact hw.k1 | exact hw.k2 | exact hw.k3 | exact hw.k4 | exact hw.k5 | exact hw.k6 | exact hv.wf.k1 | exact hv.wf.k2 | exact hv.wf.k3 | exact hv.wf.k4 | exact hv.wf.k5 | exact hv.wf.k6) hv.wf.r195 dX6_copyFrom_100 ?_
      refine P_iloadn (i := 2) rfl rfl dX6_copyFrom_103 ?_
      refine P_aaN (t := 24) (j := i) (by decide) (by first | exact hw.kw | exact hv.wf.kw | exact hw.k1 | exact hw.k2 | exact hw.k3 | exact hw.k4 | exact hw.k5 | exact hw.k6 | exact hv.wf.k1 | exact hv.wf.k2 | exact hv.wf.k3 | exact hv.wf.k4 | exact hv.wf.k5 | exact hv.wf.k6) rfl (by omega) (by rw [hv.wf.l1]; omega) (hv2.wa.1 i (by omega)) dX6_copyFrom_104 ?_
      refine kX6_77 rfl (s_N_copy (ra := w + 8 + 2 * i) (rb := v + 8 + 2 * i) (hw.kN (by omega)) (hv.wf.kN (by omega)) (hw.rN (by omega)) (hv.wf.rN (by omega)) (hw.kR (by omega)) (hv.wf.kR (by omega)) (hw.lR (by omega)) (hv.wf.lR (by omega))) (by decide) (hw.kN (by omega)) rfl dX6_copyFrom_105 (fun r105 s105 q105 => ?_)
      obtain ⟨rfl, rfl⟩ := q105
      refine P_inN2 dX6_copyFrom_108 rfl rfl ?_
      refine P_goto dX6_copyFrom_111 (tgt := 84) rfl ?_
      have e9 : ∀ c, c ≠ w + 8 + 2 * i → (fun c k => if c = w + 8 + 2 * i ∧ k < 8 then A (v + 8 + 2 * i) k else A c k) c = A c := fun c hc => by
        funext k
        exact if_neg (fun hh => hc hh.1)
      refine ih (i + 1) (by omega) _ _ _ ⟨?_, hK.2.1.cg (fun j h6 _ => cpF_j (by omega)), fun k h6 h7 => (congrFun (e9 (w + 5) (by omega)) k).trans (hK.2.2 k h6 h7)⟩ (fun k hk => ?_)
      · exact hK.1.tr (fun a ha => ⟨fun j => cpF_c (by omega), e9 a (by omega), rfl, rfl⟩)
      · by_cases e : k = i
        · rw [e]
          obtain ⟨f0, f1, f2, f3⟩ := hv2.n i (by omega)
          exact ⟨(cpF_a (by decide)).trans f0, (cpF_a (by decide)).trans f1, (cpF_a (by decide)).trans f2, fun j hj => (if_pos ⟨rfl, hj⟩).trans (f3 j hj)⟩
        · exact (hN k (by omega)).cg (fun j _ _ => cpF_c (by omega)) (e9 _ (by omega))
  have hc601 := hv.c601
  refine P_aloadn (i := 0) rfl rfl dX6_copyFrom_0 ?_
  refine P_aloadn (i := 1) rfl rfl dX6_copyFrom_1 ?_
  refine gX6_46 rfl (by first | exact hw.kw | exact hv.wf.kw | exact hw.k1 | exact hw.k2 | exact hw.k3 | exact hw.k4 | exact hw.k5 | exact hw.k6 | exact hv.wf.k1 | exact hv.wf.k2 | exact hv.wf.k3 | exact hv.wf.k4 | exact hv.wf.k5 | exact hv.wf.k6) (rfl) dX6_copyFrom_2 ?_
  refine uX6_46 rfl (by first | exact hw.kw | exact hv.wf.kw | exact hw.k1 | exact hw.k2 | exact hw.k3 | exact hw.k4 | exact hw.k5 | exact hw.k6 | exact hv.wf.k1 | exact hv.wf.k2 | exact hv.wf.k3 | exact hv.wf.k4 | exact hv.wf.k5 | exact hv.wf.k6) dX6_copyFrom_5 ?_
  refine P_aloadn (i := 0) rfl rfl dX6_copyFrom_8 ?_
  refine P_aloadn (i := 1) rfl rfl dX6_copyFrom_9 ?_
  refine gX6_50 rfl (by first | exact hw.kw | exact hv.wf.kw | exact hw.k1 | exact hw.k2 | exact hw.k3 | exact hw.k4 | exact hw.k5 | exact hw.k6 | exact hv.wf.k1 | exact hv.wf.k2 | exact hv.wf.k3 | exact hv.wf.k4 | exact hv.wf.k5 | exact hv.wf.k6) ((p_up_n1 _ _ _ _ (by decide)).trans (rfl)) dX6_copyFrom_10 ?_
  refine uX6_50 rfl (by first | exact hw.kw | exact hv.wf.kw | exact hw.k1 | exact hw.k2 | exact hw.k3 | exact hw.k4 | exact hw.k5 | exact hw.k6 | exact hv.wf.k1 | exact hv.wf.k2 | exact hv.wf.k3 | exact hv.wf.k4 | exact hv.wf.k5 | exact hv.wf.k6) dX6_copyFrom_13 ?_
  refine P_aloadn (i := 0) rfl rfl dX6_copyFrom_16 ?_
  refine P_aloadn (i := 1) rfl rfl dX6_copyFrom_17 ?_
  refine gX6_53 rfl (by first | exact hw.kw | exact hv.wf.kw | exact hw.k1 | exact hw.k2 | exact hw.k3 | exact hw.k4 | exact hw.k5 | exact hw.k6 | exact hv.wf.k1 | exact hv.wf.k2 | exact hv.wf.k3 | exact hv.wf.k4 | exact hv.wf.k5 | exact hv.wf.k6) ((p_up_n1 _ _ _ _ (by decide)).trans ((p_up_n1 _ _ _ _ (by decide)).trans (rfl))) dX6_copyFrom_18 ?_
  refine uX6_53 rfl (by first | exact hw.kw | exact hv.wf.kw | exact hw.k1 | exact hw.k2 | exact hw.k3 | exact hw.k4 | exact hw.k5 | exact hw.k6 | exact hv.wf.k1 | exact hv.wf.k2 | exact hv.wf.k3 | exact hv.wf.k4 | exact hv.wf.k5 | exact hv.wf.k6) dX6_copyFrom_21 ?_
  refine P_aloadn (i := 0) rfl rfl dX6_copyFrom_24 ?_
  refine P_aloadn (i := 1) rfl rfl dX6_copyFrom_25 ?_
  refine gX6_56 rfl (by first | exact hw.kw | exact hv.wf.kw | exact hw.k1 | exact hw.k2 | exact hw.k3 | exact hw.k4 | exact hw.k5 | exact hw.k6 | exact hv.wf.k1 | exact hv.wf.k2 | exact hv.wf.k3 | exact hv.wf.k4 | exact hv.wf.k5 | exact hv.wf.k6) ((p_up_n1 _ _ _ _ (by decide)).trans ((p_up_n1 _ _ _ _ (by decide)).trans ((p_up_n1 _ _ _ _ (by decide)).trans (rfl)))) dX6_copyFrom_26 ?_
  refine uX6_56 rfl (by first | exact hw.kw | exact hv.wf.kw | exact hw.k1 | exact hw.k2 | exact hw.k3 | exact hw.k4 | exact hw.k5 | exact hw.k6 | exact hv.wf.k1 | exact hv.wf.k2 | exact hv.wf.k3 | exact hv.wf.k4 | exact hv.wf.k5 | exact hv.wf.k6) dX6_copyFrom_29 ?_
  refine P_aloadn (i := 0) rfl rfl dX6_copyFrom_32 ?_
  refine P_aloadn (i := 1) rfl rfl dX6_copyFrom_33 ?_
  refine gX6_59 rfl (by first | exact hw.kw | exact hv.wf.kw | exact hw.k1 | exact hw.k2 | exact hw.k3 | exact hw.k4 | exact hw.k5 | exact hw.k6 | exact hv.wf.k1 | exact hv.wf.k2 | exact hv.wf.k3 | exact hv.wf.k4 | exact hv.wf.k5 | exact hv.wf.k6) ((p_up_n1 _ _ _ _ (by decide)).trans ((p_up_n1 _ _ _ _ (by decide)).trans ((p_up_n1 _ _ _ _ (by decide)).trans ((p_up_n1 _ _ _ _ (by decide)).trans (rfl))))) dX6_copyFrom_34 ?_
  refine uX6_59 rfl (by first | exact hw.kw | exact hv.wf.kw | exact hw.k1 | exact hw.k2 | exact hw.k3 | exact hw.k4 | exact hw.k5 | exact hw.k6 | exact hv.wf.k1 | exact hv.wf.k2 | exact hv.wf.k3 | exact hv.wf.k4 | exact hv.wf.k5 | exact hv.wf.k6) dX6_copyFrom_37 ?_
  refine P_aloadn (i := 0) rfl rfl dX6_copyFrom_40 ?_
  refine P_aloadn (i := 1) rfl rfl dX6_copyFrom_41 ?_
  refine gX6_62 rfl (by first | exact hw.kw | exact hv.wf.kw | exact hw.k1 | exact hw.k2 | exact hw.k3 | exact hw.k4 | exact hw.k5 | exact hw.k6 | exact hv.wf.k1 | exact hv.wf.k2 | exact hv.wf.k3 | exact hv.wf.k4 | exact hv.wf.k5 | exact hv.wf.k6) ((p_up_n1 _ _ _ _ (by decide)).trans ((p_up_n1 _ _ _ _ (by decide)).trans ((p_up_n1 _ _ _ _ (by decide)).trans ((p_up_n1 _ _ _ _ (by decide)).trans ((p_up_n1 _ _ _ _ (by decide)).trans (rfl)))))) dX6_copyFrom_42 ?_
  refine uX6_62 rfl (by first | exact hw.kw | exact hv.wf.kw | exact hw.k1 | exact hw.k2 | exact hw.k3 | exact hw.k4 | exact hw.k5 | exact hw.k6 | exact hv.wf.k1 | exact hv.wf.k2 | exact hv.wf.k3 | exact hv.wf.k4 | exact hv.wf.k5 | exact hv.wf.k6) dX6_copyFrom_45 ?_
  refine P_aloadn (i := 0) rfl rfl dX6_copyFrom_48 ?_
  refine P_aloadn (i := 1) rfl rfl dX6_copyFrom_49 ?_
  refine gX6_65 rfl (by first | exact hw.kw | exact hv.wf.kw | exact hw.k1 | exact hw.k2 | exact hw.k3 | exact hw.k4 | exact hw.k5 | exact hw.k6 | exact hv.wf.k1 | exact hv.wf.k2 | exact hv.wf.k3 | exact hv.wf.k4 | exact hv.wf.k5 | exact hv.wf.k6) ((p_up_n1 _ _ _ _ (by decide)).trans ((p_up_n1 _ _ _ _ (by decide)).trans ((p_up_n1 _ _ _ _ (by decide)).trans ((p_up_n1 _ _ _ _ (by decide)).trans ((p_up_n1 _ _ _ _ (by decide)).trans ((p_up_n1 _ _ _ _ (by decide)).trans (rfl))))))) dX6_copyFrom_50 ?_
  refine uX6_65 rfl (by first | exact hw.kw | exact hv.wf.kw | exact hw.k1 | exact hw.k2 | exact hw.k3 | exact hw.k4 | exact hw.k5 | exact hw.k6 | exact hv.wf.k1 | exact hv.wf.k2 | exact hv.wf.k3 | exact hv.wf.k4 | exact hv.wf.k5 | exact hv.wf.k6) dX6_copyFrom_53 ?_
  refine P_aloadn (i := 0) rfl rfl dX6_copyFrom_56 ?_
  refine P_aloadn (i := 1) rfl rfl dX6_copyFrom_57 ?_
  refine gX6_68 rfl (by first | exact hw.kw | exact hv.wf.kw | exact hw.k1 | exact hw.k2 | exact hw.k3 | exact hw.k4 | exact hw.k5 | exact hw.k6 | exact hv.wf.k1 | exact hv.wf.k2 | exact hv.wf.k3 | exact hv.wf.k4 | exact hv.wf.k5 | exact hv.wf.k6) ((p_up_n1 _ _ _ _ (by decide)).trans ((p_up_n1 _ _ _ _ (by decide)).trans ((p_up_n1 _ _ _ _ (by decide)).trans ((p_up_n1 _ _ _ _ (by decide)).trans ((p_up_n1 _ _ _ _ (by decide)).trans ((p_up_n1 _ _ _ _ (by decide)).trans ((p_up_n1 _ _ _ _ (by decide)).trans (rfl)))))))) dX6_copyFrom_58 ?_
  refine uX6_68 rfl (by first | exact hw.kw | exact hv.wf.kw | exact hw.k1 | exact hw.k2 | exact hw.k3 | exact hw.k4 | exact hw.k5 | exact hw.k6 | exact hv.wf.k1 | exact hv.wf.k2 | exact hv.wf.k3 | exact hv.wf.k4 | exact hv.wf.k5 | exact hv.wf.k6) dX6_copyFrom_61 ?_
  refine P_aloadn (i := 1) rfl rfl dX6_copyFrom_64 ?_
  refine gX6_35 rfl (by first | exact hw.kw | exact hv.wf.kw | exact hw.k1 | exact hw.k2 | exact hw.k3 | exact hw.k4 | exact hw.k5 | exact hw.k6 | exact hv.wf.k1 | exact hv.wf.k2 | exact hv.wf.k3 | exact hv.wf.k4 | exact hv.wf.k5 | exact hv.wf.k6) hv.wf.r204 dX6_copyFrom_65 ?_
  refine P_iconst (v := 0) rfl dX6_copyFrom_68 ?_
  refine P_aloadn (i := 0) rfl rfl dX6_copyFrom_69 ?_
  refine gX6_35 rfl (by first | exact hw.kw | exact hv.wf.kw | exact hw.k1 | exact hw.k2 | exact hw.k3 | exact hw.k4 | exact hw.k5 | exact hw.k6 | exact hv.wf.k1 | exact hv.wf.k2 | exact hv.wf.k3 | exact hv.wf.k4 | exact hv.wf.k5 | exact hv.wf.k6) hw.r204 dX6_copyFrom_70 ?_
  refine P_iconst (v := 0) rfl dX6_copyFrom_73 ?_
  refine P_aloadn (i := 0) rfl rfl dX6_copyFrom_74 ?_
  refine gX6_35 rfl (by first | exact hw.kw | exact hv.wf.kw | exact hw.k1 | exact hw.k2 | exact hw.k3 | exact hw.k4 | exact hw.k5 | exact hw.k6 | exact hv.wf.k1 | exact hv.wf.k2 | exact hv.wf.k3 | exact hv.wf.k4 | exact hv.wf.k5 | exact hv.wf.k6) hw.r204 dX6_copyFrom_75 ?_
  refine P_lenN (t := 20) (by decide) hw.k5 (by rw [hw.l5]) dX6_copyFrom_78 ?_
  refine cIX6_71 (N := 8) rfl hv.wf.k5 hw.k5 rfl (by decide) (by rw [hv.wf.l5]; omega) (by rw [hw.l5]; omega) dX6_copyFrom_79 rfl ?_
  refine P_iconst (v := 0) rfl dX6_copyFrom_82 ?_
  refine P_is2 (Or.inl dX6_copyFrom_83) rfl rfl ?_
  have e9 : ∀ c, c ≠ w + 5 → (fun c k => if c = w + 5 ∧ k < 8 then AI (v + 5) k else AI c k) c = AI c := fun c hc => by
    funext k
    exact if_neg (fun hh => hc hh.1)
  obtain ⟨g0, g1, g2, g3, g4, g5, g6, g7⟩ := hv.g
  refine JN 8 0 (by omega) _ _ _ ⟨?_, ⟨(p_up_n1 _ _ _ _ (by decide)).trans ((p_up_n1 _ _ _ _ (by decide)).trans ((p_up_n1 _ _ _ _ (by decide)).trans ((p_up_n1 _ _ _ _ (by decide)).trans ((p_up_n1 _ _ _ _ (by decide)).trans ((p_up_n1 _ _ _ _ (by decide)).trans ((p_up_n1 _ _ _ _ (by decide)).trans ((p_up_eq _ _ _ _).trans g0))))))), (p_up_n1 _ _ _ _ (by decide)).trans ((p_up_n1 _ _ _ _ (by decide)).trans ((p_up_n1 _ _ _ _ (by decide)).trans ((p_up_n1 _ _ _ _ (by decide)).trans ((p_up_n1 _ _ _ _ (by decide)).trans ((p_up_n1 _ _ _ _ (by decide)).trans ((p_up_eq _ _ _ _).trans g1)))))), (p_up_n1 _ _ _ _ (by decide)).trans ((p_up_n1 _ _ _ _ (by decide)).trans ((p_up_n1 _ _ _ _ (by decide)).trans ((p_up_n1 _ _ _ _ (by decide)).trans ((p_up_n1 _ _ _ _ (by decide)).trans ((p_up_eq _ _ _ _).trans g2))))), (p_up_n1 _ _ _ _ (by decide)).trans ((p_up_n1 _ _ _ _ (by decide)).trans ((p_up_n1 _ _ _ _ (by decide)).trans ((p_up_n1 _ _ _ _ (by decide)).trans ((p_up_eq _ _ _ _).trans g3)))), (p_up_n1 _ _ _ _ (by decide)).trans ((p_up_n1 _ _ _ _ (by decide)).trans ((p_up_n1 _ _ _ _ (by decide)).trans ((p_up_eq _ _ _ _).trans g4))), (p_up_n1 _ _ _ _ (by decide)).trans ((p_up_n1 _ _ _ _ (by decide)).trans ((p_up_eq _ _ _ _).trans g5)), (p_up_n1 _ _ _ _ (by decide)).trans ((p_up_eq _ _ _ _).trans g6), (p_up_eq _ _ _ _).trans g7⟩, fun k h6 h7 => (if_pos ⟨rfl, h7⟩).trans (hv.d k h6 h7)⟩ (fun j hj => absurd hj (Nat.not_lt_zero j))
  exact fun a ha => ⟨fun j => by simp only [p_up_at]; simp (disch := omega) only [show ¬ a = w by omega, and_false, if_false], e9 a (by omega), rfl, rfl⟩
end Cls3
