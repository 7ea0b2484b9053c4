/-! ===== the reference is made ===== -/
def m_fld (i : Nat) : Nat := ([256, 257, 258, 259, 262, 263, 264, 265, 266, 267, 269, 271, 272, 273, 274, 279, 280] : List Nat).getD i 0
def m_len (i : Nat) : Nat := ([3506, 160000, 21036, 960000, 7012, 320000, 2, 3506, 160000, 80, 8, 1000, 1000, 1000, 1000, 29, 116] : List Nat).getD i 0
def m_kd (i : Nat) : Nat := if i = 6 then 22 else 20
theorem m_fld_lt : ∀ n, n < 17 → ∀ i, i < n → m_fld i ≠ m_fld n := by decide
def MS (n : Nat) (σ : PS) (m : Nat) : Prop := σ.1.2.1 m = 8 ∧ (∀ f, σ.2.1 f m = 0) ∧ ∀ i, i < n → σ.1.2.2.2 (m_fld i) m = some (m + 1 + i) ∧ σ.1.2.1 (m + 1 + i) = m_kd i ∧ σ.1.2.2.1 (m + 1 + i) = m_len i ∧ ∀ k, σ.2.2.1 (m + 1 + i) k = 0
theorem MS.nw {n m q kd ln : Nat} {σ : PS} (h : MS n σ m) (hq : m + 1 + n ≤ q) : MS n (p_nw q kd ln σ) m := by
  have e0 : cc (p_nw q kd ln σ) m = cc σ m := cc.nw (by omega)
  refine ⟨(cc.ck e0).trans h.1, fun f => (cc.fi e0 f).trans (h.2.1 f), fun i hi => ?_⟩
  have e1 : cc (p_nw q kd ln σ) (m + 1 + i) = cc σ (m + 1 + i) := cc.nw (by omega)
  obtain ⟨h1, h2, h3, h4⟩ := h.2.2 i hi
  exact ⟨(cc.fr e0 _).trans h1, (cc.ck e1).trans h2, (cc.cl e1).trans h3, fun k => (congrFun (cc.ai e1) k).trans (h4 k)⟩
theorem MS.up {n m n0 : Nat} {kd ln : Nat → Nat} {FR : Nat → Nat → Option Nat} {FI AI : Nat → Nat → Int32} {AL : Nat → Nat → Int64} {AR : Nat → Nat → Option Nat} (h : MS n ((n0, kd, ln, FR), FI, AI, AL, AR) m) (hn : n < 17) (h1 : kd (m + 1 + n) = m_kd n) (h2 : ln (m + 1 + n) = m_len n) (h3 : ∀ k, AI (m + 1 + n) k = 0) : MS (n + 1) ((n0, kd, ln, p_up FR (m_fld n) m (some (m + 1 + n))), FI, AI, AL, AR) m := by
  refine ⟨h.1, h.2.1, fun i hi => ?_⟩
  by_cases e : i = n
  · subst e
    refine ⟨?_, h1, h2, h3⟩
    dsimp only
    rw [p_up_eq]
  · obtain ⟨k1, k2, k3, k4⟩ := h.2.2 i (by omega)
    refine ⟨?_, k2, k3, k4⟩
    dsimp only
    rw [p_up_n1 _ _ _ _ (m_fld_lt n hn i (by omega))]
    exact k1
theorem MS.wm {σ : PS} {m : Nat} (h : MS 17 σ m) : WM σ.1 m :=
  ⟨h.1, (h.2.2 0 (by decide)).1, (h.2.2 0 (by decide)).2.1, (h.2.2 0 (by decide)).2.2.1, (h.2.2 1 (by decide)).1, (h.2.2 1 (by decide)).2.1, (h.2.2 1 (by decide)).2.2.1, (h.2.2 2 (by decide)).1, (h.2.2 2 (by decide)).2.1, (h.2.2 2 (by decide)).2.2.1, (h.2.2 3 (by decide)).1, (h.2.2 3 (by decide)).2.1, (h.2.2 3 (by decide)).2.2.1, (h.2.2 4 (by decide)).1, (h.2.2 4 (by decide)).2.1, (h.2.2 4 (by decide)).2.2.1, (h.2.2 5 (by decide)).1, (h.2.2 5 (by decide)).2.1, (h.2.2 5 (by decide)).2.2.1, (h.2.2 6 (by decide)).1, (h.2.2 6 (by decide)).2.1, (h.2.2 6 (by decide)).2.2.1, (h.2.2 7 (by decide)).1, (h.2.2 7 (by decide)).2.1, (h.2.2 7 (by decide)).2.2.1, (h.2.2 8 (by decide)).1, (h.2.2 8 (by decide)).2.1, (h.2.2 8 (by decide)).2.2.1, (h.2.2 9 (by decide)).1, (h.2.2 9 (by decide)).2.1, (h.2.2 9 (by decide)).2.2.1, (h.2.2 10 (by decide)).1, (h.2.2 10 (by decide)).2.1, (h.2.2 10 (by decide)).2.2.1, (h.2.2 11 (by decide)).1, (h.2.2 11 (by decide)).2.1, (h.2.2 11 (by decide)).2.2.1, (h.2.2 12 (by decide)).1, (h.2.2 12 (by decide)).2.1, (h.2.2 12 (by decide)).2.2.1, (h.2.2 13 (by decide)).1, (h.2.2 13 (by decide)).2.1, (h.2.2 13 (by decide)).2.2.1, (h.2.2 14 (by decide)).1, (h.2.2 14 (by decide)).2.1, (h.2.2 14 (by decide)).2.2.1, (h.2.2 15 (by decide)).1, (h.2.2 15 (by decide)).2.1, (h.2.2 15 (by decide)).2.2.1, (h.2.2 16 (by decide)).1, (h.2.2 16 (by decide)).2.1, (h.2.2 16 (by decide)).2.2.1⟩
theorem n_at (i c : Nat) : (14 : Int32) + 11 * Int32.ofNat i + Int32.ofNat c = Int32.ofNat (14 + 11 * i + c) := by
  rw [show (11 : Int32) * Int32.ofNat i = Int32.ofNat (11 * i) from n_mul 11 i, show (14 : Int32) + Int32.ofNat (11 * i) = Int32.ofNat (14 + 11 * i) from n_add 14 (11 * i), n_add]
/-- the array at while it is filled: i nodes are done, and n numbers of the next -/
def AT (f : Nat → Int32) (i n : Nat) : Prop := (∀ j, j < i → ∀ k, k < 11 → f (14 + 11 * j + k) = xN x0 j k) ∧ (∀ k, k < n → f (14 + 11 * i + k) = xN x0 i k) ∧ ∀ d, (d < 14 ∨ 14 + 11 * i + n ≤ d) → f d = 0
theorem AT.st {A : Nat → Nat → Int32} {a i n : Nat} {v : Int32} (h : AT (A a) i n) (hv : xN x0 i n = v) : AT (p_up A a (14 + 11 * i + n) v a) i (n + 1) := by
  refine ⟨fun j hj k hk => (p_up_n2 _ _ _ _ (by omega)).trans (h.1 j hj k hk), fun k hk => ?_, fun d hd => (p_up_n2 _ _ _ _ (by omega)).trans (h.2.2 d (by omega))⟩
  by_cases e : k = n
  · subst e; rw [hv]; exact p_up_eq _ _ _ _
  · exact (p_up_n2 _ _ _ _ (by omega)).trans (h.2.1 k (by omega))
theorem AT.nx {f : Nat → Int32} {i : Nat} (h : AT f i 11) : AT f (i + 1) 0 := by
  refine ⟨fun j hj k hk => ?_, fun k hk => absurd hk (Nat.not_lt_zero _), fun d hd => h.2.2 d (by omega)⟩
  by_cases e : j = i
  · subst e; exact h.2.1 k hk
  · exact h.1 j (by omega) k hk
theorem AT.z {f : Nat → Int32} {i : Nat} (h : AT f i 0) : AT f i 1 := by
  refine ⟨h.1, fun k hk => ?_, fun d hd => h.2.2 d (by omega)⟩
  rw [h.2.2 _ (by omega)]
  rw [show k = 0 by omega]
  rfl
theorem AT.rf {f t : Nat → Int32} (h : AT f 8 0) : RF f t x0 :=
  ⟨⟨fun k hk _ _ _ => h.2.2 k (by omega), h.2.2 1 (by omega), h.2.2 2 (by omega), h.2.2 3 (by omega)⟩, fun i k hi hk => h.1 i hi k hk, fun i k hi _ => absurd hi (Nat.not_lt_zero _), fun i k hi _ => absurd hi (Nat.not_lt_zero _), fun i k hi _ => absurd hi (Nat.not_lt_zero _), fun p i hp _ => absurd hp (Nat.not_lt_zero _), Nat.zero_le _, Nat.zero_le _, Nat.zero_le _⟩
theorem x0_6 {i k : Nat} : xN x0 i (3 + k) = -6 := by
  show (if 3 + k = 1 then (60 : Int32) else if 3 + k = 2 then 8000 else if 3 ≤ 3 + k then -6 else 0) = -6
  rw [if_neg (by omega), if_neg (by omega), if_pos (by omega)]
section New5
variable {g : PG} {σ0 : PS} {L : PL} {FI AI : Nat → Nat → Int32} {AL : Nat → Nat → Int64} {AR : Nat → Nat → Option Nat} {m i n : Nat}
theorem c_X8_3 (hM : WM L m) {J2 : Option PV} : ∀ (n i : Nat) (A : Nat → Nat → Int32), i + n = 160000 → (∀ a, a ≠ m + 1 → a ≠ m + 2 → A a = AI a) → AT (A (m + 1)) 8 0 → P g 0 iX8_init 228 [some (vr m), some (vi (Int32.ofNat i)), J2] [] (L, FI, A, AL, AR) (0, 0) (fun r σ => r = none ∧ ∃ A2, σ = (L, FI, A2, AL, AR) ∧ (∀ a, a ≠ m + 1 → a ≠ m + 2 → A2 a = AI a) ∧ AT (A2 (m + 1)) 8 0) := by
  intro n
  induction n with
  | zero =>
    intro i A hi hA hT
    refine P_iloadn (i := 1) rfl rfl dX8_init_228 ?_
    refine lX8_13 rfl dX8_init_229 ?_
    refine P_icmpge dX8_init_231 (tgt := 248) rfl (fun h231 => ?_) (fun h231 => absurd ((n_le (a := 160000) (b := i) (by omega) (by omega)).mpr (by omega)) h231)
    refine P_return rfl dX8_init_248 ?_
    exact ⟨rfl, A, rfl, hA, hT⟩
  | succ n ih =>
    intro i A hi hA hT
    refine P_iloadn (i := 1) rfl rfl dX8_init_228 ?_
    refine lX8_13 rfl dX8_init_229 ?_
    refine P_icmpge dX8_init_231 (tgt := 248) rfl (fun h231 => absurd h231 (fun h8 => by have h7 := (n_le (a := 160000) (b := i) (by omega) (by omega)).mp h8; omega)) (fun h231 => ?_)
    refine P_aloadn (i := 0) rfl rfl dX8_init_234 ?_
    refine gX8_14 rfl hM.k0 hM.r257 dX8_init_235 ?_
    refine P_iloadn (i := 1) rfl rfl dX8_init_238 ?_
    refine P_bipush (v := (-6)) rfl dX8_init_239 ?_
    refine P_isN (j := i) hM.k2 rfl (by omega) (by rw [hM.l2]; omega) dX8_init_241 ?_
    refine P_inN1 dX8_init_242 rfl rfl ?_
    refine P_goto dX8_init_245 (tgt := 228) rfl ?_
    exact ih (i + 1) (p_up A (m + 2) i (-6)) (by omega) (fun a h1 h2 => (p_up_oth h2).trans (hA a h1 h2)) (by rw [p_up_oth (show m + 1 ≠ m + 2 by omega)]; exact hT)
theorem c_X8_2 (hM : WM L m) (hi : i < 8) {k : Nat × Nat} {Q : Option PV → PS → Prop} (kk : ∀ A : Nat → Nat → Int32, (∀ a, a ≠ m + 1 → a ≠ m + 2 → A a = AI a) → AT (A (m + 1)) i 11 → P g 0 iX8_init 220 [some (vr m), some (vi (Int32.ofNat i)), some (vi (Int32.ofNat 8))] [] (L, FI, A, AL, AR) k Q) : ∀ (n j : Nat) (A : Nat → Nat → Int32), j + n = 8 → (∀ a, a ≠ m + 1 → a ≠ m + 2 → A a = AI a) → AT (A (m + 1)) i (3 + j) → P g 0 iX8_init 190 [some (vr m), some (vi (Int32.ofNat i)), some (vi (Int32.ofNat j))] [] (L, FI, A, AL, AR) k Q := by
  intro n
  induction n with
  | zero =>
    intro j A hj hA hT
    have hj8 : j = 8 := by omega
    subst hj8
    refine P_iloadn (i := 2) rfl rfl dX8_init_190 ?_
    refine P_bipush (v := 8) rfl dX8_init_191 ?_
    refine P_icmpge dX8_init_193 (tgt := 220) rfl (fun h193 => ?_) (fun h193 => absurd ((n_le (a := 8) (b := 8) (by omega) (by omega)).mpr (by omega)) h193)
    exact kk A hA (by exact hT)
  | succ n ih =>
    intro j A hj hA hT
    refine P_iloadn (i := 2) rfl rfl dX8_init_190 ?_
    refine P_bipush (v := 8) rfl dX8_init_191 ?_
    refine P_icmpge dX8_init_193 (tgt := 220) rfl (fun h193 => absurd h193 (fun h8 => by have h7 := (n_le (a := 8) (b := j) (by omega) (by omega)).mp h8; omega)) (fun h193 => ?_)
    refine P_aloadn (i := 0) rfl rfl dX8_init_196 ?_
    refine gX8_7 rfl hM.k0 hM.r256 dX8_init_197 ?_
    refine P_bipush (v := 14) rfl dX8_init_200 ?_
    refine P_bipush (v := 11) rfl dX8_init_202 ?_
    refine P_iloadn (i := 1) rfl rfl dX8_init_204 ?_
    refine P_imul dX8_init_205 ?_
    refine P_iadd dX8_init_206 ?_
    refine P_iconst (v := 3) rfl dX8_init_207 ?_
    refine P_iadd dX8_init_208 ?_
    refine P_iloadn (i := 2) rfl rfl dX8_init_209 ?_
    refine P_iadd dX8_init_210 ?_
    rw [show (14 : Int32) + 11 * Int32.ofNat i + 3 + Int32.ofNat j = Int32.ofNat (14 + 11 * i + (3 + j)) from by rw [show (14 : Int32) + 11 * Int32.ofNat i + 3 = Int32.ofNat (14 + 11 * i + 3) from n_at i 3, n_add, Nat.add_assoc]]
    refine P_bipush (v := (-6)) rfl dX8_init_211 ?_
    refine P_isN (j := 14 + 11 * i + (3 + j)) hM.k1 rfl (by omega) (by rw [hM.l1]; omega) dX8_init_213 ?_
    refine P_inN2 dX8_init_214 rfl rfl ?_
    refine P_goto dX8_init_217 (tgt := 190) rfl ?_
    exact ih (j + 1) (p_up A (m + 1) (14 + 11 * i + (3 + j)) (-6)) (by omega) (fun a h1 h2 => (p_up_oth h1).trans (hA a h1 h2)) (hT.st x0_6)
theorem c_X8_1 (hM : WM L m) : ∀ (n i : Nat) (J2 : Option PV) (A : Nat → Nat → Int32), i + n = 8 → (∀ a, a ≠ m + 1 → a ≠ m + 2 → A a = AI a) → AT (A (m + 1)) i 0 → P g 0 iX8_init 149 [some (vr m), some (vi (Int32.ofNat i)), J2] [] (L, FI, A, AL, AR) (0, 0) (fun r σ => r = none ∧ ∃ A2, σ = (L, FI, A2, AL, AR) ∧ (∀ a, a ≠ m + 1 → a ≠ m + 2 → A2 a = AI a) ∧ AT (A2 (m + 1)) 8 0) := by
  intro n
  induction n with
  | zero =>
    intro i J2 A hi hA hT
    refine P_iloadn (i := 1) rfl rfl dX8_init_149 ?_
    refine P_bipush (v := 8) rfl dX8_init_150 ?_
    refine P_icmpge dX8_init_152 (tgt := 226) rfl (fun h152 => ?_) (fun h152 => absurd ((n_le (a := 8) (b := i) (by omega) (by omega)).mpr (by omega)) h152)
    refine P_iconst (v := 0) rfl dX8_init_226 ?_
    refine P_is1 (Or.inl dX8_init_227) rfl rfl ?_
    exact c_X8_3 hM 160000 0 A rfl hA (by rw [show i = 8 by omega] at hT; exact hT)
  | succ n ih =>
    intro i J2 A hi hA hT
    refine P_iloadn (i := 1) rfl rfl dX8_init_149 ?_
    refine P_bipush (v := 8) rfl dX8_init_150 ?_
    refine P_icmpge dX8_init_152 (tgt := 226) rfl (fun h152 => absurd h152 (fun h8 => by have h7 := (n_le (a := 8) (b := i) (by omega) (by omega)).mp h8; omega)) (fun h152 => ?_)
    refine P_aloadn (i := 0) rfl rfl dX8_init_155 ?_
    refine gX8_7 rfl hM.k0 hM.r256 dX8_init_156 ?_
    refine P_bipush (v := 14) rfl dX8_init_159 ?_
    refine P_bipush (v := 11) rfl dX8_init_161 ?_
    refine P_iloadn (i := 1) rfl rfl dX8_init_163 ?_
    refine P_imul dX8_init_164 ?_
    refine P_iadd dX8_init_165 ?_
    refine P_iconst (v := 1) rfl dX8_init_166 ?_
    refine P_iadd dX8_init_167 ?_
    refine P_bipush (v := 60) rfl dX8_init_168 ?_
    refine P_isN (j := 14 + 11 * i + 1) hM.k1 (n_at i 1) (by omega) (by rw [hM.l1]; omega) dX8_init_170 ?_
    refine P_aloadn (i := 0) rfl rfl dX8_init_171 ?_
    refine gX8_7 rfl hM.k0 hM.r256 dX8_init_172 ?_
    refine P_bipush (v := 14) rfl dX8_init_175 ?_
    refine P_bipush (v := 11) rfl dX8_init_177 ?_
    refine P_iloadn (i := 1) rfl rfl dX8_init_179 ?_
    refine P_imul dX8_init_180 ?_
    refine P_iadd dX8_init_181 ?_
    refine P_iconst (v := 2) rfl dX8_init_182 ?_
    refine P_iadd dX8_init_183 ?_
    refine P_sipush (v := 8000) rfl dX8_init_184 ?_
    refine P_isN (j := 14 + 11 * i + 2) hM.k1 (n_at i 2) (by omega) (by rw [hM.l1]; omega) dX8_init_187 ?_
    refine P_iconst (v := 0) rfl dX8_init_188 ?_
    refine P_is2 (Or.inl dX8_init_189) rfl rfl ?_
    refine c_X8_2 hM (by omega) (fun A2 hA2 hT2 => ?_) 8 0 _ rfl (fun a h1 h2 => (p_up_oth h1).trans ((p_up_oth h1).trans (hA a h1 h2))) ((hT.z.st (v := 60) rfl).st (v := 8000) rfl)
    refine P_inN1 dX8_init_220 rfl rfl ?_
    refine P_goto dX8_init_223 (tgt := 149) rfl ?_
    exact ih (i + 1) (some (vi (Int32.ofNat 8))) A2 (by omega) hA2 hT2.nx
theorem g_X8_init (hk : L.2.1 m = 8) (hz : ∀ f, FI f m = 0) (hq : g.2.2.2 + L.1 = m + 1) : Sp g 0 iX8_init [vr m] (L, FI, AI, AL, AR) (17, 1639295) (fun r σ => r = none ∧ σ.1.1 = (L, FI, AI, AL, AR).1.1 + 17 ∧ p_fr m (L, FI, AI, AL, AR) σ ∧ WM σ.1 m ∧ RZ σ.2.1 σ.2.2.1 m z0) := by
  refine Sp.of (ls := [some (vr m), none, none]) (by decide +kernel) rfl rfl ?_
  refine P_aloadn (i := 0) rfl rfl dX8_init_0 ?_
  refine oX8_1 rfl dX8_init_1 rfl ?_
  obtain ⟨N0, D0, E0, G0⟩ := L
  obtain ⟨σb, hσb⟩ : ∃ σb : PS, σb = ((N0, D0, E0, G0), FI, AI, AL, AR) := ⟨_, rfl⟩
  have o0 : MS 0 ((N0, D0, E0, G0), FI, AI, AL, AR) m := ⟨hk, hz, fun i hi => absurd hi (Nat.not_lt_zero _)⟩
  have r0 : p_fr m σb ((N0, D0, E0, G0), FI, AI, AL, AR) := by rw [hσb]; exact p_fr.rf
  have hq0 : g.2.2.2 + N0 = m + 1 := hq
  refine P.mono (Q := fun r σ => r = none ∧ σ.1.1 = σb.1.1 + 17 ∧ p_fr m σb σ ∧ WM σ.1 m ∧ RZ σ.2.1 σ.2.2.1 m z0) (fun r σ hq9 => by rw [hσb] at hq9; exact hq9) ?_
  refine P_aloadn (i := 0) rfl rfl dX8_init_4 ?_
  refine P_sipush (v := 3506) rfl dX8_init_5 ?_
  refine P_nw0 (q := m + 1 + 0) (N := 3506) (k2 := (16, 1635789)) rfl (by decide) (by show g.2.2.2 + N0 = m + 1 + 0; omega) rfl rfl dX8_init_8 ?_
  have nw0 := o0.nw (kd := 20) (ln := 3506) (Nat.le_refl (m + 1 + 0))
  generalize hσ0 : p_nw (m + 1 + 0) 20 3506 (((N0, D0, E0, G0), FI, AI, AL, AR) : PS) = σ0 at nw0
  obtain ⟨⟨M0, U0, V0, W0⟩, X0, Y0, S0, T0⟩ := σ0
  have z10 : U0 (m + 1 + 0) = 20 := (congrArg (fun z : PS => z.1.2.1 (m + 1 + 0)) hσ0).symm.trans (p_nw_k _ _ _ _)
  have z20 : V0 (m + 1 + 0) = 3506 := (congrArg (fun z : PS => z.1.2.2.1 (m + 1 + 0)) hσ0).symm.trans (p_nw_l _ _ _ _)
  have z30 : M0 = N0 + 1 := (congrArg (fun z : PS => z.1.1) hσ0).symm
  have z40 : p_fr (m + 1 + 0) ((N0, D0, E0, G0), FI, AI, AL, AR) ((M0, U0, V0, W0), X0, Y0, S0, T0) := by rw [← hσ0]; exact p_fr.nw (Nat.le_refl _)
  have z60 : ∀ k, Y0 (m + 1 + 0) k = 0 := fun k => (congrArg (fun z : PS => z.2.2.1 (m + 1 + 0) k) hσ0).symm.trans (p_nw_a _ _ _ _ k)
  refine uX8_7 rfl rfl nw0.1 dX8_init_10 ?_
  have up0 := nw0.up (by decide) z10 z20 z60
  generalize hτ1 : (((M0, U0, V0, p_up W0 256 m (some (m + 1 + 0))), X0, Y0, S0, T0) : PS) = τ1
  have o1 : MS 1 τ1 m := by rw [← hτ1]; exact up0
  have m1 : τ1.1.1 = M0 := (congrArg (fun z : PS => z.1.1) hτ1).symm
  have r1 : p_fr m σb τ1 := by rw [← hτ1]; exact (r0.tr (z40.le (by omega))).tr (p_fr.uR (Nat.le_refl m))
  clear hτ1 up0
  obtain ⟨⟨N1, D1, E1, G1⟩, F1, A1, B1, R1⟩ := τ1
  have n1 : N1 = M0 := m1
  refine P_aloadn (i := 0) rfl rfl dX8_init_13 ?_
  refine lX8_13 rfl dX8_init_14 ?_
  refine P_nw0 (q := m + 1 + 1) (N := 160000) (k2 := (15, 1475789)) rfl (by decide) (by show g.2.2.2 + N1 = m + 1 + 1; omega) rfl rfl dX8_init_16 ?_
  have nw1 := o1.nw (kd := 20) (ln := 160000) (Nat.le_refl (m + 1 + 1))
  generalize hσ1 : p_nw (m + 1 + 1) 20 160000 (((N1, D1, E1, G1), F1, A1, B1, R1) : PS) = σ1 at nw1
  obtain ⟨⟨M1, U1, V1, W1⟩, X1, Y1, S1, T1⟩ := σ1
  have z11 : U1 (m + 1 + 1) = 20 := (congrArg (fun z : PS => z.1.2.1 (m + 1 + 1)) hσ1).symm.trans (p_nw_k _ _ _ _)
  have z21 : V1 (m + 1 + 1) = 160000 := (congrArg (fun z : PS => z.1.2.2.1 (m + 1 + 1)) hσ1).symm.trans (p_nw_l _ _ _ _)
  have z31 : M1 = N1 + 1 := (congrArg (fun z : PS => z.1.1) hσ1).symm
  have z41 : p_fr (m + 1 + 1) ((N1, D1, E1, G1), F1, A1, B1, R1) ((M1, U1, V1, W1), X1, Y1, S1, T1) := by rw [← hσ1]; exact p_fr.nw (Nat.le_refl _)
  have z61 : ∀ k, Y1 (m + 1 + 1) k = 0 := fun k => (congrArg (fun z : PS => z.2.2.1 (m + 1 + 1) k) hσ1).symm.trans (p_nw_a _ _ _ _ k)
  refine uX8_14 rfl rfl nw1.1 dX8_init_18 ?_
  have up1 := nw1.up (by decide) z11 z21 z61
  generalize hτ2 : (((M1, U1, V1, p_up W1 257 m (some (m + 1 + 1))), X1, Y1, S1, T1) : PS) = τ2
  have o2 : MS 2 τ2 m := by rw [← hτ2]; exact up1
  have m2 : τ2.1.1 = M1 := (congrArg (fun z : PS => z.1.1) hτ2).symm
  have r2 : p_fr m σb τ2 := by rw [← hτ2]; exact (r1.tr (z41.le (by omega))).tr (p_fr.uR (Nat.le_refl m))
  clear hτ2 up1
  obtain ⟨⟨N2, D2, E2, G2⟩, F2, A2, B2, R2⟩ := τ2
  have n2 : N2 = M1 := m2
  refine P_aloadn (i := 0) rfl rfl dX8_init_21 ?_
  refine P_sipush (v := 21036) rfl dX8_init_22 ?_
  refine P_nw0 (q := m + 1 + 2) (N := 21036) (k2 := (14, 1454753)) rfl (by decide) (by show g.2.2.2 + N2 = m + 1 + 2; omega) rfl rfl dX8_init_25 ?_
  have nw2 := o2.nw (kd := 20) (ln := 21036) (Nat.le_refl (m + 1 + 2))
  generalize hσ2 : p_nw (m + 1 + 2) 20 21036 (((N2, D2, E2, G2), F2, A2, B2, R2) : PS) = σ2 at nw2
  obtain ⟨⟨M2, U2, V2, W2⟩, X2, Y2, S2, T2⟩ := σ2
  have z12 : U2 (m + 1 + 2) = 20 := (congrArg (fun z : PS => z.1.2.1 (m + 1 + 2)) hσ2).symm.trans (p_nw_k _ _ _ _)
  have z22 : V2 (m + 1 + 2) = 21036 := (congrArg (fun z : PS => z.1.2.2.1 (m + 1 + 2)) hσ2).symm.trans (p_nw_l _ _ _ _)
  have z32 : M2 = N2 + 1 := (congrArg (fun z : PS => z.1.1) hσ2).symm
  have z42 : p_fr (m + 1 + 2) ((N2, D2, E2, G2), F2, A2, B2, R2) ((M2, U2, V2, W2), X2, Y2, S2, T2) := by rw [← hσ2]; exact p_fr.nw (Nat.le_refl _)
  have z62 : ∀ k, Y2 (m + 1 + 2) k = 0 := fun k => (congrArg (fun z : PS => z.2.2.1 (m + 1 + 2) k) hσ2).symm.trans (p_nw_a _ _ _ _ k)
  refine uX8_17 rfl rfl nw2.1 dX8_init_27 ?_
  have up2 := nw2.up (by decide) z12 z22 z62
  generalize hτ3 : (((M2, U2, V2, p_up W2 258 m (some (m + 1 + 2))), X2, Y2, S2, T2) : PS) = τ3
  have o3 : MS 3 τ3 m := by rw [← hτ3]; exact up2
  have m3 : τ3.1.1 = M2 := (congrArg (fun z : PS => z.1.1) hτ3).symm
  have r3 : p_fr m σb τ3 := by rw [← hτ3]; exact (r2.tr (z42.le (by omega))).tr (p_fr.uR (Nat.le_refl m))
  clear hτ3 up2
  obtain ⟨⟨N3, D3, E3, G3⟩, F3, A3, B3, R3⟩ := τ3
  have n3 : N3 = M2 := m3
  refine P_aloadn (i := 0) rfl rfl dX8_init_30 ?_
  refine lX8_20 rfl dX8_init_31 ?_
  refine P_nw0 (q := m + 1 + 3) (N := 960000) (k2 := (13, 494753)) rfl (by decide) (by show g.2.2.2 + N3 = m + 1 + 3; omega) rfl rfl dX8_init_33 ?_
  have nw3 := o3.nw (kd := 20) (ln := 960000) (Nat.le_refl (m + 1 + 3))
  generalize hσ3 : p_nw (m + 1 + 3) 20 960000 (((N3, D3, E3, G3), F3, A3, B3, R3) : PS) = σ3 at nw3
  obtain ⟨⟨M3, U3, V3, W3⟩, X3, Y3, S3, T3⟩ := σ3
  have z13 : U3 (m + 1 + 3) = 20 := (congrArg (fun z : PS => z.1.2.1 (m + 1 + 3)) hσ3).symm.trans (p_nw_k _ _ _ _)
  have z23 : V3 (m + 1 + 3) = 960000 := (congrArg (fun z : PS => z.1.2.2.1 (m + 1 + 3)) hσ3).symm.trans (p_nw_l _ _ _ _)
  have z33 : M3 = N3 + 1 := (congrArg (fun z : PS => z.1.1) hσ3).symm
  have z43 : p_fr (m + 1 + 3) ((N3, D3, E3, G3), F3, A3, B3, R3) ((M3, U3, V3, W3), X3, Y3, S3, T3) := by rw [← hσ3]; exact p_fr.nw (Nat.le_refl _)
  have z63 : ∀ k, Y3 (m + 1 + 3) k = 0 := fun k => (congrArg (fun z : PS => z.2.2.1 (m + 1 + 3) k) hσ3).symm.trans (p_nw_a _ _ _ _ k)
  refine uX8_21 rfl rfl nw3.1 dX8_init_35 ?_
  have up3 := nw3.up (by decide) z13 z23 z63
  generalize hτ4 : (((M3, U3, V3, p_up W3 259 m (some (m + 1 + 3))), X3, Y3, S3, T3) : PS) = τ4
  have o4 : MS 4 τ4 m := by rw [← hτ4]; exact up3
  have m4 : τ4.1.1 = M3 := (congrArg (fun z : PS => z.1.1) hτ4).symm
  have r4 : p_fr m σb τ4 := by rw [← hτ4]; exact (r3.tr (z43.le (by omega))).tr (p_fr.uR (Nat.le_refl m))
  clear hτ4 up3
  obtain ⟨⟨N4, D4, E4, G4⟩, F4, A4, B4, R4⟩ := τ4
  have n4 : N4 = M3 := m4
  refine P_aloadn (i := 0) rfl rfl dX8_init_38 ?_
  refine P_sipush (v := 7012) rfl dX8_init_39 ?_
  refine P_nw0 (q := m + 1 + 4) (N := 7012) (k2 := (12, 487741)) rfl (by decide) (by show g.2.2.2 + N4 = m + 1 + 4; omega) rfl rfl dX8_init_42 ?_
  have nw4 := o4.nw (kd := 20) (ln := 7012) (Nat.le_refl (m + 1 + 4))
  generalize hσ4 : p_nw (m + 1 + 4) 20 7012 (((N4, D4, E4, G4), F4, A4, B4, R4) : PS) = σ4 at nw4
  obtain ⟨⟨M4, U4, V4, W4⟩, X4, Y4, S4, T4⟩ := σ4
  have z14 : U4 (m + 1 + 4) = 20 := (congrArg (fun z : PS => z.1.2.1 (m + 1 + 4)) hσ4).symm.trans (p_nw_k _ _ _ _)
  have z24 : V4 (m + 1 + 4) = 7012 := (congrArg (fun z : PS => z.1.2.2.1 (m + 1 + 4)) hσ4).symm.trans (p_nw_l _ _ _ _)
  have z34 : M4 = N4 + 1 := (congrArg (fun z : PS => z.1.1) hσ4).symm
  have z44 : p_fr (m + 1 + 4) ((N4, D4, E4, G4), F4, A4, B4, R4) ((M4, U4, V4, W4), X4, Y4, S4, T4) := by rw [← hσ4]; exact p_fr.nw (Nat.le_refl _)
  have z64 : ∀ k, Y4 (m + 1 + 4) k = 0 := fun k => (congrArg (fun z : PS => z.2.2.1 (m + 1 + 4) k) hσ4).symm.trans (p_nw_a _ _ _ _ k)
  refine uX8_24 rfl rfl nw4.1 dX8_init_44 ?_
  have up4 := nw4.up (by decide) z14 z24 z64
  generalize hτ5 : (((M4, U4, V4, p_up W4 262 m (some (m + 1 + 4))), X4, Y4, S4, T4) : PS) = τ5
  have o5 : MS 5 τ5 m := by rw [← hτ5]; exact up4
  have m5 : τ5.1.1 = M4 := (congrArg (fun z : PS => z.1.1) hτ5).symm
  have r5 : p_fr m σb τ5 := by rw [← hτ5]; exact (r4.tr (z44.le (by omega))).tr (p_fr.uR (Nat.le_refl m))
  clear hτ5 up4
  obtain ⟨⟨N5, D5, E5, G5⟩, F5, A5, B5, R5⟩ := τ5
  have n5 : N5 = M4 := m5
  refine P_aloadn (i := 0) rfl rfl dX8_init_47 ?_
  refine lX8_27 rfl dX8_init_48 ?_
  refine P_nw0 (q := m + 1 + 5) (N := 320000) (k2 := (11, 167741)) rfl (by decide) (by show g.2.2.2 + N5 = m + 1 + 5; omega) rfl rfl dX8_init_50 ?_
  have nw5 := o5.nw (kd := 20) (ln := 320000) (Nat.le_refl (m + 1 + 5))
  generalize hσ5 : p_nw (m + 1 + 5) 20 320000 (((N5, D5, E5, G5), F5, A5, B5, R5) : PS) = σ5 at nw5
  obtain ⟨⟨M5, U5, V5, W5⟩, X5, Y5, S5, T5⟩ := σ5
  have z15 : U5 (m + 1 + 5) = 20 := (congrArg (fun z : PS => z.1.2.1 (m + 1 + 5)) hσ5).symm.trans (p_nw_k _ _ _ _)
  have z25 : V5 (m + 1 + 5) = 320000 := (congrArg (fun z : PS => z.1.2.2.1 (m + 1 + 5)) hσ5).symm.trans (p_nw_l _ _ _ _)
  have z35 : M5 = N5 + 1 := (congrArg (fun z : PS => z.1.1) hσ5).symm
  have z45 : p_fr (m + 1 + 5) ((N5, D5, E5, G5), F5, A5, B5, R5) ((M5, U5, V5, W5), X5, Y5, S5, T5) := by rw [← hσ5]; exact p_fr.nw (Nat.le_refl _)
  have z65 : ∀ k, Y5 (m + 1 + 5) k = 0 := fun k => (congrArg (fun z : PS => z.2.2.1 (m + 1 + 5) k) hσ5).symm.trans (p_nw_a _ _ _ _ k)
  refine uX8_28 rfl rfl nw5.1 dX8_init_52 ?_
  have up5 := nw5.up (by decide) z15 z25 z65
  generalize hτ6 : (((M5, U5, V5, p_up W5 263 m (some (m + 1 + 5))), X5, Y5, S5, T5) : PS) = τ6
  have o6 : MS 6 τ6 m := by rw [← hτ6]; exact up5
  have m6 : τ6.1.1 = M5 := (congrArg (fun z : PS => z.1.1) hτ6).symm
  have r6 : p_fr m σb τ6 := by rw [← hτ6]; exact (r5.tr (z45.le (by omega))).tr (p_fr.uR (Nat.le_refl m))
  clear hτ6 up5
  obtain ⟨⟨N6, D6, E6, G6⟩, F6, A6, B6, R6⟩ := τ6
  have n6 : N6 = M5 := m6
  refine P_aloadn (i := 0) rfl rfl dX8_init_55 ?_
  refine P_iconst (v := 2) rfl dX8_init_56 ?_
  refine P_nw2 (q := m + 1 + 6) (N := 2) (k2 := (10, 167739)) rfl (by decide) (by show g.2.2.2 + N6 = m + 1 + 6; omega) rfl rfl dX8_init_57 ?_
  have nw6 := o6.nw (kd := 22) (ln := 2) (Nat.le_refl (m + 1 + 6))
  generalize hσ6 : p_nw (m + 1 + 6) 22 2 (((N6, D6, E6, G6), F6, A6, B6, R6) : PS) = σ6 at nw6
  obtain ⟨⟨M6, U6, V6, W6⟩, X6, Y6, S6, T6⟩ := σ6
  have z16 : U6 (m + 1 + 6) = 22 := (congrArg (fun z : PS => z.1.2.1 (m + 1 + 6)) hσ6).symm.trans (p_nw_k _ _ _ _)
  have z26 : V6 (m + 1 + 6) = 2 := (congrArg (fun z : PS => z.1.2.2.1 (m + 1 + 6)) hσ6).symm.trans (p_nw_l _ _ _ _)
  have z36 : M6 = N6 + 1 := (congrArg (fun z : PS => z.1.1) hσ6).symm
  have z46 : p_fr (m + 1 + 6) ((N6, D6, E6, G6), F6, A6, B6, R6) ((M6, U6, V6, W6), X6, Y6, S6, T6) := by rw [← hσ6]; exact p_fr.nw (Nat.le_refl _)
  have z66 : ∀ k, Y6 (m + 1 + 6) k = 0 := fun k => (congrArg (fun z : PS => z.2.2.1 (m + 1 + 6) k) hσ6).symm.trans (p_nw_a _ _ _ _ k)
  refine uX8_31 rfl rfl nw6.1 dX8_init_59 ?_
  have up6 := nw6.up (by decide) z16 z26 z66
  generalize hτ7 : (((M6, U6, V6, p_up W6 264 m (some (m + 1 + 6))), X6, Y6, S6, T6) : PS) = τ7
  have o7 : MS 7 τ7 m := by rw [← hτ7]; exact up6
  have m7 : τ7.1.1 = M6 := (congrArg (fun z : PS => z.1.1) hτ7).symm
  have r7 : p_fr m σb τ7 := by rw [← hτ7]; exact (r6.tr (z46.le (by omega))).tr (p_fr.uR (Nat.le_refl m))
  clear hτ7 up6
  obtain ⟨⟨N7, D7, E7, G7⟩, F7, A7, B7, R7⟩ := τ7
  have n7 : N7 = M6 := m7
  refine P_aloadn (i := 0) rfl rfl dX8_init_62 ?_
  refine P_sipush (v := 3506) rfl dX8_init_63 ?_
  refine P_nw0 (q := m + 1 + 7) (N := 3506) (k2 := (9, 164233)) rfl (by decide) (by show g.2.2.2 + N7 = m + 1 + 7; omega) rfl rfl dX8_init_66 ?_
  have nw7 := o7.nw (kd := 20) (ln := 3506) (Nat.le_refl (m + 1 + 7))
  generalize hσ7 : p_nw (m + 1 + 7) 20 3506 (((N7, D7, E7, G7), F7, A7, B7, R7) : PS) = σ7 at nw7
  obtain ⟨⟨M7, U7, V7, W7⟩, X7, Y7, S7, T7⟩ := σ7
  have z17 : U7 (m + 1 + 7) = 20 := (congrArg (fun z : PS => z.1.2.1 (m + 1 + 7)) hσ7).symm.trans (p_nw_k _ _ _ _)
  have z27 : V7 (m + 1 + 7) = 3506 := (congrArg (fun z : PS => z.1.2.2.1 (m + 1 + 7)) hσ7).symm.trans (p_nw_l _ _ _ _)
  have z37 : M7 = N7 + 1 := (congrArg (fun z : PS => z.1.1) hσ7).symm
  have z47 : p_fr (m + 1 + 7) ((N7, D7, E7, G7), F7, A7, B7, R7) ((M7, U7, V7, W7), X7, Y7, S7, T7) := by rw [← hσ7]; exact p_fr.nw (Nat.le_refl _)
  have z67 : ∀ k, Y7 (m + 1 + 7) k = 0 := fun k => (congrArg (fun z : PS => z.2.2.1 (m + 1 + 7) k) hσ7).symm.trans (p_nw_a _ _ _ _ k)
  refine uX8_35 rfl rfl nw7.1 dX8_init_68 ?_
  have up7 := nw7.up (by decide) z17 z27 z67
  generalize hτ8 : (((M7, U7, V7, p_up W7 265 m (some (m + 1 + 7))), X7, Y7, S7, T7) : PS) = τ8
  have o8 : MS 8 τ8 m := by rw [← hτ8]; exact up7
  have m8 : τ8.1.1 = M7 := (congrArg (fun z : PS => z.1.1) hτ8).symm
  have r8 : p_fr m σb τ8 := by rw [← hτ8]; exact (r7.tr (z47.le (by omega))).tr (p_fr.uR (Nat.le_refl m))
  clear hτ8 up7
  obtain ⟨⟨N8, D8, E8, G8⟩, F8, A8, B8, R8⟩ := τ8
  have n8 : N8 = M7 := m8
  refine P_aloadn (i := 0) rfl rfl dX8_init_71 ?_
  refine lX8_13 rfl dX8_init_72 ?_
  refine P_nw0 (q := m + 1 + 8) (N := 160000) (k2 := (8, 4233)) rfl (by decide) (by show g.2.2.2 + N8 = m + 1 + 8; omega) rfl rfl dX8_init_74 ?_
  have nw8 := o8.nw (kd := 20) (ln := 160000) (Nat.le_refl (m + 1 + 8))
  generalize hσ8 : p_nw (m + 1 + 8) 20 160000 (((N8, D8, E8, G8), F8, A8, B8, R8) : PS) = σ8 at nw8
  obtain ⟨⟨M8, U8, V8, W8⟩, X8, Y8, S8, T8⟩ := σ8
  have z18 : U8 (m + 1 + 8) = 20 := (congrArg (fun z : PS => z.1.2.1 (m + 1 + 8)) hσ8).symm.trans (p_nw_k _ _ _ _)
  have z28 : V8 (m + 1 + 8) = 160000 := (congrArg (fun z : PS => z.1.2.2.1 (m + 1 + 8)) hσ8).symm.trans (p_nw_l _ _ _ _)
  have z38 : M8 = N8 + 1 := (congrArg (fun z : PS => z.1.1) hσ8).symm
  have z48 : p_fr (m + 1 + 8) ((N8, D8, E8, G8), F8, A8, B8, R8) ((M8, U8, V8, W8), X8, Y8, S8, T8) := by rw [← hσ8]; exact p_fr.nw (Nat.le_refl _)
  have z68 : ∀ k, Y8 (m + 1 + 8) k = 0 := fun k => (congrArg (fun z : PS => z.2.2.1 (m + 1 + 8) k) hσ8).symm.trans (p_nw_a _ _ _ _ k)
  refine uX8_38 rfl rfl nw8.1 dX8_init_76 ?_
  have up8 := nw8.up (by decide) z18 z28 z68
  generalize hτ9 : (((M8, U8, V8, p_up W8 266 m (some (m + 1 + 8))), X8, Y8, S8, T8) : PS) = τ9
  have o9 : MS 9 τ9 m := by rw [← hτ9]; exact up8
  have m9 : τ9.1.1 = M8 := (congrArg (fun z : PS => z.1.1) hτ9).symm
  have r9 : p_fr m σb τ9 := by rw [← hτ9]; exact (r8.tr (z48.le (by omega))).tr (p_fr.uR (Nat.le_refl m))
  clear hτ9 up8
  obtain ⟨⟨N9, D9, E9, G9⟩, F9, A9, B9, R9⟩ := τ9
  have n9 : N9 = M8 := m9
  refine P_aloadn (i := 0) rfl rfl dX8_init_79 ?_
  refine P_bipush (v := 80) rfl dX8_init_80 ?_
  refine P_nw0 (q := m + 1 + 9) (N := 80) (k2 := (7, 4153)) rfl (by decide) (by show g.2.2.2 + N9 = m + 1 + 9; omega) rfl rfl dX8_init_82 ?_
  have nw9 := o9.nw (kd := 20) (ln := 80) (Nat.le_refl (m + 1 + 9))
  generalize hσ9 : p_nw (m + 1 + 9) 20 80 (((N9, D9, E9, G9), F9, A9, B9, R9) : PS) = σ9 at nw9
  obtain ⟨⟨M9, U9, V9, W9⟩, X9, Y9, S9, T9⟩ := σ9
  have z19 : U9 (m + 1 + 9) = 20 := (congrArg (fun z : PS => z.1.2.1 (m + 1 + 9)) hσ9).symm.trans (p_nw_k _ _ _ _)
  have z29 : V9 (m + 1 + 9) = 80 := (congrArg (fun z : PS => z.1.2.2.1 (m + 1 + 9)) hσ9).symm.trans (p_nw_l _ _ _ _)
  have z39 : M9 = N9 + 1 := (congrArg (fun z : PS => z.1.1) hσ9).symm
  have z49 : p_fr (m + 1 + 9) ((N9, D9, E9, G9), F9, A9, B9, R9) ((M9, U9, V9, W9), X9, Y9, S9, T9) := by rw [← hσ9]; exact p_fr.nw (Nat.le_refl _)
  have z69 : ∀ k, Y9 (m + 1 + 9) k = 0 := fun k => (congrArg (fun z : PS => z.2.2.1 (m + 1 + 9) k) hσ9).symm.trans (p_nw_a _ _ _ _ k)
  refine uX8_41 rfl rfl nw9.1 dX8_init_84 ?_
  have up9 := nw9.up (by decide) z19 z29 z69
  generalize hτ10 : (((M9, U9, V9, p_up W9 267 m (some (m + 1 + 9))), X9, Y9, S9, T9) : PS) = τ10
  have o10 : MS 10 τ10 m := by rw [← hτ10]; exact up9
  have m10 : τ10.1.1 = M9 := (congrArg (fun z : PS => z.1.1) hτ10).symm
  have r10 : p_fr m σb τ10 := by rw [← hτ10]; exact (r9.tr (z49.le (by omega))).tr (p_fr.uR (Nat.le_refl m))
  clear hτ10 up9
  obtain ⟨⟨N10, D10, E10, G10⟩, F10, A10, B10, R10⟩ := τ10
  have n10 : N10 = M9 := m10
  refine P_aloadn (i := 0) rfl rfl dX8_init_87 ?_
  refine P_bipush (v := 8) rfl dX8_init_88 ?_
  refine P_nw0 (q := m + 1 + 10) (N := 8) (k2 := (6, 4145)) rfl (by decide) (by show g.2.2.2 + N10 = m + 1 + 10; omega) rfl rfl dX8_init_90 ?_
  have nw10 := o10.nw (kd := 20) (ln := 8) (Nat.le_refl (m + 1 + 10))
  generalize hσ10 : p_nw (m + 1 + 10) 20 8 (((N10, D10, E10, G10), F10, A10, B10, R10) : PS) = σ10 at nw10
  obtain ⟨⟨M10, U10, V10, W10⟩, X10, Y10, S10, T10⟩ := σ10
  have z110 : U10 (m + 1 + 10) = 20 := (congrArg (fun z : PS => z.1.2.1 (m + 1 + 10)) hσ10).symm.trans (p_nw_k _ _ _ _)
  have z210 : V10 (m + 1 + 10) = 8 := (congrArg (fun z : PS => z.1.2.2.1 (m + 1 + 10)) hσ10).symm.trans (p_nw_l _ _ _ _)
  have z310 : M10 = N10 + 1 := (congrArg (fun z : PS => z.1.1) hσ10).symm
  have z410 : p_fr (m + 1 + 10) ((N10, D10, E10, G10), F10, A10, B10, R10) ((M10, U10, V10, W10), X10, Y10, S10, T10) := by rw [← hσ10]; exact p_fr.nw (Nat.le_refl _)
  have z610 : ∀ k, Y10 (m + 1 + 10) k = 0 := fun k => (congrArg (fun z : PS => z.2.2.1 (m + 1 + 10) k) hσ10).symm.trans (p_nw_a _ _ _ _ k)
  refine uX8_44 rfl rfl nw10.1 dX8_init_92 ?_
  have up10 := nw10.up (by decide) z110 z210 z610
  generalize hτ11 : (((M10, U10, V10, p_up W10 269 m (some (m + 1 + 10))), X10, Y10, S10, T10) : PS) = τ11
  have o11 : MS 11 τ11 m := by rw [← hτ11]; exact up10
  have m11 : τ11.1.1 = M10 := (congrArg (fun z : PS => z.1.1) hτ11).symm
  have r11 : p_fr m σb τ11 := by rw [← hτ11]; exact (r10.tr (z410.le (by omega))).tr (p_fr.uR (Nat.le_refl m))
  clear hτ11 up10
  obtain ⟨⟨N11, D11, E11, G11⟩, F11, A11, B11, R11⟩ := τ11
  have n11 : N11 = M10 := m11
  refine P_aloadn (i := 0) rfl rfl dX8_init_95 ?_
  refine P_sipush (v := 1000) rfl dX8_init_96 ?_
  refine P_nw0 (q := m + 1 + 11) (N := 1000) (k2 := (5, 3145)) rfl (by decide) (by show g.2.2.2 + N11 = m + 1 + 11; omega) rfl rfl dX8_init_99 ?_
  have nw11 := o11.nw (kd := 20) (ln := 1000) (Nat.le_refl (m + 1 + 11))
  generalize hσ11 : p_nw (m + 1 + 11) 20 1000 (((N11, D11, E11, G11), F11, A11, B11, R11) : PS) = σ11 at nw11
  obtain ⟨⟨M11, U11, V11, W11⟩, X11, Y11, S11, T11⟩ := σ11
  have z111 : U11 (m + 1 + 11) = 20 := (congrArg (fun z : PS => z.1.2.1 (m + 1 + 11)) hσ11).symm.trans (p_nw_k _ _ _ _)
  have z211 : V11 (m + 1 + 11) = 1000 := (congrArg (fun z : PS => z.1.2.2.1 (m + 1 + 11)) hσ11).symm.trans (p_nw_l _ _ _ _)
  have z311 : M11 = N11 + 1 := (congrArg (fun z : PS => z.1.1) hσ11).symm
  have z411 : p_fr (m + 1 + 11) ((N11, D11, E11, G11), F11, A11, B11, R11) ((M11, U11, V11, W11), X11, Y11, S11, T11) := by rw [← hσ11]; exact p_fr.nw (Nat.le_refl _)
  have z611 : ∀ k, Y11 (m + 1 + 11) k = 0 := fun k => (congrArg (fun z : PS => z.2.2.1 (m + 1 + 11) k) hσ11).symm.trans (p_nw_a _ _ _ _ k)
  refine uX8_47 rfl rfl nw11.1 dX8_init_101 ?_
  have up11 := nw11.up (by decide) z111 z211 z611
  generalize hτ12 : (((M11, U11, V11, p_up W11 271 m (some (m + 1 + 11))), X11, Y11, S11, T11) : PS) = τ12
  have o12 : MS 12 τ12 m := by rw [← hτ12]; exact up11
  have m12 : τ12.1.1 = M11 := (congrArg (fun z : PS => z.1.1) hτ12).symm
  have r12 : p_fr m σb τ12 := by rw [← hτ12]; exact (r11.tr (z411.le (by omega))).tr (p_fr.uR (Nat.le_refl m))
  clear hτ12 up11
  obtain ⟨⟨N12, D12, E12, G12⟩, F12, A12, B12, R12⟩ := τ12
  have n12 : N12 = M11 := m12
  refine P_aloadn (i := 0) rfl rfl dX8_init_104 ?_
  refine P_sipush (v := 1000) rfl dX8_init_105 ?_
  refine P_nw0 (q := m + 1 + 12) (N := 1000) (k2 := (4, 2145)) rfl (by decide) (by show g.2.2.2 + N12 = m + 1 + 12; omega) rfl rfl dX8_init_108 ?_
  have nw12 := o12.nw (kd := 20) (ln := 1000) (Nat.le_refl (m + 1 + 12))
  generalize hσ12 : p_nw (m + 1 + 12) 20 1000 (((N12, D12, E12, G12), F12, A12, B12, R12) : PS) = σ12 at nw12
  obtain ⟨⟨M12, U12, V12, W12⟩, X12, Y12, S12, T12⟩ := σ12
  have z112 : U12 (m + 1 + 12) = 20 := (congrArg (fun z : PS => z.1.2.1 (m + 1 + 12)) hσ12).symm.trans (p_nw_k _ _ _ _)
  have z212 : V12 (m + 1 + 12) = 1000 := (congrArg (fun z : PS => z.1.2.2.1 (m + 1 + 12)) hσ12).symm.trans (p_nw_l _ _ _ _)
  have z312 : M12 = N12 + 1 := (congrArg (fun z : PS => z.1.1) hσ12).symm
  have z412 : p_fr (m + 1 + 12) ((N12, D12, E12, G12), F12, A12, B12, R12) ((M12, U12, V12, W12), X12, Y12, S12, T12) := by rw [← hσ12]; exact p_fr.nw (Nat.le_refl _)
  have z612 : ∀ k, Y12 (m + 1 + 12) k = 0 := fun k => (congrArg (fun z : PS => z.2.2.1 (m + 1 + 12) k) hσ12).symm.trans (p_nw_a _ _ _ _ k)
  refine uX8_50 rfl rfl nw12.1 dX8_init_110 ?_
  have up12 := nw12.up (by decide) z112 z212 z612
  generalize hτ13 : (((M12, U12, V12, p_up W12 272 m (some (m + 1 + 12))), X12, Y12, S12, T12) : PS) = τ13
  have o13 : MS 13 τ13 m := by rw [← hτ13]; exact up12
  have m13 : τ13.1.1 = M12 := (congrArg (fun z : PS => z.1.1) hτ13).symm
  have r13 : p_fr m σb τ13 := by rw [← hτ13]; exact (r12.tr (z412.le (by omega))).tr (p_fr.uR (Nat.le_refl m))
  clear hτ13 up12
  obtain ⟨⟨N13, D13, E13, G13⟩, F13, A13, B13, R13⟩ := τ13
  have n13 : N13 = M12 := m13
  refine P_aloadn (i := 0) rfl rfl dX8_init_113 ?_
  refine P_sipush (v := 1000) rfl dX8_init_114 ?_
  refine P_nw0 (q := m + 1 + 13) (N := 1000) (k2 := (3, 1145)) rfl (by decide) (by show g.2.2.2 + N13 = m + 1 + 13; omega) rfl rfl dX8_init_117 ?_
  have nw13 := o13.nw (kd := 20) (ln := 1000) (Nat.le_refl (m + 1 + 13))
  generalize hσ13 : p_nw (m + 1 + 13) 20 1000 (((N13, D13, E13, G13), F13, A13, B13, R13) : PS) = σ13 at nw13
  obtain ⟨⟨M13, U13, V13, W13⟩, X13, Y13, S13, T13⟩ := σ13
  have z113 : U13 (m + 1 + 13) = 20 := (congrArg (fun z : PS => z.1.2.1 (m + 1 + 13)) hσ13).symm.trans (p_nw_k _ _ _ _)
  have z213 : V13 (m + 1 + 13) = 1000 := (congrArg (fun z : PS => z.1.2.2.1 (m + 1 + 13)) hσ13).symm.trans (p_nw_l _ _ _ _)
  have z313 : M13 = N13 + 1 := (congrArg (fun z : PS => z.1.1) hσ13).symm
  have z413 : p_fr (m + 1 + 13) ((N13, D13, E13, G13), F13, A13, B13, R13) ((M13, U13, V13, W13), X13, Y13, S13, T13) := by rw [← hσ13]; exact p_fr.nw (Nat.le_refl _)
  have z613 : ∀ k, Y13 (m + 1 + 13) k = 0 := fun k => (congrArg (fun z : PS => z.2.2.1 (m + 1 + 13) k) hσ13).symm.trans (p_nw_a _ _ _ _ k)
  refine uX8_53 rfl rfl nw13.1 dX8_init_119 ?_
  have up13 := nw13.up (by decide) z113 z213 z613
  generalize hτ14 : (((M13, U13, V13, p_up W13 273 m (some (m + 1 + 13))), X13, Y13, S13, T13) : PS) = τ14
  have o14 : MS 14 τ14 m := by rw [← hτ14]; exact up13
  have m14 : τ14.1.1 = M13 := (congrArg (fun z : PS => z.1.1) hτ14).symm
  have r14 : p_fr m σb τ14 := by rw [← hτ14]; exact (r13.tr (z413.le (by omega))).tr (p_fr.uR (Nat.le_refl m))
  clear hτ14 up13
  obtain ⟨⟨N14, D14, E14, G14⟩, F14, A14, B14, R14⟩ := τ14
  have n14 : N14 = M13 := m14
  refine P_aloadn (i := 0) rfl rfl dX8_init_122 ?_
  refine P_sipush (v := 1000) rfl dX8_init_123 ?_
  refine P_nw0 (q := m + 1 + 14) (N := 1000) (k2 := (2, 145)) rfl (by decide) (by show g.2.2.2 + N14 = m + 1 + 14; omega) rfl rfl dX8_init_126 ?_
  have nw14 := o14.nw (kd := 20) (ln := 1000) (Nat.le_refl (m + 1 + 14))
  generalize hσ14 : p_nw (m + 1 + 14) 20 1000 (((N14, D14, E14, G14), F14, A14, B14, R14) : PS) = σ14 at nw14
  obtain ⟨⟨M14, U14, V14, W14⟩, X14, Y14, S14, T14⟩ := σ14
  have z114 : U14 (m + 1 + 14) = 20 := (congrArg (fun z : PS => z.1.2.1 (m + 1 + 14)) hσ14).symm.trans (p_nw_k _ _ _ _)
  have z214 : V14 (m + 1 + 14) = 1000 := (congrArg (fun z : PS => z.1.2.2.1 (m + 1 + 14)) hσ14).symm.trans (p_nw_l _ _ _ _)
  have z314 : M14 = N14 + 1 := (congrArg (fun z : PS => z.1.1) hσ14).symm
  have z414 : p_fr (m + 1 + 14) ((N14, D14, E14, G14), F14, A14, B14, R14) ((M14, U14, V14, W14), X14, Y14, S14, T14) := by rw [← hσ14]; exact p_fr.nw (Nat.le_refl _)
  have z614 : ∀ k, Y14 (m + 1 + 14) k = 0 := fun k => (congrArg (fun z : PS => z.2.2.1 (m + 1 + 14) k) hσ14).symm.trans (p_nw_a _ _ _ _ k)
  refine uX8_56 rfl rfl nw14.1 dX8_init_128 ?_
  have up14 := nw14.up (by decide) z114 z214 z614
  generalize hτ15 : (((M14, U14, V14, p_up W14 274 m (some (m + 1 + 14))), X14, Y14, S14, T14) : PS) = τ15
  have o15 : MS 15 τ15 m := by rw [← hτ15]; exact up14
  have m15 : τ15.1.1 = M14 := (congrArg (fun z : PS => z.1.1) hτ15).symm
  have r15 : p_fr m σb τ15 := by rw [← hτ15]; exact (r14.tr (z414.le (by omega))).tr (p_fr.uR (Nat.le_refl m))
  clear hτ15 up14
  obtain ⟨⟨N15, D15, E15, G15⟩, F15, A15, B15, R15⟩ := τ15
  have n15 : N15 = M14 := m15
  refine P_aloadn (i := 0) rfl rfl dX8_init_131 ?_
  refine P_bipush (v := 29) rfl dX8_init_132 ?_
  refine P_nw0 (q := m + 1 + 15) (N := 29) (k2 := (1, 116)) rfl (by decide) (by show g.2.2.2 + N15 = m + 1 + 15; omega) rfl rfl dX8_init_134 ?_
  have nw15 := o15.nw (kd := 20) (ln := 29) (Nat.le_refl (m + 1 + 15))
  generalize hσ15 : p_nw (m + 1 + 15) 20 29 (((N15, D15, E15, G15), F15, A15, B15, R15) : PS) = σ15 at nw15
  obtain ⟨⟨M15, U15, V15, W15⟩, X15, Y15, S15, T15⟩ := σ15
  have z115 : U15 (m + 1 + 15) = 20 := (congrArg (fun z : PS => z.1.2.1 (m + 1 + 15)) hσ15).symm.trans (p_nw_k _ _ _ _)
  have z215 : V15 (m + 1 + 15) = 29 := (congrArg (fun z : PS => z.1.2.2.1 (m + 1 + 15)) hσ15).symm.trans (p_nw_l _ _ _ _)
  have z315 : M15 = N15 + 1 := (congrArg (fun z : PS => z.1.1) hσ15).symm
  have z415 : p_fr (m + 1 + 15) ((N15, D15, E15, G15), F15, A15, B15, R15) ((M15, U15, V15, W15), X15, Y15, S15, T15) := by rw [← hσ15]; exact p_fr.nw (Nat.le_refl _)
  have z615 : ∀ k, Y15 (m + 1 + 15) k = 0 := fun k => (congrArg (fun z : PS => z.2.2.1 (m + 1 + 15) k) hσ15).symm.trans (p_nw_a _ _ _ _ k)
  refine uX8_59 rfl rfl nw15.1 dX8_init_136 ?_
  have up15 := nw15.up (by decide) z115 z215 z615
  generalize hτ16 : (((M15, U15, V15, p_up W15 279 m (some (m + 1 + 15))), X15, Y15, S15, T15) : PS) = τ16
  have o16 : MS 16 τ16 m := by rw [← hτ16]; exact up15
  have m16 : τ16.1.1 = M15 := (congrArg (fun z : PS => z.1.1) hτ16).symm
  have r16 : p_fr m σb τ16 := by rw [← hτ16]; exact (r15.tr (z415.le (by omega))).tr (p_fr.uR (Nat.le_refl m))
  clear hτ16 up15
  obtain ⟨⟨N16, D16, E16, G16⟩, F16, A16, B16, R16⟩ := τ16
  have n16 : N16 = M15 := m16
  refine P_aloadn (i := 0) rfl rfl dX8_init_139 ?_
  refine P_bipush (v := 116) rfl dX8_init_140 ?_
  refine P_nw0 (q := m + 1 + 16) (N := 116) (k2 := (0, 0)) rfl (by decide) (by show g.2.2.2 + N16 = m + 1 + 16; omega) rfl rfl dX8_init_142 ?_
  have nw16 := o16.nw (kd := 20) (ln := 116) (Nat.le_refl (m + 1 + 16))
  generalize hσ16 : p_nw (m + 1 + 16) 20 116 (((N16, D16, E16, G16), F16, A16, B16, R16) : PS) = σ16 at nw16
  obtain ⟨⟨M16, U16, V16, W16⟩, X16, Y16, S16, T16⟩ := σ16
  have z116 : U16 (m + 1 + 16) = 20 := (congrArg (fun z : PS => z.1.2.1 (m + 1 + 16)) hσ16).symm.trans (p_nw_k _ _ _ _)
  have z216 : V16 (m + 1 + 16) = 116 := (congrArg (fun z : PS => z.1.2.2.1 (m + 1 + 16)) hσ16).symm.trans (p_nw_l _ _ _ _)
  have z316 : M16 = N16 + 1 := (congrArg (fun z : PS => z.1.1) hσ16).symm
  have z416 : p_fr (m + 1 + 16) ((N16, D16, E16, G16), F16, A16, B16, R16) ((M16, U16, V16, W16), X16, Y16, S16, T16) := by rw [← hσ16]; exact p_fr.nw (Nat.le_refl _)
  have z616 : ∀ k, Y16 (m + 1 + 16) k = 0 := fun k => (congrArg (fun z : PS => z.2.2.1 (m + 1 + 16) k) hσ16).symm.trans (p_nw_a _ _ _ _ k)
  refine uX8_62 rfl rfl nw16.1 dX8_init_144 ?_
  have up16 := nw16.up (by decide) z116 z216 z616
  generalize hτ17 : (((M16, U16, V16, p_up W16 280 m (some (m + 1 + 16))), X16, Y16, S16, T16) : PS) = τ17
  have o17 : MS 17 τ17 m := by rw [← hτ17]; exact up16
  have m17 : τ17.1.1 = M16 := (congrArg (fun z : PS => z.1.1) hτ17).symm
  have r17 : p_fr m σb τ17 := by rw [← hτ17]; exact (r16.tr (z416.le (by omega))).tr (p_fr.uR (Nat.le_refl m))
  clear hτ17 up16
  obtain ⟨⟨N17, D17, E17, G17⟩, F17, A17, B17, R17⟩ := τ17
  have n17 : N17 = M16 := m17
  refine P_iconst (v := 0) rfl dX8_init_147 ?_
  refine P_is1 (Or.inl dX8_init_148) rfl rfl ?_
  refine P.mono (fun r σ hq9 => ?_) (c_X8_1 o17.wm 8 0 none A17 rfl (fun _ _ _ => rfl) ⟨fun j hj => absurd hj (Nat.not_lt_zero _), fun k hk => absurd hk (Nat.not_lt_zero _), fun d _ => (o17.2.2 0 (by decide)).2.2.2 d⟩)
  obtain ⟨rfl, A2, rfl, hA2, hT2⟩ := hq9
  have hfz : ∀ f, F17 f m = 0 := o17.2.1
  refine ⟨rfl, (show N17 = σb.1.1 + 17 by rw [hσb]; show N17 = N0 + 17; omega), fun b hb => ?_, o17.wm, hT2.rf, ⟨hfz 260, by decide, hfz 261, by decide⟩, fun i hi => absurd hi (Nat.not_lt_zero _), fun s hs => ⟨?_, fun hv => by cases hv⟩, hfz 268, Nat.zero_le _, fun i hi => absurd hi (Nat.not_lt_zero _)⟩
  · refine Eq.trans ?_ (r17 b hb)
    unfold cc
    dsimp only
    rw [hA2 b (by omega) (by omega)]
  · show A2 (m + 7) s = 0
    rw [hA2 (m + 7) (by omega) (by omega)]
    exact (o17.2.2 6 (by decide)).2.2.2 s
end New5
