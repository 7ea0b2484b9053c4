/-- slices none of which is gone -/
def c_of (l : List XS) : List XC := l.map (fun τ => (τ, false))
theorem c_of_fst (l : List XS) : (c_of l).map Prod.fst = l := by
  induction l with
  | nil => rfl
  | cons a l ih => exact congrArg (a :: ·) ih
theorem c_of_len (l : List XS) : (c_of l).length = l.length := List.length_map _
theorem c_of_get (l : List XS) (i : Nat) : ((c_of l).getD i xc0).1 = l.getD i (0, 0, 0, 0, 0, 0, 0, 0) := by
  induction l generalizing i with
  | nil => rfl
  | cons a l ih =>
    cases i with
    | zero => rfl
    | succ i => exact ih i
theorem c_live_of (C : List XC) : c_live C = c_of ((c_live C).map Prod.fst) := by
  induction C with
  | nil => rfl
  | cons c C ih =>
    obtain ⟨τ, b⟩ := c
    cases b with
    | false => exact congrArg ((τ, false) :: ·) ih
    | true => exact ih
theorem c_live_app (A B : List XC) : c_live (A ++ B) = c_live A ++ c_live B := List.filter_append A B
theorem c_live_all {B : List XC} (h : ∀ c, c ∈ B → c.2 = false) : c_live B = B := by
  unfold c_live
  exact List.filter_eq_self.mpr (fun c hc => by rw [h c hc]; rfl)
theorem c_m_set {α : Type} (A : List α) (c v : α) (B : List α) : (A ++ c :: B).set A.length v = A ++ v :: B := by
  induction A with
  | nil => rfl
  | cons a A ih => exact congrArg (a :: ·) ih
theorem c_m_get {α : Type} (A : List α) (c d : α) (B : List α) : (A ++ c :: B).getD A.length d = c := by
  induction A with
  | nil => rfl
  | cons a A ih => exact ih
theorem c_m_erase {α : Type} (A : List α) (c : α) (B : List α) : (A ++ c :: B).eraseIdx A.length = A ++ B := by
  induction A with
  | nil => rfl
  | cons a A ih => exact congrArg (a :: ·) ih
theorem x_run_s (n s : Nat) (X : XW) : x_run (n + 1) s X = if s < (xS X).length then (if xG X 0 < (x_at X s).2.2.2.2.2.2.1 then x_run n (s + 1) X else if (x_still X s).2 = true then x_run n (s + 1) (x_still X s).1 else x_run n s (x_still X s).1) else X := rfl
theorem x_run_from : ∀ n s (X : XW), (∀ i σ, s ≤ i → (xS X)[i]? = some σ → x_late (xG X 0) σ = true) → x_run n s X = X := by
  intro n
  induction n with
  | zero => intro s X _; rfl
  | succ n ih =>
    intro s X h
    unfold x_run
    by_cases e : s < (xS X).length
    · rw [if_pos e, if_pos (of_decide_eq_true (h s (x_at X s) (Nat.le_refl _) (by unfold x_at; rw [List.getD_eq_getElem?_getD, List.getElem?_eq_getElem e]; rfl)))]
      exact ih (s + 1) X (fun i σ hi => h i σ (by omega))
    · rw [if_neg e]
/-- within a tick: the slices before k are treated, b were there -/
def c_in (M : Nat) (X0 X : XW) (C : List XC) (b k : Nat) : Prop := ∃ A B, C = A ++ B ∧ A.length = k ∧ (∀ c, c ∈ B → c.2 = false) ∧ (∀ c, c ∈ B.drop (b - k) → x_late (xG X0 0) c.1 = true) ∧ b - k ≤ B.length ∧ (c_live A).map Prod.fst ++ B.map Prod.fst = xS X ∧ C.length ≤ (xS X).length + k ∧ XI M X ∧ x_kp X0 X ∧ x_run (601 - k) (c_live A).length X = x_run 601 0 X0
def c_pos (C : List XC) (k : Nat) : Nat := (c_live (C.take k)).length
section Cin
variable {M : Nat} {X0 X : XW} {C : List XC} {b k : Nat}
theorem c_in_0 (hI : XI M X) : c_in M X X (c_of (xS X)) (xS X).length 0 := ⟨[], c_of (xS X), rfl, rfl, fun c hc => by obtain ⟨τ, _, e⟩ := List.mem_map.mp hc; rw [← e], fun c hc => by rw [Nat.sub_zero, List.drop_eq_nil_of_le (by rw [c_of_len]; exact Nat.le_refl _)] at hc; exact absurd hc (List.not_mem_nil), by rw [c_of_len]; omega, c_of_fst _, by rw [c_of_len]; omega, hI, x_kp.rf X, rfl⟩
theorem c_in_len (h : c_in M X0 X C b k) (hk : k ≤ b) : b ≤ C.length := by
  obtain ⟨A, B, hC, hA, h1, h2, h3, _⟩ := h
  rw [hC, List.length_append]
  omega
theorem c_in_at (h : c_in M X0 X C b k) (hk : k < b) : c_pos C k < (xS X).length ∧ C.getD k xc0 = (x_at X (c_pos C k), false) := by
  obtain ⟨A, B, hC, hA, h1, h2, h3, h4, h5, h6, h7, h8⟩ := h
  cases B with
  | nil => exact absurd h3 (by show ¬ b - k ≤ 0; omega)
  | cons c B =>
    subst hA
    have hp : c_pos C A.length = ((c_live A).map Prod.fst).length := by
      unfold c_pos
      rw [hC, List.take_left', List.length_map]
      rfl
    have hx : xS X = (c_live A).map Prod.fst ++ c.1 :: B.map Prod.fst := h4.symm
    have hc2 : c.2 = false := h1 c (List.mem_cons_self ..)
    refine ⟨by rw [hp, hx, List.length_append, List.length_cons]; omega, ?_⟩
    rw [hp]
    unfold x_at
    rw [hx, c_m_get, hC, c_m_get]
    obtain ⟨τ, g⟩ := c
    exact congrArg (Prod.mk τ) hc2
theorem c_in_skip (h : c_in M X0 X C b k) (hk : k < b) (hb : b ≤ 300) (hl : xG X0 0 < (x_at X (c_pos C k)).2.2.2.2.2.2.1) : c_in M X0 X C b (k + 1) := by
  have hat := c_in_at h hk
  obtain ⟨A, B, hC, hA, h1, h2, h3, h4, h5, h6, h7, h8⟩ := h
  cases B with
  | nil => exact absurd h3 (by show ¬ b - k ≤ 0; omega)
  | cons c B =>
    have hc2 : c.2 = false := h1 c (List.mem_cons_self ..)
    have hlv : c_live (A ++ [c]) = c_live A ++ [c] := by
      rw [c_live_app]
      congr 1
      exact c_live_all (fun d hd => h1 d (List.mem_of_mem_head? (by rw [List.mem_singleton.mp hd]; rfl)))
    have hp : c_pos C k = (c_live A).length := by
      unfold c_pos
      rw [hC, List.take_left' hA]
    refine ⟨A ++ [c], B, by rw [hC, List.append_assoc]; rfl, by rw [List.length_append, hA]; rfl, fun d hd => h1 d (List.mem_cons_of_mem _ hd), fun d hd => h2 d ?_, ?_, ?_, by omega, h6, h7, ?_⟩
    · rw [show b - k = (b - (k + 1)) + 1 by omega]
      exact hd
    · have : b - k ≤ B.length + 1 := h3
      omega
    · rw [hlv, List.map_append, List.append_assoc]
      exact h4
    · rw [hlv, List.length_append, ← h8, show 601 - k = (601 - (k + 1)) + 1 by omega, ← hp]
      have hlt := hat.1
      exact ((x_run_s _ _ _).trans (by rw [if_pos hlt, h7.1, if_pos hl]; rfl)).symm
theorem c_in_step {C2 : List XC} (hM : M < 100000000) (h : c_in M X0 X C b k) (hk : k < b) (hb : b ≤ 300) (hl : ¬ xG X0 0 < (x_at X (c_pos C k)).2.2.2.2.2.2.1) (hleft : c_left X (c_pos C k) k C C2) : c_in M X0 (x_still X (c_pos C k)).1 C2 b (k + 1) := by
  have hat := c_in_at h hk
  obtain ⟨A, B, hC, hA, h1, h2, h3, h4, h5, h6, h7, h8⟩ := h
  cases B with
  | nil => exact absurd h3 (by show ¬ b - k ≤ 0; omega)
  | cons c B =>
    have hp : c_pos C k = (c_live A).length := by
      unfold c_pos
      rw [hC, List.take_left' hA]
    have hp2 : c_pos C k = ((c_live A).map Prod.fst).length := by rw [hp, List.length_map]
    obtain ⟨k1, k2, k3⟩ := h6.still hM hat.1
    have h3' : b - k ≤ B.length + 1 := h3
    have hx : xS X = (c_live A).map Prod.fst ++ c.1 :: B.map Prod.fst := h4.symm
    have hlenC : C.length = A.length + (B.length + 1) := by rw [hC, List.length_append]; rfl
    have hlenX : (xS X).length = (c_live A).length + (B.length + 1) := by rw [hx, List.length_append, List.length_map, List.length_cons, List.length_map]
    have hrun : x_run (601 - (k + 1) + 1) (c_pos C k) X = if (x_still X (c_pos C k)).2 = true then x_run (601 - (k + 1)) (c_pos C k + 1) (x_still X (c_pos C k)).1 else x_run (601 - (k + 1)) (c_pos C k) (x_still X (c_pos C k)).1 := by
      show x_run ((601 - (k + 1)) + 1) (c_pos C k) X = _
      rw [x_run_s, if_pos hat.1, h7.1, if_neg hl]
    rw [show 601 - (k + 1) + 1 = 601 - k by omega, hp, h8] at hrun
    have hset : ∀ v, C.set k v = A ++ v :: B := fun v => by rw [hC, ← hA, c_m_set]
    have hsx : ∀ τ, (xS X).set (c_pos C k) τ = (c_live A).map Prod.fst ++ τ :: B.map Prod.fst := fun τ => by rw [hp2, hx, c_m_set]
    have hex : (xS X).eraseIdx (c_pos C k) = (c_live A).map Prod.fst ++ B.map Prod.fst := by rw [hp2, hx, c_m_erase]
    rcases hleft with ⟨e1, τ, e2, e3⟩ | ⟨e1, l, e2, e3⟩
    · have hlv : c_live (A ++ [(τ, false)]) = c_live A ++ [(τ, false)] := by rw [c_live_app]; rfl
      rw [hset] at e2
      rw [hsx] at e3
      clear k3 hsx hex
      rw [hp] at e1 e3 k1 k2 ⊢
      rw [if_pos e1] at hrun
      refine ⟨A ++ [(τ, false)], B, by rw [e2, List.append_assoc]; rfl, by rw [List.length_append, hA]; rfl, fun d hd => h1 d (List.mem_cons_of_mem _ hd), fun d hd => h2 d ?_, by omega, ?_, ?_, k1, h7.tr k2, ?_⟩
      · rw [show b - k = (b - (k + 1)) + 1 by omega]
        exact hd
      · rw [hlv, List.map_append, List.append_assoc]
        exact e3.symm
      · rw [e2, e3, List.length_append, List.length_append, List.length_map, List.length_cons, List.length_cons, List.length_map]
        omega
      · rw [hlv, List.length_append]
        exact hrun.symm
    · have hlv : c_live (A ++ [((x_at X (c_pos C k)), true)]) = c_live A := by
        rw [c_live_app]
        exact List.append_nil _
      have e4 : l = l := rfl
      have hll : ∀ σ, σ ∈ l → (xG X 0).toInt < σ.2.2.2.2.2.2.1.toInt := by
        rcases k3 with ⟨g1, _⟩ | ⟨_, l2, g2, g3⟩
        · rw [e1] at g1; cases g1
        · rw [e3] at g2
          rw [List.append_cancel_left g2]
          exact g3
      rw [hset] at e2
      rw [hex] at e3
      clear k3 hsx hex
      rw [hp] at hlv e2
      rw [hp] at e1 e3 k1 k2 ⊢
      rw [if_neg (by rw [e1]; exact Bool.false_ne_true)] at hrun
      refine ⟨A ++ [((x_at X (c_live A).length), true)], B ++ c_of l, by rw [e2, List.append_assoc, List.append_assoc]; rfl, by rw [List.length_append, hA]; rfl, fun d hd => ?_, fun d hd => ?_, by rw [List.length_append]; omega, ?_, ?_, k1, h7.tr k2, ?_⟩
      · rcases List.mem_append.mp hd with g | g
        · exact h1 d (List.mem_cons_of_mem _ g)
        · obtain ⟨τ, _, e⟩ := List.mem_map.mp g
          rw [← e]
      · rw [List.drop_append_of_le_length (by omega)] at hd
        rcases List.mem_append.mp hd with g | g
        · refine h2 d ?_
          rw [show b - k = (b - (k + 1)) + 1 by omega]
          exact g
        · obtain ⟨τ, g2, e⟩ := List.mem_map.mp g
          rw [← e]
          have g3 := hll τ g2
          rw [h7.1] at g3
          exact decide_eq_true (Int32.lt_iff_toInt_lt.mpr g3)
      · rw [hlv, List.map_append, c_of_fst, ← List.append_assoc]
        exact e3.symm
      · rw [e2, e3, List.length_append, List.length_append, List.length_append, List.length_append, List.length_map, List.length_map, List.length_cons, List.length_map]
        omega
      · rw [hlv]
        exact hrun.symm
theorem c_in_end (h : c_in M X0 X C b b) : X = x_run 601 0 X0 ∧ (c_live C) = c_of (xS X) := by
  obtain ⟨A, B, hC, hA, h1, h2, h3, h4, h5, h6, h7, h8⟩ := h
  have hl : c_live C = c_live A ++ B := by rw [hC, c_live_app, c_live_all h1]
  refine ⟨?_, ?_⟩
  · rw [← h8]
    refine (x_run_from _ _ X (fun i σ hi hσ => ?_)).symm
    rw [← h4, List.getElem?_append_right (by rw [List.length_map]; exact hi)] at hσ
    obtain ⟨c, hc, e⟩ := List.mem_map.mp (List.mem_of_getElem? hσ)
    rw [← e, h7.1]
    exact h2 c (by rw [Nat.sub_self]; exact hc)
  · rw [c_live_of C, hl, List.map_append, h4]
theorem x_ticks_add (X : XW) (a : Nat) : ∀ c, x_ticks (a + c) X = x_ticks c (x_ticks a X) := by
  intro c
  induction c with
  | zero => rfl
  | succ c ih => exact congrArg x_tick ih
end Cin

section Cls18
variable {g : PG} {L : PL} {FI AI : Nat → Nat → Int32} {AL : Nat → Nat → Int64} {AR : Nat → Nat → Option Nat} {w : Nat} {X : XW} {C : List XC} {U : Nat} {sa : Nat → Nat} {M : Nat}
theorem s_passIn {X0 : XW} {b i : Nat} {t e : Int32} {Q : Option PV → PS → Prop} (hMM : M < 100000000) (hb : b ≤ 300)
    (hK : ∀ F A B C X, FrC w FI AI AL AR F A B AR → c_in M X0 X C b b → CW L F A B AR w X C (xS X).length sa → P g 5 iX6_pass 82 [some (vr w), some (vi t), some (vi e), some (vi (Int32.ofNat i)), some (vi (Int32.ofNat b)), some (vi (Int32.ofNat b))] [] (L, F, A, B, AR) (0, 0) Q) :
    ∀ n k : Nat, k + n = b → ∀ (F A : Nat → Nat → Int32) (B : Nat → Nat → Int64) (C : List XC) (X : XW), FrC w FI AI AL AR F A B AR → c_in M X0 X C b k → CW L F A B AR w X C (xS X).length sa → P g 5 iX6_pass 41 [some (vr w), some (vi t), some (vi e), some (vi (Int32.ofNat i)), some (vi (Int32.ofNat b)), some (vi (Int32.ofNat k))] [] (L, F, A, B, AR) (0, 0) Q := by
  intro n
  induction n with
  | zero =>
    intro k hk F A B C X hf hin h
    refine P_iload (i := 5) rfl dX6_pass_41 ?_
    refine P_iload (i := 4) rfl dX6_pass_43 ?_
    refine P_icmpge dX6_pass_45 (tgt := 82) rfl (fun h45 => ?_) (fun h45 => absurd ((n_le (a := b) (b := k) (by omega) (by omega)).mpr (by omega)) h45)
    have ekb : k = b := by omega
    subst ekb
    exact hK F A B C X hf hin h
  | succ n ih =>
    intro k hk F A B C X hf hin h
    have hbC := c_in_len hin (by omega)
    have hat := c_in_at hin (by omega)
    have hc601 := h.c601
    have hcs := h.s k (by omega)
    unfold CS1 at hcs
    rw [hat.2] at hcs
    obtain ⟨hlen, hI, hkp⟩ : C.length ≤ (xS X).length + k ∧ XI M X ∧ x_kp X0 X := by
      obtain ⟨_, _, _, _, _, _, _, _, g5, g6, g7, _⟩ := hin
      exact ⟨g5, g6, g7⟩
    refine P_iload (i := 5) rfl dX6_pass_41 ?_
    refine P_iload (i := 4) rfl dX6_pass_43 ?_
    refine P_icmpge dX6_pass_45 (tgt := 82) rfl (fun h45 => absurd h45 (fun h8 => by have h7 := (n_le (a := b) (b := k) (by omega) (by omega)).mp h8; omega)) (fun h45 => ?_)
    refine P_aloadn (i := 0) rfl rfl dX6_pass_48 ?_
    refine gX6_31 rfl (by first | assumption | exact h.wf.kw | exact h.wf.k4) h.wf.r198 dX6_pass_49 ?_
    refine P_iload (i := 5) rfl dX6_pass_52 ?_
    refine P_aaN (t := 27) (j := k) (by decide) (by first | assumption | exact h.wf.kw | exact h.wf.k4) rfl (by omega) (by rw [h.wf.l4]; omega) (h.wa.s (by omega)) dX6_pass_54 ?_
    refine gX6_202 rfl (h.wf.ks h.wa (by omega)) hcs.1.2.2.2.2.2.2.1 dX6_pass_55 ?_
    refine P_aloadn (i := 0) rfl rfl dX6_pass_58 ?_
    refine gX6_46 rfl (by first | assumption | exact h.wf.kw | exact h.wf.k4) h.g.1 dX6_pass_59 ?_
    refine P_icmpne dX6_pass_62 (tgt := 76) rfl (fun h62 => ?_) (fun h62 => ?_)
    · refine P_inN5 dX6_pass_76 rfl rfl ?_
      refine P_goto dX6_pass_79 (tgt := 41) rfl ?_
      exact ih (k + 1) (by omega) F A B C X hf (c_in_skip hin (by omega) hb (Int32.lt_iff_toInt_lt.mpr (by
        have g1 := (hI.2.2.2.2.1 _ (x_at_mem hat.1)).2.2.2.2.2.2.2.1.1
        rw [hkp.1] at g1
        have g2 : ¬ (x_at X (c_pos C k)).2.2.2.2.2.2.1.toInt = (xG X0 0).toInt := fun g3 => h62 (by rw [hkp.1]; exact i_eq.mpr g3)
        omega))) h
    · refine P_aloadn (i := 0) rfl rfl dX6_pass_65 ?_
      refine P_aloadn (i := 0) rfl rfl dX6_pass_66 ?_
      refine gX6_31 rfl (by first | assumption | exact h.wf.kw | exact h.wf.k4) h.wf.r198 dX6_pass_67 ?_
      refine P_iload (i := 5) rfl dX6_pass_70 ?_
      refine P_aaN (t := 27) (j := k) (by decide) (by first | assumption | exact h.wf.kw | exact h.wf.k4) rfl (by omega) (by rw [h.wf.l4]; omega) (h.wa.s (by omega)) dX6_pass_72 ?_
      refine kX6_203 rfl (s_treat h hI hMM hat.1 (by omega) hat.2 (by omega)) (by decide) (by first | assumption | exact h.wf.kw | exact h.wf.k4) rfl dX6_pass_73 (fun r73 s73 q73 => ?_)
      obtain ⟨F3, A3, B3, C3, rfl, rfl, hf3, h3, hl3⟩ := q73
      refine P_inN5 dX6_pass_76 rfl rfl ?_
      refine P_goto dX6_pass_79 (tgt := 41) rfl ?_
      exact ih (k + 1) (by omega) F3 A3 B3 C3 _ (FrC.tr hf hf3) (c_in_step hMM hin (by omega) hb (by rw [h62, hkp.1]; exact fun g => absurd (Int32.lt_iff_toInt_lt.mp g) (Int.lt_irrefl _)) hl3) h3
end Cls18
