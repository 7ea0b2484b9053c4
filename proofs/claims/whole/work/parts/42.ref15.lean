def a_stateIn (X : XW) (p t : Int32) : Int32 :=
  if ¬ q_ib p (xp X) = true then -1 else if ¬ ((1 : Int32) ≤ t ∧ t ≤ 500) then -2 else xP (x_ticks (nn t) X) (nn p) 5
def x_dn (X : XW) (p : Nat) : Nat → Nat → Nat
  | 0, i => i
  | n + 1, i => if xP (x_ticks i X) p 5 = 0 then x_dn X p n (i + 1) else i
def a_doneIn (X : XW) (p : Int32) : Int32 :=
  if ¬ q_ib p (xp X) = true then -1 else if 1000 < x_dn X (nn p) 1001 0 then -6 else Int32.ofNat (x_dn X (nn p) 1001 0)
theorem x_dn_le (X : XW) (p : Nat) : ∀ n i, i ≤ x_dn X p n i ∧ x_dn X p n i ≤ i + n := by
  intro n
  induction n with
  | zero => intro i; exact ⟨Nat.le_refl _, Nat.le_refl _⟩
  | succ n ih =>
    intro i
    unfold x_dn
    have h := ih (i + 1)
    split <;> omega
theorem RZ.aside {FI AI A : Nat → Nat → Int32} {m : Nat} {Z : ZW} (hZ : RZ FI AI m Z) (hF : FA m (cpA (cpA AI (m + 8) 0 (m + 1) 0 3506) (m + 9) 0 (m + 2) 0 (4000 * xp (zX Z))) A) : A (m + 8) 2 = Int32.ofNat (xp (zX Z)) ∧ FrM m FI AI FI (cpA (cpA A (m + 1) 0 (m + 8) 0 3506) (m + 2) 0 (m + 9) 0 (4000 * xp (zX Z))) ∧ RZ FI (cpA (cpA A (m + 1) 0 (m + 8) 0 3506) (m + 2) 0 (m + 9) 0 (4000 * xp (zX Z))) m Z := by
  have h40 := hZ.x.p40
  have e8 : ∀ j, j < 3506 → A (m + 8) j = AI (m + 1) j := fun j hj => by
    rw [hF _ (by omega) (by omega), cpA_src (by omega), cpA_in (by omega) (by omega)]
    exact congrArg (AI (m + 1)) (by omega)
  have e9 : ∀ j, j < 4000 * xp (zX Z) → A (m + 9) j = AI (m + 2) j := fun j hj => by
    rw [hF _ (by omega) (by omega), cpA_in (by omega) (by omega), cpA_src (by omega)]
    exact congrArg (AI (m + 2)) (by omega)
  have eo : ∀ a, a ≠ m + 1 → a ≠ m + 2 → a ≠ m + 8 → a ≠ m + 9 → (cpA (cpA A (m + 1) 0 (m + 8) 0 3506) (m + 2) 0 (m + 9) 0 (4000 * xp (zX Z))) a = AI a := fun a g1 g2 g8 g9 => by
    rw [cpA_src g2, cpA_src g1, hF _ g1 g2, cpA_src g9, cpA_src g8]
  refine ⟨(e8 2 (by omega)).trans hZ.x.np, ⟨fun _ _ _ => rfl, fun a ha => eo a (by omega) (by omega) (by omega) (by omega), rfl⟩, ?_⟩
  have hX : RA (cpA (cpA A (m + 1) 0 (m + 8) 0 3506) (m + 2) 0 (m + 9) 0 (4000 * xp (zX Z))) m (zX Z) := by
    refine RF.cp (f := AI (m + 1)) (t := AI (m + 2)) hZ.x (fun j hj => ?_) (fun j hj => ?_)
    · rw [cpA_src (by omega), cpA_in (by omega) (by omega), e8 _ (by omega)]
      exact congrArg (AI (m + 1)) (by omega)
    · rw [cpA_in (by omega) (by omega), cpA_src (by omega), e9 _ (by omega)]
      exact congrArg (AI (m + 2)) (by omega)
  exact hZ.of hX rfl rfl rfl (eo _ (by omega) (by omega) (by omega) (by omega)) (eo _ (by omega) (by omega) (by omega) (by omega)) (eo _ (by omega) (by omega) (by omega) (by omega)) (eo _ (by omega) (by omega) (by omega) (by omega)) (eo _ (by omega) (by omega) (by omega) (by omega)) (eo _ (by omega) (by omega) (by omega) (by omega))
def x_rt (X : XW) (to : Int32) : Nat → Int32 → List Int32 → Option (List Int32)
  | 0, node, acc => if node = to then some acc else none
  | n + 1, node, acc => if node = to then some acc else if xN X (nn node) (3 + nn to) < 0 then none else x_rt X to n (xB X (nn (xN X (nn node) (3 + nn to))) 1) (acc ++ [xN X (nn node) (3 + nn to)])
def x_lr (X : XW) (l : List Int32) : Nat → Int32
  | 0 => 1500
  | n + 1 => if xB X (nn (l.getD n 0)) 2 < x_lr X l n then xB X (nn (l.getD n 0)) 2 else x_lr X l n
def a_leastRoom (X : XW) (from_ to : Int32) : Int32 :=
  if ¬ (q_ib from_ 8 = true ∧ q_ib to 8 = true ∧ ¬ from_ = to) then -1
  else match x_rt X to 8 from_ [] with
  | none => -6
  | some l => x_lr X l l.length
theorem x_rt_ok {X : XW} {M : Nat} (hI : XI M X) {to : Int32} (hto : ib to 8) : ∀ (n : Nat) (node : Int32) (acc l : List Int32), ib node 8 → (∀ b, b ∈ acc → ib b (xb X)) → x_rt X to n node acc = some l → (∀ b, b ∈ l → ib b (xb X)) ∧ acc.length ≤ l.length ∧ l.length ≤ acc.length + n ∧ (¬ node = to → acc.length < l.length) := by
  intro n
  induction n with
  | zero =>
    intro node acc l hn ha h
    unfold x_rt at h
    by_cases e : node = to
    · rw [if_pos e] at h
      cases h
      exact ⟨ha, Nat.le_refl _, Nat.le_refl _, fun hh => absurd e hh⟩
    · rw [if_neg e] at h
      cases h
  | succ n ih =>
    intro node acc l hn ha h
    unfold x_rt at h
    by_cases e : node = to
    · rw [if_pos e] at h
      cases h
      exact ⟨ha, Nat.le_refl _, by omega, fun hh => absurd e hh⟩
    · rw [if_neg e] at h
      by_cases e2 : xN X (nn node) (3 + nn to) < 0
      · rw [if_pos e2] at h
        cases h
      · rw [if_neg e2] at h
        have hb : ib (xN X (nn node) (3 + nn to)) (xb X) := by
          rcases (hI.2.1 _ hn.nn).2 _ hto.nn with h9 | h9
          · rw [h9] at e2; exact absurd (by decide) e2
          · exact h9
        obtain ⟨k1, k2, k3, k4⟩ := ih _ _ l (hI.2.2.1 _ hb.nn).2.1 (fun b hbm => by
          rcases List.mem_append.mp hbm with h9 | h9
          · exact ha b h9
          · rw [List.mem_singleton.mp h9]; exact hb) h
        rw [List.length_append] at k2 k3
        have h1 : ([xN X (nn node) (3 + nn to)] : List Int32).length = 1 := rfl
        exact ⟨k1, by omega, by omega, fun _ => by omega⟩
section Ref15
variable {g : PG} {L : PL} {FI AI : Nat → Nat → Int32} {AL : Nat → Nat → Int64} {AR : Nat → Nat → Option Nat} {m : Nat} {Z : ZW} {M : Nat} {X : XW}
theorem s_stateIn (hM : WM L m) (hZ : RZ FI AI m Z) (hI : XI M (zX Z)) (hMM : M < 80000000) {p t : Int32} : Sp g 9 iX8_stateIn [vr m, vi p, vi t] (L, FI, AI, AL, AR) (0, 0) (RZM L FI AI AL AR m Z (some (vi (a_stateIn (zX Z) p t)))) := by
  refine Sp.of (ls := [some (vr m), some (vi p), some (vi t), none]) (by decide +kernel) rfl rfl ?_
  refine P_aloadn (i := 0) rfl rfl dX8_stateIn_0 ?_
  refine P_iloadn (i := 1) rfl rfl dX8_stateIn_1 ?_
  refine kX8_131 rfl (s_isParcel hM hZ.x) (by decide) (by first | exact hM.k0 | exact hM.k1 | exact hM.k2 | exact hM.k3 | exact hM.k4 | exact hM.k5 | exact hM.k6 | exact hM.k7 | exact hM.k8 | exact hM.k9 | exact hM.k10 | exact hM.k11 | exact hM.k12 | exact hM.k13 | exact hM.k14 | exact hM.k15 | exact hM.k16 | exact hM.k17) rfl dX8_stateIn_2 (fun r2 s2 q2 => ?_)
  obtain ⟨rfl, rfl⟩ := q2
  refine P_ifne dX8_stateIn_5 (tgt := 10) rfl (fun h5 => ?_) (fun h5 => ?_)
  · have hp : ib p (xp (zX Z)) := q_ib_iff.mp (b_t h5)
    refine P_iloadn (i := 2) rfl rfl dX8_stateIn_10 ?_
    refine P_iconst (v := 1) rfl dX8_stateIn_11 ?_
    refine P_sipush (v := 500) rfl dX8_stateIn_12 ?_
    refine kX8_65 rfl s_X8_in (by decide) rfl dX8_stateIn_15 (fun r15 s15 q15 => ?_)
    obtain ⟨rfl, rfl⟩ := q15
    refine P_ifne dX8_stateIn_18 (tgt := 24) rfl (fun h18 => ?_) (fun h18 => ?_)
    · have hc := b_t h18
      have ht : ib t 501 := by
        have h1 := hc.1
        have h2 := hc.2
        rw [Int32.le_iff_toInt_le] at h1 h2
        simp only [Int32.reduceToInt] at h1 h2
        exact ⟨by omega, by omega⟩
      have ht9 := ht.nn
      refine P_aloadn (i := 0) rfl rfl dX8_stateIn_24 ?_
      refine kX8_232 rfl (s_layAside hM (np := xp (zX Z)) hZ.x.p40 hZ.x.np) (by decide) (by first | exact hM.k0 | exact hM.k1 | exact hM.k2 | exact hM.k3 | exact hM.k4 | exact hM.k5 | exact hM.k6 | exact hM.k7 | exact hM.k8 | exact hM.k9 | exact hM.k10 | exact hM.k11 | exact hM.k12 | exact hM.k13 | exact hM.k14 | exact hM.k15 | exact hM.k16 | exact hM.k17) rfl dX8_stateIn_25 (fun r25 s25 q25 => ?_)
      obtain ⟨rfl, rfl⟩ := q25
      have hX1 : RA (cpA (cpA AI (m + 8) 0 (m + 1) 0 3506) (m + 9) 0 (m + 2) 0 (4000 * xp (zX Z))) m (zX Z) := by
        refine RF.cp (f := AI (m + 1)) (t := AI (m + 2)) hZ.x (fun j hj => ?_) (fun j hj => ?_)
        · rw [cpA_src (by omega), cpA_src (by omega)]
        · rw [cpA_src (by omega), cpA_src (by omega)]
      have loop : ∀ n i : Nat, i + n = nn t → ∀ (A : Nat → Nat → Int32), FA m (cpA (cpA AI (m + 8) 0 (m + 1) 0 3506) (m + 9) 0 (m + 2) 0 (4000 * xp (zX Z))) A → RA A m (x_ticks i (zX Z)) → P g 9 iX8_stateIn 30 [some (vr m), some (vi p), some (vi t), some (vi (Int32.ofNat i))] [] (L, FI, A, AL, AR) (0, 0) (RZM L FI AI AL AR m Z (some (vi (a_stateIn (zX Z) p t)))) := by
        intro n
        induction n with
        | zero =>
          intro i hi A hFA hX
          have e : i = nn t := by omega
          subst e
          obtain ⟨hIi, _, k3, _⟩ := XI.ticks (M := M) (zX Z) (nn t) (by omega) hI
          have hp3 : ib p (xp (x_ticks (nn t) (zX Z))) := by rw [k3]; exact hp
          have has := hZ.aside hFA
          refine P_iloadn (i := 3) rfl rfl dX8_stateIn_30 ?_
          refine P_iloadn (i := 2) rfl rfl dX8_stateIn_31 ?_
          refine P_icmpge dX8_stateIn_32 (tgt := 45) rfl (fun h32 => ?_) (fun h32 => absurd ((ht.leN (i := nn t) (by omega)).mpr (Nat.le_refl _)) h32)
          refine P_aloadn (i := 0) rfl rfl dX8_stateIn_45 ?_
          refine P_iloadn (i := 1) rfl rfl dX8_stateIn_46 ?_
          refine P_iconst (v := 5) rfl dX8_stateIn_47 ?_
          refine kX8_102 rfl (s_ofP hM hX (k := 5) hp3 rfl (by decide)) (by decide) (by first | exact hM.k0 | exact hM.k1 | exact hM.k2 | exact hM.k3 | exact hM.k4 | exact hM.k5 | exact hM.k6 | exact hM.k7 | exact hM.k8 | exact hM.k9 | exact hM.k10 | exact hM.k11 | exact hM.k12 | exact hM.k13 | exact hM.k14 | exact hM.k15 | exact hM.k16 | exact hM.k17) rfl dX8_stateIn_48 (fun r48 s48 q48 => ?_)
          obtain ⟨rfl, rfl⟩ := q48
          refine P_is3 (Or.inl dX8_stateIn_51) rfl rfl ?_
          refine P_aloadn (i := 0) rfl rfl dX8_stateIn_52 ?_
          refine kX8_235 rfl (s_layBack hM (np := xp (zX Z)) hZ.x.p40 has.1) (by decide) (by first | exact hM.k0 | exact hM.k1 | exact hM.k2 | exact hM.k3 | exact hM.k4 | exact hM.k5 | exact hM.k6 | exact hM.k7 | exact hM.k8 | exact hM.k9 | exact hM.k10 | exact hM.k11 | exact hM.k12 | exact hM.k13 | exact hM.k14 | exact hM.k15 | exact hM.k16 | exact hM.k17) rfl dX8_stateIn_53 (fun r53 s53 q53 => ?_)
          obtain ⟨rfl, rfl⟩ := q53
          refine P_iloadn (i := 3) rfl rfl dX8_stateIn_56 ?_
          refine P_ireturn rfl dX8_stateIn_57 ?_
          rw [show a_stateIn (zX Z) p t = xP (x_ticks (nn t) (zX Z)) (nn p) 5 from (if_neg (fun hh => hh (b_t h5))).trans (if_neg (fun hh => hh (b_t h18)))]
          exact ⟨_, _, rfl, rfl, has.2.1, has.2.2⟩
        | succ n ih =>
          intro i hi A hFA hX
          have hIi := (XI.ticks (M := M) (zX Z) i (by omega) hI).1
          refine P_iloadn (i := 3) rfl rfl dX8_stateIn_30 ?_
          refine P_iloadn (i := 2) rfl rfl dX8_stateIn_31 ?_
          refine P_icmpge dX8_stateIn_32 (tgt := 45) rfl (fun h32 => absurd h32 (fun h9 => by have h8 : nn t ≤ i := (ht.leN (i := i) (by omega)).mp h9; omega)) (fun h32 => ?_)
          refine P_aloadn (i := 0) rfl rfl dX8_stateIn_35 ?_
          refine kX8_193 rfl (s_passTick hM hX hIi (by omega)) (by decide) (by first | exact hM.k0 | exact hM.k1 | exact hM.k2 | exact hM.k3 | exact hM.k4 | exact hM.k5 | exact hM.k6 | exact hM.k7 | exact hM.k8 | exact hM.k9 | exact hM.k10 | exact hM.k11 | exact hM.k12 | exact hM.k13 | exact hM.k14 | exact hM.k15 | exact hM.k16 | exact hM.k17) rfl dX8_stateIn_36 (fun r36 s36 q36 => ?_)
          obtain ⟨A4, rfl, rfl, hF4, hA4⟩ := q36
          refine P_inN3 dX8_stateIn_39 rfl rfl ?_
          refine P_goto dX8_stateIn_42 (tgt := 30) rfl ?_
          exact ih (i + 1) (by omega) A4 (hFA.tr hF4) hA4
      
      refine P_iconst (v := 0) rfl dX8_stateIn_28 ?_
      refine P_is3 (Or.inl dX8_stateIn_29) rfl rfl ?_
      exact loop (nn t) 0 (by omega) _ FA.rf hX1
    · refine P_bipush (v := (-2)) rfl dX8_stateIn_21 ?_
      refine P_ireturn rfl dX8_stateIn_23 ?_
      rw [show a_stateIn (zX Z) p t = -2 from (if_neg (fun hh => hh (b_t h5))).trans (if_pos (b_f h18))]
      exact ⟨_, _, rfl, rfl, FrM.rf, hZ⟩
  · refine P_iconst (v := (-1)) rfl dX8_stateIn_8 ?_
    refine P_ireturn rfl dX8_stateIn_9 ?_
    rw [show a_stateIn (zX Z) p t = -1 from if_pos (b_f h5)]
    exact ⟨_, _, rfl, rfl, FrM.rf, hZ⟩
theorem s_doneIn (hM : WM L m) (hZ : RZ FI AI m Z) (hI : XI M (zX Z)) (hMM : M < 80000000) {p : Int32} : Sp g 9 iX8_doneIn [vr m, vi p] (L, FI, AI, AL, AR) (0, 0) (RZM L FI AI AL AR m Z (some (vi (a_doneIn (zX Z) p)))) := by
  refine Sp.of (ls := [some (vr m), some (vi p), none]) (by decide +kernel) rfl rfl ?_
  refine P_aloadn (i := 0) rfl rfl dX8_doneIn_0 ?_
  refine P_iloadn (i := 1) rfl rfl dX8_doneIn_1 ?_
  refine kX8_131 rfl (s_isParcel hM hZ.x) (by decide) (by first | exact hM.k0 | exact hM.k1 | exact hM.k2 | exact hM.k3 | exact hM.k4 | exact hM.k5 | exact hM.k6 | exact hM.k7 | exact hM.k8 | exact hM.k9 | exact hM.k10 | exact hM.k11 | exact hM.k12 | exact hM.k13 | exact hM.k14 | exact hM.k15 | exact hM.k16 | exact hM.k17) rfl dX8_doneIn_2 (fun r2 s2 q2 => ?_)
  obtain ⟨rfl, rfl⟩ := q2
  refine P_ifne dX8_doneIn_5 (tgt := 10) rfl (fun h5 => ?_) (fun h5 => ?_)
  · have hp : ib p (xp (zX Z)) := q_ib_iff.mp (b_t h5)
    refine P_aloadn (i := 0) rfl rfl dX8_doneIn_10 ?_
    refine kX8_232 rfl (s_layAside hM (np := xp (zX Z)) hZ.x.p40 hZ.x.np) (by decide) (by first | exact hM.k0 | exact hM.k1 | exact hM.k2 | exact hM.k3 | exact hM.k4 | exact hM.k5 | exact hM.k6 | exact hM.k7 | exact hM.k8 | exact hM.k9 | exact hM.k10 | exact hM.k11 | exact hM.k12 | exact hM.k13 | exact hM.k14 | exact hM.k15 | exact hM.k16 | exact hM.k17) rfl dX8_doneIn_11 (fun r11 s11 q11 => ?_)
    obtain ⟨rfl, rfl⟩ := q11
    have hX1 : RA (cpA (cpA AI (m + 8) 0 (m + 1) 0 3506) (m + 9) 0 (m + 2) 0 (4000 * xp (zX Z))) m (zX Z) := by
      refine RF.cp (f := AI (m + 1)) (t := AI (m + 2)) hZ.x (fun j hj => ?_) (fun j hj => ?_)
      · rw [cpA_src (by omega), cpA_src (by omega)]
      · rw [cpA_src (by omega), cpA_src (by omega)]
    have J42 : ∀ (i : Nat) (A : Nat → Nat → Int32), i ≤ 1001 → FA m (cpA (cpA AI (m + 8) 0 (m + 1) 0 3506) (m + 9) 0 (m + 2) 0 (4000 * xp (zX Z))) A → x_dn (zX Z) (nn p) 1001 0 = i → P g 9 iX8_doneIn 42 [some (vr m), some (vi p), some (vi (Int32.ofNat i))] [] (L, FI, A, AL, AR) (0, 0) (RZM L FI AI AL AR m Z (some (vi (a_doneIn (zX Z) p)))) := by
      intro i A hi hFA hf
      have has := hZ.aside hFA
      refine P_aloadn (i := 0) rfl rfl dX8_doneIn_42 ?_
      refine kX8_235 rfl (s_layBack hM (np := xp (zX Z)) hZ.x.p40 has.1) (by decide) (by first | exact hM.k0 | exact hM.k1 | exact hM.k2 | exact hM.k3 | exact hM.k4 | exact hM.k5 | exact hM.k6 | exact hM.k7 | exact hM.k8 | exact hM.k9 | exact hM.k10 | exact hM.k11 | exact hM.k12 | exact hM.k13 | exact hM.k14 | exact hM.k15 | exact hM.k16 | exact hM.k17) rfl dX8_doneIn_43 (fun r43 s43 q43 => ?_)
      obtain ⟨rfl, rfl⟩ := q43
      refine P_iloadn (i := 2) rfl rfl dX8_doneIn_46 ?_
      refine P_sipush (v := 1000) rfl dX8_doneIn_47 ?_
      refine P_icmple dX8_doneIn_50 (tgt := 58) rfl (fun h50 => ?_) (fun h50 => ?_)
      · refine P_iloadn (i := 2) rfl rfl dX8_doneIn_58 ?_
        refine P_ireturn rfl dX8_doneIn_59 ?_
        rw [show a_doneIn (zX Z) p = Int32.ofNat (x_dn (zX Z) (nn p) 1001 0) from (if_neg (fun hh => hh (b_t h5))).trans (if_neg (by have h8 := (n_le (a := i) (b := 1000) (by omega) (by omega)).mp h50; omega)), hf]
        exact ⟨_, _, rfl, rfl, has.2.1, has.2.2⟩
      · refine P_bipush (v := (-6)) rfl dX8_doneIn_53 ?_
        refine P_goto dX8_doneIn_55 (tgt := 59) rfl ?_
        refine P_ireturn rfl dX8_doneIn_59 ?_
        rw [show a_doneIn (zX Z) p = -6 from (if_neg (fun hh => hh (b_t h5))).trans (if_pos (by have h8 : ¬ i ≤ 1000 := fun hh => h50 ((n_le (a := i) (b := 1000) (by omega) (by omega)).mpr hh); omega))]
        exact ⟨_, _, rfl, rfl, has.2.1, has.2.2⟩
    have loop : ∀ n i : Nat, i + n = 1001 → ∀ (A : Nat → Nat → Int32), FA m (cpA (cpA AI (m + 8) 0 (m + 1) 0 3506) (m + 9) 0 (m + 2) 0 (4000 * xp (zX Z))) A → RA A m (x_ticks i (zX Z)) → x_dn (zX Z) (nn p) 1001 0 = x_dn (zX Z) (nn p) n i → P g 9 iX8_doneIn 16 [some (vr m), some (vi p), some (vi (Int32.ofNat i))] [] (L, FI, A, AL, AR) (0, 0) (RZM L FI AI AL AR m Z (some (vi (a_doneIn (zX Z) p)))) := by
      intro n
      induction n with
      | zero =>
        intro i hi A hFA hX hf
        refine P_iloadn (i := 2) rfl rfl dX8_doneIn_16 ?_
        refine P_sipush (v := 1000) rfl dX8_doneIn_17 ?_
        refine P_icmpgt dX8_doneIn_20 (tgt := 42) rfl (fun h20 => ?_) (fun h20 => absurd ((n_lt (a := 1000) (b := i) (by omega) (by omega)).mpr (by omega)) h20)
        exact J42 i A (by omega) hFA hf
      | succ n ih =>
        intro i hi A hFA hX hf
        obtain ⟨hIi, _, k3, _⟩ := XI.ticks (M := M) (zX Z) i (by omega) hI
        have hp3 : ib p (xp (x_ticks i (zX Z))) := by rw [k3]; exact hp
        refine P_iloadn (i := 2) rfl rfl dX8_doneIn_16 ?_
        refine P_sipush (v := 1000) rfl dX8_doneIn_17 ?_
        refine P_icmpgt dX8_doneIn_20 (tgt := 42) rfl (fun h20 => absurd h20 (fun h9 => by have h8 := (n_lt (a := 1000) (b := i) (by omega) (by omega)).mp h9; omega)) (fun h20 => ?_)
        refine P_aloadn (i := 0) rfl rfl dX8_doneIn_23 ?_
        refine P_iloadn (i := 1) rfl rfl dX8_doneIn_24 ?_
        refine P_iconst (v := 5) rfl dX8_doneIn_25 ?_
        refine kX8_102 rfl (s_ofP hM hX (k := 5) hp3 rfl (by decide)) (by decide) (by first | exact hM.k0 | exact hM.k1 | exact hM.k2 | exact hM.k3 | exact hM.k4 | exact hM.k5 | exact hM.k6 | exact hM.k7 | exact hM.k8 | exact hM.k9 | exact hM.k10 | exact hM.k11 | exact hM.k12 | exact hM.k13 | exact hM.k14 | exact hM.k15 | exact hM.k16 | exact hM.k17) rfl dX8_doneIn_26 (fun r26 s26 q26 => ?_)
        obtain ⟨rfl, rfl⟩ := q26
        refine P_ifne dX8_doneIn_29 (tgt := 42) rfl (fun h29 => ?_) (fun h29 => ?_)
        · exact J42 i A (by omega) hFA (hf.trans (if_neg h29))
        · refine P_aloadn (i := 0) rfl rfl dX8_doneIn_32 ?_
          refine kX8_193 rfl (s_passTick hM hX hIi (by omega)) (by decide) (by first | exact hM.k0 | exact hM.k1 | exact hM.k2 | exact hM.k3 | exact hM.k4 | exact hM.k5 | exact hM.k6 | exact hM.k7 | exact hM.k8 | exact hM.k9 | exact hM.k10 | exact hM.k11 | exact hM.k12 | exact hM.k13 | exact hM.k14 | exact hM.k15 | exact hM.k16 | exact hM.k17) rfl dX8_doneIn_33 (fun r33 s33 q33 => ?_)
          obtain ⟨A4, rfl, rfl, hF4, hA4⟩ := q33
          refine P_inN2 dX8_doneIn_36 rfl rfl ?_
          refine P_goto dX8_doneIn_39 (tgt := 16) rfl ?_
          exact ih (i + 1) (by omega) A4 (hFA.tr hF4) hA4 (hf.trans (if_pos h29))
    
    refine P_iconst (v := 0) rfl dX8_doneIn_14 ?_
    refine P_is2 (Or.inl dX8_doneIn_15) rfl rfl ?_
    exact loop 1001 0 (by omega) _ FA.rf hX1 rfl
  · refine P_iconst (v := (-1)) rfl dX8_doneIn_8 ?_
    refine P_ireturn rfl dX8_doneIn_9 ?_
    rw [show a_doneIn (zX Z) p = -1 from if_pos (b_f h5)]
    exact ⟨_, _, rfl, rfl, FrM.rf, hZ⟩
def QFR (L : PL) (FI AI : Nat → Nat → Int32) (AL : Nat → Nat → Int64) (AR : Nat → Nat → Option Nat) (m : Nat) (X : XW) (from_ to : Int32) : Option PV → PS → Prop := fun r σ => ∃ F2 A2, σ = (L, F2, A2, AL, AR) ∧ (∀ j a, ¬ (j = 270 ∧ a = m) → F2 j a = FI j a) ∧ (∀ a, a ≠ m + 11 → A2 a = AI a) ∧ ((x_rt X to 8 from_ [] = none ∧ r = some (vi 0)) ∨ ∃ l, x_rt X to 8 from_ [] = some l ∧ r = some (vi 1) ∧ F2 270 m = Int32.ofNat l.length ∧ ∀ i, i < l.length → A2 (m + 11) i = l.getD i 0)
theorem n_add3 {q : Int32} {k : Nat} (hq : ib q k) : (3 : Int32) + q = Int32.ofNat (3 + nn q) := by
  have h2 := hq.eq
  show _ = Int32.ofNat (3 + q.toNatClampNeg)
  rw [Int32.ofNat_add, ← h2]
  rfl
theorem p_up_of {α : Type} {f : Nat → Nat → α} {i j a b : Nat} {v : α} (h : ¬ (a = i ∧ b = j)) : p_up f i j v a b = f a b := if_neg h
theorem RA.oth {AI : Nat → Nat → Int32} {m a j : Nat} {v : Int32} {X : XW} (h : RA AI m X) (h1 : a ≠ m + 1) (h2 : a ≠ m + 2) : RA (p_up AI a j v) m X := by
  show RF (p_up AI a j v (m + 1)) (p_up AI a j v (m + 2)) X
  rw [p_up_oth (Ne.symm h1), p_up_oth (Ne.symm h2)]
  exact h
theorem s_findRoute (hM : WM L m) (hA : RA AI m X) (hI : XI M X) {from_ to : Int32} (hfrom : ib from_ 8) (hto : ib to 8) : Sp g 1 iX8_findRoute [vr m, vi from_, vi to] (L, FI, AI, AL, AR) (0, 0) (QFR L FI AI AL AR m X from_ to) := by
  refine Sp.of (ls := [some (vr m), some (vi from_), some (vi to), none, none]) (by decide +kernel) rfl rfl ?_
  have hto9 := hto.nn
  have loop : ∀ (n : Nat) (node : Int32) (acc : List Int32) (F2 A2 : Nat → Nat → Int32), ib node 8 → x_rt X to 8 from_ [] = x_rt X to n node acc → acc.length + n = 8 → (∀ j a, ¬ (j = 270 ∧ a = m) → F2 j a = FI j a) → (∀ a, a ≠ m + 11 → A2 a = AI a) → F2 270 m = Int32.ofNat acc.length → (∀ i, i < acc.length → A2 (m + 11) i = acc.getD i 0) → P g 1 iX8_findRoute 7 [some (vr m), none, some (vi to), some (vi node), none] [] (L, F2, A2, AL, AR) (0, 0) (QFR L FI AI AL AR m X from_ to) := by
    intro n
    induction n with
    | zero =>
      intro node acc F2 A2 hnode hrt hlen hF hA9 h270 hal
      refine P_iloadn (i := 3) rfl rfl dX8_findRoute_7 ?_
      refine P_iloadn (i := 2) rfl rfl dX8_findRoute_8 ?_
      refine P_icmpeq dX8_findRoute_9 (tgt := 70) rfl (fun h9 => ?_) (fun h9 => ?_)
      · refine P_iloadn (i := 3) rfl rfl dX8_findRoute_70 ?_
        refine P_iloadn (i := 2) rfl rfl dX8_findRoute_71 ?_
        refine P_icmpne dX8_findRoute_72 (tgt := 79) rfl (fun h72 => ?_) (fun h72 => ?_)
        · refine P_iconst (v := 0) rfl dX8_findRoute_79 ?_
          refine P_zreturn rfl (by first | exact Or.inl rfl | exact Or.inr rfl | assumption) dX8_findRoute_80 ?_
          exact absurd h9 h72
        · refine P_iconst (v := 1) rfl dX8_findRoute_75 ?_
          refine P_goto dX8_findRoute_76 (tgt := 80) rfl ?_
          refine P_zreturn rfl (by first | exact Or.inl rfl | exact Or.inr rfl | assumption) dX8_findRoute_80 ?_
          refine ⟨F2, A2, rfl, hF, hA9, Or.inr ⟨acc, ?_, rfl, h270, hal⟩⟩
          rw [hrt]
          exact if_pos h9
      · refine P_aloadn (i := 0) rfl rfl dX8_findRoute_12 ?_
        refine gX8_217 rfl (by first | exact hM.k0 | exact hM.k1 | exact hM.k2 | exact hM.k3 | exact hM.k4 | exact hM.k5 | exact hM.k6 | exact hM.k7 | exact hM.k8 | exact hM.k9 | exact hM.k10 | exact hM.k11 | exact hM.k12 | exact hM.k13 | exact hM.k14 | exact hM.k15 | exact hM.k16 | exact hM.k17) h270 dX8_findRoute_13 ?_
        refine P_bipush (v := 8) rfl dX8_findRoute_16 ?_
        refine P_icmpge dX8_findRoute_18 (tgt := 70) rfl (fun h18 => ?_) (fun h18 => absurd ((n_le (a := 8) (b := acc.length) (by omega) (by omega)).mpr (by omega)) h18)
        refine P_iloadn (i := 3) rfl rfl dX8_findRoute_70 ?_
        refine P_iloadn (i := 2) rfl rfl dX8_findRoute_71 ?_
        refine P_icmpne dX8_findRoute_72 (tgt := 79) rfl (fun h72 => ?_) (fun h72 => ?_)
        · refine P_iconst (v := 0) rfl dX8_findRoute_79 ?_
          refine P_zreturn rfl (by first | exact Or.inl rfl | exact Or.inr rfl | assumption) dX8_findRoute_80 ?_
          refine ⟨F2, A2, rfl, hF, hA9, Or.inl ⟨?_, rfl⟩⟩
          rw [hrt]
          exact if_neg h72
        · refine P_iconst (v := 1) rfl dX8_findRoute_75 ?_
          refine P_goto dX8_findRoute_76 (tgt := 80) rfl ?_
          refine P_zreturn rfl (by first | exact Or.inl rfl | exact Or.inr rfl | assumption) dX8_findRoute_80 ?_
          refine ⟨F2, A2, rfl, hF, hA9, Or.inr ⟨acc, ?_, rfl, h270, hal⟩⟩
          rw [hrt]
          exact if_pos h72
    | succ n ih =>
      intro node acc F2 A2 hnode hrt hlen hF hA9 h270 hal
      have hA2 : RA A2 m X := by
        show RF (A2 (m + 1)) (A2 (m + 2)) X
        rw [hA9 _ (by omega), hA9 _ (by omega)]
        exact hA
      refine P_iloadn (i := 3) rfl rfl dX8_findRoute_7 ?_
      refine P_iloadn (i := 2) rfl rfl dX8_findRoute_8 ?_
      refine P_icmpeq dX8_findRoute_9 (tgt := 70) rfl (fun h9 => ?_) (fun h9 => ?_)
      · refine P_iloadn (i := 3) rfl rfl dX8_findRoute_70 ?_
        refine P_iloadn (i := 2) rfl rfl dX8_findRoute_71 ?_
        refine P_icmpne dX8_findRoute_72 (tgt := 79) rfl (fun h72 => ?_) (fun h72 => ?_)
        · refine P_iconst (v := 0) rfl dX8_findRoute_79 ?_
          refine P_zreturn rfl (by first | exact Or.inl rfl | exact Or.inr rfl | assumption) dX8_findRoute_80 ?_
          exact absurd h9 h72
        · refine P_iconst (v := 1) rfl dX8_findRoute_75 ?_
          refine P_goto dX8_findRoute_76 (tgt := 80) rfl ?_
          refine P_zreturn rfl (by first | exact Or.inl rfl | exact Or.inr rfl | assumption) dX8_findRoute_80 ?_
          refine ⟨F2, A2, rfl, hF, hA9, Or.inr ⟨acc, ?_, rfl, h270, hal⟩⟩
          rw [hrt]
          exact if_pos h9
      · refine P_aloadn (i := 0) rfl rfl dX8_findRoute_12 ?_
        refine gX8_217 rfl (by first | exact hM.k0 | exact hM.k1 | exact hM.k2 | exact hM.k3 | exact hM.k4 | exact hM.k5 | exact hM.k6 | exact hM.k7 | exact hM.k8 | exact hM.k9 | exact hM.k10 | exact hM.k11 | exact hM.k12 | exact hM.k13 | exact hM.k14 | exact hM.k15 | exact hM.k16 | exact hM.k17) h270 dX8_findRoute_13 ?_
        refine P_bipush (v := 8) rfl dX8_findRoute_16 ?_
        refine P_icmpge dX8_findRoute_18 (tgt := 70) rfl (fun h18 => absurd h18 (fun h8 => by have h7 := (n_le (a := 8) (b := acc.length) (by omega) (by omega)).mp h8; omega)) (fun h18 => ?_)
        refine P_aloadn (i := 0) rfl rfl dX8_findRoute_21 ?_
        refine P_iloadn (i := 3) rfl rfl dX8_findRoute_22 ?_
        refine P_iconst (v := 3) rfl dX8_findRoute_23 ?_
        refine P_iloadn (i := 2) rfl rfl dX8_findRoute_24 ?_
        refine P_iadd dX8_findRoute_25 ?_
        refine kX8_152 rfl (s_ofN hM hA2 (k := 3 + nn to) hnode (n_add3 hto) (by omega)) (by decide) (by first | exact hM.k0 | exact hM.k1 | exact hM.k2 | exact hM.k3 | exact hM.k4 | exact hM.k5 | exact hM.k6 | exact hM.k7 | exact hM.k8 | exact hM.k9 | exact hM.k10 | exact hM.k11 | exact hM.k12 | exact hM.k13 | exact hM.k14 | exact hM.k15 | exact hM.k16 | exact hM.k17) rfl dX8_findRoute_26 (fun r26 s26 q26 => ?_)
        obtain ⟨rfl, rfl⟩ := q26
        obtain ⟨b, hbe⟩ : ∃ b, b = xN X (nn node) (3 + nn to) := ⟨_, rfl⟩
        rw [← hbe]
        refine P_is4 (Or.inr dX8_findRoute_29) rfl rfl ?_
        refine P_iload (i := 4) rfl dX8_findRoute_31 ?_
        refine P_ifge dX8_findRoute_33 (tgt := 38) rfl (fun h33 => ?_) (fun h33 => ?_)
        · have hb : ib b (xb X) := by
            rcases (hI.2.1 _ hnode.nn).2 _ hto.nn with h8 | h8
            · rw [hbe, h8] at h33; exact absurd h33 (by decide)
            · rw [hbe]; exact h8
          refine P_aloadn (i := 0) rfl rfl dX8_findRoute_38 ?_
          refine gX8_44 rfl (by first | exact hM.k0 | exact hM.k1 | exact hM.k2 | exact hM.k3 | exact hM.k4 | exact hM.k5 | exact hM.k6 | exact hM.k7 | exact hM.k8 | exact hM.k9 | exact hM.k10 | exact hM.k11 | exact hM.k12 | exact hM.k13 | exact hM.k14 | exact hM.k15 | exact hM.k16 | exact hM.k17) hM.r269 dX8_findRoute_39 ?_
          refine P_aloadn (i := 0) rfl rfl dX8_findRoute_42 ?_
          refine gX8_217 rfl (by first | exact hM.k0 | exact hM.k1 | exact hM.k2 | exact hM.k3 | exact hM.k4 | exact hM.k5 | exact hM.k6 | exact hM.k7 | exact hM.k8 | exact hM.k9 | exact hM.k10 | exact hM.k11 | exact hM.k12 | exact hM.k13 | exact hM.k14 | exact hM.k15 | exact hM.k16 | exact hM.k17) h270 dX8_findRoute_43 ?_
          refine P_iload (i := 4) rfl dX8_findRoute_46 ?_
          refine P_isN (j := acc.length) (by first | exact hM.k0 | exact hM.k1 | exact hM.k2 | exact hM.k3 | exact hM.k4 | exact hM.k5 | exact hM.k6 | exact hM.k7 | exact hM.k8 | exact hM.k9 | exact hM.k10 | exact hM.k11 | exact hM.k12 | exact hM.k13 | exact hM.k14 | exact hM.k15 | exact hM.k16 | exact hM.k17) rfl (by first | omega | (simp only [hM.l1, hM.l2, hM.l3, hM.l4, hM.l5, hM.l6, hM.l7, hM.l8, hM.l9, hM.l10, hM.l11, hM.l12, hM.l13, hM.l14, hM.l15, hM.l16, hM.l17]; omega)) (by first | omega | (simp only [hM.l1, hM.l2, hM.l3, hM.l4, hM.l5, hM.l6, hM.l7, hM.l8, hM.l9, hM.l10, hM.l11, hM.l12, hM.l13, hM.l14, hM.l15, hM.l16, hM.l17]; omega)) dX8_findRoute_48 ?_
          refine P_aloadn (i := 0) rfl rfl dX8_findRoute_49 ?_
          refine P_dup rfl dX8_findRoute_50 ?_
          refine gX8_217 rfl (by first | exact hM.k0 | exact hM.k1 | exact hM.k2 | exact hM.k3 | exact hM.k4 | exact hM.k5 | exact hM.k6 | exact hM.k7 | exact hM.k8 | exact hM.k9 | exact hM.k10 | exact hM.k11 | exact hM.k12 | exact hM.k13 | exact hM.k14 | exact hM.k15 | exact hM.k16 | exact hM.k17) h270 dX8_findRoute_51 ?_
          refine P_iconst (v := 1) rfl dX8_findRoute_54 ?_
          refine P_iadd dX8_findRoute_55 ?_
          refine uX8_217 rfl (by first | exact hM.k0 | exact hM.k1 | exact hM.k2 | exact hM.k3 | exact hM.k4 | exact hM.k5 | exact hM.k6 | exact hM.k7 | exact hM.k8 | exact hM.k9 | exact hM.k10 | exact hM.k11 | exact hM.k12 | exact hM.k13 | exact hM.k14 | exact hM.k15 | exact hM.k16 | exact hM.k17) dX8_findRoute_56 ?_
          refine P_aloadn (i := 0) rfl rfl dX8_findRoute_59 ?_
          refine P_iload (i := 4) rfl dX8_findRoute_60 ?_
          refine P_iconst (v := 1) rfl dX8_findRoute_62 ?_
          refine kX8_94 rfl (s_ofB hM (hA2.oth (show m + 11 ≠ m + 1 by omega) (show m + 11 ≠ m + 2 by omega)) (k := 1) hb rfl (by decide)) (by decide) (by first | exact hM.k0 | exact hM.k1 | exact hM.k2 | exact hM.k3 | exact hM.k4 | exact hM.k5 | exact hM.k6 | exact hM.k7 | exact hM.k8 | exact hM.k9 | exact hM.k10 | exact hM.k11 | exact hM.k12 | exact hM.k13 | exact hM.k14 | exact hM.k15 | exact hM.k16 | exact hM.k17) rfl dX8_findRoute_63 (fun r63 s63 q63 => ?_)
          obtain ⟨rfl, rfl⟩ := q63
          refine P_is3 (Or.inl dX8_findRoute_66) rfl rfl ?_
          refine P_goto dX8_findRoute_67 (tgt := 7) rfl ?_
          refine P_few (ls2 := [some (vr m), none, some (vi to), some (vi (xB X (nn b) 1)), none]) ⟨rfl, rfl, rfl, trivial⟩ ?_
          refine ih _ (acc ++ [b]) _ _ (hI.2.2.1 _ hb.nn).2.1 ?_ ?_ ?_ ?_ ?_ ?_
          · rw [hrt, hbe]
            exact (if_neg h9).trans (if_neg (fun hh => Int32.not_lt.mpr h33 (by rw [hbe]; exact hh)))
          · rw [List.length_append]; show acc.length + 1 + n = 8; omega
          · intro j a hja
            exact (p_up_of (fun hh => hja hh)).trans (hF j a hja)
          · intro a ha
            exact (p_up_oth ha).trans (hA9 a ha)
          · rw [List.length_append]
            exact (p_up_eq _ _ _ _).trans (n_add acc.length 1)
          · intro i hi
            rw [List.length_append] at hi
            have hi2 : i < acc.length + 1 := hi
            by_cases e : i = acc.length
            · rw [e, p_up_eq, List.getD_eq_getElem?_getD, List.getElem?_append_right (Nat.le_refl _), Nat.sub_self]
              rfl
            · rw [p_up_n2 _ _ _ _ e, hal i (by omega), List.getD_eq_getElem?_getD, List.getD_eq_getElem?_getD, List.getElem?_append_left (by omega)]
        · refine P_iconst (v := 0) rfl dX8_findRoute_36 ?_
          refine P_zreturn rfl (by first | exact Or.inl rfl | exact Or.inr rfl | assumption) dX8_findRoute_37 ?_
          refine ⟨F2, A2, rfl, hF, hA9, Or.inl ⟨?_, rfl⟩⟩
          rw [hrt]
          exact (if_neg h9).trans (if_pos (by rw [← hbe]; exact Int32.not_le.mp h33))
  refine P_aloadn (i := 0) rfl rfl dX8_findRoute_0 ?_
  refine P_iconst (v := 0) rfl dX8_findRoute_1 ?_
  refine uX8_217 rfl (by first | exact hM.k0 | exact hM.k1 | exact hM.k2 | exact hM.k3 | exact hM.k4 | exact hM.k5 | exact hM.k6 | exact hM.k7 | exact hM.k8 | exact hM.k9 | exact hM.k10 | exact hM.k11 | exact hM.k12 | exact hM.k13 | exact hM.k14 | exact hM.k15 | exact hM.k16 | exact hM.k17) dX8_findRoute_2 ?_
  refine P_iloadn (i := 1) rfl rfl dX8_findRoute_5 ?_
  refine P_is3 (Or.inl dX8_findRoute_6) rfl rfl ?_
  refine P_few (ls2 := [some (vr m), none, some (vi to), some (vi from_), none]) ⟨rfl, rfl, rfl, trivial⟩ ?_
  exact loop 8 from_ [] _ AI hfrom rfl rfl (fun j a hja => p_up_of hja) (fun _ _ => rfl) (p_up_eq _ _ _ _) (fun i hi => absurd hi (Nat.not_lt_zero i))
theorem RZ.same {FI AI F2 A2 : Nat → Nat → Int32} {m : Nat} {Z : ZW} (hZ : RZ FI AI m Z) (hF : ∀ j, j ≠ 270 → j ≠ 275 → F2 j m = FI j m) (hFo : ∀ j a, a ≠ m → F2 j a = FI j a) (hA : ∀ a, (a < m + 11 ∨ m + 16 ≤ a) → A2 a = AI a) : FrM m FI AI F2 A2 ∧ RZ F2 A2 m Z := by
  refine ⟨⟨hFo, fun a ha => hA a (by omega), hF 278 (by decide) (by decide)⟩, ?_⟩
  have hX : RA A2 m (zX Z) := by
    show RF (A2 (m + 1)) (A2 (m + 2)) (zX Z)
    rw [hA _ (by omega), hA _ (by omega)]
    exact hZ.x
  exact hZ.of hX (hF _ (by decide) (by decide)) (hF _ (by decide) (by decide)) (hF _ (by decide) (by decide)) (hA _ (by omega)) (hA _ (by omega)) (hA _ (by omega)) (hA _ (by omega)) (hA _ (by omega)) (hA _ (by omega))
theorem s_leastRoom (hM : WM L m) (hZ : RZ FI AI m Z) (hI : XI M (zX Z)) {from_ to : Int32} : Sp g 3 iX8_leastRoom [vr m, vi from_, vi to] (L, FI, AI, AL, AR) (0, 0) (RZM L FI AI AL AR m Z (some (vi (a_leastRoom (zX Z) from_ to)))) := by
  refine Sp.of (ls := [some (vr m), some (vi from_), some (vi to), none, none]) (by decide +kernel) rfl rfl ?_
  refine P_iloadn (i := 1) rfl rfl dX8_leastRoom_0 ?_
  refine P_iloadn (i := 2) rfl rfl dX8_leastRoom_1 ?_
  refine kX8_87 rfl s_areNodes (by decide) rfl dX8_leastRoom_2 (fun r2 s2 q2 => ?_)
  obtain ⟨rfl, rfl⟩ := q2
  refine P_ifne dX8_leastRoom_5 (tgt := 10) rfl (fun h5 => ?_) (fun h5 => ?_)
  · have hpr := b_t h5
    have hfrom : ib from_ 8 := q_ib_iff.mp hpr.1
    have hto : ib to 8 := q_ib_iff.mp hpr.2.1
    refine P_aloadn (i := 0) rfl rfl dX8_leastRoom_10 ?_
    refine P_iloadn (i := 1) rfl rfl dX8_leastRoom_11 ?_
    refine P_iloadn (i := 2) rfl rfl dX8_leastRoom_12 ?_
    refine kX8_220 rfl (s_findRoute hM hZ.x hI hfrom hto) (by decide) (by first | exact hM.k0 | exact hM.k1 | exact hM.k2 | exact hM.k3 | exact hM.k4 | exact hM.k5 | exact hM.k6 | exact hM.k7 | exact hM.k8 | exact hM.k9 | exact hM.k10 | exact hM.k11 | exact hM.k12 | exact hM.k13 | exact hM.k14 | exact hM.k15 | exact hM.k16 | exact hM.k17) rfl dX8_leastRoom_13 (fun r13 s13 q13 => ?_)
    obtain ⟨F2, A2, rfl, hF, hAo, hq⟩ := q13
    rcases hq with hq | hq
    · obtain ⟨hq, rfl⟩ := hq
      have hq : _ ∧ True := ⟨hq, trivial⟩
      refine P_ifne dX8_leastRoom_16 (tgt := 22) rfl (fun h16 => ?_) (fun h16 => ?_)
      · exact absurd rfl h16
      · refine P_bipush (v := (-6)) rfl dX8_leastRoom_19 ?_
        refine P_ireturn rfl dX8_leastRoom_21 ?_
        have hop : a_leastRoom (zX Z) from_ to = -6 := by
          unfold a_leastRoom
          rw [if_neg (fun hh => hh hpr), hq.1]
        rw [hop]
        exact ⟨_, _, rfl, rfl, hZ.same (F2 := F2) (A2 := A2) (fun j hj _ => hF j m (fun hh => hj hh.1)) (fun j a ha => hF j a (fun hh => ha hh.2)) (fun a ha => hAo a (by omega))⟩
    · obtain ⟨l, hl, rfl, h270, hal⟩ := hq
      obtain ⟨k1, k2, k3, k4⟩ := x_rt_ok hI hto 8 from_ [] l hfrom (fun b hb => by cases hb) hl
      have k5 : 0 < l.length := k4 hpr.2.2
      have k6 : l.length ≤ 0 + 8 := k3
      have hbi : ∀ i, i < l.length → ib (l.getD i 0) (xb (zX Z)) := fun i hi => k1 _ (by rw [List.getD_eq_getElem?_getD, List.getElem?_eq_getElem hi]; exact List.getElem_mem hi)
      have hA2 : RA A2 m (zX Z) := by
        show RF (A2 (m + 1)) (A2 (m + 2)) (zX Z)
        rw [hAo _ (by omega), hAo _ (by omega)]
        exact hZ.x
      have hfin := hZ.same (F2 := F2) (A2 := A2) (fun j hj _ => hF j m (fun hh => hj hh.1)) (fun j a ha => hF j a (fun hh => ha hh.2)) (fun a ha => hAo a (by omega))
      have hop : a_leastRoom (zX Z) from_ to = x_lr (zX Z) l l.length := by
        unfold a_leastRoom
        rw [if_neg (fun hh => hh hpr), hl]
      have hlr1 : x_lr (zX Z) l 1 = xB (zX Z) (nn (l.getD 0 0)) 2 := by
        have h9 := (hI.2.2.1 _ (hbi 0 k5).nn).2.2.1.2
        show (if xB (zX Z) (nn (l.getD 0 0)) 2 < 1500 then xB (zX Z) (nn (l.getD 0 0)) 2 else 1500) = _
        by_cases e : xB (zX Z) (nn (l.getD 0 0)) 2 < 1500
        · rw [if_pos e]
        · rw [if_neg e]
          have h8 := Int32.not_lt.mp e
          rw [Int32.le_iff_toInt_le] at h8
          simp only [Int32.reduceToInt] at h8
          rw [i_eq]
          simp only [Int32.reduceToInt]
          omega
      have loop : ∀ n i : Nat, i + n = l.length → 1 ≤ i → P g 3 iX8_leastRoom 37 [some (vr m), some (vi from_), some (vi to), some (vi (x_lr (zX Z) l i)), some (vi (Int32.ofNat i))] [] (L, F2, A2, AL, AR) (0, 0) (RZM L FI AI AL AR m Z (some (vi (a_leastRoom (zX Z) from_ to)))) := by
        intro n
        induction n with
        | zero =>
          intro i hi h1
          refine P_iload (i := 4) rfl dX8_leastRoom_37 ?_
          refine P_aloadn (i := 0) rfl rfl dX8_leastRoom_39 ?_
          refine gX8_217 rfl (by first | exact hM.k0 | exact hM.k1 | exact hM.k2 | exact hM.k3 | exact hM.k4 | exact hM.k5 | exact hM.k6 | exact hM.k7 | exact hM.k8 | exact hM.k9 | exact hM.k10 | exact hM.k11 | exact hM.k12 | exact hM.k13 | exact hM.k14 | exact hM.k15 | exact hM.k16 | exact hM.k17) h270 dX8_leastRoom_40 ?_
          refine P_icmpge dX8_leastRoom_43 (tgt := 85) rfl (fun h43 => ?_) (fun h43 => absurd ((n_le (a := l.length) (b := i) (by omega) (by omega)).mpr (by omega)) h43)
          refine P_iloadn (i := 3) rfl rfl dX8_leastRoom_85 ?_
          refine P_ireturn rfl dX8_leastRoom_86 ?_
          rw [hop]
          exact ⟨_, _, rfl, by rw [show l.length = i by omega], hfin⟩
        | succ n ih =>
          intro i hi h1
          refine P_iload (i := 4) rfl dX8_leastRoom_37 ?_
          refine P_aloadn (i := 0) rfl rfl dX8_leastRoom_39 ?_
          refine gX8_217 rfl (by first | exact hM.k0 | exact hM.k1 | exact hM.k2 | exact hM.k3 | exact hM.k4 | exact hM.k5 | exact hM.k6 | exact hM.k7 | exact hM.k8 | exact hM.k9 | exact hM.k10 | exact hM.k11 | exact hM.k12 | exact hM.k13 | exact hM.k14 | exact hM.k15 | exact hM.k16 | exact hM.k17) h270 dX8_leastRoom_40 ?_
          refine P_icmpge dX8_leastRoom_43 (tgt := 85) rfl (fun h43 => absurd h43 (fun h8 => by have h7 := (n_le (a := l.length) (b := i) (by omega) (by omega)).mp h8; omega)) (fun h43 => ?_)
          refine P_aloadn (i := 0) rfl rfl dX8_leastRoom_46 ?_
          refine P_aloadn (i := 0) rfl rfl dX8_leastRoom_47 ?_
          refine gX8_44 rfl (by first | exact hM.k0 | exact hM.k1 | exact hM.k2 | exact hM.k3 | exact hM.k4 | exact hM.k5 | exact hM.k6 | exact hM.k7 | exact hM.k8 | exact hM.k9 | exact hM.k10 | exact hM.k11 | exact hM.k12 | exact hM.k13 | exact hM.k14 | exact hM.k15 | exact hM.k16 | exact hM.k17) hM.r269 dX8_leastRoom_48 ?_
          refine P_iload (i := 4) rfl dX8_leastRoom_51 ?_
          refine P_iaN (j := i) (by first | exact hM.k0 | exact hM.k1 | exact hM.k2 | exact hM.k3 | exact hM.k4 | exact hM.k5 | exact hM.k6 | exact hM.k7 | exact hM.k8 | exact hM.k9 | exact hM.k10 | exact hM.k11 | exact hM.k12 | exact hM.k13 | exact hM.k14 | exact hM.k15 | exact hM.k16 | exact hM.k17) rfl (by first | omega | (simp only [hM.l1, hM.l2, hM.l3, hM.l4, hM.l5, hM.l6, hM.l7, hM.l8, hM.l9, hM.l10, hM.l11, hM.l12, hM.l13, hM.l14, hM.l15, hM.l16, hM.l17]; omega)) (by first | omega | (simp only [hM.l1, hM.l2, hM.l3, hM.l4, hM.l5, hM.l6, hM.l7, hM.l8, hM.l9, hM.l10, hM.l11, hM.l12, hM.l13, hM.l14, hM.l15, hM.l16, hM.l17]; omega)) (hal i (by omega)) dX8_leastRoom_53 ?_
          refine P_iconst (v := 2) rfl dX8_leastRoom_54 ?_
          refine kX8_94 rfl (s_ofB hM hA2 (k := 2) (hbi i (by omega)) rfl (by decide)) (by decide) (by first | exact hM.k0 | exact hM.k1 | exact hM.k2 | exact hM.k3 | exact hM.k4 | exact hM.k5 | exact hM.k6 | exact hM.k7 | exact hM.k8 | exact hM.k9 | exact hM.k10 | exact hM.k11 | exact hM.k12 | exact hM.k13 | exact hM.k14 | exact hM.k15 | exact hM.k16 | exact hM.k17) rfl dX8_leastRoom_55 (fun r55 s55 q55 => ?_)
          obtain ⟨rfl, rfl⟩ := q55
          refine P_iloadn (i := 3) rfl rfl dX8_leastRoom_58 ?_
          refine P_icmpge dX8_leastRoom_59 (tgt := 77) rfl (fun h59 => ?_) (fun h59 => ?_)
          · refine P_iloadn (i := 3) rfl rfl dX8_leastRoom_77 ?_
            refine P_is3 (Or.inl dX8_leastRoom_78) rfl rfl ?_
            refine P_inN4 dX8_leastRoom_79 rfl rfl ?_
            refine P_goto dX8_leastRoom_82 (tgt := 37) rfl ?_
            have e2 := ih (i + 1) (by omega) (by omega)
            rw [show x_lr (zX Z) l (i + 1) = x_lr (zX Z) l i from if_neg (Int32.not_lt.mpr h59)] at e2
            exact e2
          · refine P_aloadn (i := 0) rfl rfl dX8_leastRoom_62 ?_
            refine P_aloadn (i := 0) rfl rfl dX8_leastRoom_63 ?_
            refine gX8_44 rfl (by first | exact hM.k0 | exact hM.k1 | exact hM.k2 | exact hM.k3 | exact hM.k4 | exact hM.k5 | exact hM.k6 | exact hM.k7 | exact hM.k8 | exact hM.k9 | exact hM.k10 | exact hM.k11 | exact hM.k12 | exact hM.k13 | exact hM.k14 | exact hM.k15 | exact hM.k16 | exact hM.k17) hM.r269 dX8_leastRoom_64 ?_
            refine P_iload (i := 4) rfl dX8_leastRoom_67 ?_
            refine P_iaN (j := i) (by first | exact hM.k0 | exact hM.k1 | exact hM.k2 | exact hM.k3 | exact hM.k4 | exact hM.k5 | exact hM.k6 | exact hM.k7 | exact hM.k8 | exact hM.k9 | exact hM.k10 | exact hM.k11 | exact hM.k12 | exact hM.k13 | exact hM.k14 | exact hM.k15 | exact hM.k16 | exact hM.k17) rfl (by first | omega | (simp only [hM.l1, hM.l2, hM.l3, hM.l4, hM.l5, hM.l6, hM.l7, hM.l8, hM.l9, hM.l10, hM.l11, hM.l12, hM.l13, hM.l14, hM.l15, hM.l16, hM.l17]; omega)) (by first | omega | (simp only [hM.l1, hM.l2, hM.l3, hM.l4, hM.l5, hM.l6, hM.l7, hM.l8, hM.l9, hM.l10, hM.l11, hM.l12, hM.l13, hM.l14, hM.l15, hM.l16, hM.l17]; omega)) (hal i (by omega)) dX8_leastRoom_69 ?_
            refine P_iconst (v := 2) rfl dX8_leastRoom_70 ?_
            refine kX8_94 rfl (s_ofB hM hA2 (k := 2) (hbi i (by omega)) rfl (by decide)) (by decide) (by first | exact hM.k0 | exact hM.k1 | exact hM.k2 | exact hM.k3 | exact hM.k4 | exact hM.k5 | exact hM.k6 | exact hM.k7 | exact hM.k8 | exact hM.k9 | exact hM.k10 | exact hM.k11 | exact hM.k12 | exact hM.k13 | exact hM.k14 | exact hM.k15 | exact hM.k16 | exact hM.k17) rfl dX8_leastRoom_71 (fun r71 s71 q71 => ?_)
            obtain ⟨rfl, rfl⟩ := q71
            refine P_goto dX8_leastRoom_74 (tgt := 78) rfl ?_
            refine P_is3 (Or.inl dX8_leastRoom_78) rfl rfl ?_
            refine P_inN4 dX8_leastRoom_79 rfl rfl ?_
            refine P_goto dX8_leastRoom_82 (tgt := 37) rfl ?_
            have e2 := ih (i + 1) (by omega) (by omega)
            rw [show x_lr (zX Z) l (i + 1) = xB (zX Z) (nn (l.getD i 0)) 2 from if_pos (Int32.not_le.mp h59)] at e2
            exact e2
      refine P_ifne dX8_leastRoom_16 (tgt := 22) rfl (fun h16 => ?_) (fun h16 => ?_)
      · refine P_aloadn (i := 0) rfl rfl dX8_leastRoom_22 ?_
        refine P_aloadn (i := 0) rfl rfl dX8_leastRoom_23 ?_
        refine gX8_44 rfl (by first | exact hM.k0 | exact hM.k1 | exact hM.k2 | exact hM.k3 | exact hM.k4 | exact hM.k5 | exact hM.k6 | exact hM.k7 | exact hM.k8 | exact hM.k9 | exact hM.k10 | exact hM.k11 | exact hM.k12 | exact hM.k13 | exact hM.k14 | exact hM.k15 | exact hM.k16 | exact hM.k17) hM.r269 dX8_leastRoom_24 ?_
        refine P_iconst (v := 0) rfl dX8_leastRoom_27 ?_
        refine P_iaN (j := 0) (by first | exact hM.k0 | exact hM.k1 | exact hM.k2 | exact hM.k3 | exact hM.k4 | exact hM.k5 | exact hM.k6 | exact hM.k7 | exact hM.k8 | exact hM.k9 | exact hM.k10 | exact hM.k11 | exact hM.k12 | exact hM.k13 | exact hM.k14 | exact hM.k15 | exact hM.k16 | exact hM.k17) rfl (by first | omega | (simp only [hM.l1, hM.l2, hM.l3, hM.l4, hM.l5, hM.l6, hM.l7, hM.l8, hM.l9, hM.l10, hM.l11, hM.l12, hM.l13, hM.l14, hM.l15, hM.l16, hM.l17]; omega)) (by first | omega | (simp only [hM.l1, hM.l2, hM.l3, hM.l4, hM.l5, hM.l6, hM.l7, hM.l8, hM.l9, hM.l10, hM.l11, hM.l12, hM.l13, hM.l14, hM.l15, hM.l16, hM.l17]; omega)) (hal 0 k5) dX8_leastRoom_28 ?_
        refine P_iconst (v := 2) rfl dX8_leastRoom_29 ?_
        refine kX8_94 rfl (s_ofB hM hA2 (k := 2) (hbi 0 k5) rfl (by decide)) (by decide) (by first | exact hM.k0 | exact hM.k1 | exact hM.k2 | exact hM.k3 | exact hM.k4 | exact hM.k5 | exact hM.k6 | exact hM.k7 | exact hM.k8 | exact hM.k9 | exact hM.k10 | exact hM.k11 | exact hM.k12 | exact hM.k13 | exact hM.k14 | exact hM.k15 | exact hM.k16 | exact hM.k17) rfl dX8_leastRoom_30 (fun r30 s30 q30 => ?_)
        obtain ⟨rfl, rfl⟩ := q30
        refine P_is3 (Or.inl dX8_leastRoom_33) rfl rfl ?_
        refine P_iconst (v := 1) rfl dX8_leastRoom_34 ?_
        refine P_is4 (Or.inr dX8_leastRoom_35) rfl rfl ?_
        rw [← hlr1]
        exact loop (l.length - 1) 1 (by omega) (by omega)
      · exact absurd h16 (by decide)
  · refine P_iconst (v := (-1)) rfl dX8_leastRoom_8 ?_
    refine P_ireturn rfl dX8_leastRoom_9 ?_
    rw [show a_leastRoom (zX Z) from_ to = -1 from if_pos (b_f h5)]
    exact ⟨_, _, rfl, rfl, FrM.rf, hZ⟩
end Ref15
