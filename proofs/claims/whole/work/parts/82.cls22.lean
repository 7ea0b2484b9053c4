theorem c_pigeon : ∀ (n : Nat) (f : Nat → Nat), (∀ i, i ≤ n → f i < n) → ∃ i j, i < j ∧ j ≤ n ∧ f i = f j := by
  intro n
  induction n with
  | zero => intro f h; exact absurd (h 0 (Nat.le_refl _)) (Nat.not_lt_zero _)
  | succ n ih =>
    intro f h
    by_cases hx : ∃ i, i ≤ n ∧ f i = f (n + 1)
    · obtain ⟨i, hi, e⟩ := hx
      exact ⟨i, n + 1, by omega, Nat.le_refl _, e⟩
    · have hne : ∀ i, i ≤ n → f i ≠ f (n + 1) := fun i hi e => hx ⟨i, hi, e⟩
      have hc := h (n + 1) (Nat.le_refl _)
      obtain ⟨i, j, h1, h2, h3⟩ := ih (fun i => if f (n + 1) < f i then f i - 1 else f i) (fun i hi => by
        have h4 := h i (by omega)
        have h5 := hne i hi
        split <;> omega)
      refine ⟨i, j, h1, by omega, ?_⟩
      have h5 := hne i (by omega)
      have h6 := hne j (by omega)
      split at h3 <;> split at h3 <;> omega
/-- where a parcel on its way to a node is after so many bridges -/
def x_v (X : XW) (to : Int32) : Nat → Int32 → Int32
  | 0, n => n
  | k + 1, n => x_v X to k (xB X (nn (xN X (nn n) (3 + nn to))) 1)
theorem x_v_add (X : XW) (to : Int32) : ∀ (a b : Nat) (n : Int32), x_v X to (a + b) n = x_v X to b (x_v X to a n) := by
  intro a
  induction a with
  | zero => intro b n; rw [Nat.zero_add]; rfl
  | succ a ih =>
    intro b n
    rw [show a + 1 + b = (a + b) + 1 by omega]
    exact ih b _
theorem x_rt_v {X : XW} {M : Nat} (hI : XI M X) {to : Int32} (hto : ib to 8) : ∀ (n : Nat) (node : Int32) (acc l : List Int32), ib node 8 → x_rt X to n node acc = some l → ∃ k, k ≤ n ∧ l.length = acc.length + k ∧ x_v X to k node = to ∧ (∀ j, j < k → x_v X to j node ≠ to) ∧ ∀ j, j ≤ k → ib (x_v X to j node) 8 := by
  intro n
  induction n with
  | zero =>
    intro node acc l hn h
    unfold x_rt at h
    by_cases e : node = to
    · rw [if_pos e] at h
      cases h
      exact ⟨0, Nat.le_refl _, rfl, e, fun j hj => absurd hj (Nat.not_lt_zero _), fun j hj => by rw [show j = 0 by omega]; exact hn⟩
    · rw [if_neg e] at h
      cases h
  | succ n ih =>
    intro node acc l hn h
    unfold x_rt at h
    by_cases e : node = to
    · rw [if_pos e] at h
      cases h
      exact ⟨0, Nat.zero_le _, rfl, e, fun j hj => absurd hj (Nat.not_lt_zero _), fun j hj => by rw [show j = 0 by omega]; exact hn⟩
    · rw [if_neg e] at h
      by_cases e2 : xN X (nn node) (3 + nn to) < 0
      · rw [if_pos e2] at h
        cases h
      · rw [if_neg e2] at h
        have hb : ib (xN X (nn node) (3 + nn to)) (xb X) := by
          rcases (hI.2.1 _ hn.nn).2 _ hto.nn with h9 | h9
          · rw [h9] at e2; exact absurd (by decide) e2
          · exact h9
        obtain ⟨k, k1, k2, k3, k4, k5⟩ := ih _ _ l (hI.2.2.1 _ hb.nn).2.1 h
        rw [List.length_append] at k2
        have h1 : ([xN X (nn node) (3 + nn to)] : List Int32).length = 1 := rfl
        refine ⟨k + 1, by omega, by omega, k3, fun j hj => ?_, fun j hj => ?_⟩
        · cases j with
          | zero => exact e
          | succ j => exact k4 j (by omega)
        · cases j with
          | zero => exact hn
          | succ j => exact k5 j (by omega)
theorem x_rt_7 {X : XW} {M : Nat} (hI : XI M X) {to : Int32} (hto : ib to 8) {node : Int32} {l : List Int32} (hn : ib node 8) (h : x_rt X to 8 node [] = some l) : l.length ≤ 7 := by
  obtain ⟨k, k1, k2, k3, k4, k5⟩ := x_rt_v hI hto 8 node [] l hn h
  have k2' : l.length = k := by rw [k2]; exact Nat.zero_add k
  by_cases e : k = 8
  · subst e
    obtain ⟨i, j, h1, h2, h3⟩ := c_pigeon 8 (fun i => nn (x_v X to i node)) (fun i hi => (k5 i hi).nn)
    have h4 : x_v X to i node = x_v X to j node := by
      rw [(k5 i (by omega)).eq, (k5 j h2).eq]
      exact congrArg Int32.ofNat h3
    have h5 : x_v X to (i + (8 - j)) node = to := by
      rw [x_v_add, h4, ← x_v_add, show j + (8 - j) = 8 by omega]
      exact k3
    exact absurd h5 (k4 _ (by omega))
  · omega
theorem CW.path {L : PL} {FI AI : Nat → Nat → Int32} {AL : Nat → Nat → Int64} {AR R2 : Nat → Nat → Option Nat} {w : Nat} {X : XW} {C : List XC} {U : Nat} {sa : Nat → Nat} (h : CW L FI AI AL AR w X C U sa) (e : ∀ a, a ≠ w + 6 → R2 a = AR a) : CW L FI AI AL R2 w X C U sa := by
  have hw := h.wa
  refine ⟨⟨h.wf, ⟨fun i hi => ?_, fun i hi => ?_, fun i hi => ?_, fun i hi => ?_, hw.2.2.2.2⟩⟩, h.2⟩
  · rw [e (w + 1) (by omega)]; exact hw.1 i hi
  · rw [e (w + 2) (by omega)]; exact hw.2.1 i hi
  · rw [e (w + 3) (by omega)]; exact hw.2.2.1 i hi
  · rw [e (w + 4) (by omega)]; exact hw.2.2.2.1 i hi
theorem c_get_app {α : Type} {A : List α} {c d : α} {i : Nat} : (A ++ [c]).getD i d = if i = A.length then c else A.getD i d := by
  rw [List.getD_eq_getElem?_getD]
  by_cases e1 : i = A.length
  · rw [if_pos e1, e1, List.getElem?_append_right (Nat.le_refl _), Nat.sub_self]
    rfl
  · rw [if_neg e1, List.getD_eq_getElem?_getD]
    by_cases e2 : i < A.length
    · rw [List.getElem?_append_left e2]
    · have h1 : ([c] : List α).length = 1 := rfl
      rw [List.getElem?_append_right (by omega), List.getElem?_eq_none (by omega), List.getElem?_eq_none (by omega)]
/-- the bridges of the path lie in the array -/
def c_held (R : Nat → Nat → Option Nat) (w : Nat) (X : XW) (l : List Int32) : Prop := ∀ i, i < l.length → R (w + 6) i = some (w + 23 + nn (l.getD i 0)) ∧ ib (l.getD i 0) (xb X)
def QFP (L : PL) (FI AI : Nat → Nat → Int32) (AL : Nat → Nat → Int64) (AR : Nat → Nat → Option Nat) (w : Nat) (X : XW) (from_ to : Int32) : Option PV → PS → Prop := fun r σ => ∃ R2, σ = (L, FI, AI, AL, R2) ∧ (∀ a, a ≠ w + 6 → R2 a = AR a) ∧ ((x_rt X to 8 from_ [] = none ∧ r = some (vi (-6))) ∨ ∃ l, x_rt X to 8 from_ [] = some l ∧ r = some (vi (Int32.ofNat l.length)) ∧ l.length ≤ 7 ∧ c_held R2 w X l)
section Cls22
variable {g : PG} {L : PL} {FI AI : Nat → Nat → Int32} {AL : Nat → Nat → Int64} {AR : Nat → Nat → Option Nat} {w : Nat} {X : XW} {C : List XC} {U : Nat} {sa : Nat → Nat} {M : Nat} {from_ to : Int32}
theorem s_findPath (h : CW L FI AI AL AR w X C U sa) (hI : XI M X) (hfrom : ib from_ 8) (hto : ib to 8) : Sp g 2 iX6_findPath [vr w, vi from_, vi to] (L, FI, AI, AL, AR) (0, 0) (QFP L FI AI AL AR w X from_ to) := by
  refine Sp.of (ls := [some (vr w), some (vi from_), some (vi to), none, none, none, none]) (by decide +kernel) rfl rfl ?_
  have hw := h.wf
  have hb16 := h.b16
  have loop : ∀ n i : Nat, i + n = 8 → ∀ (node : Int32) (acc : List Int32) (R : Nat → Nat → Option Nat), x_rt X to (8 - i) node acc = x_rt X to 8 from_ [] → acc.length = i → ib node 8 → (∀ a, a ≠ w + 6 → R a = AR a) → c_held R w X acc → P g 2 iX6_findPath 5 [some (vr w), some (vi from_), some (vi to), some (vi node), some (vi (Int32.ofNat i)), none, none] [] (L, FI, AI, AL, R) (0, 0) (QFP L FI AI AL AR w X from_ to) := by
    intro n
    induction n with
    | zero =>
      intro i hi node acc R hx hl hnd hR hh
      refine P_iload (i := 4) rfl dX6_findPath_5 ?_
      refine P_aloadn (i := 0) rfl rfl dX6_findPath_7 ?_
      refine gX6_39 rfl (by first | assumption | exact hw.kw | exact hw.k1 | exact hw.k6) hw.r205 dX6_findPath_8 ?_
      refine P_lenN (t := 25) (by decide) (by first | assumption | exact hw.kw | exact hw.k1 | exact hw.k6) (by rw [hw.l6]) dX6_findPath_11 ?_
      refine P_icmpge dX6_findPath_12 (tgt := 80) rfl (fun h12 => ?_) (fun h12 => absurd ((n_le (a := 8) (b := i) (by omega) (by omega)).mpr (by omega)) h12)
      refine P_bipush (v := (-6)) rfl dX6_findPath_80 ?_
      refine P_ireturn rfl dX6_findPath_82 ?_
      refine ⟨R, rfl, hR, Or.inl ⟨?_, rfl⟩⟩
      have ei : 8 - i = 0 := by omega
      rw [ei] at hx
      rw [← hx]
      unfold x_rt
      by_cases e : node = to
      · rw [if_pos e]
        unfold x_rt at hx
        rw [if_pos e] at hx
        have := x_rt_7 hI hto hfrom hx.symm
        omega
      · exact if_neg e
    | succ n ih =>
      intro i hi node acc R hx hl hnd hR hh
      have h2 := h.path hR
      refine P_iload (i := 4) rfl dX6_findPath_5 ?_
      refine P_aloadn (i := 0) rfl rfl dX6_findPath_7 ?_
      refine gX6_39 rfl (by first | assumption | exact hw.kw | exact hw.k1 | exact hw.k6) hw.r205 dX6_findPath_8 ?_
      refine P_lenN (t := 25) (by decide) (by first | assumption | exact hw.kw | exact hw.k1 | exact hw.k6) (by rw [hw.l6]) dX6_findPath_11 ?_
      refine P_icmpge dX6_findPath_12 (tgt := 80) rfl (fun h12 => absurd h12 (fun h8 => by have h7 := (n_le (a := 8) (b := i) (by omega) (by omega)).mp h8; omega)) (fun h12 => ?_)
      refine P_iloadn (i := 3) rfl rfl dX6_findPath_15 ?_
      refine P_iloadn (i := 2) rfl rfl dX6_findPath_16 ?_
      refine P_icmpne dX6_findPath_17 (tgt := 23) rfl (fun h17 => ?_) (fun h17 => ?_)
      · refine P_aloadn (i := 0) rfl rfl dX6_findPath_23 ?_
        refine P_iloadn (i := 3) rfl rfl dX6_findPath_24 ?_
        refine kX6_228 rfl (s_nodeAt h2) (by decide) (by first | assumption | exact hw.kw | exact hw.k1 | exact hw.k6) rfl dX6_findPath_25 (fun r25 s25 q25 => ?_)
        obtain ⟨rfl, rfl⟩ := q25
        rw [if_pos (q_ib_iff.mpr hnd)]
        refine P_as5 (Or.inr dX6_findPath_28) rfl rfl ?_
        refine P_aload (i := 5) rfl dX6_findPath_30 ?_
        refine P_ifnonnull dX6_findPath_32 (tgt := 39) rfl (fun a32 h32 => ?_) (fun h32 => by cases h32)
        cases h32
        refine P_aloadn (i := 0) rfl rfl dX6_findPath_39 ?_
        refine P_aload (i := 5) rfl dX6_findPath_40 ?_
        refine P_iloadn (i := 2) rfl rfl dX6_findPath_42 ?_
        refine kX6_244 rfl (s_routeW hw hnd.nn) (by decide) (hw.kN hnd.nn) rfl dX6_findPath_43 (fun r43 s43 q43 => ?_)
        obtain ⟨rfl, rfl⟩ := q43
        rw [if_pos (q_ib_iff.mpr hto), (h2.n _ hnd.nn).2.2.2 _ hto.nn]
        refine kX6_247 rfl (s_bridgeAt h2) (by decide) (by first | assumption | exact hw.kw | exact hw.k1 | exact hw.k6) rfl dX6_findPath_46 (fun r46 s46 q46 => ?_)
        obtain ⟨rfl, rfl⟩ := q46
        obtain ⟨rb, hrb⟩ : ∃ rb : Option Nat, rb = (if q_ib (xN X (nn node) (3 + nn to)) (xb X) = true then some (w + 23 + nn (xN X (nn node) (3 + nn to))) else none) := ⟨_, rfl⟩
        rw [← hrb]
        refine P_as6 (Or.inr dX6_findPath_49) rfl rfl ?_
        refine P_aload (i := 6) rfl dX6_findPath_51 ?_
        refine P_ifnonnull dX6_findPath_53 (tgt := 59) rfl (fun a53 h53 => ?_) (fun h53 => ?_)
        · have hbi : ib (xN X (nn node) (3 + nn to)) (xb X) := by
            have h9 : q_ib (xN X (nn node) (3 + nn to)) (xb X) = true := Decidable.byContradiction fun hh => by rw [if_neg hh] at hrb; rw [hrb] at h53; cases h53
            exact q_ib_iff.mp h9
          have hbl : nn (xN X (nn node) (3 + nn to)) < 16 := by have := hbi.nn; omega
          have ha53 : a53 = w + 23 + nn (xN X (nn node) (3 + nn to)) := by
            rw [if_pos (q_ib_iff.mpr hbi)] at hrb
            rw [hrb] at h53
            exact (Option.some.inj h53).symm
          subst h53
          subst ha53
          have hkb := hw.kB hbl
          have hbrp : ¬ xN X (nn node) (3 + nn to) < 0 := fun hh => by
            rw [Int32.lt_iff_toInt_lt] at hh
            have := hbi.1
            simp only [Int32.reduceToInt] at hh
            omega
          refine P_aloadn (i := 0) rfl rfl dX6_findPath_59 ?_
          refine gX6_39 rfl (by first | assumption | exact hw.kw | exact hw.k1 | exact hw.k6) hw.r205 dX6_findPath_60 ?_
          refine P_iload (i := 4) rfl dX6_findPath_63 ?_
          refine P_aload (i := 6) rfl dX6_findPath_65 ?_
          refine P_asN (t := 25) (ci := 0) (j := i) (by decide) (by first | assumption | exact hw.kw | exact hw.k1 | exact hw.k6) rfl (by omega) (by rw [hw.l6]; omega) hkb (by decide) rfl rfl dX6_findPath_67 ?_
          refine P_aload (i := 6) rfl dX6_findPath_68 ?_
          refine gX6_297 rfl hkb ((h2.b _ hbl).1 hbi.nn 1 (by decide)) dX6_findPath_70 ?_
          refine P_is3 (Or.inl dX6_findPath_73) rfl rfl ?_
          refine P_inN4 dX6_findPath_74 rfl rfl ?_
          refine P_goto dX6_findPath_77 (tgt := 5) rfl ?_
          refine P_few (ls2 := [some (vr w), some (vi from_), some (vi to), some (vi (xB X (nn (xN X (nn node) (3 + nn to))) 1)), some (vi (Int32.ofNat (i + 1))), none, none]) ⟨rfl, rfl, rfl, rfl, rfl, trivial⟩ ?_
          have hx2 : x_rt X to (8 - i) node acc = x_rt X to (8 - (i + 1)) (xB X (nn (xN X (nn node) (3 + nn to))) 1) (acc ++ [xN X (nn node) (3 + nn to)]) := by
            rw [show 8 - i = n + 1 by omega, show 8 - (i + 1) = n by omega]
            exact (if_neg h17).trans (if_neg hbrp)
          refine ih (i + 1) (by omega) _ (acc ++ [xN X (nn node) (3 + nn to)]) _ (hx2.symm.trans hx) (by rw [List.length_append, hl]; rfl) (hI.2.2.1 _ hbi.nn).2.1 (fun a ha => (by funext j; exact (p_up_n1 _ _ _ _ ha).trans (congrFun (hR a ha) j))) ?_
          intro j hj
          rw [List.length_append] at hj
          have hj2 : j < acc.length + 1 := hj
          rw [c_get_app]
          by_cases e : j = acc.length
          · rw [if_pos e, show j = i by omega]
            exact ⟨p_up_eq _ _ _ _, hbi⟩
          · rw [if_neg e, p_up_n2 _ _ _ _ (by omega)]
            exact hh j (by omega)
        · have hbrn : xN X (nn node) (3 + nn to) < 0 := by
            rcases (hI.2.1 _ hnd.nn).2 _ hto.nn with h9 | h9
            · rw [h9]; decide
            · rw [if_pos (q_ib_iff.mpr h9)] at hrb
              rw [hrb] at h53
              cases h53
          refine P_bipush (v := (-6)) rfl dX6_findPath_56 ?_
          refine P_ireturn rfl dX6_findPath_58 ?_
          refine ⟨R, rfl, hR, Or.inl ⟨?_, rfl⟩⟩
          rw [← hx, show 8 - i = n + 1 by omega]
          exact (if_neg h17).trans (if_pos hbrn)
      · refine P_iload (i := 4) rfl dX6_findPath_20 ?_
        refine P_ireturn rfl dX6_findPath_22 ?_
        refine ⟨R, rfl, hR, Or.inr ⟨acc, ?_, by rw [hl], by omega, hh⟩⟩
        rw [← hx, show 8 - i = n + 1 by omega]
        exact if_pos h17
  refine P_iloadn (i := 1) rfl rfl dX6_findPath_0 ?_
  refine P_is3 (Or.inl dX6_findPath_1) rfl rfl ?_
  refine P_iconst (v := 0) rfl dX6_findPath_2 ?_
  refine P_is4 (Or.inr dX6_findPath_3) rfl rfl ?_
  exact loop 8 0 (by omega) from_ [] AR rfl rfl hfrom (fun a _ => rfl) (fun i hi => absurd hi (Nat.not_lt_zero _))
end Cls22
