theorem x_space_ind {R : XW → Prop} (he : ∀ X p, R X → R (x_end X p 4)) (node : Int32) : ∀ n X, R X → R (x_space node n X) := by
  intro n
  induction n with
  | zero => intro X h; exact h
  | succ n ih =>
    intro X h
    unfold x_space
    split
    · exact ih _ (he _ _ h)
    · exact h
/-- what makeSpace and the rest ask of a state -/
def x_ok (X : XW) : Prop := (∀ p, p < xp X → ¬ xP X p 12 = 0 → 0 ≤ xP X p 9) ∧ (∀ p, p < xp X → (xP X p 8).toInt < 4001) ∧ (∀ i, i < 8 → 0 ≤ xN X i 2) ∧ 0 ≤ xG X 0
theorem x_ok.end_ {X : XW} (h : x_ok X) (p : Nat) (st : Int32) : x_ok (x_end X p st) := by
  refine ⟨fun q hq hne => ?_, fun q hq => ?_, h.2.2.1, h.2.2.2⟩
  · rw [x_end_p] at hne ⊢
    by_cases e : q = p
    · rw [if_pos e] at hne; exact absurd rfl hne
    · rw [if_neg e] at hne ⊢; exact h.1 q hq hne
  · rw [x_end_p]
    by_cases e : q = p
    · rw [if_pos e]
      show (-6 : Int32).toInt < 4001
      decide
    · rw [if_neg e]; exact h.2.1 q hq
theorem x_ok.space {X : XW} (h : x_ok X) (node : Int32) (n : Nat) : x_ok (x_space node n X) := x_space_ind (R := x_ok) (fun _ p hx => hx.end_ p 4) node n X h
theorem x_space_xp (node : Int32) (n : Nat) (X : XW) : xp (x_space node n X) = xp X := x_space_ind (R := fun Y => xp Y = xp X) (fun _ _ hx => hx) node n X rfl
def x_put2 (X : XW) (s : Nat) : XW :=
  let X1 := x_g (x_rm X s) 6 (xG X 6 + 1)
  let p := nn (x_at X s).1
  let a := (x_at X s).2.1
  let b := (x_at X s).2.1 + (x_at X s).2.2.1
  let node := xP X p 1
  let last := decide ((x_at X s).2.2.2.1 = 1)
  if xN X (nn node) 0 = 2 ∧ x_any (xT X p) (nn a) (nn b - nn a) = true then x_end X1 p 5
  else
    let X3 := x_layb X1 p (nn a) (nn b) (x_at X s).2.2.2.2.2.1 (decide (xN X (nn node) 0 = 1))
    let X4 := x_p X3 p 8 (if last = true then b else xP X3 p 8)
    x_p X4 p 9 (if xP X4 p 9 < 0 then xG X 0 else xP X4 p 9)
def x_put3 (X2 : XW) (p : Nat) (node : Int32) : XW := if xP (x_space node 40 X2) p 5 = 0 then x_fin (x_space node 40 X2) p else x_space node 40 X2
theorem x_put_eq (X : XW) (s : Nat) : x_put X s = if ¬ xP X (nn (x_at X s).1) 5 = 0 then x_drop X s 7 else if x_wrong X (nn (x_at X s).1) ((x_at X s).2.1 + (x_at X s).2.2.1) (decide ((x_at X s).2.2.2.1 = 1)) = true then x_drop X s 6 else x_put3 (x_put2 X s) (nn (x_at X s).1) (xP X (nn (x_at X s).1) 1) := rfl
theorem ite_nn {t z : Int32} (ht : 0 ≤ t) : 0 ≤ (if z < 0 then t else z) := by
  by_cases c : z < 0
  · rw [if_pos c]; exact ht
  · rw [if_neg c]; exact Int32.not_lt.mp c
section Ref8
variable {g : PG} {L : PL} {FI AI : Nat → Nat → Int32} {AL : Nat → Nat → Int64} {AR : Nat → Nat → Option Nat} {m : Nat} {X : XW}
theorem s_putSlice (hM : WM L m) (hA : RA AI m X) {s : Int32} (hs : ib s (xS X).length) (hp : ib (x_at X (nn s)).1 (xp X)) (ha0 : 0 ≤ (x_at X (nn s)).2.1.toInt) (hb0 : 0 ≤ ((x_at X (nn s)).2.1 + (x_at X (nn s)).2.2.1).toInt) (hab0 : (x_at X (nn s)).2.1.toInt ≤ ((x_at X (nn s)).2.1 + (x_at X (nn s)).2.2.1).toInt) (hla : (x_at X (nn s)).2.2.2.1 = 0 ∨ (x_at X (nn s)).2.2.2.1 = 1) (hnode : ib (xP X (nn (x_at X (nn s)).1) 1) 8) (hok0 : x_ok X) : Sp g 6 iX8_putSlice [vr m, vi s] (L, FI, AI, AL, AR) (0, 0) (RM L FI AI AL AR m (x_put X (nn s)) none) := by
  refine Sp.of (ls := [some (vr m), some (vi s), none, none, none, none, none, none]) (by decide +kernel) rfl rfl ?_
  have hp40 := hA.p40
  have hs30 := hA.s300
  obtain ⟨p, hpe⟩ : ∃ p, p = (x_at X (nn s)).1 := ⟨_, rfl⟩
  obtain ⟨a, hae⟩ : ∃ a, a = (x_at X (nn s)).2.1 := ⟨_, rfl⟩
  obtain ⟨ln, hle⟩ : ∃ ln, ln = (x_at X (nn s)).2.2.1 := ⟨_, rfl⟩
  obtain ⟨la, hlae⟩ : ∃ la, la = (x_at X (nn s)).2.2.2.1 := ⟨_, rfl⟩
  obtain ⟨seed, hse⟩ : ∃ sd, sd = (x_at X (nn s)).2.2.2.2.2.1 := ⟨_, rfl⟩
  rw [← hpe] at hp hnode
  rw [← hae, ← hle] at hb0 hab0
  rw [← hae] at ha0
  rw [← hlae] at hla
  obtain ⟨node, hne⟩ : ∃ n, n = xP X (nn p) 1 := ⟨_, rfl⟩
  rw [← hne] at hnode
  have hp40b : ib p 40 := hp.mono (by omega)
  have x_put_eq : x_put X (nn s) = if ¬ xP X (nn p) 5 = 0 then x_drop X (nn s) 7 else if x_wrong X (nn p) (a + ln) (decide (la = 1)) = true then x_drop X (nn s) 6 else x_put3 (x_put2 X (nn s)) (nn p) node := by
    rw [hne, hpe, hae, hle, hlae]; rfl
  have x_put2_eq : x_put2 X (nn s) = if xN X (nn node) 0 = 2 ∧ x_any (xT X (nn p)) (nn a) (nn (a + ln) - nn a) = true then x_end (x_g (x_rm X (nn s)) 6 (xG X 6 + 1)) (nn p) 5 else (x_p (x_p (x_layb (x_g (x_rm X (nn s)) 6 (xG X 6 + 1)) (nn p) (nn a) (nn (a + ln)) seed (decide (xN X (nn node) 0 = 1))) (nn p) 8 (if decide (la = 1) = true then a + ln else xP (x_layb (x_g (x_rm X (nn s)) 6 (xG X 6 + 1)) (nn p) (nn a) (nn (a + ln)) seed (decide (xN X (nn node) 0 = 1))) (nn p) 8)) (nn p) 9 (if xP (x_p (x_layb (x_g (x_rm X (nn s)) 6 (xG X 6 + 1)) (nn p) (nn a) (nn (a + ln)) seed (decide (xN X (nn node) 0 = 1))) (nn p) 8 (if decide (la = 1) = true then a + ln else xP (x_layb (x_g (x_rm X (nn s)) 6 (xG X 6 + 1)) (nn p) (nn a) (nn (a + ln)) seed (decide (xN X (nn node) 0 = 1))) (nn p) 8)) (nn p) 9 < 0 then xG X 0 else xP (x_p (x_layb (x_g (x_rm X (nn s)) 6 (xG X 6 + 1)) (nn p) (nn a) (nn (a + ln)) seed (decide (xN X (nn node) 0 = 1))) (nn p) 8 (if decide (la = 1) = true then a + ln else xP (x_layb (x_g (x_rm X (nn s)) 6 (xG X 6 + 1)) (nn p) (nn a) (nn (a + ln)) seed (decide (xN X (nn node) 0 = 1))) (nn p) 8)) (nn p) 9)) := by
    rw [hne, hpe, hae, hle, hlae, hse]; rfl
  have J224 : ∀ (Y : XW) (B : Nat → Nat → Int32), FA m AI B → RA B m Y → x_ok Y → xp Y = xp X → x_put X (nn s) = x_put3 Y (nn p) node → P g 6 iX8_putSlice 224 [some (vr m), some (vi s), some (vi p), some (vi a), some (vi (a + ln)), some (vi seed), some (vi la), some (vi node)] [] (L, FI, B, AL, AR) (0, 0) (RM L FI AI AL AR m (x_put X (nn s)) none) := by
    intro Y B hFB hB hok hxp hput
    refine P_aloadn (i := 0) rfl rfl dX8_putSlice_224 ?_
    refine P_iload (i := 7) rfl dX8_putSlice_225 ?_
    refine kX8_172 rfl (s_makeSpace hM hB hnode (hok.2.2.1 _ hnode.nn) hok.1) (by decide) (by first | exact hM.k0 | exact hM.k1 | exact hM.k2 | exact hM.k3 | exact hM.k4 | exact hM.k5 | exact hM.k6 | exact hM.k7 | exact hM.k8 | exact hM.k9 | exact hM.k10 | exact hM.k11 | exact hM.k12 | exact hM.k13 | exact hM.k14 | exact hM.k15 | exact hM.k16 | exact hM.k17) rfl dX8_putSlice_227 (fun r227 s227 q227 => ?_)
    obtain ⟨A4, rfl, rfl, hF4, hA4⟩ := q227
    have hp4 : ib p (xp (x_space node 40 Y)) := by rw [x_space_xp, hxp]; exact hp
    refine P_aloadn (i := 0) rfl rfl dX8_putSlice_230 ?_
    refine P_iloadn (i := 2) rfl rfl dX8_putSlice_231 ?_
    refine P_iconst (v := 5) rfl dX8_putSlice_232 ?_
    refine kX8_102 rfl (s_ofP hM hA4 (k := 5) hp4 rfl (by decide)) (by decide) (by first | exact hM.k0 | exact hM.k1 | exact hM.k2 | exact hM.k3 | exact hM.k4 | exact hM.k5 | exact hM.k6 | exact hM.k7 | exact hM.k8 | exact hM.k9 | exact hM.k10 | exact hM.k11 | exact hM.k12 | exact hM.k13 | exact hM.k14 | exact hM.k15 | exact hM.k16 | exact hM.k17) rfl dX8_putSlice_233 (fun r233 s233 q233 => ?_)
    obtain ⟨rfl, rfl⟩ := q233
    refine P_ifne dX8_putSlice_236 (tgt := 244) rfl (fun h236 => ?_) (fun h236 => ?_)
    · refine P_return rfl dX8_putSlice_244 ?_
      refine ⟨A4, rfl, rfl, hFB.tr hF4, ?_⟩
      rw [hput]
      unfold x_put3
      rw [if_neg h236]
      exact hA4
    · refine P_aloadn (i := 0) rfl rfl dX8_putSlice_239 ?_
      refine P_iloadn (i := 2) rfl rfl dX8_putSlice_240 ?_
      refine kX8_175 rfl (s_finishIfAll hM hA4 hp4 ((hok.space node 40).2.1 _ hp4.nn)) (by decide) (by first | exact hM.k0 | exact hM.k1 | exact hM.k2 | exact hM.k3 | exact hM.k4 | exact hM.k5 | exact hM.k6 | exact hM.k7 | exact hM.k8 | exact hM.k9 | exact hM.k10 | exact hM.k11 | exact hM.k12 | exact hM.k13 | exact hM.k14 | exact hM.k15 | exact hM.k16 | exact hM.k17) rfl dX8_putSlice_241 (fun r241 s241 q241 => ?_)
      obtain ⟨A5, rfl, rfl, hF5, hA5⟩ := q241
      refine P_return rfl dX8_putSlice_244 ?_
      refine ⟨A5, rfl, rfl, (hFB.tr hF4).tr hF5, ?_⟩
      rw [hput]
      unfold x_put3
      rw [if_pos h236]
      exact hA5
  have J47 : ∀ z, z = la → P g 6 iX8_putSlice 47 [some (vr m), some (vi s), some (vi p), some (vi a), some (vi (a + ln)), some (vi seed), none, none] [vi z] (L, FI, AI, AL, AR) (0, 0) (RM L FI AI AL AR m (x_put X (nn s)) none) := by
    intro z hz
    rw [hz]
    refine P_is6 (Or.inr dX8_putSlice_47) rfl rfl ?_
    refine P_aloadn (i := 0) rfl rfl dX8_putSlice_49 ?_
    refine P_iloadn (i := 2) rfl rfl dX8_putSlice_50 ?_
    refine P_iconst (v := 5) rfl dX8_putSlice_51 ?_
    refine kX8_102 rfl (s_ofP hM hA (k := 5) hp rfl (by decide)) (by decide) (by first | exact hM.k0 | exact hM.k1 | exact hM.k2 | exact hM.k3 | exact hM.k4 | exact hM.k5 | exact hM.k6 | exact hM.k7 | exact hM.k8 | exact hM.k9 | exact hM.k10 | exact hM.k11 | exact hM.k12 | exact hM.k13 | exact hM.k14 | exact hM.k15 | exact hM.k16 | exact hM.k17) rfl dX8_putSlice_52 (fun r52 s52 q52 => ?_)
    obtain ⟨rfl, rfl⟩ := q52
    refine P_ifeq dX8_putSlice_55 (tgt := 66) rfl (fun h55 => ?_) (fun h55 => ?_)
    · refine P_aloadn (i := 0) rfl rfl dX8_putSlice_66 ?_
      refine P_iloadn (i := 2) rfl rfl dX8_putSlice_67 ?_
      refine P_iload (i := 4) rfl dX8_putSlice_68 ?_
      refine P_iload (i := 6) rfl dX8_putSlice_70 ?_
      refine kX8_164 rfl (s_isWrongSlice hM hA hp hb0 hla) (by decide) (by first | exact hM.k0 | exact hM.k1 | exact hM.k2 | exact hM.k3 | exact hM.k4 | exact hM.k5 | exact hM.k6 | exact hM.k7 | exact hM.k8 | exact hM.k9 | exact hM.k10 | exact hM.k11 | exact hM.k12 | exact hM.k13 | exact hM.k14 | exact hM.k15 | exact hM.k16 | exact hM.k17) rfl dX8_putSlice_72 (fun r72 s72 q72 => ?_)
      obtain ⟨rfl, rfl⟩ := q72
      refine P_ifeq dX8_putSlice_75 (tgt := 86) rfl (fun h75 => ?_) (fun h75 => ?_)
      · have hst := h55
        have hwr := b_f h75
        have hb9 : ib (a + ln) 4001 := by
          refine ⟨hb0, ?_⟩
          have h9 : ¬ (4000 : Int32) < a + ln := fun hh => hwr (by unfold x_wrong; rw [show decide ((4000 : Int32) < a + ln) = true from decide_eq_true hh]; rfl)
          have h8 := Int32.not_lt.mp h9
          rw [Int32.le_iff_toInt_le] at h8
          simp only [Int32.reduceToInt] at h8
          omega
        have ha9 : ib a 4001 := ⟨ha0, by have := hb9.2; omega⟩
        have hab : nn a ≤ nn (a + ln) := by
          have h1 := i_cn a
          have h2 := i_cn (a + ln)
          show a.toNatClampNeg ≤ (a + ln).toNatClampNeg
          omega
        refine P_aloadn (i := 0) rfl rfl dX8_putSlice_86 ?_
        refine P_iloadn (i := 2) rfl rfl dX8_putSlice_87 ?_
        refine P_iconst (v := 1) rfl dX8_putSlice_88 ?_
        refine kX8_102 rfl (s_ofP hM hA (k := 1) hp rfl (by decide)) (by decide) (by first | exact hM.k0 | exact hM.k1 | exact hM.k2 | exact hM.k3 | exact hM.k4 | exact hM.k5 | exact hM.k6 | exact hM.k7 | exact hM.k8 | exact hM.k9 | exact hM.k10 | exact hM.k11 | exact hM.k12 | exact hM.k13 | exact hM.k14 | exact hM.k15 | exact hM.k16 | exact hM.k17) rfl dX8_putSlice_89 (fun r89 s89 q89 => ?_)
        obtain ⟨rfl, rfl⟩ := q89
        rw [← hne]
        refine P_is7 (Or.inr dX8_putSlice_92) rfl rfl ?_
        refine P_aloadn (i := 0) rfl rfl dX8_putSlice_94 ?_
        refine P_iloadn (i := 1) rfl rfl dX8_putSlice_95 ?_
        refine kX8_115 rfl (s_removeSlice hM hA hs) (by decide) (by first | exact hM.k0 | exact hM.k1 | exact hM.k2 | exact hM.k3 | exact hM.k4 | exact hM.k5 | exact hM.k6 | exact hM.k7 | exact hM.k8 | exact hM.k9 | exact hM.k10 | exact hM.k11 | exact hM.k12 | exact hM.k13 | exact hM.k14 | exact hM.k15 | exact hM.k16 | exact hM.k17) rfl dX8_putSlice_96 (fun r96 s96 q96 => ?_)
        obtain ⟨B1, rfl, rfl, hF1, hA1⟩ := q96
        refine P_aloadn (i := 0) rfl rfl dX8_putSlice_99 ?_
        refine gX8_7 rfl (by first | exact hM.k0 | exact hM.k1 | exact hM.k2 | exact hM.k3 | exact hM.k4 | exact hM.k5 | exact hM.k6 | exact hM.k7 | exact hM.k8 | exact hM.k9 | exact hM.k10 | exact hM.k11 | exact hM.k12 | exact hM.k13 | exact hM.k14 | exact hM.k15 | exact hM.k16 | exact hM.k17) hM.r256 dX8_putSlice_100 ?_
        refine P_bipush (v := 6) rfl dX8_putSlice_103 ?_
        refine P_dup2 rfl rfl dX8_putSlice_105 ?_
        refine P_iaN (j := 6) (by first | exact hM.k0 | exact hM.k1 | exact hM.k2 | exact hM.k3 | exact hM.k4 | exact hM.k5 | exact hM.k6 | exact hM.k7 | exact hM.k8 | exact hM.k9 | exact hM.k10 | exact hM.k11 | exact hM.k12 | exact hM.k13 | exact hM.k14 | exact hM.k15 | exact hM.k16 | exact hM.k17) rfl (by first | omega | (simp only [hM.l1, hM.l2, hM.l3, hM.l4, hM.l5, hM.l6, hM.l7, hM.l8, hM.l9, hM.l10, hM.l11, hM.l12, hM.l13, hM.l14, hM.l15, hM.l16, hM.l17]; omega)) (by first | omega | (simp only [hM.l1, hM.l2, hM.l3, hM.l4, hM.l5, hM.l6, hM.l7, hM.l8, hM.l9, hM.l10, hM.l11, hM.l12, hM.l13, hM.l14, hM.l15, hM.l16, hM.l17]; omega)) (show _ = xG X 6 from hA1.g (by omega) (by omega) (by omega) (by omega)) dX8_putSlice_106 ?_
        refine P_iconst (v := 1) rfl dX8_putSlice_107 ?_
        refine P_iadd dX8_putSlice_108 ?_
        refine P_isN (j := 6) (by first | exact hM.k0 | exact hM.k1 | exact hM.k2 | exact hM.k3 | exact hM.k4 | exact hM.k5 | exact hM.k6 | exact hM.k7 | exact hM.k8 | exact hM.k9 | exact hM.k10 | exact hM.k11 | exact hM.k12 | exact hM.k13 | exact hM.k14 | exact hM.k15 | exact hM.k16 | exact hM.k17) rfl (by first | omega | (simp only [hM.l1, hM.l2, hM.l3, hM.l4, hM.l5, hM.l6, hM.l7, hM.l8, hM.l9, hM.l10, hM.l11, hM.l12, hM.l13, hM.l14, hM.l15, hM.l16, hM.l17]; omega)) (by first | omega | (simp only [hM.l1, hM.l2, hM.l3, hM.l4, hM.l5, hM.l6, hM.l7, hM.l8, hM.l9, hM.l10, hM.l11, hM.l12, hM.l13, hM.l14, hM.l15, hM.l16, hM.l17]; omega)) dX8_putSlice_109 ?_
        have hFB : FA m AI (p_up B1 (m + 1) 6 (xG X 6 + 1)) := hF1.u1
        have hB : RA (p_up B1 (m + 1) 6 (xG X 6 + 1)) m (x_g (x_rm X (nn s)) 6 (xG X 6 + 1)) := hA1.setG (by omega) (by omega) (by omega) (by omega)
        generalize p_up B1 (m + 1) 6 (xG X 6 + 1) = B at hFB hB ⊢
        have hpB : ib p (xp (x_g (x_rm X (nn s)) 6 (xG X 6 + 1))) := hp
        have hok1 : x_ok (x_g (x_rm X (nn s)) 6 (xG X 6 + 1)) := hok0
        have J164 : ¬ (xN X (nn node) 0 = 2 ∧ x_any (xT X (nn p)) (nn a) (nn (a + ln) - nn a) = true) → ∀ ov, ov = (if xN X (nn node) 0 = 1 then 1 else 0) → P g 6 iX8_putSlice 164 [some (vr m), some (vi s), some (vi p), some (vi a), some (vi (a + ln)), some (vi seed), some (vi la), some (vi node)] [vi ov, vi seed, vi (a + ln), vi a, vi p, vr m] (L, FI, B, AL, AR) (0, 0) (RM L FI AI AL AR m (x_put X (nn s)) none) := by
          intro hno ov hove
          have hov : ov = 0 ∨ ov = 1 := by rw [hove]; exact b_01
          have hovd : decide (ov = 1) = decide (xN X (nn node) 0 = 1) := by
            rw [hove]
            by_cases c : xN X (nn node) 0 = 1
            · rw [if_pos c]; exact (decide_eq_true rfl).trans (decide_eq_true c).symm
            · rw [if_neg c]; exact (decide_eq_false (by decide)).trans (decide_eq_false c).symm
          refine kX8_168 rfl (s_layBytes hM hB hpB ha9 hb9 hab hov) (by decide) (by first | exact hM.k0 | exact hM.k1 | exact hM.k2 | exact hM.k3 | exact hM.k4 | exact hM.k5 | exact hM.k6 | exact hM.k7 | exact hM.k8 | exact hM.k9 | exact hM.k10 | exact hM.k11 | exact hM.k12 | exact hM.k13 | exact hM.k14 | exact hM.k15 | exact hM.k16 | exact hM.k17) rfl dX8_putSlice_164 (fun r164 s164 q164 => ?_)
          obtain ⟨A5, rfl, rfl, hF5, hA5⟩ := q164
          rw [hovd] at hA5
          have hput5 : x_put X (nn s) = x_put3 (x_p (x_p (x_layb (x_g (x_rm X (nn s)) 6 (xG X 6 + 1)) (nn p) (nn a) (nn (a + ln)) seed (decide (xN X (nn node) 0 = 1))) (nn p) 8 (if decide (la = 1) = true then a + ln else xP (x_layb (x_g (x_rm X (nn s)) 6 (xG X 6 + 1)) (nn p) (nn a) (nn (a + ln)) seed (decide (xN X (nn node) 0 = 1))) (nn p) 8)) (nn p) 9 (if xP (x_p (x_layb (x_g (x_rm X (nn s)) 6 (xG X 6 + 1)) (nn p) (nn a) (nn (a + ln)) seed (decide (xN X (nn node) 0 = 1))) (nn p) 8 (if decide (la = 1) = true then a + ln else xP (x_layb (x_g (x_rm X (nn s)) 6 (xG X 6 + 1)) (nn p) (nn a) (nn (a + ln)) seed (decide (xN X (nn node) 0 = 1))) (nn p) 8)) (nn p) 9 < 0 then xG X 0 else xP (x_p (x_layb (x_g (x_rm X (nn s)) 6 (xG X 6 + 1)) (nn p) (nn a) (nn (a + ln)) seed (decide (xN X (nn node) 0 = 1))) (nn p) 8 (if decide (la = 1) = true then a + ln else xP (x_layb (x_g (x_rm X (nn s)) 6 (xG X 6 + 1)) (nn p) (nn a) (nn (a + ln)) seed (decide (xN X (nn node) 0 = 1))) (nn p) 8)) (nn p) 9)) (nn p) node := by
            rw [x_put_eq, if_neg (fun hh => hh (hst)), if_neg hwr]
            congr 1
            rw [x_put2_eq]; exact if_neg hno
          have hok5 : x_ok (x_p (x_p (x_layb (x_g (x_rm X (nn s)) 6 (xG X 6 + 1)) (nn p) (nn a) (nn (a + ln)) seed (decide (xN X (nn node) 0 = 1))) (nn p) 8 (if decide (la = 1) = true then a + ln else xP (x_layb (x_g (x_rm X (nn s)) 6 (xG X 6 + 1)) (nn p) (nn a) (nn (a + ln)) seed (decide (xN X (nn node) 0 = 1))) (nn p) 8)) (nn p) 9 (if xP (x_p (x_layb (x_g (x_rm X (nn s)) 6 (xG X 6 + 1)) (nn p) (nn a) (nn (a + ln)) seed (decide (xN X (nn node) 0 = 1))) (nn p) 8 (if decide (la = 1) = true then a + ln else xP (x_layb (x_g (x_rm X (nn s)) 6 (xG X 6 + 1)) (nn p) (nn a) (nn (a + ln)) seed (decide (xN X (nn node) 0 = 1))) (nn p) 8)) (nn p) 9 < 0 then xG X 0 else xP (x_p (x_layb (x_g (x_rm X (nn s)) 6 (xG X 6 + 1)) (nn p) (nn a) (nn (a + ln)) seed (decide (xN X (nn node) 0 = 1))) (nn p) 8 (if decide (la = 1) = true then a + ln else xP (x_layb (x_g (x_rm X (nn s)) 6 (xG X 6 + 1)) (nn p) (nn a) (nn (a + ln)) seed (decide (xN X (nn node) 0 = 1))) (nn p) 8)) (nn p) 9)) := by
            refine ⟨fun q hq hne => ?_, fun q hq => ?_, hok0.2.2.1, hok0.2.2.2⟩
            · show 0 ≤ p_up (xP (x_p (x_layb (x_g (x_rm X (nn s)) 6 (xG X 6 + 1)) (nn p) (nn a) (nn (a + ln)) seed (decide (xN X (nn node) 0 = 1))) (nn p) 8 (if decide (la = 1) = true then a + ln else xP (x_layb (x_g (x_rm X (nn s)) 6 (xG X 6 + 1)) (nn p) (nn a) (nn (a + ln)) seed (decide (xN X (nn node) 0 = 1))) (nn p) 8))) (nn p) 9 _ q 9
              rw [p_up_at]
              by_cases e : q = nn p
              · rw [if_pos ⟨e, rfl⟩]
                exact ite_nn hok0.2.2.2
              · rw [if_neg (fun hh => e hh.1)]
                have e1 : ∀ k, xP (x_p (x_layb (x_g (x_rm X (nn s)) 6 (xG X 6 + 1)) (nn p) (nn a) (nn (a + ln)) seed (decide (xN X (nn node) 0 = 1))) (nn p) 8 (if decide (la = 1) = true then a + ln else xP (x_layb (x_g (x_rm X (nn s)) 6 (xG X 6 + 1)) (nn p) (nn a) (nn (a + ln)) seed (decide (xN X (nn node) 0 = 1))) (nn p) 8)) q k = xP X q k := fun k => (p_up_n1 _ _ _ _ e).trans (p_up_n1 _ _ _ _ e)
                rw [e1]
                refine hok0.1 q hq ?_
                have h8 : xP (x_p (x_p (x_layb (x_g (x_rm X (nn s)) 6 (xG X 6 + 1)) (nn p) (nn a) (nn (a + ln)) seed (decide (xN X (nn node) 0 = 1))) (nn p) 8 (if decide (la = 1) = true then a + ln else xP (x_layb (x_g (x_rm X (nn s)) 6 (xG X 6 + 1)) (nn p) (nn a) (nn (a + ln)) seed (decide (xN X (nn node) 0 = 1))) (nn p) 8)) (nn p) 9 (if xP (x_p (x_layb (x_g (x_rm X (nn s)) 6 (xG X 6 + 1)) (nn p) (nn a) (nn (a + ln)) seed (decide (xN X (nn node) 0 = 1))) (nn p) 8 (if decide (la = 1) = true then a + ln else xP (x_layb (x_g (x_rm X (nn s)) 6 (xG X 6 + 1)) (nn p) (nn a) (nn (a + ln)) seed (decide (xN X (nn node) 0 = 1))) (nn p) 8)) (nn p) 9 < 0 then xG X 0 else xP (x_p (x_layb (x_g (x_rm X (nn s)) 6 (xG X 6 + 1)) (nn p) (nn a) (nn (a + ln)) seed (decide (xN X (nn node) 0 = 1))) (nn p) 8 (if decide (la = 1) = true then a + ln else xP (x_layb (x_g (x_rm X (nn s)) 6 (xG X 6 + 1)) (nn p) (nn a) (nn (a + ln)) seed (decide (xN X (nn node) 0 = 1))) (nn p) 8)) (nn p) 9)) q 12 = xP X q 12 := (p_up_n1 _ _ _ _ e).trans (e1 12)
                rw [← h8]; exact hne
            · show (p_up (xP (x_p (x_layb (x_g (x_rm X (nn s)) 6 (xG X 6 + 1)) (nn p) (nn a) (nn (a + ln)) seed (decide (xN X (nn node) 0 = 1))) (nn p) 8 (if decide (la = 1) = true then a + ln else xP (x_layb (x_g (x_rm X (nn s)) 6 (xG X 6 + 1)) (nn p) (nn a) (nn (a + ln)) seed (decide (xN X (nn node) 0 = 1))) (nn p) 8))) (nn p) 9 _ q 8).toInt < 4001
              rw [p_up_n2 _ _ _ _ (by decide)]
              show (p_up (xP (x_layb (x_g (x_rm X (nn s)) 6 (xG X 6 + 1)) (nn p) (nn a) (nn (a + ln)) seed (decide (xN X (nn node) 0 = 1)))) (nn p) 8 _ q 8).toInt < 4001
              rw [p_up_at]
              by_cases e : q = nn p
              · rw [if_pos ⟨e, rfl⟩]
                split
                · have := hb9.2; omega
                · have e1 : xP (x_layb (x_g (x_rm X (nn s)) 6 (xG X 6 + 1)) (nn p) (nn a) (nn (a + ln)) seed (decide (xN X (nn node) 0 = 1))) (nn p) 8 = xP X (nn p) 8 := p_up_n2 _ _ _ _ (by decide)
                  rw [e1]; exact hok0.2.1 _ hp.nn
              · rw [if_neg (fun hh => e hh.1)]
                have e1 : xP (x_layb (x_g (x_rm X (nn s)) 6 (xG X 6 + 1)) (nn p) (nn a) (nn (a + ln)) seed (decide (xN X (nn node) 0 = 1))) q 8 = xP X q 8 := p_up_n1 _ _ _ _ e
                rw [e1]; exact hok0.2.1 q hq
          have J188 : ∀ z, z = (if decide (la = 1) = true then a + ln else xP (x_layb (x_g (x_rm X (nn s)) 6 (xG X 6 + 1)) (nn p) (nn a) (nn (a + ln)) seed (decide (xN X (nn node) 0 = 1))) (nn p) 8) → P g 6 iX8_putSlice 188 [some (vr m), some (vi s), some (vi p), some (vi a), some (vi (a + ln)), some (vi seed), some (vi la), some (vi node)] [vi z, vi 8, vi p, vr m] (L, FI, A5, AL, AR) (0, 0) (RM L FI AI AL AR m (x_put X (nn s)) none) := by
            intro z hz
            have hA6 : RA (p_up A5 (m + 1) (246 + 14 * nn p + 8) z) m (x_p (x_layb (x_g (x_rm X (nn s)) 6 (xG X 6 + 1)) (nn p) (nn a) (nn (a + ln)) seed (decide (xN X (nn node) 0 = 1))) (nn p) 8 (if decide (la = 1) = true then a + ln else xP (x_layb (x_g (x_rm X (nn s)) 6 (xG X 6 + 1)) (nn p) (nn a) (nn (a + ln)) seed (decide (xN X (nn node) 0 = 1))) (nn p) 8)) := by
              have h9 := hA5.setP (i := nn p) (k := 8) (v := z) hp.nn (by decide)
              rw [hz] at h9 ⊢
              exact h9
            have hpC : ib p (xp (x_p (x_layb (x_g (x_rm X (nn s)) 6 (xG X 6 + 1)) (nn p) (nn a) (nn (a + ln)) seed (decide (xN X (nn node) 0 = 1))) (nn p) 8 (if decide (la = 1) = true then a + ln else xP (x_layb (x_g (x_rm X (nn s)) 6 (xG X 6 + 1)) (nn p) (nn a) (nn (a + ln)) seed (decide (xN X (nn node) 0 = 1))) (nn p) 8))) := hp
            have J221 : ∀ y, y = (if xP (x_p (x_layb (x_g (x_rm X (nn s)) 6 (xG X 6 + 1)) (nn p) (nn a) (nn (a + ln)) seed (decide (xN X (nn node) 0 = 1))) (nn p) 8 (if decide (la = 1) = true then a + ln else xP (x_layb (x_g (x_rm X (nn s)) 6 (xG X 6 + 1)) (nn p) (nn a) (nn (a + ln)) seed (decide (xN X (nn node) 0 = 1))) (nn p) 8)) (nn p) 9 < 0 then xG X 0 else xP (x_p (x_layb (x_g (x_rm X (nn s)) 6 (xG X 6 + 1)) (nn p) (nn a) (nn (a + ln)) seed (decide (xN X (nn node) 0 = 1))) (nn p) 8 (if decide (la = 1) = true then a + ln else xP (x_layb (x_g (x_rm X (nn s)) 6 (xG X 6 + 1)) (nn p) (nn a) (nn (a + ln)) seed (decide (xN X (nn node) 0 = 1))) (nn p) 8)) (nn p) 9) → P g 6 iX8_putSlice 221 [some (vr m), some (vi s), some (vi p), some (vi a), some (vi (a + ln)), some (vi seed), some (vi la), some (vi node)] [vi y, vi 9, vi p, vr m] (L, FI, p_up A5 (m + 1) (246 + 14 * nn p + 8) z, AL, AR) (0, 0) (RM L FI AI AL AR m (x_put X (nn s)) none) := by
              intro y hy
              subst hy
              refine kX8_105 rfl (s_layP hM (k := 9) hp40b rfl (by decide)) (by decide) (by first | exact hM.k0 | exact hM.k1 | exact hM.k2 | exact hM.k3 | exact hM.k4 | exact hM.k5 | exact hM.k6 | exact hM.k7 | exact hM.k8 | exact hM.k9 | exact hM.k10 | exact hM.k11 | exact hM.k12 | exact hM.k13 | exact hM.k14 | exact hM.k15 | exact hM.k16 | exact hM.k17) rfl dX8_putSlice_221 (fun r221 s221 q221 => ?_)
              obtain ⟨rfl, rfl⟩ := q221
              exact J224 (x_p (x_p (x_layb (x_g (x_rm X (nn s)) 6 (xG X 6 + 1)) (nn p) (nn a) (nn (a + ln)) seed (decide (xN X (nn node) 0 = 1))) (nn p) 8 (if decide (la = 1) = true then a + ln else xP (x_layb (x_g (x_rm X (nn s)) 6 (xG X 6 + 1)) (nn p) (nn a) (nn (a + ln)) seed (decide (xN X (nn node) 0 = 1))) (nn p) 8)) (nn p) 9 (if xP (x_p (x_layb (x_g (x_rm X (nn s)) 6 (xG X 6 + 1)) (nn p) (nn a) (nn (a + ln)) seed (decide (xN X (nn node) 0 = 1))) (nn p) 8 (if decide (la = 1) = true then a + ln else xP (x_layb (x_g (x_rm X (nn s)) 6 (xG X 6 + 1)) (nn p) (nn a) (nn (a + ln)) seed (decide (xN X (nn node) 0 = 1))) (nn p) 8)) (nn p) 9 < 0 then xG X 0 else xP (x_p (x_layb (x_g (x_rm X (nn s)) 6 (xG X 6 + 1)) (nn p) (nn a) (nn (a + ln)) seed (decide (xN X (nn node) 0 = 1))) (nn p) 8 (if decide (la = 1) = true then a + ln else xP (x_layb (x_g (x_rm X (nn s)) 6 (xG X 6 + 1)) (nn p) (nn a) (nn (a + ln)) seed (decide (xN X (nn node) 0 = 1))) (nn p) 8)) (nn p) 9)) _ (((hFB.tr hF5).u1).u1) (hA6.setP (i := nn p) (k := 9) (v := (if xP (x_p (x_layb (x_g (x_rm X (nn s)) 6 (xG X 6 + 1)) (nn p) (nn a) (nn (a + ln)) seed (decide (xN X (nn node) 0 = 1))) (nn p) 8 (if decide (la = 1) = true then a + ln else xP (x_layb (x_g (x_rm X (nn s)) 6 (xG X 6 + 1)) (nn p) (nn a) (nn (a + ln)) seed (decide (xN X (nn node) 0 = 1))) (nn p) 8)) (nn p) 9 < 0 then xG X 0 else xP (x_p (x_layb (x_g (x_rm X (nn s)) 6 (xG X 6 + 1)) (nn p) (nn a) (nn (a + ln)) seed (decide (xN X (nn node) 0 = 1))) (nn p) 8 (if decide (la = 1) = true then a + ln else xP (x_layb (x_g (x_rm X (nn s)) 6 (xG X 6 + 1)) (nn p) (nn a) (nn (a + ln)) seed (decide (xN X (nn node) 0 = 1))) (nn p) 8)) (nn p) 9)) hp.nn (by decide)) hok5 rfl hput5
            refine kX8_105 rfl (s_layP hM (k := 8) hp40b rfl (by decide)) (by decide) (by first | exact hM.k0 | exact hM.k1 | exact hM.k2 | exact hM.k3 | exact hM.k4 | exact hM.k5 | exact hM.k6 | exact hM.k7 | exact hM.k8 | exact hM.k9 | exact hM.k10 | exact hM.k11 | exact hM.k12 | exact hM.k13 | exact hM.k14 | exact hM.k15 | exact hM.k16 | exact hM.k17) rfl dX8_putSlice_188 (fun r188 s188 q188 => ?_)
            obtain ⟨rfl, rfl⟩ := q188
            refine P_aloadn (i := 0) rfl rfl dX8_putSlice_191 ?_
            refine P_iloadn (i := 2) rfl rfl dX8_putSlice_192 ?_
            refine P_bipush (v := 9) rfl dX8_putSlice_193 ?_
            refine P_aloadn (i := 0) rfl rfl dX8_putSlice_195 ?_
            refine P_iloadn (i := 2) rfl rfl dX8_putSlice_196 ?_
            refine P_bipush (v := 9) rfl dX8_putSlice_197 ?_
            refine kX8_102 rfl (s_ofP hM hA6 (k := 9) hpC rfl (by decide)) (by decide) (by first | exact hM.k0 | exact hM.k1 | exact hM.k2 | exact hM.k3 | exact hM.k4 | exact hM.k5 | exact hM.k6 | exact hM.k7 | exact hM.k8 | exact hM.k9 | exact hM.k10 | exact hM.k11 | exact hM.k12 | exact hM.k13 | exact hM.k14 | exact hM.k15 | exact hM.k16 | exact hM.k17) rfl dX8_putSlice_199 (fun r199 s199 q199 => ?_)
            obtain ⟨rfl, rfl⟩ := q199
            refine P_ifge dX8_putSlice_202 (tgt := 214) rfl (fun h202 => ?_) (fun h202 => ?_)
            · refine P_aloadn (i := 0) rfl rfl dX8_putSlice_214 ?_
              refine P_iloadn (i := 2) rfl rfl dX8_putSlice_215 ?_
              refine P_bipush (v := 9) rfl dX8_putSlice_216 ?_
              refine kX8_102 rfl (s_ofP hM hA6 (k := 9) hpC rfl (by decide)) (by decide) (by first | exact hM.k0 | exact hM.k1 | exact hM.k2 | exact hM.k3 | exact hM.k4 | exact hM.k5 | exact hM.k6 | exact hM.k7 | exact hM.k8 | exact hM.k9 | exact hM.k10 | exact hM.k11 | exact hM.k12 | exact hM.k13 | exact hM.k14 | exact hM.k15 | exact hM.k16 | exact hM.k17) rfl dX8_putSlice_218 (fun r218 s218 q218 => ?_)
              obtain ⟨rfl, rfl⟩ := q218
              exact J221 _ (if_neg (Int32.not_lt.mpr h202)).symm
            · refine P_aloadn (i := 0) rfl rfl dX8_putSlice_205 ?_
              refine gX8_7 rfl (by first | exact hM.k0 | exact hM.k1 | exact hM.k2 | exact hM.k3 | exact hM.k4 | exact hM.k5 | exact hM.k6 | exact hM.k7 | exact hM.k8 | exact hM.k9 | exact hM.k10 | exact hM.k11 | exact hM.k12 | exact hM.k13 | exact hM.k14 | exact hM.k15 | exact hM.k16 | exact hM.k17) hM.r256 dX8_putSlice_206 ?_
              refine P_iconst (v := 0) rfl dX8_putSlice_209 ?_
              refine P_iaN (j := 0) (by first | exact hM.k0 | exact hM.k1 | exact hM.k2 | exact hM.k3 | exact hM.k4 | exact hM.k5 | exact hM.k6 | exact hM.k7 | exact hM.k8 | exact hM.k9 | exact hM.k10 | exact hM.k11 | exact hM.k12 | exact hM.k13 | exact hM.k14 | exact hM.k15 | exact hM.k16 | exact hM.k17) rfl (by first | omega | (simp only [hM.l1, hM.l2, hM.l3, hM.l4, hM.l5, hM.l6, hM.l7, hM.l8, hM.l9, hM.l10, hM.l11, hM.l12, hM.l13, hM.l14, hM.l15, hM.l16, hM.l17]; omega)) (by first | omega | (simp only [hM.l1, hM.l2, hM.l3, hM.l4, hM.l5, hM.l6, hM.l7, hM.l8, hM.l9, hM.l10, hM.l11, hM.l12, hM.l13, hM.l14, hM.l15, hM.l16, hM.l17]; omega)) (show _ = xG X 0 from hA6.g (by omega) (by omega) (by omega) (by omega)) dX8_putSlice_210 ?_
              refine P_goto dX8_putSlice_211 (tgt := 221) rfl ?_
              exact J221 _ (if_pos (Int32.not_le.mp h202)).symm
          refine P_aloadn (i := 0) rfl rfl dX8_putSlice_167 ?_
          refine P_iloadn (i := 2) rfl rfl dX8_putSlice_168 ?_
          refine P_bipush (v := 8) rfl dX8_putSlice_169 ?_
          refine P_iload (i := 6) rfl dX8_putSlice_171 ?_
          refine P_ifeq dX8_putSlice_173 (tgt := 181) rfl (fun h173 => ?_) (fun h173 => ?_)
          · refine P_aloadn (i := 0) rfl rfl dX8_putSlice_181 ?_
            refine P_iloadn (i := 2) rfl rfl dX8_putSlice_182 ?_
            refine P_bipush (v := 8) rfl dX8_putSlice_183 ?_
            refine kX8_102 rfl (s_ofP hM hA5 (k := 8) hp rfl (by decide)) (by decide) (by first | exact hM.k0 | exact hM.k1 | exact hM.k2 | exact hM.k3 | exact hM.k4 | exact hM.k5 | exact hM.k6 | exact hM.k7 | exact hM.k8 | exact hM.k9 | exact hM.k10 | exact hM.k11 | exact hM.k12 | exact hM.k13 | exact hM.k14 | exact hM.k15 | exact hM.k16 | exact hM.k17) rfl dX8_putSlice_185 (fun r185 s185 q185 => ?_)
            obtain ⟨rfl, rfl⟩ := q185
            exact J188 _ (if_neg (fun hh => by have h9 := of_decide_eq_true hh; rw [h173] at h9; exact absurd h9 (by decide))).symm
          · refine P_iload (i := 4) rfl dX8_putSlice_176 ?_
            refine P_goto dX8_putSlice_178 (tgt := 188) rfl ?_
            exact J188 _ (if_pos (decide_eq_true (hla.resolve_left h173))).symm
        refine P_aloadn (i := 0) rfl rfl dX8_putSlice_110 ?_
        refine P_iload (i := 7) rfl dX8_putSlice_111 ?_
        refine P_iconst (v := 0) rfl dX8_putSlice_113 ?_
        refine kX8_152 rfl (s_ofN hM hB (k := 0) hnode rfl (by decide)) (by decide) (by first | exact hM.k0 | exact hM.k1 | exact hM.k2 | exact hM.k3 | exact hM.k4 | exact hM.k5 | exact hM.k6 | exact hM.k7 | exact hM.k8 | exact hM.k9 | exact hM.k10 | exact hM.k11 | exact hM.k12 | exact hM.k13 | exact hM.k14 | exact hM.k15 | exact hM.k16 | exact hM.k17) rfl dX8_putSlice_114 (fun r114 s114 q114 => ?_)
        obtain ⟨rfl, rfl⟩ := q114
        refine P_iconst (v := 2) rfl dX8_putSlice_117 ?_
        refine P_icmpne dX8_putSlice_118 (tgt := 141) rfl (fun h118 => ?_) (fun h118 => ?_)
        · refine P_aloadn (i := 0) rfl rfl dX8_putSlice_141 ?_
          refine P_iloadn (i := 2) rfl rfl dX8_putSlice_142 ?_
          refine P_iloadn (i := 3) rfl rfl dX8_putSlice_143 ?_
          refine P_iload (i := 4) rfl dX8_putSlice_144 ?_
          refine P_iload (i := 5) rfl dX8_putSlice_146 ?_
          refine P_aloadn (i := 0) rfl rfl dX8_putSlice_148 ?_
          refine P_iload (i := 7) rfl dX8_putSlice_149 ?_
          refine P_iconst (v := 0) rfl dX8_putSlice_151 ?_
          refine kX8_152 rfl (s_ofN hM hB (k := 0) hnode rfl (by decide)) (by decide) (by first | exact hM.k0 | exact hM.k1 | exact hM.k2 | exact hM.k3 | exact hM.k4 | exact hM.k5 | exact hM.k6 | exact hM.k7 | exact hM.k8 | exact hM.k9 | exact hM.k10 | exact hM.k11 | exact hM.k12 | exact hM.k13 | exact hM.k14 | exact hM.k15 | exact hM.k16 | exact hM.k17) rfl dX8_putSlice_152 (fun r152 s152 q152 => ?_)
          obtain ⟨rfl, rfl⟩ := q152
          refine P_iconst (v := 1) rfl dX8_putSlice_155 ?_
          refine P_icmpne dX8_putSlice_156 (tgt := 163) rfl (fun h156 => ?_) (fun h156 => ?_)
          · refine P_iconst (v := 0) rfl dX8_putSlice_163 ?_
            exact J164 (fun hh => h118 hh.1) _ (if_neg h156).symm
          · refine P_iconst (v := 1) rfl dX8_putSlice_159 ?_
            refine P_goto dX8_putSlice_160 (tgt := 164) rfl ?_
            exact J164 (fun hh => h118 hh.1) _ (if_pos h156).symm
        · refine P_aloadn (i := 0) rfl rfl dX8_putSlice_121 ?_
          refine P_iloadn (i := 2) rfl rfl dX8_putSlice_122 ?_
          refine P_iloadn (i := 3) rfl rfl dX8_putSlice_123 ?_
          refine P_iload (i := 4) rfl dX8_putSlice_124 ?_
          refine kX8_145 rfl (s_isAnyThere hM hB hpB (ha9.mono (by decide)) hb9) (by decide) (by first | exact hM.k0 | exact hM.k1 | exact hM.k2 | exact hM.k3 | exact hM.k4 | exact hM.k5 | exact hM.k6 | exact hM.k7 | exact hM.k8 | exact hM.k9 | exact hM.k10 | exact hM.k11 | exact hM.k12 | exact hM.k13 | exact hM.k14 | exact hM.k15 | exact hM.k16 | exact hM.k17) rfl dX8_putSlice_126 (fun r126 s126 q126 => ?_)
          obtain ⟨rfl, rfl⟩ := q126
          refine P_ifeq dX8_putSlice_129 (tgt := 141) rfl (fun h129 => ?_) (fun h129 => ?_)
          · refine P_aloadn (i := 0) rfl rfl dX8_putSlice_141 ?_
            refine P_iloadn (i := 2) rfl rfl dX8_putSlice_142 ?_
            refine P_iloadn (i := 3) rfl rfl dX8_putSlice_143 ?_
            refine P_iload (i := 4) rfl dX8_putSlice_144 ?_
            refine P_iload (i := 5) rfl dX8_putSlice_146 ?_
            refine P_aloadn (i := 0) rfl rfl dX8_putSlice_148 ?_
            refine P_iload (i := 7) rfl dX8_putSlice_149 ?_
            refine P_iconst (v := 0) rfl dX8_putSlice_151 ?_
            refine kX8_152 rfl (s_ofN hM hB (k := 0) hnode rfl (by decide)) (by decide) (by first | exact hM.k0 | exact hM.k1 | exact hM.k2 | exact hM.k3 | exact hM.k4 | exact hM.k5 | exact hM.k6 | exact hM.k7 | exact hM.k8 | exact hM.k9 | exact hM.k10 | exact hM.k11 | exact hM.k12 | exact hM.k13 | exact hM.k14 | exact hM.k15 | exact hM.k16 | exact hM.k17) rfl dX8_putSlice_152 (fun r152 s152 q152 => ?_)
            obtain ⟨rfl, rfl⟩ := q152
            refine P_iconst (v := 1) rfl dX8_putSlice_155 ?_
            refine P_icmpne dX8_putSlice_156 (tgt := 163) rfl (fun h156 => ?_) (fun h156 => ?_)
            · refine P_iconst (v := 0) rfl dX8_putSlice_163 ?_
              exact J164 (fun hh => b_f h129 hh.2) _ (if_neg h156).symm
            · refine P_iconst (v := 1) rfl dX8_putSlice_159 ?_
              refine P_goto dX8_putSlice_160 (tgt := 164) rfl ?_
              exact J164 (fun hh => b_f h129 hh.2) _ (if_pos h156).symm
          · refine P_aloadn (i := 0) rfl rfl dX8_putSlice_132 ?_
            refine P_iloadn (i := 2) rfl rfl dX8_putSlice_133 ?_
            refine P_iconst (v := 5) rfl dX8_putSlice_134 ?_
            refine kX8_155 rfl (s_end hM hB hpB) (by decide) (by first | exact hM.k0 | exact hM.k1 | exact hM.k2 | exact hM.k3 | exact hM.k4 | exact hM.k5 | exact hM.k6 | exact hM.k7 | exact hM.k8 | exact hM.k9 | exact hM.k10 | exact hM.k11 | exact hM.k12 | exact hM.k13 | exact hM.k14 | exact hM.k15 | exact hM.k16 | exact hM.k17) rfl dX8_putSlice_135 (fun r135 s135 q135 => ?_)
            obtain ⟨A2, rfl, rfl, hF2, hA2⟩ := q135
            refine P_goto dX8_putSlice_138 (tgt := 224) rfl ?_
            exact J224 _ A2 (hFB.tr hF2) hA2 (hok1.end_ _ _) rfl (by rw [x_put_eq, if_neg (fun hh => hh hst), if_neg hwr]; congr 1; rw [x_put2_eq]; exact if_pos ⟨h118, b_t h129⟩)
      · refine P_aloadn (i := 0) rfl rfl dX8_putSlice_78 ?_
        refine P_iloadn (i := 1) rfl rfl dX8_putSlice_79 ?_
        refine P_bipush (v := 6) rfl dX8_putSlice_80 ?_
        refine kX8_161 rfl (s_drop hM hA hs (k := 6) rfl (by decide) (by rw [← hpe]; exact hp)) (by decide) (by first | exact hM.k0 | exact hM.k1 | exact hM.k2 | exact hM.k3 | exact hM.k4 | exact hM.k5 | exact hM.k6 | exact hM.k7 | exact hM.k8 | exact hM.k9 | exact hM.k10 | exact hM.k11 | exact hM.k12 | exact hM.k13 | exact hM.k14 | exact hM.k15 | exact hM.k16 | exact hM.k17) rfl dX8_putSlice_82 (fun r82 s82 q82 => ?_)
        obtain ⟨A2, rfl, rfl, hF2, hA2⟩ := q82
        refine P_return rfl dX8_putSlice_85 ?_
        exact ⟨A2, rfl, rfl, hF2, by rw [x_put_eq, if_neg (fun hh => hh h55), if_pos (b_t h75)]; exact hA2⟩
    · refine P_aloadn (i := 0) rfl rfl dX8_putSlice_58 ?_
      refine P_iloadn (i := 1) rfl rfl dX8_putSlice_59 ?_
      refine P_bipush (v := 7) rfl dX8_putSlice_60 ?_
      refine kX8_161 rfl (s_drop hM hA hs (k := 7) rfl (by decide) (by rw [← hpe]; exact hp)) (by decide) (by first | exact hM.k0 | exact hM.k1 | exact hM.k2 | exact hM.k3 | exact hM.k4 | exact hM.k5 | exact hM.k6 | exact hM.k7 | exact hM.k8 | exact hM.k9 | exact hM.k10 | exact hM.k11 | exact hM.k12 | exact hM.k13 | exact hM.k14 | exact hM.k15 | exact hM.k16 | exact hM.k17) rfl dX8_putSlice_62 (fun r62 s62 q62 => ?_)
      obtain ⟨A2, rfl, rfl, hF2, hA2⟩ := q62
      refine P_return rfl dX8_putSlice_65 ?_
      exact ⟨A2, rfl, rfl, hF2, by rw [x_put_eq, if_pos h55]; exact hA2⟩
  refine P_aloadn (i := 0) rfl rfl dX8_putSlice_0 ?_
  refine P_iloadn (i := 1) rfl rfl dX8_putSlice_1 ?_
  refine P_iconst (v := 0) rfl dX8_putSlice_2 ?_
  refine kX8_108 rfl (s_ofS hM hA (k := 0) hs rfl (by decide)) (by decide) (by first | exact hM.k0 | exact hM.k1 | exact hM.k2 | exact hM.k3 | exact hM.k4 | exact hM.k5 | exact hM.k6 | exact hM.k7 | exact hM.k8 | exact hM.k9 | exact hM.k10 | exact hM.k11 | exact hM.k12 | exact hM.k13 | exact hM.k14 | exact hM.k15 | exact hM.k16 | exact hM.k17) rfl dX8_putSlice_3 (fun r3 s3 q3 => ?_)
  obtain ⟨rfl, rfl⟩ := q3
  rw [show x_sl (x_at X (nn s)) 0 = p from hpe.symm]
  refine P_is2 (Or.inl dX8_putSlice_6) rfl rfl ?_
  refine P_aloadn (i := 0) rfl rfl dX8_putSlice_7 ?_
  refine P_iloadn (i := 1) rfl rfl dX8_putSlice_8 ?_
  refine P_iconst (v := 1) rfl dX8_putSlice_9 ?_
  refine kX8_108 rfl (s_ofS hM hA (k := 1) hs rfl (by decide)) (by decide) (by first | exact hM.k0 | exact hM.k1 | exact hM.k2 | exact hM.k3 | exact hM.k4 | exact hM.k5 | exact hM.k6 | exact hM.k7 | exact hM.k8 | exact hM.k9 | exact hM.k10 | exact hM.k11 | exact hM.k12 | exact hM.k13 | exact hM.k14 | exact hM.k15 | exact hM.k16 | exact hM.k17) rfl dX8_putSlice_10 (fun r10 s10 q10 => ?_)
  obtain ⟨rfl, rfl⟩ := q10
  rw [show x_sl (x_at X (nn s)) 1 = a from hae.symm]
  refine P_is3 (Or.inl dX8_putSlice_13) rfl rfl ?_
  refine P_iloadn (i := 3) rfl rfl dX8_putSlice_14 ?_
  refine P_aloadn (i := 0) rfl rfl dX8_putSlice_15 ?_
  refine P_iloadn (i := 1) rfl rfl dX8_putSlice_16 ?_
  refine P_iconst (v := 2) rfl dX8_putSlice_17 ?_
  refine kX8_108 rfl (s_ofS hM hA (k := 2) hs rfl (by decide)) (by decide) (by first | exact hM.k0 | exact hM.k1 | exact hM.k2 | exact hM.k3 | exact hM.k4 | exact hM.k5 | exact hM.k6 | exact hM.k7 | exact hM.k8 | exact hM.k9 | exact hM.k10 | exact hM.k11 | exact hM.k12 | exact hM.k13 | exact hM.k14 | exact hM.k15 | exact hM.k16 | exact hM.k17) rfl dX8_putSlice_18 (fun r18 s18 q18 => ?_)
  obtain ⟨rfl, rfl⟩ := q18
  rw [show x_sl (x_at X (nn s)) 2 = ln from hle.symm]
  refine P_iadd dX8_putSlice_21 ?_
  refine P_is4 (Or.inr dX8_putSlice_22) rfl rfl ?_
  refine P_aloadn (i := 0) rfl rfl dX8_putSlice_24 ?_
  refine P_iloadn (i := 1) rfl rfl dX8_putSlice_25 ?_
  refine P_iconst (v := 5) rfl dX8_putSlice_26 ?_
  refine kX8_108 rfl (s_ofS hM hA (k := 5) hs rfl (by decide)) (by decide) (by first | exact hM.k0 | exact hM.k1 | exact hM.k2 | exact hM.k3 | exact hM.k4 | exact hM.k5 | exact hM.k6 | exact hM.k7 | exact hM.k8 | exact hM.k9 | exact hM.k10 | exact hM.k11 | exact hM.k12 | exact hM.k13 | exact hM.k14 | exact hM.k15 | exact hM.k16 | exact hM.k17) rfl dX8_putSlice_27 (fun r27 s27 q27 => ?_)
  obtain ⟨rfl, rfl⟩ := q27
  rw [show x_sl (x_at X (nn s)) 5 = seed from hse.symm]
  refine P_is5 (Or.inr dX8_putSlice_30) rfl rfl ?_
  refine P_aloadn (i := 0) rfl rfl dX8_putSlice_32 ?_
  refine P_iloadn (i := 1) rfl rfl dX8_putSlice_33 ?_
  refine P_iconst (v := 3) rfl dX8_putSlice_34 ?_
  refine kX8_108 rfl (s_ofS hM hA (k := 3) hs rfl (by decide)) (by decide) (by first | exact hM.k0 | exact hM.k1 | exact hM.k2 | exact hM.k3 | exact hM.k4 | exact hM.k5 | exact hM.k6 | exact hM.k7 | exact hM.k8 | exact hM.k9 | exact hM.k10 | exact hM.k11 | exact hM.k12 | exact hM.k13 | exact hM.k14 | exact hM.k15 | exact hM.k16 | exact hM.k17) rfl dX8_putSlice_35 (fun r35 s35 q35 => ?_)
  obtain ⟨rfl, rfl⟩ := q35
  rw [show x_sl (x_at X (nn s)) 3 = la from hlae.symm]
  refine P_iconst (v := 1) rfl dX8_putSlice_38 ?_
  refine P_icmpne dX8_putSlice_39 (tgt := 46) rfl (fun h39 => ?_) (fun h39 => ?_)
  · refine P_iconst (v := 0) rfl dX8_putSlice_46 ?_
    exact J47 0 (hla.resolve_right h39).symm
  · refine P_iconst (v := 1) rfl dX8_putSlice_42 ?_
    refine P_goto dX8_putSlice_43 (tgt := 47) rfl ?_
    exact J47 1 h39.symm
end Ref8
