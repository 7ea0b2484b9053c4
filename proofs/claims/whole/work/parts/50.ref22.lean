/-! ===== characters given as a number ===== -/
def l_sh (r : Int64) : Int64 := (r.toUInt64 >>> ((8 : Int32).toInt64.toUInt64 &&& Int64.toUInt64 63)).toInt64
def l_cnt : Nat → Int64 → Nat → Nat
  | 0, _, k => k
  | f + 1, r, k => if r = 0 then k else if ¬ ((33 : Int32) ≤ (r &&& 255).toInt32 ∧ (r &&& 255).toInt32 ≤ 126) then 0 else l_cnt f (l_sh r) (k + 1)
def l_chr (x : Int64) (j : Nat) : Int32 := ((x >>> (((8 : Int32) * Int32.ofNat j).toInt64 &&& 63)) &&& 255).toInt32
def z_put (Z : ZW) (x : Int64) : ZW × Int32 :=
  if l_cnt 8 x 0 = 0 then (Z, -2)
  else if 80 < zn Z + l_cnt 8 x 0 then (Z, -4)
  else ((zX Z, zH Z, zf Z, zk Z, zS Z, zV Z, (fun i => if zn Z ≤ i ∧ i < zn Z + l_cnt 8 x 0 then l_chr x (l_cnt 8 x 0 - 1 - (i - zn Z)) else zC Z i), zn Z + l_cnt 8 x 0), Int32.ofNat (zn Z + l_cnt 8 x 0))
theorem l_sh_nat (r : Int64) : (l_sh r).toUInt64.toNat = r.toUInt64.toNat / 256 := by
  show (r.toUInt64 >>> (8 : UInt64)).toNat = _
  rw [UInt64.toNat_shiftRight, Nat.shiftRight_eq_div_pow]
  rfl
theorem l_zero {r : Int64} (h : r.toUInt64.toNat < 1) : r = 0 := by
  have h1 : r.toUInt64 = 0 := by
    rw [← UInt64.toNat_inj]
    show r.toUInt64.toNat = 0
    omega
  have h2 : r.toUInt64.toInt64 = (0 : UInt64).toInt64 := congrArg UInt64.toInt64 h1
  exact h2
theorem l_cnt_le : ∀ f r k, l_cnt f r k ≤ k + f := by
  intro f
  induction f with
  | zero => intro r k; exact Nat.le_refl _
  | succ f ih =>
    intro r k
    unfold l_cnt
    split
    · omega
    · split
      · omega
      · have := ih (l_sh r) (k + 1); omega
section Ref22
variable {g : PG} {L : PL} {FI AI : Nat → Nat → Int32} {AL : Nat → Nat → Int64} {AR : Nat → Nat → Option Nat} {m : Nat} {Z : ZW} {x : Int64}
theorem s_put8 (hM : WM L m) (hZ : RZ FI AI m Z) : Sp g 1 iX8_put [vr m, vl x] (L, FI, AI, AL, AR) (0, 0) (RZM L FI AI AL AR m (z_put Z x).1 (some (vi (z_put Z x).2))) := by
  refine Sp.of (ls := [some (vr m), some (vl x), none, none, none, none, none]) (by decide +kernel) rfl rfl ?_
  have hn80 := hZ.n80
  have J55 : ∀ (k : Nat) (r : Int64), k ≤ 8 → (r = 0 → l_cnt 8 x 0 = k) → (¬ r = 0 → l_cnt 8 x 0 = 0) → P g 1 iX8_put 55 [some (vr m), some (vl x), none, some (vi (Int32.ofNat k)), some (vl r), none, none] [] (L, FI, AI, AL, AR) (0, 0) (RZM L FI AI AL AR m (z_put Z x).1 (some (vi (z_put Z x).2))) := by
    intro k r hk8 hr0 hr1
    refine P_iloadn (i := 3) rfl rfl dX8_put_55 ?_
    refine P_ifeq dX8_put_56 (tgt := 66) rfl (fun h56 => ?_) (fun h56 => ?_)
    · have hk0 : k = 0 := (n_eq (b := 0) (by omega) (by omega)).mp h56
      refine P_bipush (v := (-2)) rfl dX8_put_66 ?_
      refine P_ireturn rfl dX8_put_68 ?_
      have hlc : l_cnt 8 x 0 = 0 := by
        by_cases hrz : r = 0
        · rw [hr0 hrz, hk0]
        · exact hr1 hrz
      rw [show z_put Z x = (Z, -2) from if_pos hlc]
      exact ⟨_, _, rfl, rfl, FrM.rf, hZ⟩
    · have hk0 : ¬ k = 0 := fun hh => h56 (by rw [hh]; rfl)
      refine P_lload (i := 4) rfl dX8_put_59 ?_
      refine P_lconst (v := 0) rfl dX8_put_61 ?_
      refine P_lcmp dX8_put_62 ?_
      refine P_ifeq dX8_put_63 (tgt := 69) rfl (fun h63 => ?_) (fun h63 => ?_)
      · have hrz : r = 0 := (lg_cmp_eq _ _).mp h63
        have hlc := hr0 hrz
        refine P_aloadn (i := 0) rfl rfl dX8_put_69 ?_
        refine gX8_211 rfl (by first | exact hM.k0 | exact hM.k1 | exact hM.k2 | exact hM.k3 | exact hM.k4 | exact hM.k5 | exact hM.k6 | exact hM.k7 | exact hM.k8 | exact hM.k9 | exact hM.k10 | exact hM.k11 | exact hM.k12 | exact hM.k13 | exact hM.k14 | exact hM.k15 | exact hM.k16 | exact hM.k17) hZ.pn dX8_put_70 ?_
        refine P_iloadn (i := 3) rfl rfl dX8_put_73 ?_
        refine P_iadd dX8_put_74 ?_
        rw [n_add]
        refine P_bipush (v := 80) rfl dX8_put_75 ?_
        refine P_icmple dX8_put_77 (tgt := 83) rfl (fun h77 => ?_) (fun h77 => ?_)
        · have hle := (n_le (a := zn Z + k) (b := 80) (by omega) (by omega)).mp h77
          refine P_iconst (v := 0) rfl dX8_put_83 ?_
          refine P_is6 (Or.inr dX8_put_84) rfl rfl ?_
          have hop : z_put Z x = ((zX Z, zH Z, zf Z, zk Z, zS Z, zV Z, (fun i => if zn Z ≤ i ∧ i < zn Z + k then l_chr x (k - 1 - (i - zn Z)) else zC Z i), zn Z + k), Int32.ofNat (zn Z + k)) := by
            have h9 : z_put Z x = _ := (if_neg (by rw [hlc]; exact hk0)).trans (if_neg (by rw [hlc]; omega))
            rw [hlc] at h9
            exact h9
          have loop : ∀ n i : Nat, i + n = k → ∀ A : Nat → Nat → Int32, (∀ a, a ≠ m + 10 → A a = AI a) → (∀ j, A (m + 10) j = if zn Z ≤ j ∧ j < zn Z + i then l_chr x (k - 1 - (j - zn Z)) else AI (m + 10) j) → P g 1 iX8_put 86 [some (vr m), some (vl x), none, some (vi (Int32.ofNat k)), some (vl r), none, some (vi (Int32.ofNat i))] [] (L, FI, A, AL, AR) (0, 0) (RZM L FI AI AL AR m (z_put Z x).1 (some (vi (z_put Z x).2))) := by
            intro n
            induction n with
            | zero =>
              intro i hi A hAo hAp
              refine P_iload (i := 6) rfl dX8_put_86 ?_
              refine P_iloadn (i := 3) rfl rfl dX8_put_88 ?_
              refine P_icmpge dX8_put_89 (tgt := 126) rfl (fun h89 => ?_) (fun h89 => absurd ((n_le (a := k) (b := i) (by omega) (by omega)).mpr (by omega)) h89)
              refine P_aloadn (i := 0) rfl rfl dX8_put_126 ?_
              refine P_dup rfl dX8_put_127 ?_
              refine gX8_211 rfl (by first | exact hM.k0 | exact hM.k1 | exact hM.k2 | exact hM.k3 | exact hM.k4 | exact hM.k5 | exact hM.k6 | exact hM.k7 | exact hM.k8 | exact hM.k9 | exact hM.k10 | exact hM.k11 | exact hM.k12 | exact hM.k13 | exact hM.k14 | exact hM.k15 | exact hM.k16 | exact hM.k17) hZ.pn dX8_put_128 ?_
              refine P_iloadn (i := 3) rfl rfl dX8_put_131 ?_
              refine P_iadd dX8_put_132 ?_
              rw [n_add]
              refine uX8_211 rfl (by first | exact hM.k0 | exact hM.k1 | exact hM.k2 | exact hM.k3 | exact hM.k4 | exact hM.k5 | exact hM.k6 | exact hM.k7 | exact hM.k8 | exact hM.k9 | exact hM.k10 | exact hM.k11 | exact hM.k12 | exact hM.k13 | exact hM.k14 | exact hM.k15 | exact hM.k16 | exact hM.k17) dX8_put_133 ?_
              refine P_aloadn (i := 0) rfl rfl dX8_put_136 ?_
              refine gX8_211 rfl (by first | exact hM.k0 | exact hM.k1 | exact hM.k2 | exact hM.k3 | exact hM.k4 | exact hM.k5 | exact hM.k6 | exact hM.k7 | exact hM.k8 | exact hM.k9 | exact hM.k10 | exact hM.k11 | exact hM.k12 | exact hM.k13 | exact hM.k14 | exact hM.k15 | exact hM.k16 | exact hM.k17) (p_up_eq _ _ _ _) dX8_put_137 ?_
              refine P_ireturn rfl dX8_put_140 ?_
              have hki : k = i := by omega
              rw [hop]
              refine ⟨_, _, rfl, rfl, ⟨fun j a ha => p_up_n2 _ _ _ _ ha, fun a ha => hAo a (by omega), p_up_n1 _ _ _ _ (by decide)⟩, ?_⟩
              have hX : RA A m (zX Z) := by
                show RF (A (m + 1)) (A (m + 2)) (zX Z)
                rw [hAo _ (by omega), hAo _ (by omega)]
                exact hZ.x
              refine ⟨hX, ⟨(p_up_n1 _ _ _ _ (by decide)).trans hZ.pf, hZ.f6, (p_up_n1 _ _ _ _ (by decide)).trans hZ.pk, hZ.k6⟩, fun j hj => ?_, fun q hq => ⟨?_, fun hv => ?_⟩, p_up_eq _ _ _ _, ?_, fun j hj => ?_⟩
              · rw [hAo _ (by omega), hAo _ (by omega)]; exact hZ.h hj
              · rw [hAo _ (by omega)]; exact hZ.v hq
              · rw [hAo _ (by omega), hAo _ (by omega)]; exact hZ.s hq hv
              · show zn Z + k ≤ 80
                omega
              · have hj2 : j < zn Z + k := hj
                rw [hAp]
                show _ = (if zn Z ≤ j ∧ j < zn Z + k then l_chr x (k - 1 - (j - zn Z)) else zC Z j)
                by_cases e : zn Z ≤ j ∧ j < zn Z + k
                · rw [if_pos e, if_pos (by omega)]
                · rw [if_neg e, if_neg (by omega)]; exact hZ.c (by omega)
            | succ n ih =>
              intro i hi A hAo hAp
              refine P_iload (i := 6) rfl dX8_put_86 ?_
              refine P_iloadn (i := 3) rfl rfl dX8_put_88 ?_
              refine P_icmpge dX8_put_89 (tgt := 126) rfl (fun h89 => absurd h89 (fun h8 => by have h7 := (n_le (a := k) (b := i) (by omega) (by omega)).mp h8; omega)) (fun h89 => ?_)
              refine P_aloadn (i := 0) rfl rfl dX8_put_92 ?_
              refine gX8_41 rfl (by first | exact hM.k0 | exact hM.k1 | exact hM.k2 | exact hM.k3 | exact hM.k4 | exact hM.k5 | exact hM.k6 | exact hM.k7 | exact hM.k8 | exact hM.k9 | exact hM.k10 | exact hM.k11 | exact hM.k12 | exact hM.k13 | exact hM.k14 | exact hM.k15 | exact hM.k16 | exact hM.k17) hM.r267 dX8_put_93 ?_
              refine P_aloadn (i := 0) rfl rfl dX8_put_96 ?_
              refine gX8_211 rfl (by first | exact hM.k0 | exact hM.k1 | exact hM.k2 | exact hM.k3 | exact hM.k4 | exact hM.k5 | exact hM.k6 | exact hM.k7 | exact hM.k8 | exact hM.k9 | exact hM.k10 | exact hM.k11 | exact hM.k12 | exact hM.k13 | exact hM.k14 | exact hM.k15 | exact hM.k16 | exact hM.k17) hZ.pn dX8_put_97 ?_
              refine P_iload (i := 6) rfl dX8_put_100 ?_
              refine P_iadd dX8_put_102 ?_
              refine P_lloadn (i := 1) rfl rfl dX8_put_103 ?_
              refine P_bipush (v := 8) rfl dX8_put_104 ?_
              refine P_iloadn (i := 3) rfl rfl dX8_put_106 ?_
              refine P_iconst (v := 1) rfl dX8_put_107 ?_
              refine P_isub dX8_put_108 ?_
              rw [show Int32.ofNat k - 1 = Int32.ofNat (k - 1) from n_pred (by omega) (by omega)]
              refine P_iload (i := 6) rfl dX8_put_109 ?_
              refine P_isub dX8_put_111 ?_
              rw [n_sub (show i ≤ k - 1 by omega) (by omega)]
              refine P_imul dX8_put_112 ?_
              refine P_lshr rfl dX8_put_113 ?_
              refine LX8_238 rfl dX8_put_114 ?_
              refine P_land dX8_put_117 ?_
              refine P_l2i dX8_put_118 ?_
              refine P_isN (j := zn Z + i) (by first | exact hM.k0 | exact hM.k1 | exact hM.k2 | exact hM.k3 | exact hM.k4 | exact hM.k5 | exact hM.k6 | exact hM.k7 | exact hM.k8 | exact hM.k9 | exact hM.k10 | exact hM.k11 | exact hM.k12 | exact hM.k13 | exact hM.k14 | exact hM.k15 | exact hM.k16 | exact hM.k17) (n_add _ _) (by first | omega | (simp only [hM.l1, hM.l2, hM.l3, hM.l4, hM.l5, hM.l6, hM.l7, hM.l8, hM.l9, hM.l10, hM.l11, hM.l12, hM.l13, hM.l14, hM.l15, hM.l16, hM.l17]; omega)) (by first | omega | (simp only [hM.l1, hM.l2, hM.l3, hM.l4, hM.l5, hM.l6, hM.l7, hM.l8, hM.l9, hM.l10, hM.l11, hM.l12, hM.l13, hM.l14, hM.l15, hM.l16, hM.l17]; omega)) dX8_put_119 ?_
              refine P_inN6 dX8_put_120 rfl rfl ?_
              refine P_goto dX8_put_123 (tgt := 86) rfl ?_
              refine P_few (ls2 := [some (vr m), some (vl x), none, some (vi (Int32.ofNat k)), some (vl r), none, some (vi (Int32.ofNat (i + 1)))]) ⟨rfl, rfl, rfl, rfl, rfl, trivial⟩ ?_
              refine ih (i + 1) (by omega) _ (fun a ha => (p_up_oth ha).trans (hAo a ha)) (fun j => ?_)
              show p_up A (m + 10) (zn Z + i) (l_chr x (k - 1 - i)) (m + 10) j = _
              by_cases e : j = zn Z + i
              · rw [e, p_up_eq, if_pos (by omega), show zn Z + i - zn Z = i by omega]
              · rw [p_up_n2 _ _ _ _ e, hAp]
                by_cases e2 : zn Z ≤ j ∧ j < zn Z + i
                · rw [if_pos e2, if_pos (by omega)]
                · rw [if_neg e2, if_neg (by omega)]
          exact loop k 0 (by omega) AI (fun _ _ => rfl) (fun j => (if_neg (by omega)).symm)
        · have hgt : ¬ zn Z + k ≤ 80 := fun hh => h77 ((n_le (a := zn Z + k) (b := 80) (by omega) (by omega)).mpr hh)
          refine P_bipush (v := (-4)) rfl dX8_put_80 ?_
          refine P_ireturn rfl dX8_put_82 ?_
          rw [show z_put Z x = (Z, -4) from (if_neg (by rw [hlc]; exact hk0)).trans (if_pos (by rw [hlc]; omega))]
          exact ⟨_, _, rfl, rfl, FrM.rf, hZ⟩
      · have hrz : ¬ r = 0 := fun hh => h63 ((lg_cmp_eq _ _).mpr hh)
        have hlc := hr1 hrz
        refine P_bipush (v := (-2)) rfl dX8_put_66 ?_
        refine P_ireturn rfl dX8_put_68 ?_
        rw [show z_put Z x = (Z, -2) from if_pos hlc]
        exact ⟨_, _, rfl, rfl, FrM.rf, hZ⟩
  have loop5 : ∀ (f k : Nat) (r : Int64), k + f = 8 → r.toUInt64.toNat < 2 ^ (8 * f) → l_cnt 8 x 0 = l_cnt f r k → P g 1 iX8_put 5 [some (vr m), some (vl x), none, some (vi (Int32.ofNat k)), some (vl r), none, none] [] (L, FI, AI, AL, AR) (0, 0) (RZM L FI AI AL AR m (z_put Z x).1 (some (vi (z_put Z x).2))) := by
    intro f
    induction f with
    | zero =>
      intro k r hk hb hq
      have hq : l_cnt 8 x 0 = k := hq
      have hb : r.toUInt64.toNat < 1 := hb
      refine P_iloadn (i := 3) rfl rfl dX8_put_5 ?_
      refine P_bipush (v := 8) rfl dX8_put_6 ?_
      refine P_icmpge dX8_put_8 (tgt := 55) rfl (fun h8 => ?_) (fun h8 => absurd ((n_le (a := 8) (b := k) (by omega) (by omega)).mpr (by omega)) h8)
      have hz : r = 0 := l_zero (by omega)
      have hk8 : k = 8 := by omega
      exact J55 k r (by omega) (fun _ => hq) (fun hh => absurd hz hh)
    | succ f ih =>
      intro k r hk hb hq
      refine P_iloadn (i := 3) rfl rfl dX8_put_5 ?_
      refine P_bipush (v := 8) rfl dX8_put_6 ?_
      refine P_icmpge dX8_put_8 (tgt := 55) rfl (fun h8 => absurd h8 (fun h9 => by have h7 := (n_le (a := 8) (b := k) (by omega) (by omega)).mp h9; omega)) (fun h8 => ?_)
      refine P_lload (i := 4) rfl dX8_put_11 ?_
      refine LX8_238 rfl dX8_put_13 ?_
      refine P_land dX8_put_16 ?_
      refine P_lconst (v := 0) rfl dX8_put_17 ?_
      refine P_lcmp dX8_put_18 ?_
      refine P_ifeq dX8_put_19 (tgt := 55) rfl (fun h19 => ?_) (fun h19 => ?_)
      · have hlow : r &&& 255 = 0 := (lg_cmp_eq _ _).mp h19
        refine J55 k r (by omega) (fun hh => ?_) (fun hh => ?_)
        · rw [hq]; exact if_pos hh
        · rw [hq]
          refine (if_neg hh).trans (if_pos (fun h9 => ?_))
          rw [hlow] at h9
          exact absurd h9.1 (by decide)
      · have hlow : ¬ r &&& 255 = 0 := fun hh => h19 ((lg_cmp_eq _ _).mpr hh)
        have hr0 : ¬ r = 0 := fun hh => hlow (by rw [hh]; rfl)
        refine P_lload (i := 4) rfl dX8_put_22 ?_
        refine LX8_238 rfl dX8_put_24 ?_
        refine P_land dX8_put_27 ?_
        refine P_l2i dX8_put_28 ?_
        refine P_bipush (v := 33) rfl dX8_put_29 ?_
        refine P_bipush (v := 126) rfl dX8_put_31 ?_
        refine kX8_65 rfl s_X8_in (by decide) rfl dX8_put_33 (fun r33 s33 q33 => ?_)
        obtain ⟨rfl, rfl⟩ := q33
        refine P_ifne dX8_put_36 (tgt := 42) rfl (fun h36 => ?_) (fun h36 => ?_)
        · have hin := b_t h36
          refine P_inN3 dX8_put_42 rfl rfl ?_
          refine P_lload (i := 4) rfl dX8_put_45 ?_
          refine P_bipush (v := 8) rfl dX8_put_47 ?_
          refine P_lushr rfl dX8_put_49 ?_
          refine P_ls4 (Or.inr dX8_put_50) rfl rfl ?_
          refine P_goto dX8_put_52 (tgt := 5) rfl ?_
          refine P_few (ls2 := [some (vr m), some (vl x), none, some (vi (Int32.ofNat (k + 1))), some (vl (l_sh r)), none, none]) ⟨rfl, rfl, rfl, rfl, trivial⟩ ?_
          refine ih (k + 1) (l_sh r) (by omega) ?_ ?_
          · rw [l_sh_nat]
            have h256 : 2 ^ (8 * (f + 1)) = 256 * 2 ^ (8 * f) := by rw [show 8 * (f + 1) = 8 + 8 * f by omega, Nat.pow_add]
            rw [h256] at hb
            exact Nat.div_lt_of_lt_mul hb
          · rw [hq]
            exact (if_neg hr0).trans (if_neg (fun hh => hh hin))
        · have hin := b_f h36
          refine P_bipush (v := (-2)) rfl dX8_put_39 ?_
          refine P_ireturn rfl dX8_put_41 ?_
          have hlc : l_cnt 8 x 0 = 0 := by
            rw [hq]
            exact (if_neg hr0).trans (if_pos hin)
          rw [show z_put Z x = (Z, -2) from if_pos hlc]
          exact ⟨_, _, rfl, rfl, FrM.rf, hZ⟩
  refine P_iconst (v := 0) rfl dX8_put_0 ?_
  refine P_is3 (Or.inl dX8_put_1) rfl rfl ?_
  refine P_lloadn (i := 1) rfl rfl dX8_put_2 ?_
  refine P_ls4 (Or.inr dX8_put_3) rfl rfl ?_
  exact loop5 8 0 x (by omega) x.toUInt64.toNat_lt rfl
theorem QFT.w (hZ : RZ FI AI m Z) {r : Option PV} {σ : PS} (hq : QFT L FI AI AL AR m (zC Z) (zn Z) r σ) : RZW L FI AI AL AR m Z (some (vi (a_fault Z))) r σ := by
  obtain ⟨F2, A2, rfl, rfl, hFa, hFm, hAa, hlt9⟩ := hq
  have hX2 : RA A2 m (zX Z) := by
    show RF (A2 (m + 1)) (A2 (m + 2)) (zX Z)
    rw [hAa _ (by omega) (by omega), hAa _ (by omega) (by omega)]
    exact hZ.x
  exact ⟨F2, A2, rfl, rfl, ⟨hFa, fun a ha => hAa a (by omega) (by omega)⟩, hZ.of hX2 (hFm _ (by decide) (by decide) (by decide)) (hFm _ (by decide) (by decide) (by decide)) (hFm _ (by decide) (by decide) (by decide)) (hAa _ (by omega) (by omega)) (hAa _ (by omega) (by omega)) (hAa _ (by omega) (by omega)) (hAa _ (by omega) (by omega)) (hAa _ (by omega) (by omega)) (hAa _ (by omega) (by omega))⟩
end Ref22
