theorem n_narrow {n : Nat} (h : n < 65536) : narrow .char (.int (Int32.ofNat n)) = .int (Int32.ofNat n) := by
  show Value.int ((Int32.ofNat n).toUInt32.toUInt16.toUInt32.toInt32) = Value.int (Int32.ofNat n)
  congr 1
  refine Int32.toBitVec_inj.mp (BitVec.eq_of_toNat_eq ?_)
  show (n % 2 ^ 32) % 2 ^ 16 = n % 2 ^ 32
  omega
theorem l_chr_n (y : Int64) {j : Nat} (hj : j < 8) : narrow .char (.int (l_chr y j)) = .int (l_chr y j) ∧ ((l_chr y j).toUInt32 % 65536).toInt32 = l_chr y j := by
  rw [← l_chc_eq y hj, l_chc_nat y hj]
  exact ⟨n_narrow (by omega), n_char (by omega)⟩
/-- the pad holds n characters of the old ones and then those of y -/
def c_pad (x : Nat) (y : Int64) (k n : Nat) (FI AI F A : Nat → Nat → Int32) (d : Nat) : Prop := (∀ j a, a ≠ x + 5765 → F j a = FI j a) ∧ (∀ a, a ≠ x + 5766 → A a = AI a) ∧ F 97 (x + 5765) = Int32.ofNat (n + d) ∧ (∀ i, i < n + d → A (x + 5766) i = (if n ≤ i ∧ i < n + k then l_chr y (k - 1 - (i - n)) else AI (x + 5766) i))
theorem c_pad_s {x k n d : Nat} {y : Int64} {FI AI F A : Nat → Nat → Int32} (h : c_pad x y k n FI AI F A d) (hd : d < k) : c_pad x y k n FI AI (p_up F 97 (x + 5765) (Int32.ofNat (n + d + 1))) (p_up A (x + 5766) (n + d) (l_chr y (k - d - 1))) (d + 1) := by
  refine ⟨fun j a ha => (p_up_of (by omega)).trans (h.1 j a ha), fun a ha => (p_up_oth ha).trans (h.2.1 a ha), p_up_eq _ _ _ _, fun i hi => ?_⟩
  by_cases e : i = n + d
  · rw [e, p_up_eq, if_pos (by omega), show k - 1 - (n + d - n) = k - d - 1 by omega]
  · rw [p_up_n2 _ _ _ _ e]
    exact h.2.2.2 i (by omega)
section Cls32
variable {g : PG} {L : PL} {FI AI : Nat → Nat → Int32} {AL : Nat → Nat → Int64} {AR : Nat → Nat → Option Nat} {x : Nat} {Z : ZW} {M : Nat} {y : Int64} {k n : Nat}
theorem g_append (hL : LC L x) (hn80 : n ≤ 80) (h97 : FI 97 (x + 5765) = Int32.ofNat n) : Sp g 2 iX3_append [vr (x + 5765), vl y] (L, FI, AI, AL, AR) (0, 0) ((fun r σ => (l_cnt 8 y 0 = 0 ∧ r = some (vi (-2)) ∧ σ = (L, FI, AI, AL, AR)) ∨ (¬ l_cnt 8 y 0 = 0 ∧ 80 < n + l_cnt 8 y 0 ∧ r = some (vi (-4)) ∧ σ = (L, FI, AI, AL, AR)) ∨ (¬ l_cnt 8 y 0 = 0 ∧ n + l_cnt 8 y 0 ≤ 80 ∧ ∃ F A, σ = (L, F, A, AL, AR) ∧ r = some (vi (Int32.ofNat (n + l_cnt 8 y 0))) ∧ c_pad x y (l_cnt 8 y 0) n FI AI F A (l_cnt 8 y 0)))) := by
  refine Sp.of (ls := [some (vr (x + 5765)), some (vl y), none, none, none]) (by decide +kernel) rfl rfl ?_
  have hk8 := l_cnt_le 8 y 0
  rw [Nat.zero_add] at hk8
  have loop : ∀ k : Nat, k ≤ 8 → n + k ≤ 80 → ∀ r : Nat, r ≤ k → ∀ F A : Nat → Nat → Int32, c_pad x y k n FI AI F A (k - r) → P g 2 iX3_append 34 [some (vr (x + 5765)), some (vl y), none, some (vi (Int32.ofNat k)), some (vi (Int32.ofNat r - 1))] [] (L, F, A, AL, AR) (0, 0) (fun r σ => ∃ F A, σ = (L, F, A, AL, AR) ∧ r = some (vi (Int32.ofNat (n + k))) ∧ c_pad x y k n FI AI F A k) := by
    intro k hk hn r
    induction r with
    | zero =>
      intro hr F A hc
      rw [show k - 0 = k from rfl] at hc
      refine P_iload (i := 4) rfl dX3_append_34 ?_
      refine P_iflt dX3_append_36 (tgt := 77) rfl (fun h36 => ?_) (fun h36 => ?_)
      · refine P_aloadn (i := 0) rfl rfl dX3_append_77 ?_
        refine gX3_29 rfl (by first | exact hL.kp | exact hL.kc) hc.2.2.1 dX3_append_78 ?_
        refine P_ireturn rfl dX3_append_81 ?_
        exact ⟨F, A, rfl, rfl, hc⟩
      · exact absurd (show (Int32.ofNat 0 - 1 : Int32) < 0 by decide) h36
    | succ r ih =>
      intro hr F A hc
      rw [show (Int32.ofNat (r + 1) - 1 : Int32) = Int32.ofNat r from by rw [n_pred (show 0 < r + 1 by omega) (by omega), Nat.add_sub_cancel]]
      refine P_iload (i := 4) rfl dX3_append_34 ?_
      refine P_iflt dX3_append_36 (tgt := 77) rfl (fun h36 => ?_) (fun h36 => ?_)
      · exact absurd h36 (Int32.not_lt.mpr (n_pos (by omega)))
      · refine P_aloadn (i := 0) rfl rfl dX3_append_39 ?_
        refine gX3_9 rfl (by first | exact hL.kp | exact hL.kc) hL.r96 dX3_append_40 ?_
        refine P_aloadn (i := 0) rfl rfl dX3_append_43 ?_
        refine gX3_29 rfl (by first | exact hL.kp | exact hL.kc) hc.2.2.1 dX3_append_44 ?_
        refine P_lloadn (i := 1) rfl rfl dX3_append_47 ?_
        refine P_bipush (v := 8) rfl dX3_append_48 ?_
        refine P_iload (i := 4) rfl dX3_append_50 ?_
        refine P_imul dX3_append_52 ?_
        refine P_lushr rfl dX3_append_53 ?_
        refine LX3_19 rfl dX3_append_54 ?_
        refine P_land dX3_append_57 ?_
        refine P_l2i dX3_append_58 ?_
        rw [show (((y.toUInt64 >>> (((8 : Int32) * Int32.ofNat r).toInt64.toUInt64 &&& Int64.toUInt64 63)).toInt64) &&& 255).toInt32 = l_chr y r from l_chc_eq y (by omega)]
        refine P_i2c (l_chr_n y (show r < 8 by omega)).2 dX3_append_59 ?_
        refine P_csN (j := n + (k - (r + 1))) (by first | exact hL.kp | exact hL.kc) rfl (by omega) (by rw [hL.lc]; omega) (l_chr_n y (show r < 8 by omega)).1 dX3_append_60 ?_
        refine P_aloadn (i := 0) rfl rfl dX3_append_61 ?_
        refine P_dup rfl dX3_append_62 ?_
        refine gX3_29 rfl (by first | exact hL.kp | exact hL.kc) hc.2.2.1 dX3_append_63 ?_
        refine P_iconst (v := 1) rfl dX3_append_66 ?_
        refine P_iadd dX3_append_67 ?_
        rw [show Int32.ofNat (n + (k - (r + 1))) + 1 = Int32.ofNat (n + (k - (r + 1)) + 1) from n_succ _]
        refine uX3_29 rfl (by first | exact hL.kp | exact hL.kc) dX3_append_68 ?_
        refine P_in4 (n := -1) (v := (Int32.ofNat r - 1)) (by rw [Int32.sub_eq_add_neg]; rfl) dX3_append_71 rfl rfl ?_
        refine P_goto dX3_append_74 (tgt := 34) rfl ?_
        have h9 := c_pad_s hc (by omega)
        rw [show k - (k - (r + 1)) - 1 = r by omega, show k - (r + 1) + 1 = k - r by omega] at h9
        exact ih (by omega) _ _ h9
  refine P_lloadn (i := 1) rfl rfl dX3_append_0 ?_
  refine kX3_25 rfl g_charactersIn (by decide) rfl dX3_append_1 (fun r1 s1 q1 => ?_)
  obtain ⟨rfl, rfl⟩ := q1
  refine P_is3 (Or.inl dX3_append_4) rfl rfl ?_
  refine P_iloadn (i := 3) rfl rfl dX3_append_5 ?_
  refine P_ifne dX3_append_6 (tgt := 12) rfl (fun h6 => ?_) (fun h6 => ?_)
  · have hk0 : ¬ l_cnt 8 y 0 = 0 := fun hh => h6 (by rw [hh]; rfl)
    refine P_aloadn (i := 0) rfl rfl dX3_append_12 ?_
    refine gX3_29 rfl (by first | exact hL.kp | exact hL.kc) h97 dX3_append_13 ?_
    refine P_iloadn (i := 3) rfl rfl dX3_append_16 ?_
    refine P_iadd dX3_append_17 ?_
    rw [n_add]
    refine P_aloadn (i := 0) rfl rfl dX3_append_18 ?_
    refine gX3_9 rfl (by first | exact hL.kp | exact hL.kc) hL.r96 dX3_append_19 ?_
    refine P_lenN (t := 23) (by decide) (by first | exact hL.kp | exact hL.kc) (by rw [hL.lc]) dX3_append_22 ?_
    refine P_icmple dX3_append_23 (tgt := 29) rfl (fun h23 => ?_) (fun h23 => ?_)
    · have h80 := (n_le (a := n + l_cnt 8 y 0) (b := 80) (by omega) (by omega)).mp h23
      refine P_iloadn (i := 3) rfl rfl dX3_append_29 ?_
      refine P_iconst (v := 1) rfl dX3_append_30 ?_
      refine P_isub dX3_append_31 ?_
      refine P_is4 (Or.inr dX3_append_32) rfl rfl ?_
      refine P.mono ?_ (loop (l_cnt 8 y 0) hk8 h80 (l_cnt 8 y 0) (Nat.le_refl _) FI AI ⟨fun _ _ _ => rfl, fun _ _ => rfl, by rw [h97, show n + (l_cnt 8 y 0 - l_cnt 8 y 0) = n by omega], fun i hi => (if_neg (by omega)).symm⟩)
      exact fun r σ hh => Or.inr (Or.inr ⟨hk0, h80, hh⟩)
    · refine P_bipush (v := (-4)) rfl dX3_append_26 ?_
      refine P_ireturn rfl dX3_append_28 ?_
      exact Or.inr (Or.inl ⟨hk0, Nat.lt_of_not_le (fun hh => h23 ((n_le (a := n + l_cnt 8 y 0) (b := 80) (by omega) (by omega)).mpr hh)), rfl, rfl⟩)
  · have hk0 := (n_eqz (by omega)).mp h6
    refine P_bipush (v := (-2)) rfl dX3_append_9 ?_
    refine P_ireturn rfl dX3_append_11 ?_
    exact Or.inl ⟨hk0, rfl, rfl⟩
theorem g_put (h : RC L FI AI AL AR x Z) : Sp g 3 iX7_put [vr x, vl y] (L, FI, AI, AL, AR) (0, 0) (QRC L FI AI AL AR x (z_put Z y).1 (some (vi (z_put Z y).2))) := by
  refine Sp.of (ls := [some (vr x), some (vl y), none]) (by decide +kernel) rfl rfl ?_
  have hn80 := h.n80
  have hk8 := l_cnt_le 8 y 0
  rw [Nat.zero_add] at hk8
  refine P_aloadn (i := 0) rfl rfl dX7_put_0 ?_
  refine gX7_37 rfl (by first | exact h.lc.kx | exact h.lc.kh | exact h.lc.kt | exact h.lc.kv | assumption) h.lc.r229 dX7_put_1 ?_
  refine P_lloadn (i := 1) rfl rfl dX7_put_4 ?_
  refine kX7_205 rfl (g_append h.lc h.n80 h.pn) (by decide) h.lc.kp rfl dX7_put_5 (fun r5 s5 q5 => ?_)
  obtain q5 := q5
  rcases q5 with ⟨hk0, rfl, rfl⟩ | ⟨hk0, h80, rfl, rfl⟩ | ⟨hk0, h9, F2, A2, rfl, rfl, hc⟩
  · refine P_ireturn rfl dX7_put_8 ?_
    rw [show z_put Z y = (Z, -2) from if_pos hk0]
    exact ⟨FI, AI, AL, AR, rfl, rfl, FrO.rf, h⟩
  · refine P_ireturn rfl dX7_put_8 ?_
    rw [show z_put Z y = (Z, -4) from (if_neg hk0).trans (if_pos (by omega))]
    exact ⟨FI, AI, AL, AR, rfl, rfl, FrO.rf, h⟩
  · refine P_ireturn rfl dX7_put_8 ?_
    rw [show z_put Z y = ((zX Z, zH Z, zf Z, zk Z, zS Z, zV Z, (fun i => if zn Z ≤ i ∧ i < zn Z + l_cnt 8 y 0 then l_chr y (l_cnt 8 y 0 - 1 - (i - zn Z)) else zC Z i), zn Z + l_cnt 8 y 0), Int32.ofNat (zn Z + l_cnt 8 y 0)) from (if_neg hk0).trans (if_neg (by omega))]
    refine ⟨F2, A2, AL, AR, rfl, rfl, fun a ha => ⟨fun j => hc.1 j a (by omega), hc.2.1 a (by omega), rfl, rfl⟩, h.pad hc.1 (fun a h1 h2 => hc.2.1 a h1) hc.2.2.1 h9 (fun i hi => ?_)⟩
    rw [hc.2.2.2 i hi]
    by_cases e : zn Z ≤ i ∧ i < zn Z + l_cnt 8 y 0
    · rw [if_pos e, if_pos e]
    · rw [if_neg e, if_neg e]
      exact h.c (by omega)
end Cls32
