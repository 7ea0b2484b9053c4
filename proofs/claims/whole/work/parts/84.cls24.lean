theorem c_of_app (l k : List XS) : c_of (l ++ k) = c_of l ++ c_of k := List.map_append
theorem z_send_e {Z : ZW} {M : Nat} (hI : XI M (zX Z)) (kp : Bool) (from_ to size seed how : Int32) : z_send Z kp from_ to size seed how = if e_send (zX Z) (xS (zX Z)).length from_ to size seed how = 0 then (z_x (z_keepIf Z kp) (x_send (zX Z) from_ to size seed how), Int32.ofNat (xp (zX Z))) else (Z, e_send (zX Z) (xS (zX Z)).length from_ to size seed how) := by
  have h40 := hI.2.2.2.2.2.2.1
  have h300 := hI.2.2.2.2.2.2.2
  unfold z_send e_send
  by_cases c1 : ¬ (q_ib from_ 8 = true ∧ q_ib to 8 = true ∧ ¬ from_ = to)
  · rw [if_pos c1, if_pos c1, if_neg (by decide)]
  · rw [if_neg c1, if_neg c1]
    by_cases c2 : ¬ (((1 : Int32) ≤ size ∧ size ≤ 4000) ∧ ((0 : Int32) ≤ seed ∧ seed ≤ 255) ∧ ((2 : Int32) ≤ how ∧ how ≤ 41))
    · rw [if_pos c2, if_pos c2, if_neg (by decide)]
    · rw [if_neg c2, if_neg c2]
      by_cases c3 : xp (zX Z) = 40 ∨ (xS (zX Z)).length = 300
      · rw [if_pos c3, if_pos (show 40 ≤ xp (zX Z) ∨ 300 ≤ (xS (zX Z)).length by omega), if_neg (by decide)]
      · rw [if_neg c3, if_neg (show ¬ (40 ≤ xp (zX Z) ∨ 300 ≤ (xS (zX Z)).length) by omega), if_pos rfl]
theorem z_resend_e {Z : ZW} {M : Nat} (hI : XI M (zX Z)) (kp : Bool) (p : Int32) : z_resend Z kp p = if e_resend (zX Z) (xS (zX Z)).length p = 0 then (z_x (z_keepIf Z kp) (x_resend (zX Z) (nn p)), xP (zX Z) (nn p) 6 + 1) else (Z, e_resend (zX Z) (xS (zX Z)).length p) := by
  have h300 := hI.2.2.2.2.2.2.2
  unfold z_resend e_resend
  by_cases c1 : ¬ q_ib p (xp (zX Z)) = true
  · rw [if_pos c1, if_pos c1, if_neg (by decide)]
  · rw [if_neg c1, if_neg c1]
    by_cases c2 : (xS (zX Z)).length = 300
    · rw [if_pos c2, if_pos (show 300 ≤ (xS (zX Z)).length by omega), if_neg (by decide)]
    · rw [if_neg c2, if_neg (show ¬ 300 ≤ (xS (zX Z)).length by omega)]
      by_cases c3 : ¬ xP (zX Z) (nn p) 5 = 0
      · rw [if_pos c3, if_pos c3, if_neg (by decide)]
      · rw [if_neg c3, if_neg c3, if_pos rfl]
theorem z_forge_e {Z : ZW} {M : Nat} (hI : XI M (zX Z)) (kp : Bool) (p off len la seed : Int32) : z_forge Z kp p off len la seed = if e_forge (zX Z) (xS (zX Z)).length p off len la seed = 0 then (z_x (z_keepIf Z kp) (x_forge (zX Z) (nn p) off len la seed), Int32.ofNat ((xS (zX Z)).length + 1)) else (Z, e_forge (zX Z) (xS (zX Z)).length p off len la seed) := by
  have h300 := hI.2.2.2.2.2.2.2
  unfold z_forge e_forge
  by_cases c1 : ¬ q_ib p (xp (zX Z)) = true
  · rw [if_pos c1, if_pos c1, if_neg (by decide)]
  · rw [if_neg c1, if_neg c1]
    by_cases c2 : ¬ (((0 : Int32) ≤ off ∧ off ≤ 3999) ∧ ((1 : Int32) ≤ len ∧ len ≤ 1500) ∧ ((0 : Int32) ≤ la ∧ la ≤ 1) ∧ ((0 : Int32) ≤ seed ∧ seed ≤ 255))
    · rw [if_pos c2, if_pos c2, if_neg (by decide)]
    · rw [if_neg c2, if_neg c2]
      by_cases c3 : (xS (zX Z)).length = 300
      · rw [if_pos c3, if_pos (show 300 ≤ (xS (zX Z)).length by omega), if_neg (by decide)]
      · rw [if_neg c3, if_neg (show ¬ 300 ≤ (xS (zX Z)).length by omega), if_pos rfl]
theorem CW.addBr {L : PL} {FI AI F2 : Nat → Nat → Int32} {AL : Nat → Nat → Int64} {AR : Nat → Nat → Option Nat} {w : Nat} {X : XW} {C : List XC} {U : Nat} {sa : Nat → Nat} (h : CW L FI AI AL AR w X C U sa) (hb : xb X < 16) {row : Nat → Int32} (hF : ∀ j a, ¬ (a = w + 23 + xb X ∧ j < 5) → ¬ (a = w ∧ j = 193) → F2 j a = FI j a) (h3 : F2 193 w = Int32.ofNat (xb X + 1)) (hr : ∀ k, k < 5 → F2 k (w + 23 + xb X) = row k) (hr0 : ∀ k, 5 ≤ k → k < 9 → row k = 0) : CW L F2 AI AL AR w (x_addB X row) C U sa := by
  obtain ⟨g0, g1, g2, g3, g4, g5, g6, g7⟩ := h.g
  refine ⟨h.1, ⟨(hF _ _ (by omega) (by omega)).trans g0, h3, (hF _ _ (by omega) (by omega)).trans g2, (hF _ _ (by omega) (by omega)).trans g3, (hF _ _ (by omega) (by omega)).trans g4, (hF _ _ (by omega) (by omega)).trans g5, (hF _ _ (by omega) (by omega)).trans g6, (hF _ _ (by omega) (by omega)).trans g7⟩, h.d, fun i hi => (h.n i hi).cg (fun j h1 h2 => hF _ _ (by omega) (by omega)) rfl, fun b hb2 => ?_, fun p hp => (h.p p hp).cg (fun j h1 h2 => hF _ _ (by omega) (by omega)) rfl, fun i hi => (h.s i hi).cg (fun j h1 h2 => hF _ _ (by have := h.wa.lo (i := i) (by have := h.c601; omega); omega) (by omega)), h.c601, (show xb X + 1 ≤ 16 by omega), h.p40⟩
  refine ⟨fun h1 k hk => ?_, fun h1 k h5 hk => ?_⟩
  · have h2 : b < xb X + 1 := h1
    show F2 k (w + 23 + b) = (if b = xb X then row k else xB X b k)
    by_cases e : b = xb X
    · rw [if_pos e, e]
      by_cases e5 : k < 5
      · exact hr k e5
      · rw [hr0 k (by omega) hk]
        exact (hF _ _ (by omega) (by omega)).trans ((h.b _ (by omega)).2 (Nat.le_refl _) k (by omega) hk)
    · rw [if_neg e]
      exact (hF _ _ (by omega) (by omega)).trans ((h.b b hb2).1 (by omega) k hk)
  · have h2 : xb X + 1 ≤ b := h1
    exact (hF _ _ (by omega) (by omega)).trans ((h.b b hb2).2 (by omega) k h5 hk)
section Cls24
variable {g : PG} {L : PL} {FI AI : Nat → Nat → Int32} {AL : Nat → Nat → Int64} {AR : Nat → Nat → Option Nat} {x : Nat} {Z : ZW} {M : Nat}
theorem g_ticks (h : RC L FI AI AL AR x Z) (hI : XI M (zX Z)) (hMM : M < 80000000) {t : Int32} : Sp g 6 iX7_ticks [vr x, vi t] (L, FI, AI, AL, AR) (0, 0) (QRC L FI AI AL AR x (z_ticks Z true t).1 (some (vi (z_ticks Z true t).2))) := by
  refine Sp.of (ls := [some (vr x), some (vi t)]) (by decide +kernel) rfl rfl ?_
  refine P_iloadn (i := 1) rfl rfl dX7_ticks_0 ?_
  refine kX7_122 rfl s_isTicks (by decide) rfl dX7_ticks_1 (fun r1 s1 q1 => ?_)
  obtain ⟨rfl, rfl⟩ := q1
  refine P_ifne dX7_ticks_4 (tgt := 10) rfl (fun h4 => ?_) (fun h4 => ?_)
  · have ht := in_nn (a := 1) (b := 500) (by decide) (by decide) (b_t h4)
    refine P_aloadn (i := 0) rfl rfl dX7_ticks_10 ?_
    refine gX7_22 rfl (by first | exact h.lc.kx | exact h.lc.kh | exact h.lc.kt | exact h.lc.kv | assumption) h.lc.r226 dX7_ticks_11 ?_
    refine P_aloadn (i := 0) rfl rfl dX7_ticks_14 ?_
    refine gX7_10 rfl (by first | exact h.lc.kx | exact h.lc.kh | exact h.lc.kt | exact h.lc.kv | assumption) h.lc.r224 dX7_ticks_15 ?_
    refine kX7_49 rfl (s_keep7 h hI) (by decide) h.lc.kh rfl dX7_ticks_18 (fun r18 s18 q18 => ?_)
    obtain ⟨F1, A1, B1, R1, rfl, rfl, hf1, h1, -⟩ := q18
    refine P_aloadn (i := 0) rfl rfl dX7_ticks_21 ?_
    refine gX7_10 rfl (by first | exact h.lc.kx | exact h.lc.kh | exact h.lc.kt | exact h.lc.kv | assumption) h.lc.r224 dX7_ticks_22 ?_
    refine P_iloadn (i := 1) rfl rfl dX7_ticks_25 ?_
    refine kX7_125 rfl (by have h9 := s_pass (g := g) (n := nn t) h1.live (M := M) hI hMM (by omega); rw [← ht.2.2] at h9; exact h9) (by decide) (by obtain ⟨sb, hl⟩ := h1.live; exact hl.wf.kw) rfl dX7_ticks_26 (fun r26 s26 q26 => ?_)
    obtain ⟨F2, A2, B2, R2, rfl, rfl, hf2, h2⟩ := q26
    obtain ⟨sb, hl2⟩ := h2
    refine P_aloadn (i := 0) rfl rfl dX7_ticks_29 ?_
    refine gX7_10 rfl (by first | exact h.lc.kx | exact h.lc.kh | exact h.lc.kt | exact h.lc.kv | assumption) h.lc.r224 dX7_ticks_30 ?_
    refine gX7_129 rfl hl2.wf.kw hl2.g.1 dX7_ticks_33 ?_
    refine P_ireturn rfl dX7_ticks_36 ?_
    rw [show z_ticks Z true t = (z_x (z_keep Z) (x_ticks (nn t) (zX Z)), xG (x_ticks (nn t) (zX Z)) 0) from if_neg (fun hh => hh (b_t h4))]
    exact ⟨F2, A2, B2, R2, rfl, rfl, FrO.tr hf1 (FrO.fc hf2 (by omega)), h1.up hf2 ⟨sb, hl2⟩⟩
  · refine P_bipush (v := (-2)) rfl dX7_ticks_7 ?_
    refine P_ireturn rfl dX7_ticks_9 ?_
    rw [show z_ticks Z true t = (Z, -2) from if_pos (b_f h4)]
    exact ⟨FI, AI, AL, AR, rfl, rfl, FrO.rf, h⟩
theorem g_send (h : RC L FI AI AL AR x Z) (hI : XI M (zX Z)) {from_ to size seed how : Int32} : Sp g 6 iX7_send [vr x, vi from_, vi to, vi size, vi seed, vi how] (L, FI, AI, AL, AR) (0, 0) (QRC L FI AI AL AR x (z_send Z true from_ to size seed how).1 (some (vi (z_send Z true from_ to size seed how).2))) := by
  refine Sp.of (ls := [some (vr x), some (vi from_), some (vi to), some (vi size), some (vi seed), some (vi how)]) (by decide +kernel) rfl rfl ?_
  obtain ⟨sb, hl⟩ := h.live
  have h300 := hI.2.2.2.2.2.2.2
  refine P_aloadn (i := 0) rfl rfl dX7_send_0 ?_
  refine gX7_10 rfl (by first | exact h.lc.kx | exact h.lc.kh | exact h.lc.kt | exact h.lc.kv | assumption) h.lc.r224 dX7_send_1 ?_
  refine P_iloadn (i := 1) rfl rfl dX7_send_4 ?_
  refine P_iloadn (i := 2) rfl rfl dX7_send_5 ?_
  refine P_iloadn (i := 3) rfl rfl dX7_send_6 ?_
  refine P_iload (i := 4) rfl dX7_send_7 ?_
  refine P_iload (i := 5) rfl dX7_send_9 ?_
  refine P_aloadn (i := 0) rfl rfl dX7_send_11 ?_
  refine gX7_22 rfl (by first | exact h.lc.kx | exact h.lc.kh | exact h.lc.kt | exact h.lc.kv | assumption) h.lc.r226 dX7_send_12 ?_
  refine kX7_111 rfl (s_sendParcel hl (by omega) (by rw [c_of_len]; omega) (fun _ => s_keepInH h hI hl)) (by decide) hl.wf.kw rfl dX7_send_15 (fun r15 s15 q15 => ?_)
  obtain q15 := q15
  rcases q15 with ⟨he, F1, A1, B1, R1, ⟨hf1, h1⟩, F2, A2, B2, rfl, rfl, hf2, h2⟩ | ⟨he, rfl, rfl⟩
  · refine P_ireturn rfl dX7_send_18 ?_
    obtain ⟨k1, k2, k3, k4, k5, k6⟩ := e_send_ok he
    rw [z_send_e hI, if_pos he]
    have h3 : CW L F2 A2 B2 R1 (x + 1) (x_send (zX Z) from_ to size seed how) (c_of (xS (x_send (zX Z) from_ to size seed how))) (xS (x_send (zX Z) from_ to size seed how)).length sb := by
      have e9 : xS (x_send (zX Z) from_ to size seed how) = xS (zX Z) ++ [(Int32.ofNat (xp (zX Z)), 0, size, 1, how / 2, seed, xG (zX Z) 0, from_)] := rfl
      rw [e9, c_of_app, List.length_append]
      exact h2
    exact ⟨F2, A2, B2, R1, rfl, rfl, FrO.tr hf1 (FrO.fc hf2 (by omega)), h1.up hf2 ⟨sb, h3⟩⟩
  · refine P_ireturn rfl dX7_send_18 ?_
    rw [z_send_e hI, if_neg he]
    exact ⟨FI, AI, AL, AR, rfl, rfl, FrO.rf, h⟩
theorem g_resend (h : RC L FI AI AL AR x Z) (hI : XI M (zX Z)) {p : Int32} : Sp g 6 iX7_resend [vr x, vi p] (L, FI, AI, AL, AR) (0, 0) (QRC L FI AI AL AR x (z_resend Z true p).1 (some (vi (z_resend Z true p).2))) := by
  refine Sp.of (ls := [some (vr x), some (vi p)]) (by decide +kernel) rfl rfl ?_
  obtain ⟨sb, hl⟩ := h.live
  have h300 := hI.2.2.2.2.2.2.2
  refine P_aloadn (i := 0) rfl rfl dX7_resend_0 ?_
  refine gX7_10 rfl (by first | exact h.lc.kx | exact h.lc.kh | exact h.lc.kt | exact h.lc.kv | assumption) h.lc.r224 dX7_resend_1 ?_
  refine P_iloadn (i := 1) rfl rfl dX7_resend_4 ?_
  refine P_aloadn (i := 0) rfl rfl dX7_resend_5 ?_
  refine gX7_22 rfl (by first | exact h.lc.kx | exact h.lc.kh | exact h.lc.kt | exact h.lc.kv | assumption) h.lc.r226 dX7_resend_6 ?_
  refine kX7_115 rfl (s_sendAgain hl (by omega) (by rw [c_of_len]; omega) (fun _ => s_keepInH h hI hl)) (by decide) hl.wf.kw rfl dX7_resend_9 (fun r9 s9 q9 => ?_)
  obtain q9 := q9
  rcases q9 with ⟨he, F1, A1, B1, R1, ⟨hf1, h1⟩, F2, A2, B2, rfl, rfl, hf2, h2⟩ | ⟨he, rfl, rfl⟩
  · refine P_ireturn rfl dX7_resend_12 ?_
    obtain ⟨k1, k2, k3⟩ := e_resend_ok he
    rw [z_resend_e hI, if_pos he]
    have h3 : CW L F2 A2 B2 R1 (x + 1) (x_resend (zX Z) (nn p)) (c_of (xS (x_resend (zX Z) (nn p)))) (xS (x_resend (zX Z) (nn p))).length sb := by
      have e9 : xS (x_resend (zX Z) (nn p)) = xS (zX Z) ++ [(p, 0, xP (zX Z) (nn p) 2, 1, xP (zX Z) (nn p) 7, xP (zX Z) (nn p) 3, xG (zX Z) 0, xP (zX Z) (nn p) 0)] := by
        have e8 : xS (x_resend (zX Z) (nn p)) = xS (zX Z) ++ [(Int32.ofNat (nn p), 0, xP (zX Z) (nn p) 2, 1, xP (zX Z) (nn p) 7, xP (zX Z) (nn p) 3, xG (zX Z) 0, xP (zX Z) (nn p) 0)] := rfl
        rw [← k1.eq] at e8
        exact e8
      rw [e9, c_of_app, List.length_append]
      exact h2
    exact ⟨F2, A2, B2, R1, rfl, rfl, FrO.tr hf1 (FrO.fc hf2 (by omega)), h1.up hf2 ⟨sb, h3⟩⟩
  · refine P_ireturn rfl dX7_resend_12 ?_
    rw [z_resend_e hI, if_neg he]
    exact ⟨FI, AI, AL, AR, rfl, rfl, FrO.rf, h⟩
theorem g_forge (h : RC L FI AI AL AR x Z) (hI : XI M (zX Z)) {p off len la seed : Int32} : Sp g 6 iX7_forge [vr x, vi p, vi off, vi len, vi la, vi seed] (L, FI, AI, AL, AR) (0, 0) (QRC L FI AI AL AR x (z_forge Z true p off len la seed).1 (some (vi (z_forge Z true p off len la seed).2))) := by
  refine Sp.of (ls := [some (vr x), some (vi p), some (vi off), some (vi len), some (vi la), some (vi seed)]) (by decide +kernel) rfl rfl ?_
  obtain ⟨sb, hl⟩ := h.live
  have h300 := hI.2.2.2.2.2.2.2
  refine P_aloadn (i := 0) rfl rfl dX7_forge_0 ?_
  refine gX7_10 rfl (by first | exact h.lc.kx | exact h.lc.kh | exact h.lc.kt | exact h.lc.kv | assumption) h.lc.r224 dX7_forge_1 ?_
  refine P_iloadn (i := 1) rfl rfl dX7_forge_4 ?_
  refine P_iloadn (i := 2) rfl rfl dX7_forge_5 ?_
  refine P_iloadn (i := 3) rfl rfl dX7_forge_6 ?_
  refine P_iload (i := 4) rfl dX7_forge_7 ?_
  refine P_iload (i := 5) rfl dX7_forge_9 ?_
  refine P_aloadn (i := 0) rfl rfl dX7_forge_11 ?_
  refine gX7_22 rfl (by first | exact h.lc.kx | exact h.lc.kh | exact h.lc.kt | exact h.lc.kv | assumption) h.lc.r226 dX7_forge_12 ?_
  refine kX7_119 rfl (s_forgeSlice hl (by omega) (by rw [c_of_len]; omega) (fun _ => s_keepInH h hI hl)) (by decide) hl.wf.kw rfl dX7_forge_15 (fun r15 s15 q15 => ?_)
  obtain q15 := q15
  rcases q15 with ⟨he, F1, A1, B1, R1, ⟨hf1, h1⟩, F2, A2, B2, rfl, rfl, hf2, h2⟩ | ⟨he, rfl, rfl⟩
  · refine P_ireturn rfl dX7_forge_18 ?_
    obtain ⟨k1, k2, k3, k4, k5, k6⟩ := e_forge_ok he
    rw [z_forge_e hI, if_pos he]
    have h3 : CW L F2 A2 B2 R1 (x + 1) (x_forge (zX Z) (nn p) off len la seed) (c_of (xS (x_forge (zX Z) (nn p) off len la seed))) (xS (x_forge (zX Z) (nn p) off len la seed)).length sb := by
      have e9 : xS (x_forge (zX Z) (nn p) off len la seed) = xS (zX Z) ++ [(p, off, len, la, 0, seed, xG (zX Z) 0, xP (zX Z) (nn p) 1)] := by
        have e8 : xS (x_forge (zX Z) (nn p) off len la seed) = xS (zX Z) ++ [(Int32.ofNat (nn p), off, len, la, 0, seed, xG (zX Z) 0, xP (zX Z) (nn p) 1)] := rfl
        rw [← k1.eq] at e8
        exact e8
      rw [e9, c_of_app, List.length_append]
      exact h2
    exact ⟨F2, A2, B2, R1, rfl, rfl, FrO.tr hf1 (FrO.fc hf2 (by omega)), h1.up hf2 ⟨sb, h3⟩⟩
  · refine P_ireturn rfl dX7_forge_18 ?_
    rw [z_forge_e hI, if_neg he]
    exact ⟨FI, AI, AL, AR, rfl, rfl, FrO.rf, h⟩
end Cls24
