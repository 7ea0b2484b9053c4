def l_row (r t : Nat → Int32) (tk : Int32) (σ : XS) : Nat → Int32 := fun k => if k = 8 then (if σ.2.2.2.1 = 1 then σ.2.1 + σ.2.2.1 else r 8) else if k = 9 then (if r 9 < 0 then tk else r 9) else if k = 12 then r 12 + x_more t (nn σ.2.1) (nn (σ.2.1 + σ.2.2.1) - nn σ.2.1) else r k
theorem x_cell_z {c : Nat → Int64} (h : ∀ i, i < 572 → c i = 0) {j : Nat} (hj : j < 4000) : x_cell c j = 0 := by
  unfold x_cell
  rw [h _ (by omega)]
  exact l_cell_0 (by omega)
section Cls10
variable {g : PG} {L : PL} {FI AI : Nat → Nat → Int32} {AL : Nat → Nat → Int64} {AR : Nat → Nat → Option Nat} {q : Nat} {r t : Nat → Int32} {a : Nat} {tick : Int32} {σ : XS}
theorem lay_o {t : Nat → Int32} {a i j : Nat} {seed : Int32} {over : Bool} (e : j ≠ i) : x_lay t a (i + 1) seed over j = x_lay t a i seed over j := by
  unfold x_lay
  by_cases h : a ≤ j ∧ j < i ∧ (t j < 0 ∨ over = true)
  · rw [if_pos h, if_pos ⟨h.1, by omega, h.2.2⟩]
  · rw [if_neg h, if_neg (fun hh => h ⟨hh.1, by omega, hh.2.2⟩)]
theorem p_up_othL {A : Nat → Nat → Int64} {a b j : Nat} {v : Int64} (h : b ≠ a) : p_up A a j v b = A b := by
  funext i
  exact p_up_n1 _ _ _ _ h
theorem s_lay (hl : LQ L q) (hr : RP FI AL q r t) (hq : qP r t tick) (h5 : r 5 = 0) (hs : SL FI a σ) (hka : L.2.1 a = 5) (haq : a ≠ q) (ha0 : 0 ≤ σ.2.1.toInt) (hab : 1 ≤ σ.2.2.1.toInt) (hb : σ.2.1.toInt + σ.2.2.1.toInt ≤ 5500) (hla : σ.2.2.2.1 = 0 ∨ σ.2.2.2.1 = 1) (hse : ib σ.2.2.2.2.2.1 256) (he4 : (σ.2.1 + σ.2.2.1).toInt ≤ 4000) {rep tk : Int32} (hrep : rep = 0 ∨ rep = 1) : Sp g 1 iX4_lay [vr q, vr a, vi rep, vi tk] (L, FI, AI, AL, AR) (0, 0) (fun r0 s0 => ∃ F2 L2, s0 = (L, F2, AI, L2, AR) ∧ r0 = none ∧ (∀ j b, ¬ (128 ≤ j ∧ j < 143 ∧ b = q) → F2 j b = FI j b) ∧ (∀ b, b ≠ q + 1 → L2 b = AL b) ∧ RP F2 L2 q (l_row r t tk σ) (x_lay t (nn σ.2.1) (nn (σ.2.1 + σ.2.2.1)) σ.2.2.2.2.2.1 (decide (rep = 1)))) := by
  refine Sp.of (ls := [some (vr q), some (vr a), some (vi rep), some (vi tk), none, none, none]) (by decide +kernel) rfl rfl ?_
  have hadd : (σ.2.1 + σ.2.2.1).toInt = σ.2.1.toInt + σ.2.2.1.toInt := i_add' (by omega) (by omega)
  have hcn := i_cn (σ.2.1 + σ.2.2.1)
  have hcn2 := i_cn σ.2.1
  have heI : ib (σ.2.1 + σ.2.2.1) 5501 := ⟨by omega, by omega⟩
  have heN : (σ.2.1 + σ.2.2.1) = Int32.ofNat (nn (σ.2.1 + σ.2.2.1)) := heI.eq
  have haI : ib σ.2.1 4001 := ⟨by omega, by omega⟩
  have haN : σ.2.1 = Int32.ofNat (nn σ.2.1) := haI.eq
  have hae : nn σ.2.1 < nn (σ.2.1 + σ.2.2.1) := by
    show σ.2.1.toNatClampNeg < (σ.2.1 + σ.2.2.1).toNatClampNeg
    omega
  have he40 : nn (σ.2.1 + σ.2.2.1) ≤ 4000 := by
    show (σ.2.1 + σ.2.2.1).toNatClampNeg ≤ 4000
    omega
  have hct : FI 139 q = Int32.ofNat (x_cnt t 4000) := hr.1.2.2.2.2.2.2.2.2.2.2.2.trans hq.2.2.1
  have hcl4 := x_cnt_le t 4000
  have hfe := hr.2.2.1 h5
  have hfn := hfe.2.1.nn
  have J39 : ∀ (F1 : Nat → Nat → Int32) (L1 : Nat → Nat → Int64), (∀ j b, ¬ (j = 140 ∧ b = q) → F1 j b = FI j b) → F1 140 q = (if r 9 < 0 then tk else r 9) → (∀ b, b ≠ q + 1 → L1 b = AL b) → (∀ j, j < 4000 → x_cell (L1 (q + 1)) j = c_at t j) → P g 1 iX4_lay 39 [some (vr q), some (vr a), some (vi rep), some (vi tk), none, none, none] [] (L, F1, AI, L1, AR) (0, 0) (fun r0 s0 => ∃ F2 L2, s0 = (L, F2, AI, L2, AR) ∧ r0 = none ∧ (∀ j b, ¬ (128 ≤ j ∧ j < 143 ∧ b = q) → F2 j b = FI j b) ∧ (∀ b, b ≠ q + 1 → L2 b = AL b) ∧ RP F2 L2 q (l_row r t tk σ) (x_lay t (nn σ.2.1) (nn (σ.2.1 + σ.2.2.1)) σ.2.2.2.2.2.1 (decide (rep = 1)))) := by
    intro F1 L1 hFo h140 hL1 hc1
    have loop : ∀ n i : Nat, i + n = nn (σ.2.1 + σ.2.2.1) → nn σ.2.1 ≤ i → ∀ (F2 : Nat → Nat → Int32) (L2 : Nat → Nat → Int64), (∀ j b, ¬ (j = 139 ∧ b = q) → F2 j b = F1 j b) → F2 139 q = Int32.ofNat (x_cnt t 4000 + x_moreN t (nn σ.2.1) (i - nn σ.2.1)) → (∀ b, b ≠ q + 1 → L2 b = AL b) → (∀ j, j < 4000 → x_cell (L2 (q + 1)) j = c_at (x_lay t (nn σ.2.1) i σ.2.2.2.2.2.1 (decide (rep = 1))) j) → P g 1 iX4_lay 56 [some (vr q), some (vr a), some (vi rep), some (vi tk), some (vi (Int32.ofNat (nn (σ.2.1 + σ.2.2.1)))), some (vi (Int32.ofNat i)), none] [] (L, F2, AI, L2, AR) (0, 0) (fun r0 s0 => ∃ F2 L2, s0 = (L, F2, AI, L2, AR) ∧ r0 = none ∧ (∀ j b, ¬ (128 ≤ j ∧ j < 143 ∧ b = q) → F2 j b = FI j b) ∧ (∀ b, b ≠ q + 1 → L2 b = AL b) ∧ RP F2 L2 q (l_row r t tk σ) (x_lay t (nn σ.2.1) (nn (σ.2.1 + σ.2.2.1)) σ.2.2.2.2.2.1 (decide (rep = 1)))) := by
      intro n
      induction n with
      | zero =>
        intro i hi hai F2 L2 hF2 h139 hLo hcl
        refine P_iload (i := 5) rfl dX4_lay_56 ?_
        refine P_iload (i := 4) rfl dX4_lay_58 ?_
        refine P_icmpge dX4_lay_60 (tgt := 126) rfl (fun h60 => ?_) (fun h60 => absurd ((n_le (a := nn (σ.2.1 + σ.2.2.1)) (b := i) (by omega) (by omega)).mpr (by omega)) h60)
        refine P_aloadn (i := 0) rfl rfl dX4_lay_126 ?_
        refine P_aloadn (i := 0) rfl rfl dX4_lay_127 ?_
        refine gX4_64 rfl (by first | assumption | exact hl.k | exact hl.kc) ((hF2 141 q (by omega)).trans ((hFo 141 q (by omega)).trans hfe.2.1.eq)) dX4_lay_128 ?_
        refine P_iload (i := 4) rfl dX4_lay_131 ?_
        refine mX4_101 rfl dX4_lay_133 rfl ?_
        refine uX4_64 rfl (by first | assumption | exact hl.k | exact hl.kc) dX4_lay_136 ?_
        refine P_aloadn (i := 1) rfl rfl dX4_lay_139 ?_
        refine gX4_89 rfl (by first | assumption | exact hl.k | exact hl.kc) ((p_up_n1 _ _ _ _ (by decide)).trans ((hF2 165 a (by omega)).trans ((hFo 165 a (by omega)).trans hs.2.2.2.1))) dX4_lay_140 ?_
        refine P_ifeq dX4_lay_143 (tgt := 152) rfl (fun h143 => ?_) (fun h143 => ?_)
        · have hl1 : ¬ σ.2.2.2.1 = 1 := fun hh => by rw [hh] at h143; exact absurd h143 (by decide)
          refine P_return rfl dX4_lay_152 ?_
          have hFE : (p_up F2 141 q (if Int32.ofNat (nn (FI 141 q)) < Int32.ofNat (nn (σ.2.1 + σ.2.2.1)) then Int32.ofNat (nn (σ.2.1 + σ.2.2.1)) else Int32.ofNat (nn (FI 141 q)))) 141 q = Int32.ofNat (if nn (FI 141 q) < nn (σ.2.1 + σ.2.2.1) then nn (σ.2.1 + σ.2.2.1) else nn (FI 141 q)) := by
            rw [p_up_eq]
            by_cases e : nn (FI 141 q) < nn (σ.2.1 + σ.2.2.1)
            · rw [if_pos e]
              exact if_pos ((n_lt (a := nn (FI 141 q)) (b := nn (σ.2.1 + σ.2.2.1)) (by omega) (by omega)).mpr e)
            · rw [if_neg e]
              exact if_neg (fun hh => e ((n_lt (a := nn (FI 141 q)) (b := nn (σ.2.1 + σ.2.2.1)) (by omega) (by omega)).mp hh))
          have hFEb : ib (Int32.ofNat (if nn (FI 141 q) < nn (σ.2.1 + σ.2.2.1) then nn (σ.2.1 + σ.2.2.1) else nn (FI 141 q))) 4001 := ib.of (by split <;> omega) (by split <;> omega)
          have hrow : ∀ k, k ≠ 8 → k ≠ 9 → k ≠ 12 → l_row r t tk σ k = r k := fun k k8 k9 k12 => (if_neg k8).trans ((if_neg k9).trans (if_neg k12))
          have hi9 : i = nn (σ.2.1 + σ.2.2.1) := by omega
          refine ⟨_, L2, rfl, rfl, fun j b hjb => ?_, hLo, ?_⟩
          · rw [p_up_of (by omega), hF2 j b (by omega), hFo j b (by omega)]
          · obtain ⟨f0, f1, f2, f3, f4, f5, f6, f7, f8, f9, f10, f11⟩ := hr.1
            have eF : ∀ j, 128 ≤ j → j < 139 → F2 j q = FI j q := fun j h1 h2 => (hF2 j q (by omega)).trans (hFo j q (by omega))
            refine ⟨⟨(p_up_n1 _ _ _ _ (by decide)).trans ((eF 128 (by decide) (by decide)).trans f0), (p_up_n1 _ _ _ _ (by decide)).trans ((eF 129 (by decide) (by decide)).trans f1), (p_up_n1 _ _ _ _ (by decide)).trans ((eF 130 (by decide) (by decide)).trans f2), (p_up_n1 _ _ _ _ (by decide)).trans ((eF 131 (by decide) (by decide)).trans f3), (p_up_n1 _ _ _ _ (by decide)).trans ((eF 132 (by decide) (by decide)).trans f4), (p_up_n1 _ _ _ _ (by decide)).trans ((eF 133 (by decide) (by decide)).trans f5), (p_up_n1 _ _ _ _ (by decide)).trans ((eF 134 (by decide) (by decide)).trans f6), (p_up_n1 _ _ _ _ (by decide)).trans ((eF 135 (by decide) (by decide)).trans f7), (p_up_n1 _ _ _ _ (by decide)).trans ((eF 136 (by decide) (by decide)).trans f8), (p_up_n1 _ _ _ _ (by decide)).trans ((eF 137 (by decide) (by decide)).trans f9), (p_up_n1 _ _ _ _ (by decide)).trans ((eF 138 (by decide) (by decide)).trans f10), ?_⟩, fun _ => ⟨?_, fun j hj => ?_⟩, fun _ => ⟨?_, ?_, fun j hj hj2 => ?_, fun _ => ?_⟩, by rw [p_up_n1 _ _ _ _ (by decide), hF2 142 q (by omega), hFo 142 q (by omega)]; exact hr.2.2.2⟩
            · show _ = r 12 + x_more t (nn σ.2.1) (nn (σ.2.1 + σ.2.2.1) - nn σ.2.1)
              rw [x_more_eq, hq.2.2.1, n_add, ← hi9]
              exact (p_up_n1 _ _ _ _ (by decide)).trans (h139)
            · exact (p_up_n1 _ _ _ _ (by decide)).trans ((hF2 140 q (by omega)).trans h140)
            · rw [hcl j hj, hi9]; rfl
            · show _ = (if σ.2.2.2.1 = 1 then σ.2.1 + σ.2.2.1 else r 8)
              rw [if_neg hl1, p_up_n1 _ _ _ _ (by decide), hF2 142 q (by omega), hFo 142 q (by omega)]; exact hfe.1
            · rw [hFE]; exact hFEb
            · rw [hFE]
              have h1 : nn (Int32.ofNat (if nn (FI 141 q) < nn (σ.2.1 + σ.2.2.1) then nn (σ.2.1 + σ.2.2.1) else nn (FI 141 q))) = if nn (FI 141 q) < nn (σ.2.1 + σ.2.2.1) then nn (σ.2.1 + σ.2.2.1) else nn (FI 141 q) := n_nn (by split <;> omega)
              rw [h1]
              by_cases e : nn σ.2.1 ≤ j ∧ j < nn (σ.2.1 + σ.2.2.1)
              · split <;> omega
              · have h2 : (x_lay t (nn σ.2.1) (nn (σ.2.1 + σ.2.2.1)) σ.2.2.2.2.2.1 (decide (rep = 1))) j = t j := if_neg (fun hh => e ⟨hh.1, hh.2.1⟩)
                rw [h2] at hj2
                have h3 := hfe.2.2.1 j hj hj2
                split <;> omega
            · rw [hFE]
              have h1 : nn (Int32.ofNat (if nn (FI 141 q) < nn (σ.2.1 + σ.2.2.1) then nn (σ.2.1 + σ.2.2.1) else nn (FI 141 q))) = if nn (FI 141 q) < nn (σ.2.1 + σ.2.2.1) then nn (σ.2.1 + σ.2.2.1) else nn (FI 141 q) := n_nn (by split <;> omega)
              rw [h1]
              by_cases e : nn (FI 141 q) < nn (σ.2.1 + σ.2.2.1)
              · rw [if_pos e]
                unfold x_lay
                by_cases e2 : nn σ.2.1 ≤ nn (σ.2.1 + σ.2.2.1) - 1 ∧ nn (σ.2.1 + σ.2.2.1) - 1 < nn (σ.2.1 + σ.2.2.1) ∧ (t (nn (σ.2.1 + σ.2.2.1) - 1) < 0 ∨ (decide (rep = 1)) = true)
                · rw [if_pos e2, Int32.le_iff_toInt_le]; exact hse.1
                · rw [if_neg e2]
                  exact Int32.not_lt.mp (fun hh => e2 ⟨by omega, by omega, Or.inl hh⟩)
              · rw [if_neg e]
                have h4 := hfe.2.2.2 (by omega)
                unfold x_lay
                by_cases e2 : nn σ.2.1 ≤ nn (FI 141 q) - 1 ∧ nn (FI 141 q) - 1 < nn (σ.2.1 + σ.2.2.1) ∧ (t (nn (FI 141 q) - 1) < 0 ∨ (decide (rep = 1)) = true)
                · rw [if_pos e2, Int32.le_iff_toInt_le]; exact hse.1
                · rw [if_neg e2]; exact h4
        · have hl1 : σ.2.2.2.1 = 1 := hla.resolve_left h143
          refine P_aloadn (i := 0) rfl rfl dX4_lay_146 ?_
          refine P_iload (i := 4) rfl dX4_lay_147 ?_
          refine uX4_15 rfl (by first | assumption | exact hl.k | exact hl.kc) dX4_lay_149 ?_
          refine P_return rfl dX4_lay_152 ?_
          have hFE : (p_up (p_up F2 141 q (if Int32.ofNat (nn (FI 141 q)) < Int32.ofNat (nn (σ.2.1 + σ.2.2.1)) then Int32.ofNat (nn (σ.2.1 + σ.2.2.1)) else Int32.ofNat (nn (FI 141 q)))) 142 q (Int32.ofNat (nn (σ.2.1 + σ.2.2.1)))) 141 q = Int32.ofNat (if nn (FI 141 q) < nn (σ.2.1 + σ.2.2.1) then nn (σ.2.1 + σ.2.2.1) else nn (FI 141 q)) := by
            rw [p_up_n1 _ _ _ _ (by decide)]
            rw [p_up_eq]
            by_cases e : nn (FI 141 q) < nn (σ.2.1 + σ.2.2.1)
            · rw [if_pos e]
              exact if_pos ((n_lt (a := nn (FI 141 q)) (b := nn (σ.2.1 + σ.2.2.1)) (by omega) (by omega)).mpr e)
            · rw [if_neg e]
              exact if_neg (fun hh => e ((n_lt (a := nn (FI 141 q)) (b := nn (σ.2.1 + σ.2.2.1)) (by omega) (by omega)).mp hh))
          have hFEb : ib (Int32.ofNat (if nn (FI 141 q) < nn (σ.2.1 + σ.2.2.1) then nn (σ.2.1 + σ.2.2.1) else nn (FI 141 q))) 4001 := ib.of (by split <;> omega) (by split <;> omega)
          have hrow : ∀ k, k ≠ 8 → k ≠ 9 → k ≠ 12 → l_row r t tk σ k = r k := fun k k8 k9 k12 => (if_neg k8).trans ((if_neg k9).trans (if_neg k12))
          have hi9 : i = nn (σ.2.1 + σ.2.2.1) := by omega
          refine ⟨_, L2, rfl, rfl, fun j b hjb => ?_, hLo, ?_⟩
          · rw [p_up_of (by omega), p_up_of (by omega), hF2 j b (by omega), hFo j b (by omega)]
          · obtain ⟨f0, f1, f2, f3, f4, f5, f6, f7, f8, f9, f10, f11⟩ := hr.1
            have eF : ∀ j, 128 ≤ j → j < 139 → F2 j q = FI j q := fun j h1 h2 => (hF2 j q (by omega)).trans (hFo j q (by omega))
            refine ⟨⟨(p_up_n1 _ _ _ _ (by decide)).trans ((p_up_n1 _ _ _ _ (by decide)).trans ((eF 128 (by decide) (by decide)).trans f0)), (p_up_n1 _ _ _ _ (by decide)).trans ((p_up_n1 _ _ _ _ (by decide)).trans ((eF 129 (by decide) (by decide)).trans f1)), (p_up_n1 _ _ _ _ (by decide)).trans ((p_up_n1 _ _ _ _ (by decide)).trans ((eF 130 (by decide) (by decide)).trans f2)), (p_up_n1 _ _ _ _ (by decide)).trans ((p_up_n1 _ _ _ _ (by decide)).trans ((eF 131 (by decide) (by decide)).trans f3)), (p_up_n1 _ _ _ _ (by decide)).trans ((p_up_n1 _ _ _ _ (by decide)).trans ((eF 132 (by decide) (by decide)).trans f4)), (p_up_n1 _ _ _ _ (by decide)).trans ((p_up_n1 _ _ _ _ (by decide)).trans ((eF 133 (by decide) (by decide)).trans f5)), (p_up_n1 _ _ _ _ (by decide)).trans ((p_up_n1 _ _ _ _ (by decide)).trans ((eF 134 (by decide) (by decide)).trans f6)), (p_up_n1 _ _ _ _ (by decide)).trans ((p_up_n1 _ _ _ _ (by decide)).trans ((eF 135 (by decide) (by decide)).trans f7)), (p_up_n1 _ _ _ _ (by decide)).trans ((p_up_n1 _ _ _ _ (by decide)).trans ((eF 136 (by decide) (by decide)).trans f8)), (p_up_n1 _ _ _ _ (by decide)).trans ((p_up_n1 _ _ _ _ (by decide)).trans ((eF 137 (by decide) (by decide)).trans f9)), (p_up_n1 _ _ _ _ (by decide)).trans ((p_up_n1 _ _ _ _ (by decide)).trans ((eF 138 (by decide) (by decide)).trans f10)), ?_⟩, fun _ => ⟨?_, fun j hj => ?_⟩, fun _ => ⟨?_, ?_, fun j hj hj2 => ?_, fun _ => ?_⟩, by rw [p_up_eq]; exact fun hh => by have := (n_eq (a := nn (σ.2.1 + σ.2.2.1)) (b := 0) (by omega) (by omega)).mp hh; omega⟩
            · show _ = r 12 + x_more t (nn σ.2.1) (nn (σ.2.1 + σ.2.2.1) - nn σ.2.1)
              rw [x_more_eq, hq.2.2.1, n_add, ← hi9]
              exact (p_up_n1 _ _ _ _ (by decide)).trans ((p_up_n1 _ _ _ _ (by decide)).trans (h139))
            · exact (p_up_n1 _ _ _ _ (by decide)).trans ((p_up_n1 _ _ _ _ (by decide)).trans ((hF2 140 q (by omega)).trans h140))
            · rw [hcl j hj, hi9]; rfl
            · show _ = (if σ.2.2.2.1 = 1 then σ.2.1 + σ.2.2.1 else r 8)
              rw [if_pos hl1, p_up_eq, ← heN]
            · rw [hFE]; exact hFEb
            · rw [hFE]
              have h1 : nn (Int32.ofNat (if nn (FI 141 q) < nn (σ.2.1 + σ.2.2.1) then nn (σ.2.1 + σ.2.2.1) else nn (FI 141 q))) = if nn (FI 141 q) < nn (σ.2.1 + σ.2.2.1) then nn (σ.2.1 + σ.2.2.1) else nn (FI 141 q) := n_nn (by split <;> omega)
              rw [h1]
              by_cases e : nn σ.2.1 ≤ j ∧ j < nn (σ.2.1 + σ.2.2.1)
              · split <;> omega
              · have h2 : (x_lay t (nn σ.2.1) (nn (σ.2.1 + σ.2.2.1)) σ.2.2.2.2.2.1 (decide (rep = 1))) j = t j := if_neg (fun hh => e ⟨hh.1, hh.2.1⟩)
                rw [h2] at hj2
                have h3 := hfe.2.2.1 j hj hj2
                split <;> omega
            · rw [hFE]
              have h1 : nn (Int32.ofNat (if nn (FI 141 q) < nn (σ.2.1 + σ.2.2.1) then nn (σ.2.1 + σ.2.2.1) else nn (FI 141 q))) = if nn (FI 141 q) < nn (σ.2.1 + σ.2.2.1) then nn (σ.2.1 + σ.2.2.1) else nn (FI 141 q) := n_nn (by split <;> omega)
              rw [h1]
              by_cases e : nn (FI 141 q) < nn (σ.2.1 + σ.2.2.1)
              · rw [if_pos e]
                unfold x_lay
                by_cases e2 : nn σ.2.1 ≤ nn (σ.2.1 + σ.2.2.1) - 1 ∧ nn (σ.2.1 + σ.2.2.1) - 1 < nn (σ.2.1 + σ.2.2.1) ∧ (t (nn (σ.2.1 + σ.2.2.1) - 1) < 0 ∨ (decide (rep = 1)) = true)
                · rw [if_pos e2, Int32.le_iff_toInt_le]; exact hse.1
                · rw [if_neg e2]
                  exact Int32.not_lt.mp (fun hh => e2 ⟨by omega, by omega, Or.inl hh⟩)
              · rw [if_neg e]
                have h4 := hfe.2.2.2 (by omega)
                unfold x_lay
                by_cases e2 : nn σ.2.1 ≤ nn (FI 141 q) - 1 ∧ nn (FI 141 q) - 1 < nn (σ.2.1 + σ.2.2.1) ∧ (t (nn (FI 141 q) - 1) < 0 ∨ (decide (rep = 1)) = true)
                · rw [if_pos e2, Int32.le_iff_toInt_le]; exact hse.1
                · rw [if_neg e2]; exact h4
      | succ n ih =>
        intro i hi hai F2 L2 hF2 h139 hLo hcl
        refine P_iload (i := 5) rfl dX4_lay_56 ?_
        refine P_iload (i := 4) rfl dX4_lay_58 ?_
        refine P_icmpge dX4_lay_60 (tgt := 126) rfl (fun h60 => absurd h60 (fun h8 => by have h7 := (n_le (a := nn (σ.2.1 + σ.2.2.1)) (b := i) (by omega) (by omega)).mp h8; omega)) (fun h60 => ?_)
        refine P_aloadn (i := 0) rfl rfl dX4_lay_63 ?_
        refine P_iload (i := 5) rfl dX4_lay_64 ?_
        refine kX4_77 rfl (s_cell hl (i := i) (by omega)) (by decide) (by first | assumption | exact hl.k | exact hl.kc) rfl dX4_lay_66 (fun r66 s66 q66 => ?_)
        obtain ⟨rfl, rfl⟩ := q66
        have hcv : x_cell (L2 (q + 1)) i = c_at t i := (hcl i (by omega)).trans (by unfold c_at; rw [show x_lay t (nn σ.2.1) i σ.2.2.2.2.2.1 (decide (rep = 1)) i = t i from if_neg (fun hh => by omega)])
        rw [hcv]
        have hcz := (c_at_z (i := i) (by omega) (hq.2.1 i (by omega))).1
        refine P_ifne dX4_lay_69 (tgt := 76) rfl (fun h69 => ?_) (fun h69 => ?_)
        · have hti : ¬ t i < 0 := fun hh => h69 (hcz.mpr hh)
          refine P_iconst (v := 0) rfl dX4_lay_76 ?_
          refine P_is6 (Or.inr dX4_lay_77) rfl rfl ?_
          refine P_iload (i := 6) rfl dX4_lay_79 ?_
          refine P_ifeq dX4_lay_81 (tgt := 94) rfl (fun h81 => ?_) (fun h81 => ?_)
          · refine P_iload (i := 6) rfl dX4_lay_94 ?_
            refine P_ifne dX4_lay_96 (tgt := 103) rfl (fun h96 => ?_) (fun h96 => ?_)
            · exact absurd rfl h96
            · refine P_iloadn (i := 2) rfl rfl dX4_lay_99 ?_
              refine P_ifeq dX4_lay_100 (tgt := 120) rfl (fun h100 => ?_) (fun h100 => ?_)
              · refine P_inN5 dX4_lay_120 rfl rfl ?_
                refine P_goto dX4_lay_123 (tgt := 56) rfl ?_
                refine P_few (ls2 := [some (vr q), some (vr a), some (vi rep), some (vi tk), some (vi (Int32.ofNat (nn (σ.2.1 + σ.2.2.1)))), some (vi (Int32.ofNat (i + 1))), none]) ⟨rfl, rfl, rfl, rfl, rfl, rfl, trivial⟩ ?_
                refine ih (i + 1) (by omega) (by omega) _ _ ?_ ?_ ?_ ?_
                · exact hF2
                · rw [show i + 1 - nn σ.2.1 = (i - nn σ.2.1) + 1 by omega, x_moreN_s]
                  rw [show nn σ.2.1 + (i - nn σ.2.1) = i by omega, if_neg hti]
                  exact h139
                · exact hLo
                · intro j hj
                  rw [hcl j hj]
                  unfold c_at
                  by_cases e : j = i
                  · rw [e]
                    have h7 : x_lay t (nn σ.2.1) (i + 1) σ.2.2.2.2.2.1 (decide (rep = 1)) i = t i := if_neg (fun hh => hh.2.2.elim hti (fun h8 => by rw [h100] at h8; exact absurd h8 (by decide)))
                    have h8 : x_lay t (nn σ.2.1) i σ.2.2.2.2.2.1 (decide (rep = 1)) i = t i := if_neg (fun hh => by omega)
                    rw [h7, h8]
                  · rw [show x_lay t (nn σ.2.1) (i + 1) σ.2.2.2.2.2.1 (decide (rep = 1)) j = x_lay t (nn σ.2.1) i σ.2.2.2.2.2.1 (decide (rep = 1)) j from lay_o e]
              · refine P_aloadn (i := 0) rfl rfl dX4_lay_103 ?_
                refine P_iload (i := 5) rfl dX4_lay_104 ?_
                refine P_aloadn (i := 1) rfl rfl dX4_lay_106 ?_
                refine gX4_96 rfl (by first | assumption | exact hl.k | exact hl.kc) ((hF2 164 a (by omega)).trans ((hFo 164 a (by omega)).trans hs.2.2.2.2.2.1)) dX4_lay_107 ?_
                refine P_iload (i := 5) rfl dX4_lay_110 ?_
                refine kX4_41 rfl (s_byteOf7 hse (ib.of (j := i) (by omega) (by omega))) (by decide) rfl dX4_lay_112 (fun r112 s112 q112 => ?_)
                obtain ⟨rfl, rfl⟩ := q112
                obtain ⟨nb, hnb9, hnb⟩ : ∃ nb, nb < 256 ∧ c_byte σ.2.2.2.2.2.1 (Int32.ofNat i) = Int32.ofNat nb := by
                  have h8 := (c_byte_nat (a := (σ.2.2.2.2.2.1).toNatClampNeg) (b := i) hse.nn (by omega)).1
                  rw [← hse.eq] at h8
                  exact ⟨_, Nat.mod_lt _ (by decide), h8⟩
                have hnb2 : Int32.ofNat nb + 1 = Int32.ofNat (nb + 1) := n_add nb 1
                rw [hnb]
                refine P_iconst (v := 1) rfl dX4_lay_115 ?_
                refine P_iadd dX4_lay_116 ?_
                refine kX4_97 rfl (s_setCell hl (i := i) (by omega)) (by decide) (by first | assumption | exact hl.k | exact hl.kc) rfl dX4_lay_117 (fun r117 s117 q117 => ?_)
                obtain ⟨rfl, rfl⟩ := q117
                refine P_inN5 dX4_lay_120 rfl rfl ?_
                refine P_goto dX4_lay_123 (tgt := 56) rfl ?_
                refine P_few (ls2 := [some (vr q), some (vr a), some (vi rep), some (vi tk), some (vi (Int32.ofNat (nn (σ.2.1 + σ.2.2.1)))), some (vi (Int32.ofNat (i + 1))), none]) ⟨rfl, rfl, rfl, rfl, rfl, rfl, trivial⟩ ?_
                refine ih (i + 1) (by omega) (by omega) _ _ ?_ ?_ ?_ ?_
                · exact hF2
                · rw [show i + 1 - nn σ.2.1 = (i - nn σ.2.1) + 1 by omega, x_moreN_s]
                  rw [show nn σ.2.1 + (i - nn σ.2.1) = i by omega, if_neg hti]
                  exact h139
                · intro b hb; rw [p_up_othL hb]; exact hLo b hb
                · intro j hj
                  rw [p_up_fn]
                  have h6 := x_cell_set (c := L2 (q + 1)) (i := i) (j := j) (n := nb + 1) (by omega)
                  rw [← hnb2] at h6
                  rw [h6]
                  by_cases e : j = i
                  · rw [if_pos e, e]
                    have h7 : x_lay t (nn σ.2.1) (i + 1) σ.2.2.2.2.2.1 (decide (rep = 1)) i = σ.2.2.2.2.2.1 := if_pos ⟨hai, by omega, Or.inr (decide_eq_true (hrep.resolve_left h100))⟩
                    unfold c_at
                    rw [h7, if_neg (Int32.not_lt.mpr (by rw [Int32.le_iff_toInt_le]; exact hse.1)), hnb]
                  · rw [if_neg e, hcl j hj]
                    unfold c_at
                    rw [show x_lay t (nn σ.2.1) (i + 1) σ.2.2.2.2.2.1 (decide (rep = 1)) j = x_lay t (nn σ.2.1) i σ.2.2.2.2.2.1 (decide (rep = 1)) j from lay_o e]
          · exact absurd rfl h81
        · have hti : t i < 0 := hcz.mp h69
          refine P_iconst (v := 1) rfl dX4_lay_72 ?_
          refine P_goto dX4_lay_73 (tgt := 77) rfl ?_
          refine P_is6 (Or.inr dX4_lay_77) rfl rfl ?_
          refine P_iload (i := 6) rfl dX4_lay_79 ?_
          refine P_ifeq dX4_lay_81 (tgt := 94) rfl (fun h81 => ?_) (fun h81 => ?_)
          · exact absurd h81 (by decide)
          · refine P_aloadn (i := 0) rfl rfl dX4_lay_84 ?_
            refine P_dup rfl dX4_lay_85 ?_
            refine gX4_58 rfl (by first | assumption | exact hl.k | exact hl.kc) h139 dX4_lay_86 ?_
            refine P_iconst (v := 1) rfl dX4_lay_89 ?_
            refine P_iadd dX4_lay_90 ?_
            rw [show Int32.ofNat (x_cnt t 4000 + x_moreN t (nn σ.2.1) (i - nn σ.2.1)) + 1 = Int32.ofNat (x_cnt t 4000 + x_moreN t (nn σ.2.1) (i - nn σ.2.1) + 1) from n_add _ 1]
            refine uX4_58 rfl (by first | assumption | exact hl.k | exact hl.kc) dX4_lay_91 ?_
            refine P_iload (i := 6) rfl dX4_lay_94 ?_
            refine P_ifne dX4_lay_96 (tgt := 103) rfl (fun h96 => ?_) (fun h96 => ?_)
            · refine P_aloadn (i := 0) rfl rfl dX4_lay_103 ?_
              refine P_iload (i := 5) rfl dX4_lay_104 ?_
              refine P_aloadn (i := 1) rfl rfl dX4_lay_106 ?_
              refine gX4_96 rfl (by first | assumption | exact hl.k | exact hl.kc) ((p_up_n1 _ _ _ _ (by decide)).trans ((hF2 164 a (by omega)).trans ((hFo 164 a (by omega)).trans hs.2.2.2.2.2.1))) dX4_lay_107 ?_
              refine P_iload (i := 5) rfl dX4_lay_110 ?_
              refine kX4_41 rfl (s_byteOf7 hse (ib.of (j := i) (by omega) (by omega))) (by decide) rfl dX4_lay_112 (fun r112 s112 q112 => ?_)
              obtain ⟨rfl, rfl⟩ := q112
              obtain ⟨nb, hnb9, hnb⟩ : ∃ nb, nb < 256 ∧ c_byte σ.2.2.2.2.2.1 (Int32.ofNat i) = Int32.ofNat nb := by
                have h8 := (c_byte_nat (a := (σ.2.2.2.2.2.1).toNatClampNeg) (b := i) hse.nn (by omega)).1
                rw [← hse.eq] at h8
                exact ⟨_, Nat.mod_lt _ (by decide), h8⟩
              have hnb2 : Int32.ofNat nb + 1 = Int32.ofNat (nb + 1) := n_add nb 1
              rw [hnb]
              refine P_iconst (v := 1) rfl dX4_lay_115 ?_
              refine P_iadd dX4_lay_116 ?_
              refine kX4_97 rfl (s_setCell hl (i := i) (by omega)) (by decide) (by first | assumption | exact hl.k | exact hl.kc) rfl dX4_lay_117 (fun r117 s117 q117 => ?_)
              obtain ⟨rfl, rfl⟩ := q117
              refine P_inN5 dX4_lay_120 rfl rfl ?_
              refine P_goto dX4_lay_123 (tgt := 56) rfl ?_
              refine P_few (ls2 := [some (vr q), some (vr a), some (vi rep), some (vi tk), some (vi (Int32.ofNat (nn (σ.2.1 + σ.2.2.1)))), some (vi (Int32.ofNat (i + 1))), none]) ⟨rfl, rfl, rfl, rfl, rfl, rfl, trivial⟩ ?_
              refine ih (i + 1) (by omega) (by omega) _ _ ?_ ?_ ?_ ?_
              · intro j b hjb; rw [p_up_of (by omega)]; exact hF2 j b hjb
              · rw [p_up_eq, show i + 1 - nn σ.2.1 = (i - nn σ.2.1) + 1 by omega, x_moreN_s]
                rw [show nn σ.2.1 + (i - nn σ.2.1) = i by omega, if_pos hti]
                exact congrArg Int32.ofNat (Nat.add_assoc _ _ _)
              · intro b hb; rw [p_up_othL hb]; exact hLo b hb
              · intro j hj
                rw [p_up_fn]
                have h6 := x_cell_set (c := L2 (q + 1)) (i := i) (j := j) (n := nb + 1) (by omega)
                rw [← hnb2] at h6
                rw [h6]
                by_cases e : j = i
                · rw [if_pos e, e]
                  have h7 : x_lay t (nn σ.2.1) (i + 1) σ.2.2.2.2.2.1 (decide (rep = 1)) i = σ.2.2.2.2.2.1 := if_pos ⟨hai, by omega, Or.inl hti⟩
                  unfold c_at
                  rw [h7, if_neg (Int32.not_lt.mpr (by rw [Int32.le_iff_toInt_le]; exact hse.1)), hnb]
                · rw [if_neg e, hcl j hj]
                  unfold c_at
                  rw [show x_lay t (nn σ.2.1) (i + 1) σ.2.2.2.2.2.1 (decide (rep = 1)) j = x_lay t (nn σ.2.1) i σ.2.2.2.2.2.1 (decide (rep = 1)) j from lay_o e]
            · exact absurd h96 (by decide)
    refine P_aloadn (i := 1) rfl rfl dX4_lay_39 ?_
    refine gX4_81 rfl (by first | assumption | exact hl.k | exact hl.kc) ((hFo 161 a (by omega)).trans hs.2.1) dX4_lay_40 ?_
    refine P_aloadn (i := 1) rfl rfl dX4_lay_43 ?_
    refine gX4_86 rfl (by first | assumption | exact hl.k | exact hl.kc) ((hFo 162 a (by omega)).trans hs.2.2.1) dX4_lay_44 ?_
    refine P_iadd dX4_lay_47 ?_
    refine P_is4 (Or.inr dX4_lay_48) rfl rfl ?_
    refine P_aloadn (i := 1) rfl rfl dX4_lay_50 ?_
    refine gX4_81 rfl (by first | assumption | exact hl.k | exact hl.kc) ((hFo 161 a (by omega)).trans (hs.2.1.trans haN)) dX4_lay_51 ?_
    refine P_is5 (Or.inr dX4_lay_54) rfl rfl ?_
    have h0 := loop (nn (σ.2.1 + σ.2.2.1) - nn σ.2.1) (nn σ.2.1) (by omega) (Nat.le_refl _) F1 L1 (fun _ _ _ => rfl) (by rw [Nat.sub_self, show x_moreN t (nn σ.2.1) 0 = 0 from rfl, Nat.add_zero]; exact (hFo 139 q (by omega)).trans hct) hL1 (fun j hj => (hc1 j hj).trans (by unfold c_at; rw [show (x_lay t (nn σ.2.1) (nn σ.2.1) σ.2.2.2.2.2.1 (decide (rep = 1))) j = t j from if_neg (fun hh => by omega)]))
    rw [← heN] at h0
    refine P_few ?_ h0
    exact ⟨rfl, rfl, rfl, rfl, rfl, rfl, trivial⟩
  refine P_aloadn (i := 0) rfl rfl dX4_lay_0 ?_
  refine gX4_58 rfl (by first | assumption | exact hl.k | exact hl.kc) hct dX4_lay_1 ?_
  refine P_ifne dX4_lay_4 (tgt := 39) rfl (fun h4 => ?_) (fun h4 => ?_)
  · have hc0 : ¬ x_cnt t 4000 = 0 := fun hh => h4 (by rw [hh]; rfl)
    have h12 : ¬ r 12 = 0 := fun hh => h4 (by rw [← hq.2.2.1, hh])
    have hr2 := hr.2.1 h12
    have h9p := hq.2.2.2.2.1 hc0
    refine J39 FI AL (fun _ _ _ => rfl) ?_ (fun _ _ => rfl) hr2.2
    rw [if_neg (Int32.not_lt.mpr (by rw [Int32.le_iff_toInt_le]; exact h9p.1))]
    exact hr2.1
  · have hc0 : x_cnt t 4000 = 0 := (n_eq (b := 0) (by omega) (by omega)).mp h4
    have h9z := hq.2.2.2.1 hc0
    have hneg : ∀ j, j < 4000 → t j < 0 := fun j hj => Int32.not_le.mp (fun hh => by have := x_cnt_pos hh 4000 hj; omega)
    have loopz : ∀ n k : Nat, k + n = 572 → ∀ L1 : Nat → Nat → Int64, (∀ b, b ≠ q + 1 → L1 b = AL b) → (∀ i, i < k → L1 (q + 1) i = 0) → P g 1 iX4_lay 15 [some (vr q), some (vr a), some (vi rep), some (vi tk), some (vi (Int32.ofNat k)), none, none] [] (L, p_up FI 140 q tk, AI, L1, AR) (0, 0) (fun r0 s0 => ∃ F2 L2, s0 = (L, F2, AI, L2, AR) ∧ r0 = none ∧ (∀ j b, ¬ (128 ≤ j ∧ j < 143 ∧ b = q) → F2 j b = FI j b) ∧ (∀ b, b ≠ q + 1 → L2 b = AL b) ∧ RP F2 L2 q (l_row r t tk σ) (x_lay t (nn σ.2.1) (nn (σ.2.1 + σ.2.2.1)) σ.2.2.2.2.2.1 (decide (rep = 1)))) := by
      intro n
      induction n with
      | zero =>
        intro k hk L1 hL1 hz
        refine P_iload (i := 4) rfl dX4_lay_15 ?_
        refine P_aloadn (i := 0) rfl rfl dX4_lay_17 ?_
        refine gX4_18 rfl (by first | assumption | exact hl.k | exact hl.kc) hl.r dX4_lay_18 ?_
        refine P_lenN (t := 21) (by decide) (by first | assumption | exact hl.k | exact hl.kc) (by rw [hl.l]) dX4_lay_21 ?_
        refine P_icmpge dX4_lay_22 (tgt := 39) rfl (fun h22 => ?_) (fun h22 => absurd ((n_le (a := 572) (b := k) (by omega) (by omega)).mpr (by omega)) h22)
        refine P_few (ls2 := [some (vr q), some (vr a), some (vi rep), some (vi tk), none, none, none]) ⟨rfl, rfl, rfl, rfl, trivial⟩ ?_
        refine J39 _ L1 (fun j b hjb => p_up_of hjb) ?_ hL1 (fun j hj => ?_)
        · rw [p_up_eq, h9z.1]; rfl
        · rw [x_cell_z (fun i hi => hz i (by omega)) hj]
          exact (if_pos (hneg j hj)).symm
      | succ n ih =>
        intro k hk L1 hL1 hz
        refine P_iload (i := 4) rfl dX4_lay_15 ?_
        refine P_aloadn (i := 0) rfl rfl dX4_lay_17 ?_
        refine gX4_18 rfl (by first | assumption | exact hl.k | exact hl.kc) hl.r dX4_lay_18 ?_
        refine P_lenN (t := 21) (by decide) (by first | assumption | exact hl.k | exact hl.kc) (by rw [hl.l]) dX4_lay_21 ?_
        refine P_icmpge dX4_lay_22 (tgt := 39) rfl (fun h22 => absurd h22 (fun h8 => by have h7 := (n_le (a := 572) (b := k) (by omega) (by omega)).mp h8; omega)) (fun h22 => ?_)
        refine P_aloadn (i := 0) rfl rfl dX4_lay_25 ?_
        refine gX4_18 rfl (by first | assumption | exact hl.k | exact hl.kc) hl.r dX4_lay_26 ?_
        refine P_iload (i := 4) rfl dX4_lay_29 ?_
        refine P_lconst (v := 0) rfl dX4_lay_31 ?_
        refine P_lsN (j := k) (by first | assumption | exact hl.k | exact hl.kc) rfl (by omega) (by rw [hl.l]; omega) dX4_lay_32 ?_
        refine P_inN4 dX4_lay_33 rfl rfl ?_
        refine P_goto dX4_lay_36 (tgt := 15) rfl ?_
        refine ih (k + 1) (by omega) _ (fun b hb => (p_up_othL hb).trans (hL1 b hb)) (fun i hi => ?_)
        by_cases e : i = k
        · rw [e]; exact p_up_eq _ _ _ _
        · exact (p_up_n2 _ _ _ _ e).trans (hz i (by omega))
    refine P_aloadn (i := 0) rfl rfl dX4_lay_7 ?_
    refine P_iloadn (i := 3) rfl rfl dX4_lay_8 ?_
    refine uX4_61 rfl (by first | assumption | exact hl.k | exact hl.kc) dX4_lay_9 ?_
    refine P_iconst (v := 0) rfl dX4_lay_12 ?_
    refine P_is4 (Or.inr dX4_lay_13) rfl rfl ?_
    exact loopz 572 0 (by omega) AL (fun _ _ => rfl) (fun i hi => absurd hi (Nat.not_lt_zero i))
end Cls10
