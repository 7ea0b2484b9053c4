theorem x_takes_l {X : XW} {b : Nat} {len : Int32} (h : x_took X b = true) : x_takes X b len = x_b (x_b X b 6 (xB X b 6 + 1)) b 7 (xB X b 7 + 1) := if_pos h
theorem x_takes_o {X : XW} {b : Nat} {len : Int32} (h : ¬ x_took X b = true) : x_takes X b len = x_b (x_b X b 6 (xB X b 6 + 1)) b 8 (xB X b 8 + (len + 8)) := if_neg h
/-- one piece of a slice that is cut -/
def x_c1 (X : XW) (b p : Nat) (fr to e la ho se : Int32) : XW :=
  if (xS X).length = 300 then x_cd (x_g X 4 (xG X 4 + 1)) p 5
  else if x_took (x_g X 4 (xG X 4 + 1)) b = true then x_cd (x_takes (x_g X 4 (xG X 4 + 1)) b (to - fr)) p 4
  else x_s (x_takes (x_g X 4 (xG X 4 + 1)) b (to - fr)) (xS (x_takes (x_g X 4 (xG X 4 + 1)) b (to - fr)) ++ [x_over (x_takes (x_g X 4 (xG X 4 + 1)) b (to - fr)) b (Int32.ofNat p, fr, to - fr, if to = e then la else 0, ho, se, xG X 0, -6)])
theorem x_cut_s {X : XW} {b p : Nat} {each e la ho se fr to : Int32} {n : Nat} (h : fr < e) (ht : to = if fr + each < e then fr + each else e) : x_cut X b p each e la ho se (n + 1) fr = x_cut (x_c1 X b p fr to e la ho se) b p each e la ho se n to := by
  subst ht
  exact if_pos h
theorem x_cut_x {X : XW} {b p : Nat} {each e la ho se fr : Int32} {n : Nat} (h : ¬ fr < e) : x_cut X b p each e la ho se n fr = X := by
  cases n with
  | zero => rfl
  | succ n => exact if_neg h
theorem c_time_eq {tk d c n : Int32} (h1 : 1 ≤ c.toInt) : tk + c_time d c n = tk + d + (n + 8) / c := by
  unfold c_time
  have h2 : (if (1 : Int32) < c then c else 1) = c := by
    by_cases e : (1 : Int32) < c
    · rw [if_pos e]
    · rw [if_neg e]
      have h3 := Int32.not_lt.mp e
      rw [Int32.le_iff_toInt_le] at h3
      simp only [Int32.reduceToInt] at h3
      rw [i_eq]
      simp only [Int32.reduceToInt]
      omega
  rw [h2, Int32.add_assoc]
theorem c_piece_eq {r : Nat} (h : 16 ≤ r) (h2 : r ≤ 1500) : c_piece (Int32.ofNat r) = Int32.ofNat (w_e r) := by
  unfold c_piece
  rw [n_each h h2]
  have h8 := w_e_8 r h
  by_cases e : (8 : Int32) < Int32.ofNat (w_e r)
  · rw [if_pos e]
  · rw [if_neg e]
    have h3 : ¬ 8 < w_e r := fun hh => e ((n_lt (a := 8) (by omega) (by omega)).mpr hh)
    rw [show w_e r = 8 by omega]
    rfl
theorem c_full_eq {r l : Nat} (h : 16 ≤ r) (h2 : r ≤ 1500) (hl : 1 ≤ l) (hl2 : l ≤ 6000) (hb : r < l + 8) : c_full (Int32.ofNat r) (Int32.ofNat l) = Int32.ofNat ((l - 1) / w_e r) := by
  unfold c_full
  have h8 := w_e_8 r h
  rw [c_piece_eq h h2, if_neg (fun hh => by
    have h9 := (n_le (a := l + 8) (b := r) (by omega) (by omega)).mp (by rw [show Int32.ofNat (l + 8) = Int32.ofNat l + 8 from (n_add l 8).symm]; exact hh)
    omega), show Int32.ofNat l - 1 = Int32.ofNat (l - 1) from n_pred (by omega) (by omega)]
  exact n_div (by omega) (by omega) (by omega)
theorem xc_setD {C : List XC} {k : Nat} {σ : XC} {l : List XC} (hk : k < C.length) : (C.set k σ ++ l).getD k xc0 = σ := by
  rw [List.getD_eq_getElem?_getD, List.getElem?_append_left (by rw [List.length_set]; exact hk), List.getElem?_set_self hk]
  rfl
section Cls14
variable {g : PG} {L : PL} {FI AI : Nat → Nat → Int32} {AL : Nat → Nat → Int64} {AR : Nat → Nat → Option Nat} {w : Nat} {X : XW} {C : List XC} {U : Nat} {sa : Nat → Nat} {M : Nat} {s k b : Nat}
end Cls14
section Cls14b
variable {g : PG} {L : PL} {FI AI : Nat → Nat → Int32} {AL : Nat → Nat → Int64} {AR : Nat → Nat → Option Nat} {w : Nat} {X : XW} {C D : List XC} {U : Nat} {sa : Nat → Nat} {M : Nat} {k b p i c0 : Nat} {Y : XW} {G A : Nat → Nat → Int32} {fr to e la ho se hop lz e1 e2 e3 e4 : Int32} {Q : Option PV → PS → Prop}
theorem s_cutGo (hw : WF L w) (hA : WA AR w sa) (hZ : CW L G A AL AR w (x_g Y 4 (xG Y 4 + 1)) D (xS Y).length sa) (hD : D.length < 601) (h300 : (xS Y).length ≤ 300) (hp : p < xp Y) (hb : b < xb Y) (h160 : G 160 (sa D.length) = Int32.ofNat p) (h161 : G 161 (sa D.length) = fr) (h162 : G 162 (sa D.length) = to - fr) (h163 : G 163 (sa D.length) = hop) (h164 : G 164 (sa D.length) = se) (h165 : G 165 (sa D.length) = lz) (hlz : lz = if to = e then la else 0) (hho : hop - 1 = ho) (hpace : 1 ≤ (xB Y b 4).toInt)
    (K : ∀ (l1 : List XS) (F2 A2 : Nat → Nat → Int32), FrC w G A AL AR F2 A2 AL AR → CW L F2 A2 AL AR w (x_c1 Y b p fr to e la ho se) (D ++ l1.map (fun τ => (τ, false))) (xS (x_c1 Y b p fr to e la ho se)).length sa → xS (x_c1 Y b p fr to e la ho se) = xS Y ++ l1 → P g 3 iX6_cutUp 45 [some (vr w), some (vr c0), some (vr (w + 39 + 2 * p)), some (vr (w + 23 + b)), some (vi e1), some (vi e2), some (vi e3), some (vi (Int32.ofNat (i + 1))), none, none] [] (L, F2, A2, AL, AR) (0, 0) Q) : P g 3 iX6_cutUp 146 [some (vr w), some (vr c0), some (vr (w + 39 + 2 * p)), some (vr (w + 23 + b)), some (vi e1), some (vi e2), some (vi e3), some (vi (Int32.ofNat i)), some (vr (sa D.length)), some (vi e4)] [] (L, G, A, AL, AR) (0, 0) Q := by
  have hb16 := hZ.b16
  have hp40 := hZ.p40
  have hb16b : b < 16 := by have : xb Y ≤ 16 := hb16; omega
  have hpl : p < 40 := by have : xp Y ≤ 40 := hp40; omega
  have hsli := hA.lo (i := D.length) hD
  have hkS := hw.ks hA (i := D.length) hD
  have hkb := hw.kB hb16b
  have hZp := (hZ.p p hpl).1 hp
  have hbb := (hZ.b b hb16b).1 hb
  have hb6 : G 6 (w + 23 + b) = xB Y b 6 := hbb 6 (by decide)
  have hb5 : G 5 (w + 23 + b) = xB Y b 5 := hbb 5 (by decide)
  have hb7 : G 7 (w + 23 + b) = xB Y b 7 := hbb 7 (by decide)
  have hb8 : G 8 (w + 23 + b) = xB Y b 8 := hbb 8 (by decide)
  have hb1 : G 1 (w + 23 + b) = xB Y b 1 := hbb 1 (by decide)
  have hb3 : G 3 (w + 23 + b) = xB Y b 3 := hbb 3 (by decide)
  have hb4 : G 4 (w + 23 + b) = xB Y b 4 := hbb 4 (by decide)
  by_cases hc300 : 300 ≤ (xS Y).length
  · have he1 : (x_c1 Y b p fr to e la ho se) = x_cd (x_g Y 4 (xG Y 4 + 1)) p 5 := if_pos (by omega)
    refine P_aloadn (i := 0) rfl rfl dX6_cutUp_146 ?_
    refine P_aload (i := 8) rfl dX6_cutUp_147 ?_
    refine P_aloadn (i := 2) rfl rfl dX6_cutUp_149 ?_
    refine P_aloadn (i := 3) rfl rfl dX6_cutUp_150 ?_
    refine kX6_266 rfl (s_goOn_full hw hA hkS hpl hb16b h160 hZ.g.2.2.2.2.1 (by omega) hc300 (hZ.d 5 (by decide) (by decide)) hZp.1.2.2.2.2.2.2.2.2.2.1) (by decide) (by first | assumption | exact hw.kw | exact hw.k4 | exact hkb) rfl dX6_cutUp_151 (fun r151 s151 q151 => ?_)
    obtain ⟨rfl, rfl⟩ := q151
    refine P_aload (i := 8) rfl dX6_cutUp_154 ?_
    refine gX6_286 rfl hkS ((p_up_n1 _ _ _ _ (by decide)).trans (p_up_eq _ _ _ _)) dX6_cutUp_156 ?_
    refine P_ifne dX6_cutUp_159 (tgt := 172) rfl (fun h159 => ?_) (fun h159 => ?_)
    · refine P_inN7 dX6_cutUp_172 rfl rfl ?_
      refine P_goto dX6_cutUp_175 (tgt := 45) rfl ?_
      refine P_few (ls2 := [some (vr w), some (vr c0), some (vr (w + 39 + 2 * p)), some (vr (w + 23 + b)), some (vi e1), some (vi e2), some (vi e3), some (vi (Int32.ofNat (i + 1))), none, none]) ⟨rfl, rfl, rfl, rfl, rfl, rfl, rfl, rfl, trivial⟩ ?_
      refine K [] _ _ (((FrC.rf.uF (by omega)).uF (by omega)).uA (by omega)) ?_ (by rw [he1]; exact (List.append_nil _).symm)
      rw [List.map_nil, List.append_nil, show xS (x_c1 Y b p fr to e la ho se) = xS Y from by rw [he1]; rfl, he1]
      exact ((hZ.slot (Nat.le_refl _) hD (fun j a hja => p_up_of (by omega))).pf11 hp _).drp (by decide) _
    · exact absurd h159 (by decide)
  · by_cases htk : c_lost (G 6 (w + 23 + b) + 1) (G 5 (w + 23 + b)) = true
    · have htk2 : x_took (x_g Y 4 (xG Y 4 + 1)) b = true := by rw [hb6, hb5] at htk; exact htk
      have he1 : (x_c1 Y b p fr to e la ho se) = x_cd (x_takes (x_g Y 4 (xG Y 4 + 1)) b (to - fr)) p 4 := (if_neg (by omega)).trans (if_pos htk2)
      rw [x_takes_l htk2] at he1
      refine P_aloadn (i := 0) rfl rfl dX6_cutUp_146 ?_
      refine P_aload (i := 8) rfl dX6_cutUp_147 ?_
      refine P_aloadn (i := 2) rfl rfl dX6_cutUp_149 ?_
      refine P_aloadn (i := 3) rfl rfl dX6_cutUp_150 ?_
      refine kX6_266 rfl (s_goOn_lost hw hA hkS hpl hb16b h160 hZ.g.2.2.2.2.1 (by omega) hc300 htk (hZ.d 4 (by decide) (by decide)) hZp.1.2.2.2.2.2.2.2.2.2.1) (by decide) (by first | assumption | exact hw.kw | exact hw.k4 | exact hkb) rfl dX6_cutUp_151 (fun r151 s151 q151 => ?_)
      obtain ⟨rfl, rfl⟩ := q151
      refine P_aload (i := 8) rfl dX6_cutUp_154 ?_
      refine gX6_286 rfl hkS ((p_up_n1 _ _ _ _ (by decide)).trans (p_up_eq _ _ _ _)) dX6_cutUp_156 ?_
      refine P_ifne dX6_cutUp_159 (tgt := 172) rfl (fun h159 => ?_) (fun h159 => ?_)
      · refine P_inN7 dX6_cutUp_172 rfl rfl ?_
        refine P_goto dX6_cutUp_175 (tgt := 45) rfl ?_
        refine P_few (ls2 := [some (vr w), some (vr c0), some (vr (w + 39 + 2 * p)), some (vr (w + 23 + b)), some (vi e1), some (vi e2), some (vi e3), some (vi (Int32.ofNat (i + 1))), none, none]) ⟨rfl, rfl, rfl, rfl, rfl, rfl, rfl, rfl, trivial⟩ ?_
        refine K [] _ _ (((((FrC.rf.uF (by omega)).uF (by omega)).uF (by omega)).uF (by omega)).uA (by omega)) ?_ (by rw [he1]; exact (List.append_nil _).symm)
        rw [List.map_nil, List.append_nil, show xS (x_c1 Y b p fr to e la ho se) = xS Y from by rw [he1]; rfl, he1, hb6, hb7]
        exact ((((hZ.bri hb (by decide) _).bri hb (by decide) _).slot (Nat.le_refl _) hD (fun j a hja => p_up_of (by omega))).pf11 hp _).drp (by decide) _
      · exact absurd h159 (by decide)
    · have htk2 : ¬ x_took (x_g Y 4 (xG Y 4 + 1)) b = true := by rw [hb6, hb5] at htk; exact htk
      have he1 : (x_c1 Y b p fr to e la ho se) = x_s (x_takes (x_g Y 4 (xG Y 4 + 1)) b (to - fr)) (xS (x_takes (x_g Y 4 (xG Y 4 + 1)) b (to - fr)) ++ [x_over (x_takes (x_g Y 4 (xG Y 4 + 1)) b (to - fr)) b (Int32.ofNat p, fr, to - fr, if to = e then la else 0, ho, se, xG Y 0, -6)]) := (if_neg (by omega)).trans (if_neg htk2)
      refine P_aloadn (i := 0) rfl rfl dX6_cutUp_146 ?_
      refine P_aload (i := 8) rfl dX6_cutUp_147 ?_
      refine P_aloadn (i := 2) rfl rfl dX6_cutUp_149 ?_
      refine P_aloadn (i := 3) rfl rfl dX6_cutUp_150 ?_
      refine kX6_266 rfl (s_goOn_over hw hA hkS hpl hb16b h160 hZ.g.2.2.2.2.1 (by omega) hc300 htk h162 h163 hZ.g.1) (by decide) (by first | assumption | exact hw.kw | exact hw.k4 | exact hkb) rfl dX6_cutUp_151 (fun r151 s151 q151 => ?_)
      obtain ⟨rfl, rfl⟩ := q151
      refine P_aload (i := 8) rfl dX6_cutUp_154 ?_
      refine gX6_286 rfl hkS ((p_up_n1 _ _ _ _ (by decide)).trans (p_up_eq _ _ _ _)) dX6_cutUp_156 ?_
      refine P_ifne dX6_cutUp_159 (tgt := 172) rfl (fun h159 => ?_) (fun h159 => ?_)
      · exact absurd rfl h159
      · refine P_aloadn (i := 0) rfl rfl dX6_cutUp_162 ?_
        refine P_dup rfl dX6_cutUp_163 ?_
        refine gX6_56 rfl (by first | assumption | exact hw.kw | exact hw.k4 | exact hkb) ((p_up_n1 _ _ _ _ (by decide)).trans ((p_up_n1 _ _ _ _ (by decide)).trans ((p_up_n1 _ _ _ _ (by decide)).trans ((p_up_n1 _ _ _ _ (by decide)).trans ((p_up_n1 _ _ _ _ (by decide)).trans ((p_up_n1 _ _ _ _ (by decide)).trans ((p_up_n1 _ _ _ _ (by decide)).trans hZ.g.2.2.2.1))))))) dX6_cutUp_164 ?_
        refine P_iconst (v := 1) rfl dX6_cutUp_167 ?_
        refine P_iadd dX6_cutUp_168 ?_
        rw [show Int32.ofNat D.length + 1 = Int32.ofNat (D.length + 1) from n_add _ 1]
        refine uX6_56 rfl (by first | assumption | exact hw.kw | exact hw.k4 | exact hkb) dX6_cutUp_169 ?_
        refine P_inN7 dX6_cutUp_172 rfl rfl ?_
        refine P_goto dX6_cutUp_175 (tgt := 45) rfl ?_
        refine P_few (ls2 := [some (vr w), some (vr c0), some (vr (w + 39 + 2 * p)), some (vr (w + 23 + b)), some (vi e1), some (vi e2), some (vi e3), some (vi (Int32.ofNat (i + 1))), none, none]) ⟨rfl, rfl, rfl, rfl, rfl, rfl, rfl, rfl, trivial⟩ ?_
        have hSLn : SL (p_up (p_up (p_up (p_up (p_up (p_up (p_up G 6 (w + 23 + b) (G 6 (w + 23 + b) + 1)) 8 (w + 23 + b) (G 8 (w + 23 + b) + ((to - fr) + 8))) 163 (sa D.length) (hop - 1)) 166 (sa D.length) (G 1 (w + 23 + b))) 167 (sa D.length) (xG Y 0 + c_time (G 3 (w + 23 + b)) (G 4 (w + 23 + b)) (to - fr))) 168 (sa D.length) 0) 200 w (Int32.ofNat ((xS Y).length + 1))) (sa D.length) ((Int32.ofNat p, fr, to - fr, lz, ho, se, xG Y 0 + c_time (xB Y b 3) (xB Y b 4) (to - fr), xB Y b 1), false).1 := ⟨(p_up_n1 _ _ _ _ (by decide)).trans ((p_up_n1 _ _ _ _ (by decide)).trans ((p_up_n1 _ _ _ _ (by decide)).trans ((p_up_n1 _ _ _ _ (by decide)).trans ((p_up_n1 _ _ _ _ (by decide)).trans ((p_up_n1 _ _ _ _ (by decide)).trans ((p_up_n1 _ _ _ _ (by decide)).trans (h160))))))), (p_up_n1 _ _ _ _ (by decide)).trans ((p_up_n1 _ _ _ _ (by decide)).trans ((p_up_n1 _ _ _ _ (by decide)).trans ((p_up_n1 _ _ _ _ (by decide)).trans ((p_up_n1 _ _ _ _ (by decide)).trans ((p_up_n1 _ _ _ _ (by decide)).trans ((p_up_n1 _ _ _ _ (by decide)).trans (h161))))))), (p_up_n1 _ _ _ _ (by decide)).trans ((p_up_n1 _ _ _ _ (by decide)).trans ((p_up_n1 _ _ _ _ (by decide)).trans ((p_up_n1 _ _ _ _ (by decide)).trans ((p_up_n1 _ _ _ _ (by decide)).trans ((p_up_n1 _ _ _ _ (by decide)).trans ((p_up_n1 _ _ _ _ (by decide)).trans (h162))))))), (p_up_n1 _ _ _ _ (by decide)).trans ((p_up_n1 _ _ _ _ (by decide)).trans ((p_up_n1 _ _ _ _ (by decide)).trans ((p_up_n1 _ _ _ _ (by decide)).trans ((p_up_n1 _ _ _ _ (by decide)).trans ((p_up_n1 _ _ _ _ (by decide)).trans ((p_up_n1 _ _ _ _ (by decide)).trans (h165))))))), (p_up_n1 _ _ _ _ (by decide)).trans ((p_up_n1 _ _ _ _ (by decide)).trans ((p_up_n1 _ _ _ _ (by decide)).trans ((p_up_n1 _ _ _ _ (by decide)).trans ((p_up_eq _ _ _ _).trans hho)))), (p_up_n1 _ _ _ _ (by decide)).trans ((p_up_n1 _ _ _ _ (by decide)).trans ((p_up_n1 _ _ _ _ (by decide)).trans ((p_up_n1 _ _ _ _ (by decide)).trans ((p_up_n1 _ _ _ _ (by decide)).trans ((p_up_n1 _ _ _ _ (by decide)).trans ((p_up_n1 _ _ _ _ (by decide)).trans (h164))))))), (p_up_n1 _ _ _ _ (by decide)).trans ((p_up_n1 _ _ _ _ (by decide)).trans ((p_up_eq _ _ _ _).trans (by rw [hb3, hb4]))), (p_up_n1 _ _ _ _ (by decide)).trans ((p_up_n1 _ _ _ _ (by decide)).trans ((p_up_n1 _ _ _ _ (by decide)).trans ((p_up_eq _ _ _ _).trans hb1)))⟩
        have hcw0 := (((hZ.bri hb (show 6 < 9 by decide) (G 6 (w + 23 + b) + 1)).bri hb (show 8 < 9 by decide) (G 8 (w + 23 + b) + ((to - fr) + 8))).slot (F2 := p_up (p_up (p_up (p_up (p_up (p_up G 6 (w + 23 + b) (G 6 (w + 23 + b) + 1)) 8 (w + 23 + b) (G 8 (w + 23 + b) + ((to - fr) + 8))) 163 (sa D.length) (hop - 1)) 166 (sa D.length) (G 1 (w + 23 + b))) 167 (sa D.length) (xG Y 0 + c_time (G 3 (w + 23 + b)) (G 4 (w + 23 + b)) (to - fr))) 168 (sa D.length) 0) (Nat.le_refl _) hD (fun j a hja => (p_up_of (by omega)).trans ((p_up_of (by omega)).trans ((p_up_of (by omega)).trans (p_up_of (by omega)))))).u ((xS Y).length + 1)
        have hcw1 := hcw0.add (σ := ((Int32.ofNat p, fr, to - fr, lz, ho, se, xG Y 0 + c_time (xB Y b 3) (xB Y b 4) (to - fr), xB Y b 1), false)) hD hSLn ((p_up_n1 _ _ _ _ (by decide)).trans (p_up_eq _ _ _ _))
        have htau : x_over (x_takes (x_g Y 4 (xG Y 4 + 1)) b (to - fr)) b (Int32.ofNat p, fr, to - fr, if to = e then la else 0, ho, se, xG Y 0, -6) = (Int32.ofNat p, fr, to - fr, lz, ho, se, xG Y 0 + c_time (xB Y b 3) (xB Y b 4) (to - fr), xB Y b 1) := by
          obtain ⟨q1, q2, q3, q4, q5, q6, q7, q8⟩ := x_takes_same (x_g Y 4 (xG Y 4 + 1)) b (to - fr)
          unfold x_over
          dsimp only
          rw [q8 b 3 (by decide), q8 b 4 (by decide), q8 b 1 (by decide), q1, ← hlz, c_time_eq hpace]
          rfl
        rw [htau] at he1
        have hxs : xS (x_c1 Y b p fr to e la ho se) = xS Y ++ [(Int32.ofNat p, fr, to - fr, lz, ho, se, xG Y 0 + c_time (xB Y b 3) (xB Y b 4) (to - fr), xB Y b 1)] := by
          rw [he1]
          show xS (x_takes (x_g Y 4 (xG Y 4 + 1)) b (to - fr)) ++ [(Int32.ofNat p, fr, to - fr, lz, ho, se, xG Y 0 + c_time (xB Y b 3) (xB Y b 4) (to - fr), xB Y b 1)] = _
          rw [(x_takes_same (x_g Y 4 (xG Y 4 + 1)) b (to - fr)).2.2.2.2.1]
          rfl
        refine K [(Int32.ofNat p, fr, to - fr, lz, ho, se, xG Y 0 + c_time (xB Y b 3) (xB Y b 4) (to - fr), xB Y b 1)] _ _ ((((((((FrC.rf.uF (by omega)).uF (by omega)).uF (by omega)).uF (by omega)).uF (by omega)).uF (by omega)).uF (by omega)).uF (by omega)) ?_ hxs
        rw [hxs, show (xS Y ++ [(Int32.ofNat p, fr, to - fr, lz, ho, se, xG Y 0 + c_time (xB Y b 3) (xB Y b 4) (to - fr), xB Y b 1)]).length = (xS Y).length + 1 from by rw [List.length_append]; rfl, he1, x_takes_o htk2]
        rw [hb6, hb8] at hcw1 ⊢
        exact hcw1.xs _
end Cls14b
section Cls14c
variable {g : PG} {L : PL} {FI AI : Nat → Nat → Int32} {AL : Nat → Nat → Int64} {AR : Nat → Nat → Option Nat} {w : Nat} {X : XW} {C : List XC} {U : Nat} {sa : Nat → Nat} {M : Nat} {s k b : Nat}
theorem x_c1_B {Y : XW} {b p : Nat} {fr to e la ho se : Int32} {j : Nat} (hj : j < 6) : xB (x_c1 Y b p fr to e la ho se) b j = xB Y b j := by
  unfold x_c1
  split
  · rfl
  · split
    · exact (x_takes_same _ _ _).2.2.2.2.2.2.2 b j hj
    · exact (x_takes_same _ _ _).2.2.2.2.2.2.2 b j hj
theorem s_cutUp (h : CW L FI AI AL AR w X C ((xS X).length - 1) sa) (hI : XI M X) (hMM : M < 100000000) (hs : s < (xS X).length) (hk : k < C.length) (hkC : C.getD k xc0 = ((x_at X s), false)) (hb : b < xb X) (hh0 : ¬ (x_at X s).2.2.2.2.1 = 0) (hlong : xB X b 2 < (x_at X s).2.2.1 + 8) (hdead : C.length ≤ 299 + (xS X).length) : Sp g 3 iX6_cutUp [vr w, vr (sa k), vr (w + 39 + 2 * nn (x_at X s).1), vr (w + 23 + b)] (L, FI, AI, AL, AR) (0, 0) (fun r0 s0 => ∃ F2 A2 l, s0 = (L, F2, A2, AL, AR) ∧ r0 = none ∧ FrC w FI AI AL AR F2 A2 AL AR ∧ CW L F2 A2 AL AR w (x_cutup X s b) (C.set k ((x_at X s), true) ++ l.map (fun τ => (τ, false))) (xS (x_cutup X s b)).length sa ∧ xS (x_cutup X s b) = (xS X).eraseIdx s ++ l) := by
  refine Sp.of (ls := [some (vr w), some (vr (sa k)), some (vr (w + 39 + 2 * nn (x_at X s).1)), some (vr (w + 23 + b)), none, none, none, none, none, none]) (by decide +kernel) rfl rfl ?_
  have hw := h.wf
  have hA := h.wa
  have hb16 := h.b16
  have hp40 := h.p40
  have hσ := hI.2.2.2.2.1 _ (x_at_mem hs)
  have hp : nn (x_at X s).1 < xp X := hσ.1.nn
  have hpl : nn (x_at X s).1 < 40 := by omega
  have hσp : (x_at X s).1 = Int32.ofNat (nn (x_at X s).1) := hσ.1.eq
  have hc601 := h.c601
  have hs300 := hI.2.2.2.2.2.2.2
  have hsl := hA.lo (i := k) (by omega)
  have hkk := hw.ks hA (i := k) (by omega)
  have hb16b : b < 16 := by omega
  have hkb := hw.kB hb16b
  have hrm := x_room hI hb
  obtain ⟨rN, hrN⟩ : ∃ r, r = nn (xB X b 2) := ⟨_, rfl⟩
  obtain ⟨oN, hoNe⟩ : ∃ r, r = nn (x_at X s).2.1 := ⟨_, rfl⟩
  obtain ⟨lN, hlNe⟩ : ∃ r, r = nn (x_at X s).2.2.1 := ⟨_, rfl⟩
  rw [← hrN] at hrm
  have ho1 := hσ.2.1; have ho2 := hσ.2.2.1; have ho3 := hσ.2.2.2.1
  have hoc := i_cn (x_at X s).2.1
  have hlc := i_cn (x_at X s).2.2.1
  have hoI : (oN : Int) = (x_at X s).2.1.toInt := by rw [hoNe]; show ((x_at X s).2.1.toNatClampNeg : Int) = _; omega
  have hlI : (lN : Int) = (x_at X s).2.2.1.toInt := by rw [hlNe]; show ((x_at X s).2.2.1.toNatClampNeg : Int) = _; omega
  have hoN : (x_at X s).2.1 = Int32.ofNat oN := i_eq.mpr (by rw [n_int (by omega)]; omega)
  have hlN : (x_at X s).2.2.1 = Int32.ofNat lN := i_eq.mpr (by rw [n_int (by omega)]; omega)
  have hr2 : xB X b 2 = Int32.ofNat rN := by rw [hrN]; exact (show ib (xB X b 2) 1501 from ⟨by have := (hI.2.2.1 b hb).2.2.1; omega, by have := (hI.2.2.1 b hb).2.2.1; omega⟩).eq
  have hlg2 : rN < lN + 8 := by
    rw [hr2, hlN, show Int32.ofNat lN + 8 = Int32.ofNat (lN + 8) from n_add lN 8] at hlong
    exact (n_lt (by omega) (by omega)).mp hlong
  have h8 := w_e_8 rN hrm.1
  have hfN : (lN - 1) / w_e rN ≤ 688 := by
    refine Nat.le_trans (Nat.div_le_div_left (show 8 ≤ w_e rN by omega) (by decide)) ?_
    omega
  have hho : ib ((x_at X s).2.2.2.2.1 - 1) 21 := by
    have h5 := hσ.2.2.2.2.2.1
    have h6 : ¬ (x_at X s).2.2.2.2.1.toInt = 0 := fun hh => hh0 (Int32.toInt_inj.mp hh)
    unfold ib at h5 ⊢
    rw [i_sub]
    simp only [Int32.reduceToInt]
    omega
  have hcs := h.s k hk
  unfold CS1 at hcs
  rw [hkC] at hcs
  have hSL : SL FI (sa k) (x_at X s) := hcs.1
  have hbF : ∀ j, j < 9 → FI j (w + 23 + b) = xB X b j := (h.b b hb16b).1 hb
  have loop : ∀ n i : Nat, i + n = (lN - 1) / w_e rN + 1 → ∀ (Y : XW) (l : List XS) (F A : Nat → Nat → Int32), FrC w FI AI AL AR F A AL AR → CW L F A AL AR w Y (C.set k ((x_at X s), true) ++ l.map (fun τ => (τ, false))) (xS Y).length sa → XI M Y → xS Y = (xS X).eraseIdx s ++ l → xb Y = xb X → xp Y = xp X → x_cutup X s b = x_cut Y b (nn (x_at X s).1) (Int32.ofNat (w_e rN)) (Int32.ofNat (oN + lN)) (x_at X s).2.2.2.1 ((x_at X s).2.2.2.2.1 - 1) (x_at X s).2.2.2.2.2.1 (701 - i) (if i ≤ (lN - 1) / w_e rN then Int32.ofNat (oN + i * w_e rN) else Int32.ofNat (oN + lN)) → (∀ j, j < 6 → xB Y b j = xB X b j) → P g 3 iX6_cutUp 45 [some (vr w), some (vr (sa k)), some (vr (w + 39 + 2 * nn (x_at X s).1)), some (vr (w + 23 + b)), some (vi (Int32.ofNat (oN + lN))), some (vi (Int32.ofNat (w_e rN))), some (vi (Int32.ofNat ((lN - 1) / w_e rN))), some (vi (Int32.ofNat i)), none, none] [] (L, F, A, AL, AR) (0, 0) (fun r0 s0 => ∃ F2 A2 l, s0 = (L, F2, A2, AL, AR) ∧ r0 = none ∧ FrC w FI AI AL AR F2 A2 AL AR ∧ CW L F2 A2 AL AR w (x_cutup X s b) (C.set k ((x_at X s), true) ++ l.map (fun τ => (τ, false))) (xS (x_cutup X s b)).length sa ∧ xS (x_cutup X s b) = (xS X).eraseIdx s ++ l) := by
    intro n
    induction n with
    | zero =>
      intro i hi Y l F A hf hY hIY hS hYb0 hYp0 hcut hB
      refine P_iload (i := 7) rfl dX6_cutUp_45 ?_
      refine P_iload (i := 6) rfl dX6_cutUp_47 ?_
      refine P_icmpgt dX6_cutUp_49 (tgt := 178) rfl (fun h49 => ?_) (fun h49 => absurd ((n_lt (a := (lN - 1) / w_e rN) (b := i) (by omega) (by omega)).mpr (by omega)) h49)
      refine P_return rfl dX6_cutUp_178 ?_
      rw [if_neg (show ¬ i ≤ (lN - 1) / w_e rN by omega), x_cut_x (fun hh => Int32.lt_irrefl hh)] at hcut
      rw [hcut]
      exact ⟨F, A, l, rfl, rfl, hf, hY, hS⟩
    | succ n ih =>
      intro i hi Y l F A hf hY hIY hS hYb0 hYp0 hcut hB
      have hYb0' : b < xb Y := by rw [hYb0]; exact hb
      have hmi : i * w_e rN ≤ lN - 1 := Nat.le_trans (Nat.mul_le_mul_right _ (show i ≤ (lN - 1) / w_e rN by omega)) (Nat.div_mul_le_self _ _)
      rw [if_pos (show i ≤ (lN - 1) / w_e rN by omega)] at hcut
      have hDl : (C.set k ((x_at X s), true) ++ l.map (fun τ => (τ, false))).length = C.length + l.length := by rw [List.length_append, List.length_set, List.length_map]
      have hSl : (xS Y).length = (xS X).length - 1 + l.length := by rw [hS, List.length_append, List.length_eraseIdx, if_pos hs]
      have h300 := hIY.2.2.2.2.2.2.2
      have hsli := hA.lo (i := (C.set k ((x_at X s), true) ++ l.map (fun τ => (τ, false))).length) (by omega)
      have hkS := hw.ks hA (i := (C.set k ((x_at X s), true) ++ l.map (fun τ => (τ, false))).length) (by omega)
      have hne := hA.ne (i := (C.set k ((x_at X s), true) ++ l.map (fun τ => (τ, false))).length) (j := k) (by omega) (by omega) (by omega)
      have hck := hY.s k (by omega)
      unfold CS1 at hck
      rw [xc_setD hk] at hck
      have hSk : SL F (sa k) (x_at X s) := hck.1
      have hz165 : F 165 (sa k) = 0 ∨ F 165 (sa k) = 1 := by rw [hSk.2.2.2.1]; exact hσ.2.2.2.2.1
      have hz168 : F 168 (sa k) = 0 ∨ F 168 (sa k) = 1 := Or.inr hck.2
      refine P_iload (i := 7) rfl dX6_cutUp_45 ?_
      refine P_iload (i := 6) rfl dX6_cutUp_47 ?_
      refine P_icmpgt dX6_cutUp_49 (tgt := 178) rfl (fun h49 => absurd h49 (fun h9 => by have h8 := (n_lt (a := (lN - 1) / w_e rN) (b := i) (by omega) (by omega)).mp h9; omega)) (fun h49 => ?_)
      refine P_aloadn (i := 0) rfl rfl dX6_cutUp_52 ?_
      refine gX6_56 rfl (by first | assumption | exact hw.kw | exact hw.k4 | exact hkb) hY.g.2.2.2.1 dX6_cutUp_53 ?_
      refine P_aloadn (i := 0) rfl rfl dX6_cutUp_56 ?_
      refine gX6_31 rfl (by first | assumption | exact hw.kw | exact hw.k4 | exact hkb) hw.r198 dX6_cutUp_57 ?_
      refine P_lenN (t := 27) (by decide) (by first | assumption | exact hw.kw | exact hw.k4 | exact hkb) (by rw [hw.l4]) dX6_cutUp_60 ?_
      refine P_icmpge dX6_cutUp_61 (tgt := 178) rfl (fun h61 => absurd h61 (fun h8 => by have h7 := (n_le (a := 601) (b := (C.set k ((x_at X s), true) ++ l.map (fun τ => (τ, false))).length) (by omega) (by omega)).mp h8; omega)) (fun h61 => ?_)
      refine P_aloadn (i := 0) rfl rfl dX6_cutUp_64 ?_
      refine gX6_31 rfl (by first | assumption | exact hw.kw | exact hw.k4 | exact hkb) hw.r198 dX6_cutUp_65 ?_
      refine P_aloadn (i := 0) rfl rfl dX6_cutUp_68 ?_
      refine gX6_56 rfl (by first | assumption | exact hw.kw | exact hw.k4 | exact hkb) hY.g.2.2.2.1 dX6_cutUp_69 ?_
      refine P_aaN (t := 27) (j := (C.set k ((x_at X s), true) ++ l.map (fun τ => (τ, false))).length) (by decide) (by first | assumption | exact hw.kw | exact hw.k4 | exact hkb) rfl (by omega) (by rw [hw.l4]; omega) (hA.s (by omega)) dX6_cutUp_72 ?_
      refine P_as8 (Or.inr dX6_cutUp_73) rfl rfl ?_
      refine P_aloadn (i := 1) rfl rfl dX6_cutUp_75 ?_
      refine gX6_277 rfl hkk (hSk.2.1.trans hoN) dX6_cutUp_76 ?_
      refine P_iload (i := 7) rfl dX6_cutUp_79 ?_
      refine P_iload (i := 5) rfl dX6_cutUp_81 ?_
      refine P_imul dX6_cutUp_83 ?_
      refine P_iadd dX6_cutUp_84 ?_
      rw [n_mul, n_add]
      refine P_is9 (Or.inr dX6_cutUp_85) rfl rfl ?_
      refine P_aload (i := 8) rfl dX6_cutUp_87 ?_
      refine P_aloadn (i := 1) rfl rfl dX6_cutUp_89 ?_
      refine kX6_87 rfl (s_S_copy hkS hkk hz165 hz168) (by decide) hkS rfl dX6_cutUp_90 (fun r90 s90 q90 => ?_)
      obtain ⟨rfl, rfl⟩ := q90
      have J119 : ∀ (ln : Nat) (la : Int32), 1 ≤ ln → oN + i * w_e rN + ln ≤ (oN + lN) → Int32.ofNat (oN + i * w_e rN + ln) = (if (Int32.ofNat (oN + i * w_e rN)) + Int32.ofNat (w_e rN) < Int32.ofNat (oN + lN) then (Int32.ofNat (oN + i * w_e rN)) + Int32.ofNat (w_e rN) else Int32.ofNat (oN + lN)) → la = (if Int32.ofNat (oN + i * w_e rN + ln) = Int32.ofNat (oN + lN) then (x_at X s).2.2.2.1 else 0) → Int32.ofNat (oN + i * w_e rN + ln) = (if i + 1 ≤ (lN - 1) / w_e rN then Int32.ofNat (oN + (i + 1) * w_e rN) else Int32.ofNat (oN + lN)) → P g 3 iX6_cutUp 133 [some (vr w), some (vr (sa k)), some (vr (w + 39 + 2 * nn (x_at X s).1)), some (vr (w + 23 + b)), some (vi (Int32.ofNat (oN + lN))), some (vi (Int32.ofNat (w_e rN))), some (vi (Int32.ofNat ((lN - 1) / w_e rN))), some (vi (Int32.ofNat i)), some (vr (sa (C.set k ((x_at X s), true) ++ l.map (fun τ => (τ, false))).length)), some (vi (Int32.ofNat (oN + i * w_e rN)))] [vi la, vi (Int32.ofNat ln), vi (Int32.ofNat (oN + i * w_e rN)), vr (sa (C.set k ((x_at X s), true) ++ l.map (fun τ => (τ, false))).length)] (L, cpF F 160 169 (sa (C.set k ((x_at X s), true) ++ l.map (fun τ => (τ, false))).length) (sa k), A, AL, AR) (0, 0) (fun r0 s0 => ∃ F2 A2 l, s0 = (L, F2, A2, AL, AR) ∧ r0 = none ∧ FrC w FI AI AL AR F2 A2 AL AR ∧ CW L F2 A2 AL AR w (x_cutup X s b) (C.set k ((x_at X s), true) ++ l.map (fun τ => (τ, false))) (xS (x_cutup X s b)).length sa ∧ xS (x_cutup X s b) = (xS X).eraseIdx s ++ l) := by
        intro ln la hln1 hln2 hto hlae hnx
        have hla01 : la = 0 ∨ la = 1 := by
          rw [hlae]
          split
          · exact hσ.2.2.2.2.1
          · exact Or.inl rfl
        have hlt : (Int32.ofNat (oN + i * w_e rN)) < Int32.ofNat (oN + lN) := (n_lt (by omega) (by omega)).mpr (by omega)
        have hlne : (Int32.ofNat (oN + i * w_e rN + ln) - Int32.ofNat (oN + i * w_e rN)) = (Int32.ofNat ln) := by
          rw [n_sub (by omega) (by omega)]
          congr 1
          omega
        rw [show 701 - i = (700 - i) + 1 by omega, x_cut_s (to := Int32.ofNat (oN + i * w_e rN + ln)) hlt hto] at hcut
        rw [show 700 - i = 701 - (i + 1) by omega] at hcut
        generalize hX1g : (x_c1 Y b (nn (x_at X s).1) (Int32.ofNat (oN + i * w_e rN)) (Int32.ofNat (oN + i * w_e rN + ln)) (Int32.ofNat (oN + lN)) (x_at X s).2.2.2.1 ((x_at X s).2.2.2.2.1 - 1) (x_at X s).2.2.2.2.2.1) = X1g at hcut
        rw [hnx] at hcut
        subst hX1g
        have hone := x_cut_one hIY hMM (b := b) (p := (nn (x_at X s).1)) (from_ := (Int32.ofNat (oN + i * w_e rN))) (to := Int32.ofNat (oN + i * w_e rN + ln)) (last := if Int32.ofNat (oN + i * w_e rN + ln) = Int32.ofNat (oN + lN) then (x_at X s).2.2.2.1 else 0) (hops := (x_at X s).2.2.2.2.1 - 1) (seed := (x_at X s).2.2.2.2.2.1) (by rw [hYb0]; exact hb) (by rw [hYp0]; exact hp) (by rw [n_int (by omega)]; omega) (by rw [n_int (by omega), n_int (by omega)]; omega) (by rw [n_int (by omega)]; omega) (by rw [← hlae]; exact hla01) hho hσ.2.2.2.2.2.2.1 (x_c1 Y b (nn (x_at X s).1) (Int32.ofNat (oN + i * w_e rN)) (Int32.ofNat (oN + i * w_e rN + ln)) (Int32.ofNat (oN + lN)) (x_at X s).2.2.2.1 ((x_at X s).2.2.2.2.1 - 1) (x_at X s).2.2.2.2.2.1) rfl
        have hone6 : ∀ j, j < 6 → xB (x_c1 Y b (nn (x_at X s).1) (Int32.ofNat (oN + i * w_e rN)) (Int32.ofNat (oN + i * w_e rN + ln)) (Int32.ofNat (oN + lN)) (x_at X s).2.2.2.1 ((x_at X s).2.2.2.2.1 - 1) (x_at X s).2.2.2.2.2.1) b j = xB Y b j := fun j hj => x_c1_B hj
        refine kX6_127 rfl (s_span hkS hla01) (by decide) hkS rfl dX6_cutUp_133 (fun r133 s133 q133 => ?_)
        obtain ⟨rfl, rfl⟩ := q133
        refine P_aloadn (i := 0) rfl rfl dX6_cutUp_136 ?_
        refine P_dup rfl dX6_cutUp_137 ?_
        refine gX6_62 rfl (by first | assumption | exact hw.kw | exact hw.k4 | exact hkb) ((p_up_n1 _ _ _ _ (by decide)).trans ((p_up_n1 _ _ _ _ (by decide)).trans ((p_up_n1 _ _ _ _ (by decide)).trans ((cpF_j (by decide)).trans hY.g.2.2.2.2.2.1)))) dX6_cutUp_138 ?_
        refine P_iconst (v := 1) rfl dX6_cutUp_141 ?_
        refine P_iadd dX6_cutUp_142 ?_
        refine uX6_62 rfl (by first | assumption | exact hw.kw | exact hw.k4 | exact hkb) dX6_cutUp_143 ?_
        have hfc : FrC w F A AL AR (cpF F 160 169 (sa (C.set k ((x_at X s), true) ++ l.map (fun τ => (τ, false))).length) (sa k)) A AL AR := fun a ha => ⟨fun j => cpF_c (by omega), rfl, rfl, rfl⟩
        have hZ : CW L (p_up (p_up (p_up (p_up (cpF F 160 169 (sa (C.set k ((x_at X s), true) ++ l.map (fun τ => (τ, false))).length) (sa k)) 161 (sa (C.set k ((x_at X s), true) ++ l.map (fun τ => (τ, false))).length) (Int32.ofNat (oN + i * w_e rN))) 162 (sa (C.set k ((x_at X s), true) ++ l.map (fun τ => (τ, false))).length) (Int32.ofNat ln)) 165 (sa (C.set k ((x_at X s), true) ++ l.map (fun τ => (τ, false))).length) la) 201 w (xG Y 4 + 1)) A AL AR w (x_g Y 4 (xG Y 4 + 1)) (C.set k ((x_at X s), true) ++ l.map (fun τ => (τ, false))) (xS Y).length sa := (hY.slot (F2 := p_up (p_up (p_up (cpF F 160 169 (sa (C.set k ((x_at X s), true) ++ l.map (fun τ => (τ, false))).length) (sa k)) 161 (sa (C.set k ((x_at X s), true) ++ l.map (fun τ => (τ, false))).length) (Int32.ofNat (oN + i * w_e rN))) 162 (sa (C.set k ((x_at X s), true) ++ l.map (fun τ => (τ, false))).length) (Int32.ofNat ln)) 165 (sa (C.set k ((x_at X s), true) ++ l.map (fun τ => (τ, false))).length) la) (Nat.le_refl _) (by omega) (fun j a hja => (p_up_of (by omega)).trans ((p_up_of (by omega)).trans ((p_up_of (by omega)).trans (if_neg (by omega)))))).g4 _
        have hZp := (hZ.p (nn (x_at X s).1) hpl).1 (by show (nn (x_at X s).1) < xp Y; rw [hYp0]; exact hp)
        have hpY0 : (nn (x_at X s).1) < xp (x_g Y 4 (xG Y 4 + 1)) := by show (nn (x_at X s).1) < xp Y; rw [hYp0]; exact hp
        have h1600 : (p_up (p_up (p_up (p_up (cpF F 160 169 (sa (C.set k ((x_at X s), true) ++ l.map (fun τ => (τ, false))).length) (sa k)) 161 (sa (C.set k ((x_at X s), true) ++ l.map (fun τ => (τ, false))).length) (Int32.ofNat (oN + i * w_e rN))) 162 (sa (C.set k ((x_at X s), true) ++ l.map (fun τ => (τ, false))).length) (Int32.ofNat ln)) 165 (sa (C.set k ((x_at X s), true) ++ l.map (fun τ => (τ, false))).length) la) 201 w (xG Y 4 + 1)) 160 (sa (C.set k ((x_at X s), true) ++ l.map (fun τ => (τ, false))).length) = Int32.ofNat (nn (x_at X s).1) := (p_up_n1 _ _ _ _ (by decide)).trans ((p_up_n1 _ _ _ _ (by decide)).trans ((p_up_n1 _ _ _ _ (by decide)).trans ((p_up_n1 _ _ _ _ (by decide)).trans ((cpF_a (by decide)).trans (hSk.1.trans hσp)))))
        have h1620 : (p_up (p_up (p_up (p_up (cpF F 160 169 (sa (C.set k ((x_at X s), true) ++ l.map (fun τ => (τ, false))).length) (sa k)) 161 (sa (C.set k ((x_at X s), true) ++ l.map (fun τ => (τ, false))).length) (Int32.ofNat (oN + i * w_e rN))) 162 (sa (C.set k ((x_at X s), true) ++ l.map (fun τ => (τ, false))).length) (Int32.ofNat ln)) 165 (sa (C.set k ((x_at X s), true) ++ l.map (fun τ => (τ, false))).length) la) 201 w (xG Y 4 + 1)) 162 (sa (C.set k ((x_at X s), true) ++ l.map (fun τ => (τ, false))).length) = (Int32.ofNat ln) := (p_up_n1 _ _ _ _ (by decide)).trans ((p_up_n1 _ _ _ _ (by decide)).trans (p_up_eq _ _ _ _))
        have h1630 : (p_up (p_up (p_up (p_up (cpF F 160 169 (sa (C.set k ((x_at X s), true) ++ l.map (fun τ => (τ, false))).length) (sa k)) 161 (sa (C.set k ((x_at X s), true) ++ l.map (fun τ => (τ, false))).length) (Int32.ofNat (oN + i * w_e rN))) 162 (sa (C.set k ((x_at X s), true) ++ l.map (fun τ => (τ, false))).length) (Int32.ofNat ln)) 165 (sa (C.set k ((x_at X s), true) ++ l.map (fun τ => (τ, false))).length) la) 201 w (xG Y 4 + 1)) 163 (sa (C.set k ((x_at X s), true) ++ l.map (fun τ => (τ, false))).length) = (x_at X s).2.2.2.2.1 := (p_up_n1 _ _ _ _ (by decide)).trans ((p_up_n1 _ _ _ _ (by decide)).trans ((p_up_n1 _ _ _ _ (by decide)).trans ((p_up_n1 _ _ _ _ (by decide)).trans ((cpF_a (by decide)).trans hSk.2.2.2.2.1))))
        have h1610 : (p_up (p_up (p_up (p_up (cpF F 160 169 (sa (C.set k ((x_at X s), true) ++ l.map (fun τ => (τ, false))).length) (sa k)) 161 (sa (C.set k ((x_at X s), true) ++ l.map (fun τ => (τ, false))).length) (Int32.ofNat (oN + i * w_e rN))) 162 (sa (C.set k ((x_at X s), true) ++ l.map (fun τ => (τ, false))).length) (Int32.ofNat ln)) 165 (sa (C.set k ((x_at X s), true) ++ l.map (fun τ => (τ, false))).length) la) 201 w (xG Y 4 + 1)) 161 (sa (C.set k ((x_at X s), true) ++ l.map (fun τ => (τ, false))).length) = (Int32.ofNat (oN + i * w_e rN)) := (p_up_n1 _ _ _ _ (by decide)).trans ((p_up_n1 _ _ _ _ (by decide)).trans ((p_up_n1 _ _ _ _ (by decide)).trans (p_up_eq _ _ _ _)))
        have h1640 : (p_up (p_up (p_up (p_up (cpF F 160 169 (sa (C.set k ((x_at X s), true) ++ l.map (fun τ => (τ, false))).length) (sa k)) 161 (sa (C.set k ((x_at X s), true) ++ l.map (fun τ => (τ, false))).length) (Int32.ofNat (oN + i * w_e rN))) 162 (sa (C.set k ((x_at X s), true) ++ l.map (fun τ => (τ, false))).length) (Int32.ofNat ln)) 165 (sa (C.set k ((x_at X s), true) ++ l.map (fun τ => (τ, false))).length) la) 201 w (xG Y 4 + 1)) 164 (sa (C.set k ((x_at X s), true) ++ l.map (fun τ => (τ, false))).length) = (x_at X s).2.2.2.2.2.1 := (p_up_n1 _ _ _ _ (by decide)).trans ((p_up_n1 _ _ _ _ (by decide)).trans ((p_up_n1 _ _ _ _ (by decide)).trans ((p_up_n1 _ _ _ _ (by decide)).trans ((cpF_a (by decide)).trans hSk.2.2.2.2.2.1))))
        have h1650 : (p_up (p_up (p_up (p_up (cpF F 160 169 (sa (C.set k ((x_at X s), true) ++ l.map (fun τ => (τ, false))).length) (sa k)) 161 (sa (C.set k ((x_at X s), true) ++ l.map (fun τ => (τ, false))).length) (Int32.ofNat (oN + i * w_e rN))) 162 (sa (C.set k ((x_at X s), true) ++ l.map (fun τ => (τ, false))).length) (Int32.ofNat ln)) 165 (sa (C.set k ((x_at X s), true) ++ l.map (fun τ => (τ, false))).length) la) 201 w (xG Y 4 + 1)) 165 (sa (C.set k ((x_at X s), true) ++ l.map (fun τ => (τ, false))).length) = la := (p_up_n1 _ _ _ _ (by decide)).trans (p_up_eq _ _ _ _)
        have hpace : 1 ≤ (xB Y b 4).toInt := by
          rw [hB 4 (by decide)]
          exact (hI.2.2.1 b hb).2.2.2.2.1.1
        refine s_cutGo (Y := Y) (D := (C.set k ((x_at X s), true) ++ l.map (fun τ => (τ, false)))) (fr := (Int32.ofNat (oN + i * w_e rN))) (to := Int32.ofNat (oN + i * w_e rN + ln)) (e := Int32.ofNat (oN + lN)) (la := (x_at X s).2.2.2.1) (ho := (x_at X s).2.2.2.2.1 - 1) hw hA hZ (by omega) (by omega) (by rw [hYp0]; exact hp) hYb0' h1600 h1610 (h1620.trans hlne.symm) h1630 h1640 h1650 hlae rfl hpace (fun l1 F2 A2 hfr hcw hxs => ?_)
        have hDl : (C.set k ((x_at X s), true) ++ l.map (fun τ => (τ, false))) ++ l1.map (fun τ => (τ, false)) = C.set k ((x_at X s), true) ++ (l ++ l1).map (fun τ => (τ, false)) := by rw [List.map_append, ← List.append_assoc]
        rw [hDl] at hcw
        exact ih (i + 1) (by omega) (x_c1 Y b (nn (x_at X s).1) (Int32.ofNat (oN + i * w_e rN)) (Int32.ofNat (oN + i * w_e rN + ln)) (Int32.ofNat (oN + lN)) (x_at X s).2.2.2.1 ((x_at X s).2.2.2.2.1 - 1) (x_at X s).2.2.2.2.2.1) (l ++ l1) F2 A2 ((hf.tr (((((hfc.uF (by omega)).uF (by omega)).uF (by omega)).uF (by omega)))).tr hfr) hcw hone.1 (by rw [hxs, hS, List.append_assoc]) (by rw [hone.2.2.2.1]; exact hYb0) (by rw [hone.2.2.2.2.1]; exact hYp0) hcut (fun j hj => (hone6 j hj).trans (hB j hj))
      have hmul : (i + 1) * w_e rN = i * w_e rN + w_e rN := by rw [Nat.add_mul, Nat.one_mul]
      by_cases hif : i < (lN - 1) / w_e rN
      · have hm2 : (i + 1) * w_e rN ≤ (lN - 1) / w_e rN * w_e rN := Nat.mul_le_mul_right _ hif
        have hm3 := Nat.div_mul_le_self (lN - 1) (w_e rN)
        have hJ := J119 (w_e rN) 0 (by omega) (by omega) (by rw [n_add, if_pos ((n_lt (by omega) (by omega)).mpr (by omega))]) (by rw [if_neg (fun hh => by have := (n_eq (by omega) (by omega)).mp hh; omega)]) (by rw [if_pos (show i + 1 ≤ (lN - 1) / w_e rN by omega), hmul]; congr 1; omega)
        refine P_aload (i := 8) rfl dX6_cutUp_93 ?_
        refine P_iload (i := 9) rfl dX6_cutUp_95 ?_
        refine P_iload (i := 7) rfl dX6_cutUp_97 ?_
        refine P_iload (i := 6) rfl dX6_cutUp_99 ?_
        refine P_icmpge dX6_cutUp_101 (tgt := 109) rfl (fun h101 => absurd h101 (fun h9 => by have h8 := (n_le (a := (lN - 1) / w_e rN) (b := i) (by omega) (by omega)).mp h9; omega)) (fun h101 => ?_)
        refine P_iload (i := 5) rfl dX6_cutUp_104 ?_
        refine P_goto dX6_cutUp_106 (tgt := 114) rfl ?_
        refine P_aloadn (i := 1) rfl rfl dX6_cutUp_114 ?_
        refine gX6_289 rfl hkk ((cpF_c (by omega)).trans hSk.2.2.2.1) dX6_cutUp_115 ?_
        refine P_ifeq dX6_cutUp_118 (tgt := 132) rfl (fun h118 => ?_) (fun h118 => ?_)
        · refine P_iconst (v := 0) rfl dX6_cutUp_132 ?_
          exact hJ
        · refine P_iload (i := 7) rfl dX6_cutUp_121 ?_
          refine P_iload (i := 6) rfl dX6_cutUp_123 ?_
          refine P_icmpne dX6_cutUp_125 (tgt := 132) rfl (fun h125 => ?_) (fun h125 => ?_)
          · refine P_iconst (v := 0) rfl dX6_cutUp_132 ?_
            exact hJ
          · exact absurd ((n_eq (by omega) (by omega)).mp h125) (by omega)
      · have hie : i = (lN - 1) / w_e rN := by omega
        have hm3 := Nat.div_mul_le_self (lN - 1) (w_e rN)
        have hm4 := Nat.lt_div_mul_add (a := lN - 1) (b := w_e rN) (by omega)
        have hm5 : i * w_e rN ≤ lN - 1 := by rw [hie]; exact hm3
        have hm6 : lN - 1 < i * w_e rN + w_e rN := by rw [hie]; exact hm4
        have hJ := J119 (lN - i * w_e rN) (x_at X s).2.2.2.1 (by omega) (by omega) (by rw [n_add, if_neg (fun hh => by have := (n_lt (by omega) (by omega)).mp hh; omega)]; congr 1; omega) (by rw [if_pos (by congr 1; omega)]) (by rw [if_neg (show ¬ i + 1 ≤ (lN - 1) / w_e rN by omega)]; congr 1; omega)
        refine P_aload (i := 8) rfl dX6_cutUp_93 ?_
        refine P_iload (i := 9) rfl dX6_cutUp_95 ?_
        refine P_iload (i := 7) rfl dX6_cutUp_97 ?_
        refine P_iload (i := 6) rfl dX6_cutUp_99 ?_
        refine P_icmpge dX6_cutUp_101 (tgt := 109) rfl (fun h101 => ?_) (fun h101 => absurd ((n_le (a := (lN - 1) / w_e rN) (b := i) (by omega) (by omega)).mpr (by omega)) h101)
        refine P_iload (i := 4) rfl dX6_cutUp_109 ?_
        refine P_iload (i := 9) rfl dX6_cutUp_111 ?_
        refine P_isub dX6_cutUp_113 ?_
        rw [show Int32.ofNat (oN + lN) - (Int32.ofNat (oN + i * w_e rN)) = Int32.ofNat (lN - i * w_e rN) from by rw [n_sub (by omega) (by omega)]; congr 1; omega]
        refine P_aloadn (i := 1) rfl rfl dX6_cutUp_114 ?_
        refine gX6_289 rfl hkk ((cpF_c (by omega)).trans hSk.2.2.2.1) dX6_cutUp_115 ?_
        refine P_ifeq dX6_cutUp_118 (tgt := 132) rfl (fun h118 => ?_) (fun h118 => ?_)
        · refine P_iconst (v := 0) rfl dX6_cutUp_132 ?_
          rw [h118] at hJ
          exact hJ
        · refine P_iload (i := 7) rfl dX6_cutUp_121 ?_
          refine P_iload (i := 6) rfl dX6_cutUp_123 ?_
          refine P_icmpne dX6_cutUp_125 (tgt := 132) rfl (fun h125 => ?_) (fun h125 => ?_)
          · exact absurd (congrArg Int32.ofNat hie) h125
          · refine P_iconst (v := 1) rfl dX6_cutUp_128 ?_
            refine P_goto dX6_cutUp_129 (tgt := 133) rfl ?_
            rw [hσ.2.2.2.2.1.resolve_left h118] at hJ
            exact hJ
  refine P_aloadn (i := 1) rfl rfl dX6_cutUp_0 ?_
  refine gX6_277 rfl hkk (hSL.2.1.trans hoN) dX6_cutUp_1 ?_
  refine P_aloadn (i := 1) rfl rfl dX6_cutUp_4 ?_
  refine gX6_260 rfl hkk (hSL.2.2.1.trans hlN) dX6_cutUp_5 ?_
  refine P_iadd dX6_cutUp_8 ?_
  rw [n_add]
  refine P_is4 (Or.inr dX6_cutUp_9) rfl rfl ?_
  refine P_aloadn (i := 3) rfl rfl dX6_cutUp_11 ?_
  refine kX6_280 rfl (s_longestPiece hkb) (by decide) hkb rfl dX6_cutUp_12 (fun r12 s12 q12 => ?_)
  obtain ⟨rfl, rfl⟩ := q12
  rw [hbF 2 (by decide), hr2, c_piece_eq hrm.1 hrm.2.1]
  refine P_is5 (Or.inr dX6_cutUp_15) rfl rfl ?_
  refine P_aloadn (i := 3) rfl rfl dX6_cutUp_17 ?_
  refine P_aloadn (i := 1) rfl rfl dX6_cutUp_18 ?_
  refine gX6_260 rfl hkk (hSL.2.2.1.trans hlN) dX6_cutUp_19 ?_
  refine kX6_283 rfl (s_fullPieces hkb) (by decide) hkb rfl dX6_cutUp_22 (fun r22 s22 q22 => ?_)
  obtain ⟨rfl, rfl⟩ := q22
  rw [hbF 2 (by decide), hr2, c_full_eq hrm.1 hrm.2.1 (by omega) (by omega) hlg2]
  refine P_is6 (Or.inr dX6_cutUp_25) rfl rfl ?_
  refine P_aloadn (i := 0) rfl rfl dX6_cutUp_27 ?_
  refine P_dup rfl dX6_cutUp_28 ?_
  refine gX6_65 rfl (by first | assumption | exact hw.kw | exact hw.k4 | exact hkb) h.g.2.2.2.2.2.2.1 dX6_cutUp_29 ?_
  refine P_iconst (v := 1) rfl dX6_cutUp_32 ?_
  refine P_iadd dX6_cutUp_33 ?_
  refine uX6_65 rfl (by first | assumption | exact hw.kw | exact hw.k4 | exact hkb) dX6_cutUp_34 ?_
  refine P_aloadn (i := 1) rfl rfl dX6_cutUp_37 ?_
  refine P_iconst (v := 1) rfl dX6_cutUp_38 ?_
  refine uX6_286 rfl (by first | exact Or.inl rfl | exact Or.inr rfl | assumption) hkk dX6_cutUp_39 ?_
  refine P_iconst (v := 0) rfl dX6_cutUp_42 ?_
  refine P_is7 (Or.inr dX6_cutUp_43) rfl rfl ?_
  have h1 : CW L (p_up (p_up FI 202 w (xG X 5 + 1)) 168 (sa k) 1) AI AL AR w (x_g (x_rm X s) 5 (xG X 5 + 1)) (C.set k ((x_at X s), true) ++ ([] : List XS).map (fun τ => (τ, false))) ((xS X).length - 1) sa := by
    rw [List.map_nil, List.append_nil]
    exact (h.g5 (xG X 5 + 1)).sl hk (σ := ((x_at X s), true)) (fun j a hja => p_up_of (by omega)) (hSL.cg (fun j h6 h7 => (p_up_n1 _ _ _ _ (by omega)).trans (p_up_n1 _ _ _ _ (by omega)))) (p_up_eq _ _ _ _)
  refine loop ((lN - 1) / w_e rN + 1) 0 (by omega) (x_g (x_rm X s) 5 (xG X 5 + 1)) [] _ _ ((FrC.rf.uF (by omega)).uF (by omega)) ?_ ((hI.rm s).g (by decide)) (List.append_nil _).symm rfl rfl ?_ (fun _ _ => rfl)
  · have hl9 : (xS (x_g (x_rm X s) 5 (xG X 5 + 1))).length = (xS X).length - 1 := by
      show ((xS X).eraseIdx s).length = _
      rw [List.length_eraseIdx, if_pos hs]
    rw [hl9]
    exact h1
  · rw [if_pos (Nat.zero_le _), Nat.zero_mul, Nat.add_zero, ← hoN]
    show x_cut (x_g (x_rm X s) 5 (xG X 5 + 1)) b (nn (x_at X s).1) ((xB X b 2 - 8) / 8 * 8) ((x_at X s).2.1 + (x_at X s).2.2.1) (x_at X s).2.2.2.1 ((x_at X s).2.2.2.2.1 - 1) (x_at X s).2.2.2.2.2.1 701 (x_at X s).2.1 = _
    rw [hr2, n_each hrm.1 hrm.2.1, hoN, hlN, n_add]
end Cls14c
