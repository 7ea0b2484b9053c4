/-- full pieces that are cut off a slice -/
def w_f (r l : Nat) : Nat := if l + 8 ≤ r then 0 else (l - 1) / w_e r
def w_r (X : XW) (b : Int32) : Nat := nn (xB X (nn b) 2)
def w_d (X : XW) (b : Int32) : Nat := nn (xB X (nn b) 3)
def w_k (X : XW) (b : Int32) : Nat := nn (xB X (nn b) 4)
def w_sb (X : XW) : List Int32 → Nat → Nat
  | [], _ => 1
  | b :: bs, l => w_f (w_r X b) l * w_sb X bs (w_e (w_r X b)) + w_sb X bs (l - w_f (w_r X b) l * w_e (w_r X b))
def w_max (a b : Nat) : Nat := if a < b then b else a
def w_tb (X : XW) : List Int32 → Nat → Nat
  | [], _ => 0
  | b :: bs, l => if w_f (w_r X b) l = 0 then w_d X b + (l - w_f (w_r X b) l * w_e (w_r X b) + 8) / w_k X b + w_tb X bs (l - w_f (w_r X b) l * w_e (w_r X b)) else w_max (w_d X b + (l - w_f (w_r X b) l * w_e (w_r X b) + 8) / w_k X b + w_tb X bs (l - w_f (w_r X b) l * w_e (w_r X b))) (w_d X b + (w_e (w_r X b) + 8) / w_k X b + w_tb X bs (w_e (w_r X b)))
theorem w_tb_s (X : XW) (b : Int32) (bs : List Int32) (l : Nat) : w_tb X (b :: bs) l = if w_f (w_r X b) l = 0 then w_d X b + (l - w_f (w_r X b) l * w_e (w_r X b) + 8) / w_k X b + w_tb X bs (l - w_f (w_r X b) l * w_e (w_r X b)) else w_max (w_d X b + (l - w_f (w_r X b) l * w_e (w_r X b) + 8) / w_k X b + w_tb X bs (l - w_f (w_r X b) l * w_e (w_r X b))) (w_d X b + (w_e (w_r X b) + 8) / w_k X b + w_tb X bs (w_e (w_r X b))) := rfl
theorem w_sb_s (X : XW) (b : Int32) (bs : List Int32) (l : Nat) : w_sb X (b :: bs) l = w_f (w_r X b) l * w_sb X bs (w_e (w_r X b)) + w_sb X bs (l - w_f (w_r X b) l * w_e (w_r X b)) := rfl
theorem w_cut_eq {e : Nat} (he : 1 ≤ e) : ∀ n l, 1 ≤ l → l ≤ n → w_cut e n l = List.replicate ((l - 1) / e) e ++ [l - (l - 1) / e * e] := by
  intro n
  induction n with
  | zero => intro l h1 h2; omega
  | succ n ih =>
    intro l h1 h2
    rw [show w_cut e (n + 1) l = (if l < e then l else e) :: w_cut e n (l - (if l < e then l else e)) from if_neg (by omega)]
    by_cases c : l ≤ e
    · have hd : (l - 1) / e = 0 := Nat.div_eq_of_lt (by omega)
      have hm : (if l < e then l else e) = l := by split <;> omega
      rw [hd, hm, Nat.sub_self, w_cut_0, Nat.zero_mul, Nat.sub_zero]
      rfl
    · have hd : (l - 1) / e = (l - e - 1) / e + 1 := by
        rw [Nat.div_eq_sub_div (by omega) (by omega), show l - 1 - e = l - e - 1 by omega]
      have hle := Nat.div_mul_le_self (l - e - 1) e
      rw [if_neg (by omega), ih (l - e) (by omega) (by omega), hd, List.replicate_succ, Nat.succ_mul]
      show e :: (List.replicate ((l - e - 1) / e) e ++ [l - e - (l - e - 1) / e * e]) = e :: (List.replicate ((l - e - 1) / e) e ++ [l - ((l - e - 1) / e * e + e)])
      rw [show l - e - (l - e - 1) / e * e = l - ((l - e - 1) / e * e + e) by omega]
theorem w_f_le {r l : Nat} (hl : 1 ≤ l) : w_f r l * w_e r ≤ l - 1 := by
  unfold w_f
  split
  · rw [Nat.zero_mul]; exact Nat.zero_le _
  · exact Nat.div_mul_le_self _ _
theorem w_one_eq {r d c l T : Nat} (hr : 16 ≤ r) (hl : 1 ≤ l) : w_one r d c (l, T) = List.replicate (w_f r l) (w_e r, T + d + (w_e r + 8) / c) ++ [(l - w_f r l * w_e r, T + d + (l - w_f r l * w_e r + 8) / c)] := by
  have h8 := w_e_8 r hr
  unfold w_one
  dsimp only
  have hcut : w_cut (w_p r l) l l = List.replicate (w_f r l) (w_e r) ++ [l - w_f r l * w_e r] := by
    unfold w_p w_f
    by_cases c : r < l + 8
    · rw [if_pos c, if_neg (by omega)]
      exact w_cut_eq (by omega) l l hl (Nat.le_refl _)
    · rw [if_neg c, if_pos (by omega), w_cut_eq hl l l hl (Nat.le_refl _), Nat.div_eq_of_lt (by omega), Nat.zero_mul, Nat.zero_mul]
      rfl
  rw [hcut, List.map_append, List.map_replicate]
  rfl
theorem w_all_app (X : XW) : ∀ (bs : List Int32) (a b : List (Nat × Nat)), w_all X bs (a ++ b) = w_all X bs a ++ w_all X bs b := by
  intro bs
  induction bs with
  | nil => intro a b; rfl
  | cons c bs ih =>
    intro a b
    show w_all X bs (w_ov _ _ _ (a ++ b)) = _
    rw [w_ov_app, ih]
    rfl
theorem w_all_nil (X : XW) : ∀ (bs : List Int32), w_all X bs [] = [] := by
  intro bs
  induction bs with
  | nil => rfl
  | cons c bs ih => exact ih
theorem w_all_s (X : XW) {b : Int32} {bs : List Int32} {l T : Nat} (hr : 16 ≤ w_r X b) (hl : 1 ≤ l) : w_all X (b :: bs) [(l, T)] = w_all X bs (List.replicate (w_f (w_r X b) l) (w_e (w_r X b), T + w_d X b + (w_e (w_r X b) + 8) / w_k X b)) ++ w_all X bs [(l - w_f (w_r X b) l * w_e (w_r X b), T + w_d X b + (l - w_f (w_r X b) l * w_e (w_r X b) + 8) / w_k X b)] := by
  rw [← w_all_app]
  show w_all X bs (w_one (w_r X b) (w_d X b) (w_k X b) (l, T) ++ []) = _
  rw [List.append_nil, w_one_eq hr hl]
theorem w_len_rep (X : XW) (bs : List Int32) (x : Nat × Nat) : ∀ n, (w_all X bs (List.replicate n x)).length = n * (w_all X bs [x]).length := by
  intro n
  induction n with
  | zero => rw [Nat.zero_mul]; show (w_all X bs []).length = 0; rw [w_all_nil]; rfl
  | succ n ih =>
    rw [show List.replicate (n + 1) x = [x] ++ List.replicate n x from rfl, w_all_app, List.length_append, ih, Nat.succ_mul]
    omega
theorem w_sb_len (X : XW) : ∀ (bs : List Int32) (l T : Nat), (∀ b, b ∈ bs → 16 ≤ w_r X b) → 1 ≤ l → (w_all X bs [(l, T)]).length = w_sb X bs l := by
  intro bs
  induction bs with
  | nil => intro l T _ _; rfl
  | cons b bs ih =>
    intro l T hb hl
    have hr := hb b (List.mem_cons_self ..)
    have h8 := w_e_8 _ hr
    have hf := w_f_le (r := w_r X b) hl
    rw [w_all_s X hr hl, List.length_append, w_len_rep, ih _ _ (fun c hc => hb c (List.mem_cons_of_mem _ hc)) (by omega), ih _ _ (fun c hc => hb c (List.mem_cons_of_mem _ hc)) (by omega)]
    rfl
def w_ml : List (Nat × Nat) → Nat
  | [] => 0
  | x :: q => w_max x.2 (w_ml q)
theorem w_max_a (a b c : Nat) : w_max (w_max a b) c = w_max a (w_max b c) := by
  unfold w_max
  split <;> split <;> (try split) <;> omega
theorem w_max_0 (a : Nat) : w_max 0 a = a ∧ w_max a 0 = a := by
  unfold w_max
  constructor <;> split <;> omega
theorem w_ml_app (a b : List (Nat × Nat)) : w_ml (a ++ b) = w_max (w_ml a) (w_ml b) := by
  induction a with
  | nil => exact (w_max_0 _).1.symm
  | cons x a ih =>
    show w_max x.2 (w_ml (a ++ b)) = w_max (w_max x.2 (w_ml a)) (w_ml b)
    rw [ih, w_max_a]
theorem w_mx_ml (q : List (Nat × Nat)) : ∀ n, n ≤ q.length → w_mx q n = w_ml (q.take n) := by
  intro n
  induction n with
  | zero => intro _; rfl
  | succ n ih =>
    intro hn
    rw [← List.take_append_getElem (show n < q.length by omega), w_ml_app, ← ih (by omega)]
    show w_max (w_mx q n) (q.getD n (0, 0)).2 = w_max (w_mx q n) (w_max (q[n]).2 0)
    rw [(w_max_0 _).2, List.getD_eq_getElem?_getD, List.getElem?_eq_getElem (show n < q.length by omega)]
    rfl
theorem w_ml_rep (X : XW) (bs : List Int32) (x : Nat × Nat) : ∀ n, w_ml (w_all X bs (List.replicate n x)) = if n = 0 then 0 else w_ml (w_all X bs [x]) := by
  intro n
  induction n with
  | zero => rw [if_pos rfl]; show w_ml (w_all X bs []) = 0; rw [w_all_nil]; rfl
  | succ n ih =>
    rw [show List.replicate (n + 1) x = [x] ++ List.replicate n x from rfl, w_all_app, w_ml_app, ih, if_neg (show ¬ n + 1 = 0 by omega)]
    by_cases c : n = 0
    · rw [if_pos c, (w_max_0 _).2]
    · rw [if_neg c]
      unfold w_max
      split <;> omega
theorem w_tb_ml (X : XW) : ∀ (bs : List Int32) (l T : Nat), (∀ b, b ∈ bs → 16 ≤ w_r X b) → 1 ≤ l → w_ml (w_all X bs [(l, T)]) = T + w_tb X bs l := by
  intro bs
  induction bs with
  | nil => intro l T _ _; exact (w_max_0 T).2
  | cons b bs ih =>
    intro l T hb hl
    have hr := hb b (List.mem_cons_self ..)
    have h8 := w_e_8 _ hr
    have hf := w_f_le (r := w_r X b) hl
    rw [w_all_s X hr hl, w_ml_app, w_ml_rep, ih _ _ (fun c hc => hb c (List.mem_cons_of_mem _ hc)) (by omega), ih _ _ (fun c hc => hb c (List.mem_cons_of_mem _ hc)) (by omega)]
    rw [w_tb_s]
    by_cases c : w_f (w_r X b) l = 0
    · rw [if_pos c, if_pos c, (w_max_0 _).1]
      omega
    · rw [if_neg c, if_neg c]
      unfold w_max
      split <;> split <;> omega
theorem w_tb_le (X : XW) : ∀ (bs : List Int32) (l : Nat), (∀ b, b ∈ bs → 16 ≤ w_r X b ∧ w_r X b ≤ 1500 ∧ w_d X b ≤ 50) → 1 ≤ l → l ≤ 4000 → w_tb X bs l ≤ 5000 * bs.length := by
  intro bs
  induction bs with
  | nil => intro l _ _ _; exact Nat.zero_le _
  | cons b bs ih =>
    intro l hb hl hl2
    have hr := hb b (List.mem_cons_self ..)
    have h8 := w_e_8 _ hr.1
    have hf := w_f_le (r := w_r X b) hl
    have h1 := ih (l - w_f (w_r X b) l * w_e (w_r X b)) (fun c hc => hb c (List.mem_cons_of_mem _ hc)) (by omega) (by omega)
    have h2 := ih (w_e (w_r X b)) (fun c hc => hb c (List.mem_cons_of_mem _ hc)) (by omega) (by omega)
    have h3 := Nat.div_le_self (l - w_f (w_r X b) l * w_e (w_r X b) + 8) (w_k X b)
    have h4 := Nat.div_le_self (w_e (w_r X b) + 8) (w_k X b)
    rw [List.length_cons]
    rw [w_tb_s]
    split
    · omega
    · unfold w_max
      split <;> omega
theorem c_full_w {r l : Nat} (h : 16 ≤ r) (h2 : r ≤ 1500) (hl : 1 ≤ l) (hl2 : l ≤ 4000) : c_full (Int32.ofNat r) (Int32.ofNat l) = Int32.ofNat (w_f r l) := by
  unfold w_f
  by_cases c : l + 8 ≤ r
  · rw [if_pos c]
    unfold c_full
    rw [if_pos]
    · rfl
    · rw [show Int32.ofNat l + 8 = Int32.ofNat (l + 8) from n_add l 8]
      exact (n_le (by omega) (by omega)).mpr c
  · rw [if_neg c]
    exact c_full_eq h h2 hl (by omega) (by omega)
theorem c_time_w {d c k : Nat} (hc : 1 ≤ c) (hc2 : c ≤ 1000) (hk : k ≤ 4000) : c_time (Int32.ofNat d) (Int32.ofNat c) (Int32.ofNat k) = Int32.ofNat (d + (k + 8) / c) := by
  have h1 := c_time_eq (tk := 0) (d := Int32.ofNat d) (c := Int32.ofNat c) (n := Int32.ofNat k) (by rw [n_int (by omega)]; omega)
  rw [Int32.zero_add, Int32.zero_add] at h1
  rw [h1, show Int32.ofNat k + 8 = Int32.ofNat (k + 8) from n_add k 8, n_div (by omega) (by omega) (by omega), n_add]
section Cls28
variable {g : PG} {L : PL} {FI AI : Nat → Nat → Int32} {AL : Nat → Nat → Int64} {AR : Nat → Nat → Option Nat} {w : Nat} {X : XW} {C : List XC} {U : Nat} {sa : Nat → Nat} {M : Nat} {l : List Int32}
theorem s_slicesBehind (h : CW L FI AI AL AR w X C U sa) (hI : XI M X) (hl7 : l.length ≤ 7) (hh : c_held AR w X l) : ∀ n i : Nat, i + n = l.length → ∀ k : Nat, 1 ≤ k → k ≤ 4000 → Sp g (n + 2) iX7_slicesBehind [vr (w + 6), vi (Int32.ofNat i), vi (Int32.ofNat l.length), vi (Int32.ofNat k)] (L, FI, AI, AL, AR) (0, 0) (QI (L, FI, AI, AL, AR) (Int32.ofNat (w_sb X (l.drop i) k))) := by
  have hw := h.wf
  have hb16 := h.b16
  intro n
  induction n with
  | zero =>
    intro i hi k hk1 hk2
    refine Sp.of (ls := [some (vr (w + 6)), some (vi (Int32.ofNat i)), some (vi (Int32.ofNat l.length)), some (vi (Int32.ofNat k)), none, none, none, none]) (by decide +kernel) rfl rfl ?_
    refine P_iloadn (i := 1) rfl rfl dX7_slicesBehind_0 ?_
    refine P_iloadn (i := 2) rfl rfl dX7_slicesBehind_1 ?_
    refine P_icmpge dX7_slicesBehind_2 (tgt := 17) rfl (fun h2 => ?_) (fun h2 => absurd ((n_le (a := l.length) (b := i) (by omega) (by omega)).mpr (by omega)) h2)
    refine P_null dX7_slicesBehind_17 ?_
    refine P_as4 (Or.inr dX7_slicesBehind_18) rfl rfl ?_
    refine P_aload (i := 4) rfl dX7_slicesBehind_20 ?_
    refine P_ifnonnull dX7_slicesBehind_22 (tgt := 27) rfl (fun a22 h22 => by cases h22) (fun h22 => ?_)
    refine P_iconst (v := 1) rfl dX7_slicesBehind_25 ?_
    refine P_ireturn rfl dX7_slicesBehind_26 ?_
    rw [show l.drop i = [] from List.drop_eq_nil_of_le (by omega)]
    exact ⟨rfl, rfl⟩
  | succ n ih =>
    intro i hi k hk1 hk2
    refine Sp.of (ls := [some (vr (w + 6)), some (vi (Int32.ofNat i)), some (vi (Int32.ofNat l.length)), some (vi (Int32.ofNat k)), none, none, none, none]) (by decide +kernel) rfl rfl ?_
    have hbi := hh i (by omega)
    obtain ⟨b, hb⟩ : ∃ b, b = l.getD i 0 := ⟨_, rfl⟩
    rw [← hb] at hbi
    have hbx := hbi.2.nn
    have hkb := hw.kB (i := nn b) (by omega)
    have hbb := (h.b (nn b) (by omega)).1 hbx
    have hrm := x_room hI hbx
    have hqB := hI.2.2.1 _ hbx
    have e2 : FI 2 (w + 23 + nn b) = Int32.ofNat (w_r X b) := by
      rw [hbb 2 (by decide)]
      exact (ib.eq (n := 1501) ⟨by have := hqB.2.2.1.1; omega, by have := hqB.2.2.1.2; omega⟩)
    have e3 : FI 3 (w + 23 + nn b) = Int32.ofNat (w_d X b) := by
      rw [hbb 3 (by decide)]
      exact (ib.eq (n := 51) ⟨by have := hqB.2.2.2.1.1; omega, by have := hqB.2.2.2.1.2; omega⟩)
    have e4 : FI 4 (w + 23 + nn b) = Int32.ofNat (w_k X b) := by
      rw [hbb 4 (by decide)]
      exact (ib.eq (n := 1001) ⟨by have := hqB.2.2.2.2.1.1; omega, by have := hqB.2.2.2.2.1.2; omega⟩)
    have r1 : 16 ≤ w_r X b := hrm.1
    have r2 : w_r X b ≤ 1500 := hrm.2.1
    have r3 : w_d X b ≤ 50 := hrm.2.2.1
    have r4 : 1 ≤ w_k X b := hrm.2.2.2.1
    have r5 : w_k X b ≤ 1000 := hrm.2.2.2.2
    have he8 := w_e_8 _ r1
    have hfl := w_f_le (r := w_r X b) hk1
    have hfn : w_f (w_r X b) k ≤ 4000 := by
      unfold w_f
      split
      · omega
      · have := Nat.div_le_self (k - 1) (w_e (w_r X b))
        omega
    have hdr : l.drop i = b :: l.drop (i + 1) := by
      rw [List.drop_eq_getElem_cons (by omega), hb, List.getD_eq_getElem?_getD, List.getElem?_eq_getElem (by omega)]
      rfl
    have hfu : c_full (Int32.ofNat (w_r X b)) (Int32.ofNat k) = Int32.ofNat (w_f (w_r X b) k) := c_full_w r1 r2 hk1 hk2
    have hpi : c_piece (Int32.ofNat (w_r X b)) = Int32.ofNat (w_e (w_r X b)) := c_piece_eq r1 r2
    refine P_iloadn (i := 1) rfl rfl dX7_slicesBehind_0 ?_
    refine P_iloadn (i := 2) rfl rfl dX7_slicesBehind_1 ?_
    refine P_icmpge dX7_slicesBehind_2 (tgt := 17) rfl (fun h2 => absurd h2 (fun h8 => by have h7 := (n_le (a := l.length) (b := i) (by omega) (by omega)).mp h8; omega)) (fun h2 => ?_)
    refine P_iloadn (i := 1) rfl rfl dX7_slicesBehind_5 ?_
    refine P_aloadn (i := 0) rfl rfl dX7_slicesBehind_6 ?_
    refine P_lenN (t := 25) (by decide) hw.k6 (by rw [hw.l6]) dX7_slicesBehind_7 ?_
    refine P_icmpge dX7_slicesBehind_8 (tgt := 17) rfl (fun h8 => absurd h8 (fun h8 => by have h7 := (n_le (a := 8) (b := i) (by omega) (by omega)).mp h8; omega)) (fun h8 => ?_)
    refine P_aloadn (i := 0) rfl rfl dX7_slicesBehind_11 ?_
    refine P_iloadn (i := 1) rfl rfl dX7_slicesBehind_12 ?_
    refine P_aaN (t := 25) (j := i) (by decide) hw.k6 rfl (by omega) (by rw [hw.l6]; omega) hbi.1 dX7_slicesBehind_13 ?_
    refine P_goto dX7_slicesBehind_14 (tgt := 18) rfl ?_
    refine P_as4 (Or.inr dX7_slicesBehind_18) rfl rfl ?_
    refine P_aload (i := 4) rfl dX7_slicesBehind_20 ?_
    refine P_ifnonnull dX7_slicesBehind_22 (tgt := 27) rfl (fun a22 h22 => ?_) (fun h22 => by cases h22)
    cases h22
    refine P_aload (i := 4) rfl dX7_slicesBehind_27 ?_
    refine P_iloadn (i := 3) rfl rfl dX7_slicesBehind_29 ?_
    refine kX7_230 rfl (s_fullPieces hkb) (by omega) hkb rfl dX7_slicesBehind_30 (fun r30 s30 q30 => ?_)
    obtain ⟨rfl, rfl⟩ := q30
    rw [e2, hfu]
    refine P_is5 (Or.inr dX7_slicesBehind_33) rfl rfl ?_
    refine P_iload (i := 5) rfl dX7_slicesBehind_35 ?_
    refine P_ifne dX7_slicesBehind_37 (tgt := 50) rfl (fun h37 => ?_) (fun h37 => ?_)
    · refine P_aload (i := 4) rfl dX7_slicesBehind_50 ?_
      refine kX7_233 rfl (s_longestPiece hkb) (by omega) hkb rfl dX7_slicesBehind_52 (fun r52 s52 q52 => ?_)
      obtain ⟨rfl, rfl⟩ := q52
      rw [e2, hpi]
      refine P_is6 (Or.inr dX7_slicesBehind_55) rfl rfl ?_
      refine P_aloadn (i := 0) rfl rfl dX7_slicesBehind_57 ?_
      refine P_iloadn (i := 1) rfl rfl dX7_slicesBehind_58 ?_
      refine P_iconst (v := 1) rfl dX7_slicesBehind_59 ?_
      refine P_iadd dX7_slicesBehind_60 ?_
      rw [show Int32.ofNat i + 1 = Int32.ofNat (i + 1) from n_succ i]
      refine P_iloadn (i := 2) rfl rfl dX7_slicesBehind_61 ?_
      refine P_iloadn (i := 3) rfl rfl dX7_slicesBehind_62 ?_
      refine P_iload (i := 5) rfl dX7_slicesBehind_63 ?_
      refine P_iload (i := 6) rfl dX7_slicesBehind_65 ?_
      refine P_imul dX7_slicesBehind_67 ?_
      refine P_isub dX7_slicesBehind_68 ?_
      rw [n_mul, n_sub (by omega) (by omega)]
      refine kX7_178 rfl (ih (i + 1) (by omega) (k - w_f (w_r X b) k * w_e (w_r X b)) (by omega) (by omega)) (by omega) rfl dX7_slicesBehind_69 (fun r69 s69 q69 => ?_)
      obtain ⟨rfl, rfl⟩ := q69
      refine P_is7 (Or.inr dX7_slicesBehind_72) rfl rfl ?_
      refine P_iload (i := 5) rfl dX7_slicesBehind_74 ?_
      refine P_aloadn (i := 0) rfl rfl dX7_slicesBehind_76 ?_
      refine P_iloadn (i := 1) rfl rfl dX7_slicesBehind_77 ?_
      refine P_iconst (v := 1) rfl dX7_slicesBehind_78 ?_
      refine P_iadd dX7_slicesBehind_79 ?_
      rw [show Int32.ofNat i + 1 = Int32.ofNat (i + 1) from n_succ i]
      refine P_iloadn (i := 2) rfl rfl dX7_slicesBehind_80 ?_
      refine P_iload (i := 6) rfl dX7_slicesBehind_81 ?_
      refine kX7_178 rfl (ih (i + 1) (by omega) (w_e (w_r X b)) (by omega) (by omega)) (by omega) rfl dX7_slicesBehind_83 (fun r83 s83 q83 => ?_)
      obtain ⟨rfl, rfl⟩ := q83
      refine P_imul dX7_slicesBehind_86 ?_
      refine P_iload (i := 7) rfl dX7_slicesBehind_87 ?_
      refine P_iadd dX7_slicesBehind_89 ?_
      refine P_ireturn rfl dX7_slicesBehind_90 ?_
      rw [hdr, n_mul, n_add]
      exact ⟨rfl, rfl⟩
    · refine P_aloadn (i := 0) rfl rfl dX7_slicesBehind_40 ?_
      refine P_iloadn (i := 1) rfl rfl dX7_slicesBehind_41 ?_
      refine P_iconst (v := 1) rfl dX7_slicesBehind_42 ?_
      refine P_iadd dX7_slicesBehind_43 ?_
      rw [show Int32.ofNat i + 1 = Int32.ofNat (i + 1) from n_succ i]
      refine P_iloadn (i := 2) rfl rfl dX7_slicesBehind_44 ?_
      refine P_iloadn (i := 3) rfl rfl dX7_slicesBehind_45 ?_
      refine kX7_178 rfl (ih (i + 1) (by omega) (k) (by omega) (by omega)) (by omega) rfl dX7_slicesBehind_46 (fun r46 s46 q46 => ?_)
      obtain ⟨rfl, rfl⟩ := q46
      refine P_ireturn rfl dX7_slicesBehind_49 ?_
      have hf0 := (n_eqz (by omega)).mp h37
      rw [hdr, w_sb_s, hf0, Nat.zero_mul, Nat.zero_mul, Nat.zero_add, Nat.sub_zero]
      exact ⟨rfl, rfl⟩
theorem s_ticksBehind (h : CW L FI AI AL AR w X C U sa) (hI : XI M X) (hl7 : l.length ≤ 7) (hh : c_held AR w X l) : ∀ n i : Nat, i + n = l.length → ∀ k : Nat, 1 ≤ k → k ≤ 4000 → Sp g (n + 2) iX7_ticksBehind [vr (w + 6), vi (Int32.ofNat i), vi (Int32.ofNat l.length), vi (Int32.ofNat k)] (L, FI, AI, AL, AR) (0, 0) (QI (L, FI, AI, AL, AR) (Int32.ofNat (w_tb X (l.drop i) k))) := by
  have hw := h.wf
  have hb16 := h.b16
  intro n
  induction n with
  | zero =>
    intro i hi k hk1 hk2
    refine Sp.of (ls := [some (vr (w + 6)), some (vi (Int32.ofNat i)), some (vi (Int32.ofNat l.length)), some (vi (Int32.ofNat k)), none, none, none, none, none]) (by decide +kernel) rfl rfl ?_
    refine P_iloadn (i := 1) rfl rfl dX7_ticksBehind_0 ?_
    refine P_iloadn (i := 2) rfl rfl dX7_ticksBehind_1 ?_
    refine P_icmpge dX7_ticksBehind_2 (tgt := 17) rfl (fun h2 => ?_) (fun h2 => absurd ((n_le (a := l.length) (b := i) (by omega) (by omega)).mpr (by omega)) h2)
    refine P_null dX7_ticksBehind_17 ?_
    refine P_as4 (Or.inr dX7_ticksBehind_18) rfl rfl ?_
    refine P_aload (i := 4) rfl dX7_ticksBehind_20 ?_
    refine P_ifnonnull dX7_ticksBehind_22 (tgt := 27) rfl (fun a22 h22 => by cases h22) (fun h22 => ?_)
    refine P_iconst (v := 0) rfl dX7_ticksBehind_25 ?_
    refine P_ireturn rfl dX7_ticksBehind_26 ?_
    rw [show l.drop i = [] from List.drop_eq_nil_of_le (by omega)]
    exact ⟨rfl, rfl⟩
  | succ n ih =>
    intro i hi k hk1 hk2
    refine Sp.of (ls := [some (vr (w + 6)), some (vi (Int32.ofNat i)), some (vi (Int32.ofNat l.length)), some (vi (Int32.ofNat k)), none, none, none, none, none]) (by decide +kernel) rfl rfl ?_
    have hbi := hh i (by omega)
    obtain ⟨b, hb⟩ : ∃ b, b = l.getD i 0 := ⟨_, rfl⟩
    rw [← hb] at hbi
    have hbx := hbi.2.nn
    have hkb := hw.kB (i := nn b) (by omega)
    have hbb := (h.b (nn b) (by omega)).1 hbx
    have hrm := x_room hI hbx
    have hqB := hI.2.2.1 _ hbx
    have e2 : FI 2 (w + 23 + nn b) = Int32.ofNat (w_r X b) := by
      rw [hbb 2 (by decide)]
      exact (ib.eq (n := 1501) ⟨by have := hqB.2.2.1.1; omega, by have := hqB.2.2.1.2; omega⟩)
    have e3 : FI 3 (w + 23 + nn b) = Int32.ofNat (w_d X b) := by
      rw [hbb 3 (by decide)]
      exact (ib.eq (n := 51) ⟨by have := hqB.2.2.2.1.1; omega, by have := hqB.2.2.2.1.2; omega⟩)
    have e4 : FI 4 (w + 23 + nn b) = Int32.ofNat (w_k X b) := by
      rw [hbb 4 (by decide)]
      exact (ib.eq (n := 1001) ⟨by have := hqB.2.2.2.2.1.1; omega, by have := hqB.2.2.2.2.1.2; omega⟩)
    have r1 : 16 ≤ w_r X b := hrm.1
    have r2 : w_r X b ≤ 1500 := hrm.2.1
    have r3 : w_d X b ≤ 50 := hrm.2.2.1
    have r4 : 1 ≤ w_k X b := hrm.2.2.2.1
    have r5 : w_k X b ≤ 1000 := hrm.2.2.2.2
    have he8 := w_e_8 _ r1
    have hfl := w_f_le (r := w_r X b) hk1
    have hfn : w_f (w_r X b) k ≤ 4000 := by
      unfold w_f
      split
      · omega
      · have := Nat.div_le_self (k - 1) (w_e (w_r X b))
        omega
    have hdr : l.drop i = b :: l.drop (i + 1) := by
      rw [List.drop_eq_getElem_cons (by omega), hb, List.getD_eq_getElem?_getD, List.getElem?_eq_getElem (by omega)]
      rfl
    have hfu : c_full (Int32.ofNat (w_r X b)) (Int32.ofNat k) = Int32.ofNat (w_f (w_r X b) k) := c_full_w r1 r2 hk1 hk2
    have hpi : c_piece (Int32.ofNat (w_r X b)) = Int32.ofNat (w_e (w_r X b)) := c_piece_eq r1 r2
    refine P_iloadn (i := 1) rfl rfl dX7_ticksBehind_0 ?_
    refine P_iloadn (i := 2) rfl rfl dX7_ticksBehind_1 ?_
    refine P_icmpge dX7_ticksBehind_2 (tgt := 17) rfl (fun h2 => absurd h2 (fun h8 => by have h7 := (n_le (a := l.length) (b := i) (by omega) (by omega)).mp h8; omega)) (fun h2 => ?_)
    refine P_iloadn (i := 1) rfl rfl dX7_ticksBehind_5 ?_
    refine P_aloadn (i := 0) rfl rfl dX7_ticksBehind_6 ?_
    refine P_lenN (t := 25) (by decide) hw.k6 (by rw [hw.l6]) dX7_ticksBehind_7 ?_
    refine P_icmpge dX7_ticksBehind_8 (tgt := 17) rfl (fun h8 => absurd h8 (fun h8 => by have h7 := (n_le (a := 8) (b := i) (by omega) (by omega)).mp h8; omega)) (fun h8 => ?_)
    refine P_aloadn (i := 0) rfl rfl dX7_ticksBehind_11 ?_
    refine P_iloadn (i := 1) rfl rfl dX7_ticksBehind_12 ?_
    refine P_aaN (t := 25) (j := i) (by decide) hw.k6 rfl (by omega) (by rw [hw.l6]; omega) hbi.1 dX7_ticksBehind_13 ?_
    refine P_goto dX7_ticksBehind_14 (tgt := 18) rfl ?_
    refine P_as4 (Or.inr dX7_ticksBehind_18) rfl rfl ?_
    refine P_aload (i := 4) rfl dX7_ticksBehind_20 ?_
    refine P_ifnonnull dX7_ticksBehind_22 (tgt := 27) rfl (fun a22 h22 => ?_) (fun h22 => by cases h22)
    cases h22
    refine P_aload (i := 4) rfl dX7_ticksBehind_27 ?_
    refine P_iloadn (i := 3) rfl rfl dX7_ticksBehind_29 ?_
    refine kX7_230 rfl (s_fullPieces hkb) (by omega) hkb rfl dX7_ticksBehind_30 (fun r30 s30 q30 => ?_)
    obtain ⟨rfl, rfl⟩ := q30
    rw [e2, hfu]
    have htb : ∀ k, 1 ≤ k → k ≤ 4000 → w_tb X (l.drop (i + 1)) k ≤ 5000 * 7 := fun k h1 h2 => by
      have h3 := w_tb_le X (l.drop (i + 1)) k (fun c hc => by
        obtain ⟨j, hj, e⟩ := List.getElem_of_mem (List.mem_of_mem_drop hc)
        have h4 := (hh j hj).2.nn
        rw [List.getD_eq_getElem?_getD, List.getElem?_eq_getElem hj, Option.getD_some, e] at h4
        have h5 := x_room hI h4
        exact ⟨h5.1, h5.2.1, h5.2.2.1⟩) h1 h2
      have h6 : (l.drop (i + 1)).length ≤ 7 := by rw [List.length_drop]; omega
      omega
    refine P_is5 (Or.inr dX7_ticksBehind_33) rfl rfl ?_
    refine P_aload (i := 4) rfl dX7_ticksBehind_35 ?_
    refine kX7_233 rfl (s_longestPiece hkb) (by omega) hkb rfl dX7_ticksBehind_37 (fun r37 s37 q37 => ?_)
    obtain ⟨rfl, rfl⟩ := q37
    rw [e2, hpi]
    refine P_is6 (Or.inr dX7_ticksBehind_40) rfl rfl ?_
    refine P_iloadn (i := 3) rfl rfl dX7_ticksBehind_42 ?_
    refine P_iload (i := 5) rfl dX7_ticksBehind_43 ?_
    refine P_iload (i := 6) rfl dX7_ticksBehind_45 ?_
    refine P_imul dX7_ticksBehind_47 ?_
    refine P_isub dX7_ticksBehind_48 ?_
    rw [n_mul, n_sub (by omega) (by omega)]
    refine P_is7 (Or.inr dX7_ticksBehind_49) rfl rfl ?_
    refine P_aload (i := 4) rfl dX7_ticksBehind_51 ?_
    refine P_iload (i := 7) rfl dX7_ticksBehind_53 ?_
    refine kX7_236 rfl (s_ticksFor hkb) (by omega) hkb rfl dX7_ticksBehind_55 (fun r55 s55 q55 => ?_)
    obtain ⟨rfl, rfl⟩ := q55
    rw [e3, e4, c_time_w (k := k - w_f (w_r X b) k * w_e (w_r X b)) r4 r5 (by omega)]
    refine P_aloadn (i := 0) rfl rfl dX7_ticksBehind_58 ?_
    refine P_iloadn (i := 1) rfl rfl dX7_ticksBehind_59 ?_
    refine P_iconst (v := 1) rfl dX7_ticksBehind_60 ?_
    refine P_iadd dX7_ticksBehind_61 ?_
    rw [show Int32.ofNat i + 1 = Int32.ofNat (i + 1) from n_succ i]
    refine P_iloadn (i := 2) rfl rfl dX7_ticksBehind_62 ?_
    refine P_iload (i := 7) rfl dX7_ticksBehind_63 ?_
    refine kX7_182 rfl (ih (i + 1) (by omega) (k - w_f (w_r X b) k * w_e (w_r X b)) (by omega) (by omega)) (by omega) rfl dX7_ticksBehind_65 (fun r65 s65 q65 => ?_)
    obtain ⟨rfl, rfl⟩ := q65
    refine P_iadd dX7_ticksBehind_68 ?_
    refine P_is8 (Or.inr dX7_ticksBehind_69) rfl rfl ?_
    refine P_iload (i := 5) rfl dX7_ticksBehind_71 ?_
    refine P_ifne dX7_ticksBehind_73 (tgt := 79) rfl (fun h73 => ?_) (fun h73 => ?_)
    · refine P_iload (i := 8) rfl dX7_ticksBehind_79 ?_
      refine P_aload (i := 4) rfl dX7_ticksBehind_81 ?_
      refine P_iload (i := 6) rfl dX7_ticksBehind_83 ?_
      refine kX7_236 rfl (s_ticksFor hkb) (by omega) hkb rfl dX7_ticksBehind_85 (fun r85 s85 q85 => ?_)
      obtain ⟨rfl, rfl⟩ := q85
      rw [e3, e4, c_time_w (k := w_e (w_r X b)) r4 r5 (by omega)]
      refine P_aloadn (i := 0) rfl rfl dX7_ticksBehind_88 ?_
      refine P_iloadn (i := 1) rfl rfl dX7_ticksBehind_89 ?_
      refine P_iconst (v := 1) rfl dX7_ticksBehind_90 ?_
      refine P_iadd dX7_ticksBehind_91 ?_
      rw [show Int32.ofNat i + 1 = Int32.ofNat (i + 1) from n_succ i]
      refine P_iloadn (i := 2) rfl rfl dX7_ticksBehind_92 ?_
      refine P_iload (i := 6) rfl dX7_ticksBehind_93 ?_
      refine kX7_182 rfl (ih (i + 1) (by omega) (w_e (w_r X b)) (by omega) (by omega)) (by omega) rfl dX7_ticksBehind_95 (fun r95 s95 q95 => ?_)
      obtain ⟨rfl, rfl⟩ := q95
      refine P_iadd dX7_ticksBehind_98 ?_
      refine mX7_239 rfl dX7_ticksBehind_99 rfl ?_
      refine P_ireturn rfl dX7_ticksBehind_102 ?_
      have hf0 : ¬ w_f (w_r X b) k = 0 := fun hh => h73 (by rw [hh]; rfl)
      rw [hdr, n_add, n_add, show w_tb X (b :: l.drop (i + 1)) k = w_max (w_d X b + (k - w_f (w_r X b) k * w_e (w_r X b) + 8) / w_k X b + w_tb X (l.drop (i + 1)) (k - w_f (w_r X b) k * w_e (w_r X b))) (w_d X b + (w_e (w_r X b) + 8) / w_k X b + w_tb X (l.drop (i + 1)) (w_e (w_r X b))) from if_neg hf0]
      have hta := htb (k - w_f (w_r X b) k * w_e (w_r X b)) (by omega) (by omega)
      have htc := htb (w_e (w_r X b)) (by omega) (by omega)
      have hq1 := Nat.div_le_self (k - w_f (w_r X b) k * w_e (w_r X b) + 8) (w_k X b)
      have hq2 := Nat.div_le_self (w_e (w_r X b) + 8) (w_k X b)
      unfold w_max
      by_cases c : (w_d X b + (k - w_f (w_r X b) k * w_e (w_r X b) + 8) / w_k X b + w_tb X (l.drop (i + 1)) (k - w_f (w_r X b) k * w_e (w_r X b))) < (w_d X b + (w_e (w_r X b) + 8) / w_k X b + w_tb X (l.drop (i + 1)) (w_e (w_r X b)))
      · rw [if_pos c, if_pos ((n_lt (by omega) (by omega)).mpr c)]
        exact ⟨rfl, rfl⟩
      · rw [if_neg c, if_neg (fun hh => c ((n_lt (by omega) (by omega)).mp hh))]
        exact ⟨rfl, rfl⟩
    · refine P_iload (i := 8) rfl dX7_ticksBehind_76 ?_
      refine P_ireturn rfl dX7_ticksBehind_78 ?_
      have hf0 := (n_eqz (by omega)).mp h73
      rw [hdr, n_add, show w_tb X (b :: l.drop (i + 1)) k = (w_d X b + (k - w_f (w_r X b) k * w_e (w_r X b) + 8) / w_k X b + w_tb X (l.drop (i + 1)) (k - w_f (w_r X b) k * w_e (w_r X b))) from if_pos hf0]
      exact ⟨rfl, rfl⟩
end Cls28
