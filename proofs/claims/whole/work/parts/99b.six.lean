/-! ===== how often a parcel was sent: no tick changes it ===== -/
def x_6 (X Y : XW) : Prop := ∀ q, xP Y q 6 = xP X q 6
section Six
variable {X Y W : XW}
theorem x_6.rf (X : XW) : x_6 X X := fun _ => rfl
theorem x_6.tr (h1 : x_6 X Y) (h2 : x_6 Y W) : x_6 X W := fun q => (h2 q).trans (h1 q)
theorem x_6.end_ {p : Nat} {st : Int32} : x_6 X (x_end X p st) := fun _ => (p_up_n2 _ _ _ _ (by decide)).trans ((p_up_n2 _ _ _ _ (by decide)).trans ((p_up_n2 _ _ _ _ (by decide)).trans ((p_up_n2 _ _ _ _ (by decide)).trans (p_up_n2 _ _ _ _ (by decide)))))
theorem x_6.cd {p why : Nat} : x_6 X (x_cd X p why) := fun _ => p_up_n2 _ _ _ _ (by decide)
theorem x_6.drop {s why : Nat} : x_6 X (x_drop X s why) := x_6.cd (X := X) (p := nn (x_at X s).1) (why := why)
theorem x_6.eP (h : xP Y = xP X) : x_6 X Y := fun q => by rw [h]
theorem x_6.space {node : Int32} : ∀ n (X : XW), x_6 X (x_space node n X) := by
  intro n
  induction n with
  | zero => intro X; exact x_6.rf X
  | succ n ih =>
    intro X
    rw [show x_space node (n + 1) X = if xN X (nn node) 2 < x_bytes (xP X) node (xp X) then x_space node n (x_end X (nn (x_best (xP X) node (xp X))) 4) else X from rfl]
    split
    · exact x_6.end_.tr (ih _)
    · exact x_6.rf X
theorem x_6.fin_ {p : Nat} : x_6 X (x_fin X p) := by
  unfold x_fin
  split
  · exact x_6.rf X
  · exact x_6.end_
theorem x_6.put {s : Nat} : x_6 X (x_put X s) := by
  rw [x_put_eq]
  split
  · exact x_6.drop
  · split
    · exact x_6.drop
    · have s2 : x_6 X (x_put2 X s) := by
        unfold x_put2
        dsimp only
        split
        · exact x_6.end_ (X := x_g (x_rm X s) 6 (xG X 6 + 1))
        · exact fun _ => (p_up_n2 _ _ _ _ (by decide)).trans ((p_up_n2 _ _ _ _ (by decide)).trans (p_up_n2 _ _ _ _ (by decide)))
      unfold x_put3
      split
      · exact s2.tr ((x_6.space _ _).tr x_6.fin_)
      · exact s2.tr (x_6.space _ _)
theorem x_6.c1 {b p : Nat} {fr to e la ho se : Int32} : x_6 X (x_c1 X b p fr to e la ho se) := by
  unfold x_c1
  split
  · exact x_6.cd (X := x_g X 4 (xG X 4 + 1))
  · split
    · exact (x_6.eP (X := X) (Y := x_takes (x_g X 4 (xG X 4 + 1)) b (to - fr)) (x_takes_same _ _ _).2.2.1).tr x_6.cd
    · exact x_6.eP (x_takes_same (x_g X 4 (xG X 4 + 1)) b (to - fr)).2.2.1
theorem x_6.cut {b p : Nat} {each e la ho se : Int32} : ∀ n (X : XW) (fr : Int32), x_6 X (x_cut X b p each e la ho se n fr) := by
  intro n
  induction n with
  | zero => intro X fr; exact x_6.rf X
  | succ n ih =>
    intro X fr
    by_cases c : fr < e
    · rw [x_cut_s c rfl]
      exact x_6.c1.tr (ih _ _)
    · rw [x_cut_x c]
      exact x_6.rf X
theorem x_6.still {s : Nat} : x_6 X (x_still X s).1 := by
  unfold x_still
  dsimp only
  split
  · exact x_6.put
  · split
    · exact x_6.drop
    · split
      · exact x_6.drop
      · split
        · exact x_6.drop
        · split
          · exact x_6.cut (b := _) 701 (x_g (x_rm X s) 5 (xG X 5 + 1)) _
          · split
            · exact (x_6.eP (x_takes_same X _ _).2.2.1).tr x_6.drop
            · exact x_6.eP (x_takes_same X _ _).2.2.1
theorem x_6.run : ∀ n s (X : XW), x_6 X (x_run n s X) := by
  intro n
  induction n with
  | zero => intro s X; exact x_6.rf X
  | succ n ih =>
    intro s X
    rw [x_run_s]
    split
    · split
      · exact ih (s + 1) X
      · split
        · exact x_6.still.tr (ih _ _)
        · exact x_6.still.tr (ih _ _)
    · exact x_6.rf X
theorem x_6.times : ∀ n (X : XW), x_6 X (x_times n X) := by
  intro n
  induction n with
  | zero => intro X; exact x_6.rf X
  | succ n ih =>
    intro X
    unfold x_times
    dsimp only
    split
    · exact (ih X).tr x_6.end_
    · exact ih X
theorem x_6.tick : x_6 X (x_tick X) := (x_6.run 601 0 X).tr (x_6.times (xp (x_run 601 0 X)) (x_run 601 0 X))
theorem x_6.ticks : ∀ n, x_6 X (x_ticks n X) := by
  intro n
  induction n with
  | zero => exact x_6.rf X
  | succ n ih => exact ih.tr x_6.tick
end Six
