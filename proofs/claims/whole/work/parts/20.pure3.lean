theorem pb_wiN_ne {sg : pb_Sg} {w p a : Nat} (h1 : a ≠ w + 1) (h2 : a ≠ w + 2) (n j : Nat) : pb_wiN sg w p n a j = sg a j := by
  induction n with
  | zero => rfl
  | succ n ih =>
    show pb_up (pb_up _ _ _ _) _ _ _ a j = _
    rw [pb_up_ne2 h2, pb_up_ne2 h1, ih]
theorem pb_str1_ne {sg : pb_Sg} {w p t k a : Nat} (h1 : a ≠ w + 1) (h2 : a ≠ w + 2) (j : Nat) : pb_str1 sg w p t k a j = sg a j := by
  unfold pb_str1
  rw [pb_up_ne2 h1, pb_up_ne2 h2]
theorem pb_strN_ne {sg : pb_Sg} {w p t a : Nat} (h1 : a ≠ w + 1) (h2 : a ≠ w + 2) (n j : Nat) : (pb_strN sg w p t n).1 a j = sg a j := by
  induction n with
  | zero => rfl
  | succ n ih =>
    unfold pb_strN
    split
    · exact (pb_str1_ne h1 h2 j).trans ih
    · exact ih
theorem pb_rdN_ne {sg : pb_Sg} {w p a : Nat} (h1 : a ≠ w + 1) (h2 : a ≠ w + 2) (n j : Nat) : (pb_rdN sg w p n).1 a j = sg a j := by
  induction n with
  | zero => rfl
  | succ n ih =>
    show (pb_strN _ w p n 16).1 a j = _
    rw [pb_strN_ne h1 h2, ih]
theorem pb_rds_ne {w p a : Nat} (h1 : a ≠ w + 1) (h2 : a ≠ w + 2) (n j : Nat) : ∀ sg : pb_Sg, pb_rds w p n sg a j = sg a j := by
  induction n with
  | zero => intro sg; rfl
  | succ n ih =>
    intro sg
    unfold pb_rds
    split
    · rw [ih, pb_rdN_ne h1 h2]
    · rw [pb_rdN_ne h1 h2]
theorem pb_lgN_ne {sg : pb_Sg} {w a : Nat} (h : a ≠ w) (n j : Nat) : pb_lgN sg w n a j = sg a j := by
  induction n with
  | zero => exact pb_up_ne2 h
  | succ n ih =>
    show pb_up _ _ _ _ a j = _
    rw [pb_up_ne2 h, ih]
theorem pb_meas_ne {sg : pb_Sg} {w p a : Nat} (h : a < w ∨ w + 2 < a) (j : Nat) : pb_meas sg w p a j = sg a j := by
  unfold pb_meas
  rw [pb_lgN_ne (by omega), pb_rds_ne (by omega) (by omega), pb_wiN_ne (by omega) (by omega)]
theorem pb_stD_ne {S : pb_Sg} {s c k a : Nat} {x : Int32} (h : a ≠ s + 3 + k) (n j : Nat) : pb_stD S s c x k n a j = S a j := by
  induction n with
  | zero => rfl
  | succ n ih =>
    show pb_up _ _ _ _ a j = _
    rw [pb_up_ne2 h, ih]
theorem pb_stC_ne {sg : pb_Sg} {s c a : Nat} {x : Int32} (h1 : a < s + 3 ∨ s + 7 < a) (n j : Nat) (hn : n ≤ 5) : pb_stC sg s c x n a j = pb_stC sg s c x 0 a j := by
  induction n with
  | zero => rfl
  | succ n ih =>
    show pb_stD _ s c x n 400 a j = _
    rw [pb_stD_ne (by omega), ih (by omega)]
theorem pb_stC_out {sg : pb_Sg} {s c a : Nat} {x : Int32} (h1 : a < s ∨ s + 7 < a) (n j : Nat) (hn : n ≤ 5) : pb_stC sg s c x n a j = sg a j := by
  rw [pb_stC_ne (by omega) n j hn]
  show pb_fillN _ _ _ _ _ a j = _
  rw [pb_fill_at, if_neg (by omega), pb_up_ne2 (by omega)]
theorem pb_stC_1 {sg : pb_Sg} {s c : Nat} {x : Int32} (n j : Nat) (hn : n ≤ 5) (hj : j < 16) : pb_stC sg s c x n (s + 1) j = -1 := by
  rw [pb_stC_ne (by omega) n j hn]
  show pb_fillN _ _ _ _ _ (s + 1) j = _
  rw [pb_fill_at, if_pos (by omega)]
theorem pb_stC_0 {sg : pb_Sg} {s c : Nat} {x : Int32} (n : Nat) (hn : n ≤ 5) : pb_stC sg s c x n s 2 = nI 0 := by
  rw [pb_stC_ne (by omega) n 2 hn]
  show pb_fillN _ _ _ _ _ s 2 = _
  rw [pb_fill_at, if_neg (by omega), pb_up_self]
theorem pb_si_start {sg : pb_Sg} {s c p : Nat} {x : Int32} (hp : pb_ap s p) (h : pb_wf sg p) : pb_si (pb_stC sg s c x 5) s p := by
  unfold pb_ap at hp
  refine ⟨h.of (fun t => pb_stC_out (by omega) 5 t (by omega)) (fun t => pb_stC_out (by omega) 5 t (by omega)), fun t ht => Or.inl (pb_stC_1 5 t (by omega) ht)⟩
theorem pb_sj_start {sg : pb_Sg} {s c : Nat} {x U : Int32} : pb_sj (pb_stC sg s c x 5) s U := fun t ht _ => ⟨pb_stC_1 5 t (by omega) ht, by rw [pb_stC_0 5 (by omega), pb_in_0]⟩
/-- the rule at X, for the plan at p and the branch at g -/
def pb_pb2 (sg : pb_Sg) (X p g : Nat) : pb_Sg := pb_stC (pb_meas sg (X + 34) p) (X + 37) (X + 20) (pb_meas sg (X + 34) p g 0) 5
def pb_pbr (sg : pb_Sg) (X p g : Nat) : pb_Sg := pb_pbt (X + 37) p (X + 34 + 1) 16 (pb_pb2 sg X p g) (pb_pres (pb_pb2 sg X p g (p + 1)))
def pb_apX (X p : Nat) : Prop := p + 4 < X + 34 ∨ X + 44 < p
theorem pb_apX.ap {X p : Nat} (h : pb_apX X p) : pb_ap (X + 37) p := by
  unfold pb_apX pb_ap at *
  omega
theorem pb_wf_meas {sg : pb_Sg} {X p p' : Nat} (h : pb_apX X p) (hw : pb_wf sg p) : pb_wf (pb_meas sg (X + 34) p') p := by
  unfold pb_apX at h
  exact hw.of (fun t => pb_meas_ne (by omega) t) (fun t => pb_meas_ne (by omega) t)
theorem pb_si_pb2 {sg : pb_Sg} {X p g : Nat} (h : pb_apX X p) (hw : pb_wf sg p) : pb_si (pb_pb2 sg X p g) (X + 37) p := pb_si_start h.ap (pb_wf_meas h hw)
def pb_jd1 (sg : pb_Sg) (X b f : Nat) : pb_Sg := pb_up (pb_jnN sg (X + 28) b f 16) X 6 (pb_jnN sg (X + 28) b f 16 (X + 28) 2)
def pb_jd2 (sg : pb_Sg) (X b f : Nat) : pb_Sg := pb_up (pb_jd1 sg X b f) X 6 (pb_set (pb_lackc (pb_jd1 sg X b f) (X + 29)) 16)
def pb_jd3 (sg : pb_Sg) (X b f : Nat) : pb_Sg := pb_up (pb_jd2 sg X b f) X 6 (pb_set (fun t => pb_in (pb_all (pb_jd2 sg X b f (X + 29 + 4)) t) t) 16)
def pb_jd4 (sg : pb_Sg) (X b f g : Nat) : pb_Sg := pb_pbr (pb_jd3 sg X b f) X (X + 29) g
def pb_jd5 (sg : pb_Sg) (X b f g : Nat) : pb_Sg := pb_up (pb_jd4 sg X b f g) X 6 (pb_pres (pb_jd4 sg X b f g (X + 29 + 1)) &&& (pb_jd4 sg X b f g (X + 37) 2 ^^^ (-1)))
/-- the first reason, and the memory behind it -/
def pb_jdg (sg : pb_Sg) (X b f g : Nat) : Int32 × pb_Sg := if ¬ pb_jd1 sg X b f X 6 = 0 then (nI 1, pb_jd1 sg X b f) else if ¬ pb_jd2 sg X b f X 6 = 0 then (nI 2, pb_jd2 sg X b f) else if ¬ pb_jd3 sg X b f X 6 = 0 then (nI 3, pb_jd3 sg X b f) else if pb_jd3 sg X b f g 6 < pb_cost (pb_jd3 sg X b f) (X + 29) then (nI 4, pb_jd3 sg X b f) else if ¬ pb_jd5 sg X b f g X 6 = 0 then (nI 5, pb_jd5 sg X b f g) else (nI 0, pb_jd5 sg X b f g)
theorem pb_wf_jd3 {sg : pb_Sg} {X b f : Nat} (h : pb_wf (pb_jnN sg (X + 28) b f 16) (X + 29)) : pb_wf (pb_jd3 sg X b f) (X + 29) := by
  refine h.of (fun t => ?_) (fun t => ?_) <;> unfold pb_jd3 pb_jd2 pb_jd1 <;> rw [pb_up_ne2 (by omega), pb_up_ne2 (by omega), pb_up_ne2 (by omega)]
def pb_sf (sg : pb_Sg) (b r : Nat) : pb_Sg := pb_fillN (pb_up (pb_copyN sg (b + 6) r 16) (b + 11) 6 (nI 0)) (b + 17) 0 (-1) 16
def pb_mg (S : pb_Sg) (X b f : Nat) : pb_Sg := pb_sf (pb_copyN (pb_up (pb_copyN S (f + 1) (X + 29) 16) (f + 11) 6 (nI 0)) (b + 1) (X + 29) 16) b (X + 29)
def pb_ud (S : pb_Sg) (X b f : Nat) : pb_Sg := pb_sf (pb_copyN S (b + 1) (X + 29) 16) b (f + 1)
