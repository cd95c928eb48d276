/-- the order's row o is the order of figures π, laid over the tasks bs -/
def pq_co (o : Nat → Int32) (π bs : Nat → Nat) (m : Nat) : Prop := ∀ k, k < m → o k = nI (bs (π k)) ∧ π k < m
def pq_bs (bs : Nat → Nat) (m : Nat) : Prop := (∀ i, i < m → bs i < 16) ∧ ∀ i j, i < j → j < m → bs i < bs j
theorem pq_bs_le {bs : Nat → Nat} {m i j : Nat} (h : pq_bs bs m) (hi : i < m) (hj : j < m) : bs i ≤ bs j ↔ i ≤ j := by
  constructor
  · intro q
    by_cases e : j < i
    · have := h.2 j i e hi
      omega
    · omega
  · intro q
    by_cases e : i = j
    · rw [e]; exact Nat.le_refl _
    · exact Nat.le_of_lt (h.2 i j (by omega) hj)
theorem pq_co_le {o : Nat → Int32} {π bs : Nat → Nat} {m i j : Nat} (h : pq_co o π bs m) (hb : pq_bs bs m) (hi : i < m) (hj : j < m) : o i ≤ o j ↔ π i ≤ π j := by
  obtain ⟨a1, a2⟩ := h i hi
  obtain ⟨b1, b2⟩ := h j hj
  have c1 := hb.1 _ a2
  have c2 := hb.1 _ b2
  rw [a1, b1, nI_leI (by omega) (by omega), pq_bs_le hb a2 b2]
theorem pq_tkE {o : Nat → Int32} {π bs : Nat → Nat} {m : Nat} (h : pq_co o π bs m) (hb : pq_bs bs m) (n : Nat) (hn : n < m) : pb_tk o n = pq_tk π n := by
  induction n with
  | zero => rfl
  | succ n ih =>
    unfold pb_tk pq_tk
    rw [ih (by omega)]
    by_cases e : π n ≤ π (n + 1)
    · rw [if_pos e, if_pos ((pq_co_le h hb (by omega) hn).mpr e)]
    · rw [if_neg e, if_neg (fun q => e ((pq_co_le h hb (by omega) hn).mp q))]
theorem pq_te_le (π : Nat → Nat) (w n : Nat) : pq_te π w n ≤ n := by
  induction n with
  | zero => exact Nat.le_refl _
  | succ n ih =>
    unfold pq_te
    split
    · omega
    · exact Nat.le_refl _
theorem pq_teE {o : Nat → Int32} {π bs : Nat → Nat} {m k : Nat} (h : pq_co o π bs m) (hb : pq_bs bs m) (hk : k < m) (n : Nat) (hn : n < m) : pb_te o (o k) n = pq_te π (π k) n := by
  induction n with
  | zero => rfl
  | succ n ih =>
    unfold pb_te pq_te
    rw [ih (by omega)]
    have h1 := pq_co_le h hb hk hn
    by_cases e : π (n + 1) < π k
    · rw [if_pos e, if_pos (Int32.not_le.mp (fun q => by have := h1.mp q; omega))]
    · rw [if_neg e, if_neg (fun q => Int32.not_le.mpr q (h1.mpr (by omega)))]
theorem pq_swE {S : pb_Sg} {π bs : Nat → Nat} {M m a b : Nat} (h : pq_co (S (M + 24)) π bs m) (ha : a < m) (hb : b < m) : pq_co (pb_sw S M a b (M + 24)) (pq_sw π a b) bs m := by
  intro k hk
  rw [pb_sw_at]
  unfold pq_sw
  by_cases e : k = b
  · rw [if_pos e, if_pos e]; exact h a ha
  · rw [if_neg e, if_neg e]
    by_cases e2 : k = a
    · rw [if_pos e2, if_pos e2]; exact h b hb
    · rw [if_neg e2, if_neg e2]; exact h k hk
theorem pq_rvE {S : pb_Sg} {π bs : Nat → Nat} {M m a b : Nat} (h : pq_co (S (M + 24)) π bs m) (hb : b < m) (n : Nat) (hn : a + n ≤ m) : pq_co (pb_rvN S M a b n (M + 24)) (pq_rv π a b n) bs m := by
  induction n with
  | zero => exact h
  | succ n ih => exact pq_swE (ih (by omega)) (by omega) (by omega)
theorem pq_tnE {S : pb_Sg} {π bs : Nat → Nat} {M m k : Nat} (h : pq_co (S (M + 24)) π bs m) (hb : pq_bs bs m) (hk : k < m - 1) : pq_co (pb_tn S M m k (M + 24)) (pq_tn π m k) bs m := by
  unfold pb_tn pq_tn
  rw [pq_teE h hb (by omega) (m - 1) (by omega)]
  have h1 := pq_te_le π (π k) (m - 1)
  exact pq_rvE (pq_swE h (by omega) (by omega)) (by omega) _ (by omega)
theorem pq_rvN_ne {S : pb_Sg} {M a b x : Nat} (hx : x ≠ M + 24) (n : Nat) : pb_rvN S M a b n x = S x := by
  induction n with
  | zero => rfl
  | succ n ih =>
    show pb_sw _ M _ _ x = _
    rw [pb_sw_ne hx, ih]
theorem pq_tn_ne {S : pb_Sg} {M m k x : Nat} (hx : x ≠ M + 24) : pb_tn S M m k x = S x := by
  unfold pb_tn
  rw [pq_rvN_ne hx, pb_sw_ne hx]
theorem pq_tk_lt {π : Nat → Nat} {n k : Nat} (h : pq_tk π n = some k) : k < n := by
  induction n with
  | zero => cases h
  | succ n ih =>
    unfold pq_tk at h
    split at h
    · cases h; omega
    · have := ih h; omega
def pq_mv (s p : Nat) (T : pb_Sg) (bs : Nat → Nat) (l : List Nat) : Int32 := match pq_val s p (l.map bs) T (-1) with
  | none => -1
  | some e => e
theorem pq_okl_spec {m : Nat} {l : List Nat} (h : pq_okl m l = true) : l.length = m ∧ (∀ x, x ∈ l → x < m) ∧ l.Nodup := by
  unfold pq_okl at h
  rw [Bool.and_eq_true, Bool.and_eq_true] at h
  obtain ⟨⟨h1, h2⟩, h3⟩ := h
  refine ⟨of_decide_eq_true h1, fun x hx => ?_, of_decide_eq_true h3⟩
  exact of_decide_eq_true (List.all_eq_true.mp h2 x hx)
theorem pq_step {s p M b m : Nat} {T S : pb_Sg} {bs : Nat → Nat} {a : List Nat} (ha : pb_ap s p) (hsr : pq_sr T (pb_mclr S M) s p M b) (hn : pq_nb T p) (hb : pq_bs bs m) (hh : ∀ i, i < m → pb_has (T (p + 1)) (bs i) = true) (hok : pq_okl m a = true) (hco : pq_co (S (M + 24)) (pq_at a) bs m) : (pb_mbo M b m 0 (pb_mclr S M)).2 = pq_mv s p T bs a := by
  obtain ⟨h1, h2, h3⟩ := pq_okl_spec hok
  have e21 : ∀ t, t < 16 → pb_mclr S M (M + 21) t = -1 := fun t ht => by
    unfold pb_mclr
    rw [pb_fill_ne (by omega), pb_fill_at, if_pos (by omega)]
  have hl : (a.map bs).length = m := by rw [List.length_map, h1]
  have hnd : (a.map bs).Nodup := by
    unfold List.Nodup at h3 ⊢
    rw [List.pairwise_map]
    refine List.Pairwise.imp_of_mem (fun {x y} hx hy hne q => hne ?_) h3
    have l1 := (pq_bs_le hb (h2 x hx) (h2 y hy)).mp (by omega)
    have l2 := (pq_bs_le hb (h2 y hy) (h2 x hx)).mp (by omega)
    omega
  have r := pq_mrun ha (a.map bs) 0 T (pb_mclr S M) (-1) hsr hn (fun t ht => by
    obtain ⟨x, hx, rfl⟩ := List.mem_map.mp ht
    exact ⟨hb.1 x (h2 x hx), hh x (h2 x hx), e21 _ (hb.1 x (h2 x hx))⟩) hnd (fun i hi => by
    rw [hl] at hi
    rw [pb_mclr_ne (by omega) (by omega), Nat.zero_add, (hco i hi).1, pq_at_map (by omega)]) (pq_mlast_none e21 16 (by omega))
  rw [hl] at r
  exact r
theorem pq_mloop {s p M b m : Nat} {T S3 : pb_Sg} {bs : Nat → Nat} (ha : pb_ap s p) (hsr : ∀ S : pb_Sg, (∀ x, x ≠ M + 21 → x ≠ M + 22 → x ≠ M + 24 → S x = S3 x) → pq_sr T (pb_mclr S M) s p M b) (hn : pq_nb T p) (hb : pq_bs bs m) (hh : ∀ i, i < m → pb_has (T (p + 1)) (bs i) = true) (hm : 1 ≤ m) (Ls : List (List Nat)) : ∀ (S : pb_Sg) (a : List Nat) (best : Int32), pq_chain m Ls = true → Ls.head? = some a → pq_co (S (M + 24)) (pq_at a) bs m → (∀ x, x ≠ M + 21 → x ≠ M + 22 → x ≠ M + 24 → S x = S3 x) →
    pb_mbT M b m Ls.length S ∧ (pb_mbl M b m Ls.length S best).2 = Ls.foldl (fun best l => pb_mbs best (pq_mv s p T bs l)) best ∧ (∀ x, x ≠ M + 21 → x ≠ M + 22 → x ≠ M + 24 → (pb_mbl M b m Ls.length S best).1 x = S3 x) := by
  induction Ls with
  | nil => intro S a best hc; cases hc
  | cons a0 r ih =>
    intro S a best hc hhd hco hS
    cases hhd
    have hbo : ∀ x, x ≠ M + 21 → x ≠ M + 22 → (pb_mbo M b m 0 (pb_mclr S M)).1 x = S x := fun x h1 h2 => by rw [pb_mbo_ne h1 h2, pb_mclr_ne h1 h2]
    have hco1 : pq_co ((pb_mbo M b m 0 (pb_mclr S M)).1 (M + 24)) (pq_at a0) bs m := by rw [hbo _ (by omega) (by omega)]; exact hco
    have etk := pq_tkE hco1 hb (m - 1) (by omega)
    have hSx : ∀ x, x ≠ M + 21 → x ≠ M + 22 → x ≠ M + 24 → (pb_mbo M b m 0 (pb_mclr S M)).1 x = S3 x := fun x h1 h2 h3 => by rw [hbo x h1 h2, hS x h1 h2 h3]
    cases r with
    | nil =>
      unfold pq_chain at hc
      rw [Bool.and_eq_true] at hc
      have e1 := pq_step (b := b) ha (hsr S hS) hn hb hh hc.1 hco
      have e2 : pq_nxt m a0 = none := of_decide_eq_true hc.2
      have e3 : pq_tk (pq_at a0) (m - 1) = none := by
        unfold pq_nxt at e2
        cases e : pq_tk (pq_at a0) (m - 1) with
        | none => rfl
        | some k => rw [e] at e2; cases e2
      have e4 := etk.trans e3
      refine ⟨?_, ?_, ?_⟩
      · show pb_mbT M b m 1 S
        unfold pb_mbT
        rw [e4]
        exact True.intro
      · show (pb_mbl M b m (0 + 1) S best).2 = _
        rw [pb_mbl_0 e4, e1]
        rfl
      · show ∀ x, _ → _ → _ → (pb_mbl M b m (0 + 1) S best).1 x = S3 x
        rw [pb_mbl_0 e4]
        exact hSx
    | cons b0 r =>
      unfold pq_chain at hc
      rw [Bool.and_eq_true, Bool.and_eq_true] at hc
      have e1 := pq_step (b := b) ha (hsr S hS) hn hb hh hc.1.1 hco
      have e2 : pq_nxt m a0 = some b0 := of_decide_eq_true hc.1.2
      have e3 : ∃ k, pq_tk (pq_at a0) (m - 1) = some k ∧ b0 = (List.range m).map (pq_tn (pq_at a0) m k) := by
        unfold pq_nxt at e2
        cases e : pq_tk (pq_at a0) (m - 1) with
        | none => rw [e] at e2; cases e2
        | some k =>
          rw [e] at e2
          exact ⟨k, rfl, (Option.some.inj e2).symm⟩
      obtain ⟨k, e3, e5⟩ := e3
      have e4 := etk.trans e3
      have hk := pq_tk_lt e3
      have hco2 := pq_tnE hco1 hb hk
      have hco3 : pq_co (pb_tn (pb_mbo M b m 0 (pb_mclr S M)).1 M m k (M + 24)) (pq_at b0) bs m := by
        intro j hj
        have h9 : pq_at b0 j = pq_tn (pq_at a0) m k j := by
          rw [e5, pq_at_map (by rw [List.length_range]; exact hj)]
          congr 1
          unfold pq_at
          rw [List.getD_eq_getElem?_getD, List.getElem?_range hj]
          rfl
        rw [h9]
        exact hco2 j hj
      obtain ⟨i1, i2, i3⟩ := ih (pb_tn (pb_mbo M b m 0 (pb_mclr S M)).1 M m k) b0 (pb_mbs best (pb_mbo M b m 0 (pb_mclr S M)).2) hc.2 rfl hco3 (fun x h1 h2 h3 => by rw [pq_tn_ne h3]; exact hSx x h1 h2 h3)
      refine ⟨?_, ?_, ?_⟩
      · show pb_mbT M b m ((b0 :: r).length + 1) S
        unfold pb_mbT
        rw [e4]
        exact i1
      · show (pb_mbl M b m ((b0 :: r).length + 1) S best).2 = _
        rw [pb_mbl_1 e4, i2, e1]
        rfl
      · show ∀ x, _ → _ → _ → (pb_mbl M b m ((b0 :: r).length + 1) S best).1 x = S3 x
        rw [pb_mbl_1 e4]
        exact i3
/-- best so far: the class's, and the reference's with none -/
def pq_rel (B best : Int32) : Prop := (best = -1 ∧ B = nI 400) ∨ (best = B ∧ ∃ x, x < 400 ∧ B = nI x)
theorem pq_rel_fold {s p : Nat} {T : pb_Sg} {bs : Nat → Nat} (Ls : List (List Nat)) : ∀ (B best : Int32), pq_rel B best → (∀ l, l ∈ Ls → ∀ e, pq_val s p (l.map bs) T (-1) = some e → ∃ x, x < 400 ∧ e = nI x) → pq_rel (Ls.foldl (fun B l => pq_bf s p T (-1) B (l.map bs)) B) (Ls.foldl (fun best l => pb_mbs best (pq_mv s p T bs l)) best) := by
  induction Ls with
  | nil => intro B best h _; exact h
  | cons l Ls ih =>
    intro B best h hv
    rw [List.foldl_cons, List.foldl_cons]
    refine ih _ _ ?_ (fun l hl => hv l (List.mem_cons_of_mem _ hl))
    unfold pq_bf pq_mv
    cases e : pq_val s p (l.map bs) T (-1) with
    | none =>
      show pq_rel B (pb_mbs best (-1))
      unfold pb_mbs
      rw [if_neg (fun q => q.1 rfl)]
      exact h
    | some v =>
      obtain ⟨x, hx, rfl⟩ := hv l List.mem_cons_self v e
      show pq_rel (if nI x < B then nI x else B) (pb_mbs best (nI x))
      unfold pb_mbs
      have hne : ¬ nI x = -1 := pb_m1_ne (by omega)
      rcases h with ⟨rfl, rfl⟩ | ⟨rfl, y, hy, rfl⟩
      · rw [if_pos ((nI_ltI (by omega) (by omega)).mpr hx), if_pos ⟨hne, Or.inl rfl⟩]
        exact Or.inr ⟨rfl, x, hx, rfl⟩
      · by_cases e2 : nI x < nI y
        · rw [if_pos e2, if_pos ⟨hne, Or.inr e2⟩]
          exact Or.inr ⟨rfl, x, hx, rfl⟩
        · rw [if_neg e2, if_neg (fun q => q.2.elim (pb_m1_ne (by omega)) e2)]
          exact Or.inr ⟨rfl, y, hy, rfl⟩
theorem pq_val_rng {s p : Nat} (ha : pb_ap s p) (l : List Nat) : ∀ (S : pb_Sg) (E e : Int32), pb_si S s p → (l ≠ [] ∧ E = -1 ∨ ∃ x, x < 400 ∧ E = nI x) → (∀ t, t ∈ l → t < 16 ∧ pb_has (S (p + 1)) t = true) → pq_val s p l S E = some e → ∃ x, x < 400 ∧ e = nI x := by
  induction l with
  | nil =>
    intro S E e hs hE hl h
    cases h
    rcases hE with ⟨h1, _⟩ | h1
    · exact absurd rfl h1
    · exact h1
  | cons t l ih =>
    intro S E e hs hE hl h
    cases h1 : pq_rd S s p t
    · rw [pq_val_f h1] at h; cases h
    · cases h2 : pb_ear S s p t with
      | none => rw [pq_val_x h1 h2] at h; cases h
      | some d =>
        rw [pq_val_s h1 h2] at h
        obtain ⟨ht, hh⟩ := hl t List.mem_cons_self
        have hd := pb_ear_le hs h2
        obtain ⟨⟨k, hk, ek⟩, -⟩ := hs.1 t ht
        have hk1 := (pq_has hk ek).mp hh
        rw [ek, pb_nat_nI (by omega)] at hd
        refine ih (pb_place S s p t d) _ e (pb_si_place ha hs ht (by rw [ek, pb_nat_nI (by omega)]; exact hd)) (Or.inr ?_) (fun j hj => ?_) h
        · rw [ek, nI_add, pb_n1 (show 1 ≤ d + k by omega)]
          rcases hE with ⟨_, rfl⟩ | ⟨x, hx, rfl⟩
          · exact ⟨d + k - 1, by omega, pq_mx_m1 (by omega)⟩
          · refine ⟨max x (d + k - 1), by omega, ?_⟩
            unfold pb_mx
            by_cases e2 : x < d + k - 1
            · rw [if_pos ((nI_ltI (by omega) (by omega)).mpr e2), Nat.max_eq_right (by omega)]
            · rw [if_neg (fun q => e2 ((nI_ltI (by omega) (by omega)).mp q)), Nat.max_eq_left (by omega)]
        · obtain ⟨a1, a2⟩ := hl j (List.mem_cons_of_mem _ hj)
          refine ⟨a1, ?_⟩
          unfold pb_has at a2 ⊢
          rw [pb_place_p ha (by omega) hs.1 ht]
          exact a2
