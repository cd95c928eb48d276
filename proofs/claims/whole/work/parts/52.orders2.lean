/-! The earliest last day by all orders: the class's search is the reference's walk over all orders. -/
/-- all needs of a task have been placed, at the class -/
def pq_rd (S : pb_Sg) (s p t : Nat) : Bool := decide ((S (p + 4) t &&& (S s 2 ^^^ (-1))) = 0)
theorem pq_rdU {S : pb_Sg} {s p t : Nat} {U : Int32} : pb_rdy S s p U t = (pb_in U t && pq_rd S s p t) := rfl
theorem pq_rdE {S S' : pb_Sg} {s p M q t : Nat} (h : pq_sr S S' s p M q) (hn : pq_nb S p) (ht : t < 16) : pq_rd S s p t = pb_mrd S' M q t 16 := by
  have h1 := pq_rdy (U := -1) h hn ht
  rw [pq_rdU, pb_in_m1 (by omega), Bool.true_and, Bool.true_and] at h1
  exact h1
/-- what an order comes to, from here, the last day so far being E -/
def pq_val (s p : Nat) : List Nat → pb_Sg → Int32 → Option Int32
  | [], _, E => some E
  | t :: l, S, E => if pq_rd S s p t = true then (match pb_ear S s p t with
    | none => none
    | some d => pq_val s p l (pb_place S s p t d) (pb_mx E (nI d + S (p + 1) t - nI 1))) else none
def pq_bf (s p : Nat) (S : pb_Sg) (E B : Int32) (l : List Nat) : Int32 := match pq_val s p l S E with
  | none => B
  | some e => if e < B then e else B
theorem pq_val_f {s p t : Nat} {l : List Nat} {S : pb_Sg} {E : Int32} (h : pq_rd S s p t = false) : pq_val s p (t :: l) S E = none := by
  conv => lhs; unfold pq_val
  rw [if_neg (by rw [h]; decide)]
theorem pq_val_x {s p t : Nat} {l : List Nat} {S : pb_Sg} {E : Int32} (h : pq_rd S s p t = true) (he : pb_ear S s p t = none) : pq_val s p (t :: l) S E = none := by
  conv => lhs; unfold pq_val
  rw [if_pos h, he]
theorem pq_val_s {s p t d : Nat} {l : List Nat} {S : pb_Sg} {E : Int32} (h : pq_rd S s p t = true) (he : pb_ear S s p t = some d) : pq_val s p (t :: l) S E = pq_val s p l (pb_place S s p t d) (pb_mx E (nI d + S (p + 1) t - nI 1)) := by
  conv => lhs; unfold pq_val
  rw [if_pos h, he]
theorem pq_val_ge {s p : Nat} (l : List Nat) : ∀ (S : pb_Sg) (E e : Int32), pq_val s p l S E = some e → E ≤ e := by
  induction l with
  | nil => intro S E e h; cases h; exact Int32.le_refl _
  | cons t l ih =>
    intro S E e h
    cases h1 : pq_rd S s p t
    · rw [pq_val_f h1] at h; cases h
    · cases h2 : pb_ear S s p t with
      | none => rw [pq_val_x h1 h2] at h; cases h
      | some d =>
        rw [pq_val_s h1 h2] at h
        exact Int32.le_trans (pq_mx_l _ _) (ih _ _ _ h)
theorem pq_bf_n {s p : Nat} {S : pb_Sg} {E B : Int32} {l : List Nat} (h : pq_val s p l S E = none) : pq_bf s p S E B l = B := by
  unfold pq_bf
  rw [h]
theorem pq_bf_ge {s p : Nat} {S : pb_Sg} {E B : Int32} {l : List Nat} (h : ∀ e, pq_val s p l S E = some e → B ≤ e) : pq_bf s p S E B l = B := by
  unfold pq_bf
  cases h1 : pq_val s p l S E with
  | none => rfl
  | some e => exact if_neg (Int32.not_lt.mpr (h e h1))
theorem pq_foldl_id {α : Type} {g : Int32 → α → Int32} {f : Int32} : ∀ L : List α, (∀ l, l ∈ L → g f l = f) → L.foldl g f = f := by
  intro L
  induction L with
  | nil => intro _; rfl
  | cons a L ih =>
    intro h
    rw [List.foldl_cons, h a List.mem_cons_self]
    exact ih fun l hl => h l (List.mem_cons_of_mem _ hl)
theorem pq_off_cnt1 {U : Int32} {t : Nat} (ht : t < 16) (h : pb_in U t = true) (n : Nat) (hn : n ≤ 16) : pb_cnt (pb_in U) n = if t < n then pb_cnt (pb_in (pb_off U t)) n + 1 else pb_cnt (pb_in (pb_off U t)) n := by
  induction n with
  | zero => rfl
  | succ n ih =>
    have ih := ih (by omega)
    unfold pb_cnt
    rw [pb_off_in (by omega) (by omega)]
    by_cases e : n = t
    · subst e
      rw [if_neg (by omega)] at ih
      rw [h, if_pos rfl, ih, if_pos (by omega)]
      simp
    · have e2 : (pb_in U n && !decide (n = t)) = pb_in U n := by simp [e]
      rw [e2, ih]
      by_cases e3 : t < n
      · rw [if_pos e3, if_pos (show t < n + 1 by omega)]
        split <;> rfl
      · rw [if_neg e3, if_neg (show ¬ t < n + 1 by omega)]
theorem pq_cnt0 {U : Int32} (hW : pq_W U) (h : pb_cnt (pb_in U) 16 = 0) : U = 0 := by
  apply pb_in_ext
  intro j hj
  have e0 : pb_in (0 : Int32) j = false := pb_in_0 j
  rw [e0]
  cases e : pb_in U j
  · rfl
  · by_cases e2 : j < 16
    · have := pb_off_cnt e2 e
      omega
    · rw [hW j (by omega)] at e; cases e
theorem pq_cnt_0 : pb_cnt (pb_in (0 : Int32)) 16 = 0 := by decide +kernel
theorem pq_off_W {U : Int32} {t : Nat} (hW : pq_W U) : pq_W (pb_off U t) := fun j hj => by
  unfold pb_off
  rw [pb_in_and, hW j hj, Bool.false_and]
theorem pq_ebo {s p : Nat} (k : Nat) : ∀ (S : pb_Sg) (U E B : Int32), pq_W U → pb_cnt (pb_in U) 16 ≤ k → E < B → pb_ebo s p k S U E B = (pq_pm (pb_cnt (pb_in U) 16) (pq_elN (pb_in U) 16)).foldl (pq_bf s p S E) B := by
  induction k with
  | zero =>
    intro S U E B hW hk hE
    rw [show pb_cnt (pb_in U) 16 = 0 by omega]
    show E = (if E < B then E else B)
    rw [if_pos hE]
  | succ k ih =>
    intro S U E B hW hk hE
    unfold pb_ebo
    by_cases e0 : U = 0
    · rw [if_pos e0, e0, pq_cnt_0]
      show E = (if E < B then E else B)
      rw [if_pos hE]
    · rw [if_neg e0]
      obtain ⟨m, hm⟩ : ∃ m, pb_cnt (pb_in U) 16 = m + 1 := ⟨pb_cnt (pb_in U) 16 - 1, by
        have : ¬ pb_cnt (pb_in U) 16 = 0 := fun q => e0 (pq_cnt0 hW q)
        omega⟩
      rw [hm]
      have key : ∀ n, n ≤ 16 → pb_ebl (pb_ebo s p k) s p S U E B n = ((pq_elN (pb_in U) n).flatMap (fun t => (pq_pm m ((pq_elN (pb_in U) 16).filter (fun x => x != t))).map (fun r => t :: r))).foldl (pq_bf s p S E) B := by
        intro n
        induction n with
        | zero => intro _; rfl
        | succ n ihn =>
          intro hn
          have ihn := ihn (by omega)
          unfold pb_ebl
          rw [pq_elN_s n, ihn]
          unfold pb_ebs
          rw [pq_rdU]
          generalize hf : ((pq_elN (pb_in U) n).flatMap (fun t => (pq_pm m ((pq_elN (pb_in U) 16).filter (fun x => x != t))).map (fun r => t :: r))).foldl (pq_bf s p S E) B = f
          cases e1 : pb_in U n
          · rw [if_neg (show ¬ false = true by decide), Bool.false_and, if_neg (by decide), hf]
          · rw [if_pos rfl, List.flatMap_append, List.foldl_append, hf, List.flatMap_cons, List.flatMap_nil, List.append_nil, List.foldl_map, Bool.true_and, pq_elN_off (by omega) (by omega)]
            have hc1 := pq_off_cnt1 (by omega) e1 16 (by omega)
            rw [if_pos (by omega), hm] at hc1
            cases e2 : pq_rd S s p n
            · rw [if_neg (by decide)]
              exact (pq_foldl_id _ fun l _ => pq_bf_n (l := n :: l) (pq_val_f e2)).symm
            · rw [if_pos rfl]
              cases e3 : pb_ear S s p n with
              | none => exact (pq_foldl_id _ fun l _ => pq_bf_n (l := n :: l) (pq_val_x e2 e3)).symm
              | some d =>
                show (if pb_mx E (nI d + S (p + 1) n - nI 1) < f then _ else f) = _
                by_cases e4 : pb_mx E (nI d + S (p + 1) n - nI 1) < f
                · rw [if_pos e4]
                  have h9 := ih (pb_place S s p n d) (pb_off U n) (pb_mx E (nI d + S (p + 1) n - nI 1)) f (pq_off_W hW) (by omega) e4
                  rw [show pb_cnt (pb_in (pb_off U n)) 16 = m by omega] at h9
                  have e9 : pq_bf s p (pb_place S s p n d) (pb_mx E (nI d + S (p + 1) n - nI 1)) = fun B l => pq_bf s p S E B (n :: l) := by
                    funext B l
                    unfold pq_bf
                    rw [pq_val_s e2 e3]
                  rw [e9] at h9
                  exact h9
                · rw [if_neg e4]
                  exact (pq_foldl_id _ fun l _ => pq_bf_ge (s := s) (p := p) (S := S) (E := E) (l := n :: l) fun e he => by
                    rw [pq_val_s e2 e3] at he
                    exact Int32.le_trans (Int32.not_lt.mp e4) (pq_val_ge _ _ _ _ he)).symm
      rw [key 16 (by omega)]
      rfl
theorem pq_mx_le {x y z : Int32} : pb_mx x y ≤ z ↔ x ≤ z ∧ y ≤ z := by
  unfold pb_mx
  by_cases e : x < y
  · rw [if_pos e]
    exact ⟨fun h => ⟨Int32.le_trans (Int32.le_of_lt e) h, h⟩, fun h => h.2⟩
  · rw [if_neg e]
    exact ⟨fun h => ⟨h, Int32.le_trans (Int32.not_lt.mp e) h⟩, fun h => h.1⟩
theorem pq_ml_le {S : pb_Sg} {M q : Nat} {z : Int32} (n : Nat) : pb_mlast S M q n ≤ z ↔ (-1 : Int32) ≤ z ∧ ∀ j, j < n → pb_mle S M q j ≤ z := by
  induction n with
  | zero => exact ⟨fun h => ⟨h, fun j hj => absurd hj (Nat.not_lt_zero _)⟩, fun h => h.1⟩
  | succ n ih =>
    unfold pb_mlast
    rw [pq_mx_le, ih]
    constructor
    · rintro ⟨⟨h1, h2⟩, h3⟩
      refine ⟨h1, fun j hj => ?_⟩
      by_cases e : j = n
      · rw [e]; exact h3
      · exact h2 j (by omega)
    · rintro ⟨h1, h2⟩
      exact ⟨⟨h1, fun j hj => h2 j (by omega)⟩, h2 n (by omega)⟩
theorem pq_eq_of_le {x y : Int32} (h : ∀ z, x ≤ z ↔ y ≤ z) : x = y := Int32.le_antisymm ((h y).mpr (Int32.le_refl _)) ((h x).mp (Int32.le_refl _))
/-- the last day when one more is placed -/
theorem pq_mlast_pl {S : pb_Sg} {M q t d : Nat} (ht : t < 16) (h : S (M + 21) t = -1) (hd : d < 2147483648) : pb_mlast (pb_mpl S M q t d) M q 16 = pb_mx (pb_mlast S M q 16) (nI d + S (M + 1) (16 * q + t) - nI 1) := by
  have e1 : ∀ j, j ≠ t → pb_mle (pb_mpl S M q t d) M q j = pb_mle S M q j := fun j hj => by
    unfold pb_mle
    rw [pb_mpl_21, if_neg hj, pb_mpl_ne (by omega) (by omega)]
  have e2 : pb_mle (pb_mpl S M q t d) M q t = nI d + S (M + 1) (16 * q + t) - nI 1 := by
    unfold pb_mle
    rw [pb_mpl_21, if_pos rfl, if_neg (pb_m1_ne hd), pb_mpl_ne (by omega) (by omega)]
  have e3 : pb_mle S M q t = -1 := by
    unfold pb_mle
    rw [if_pos h]
  refine pq_eq_of_le fun z => ?_
  rw [pq_mx_le, pq_ml_le, pq_ml_le]
  constructor
  · rintro ⟨h1, h2⟩
    refine ⟨⟨h1, fun j hj => ?_⟩, ?_⟩
    · by_cases e : j = t
      · rw [e, e3]; exact h1
      · rw [← e1 j e]; exact h2 j hj
    · rw [← e2]; exact h2 t ht
  · rintro ⟨⟨h1, h2⟩, h3⟩
    refine ⟨h1, fun j hj => ?_⟩
    by_cases e : j = t
    · rw [e, e2]; exact h3
    · rw [e1 j e]; exact h2 j hj
/-- an order, walked by the reference -/
theorem pq_mrun {s p M q : Nat} (ha : pb_ap s p) (l : List Nat) : ∀ (k : Nat) (S S' : pb_Sg) (E : Int32), pq_sr S S' s p M q → pq_nb S p → (∀ t, t ∈ l → t < 16 ∧ pb_has (S (p + 1)) t = true ∧ S' (M + 21) t = -1) → l.Nodup → (∀ i, i < l.length → S' (M + 24) (k + i) = nI (pq_at l i)) → pb_mlast S' M q 16 = E → (pb_mbo M q l.length k S').2 = (match pq_val s p l S E with | none => -1 | some e => e) := by
  induction l with
  | nil => intro k S S' E _ _ _ _ _ hE; exact hE
  | cons t l ih =>
    intro k S S' E h hn hl hnd ho hE
    obtain ⟨ht, hh, hf⟩ := hl t List.mem_cons_self
    have et : pb_nat (S' (M + 24) k) = t := by
      have h1 : S' (M + 24) k = nI t := ho 0 (Nat.zero_lt_succ _)
      rw [h1]
      exact pb_nat_nI (show t < 2147483648 by omega)
    have er := pq_rdE h hn ht
    have ee := pq_ear h ht hh
    rw [List.length_cons]
    cases e1 : pq_rd S s p t
    · rw [pq_val_f e1, pb_mbo_f et (er.symm.trans e1)]
    · cases e2 : pb_ear S s p t with
      | none => rw [pq_val_x e1 e2, pb_mbo_x et (er.symm.trans e1) (ee.symm.trans e2)]
      | some d =>
        rw [pq_val_s e1 e2, pb_mbo_s et (er.symm.trans e1) (ee.symm.trans e2)]
        have hd := pb_ear_le h.2.2.2.2 e2
        have hwf := h.2.2.2.2.1
        have hne : ∀ j, j ∈ l → j ≠ t := fun j hj q => (List.nodup_cons.mp hnd).1 (q ▸ hj)
        refine ih (k + 1) (pb_place S s p t d) (pb_mpl S' M q t d) _ (pq_place ha h ht e2) (hn.of fun j hj => pb_place_p ha (by omega) hwf ht) (fun j hj => ?_) (List.nodup_cons.mp hnd).2 (fun i hi => ?_) ?_
        · obtain ⟨a1, a2, a3⟩ := hl j (List.mem_cons_of_mem _ hj)
          refine ⟨a1, ?_, ?_⟩
          · unfold pb_has at a2 ⊢
            rw [pb_place_p ha (by omega) hwf ht]
            exact a2
          · rw [pb_mpl_21, if_neg (hne j hj)]
            exact a3
        · rw [pb_mpl_ne (by omega) (by omega)]
          have h1 := ho (i + 1) (by rw [List.length_cons]; omega)
          rw [show k + 1 + i = k + (i + 1) by omega, h1]
          rfl
        · rw [pq_mlast_pl ht hf (by omega), hE, (h.1 t ht).1]
