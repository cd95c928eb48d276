/-! One branch changes. -/
theorem pq_inv.upd {X n : Nat} {B par : Nat → Nat} {sz : Nat} {sk : pb_Sk} {rf : pb_Rf} {S S' T T' : pb_Sg} (hsk : pq_sk X n B par sz sk rf) (h : pq_inv X n B par S S') {b : Nat} (hb : b < n) (hC : ∀ a, (a < B b ∨ B b + 18 ≤ a) → T a = S a) (hM : ∀ k j, 1 ≤ k → k ≤ 18 → ¬ pq_oB b k j → (0 < b → ¬ pq_oC b k j) → T' (X + 45 + k) j = S' (X + 45 + k) j) (h8 : T' (X + 45) 8 = S' (X + 45) 8) (h20 : T' (X + 45) 20 = S' (X + 45) 20) (hib : pq_ib X T T' (B b) b) (hic : 0 < b → pq_ic X T T' (B b) b (par b)) : pq_inv X n B par T T' := by
  obtain ⟨⟨a1, a2, a3⟩, a4, a5, a6⟩ := h
  have hbl := pq_bl hsk hb
  have hn8 := (pq_n8 hsk).2
  refine ⟨⟨by rw [hC X (by omega), a1], by rw [h8, a2], ?_, fun c c1 c2 => ?_⟩, fun c hc => ?_, fun c c0 hc => ?_, ?_⟩
  · rw [hM 5 0 (by omega) (by omega) (by unfold pq_oB; omega) (fun b0 => by unfold pq_oC; omega), a3.1]
  · rw [hM 13 c (by omega) (by omega) (by unfold pq_oB; omega) (fun b0 => by unfold pq_oC; omega), a3.2 c c1 c2]
  · by_cases e : c = b
    · rw [e]; exact hib
    · have hd := pq_dis hsk hc hb e
      exact (a4 c hc).of (fun a e1 e2 => hC a (by omega)) (fun k j hk => hM k j (by unfold pq_oB at hk; omega) (by unfold pq_oB at hk; omega) (by unfold pq_oB at hk ⊢; omega) (fun b0 => by unfold pq_oB at hk; unfold pq_oC; omega))
  · by_cases e : c = b
    · rw [e]; exact hic (by omega)
    · have hd := pq_dis hsk hc hb e
      exact (a5 c c0 hc).of (fun a e1 e2 _ => hC a (by omega)) (fun k j hk => hM k j (by unfold pq_oC at hk; omega) (by unfold pq_oC at hk; omega) (by unfold pq_oC at hk; unfold pq_oB; omega) (fun b0 => by unfold pq_oC at hk ⊢; omega))
  · exact a6.of (fun a e1 e2 => hC a (by omega)) (by rw [hC (X + 20) (by omega)]) (fun k k1 k2 => by funext j; exact hM k j (by omega) k2 (by unfold pq_oB; omega) (fun b0 => by unfold pq_oC; omega)) h20
theorem pq_eq_put {T T' : pb_Sg} {p M q n : Nat} {a b c e : Int32} (h : pq_eq T T' p M q) : pq_eq (pb_put T p n a b c e) (pb_ml T' M (16 * q + n) a b c e) p M q := by
  intro t ht
  rw [pq_ml_put, pq_put_1, pq_put_2, pq_put_3, pq_put_4, pq_put_1, pq_put_2, pq_put_3, pq_put_4]
  by_cases e : t = n
  · rw [if_pos e, if_pos e, if_pos e, if_pos e, if_pos (by omega), if_pos (by omega), if_pos (by omega), if_pos (by omega)]
    exact ⟨rfl, rfl, rfl, rfl⟩
  · rw [if_neg e, if_neg e, if_neg e, if_neg e, if_neg (by omega), if_neg (by omega), if_neg (by omega), if_neg (by omega)]
    exact h t ht
theorem pq_gp_put {T : pb_Sg} {p n : Nat} {a b c e : Int32} (h : pq_gpN T p 16) (hg : pq_gr a b e) : pq_gpN (pb_put T p n a b c e) p 16 := by
  intro t ht
  rw [pq_put_1, pq_put_2, pq_put_4]
  by_cases e : t = n
  · rw [if_pos e, if_pos e, if_pos e]
    exact hg
  · rw [if_neg e, if_neg e, if_neg e]
    exact h t ht
theorem pq_mkk_out {S : pb_Sg} {M b t s k j : Nat} (hs : s ≤ 30) (k1 : 1 ≤ k) (h : ¬ pq_oB b k j) : pb_mkk S M b t s (M + k) j = S (M + k) j := by
  unfold pq_oB at h
  by_cases e : k < 8 ∨ 13 < k
  · rw [pq_mkk_ne (by omega)]
  · have h9 : k = 8 ∨ k = 9 ∨ k = 10 ∨ k = 11 ∨ k = 12 ∨ k = 13 := by omega
    rcases h9 with rfl | rfl | rfl | rfl | rfl | rfl
    · exact pq_mkkO_8 hs (by omega)
    · exact pq_mkkO_9 hs (by omega)
    · exact pq_mkkO_10 hs (by omega)
    · exact pq_mkkO_11 hs (by omega)
    · exact pq_mkkO_12 hs (by omega)
    · exact pq_mkkO_13 (by omega)
theorem pq_ml_out {S : pb_Sg} {M b t k j : Nat} {x y z w : Int32} (ht : t < 16) (k1 : 1 ≤ k) (h : ¬ pq_oB b k j) : pb_ml S M (16 * b + t) x y z w (M + k) j = S (M + k) j := by
  unfold pq_oB at h
  by_cases e : k ≤ 4
  · exact pq_ml_lo k1 e (by omega)
  · rw [pb_ml_ne (by omega)]
/-- a task is kept, then laid anew: a change of a plan -/
theorem pq_chg {X n : Nat} {B par : Nat → Nat} {sz : Nat} {sk : pb_Sk} {rf : pb_Rf} {S S' : pb_Sg} (hsk : pq_sk X n B par sz sk rf) (h : pq_inv X n B par S S') {b t nx s : Nat} (hb : b < n) (ht : t < 16) (hr : pq_hr S S' (B b + 11) (X + 45) b nx s) {x y z w : Int32} (hg : pq_gr x y w) : pq_inv X n B par (pb_put (pb_keep S (B b + 11) (B b + 1) t nx s) (B b + 1) t x y z w) (pb_ml (pb_mkk S' (X + 45) b t s) (X + 45) (16 * b + t) x y z w) := by
  have hs30 := hr.2.1
  have i1 := h.2.1 b hb
  have kn : ∀ a, (a < B b + 11 ∨ B b + 11 + 5 < a) → pb_keep S (B b + 11) (B b + 1) t nx s a = S a := fun a ha => pq_keep_ne (by omega) ha
  have E : pq_eq (pb_keep S (B b + 11) (B b + 1) t nx s) (pb_mkk S' (X + 45) b t s) (B b + 1) (X + 45) b := i1.1.of (fun k hk j hj => by rw [kn _ (by omega)]) (fun k k1 k4 j hj => by rw [pq_mkk_ne (by omega)])
  have hh := pq_hr_keep (p := B b + 1) (by omega) hr ht (i1.1 t ht) (i1.2.1 t ht)
  refine h.upd hsk hb (fun a ha => ?_) (fun k j k1 k18 hk hk2 => ?_) ?_ ?_ ⟨pq_eq_put E, pq_gp_put (pq_gpN_of i1.2.1 (fun k k1 k4 j hj => by rw [kn _ (by omega)])) hg, ?_, ?_, _, _, hh.of (fun a e1 e2 => pq_put_ne (by omega)) (fun k k1 k2 i hi => by rw [pb_ml_ne (by omega)]) (by rw [pb_ml_ne (by omega)])⟩ (fun b0 => (h.2.2.1 b b0 hb).of (fun a e1 e2 e3 => ?_) (fun k j hk => ?_))
  · rw [pq_put_ne (by omega), kn a (by omega)]
  · rw [pq_ml_out ht k1 hk, pq_mkk_out hs30 k1 hk]
  · rw [pb_ml_ne (by omega), pq_mkk_ne (by omega)]
  · rw [pb_ml_ne (by omega), pq_mkk_ne (by omega)]
  · rw [pq_put_ne (by omega), kn _ (by omega), i1.2.2.1]
  · rw [pq_put_ne (by omega), kn _ (by omega), pb_ml_ne (by omega), pq_mkk_ne (by omega), i1.2.2.2.1]
  · rw [pq_put_ne (by omega), kn a (by omega)]
  · have hnb : ¬ pq_oB b k j := by have := (pq_n8 hsk).2; unfold pq_oC at hk; unfold pq_oB; omega
    rw [pq_ml_out ht (by unfold pq_oC at hk; omega) hnb, pq_mkk_out hs30 (by unfold pq_oC at hk; omega) hnb]
theorem pq_len_gr {len : Int32} (h1 : nI 1 ≤ len) (h2 : len ≤ nI 20) : (∃ n, n ≤ 20 ∧ len = nI n) ∧ ¬ len = nI 0 := by
  obtain ⟨j, hj, rfl⟩ := pq_rng (x := len) (m := 20) (by omega) ⟨Int32.le_trans (nI_le (by omega) (by omega)) h1, h2⟩
  refine ⟨⟨j, hj, rfl⟩, fun q => ?_⟩
  rw [q] at h1
  exact absurd h1 (by decide)
theorem pq_crew_gr {c : Int32} (h3 : -1 ≤ c) (h4 : c ≤ nI 4) : c = -1 ∨ ∃ k, k < 5 ∧ c = nI k := by
  by_cases e : c < 0
  · left
    have e1 := Int32.lt_iff_toInt_lt.mp e
    have e2 := Int32.le_iff_toInt_le.mp h3
    have e3 : ((-1 : Int32)).toInt = -1 := by decide
    have e4 : ((0 : Int32)).toInt = 0 := by decide
    apply Int32.toInt_inj.mp
    omega
  · obtain ⟨j, hj, rfl⟩ := pq_rng (x := c) (m := 4) (by omega) ⟨Int32.not_lt.mp e, h4⟩
    exact Or.inr ⟨j, by omega, rfl⟩
/-- a task that isn't there needs nothing -/
theorem pq_needs0 {l c e : Int32} (h : pq_gr l c e) {f : Nat → Int32} {t : Nat} (hf : f t = l) : (if pb_has f t = true then e else nI 0) = e := by
  by_cases hh : pb_has f t = true
  · rw [if_pos hh]
  · rw [if_neg hh]
    obtain ⟨k, hk, ek⟩ := h.1
    have h0 : ¬ 1 ≤ k := fun q => hh ((pq_has (S := fun _ => f) (a := 0) hk (hf.trans ek)).mpr q)
    exact (h.2.2.2 (by rw [ek, show k = 0 by omega])).symm
theorem pq_set_any {c : Nat → Bool} (n : Nat) (hn : n ≤ 16) : pb_set c n = 0 ↔ pb_any c n = false := by
  induction n with
  | zero => exact ⟨fun _ => rfl, fun _ => rfl⟩
  | succ n ih =>
    have ih := ih (by omega)
    unfold pb_any
    rw [Bool.or_eq_false_iff, ← ih]
    cases e : c n
    · rw [pb_set_f e]
      exact ⟨fun h => ⟨h, rfl⟩, fun h => h.1⟩
    · rw [pb_set_t e]
      constructor
      · intro h
        have h1 : pb_in (pb_set c n ||| (nI 1 <<< (nI n &&& 31))) n = true := by
          rw [pb_in_or, pb_in_bit (by omega) (by omega), decide_eq_true rfl, Bool.or_true]
        rw [h] at h1
        have h2 : pb_in (0 : Int32) n = false := pb_in_0 n
        rw [h2] at h1
        cases h1
      · intro h; cases h.2
/-- a need is set or taken -/
theorem pq_chgN {X n : Nat} {B par : Nat → Nat} {sz : Nat} {sk : pb_Sk} {rf : pb_Rf} {S S' : pb_Sg} (hsk : pq_sk X n B par sz sk rf) (h : pq_inv X n B par S S') {b t nx s : Nat} (hb : b < n) (ht : t < 16) (hr : pq_hr S S' (B b + 11) (X + 45) b nx s) {w : Int32} (hw : pq_W w) (hh : pb_has (S (B b + 1 + 1)) t = true) : pq_inv X n B par (pb_up (pb_keep S (B b + 11) (B b + 1) t nx s) (B b + 1 + 4) t w) (pb_up (pb_mkk S' (X + 45) b t s) (X + 45 + 4) (16 * b + t) w) := by
  have i1 := h.2.1 b hb
  have g := i1.2.1 t ht
  have hc := pq_chg (x := S (B b + 1 + 1) t) (y := S (B b + 1 + 2) t) (z := S (B b + 1 + 3) t) (w := w) hsk h hb ht hr ⟨g.1, g.2.1, hw, fun q => absurd q (pq_has_ne hh)⟩
  have e1 : pb_put (pb_keep S (B b + 11) (B b + 1) t nx s) (B b + 1) t (S (B b + 1 + 1) t) (S (B b + 1 + 2) t) (S (B b + 1 + 3) t) w = pb_up (pb_keep S (B b + 11) (B b + 1) t nx s) (B b + 1 + 4) t w := by
    unfold pb_put
    rw [pq_up_id (show pb_keep S (B b + 11) (B b + 1) t nx s (B b + 1 + 1) t = _ by rw [pq_keep_ne (by omega) (by omega)]), pq_up_id (show pb_keep S (B b + 11) (B b + 1) t nx s (B b + 1 + 2) t = _ by rw [pq_keep_ne (by omega) (by omega)]), pq_up_id (show pb_keep S (B b + 11) (B b + 1) t nx s (B b + 1 + 3) t = _ by rw [pq_keep_ne (by omega) (by omega)])]
  have e2 : pb_ml (pb_mkk S' (X + 45) b t s) (X + 45) (16 * b + t) (S (B b + 1 + 1) t) (S (B b + 1 + 2) t) (S (B b + 1 + 3) t) w = pb_up (pb_mkk S' (X + 45) b t s) (X + 45 + 4) (16 * b + t) w := by
    unfold pb_ml
    rw [pq_up_id (show pb_mkk S' (X + 45) b t s (X + 45 + 1) (16 * b + t) = _ by rw [pq_mkk_ne (by omega), (i1.1 t ht).1]), pq_up_id (show pb_mkk S' (X + 45) b t s (X + 45 + 2) (16 * b + t) = _ by rw [pq_mkk_ne (by omega), (i1.1 t ht).2.1]), pq_up_id (show pb_mkk S' (X + 45) b t s (X + 45 + 3) (16 * b + t) = _ by rw [pq_mkk_ne (by omega), (i1.1 t ht).2.2.1])]
  rw [e1, e2] at hc
  exact hc
theorem pq_offon {x : Int32} {o : Nat} (ho : o < 16) : (x &&& ((nI 1 <<< (nI o &&& 31)) ^^^ (-1))) ||| (nI 1 <<< (nI o &&& 31)) = x ||| (nI 1 <<< (nI o &&& 31)) := by
  apply pb_in_ext
  intro j hj
  rw [pb_in_or, pb_in_and, pb_in_xor, pb_in_or, pb_in_bit (by omega) hj, pb_in_m1 hj]
  cases pb_in x j <;> cases decide (j = o) <;> rfl
theorem pq_W_on {x : Int32} {o : Nat} (ho : o < 16) (h : pq_W x) : pq_W (x ||| (nI 1 <<< (nI o &&& 31))) := fun j hj => by
  by_cases e : j < 32
  · rw [pb_in_or, h j hj, pb_in_bit (by omega) e, decide_eq_false (by omega)]
    rfl
  · exact pb_in_big (by omega)
theorem pq_W_and {x y : Int32} (h : pq_W x) : pq_W (x &&& y) := fun j hj => by
  rw [pb_in_and, h j hj]
  rfl
/-- undoing the latest change -/
theorem pq_und {X n : Nat} {B par : Nat → Nat} {sz : Nat} {sk : pb_Sk} {rf : pb_Rf} {S S' : pb_Sg} (hsk : pq_sk X n B par sz sk rf) (h : pq_inv X n B par S S') {b t nx s : Nat} (hb : b < n) (ht : t < 16) (hr : pq_hr S S' (B b + 11) (X + 45) b nx s) (hs0 : 0 < s) : pq_inv X n B par (pb_rest S (B b + 11) (B b + 1) t nx s) (pb_ml (pb_up S' (X + 45 + 13) b (nI (s - 1))) (X + 45) (16 * b + t) (S' (X + 45 + 9) (30 * b + (s - 1))) (S' (X + 45 + 10) (30 * b + (s - 1))) (S' (X + 45 + 11) (30 * b + (s - 1))) (S' (X + 45 + 12) (30 * b + (s - 1)))) := by
  have i1 := h.2.1 b hb
  have hnx := hr.1
  have hs30 := hr.2.1
  have hv := pq_pv hnx hs30 hs0
  obtain ⟨v0, v1, v2, v3, v4, v5⟩ := hr.2.2.2.2.2 (s - 1) (by omega)
  rw [hv.2.1] at v1 v2 v3 v4 v5
  have an : ∀ a, a ≠ B b + 11 → pb_a2 S (B b + 11) nx s a = S a := fun a ha => by
    unfold pb_a2
    rw [pb_up_neA ha, pb_up_neA ha]
  have e1 : pb_rest S (B b + 11) (B b + 1) t nx s = pb_put (pb_a2 S (B b + 11) nx s) (B b + 1) t (S' (X + 45 + 9) (30 * b + (s - 1))) (S' (X + 45 + 10) (30 * b + (s - 1))) (S' (X + 45 + 11) (30 * b + (s - 1))) (S' (X + 45 + 12) (30 * b + (s - 1))) := by
    unfold pb_rest
    rw [an (B b + 11 + 2) (by omega), an (B b + 11 + 3) (by omega), an (B b + 11 + 4) (by omega), an (B b + 11 + 5) (by omega), v1, v2, v3, v4]
  rw [v1, v2, v4] at v5
  rw [e1]
  have E : pq_eq (pb_a2 S (B b + 11) nx s) (pb_up S' (X + 45 + 13) b (nI (s - 1))) (B b + 1) (X + 45) b := i1.1.of (fun k hk j hj => by rw [an _ (by omega)]) (fun k k1 k4 j hj => by rw [pb_up_neA (by omega)])
  have hh : pq_hr (pb_put (pb_a2 S (B b + 11) nx s) (B b + 1) t (S' (X + 45 + 9) (30 * b + (s - 1))) (S' (X + 45 + 10) (30 * b + (s - 1))) (S' (X + 45 + 11) (30 * b + (s - 1))) (S' (X + 45 + 12) (30 * b + (s - 1)))) (pb_ml (pb_up S' (X + 45 + 13) b (nI (s - 1))) (X + 45) (16 * b + t) (S' (X + 45 + 9) (30 * b + (s - 1))) (S' (X + 45 + 10) (30 * b + (s - 1))) (S' (X + 45 + 11) (30 * b + (s - 1))) (S' (X + 45 + 12) (30 * b + (s - 1)))) (B b + 11) (X + 45) b (pb_pv nx) (s - 1) := by
    refine pq_hr_undo hr hs0 (fun a e1 e2 => by rw [pq_put_ne (by omega), an a (by omega)]) ?_ ?_ (fun k k1 k2 => by rw [pb_ml_ne (by omega), pb_up_neA (by omega)]) ?_
    · rw [pq_put_ne (by omega)]
      unfold pb_a2
      rw [pb_up_ne3 (by omega), pb_up_self]
    · rw [pq_put_ne (by omega)]
      unfold pb_a2
      rw [pb_up_self]
    · rw [pb_ml_ne (by omega), pb_up_self]
  refine h.upd hsk hb (fun a ha => ?_) (fun k j k1 k18 hk hk2 => ?_) ?_ ?_ ⟨pq_eq_put E, pq_gp_put (pq_gpN_of i1.2.1 (fun k k1 k4 j hj => by rw [an _ (by omega)])) v5, ?_, ?_, _, _, hh⟩ (fun b0 => (h.2.2.1 b b0 hb).of (fun a e1 e2 e3 => ?_) (fun k j hk => ?_))
  · rw [pq_put_ne (by omega), an a (by omega)]
  · rw [pq_ml_out ht k1 hk, pb_up_at, if_neg (fun q => hk (by unfold pq_oB; omega))]
  · rw [pb_ml_ne (by omega), pb_up_neA (by omega)]
  · rw [pb_ml_ne (by omega), pb_up_neA (by omega)]
  · rw [pq_put_ne (by omega), an _ (by omega), i1.2.2.1]
  · rw [pq_put_ne (by omega), an _ (by omega), pb_ml_ne (by omega), pb_up_neA (by omega), i1.2.2.2.1]
  · rw [pq_put_ne (by omega), an a (by omega)]
  · have hnb : ¬ pq_oB b k j := by have := (pq_n8 hsk).2; unfold pq_oC at hk; unfold pq_oB; omega
    rw [pq_ml_out ht (by unfold pq_oC at hk; omega) hnb, pb_up_at, if_neg (fun q => hnb (by unfold pq_oB; omega))]
theorem pq_bud {X n : Nat} {B par : Nat → Nat} {sz : Nat} {sk : pb_Sk} {rf : pb_Rf} {S S' : pb_Sg} (hsk : pq_sk X n B par sz sk rf) (h : pq_inv X n B par S S') {b : Nat} (hb : b < n) {x : Int32} : pq_inv X n B par (pb_up S (B b) 6 x) (pb_up S' (X + 45 + 6) b x) := by
  obtain ⟨a1, a2, a3, a4, nx, s, a5⟩ := h.2.1 b hb
  refine h.upd hsk hb (fun a ha => pb_up_neA (by omega)) (fun k j k1 k18 hk hk2 => ?_) (by rw [pb_up_neA (by omega)]) (by rw [pb_up_neA (by omega)]) ⟨a1.of (fun k hk t ht => ?_) (fun k k1 k4 t ht => by rw [pb_up_neA (by omega)]), pq_gpN_of a2 (fun k k1 k4 t ht => by rw [pb_up_neA (by omega)]), by rw [pb_up_ne3 (by omega), a3], by rw [pb_up_self, pb_up_self], nx, s, a5.of (fun a e1 e2 => pb_up_neA (by omega)) (fun k k1 k2 i hi => by rw [pb_up_neA (by omega)]) (by rw [pb_up_neA (by omega)])⟩ (fun b0 => (h.2.2.1 b b0 hb).of (fun a e1 e2 e3 => pb_up_neA (by omega)) (fun k j hk => by rw [pb_up_neA (by unfold pq_oC at hk; omega)]))
  · rw [pb_up_at, if_neg (fun q => hk (by unfold pq_oB; omega))]
  · rw [pb_up_neA (by omega)]
theorem pq_rsl {X n : Nat} {B par : Nat → Nat} {sz : Nat} {sk : pb_Sk} {rf : pb_Rf} {S S' : pb_Sg} (hsk : pq_sk X n B par sz sk rf) (h : pq_inv X n B par S S') {b t : Nat} (hb : b < n) (b0 : 0 < b) (ht : t < 16) {x : Int32} : pq_inv X n B par (pb_up S (B b + 17) t x) (pb_up S' (X + 45 + 7) (16 * b + t) x) := by
  have i1 := h.2.1 b hb
  obtain ⟨c1, c2, c3⟩ := h.2.2.1 b b0 hb
  refine h.upd hsk hb (fun a ha => pb_up_neA (by omega)) (fun k j k1 k18 hk hk2 => ?_) (by rw [pb_up_neA (by omega)]) (by rw [pb_up_neA (by omega)]) (i1.of (fun a e1 e2 => pb_up_neA (by omega)) (fun k j hk => by rw [pb_up_neA (by unfold pq_oB at hk; omega)])) (fun _ => ⟨c1.of (fun k hk t ht => by rw [pb_up_neA (by omega)]) (fun k k1 k4 t ht => by rw [pb_up_neA (by omega)]), by rw [pb_up_neA (by omega), c2], fun j hj => ?_⟩)
  · rw [pb_up_at, if_neg (fun q => hk2 b0 (by unfold pq_oC; omega))]
  · rw [pb_up_at, pb_up_at]
    by_cases e : j = t
    · rw [if_pos ⟨rfl, e⟩, if_pos ⟨rfl, by omega⟩]
    · rw [if_neg (fun q => e q.2), if_neg (fun q => e (by omega)), c3 j hj]
