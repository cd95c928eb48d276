/-! The reasons, class and reference side by side. -/
theorem pq_hd_of {S S' T T' : pb_Sg} {c M L : Nat} (h : pq_hd S S' c M L) (h1 : ∀ a, c + 1 ≤ a → a ≤ c + 7 → T a = S a) (h2 : ∀ k, 14 ≤ k → k ≤ 18 → T' (M + k) = S' (M + k)) : pq_hd T T' c M L := fun i hi d hd => by
  rw [pq_held_of (S := S) (congrFun (h1 _ (by omega) (by omega)) d) (congrFun (h1 _ (by omega) (by omega)) i), pq_mh_of (S := S') h2]
  exact h i hi d hd
theorem pq_low0 {x : Int32} (h : x = 0) : pb_low x 16 = -1 := by
  rw [h]
  decide +kernel
theorem pq_presE {S S' : pb_Sg} {p M q : Nat} (h : pq_eq S S' p M q) : pb_pres (S (p + 1)) = pb_set (fun t => pb_has (S' (M + 1)) (16 * q + t)) 16 := pb_set_congr fun t ht => pq_hasE h ht
theorem pq_costE {S S' : pb_Sg} {p M q : Nat} (h : pq_eq S S' p M q) : pb_cost S p = pb_mco S' M q := pb_sum_congr fun t ht => by rw [(h t ht).1, (h t ht).2.2.1]
theorem pq_lackE {S S' : pb_Sg} {p M : Nat} (h : pq_eq S S' p M 16) : pb_set (pb_lackc S p) 16 = pb_set (pb_mmis S' M) 16 := pb_set_congr fun t ht => by
  unfold pb_lackc pb_mmis
  rw [(h t ht).2.2.2, pq_presE h]
theorem pq_ringE {S S' : pb_Sg} {p M : Nat} (h : pq_eq S S' p M 16) (hn : pq_nb S p) : pb_set (fun t => pb_in (pb_all (S (p + 4)) t) t) 16 = pb_mrg S' M := pb_set_congr fun t ht => by
  rw [pq_all (f' := fun t => S' (M + 4) (16 * 16 + t)) (fun j hj => (h j hj).2.2.2) (fun j hj => hn j hj) ht]
set_option maxHeartbeats 4000000 in
theorem pq_judge {S S' : pb_Sg} {X M b f bb ff g to L : Nat} {J' : pb_Sg} (hJ : J' = (pb_mjN S' M bb ff 16).1) (hb8 : bb < 8) (hf8 : ff < 8) (lb : b = X + 2 ∨ X + 45 ≤ b) (lf : f = X + 2 ∨ X + 45 ≤ f) (h1 : pq_eq S S' (b + 1) M bb) (h2 : pq_eq S S' (f + 1) M ff) (h3 : pq_eq S S' (b + 6) M (8 + bb)) (hs : ∀ t, t < 16 → S (b + 17) t = S' (M + 7) (16 * bb + t)) (g1 : pq_gpN S (b + 1) 16) (g2 : pq_gpN S (f + 1) 16) (hh : pq_hd S S' (X + 20) M L) (lg : g = X + 2 ∨ X + 45 ≤ g) (eg0 : S g 0 = nI to) (eg6 : S g 6 = S' (M + 6) to) :
    (pb_jdg S X b f g).1 = (pb_mrs J' M to L).1 ∧ pb_low ((pb_jdg S X b f g).2 X 6) 16 = (pb_mrt (pb_mrs J' M to L) M to L).1 ∧ (∀ a j, (a < X ∨ (X < a ∧ a < X + 28) ∨ X + 44 < a) → (pb_jdg S X b f g).2 a j = S a j) ∧ (∀ j, j ≠ 6 → (pb_jdg S X b f g).2 X j = S X j) ∧ pq_eq (pb_jdg S X b f g).2 (pb_mrs J' M to L).2 (X + 29) M 16 ∧ pq_gpN (pb_jdg S X b f g).2 (X + 29) 16 := by
  obtain ⟨⟨r1, r2, r3, r4, r5, r6, r7⟩, gj⟩ := pq_join (J := X + 28) hb8 hf8 (by unfold pq_aj; omega) (by unfold pq_aj; omega) h1 h2 h3 hs g1 g2 16 (by omega)
  rw [← hJ] at r2 r3 r4 r5 r7
  generalize hT : pb_jnN S (X + 28) b f 16 = T at r1 r5 r6 r7 gj
  have d1 : ∀ a, a ≠ X → pb_jd1 S X b f a = T a := fun a ha => by unfold pb_jd1; rw [pb_up_neA ha, hT]
  have d2 : ∀ a, a ≠ X → pb_jd2 S X b f a = T a := fun a ha => by unfold pb_jd2; rw [pb_up_neA ha, d1 a ha]
  have d3 : ∀ a, a ≠ X → pb_jd3 S X b f a = T a := fun a ha => by unfold pb_jd3; rw [pb_up_neA ha, d2 a ha]
  have x1 : ∀ j, j ≠ 6 → pb_jd1 S X b f X j = S X j := fun j hj => by unfold pb_jd1; rw [pb_up_ne3 hj, hT, r1 X (by omega)]
  have x2 : ∀ j, j ≠ 6 → pb_jd2 S X b f X j = S X j := fun j hj => by unfold pb_jd2; rw [pb_up_ne3 hj, x1 j hj]
  have x3 : ∀ j, j ≠ 6 → pb_jd3 S X b f X j = S X j := fun j hj => by unfold pb_jd3; rw [pb_up_ne3 hj, x2 j hj]
  have rw1 : pq_eq T J' (X + 29) M 16 := r5
  have E : ∀ D : pb_Sg, (∀ a, a ≠ X → D a = T a) → pq_eq D J' (X + 29) M 16 := fun D hD => rw1.of (fun k hk t ht => by rw [hD _ (by omega)]) (fun _ _ _ _ _ => rfl)
  have Gd : ∀ D : pb_Sg, (∀ a, a ≠ X → D a = T a) → pq_gpN D (X + 29) 16 := fun D hD => pq_gpN_of gj (fun k k1 k4 t ht => by rw [hD _ (by omega)])
  have fr : ∀ D : pb_Sg, (∀ a, a ≠ X → D a = T a) → ∀ a j, (a < X ∨ (X < a ∧ a < X + 28) ∨ X + 44 < a) → D a j = S a j := fun D hD a j ha => by rw [hD a (by omega), r1 a (by omega)]
  have b1 : pb_jd1 S X b f X 6 = J' M 27 := by
    unfold pb_jd1
    rw [pb_up_self, hT, r7]
  have b2 : pb_jd2 S X b f X 6 = pb_set (pb_mmis J' M) 16 := by
    unfold pb_jd2
    rw [pb_up_self, pq_lackE (E _ d1)]
  have b3 : pb_jd3 S X b f X 6 = pb_mrg J' M := by
    unfold pb_jd3
    rw [pb_up_self]
    exact pq_ringE (E _ d2) (pq_gp_nb (Gd _ d2))
  have b4 : pb_jd3 S X b f g 6 = J' (M + 6) to := by
    rw [d3 g (by omega), r1 g (by omega), eg6, r2 (M + 6) (by omega)]
  have b5 : pb_cost (pb_jd3 S X b f) (X + 29) = pb_mco J' M 16 := pq_costE (E _ d3)
  have hhD : pq_hd (pb_jd3 S X b f) J' (X + 20) M L := pq_hd_of hh (fun a a1 a2 => by rw [d3 a (by omega), r1 a (by omega)]) (fun k k1 k2 => r2 _ (by omega))
  have hrule : ∀ V : pb_Sg, (∀ x, (x < M + 19 ∨ M + 23 < x) → V x = J' x) → _ := fun V hV => pq_rule (S := pb_jd3 S X b f) (S' := V) (X := X) (p := X + 29) (M := M) (q := 16) (g := g) (b := to) (L := L) (by unfold pb_apX; omega) ((E _ d3).of (fun _ _ _ _ => rfl) (fun k k1 k4 t ht => by rw [hV _ (by omega)])) (pq_gp_wf (Gd _ d3)) (pq_gp_nb (Gd _ d3)) (pq_hd_of hhD (fun _ _ _ => rfl) (fun k k1 k2 => hV _ (by omega))) (by omega) (by rw [d3 g (by omega), r1 g (by omega)]; exact eg0)
  obtain ⟨u1, u2, u3, u4⟩ := hrule J' (fun _ _ => rfl)
  have b6 : pb_jd5 S X b f g X 6 = (pb_mun J' M 16 to L).2 := by
    unfold pb_jd5
    have e9 : pb_pres (pb_jd4 S X b f g (X + 29 + 1)) = pb_pres (pb_jd3 S X b f (X + 29 + 1)) := pb_set_congr fun i hi => by
      unfold pb_has pb_jd4
      rw [u4 _ _ (by omega)]
    rw [pb_up_self, u2, e9]
    rfl
  have d5 : ∀ a, a ≠ X → (a < X + 34 ∨ X + 44 < a) → ∀ j, pb_jd5 S X b f g a j = T a j := fun a ha h9 j => by
    unfold pb_jd5 pb_jd4
    rw [pb_up_ne2 ha, u4 a j h9, d3 a ha]
  have x5 : ∀ j, j ≠ 6 → pb_jd5 S X b f g X j = S X j := fun j hj => by
    unfold pb_jd5 pb_jd4
    rw [pb_up_ne3 hj, u4 X j (by omega), x3 j hj]
  have E5 : pq_eq (pb_jd5 S X b f g) (pb_mun J' M 16 to L).1 (X + 29) M 16 := rw1.of (fun k hk t ht => d5 _ (by omega) (by omega) t) (fun k k1 k4 t ht => by rw [pb_mun_ne (by omega)])
  have G5 : pq_gpN (pb_jd5 S X b f g) (X + 29) 16 := pq_gpN_of gj (fun k k1 k4 t ht => d5 _ (by omega) (by omega) t)
  have f5 : ∀ a j, (a < X ∨ (X < a ∧ a < X + 28) ∨ X + 44 < a) → pb_jd5 S X b f g a j = S a j := fun a j ha => by rw [d5 a (by omega) (by omega), r1 a (by omega)]
  unfold pb_jdg pb_mrs
  rw [b1, b2, b3, b4, b5, b6]
  by_cases c1 : J' M 27 = 0
  · have n1 : ¬ ¬ J' M 27 = 0 := fun q => q c1
    rw [if_neg n1, if_neg n1]
    by_cases c2 : pb_set (pb_mmis J' M) 16 = 0
    · have n2 : ¬ ¬ pb_set (pb_mmis J' M) 16 = 0 := fun q => q c2
      rw [if_neg n2, if_neg n2]
      by_cases c3 : pb_mrg J' M = 0
      · have n3 : ¬ ¬ pb_mrg J' M = 0 := fun q => q c3
        rw [if_neg n3, if_neg n3]
        by_cases c4 : J' (M + 6) to < pb_mco J' M 16
        · rw [if_pos c4, if_pos c4]
          refine ⟨rfl, ?_, fr _ d3, x3, E _ d3, Gd _ d3⟩
          show pb_low (pb_jd3 S X b f X 6) 16 = _
          rw [pq_low0 (b3.trans c3)]
          unfold pb_mrt
          dsimp only
          rw [if_neg (by decide), if_neg (by decide), if_neg (by decide), if_neg (by decide)]
        · rw [if_neg c4, if_neg c4]
          by_cases c5 : (pb_mun J' M 16 to L).2 = 0
          · have n5 : ¬ ¬ (pb_mun J' M 16 to L).2 = 0 := fun q => q c5
            rw [if_neg n5, if_neg n5]
            refine ⟨rfl, ?_, f5, x5, E5, G5⟩
            show pb_low (pb_jd5 S X b f g X 6) 16 = _
            rw [pq_low0 (b6.trans c5)]
            unfold pb_mrt
            dsimp only
            rw [if_neg (by decide), if_neg (by decide), if_neg (by decide), if_neg (by decide)]
          · rw [if_pos c5, if_pos c5]
            refine ⟨rfl, ?_, f5, x5, E5, G5⟩
            show pb_low (pb_jd5 S X b f g X 6) 16 = _
            unfold pb_mrt
            dsimp only
            rw [if_neg (by decide), if_neg (by decide), if_neg (by decide), if_pos rfl, b6]
            have u9 := (hrule (pb_mun J' M 16 to L).1 (fun x hx => pb_mun_ne hx)).2.1
            show _ = pb_low (pb_mun (pb_mun J' M 16 to L).1 M 16 to L).2 16
            rw [u9, u2]
      · rw [if_pos c3, if_pos c3]
        refine ⟨rfl, ?_, fr _ d3, x3, E _ d3, Gd _ d3⟩
        show pb_low (pb_jd3 S X b f X 6) 16 = _
        unfold pb_mrt
        dsimp only
        rw [if_neg (by decide), if_neg (by decide), if_pos rfl, b3]
    · rw [if_pos c2, if_pos c2]
      refine ⟨rfl, ?_, fr _ d2, x2, E _ d2, Gd _ d2⟩
      show pb_low (pb_jd2 S X b f X 6) 16 = _
      unfold pb_mrt
      dsimp only
      rw [if_neg (by decide), if_pos rfl, b2]
  · rw [if_pos c1, if_pos c1]
    refine ⟨rfl, ?_, fr _ d1, x1, E _ d1, Gd _ d1⟩
    show pb_low (pb_jd1 S X b f X 6) 16 = _
    unfold pb_mrt
    dsimp only
    rw [if_pos rfl, b1]
theorem pq_mrt_ne {J : pb_Sg} {M to L x : Nat} (h : x < M + 19 ∨ M + 23 < x) : (pb_mrt (pb_mrs J M to L) M to L).2 x = J x := by
  have h1 := pb_mrs_ne (J := J) (M := M) (to := to) (L := L) h
  unfold pb_mrt
  split
  · exact h1
  · split
    · exact h1
    · split
      · exact h1
      · split
        · show (pb_mun (pb_mrs J M to L).2 M 16 to L).1 x = _
          rw [pb_mun_ne h]
          exact h1
        · exact h1
