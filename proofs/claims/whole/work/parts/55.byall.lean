theorem pq_chain_all {m : Nat} (Ls : List (List Nat)) : pq_chain m Ls = true → ∀ l, l ∈ Ls → pq_okl m l = true := by
  induction Ls with
  | nil => intro h; cases h
  | cons a r ih =>
    intro h l hl
    cases r with
    | nil =>
      unfold pq_chain at h
      rw [Bool.and_eq_true] at h
      rw [List.mem_singleton.mp hl]
      exact h.1
    | cons b r =>
      unfold pq_chain at h
      rw [Bool.and_eq_true, Bool.and_eq_true] at h
      rcases List.mem_cons.mp hl with e | e
      · rw [e]; exact h.1.1
      · exact ih h.2 l e
theorem pq_pres_in {S : pb_Sg} {p t : Nat} (ht : t < 16) : pb_in (pb_pres (S (p + 1))) t = pb_has (S (p + 1)) t := by
  unfold pb_pres
  rw [pb_set_in _ 16 (by omega) t (by omega), decide_eq_true ht, Bool.true_and]
theorem pq_pres_W {f : Nat → Int32} : pq_W (pb_pres f) := fun j hj => by
  by_cases e : j < 32
  · unfold pb_pres
    rw [pb_set_in _ 16 (by omega) j e, decide_eq_false (by omega), Bool.false_and]
  · exact pb_in_big (by omega)
theorem pq_rel_end {B best : Int32} (h : pq_rel B best) : (if B < nI 400 then B else -1) = best := by
  rcases h with ⟨rfl, rfl⟩ | ⟨rfl, x, hx, rfl⟩
  · rw [if_neg (by decide)]
  · rw [if_pos ((nI_ltI (by omega) (by omega)).mpr hx)]
set_option maxHeartbeats 4000000 in
/-- the earliest last day by all orders -/
theorem pq_byall {S S' T S3 : pb_Sg} {s cr p M b L m : Nat} {c : Nat → Bool} (hp : pb_ap s p) (hcr : cr + 7 < s ∨ s + 7 < cr) (h : pq_eq S S' p M b) (hw : pb_wf S p) (hn : pq_nb S p) (hh : pq_hd S S' cr M L) (hT : T = pb_stC S s cr (nI b) 5) (hc : c = fun t => pb_has (S' (M + 1)) (16 * b + t)) (hS3 : S3 = pb_mfd (pb_mor (pb_up S' M 0 (nI 0)) M b c 16) M b L 2000) (hm : pb_cnt c 16 = m) (h1 : 1 ≤ m) (h6 : m ≤ 6) :
    ∃ N, pb_mbT M b m N S3 ∧ (pb_mbl M b m N S3 (-1)).2 = pb_ea T s p ∧ (∀ x, x ≠ M + 21 → x ≠ M + 22 → x ≠ M + 24 → (pb_mbl M b m N S3 (-1)).1 x = S3 x) := by
  have hp2 := hp
  unfold pb_ap at hp2
  have f3 : ∀ x, x ≠ M + 23 → x ≠ M + 24 → x ≠ M → S3 x = S' x := fun x x1 x2 x3 => by rw [hS3, pb_mfd_ne x1, pb_mor_ne x2, pb_up_neA x3]
  have fT : ∀ a j, (a < s ∨ s + 7 < a) → T a j = S a j := fun a j ha => by rw [hT]; exact pb_stC_out ha 5 j (by omega)
  have hsr : ∀ S1 : pb_Sg, (∀ x, x ≠ M + 21 → x ≠ M + 22 → x ≠ M + 24 → S1 x = S3 x) → pq_sr T (pb_mclr S1 M) s p M b := by
    intro S1 hS1
    rw [hT]
    refine pq_start hp hcr (h.of (fun _ _ _ _ => rfl) (fun k k1 k4 t ht => by rw [pb_mclr_ne (by omega) (by omega), hS1 _ (by omega) (by omega) (by omega), f3 _ (by omega) (by omega) (by omega)])) hw (fun t ht => ?_) (fun k hk => ?_) (fun i hi d hd => ?_)
    · unfold pb_mclr
      rw [pb_fill_ne (by omega), pb_fill_at, if_pos (by omega)]
    · unfold pb_mclr
      rw [pb_fill_at, if_pos (by omega)]
    · rw [pb_mclr_ne (by omega) (by omega), hS1 _ (by omega) (by omega) (by omega), hS3, pq_mfd, if_pos (by omega), (pq_div hd).1, (pq_div hd).2, hh i hi d hd]
      rw [pq_mh_of (S := S') (fun j j1 j2 => by rw [pb_mor_ne (by omega), pb_up_neA (by omega)])]
  have hU : ∀ t, t < 16 → pb_in (pb_pres (T (p + 1))) t = c t := fun t ht => by
    rw [pq_pres_in ht, hc]
    unfold pb_has
    rw [fT _ _ (by omega), (h t ht).1]
  have eel : pq_elN (pb_in (pb_pres (T (p + 1)))) 16 = pq_elN c 16 := List.filter_congr fun x hx => hU x (List.mem_range.mp hx)
  have ecn : pb_cnt (pb_in (pb_pres (T (p + 1)))) 16 = m := by rw [← hm]; exact pb_cnt_congr fun i hi => hU i hi
  have elen : (pq_elN c 16).length = m := by rw [pq_elN_len, hm]
  have hbs : pq_bs (pq_at (pq_elN c 16)) m := ⟨fun i hi => (pq_elN_mem.mp (pq_at_mem (by omega))).1, fun i j hij hj => pq_elN_lt 16 i j hij (by omega)⟩
  have hhas : ∀ i, i < m → pb_has (T (p + 1)) (pq_at (pq_elN c 16) i) = true := fun i hi => by
    have h9 := pq_elN_mem.mp (pq_at_mem (l := pq_elN c 16) (k := i) (by omega))
    rw [← pq_pres_in (S := T) h9.1, hU _ h9.1]
    exact h9.2
  have epm : pq_pm m (pq_elN (pb_in (pb_pres (T (p + 1)))) 16) = (pq_pm m (List.range m)).map (List.map (pq_at (pq_elN c 16))) := by
    rw [eel]
    have h9 := pq_list_at (pq_elN c 16)
    rw [elen] at h9
    conv => lhs; rw [h9]
    refine pq_pm_map m _ fun x hx y hy q => ?_
    rw [List.mem_range] at hx hy
    have l1 := (pq_bs_le hbs hx hy).mp (by omega)
    have l2 := (pq_bs_le hbs hy hx).mp (by omega)
    omega
  have hch := pq_chain_ok h1 h6
  have hco : pq_co (S3 (M + 24)) (pq_at (List.range m)) (pq_at (pq_elN c 16)) m := by
    intro k hk
    have e9 : pq_at (List.range m) k = k := by
      unfold pq_at
      rw [List.getD_eq_getElem?_getD, List.getElem?_range hk]
      rfl
    rw [e9]
    refine ⟨?_, hk⟩
    rw [hS3, pb_mfd_ne (by omega)]
    exact pq_mor 16 k (by omega)
  obtain ⟨r1, r2, r3⟩ := pq_mloop (S3 := S3) (bs := pq_at (pq_elN c 16)) hp hsr (hn.of fun t ht => fT _ _ (by omega)) hbs hhas h1 (pq_pm m (List.range m)) S3 (List.range m) (-1) hch (pq_pm_hd h1 h6) hco (fun _ _ _ _ => rfl)
  refine ⟨_, r1, ?_, r3⟩
  rw [r2]
  unfold pb_ea
  rw [pq_ebo 6 T (pb_pres (T (p + 1))) (-1) (nI 400) pq_pres_W (by omega) (by decide), ecn, epm, List.foldl_map]
  symm
  refine pq_rel_end (pq_rel_fold _ (nI 400) (-1) (Or.inl ⟨rfl, rfl⟩) fun l hl e he => ?_)
  have hok := pq_okl_spec (pq_chain_all _ hch l hl)
  have hsi := (hsr S3 (fun _ _ _ _ => rfl)).2.2.2.2
  refine pq_val_rng hp (l.map (pq_at (pq_elN c 16))) T (-1) e hsi (Or.inl ⟨fun q => ?_, rfl⟩) (fun t ht => ?_) he
  · have h9 := congrArg List.length q
    rw [List.length_map, hok.1] at h9
    have : m = 0 := h9
    omega
  · obtain ⟨x, hx, rfl⟩ := List.mem_map.mp ht
    exact ⟨hbs.1 x (hok.2.1 x hx), hhas x (hok.2.1 x hx)⟩
theorem pq_byall_0 {T : pb_Sg} {s p : Nat} (h : pb_pres (T (p + 1)) = 0) : pb_ea T s p = -1 := by
  unfold pb_ea
  have e : pb_ebo s p 6 T (pb_pres (T (p + 1))) (-1) (nI 400) = -1 := by
    unfold pb_ebo
    rw [if_pos h]
  rw [e, if_pos (by decide)]
