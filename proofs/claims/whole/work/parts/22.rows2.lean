section PVR
variable {F : pb_F} {μ : pb_M} {d k n : Nat} {cells slots sz : Nat} {sk : pb_Sk} {rf : pb_Rf} {sg : pb_Sg} {pc q : Nat} {L : List (Option Value)} {st : List Value}
theorem v_anew (h : pb_Fx F μ d k n) {i : Nat} {x : Int32} {m : Nat} (hw : Cond.classLink μ.1.cls i RX0 ∈ tbG) (hm : x = nI m) (hm2 : m ≤ 100000) (hc : cells + 1 ≤ k) (hs : slots + m ≤ n) (dd : decode μ.2.1 pc = .ok (.anewarray i, 3)) (hq : pc + 3 = q) (kk : pv F (cells + 1) (slots + m) (sz + 1) (pb_uk sk sz (4, m)) (pb_u0 rf sz none) (pb_u0 sg sz 0) q L (.ref sz :: st)) : pv F cells slots sz sk rf sg pc L (.int x :: st) := by
  subst hq
  subst hm
  obtain ⟨hx, hb, hret, hml, hown, hts, hlk, hnm, htab, hfl, hK, hb0, hr1, hr2, hr3, hr4⟩ := h
  intro H ls locs hR hL hS
  have hcl : (nI m).toNatClampNeg = m := nI_clamp (by omega)
  refine W.anew hx hb hown (hts _ hw) hK.2.2.2.2.2.2.1 rfl dd rfl (nI_pos (by omega)) (by rw [hcl]; omega) (Nat.le_trans hc hr3) (by rw [hcl]; exact Nat.le_trans hs hr4) fun cA kA comp f1 f2 f3 f4 => ?_
  obtain ⟨kA', comp', g1, g2, g3, g4⟩ := (hK.tys 3 rfl).2
  have hcA : cA = (pb_g F).2.1 4 := Option.some.inj (f1.symm.trans g4)
  subst hcA
  rw [hcl]
  have hsz : H.size = sz := hR.1
  have hpush := kk (H.push { cls := (pb_g F).2.1 4, slots := Array.replicate m .null, vm := .none }) ls locs (hR.push (fun b hb => pb_u0_ne hb) (fun b hb => pb_u0_ne hb) (Nat.le_trans hb0 hS.1) ?_ (by simp) (fun q hq => by rw [Array.getElem?_push_lt hq, Array.getElem?_eq_getElem hq])) hL ⟨Nat.le_trans hS.1 (by simp), fun x h1 h2 => by
      have hlt := Nat.lt_of_lt_of_le h1 hS.1
      rw [Array.getElem?_push_lt hlt, ← Array.getElem?_eq_getElem hlt]
      exact hS.2.1 x h1 h2, hS.2.2⟩
  · rw [← hsz] at hpush
    exact hpush
  · rw [pb_u0_eq]
    show (H.push _)[sz]? = some (arrV _ m (fun _ => va_rf none))
    rw [← hsz, Array.getElem?_push_size, arrV_new]
    rfl
def pb_mk (sk : pb_Sk) (sz N M : Nat) : pb_Sk := fun a => if a = sz then (5, N) else if sz < a ∧ a < sz + 1 + N then (1, M) else sk a
def pb_mr (rf : pb_Rf) (sz N : Nat) : pb_Rf := fun a => if a = sz then (fun i => if i < N then some (sz + 1 + i) else none) else if sz < a ∧ a < sz + 1 + N then (fun _ => none) else rf a
def pb_ms (sg : pb_Sg) (sz N : Nat) : pb_Sg := fun a => if sz ≤ a ∧ a < sz + 1 + N then (fun _ => 0) else sg a
theorem v_multi (h : pb_Fx F μ d k n) {i : Nat} {x y : Int32} {N M : Nat} (hw : Cond.classLink μ.1.cls i "[[I" ∈ tbG) (hw2 : Cond.arrayClass .int ∈ tbG) (hN : x = nI N) (hM : y = nI M) (hN2 : N ≤ 1000) (hM2 : M ≤ 1000) (hc : cells + 1 + N ≤ k) (hs : slots + N + N * M ≤ n) (dd : decode μ.2.1 pc = .ok (.multianewarray i 2, 4)) (hq : pc + 4 = q) (kk : pv F (cells + 1 + N) (slots + N + N * M) (sz + 1 + N) (pb_mk sk sz N M) (pb_mr rf sz N) (pb_ms sg sz N) q L (.ref sz :: st)) : pv F cells slots sz sk rf sg pc L (.int y :: .int x :: st) := by
  subst hq
  subst hN
  subst hM
  obtain ⟨hx, hb, hret, hml, hown, hts, hlk, hnm, htab, hfl, hK, hb0, hr1, hr2, hr3, hr4⟩ := h
  intro H ls locs hR hL hS T hT Xs
  have hclN : (nI N).toNatClampNeg = N := nI_clamp (by omega)
  have hclM : (nI M).toNatClampNeg = M := nI_clamp (by omega)
  obtain ⟨vm₁, cA, comp, -, fA, fC, hO, -, X', step⟩ := Xs.multianewarray2F hx hown (index := i) (ty := .int) (hts _ hw) hK.2.2.2.2.2.2.2 (hts _ hw2) (g := F0 (pb_m F) pc ls (.int (nI M) :: .int (nI N) :: st)) rfl (by rw [hb]; exact dd) (n := nI N) (k := nI M) (rest := st) rfl (nI_pos (by omega)) (nI_pos (by omega)) (by rw [hclN]; omega) (by rw [hclM]; show M * 4 ≤ _; omega) (by rw [hclM]; omega) rfl rfl (by rw [hclN]; omega) (by rw [hclN, hclM]; omega)
  rw [hclN, hclM] at X' step
  have hcA : cA = (pb_g F).2.1 5 := Option.some.inj (fA.symm.trans (hK.tys 4 rfl).2)
  have hcI : comp = (pb_g F).2.1 1 := Option.some.inj (fC.symm.trans (hK.tys 0 rfl).2)
  subst hcA
  subst hcI
  have hsz : H.size = sz := hR.1
  have hTh : (T.setVm vm₁).heap = H := hT
  generalize hF : Jvm.Free.Multi.fill (T.setVm vm₁) ((pb_g F).2.1 5) ((pb_g F).2.1 1) N M (defaultValue .int) N = FF at X' step
  obtain ⟨f1, f2, -, -⟩ := Jvm.Free.Multi.fill_facts (T.setVm vm₁) ((pb_g F).2.1 5) ((pb_g F).2.1 1) N M (defaultValue .int) N
  rw [hF, hTh, hsz] at f1 f2
  have hold : ∀ x : Nat, x < H.size → FF.heap[x]? = H[x]? := fun x hx => by
    have := Jvm.Free.Multi.fill_old (T.setVm vm₁) ((pb_g F).2.1 5) ((pb_g F).2.1 1) N M (defaultValue .int) (a := x) (by rw [hTh]; exact hx) N
    rw [hF, hTh] at this
    exact this
  have hrow : ∀ j : Nat, j < N → FF.heap[sz + 1 + j]? = some (arrV ((pb_g F).2.1 1) M (fun _ => .int 0)) := fun j hj => by
    have := Jvm.Free.Multi.fill_inner (T.setVm vm₁) ((pb_g F).2.1 5) ((pb_g F).2.1 1) N M (defaultValue .int) N j hj
    rw [hF, hTh, hsz] at this
    rw [this]
    exact congrArg some (arrV_new _ M _)
  rw [vr_outer] at f2
  have hrep : pb_rep (pb_g F) (sz + 1 + N) (pb_mk sk sz N M) (pb_mr rf sz N) (pb_ms sg sz N) FF.heap := by
    refine ⟨f1, fun b hbk => ?_⟩
    by_cases e : b = sz
    · subst e
      refine ⟨by rw [← hsz]; exact Nat.le_trans hb0 hS.1, ?_⟩
      have e1 : pb_mk sk b N M b = (5, N) := if_pos rfl
      have e2 : pb_mr rf b N b = fun i => if i < N then some (b + 1 + i) else none := if_pos rfl
      rw [e1, e2]
      exact f2
    · by_cases e2 : sz < b ∧ b < sz + 1 + N
      · obtain ⟨j, rfl⟩ : ∃ j, b = sz + 1 + j := ⟨b - sz - 1, by omega⟩
        have e1 : pb_mk sk sz N M (sz + 1 + j) = (1, M) := by unfold pb_mk; rw [if_neg e, if_pos e2]
        have e3 : pb_ms sg sz N (sz + 1 + j) = fun _ => 0 := if_pos (by omega)
        refine ⟨Nat.le_trans hb0 (Nat.le_trans hS.1 (by omega)), ?_⟩
        rw [e1, e3]
        exact hrow j (by omega)
      · have e1 : pb_mk sk sz N M b = sk b := by unfold pb_mk; rw [if_neg e, if_neg e2]
        have e3 : pb_mr rf sz N b = rf b := by unfold pb_mr; rw [if_neg e, if_neg e2]
        rw [e1] at hbk ⊢
        rw [e3]
        have h9 := hR.2 b hbk
        have hlt := h9.2.lt hbk
        have e4 : pb_ms sg sz N b = sg b := if_neg (by omega)
        rw [e4]
        exact ⟨h9.1, h9.2.kept (hold b hlt)⟩
  have hS' : va_S (pb_own (pb_g F)) (pb_s F).heap FF.heap locs := ⟨Nat.le_trans hS.1 (by rw [f1]; omega), fun x h1 h2 => (hold x (Nat.lt_of_lt_of_le h1 hS.1)).trans (hS.2.1 x h1 h2), hS.2.2⟩
  obtain ⟨t, a1, b1⟩ := kk FF.heap ls locs hrep hL hS' FF rfl X'
  refine ⟨t, step t ?_, b1⟩
  rw [hT, hsz]
  exact a1
theorem v_aast (h : pb_Fx F μ d k n) {a t m v : Nat} {i : Int32} (hk : sk a = (4, m)) (hv : sk v = (6, 0)) (hi : i = nI t) (ht : t < m) (hm : m < 2 ^ 31) (dd : decode μ.2.1 pc = .ok (.aastore, 1)) (hq : pc + 1 = q) (kk : pv F cells slots sz sk (pb_ur rf a t (some v)) sg q L st) : pv F cells slots sz sk rf sg pc L (.ref v :: .int i :: .ref a :: st) := by
  subst hq
  obtain ⟨e1, e2⟩ := pb_ix hi ht hm
  intro H ls locs hR hL hS
  have h0 := hR.2 a (by rw [hk]; exact Nat.succ_ne_zero _)
  have h1 := h0.2
  rw [hk] at h1
  have hK := h.2.2.2.2.2.2.2.2.2.2.1
  obtain ⟨cellV, g1, g2, g3, -⟩ := pb_cellO (hR.2 v (by rw [hv]; exact Nat.succ_ne_zero _)).2 hv
  have hcls := (hK.1.1 0 _ (pb_cl (by omega))).2
  obtain ⟨kA, comp, k1, k2, k3, -⟩ := (hK.tys 3 rfl).2
  have hcomp : comp = (pb_g F).1.1 0 := Option.some.inj (k3.symm.trans hcls.1)
  subst hcomp
  obtain ⟨kC, hkC, -⟩ := id hcls.2
  refine W.aast h.1 h.2.1 h1 (fun q h => by cases h) (fun h => by cases h) k1 k2 rfl hkC ⟨fun q => e2 (Or.inl q), by rw [arrV_size, e1]; exact ht⟩ g1 (fun q h => by rw [g3] at h; cases h) (by rw [g2]; exact hkC) (by rw [g2]; exact va_assign hcls) rfl rfl dd fun H1 e z oq => ?_
  refine kk H1 ls _ (hR.set a (fun b hb => pb_ur_ne hb) (fun _ _ => rfl) ?_ z oq) hL (hS.put z oq h0.1)
  rw [hk, pb_ur_eq]
  show H1[a]? = some (arrV _ m _)
  rw [e, e1, arrV_store]
  have h9 := pb_updV va_rf (rf a) (va_up (rf a) t (some v)) t (some v) (fun j => rfl)
  exact congrArg (fun f => some (arrV _ m f)) h9
end PVR
