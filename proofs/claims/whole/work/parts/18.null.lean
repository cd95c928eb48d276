section PVR
variable {F : pb_F} {μ : pb_M} {d k n : Nat} {cells slots sz : Nat} {sk : pb_Sk} {rf : pb_Rf} {sg : pb_Sg} {pc q : Nat} {L : List (Option Value)} {st : List Value}
theorem v_aload_nN (h : pb_Fx F μ d k n) {j : Fin 4} {i : Nat} (dd : decode μ.2.1 pc = .ok (.aload_n j, 1)) (hq : pc + 1 = q) (hj : (j : Nat) = i) (hv : L[i]? = some (some .null)) (kk : pv F cells slots sz sk rf sg q L (.null :: st)) : pv F cells slots sz sk rf sg pc L st := by
  subst hq
  intro H ls locs hR hL hS
  exact lv_aload_nN h.1 h.2.1 dd hj (hL.2.2 i _ hv).1 (kk H ls locs hR hL hS)
theorem v_aloadN (h : pb_Fx F μ d k n) {i : Nat} (dd : decode μ.2.1 pc = .ok (.aload i, 2)) (hq : pc + 2 = q) (hv : L[i]? = some (some .null)) (kk : pv F cells slots sz sk rf sg q L (.null :: st)) : pv F cells slots sz sk rf sg pc L st := by
  subst hq
  intro H ls locs hR hL hS
  exact lv_aloadN h.1 h.2.1 dd (hL.2.2 i _ hv).1 (kk H ls locs hR hL hS)
theorem v_astore_nN (h : pb_Fx F μ d k n) {j : Fin 4} {i : Nat} {L' : List (Option Value)} (dd : decode μ.2.1 pc = .ok (.astore_n j, 1)) (hq : pc + 1 = q) (hj : (j : Nat) = i) (hi : i < L.length) (hl : L.set i (some .null) = L') (kk : pv F cells slots sz sk rf sg q L' st) : pv F cells slots sz sk rf sg pc L (.null :: st) := by
  subst hq
  subst hl
  intro H ls locs hR hL hS
  exact lv_astore_nN h.1 h.2.1 dd hj hL.has hi rfl (fun ls' hl => kk H ls' locs hR (hL.store hi rfl hl) hS)
theorem v_callVy (h : pb_Fx F μ d k n) {μ' : pb_M} {E : String} {d' k' n' N i b c : Nat} {av st0 : List Value} {sg' : pb_Sg} (hM : pb_Met (pb_l F) μ' d' k' n' (.ref b :: av) sz sk rf sg (pb_thr E sz sk rf sg')) (hm : pb_MI μ' N) (hl : Cond.methodLink μ.1.cls i μ'.1 ∈ tbG) (hsl : Cond.selects μ'.1.cls μ'.1 μ'.1 ∈ tbG) (hb : sk b = (c + 6, 0)) (hc : c < 9) (hcc : pb_C c = μ'.1.cls) (hn : av.length = N) (hst : st0 = av.reverse ++ .ref b :: st) (hW : (st.map fun v => v.category).sum ≤ 8) (hd : d' + 1 ≤ d) (hk : cells + k' ≤ k) (hs : slots + n' ≤ n) (hLn : L.length = μ.2.2.1) (dd : decode μ.2.1 pc = .ok (.invokevirtual i, 3)) (hq : pc + 3 = q) (kx : ∀ sz', sz ≤ sz' → px F (cells + k') (slots + n') sz' sk rf sg' pc L E) : pv F cells slots sz sk rf sg pc L st0 := by
  refine v_callV h hM hm hl hsl hb hc hcc hn hst hW hd hk hs hLn dd hq ?_ ?_
  · rintro v' sz' sk' rf' sg'' ⟨e1, -⟩
    cases e1
  · rintro E' sz' sk' rf' sg'' ⟨e1, hz, rfl, rfl, rfl⟩
    cases e1
    exact kx sz' hz
end PVR
theorem c2_X7_checkTask {l : Launch} (hfl : l.stackTraces = false) {sz : Nat} {sk : pb_Sk} {rf : pb_Rf} {sg : pb_Sg} {x : Int32} (h1 : nI 0 ≤ x) (h2 : x ≤ nI 15) : pb_Met l mX7_checkTask 2 0 0 [.int x] sz sk rf sg (pb_is none sz sk rf sg) := by
  have h3 : ¬ x < 0 := Int32.not_lt.mpr h1
  obtain ⟨j, hj, rfl⟩ := nI_of h3
  exact c_X7_checkTask hfl (by have := (nI_leI hj (by omega)).mp h2; omega)
