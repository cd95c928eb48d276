/-! The law: what stands at its entry. -/
def mL_law : pb_M := (yL_law, code, 7, some .boolean, [])
section PVR4
variable {F : pb_F} {μ : pb_M} {d k n cells slots sz : Nat} {sk : pb_Sk} {rf : pb_Rf} {sg : pb_Sg} {pc q : Nat} {L : List (Option Value)} {st : List Value}
theorem v_newal (h : pb_Fx F μ d k n) {x : Int32} {m : Nat} (hw : Cond.arrayClass .long ∈ tbG) (hm : x = nI m) (hm2 : m ≤ 100000) (hc : cells + 1 ≤ k) (hs : slots + m ≤ n) (dd : decode μ.2.1 pc = .ok (.newarray .long, 2)) (hq : pc + 2 = q) (kk : pv F (cells + 1) (slots + m) (sz + 1) (pb_uk sk sz (3, m)) (pb_u0 rf sz none) (pb_u0 sg sz 0) q L (.ref sz :: st)) : pv F cells slots sz sk rf sg pc L (.int x :: st) := by
  subst hq
  obtain ⟨hx, hb, hret, hml, hown, hts, hlk, hnm, htab, hfl, hK, hb0, hr1, hr2, hr3, hr4⟩ := h
  intro H ls locs hR hL hS
  refine va_newaK hx hb (atype := .long) (hts _ hw) rfl dd rfl (N := m) (by rw [hm]; exact nI_pos (by omega)) (by rw [hm]; exact nI_clamp (by omega)) (by show m * 8 ≤ _; omega) (Nat.le_trans hc hr3) (Nat.le_trans hs hr4) hR.1 fun H1 cA e1 z1 o1 hAr hNm => ?_
  have hcA : cA = (pb_g F).2.1 3 := Option.some.inj (hNm.symm.trans (hK.tys 2 rfl).2)
  subst hcA
  refine kk H1 ls locs (hR.push (fun b hb => pb_u0_ne hb) (fun b hb => pb_u0_ne hb) (Nat.le_trans hb0 hS.1) ?_ (by rw [z1, hR.1]) (fun q hq => o1 q (by rw [← hR.1]; exact hq))) hL ⟨Nat.le_trans hS.1 (by rw [z1, hR.1]; omega), fun x h1 h2 => (o1 x (by rw [← hR.1]; exact Nat.lt_of_lt_of_le h1 hS.1)).trans (hS.2.1 x h1 h2), hS.2.2⟩
  rw [pb_u0_eq, pb_u0_eq]
  exact e1
end PVR4
theorem pq_arrT {s : State} {cA : ClassId} {kA : Class} {comp : ClassId} {t : FieldType} (h1 : s.vm.classes[cA]? = some kA) (h2 : kA.kind = .array comp t) : ArrOfT s cA t := by
  intro n z
  refine ⟨fun k q => ?_, kA, h1, comp, h2⟩
  simp [arrV] at q
theorem pq_inst {c : Nat} (h : c < 9) : Cond.instantiable (pb_C c) (pb_N c) ∈ tbG := pb_c9 (P := fun c => Cond.instantiable (pb_C c) (pb_N c) ∈ tbG) tw75 tw179 tw117 tw199 tw81 tw238 tw220 tw66 tw819 h
theorem pq_strw : ∀ q ∈ pb_strs, Cond.stringRef q.1 q.2.1 q.2.2 ∈ lw_tbl ∧ q.1 = RX7 := by decide +kernel
theorem pq_bad_on {w : Cond} (h : pb_bad w = true) : w.onTables = true := by
  cases w <;> first | rfl | (exact Bool.noConfusion h)
set_option maxHeartbeats 1000000 in
theorem pq_K0 {s : State} {b : Nat} (hts : ∀ w ∈ lw_tbl, w.before #[Value.ref b] s = true) (hgv : (Jvm.Cond.and given_1 narrow_1).before #[Value.ref b] s = true) : ∃ G : pb_G, G.2.2 = s.heap.size ∧ pb_K G s := by
  have htG : ∀ w ∈ tbG, w.before #[Value.ref b] s = true := fun w hw => hts w (List.mem_filter.mp hw).1
  have hflat := flat_of_before _ hgv
  have hkn : ∀ c, c < 9 → ∃ (cC : ClassId) (iS : Nat → Nat), u_Kn s (pb_C c) (pb_T c) (pb_N c) cC iS := fun c hc => u_known (n := pb_N c) htG (pb_lay hc) (htG _ (pq_inst hc))
  obtain ⟨dC, dI, hKc⟩ : ∃ (dC : Nat → ClassId) (dI : Nat → Nat → Nat), ∀ c, c < 9 → u_Kn s (pb_C c) (pb_T c) (pb_N c) (dC c) (dI c) := by
    refine ⟨fun c => if h : c < 9 then (hkn c h).choose else (hkn 0 (by decide)).choose, fun c => if h : c < 9 then (hkn c h).choose_spec.choose else (hkn 0 (by decide)).choose_spec.choose, fun c h => ?_⟩
    simp only [dif_pos h]
    exact (hkn c h).choose_spec.choose_spec
  obtain ⟨cI, kI, mI, i1, i2, i3⟩ := Cond.arrayClass_spec (htG _ tw115)
  obtain ⟨cZ, kZ, mZ, z1, z2, z3⟩ := Cond.arrayClass_spec (htG _ tw910)
  obtain ⟨cJ, kJ, mJ, j1, j2, j3⟩ := Cond.arrayClass_spec (htG _ tw1198)
  have hoB : (Cond.arrayOver (.object RX0)).before #[Value.ref b] s = true := hts _ (List.mem_of_getElem? (i := 74) (by decide +kernel))
  have hoM : (Cond.arrayOver (.array .int)).before #[Value.ref b] s = true := hts _ (List.mem_of_getElem? (i := 185) (by decide +kernel))
  obtain ⟨mB, cB, kB, b1, b2, b3, b4, b5⟩ := Cond.arrayOver_spec hoB
  obtain ⟨mM, cM, kM, m1, m2, m3, m4⟩ := Cond.arrayOver_specA hoM
  refine ⟨((dC, dI), (fun k => match k with | 1 => cI | 2 => cZ | 3 => cJ | 4 => cB | _ => cM), s.heap.size), rfl, ⟨fun c q hq => ?_, fun k q hq => ?_⟩, ?_, ?_, fun w hw => ?_, fun q hq => ?_, fun q hq => ?_, va_AO.of hoB, hoM⟩
  · have hc : c < 9 := (List.getElem?_eq_some_iff.mp hq).1
    rw [pb_cl hc] at hq
    cases hq
    exact hKc c hc
  · match k, hq with
    | 0, hq => cases hq; exact ⟨pq_arrT i2 i3, i1⟩
    | 1, hq => cases hq; exact ⟨pq_arrT z2 z3, z1⟩
    | 2, hq => cases hq; exact ⟨pq_arrT j2 j3, j1⟩
    | 3, hq => cases hq; exact ⟨pq_arrT b3 b4, kB, mB, b3, b4, b1, b5⟩
    | 4, hq => cases hq; exact ⟨pq_arrT m2 m3, m4⟩
    | k + 5, hq => exact absurd (List.getElem?_eq_some_iff.mp hq).1 (by simp [pb_tys])
  · exact vx_Zqof (hts _ (List.mem_of_getElem? (i := 323) (by decide +kernel))) (hts _ (List.mem_of_getElem? (i := 56) (by decide +kernel))) (hflat (Cond.isRef (.static "java/lang/Throwable" "UNASSIGNED_STACK" "[Ljava/lang/StackTraceElement;")) (by decide +kernel)) (fun a ha => Nat.not_le.mpr ha)
  · exact vx_Zqof (hts _ (List.mem_of_getElem? (i := 325) (by decide +kernel))) (hts _ (List.mem_of_getElem? (i := 56) (by decide +kernel))) (hflat (Cond.isRef (.static "java/lang/Throwable" "SUPPRESSED_SENTINEL" "Ljava/util/List;")) (by decide +kernel)) (fun a ha => Nat.not_le.mpr ha)
  · have h9 := List.mem_filter.mp hw
    exact va_Nw.of (pq_bad_on h9.2) (hts w h9.1)
  · obtain ⟨e1, e2⟩ := pq_strw q hq
    have h7 : s.vm.findClass q.1 = some (dC 7) := by rw [e2]; exact (hKc 7 (by decide)).2.1
    have hw := hts _ e1
    obtain ⟨k, cf, i, a, -, -, -, -, -, e9⟩ := Cond.stringRef_spec h7 hw
    exact ⟨a, vk_R.of hw e9⟩
  · simp only [pb_ncs, List.mem_cons, List.not_mem_nil, or_false] at hq
    rcases hq with rfl | rfl | rfl
    · exact va_Nc.of (hflat (Cond.not (.castable "java/lang/IllegalArgumentException" "java/lang/IndexOutOfBoundsException")) (by decide +kernel))
    · exact va_Nc.of (hflat (Cond.not (.castable "java/lang/IllegalStateException" "java/lang/IndexOutOfBoundsException")) (by decide +kernel))
    · exact va_Nc.of (hflat (Cond.not (.castable "java/lang/IllegalStateException" "java/lang/IllegalArgumentException")) (by decide +kernel))
