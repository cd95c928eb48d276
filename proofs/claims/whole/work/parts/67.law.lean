/-! THE CLAIM OUT OF ONE WALK OF THE LAW'S BODY. Your part is whole_start (and what it stands on); all else here is the same for every law, but numbers. -/
def R_law : String := "PlanBranchesLaw"
def lw_P (b : Addr) (xs : List Int32) (args : Array Value) (s : State) : Prop := args = #[.ref b] ∧ s.IntsAt b xs ∧ xs.length ≤ 3072 ∧ (Jvm.Cond.and given_1 narrow_1).before args s = true
def lw_Q (_ : Array Value) (s : State) (o : Outcome) (t : State) : Prop := o = .returned (some (.int 1)) ∧ Framed s o t [] 601024 7293034
def lw_Z (below : List Frame) (a : Array Value) (s : State) : State → Prop := fun t => ∃ o, t.status = .running ∧ Ended t below o ∧ lw_Q a s o t
/-- the law's own end, with 1 on the stack, nothing written that was there before, its room as the claim has it -/
theorem lw_ret {p : Program} {l : Launch} {e : Env} {s : State} {m : MethodId} {below : List Frame} {meth : Method} {c : Code} {b : Nat} (hx : p.tables.exec = Jvm.exec) (hb : c.code = code) (hr : meth.sig.returnType = ret) (hlocks : meth.locks = false) {pc : Nat} {H : Heap} {ls : Array Slot} (hdg : decode code pc = .ok (.ireturn, 1)) : W p l e room_1 s m #[Value.ref b] below meth c H [] 601024 7293034 (lw_Z below #[Value.ref b] s) (F0 m pc ls [.int 1]) := by
  intro T hT X
  obtain ⟨fs, hret, hrun, hended, hW, hframe⟩ := X.leave (v := some (.int 1)) (hlocks := hlocks) (fun h => by rw [hr] at h; cases h)
  have hmeth' : T.vm.method? m = some meth := X.method'
  refine ⟨T.setFrames fs, ?_, .returned (some (.int 1)), hrun, hended, rfl, ⟨_, rfl⟩, hW, hframe⟩
  jvm_step X.here [X.here.top, hx, hb, hdg, hmeth', hr, ret, narrow_b1]
  (try refine ⟨rfl, ?_⟩); (try refine ⟨rfl, ?_⟩)
  first | (intro acts; rw [hret _ acts rfl rfl rfl]) | rw [hret _ _ rfl rfl rfl]
  exact Steps.refl _
/-- what holds at the law's entry: the machine, the code, the tables' words (any of lw_tbl by 'hts w (by decide +kernel)'), the script of L ints xs at the cell b, what the Statement gives of the start (any of its parts by flat_of_before) -/
def lw_At (p : Program) (s : State) (m : MethodId) (meth : Method) (c : Code) (b L : Nat) (xs : Nat → Int32) : Prop :=
  p.tables.exec = Jvm.exec ∧ c.code = code ∧ meth.sig.returnType = ret ∧ c.maxLocals = 7 ∧ s.vm.findClass R_law = some m.cls ∧ (∀ w ∈ lw_tbl, w.before #[Value.ref b] s = true) ∧ va_X b L xs s s.heap ∧ b < s.heap.size ∧ meth.locks = false ∧ (Jvm.Cond.and given_1 narrow_1).before #[Value.ref b] s = true ∧ meth.name = "law" ∧ c.exceptionTable.toList = []
/-- what stands when class, reference and row are made -/
theorem pq_begin {X : Nat} {k0 k1 k2 k3 k4 : pb_Sk} {r0 r1 r2 r3 r4 : pb_Rf} {s0 s1 s2 s3 s4 : pb_Sg} (h7 : pb_nSys X k0 r0 s0 k1 r1 s1) (hk2 : k2 = pb_uk k1 (X + 45) (14, 0)) (hr2 : r2 = pb_u0 r1 (X + 45) none) (hs2 : s2 = pb_u0 s1 (X + 45) 0) (h8 : pb_nMod (X + 45) k2 r2 s2 k3 r3 s3) (hk4 : k4 = pb_uk k3 (X + 70) (3, 1)) (hr4 : r4 = pb_u0 r3 (X + 70) none) (hs4 : s4 = pb_u0 s3 (X + 70) 0) : pq_INV X (X + 71) k4 r4 s4 := by
  obtain ⟨a1, a2, a3, a4, a5, a6, a7, a8, a9, a10, a11⟩ := h7
  obtain ⟨m1, m2, m3, m4, m5, m6, m7, m8, m9, m10, m11, m12⟩ := h8
  have e2 : ∀ a, a ≠ X + 45 → k2 a = k1 a ∧ r2 a = r1 a ∧ s2 a = s1 a := fun a ha => by
    rw [hk2, hr2, hs2]
    exact ⟨if_neg ha, if_neg ha, if_neg ha⟩
  have e4 : ∀ a, a ≠ X + 70 → k4 a = k3 a ∧ r4 a = r3 a ∧ s4 a = s3 a := fun a ha => by
    rw [hk4, hr4, hs4]
    exact ⟨if_neg ha, if_neg ha, if_neg ha⟩
  have e14 : ∀ a, a < X + 45 → k4 a = k1 a ∧ r4 a = r1 a ∧ s4 a = s1 a := fun a ha => by
    obtain ⟨b1, b2, b3⟩ := e4 a (by omega)
    obtain ⟨c1, c2, c3⟩ := m12 a (by omega)
    obtain ⟨d1, d2, d3⟩ := e2 a (by omega)
    exact ⟨by rw [b1, c1, d1], by rw [b2, c2, d2], by rw [b3, c3, d3]⟩
  have z0 : (0 : Int32) = nI 0 := rfl
  refine ⟨1, fun _ => X + 2, fun _ => 0, ⟨a1.of (sz := X + 45) (by omega) (fun b hb => by show X + 2 + 18 ≤ X + 45; omega) (fun a ha => ⟨(e14 a ha).1, (e14 a ha).2.1⟩), ⟨rfl, fun b b0 b1 => by omega, fun b c b0 bc c1 => by omega⟩, pq_md_of m1 (fun a b1 b2 => (e4 a (by omega)).1) (e4 _ (by omega)).2.1, ?_, by omega, fun b b0 b1 => by omega⟩, ⟨?_, ?_, ?_, fun c c1 c2 => ?_⟩, fun b hb => ?_, fun b b0 hb => by omega, fun i hi => ?_, 0, by omega, ?_, ?_, fun i hi d hd y => ?_⟩
  · rw [hk4]
    exact if_pos rfl
  · rw [(e14 X (by omega)).2.2, a2]
  · rw [(e4 (X + 45) (by omega)).2.2, m3]
  · rw [(e4 _ (by omega)).2.2, m8]
  · rw [(e4 _ (by omega)).2.2, m10]
    rfl
  · obtain rfl : b = 0 := by omega
    have rowc : ∀ k t, 1 ≤ k → k ≤ 4 → t < 16 → s4 (X + 2 + 1 + k) t = s1 (X + 3 + k) t := fun k t k1 k4 ht => by
      rw [show X + 2 + 1 + k = X + 3 + k by omega, (e14 _ (by omega)).2.2]
    have rows : ∀ t, t < 16 → s4 (X + 2 + 1 + 1) t = 0 ∧ s4 (X + 2 + 1 + 2) t = -1 ∧ s4 (X + 2 + 1 + 3) t = 0 ∧ s4 (X + 2 + 1 + 4) t = 0 := fun t ht => by
      rw [rowc 1 t (by omega) (by omega) ht, rowc 2 t (by omega) (by omega) ht, rowc 3 t (by omega) (by omega) ht, rowc 4 t (by omega) (by omega) ht]
      exact a5 t ht
    refine ⟨fun t ht => ?_, fun t ht => ?_, ?_, ?_, 0, 0, pq_hr_0 (by omega) ?_ ?_ ?_⟩
    · obtain ⟨w1, w2, w3, w4⟩ := rows t ht
      rw [w1, w2, w3, w4, (e4 (X + 45 + 1) (by omega)).2.2, (e4 (X + 45 + 2) (by omega)).2.2, (e4 (X + 45 + 3) (by omega)).2.2, (e4 (X + 45 + 4) (by omega)).2.2, m4, m5 _ (by omega), m6, m7]
      exact ⟨rfl, rfl, rfl, rfl⟩
    · obtain ⟨w1, w2, w3, w4⟩ := rows t ht
      rw [w1, w2, w4]
      exact ⟨⟨0, by omega, rfl⟩, Or.inl rfl, fun j _ => pb_in_0 j, fun _ => rfl⟩
    · show s4 (X + 2) 0 = nI 0
      rw [(e14 _ (by omega)).2.2, a3]
    · show s4 (X + 2) 6 = s4 (X + 45 + 6) 0
      rw [(e14 _ (by omega)).2.2, a4, (e4 _ (by omega)).2.2, m9]
    · show s4 (X + 2 + 11) 5 = nI 0
      rw [(e14 _ (by omega)).2.2, show X + 2 + 11 = X + 13 by omega, a6]
      rfl
    · show s4 (X + 2 + 11) 6 = nI 0
      rw [(e14 _ (by omega)).2.2, show X + 2 + 11 = X + 13 by omega, a7]
      rfl
    · rw [(e4 _ (by omega)).2.2, m10]
      rfl
  · rw [(e14 _ (by omega)).2.2, a9 i hi, (e4 _ (by omega)).2.2, m11]
  · rw [(e14 _ (by omega)).2.2, a8]
    rfl
  · rw [(e4 _ (by omega)).2.2, m2 20 (by omega), hs2]
    show pb_u0 s1 (X + 45) 0 (X + 45) 20 = nI 0
    unfold pb_u0
    rw [if_pos rfl]
    rfl
  · show y = if s4 (X + 20 + 3 + i) d = -1 then y else s4 (X + 20 + 3 + i) d
    rw [(e14 _ (by omega)).2.2, show X + 20 + 3 + i = X + 23 + i by omega, a10 i d hi hd, if_pos rfl]
-- ===== YOUR PART BEGINS =====
set_option maxHeartbeats 4000000 in
set_option maxRecDepth 100000 in
theorem whole_start {p : Program} {e : Env} {s : State} {m : MethodId} {below : List Frame} {meth : Method} {c : Code} (l : Launch) (hflags : l.flags = flags0) {b L : Nat} {xs : Nat → Int32} (hL : L ≤ 3072) (C0 : lw_At p s m meth c b L xs) : W p l e room_1 s m #[Value.ref b] below meth c s.heap [] 0 0 (lw_Z below #[Value.ref b] s) (entryFrame m ([Value.ref b] : List Value).toArray 7) := by
  obtain ⟨hx, hb, hr, hml, hown, hts, hX, hbl, hlocks, hgv, hname, htab⟩ := id C0
  obtain ⟨G, hG, hK⟩ := pq_K0 hts hgv
  have hfl : l.stackTraces = false := by
    unfold Launch.stackTraces
    rw [hflags]
    decide +kernel
  have htG : ∀ w ∈ tbG, w.before #[Value.ref b] s = true := fun w hw => hts w (List.mem_filter.mp hw).1
  obtain ⟨F, hF⟩ : ∃ F : pb_F, F = ((p, l, e, room_1, s, m, #[Value.ref b], below, meth, c), lw_Z below #[Value.ref b] s, G) := ⟨_, rfl⟩
  have h : pb_Fx F mL_law 30 601024 7293034 := by
    subst hF
    exact ⟨hx, hb, hr, hml, hown, htG, hlocks, hname, htab, hfl, hK, Nat.le_of_eq hG, Nat.le_of_ble_eq_true rfl, Nat.le_of_ble_eq_true rfl, Nat.le_refl _, Nat.le_refl _⟩
  have hflF : (pb_l F).stackTraces = false := by subst hF; exact hfl
  have hXF : va_X b L xs (pb_s F) (pb_s F).heap := by subst hF; exact hX
  have hblF : b < (pb_s F).heap.size := by subst hF; exact hbl
  have hbA : ¬ pb_own (pb_g F) b := by
    subst hF
    show ¬ G.2.2 ≤ b
    rw [hG]
    exact Nat.not_le.mpr hbl
  have kend : ∀ cells slots sz sk rf sg (LL : List (Option Value)), cells ≤ 601024 → slots ≤ 7293034 → pv F cells slots sz sk rf sg 2254 LL [.int (nI 1)] := by
    subst hF
    intro cells slots sz sk rf sg LL h1 h2 H ls locs hR hLL hS
    refine W.widen h1 h2 (va_forget (fun q hq => ?_) ?_)
    · have h9 : G.2.2 ≤ q.base := hS.2.2 q hq
      rw [hG] at h9
      exact h9
    · exact lw_ret hx hb hr hlocks dL_law_2254
  have main : pv F 0 0 s.heap.size (fun _ => (0, 0)) (fun _ _ => none) (fun _ _ => 0) 0 [some (.ref b), none, none, none, none, none, none] [] := by
    generalize s.heap.size = X
    refine v_new h (c := 7) (by decide) tw65 tw66 tw47 (by decide +kernel) (by decide) (by decide) dL_law_0 (q := 3) rfl ?_
    refine v_dup h dL_law_3 (q := 4) rfl rfl ?_
    refine v_callI h (c_X7_init hflF (p := X) (if_pos rfl) rfl) kX7_init rfl rfl tw67 rfl rfl (by simp [Value.category]) (by decide) (by decide) (by decide) rfl dL_law_4 (q := 7) rfl ?_ (fun _ _ _ _ _ hx9 => nomatch hx9.1)
    rintro v1 sz1 k1 r1 s1 ⟨q1, rfl, A1⟩
    cases q1
    refine v_astore_n h (i := 1) dL_law_7 (q := 8) rfl rfl (Nat.le_of_ble_eq_true rfl) rfl ?_
    refine v_new h (c := 8) (by decide) tw818 tw819 tw55 (by decide +kernel) (by decide) (by decide) dL_law_8 (q := 11) rfl ?_
    refine v_dup h dL_law_11 (q := 12) rfl rfl ?_
    refine v_callI h (c_X8_init hflF (p := X + 45) (if_pos rfl) rfl) kX8_init rfl rfl tw820 rfl rfl (by simp [Value.category]) (by decide) (by decide) (by decide) rfl dL_law_12 (q := 15) rfl ?_ (fun _ _ _ _ _ hx9 => nomatch hx9.1)
    rintro v3 sz3 k3 r3 s3 ⟨q3, rfl, A3⟩
    cases q3
    refine v_astore_n h (i := 2) dL_law_15 (q := 16) rfl rfl (Nat.le_of_ble_eq_true rfl) rfl ?_
    refine v_iconst h (v := nI 1) dL_law_16 (q := 17) rfl (by decide +kernel) ?_
    refine v_newal h tw1198 rfl (by decide) (by decide) (by decide) dL_law_17 (q := 19) rfl ?_
    refine v_astore_n h (i := 3) dL_law_19 (q := 20) rfl rfl (Nat.le_of_ble_eq_true rfl) rfl ?_
    refine v_iconst h (v := nI 0) dL_law_20 (q := 21) rfl (by decide +kernel) ?_
    refine v_istore h dL_law_21 (q := 23) rfl (Nat.le_of_ble_eq_true rfl) rfl ?_
    exact lw_loop h hflF hXF hblF hbA hL (by omega) kend 513 0 (by omega) (by omega) (by decide) (by decide) (pq_begin A1 rfl rfl rfl A3 rfl rfl rfl)
  subst hF
  rw [lg_entry_eq]
  refine main s.heap _ [] ⟨rfl, fun a ha => absurd rfl ha⟩ (pb_entry (av := [Value.ref b]) (n := 7) (pb_c1 rfl) (Nat.le_of_ble_eq_true rfl)) va_S.rf
-- ===== YOUR PART ENDS =====
set_option maxHeartbeats 4000000 in
theorem lw_walk (l : Launch) (hflags : l.flags = flags0) (b : Addr) (xs : List Int32) : MetFree l x (headSpec (Jvm.Cond.code x code maxLocals ret :: tables_1) room_1) (lw_P b xs) (fun _ _ _ _ _ => True) lw_Q := by
  refine MetFree.of_bodyS (code := code) (maxLocals := maxLocals) (ret := ret) (by decide) ?_ ?_
  · intro args s m h hn
    obtain ⟨meth, c, h1, h2, h3, h4, h5, h6, -, -⟩ := Cond.code_spec hn (atoms_spec (ws := Jvm.Cond.code x code maxLocals ret :: tables_1) h _ List.mem_cons_self)
    exact ⟨meth, c, h1, h2, h3, h4, h5, h6⟩
  · intro p e s m args below meth c s₁ B hml0 hP _
    obtain ⟨rfl, hx, hbd, hgv⟩ := hP
    obtain ⟨scr, harrAt, hlist, hof, hsmall⟩ := hx
    obtain ⟨hcb, hkn, -, -⟩ := State.arrayAt?_spec harrAt
    have hown : s.vm.findClass R_law = some m.cls := findClass_of_methodNamed B.named
    have hts0 : ∀ c ∈ (Jvm.Cond.code x code maxLocals ret :: tables_1), c.before #[Value.ref b] s = true := atoms_spec (ws := Jvm.Cond.code x code maxLocals ret :: tables_1) B.pre
    have hts : ∀ w ∈ lw_tbl, w.before #[Value.ref b] s = true := k2_hts_sels lw_privs (fun w hw => hts0 w (List.mem_cons_of_mem _ hw)) lw_privs_ok
    have hml : c.maxLocals = 7 := B.maxLocals_eq (hts0 _ List.mem_cons_self)
    have htab : c.exceptionTable.toList = [] := by
      obtain ⟨meth9, c9, g1, g2, -, -, -, -, g7, -⟩ := Cond.code_spec B.named (hts0 _ List.mem_cons_self)
      cases Option.some.inj (g1.symm.trans B.method)
      cases Option.some.inj (g2.symm.trans (Stand.of_body B).code)
      rw [Array.isEmpty_iff.mp g7]
    have X₀ : Stand p l e room_1 s m #[Value.ref b] below meth c s₁ [] 0 0 := Stand.of_body B
    have hh0 : s₁.heap = s.heap := by rw [B.state]; rfl
    have hsz : scr.slots.size = xs.length := by rw [← Array.length_toList, hlist, List.length_map]
    have hval : ∀ j : Nat, j < xs.length → scr.slots[j]? = some (.int (xs.getD j 0)) := fun j hj => by
      rw [← Array.getElem?_toList, hlist]
      simp [hj]
    have hbl : b < s.heap.size := (Array.getElem?_eq_some_iff.mp hcb).1
    have hX : va_X b xs.length (fun j => xs.getD j 0) s s.heap := ⟨scr, hcb, hof, hkn, hsz, hval⟩
    have K : W p l e room_1 s m #[Value.ref b] below meth c s₁.heap [] 0 0 (lw_Z below #[Value.ref b] s) (entryFrame m ([Value.ref b] : List Value).toArray 7) := by
      rw [hh0]
      exact whole_start l hflags hbd ⟨B.exec, B.bytes, B.returns, hml, hown, hts, hX, hbl, B.notSynchronized, hgv, (name_of_methodNamed B.named B.method).1, htab⟩
    obtain ⟨t, a1, o, b1, b2, b3⟩ := K s₁ rfl X₀
    exact ⟨t, o, a1, b1, b2, b3⟩
theorem lw_pre_spec {args : Array Value} {s : State} (h : (Jvm.Cond.and given_1 narrow_1).before args s = true) (hr : rest_1_c.before args s = true) : ∃ (b : Addr) (xs : List Int32), lw_P b xs args s := by
  have hs := flat_of_before _ h
  have hq := flat_of_before _ hr
  have hc : (Cond.count 1).before args s = true := hs _ (by decide +kernel)
  have harr : (Cond.arrayOf (.arg 0) .int).before args s = true := hs _ (by decide +kernel)
  have hle : (Cond.le (.length (.arg 0)) (.int 3072)).before args s = true := hs _ (by decide +kernel)
  have hlen : (Cond.isInt (.length (.arg 0))).before args s = true := hq _ (by decide +kernel)
  have hall : (Cond.all (.arg 0) (.isInt (.elem (.arg 0) (.index 0)))).before args s = true := hq _ (by decide +kernel)
  obtain ⟨b, xs, hb, hx⟩ := State.ints_of_pre rfl harr hlen hall
  have hsm : xs.length < 2 ^ 31 := hx.choose_spec.2.2.2
  have hev : (Term.length (.arg 0)).eval args s none [] s = some (.int xs.length.toInt32) := hx.length_eval hb
  have hv := Cond.le_ints hev (show (Term.int 3072).eval args s none [] s = some (.int 3072) from rfl)
  have hd : xs.length.toInt32 ≤ 3072 := by
    simpa [Cond.before, Cond.holds, hv] using hle
  have hN : xs.length ≤ 3072 := (Int32.ofNat_le_ofNat hsm (by decide)).mp (show Int32.ofNat xs.length ≤ Int32.ofNat 3072 from hd)
  exact ⟨b, xs, Cond.one_arg hc (show args[0]? = some (.ref b) from hb), hx, hN, h⟩
theorem lw_comes (l : Launch) (hflags : l.flags = flags0) : Comes l x (Jvm.Cond.code x code maxLocals ret :: tables_1) room_1 (fun tb e args s => Calls_1 tb e args s ∧ rest_1 tb e args s ∧ Pre_1 tb e args s)
    (fun _ _ args s o t => lw_Q args s o t) := by
  intro p e ha hc hk s m args below hf hfit hheap happ hpre
  obtain ⟨b, xs, hP⟩ := lw_pre_spec hpre.2.2 hpre.2.1
  obtain ⟨k, o, h1, h2, h3, hQ⟩ := lw_walk l hflags b xs p e ha hc hk s m args below hf ((Spec.applies_iff_loose hf).mp happ).1 hP trivial
  exact ⟨k, o, h1, h2, h3, hQ⟩
theorem lw_frame {s t : State} {o : Outcome} {args : Array Value} (h : Framed s o t [] 601024 7293034) :
    Framed s o t (fieldLocs frame_1_writes args s ++ arrayLocs frame_1_arrays args s ++ staticLocs frame_1_statics s) 601024 7293034 := h
theorem lw_limb (L : Cond) (hL : ∀ (args : Array Value) (s t : State), L.after args s (.returned (some (.int 1))) t = true) :
    ArmFor flags0 classFile x code maxLocals ret World_1 tables_1 room_1 Calls_1 rest_1 Pre_1
      (fun tb e a s o t => postC L tb e a s o t ∧ Framed s o t (fieldLocs frame_1_writes a s ++ arrayLocs frame_1_arrays a s ++ staticLocs frame_1_statics s) 601024 7293034) := by
  intro l hflags _ _ p e ha hc hk s m args below hf hfit hheap happ hpre
  obtain ⟨k, o, h1, h2, h3, rfl, hF⟩ := lw_comes l hflags p e ha hc hk s m args below hf hfit hheap happ hpre
  exact ⟨k, _, h1, h2, h3, hL args s _, lw_frame hF⟩
theorem i_vc : Claimed_1_1 ∧ Claimed_1_2 := ⟨lw_limb limb_1_1 (fun args s t => by simp [limb_1_1, Cond.after, Cond.holds, Cond.value]), lw_limb limb_1_2 (fun args s t => Cond.after_iff.mpr (by
  first | (rw [show limb_1_2 = Cond.eq .result (.int 1) from rfl, Cond.eq_ints (x := 1) (y := 1) rfl rfl]; simp; done) | (simp [limb_1_2, Cond.value, Term.eval]; done)))⟩
