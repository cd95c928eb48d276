section PVR
variable {F : pb_F} {μ : pb_M} {d k n : Nat} {cells slots sz : Nat} {sk : pb_Sk} {rf : pb_Rf} {sg : pb_Sg} {pc q : Nat} {L : List (Option Value)} {st : List Value}
theorem pb_lv (av : List Value) : ∀ (i : Nat), (∀ v ∈ av, v.category = 1) → ∀ (j : Nat) (v : Value), av[j]? = some v → (i + j, v) ∈ lv_args i av := by
  induction av with
  | nil => intro i _ j v h; simp at h
  | cons w t ih =>
    intro i hc j v h
    have c1 : ¬ w.category = 2 := by rw [hc w List.mem_cons_self]; decide
    unfold lv_args
    rw [if_neg c1]
    cases j with
    | zero =>
      have : w = v := by simpa using h
      subst this
      exact List.mem_cons_self
    | succ j =>
      have h' : t[j]? = some v := by simpa using h
      have := ih (i + 1) (fun x hx => hc x (List.mem_cons_of_mem _ hx)) j v h'
      rw [show i + 1 + j = i + (j + 1) by omega] at this
      exact List.mem_cons_of_mem _ this
theorem pb_sl (av : List Value) (hc : ∀ v ∈ av, v.category = 1) : (lg_sl av).length = av.length := by
  induction av with
  | nil => rfl
  | cons w t ih =>
    have c1 : ¬ w.category = 2 := by rw [hc w List.mem_cons_self]; decide
    have := ih (fun x hx => hc x (List.mem_cons_of_mem _ hx))
    unfold lg_sl at this ⊢
    rw [List.flatMap_cons, if_neg c1]
    simp [this]
def pb_L0 (av : List Value) (n : Nat) : List (Option Value) := av.map some ++ List.replicate (n - av.length) none
theorem pb_entry {av : List Value} {n : Nat} (hc : ∀ v ∈ av, v.category = 1) (hn : av.length ≤ n) : pb_L ((lg_sl av ++ List.replicate (n - (lg_sl av).length) Slot.unset).toArray) (pb_L0 av n) := by
  have h := lv_entry av (n := n) (by rw [pb_sl av hc]; exact hn)
  refine ⟨?_, h.2.1, fun i v hi => ?_⟩
  · rw [h.1]
    unfold pb_L0
    simp
    omega
  · have hi2 : av[i]? = some v := by
      unfold pb_L0 at hi
      by_cases e : i < av.length
      · rw [List.getElem?_append_left (by simpa using e)] at hi
        simpa using hi
      · rw [List.getElem?_append_right (by simpa using Nat.le_of_not_lt e)] at hi
        have := List.mem_of_getElem? hi
        have := List.eq_of_mem_replicate this
        cases this
    have h3 := pb_lv av 0 hc i v hi2
    rw [Nat.zero_add] at h3
    exact ⟨h.2.2 _ h3, hc v (List.mem_of_getElem? hi2)⟩
theorem pb_startF {l : Launch} {G : pb_G} {p : Program} {e : Env} {s : State} {m : MethodId} {args : Array Value} {below : List Frame} {meth : Method} {c : Code} {s₁ : State} {μ : pb_M} {av : List Value} {post : pb_Post} (hfl : l.stackTraces = false) (hc : ∀ v ∈ av, v.category = 1) (hle : av.length ≤ μ.2.2.1)
    (body : ∀ F : pb_F, pb_l F = l → pb_Fx F μ d k n → pb_Fq F k n post → pv F 0 0 sz sk rf sg 0 (pb_L0 av μ.2.2.1) [])
    (B : BodyLoose p l μ.1 (headSpec (pb_code μ :: tbG) (pb_room d k n)) μ.2.1 μ.2.2.1 μ.2.2.2.1 e s m args below meth c s₁) (hml : c.maxLocals = μ.2.2.1) (htab : c.exceptionTable.toList = tableOf μ.2.2.2.2) (hp : pb_Pc G av sz sk rf sg args s) :
    W p l e (headSpec (pb_code μ :: tbG) (pb_room d k n)).room s m args below meth c s.heap [] 0 0 (vx_MQ below (pb_Qc G post) (pb_XC G post) args s k n (pb_own G)) (entryFrame m args μ.2.2.1) := by
  obtain ⟨rfl, hK, hR, hb0⟩ := hp
  have hts := atoms_spec (ws := pb_code μ :: tbG) B.pre
  rw [lg_entry_eq]
  exact body ((p, l, e, (headSpec (pb_code μ :: tbG) (pb_room d k n)).room, s, m, av.toArray, below, meth, c), vx_MQ below (pb_Qc G post) (pb_XC G post) av.toArray s k n (pb_own G), G) rfl
    ⟨B.exec, B.bytes, B.returns, hml, findClass_of_methodNamed B.named, fun w hw => hts w (List.mem_cons_of_mem _ hw), B.notSynchronized, (name_of_methodNamed B.named B.method).1, htab, hfl, hK, hb0, Nat.le_refl _, Nat.le_refl _, Nat.le_refl _, Nat.le_refl _⟩ rfl
    s.heap _ [] hR (pb_entry hc hle) va_S.rf
/-- a contract out of a walk -/
theorem pb_start {l : Launch} {μ : pb_M} {av : List Value} {post : pb_Post} (hfl : l.stackTraces = false) (hy : plainName μ.1.cls = true) (h0 : μ.2.2.2.2 = []) (hc : ∀ v ∈ av, v.category = 1) (hle : av.length ≤ μ.2.2.1)
    (body : ∀ F : pb_F, pb_l F = l → pb_Fx F μ d k n → pb_Fq F k n post → pv F 0 0 sz sk rf sg 0 (pb_L0 av μ.2.2.1) []) : pb_Met l μ d k n av sz sk rf sg post := by
  intro G
  refine vx_ofW (cc := μ.2.1) (maxL := μ.2.2.1) (ret := μ.2.2.2.1) (ws' := tbG) hy (by rw [pb_codeN h0]) ?_
  intro p e s m args below meth c s₁ B hml htab hp
  refine pb_startF hfl hc hle body B hml ?_ hp
  rw [h0]
  exact List.eq_nil_iff_forall_not_mem.mpr fun x hx => htab x hx
theorem pb_startH {l : Launch} {μ : pb_M} {av : List Value} {post : pb_Post} (hfl : l.stackTraces = false) (hy : plainName μ.1.cls = true) (h0 : μ.2.2.2.2 ≠ []) (hc : ∀ v ∈ av, v.category = 1) (hle : av.length ≤ μ.2.2.1)
    (body : ∀ F : pb_F, pb_l F = l → pb_Fx F μ d k n → pb_Fq F k n post → pv F 0 0 sz sk rf sg 0 (pb_L0 av μ.2.2.1) []) : pb_Met l μ d k n av sz sk rf sg post := by
  intro G
  refine vx_ofWH (cc := μ.2.1) (maxL := μ.2.2.1) (ret := μ.2.2.2.1) (ws' := tbG) hy (by rw [pb_codeH h0]) ?_
  intro p e s m args below meth c s₁ B hml hp
  refine pb_startF hfl hc hle body B hml ?_ hp
  exact vx_table (x := μ.1) B (atoms_spec (ws := pb_code μ :: tbG) B.pre _ (by rw [pb_codeH h0]; exact List.mem_cons_self))
theorem v_iret (h : pb_Fx F μ d k n) {post : pb_Post} {x : Int32} {ty : FieldType} (hQ : pb_Fq F k n post) (hr : μ.2.2.2.1 = some ty) (hn : narrow ty (.int x) = .int x) (dd : decode μ.2.1 pc = .ok (.ireturn, 1)) (hc : cells ≤ k) (hs : slots ≤ n) (hp : post (.inl (some (.int x))) sz sk rf sg) : pv F cells slots sz sk rf sg pc L [.int x] := by
  intro H ls locs hR hL hS
  obtain ⟨hx, hb, hret, hml, hown, hts, hlk, hnm, htab, hfl, hK, hb0, hrm⟩ := h
  show W _ _ _ _ _ _ _ _ _ _ _ _ _ _ (pb_Q F) _
  rw [hQ]
  refine W.widen (k := k) (n := n) hc hs (vx_ret (W.zret hx hb (hret.trans hr) hn (fun t ht hW => ⟨⟨some (.int x), sz, sk, rf, sg, rfl, hp, by rw [ht]; exact hR⟩, hS.F ht⟩) hS.2.2 dd hlk))
theorem v_vret (h : pb_Fx F μ d k n) {post : pb_Post} (hQ : pb_Fq F k n post) (hr : μ.2.2.2.1 = none) (dd : decode μ.2.1 pc = .ok (.return_, 1)) (hc : cells ≤ k) (hs : slots ≤ n) (hp : post (.inl none) sz sk rf sg) : pv F cells slots sz sk rf sg pc L [] := by
  intro H ls locs hR hL hS
  obtain ⟨hx, hb, hret, hml, hown, hts, hlk, hnm, htab, hfl, hK, hb0, hrm⟩ := h
  show W _ _ _ _ _ _ _ _ _ _ _ _ _ _ (pb_Q F) _
  rw [hQ]
  refine W.widen (k := k) (n := n) hc hs (vx_ret (W.vret hx hb (hret.trans hr) (fun t ht hW => ⟨⟨none, sz, sk, rf, sg, rfl, hp, by rw [ht]; exact hR⟩, hS.F ht⟩) hS.2.2 dd hlk))
theorem v_aret (h : pb_Fx F μ d k n) {post : pb_Post} {a : Nat} {C : String} (hQ : pb_Fq F k n post) (hr : μ.2.2.2.1 = some (.object C)) (dd : decode μ.2.1 pc = .ok (.areturn, 1)) (hc : cells ≤ k) (hs : slots ≤ n) (hp : post (.inl (some (.ref a))) sz sk rf sg) : pv F cells slots sz sk rf sg pc L [.ref a] := by
  intro H ls locs hR hL hS
  obtain ⟨hx, hb, hret, hml, hown, hts, hlk, hnm, htab, hfl, hK, hb0, hrm⟩ := h
  show W _ _ _ _ _ _ _ _ _ _ _ _ _ _ (pb_Q F) _
  rw [hQ]
  refine W.widen (k := k) (n := n) hc hs (vx_ret (W.aret hx hb (hret.trans hr) (Or.inl ⟨C, rfl⟩) (Or.inr ⟨a, rfl⟩) (fun t ht hW => ⟨⟨some (.ref a), sz, sk, rf, sg, rfl, hp, by rw [ht]; exact hR⟩, hS.F ht⟩) hS.2.2 dd hlk))
/-- an exception goes on to the caller: no handler here -/
theorem v_out (h : pb_Fx F μ d k n) {post : pb_Post} {E : String} (hQ : pb_Fq F k n post) (h0 : μ.2.2.2.2 = []) (hc : cells ≤ k) (hs : slots ≤ n) (hp : post (.inr E) sz sk rf sg) : px F cells slots sz sk rf sg pc L E := by
  intro H ls locs qq ce rest hR hL hS hce hv hcl
  obtain ⟨hx, hb, hret, hml, hown, hts, hlk, hnm, htab, hfl, hK, hb0, hrm⟩ := h
  show vx_W _ _ _ _ _ _ _ _ _ _ _ _ _ _ (pb_Q F) _ _
  rw [hQ]
  refine vx_out (fun x hx9 => ?_) hlk hce hv hcl (fun t ht ha => ⟨⟨sz, sk, rf, sg, hp, by rw [ht]; exact hR⟩, hS.F ht⟩) hS.2.2 hc hs
  rw [htab, h0] at hx9
  cases hx9
/-- what the making and throwing of X with a text needs of the tables -/
def pb_TH (own : String) (X : String) (ik ic : Nat) : Prop := Bundle.fit X = true ∧ Cond.classLink own ik X ∈ tbG ∧ Cond.initialized X ∈ tbG ∧ (∀ w ∈ (vx_atS own ic X ["java/lang/RuntimeException", "java/lang/Exception"]).filter goodWord, w ∈ tbG) ∧ (∀ w ∈ (vx_atS own ic X ["java/lang/RuntimeException", "java/lang/Exception"]).filter (fun w => !goodWord w), w ∈ tbX ∧ w.onTables = true) ∧ ∀ w ∈ Cond.classLink own ik X :: Cond.initialized X :: vx_atS own ic X ["java/lang/RuntimeException", "java/lang/Exception"], vx_ot w = true
theorem v_throw (h : pb_Fx F μ d k n) {post : pb_Post} {X text : String} {ik ic is : Nat} (hQ : pb_Fq F k n post) (h0 : μ.2.2.2.2 = []) (hT : pb_TH μ.1.cls X ik ic) (hst : (μ.1.cls, is, text) ∈ pb_strs) (hLn : L.length = μ.2.2.1) (d0 : decode μ.2.1 pc = .ok (.new ik, 3)) (d3 : decode μ.2.1 (pc + 3) = .ok (.dup, 1)) (d4 : decode μ.2.1 (pc + 4) = .ok (.ldc is, 2)) (d6 : decode μ.2.1 (pc + 6) = .ok (.invokespecial ic, 3)) (d9 : decode μ.2.1 (pc + 9) = .ok (.athrow, 1)) (hd : 6 ≤ d) (hW : (st.map fun v => v.category).sum ≤ 8) (hc : cells + 1 ≤ k) (hs : slots + 6 ≤ n) (hp : ∀ sz', sz ≤ sz' → post (.inr X) sz' sk rf sg) : pv F cells slots sz sk rf sg pc L st := by
  intro H ls locs hR hL hS
  obtain ⟨t1, t2, t3, t4, t5, t6⟩ := hT
  obtain ⟨hx, hb, hret, hml, hown, hts, hlk, hnm, htab, hfl, hK, hb0, hr1, hr2, hr3, hr4⟩ := h
  obtain ⟨sa, hsa⟩ := hK.2.2.2.2.1 _ hst
  show W _ _ _ _ _ _ _ _ _ _ _ _ _ _ (pb_Q F) _
  rw [hQ]
  refine vx_throwS hx hb hfl (names := ["java/lang/RuntimeException", "java/lang/Exception"]) hown t1 (by decide +kernel) (hts _ t2) (hts _ t3) hsa (fun w hw => ?_) t6 hK.2.1 hK.2.2.1 hS (by rw [hL.1, hLn, hml]) d0 d3 d4 d6 d9 (fun x hx9 => ?_) ?_ ?_ (Nat.le_trans hc hr3) (Nat.le_trans hs hr4) hlk (fun t ha hz ho => ?_) hS.2.2 hc hs
  · by_cases g : goodWord w = true
    · exact hts _ (t4 w (List.mem_filter.mpr ⟨hw, g⟩))
    · have g' : (!goodWord w) = true := by
        cases e : goodWord w
        · rfl
        · exact absurd e g
      obtain ⟨a1, a2⟩ := t5 w (List.mem_filter.mpr ⟨hw, g'⟩)
      exact (hK.2.2.2.1 w a1).use a2
  · rw [htab, h0] at hx9
    cases hx9
  · show 2 + 3 < _
    omega
  · show _ + (13 * (2 + 1) + 43) ≤ _
    omega
  · have h2 := hR.same hz ho
    exact ⟨⟨_, sk, rf, sg, hp _ (by rw [← hR.1]; exact hz), h2⟩, Nat.le_trans hS.1 hz, fun q h1 h2 => by rw [ho q (Nat.lt_of_lt_of_le h1 hS.1)]; exact hS.2.1 q h1 h2⟩
theorem v_throwW (h : pb_Fx F μ d k n) {post : pb_Post} {X text : String} {ik ic is : Nat} (hQ : pb_Fq F k n post) (h0 : μ.2.2.2.2 = []) (hT : pb_TH μ.1.cls X ik ic) (hst : (μ.1.cls, is, text) ∈ pb_strs) (hLn : L.length = μ.2.2.1) (d0 : decode μ.2.1 pc = .ok (.new ik, 3)) (d3 : decode μ.2.1 (pc + 3) = .ok (.dup, 1)) (d4 : decode μ.2.1 (pc + 4) = .ok (.ldc_w is, 3)) (d7 : decode μ.2.1 (pc + 7) = .ok (.invokespecial ic, 3)) (d10 : decode μ.2.1 (pc + 10) = .ok (.athrow, 1)) (hd : 6 ≤ d) (hW : (st.map fun v => v.category).sum ≤ 8) (hc : cells + 1 ≤ k) (hs : slots + 6 ≤ n) (hp : ∀ sz', sz ≤ sz' → post (.inr X) sz' sk rf sg) : pv F cells slots sz sk rf sg pc L st := by
  intro H ls locs hR hL hS
  obtain ⟨t1, t2, t3, t4, t5, t6⟩ := hT
  obtain ⟨hx, hb, hret, hml, hown, hts, hlk, hnm, htab, hfl, hK, hb0, hr1, hr2, hr3, hr4⟩ := h
  obtain ⟨sa, hsa⟩ := hK.2.2.2.2.1 _ hst
  show W _ _ _ _ _ _ _ _ _ _ _ _ _ _ (pb_Q F) _
  rw [hQ]
  refine vx_throwSW hx hb hfl (names := ["java/lang/RuntimeException", "java/lang/Exception"]) hown t1 (by decide +kernel) (hts _ t2) (hts _ t3) hsa (fun w hw => ?_) t6 hK.2.1 hK.2.2.1 hS (by rw [hL.1, hLn, hml]) d0 d3 d4 d7 d10 (fun x hx9 => ?_) ?_ ?_ (Nat.le_trans hc hr3) (Nat.le_trans hs hr4) hlk (fun t ha hz ho => ?_) hS.2.2 hc hs
  · by_cases g : goodWord w = true
    · exact hts _ (t4 w (List.mem_filter.mpr ⟨hw, g⟩))
    · have g' : (!goodWord w) = true := by
        cases e : goodWord w
        · rfl
        · exact absurd e g
      obtain ⟨a1, a2⟩ := t5 w (List.mem_filter.mpr ⟨hw, g'⟩)
      exact (hK.2.2.2.1 w a1).use a2
  · rw [htab, h0] at hx9
    cases hx9
  · show 2 + 3 < _
    omega
  · show _ + (13 * (2 + 1) + 43) ≤ _
    omega
  · have h2 := hR.same hz ho
    exact ⟨⟨_, sk, rf, sg, hp _ (by rw [← hR.1]; exact hz), h2⟩, Nat.le_trans hS.1 hz, fun q h1 h2 => by rw [ho q (Nat.lt_of_lt_of_le h1 hS.1)]; exact hS.2.1 q h1 h2⟩
/-- the first handler whose class is E -/
theorem v_catch (h : pb_Fx F μ d k n) {E : String} {a1 a2 hp9 ct : Nat} (pre suf : List (Nat × Nat × Nat × Nat)) (hsp : μ.2.2.2.2 = pre ++ (a1, a2, hp9, ct) :: suf) (hpass : ∀ z ∈ pre, z.2.2.2 ≠ 0 ∧ ∃ nm : String, Cond.classLink μ.1.cls z.2.2.2 nm ∈ tbG ∧ (E, nm) ∈ pb_ncs) (h0 : ct ≠ 0) (hlink : Cond.classLink μ.1.cls ct E ∈ tbG) (hcast : Cond.castable E E ∈ tbX) (hcov9 : covers (⟨a1, a2, hp9, ct⟩ : ExceptionTableEntry) pc = true) (kk : ∀ qq : Nat, pv F cells slots sz sk rf sg hp9 L [.ref qq]) : px F cells slots sz sk rf sg pc L E := by
  intro H ls locs qq ce rest hR hL hS hce hv hcl
  obtain ⟨hx, hb, hret, hml, hown, hts, hlk, hnm, htab, hfl, hK, hb0, hrm⟩ := h
  refine vx_catch (name := E) hown (tableOf pre) ⟨a1, a2, hp9, ct⟩ (tableOf suf) (by rw [htab, hsp]; unfold tableOf; rw [List.map_append, List.map_cons]) (fun z hz => ?_) hcov9 h0 (hts _ hlink) ((hK.2.2.2.1 _ hcast).use rfl) hce hv hcl (kk qq H ls locs hR hL hS)
  unfold tableOf at hz
  obtain ⟨y, hy, rfl⟩ := List.mem_map.mp hz
  obtain ⟨b1, nm, b2, b3⟩ := hpass y hy
  exact Or.inr ⟨b1, nm, hts _ b2, hK.2.2.2.2.2.1 _ b3⟩
-- new cells
theorem pb_dflt {c j : Nat} (h : pb_isI (pb_ty c j) = true ∨ pb_isR (pb_ty c j) = true) : defaultValue (pb_ty c j) = pb_V c (fun _ => none) (fun _ => 0) j := by
  unfold pb_V
  rcases h with h | h
  · rw [if_pos h, pb_isI_int h]; rfl
  · rw [if_neg (by rw [pb_isR_I h]; decide)]
    cases e : pb_ty c j <;> first | rfl | (rw [e] at h; simp [pb_isR] at h)
theorem v_new (h : pb_Fx F μ d k n) {i c : Nat} (hc9 : c < 9) (hw : Cond.classLink μ.1.cls i (pb_C c) ∈ tbG) (hi : Cond.instantiable (pb_C c) (pb_N c) ∈ tbG) (hini : Cond.initialized (pb_C c) ∈ tbG) (hty : ∀ j, j < pb_N c → (pb_isI (pb_ty c j) = true ∨ pb_isR (pb_ty c j) = true)) (hc : cells + 1 ≤ k) (hs : slots + pb_N c ≤ n) (dd : decode μ.2.1 pc = .ok (.new i, 3)) (hq : pc + 3 = q) (kk : pv F (cells + 1) (slots + pb_N c) (sz + 1) (pb_uk sk sz (c + 6, 0)) (pb_u0 rf sz none) (pb_u0 sg sz 0) q L (.ref sz :: st)) : pv F cells slots sz sk rf sg pc L st := by
  subst hq
  obtain ⟨hx, hb, hret, hml, hown, hts, hlk, hnm, htab, hfl, hK, hb0, hr1, hr2, hr3, hr4⟩ := h
  intro H ls locs hR hL hS
  have hKn := hK.1.1 c _ (pb_cl hc9)
  refine W.newcK hx hb hown (hts _ hw) (hts _ hi) (hts _ hini) rfl dd (Nat.le_trans hc hr3) (Nat.le_trans hs hr4) hKn.2.1 hR.1 fun H1 kC hkC e1 z1 o1 => ?_
  refine kk H1 ls locs (hR.push (fun b hb => pb_u0_ne hb) (fun b hb => pb_u0_ne hb) (Nat.le_trans hb0 hS.1) ?_ (by rw [z1, hR.1]) (fun q hq => o1 q (by rw [← hR.1]; exact hq))) hL ⟨Nat.le_trans hS.1 (by rw [z1, hR.1]; omega), fun x h1 h2 => (o1 x (by rw [← hR.1]; exact Nat.lt_of_lt_of_le h1 hS.1)).trans (hS.2.1 x h1 h2), hS.2.2⟩
  rw [pb_u0_eq, pb_u0_eq]
  exact t_OB.to (u_born (pb_ty c) hts (pb_lay hc9) hKn hkC e1 (pb_tok hc9)) (fun j hj => pb_dflt (hty j hj))
theorem v_newai (h : pb_Fx F μ d k n) {x : Int32} {m : Nat} (hw : Cond.arrayClass .int ∈ tbG) (hm : x = nI m) (hm2 : m ≤ 100000) (hc : cells + 1 ≤ k) (hs : slots + m ≤ n) (dd : decode μ.2.1 pc = .ok (.newarray .int, 2)) (hq : pc + 2 = q) (kk : pv F (cells + 1) (slots + m) (sz + 1) (pb_uk sk sz (1, m)) (pb_u0 rf sz none) (pb_u0 sg sz 0) q L (.ref sz :: st)) : pv F cells slots sz sk rf sg pc L (.int x :: st) := by
  subst hq
  obtain ⟨hx, hb, hret, hml, hown, hts, hlk, hnm, htab, hfl, hK, hb0, hr1, hr2, hr3, hr4⟩ := h
  intro H ls locs hR hL hS
  refine va_newaK hx hb (atype := .int) (hts _ hw) rfl dd rfl (N := m) (by rw [hm]; exact nI_pos (by omega)) (by rw [hm]; exact nI_clamp (by omega)) (by show m * 4 ≤ _; omega) (Nat.le_trans hc hr3) (Nat.le_trans hs hr4) hR.1 fun H1 cA e1 z1 o1 hAr hNm => ?_
  have hcA : cA = (pb_g F).2.1 1 := Option.some.inj (hNm.symm.trans (hK.tys 0 rfl).2)
  subst hcA
  refine kk H1 ls locs (hR.push (fun b hb => pb_u0_ne hb) (fun b hb => pb_u0_ne hb) (Nat.le_trans hb0 hS.1) ?_ (by rw [z1, hR.1]) (fun q hq => o1 q (by rw [← hR.1]; exact hq))) hL ⟨Nat.le_trans hS.1 (by rw [z1, hR.1]; omega), fun x h1 h2 => (o1 x (by rw [← hR.1]; exact Nat.lt_of_lt_of_le h1 hS.1)).trans (hS.2.1 x h1 h2), hS.2.2⟩
  rw [pb_u0_eq, pb_u0_eq]
  exact e1
theorem v_newaz (h : pb_Fx F μ d k n) {x : Int32} {m : Nat} (hw : Cond.arrayClass .boolean ∈ tbG) (hm : x = nI m) (hm2 : m ≤ 100000) (hc : cells + 1 ≤ k) (hs : slots + m ≤ n) (dd : decode μ.2.1 pc = .ok (.newarray .boolean, 2)) (hq : pc + 2 = q) (kk : pv F (cells + 1) (slots + m) (sz + 1) (pb_uk sk sz (2, m)) (pb_u0 rf sz none) (pb_u0 sg sz 0) q L (.ref sz :: st)) : pv F cells slots sz sk rf sg pc L (.int x :: st) := by
  subst hq
  obtain ⟨hx, hb, hret, hml, hown, hts, hlk, hnm, htab, hfl, hK, hb0, hr1, hr2, hr3, hr4⟩ := h
  intro H ls locs hR hL hS
  refine va_newaK hx hb (atype := .boolean) (hts _ hw) rfl dd rfl (N := m) (by rw [hm]; exact nI_pos (by omega)) (by rw [hm]; exact nI_clamp (by omega)) (by show m * 1 ≤ _; omega) (Nat.le_trans hc hr3) (Nat.le_trans hs hr4) hR.1 fun H1 cA e1 z1 o1 hAr hNm => ?_
  have hcA : cA = (pb_g F).2.1 2 := Option.some.inj (hNm.symm.trans (hK.tys 1 rfl).2)
  subst hcA
  refine kk H1 ls locs (hR.push (fun b hb => pb_u0_ne hb) (fun b hb => pb_u0_ne hb) (Nat.le_trans hb0 hS.1) ?_ (by rw [z1, hR.1]) (fun q hq => o1 q (by rw [← hR.1]; exact hq))) hL ⟨Nat.le_trans hS.1 (by rw [z1, hR.1]; omega), fun x h1 h2 => (o1 x (by rw [← hR.1]; exact Nat.lt_of_lt_of_le h1 hS.1)).trans (hS.2.1 x h1 h2), hS.2.2⟩
  rw [pb_u0_eq, pb_u0_eq]
  exact e1
theorem v_objInit (h : pb_Fx F μ d k n) {i a : Nat} (hw : Cond.methodLink μ.1.cls i objectInit ∈ tbG) (hin : Cond.instanceMethod objectInit ∈ tbG) (hcode : Cond.code objectInit ⟨#[0xb1]⟩ 1 none ∈ tbG) (hd : 1 ≤ d) (hW : (st.map fun v => v.category).sum ≤ 8) (hLn : L.length = μ.2.2.1) (dd : decode μ.2.1 pc = .ok (.invokespecial i, 3)) (hq : pc + 3 = q) (kk : pv F cells slots sz sk rf sg q L st) : pv F cells slots sz sk rf sg pc L (.ref a :: st) := by
  subst hq
  obtain ⟨hx, hb, hret, hml, hown, hts, hlk, hnm, htab, hfl, hK, hb0, hr1, hr2, hr3, hr4⟩ := h
  intro H ls locs hR hL hS
  refine W.objInit hx hb hown (hts _ hw) (hts _ hin) (hts _ hcode) rfl (by show ls.size = _; rw [hL.1, hLn, hml]) rfl dd (Nat.le_trans hd hr1) ?_ (kk H ls locs hR hL hS)
  have := lv_room (m := pb_m F) (pc := pc) (ls := ls) (rest := .ref a :: st) hW
  omega
theorem v_max (h : pb_Fx F μ d k n) {i : Nat} {x y : Int32} (hw : Cond.methodLink μ.1.cls i Lib.Math.max.name ∈ tbG) (hst : Cond.static Lib.Math.max.name ∈ tbG) (hini : Cond.initialized "java/lang/Math" ∈ tbG) (hcode : Cond.code Lib.Math.max.name Lib.Math.max.code 2 (some .int) ∈ tbG) (hd : 1 ≤ d) (hW : (st.map fun v => v.category).sum ≤ 8) (hc : cells ≤ k) (hs : slots ≤ n) (hLn : L.length = μ.2.2.1) (dd : decode μ.2.1 pc = .ok (.invokestatic i, 3)) (hq : pc + 3 = q) (kk : pv F cells slots sz sk rf sg q L (.int (if x < y then y else x) :: st)) : pv F cells slots sz sk rf sg pc L (.int y :: .int x :: st) := by
  subst hq
  obtain ⟨hx, hb, hret, hml, hown, hts, hlk, hnm, htab, hfl, hK, hb0, hr1, hr2, hr3, hr4⟩ := h
  intro H ls locs hR hL hS
  exact va_mmax hx hb (by rw [hml, hL.1, hLn]) hown (hts _ hw) (hts _ hst) (hts _ hini) (hts _ hcode) (Nat.le_trans hd hr1) (by omega) (Nat.le_trans hc hr3) (Nat.le_trans hs hr4) dd (kk H ls locs hR hL hS)
end PVR
