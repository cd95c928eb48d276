section PVR
variable {F : pb_F} {μ : pb_M} {d k n : Nat} {cells slots sz : Nat} {sk : pb_Sk} {rf : pb_Rf} {sg : pb_Sg} {pc q : Nat} {L : List (Option Value)} {st : List Value}
theorem pb_K.same {G : pb_G} {u U : State} (hv : u.vm = U.vm) (hh : u.heap = U.heap) (h : pb_K G u) : pb_K G U := by
  have ha : u.vm.Alike U.vm := by rw [hv]; exact Vm.Alike.refl _
  obtain ⟨h1, h2, h3, h4, h5, h6, h7, h8⟩ := h
  refine ⟨h1.moved ha, ?_, ?_, fun w hw => (h4 w hw).same ?_ hv, fun q hq => ?_, fun q hq => (h6 q hq).moved ha, h7.moved ha, h8.moved ha⟩
  · have := h2.moved (U := U) ha
    rw [hh] at this
    exact this
  · have := h3.moved (U := U) ha
    rw [hh] at this
    exact this
  · have h9 := (List.mem_filter.mp hw).2
    cases w <;> first | rfl | (simp [pb_bad] at h9)
  · obtain ⟨sa, hs⟩ := h5 q hq
    exact ⟨sa, hs.same hv.symm⟩
theorem pb_K.warm {G : pb_G} {s U : State} (hW : s.WarmedH U.vm) (hz : ∀ q : Nat, q < s.heap.size → ¬ pb_own G q → U.heap[q]? = s.heap[q]?) (h : pb_K G s) : pb_K G U := by
  obtain ⟨h1, h2, h3, h4, h5, h6, h7, h8⟩ := h
  refine ⟨h1.moved hW.alike, (h2.moved hW.alike).kept hz, (h3.moved hW.alike).kept hz, fun w hw => ?_, fun q hq => ?_, fun q hq => (h6 q hq).moved hW.alike, h7.moved hW.alike, h8.moved hW.alike⟩
  · have h8 := h4 w hw
    have h9 := (List.mem_filter.mp hw).2
    cases w <;> first | exact h8.warmC hW | exact h8.warmM hW | exact h8.warmD hW | (simp [pb_bad] at h9)
  · obtain ⟨sa, hs⟩ := h5 q hq
    exact ⟨sa, hs.warm hW⟩
theorem pb_blind {G : pb_G} {av : List Value} {sz : Nat} {sk : pb_Sk} {rf : pb_Rf} {sg : pb_Sg} : FrameBlind (pb_Pc G av sz sk rf sg) := by
  rintro a U g mk ⟨h1, h2, h3, h4⟩
  exact ⟨h1, h2.same (u := U) (U := U.calling g mk a) rfl rfl, h3, h4⟩
/-- what a call needs of the tables -/
def pb_MI (μ' : pb_M) (N : Nat) : Prop := μ'.2.2.2.2 = [] ∧ Cond.instanceMethod μ'.1 ∈ tbG ∧ Cond.initialized μ'.1.cls ∈ tbG ∧ pb_code μ' ∈ tbG ∧ μ'.1.cls ≠ "java/lang/invoke/MethodHandle" ∧ μ'.1.cls ≠ "java/lang/invoke/VarHandle" ∧ (parseMethodDescriptor μ'.1.desc).map (fun d => d.parameters.length) = some N ∧ μ'.2.2.1 ≤ 40
def pb_MS (μ' : pb_M) (N : Nat) : Prop := Cond.static μ'.1 ∈ tbG ∧ Cond.initialized μ'.1.cls ∈ tbG ∧ pb_code μ' ∈ tbG ∧ μ'.1.cls ≠ "java/lang/invoke/MethodHandle" ∧ μ'.1.cls ≠ "java/lang/invoke/VarHandle" ∧ (parseMethodDescriptor μ'.1.desc).map (fun d => d.parameters.length) = some N ∧ μ'.2.2.1 ≤ 40
theorem pb_codeN {μ' : pb_M} (h : μ'.2.2.2.2 = []) : pb_code μ' = Cond.code μ'.1 μ'.2.1 μ'.2.2.1 μ'.2.2.2.1 := by
  unfold pb_code
  rw [h]
theorem pb_codeH {μ' : pb_M} (h : μ'.2.2.2.2 ≠ []) : pb_code μ' = Cond.codeWith μ'.1 μ'.2.1 μ'.2.2.1 μ'.2.2.2.1 μ'.2.2.2.2 := by
  unfold pb_code
  cases e : μ'.2.2.2.2 with
  | nil => exact absurd e h
  | cons a b => rfl
theorem pb_gin {μ' : pb_M} (h : pb_code μ' ∈ tbG) : GoodIn tbG (pb_code μ' :: tbG) := fun w hw => (List.mem_cons.mp hw).elim (fun e => by rw [e]; exact tbG_good _ h) (tbG_good w)
/-- behind a call: it came back, or threw -/
theorem pb_goon {F : pb_F} {cells slots k' n' : Nat} {pc q : Nat} {L : List (Option Value)} {st st0 : List Value} {av : Array Value} {post : pb_Post} {H : Heap} {ls : Array Slot} {locs : List Loc} (hq : pc + 3 = q) (hL : pb_L ls L) (hS : va_S (pb_own (pb_g F)) (pb_s F).heap H locs)
    (hr : vx_Run (pb_p F) (pb_l F) (pb_e F) (pb_rm F) (pb_s F) (pb_m F) (pb_args F) (pb_below F) (pb_meth F) (pb_c F) H locs cells slots k' n' (F0 (pb_m F) pc ls st0) st (pb_Qc (pb_g F) post av) (pb_XC (pb_g F) post) (pb_own (pb_g F)))
    (kr : ∀ v sz' sk' rf' sg', post (.inl v) sz' sk' rf' sg' → pv F (cells + k') (slots + n') sz' sk' rf' sg' q L (v.toList ++ st))
    (kx : ∀ E sz' sk' rf' sg', post (.inr E) sz' sk' rf' sg' → px F (cells + k') (slots + n') sz' sk' rf' sg' pc L E) : pb_W F H locs cells slots (F0 (pb_m F) pc ls st0) := by
  subst hq
  intro T hT X
  rcases hr T hT X with ⟨v, st₀, t, T', LL, h0, X', hLL, e1, e2, ⟨⟨v', sz', sk', rf', sg', hv, hp, hb⟩, hF⟩, stp⟩ | ⟨qq, st₀, t, T', LL, E, ce, h0, X', hLL, e1, e2, ⟨⟨sz', sk', rf', sg', hp, hb⟩, hF⟩, hce, hcv, hcl, stp⟩
  · cases hv
    obtain ⟨k1, k2, k3⟩ := vx_keep h0 e1 hS (fun _ _ z => z) (fun _ z => z) hLL hF
    obtain ⟨t2, a1, b1⟩ := kr v sz' sk' rf' sg' hp T'.heap ls (locs ++ LL) (by rw [e1]; exact hb) hL k3 T' rfl X'
    exact ⟨t2, stp t2 a1, b1⟩
  · obtain ⟨k1, k2, k3⟩ := vx_keep h0 e1 hS (fun _ _ z => z) (fun _ z => z) hLL hF
    obtain ⟨t2, a1, b1⟩ := kx E sz' sk' rf' sg' hp T'.heap ls (locs ++ LL) qq ce st (by rw [e1]; exact hb) hL k3 (by rw [e1]; exact hce) hcv hcl T' rfl X'
    exact ⟨t2, stp.trans a1, b1⟩
theorem pb_pre {F : pb_F} {μ : pb_M} {d k n : Nat} (h : pb_Fx F μ d k n) {av : List Value} {sz : Nat} {sk : pb_Sk} {rf : pb_Rf} {sg : pb_Sg} {H : Heap} {locs : List Loc} (hR : pb_rep (pb_g F) sz sk rf sg H) (hS : va_S (pb_own (pb_g F)) (pb_s F).heap H locs) : PreS (pb_s F) H (pb_Pc (pb_g F) av sz sk rf sg) av := by
  obtain ⟨hx, hb, hret, hml, hown, hts, hlk, hnm, htab, hfl, hK, hb0, hrm⟩ := h
  exact ⟨pb_blind, fun U hU hW => ⟨rfl, hK.warm hW (fun q h1 h2 => by rw [hU]; exact hS.2.1 q h1 h2), by rw [hU]; exact hR, by rw [hU]; exact Nat.le_trans hb0 hS.1⟩⟩
theorem pb_recv {F : pb_F} {μ : pb_M} {d k n : Nat} (h : pb_Fx F μ d k n) {sz : Nat} {sk : pb_Sk} {rf : pb_Rf} {sg : pb_Sg} {H : Heap} (hR : pb_rep (pb_g F) sz sk rf sg H) {b c : Nat} (hc : c < 9) (hk : sk b = (c + 6, 0)) : ∃ cellB : Cell, H[b]? = some cellB ∧ cellB.vm.isStatics = false ∧ (pb_s F).vm.findClass (pb_C c) = some cellB.cls := by
  obtain ⟨hx, hb, hret, hml, hown, hts, hlk, hnm, htab, hfl, hK, hb0, hrm⟩ := h
  obtain ⟨cell, q1, q2, q3, q4⟩ := pb_cellO (hR.2 b (by rw [hk]; exact Nat.succ_ne_zero _)).2 hk
  obtain ⟨hSl, hfc, kC, hkC, hkind⟩ := hK.1.1 c _ (pb_cl hc)
  exact ⟨cell, q1, by rw [q3]; rfl, by rw [q2]; exact hfc⟩
theorem pb_CB {F : pb_F} {μ μ' : pb_M} {d k n d' k' n' N i : Nat} (h : pb_Fx F μ d k n) (h0 : μ'.2.2.2.2 = []) (hini : Cond.initialized μ'.1.cls ∈ tbG) (hcode : pb_code μ' ∈ tbG) (hn1 : μ'.1.cls ≠ "java/lang/invoke/MethodHandle") (hn2 : μ'.1.cls ≠ "java/lang/invoke/VarHandle") (hN : (parseMethodDescriptor μ'.1.desc).map (fun d => d.parameters.length) = some N) (hm : μ'.2.2.1 ≤ 40) (hl : Cond.methodLink μ.1.cls i μ'.1 ∈ tbG) (hd : d' + 1 ≤ d) :
    CallB (pb_rm F) (pb_s F) (pb_args F) μ.1.cls i μ'.1 μ'.2.1 μ'.2.2.1 μ'.2.2.2.1 (pb_code μ' :: tbG) (pb_room d' k' n') k' n' N := by
  obtain ⟨hx, hb, hret, hml, hown, hts, hlk, hnm, htab, hfl, hK, hb0, hr1, hr2, hr3, hr4⟩ := h
  have hc9 := pb_codeN h0
  refine ⟨rfl, rfl, Nat.le_trans hd hr1, ?_, pay_in hts (pb_gin hcode), ?_, ?_, hts _ hini, ⟨hn1, hn2⟩, fun sig hs => ?_, hts _ hl⟩
  · show 8 + (μ'.2.2.1 + 11) + 100 * d' ≤ _
    omega
  · rw [← hc9]; exact List.mem_cons_self
  · rw [← hc9]; exact hts _ hcode
  · rw [hs] at hN
    exact (Option.some.inj hN).symm
theorem v_callV (h : pb_Fx F μ d k n) {μ' : pb_M} {d' k' n' N i b c : Nat} {av st0 : List Value} {post : pb_Post} (hM : pb_Met (pb_l F) μ' d' k' n' (.ref b :: av) sz sk rf sg post) (hm : pb_MI μ' N) (hl : Cond.methodLink μ.1.cls i μ'.1 ∈ tbG) (hsl : Cond.selects μ'.1.cls μ'.1 μ'.1 ∈ tbG) (hb : sk b = (c + 6, 0)) (hc : c < 9) (hcc : pb_C c = μ'.1.cls) (hn : av.length = N) (hst : st0 = av.reverse ++ .ref b :: st) (hW : (st.map fun v => v.category).sum ≤ 8) (hd : d' + 1 ≤ d) (hk : cells + k' ≤ k) (hs : slots + n' ≤ n) (hLn : L.length = μ.2.2.1) (dd : decode μ.2.1 pc = .ok (.invokevirtual i, 3)) (hq : pc + 3 = q)
    (kr : ∀ v sz' sk' rf' sg', post (.inl v) sz' sk' rf' sg' → pv F (cells + k') (slots + n') sz' sk' rf' sg' q L (v.toList ++ st))
    (kx : ∀ E sz' sk' rf' sg', post (.inr E) sz' sk' rf' sg' → px F (cells + k') (slots + n') sz' sk' rf' sg' pc L E) : pv F cells slots sz sk rf sg pc L st0 := by
  intro H ls locs hR hL hS
  obtain ⟨h0, m1, m2, m3, m4, m5, m6, m7⟩ := hm
  obtain ⟨hx, hb', hret, hml, hown, hts, hlk, hnm, htab, hfl, hK, hb0, hr1, hr2, hr3, hr4⟩ := id h
  refine pb_goon hq hL hS (vx_runV ⟨hx, hb', hml, hown, hts⟩ (hM (pb_g F)) ⟨pb_CB h h0 m2 m3 m4 m5 m6 m7 hl hd, hts _ m1, hts _ hsl⟩ ⟨pb_blind, by rw [← hcc]; exact pb_recv h hR hc hb, (pb_pre h hR hS).2⟩ rfl hn (by show ls.size = _; rw [hL.1, hLn]) hst (lv_room hW) dd ⟨Nat.le_trans hk hr3, Nat.le_trans hs hr4⟩) kr kx
theorem v_callS (h : pb_Fx F μ d k n) {μ' : pb_M} {d' k' n' N i : Nat} {av st0 : List Value} {post : pb_Post} (hM : pb_Met (pb_l F) μ' d' k' n' av sz sk rf sg post) (hm : pb_MS μ' N) (h0 : μ'.2.2.2.2 = []) (hl : Cond.methodLink μ.1.cls i μ'.1 ∈ tbG) (hn : av.length = N) (hst : st0 = av.reverse ++ st) (hW : (st.map fun v => v.category).sum ≤ 8) (hd : d' + 1 ≤ d) (hk : cells + k' ≤ k) (hs : slots + n' ≤ n) (hLn : L.length = μ.2.2.1) (dd : decode μ.2.1 pc = .ok (.invokestatic i, 3)) (hq : pc + 3 = q)
    (kr : ∀ v sz' sk' rf' sg', post (.inl v) sz' sk' rf' sg' → pv F (cells + k') (slots + n') sz' sk' rf' sg' q L (v.toList ++ st))
    (kx : ∀ E sz' sk' rf' sg', post (.inr E) sz' sk' rf' sg' → px F (cells + k') (slots + n') sz' sk' rf' sg' pc L E) : pv F cells slots sz sk rf sg pc L st0 := by
  intro H ls locs hR hL hS
  obtain ⟨m1, m2, m3, m4, m5, m6, m7⟩ := hm
  obtain ⟨hx, hb', hret, hml, hown, hts, hlk, hnm, htab, hfl, hK, hb0, hr1, hr2, hr3, hr4⟩ := id h
  refine pb_goon hq hL hS (vx_runS ⟨hx, hb', hml, hown, hts⟩ (hM (pb_g F)) ⟨pb_CB h h0 m2 m3 m4 m5 m6 m7 hl hd, hts _ m1⟩ (pb_pre h hR hS) rfl hn (by show ls.size = _; rw [hL.1, hLn]) hst (lv_room hW) dd ⟨Nat.le_trans hk hr3, Nat.le_trans hs hr4⟩) kr kx
theorem v_callI (h : pb_Fx F μ d k n) {μ' : pb_M} {d' k' n' N i b : Nat} {av st0 : List Value} {post : pb_Post} (hM : pb_Met (pb_l F) μ' d' k' n' (.ref b :: av) sz sk rf sg post) (hm : pb_MI μ' N) (hr0 : μ'.2.2.2.1 = none) (hy : μ'.1.name = "<init>") (hl : Cond.methodLink μ.1.cls i μ'.1 ∈ tbG) (hn : av.length = N) (hst : st0 = av.reverse ++ .ref b :: st) (hW : (st.map fun v => v.category).sum ≤ 8) (hd : d' + 1 ≤ d) (hk : cells + k' ≤ k) (hs : slots + n' ≤ n) (hLn : L.length = μ.2.2.1) (dd : decode μ.2.1 pc = .ok (.invokespecial i, 3)) (hq : pc + 3 = q)
    (kr : ∀ v sz' sk' rf' sg', post (.inl v) sz' sk' rf' sg' → pv F (cells + k') (slots + n') sz' sk' rf' sg' q L (v.toList ++ st))
    (kx : ∀ E sz' sk' rf' sg', post (.inr E) sz' sk' rf' sg' → px F (cells + k') (slots + n') sz' sk' rf' sg' pc L E) : pv F cells slots sz sk rf sg pc L st0 := by
  intro H ls locs hR hL hS
  obtain ⟨h0, m1, m2, m3, m4, m5, m6, m7⟩ := hm
  obtain ⟨hx, hb', hret, hml, hown, hts, hlk, hnm, htab, hfl, hK, hb0, hr1, hr2, hr3, hr4⟩ := id h
  have hcb := pb_CB (k' := k') (n' := n') (d' := d') h h0 m2 m3 m4 m5 m6 m7 hl hd
  rw [hr0] at hcb
  refine pb_goon hq hL hS (vx_runI ⟨hx, hb', hml, hown, hts⟩ (hM (pb_g F)) ⟨hcb, hy, hts _ m1⟩ (pb_pre h hR hS) rfl hn (by show ls.size = _; rw [hL.1, hLn]) hst (lv_room hW) dd ⟨Nat.le_trans hk hr3, Nat.le_trans hs hr4⟩) kr kx
theorem pb_CN {F : pb_F} {μ μ' : pb_M} {d k n d' k' n' N i : Nat} {host : String} (h : pb_Fx F μ d k n) (h0 : μ'.2.2.2.2 = []) (hini : Cond.initialized μ'.1.cls ∈ tbG) (hcode : pb_code μ' ∈ tbG) (hn1 : μ'.1.cls ≠ "java/lang/invoke/MethodHandle") (hn2 : μ'.1.cls ≠ "java/lang/invoke/VarHandle") (hN : (parseMethodDescriptor μ'.1.desc).map (fun d => d.parameters.length) = some N) (hm : μ'.2.2.1 ≤ 40) (hl : Cond.methodLinkNest μ.1.cls i μ'.1 host ∈ tbX) (hd : d' + 1 ≤ d) :
    va_CN (pb_rm F) (pb_s F) (pb_args F) μ.1.cls i μ'.1 host μ'.2.1 μ'.2.2.1 μ'.2.2.2.1 (pb_code μ' :: tbG) (pb_room d' k' n') k' n' N := by
  obtain ⟨hx, hb, hret, hml, hown, hts, hlk, hnm, htab, hfl, hK, hb0, hr1, hr2, hr3, hr4⟩ := h
  have hc9 := pb_codeN h0
  refine va_cnB (ws' := tbG) N hts (pb_gin hcode) (by rw [hc9]) rfl rfl (hK.2.2.2.1 _ hl) (hts _ hini) ⟨hn1, hn2, hN⟩ ⟨Nat.le_trans hd hr1, ?_⟩
  show 8 + (μ'.2.2.1 + 11) + 100 * d' ≤ _
  omega
theorem v_callSN (h : pb_Fx F μ d k n) {μ' : pb_M} {d' k' n' N i : Nat} {host : String} {av st0 : List Value} {post : pb_Post} (hM : pb_Met (pb_l F) μ' d' k' n' av sz sk rf sg post) (hm : pb_MS μ' N) (h0 : μ'.2.2.2.2 = []) (hl : Cond.methodLinkNest μ.1.cls i μ'.1 host ∈ tbX) (hn : av.length = N) (hst : st0 = av.reverse ++ st) (hW : (st.map fun v => v.category).sum ≤ 8) (hd : d' + 1 ≤ d) (hk : cells + k' ≤ k) (hs : slots + n' ≤ n) (hLn : L.length = μ.2.2.1) (dd : decode μ.2.1 pc = .ok (.invokestatic i, 3)) (hq : pc + 3 = q)
    (kr : ∀ v sz' sk' rf' sg', post (.inl v) sz' sk' rf' sg' → pv F (cells + k') (slots + n') sz' sk' rf' sg' q L (v.toList ++ st))
    (kx : ∀ E sz' sk' rf' sg', post (.inr E) sz' sk' rf' sg' → px F (cells + k') (slots + n') sz' sk' rf' sg' pc L E) : pv F cells slots sz sk rf sg pc L st0 := by
  intro H ls locs hR hL hS
  obtain ⟨m1, m2, m3, m4, m5, m6, m7⟩ := hm
  obtain ⟨hx, hb', hret, hml, hown, hts, hlk, hnm, htab, hfl, hK, hb0, hr1, hr2, hr3, hr4⟩ := id h
  refine pb_goon hq hL hS (vx_runSN ⟨hx, hb', hml, hown, hts⟩ (hM (pb_g F)) ⟨pb_CN h h0 m2 m3 m4 m5 m6 m7 hl hd, hts _ m1, True.intro⟩ (pb_pre h hR hS) rfl hn (by show ls.size = _; rw [hL.1, hLn]) hst (lv_room hW) dd ⟨Nat.le_trans hk hr3, Nat.le_trans hs hr4⟩) kr kx
theorem v_callIN (h : pb_Fx F μ d k n) {μ' : pb_M} {d' k' n' N i b : Nat} {host : String} {av st0 : List Value} {post : pb_Post} (hM : pb_Met (pb_l F) μ' d' k' n' (.ref b :: av) sz sk rf sg post) (hm : pb_MI μ' N) (hr0 : μ'.2.2.2.1 = none) (hy : μ'.1.name = "<init>") (hl : Cond.methodLinkNest μ.1.cls i μ'.1 host ∈ tbX) (hn : av.length = N) (hst : st0 = av.reverse ++ .ref b :: st) (hW : (st.map fun v => v.category).sum ≤ 8) (hd : d' + 1 ≤ d) (hk : cells + k' ≤ k) (hs : slots + n' ≤ n) (hLn : L.length = μ.2.2.1) (dd : decode μ.2.1 pc = .ok (.invokespecial i, 3)) (hq : pc + 3 = q)
    (kr : ∀ v sz' sk' rf' sg', post (.inl v) sz' sk' rf' sg' → pv F (cells + k') (slots + n') sz' sk' rf' sg' q L (v.toList ++ st))
    (kx : ∀ E sz' sk' rf' sg', post (.inr E) sz' sk' rf' sg' → px F (cells + k') (slots + n') sz' sk' rf' sg' pc L E) : pv F cells slots sz sk rf sg pc L st0 := by
  intro H ls locs hR hL hS
  obtain ⟨h0, m1, m2, m3, m4, m5, m6, m7⟩ := hm
  obtain ⟨hx, hb', hret, hml, hown, hts, hlk, hnm, htab, hfl, hK, hb0, hr1, hr2, hr3, hr4⟩ := id h
  have hcb := pb_CN (k' := k') (n' := n') (d' := d') h h0 m2 m3 m4 m5 m6 m7 hl hd
  rw [hr0] at hcb
  refine pb_goon hq hL hS (vx_runIN ⟨hx, hb', hml, hown, hts⟩ (hM (pb_g F)) ⟨hcb, hy, hts _ m1⟩ (pb_pre h hR hS) rfl hn (by show ls.size = _; rw [hL.1, hLn]) hst (lv_room hW) dd ⟨Nat.le_trans hk hr3, Nat.le_trans hs hr4⟩) kr kx
/-- a law's own helper, that has handlers -/
theorem v_callSX (h : pb_Fx F μ d k n) {μ' : pb_M} {d' k' n' N i : Nat} {av st0 : List Value} {post : pb_Post} (hM : pb_Met (pb_l F) μ' d' k' n' av sz sk rf sg post) (hm : pb_MS μ' N) (h0 : μ'.2.2.2.2 ≠ []) (hl : Cond.methodLink μ.1.cls i μ'.1 ∈ tbG) (hn : av.length = N) (hst : st0 = av.reverse ++ st) (hW : (st.map fun v => v.category).sum ≤ 8) (hd : d' + 1 ≤ d) (hk : cells + k' ≤ k) (hs : slots + n' ≤ n) (hLn : L.length = μ.2.2.1) (dd : decode μ.2.1 pc = .ok (.invokestatic i, 3)) (hq : pc + 3 = q)
    (kr : ∀ v sz' sk' rf' sg', post (.inl v) sz' sk' rf' sg' → pv F (cells + k') (slots + n') sz' sk' rf' sg' q L (v.toList ++ st))
    (kx : ∀ E sz' sk' rf' sg', post (.inr E) sz' sk' rf' sg' → px F (cells + k') (slots + n') sz' sk' rf' sg' pc L E) : pv F cells slots sz sk rf sg pc L st0 := by
  intro H ls locs hR hL hS
  obtain ⟨m1, m2, m3, m4, m5, m6, m7⟩ := hm
  obtain ⟨hx, hb', hret, hml, hown, hts, hlk, hnm, htab, hfl, hK, hb0, hr1, hr2, hr3, hr4⟩ := id h
  have hc9 := pb_codeH h0
  refine pb_goon hq hL hS (vx_runSX ⟨hx, hb', hml, hown, hts⟩ (hM (pb_g F)) (hh := μ'.2.2.2.2) (bytes := μ'.2.1) (maxL := μ'.2.2.1) (ret := μ'.2.2.2.1) ⟨⟨rfl, rfl, Nat.le_trans hd hr1, ?_, pay_in hts (pb_gin m3), ?_⟩, ?_, hts _ m2, ⟨m4, m5⟩, fun sig hs9 => ?_, hts _ hl, hts _ m1⟩ (pb_pre h hR hS) rfl hn (by show ls.size = _; rw [hL.1, hLn]) hst (lv_room hW) dd ⟨Nat.le_trans hk hr3, Nat.le_trans hs hr4⟩) kr kx
  · show 8 + (μ'.2.2.1 + 11) + 100 * d' ≤ _
    omega
  · rw [← hc9]; exact List.mem_cons_self
  · rw [← hc9]; exact hts _ m3
  · rw [hs9] at m6
    exact (Option.some.inj m6).symm
end PVR
