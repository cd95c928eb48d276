theorem pb_up_eq {sg : pb_Sg} {a k : Nat} {x : Int32} : pb_up sg a k x a = upd (sg a) k x := if_pos rfl
theorem pb_up_ne {sg : pb_Sg} {a k b : Nat} {x : Int32} (h : b ≠ a) : pb_up sg a k x b = sg b := if_neg h
theorem pb_ur_eq {rf : pb_Rf} {a k : Nat} {x : Option Nat} : pb_ur rf a k x a = va_up (rf a) k x := if_pos rfl
theorem pb_ur_ne {rf : pb_Rf} {a k b : Nat} {x : Option Nat} (h : b ≠ a) : pb_ur rf a k x b = rf b := if_neg h
theorem pb_uk_eq {sk : pb_Sk} {a : Nat} {x : Nat × Nat} : pb_uk sk a x a = x := if_pos rfl
theorem pb_uk_ne {sk : pb_Sk} {a b : Nat} {x : Nat × Nat} (h : b ≠ a) : pb_uk sk a x b = sk b := if_neg h
theorem pb_u0_eq {α : Type} {f : Nat → Nat → α} {a : Nat} {v : α} : pb_u0 f a v a = fun _ => v := if_pos rfl
theorem pb_u0_ne {α : Type} {f : Nat → Nat → α} {a b : Nat} {v : α} (h : b ≠ a) : pb_u0 f a v b = f b := if_neg h
theorem pb_rep.set {G : pb_G} {sz : Nat} {sk : pb_Sk} {rf rf' : pb_Rf} {sg sg' : pb_Sg} {H H1 : Heap} (h : pb_rep G sz sk rf sg H) (a : Nat) (hr : ∀ b, b ≠ a → rf' b = rf b) (hs : ∀ b, b ≠ a → sg' b = sg b) (hc : pb_cell G.1 G.2.1 (sk a) (rf' a) (sg' a) a H1) (z : H1.size = H.size) (oq : ∀ q, q ≠ a → H1[q]? = H[q]?) : pb_rep G sz sk rf' sg' H1 := by
  refine ⟨z.trans h.1, fun b hb => ?_⟩
  by_cases e : b = a
  · subst e
    exact ⟨(h.2 b hb).1, hc⟩
  · refine ⟨(h.2 b hb).1, ?_⟩
    rw [hr b e, hs b e]
    exact (h.2 b hb).2.kept (oq b e)
theorem pb_rep.free {G : pb_G} {sz : Nat} {sk : pb_Sk} {rf : pb_Rf} {sg : pb_Sg} {H : Heap} (h : pb_rep G sz sk rf sg H) {a : Nat} (ha : sz ≤ a) : (sk a).1 = 0 := by
  by_cases e : (sk a).1 = 0
  · exact e
  · have := (h.2 a e).2.lt e
    have := h.1
    omega
theorem pb_rep.push {G : pb_G} {sz : Nat} {sk : pb_Sk} {rf : pb_Rf} {sg : pb_Sg} {H H1 : Heap} (h : pb_rep G sz sk rf sg H) {kd : Nat × Nat} {rf' : pb_Rf} {sg' : pb_Sg} (hr : ∀ b, b ≠ sz → rf' b = rf b) (hs : ∀ b, b ≠ sz → sg' b = sg b) (hg : G.2.2 ≤ H.size) (hc : pb_cell G.1 G.2.1 kd (rf' sz) (sg' sz) sz H1) (z : H1.size = H.size + 1) (oq : ∀ q, q < H.size → H1[q]? = H[q]?) : pb_rep G (sz + 1) (pb_uk sk sz kd) rf' sg' H1 := by
  refine ⟨by rw [z, h.1], fun b hb => ?_⟩
  by_cases e : b = sz
  · subst e
    rw [pb_uk_eq]
    exact ⟨by rw [← h.1]; exact hg, hc⟩
  · rw [pb_uk_ne e] at hb ⊢
    refine ⟨(h.2 b hb).1, ?_⟩
    rw [hr b e, hs b e]
    exact (h.2 b hb).2.kept (oq b ((h.2 b hb).2.lt hb))
theorem pb_rep.same {G : pb_G} {sz : Nat} {sk : pb_Sk} {rf : pb_Rf} {sg : pb_Sg} {H H1 : Heap} (h : pb_rep G sz sk rf sg H) (z : H.size ≤ H1.size) (oq : ∀ q, q < H.size → H1[q]? = H[q]?) : pb_rep G H1.size sk rf sg H1 :=
  ⟨rfl, fun b hb => ⟨(h.2 b hb).1, (h.2 b hb).2.kept (oq b ((h.2 b hb).2.lt hb))⟩⟩
theorem pb_K.tys {G : pb_G} {s : State} (h : pb_K G s) (k : Nat) {q : ClassId × FieldType} (hk : (pb_tys G.2.1)[k]? = some q) : ArrOfT s q.1 q.2 ∧ va_RA s q.1 q.2 := h.1.2 k q hk
def pb_en (L : List (Option Value)) : List (Nat × Value) := (List.range L.length).filterMap (fun i => (L[i]?.join).map (fun v => (i, v)))
theorem pb_en_in {L : List (Option Value)} {i : Nat} {v : Value} : (i, v) ∈ pb_en L ↔ L[i]? = some (some v) := by
  unfold pb_en
  rw [List.mem_filterMap]
  constructor
  · rintro ⟨j, -, h⟩
    cases e : L[j]? with
    | none => rw [e] at h; cases h
    | some o =>
      cases o with
      | none => rw [e] at h; cases h
      | some w =>
        rw [e] at h
        have h9 := Option.some.inj h
        cases h9
        exact e
  · intro h
    refine ⟨i, List.mem_range.mpr (List.getElem?_eq_some_iff.mp h).1, ?_⟩
    rw [h]
    rfl
theorem pb_L.has {ls : Array Slot} {L : List (Option Value)} (h : pb_L ls L) : lv_has ls L.length (pb_en L) := ⟨h.1, h.2.1, fun q hq => (h.2.2 q.1 q.2 (pb_en_in.mp hq)).1⟩
theorem pb_L.store {ls ls' : Array Slot} {L : List (Option Value)} {i : Nat} {v : Value} (h : pb_L ls L) (hi : i < L.length) (hc : v.category = 1) (h' : lv_has ls' L.length ((i, v) :: (pb_en L).filter (fun q => !(q.1 == i) && !(q.1 + 1 == i && q.2.category == 2)))) : pb_L ls' (L.set i (some v)) := by
  refine ⟨by rw [List.length_set]; exact h'.1, h'.2.1, fun j w hj => ?_⟩
  by_cases e : i = j
  · subst e
    rw [List.getElem?_set_self hi] at hj
    cases hj
    exact ⟨h'.2.2 (i, v) List.mem_cons_self, hc⟩
  · rw [List.getElem?_set_ne e] at hj
    refine ⟨h'.2.2 (j, w) (List.mem_cons_of_mem _ (List.mem_filter.mpr ⟨pb_en_in.mpr hj, ?_⟩)), (h.2.2 j w hj).2⟩
    have c1 := (h.2.2 j w hj).2
    have e1 : (j == i) = false := by simpa using fun q => e q.symm
    simp [e1, c1]
theorem pb_L.weaken {ls : Array Slot} {L L' : List (Option Value)} (h : pb_L ls L) (hn : L'.length = L.length) (hs : ∀ (i : Nat) (v : Value), L'[i]? = some (some v) → L[i]? = some (some v)) : pb_L ls L' := ⟨h.1.trans hn.symm, h.2.1, fun i v q => h.2.2 i v (hs i v q)⟩
section PVR
variable {F : pb_F} {μ : pb_M} {d k n : Nat} {cells slots sz : Nat} {sk : pb_Sk} {rf : pb_Rf} {sg : pb_Sg} {pc q : Nat} {L : List (Option Value)} {st : List Value}

theorem v_iadd (h : pb_Fx F μ d k n) {x y : Int32} (dd : decode μ.2.1 pc = .ok (.iadd, 1)) (hq : pc + 1 = q) (kk : pv F cells slots sz sk rf sg q L (.int (x + y) :: st)) : pv F cells slots sz sk rf sg pc L (.int y :: .int x :: st) := by
  subst hq
  intro H ls locs hR hL hS
  exact lv_iadd h.1 h.2.1 dd (kk H ls locs hR hL hS)
theorem v_isub (h : pb_Fx F μ d k n) {x y : Int32} (dd : decode μ.2.1 pc = .ok (.isub, 1)) (hq : pc + 1 = q) (kk : pv F cells slots sz sk rf sg q L (.int (x - y) :: st)) : pv F cells slots sz sk rf sg pc L (.int y :: .int x :: st) := by
  subst hq
  intro H ls locs hR hL hS
  exact lv_isub h.1 h.2.1 dd (kk H ls locs hR hL hS)
theorem v_imul (h : pb_Fx F μ d k n) {x y : Int32} (dd : decode μ.2.1 pc = .ok (.imul, 1)) (hq : pc + 1 = q) (kk : pv F cells slots sz sk rf sg q L (.int (x * y) :: st)) : pv F cells slots sz sk rf sg pc L (.int y :: .int x :: st) := by
  subst hq
  intro H ls locs hR hL hS
  exact lv_imul h.1 h.2.1 dd (kk H ls locs hR hL hS)
theorem v_iand (h : pb_Fx F μ d k n) {x y : Int32} (dd : decode μ.2.1 pc = .ok (.iand, 1)) (hq : pc + 1 = q) (kk : pv F cells slots sz sk rf sg q L (.int (x &&& y) :: st)) : pv F cells slots sz sk rf sg pc L (.int y :: .int x :: st) := by
  subst hq
  intro H ls locs hR hL hS
  exact lv_iand h.1 h.2.1 dd (kk H ls locs hR hL hS)
theorem v_ior (h : pb_Fx F μ d k n) {x y : Int32} (dd : decode μ.2.1 pc = .ok (.ior, 1)) (hq : pc + 1 = q) (kk : pv F cells slots sz sk rf sg q L (.int (x ||| y) :: st)) : pv F cells slots sz sk rf sg pc L (.int y :: .int x :: st) := by
  subst hq
  intro H ls locs hR hL hS
  exact lv_ior h.1 h.2.1 dd (kk H ls locs hR hL hS)
theorem v_ixor (h : pb_Fx F μ d k n) {x y : Int32} (dd : decode μ.2.1 pc = .ok (.ixor, 1)) (hq : pc + 1 = q) (kk : pv F cells slots sz sk rf sg q L (.int (x ^^^ y) :: st)) : pv F cells slots sz sk rf sg pc L (.int y :: .int x :: st) := by
  subst hq
  intro H ls locs hR hL hS
  exact lv_ixor h.1 h.2.1 dd (kk H ls locs hR hL hS)
theorem v_ishl (h : pb_Fx F μ d k n) {x y : Int32} (dd : decode μ.2.1 pc = .ok (.ishl, 1)) (hq : pc + 1 = q) (kk : pv F cells slots sz sk rf sg q L (.int (x <<< (y &&& 31)) :: st)) : pv F cells slots sz sk rf sg pc L (.int y :: .int x :: st) := by
  subst hq
  intro H ls locs hR hL hS
  exact lv_ishl h.1 h.2.1 dd (kk H ls locs hR hL hS)
theorem v_ishr (h : pb_Fx F μ d k n) {x y : Int32} (dd : decode μ.2.1 pc = .ok (.ishr, 1)) (hq : pc + 1 = q) (kk : pv F cells slots sz sk rf sg q L (.int (x >>> (y &&& 31)) :: st)) : pv F cells slots sz sk rf sg pc L (.int y :: .int x :: st) := by
  subst hq
  intro H ls locs hR hL hS
  exact lv_ishr h.1 h.2.1 dd (kk H ls locs hR hL hS)
theorem v_iushr (h : pb_Fx F μ d k n) {x y v : Int32} (dd : decode μ.2.1 pc = .ok (.iushr, 1)) (hq : pc + 1 = q) (hv : (x.toUInt32 >>> (y.toUInt32 &&& Int32.toUInt32 31)).toInt32 = v) (kk : pv F cells slots sz sk rf sg q L (.int v :: st)) : pv F cells slots sz sk rf sg pc L (.int y :: .int x :: st) := by
  subst hq
  intro H ls locs hR hL hS
  exact lv_iushr h.1 h.2.1 dd hv (kk H ls locs hR hL hS)
theorem v_idiv (h : pb_Fx F μ d k n) {x y : Int32} (dd : decode μ.2.1 pc = .ok (.idiv, 1)) (hq : pc + 1 = q) (hn : ¬ y = 0) (kk : pv F cells slots sz sk rf sg q L (.int (x / y) :: st)) : pv F cells slots sz sk rf sg pc L (.int y :: .int x :: st) := by
  subst hq
  intro H ls locs hR hL hS
  exact lv_idiv h.1 h.2.1 dd hn (kk H ls locs hR hL hS)
theorem v_irem (h : pb_Fx F μ d k n) {x y : Int32} (dd : decode μ.2.1 pc = .ok (.irem, 1)) (hq : pc + 1 = q) (hn : ¬ y = 0) (kk : pv F cells slots sz sk rf sg q L (.int (x - x / y * y) :: st)) : pv F cells slots sz sk rf sg pc L (.int y :: .int x :: st) := by
  subst hq
  intro H ls locs hR hL hS
  exact lv_irem h.1 h.2.1 dd hn (kk H ls locs hR hL hS)
theorem v_iconst (h : pb_Fx F μ d k n) {i : Int} {v : Int32} (dd : decode μ.2.1 pc = .ok (.iconst i, 1)) (hq : pc + 1 = q) (hv : Int32.ofInt i = v) (kk : pv F cells slots sz sk rf sg q L (.int v :: st)) : pv F cells slots sz sk rf sg pc L (st) := by
  subst hq
  intro H ls locs hR hL hS
  exact lv_iconst h.1 h.2.1 dd hv (kk H ls locs hR hL hS)
theorem v_bipush (h : pb_Fx F μ d k n) {i : Int} {v : Int32} (dd : decode μ.2.1 pc = .ok (.bipush i, 2)) (hq : pc + 2 = q) (hv : (Int8.ofInt i).toInt32 = v) (kk : pv F cells slots sz sk rf sg q L (.int v :: st)) : pv F cells slots sz sk rf sg pc L (st) := by
  subst hq
  intro H ls locs hR hL hS
  exact lv_bipush h.1 h.2.1 dd hv (kk H ls locs hR hL hS)
theorem v_sipush (h : pb_Fx F μ d k n) {i : Int} {v : Int32} (dd : decode μ.2.1 pc = .ok (.sipush i, 3)) (hq : pc + 3 = q) (hv : (Int16.ofInt i).toInt32 = v) (kk : pv F cells slots sz sk rf sg q L (.int v :: st)) : pv F cells slots sz sk rf sg pc L (st) := by
  subst hq
  intro H ls locs hR hL hS
  exact lv_sipush h.1 h.2.1 dd hv (kk H ls locs hR hL hS)
theorem v_ldc (h : pb_Fx F μ d k n) {i : Nat} {v : Int32} (dd : decode μ.2.1 pc = .ok (.ldc i, 2)) (hq : pc + 2 = q) (hw : Cond.constant μ.1.cls i v ∈ tbG) (kk : pv F cells slots sz sk rf sg q L (.int v :: st)) : pv F cells slots sz sk rf sg pc L (st) := by
  subst hq
  intro H ls locs hR hL hS
  exact lv_ldc h.1 h.2.1 h.2.2.2.2.1 (h.2.2.2.2.2.1 _ hw) dd (kk H ls locs hR hL hS)
theorem v_ldcw (h : pb_Fx F μ d k n) {i : Nat} {v : Int32} (dd : decode μ.2.1 pc = .ok (.ldc_w i, 3)) (hq : pc + 3 = q) (hw : Cond.constant μ.1.cls i v ∈ tbG) (kk : pv F cells slots sz sk rf sg q L (.int v :: st)) : pv F cells slots sz sk rf sg pc L (st) := by
  subst hq
  intro H ls locs hR hL hS
  exact lv_ldcw h.1 h.2.1 h.2.2.2.2.1 (h.2.2.2.2.2.1 _ hw) dd (kk H ls locs hR hL hS)
theorem v_lconst (h : pb_Fx F μ d k n) {i : Fin 2} {v : Int64} (dd : decode μ.2.1 pc = .ok (.lconst i, 1)) (hq : pc + 1 = q) (hv : Int64.ofNat (i : Nat) = v) (kk : pv F cells slots sz sk rf sg q L (.long v :: st)) : pv F cells slots sz sk rf sg pc L (st) := by
  subst hq
  intro H ls locs hR hL hS
  exact lv_lconst h.1 h.2.1 dd hv (kk H ls locs hR hL hS)
theorem v_i2l (h : pb_Fx F μ d k n) {x : Int32} (dd : decode μ.2.1 pc = .ok (.i2l, 1)) (hq : pc + 1 = q) (kk : pv F cells slots sz sk rf sg q L (.long x.toInt64 :: st)) : pv F cells slots sz sk rf sg pc L (.int x :: st) := by
  subst hq
  intro H ls locs hR hL hS
  exact lv_i2l h.1 h.2.1 dd rfl (kk H ls locs hR hL hS)
theorem v_lcmp (h : pb_Fx F μ d k n) {x y : Int64} (dd : decode μ.2.1 pc = .ok (.lcmp, 1)) (hq : pc + 1 = q) (kk : pv F cells slots sz sk rf sg q L (.int (lg_cmp x y) :: st)) : pv F cells slots sz sk rf sg pc L (.long y :: .long x :: st) := by
  subst hq
  intro H ls locs hR hL hS
  exact W.lcmp h.1 h.2.1 dd (kk H ls locs hR hL hS)
theorem v_dup (h : pb_Fx F μ d k n) {v : Value} (dd : decode μ.2.1 pc = .ok (.dup, 1)) (hq : pc + 1 = q) (hv : v.category = 1) (kk : pv F cells slots sz sk rf sg q L (v :: v :: st)) : pv F cells slots sz sk rf sg pc L (v :: st) := by
  subst hq
  intro H ls locs hR hL hS
  exact lv_dup h.1 h.2.1 dd hv (kk H ls locs hR hL hS)
theorem v_dup2 (h : pb_Fx F μ d k n) {v w : Value} (dd : decode μ.2.1 pc = .ok (.dup2, 1)) (hq : pc + 1 = q) (hv : v.category = 1) (hw : w.category = 1) (kk : pv F cells slots sz sk rf sg q L (v :: w :: v :: w :: st)) : pv F cells slots sz sk rf sg pc L (v :: w :: st) := by
  subst hq
  intro H ls locs hR hL hS
  exact lv_dup2_11 h.1 h.2.1 dd hv hw (kk H ls locs hR hL hS)
theorem v_pop (h : pb_Fx F μ d k n) {v : Value} (dd : decode μ.2.1 pc = .ok (.pop, 1)) (hq : pc + 1 = q) (hv : v.category = 1) (kk : pv F cells slots sz sk rf sg q L (st)) : pv F cells slots sz sk rf sg pc L (v :: st) := by
  subst hq
  intro H ls locs hR hL hS
  exact lv_pop h.1 h.2.1 dd hv (kk H ls locs hR hL hS)
theorem v_null (h : pb_Fx F μ d k n) (dd : decode μ.2.1 pc = .ok (.aconst_null, 1)) (hq : pc + 1 = q) (kk : pv F cells slots sz sk rf sg q L (.null :: st)) : pv F cells slots sz sk rf sg pc L (st) := by
  subst hq
  intro H ls locs hR hL hS
  exact lv_null h.1 h.2.1 dd (kk H ls locs hR hL hS)
theorem v_iload_n (h : pb_Fx F μ d k n) {j : Fin 4} {i : Nat} {x : Int32} (dd : decode μ.2.1 pc = .ok (.iload_n j, 1)) (hq : pc + 1 = q) (hj : (j : Nat) = i) (hv : L[i]? = some (some (.int x))) (kk : pv F cells slots sz sk rf sg q L (.int x :: st)) : pv F cells slots sz sk rf sg pc L (st) := by
  subst hq
  intro H ls locs hR hL hS
  exact lv_iload_n h.1 h.2.1 dd hj (hL.2.2 i _ hv).1 (kk H ls locs hR hL hS)
theorem v_iload (h : pb_Fx F μ d k n) {i : Nat} {x : Int32} (dd : decode μ.2.1 pc = .ok (.iload i, 2)) (hq : pc + 2 = q) (hv : L[i]? = some (some (.int x))) (kk : pv F cells slots sz sk rf sg q L (.int x :: st)) : pv F cells slots sz sk rf sg pc L (st) := by
  subst hq
  intro H ls locs hR hL hS
  exact lv_iload h.1 h.2.1 dd (hL.2.2 i _ hv).1 (kk H ls locs hR hL hS)
theorem v_aload_n (h : pb_Fx F μ d k n) {j : Fin 4} {i : Nat} {x : Nat} (dd : decode μ.2.1 pc = .ok (.aload_n j, 1)) (hq : pc + 1 = q) (hj : (j : Nat) = i) (hv : L[i]? = some (some (.ref x))) (kk : pv F cells slots sz sk rf sg q L (.ref x :: st)) : pv F cells slots sz sk rf sg pc L (st) := by
  subst hq
  intro H ls locs hR hL hS
  exact lv_aload_n h.1 h.2.1 dd hj (hL.2.2 i _ hv).1 (kk H ls locs hR hL hS)
theorem v_aload (h : pb_Fx F μ d k n) {i : Nat} {x : Nat} (dd : decode μ.2.1 pc = .ok (.aload i, 2)) (hq : pc + 2 = q) (hv : L[i]? = some (some (.ref x))) (kk : pv F cells slots sz sk rf sg q L (.ref x :: st)) : pv F cells slots sz sk rf sg pc L (st) := by
  subst hq
  intro H ls locs hR hL hS
  exact lv_aload h.1 h.2.1 dd (hL.2.2 i _ hv).1 (kk H ls locs hR hL hS)
theorem v_istore_n (h : pb_Fx F μ d k n) {j : Fin 4} {i : Nat} {x : Int32} {L' : List (Option Value)} (dd : decode μ.2.1 pc = .ok (.istore_n j, 1)) (hq : pc + 1 = q) (hj : (j : Nat) = i) (hi : i < L.length) (hl : L.set i (some (.int x)) = L') (kk : pv F cells slots sz sk rf sg q L' st) : pv F cells slots sz sk rf sg pc L (.int x :: st) := by
  subst hq
  subst hl
  intro H ls locs hR hL hS
  exact lv_istore_n h.1 h.2.1 dd hj hL.has hi rfl (fun ls' hl => kk H ls' locs hR (hL.store hi rfl hl) hS)
theorem v_istore (h : pb_Fx F μ d k n) {i : Nat} {x : Int32} {L' : List (Option Value)} (dd : decode μ.2.1 pc = .ok (.istore i, 2)) (hq : pc + 2 = q) (hi : i < L.length) (hl : L.set i (some (.int x)) = L') (kk : pv F cells slots sz sk rf sg q L' st) : pv F cells slots sz sk rf sg pc L (.int x :: st) := by
  subst hq
  subst hl
  intro H ls locs hR hL hS
  exact lv_istore h.1 h.2.1 dd hL.has hi rfl (fun ls' hl => kk H ls' locs hR (hL.store hi rfl hl) hS)
theorem v_astore_n (h : pb_Fx F μ d k n) {j : Fin 4} {i : Nat} {x : Nat} {L' : List (Option Value)} (dd : decode μ.2.1 pc = .ok (.astore_n j, 1)) (hq : pc + 1 = q) (hj : (j : Nat) = i) (hi : i < L.length) (hl : L.set i (some (.ref x)) = L') (kk : pv F cells slots sz sk rf sg q L' st) : pv F cells slots sz sk rf sg pc L (.ref x :: st) := by
  subst hq
  subst hl
  intro H ls locs hR hL hS
  exact lv_astore_n h.1 h.2.1 dd hj hL.has hi rfl (fun ls' hl => kk H ls' locs hR (hL.store hi rfl hl) hS)
theorem v_astore (h : pb_Fx F μ d k n) {i : Nat} {x : Nat} {L' : List (Option Value)} (dd : decode μ.2.1 pc = .ok (.astore i, 2)) (hq : pc + 2 = q) (hi : i < L.length) (hl : L.set i (some (.ref x)) = L') (kk : pv F cells slots sz sk rf sg q L' st) : pv F cells slots sz sk rf sg pc L (.ref x :: st) := by
  subst hq
  subst hl
  intro H ls locs hR hL hS
  exact lv_astore h.1 h.2.1 dd hL.has hi rfl (fun ls' hl => kk H ls' locs hR (hL.store hi rfl hl) hS)
theorem v_iinc (h : pb_Fx F μ d k n) {i : Nat} {x v : Int32} {z : Int} {L' : List (Option Value)} (dd : decode μ.2.1 pc = .ok (.iinc i z, 3)) (hq : pc + 3 = q) (hx : L[i]? = some (some (.int x))) (hv : x + Int32.ofInt z = v) (hl : L.set i (some (.int v)) = L') (kk : pv F cells slots sz sk rf sg q L' st) : pv F cells slots sz sk rf sg pc L st := by
  subst hq
  subst hl
  intro H ls locs hR hL hS
  have hi : i < L.length := (List.getElem?_eq_some_iff.mp hx).1
  obtain ⟨j, hj⟩ := List.getElem?_of_mem (pb_en_in.mpr hx)
  exact lv_iinc h.1 h.2.1 dd hL.has hj hv hi rfl (fun ls' hl => kk H ls' locs hR (hL.store hi rfl hl) hS)
theorem v_weak {L' : List (Option Value)} (hn : L'.length = L.length) (hs : ∀ (i : Nat) (v : Value), L'[i]? = some (some v) → L[i]? = some (some v)) (kk : pv F cells slots sz sk rf sg pc L' st) : pv F cells slots sz sk rf sg pc L st := fun H ls locs hR hL hS => kk H ls locs hR (hL.weaken hn hs) hS
theorem v_eq {st' : List Value} (e : st = st') (kk : pv F cells slots sz sk rf sg pc L st') : pv F cells slots sz sk rf sg pc L st := e ▸ kk
theorem v_sg {sg' : pb_Sg} (e : sg = sg') (kk : pv F cells slots sz sk rf sg' pc L st) : pv F cells slots sz sk rf sg pc L st := e ▸ kk
theorem v_cast {L' : List (Option Value)} {st' : List Value} {sg' : pb_Sg} (e1 : L = L') (e2 : st = st') (e3 : sg = sg') (kk : pv F cells slots sz sk rf sg' pc L' st') : pv F cells slots sz sk rf sg pc L st := by
  subst e1; subst e2; subst e3; exact kk
theorem v_if_eq (h : pb_Fx F μ d k n) {x : Int32} {off : Int} {tgt : Nat} (dd : decode μ.2.1 pc = .ok (.ifCond .eq off, 3)) (hq : pc + 3 = q) (ht : (pc : Int) + off = (tgt : Int)) (kt : x = 0 → pv F cells slots sz sk rf sg tgt L st) (kf : ¬ x = 0 → pv F cells slots sz sk rf sg q L st) : pv F cells slots sz sk rf sg pc L (.int x :: st) := by
  subst hq
  intro H ls locs hR hL hS
  exact lv_if_eq h.1 h.2.1 dd ht (fun c => kt c H ls locs hR hL hS) (fun c => kf c H ls locs hR hL hS)
theorem v_icmp_eq (h : pb_Fx F μ d k n) {x y : Int32} {off : Int} {tgt : Nat} (dd : decode μ.2.1 pc = .ok (.if_icmp .eq off, 3)) (hq : pc + 3 = q) (ht : (pc : Int) + off = (tgt : Int)) (kt : x = y → pv F cells slots sz sk rf sg tgt L st) (kf : ¬ x = y → pv F cells slots sz sk rf sg q L st) : pv F cells slots sz sk rf sg pc L (.int y :: .int x :: st) := by
  subst hq
  intro H ls locs hR hL hS
  exact lv_icmp_eq h.1 h.2.1 dd ht (fun c => kt c H ls locs hR hL hS) (fun c => kf c H ls locs hR hL hS)
theorem v_if_ne (h : pb_Fx F μ d k n) {x : Int32} {off : Int} {tgt : Nat} (dd : decode μ.2.1 pc = .ok (.ifCond .ne off, 3)) (hq : pc + 3 = q) (ht : (pc : Int) + off = (tgt : Int)) (kt : ¬ x = 0 → pv F cells slots sz sk rf sg tgt L st) (kf : x = 0 → pv F cells slots sz sk rf sg q L st) : pv F cells slots sz sk rf sg pc L (.int x :: st) := by
  subst hq
  intro H ls locs hR hL hS
  exact lv_if_ne h.1 h.2.1 dd ht (fun c => kt c H ls locs hR hL hS) (fun c => kf c H ls locs hR hL hS)
theorem v_icmp_ne (h : pb_Fx F μ d k n) {x y : Int32} {off : Int} {tgt : Nat} (dd : decode μ.2.1 pc = .ok (.if_icmp .ne off, 3)) (hq : pc + 3 = q) (ht : (pc : Int) + off = (tgt : Int)) (kt : ¬ x = y → pv F cells slots sz sk rf sg tgt L st) (kf : x = y → pv F cells slots sz sk rf sg q L st) : pv F cells slots sz sk rf sg pc L (.int y :: .int x :: st) := by
  subst hq
  intro H ls locs hR hL hS
  exact lv_icmp_ne h.1 h.2.1 dd ht (fun c => kt c H ls locs hR hL hS) (fun c => kf c H ls locs hR hL hS)
theorem v_if_lt (h : pb_Fx F μ d k n) {x : Int32} {off : Int} {tgt : Nat} (dd : decode μ.2.1 pc = .ok (.ifCond .lt off, 3)) (hq : pc + 3 = q) (ht : (pc : Int) + off = (tgt : Int)) (kt : x < 0 → pv F cells slots sz sk rf sg tgt L st) (kf : ¬ x < 0 → pv F cells slots sz sk rf sg q L st) : pv F cells slots sz sk rf sg pc L (.int x :: st) := by
  subst hq
  intro H ls locs hR hL hS
  exact lv_if_lt h.1 h.2.1 dd ht (fun c => kt c H ls locs hR hL hS) (fun c => kf c H ls locs hR hL hS)
theorem v_icmp_lt (h : pb_Fx F μ d k n) {x y : Int32} {off : Int} {tgt : Nat} (dd : decode μ.2.1 pc = .ok (.if_icmp .lt off, 3)) (hq : pc + 3 = q) (ht : (pc : Int) + off = (tgt : Int)) (kt : x < y → pv F cells slots sz sk rf sg tgt L st) (kf : ¬ x < y → pv F cells slots sz sk rf sg q L st) : pv F cells slots sz sk rf sg pc L (.int y :: .int x :: st) := by
  subst hq
  intro H ls locs hR hL hS
  exact lv_icmp_lt h.1 h.2.1 dd ht (fun c => kt c H ls locs hR hL hS) (fun c => kf c H ls locs hR hL hS)
theorem v_if_ge (h : pb_Fx F μ d k n) {x : Int32} {off : Int} {tgt : Nat} (dd : decode μ.2.1 pc = .ok (.ifCond .ge off, 3)) (hq : pc + 3 = q) (ht : (pc : Int) + off = (tgt : Int)) (kt : 0 ≤ x → pv F cells slots sz sk rf sg tgt L st) (kf : ¬ 0 ≤ x → pv F cells slots sz sk rf sg q L st) : pv F cells slots sz sk rf sg pc L (.int x :: st) := by
  subst hq
  intro H ls locs hR hL hS
  exact lv_if_ge h.1 h.2.1 dd ht (fun c => kt c H ls locs hR hL hS) (fun c => kf c H ls locs hR hL hS)
theorem v_icmp_ge (h : pb_Fx F μ d k n) {x y : Int32} {off : Int} {tgt : Nat} (dd : decode μ.2.1 pc = .ok (.if_icmp .ge off, 3)) (hq : pc + 3 = q) (ht : (pc : Int) + off = (tgt : Int)) (kt : y ≤ x → pv F cells slots sz sk rf sg tgt L st) (kf : ¬ y ≤ x → pv F cells slots sz sk rf sg q L st) : pv F cells slots sz sk rf sg pc L (.int y :: .int x :: st) := by
  subst hq
  intro H ls locs hR hL hS
  exact lv_icmp_ge h.1 h.2.1 dd ht (fun c => kt c H ls locs hR hL hS) (fun c => kf c H ls locs hR hL hS)
theorem v_if_gt (h : pb_Fx F μ d k n) {x : Int32} {off : Int} {tgt : Nat} (dd : decode μ.2.1 pc = .ok (.ifCond .gt off, 3)) (hq : pc + 3 = q) (ht : (pc : Int) + off = (tgt : Int)) (kt : 0 < x → pv F cells slots sz sk rf sg tgt L st) (kf : ¬ 0 < x → pv F cells slots sz sk rf sg q L st) : pv F cells slots sz sk rf sg pc L (.int x :: st) := by
  subst hq
  intro H ls locs hR hL hS
  exact lv_if_gt h.1 h.2.1 dd ht (fun c => kt c H ls locs hR hL hS) (fun c => kf c H ls locs hR hL hS)
theorem v_icmp_gt (h : pb_Fx F μ d k n) {x y : Int32} {off : Int} {tgt : Nat} (dd : decode μ.2.1 pc = .ok (.if_icmp .gt off, 3)) (hq : pc + 3 = q) (ht : (pc : Int) + off = (tgt : Int)) (kt : y < x → pv F cells slots sz sk rf sg tgt L st) (kf : ¬ y < x → pv F cells slots sz sk rf sg q L st) : pv F cells slots sz sk rf sg pc L (.int y :: .int x :: st) := by
  subst hq
  intro H ls locs hR hL hS
  exact lv_icmp_gt h.1 h.2.1 dd ht (fun c => kt c H ls locs hR hL hS) (fun c => kf c H ls locs hR hL hS)
theorem v_if_le (h : pb_Fx F μ d k n) {x : Int32} {off : Int} {tgt : Nat} (dd : decode μ.2.1 pc = .ok (.ifCond .le off, 3)) (hq : pc + 3 = q) (ht : (pc : Int) + off = (tgt : Int)) (kt : x ≤ 0 → pv F cells slots sz sk rf sg tgt L st) (kf : ¬ x ≤ 0 → pv F cells slots sz sk rf sg q L st) : pv F cells slots sz sk rf sg pc L (.int x :: st) := by
  subst hq
  intro H ls locs hR hL hS
  exact lv_if_le h.1 h.2.1 dd ht (fun c => kt c H ls locs hR hL hS) (fun c => kf c H ls locs hR hL hS)
theorem v_icmp_le (h : pb_Fx F μ d k n) {x y : Int32} {off : Int} {tgt : Nat} (dd : decode μ.2.1 pc = .ok (.if_icmp .le off, 3)) (hq : pc + 3 = q) (ht : (pc : Int) + off = (tgt : Int)) (kt : x ≤ y → pv F cells slots sz sk rf sg tgt L st) (kf : ¬ x ≤ y → pv F cells slots sz sk rf sg q L st) : pv F cells slots sz sk rf sg pc L (.int y :: .int x :: st) := by
  subst hq
  intro H ls locs hR hL hS
  exact lv_icmp_le h.1 h.2.1 dd ht (fun c => kt c H ls locs hR hL hS) (fun c => kf c H ls locs hR hL hS)
theorem v_goto (h : pb_Fx F μ d k n) {off : Int} {tgt : Nat} (dd : decode μ.2.1 pc = .ok (.goto off, 3)) (ht : (pc : Int) + off = (tgt : Int)) (kk : pv F cells slots sz sk rf sg tgt L st) : pv F cells slots sz sk rf sg pc L st := fun H ls locs hR hL hS => lv_goto h.1 h.2.1 dd ht (kk H ls locs hR hL hS)
end PVR
