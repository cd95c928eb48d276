section PVR
variable {F : pb_F} {μ : pb_M} {d k n : Nat} {cells slots sz : Nat} {sk : pb_Sk} {rf : pb_Rf} {sg : pb_Sg} {pc q : Nat} {L : List (Option Value)} {st : List Value}
theorem v_ifnull (h : pb_Fx F μ d k n) {x : Nat} {off : Int} (dd : decode μ.2.1 pc = .ok (.ifnull off, 3)) (hq : pc + 3 = q) (kk : pv F cells slots sz sk rf sg q L st) : pv F cells slots sz sk rf sg pc L (.ref x :: st) := by
  subst hq
  exact fun H ls locs hR hL hS => lv_ifnull h.1 h.2.1 dd (kk H ls locs hR hL hS)
theorem v_ifnullN (h : pb_Fx F μ d k n) {off : Int} {tgt : Nat} (dd : decode μ.2.1 pc = .ok (.ifnull off, 3)) (ht : (pc : Int) + off = (tgt : Int)) (kk : pv F cells slots sz sk rf sg tgt L st) : pv F cells slots sz sk rf sg pc L (.null :: st) :=
  fun H ls locs hR hL hS => lv_ifnullN h.1 h.2.1 dd ht (kk H ls locs hR hL hS)
theorem v_ifnonnull (h : pb_Fx F μ d k n) {x : Nat} {off : Int} {tgt : Nat} (dd : decode μ.2.1 pc = .ok (.ifnonnull off, 3)) (ht : (pc : Int) + off = (tgt : Int)) (kk : pv F cells slots sz sk rf sg tgt L st) : pv F cells slots sz sk rf sg pc L (.ref x :: st) :=
  fun H ls locs hR hL hS => lv_ifnonnull h.1 h.2.1 dd ht (kk H ls locs hR hL hS)
theorem v_ifnonnullN (h : pb_Fx F μ d k n) {off : Int} (dd : decode μ.2.1 pc = .ok (.ifnonnull off, 3)) (hq : pc + 3 = q) (kk : pv F cells slots sz sk rf sg q L st) : pv F cells slots sz sk rf sg pc L (.null :: st) := by
  subst hq
  exact fun H ls locs hR hL hS => lv_ifnonnullN h.1 h.2.1 dd (kk H ls locs hR hL hS)
/-- the field j of the class c, as the pool of own names it at i -/
def pb_FL (own : String) (i c j : Nat) : Prop := c < 9 ∧ j < pb_N c ∧ Cond.fieldLink own i (pb_T c j).1 (pb_T c j).2.1 (pb_T c j).2.2.1 ∈ tbG
theorem pb_isI_int {t : FieldType} (h : pb_isI t = true) : t = .int := by
  cases t <;> first | rfl | (simp [pb_isI] at h)
theorem pb_cellO {D : va_G} {cA : Nat → ClassId} {kd : Nat × Nat} {r : Nat → Option Nat} {f : Nat → Int32} {a c m : Nat} {H : Heap} (h : pb_cell D cA kd r f a H) (hk : kd = (c + 6, m)) : t_OB a (D.1 c) (pb_N c) (D.2 c) H (pb_V c r f) := by
  subst hk
  exact h
theorem v_getv (h : pb_Fx F μ d k n) {i c j a : Nat} {v : Value} (hw : pb_FL μ.1.cls i c j) (hk : sk a = (c + 6, 0)) (hv : pb_V c (rf a) (sg a) j = v) (dd : decode μ.2.1 pc = .ok (.getfield i, 3)) (hq : pc + 3 = q) (kk : pv F cells slots sz sk rf sg q L (v :: st)) : pv F cells slots sz sk rf sg pc L (.ref a :: st) := by
  subst hq
  subst hv
  obtain ⟨hc, hj, hw⟩ := hw
  obtain ⟨hx, hb, hr, hml, hown, hts, hlk, hnm, htab, hfl, hK, hb0, hrm⟩ := h
  intro H ls locs hR hL hS
  have h1 := pb_cellO (hR.2 a (by rw [hk]; exact Nat.succ_ne_zero _)).2 hk
  obtain ⟨cell, q1, q2, q3, q4⟩ := h1
  obtain ⟨hSl, hfc, kC, hkC, hkind⟩ := hK.1.1 c _ (pb_cl hc)
  obtain ⟨cf, kf, fi, f, hi, hsl⟩ := hSl j hj
  refine W.getf hx hb hown (hts _ hw) hi (u_facts hfc hkC (u_lays hts (pb_lay hc) hj) hi).1 q1 (by rw [q3]; exact fun h => by cases h) (v := pb_V c (rf a) (sg a) j) ?_ rfl rfl dd (kk H ls locs hR hL hS)
  rw [hsl]
  exact q4 j hj
theorem v_geti (h : pb_Fx F μ d k n) {i c j a : Nat} (hw : pb_FL μ.1.cls i c j) (hk : sk a = (c + 6, 0)) (hI : pb_isI (pb_ty c j) = true) (dd : decode μ.2.1 pc = .ok (.getfield i, 3)) (hq : pc + 3 = q) (kk : pv F cells slots sz sk rf sg q L (.int (sg a j) :: st)) : pv F cells slots sz sk rf sg pc L (.ref a :: st) :=
  v_getv h hw hk (if_pos hI) dd hq kk
theorem v_getr (h : pb_Fx F μ d k n) {i c j a b : Nat} (hw : pb_FL μ.1.cls i c j) (hk : sk a = (c + 6, 0)) (hI : pb_isI (pb_ty c j) = false) (hr : rf a j = some b) (dd : decode μ.2.1 pc = .ok (.getfield i, 3)) (hq : pc + 3 = q) (kk : pv F cells slots sz sk rf sg q L (.ref b :: st)) : pv F cells slots sz sk rf sg pc L (.ref a :: st) :=
  v_getv h hw hk ((if_neg (by rw [hI]; decide)).trans (by rw [hr]; rfl)) dd hq kk
theorem v_getn (h : pb_Fx F μ d k n) {i c j a : Nat} (hw : pb_FL μ.1.cls i c j) (hk : sk a = (c + 6, 0)) (hI : pb_isI (pb_ty c j) = false) (hr : rf a j = none) (dd : decode μ.2.1 pc = .ok (.getfield i, 3)) (hq : pc + 3 = q) (kk : pv F cells slots sz sk rf sg q L (.null :: st)) : pv F cells slots sz sk rf sg pc L (.ref a :: st) :=
  v_getv h hw hk ((if_neg (by rw [hI]; decide)).trans (by rw [hr]; rfl)) dd hq kk
theorem pb_apart {own : String} {args : Array Value} {s : State} {G : pb_G} (hts : ∀ w ∈ tbG, w.before args s = true) (hK : pb_K G s) {c : Nat} (hc : c < 9) : ∀ x y, x < pb_N c → y < pb_N c → x ≠ y → (G.1.2 c) x ≠ (G.1.2 c) y :=
  va_apart (own := own) hts (pb_lay hc) (pb_ty c) (pb_tok hc) (pb_nm hc) hK.1 (pb_cl hc)
/-- any write of a field that isn't final -/
theorem v_putv (h : pb_Fx F μ d k n) {i c j a : Nat} {v : Value} {rf' : pb_Rf} {sg' : pb_Sg} (hw : pb_FL μ.1.cls i c j) (hk : sk a = (c + 6, 0)) (hfin : (pb_T c j).2.2.2 = false) (hn : narrow (pb_ty c j) v = v) (hf : fits (pb_ty c j) v = true) (hr : ∀ b, b ≠ a → rf' b = rf b) (hs : ∀ b, b ≠ a → sg' b = sg b) (hV : ∀ x, x < pb_N c → updV (pb_V c (rf a) (sg a)) j v x = pb_V c (rf' a) (sg' a) x) (dd : decode μ.2.1 pc = .ok (.putfield i, 3)) (hq : pc + 3 = q) (kk : pv F cells slots sz sk rf' sg' q L st) : pv F cells slots sz sk rf sg pc L (v :: .ref a :: st) := by
  subst hq
  obtain ⟨hc, hj, hw⟩ := hw
  obtain ⟨hx, hb, hret, hml, hown, hts, hlk, hnm, htab, hfl, hK, hb0, hrm⟩ := h
  intro H ls locs hR hL hS
  have h0 := hR.2 a (by rw [hk]; exact Nat.succ_ne_zero _)
  obtain ⟨cell, q1, q2, q3, q4⟩ := pb_cellO h0.2 hk
  have hap := pb_apart (own := μ.1.cls) hts hK hc
  obtain ⟨hSl, hfc, kC, hkC, hkind⟩ := hK.1.1 c _ (pb_cl hc)
  obtain ⟨cf, kf, fi, f, hi, hsl⟩ := hSl j hj
  have hlay := hts _ (pb_lay hc _ (u_in_lay hj))
  unfold u_lay at hlay
  rw [if_neg (by rw [hfin]; decide)] at hlay
  have hst := (u_facts hfc hkC (u_lays hts (pb_lay hc) hj) hi).1
  have h6 := u_store hfc hkC hkind hlay hi (pb_tok hc j hj) hn hf
  refine W.putK hx hb (f := f) ⟨hown, hts _ hw, ⟨_, _, _, hi⟩, hst⟩ (by rw [q2]; exact h6) q1 q3 (by rw [hsl]; exact k2_hasslot (q4 j hj)) rfl rfl dd fun H' e1 e2 e3 => ?_
  rw [hsl] at e1 ⊢
  refine kk H' ls _ (hR.set a hr hs ?_ e2 e3) hL (hS.put e2 e3 h0.1)
  rw [hk]
  exact t_OB.to (V := updV (pb_V c (rf a) (sg a)) j v) ⟨_, e1, q2, q3, t_set q4 hap hj v⟩ hV
theorem pb_updI {c j : Nat} {r : Nat → Option Nat} {f : Nat → Int32} {x : Int32} (hI : pb_isI (pb_ty c j) = true) (y : Nat) : updV (pb_V c r f) j (.int x) y = pb_V c r (upd f j x) y := by
  unfold updV pb_V upd
  by_cases e : y = j
  · subst e
    simp [hI]
  · simp [e]
theorem pb_updR {c j : Nat} {r : Nat → Option Nat} {f : Nat → Int32} {x : Option Nat} (hI : pb_isI (pb_ty c j) = false) (y : Nat) : updV (pb_V c r f) j (va_rf x) y = pb_V c (va_up r j x) f y := by
  unfold updV pb_V va_up
  by_cases e : y = j
  · subst e
    simp [hI]
  · simp [e]
theorem v_puti (h : pb_Fx F μ d k n) {i c j a : Nat} {x : Int32} (hw : pb_FL μ.1.cls i c j) (hk : sk a = (c + 6, 0)) (hfin : (pb_T c j).2.2.2 = false) (hI : pb_isI (pb_ty c j) = true) (dd : decode μ.2.1 pc = .ok (.putfield i, 3)) (hq : pc + 3 = q) (kk : pv F cells slots sz sk rf (pb_up sg a j x) q L st) : pv F cells slots sz sk rf sg pc L (.int x :: .ref a :: st) :=
  v_putv h hw hk hfin (by rw [pb_isI_int hI]; rfl) (by rw [pb_isI_int hI]; rfl) (fun _ _ => rfl) (fun b hb => pb_up_ne hb) (fun y _ => by rw [pb_up_eq]; exact pb_updI hI y) dd hq kk
/-- a final field, in the constructor -/
theorem v_putF (h : pb_Fx F μ d k n) {i c j a : Nat} {v : Value} {rf' : pb_Rf} {sg' : pb_Sg} (hw : pb_FL μ.1.cls i c j) (hk : sk a = (c + 6, 0)) (hfin : (pb_T c j).2.2.2 = true) (hin : μ.1.name = "<init>") (hdecl : (pb_T c j).1 = μ.1.cls) (hn : narrow (pb_ty c j) v = v) (hf : fits (pb_ty c j) v = true) (hr : ∀ b, b ≠ a → rf' b = rf b) (hs : ∀ b, b ≠ a → sg' b = sg b) (hV : ∀ x, x < pb_N c → updV (pb_V c (rf a) (sg a)) j v x = pb_V c (rf' a) (sg' a) x) (dd : decode μ.2.1 pc = .ok (.putfield i, 3)) (hq : pc + 3 = q) (kk : pv F cells slots sz sk rf' sg' q L st) : pv F cells slots sz sk rf sg pc L (v :: .ref a :: st) := by
  subst hq
  obtain ⟨hc, hj, hw⟩ := hw
  obtain ⟨hx, hb, hret, hml, hown, hts, hlk, hnm, htab, hfl, hK, hb0, hrm⟩ := h
  intro H ls locs hR hL hS
  have h0 := hR.2 a (by rw [hk]; exact Nat.succ_ne_zero _)
  obtain ⟨cell, q1, q2, q3, q4⟩ := pb_cellO h0.2 hk
  have hap := pb_apart (own := μ.1.cls) hts hK hc
  obtain ⟨hSl, hfc, kC, hkC, hkind⟩ := hK.1.1 c _ (pb_cl hc)
  obtain ⟨cf, kf, fi, f, hi, hsl⟩ := hSl j hj
  have hlay := hts _ (pb_lay hc _ (u_in_lay hj))
  unfold u_lay at hlay
  rw [if_pos hfin] at hlay
  have hst := (u_facts hfc hkC (u_lays hts (pb_lay hc) hj) hi).1
  have hcf : (pb_m F).cls = cf := by
    obtain ⟨_, _, c', _, _, _, -, -, hf', -, -, -, hown2, -⟩ := Cond.laysFinal_spec hlay
    have e1 : c' = cf := by have := hi.symm.trans hf'; simp at this; exact this.1.symm
    rw [hdecl] at hown2
    rw [← e1]; exact Option.some.inj (hown.symm.trans hown2)
  have h6 := u_fits hfc hkC hkind (Or.inr hlay) hi (pb_tok hc j hj) hn hf
  refine W.putFinK hx hb hown (hts _ hw) hi hst hcf (hnm.trans hin) (by rw [q2]; exact h6) q1 q3 (by rw [hsl]; exact k2_hasslot (q4 j hj)) rfl rfl dd fun H' e1 e2 e3 => ?_
  rw [hsl] at e1 ⊢
  refine kk H' ls _ (hR.set a hr hs ?_ e2 e3) hL (hS.put e2 e3 h0.1)
  rw [hk]
  exact t_OB.to (V := updV (pb_V c (rf a) (sg a)) j v) ⟨_, e1, q2, q3, t_set q4 hap hj v⟩ hV
theorem v_putFi (h : pb_Fx F μ d k n) {i c j a : Nat} {x : Int32} (hw : pb_FL μ.1.cls i c j) (hk : sk a = (c + 6, 0)) (hfin : (pb_T c j).2.2.2 = true) (hin : μ.1.name = "<init>") (hdecl : (pb_T c j).1 = μ.1.cls) (hI : pb_isI (pb_ty c j) = true) (dd : decode μ.2.1 pc = .ok (.putfield i, 3)) (hq : pc + 3 = q) (kk : pv F cells slots sz sk rf (pb_up sg a j x) q L st) : pv F cells slots sz sk rf sg pc L (.int x :: .ref a :: st) :=
  v_putF h hw hk hfin hin hdecl (by rw [pb_isI_int hI]; rfl) (by rw [pb_isI_int hI]; rfl) (fun _ _ => rfl) (fun b hb => pb_up_ne hb) (fun y _ => by rw [pb_up_eq]; exact pb_updI hI y) dd hq kk
def pb_isR (t : FieldType) : Bool := match t with
  | .object _ => true
  | .array _ => true
  | _ => false
theorem pb_isR_I {t : FieldType} (h : pb_isR t = true) : pb_isI t = false := by
  cases t <;> first | rfl | (simp [pb_isR] at h)
theorem pb_isR_n {t : FieldType} (h : pb_isR t = true) (x : Option Nat) : narrow t (va_rf x) = va_rf x ∧ fits t (va_rf x) = true := by
  cases t <;> cases x <;> first | exact ⟨rfl, rfl⟩ | (simp [pb_isR] at h)
theorem v_putFr (h : pb_Fx F μ d k n) {i c j a b : Nat} (hw : pb_FL μ.1.cls i c j) (hk : sk a = (c + 6, 0)) (hfin : (pb_T c j).2.2.2 = true) (hin : μ.1.name = "<init>") (hdecl : (pb_T c j).1 = μ.1.cls) (hI : pb_isR (pb_ty c j) = true) (dd : decode μ.2.1 pc = .ok (.putfield i, 3)) (hq : pc + 3 = q) (kk : pv F cells slots sz sk (pb_ur rf a j (some b)) sg q L st) : pv F cells slots sz sk rf sg pc L (.ref b :: .ref a :: st) :=
  v_putF h hw hk hfin hin hdecl (pb_isR_n hI (some b)).1 (pb_isR_n hI (some b)).2 (fun b hb => pb_ur_ne hb) (fun _ _ => rfl) (fun y _ => by rw [pb_ur_eq]; exact pb_updR (x := some b) (pb_isR_I hI) y) dd hq kk
theorem v_putFn (h : pb_Fx F μ d k n) {i c j a : Nat} (hw : pb_FL μ.1.cls i c j) (hk : sk a = (c + 6, 0)) (hfin : (pb_T c j).2.2.2 = true) (hin : μ.1.name = "<init>") (hdecl : (pb_T c j).1 = μ.1.cls) (hI : pb_isR (pb_ty c j) = true) (dd : decode μ.2.1 pc = .ok (.putfield i, 3)) (hq : pc + 3 = q) (kk : pv F cells slots sz sk (pb_ur rf a j none) sg q L st) : pv F cells slots sz sk rf sg pc L (.null :: .ref a :: st) :=
  v_putF h hw hk hfin hin hdecl (pb_isR_n hI none).1 (pb_isR_n hI none).2 (fun b hb => pb_ur_ne hb) (fun _ _ => rfl) (fun y _ => by rw [pb_ur_eq]; exact pb_updR (x := none) (pb_isR_I hI) y) dd hq kk
-- arrays
theorem pb_ix {i : Int32} {t m : Nat} (hi : i = nI t) (ht : t < m) (hm : m < 2 ^ 31) : i.toNatClampNeg = t ∧ ¬ (i < 0 ∨ m ≤ i.toNatClampNeg) := by
  subst hi
  exact ⟨nI_clamp (by omega), nI_in ht hm⟩
theorem v_iald (h : pb_Fx F μ d k n) {a t m : Nat} {i : Int32} (hk : sk a = (1, m)) (hi : i = nI t) (ht : t < m) (hm : m < 2 ^ 31) (dd : decode μ.2.1 pc = .ok (.iaload, 1)) (hq : pc + 1 = q) (kk : pv F cells slots sz sk rf sg q L (.int (sg a t) :: st)) : pv F cells slots sz sk rf sg pc L (.int i :: .ref a :: st) := by
  subst hq
  obtain ⟨e1, e2⟩ := pb_ix hi ht hm
  intro H ls locs hR hL hS
  have h1 := (hR.2 a (by rw [hk]; exact Nat.succ_ne_zero _)).2
  rw [hk] at h1
  refine W.iald (v := .int (sg a t)) h.1 h.2.1 h1 ((h.2.2.2.2.2.2.2.2.2.2.1.tys 0 rfl).1 m (fun j => .int (sg a j))) (fun q => by cases q) (by rw [arrV_size]; exact e2) (by rw [e1, arrV_read _ _ ht]) rfl rfl dd (kk H ls locs hR hL hS)
theorem v_zald (h : pb_Fx F μ d k n) {a t m : Nat} {i : Int32} (hk : sk a = (2, m)) (hi : i = nI t) (ht : t < m) (hm : m < 2 ^ 31) (dd : decode μ.2.1 pc = .ok (.baload, 1)) (hq : pc + 1 = q) (kk : pv F cells slots sz sk rf sg q L (.int (sg a t) :: st)) : pv F cells slots sz sk rf sg pc L (.int i :: .ref a :: st) := by
  subst hq
  obtain ⟨e1, e2⟩ := pb_ix hi ht hm
  intro H ls locs hR hL hS
  have h1 := (hR.2 a (by rw [hk]; exact Nat.succ_ne_zero _)).2
  rw [hk] at h1
  refine W.zald (v := .int (sg a t)) h.1 h.2.1 h1 ((h.2.2.2.2.2.2.2.2.2.2.1.tys 1 rfl).1 m (fun j => .int (sg a j))) (fun q => by cases q) (by rw [arrV_size]; exact e2) (by rw [e1, arrV_read _ _ ht]) rfl rfl dd (kk H ls locs hR hL hS)
theorem v_lald (h : pb_Fx F μ d k n) {a t m : Nat} {i : Int32} (hk : sk a = (3, m)) (hi : i = nI t) (ht : t < m) (hm : m < 2 ^ 31) (dd : decode μ.2.1 pc = .ok (.laload, 1)) (hq : pc + 1 = q) (kk : pv F cells slots sz sk rf sg q L (.long (sg a t).toInt64 :: st)) : pv F cells slots sz sk rf sg pc L (.int i :: .ref a :: st) := by
  subst hq
  obtain ⟨e1, e2⟩ := pb_ix hi ht hm
  intro H ls locs hR hL hS
  have h1 := (hR.2 a (by rw [hk]; exact Nat.succ_ne_zero _)).2
  rw [hk] at h1
  refine W.lald (v := .long (sg a t).toInt64) h.1 h.2.1 h1 ((h.2.2.2.2.2.2.2.2.2.2.1.tys 2 rfl).1 m (fun j => .long (sg a j).toInt64)) (fun q => by cases q) (by rw [arrV_size]; exact e2) (by rw [e1, arrV_read _ _ ht]) rfl rfl dd (kk H ls locs hR hL hS)
theorem pb_updV {α : Type} (φ : α → Value) (f : Nat → α) (f' : Nat → α) (k : Nat) (x : α) (hf : ∀ j, f' j = if j = k then x else f j) : updV (fun j => φ (f j)) k (φ x) = fun j => φ (f' j) := by
  funext j
  rw [hf j]
  unfold updV
  by_cases e : j = k
  · simp [e]
  · simp [e]
theorem v_iast (h : pb_Fx F μ d k n) {a t m : Nat} {i x : Int32} (hk : sk a = (1, m)) (hi : i = nI t) (ht : t < m) (hm : m < 2 ^ 31) (dd : decode μ.2.1 pc = .ok (.iastore, 1)) (hq : pc + 1 = q) (kk : pv F cells slots sz sk rf (pb_up sg a t x) q L st) : pv F cells slots sz sk rf sg pc L (.int x :: .int i :: .ref a :: st) := by
  subst hq
  obtain ⟨e1, e2⟩ := pb_ix hi ht hm
  intro H ls locs hR hL hS
  have h0 := hR.2 a (by rw [hk]; exact Nat.succ_ne_zero _)
  have h1 := h0.2
  rw [hk] at h1
  refine W.iast h.1 h.2.1 h1 ((h.2.2.2.2.2.2.2.2.2.2.1.tys 0 rfl).1 m (fun j => .int (sg a j))) (fun q => by cases q) (by rw [arrV_size]; exact e2) rfl rfl dd (fun H1 e z oq => ?_)
  refine kk H1 ls _ (hR.set a (fun _ _ => rfl) (fun b hb => pb_up_ne hb) ?_ z oq) hL (hS.put z oq h0.1)
  rw [hk, pb_up_eq]
  show H1[a]? = some (arrV _ m _)
  rw [e, e1, arrV_store]
  rw [pb_updV Value.int (sg a) (upd (sg a) t x) t x (fun j => rfl)]
theorem v_zast (h : pb_Fx F μ d k n) {a t m : Nat} {i x : Int32} (hk : sk a = (2, m)) (hi : i = nI t) (ht : t < m) (hm : m < 2 ^ 31) (hx1 : x &&& 1 = x) (dd : decode μ.2.1 pc = .ok (.bastore, 1)) (hq : pc + 1 = q) (kk : pv F cells slots sz sk rf (pb_up sg a t x) q L st) : pv F cells slots sz sk rf sg pc L (.int x :: .int i :: .ref a :: st) := by
  subst hq
  obtain ⟨e1, e2⟩ := pb_ix hi ht hm
  intro H ls locs hR hL hS
  have h0 := hR.2 a (by rw [hk]; exact Nat.succ_ne_zero _)
  have h1 := h0.2
  rw [hk] at h1
  refine W.zast h.1 h.2.1 h1 ((h.2.2.2.2.2.2.2.2.2.2.1.tys 1 rfl).1 m (fun j => .int (sg a j))) (fun q => by cases q) (by rw [arrV_size]; exact e2) rfl rfl dd (fun H1 e z oq => ?_)
  refine kk H1 ls _ (hR.set a (fun _ _ => rfl) (fun b hb => pb_up_ne hb) ?_ z oq) hL (hS.put z oq h0.1)
  rw [hk, pb_up_eq]
  show H1[a]? = some (arrV _ m _)
  have e3 : narrow .boolean (.int x) = .int x := by show Value.int (x &&& 1) = _; rw [hx1]
  rw [e, e1, e3, arrV_store]
  rw [pb_updV Value.int (sg a) (upd (sg a) t x) t x (fun j => rfl)]
theorem v_last (h : pb_Fx F μ d k n) {a t m : Nat} {i x : Int32} (hk : sk a = (3, m)) (hi : i = nI t) (ht : t < m) (hm : m < 2 ^ 31) (dd : decode μ.2.1 pc = .ok (.lastore, 1)) (hq : pc + 1 = q) (kk : pv F cells slots sz sk rf (pb_up sg a t x) q L st) : pv F cells slots sz sk rf sg pc L (.long x.toInt64 :: .int i :: .ref a :: st) := by
  subst hq
  obtain ⟨e1, e2⟩ := pb_ix hi ht hm
  intro H ls locs hR hL hS
  have h0 := hR.2 a (by rw [hk]; exact Nat.succ_ne_zero _)
  have h1 := h0.2
  rw [hk] at h1
  refine W.last h.1 h.2.1 h1 ((h.2.2.2.2.2.2.2.2.2.2.1.tys 2 rfl).1 m (fun j => .long (sg a j).toInt64)) (fun q => by cases q) (by rw [arrV_size]; exact e2) rfl rfl dd (fun H1 e z oq => ?_)
  refine kk H1 ls _ (hR.set a (fun _ _ => rfl) (fun b hb => pb_up_ne hb) ?_ z oq) hL (hS.put z oq h0.1)
  rw [hk, pb_up_eq]
  show H1[a]? = some (arrV _ m _)
  rw [e, e1, arrV_store]
  rw [pb_updV (fun y : Int32 => Value.long y.toInt64) (sg a) (upd (sg a) t x) t x (fun j => rfl)]
theorem v_aald4 (h : pb_Fx F μ d k n) {a t m : Nat} {i : Int32} {v : Value} (hk : sk a = (4, m)) (hi : i = nI t) (ht : t < m) (hm : m < 2 ^ 31) (hr : va_rf (rf a t) = v) (dd : decode μ.2.1 pc = .ok (.aaload, 1)) (hq : pc + 1 = q) (kk : pv F cells slots sz sk rf sg q L (v :: st)) : pv F cells slots sz sk rf sg pc L (.int i :: .ref a :: st) := by
  subst hq
  subst hr
  obtain ⟨e1, e2⟩ := pb_ix hi ht hm
  intro H ls locs hR hL hS
  have h1 := (hR.2 a (by rw [hk]; exact Nat.succ_ne_zero _)).2
  rw [hk] at h1
  refine W.aald (v := va_rf (rf a t)) (ty := .object RX0) h.1 h.2.1 h1 ((h.2.2.2.2.2.2.2.2.2.2.1.tys 3 rfl).1 m (fun j => va_rf (rf a j))) rfl (fun q => by cases q) (by rw [arrV_size]; exact e2) (by rw [e1, arrV_read _ _ ht]) rfl rfl dd (kk H ls locs hR hL hS)
theorem v_aald5 (h : pb_Fx F μ d k n) {a t m : Nat} {i : Int32} {v : Value} (hk : sk a = (5, m)) (hi : i = nI t) (ht : t < m) (hm : m < 2 ^ 31) (hr : va_rf (rf a t) = v) (dd : decode μ.2.1 pc = .ok (.aaload, 1)) (hq : pc + 1 = q) (kk : pv F cells slots sz sk rf sg q L (v :: st)) : pv F cells slots sz sk rf sg pc L (.int i :: .ref a :: st) := by
  subst hq
  subst hr
  obtain ⟨e1, e2⟩ := pb_ix hi ht hm
  intro H ls locs hR hL hS
  have h1 := (hR.2 a (by rw [hk]; exact Nat.succ_ne_zero _)).2
  rw [hk] at h1
  refine W.aald (v := va_rf (rf a t)) (ty := .array .int) h.1 h.2.1 h1 ((h.2.2.2.2.2.2.2.2.2.2.1.tys 4 rfl).1 m (fun j => va_rf (rf a j))) rfl (fun q => by cases q) (by rw [arrV_size]; exact e2) (by rw [e1, arrV_read _ _ ht]) rfl rfl dd (kk H ls locs hR hL hS)
end PVR
