/-! The frame of all walks here: one memory for class and reference: sz cells; sk: what each address is (tag, length);
    rf: the references that it holds; sg: the ints. Tags: 1 int[], 2 boolean[], 3 long[], 4 Branch[], 5 int[][], 6 + c an object of the class c of vwCl. -/
def pb_C : Nat → String := fun c => match c with
  | 0 => RX0
  | 1 => RX1
  | 2 => RX2
  | 3 => RX3
  | 4 => RX4
  | 5 => RX5
  | 6 => RX6
  | 7 => RX7
  | _ => RX8
def pb_T : Nat → u_T := fun c => match c with
  | 0 => TX0
  | 1 => TX1
  | 2 => TX2
  | 3 => TX3
  | 4 => TX4
  | 5 => TX5
  | 6 => TX6
  | 7 => TX7
  | _ => TX8
def pb_N : Nat → Nat := fun c => match c with
  | 0 => 7
  | 1 => 3
  | 2 => 7
  | 3 => 3
  | 4 => 4
  | 5 => 3
  | 6 => 3
  | 7 => 7
  | _ => 28
def pb_ty : Nat → Nat → FieldType := fun c => match c with
  | 0 => tyX0
  | 1 => tyX1
  | 2 => tyX2
  | 3 => tyX3
  | 4 => tyX4
  | 5 => tyX5
  | 6 => tyX6
  | 7 => tyX7
  | _ => tyX8
theorem pb_c9 {P : Nat → Prop} (h0 : P 0) (h1 : P 1) (h2 : P 2) (h3 : P 3) (h4 : P 4) (h5 : P 5) (h6 : P 6) (h7 : P 7) (h8 : P 8) {c : Nat} (h : c < 9) : P c := by
  match c, h with
  | 0, _ => exact h0
  | 1, _ => exact h1
  | 2, _ => exact h2
  | 3, _ => exact h3
  | 4, _ => exact h4
  | 5, _ => exact h5
  | 6, _ => exact h6
  | 7, _ => exact h7
  | 8, _ => exact h8
theorem pb_cl {c : Nat} (h : c < 9) : vwCl[c]? = some (pb_C c, pb_T c, pb_N c) := pb_c9 (P := fun c => vwCl[c]? = some (pb_C c, pb_T c, pb_N c)) rfl rfl rfl rfl rfl rfl rfl rfl rfl h
theorem pb_nm {c : Nat} (h : c < 9) : ∀ a, a < pb_N c → ∀ b, b < pb_N c → a ≠ b → (pb_T c a).2.1 ≠ (pb_T c b).2.1 := pb_c9 (P := fun c => ∀ a, a < pb_N c → ∀ b, b < pb_N c → a ≠ b → (pb_T c a).2.1 ≠ (pb_T c b).2.1) nmX0 nmX1 nmX2 nmX3 nmX4 nmX5 nmX6 nmX7 nmX8 h
theorem pb_tok {c : Nat} (h : c < 9) : ∀ k, k < pb_N c → parseFieldDescriptor (pb_T c k).2.2.1 = some (pb_ty c k) := pb_c9 (P := fun c => ∀ k, k < pb_N c → parseFieldDescriptor (pb_T c k).2.2.1 = some (pb_ty c k)) tyX0_ok tyX1_ok tyX2_ok tyX3_ok tyX4_ok tyX5_ok tyX6_ok tyX7_ok tyX8_ok h
theorem pb_lay {c : Nat} (h : c < 9) : ∀ w ∈ u_ws (pb_C c) (pb_T c) (pb_N c), w ∈ tbG := pb_c9 (P := fun c => ∀ w ∈ u_ws (pb_C c) (pb_T c) (pb_N c), w ∈ tbG) (by decide +kernel) (by decide +kernel) (by decide +kernel) (by decide +kernel) (by decide +kernel) (by decide +kernel) (by decide +kernel) (by decide +kernel) (by decide +kernel) h
def pb_isI (t : FieldType) : Bool := match t with
  | .int => true
  | _ => false
def pb_V (c : Nat) (r : Nat → Option Nat) (f : Nat → Int32) (k : Nat) : Value := if pb_isI (pb_ty c k) = true then .int (f k) else va_rf (r k)
def pb_cell (D : va_G) (cA : Nat → ClassId) (kd : Nat × Nat) (r : Nat → Option Nat) (f : Nat → Int32) (a : Nat) (H : Heap) : Prop := match kd.1 with
  | 0 => True
  | 1 => H[a]? = some (arrV (cA 1) kd.2 (fun j => .int (f j)))
  | 2 => H[a]? = some (arrV (cA 2) kd.2 (fun j => .int (f j)))
  | 3 => H[a]? = some (arrV (cA 3) kd.2 (fun j => .long (f j).toInt64))
  | 4 => H[a]? = some (arrV (cA 4) kd.2 (fun j => va_rf (r j)))
  | 5 => H[a]? = some (arrV (cA 5) kd.2 (fun j => va_rf (r j)))
  | c + 6 => t_OB a (D.1 c) (pb_N c) (D.2 c) H (pb_V c r f)
theorem pb_cell.kept {D : va_G} {cA : Nat → ClassId} {kd : Nat × Nat} {r : Nat → Option Nat} {f : Nat → Int32} {a : Nat} {H H1 : Heap} (h : pb_cell D cA kd r f a H) (e : H1[a]? = H[a]?) : pb_cell D cA kd r f a H1 := by
  obtain ⟨t, n⟩ := kd
  match t, h with
  | 0, _ => exact True.intro
  | 1, h => exact e.trans h
  | 2, h => exact e.trans h
  | 3, h => exact e.trans h
  | 4, h => exact e.trans h
  | 5, h => exact e.trans h
  | c + 6, h => exact t_OB.kept h e
theorem pb_cell.lt {D : va_G} {cA : Nat → ClassId} {kd : Nat × Nat} {r : Nat → Option Nat} {f : Nat → Int32} {a : Nat} {H : Heap} (h : pb_cell D cA kd r f a H) (h0 : kd.1 ≠ 0) : a < H.size := by
  obtain ⟨t, n⟩ := kd
  match t, h with
  | 0, _ => exact absurd rfl h0
  | 1, h => exact (Array.getElem?_eq_some_iff.mp h).1
  | 2, h => exact (Array.getElem?_eq_some_iff.mp h).1
  | 3, h => exact (Array.getElem?_eq_some_iff.mp h).1
  | 4, h => exact (Array.getElem?_eq_some_iff.mp h).1
  | 5, h => exact (Array.getElem?_eq_some_iff.mp h).1
  | c + 6, h => obtain ⟨cell, h2, -⟩ := h; exact (Array.getElem?_eq_some_iff.mp h2).1
abbrev pb_Sk : Type := Nat → Nat × Nat
abbrev pb_Rf : Type := Nat → Nat → Option Nat
abbrev pb_Sg : Type := Nat → Nat → Int32
/-- a write of an int, of a reference, of a kind -/
def pb_up (sg : pb_Sg) (a k : Nat) (x : Int32) : pb_Sg := fun b => if b = a then upd (sg a) k x else sg b
def pb_ur (rf : pb_Rf) (a k : Nat) (x : Option Nat) : pb_Rf := fun b => if b = a then va_up (rf a) k x else rf b
def pb_uk (sk : pb_Sk) (a : Nat) (x : Nat × Nat) : pb_Sk := fun b => if b = a then x else sk b
def pb_u0 {α : Type} (f : Nat → Nat → α) (a : Nat) (v : α) : Nat → Nat → α := fun b => if b = a then fun _ => v else f b
/-- class numbers, array classes, the first address that is ours -/
abbrev pb_G : Type := va_G × (Nat → ClassId) × Nat
def pb_rep (G : pb_G) (sz : Nat) (sk : pb_Sk) (rf : pb_Rf) (sg : pb_Sg) (H : Heap) : Prop := H.size = sz ∧ ∀ a : Nat, (sk a).1 ≠ 0 → G.2.2 ≤ a ∧ pb_cell G.1 G.2.1 (sk a) (rf a) (sg a) a H
abbrev pb_own (G : pb_G) : Nat → Prop := fun q => G.2.2 ≤ q
def pb_tys (cA : Nat → ClassId) : List (ClassId × FieldType) := [(cA 1, .int), (cA 2, .boolean), (cA 3, .long), (cA 4, .object RX0), (cA 5, .array .int)]
def pb_strs : List (String × Nat × String) := [("PlanBranches", 269, "there is no such branch"), ("PlanBranches", 272, "an argument is out of range"), ("PlanBranches", 95, "the task is not there"), ("PlanBranches", 103, "another task needs it"), ("PlanBranches", 113, "a task cannot need itself"), ("PlanBranches", 116, "one of the tasks is not there"), ("PlanBranches", 126, "a task would need itself"), ("PlanBranches", 131, "no change can be undone"), ("PlanBranches", 146, "no more branches can be begun"), ("PlanBranches", 168, "the branch 0 has no parent"), ("PlanBranches", 191, "there is a reason against merging"), ("PlanBranches", 201, "there is a reason against bringing it up to date"), ("PlanBranches", 209, "there are as many loans as can be"), ("PlanBranches", 249, "there are too many tasks for all orders")]
def pb_ncs : List (String × String) := [("java/lang/IllegalArgumentException", "java/lang/IndexOutOfBoundsException"), ("java/lang/IllegalStateException", "java/lang/IndexOutOfBoundsException"), ("java/lang/IllegalStateException", "java/lang/IllegalArgumentException")]
def pb_AOI (U : State) : Prop := (Cond.arrayOver (.array .int)).before #[] U = true
theorem pb_AOI.moved {u U : State} (hvm : u.vm.Alike U.vm) (h : pb_AOI u) : pb_AOI U := by
  show (Cond.arrayOver (.array .int)).before #[] (u.setVm U.vm) = true
  rw [Cond.arrayOver_setVmC hvm]
  exact h
def pb_K (G : pb_G) (s : State) : Prop := va_K G.1 vwCl (pb_tys G.2.1) s ∧ vx_Zq Bundle.tN "UNASSIGNED_STACK" Bundle.steD (pb_own G) s s.heap ∧ vx_Zq Bundle.tN "SUPPRESSED_SENTINEL" Bundle.listD (pb_own G) s s.heap ∧ (∀ w ∈ tbX, va_Nw w s) ∧ (∀ q ∈ pb_strs, ∃ sa, vk_R q.1 q.2.1 q.2.2 sa s) ∧ (∀ q ∈ pb_ncs, va_Nc q.1 q.2 s) ∧ va_AO RX0 s ∧ pb_AOI s
/-- a method: name, bytes, locals, answer, handlers -/
abbrev pb_M : Type := MethodName × ByteArray × Nat × Option FieldType × List (Nat × Nat × Nat × Nat)
def pb_code (μ : pb_M) : Cond := match μ.2.2.2.2 with
  | [] => .code μ.1 μ.2.1 μ.2.2.1 μ.2.2.2.1
  | hh => .codeWith μ.1 μ.2.1 μ.2.2.1 μ.2.2.2.1 hh
abbrev pb_F : Type := (Program × Launch × Env × Room × State × MethodId × Array Value × List Frame × Method × Code) × (State → Prop) × pb_G
abbrev pb_p (F : pb_F) : Program := F.1.1
abbrev pb_l (F : pb_F) : Launch := F.1.2.1
abbrev pb_e (F : pb_F) : Env := F.1.2.2.1
abbrev pb_rm (F : pb_F) : Room := F.1.2.2.2.1
abbrev pb_s (F : pb_F) : State := F.1.2.2.2.2.1
abbrev pb_m (F : pb_F) : MethodId := F.1.2.2.2.2.2.1
abbrev pb_args (F : pb_F) : Array Value := F.1.2.2.2.2.2.2.1
abbrev pb_below (F : pb_F) : List Frame := F.1.2.2.2.2.2.2.2.1
abbrev pb_meth (F : pb_F) : Method := F.1.2.2.2.2.2.2.2.2.1
abbrev pb_c (F : pb_F) : Code := F.1.2.2.2.2.2.2.2.2.2
abbrev pb_Q (F : pb_F) : State → Prop := F.2.1
abbrev pb_g (F : pb_F) : pb_G := F.2.2
abbrev pb_W (F : pb_F) (H : Heap) (locs : List Loc) (cells slots : Nat) (g : JFrame) : Prop := W (pb_p F) (pb_l F) (pb_e F) (pb_rm F) (pb_s F) (pb_m F) (pb_args F) (pb_below F) (pb_meth F) (pb_c F) H locs cells slots (pb_Q F) g
/-- what stands fast while a method runs -/
def pb_Fx (F : pb_F) (μ : pb_M) (d k n : Nat) : Prop :=
  (pb_p F).tables.exec = Jvm.exec ∧ (pb_c F).code = μ.2.1 ∧ (pb_meth F).sig.returnType = μ.2.2.2.1 ∧ (pb_c F).maxLocals = μ.2.2.1 ∧ (pb_s F).vm.findClass μ.1.cls = some (pb_m F).cls ∧ (∀ w ∈ tbG, w.before (pb_args F) (pb_s F) = true) ∧
  (pb_meth F).locks = false ∧ (pb_meth F).name = μ.1.name ∧ (pb_c F).exceptionTable.toList = tableOf μ.2.2.2.2 ∧ (pb_l F).stackTraces = false ∧ pb_K (pb_g F) (pb_s F) ∧ (pb_g F).2.2 ≤ (pb_s F).heap.size ∧
  (d ≤ (pb_rm F).frames ∧ 100 * d ≤ (pb_rm F).locals ∧ k ≤ (pb_rm F).cells ∧ n ≤ (pb_rm F).slots)
/-- locals, by number -/
def pb_L (ls : Array Slot) (L : List (Option Value)) : Prop := ls.size = L.length ∧ lv_wf ls ∧ ∀ (i : Nat) (v : Value), L[i]? = some (some v) → ls[i]? = some (.val v) ∧ v.category = 1
/-- THE JUDGEMENT: from here the machine comes to an end that is wanted -/
def pv (F : pb_F) (cells slots sz : Nat) (sk : pb_Sk) (rf : pb_Rf) (sg : pb_Sg) (pc : Nat) (L : List (Option Value)) (st : List Value) : Prop :=
  ∀ (H : Heap) (ls : Array Slot) (locs : List Loc), pb_rep (pb_g F) sz sk rf sg H → pb_L ls L → va_S (pb_own (pb_g F)) (pb_s F).heap H locs → pb_W F H locs cells slots (F0 (pb_m F) pc ls st)
/-- the same, an exception of the class E in flight -/
def px (F : pb_F) (cells slots sz : Nat) (sk : pb_Sk) (rf : pb_Rf) (sg : pb_Sg) (pc : Nat) (L : List (Option Value)) (E : String) : Prop :=
  ∀ (H : Heap) (ls : Array Slot) (locs : List Loc) (q : Addr) (ce : Cell) (rest : List Value), pb_rep (pb_g F) sz sk rf sg H → pb_L ls L → va_S (pb_own (pb_g F)) (pb_s F).heap H locs → H[q]? = some ce → ce.vm = .none → (pb_s F).vm.findClass E = some ce.cls →
    vx_W (pb_p F) (pb_l F) (pb_e F) (pb_rm F) (pb_s F) (pb_m F) (pb_args F) (pb_below F) (pb_meth F) (pb_c F) H locs cells slots (pb_Q F) (F0 (pb_m F) pc ls rest) q
abbrev pb_R : Type := Option Value ⊕ String
abbrev pb_Post : Type := pb_R → Nat → pb_Sk → pb_Rf → pb_Sg → Prop
def pb_Pc (G : pb_G) (av : List Value) (sz : Nat) (sk : pb_Sk) (rf : pb_Rf) (sg : pb_Sg) : Array Value → State → Prop := fun v U => v = av.toArray ∧ pb_K G U ∧ pb_rep G sz sk rf sg U.heap ∧ G.2.2 ≤ U.heap.size
def pb_Qc (G : pb_G) (post : pb_Post) : Array Value → State → Outcome → State → Prop := fun _ st o t => (∃ v sz sk rf sg, o = .returned v ∧ post (.inl v) sz sk rf sg ∧ pb_rep G sz sk rf sg t.heap) ∧ va_F (pb_own G) st t
def pb_XC (G : pb_G) (post : pb_Post) : String → State → State → Prop := fun E st t => (∃ sz sk rf sg, post (.inr E) sz sk rf sg ∧ pb_rep G sz sk rf sg t.heap) ∧ va_F (pb_own G) st t
def pb_room (d k n : Nat) : Room := { frames := d, cells := k, slots := n, locals := 100 * d }
/-- A CONTRACT: called with av in this memory, the method ends as post says -/
def pb_Met (l : Launch) (μ : pb_M) (d k n : Nat) (av : List Value) (sz : Nat) (sk : pb_Sk) (rf : pb_Rf) (sg : pb_Sg) (post : pb_Post) : Prop :=
  ∀ G : pb_G, vx_Met l μ.1 (pb_code μ :: tbG) (pb_room d k n) (pb_Pc G av sz sk rf sg) (pb_Qc G post) (pb_XC G post) k n (pb_own G)
def pb_Fq (F : pb_F) (k n : Nat) (post : pb_Post) : Prop := pb_Q F = vx_MQ (pb_below F) (pb_Qc (pb_g F) post) (pb_XC (pb_g F) post) (pb_args F) (pb_s F) k n (pb_own (pb_g F))
