section PVR
variable {F : pb_F} {μ : pb_M} {d k n : Nat} {cells slots sz : Nat} {sk : pb_Sk} {rf : pb_Rf} {sg : pb_Sg} {pc q : Nat} {L : List (Option Value)} {st : List Value}
theorem pb_c1 {av : List Value} (h : av.all (fun v => v.category == 1) = true) : ∀ v ∈ av, v.category = 1 := fun v hv => by
  have := List.all_eq_true.mp h v hv
  simpa using this
def pb_b : Bool → Int32
  | true => nI 1
  | false => nI 0
theorem pb_b_nar (b : Bool) : narrow .boolean (.int (pb_b b)) = .int (pb_b b) := by cases b <;> rfl
theorem pb_b_0 {b : Bool} : pb_b b = 0 ↔ b = false := by cases b <;> decide
/-- it came back with v, and this memory -/
def pb_is (v : Option Value) (sz : Nat) (sk : pb_Sk) (rf : pb_Rf) (sg : pb_Sg) : pb_Post := fun r sz' sk' rf' sg' => r = .inl v ∧ sz' = sz ∧ sk' = sk ∧ rf' = rf ∧ sg' = sg
/-- it threw E; the memory is as before, but for cells that nobody knows -/
def pb_thr (E : String) (sz : Nat) (sk : pb_Sk) (rf : pb_Rf) (sg : pb_Sg) : pb_Post := fun r sz' sk' rf' sg' => r = .inr E ∧ sz ≤ sz' ∧ sk' = sk ∧ rf' = rf ∧ sg' = sg
theorem v_callV1 (h : pb_Fx F μ d k n) {μ' : pb_M} {d' N i b c : Nat} {av st0 : List Value} {v : Value} {sg' : pb_Sg} (hM : pb_Met (pb_l F) μ' d' 0 0 (.ref b :: av) sz sk rf sg (pb_is (some v) sz sk rf sg')) (hm : pb_MI μ' N) (hl : Cond.methodLink μ.1.cls i μ'.1 ∈ tbG) (hsl : Cond.selects μ'.1.cls μ'.1 μ'.1 ∈ tbG) (hb : sk b = (c + 6, 0)) (hc : c < 9) (hcc : pb_C c = μ'.1.cls) (hn : av.length = N) (hst : st0 = av.reverse ++ .ref b :: st) (hW : (st.map fun v => v.category).sum ≤ 8) (hd : d' + 1 ≤ d) (hk : cells ≤ k) (hs : slots ≤ n) (hLn : L.length = μ.2.2.1) (dd : decode μ.2.1 pc = .ok (.invokevirtual i, 3)) (hq : pc + 3 = q) (kk : pv F cells slots sz sk rf sg' q L (v :: st)) : pv F cells slots sz sk rf sg pc L st0 := by
  refine v_callV h hM hm hl hsl hb hc hcc hn hst hW hd hk hs hLn dd hq ?_ ?_
  · rintro v' sz' sk' rf' sg'' ⟨e1, rfl, rfl, rfl, rfl⟩
    cases e1
    exact kk
  · rintro E sz' sk' rf' sg'' ⟨e1, -⟩
    cases e1
theorem v_callV0 (h : pb_Fx F μ d k n) {μ' : pb_M} {d' N i b c : Nat} {av st0 : List Value} {sg' : pb_Sg} (hM : pb_Met (pb_l F) μ' d' 0 0 (.ref b :: av) sz sk rf sg (pb_is none sz sk rf sg')) (hm : pb_MI μ' N) (hl : Cond.methodLink μ.1.cls i μ'.1 ∈ tbG) (hsl : Cond.selects μ'.1.cls μ'.1 μ'.1 ∈ tbG) (hb : sk b = (c + 6, 0)) (hc : c < 9) (hcc : pb_C c = μ'.1.cls) (hn : av.length = N) (hst : st0 = av.reverse ++ .ref b :: st) (hW : (st.map fun v => v.category).sum ≤ 8) (hd : d' + 1 ≤ d) (hk : cells ≤ k) (hs : slots ≤ n) (hLn : L.length = μ.2.2.1) (dd : decode μ.2.1 pc = .ok (.invokevirtual i, 3)) (hq : pc + 3 = q) (kk : pv F cells slots sz sk rf sg' q L st) : pv F cells slots sz sk rf sg pc L st0 := by
  refine v_callV h hM hm hl hsl hb hc hcc hn hst hW hd hk hs hLn dd hq ?_ ?_
  · rintro v' sz' sk' rf' sg'' ⟨e1, rfl, rfl, rfl, rfl⟩
    cases e1
    exact kk
  · rintro E sz' sk' rf' sg'' ⟨e1, -⟩
    cases e1
theorem v_callVx (h : pb_Fx F μ d k n) {μ' : pb_M} {E : String} {d' k' n' N i b c : Nat} {av st0 : List Value} (hM : pb_Met (pb_l F) μ' d' k' n' (.ref b :: av) sz sk rf sg (pb_thr E sz sk rf sg)) (hm : pb_MI μ' N) (hl : Cond.methodLink μ.1.cls i μ'.1 ∈ tbG) (hsl : Cond.selects μ'.1.cls μ'.1 μ'.1 ∈ tbG) (hb : sk b = (c + 6, 0)) (hc : c < 9) (hcc : pb_C c = μ'.1.cls) (hn : av.length = N) (hst : st0 = av.reverse ++ .ref b :: st) (hW : (st.map fun v => v.category).sum ≤ 8) (hd : d' + 1 ≤ d) (hk : cells + k' ≤ k) (hs : slots + n' ≤ n) (hLn : L.length = μ.2.2.1) (dd : decode μ.2.1 pc = .ok (.invokevirtual i, 3)) (hq : pc + 3 = q) (kx : ∀ sz', sz ≤ sz' → px F (cells + k') (slots + n') sz' sk rf sg pc L E) : pv F cells slots sz sk rf sg pc L st0 := by
  refine v_callV h hM hm hl hsl hb hc hcc hn hst hW hd hk hs hLn dd hq ?_ ?_
  · rintro v' sz' sk' rf' sg'' ⟨e1, -⟩
    cases e1
  · rintro E' sz' sk' rf' sg'' ⟨e1, hz, rfl, rfl, rfl⟩
    cases e1
    exact kx sz' hz
theorem v_callS1 (h : pb_Fx F μ d k n) {μ' : pb_M} {d' N i : Nat} {av st0 : List Value} {v : Value} {sg' : pb_Sg} (hM : pb_Met (pb_l F) μ' d' 0 0 av sz sk rf sg (pb_is (some v) sz sk rf sg')) (hm : pb_MS μ' N) (h0 : μ'.2.2.2.2 = []) (hl : Cond.methodLink μ.1.cls i μ'.1 ∈ tbG) (hn : av.length = N) (hst : st0 = av.reverse ++ st) (hW : (st.map fun v => v.category).sum ≤ 8) (hd : d' + 1 ≤ d) (hk : cells ≤ k) (hs : slots ≤ n) (hLn : L.length = μ.2.2.1) (dd : decode μ.2.1 pc = .ok (.invokestatic i, 3)) (hq : pc + 3 = q) (kk : pv F cells slots sz sk rf sg' q L (v :: st)) : pv F cells slots sz sk rf sg pc L st0 := by
  refine v_callS h hM hm h0 hl hn hst hW hd hk hs hLn dd hq ?_ ?_
  · rintro v' sz' sk' rf' sg'' ⟨e1, rfl, rfl, rfl, rfl⟩
    cases e1
    exact kk
  · rintro E sz' sk' rf' sg'' ⟨e1, -⟩
    cases e1
theorem v_callS0 (h : pb_Fx F μ d k n) {μ' : pb_M} {d' N i : Nat} {av st0 : List Value} {sg' : pb_Sg} (hM : pb_Met (pb_l F) μ' d' 0 0 av sz sk rf sg (pb_is none sz sk rf sg')) (hm : pb_MS μ' N) (h0 : μ'.2.2.2.2 = []) (hl : Cond.methodLink μ.1.cls i μ'.1 ∈ tbG) (hn : av.length = N) (hst : st0 = av.reverse ++ st) (hW : (st.map fun v => v.category).sum ≤ 8) (hd : d' + 1 ≤ d) (hk : cells ≤ k) (hs : slots ≤ n) (hLn : L.length = μ.2.2.1) (dd : decode μ.2.1 pc = .ok (.invokestatic i, 3)) (hq : pc + 3 = q) (kk : pv F cells slots sz sk rf sg' q L st) : pv F cells slots sz sk rf sg pc L st0 := by
  refine v_callS h hM hm h0 hl hn hst hW hd hk hs hLn dd hq ?_ ?_
  · rintro v' sz' sk' rf' sg'' ⟨e1, rfl, rfl, rfl, rfl⟩
    cases e1
    exact kk
  · rintro E sz' sk' rf' sg'' ⟨e1, -⟩
    cases e1
theorem v_callSx (h : pb_Fx F μ d k n) {μ' : pb_M} {E : String} {d' k' n' N i : Nat} {av st0 : List Value} (hM : pb_Met (pb_l F) μ' d' k' n' av sz sk rf sg (pb_thr E sz sk rf sg)) (hm : pb_MS μ' N) (h0 : μ'.2.2.2.2 = []) (hl : Cond.methodLink μ.1.cls i μ'.1 ∈ tbG) (hn : av.length = N) (hst : st0 = av.reverse ++ st) (hW : (st.map fun v => v.category).sum ≤ 8) (hd : d' + 1 ≤ d) (hk : cells + k' ≤ k) (hs : slots + n' ≤ n) (hLn : L.length = μ.2.2.1) (dd : decode μ.2.1 pc = .ok (.invokestatic i, 3)) (hq : pc + 3 = q) (kx : ∀ sz', sz ≤ sz' → px F (cells + k') (slots + n') sz' sk rf sg pc L E) : pv F cells slots sz sk rf sg pc L st0 := by
  refine v_callS h hM hm h0 hl hn hst hW hd hk hs hLn dd hq ?_ ?_
  · rintro v' sz' sk' rf' sg'' ⟨e1, -⟩
    cases e1
  · rintro E' sz' sk' rf' sg'' ⟨e1, hz, rfl, rfl, rfl⟩
    cases e1
    exact kx sz' hz
theorem v_callSN1 (h : pb_Fx F μ d k n) {μ' : pb_M} {d' N i : Nat} {host : String} {av st0 : List Value} {v : Value} {sg' : pb_Sg} (hM : pb_Met (pb_l F) μ' d' 0 0 av sz sk rf sg (pb_is (some v) sz sk rf sg')) (hm : pb_MS μ' N) (h0 : μ'.2.2.2.2 = []) (hl : Cond.methodLinkNest μ.1.cls i μ'.1 host ∈ tbX) (hn : av.length = N) (hst : st0 = av.reverse ++ st) (hW : (st.map fun v => v.category).sum ≤ 8) (hd : d' + 1 ≤ d) (hk : cells ≤ k) (hs : slots ≤ n) (hLn : L.length = μ.2.2.1) (dd : decode μ.2.1 pc = .ok (.invokestatic i, 3)) (hq : pc + 3 = q) (kk : pv F cells slots sz sk rf sg' q L (v :: st)) : pv F cells slots sz sk rf sg pc L st0 := by
  refine v_callSN h hM hm h0 hl hn hst hW hd hk hs hLn dd hq ?_ ?_
  · rintro v' sz' sk' rf' sg'' ⟨e1, rfl, rfl, rfl, rfl⟩
    cases e1
    exact kk
  · rintro E sz' sk' rf' sg'' ⟨e1, -⟩
    cases e1
theorem v_alen (h : pb_Fx F μ d k n) {a t m : Nat} (hk : sk a = (t + 1, m)) (ht : t < 5) (dd : decode μ.2.1 pc = .ok (.arraylength, 1)) (hq : pc + 1 = q) (kk : pv F cells slots sz sk rf sg q L (.int (nI m) :: st)) : pv F cells slots sz sk rf sg pc L (.ref a :: st) := by
  subst hq
  intro H ls locs hR hL hS
  have h1 := (hR.2 a (by rw [hk]; exact Nat.succ_ne_zero _)).2
  rw [hk] at h1
  have hK := h.2.2.2.2.2.2.2.2.2.2.1
  match t, ht, h1 with
  | 0, _, h1 => exact W.alen (n := nI m) h.1 h.2.1 h1 ((hK.tys 0 rfl).1 m _) (by rw [arrV_size] <;> rfl) rfl rfl dd (kk H ls locs hR hL hS)
  | 1, _, h1 => exact W.alen (n := nI m) h.1 h.2.1 h1 ((hK.tys 1 rfl).1 m _) (by rw [arrV_size] <;> rfl) rfl rfl dd (kk H ls locs hR hL hS)
  | 2, _, h1 => exact W.alen (n := nI m) h.1 h.2.1 h1 ((hK.tys 2 rfl).1 m _) (by rw [arrV_size] <;> rfl) rfl rfl dd (kk H ls locs hR hL hS)
  | 3, _, h1 => exact W.alen (n := nI m) h.1 h.2.1 h1 ((hK.tys 3 rfl).1 m _) (by rw [arrV_size] <;> rfl) rfl rfl dd (kk H ls locs hR hL hS)
  | 4, _, h1 => exact W.alen (n := nI m) h.1 h.2.1 h1 ((hK.tys 4 rfl).1 m _) (by rw [arrV_size] <;> rfl) rfl rfl dd (kk H ls locs hR hL hS)
end PVR
theorem fl_X7_11 : pb_FL RX7 11 7 0 := ⟨by decide, by decide, tw257⟩
theorem fl_X7_18 : pb_FL RX7 18 7 1 := ⟨by decide, by decide, tw258⟩
theorem fl_X7_25 : pb_FL RX7 25 7 2 := ⟨by decide, by decide, tw259⟩
theorem fl_X7_32 : pb_FL RX7 32 7 3 := ⟨by decide, by decide, tw260⟩
theorem fl_X7_39 : pb_FL RX7 39 7 4 := ⟨by decide, by decide, tw261⟩
theorem fl_X7_46 : pb_FL RX7 46 7 5 := ⟨by decide, by decide, tw262⟩
theorem fl_X7_50 : pb_FL RX7 50 7 6 := ⟨by decide, by decide, tw263⟩
theorem fl_X7_65 : pb_FL RX7 65 0 2 := ⟨by decide, by decide, tw152⟩
theorem fl_X7_75 : pb_FL RX7 75 4 3 := ⟨by decide, by decide, tw101⟩
theorem fl_X7_79 : pb_FL RX7 79 0 4 := ⟨by decide, by decide, tw157⟩
theorem fl_X7_105 : pb_FL RX7 105 4 0 := ⟨by decide, by decide, tw89⟩
theorem fl_X7_128 : pb_FL RX7 128 2 6 := ⟨by decide, by decide, tw129⟩
theorem fl_X7_141 : pb_FL RX7 141 4 1 := ⟨by decide, by decide, tw96⟩
theorem fl_X7_151 : pb_FL RX7 151 0 3 := ⟨by decide, by decide, tw155⟩
theorem fl_X7_157 : pb_FL RX7 157 0 1 := ⟨by decide, by decide, tw149⟩
theorem fl_X7_161 : pb_FL RX7 161 0 0 := ⟨by decide, by decide, tw147⟩
theorem fl_X7_165 : pb_FL RX7 165 0 6 := ⟨by decide, by decide, tw162⟩
theorem fl_X7_170 : pb_FL RX7 170 0 5 := ⟨by decide, by decide, tw160⟩
theorem fl_X7_177 : pb_FL RX7 177 3 1 := ⟨by decide, by decide, tw209⟩
theorem fl_X7_193 : pb_FL RX7 193 3 0 := ⟨by decide, by decide, tw207⟩
theorem fl_X7_203 : pb_FL RX7 203 1 0 := ⟨by decide, by decide, tw187⟩
theorem fl_X7_206 : pb_FL RX7 206 1 2 := ⟨by decide, by decide, tw190⟩
theorem fl_X7_222 : pb_FL RX7 222 6 0 := ⟨by decide, by decide, tw226⟩
theorem fl_X7_228 : pb_FL RX7 228 6 2 := ⟨by decide, by decide, tw229⟩
theorem fl_X7_235 : pb_FL RX7 235 5 0 := ⟨by decide, by decide, tw245⟩
theorem fl_X7_238 : pb_FL RX7 238 5 2 := ⟨by decide, by decide, tw249⟩
theorem fl_X7_258 : pb_FL RX7 258 5 1 := ⟨by decide, by decide, tw247⟩
theorem fl_X7_278 : pb_FL RX7 278 3 2 := ⟨by decide, by decide, tw211⟩
theorem fl_X0_12 : pb_FL RX0 12 0 2 := ⟨by decide, by decide, tw150⟩
theorem fl_X0_18 : pb_FL RX0 18 0 3 := ⟨by decide, by decide, tw153⟩
theorem fl_X0_24 : pb_FL RX0 24 0 4 := ⟨by decide, by decide, tw156⟩
theorem fl_X0_28 : pb_FL RX0 28 0 5 := ⟨by decide, by decide, tw158⟩
theorem fl_X0_33 : pb_FL RX0 33 0 6 := ⟨by decide, by decide, tw161⟩
theorem fl_X0_37 : pb_FL RX0 37 0 0 := ⟨by decide, by decide, tw146⟩
theorem fl_X0_40 : pb_FL RX0 40 0 1 := ⟨by decide, by decide, tw148⟩
theorem fl_X1_9 : pb_FL RX1 9 1 0 := ⟨by decide, by decide, tw186⟩
theorem fl_X1_17 : pb_FL RX1 17 1 1 := ⟨by decide, by decide, tw188⟩
theorem fl_X1_20 : pb_FL RX1 20 1 2 := ⟨by decide, by decide, tw189⟩
theorem fl_X2_9 : pb_FL RX2 9 2 0 := ⟨by decide, by decide, tw122⟩
theorem fl_X2_15 : pb_FL RX2 15 2 1 := ⟨by decide, by decide, tw123⟩
theorem fl_X2_18 : pb_FL RX2 18 2 2 := ⟨by decide, by decide, tw124⟩
theorem fl_X2_21 : pb_FL RX2 21 2 3 := ⟨by decide, by decide, tw125⟩
theorem fl_X2_24 : pb_FL RX2 24 2 4 := ⟨by decide, by decide, tw126⟩
theorem fl_X2_27 : pb_FL RX2 27 2 5 := ⟨by decide, by decide, tw127⟩
theorem fl_X2_31 : pb_FL RX2 31 4 0 := ⟨by decide, by decide, tw88⟩
theorem fl_X2_34 : pb_FL RX2 34 4 1 := ⟨by decide, by decide, tw93⟩
theorem fl_X2_35 : pb_FL RX2 35 4 2 := ⟨by decide, by decide, tw98⟩
theorem fl_X2_36 : pb_FL RX2 36 4 3 := ⟨by decide, by decide, tw102⟩
theorem fl_X2_37 : pb_FL RX2 37 2 6 := ⟨by decide, by decide, tw128⟩
theorem fl_X3_12 : pb_FL RX3 12 3 0 := ⟨by decide, by decide, tw206⟩
theorem fl_X3_18 : pb_FL RX3 18 3 1 := ⟨by decide, by decide, tw208⟩
theorem fl_X3_22 : pb_FL RX3 22 3 2 := ⟨by decide, by decide, tw210⟩
theorem fl_X3_25 : pb_FL RX3 25 0 2 := ⟨by decide, by decide, tw151⟩
theorem fl_X3_28 : pb_FL RX3 28 0 3 := ⟨by decide, by decide, tw154⟩
theorem fl_X3_35 : pb_FL RX3 35 0 5 := ⟨by decide, by decide, tw159⟩
theorem fl_X3_55 : pb_FL RX3 55 4 0 := ⟨by decide, by decide, tw90⟩
theorem fl_X3_62 : pb_FL RX3 62 4 1 := ⟨by decide, by decide, tw94⟩
theorem fl_X3_65 : pb_FL RX3 65 4 2 := ⟨by decide, by decide, tw99⟩
theorem fl_X3_68 : pb_FL RX3 68 4 3 := ⟨by decide, by decide, tw104⟩
theorem fl_X4_9 : pb_FL RX4 9 4 0 := ⟨by decide, by decide, tw86⟩
theorem fl_X4_15 : pb_FL RX4 15 4 1 := ⟨by decide, by decide, tw92⟩
theorem fl_X4_18 : pb_FL RX4 18 4 2 := ⟨by decide, by decide, tw97⟩
theorem fl_X4_21 : pb_FL RX4 21 4 3 := ⟨by decide, by decide, tw100⟩
theorem fl_X5_9 : pb_FL RX5 9 5 0 := ⟨by decide, by decide, tw244⟩
theorem fl_X5_17 : pb_FL RX5 17 5 1 := ⟨by decide, by decide, tw246⟩
theorem fl_X5_20 : pb_FL RX5 20 5 2 := ⟨by decide, by decide, tw248⟩
theorem fl_X5_62 : pb_FL RX5 62 4 0 := ⟨by decide, by decide, tw91⟩
theorem fl_X5_77 : pb_FL RX5 77 4 3 := ⟨by decide, by decide, tw105⟩
theorem fl_X5_80 : pb_FL RX5 80 4 1 := ⟨by decide, by decide, tw95⟩
theorem fl_X6_9 : pb_FL RX6 9 6 0 := ⟨by decide, by decide, tw225⟩
theorem fl_X6_15 : pb_FL RX6 15 6 1 := ⟨by decide, by decide, tw227⟩
theorem fl_X6_18 : pb_FL RX6 18 4 0 := ⟨by decide, by decide, tw87⟩
theorem fl_X6_27 : pb_FL RX6 27 6 2 := ⟨by decide, by decide, tw228⟩
theorem fl_X6_37 : pb_FL RX6 37 4 3 := ⟨by decide, by decide, tw103⟩
theorem fl_X8_7 : pb_FL RX8 7 8 1 := ⟨by decide, by decide, tw826⟩
theorem fl_X8_13 : pb_FL RX8 13 8 2 := ⟨by decide, by decide, tw827⟩
theorem fl_X8_16 : pb_FL RX8 16 8 3 := ⟨by decide, by decide, tw828⟩
theorem fl_X8_19 : pb_FL RX8 19 8 4 := ⟨by decide, by decide, tw829⟩
theorem fl_X8_22 : pb_FL RX8 22 8 5 := ⟨by decide, by decide, tw830⟩
theorem fl_X8_25 : pb_FL RX8 25 8 6 := ⟨by decide, by decide, tw831⟩
theorem fl_X8_28 : pb_FL RX8 28 8 7 := ⟨by decide, by decide, tw832⟩
theorem fl_X8_31 : pb_FL RX8 31 8 8 := ⟨by decide, by decide, tw833⟩
theorem fl_X8_35 : pb_FL RX8 35 8 9 := ⟨by decide, by decide, tw834⟩
theorem fl_X8_38 : pb_FL RX8 38 8 10 := ⟨by decide, by decide, tw835⟩
theorem fl_X8_41 : pb_FL RX8 41 8 11 := ⟨by decide, by decide, tw836⟩
theorem fl_X8_44 : pb_FL RX8 44 8 12 := ⟨by decide, by decide, tw837⟩
theorem fl_X8_47 : pb_FL RX8 47 8 13 := ⟨by decide, by decide, tw838⟩
theorem fl_X8_50 : pb_FL RX8 50 8 14 := ⟨by decide, by decide, tw839⟩
theorem fl_X8_53 : pb_FL RX8 53 8 15 := ⟨by decide, by decide, tw840⟩
theorem fl_X8_56 : pb_FL RX8 56 8 16 := ⟨by decide, by decide, tw841⟩
theorem fl_X8_59 : pb_FL RX8 59 8 17 := ⟨by decide, by decide, tw842⟩
theorem fl_X8_62 : pb_FL RX8 62 8 18 := ⟨by decide, by decide, tw843⟩
theorem fl_X8_65 : pb_FL RX8 65 8 19 := ⟨by decide, by decide, tw844⟩
theorem fl_X8_68 : pb_FL RX8 68 8 21 := ⟨by decide, by decide, tw846⟩
theorem fl_X8_71 : pb_FL RX8 71 8 22 := ⟨by decide, by decide, tw847⟩
theorem fl_X8_74 : pb_FL RX8 74 8 23 := ⟨by decide, by decide, tw848⟩
theorem fl_X8_77 : pb_FL RX8 77 8 24 := ⟨by decide, by decide, tw849⟩
theorem fl_X8_80 : pb_FL RX8 80 8 25 := ⟨by decide, by decide, tw850⟩
theorem fl_X8_84 : pb_FL RX8 84 8 26 := ⟨by decide, by decide, tw851⟩
theorem fl_X8_88 : pb_FL RX8 88 8 0 := ⟨by decide, by decide, tw825⟩
theorem fl_X8_165 : pb_FL RX8 165 8 27 := ⟨by decide, by decide, tw852⟩
theorem fl_X8_203 : pb_FL RX8 203 8 20 := ⟨by decide, by decide, tw845⟩
theorem th_X7_93 : pb_TH RX7 "java/lang/IllegalStateException" 93 97 := ⟨by decide +kernel, tw406, tw61, by decide +kernel, by decide +kernel, by decide +kernel⟩
theorem th_X7_111 : pb_TH RX7 "java/lang/IllegalArgumentException" 111 115 := ⟨by decide +kernel, tw370, tw60, by decide +kernel, by decide +kernel, by decide +kernel⟩
theorem th_X7_267 : pb_TH RX7 "java/lang/IndexOutOfBoundsException" 267 271 := ⟨by decide +kernel, tw296, tw59, by decide +kernel, by decide +kernel, by decide +kernel⟩
def mX0_init : pb_M := (yX0_init, cX0_init, 4, none, [])
theorem kX0_init : pb_MI mX0_init 2 := ⟨rfl, tw77, tw48, tw78, by decide +kernel, by decide +kernel, by decide +kernel, by decide +kernel⟩
def mX0_startFrom : pb_M := (yX0_startFrom, cX0_startFrom, 2, none, [])
theorem kX0_startFrom : pb_MI mX0_startFrom 1 := ⟨rfl, tw687, tw48, tw689, by decide +kernel, by decide +kernel, by decide +kernel, by decide +kernel⟩
def mX1_init : pb_M := (yX1_init, cX1_init, 3, none, [])
theorem kX1_init : pb_MI mX1_init 0 := ⟨rfl, tw181, tw51, tw182, by decide +kernel, by decide +kernel, by decide +kernel, by decide +kernel⟩
def mX1_lendOut : pb_M := (yX1_lendOut, cX1_lendOut, 6, none, [])
theorem kX1_lendOut : pb_MI mX1_lendOut 4 := ⟨rfl, tw717, tw51, tw719, by decide +kernel, by decide +kernel, by decide +kernel, by decide +kernel⟩
def mX1_heldBy : pb_M := (yX1_heldBy, cX1_heldBy, 4, (some .int), [])
theorem kX1_heldBy : pb_MI mX1_heldBy 2 := ⟨rfl, tw629, tw51, tw631, by decide +kernel, by decide +kernel, by decide +kernel, by decide +kernel⟩
def mX2_init : pb_M := (yX2_init, cX2_init, 1, none, [])
theorem kX2_init : pb_MI mX2_init 0 := ⟨rfl, tw119, tw50, tw120, by decide +kernel, by decide +kernel, by decide +kernel, by decide +kernel⟩
def mX2_keep : pb_M := (yX2_keep, cX2_keep, 3, none, [])
theorem kX2_keep : pb_MI mX2_keep 2 := ⟨rfl, tw391, tw50, tw393, by decide +kernel, by decide +kernel, by decide +kernel, by decide +kernel⟩
def mX2_restore : pb_M := (yX2_restore, cX2_restore, 2, none, [])
theorem kX2_restore : pb_MI mX2_restore 1 := ⟨rfl, tw459, tw50, tw461, by decide +kernel, by decide +kernel, by decide +kernel, by decide +kernel⟩
def mX2_forget : pb_M := (yX2_forget, cX2_forget, 1, none, [])
theorem kX2_forget : pb_MI mX2_forget 0 := ⟨rfl, tw524, tw50, tw526, by decide +kernel, by decide +kernel, by decide +kernel, by decide +kernel⟩
def mX3_init : pb_M := (yX3_init, cX3_init, 1, none, [])
theorem kX3_init : pb_MI mX3_init 0 := ⟨rfl, tw201, tw52, tw202, by decide +kernel, by decide +kernel, by decide +kernel, by decide +kernel⟩
def mX3_join : pb_M := (yX3_join, cX3_join, 4, none, [])
theorem kX3_join : pb_MI mX3_join 2 := ⟨rfl, tw558, tw52, tw560, by decide +kernel, by decide +kernel, by decide +kernel, by decide +kernel⟩
def mX3_clash : pb_M := (yX3_clash, cX3_clash, 4, (some .boolean), [])
theorem kX3_clash : pb_MS mX3_clash 4 := ⟨tw562, tw52, tw563, by decide +kernel, by decide +kernel, by decide +kernel, by decide +kernel⟩
def mX3_apart : pb_M := (yX3_apart, cX3_apart, 3, (some .boolean), [])
theorem kX3_apart : pb_MS mX3_apart 3 := ⟨tw570, tw52, tw571, by decide +kernel, by decide +kernel, by decide +kernel, by decide +kernel⟩
def mX3_joinTask : pb_M := (yX3_joinTask, cX3_joinTask, 6, none, [])
theorem kX3_joinTask : pb_MI mX3_joinTask 4 := ⟨rfl, tw575, tw52, tw576, by decide +kernel, by decide +kernel, by decide +kernel, by decide +kernel⟩
def mX3_mixed : pb_M := (yX3_mixed, cX3_mixed, 3, (some .int), [])
theorem kX3_mixed : pb_MS mX3_mixed 3 := ⟨tw578, tw52, tw579, by decide +kernel, by decide +kernel, by decide +kernel, by decide +kernel⟩
def mX4_init : pb_M := (yX4_init, cX4_init, 2, none, [])
theorem kX4_init : pb_MI mX4_init 0 := ⟨rfl, tw83, tw49, tw84, by decide +kernel, by decide +kernel, by decide +kernel, by decide +kernel⟩
def mX4_has : pb_M := (yX4_has, cX4_has, 2, (some .boolean), [])
theorem kX4_has : pb_MI mX4_has 1 := ⟨rfl, tw387, tw49, tw389, by decide +kernel, by decide +kernel, by decide +kernel, by decide +kernel⟩
def mX4_put : pb_M := (yX4_put, cX4_put, 6, none, [])
theorem kX4_put : pb_MI mX4_put 5 := ⟨rfl, tw395, tw49, tw397, by decide +kernel, by decide +kernel, by decide +kernel, by decide +kernel⟩
def mX4_clear : pb_M := (yX4_clear, cX4_clear, 2, none, [])
theorem kX4_clear : pb_MI mX4_clear 1 := ⟨rfl, tw431, tw49, tw433, by decide +kernel, by decide +kernel, by decide +kernel, by decide +kernel⟩
def mX4_take : pb_M := (yX4_take, cX4_take, 3, none, [])
theorem kX4_take : pb_MI mX4_take 2 := ⟨rfl, tw520, tw49, tw522, by decide +kernel, by decide +kernel, by decide +kernel, by decide +kernel⟩
def mX4_copyFrom : pb_M := (yX4_copyFrom, cX4_copyFrom, 3, none, [])
theorem kX4_copyFrom : pb_MI mX4_copyFrom 1 := ⟨rfl, tw516, tw49, tw518, by decide +kernel, by decide +kernel, by decide +kernel, by decide +kernel⟩
def mX4_same : pb_M := (yX4_same, cX4_same, 3, (some .boolean), [])
theorem kX4_same : pb_MI mX4_same 2 := ⟨rfl, tw565, tw49, tw567, by decide +kernel, by decide +kernel, by decide +kernel, by decide +kernel⟩
def mX4_countOthers : pb_M := (yX4_countOthers, cX4_countOthers, 4, (some .int), [])
theorem kX4_countOthers : pb_MI mX4_countOthers 1 := ⟨rfl, tw682, tw49, tw684, by decide +kernel, by decide +kernel, by decide +kernel, by decide +kernel⟩
def mX4_present : pb_M := (yX4_present, cX4_present, 3, (some .int), [])
theorem kX4_present : pb_MI mX4_present 0 := ⟨rfl, tw471, tw49, tw473, by decide +kernel, by decide +kernel, by decide +kernel, by decide +kernel⟩
def mX4_totalCost : pb_M := (yX4_totalCost, cX4_totalCost, 3, (some .int), [])
theorem kX4_totalCost : pb_MI mX4_totalCost 0 := ⟨rfl, tw504, tw49, tw506, by decide +kernel, by decide +kernel, by decide +kernel, by decide +kernel⟩
def mX4_isNeeded : pb_M := (yX4_isNeeded, cX4_isNeeded, 3, (some .boolean), [])
theorem kX4_isNeeded : pb_MI mX4_isNeeded 1 := ⟨rfl, tw423, tw49, tw425, by decide +kernel, by decide +kernel, by decide +kernel, by decide +kernel⟩
def mX4_allNeeds : pb_M := (yX4_allNeeds, cX4_allNeeds, 6, (some .int), [])
theorem kX4_allNeeds : pb_MI mX4_allNeeds 1 := ⟨rfl, tw445, tw49, tw447, by decide +kernel, by decide +kernel, by decide +kernel, by decide +kernel⟩
def mX4_lacking : pb_M := (yX4_lacking, cX4_lacking, 4, (some .int), [])
theorem kX4_lacking : pb_MI mX4_lacking 0 := ⟨rfl, tw596, tw49, tw598, by decide +kernel, by decide +kernel, by decide +kernel, by decide +kernel⟩
def mX4_ringed : pb_M := (yX4_ringed, cX4_ringed, 3, (some .int), [])
theorem kX4_ringed : pb_MI mX4_ringed 0 := ⟨rfl, tw601, tw49, tw603, by decide +kernel, by decide +kernel, by decide +kernel, by decide +kernel⟩
def mX5_init : pb_M := (yX5_init, cX5_init, 1, none, [])
theorem kX5_init : pb_MI mX5_init 0 := ⟨rfl, tw240, tw54, tw241, by decide +kernel, by decide +kernel, by decide +kernel, by decide +kernel⟩
def mX5_start : pb_M := (yX5_start, cX5_start, 5, none, [])
theorem kX5_start : pb_MI mX5_start 2 := ⟨rfl, tw622, tw54, tw624, by decide +kernel, by decide +kernel, by decide +kernel, by decide +kernel⟩
def mX5_placeByTails : pb_M := (yX5_placeByTails, cX5_placeByTails, 7, none, [])
theorem kX5_placeByTails : pb_MI mX5_placeByTails 2 := ⟨rfl, tw633, tw54, tw635, by decide +kernel, by decide +kernel, by decide +kernel, by decide +kernel⟩
def mX5_nextByTails : pb_M := (yX5_nextByTails, cX5_nextByTails, 7, (some .int), [])
theorem kX5_nextByTails : pb_MI mX5_nextByTails 3 := ⟨rfl, tw639, tw54, tw640, by decide +kernel, by decide +kernel, by decide +kernel, by decide +kernel⟩
def mX5_endByAll : pb_M := (yX5_endByAll, cX5_endByAll, 3, (some .int), [])
theorem kX5_endByAll : pb_MI mX5_endByAll 1 := ⟨rfl, tw800, tw54, tw802, by decide +kernel, by decide +kernel, by decide +kernel, by decide +kernel⟩
def mX5_endByOrders : pb_M := (yX5_endByOrders, cX5_endByOrders, 10, (some .int), [])
theorem kX5_endByOrders : pb_MS mX5_endByOrders 6 := ⟨tw804, tw54, tw805, by decide +kernel, by decide +kernel, by decide +kernel, by decide +kernel⟩
def mX5_ready : pb_M := (yX5_ready, cX5_ready, 4, (some .boolean), [])
theorem kX5_ready : pb_MI mX5_ready 3 := ⟨rfl, tw643, tw54, tw644, by decide +kernel, by decide +kernel, by decide +kernel, by decide +kernel⟩
def mX5_earliest : pb_M := (yX5_earliest, cX5_earliest, 8, (some .int), [])
theorem kX5_earliest : pb_MI mX5_earliest 2 := ⟨rfl, tw648, tw54, tw649, by decide +kernel, by decide +kernel, by decide +kernel, by decide +kernel⟩
def mX5_dayBehindNeeds : pb_M := (yX5_dayBehindNeeds, cX5_dayBehindNeeds, 5, (some .int), [])
theorem kX5_dayBehindNeeds : pb_MI mX5_dayBehindNeeds 2 := ⟨rfl, tw652, tw54, tw653, by decide +kernel, by decide +kernel, by decide +kernel, by decide +kernel⟩
def mX5_place : pb_M := (yX5_place, cX5_place, 4, none, [])
theorem kX5_place : pb_MI mX5_place 3 := ⟨rfl, tw657, tw54, tw658, by decide +kernel, by decide +kernel, by decide +kernel, by decide +kernel⟩
def mX5_takeBack : pb_M := (yX5_takeBack, cX5_takeBack, 4, none, [])
theorem kX5_takeBack : pb_MI mX5_takeBack 3 := ⟨rfl, tw808, tw54, tw809, by decide +kernel, by decide +kernel, by decide +kernel, by decide +kernel⟩
def mX5_markWork : pb_M := (yX5_markWork, cX5_markWork, 8, none, [])
theorem kX5_markWork : pb_MI mX5_markWork 4 := ⟨rfl, tw661, tw54, tw662, by decide +kernel, by decide +kernel, by decide +kernel, by decide +kernel⟩
def mX5_endOf : pb_M := (yX5_endOf, cX5_endOf, 4, (some .int), [])
theorem kX5_endOf : pb_MI mX5_endOf 1 := ⟨rfl, tw782, tw54, tw784, by decide +kernel, by decide +kernel, by decide +kernel, by decide +kernel⟩
def mX6_init : pb_M := (yX6_init, cX6_init, 1, none, [])
theorem kX6_init : pb_MI mX6_init 0 := ⟨rfl, tw222, tw53, tw223, by decide +kernel, by decide +kernel, by decide +kernel, by decide +kernel⟩
def mX6_measure : pb_M := (yX6_measure, cX6_measure, 5, none, [])
theorem kX6_measure : pb_MI mX6_measure 1 := ⟨rfl, tw610, tw53, tw612, by decide +kernel, by decide +kernel, by decide +kernel, by decide +kernel⟩
def mX6_stretch : pb_M := (yX6_stretch, cX6_stretch, 7, (some .boolean), [])
theorem kX6_stretch : pb_MI mX6_stretch 2 := ⟨rfl, tw615, tw53, tw616, by decide +kernel, by decide +kernel, by decide +kernel, by decide +kernel⟩
def mX6_slackOf : pb_M := (yX6_slackOf, cX6_slackOf, 2, (some .int), [])
theorem kX6_slackOf : pb_MI mX6_slackOf 1 := ⟨rfl, tw743, tw53, tw745, by decide +kernel, by decide +kernel, by decide +kernel, by decide +kernel⟩
def mX7_init : pb_M := (yX7_init, cX7_init, 1, none, [])
theorem kX7_init : pb_MI mX7_init 0 := ⟨rfl, tw68, tw47, tw69, by decide +kernel, by decide +kernel, by decide +kernel, by decide +kernel⟩
def mX7_setTask : pb_M := (yX7_setTask, cX7_setTask, 9, (some .boolean), [])
theorem kX7_setTask : pb_MI mX7_setTask 5 := ⟨rfl, tw289, tw47, tw291, by decide +kernel, by decide +kernel, by decide +kernel, by decide +kernel⟩
def mX7_removeTask : pb_M := (yX7_removeTask, cX7_removeTask, 5, (some .int), [])
theorem kX7_removeTask : pb_MI mX7_removeTask 2 := ⟨rfl, tw403, tw47, tw405, by decide +kernel, by decide +kernel, by decide +kernel, by decide +kernel⟩
def mX7_setNeed : pb_M := (yX7_setNeed, cX7_setNeed, 7, (some .boolean), [])
theorem kX7_setNeed : pb_MI mX7_setNeed 4 := ⟨rfl, tw439, tw47, tw441, by decide +kernel, by decide +kernel, by decide +kernel, by decide +kernel⟩
def mX7_undo : pb_M := (yX7_undo, cX7_undo, 3, (some .int), [])
theorem kX7_undo : pb_MI mX7_undo 1 := ⟨rfl, tw454, tw47, tw456, by decide +kernel, by decide +kernel, by decide +kernel, by decide +kernel⟩
def mX7_tasks : pb_M := (yX7_tasks, cX7_tasks, 2, (some .int), [])
theorem kX7_tasks : pb_MI mX7_tasks 1 := ⟨rfl, tw467, tw47, tw469, by decide +kernel, by decide +kernel, by decide +kernel, by decide +kernel⟩
def mX7_length : pb_M := (yX7_length, cX7_length, 4, (some .int), [])
theorem kX7_length : pb_MI mX7_length 2 := ⟨rfl, tw479, tw47, tw481, by decide +kernel, by decide +kernel, by decide +kernel, by decide +kernel⟩
def mX7_crew : pb_M := (yX7_crew, cX7_crew, 4, (some .int), [])
theorem kX7_crew : pb_MI mX7_crew 2 := ⟨rfl, tw486, tw47, tw488, by decide +kernel, by decide +kernel, by decide +kernel, by decide +kernel⟩
def mX7_needs : pb_M := (yX7_needs, cX7_needs, 4, (some .int), [])
theorem kX7_needs : pb_MI mX7_needs 2 := ⟨rfl, tw493, tw47, tw495, by decide +kernel, by decide +kernel, by decide +kernel, by decide +kernel⟩
def mX7_cost : pb_M := (yX7_cost, cX7_cost, 2, (some .int), [])
theorem kX7_cost : pb_MI mX7_cost 1 := ⟨rfl, tw500, tw47, tw502, by decide +kernel, by decide +kernel, by decide +kernel, by decide +kernel⟩
def mX7_begin : pb_M := (yX7_begin, cX7_begin, 5, (some .int), [])
theorem kX7_begin : pb_MI mX7_begin 1 := ⟨rfl, tw511, tw47, tw513, by decide +kernel, by decide +kernel, by decide +kernel, by decide +kernel⟩
def mX7_branches : pb_M := (yX7_branches, cX7_branches, 1, (some .int), [])
theorem kX7_branches : pb_MI mX7_branches 0 := ⟨rfl, tw280, tw47, tw282, by decide +kernel, by decide +kernel, by decide +kernel, by decide +kernel⟩
def mX7_parent : pb_M := (yX7_parent, cX7_parent, 3, (some .int), [])
theorem kX7_parent : pb_MI mX7_parent 1 := ⟨rfl, tw531, tw47, tw533, by decide +kernel, by decide +kernel, by decide +kernel, by decide +kernel⟩
def mX7_setBudget : pb_M := (yX7_setBudget, cX7_setBudget, 5, (some .int), [])
theorem kX7_setBudget : pb_MI mX7_setBudget 2 := ⟨rfl, tw538, tw47, tw540, by decide +kernel, by decide +kernel, by decide +kernel, by decide +kernel⟩
def mX7_resolve : pb_M := (yX7_resolve, cX7_resolve, 6, (some .int), [])
theorem kX7_resolve : pb_MI mX7_resolve 3 := ⟨rfl, tw546, tw47, tw548, by decide +kernel, by decide +kernel, by decide +kernel, by decide +kernel⟩
def mX7_clashes : pb_M := (yX7_clashes, cX7_clashes, 4, (some .int), [])
theorem kX7_clashes : pb_MI mX7_clashes 1 := ⟨rfl, tw554, tw47, tw556, by decide +kernel, by decide +kernel, by decide +kernel, by decide +kernel⟩
def mX7_reason : pb_M := (yX7_reason, cX7_reason, 5, (some .int), [])
theorem kX7_reason : pb_MI mX7_reason 2 := ⟨rfl, tw585, tw47, tw587, by decide +kernel, by decide +kernel, by decide +kernel, by decide +kernel⟩
def mX7_reasonTask : pb_M := (yX7_reasonTask, cX7_reasonTask, 5, (some .int), [])
theorem kX7_reasonTask : pb_MI mX7_reasonTask 2 := ⟨rfl, tw667, tw47, tw669, by decide +kernel, by decide +kernel, by decide +kernel, by decide +kernel⟩
def mX7_merge : pb_M := (yX7_merge, cX7_merge, 5, (some .int), [])
theorem kX7_merge : pb_MI mX7_merge 1 := ⟨rfl, tw677, tw47, tw679, by decide +kernel, by decide +kernel, by decide +kernel, by decide +kernel⟩
def mX7_update : pb_M := (yX7_update, cX7_update, 5, (some .int), [])
theorem kX7_update : pb_MI mX7_update 1 := ⟨rfl, tw697, tw47, tw699, by decide +kernel, by decide +kernel, by decide +kernel, by decide +kernel⟩
def mX7_give : pb_M := (yX7_give, cX7_give, 4, (some .int), [])
theorem kX7_give : pb_MI mX7_give 2 := ⟨rfl, tw705, tw47, tw707, by decide +kernel, by decide +kernel, by decide +kernel, by decide +kernel⟩
def mX7_lend : pb_M := (yX7_lend, cX7_lend, 5, (some .int), [])
theorem kX7_lend : pb_MI mX7_lend 4 := ⟨rfl, tw712, tw47, tw714, by decide +kernel, by decide +kernel, by decide +kernel, by decide +kernel⟩
def mX7_holder : pb_M := (yX7_holder, cX7_holder, 3, (some .int), [])
theorem kX7_holder : pb_MI mX7_holder 2 := ⟨rfl, tw724, tw47, tw726, by decide +kernel, by decide +kernel, by decide +kernel, by decide +kernel⟩
def mX7_tail : pb_M := (yX7_tail, cX7_tail, 4, (some .int), [])
theorem kX7_tail : pb_MI mX7_tail 2 := ⟨rfl, tw732, tw47, tw734, by decide +kernel, by decide +kernel, by decide +kernel, by decide +kernel⟩
def mX7_slack : pb_M := (yX7_slack, cX7_slack, 4, (some .int), [])
theorem kX7_slack : pb_MI mX7_slack 2 := ⟨rfl, tw739, tw47, tw741, by decide +kernel, by decide +kernel, by decide +kernel, by decide +kernel⟩
def mX7_critical : pb_M := (yX7_critical, cX7_critical, 5, (some .int), [])
theorem kX7_critical : pb_MI mX7_critical 1 := ⟨rfl, tw750, tw47, tw752, by decide +kernel, by decide +kernel, by decide +kernel, by decide +kernel⟩
def mX7_way : pb_M := (yX7_way, cX7_way, 3, (some .int), [])
theorem kX7_way : pb_MI mX7_way 1 := ⟨rfl, tw757, tw47, tw759, by decide +kernel, by decide +kernel, by decide +kernel, by decide +kernel⟩
def mX7_firstDay : pb_M := (yX7_firstDay, cX7_firstDay, 4, (some .int), [])
theorem kX7_firstDay : pb_MI mX7_firstDay 2 := ⟨rfl, tw764, tw47, tw766, by decide +kernel, by decide +kernel, by decide +kernel, by decide +kernel⟩
def mX7_leftOut : pb_M := (yX7_leftOut, cX7_leftOut, 3, (some .int), [])
theorem kX7_leftOut : pb_MI mX7_leftOut 1 := ⟨rfl, tw771, tw47, tw773, by decide +kernel, by decide +kernel, by decide +kernel, by decide +kernel⟩
def mX7_lastDay : pb_M := (yX7_lastDay, cX7_lastDay, 3, (some .int), [])
theorem kX7_lastDay : pb_MI mX7_lastDay 1 := ⟨rfl, tw778, tw47, tw780, by decide +kernel, by decide +kernel, by decide +kernel, by decide +kernel⟩
def mX7_lastDayByAll : pb_M := (yX7_lastDayByAll, cX7_lastDayByAll, 3, (some .int), [])
theorem kX7_lastDayByAll : pb_MI mX7_lastDayByAll 1 := ⟨rfl, tw789, tw47, tw791, by decide +kernel, by decide +kernel, by decide +kernel, by decide +kernel⟩
def mX7_taskOn : pb_M := (yX7_taskOn, cX7_taskOn, 5, (some .int), [])
theorem kX7_taskOn : pb_MI mX7_taskOn 3 := ⟨rfl, tw814, tw47, tw816, by decide +kernel, by decide +kernel, by decide +kernel, by decide +kernel⟩
def mX7_branchAt : pb_M := (yX7_branchAt, cX7_branchAt, 3, (some (.object "PlanBranches$Branch")), [])
theorem kX7_branchAt : pb_MI mX7_branchAt 1 := ⟨rfl, tw294, tw47, tw295, by decide +kernel, by decide +kernel, by decide +kernel, by decide +kernel⟩
def mX7_parentOf : pb_M := (yX7_parentOf, cX7_parentOf, 2, (some (.object "PlanBranches$Branch")), [])
theorem kX7_parentOf : pb_MS mX7_parentOf 1 := ⟨tw589, tw47, tw590, by decide +kernel, by decide +kernel, by decide +kernel, by decide +kernel⟩
def mX7_checkTask : pb_M := (yX7_checkTask, cX7_checkTask, 1, none, [])
theorem kX7_checkTask : pb_MS mX7_checkTask 1 := ⟨tw365, tw47, tw366, by decide +kernel, by decide +kernel, by decide +kernel, by decide +kernel⟩
def mX7_checkRange : pb_M := (yX7_checkRange, cX7_checkRange, 3, none, [])
theorem kX7_checkRange : pb_MS mX7_checkRange 3 := ⟨tw368, tw47, tw369, by decide +kernel, by decide +kernel, by decide +kernel, by decide +kernel⟩
def mX7_contains : pb_M := (yX7_contains, cX7_contains, 2, (some .boolean), [])
theorem kX7_contains : pb_MS mX7_contains 2 := ⟨tw427, tw47, tw428, by decide +kernel, by decide +kernel, by decide +kernel, by decide +kernel⟩
def mX7_lowest : pb_M := (yX7_lowest, cX7_lowest, 2, (some .int), [])
theorem kX7_lowest : pb_MS mX7_lowest 1 := ⟨tw671, tw47, tw672, by decide +kernel, by decide +kernel, by decide +kernel, by decide +kernel⟩
def mX7_placeByRule : pb_M := (yX7_placeByRule, cX7_placeByRule, 3, none, [])
theorem kX7_placeByRule : pb_MI mX7_placeByRule 2 := ⟨rfl, tw607, tw47, tw608, by decide +kernel, by decide +kernel, by decide +kernel, by decide +kernel⟩
def mX7_judge : pb_M := (yX7_judge, cX7_judge, 5, (some .int), [])
theorem kX7_judge : pb_MI mX7_judge 3 := ⟨rfl, tw593, tw47, tw594, by decide +kernel, by decide +kernel, by decide +kernel, by decide +kernel⟩
def mX8_init : pb_M := (yX8_init, cX8_init, 2, none, [])
theorem kX8_init : pb_MI mX8_init 0 := ⟨rfl, tw821, tw55, tw822, by decide +kernel, by decide +kernel, by decide +kernel, by decide +kernel⟩
def mX8_thrown : pb_M := (yX8_thrown, cX8_thrown, 1, (some .int), [])
theorem kX8_thrown : pb_MI mX8_thrown 0 := ⟨rfl, tw912, tw55, tw914, by decide +kernel, by decide +kernel, by decide +kernel, by decide +kernel⟩
def mX8_isFine : pb_M := (yX8_isFine, cX8_isFine, 2, (some .boolean), [])
theorem kX8_isFine : pb_MI mX8_isFine 1 := ⟨rfl, tw931, tw55, tw932, by decide +kernel, by decide +kernel, by decide +kernel, by decide +kernel⟩
def mX8_isIn : pb_M := (yX8_isIn, cX8_isIn, 3, (some .boolean), [])
theorem kX8_isIn : pb_MS mX8_isIn 3 := ⟨tw923, tw55, tw924, by decide +kernel, by decide +kernel, by decide +kernel, by decide +kernel⟩
def mX8_isBranch : pb_M := (yX8_isBranch, cX8_isBranch, 2, (some .boolean), [])
theorem kX8_isBranch : pb_MI mX8_isBranch 1 := ⟨rfl, tw927, tw55, tw928, by decide +kernel, by decide +kernel, by decide +kernel, by decide +kernel⟩
def mX8_isTask : pb_M := (yX8_isTask, cX8_isTask, 1, (some .boolean), [])
theorem kX8_isTask : pb_MS mX8_isTask 1 := ⟨tw920, tw55, tw921, by decide +kernel, by decide +kernel, by decide +kernel, by decide +kernel⟩
def mX8_at : pb_M := (yX8_at, cX8_at, 2, (some .int), [])
theorem kX8_at : pb_MS mX8_at 2 := ⟨tw938, tw55, tw939, by decide +kernel, by decide +kernel, by decide +kernel, by decide +kernel⟩
def mX8_isThere : pb_M := (yX8_isThere, cX8_isThere, 3, (some .boolean), [])
theorem kX8_isThere : pb_MI mX8_isThere 2 := ⟨rfl, tw942, tw55, tw943, by decide +kernel, by decide +kernel, by decide +kernel, by decide +kernel⟩
def mX8_doesNeed : pb_M := (yX8_doesNeed, cX8_doesNeed, 4, (some .boolean), [])
theorem kX8_doesNeed : pb_MI mX8_doesNeed 3 := ⟨rfl, tw958, tw55, tw959, by decide +kernel, by decide +kernel, by decide +kernel, by decide +kernel⟩
def mX8_keeps : pb_M := (yX8_keeps, cX8_keeps, 4, none, [])
theorem kX8_keeps : pb_MI mX8_keeps 2 := ⟨rfl, tw935, tw55, tw936, by decide +kernel, by decide +kernel, by decide +kernel, by decide +kernel⟩
def mX8_lays : pb_M := (yX8_lays, cX8_lays, 7, none, [])
theorem kX8_lays : pb_MI mX8_lays 6 := ⟨rfl, tw946, tw55, tw947, by decide +kernel, by decide +kernel, by decide +kernel, by decide +kernel⟩
def mX8_copiesTask : pb_M := (yX8_copiesTask, cX8_copiesTask, 4, none, [])
theorem kX8_copiesTask : pb_MI mX8_copiesTask 3 := ⟨rfl, tw1014, tw55, tw1015, by decide +kernel, by decide +kernel, by decide +kernel, by decide +kernel⟩
def mX8_copies : pb_M := (yX8_copies, cX8_copies, 4, none, [])
theorem kX8_copies : pb_MI mX8_copies 2 := ⟨rfl, tw1010, tw55, tw1011, by decide +kernel, by decide +kernel, by decide +kernel, by decide +kernel⟩
def mX8_setTask : pb_M := (yX8_setTask, cX8_setTask, 8, (some .boolean), [])
theorem kX8_setTask : pb_MI mX8_setTask 5 := ⟨rfl, tw916, tw55, tw918, by decide +kernel, by decide +kernel, by decide +kernel, by decide +kernel⟩
def mX8_isNeeded : pb_M := (yX8_isNeeded, cX8_isNeeded, 5, (some .boolean), [])
theorem kX8_isNeeded : pb_MI mX8_isNeeded 2 := ⟨rfl, tw954, tw55, tw955, by decide +kernel, by decide +kernel, by decide +kernel, by decide +kernel⟩
def mX8_removeTask : pb_M := (yX8_removeTask, cX8_removeTask, 6, (some .int), [])
theorem kX8_removeTask : pb_MI mX8_removeTask 2 := ⟨rfl, tw949, tw55, tw951, by decide +kernel, by decide +kernel, by decide +kernel, by decide +kernel⟩
def mX8_allNeeds : pb_M := (yX8_allNeeds, cX8_allNeeds, 6, (some .int), [])
theorem kX8_allNeeds : pb_MI mX8_allNeeds 2 := ⟨rfl, tw966, tw55, tw967, by decide +kernel, by decide +kernel, by decide +kernel, by decide +kernel⟩
def mX8_setNeed : pb_M := (yX8_setNeed, cX8_setNeed, 10, (some .boolean), [])
theorem kX8_setNeed : pb_MI mX8_setNeed 4 := ⟨rfl, tw961, tw55, tw963, by decide +kernel, by decide +kernel, by decide +kernel, by decide +kernel⟩
def mX8_undo : pb_M := (yX8_undo, cX8_undo, 3, (some .int), [])
theorem kX8_undo : pb_MI mX8_undo 1 := ⟨rfl, tw969, tw55, tw971, by decide +kernel, by decide +kernel, by decide +kernel, by decide +kernel⟩
def mX8_tasks0 : pb_M := (yX8_tasks0, cX8_tasks0, 4, (some .int), [])
theorem kX8_tasks0 : pb_MI mX8_tasks0 1 := ⟨rfl, tw978, tw55, tw979, by decide +kernel, by decide +kernel, by decide +kernel, by decide +kernel⟩
def mX8_tasks : pb_M := (yX8_tasks, cX8_tasks, 2, (some .int), [])
theorem kX8_tasks : pb_MI mX8_tasks 1 := ⟨rfl, tw973, tw55, tw975, by decide +kernel, by decide +kernel, by decide +kernel, by decide +kernel⟩
def mX8_asks : pb_M := (yX8_asks, cX8_asks, 3, (some .boolean), [])
theorem kX8_asks : pb_MI mX8_asks 2 := ⟨rfl, tw986, tw55, tw987, by decide +kernel, by decide +kernel, by decide +kernel, by decide +kernel⟩
def mX8_length : pb_M := (yX8_length, cX8_length, 3, (some .int), [])
theorem kX8_length : pb_MI mX8_length 2 := ⟨rfl, tw981, tw55, tw983, by decide +kernel, by decide +kernel, by decide +kernel, by decide +kernel⟩
def mX8_crew : pb_M := (yX8_crew, cX8_crew, 3, (some .int), [])
theorem kX8_crew : pb_MI mX8_crew 2 := ⟨rfl, tw989, tw55, tw991, by decide +kernel, by decide +kernel, by decide +kernel, by decide +kernel⟩
def mX8_needs : pb_M := (yX8_needs, cX8_needs, 3, (some .int), [])
theorem kX8_needs : pb_MI mX8_needs 2 := ⟨rfl, tw993, tw55, tw995, by decide +kernel, by decide +kernel, by decide +kernel, by decide +kernel⟩
def mX8_cost0 : pb_M := (yX8_cost0, cX8_cost0, 4, (some .int), [])
theorem kX8_cost0 : pb_MI mX8_cost0 1 := ⟨rfl, tw1002, tw55, tw1003, by decide +kernel, by decide +kernel, by decide +kernel, by decide +kernel⟩
def mX8_cost : pb_M := (yX8_cost, cX8_cost, 2, (some .int), [])
theorem kX8_cost : pb_MI mX8_cost 1 := ⟨rfl, tw997, tw55, tw999, by decide +kernel, by decide +kernel, by decide +kernel, by decide +kernel⟩
def mX8_forgets : pb_M := (yX8_forgets, cX8_forgets, 3, none, [])
theorem kX8_forgets : pb_MI mX8_forgets 1 := ⟨rfl, tw1018, tw55, tw1019, by decide +kernel, by decide +kernel, by decide +kernel, by decide +kernel⟩
def mX8_begin : pb_M := (yX8_begin, cX8_begin, 3, (some .int), [])
theorem kX8_begin : pb_MI mX8_begin 1 := ⟨rfl, tw1005, tw55, tw1007, by decide +kernel, by decide +kernel, by decide +kernel, by decide +kernel⟩
def mX8_branches : pb_M := (yX8_branches, cX8_branches, 1, (some .int), [])
theorem kX8_branches : pb_MI mX8_branches 0 := ⟨rfl, tw1021, tw55, tw1023, by decide +kernel, by decide +kernel, by decide +kernel, by decide +kernel⟩
def mX8_parent : pb_M := (yX8_parent, cX8_parent, 2, (some .int), [])
theorem kX8_parent : pb_MI mX8_parent 1 := ⟨rfl, tw1025, tw55, tw1027, by decide +kernel, by decide +kernel, by decide +kernel, by decide +kernel⟩
def mX8_setBudget : pb_M := (yX8_setBudget, cX8_setBudget, 4, (some .int), [])
theorem kX8_setBudget : pb_MI mX8_setBudget 2 := ⟨rfl, tw1029, tw55, tw1031, by decide +kernel, by decide +kernel, by decide +kernel, by decide +kernel⟩
def mX8_resolve : pb_M := (yX8_resolve, cX8_resolve, 6, (some .int), [])
theorem kX8_resolve : pb_MI mX8_resolve 3 := ⟨rfl, tw1033, tw55, tw1035, by decide +kernel, by decide +kernel, by decide +kernel, by decide +kernel⟩
def mX8_isSame : pb_M := (yX8_isSame, cX8_isSame, 6, (some .boolean), [])
theorem kX8_isSame : pb_MI mX8_isSame 3 := ⟨rfl, tw1050, tw55, tw1051, by decide +kernel, by decide +kernel, by decide +kernel, by decide +kernel⟩
def mX8_isOpen : pb_M := (yX8_isOpen, cX8_isOpen, 3, (some .boolean), [])
theorem kX8_isOpen : pb_MS mX8_isOpen 3 := ⟨tw1060, tw55, tw1061, by decide +kernel, by decide +kernel, by decide +kernel, by decide +kernel⟩
def mX8_mixed : pb_M := (yX8_mixed, cX8_mixed, 3, (some .int), [])
theorem kX8_mixed : pb_MS mX8_mixed 3 := ⟨tw1057, tw55, tw1058, by decide +kernel, by decide +kernel, by decide +kernel, by decide +kernel⟩
def mX8_mixes : pb_M := (yX8_mixes, cX8_mixes, 9, (some .boolean), [])
theorem kX8_mixes : pb_MI mX8_mixes 4 := ⟨rfl, tw1054, tw55, tw1055, by decide +kernel, by decide +kernel, by decide +kernel, by decide +kernel⟩
def mX8_joinsTask : pb_M := (yX8_joinsTask, cX8_joinsTask, 7, (some .boolean), [])
theorem kX8_joinsTask : pb_MI mX8_joinsTask 4 := ⟨rfl, tw1046, tw55, tw1047, by decide +kernel, by decide +kernel, by decide +kernel, by decide +kernel⟩
def mX8_joins : pb_M := (yX8_joins, cX8_joins, 5, (some .int), [])
theorem kX8_joins : pb_MI mX8_joins 1 := ⟨rfl, tw1042, tw55, tw1043, by decide +kernel, by decide +kernel, by decide +kernel, by decide +kernel⟩
def mX8_clashes : pb_M := (yX8_clashes, cX8_clashes, 2, (some .int), [])
theorem kX8_clashes : pb_MI mX8_clashes 1 := ⟨rfl, tw1037, tw55, tw1039, by decide +kernel, by decide +kernel, by decide +kernel, by decide +kernel⟩
def mX8_lowest : pb_M := (yX8_lowest, cX8_lowest, 2, (some .int), [])
theorem kX8_lowest : pb_MS mX8_lowest 1 := ⟨tw1115, tw55, tw1116, by decide +kernel, by decide +kernel, by decide +kernel, by decide +kernel⟩
def mX8_missing : pb_M := (yX8_missing, cX8_missing, 4, (some .int), [])
theorem kX8_missing : pb_MI mX8_missing 0 := ⟨rfl, tw1076, tw55, tw1077, by decide +kernel, by decide +kernel, by decide +kernel, by decide +kernel⟩
def mX8_rings : pb_M := (yX8_rings, cX8_rings, 3, (some .int), [])
theorem kX8_rings : pb_MI mX8_rings 0 := ⟨rfl, tw1080, tw55, tw1081, by decide +kernel, by decide +kernel, by decide +kernel, by decide +kernel⟩
def mX8_reasonNow : pb_M := (yX8_reasonNow, cX8_reasonNow, 4, (some .int), [])
theorem kX8_reasonNow : pb_MI mX8_reasonNow 2 := ⟨rfl, tw1072, tw55, tw1073, by decide +kernel, by decide +kernel, by decide +kernel, by decide +kernel⟩
def mX8_isOwn : pb_M := (yX8_isOwn, cX8_isOwn, 2, (some .boolean), [])
theorem kX8_isOwn : pb_MI mX8_isOwn 1 := ⟨rfl, tw1068, tw55, tw1069, by decide +kernel, by decide +kernel, by decide +kernel, by decide +kernel⟩
def mX8_reason : pb_M := (yX8_reason, cX8_reason, 3, (some .int), [])
theorem kX8_reason : pb_MI mX8_reason 2 := ⟨rfl, tw1063, tw55, tw1065, by decide +kernel, by decide +kernel, by decide +kernel, by decide +kernel⟩
def mX8_reasonTask : pb_M := (yX8_reasonTask, cX8_reasonTask, 5, (some .int), [])
theorem kX8_reasonTask : pb_MI mX8_reasonTask 2 := ⟨rfl, tw1111, tw55, tw1113, by decide +kernel, by decide +kernel, by decide +kernel, by decide +kernel⟩
def mX8_becomes : pb_M := (yX8_becomes, cX8_becomes, 4, (some .int), [])
theorem kX8_becomes : pb_MI mX8_becomes 1 := ⟨rfl, tw1123, tw55, tw1124, by decide +kernel, by decide +kernel, by decide +kernel, by decide +kernel⟩
def mX8_merge : pb_M := (yX8_merge, cX8_merge, 5, (some .int), [])
theorem kX8_merge : pb_MI mX8_merge 1 := ⟨rfl, tw1118, tw55, tw1120, by decide +kernel, by decide +kernel, by decide +kernel, by decide +kernel⟩
def mX8_update : pb_M := (yX8_update, cX8_update, 5, (some .int), [])
theorem kX8_update : pb_MI mX8_update 1 := ⟨rfl, tw1126, tw55, tw1128, by decide +kernel, by decide +kernel, by decide +kernel, by decide +kernel⟩
def mX8_isCrew : pb_M := (yX8_isCrew, cX8_isCrew, 1, (some .boolean), [])
theorem kX8_isCrew : pb_MS mX8_isCrew 1 := ⟨tw1134, tw55, tw1135, by decide +kernel, by decide +kernel, by decide +kernel, by decide +kernel⟩
def mX8_isDay : pb_M := (yX8_isDay, cX8_isDay, 1, (some .boolean), [])
theorem kX8_isDay : pb_MS mX8_isDay 1 := ⟨tw1141, tw55, tw1142, by decide +kernel, by decide +kernel, by decide +kernel, by decide +kernel⟩
def mX8_give : pb_M := (yX8_give, cX8_give, 4, (some .int), [])
theorem kX8_give : pb_MI mX8_give 2 := ⟨rfl, tw1130, tw55, tw1132, by decide +kernel, by decide +kernel, by decide +kernel, by decide +kernel⟩
def mX8_lend : pb_M := (yX8_lend, cX8_lend, 6, (some .int), [])
theorem kX8_lend : pb_MI mX8_lend 4 := ⟨rfl, tw1137, tw55, tw1139, by decide +kernel, by decide +kernel, by decide +kernel, by decide +kernel⟩
def mX8_holds : pb_M := (yX8_holds, cX8_holds, 5, (some .int), [])
theorem kX8_holds : pb_MI mX8_holds 2 := ⟨rfl, tw1100, tw55, tw1101, by decide +kernel, by decide +kernel, by decide +kernel, by decide +kernel⟩
def mX8_holder : pb_M := (yX8_holder, cX8_holder, 3, (some .int), [])
theorem kX8_holder : pb_MI mX8_holder 2 := ⟨rfl, tw1144, tw55, tw1146, by decide +kernel, by decide +kernel, by decide +kernel, by decide +kernel⟩
def mX8_goes : pb_M := (yX8_goes, cX8_goes, 6, (some .int), [])
theorem kX8_goes : pb_MI mX8_goes 1 := ⟨rfl, tw1088, tw55, tw1089, by decide +kernel, by decide +kernel, by decide +kernel, by decide +kernel⟩
def mX8_tail : pb_M := (yX8_tail, cX8_tail, 4, (some .int), [])
theorem kX8_tail : pb_MI mX8_tail 2 := ⟨rfl, tw1148, tw55, tw1150, by decide +kernel, by decide +kernel, by decide +kernel, by decide +kernel⟩
def mX8_slack : pb_M := (yX8_slack, cX8_slack, 4, (some .int), [])
theorem kX8_slack : pb_MI mX8_slack 2 := ⟨rfl, tw1152, tw55, tw1154, by decide +kernel, by decide +kernel, by decide +kernel, by decide +kernel⟩
def mX8_critical : pb_M := (yX8_critical, cX8_critical, 5, (some .int), [])
theorem kX8_critical : pb_MI mX8_critical 1 := ⟨rfl, tw1156, tw55, tw1158, by decide +kernel, by decide +kernel, by decide +kernel, by decide +kernel⟩
def mX8_way : pb_M := (yX8_way, cX8_way, 2, (some .int), [])
theorem kX8_way : pb_MI mX8_way 1 := ⟨rfl, tw1160, tw55, tw1162, by decide +kernel, by decide +kernel, by decide +kernel, by decide +kernel⟩
def mX8_clears : pb_M := (yX8_clears, cX8_clears, 2, none, [])
theorem kX8_clears : pb_MI mX8_clears 0 := ⟨rfl, tw1092, tw55, tw1093, by decide +kernel, by decide +kernel, by decide +kernel, by decide +kernel⟩
def mX8_finds : pb_M := (yX8_finds, cX8_finds, 3, none, [])
theorem kX8_finds : pb_MI mX8_finds 1 := ⟨rfl, tw1096, tw55, tw1097, by decide +kernel, by decide +kernel, by decide +kernel, by decide +kernel⟩
def mX8_isReady : pb_M := (yX8_isReady, cX8_isReady, 5, (some .boolean), [])
theorem kX8_isReady : pb_MI mX8_isReady 2 := ⟨rfl, tw1104, tw55, tw1105, by decide +kernel, by decide +kernel, by decide +kernel, by decide +kernel⟩
def mX8_places : pb_M := (yX8_places, cX8_places, 9, (some .int), [])
theorem kX8_places : pb_MI mX8_places 2 := ⟨rfl, tw1108, tw55, tw1109, by decide +kernel, by decide +kernel, by decide +kernel, by decide +kernel⟩
def mX8_unplaced : pb_M := (yX8_unplaced, cX8_unplaced, 8, (some .int), [])
theorem kX8_unplaced : pb_MI mX8_unplaced 2 := ⟨rfl, tw1084, tw55, tw1085, by decide +kernel, by decide +kernel, by decide +kernel, by decide +kernel⟩
def mX8_firstDay : pb_M := (yX8_firstDay, cX8_firstDay, 4, (some .int), [])
theorem kX8_firstDay : pb_MI mX8_firstDay 2 := ⟨rfl, tw1164, tw55, tw1166, by decide +kernel, by decide +kernel, by decide +kernel, by decide +kernel⟩
def mX8_leftOut : pb_M := (yX8_leftOut, cX8_leftOut, 2, (some .int), [])
theorem kX8_leftOut : pb_MI mX8_leftOut 1 := ⟨rfl, tw1168, tw55, tw1170, by decide +kernel, by decide +kernel, by decide +kernel, by decide +kernel⟩
def mX8_last : pb_M := (yX8_last, cX8_last, 5, (some .int), [])
theorem kX8_last : pb_MI mX8_last 1 := ⟨rfl, tw1177, tw55, tw1178, by decide +kernel, by decide +kernel, by decide +kernel, by decide +kernel⟩
def mX8_lastDay : pb_M := (yX8_lastDay, cX8_lastDay, 3, (some .int), [])
theorem kX8_lastDay : pb_MI mX8_lastDay 1 := ⟨rfl, tw1172, tw55, tw1174, by decide +kernel, by decide +kernel, by decide +kernel, by decide +kernel⟩
def mX8_count : pb_M := (yX8_count, cX8_count, 3, (some .int), [])
theorem kX8_count : pb_MS mX8_count 1 := ⟨tw1184, tw55, tw1185, by decide +kernel, by decide +kernel, by decide +kernel, by decide +kernel⟩
def mX8_byOrder : pb_M := (yX8_byOrder, cX8_byOrder, 4, (some .int), [])
theorem kX8_byOrder : pb_MI mX8_byOrder 2 := ⟨rfl, tw1188, tw55, tw1189, by decide +kernel, by decide +kernel, by decide +kernel, by decide +kernel⟩
def mX8_turns : pb_M := (yX8_turns, cX8_turns, 7, (some .boolean), [])
theorem kX8_turns : pb_MI mX8_turns 1 := ⟨rfl, tw1192, tw55, tw1193, by decide +kernel, by decide +kernel, by decide +kernel, by decide +kernel⟩
def mX8_lastDayByAll : pb_M := (yX8_lastDayByAll, cX8_lastDayByAll, 7, (some .int), [])
theorem kX8_lastDayByAll : pb_MI mX8_lastDayByAll 1 := ⟨rfl, tw1180, tw55, tw1182, by decide +kernel, by decide +kernel, by decide +kernel, by decide +kernel⟩
def mX8_taskOn : pb_M := (yX8_taskOn, cX8_taskOn, 5, (some .int), [])
theorem kX8_taskOn : pb_MI mX8_taskOn 3 := ⟨rfl, tw1195, tw55, tw1197, by decide +kernel, by decide +kernel, by decide +kernel, by decide +kernel⟩
def mJ6_bitCount_0f7a4 : pb_M := (yJ6_bitCount_0f7a4, cJ6_bitCount_0f7a4, 1, (some .int), [])
theorem kJ6_bitCount_0f7a4 : pb_MS mJ6_bitCount_0f7a4 1 := ⟨tw793, tw64, tw794, by decide +kernel, by decide +kernel, by decide +kernel, by decide +kernel⟩
def mJ9_max_7cf53 : pb_M := (yJ9_max_7cf53, cJ9_max_7cf53, 2, (some .int), [])
theorem kJ9_max_7cf53 : pb_MS mJ9_max_7cf53 2 := ⟨tw619, tw62, tw620, by decide +kernel, by decide +kernel, by decide +kernel, by decide +kernel⟩
def mJ7_fill_53178 : pb_M := (yJ7_fill_53178, cJ7_fill_53178, 4, none, [])
theorem kJ7_fill_53178 : pb_MS mJ7_fill_53178 2 := ⟨tw626, tw63, tw627, by decide +kernel, by decide +kernel, by decide +kernel, by decide +kernel⟩
def mL_setTask : pb_M := (yL_setTask, cL_setTask, 8, (some .int), [(0, 23, 26, 13), (0, 23, 30, 15)])
theorem kL_setTask : pb_MS mL_setTask 7 := ⟨tw284, tw46, tw285, by decide +kernel, by decide +kernel, by decide +kernel, by decide +kernel⟩
def mL_removeTask : pb_M := (yL_removeTask, cL_removeTask, 5, (some .int), [(0, 10, 13, 13), (0, 10, 17, 15), (0, 10, 21, 21)])
theorem kL_removeTask : pb_MS mL_removeTask 4 := ⟨tw399, tw46, tw400, by decide +kernel, by decide +kernel, by decide +kernel, by decide +kernel⟩
def mL_setNeed : pb_M := (yL_setNeed, cL_setNeed, 7, (some .int), [(0, 21, 24, 13), (0, 21, 28, 15), (0, 21, 32, 21)])
theorem kL_setNeed : pb_MS mL_setNeed 6 := ⟨tw436, tw46, tw437, by decide +kernel, by decide +kernel, by decide +kernel, by decide +kernel⟩
def mL_undo : pb_M := (yL_undo, cL_undo, 4, (some .int), [(0, 9, 12, 13), (0, 9, 15, 21)])
theorem kL_undo : pb_MS mL_undo 3 := ⟨tw451, tw46, tw452, by decide +kernel, by decide +kernel, by decide +kernel, by decide +kernel⟩
def mL_tasks : pb_M := (yL_tasks, cL_tasks, 4, (some .int), [(0, 9, 12, 13)])
theorem kL_tasks : pb_MS mL_tasks 3 := ⟨tw464, tw46, tw465, by decide +kernel, by decide +kernel, by decide +kernel, by decide +kernel⟩
def mL_length : pb_M := (yL_length, cL_length, 5, (some .int), [(0, 10, 13, 13), (0, 10, 17, 15)])
theorem kL_length : pb_MS mL_length 4 := ⟨tw476, tw46, tw477, by decide +kernel, by decide +kernel, by decide +kernel, by decide +kernel⟩
def mL_crew : pb_M := (yL_crew, cL_crew, 5, (some .int), [(0, 10, 13, 13), (0, 10, 17, 15)])
theorem kL_crew : pb_MS mL_crew 4 := ⟨tw483, tw46, tw484, by decide +kernel, by decide +kernel, by decide +kernel, by decide +kernel⟩
def mL_needs : pb_M := (yL_needs, cL_needs, 5, (some .int), [(0, 10, 13, 13), (0, 10, 17, 15)])
theorem kL_needs : pb_MS mL_needs 4 := ⟨tw490, tw46, tw491, by decide +kernel, by decide +kernel, by decide +kernel, by decide +kernel⟩
def mL_cost : pb_M := (yL_cost, cL_cost, 4, (some .int), [(0, 9, 12, 13)])
theorem kL_cost : pb_MS mL_cost 3 := ⟨tw497, tw46, tw498, by decide +kernel, by decide +kernel, by decide +kernel, by decide +kernel⟩
def mL_begin : pb_M := (yL_begin, cL_begin, 4, (some .int), [(0, 9, 12, 13), (0, 9, 15, 21)])
theorem kL_begin : pb_MS mL_begin 3 := ⟨tw508, tw46, tw509, by decide +kernel, by decide +kernel, by decide +kernel, by decide +kernel⟩
def mL_parent : pb_M := (yL_parent, cL_parent, 4, (some .int), [(0, 9, 12, 13)])
theorem kL_parent : pb_MS mL_parent 3 := ⟨tw528, tw46, tw529, by decide +kernel, by decide +kernel, by decide +kernel, by decide +kernel⟩
def mL_setBudget : pb_M := (yL_setBudget, cL_setBudget, 5, (some .int), [(0, 10, 13, 13), (0, 10, 17, 15)])
theorem kL_setBudget : pb_MS mL_setBudget 4 := ⟨tw535, tw46, tw536, by decide +kernel, by decide +kernel, by decide +kernel, by decide +kernel⟩
def mL_resolve : pb_M := (yL_resolve, cL_resolve, 6, (some .int), [(0, 12, 15, 13), (0, 12, 19, 15), (0, 12, 23, 21)])
theorem kL_resolve : pb_MS mL_resolve 5 := ⟨tw543, tw46, tw544, by decide +kernel, by decide +kernel, by decide +kernel, by decide +kernel⟩
def mL_clashes : pb_M := (yL_clashes, cL_clashes, 4, (some .int), [(0, 9, 12, 13)])
theorem kL_clashes : pb_MS mL_clashes 3 := ⟨tw551, tw46, tw552, by decide +kernel, by decide +kernel, by decide +kernel, by decide +kernel⟩
def mL_reason : pb_M := (yL_reason, cL_reason, 5, (some .int), [(0, 10, 13, 13), (0, 10, 17, 21)])
theorem kL_reason : pb_MS mL_reason 4 := ⟨tw582, tw46, tw583, by decide +kernel, by decide +kernel, by decide +kernel, by decide +kernel⟩
def mL_reasonTask : pb_M := (yL_reasonTask, cL_reasonTask, 5, (some .int), [(0, 10, 13, 13), (0, 10, 17, 21)])
theorem kL_reasonTask : pb_MS mL_reasonTask 4 := ⟨tw664, tw46, tw665, by decide +kernel, by decide +kernel, by decide +kernel, by decide +kernel⟩
def mL_merge : pb_M := (yL_merge, cL_merge, 4, (some .int), [(0, 9, 12, 13), (0, 9, 15, 21)])
theorem kL_merge : pb_MS mL_merge 3 := ⟨tw674, tw46, tw675, by decide +kernel, by decide +kernel, by decide +kernel, by decide +kernel⟩
def mL_update : pb_M := (yL_update, cL_update, 4, (some .int), [(0, 9, 12, 13), (0, 9, 15, 21)])
theorem kL_update : pb_MS mL_update 3 := ⟨tw694, tw46, tw695, by decide +kernel, by decide +kernel, by decide +kernel, by decide +kernel⟩
def mL_give : pb_M := (yL_give, cL_give, 5, (some .int), [(0, 10, 13, 13), (0, 10, 17, 15)])
theorem kL_give : pb_MS mL_give 4 := ⟨tw702, tw46, tw703, by decide +kernel, by decide +kernel, by decide +kernel, by decide +kernel⟩
def mL_lend : pb_M := (yL_lend, cL_lend, 7, (some .int), [(0, 14, 17, 13), (0, 14, 21, 15), (0, 14, 25, 21)])
theorem kL_lend : pb_MS mL_lend 6 := ⟨tw709, tw46, tw710, by decide +kernel, by decide +kernel, by decide +kernel, by decide +kernel⟩
def mL_holder : pb_M := (yL_holder, cL_holder, 5, (some .int), [(0, 10, 13, 15)])
theorem kL_holder : pb_MS mL_holder 4 := ⟨tw721, tw46, tw722, by decide +kernel, by decide +kernel, by decide +kernel, by decide +kernel⟩
def mL_tail : pb_M := (yL_tail, cL_tail, 5, (some .int), [(0, 10, 13, 13), (0, 10, 17, 15)])
theorem kL_tail : pb_MS mL_tail 4 := ⟨tw729, tw46, tw730, by decide +kernel, by decide +kernel, by decide +kernel, by decide +kernel⟩
def mL_slack : pb_M := (yL_slack, cL_slack, 5, (some .int), [(0, 10, 13, 13), (0, 10, 17, 15)])
theorem kL_slack : pb_MS mL_slack 4 := ⟨tw736, tw46, tw737, by decide +kernel, by decide +kernel, by decide +kernel, by decide +kernel⟩
def mL_critical : pb_M := (yL_critical, cL_critical, 4, (some .int), [(0, 9, 12, 13)])
theorem kL_critical : pb_MS mL_critical 3 := ⟨tw747, tw46, tw748, by decide +kernel, by decide +kernel, by decide +kernel, by decide +kernel⟩
def mL_way : pb_M := (yL_way, cL_way, 4, (some .int), [(0, 9, 12, 13)])
theorem kL_way : pb_MS mL_way 3 := ⟨tw754, tw46, tw755, by decide +kernel, by decide +kernel, by decide +kernel, by decide +kernel⟩
def mL_firstDay : pb_M := (yL_firstDay, cL_firstDay, 5, (some .int), [(0, 10, 13, 13), (0, 10, 17, 15)])
theorem kL_firstDay : pb_MS mL_firstDay 4 := ⟨tw761, tw46, tw762, by decide +kernel, by decide +kernel, by decide +kernel, by decide +kernel⟩
def mL_leftOut : pb_M := (yL_leftOut, cL_leftOut, 4, (some .int), [(0, 9, 12, 13)])
theorem kL_leftOut : pb_MS mL_leftOut 3 := ⟨tw768, tw46, tw769, by decide +kernel, by decide +kernel, by decide +kernel, by decide +kernel⟩
def mL_lastDay : pb_M := (yL_lastDay, cL_lastDay, 4, (some .int), [(0, 9, 12, 13)])
theorem kL_lastDay : pb_MS mL_lastDay 3 := ⟨tw775, tw46, tw776, by decide +kernel, by decide +kernel, by decide +kernel, by decide +kernel⟩
def mL_lastDayByAll : pb_M := (yL_lastDayByAll, cL_lastDayByAll, 4, (some .int), [(0, 9, 12, 13), (0, 9, 15, 21)])
theorem kL_lastDayByAll : pb_MS mL_lastDayByAll 3 := ⟨tw786, tw46, tw787, by decide +kernel, by decide +kernel, by decide +kernel, by decide +kernel⟩
def mL_taskOn : pb_M := (yL_taskOn, cL_taskOn, 6, (some .int), [(0, 12, 15, 13), (0, 12, 19, 15)])
theorem kL_taskOn : pb_MS mL_taskOn 5 := ⟨tw811, tw46, tw812, by decide +kernel, by decide +kernel, by decide +kernel, by decide +kernel⟩
