section PVR3
variable {F : pb_F} {μ : pb_M} {d k n cells slots sz : Nat} {sk : pb_Sk} {rf : pb_Rf} {sg : pb_Sg} {pc q : Nat} {L : List (Option Value)} {st : List Value}
theorem v_callSH (h : pb_Fx F μ d k n) {μ' : pb_M} {d' k' n' N i : Nat} {av st0 : List Value} {post : pb_Post} (hM : pb_Met (pb_l F) μ' d' k' n' av sz sk rf sg post) (hm : pb_MS μ' N) (h0 : μ'.2.2.2.2 ≠ []) (hl : Cond.methodLink μ.1.cls i μ'.1 ∈ tbG) (hn : av.length = N) (hst : st0 = av.reverse ++ st) (hW : (st.map fun v => v.category).sum ≤ 8) (hd : d' + 1 ≤ d) (hk : cells + k' ≤ k) (hs : slots + n' ≤ n) (hLn : L.length = μ.2.2.1) (dd : decode μ.2.1 pc = .ok (.invokestatic i, 3)) (hq : pc + 3 = q)
    (kr : ∀ v sz' sk' rf' sg', post (.inl v) sz' sk' rf' sg' → pv F (cells + k') (slots + n') sz' sk' rf' sg' q L (v.toList ++ st))
    (kx : ∀ E sz' sk' rf' sg', post (.inr E) sz' sk' rf' sg' → px F (cells + k') (slots + n') sz' sk' rf' sg' pc L E) : pv F cells slots sz sk rf sg pc L st0 := by
  intro H ls locs hR hL hS
  obtain ⟨m1, m2, m3, m4, m5, m6, m7⟩ := hm
  obtain ⟨hx, hb', hret, hml, hown, hts, hlk, hnm, htab, hfl, hK, hb0, hr1, hr2, hr3, hr4⟩ := id h
  have hc9 := pb_codeH h0
  have hcw : vx_CSW (pb_rm F) (pb_s F) (pb_args F) μ.1.cls i μ'.1 μ'.2.1 μ'.2.2.1 μ'.2.2.2.1 μ'.2.2.2.2 (pb_code μ' :: tbG) (pb_room d' k' n') k' n' N := by
    refine ⟨⟨rfl, rfl, Nat.le_trans hd hr1, ?_, pay_in hts (pb_gin m3), by rw [← hc9]; exact List.mem_cons_self⟩, by rw [← hc9]; exact hts _ m3, hts _ m2, ⟨m4, m5⟩, fun sig hs => ?_, hts _ hl, hts _ m1⟩
    · show 8 + (μ'.2.2.1 + 11) + 100 * d' ≤ _
      omega
    · rw [hs] at m6
      exact (Option.some.inj m6).symm
  refine pb_goon hq hL hS (vx_runSX ⟨hx, hb', hml, hown, hts⟩ (hM (pb_g F)) hcw (pb_pre h hR hS) rfl hn (by show ls.size = _; rw [hL.1, hLn]) hst (lv_room hW) dd ⟨Nat.le_trans hk hr3, Nat.le_trans hs hr4⟩) kr kx
theorem v_widen {c2 s2 : Nat} (h1 : cells ≤ c2) (h2 : slots ≤ s2) (kk : pv F c2 s2 sz sk rf sg pc L st) : pv F cells slots sz sk rf sg pc L st := fun H ls locs hR hL hS => W.widen h1 h2 (kk H ls locs hR hL hS)
theorem v_sld (h : pb_Fx F μ d k n) {b N : Nat} {xs : Nat → Int32} (hX : va_X b N xs (pb_s F) (pb_s F).heap) (hbl : b < (pb_s F).heap.size) (hbA : ¬ pb_own (pb_g F) b) {i : Int32} {t : Nat} (hi : i = nI t) (ht : t < N) (hN : N < 2147483648) (dd : decode μ.2.1 pc = .ok (.iaload, 1)) (hq : pc + 1 = q) (kk : pv F cells slots sz sk rf sg q L (.int (xs t) :: st)) : pv F cells slots sz sk rf sg pc L (.int i :: .ref b :: st) := by
  subst hq
  subst hi
  intro H ls locs hR hL hS
  refine va_sld h.1 h.2.1 hX hbl hbA hS (nI_in ht hN) dd ?_
  rw [nI_clamp (by omega)]
  exact kk H ls locs hR hL hS
theorem v_slen (h : pb_Fx F μ d k n) {b N : Nat} {xs : Nat → Int32} (hX : va_X b N xs (pb_s F) (pb_s F).heap) (hbl : b < (pb_s F).heap.size) (hbA : ¬ pb_own (pb_g F) b) (dd : decode μ.2.1 pc = .ok (.arraylength, 1)) (hq : pc + 1 = q) (kk : pv F cells slots sz sk rf sg q L (.int (nI N) :: st)) : pv F cells slots sz sk rf sg pc L (.ref b :: st) := by
  subst hq
  intro H ls locs hR hL hS
  exact va_slen h.1 h.2.1 hX hbl hbA hS dd (kk H ls locs hR hL hS)
theorem v_tabOut (h : pb_Fx F μ d k n) {dflt lo hi : Int} {offs : Array Int} {len : Nat} {x : Int32} {tgt : Nat} (dd : decode μ.2.1 pc = .ok (.tableswitch dflt lo hi offs, len)) (hx : x.toInt < lo ∨ hi < x.toInt) (ht : (pc : Int) + dflt = (tgt : Int)) (kk : pv F cells slots sz sk rf sg tgt L st) : pv F cells slots sz sk rf sg pc L (.int x :: st) := by
  intro H ls locs hR hL hS
  exact lv_tableOut h.1 h.2.1 dd hx ht (kk H ls locs hR hL hS)
theorem v_tabIn (h : pb_Fx F μ d k n) {dflt lo hi : Int} {offs : Array Int} {len : Nat} {x : Int32} {off : Int} {tgt : Nat} (dd : decode μ.2.1 pc = .ok (.tableswitch dflt lo hi offs, len)) (h1 : ¬ x.toInt < lo) (h2 : ¬ hi < x.toInt) (ho : offs[(x.toInt - lo).toNat]? = some off) (ht : (pc : Int) + off = (tgt : Int)) (kk : pv F cells slots sz sk rf sg tgt L st) : pv F cells slots sz sk rf sg pc L (.int x :: st) := by
  intro H ls locs hR hL hS
  exact lv_tableIn h.1 h.2.1 dd h1 h2 ho ht (kk H ls locs hR hL hS)
end PVR3
/-- it came back with k, having caught; the memory is sg' but for cells that nobody knows -/
def pb_cau (x : Int32) (sz : Nat) (sk : pb_Sk) (rf : pb_Rf) (sg : pb_Sg) : pb_Post := fun r sz' sk' rf' sg' => r = .inl (some (.int x)) ∧ sz ≤ sz' ∧ sk' = sk ∧ rf' = rf ∧ sg' = sg
