theorem pb_plan.of {sk sk' : pb_Sk} {rf rf' : pb_Rf} {q : Nat} (h : pb_plan sk rf q) (h1 : ∀ a, q ≤ a → a < q + 5 → sk' a = sk a) (h2 : rf' q = rf q) : pb_plan sk' rf' q := by
  unfold pb_plan at *
  rw [h2, h1 q (by omega) (by omega), h1 (q + 1) (by omega) (by omega), h1 (q + 2) (by omega) (by omega), h1 (q + 3) (by omega) (by omega), h1 (q + 4) (by omega) (by omega)]
  exact h
theorem pb_hist.of {sk sk' : pb_Sk} {rf rf' : pb_Rf} {q : Nat} (h : pb_hist sk rf q) (h1 : ∀ a, q ≤ a → a < q + 6 → sk' a = sk a) (h2 : rf' q = rf q) : pb_hist sk' rf' q := by
  unfold pb_hist at *
  rw [h2, h1 q (by omega) (by omega), h1 (q + 1) (by omega) (by omega), h1 (q + 2) (by omega) (by omega), h1 (q + 3) (by omega) (by omega), h1 (q + 4) (by omega) (by omega), h1 (q + 5) (by omega) (by omega)]
  exact h
theorem pb_br.of {sk sk' : pb_Sk} {rf rf' : pb_Rf} {b : Nat} (h : pb_br sk rf b) (h1 : ∀ a, b ≤ a → a < b + 18 → sk' a = sk a ∧ rf' a = rf a) : pb_br sk' rf' b := by
  obtain ⟨a1, a2, a3, a4, a5, a6, a7, a8, a9⟩ := h
  have hb := h1 b (by omega) (by omega)
  refine ⟨by rw [hb.1]; exact a1, by rw [hb.2]; exact a2, by rw [hb.2]; exact a3, by rw [hb.2]; exact a4, by rw [hb.2]; exact a5, a6.of (fun a h2 h3 => (h1 a (by omega) (by omega)).1) (h1 _ (by omega) (by omega)).2, a7.of (fun a h2 h3 => (h1 a (by omega) (by omega)).1) (h1 _ (by omega) (by omega)).2, a8.of (fun a h2 h3 => (h1 a (by omega) (by omega)).1) (h1 _ (by omega) (by omega)).2, by rw [(h1 _ (by omega) (by omega)).1]; exact a9⟩
theorem pb_crews.of {sk sk' : pb_Sk} {rf rf' : pb_Rf} {c : Nat} (h : pb_crews sk rf c) (h1 : ∀ a, c ≤ a → a < c + 8 → sk' a = sk a ∧ rf' a = rf a) : pb_crews sk' rf' c := by
  obtain ⟨a1, a2, a3, a4, a5, a6, a7⟩ := h
  have hc := h1 c (by omega) (by omega)
  refine ⟨by rw [hc.1]; exact a1, by rw [hc.2]; exact a2, by rw [hc.2]; exact a3, by rw [(h1 _ (by omega) (by omega)).1]; exact a4, by rw [(h1 _ (by omega) (by omega)).1]; exact a5, fun i hi => by rw [(h1 _ (by omega) (by omega)).2]; exact a6 i hi, fun i hi => by rw [(h1 _ (by omega) (by omega)).1]; exact a7 i hi⟩
theorem pb_sch.of {sk sk' : pb_Sk} {rf rf' : pb_Rf} {c : Nat} (h : pb_sch sk rf c) (h1 : ∀ a, c ≤ a → a < c + 8 → sk' a = sk a ∧ rf' a = rf a) : pb_sch sk' rf' c := by
  obtain ⟨a1, a2, a3, a4, a5, a6, a7⟩ := h
  have hc := h1 c (by omega) (by omega)
  refine ⟨by rw [hc.1]; exact a1, by rw [hc.2]; exact a2, by rw [hc.2]; exact a3, by rw [(h1 _ (by omega) (by omega)).1]; exact a4, by rw [(h1 _ (by omega) (by omega)).1]; exact a5, fun i hi => by rw [(h1 _ (by omega) (by omega)).2]; exact a6 i hi, fun i hi => by rw [(h1 _ (by omega) (by omega)).1]; exact a7 i hi⟩
theorem pb_ways.of {sk sk' : pb_Sk} {rf rf' : pb_Rf} {c : Nat} (h : pb_ways sk rf c) (h1 : ∀ a, c ≤ a → a < c + 3 → sk' a = sk a ∧ rf' a = rf a) : pb_ways sk' rf' c := by
  obtain ⟨a1, a2, a3, a4, a5⟩ := h
  have hc := h1 c (by omega) (by omega)
  exact ⟨by rw [hc.1]; exact a1, by rw [hc.2]; exact a2, by rw [hc.2]; exact a3, by rw [(h1 _ (by omega) (by omega)).1]; exact a4, by rw [(h1 _ (by omega) (by omega)).1]; exact a5⟩
theorem pb_joint.of {sk sk' : pb_Sk} {rf rf' : pb_Rf} {c : Nat} (h : pb_joint sk rf c) (h1 : ∀ a, c ≤ a → a < c + 6 → sk' a = sk a ∧ rf' a = rf a) : pb_joint sk' rf' c := by
  obtain ⟨a1, a2, a3⟩ := h
  have hc := h1 c (by omega) (by omega)
  exact ⟨by rw [hc.1]; exact a1, by rw [hc.2]; exact a2, a3.of (fun a h2 h3 => (h1 a (by omega) (by omega)).1) (h1 _ (by omega) (by omega)).2⟩
/-- a branch as it is made: from fr, number x, nothing in it -/
def pb_nBr (fr : Option Nat) (x : Int32) (p : Nat) (sk : pb_Sk) (rf : pb_Rf) (sg : pb_Sg) (sk' : pb_Sk) (rf' : pb_Rf) (sg' : pb_Sg) : Prop := pb_br sk' rf' p ∧ rf' p 1 = fr ∧ sg' p 0 = x ∧ sg' p 6 = 1000000 ∧ (∀ t, t < 16 → sg' (p + 2) t = 0 ∧ sg' (p + 3) t = -1 ∧ sg' (p + 4) t = 0 ∧ sg' (p + 5) t = 0) ∧ (∀ t, t < 16 → sg' (p + 7) t = 0 ∧ sg' (p + 8) t = -1 ∧ sg' (p + 9) t = 0 ∧ sg' (p + 10) t = 0) ∧ sg' (p + 11) 5 = 0 ∧ sg' (p + 11) 6 = 0 ∧ (∀ t, t < 16 → sg' (p + 17) t = -1) ∧ pb_fr p (p + 18) sk rf sg sk' rf' sg'
set_option maxHeartbeats 4000000 in
set_option maxRecDepth 100000 in
theorem c_X3_init {l : Launch} (hfl : l.stackTraces = false) {sz : Nat} {sk : pb_Sk} {rf : pb_Rf} {sg : pb_Sg} {p : Nat} (h0 : sk p = (9, 0)) (hz : sz = p + 1) : pb_Met l mX3_init 3 5 68 [.ref p] sz sk rf sg (fun r sz9 sk9 rf9 sg9 => r = .inl none ∧ sz9 = p + 6 ∧ pb_nJoint p sk rf sg sk9 rf9 sg9) := by
  refine pb_start hfl (by decide +kernel) rfl (pb_c1 rfl) (Nat.le_of_ble_eq_true rfl) (fun F hF h hQ => ?_)
  subst hF
  show pv F 0 0 sz sk rf sg 0 [some (.ref p)] []
  subst hz
  refine v_aload_n h (i := 0) dX3_init_0 (q := 1) rfl rfl rfl ?_
  refine v_objInit h tw203 tw71 tw72 (by decide) (by simp [Value.category]) rfl dX3_init_1 (q := 4) rfl ?_
  refine v_aload_n h (i := 0) dX3_init_4 (q := 5) rfl rfl rfl ?_
  refine v_new h (c := 4) (by decide) tw204 tw81 tw49 (by decide +kernel) (by decide) (by decide) dX3_init_5 (q := 8) rfl ?_
  refine v_dup h dX3_init_8 (q := 9) rfl rfl ?_
  refine v_callI h (c_X4_init hfl (p := p + 1) (by simp [pb_uk]) rfl) kX4_init rfl rfl tw205 rfl rfl (by simp [Value.category]) (by decide) (by decide) (by decide) rfl dX3_init_9 (q := 12) rfl ?_ (fun _ _ _ _ _ hx9 => nomatch hx9.1)
  rintro v1 sz1 sk1 rf1 sg1 ⟨e1, rfl, hN1, hN2, hN3⟩
  cases e1
  have k0 : sk1 p = (9, 0) := by rw [(hN3 p (by omega)).1]; simp [pb_uk, h0]
  refine v_putFr h fl_X3_12 (by assumption) rfl rfl rfl rfl dX3_init_12 (q := 15) rfl ?_
  refine v_vret h hQ rfl dX3_init_15 (by decide) (by decide) (by
      refine ⟨rfl, by omega, ⟨k0, ?_, ?_⟩, ?_⟩
      · rw [pb_ur_eq]; exact if_pos rfl
      · exact hN1.of (fun _ _ _ => rfl) (pb_ur_ne (by omega))
      · intro a ha
        obtain ⟨q1, q2, q3⟩ := hN3 a (by omega)
        exact ⟨q1.trans (pb_uk_ne (by omega)), (pb_ur_ne (by omega)).trans (q2.trans (pb_u0_ne (by omega))), q3.trans (pb_u0_ne (by omega))⟩)
set_option maxHeartbeats 4000000 in
set_option maxRecDepth 100000 in
theorem c_X0_init {l : Launch} (hfl : l.stackTraces = false) {sz : Nat} {sk : pb_Sk} {rf : pb_Rf} {sg : pb_Sg} {p f : Nat} {x : Int32} (h0 : sk p = (6, 0)) (hz : sz = p + 1) : pb_Met l mX0_init 3 17 309 [.ref p, .int x, .ref f] sz sk rf sg (fun r sz9 sk9 rf9 sg9 => r = .inl none ∧ sz9 = p + 18 ∧ pb_nBr (some f) x p sk rf sg sk9 rf9 sg9) := by
  refine pb_start hfl (by decide +kernel) rfl (pb_c1 rfl) (Nat.le_of_ble_eq_true rfl) (fun F hF h hQ => ?_)
  subst hF
  show pv F 0 0 sz sk rf sg 0 [some (.ref p), some (.int x), some (.ref f), none] []
  subst hz
  refine v_aload_n h (i := 0) dX0_init_0 (q := 1) rfl rfl rfl ?_
  refine v_objInit h tw79 tw71 tw72 (by decide) (by simp [Value.category]) rfl dX0_init_1 (q := 4) rfl ?_
  refine v_aload_n h (i := 0) dX0_init_4 (q := 5) rfl rfl rfl ?_
  refine v_new h (c := 4) (by decide) tw80 tw81 tw49 (by decide +kernel) (by decide) (by decide) dX0_init_5 (q := 8) rfl ?_
  refine v_dup h dX0_init_8 (q := 9) rfl rfl ?_
  refine v_callI h (c_X4_init hfl (p := p + 1) (by simp [pb_uk]) rfl) kX4_init rfl rfl tw82 rfl rfl (by simp [Value.category]) (by decide) (by decide) (by decide) rfl dX0_init_9 (q := 12) rfl ?_ (fun _ _ _ _ _ hx9 => nomatch hx9.1)
  rintro v1 sz1 sk1 rf1 sg1 ⟨q1, rfl, A1, A1z, A1f⟩
  cases q1
  have k1 : sk1 p = (6, 0) := by rw [(A1f p (by omega)).1]; simp [pb_uk, h0]
  refine v_putFr h fl_X0_12 (by assumption) rfl rfl rfl rfl dX0_init_12 (q := 15) rfl ?_
  refine v_aload_n h (i := 0) dX0_init_15 (q := 16) rfl rfl rfl ?_
  refine v_new h (c := 4) (by decide) tw80 tw81 tw49 (by decide +kernel) (by decide) (by decide) dX0_init_16 (q := 19) rfl ?_
  refine v_dup h dX0_init_19 (q := 20) rfl rfl ?_
  refine v_callI h (c_X4_init hfl (p := p + 6) (by simp [pb_uk, Nat.add_assoc]) rfl) kX4_init rfl rfl tw82 rfl rfl (by simp [Value.category]) (by decide) (by decide) (by decide) rfl dX0_init_20 (q := 23) rfl ?_ (fun _ _ _ _ _ hx9 => nomatch hx9.1)
  rintro v2 sz2 sk2 rf2 sg2 ⟨q2, rfl, A2, A2z, A2f⟩
  cases q2
  have k2 : sk2 p = (6, 0) := by rw [(A2f p (by omega)).1, pb_uk_ne (by omega)]; exact k1
  have r22 : rf2 p 2 = some (p + 1) := by rw [(A2f p (by omega)).2.1, pb_u0_ne (by omega)]; simp [pb_ur, va_up, Nat.add_assoc]
  refine v_putFr h fl_X0_18 (by assumption) rfl rfl rfl rfl dX0_init_23 (q := 26) rfl ?_
  refine v_aload_n h (i := 0) dX0_init_26 (q := 27) rfl rfl rfl ?_
  refine v_new h (c := 2) (by decide) tw116 tw117 tw50 (by decide +kernel) (by decide) (by decide) dX0_init_27 (q := 30) rfl ?_
  refine v_dup h dX0_init_30 (q := 31) rfl rfl ?_
  refine v_callIN h (c_X2_init hfl (p := p + 11) (by simp [pb_uk, Nat.add_assoc]) rfl) kX2_init rfl rfl tw118 rfl rfl (by simp [Value.category]) (by decide) (by decide) (by decide) rfl dX0_init_31 (q := 34) rfl ?_ (fun _ _ _ _ _ hx9 => nomatch hx9.1)
  rintro v3 sz3 sk3 rf3 sg3 ⟨q3, rfl, A3, A3z, A3f⟩
  cases q3
  have k3 : sk3 p = (6, 0) := by rw [(A3f p (by omega)).1, pb_uk_ne (by omega)]; exact k2
  have r32 : rf3 p 2 = some (p + 1) := by rw [(A3f p (by omega)).2.1, pb_u0_ne (by omega)]; simp [pb_ur, va_up, r22, Nat.add_assoc]
  have r33 : rf3 p 3 = some (p + 6) := by rw [(A3f p (by omega)).2.1, pb_u0_ne (by omega)]; simp [pb_ur, va_up, Nat.add_assoc]
  refine v_putFr h fl_X0_24 (by assumption) rfl rfl rfl rfl dX0_init_34 (q := 37) rfl ?_
  refine v_aload_n h (i := 0) dX0_init_37 (q := 38) rfl rfl rfl ?_
  refine v_bipush h (v := nI 16) dX0_init_38 (q := 40) rfl (by decide +kernel) ?_
  refine v_newai h tw115 rfl (by decide) (by decide) (by decide) dX0_init_40 (q := 42) rfl ?_
  refine v_putFr h fl_X0_28 (by rw [pb_uk_ne (by omega)]; exact k3) rfl rfl rfl rfl dX0_init_42 (q := 45) rfl ?_
  refine v_aload_n h (i := 0) dX0_init_45 (q := 46) rfl rfl rfl ?_
  refine v_ldc h dX0_init_46 (q := 48) rfl tw145 ?_
  refine v_puti h fl_X0_33 (by rw [pb_uk_ne (by omega)]; exact k3) rfl rfl dX0_init_48 (q := 51) rfl ?_
  refine v_aload_n h (i := 0) dX0_init_51 (q := 52) rfl rfl rfl ?_
  refine v_iload_n h (i := 1) dX0_init_52 (q := 53) rfl rfl rfl ?_
  refine v_putFi h fl_X0_37 (by rw [pb_uk_ne (by omega)]; exact k3) rfl rfl rfl rfl dX0_init_53 (q := 56) rfl ?_
  refine v_aload_n h (i := 0) dX0_init_56 (q := 57) rfl rfl rfl ?_
  refine v_aload_n h (i := 2) dX0_init_57 (q := 58) rfl rfl rfl ?_
  refine v_putFr h fl_X0_40 (by rw [pb_uk_ne (by omega)]; exact k3) rfl rfl rfl rfl dX0_init_58 (q := 61) rfl ?_
  refine v_iconst h (v := nI 0) dX0_init_61 (q := 62) rfl (by decide +kernel) ?_
  refine v_istore_n h (i := 3) dX0_init_62 (q := 63) rfl rfl (Nat.le_of_ble_eq_true rfl) rfl ?_
  refine v_gen (fun sk4 rf4 sg4 E1 E2 E3 => ?_)
  have k4 : sk4 p = (6, 0) := by rw [E1, pb_uk_ne (by omega)]; exact k3
  have k5 : rf4 p 5 = some (p + 17) := by rw [E2]; simp [pb_ur, va_up, Nat.add_assoc]
  have k6 : sk4 (p + 17) = (1, 16) := by rw [E1]; exact if_pos rfl
  have lp : ∀ (j i : Nat), i + j = 16 → pv F 17 309 (p + 11 + 6 + 1) sk4 rf4 (pb_fillN sg4 (p + 17) 0 (-1) i) 63 [some (.ref p), some (.int x), some (.ref f), some (.int (nI i))] [] := by
    intro j
    induction j with
    | zero =>
      intro i  hi
      obtain rfl : i = 16 := by omega
      refine v_iload_n h (i := 3) dX0_init_63 (q := 64) rfl rfl rfl ?_
      refine v_bipush h (v := nI 16) dX0_init_64 (q := 66) rfl (by decide +kernel) ?_
      refine v_icmp_ge h dX0_init_66 (q := 69) rfl (tgt := 82) (by decide) (fun c1 => ?_) (fun c1 => pb_kle (Nat.le_refl _) (by decide) c1)
      refine v_vret h hQ rfl dX0_init_82 (by decide) (by decide) (by
          refine ⟨rfl, by omega, ⟨?_, ?_, ?_, ?_, ?_, ?_, ?_, ?_, ?_⟩, ?_, ?_, ?_, ?_, ?_, ?_, ?_, ?_, ?_⟩
          · exact k4
          · rw [E2]; simp [pb_ur, pb_u0, va_up, r32, Nat.add_assoc]
          · rw [E2]; simp [pb_ur, pb_u0, va_up, r33, Nat.add_assoc]
          · rw [E2]; simp [pb_ur, pb_u0, va_up, Nat.add_assoc]
          · rw [E2]; simp [pb_ur, pb_u0, va_up, Nat.add_assoc]
          · refine A1.of (fun a h1 h2 => ?_) ?_
            · rw [E1, pb_uk_ne (by omega), (A3f a (by omega)).1, pb_uk_ne (by omega), (A2f a (by omega)).1, pb_uk_ne (by omega)]
            · rw [E2, pb_ur_ne (by omega), pb_ur_ne (by omega), pb_u0_ne (by omega), pb_ur_ne (by omega), (A3f (p + 1) (by omega)).2.1, pb_u0_ne (by omega), pb_ur_ne (by omega), (A2f (p + 1) (by omega)).2.1, pb_u0_ne (by omega), pb_ur_ne (by omega)]
          · refine A2.of (fun a h1 h2 => ?_) ?_
            · rw [E1, pb_uk_ne (by omega), (A3f a (by omega)).1, pb_uk_ne (by omega)]
            · rw [E2, pb_ur_ne (by omega), pb_ur_ne (by omega), pb_u0_ne (by omega), pb_ur_ne (by omega), (A3f (p + 6) (by omega)).2.1, pb_u0_ne (by omega), pb_ur_ne (by omega)]
          · refine A3.of (fun a h1 h2 => ?_) ?_
            · rw [E1, pb_uk_ne (by omega)]
            · rw [E2, pb_ur_ne (by omega), pb_ur_ne (by omega), pb_u0_ne (by omega), pb_ur_ne (by omega)]
          · exact k6
          · rw [E2]; simp [pb_ur, pb_u0, va_up, Nat.add_assoc]
          · rw [pb_fill_at, if_neg (by omega), E3, pb_up_self]
          · rw [pb_fill_at, if_neg (by omega), E3, pb_up_ne3 (by decide), pb_up_self]
          · intro t ht
            obtain ⟨z1, z2, z3, z4⟩ := A1z t ht
            have zz : ∀ a, p + 2 ≤ a → a ≤ p + 5 → pb_fillN sg4 (p + 17) 0 (-1) 16 a t = sg1 a t := fun a h1 h2 => by
              rw [pb_fill_at, if_neg (by omega), E3, pb_up_ne2 (by omega), pb_up_ne2 (by omega), pb_u0_ne (by omega), (A3f a (by omega)).2.2, pb_u0_ne (by omega), (A2f a (by omega)).2.2, pb_u0_ne (by omega)]
            exact ⟨(zz _ (by omega) (by omega)).trans z1, (zz _ (by omega) (by omega)).trans z2, (zz _ (by omega) (by omega)).trans z3, (zz _ (by omega) (by omega)).trans z4⟩
          · intro t ht
            obtain ⟨z1, z2, z3, z4⟩ := A2z t ht
            have zz : ∀ a, p + 7 ≤ a → a ≤ p + 10 → pb_fillN sg4 (p + 17) 0 (-1) 16 a t = sg2 a t := fun a h1 h2 => by
              rw [pb_fill_at, if_neg (by omega), E3, pb_up_ne2 (by omega), pb_up_ne2 (by omega), pb_u0_ne (by omega), (A3f a (by omega)).2.2, pb_u0_ne (by omega)]
            exact ⟨(zz _ (by omega) (by omega)).trans z1, (zz _ (by omega) (by omega)).trans z2, (zz _ (by omega) (by omega)).trans z3, (zz _ (by omega) (by omega)).trans z4⟩
          · rw [pb_fill_at, if_neg (by omega), E3, pb_up_ne2 (by omega), pb_up_ne2 (by omega), pb_u0_ne (by omega), A3z, pb_u0_eq]
          · rw [pb_fill_at, if_neg (by omega), E3, pb_up_ne2 (by omega), pb_up_ne2 (by omega), pb_u0_ne (by omega), A3z, pb_u0_eq]
          · intro t ht
            rw [pb_fill_at, if_pos (by omega)]
          · intro a ha
            refine ⟨?_, ?_, ?_⟩
            · rw [E1, pb_uk_ne (by omega), (A3f a (by omega)).1, pb_uk_ne (by omega), (A2f a (by omega)).1, pb_uk_ne (by omega), (A1f a (by omega)).1, pb_uk_ne (by omega)]
            · rw [E2, pb_ur_ne (by omega), pb_ur_ne (by omega), pb_u0_ne (by omega), pb_ur_ne (by omega), (A3f a (by omega)).2.1, pb_u0_ne (by omega), pb_ur_ne (by omega), (A2f a (by omega)).2.1, pb_u0_ne (by omega), pb_ur_ne (by omega), (A1f a (by omega)).2.1, pb_u0_ne (by omega)]
            · funext j
              rw [pb_fill_at, if_neg (by omega), E3, pb_up_ne2 (by omega), pb_up_ne2 (by omega), pb_u0_ne (by omega), (A3f a (by omega)).2.2, pb_u0_ne (by omega), (A2f a (by omega)).2.2, pb_u0_ne (by omega), (A1f a (by omega)).2.2, pb_u0_ne (by omega)])
    | succ j ih =>
      intro i  hi
      have hi2 : i < 16 := by omega
      refine v_iload_n h (i := 3) dX0_init_63 (q := 64) rfl rfl rfl ?_
      refine v_bipush h (v := nI 16) dX0_init_64 (q := 66) rfl (by decide +kernel) ?_
      refine v_icmp_ge h dX0_init_66 (q := 69) rfl (tgt := 82) (by decide) (fun c2 => pb_kge hi2 (by decide) c2) (fun c2 => ?_)
      refine v_aload_n h (i := 0) dX0_init_69 (q := 70) rfl rfl rfl ?_
      refine v_getr h fl_X0_28 k4 rfl k5 dX0_init_70 (q := 73) rfl ?_
      refine v_iload_n h (i := 3) dX0_init_73 (q := 74) rfl rfl rfl ?_
      refine v_iconst h (v := (-1)) dX0_init_74 (q := 75) rfl (by decide +kernel) ?_
      refine v_iast h k6 (show nI i = nI (0 + i) by rw [Nat.zero_add]) (by omega) (by decide) dX0_init_75 (q := 76) rfl ?_
      refine v_iinc h dX0_init_76 (q := 79) rfl rfl pb_inc rfl ?_
      refine v_goto h dX0_init_79 (tgt := 63) (by decide) ?_
      exact ih (i + 1) (by omega)
  exact lp 16 0 (by omega)
set_option maxHeartbeats 4000000 in
set_option maxRecDepth 100000 in
theorem c0_X0_init {l : Launch} (hfl : l.stackTraces = false) {sz : Nat} {sk : pb_Sk} {rf : pb_Rf} {sg : pb_Sg} {p : Nat} {x : Int32} (h0 : sk p = (6, 0)) (hz : sz = p + 1) : pb_Met l mX0_init 3 17 309 [.ref p, .int x, .null] sz sk rf sg (fun r sz9 sk9 rf9 sg9 => r = .inl none ∧ sz9 = p + 18 ∧ pb_nBr none x p sk rf sg sk9 rf9 sg9) := by
  refine pb_start hfl (by decide +kernel) rfl (pb_c1 rfl) (Nat.le_of_ble_eq_true rfl) (fun F hF h hQ => ?_)
  subst hF
  show pv F 0 0 sz sk rf sg 0 [some (.ref p), some (.int x), some (.null), none] []
  subst hz
  refine v_aload_n h (i := 0) dX0_init_0 (q := 1) rfl rfl rfl ?_
  refine v_objInit h tw79 tw71 tw72 (by decide) (by simp [Value.category]) rfl dX0_init_1 (q := 4) rfl ?_
  refine v_aload_n h (i := 0) dX0_init_4 (q := 5) rfl rfl rfl ?_
  refine v_new h (c := 4) (by decide) tw80 tw81 tw49 (by decide +kernel) (by decide) (by decide) dX0_init_5 (q := 8) rfl ?_
  refine v_dup h dX0_init_8 (q := 9) rfl rfl ?_
  refine v_callI h (c_X4_init hfl (p := p + 1) (by simp [pb_uk]) rfl) kX4_init rfl rfl tw82 rfl rfl (by simp [Value.category]) (by decide) (by decide) (by decide) rfl dX0_init_9 (q := 12) rfl ?_ (fun _ _ _ _ _ hx9 => nomatch hx9.1)
  rintro v1 sz1 sk1 rf1 sg1 ⟨q1, rfl, A1, A1z, A1f⟩
  cases q1
  have k1 : sk1 p = (6, 0) := by rw [(A1f p (by omega)).1]; simp [pb_uk, h0]
  refine v_putFr h fl_X0_12 (by assumption) rfl rfl rfl rfl dX0_init_12 (q := 15) rfl ?_
  refine v_aload_n h (i := 0) dX0_init_15 (q := 16) rfl rfl rfl ?_
  refine v_new h (c := 4) (by decide) tw80 tw81 tw49 (by decide +kernel) (by decide) (by decide) dX0_init_16 (q := 19) rfl ?_
  refine v_dup h dX0_init_19 (q := 20) rfl rfl ?_
  refine v_callI h (c_X4_init hfl (p := p + 6) (by simp [pb_uk, Nat.add_assoc]) rfl) kX4_init rfl rfl tw82 rfl rfl (by simp [Value.category]) (by decide) (by decide) (by decide) rfl dX0_init_20 (q := 23) rfl ?_ (fun _ _ _ _ _ hx9 => nomatch hx9.1)
  rintro v2 sz2 sk2 rf2 sg2 ⟨q2, rfl, A2, A2z, A2f⟩
  cases q2
  have k2 : sk2 p = (6, 0) := by rw [(A2f p (by omega)).1, pb_uk_ne (by omega)]; exact k1
  have r22 : rf2 p 2 = some (p + 1) := by rw [(A2f p (by omega)).2.1, pb_u0_ne (by omega)]; simp [pb_ur, va_up, Nat.add_assoc]
  refine v_putFr h fl_X0_18 (by assumption) rfl rfl rfl rfl dX0_init_23 (q := 26) rfl ?_
  refine v_aload_n h (i := 0) dX0_init_26 (q := 27) rfl rfl rfl ?_
  refine v_new h (c := 2) (by decide) tw116 tw117 tw50 (by decide +kernel) (by decide) (by decide) dX0_init_27 (q := 30) rfl ?_
  refine v_dup h dX0_init_30 (q := 31) rfl rfl ?_
  refine v_callIN h (c_X2_init hfl (p := p + 11) (by simp [pb_uk, Nat.add_assoc]) rfl) kX2_init rfl rfl tw118 rfl rfl (by simp [Value.category]) (by decide) (by decide) (by decide) rfl dX0_init_31 (q := 34) rfl ?_ (fun _ _ _ _ _ hx9 => nomatch hx9.1)
  rintro v3 sz3 sk3 rf3 sg3 ⟨q3, rfl, A3, A3z, A3f⟩
  cases q3
  have k3 : sk3 p = (6, 0) := by rw [(A3f p (by omega)).1, pb_uk_ne (by omega)]; exact k2
  have r32 : rf3 p 2 = some (p + 1) := by rw [(A3f p (by omega)).2.1, pb_u0_ne (by omega)]; simp [pb_ur, va_up, r22, Nat.add_assoc]
  have r33 : rf3 p 3 = some (p + 6) := by rw [(A3f p (by omega)).2.1, pb_u0_ne (by omega)]; simp [pb_ur, va_up, Nat.add_assoc]
  refine v_putFr h fl_X0_24 (by assumption) rfl rfl rfl rfl dX0_init_34 (q := 37) rfl ?_
  refine v_aload_n h (i := 0) dX0_init_37 (q := 38) rfl rfl rfl ?_
  refine v_bipush h (v := nI 16) dX0_init_38 (q := 40) rfl (by decide +kernel) ?_
  refine v_newai h tw115 rfl (by decide) (by decide) (by decide) dX0_init_40 (q := 42) rfl ?_
  refine v_putFr h fl_X0_28 (by rw [pb_uk_ne (by omega)]; exact k3) rfl rfl rfl rfl dX0_init_42 (q := 45) rfl ?_
  refine v_aload_n h (i := 0) dX0_init_45 (q := 46) rfl rfl rfl ?_
  refine v_ldc h dX0_init_46 (q := 48) rfl tw145 ?_
  refine v_puti h fl_X0_33 (by rw [pb_uk_ne (by omega)]; exact k3) rfl rfl dX0_init_48 (q := 51) rfl ?_
  refine v_aload_n h (i := 0) dX0_init_51 (q := 52) rfl rfl rfl ?_
  refine v_iload_n h (i := 1) dX0_init_52 (q := 53) rfl rfl rfl ?_
  refine v_putFi h fl_X0_37 (by rw [pb_uk_ne (by omega)]; exact k3) rfl rfl rfl rfl dX0_init_53 (q := 56) rfl ?_
  refine v_aload_n h (i := 0) dX0_init_56 (q := 57) rfl rfl rfl ?_
  refine v_aload_nN h (i := 2) dX0_init_57 (q := 58) rfl rfl rfl ?_
  refine v_putFn h fl_X0_40 (by rw [pb_uk_ne (by omega)]; exact k3) rfl rfl rfl rfl dX0_init_58 (q := 61) rfl ?_
  refine v_iconst h (v := nI 0) dX0_init_61 (q := 62) rfl (by decide +kernel) ?_
  refine v_istore_n h (i := 3) dX0_init_62 (q := 63) rfl rfl (Nat.le_of_ble_eq_true rfl) rfl ?_
  refine v_gen (fun sk4 rf4 sg4 E1 E2 E3 => ?_)
  have k4 : sk4 p = (6, 0) := by rw [E1, pb_uk_ne (by omega)]; exact k3
  have k5 : rf4 p 5 = some (p + 17) := by rw [E2]; simp [pb_ur, va_up, Nat.add_assoc]
  have k6 : sk4 (p + 17) = (1, 16) := by rw [E1]; exact if_pos rfl
  have lp : ∀ (j i : Nat), i + j = 16 → pv F 17 309 (p + 11 + 6 + 1) sk4 rf4 (pb_fillN sg4 (p + 17) 0 (-1) i) 63 [some (.ref p), some (.int x), some (.null), some (.int (nI i))] [] := by
    intro j
    induction j with
    | zero =>
      intro i  hi
      obtain rfl : i = 16 := by omega
      refine v_iload_n h (i := 3) dX0_init_63 (q := 64) rfl rfl rfl ?_
      refine v_bipush h (v := nI 16) dX0_init_64 (q := 66) rfl (by decide +kernel) ?_
      refine v_icmp_ge h dX0_init_66 (q := 69) rfl (tgt := 82) (by decide) (fun c1 => ?_) (fun c1 => pb_kle (Nat.le_refl _) (by decide) c1)
      refine v_vret h hQ rfl dX0_init_82 (by decide) (by decide) (by
          refine ⟨rfl, by omega, ⟨?_, ?_, ?_, ?_, ?_, ?_, ?_, ?_, ?_⟩, ?_, ?_, ?_, ?_, ?_, ?_, ?_, ?_, ?_⟩
          · exact k4
          · rw [E2]; simp [pb_ur, pb_u0, va_up, r32, Nat.add_assoc]
          · rw [E2]; simp [pb_ur, pb_u0, va_up, r33, Nat.add_assoc]
          · rw [E2]; simp [pb_ur, pb_u0, va_up, Nat.add_assoc]
          · rw [E2]; simp [pb_ur, pb_u0, va_up, Nat.add_assoc]
          · refine A1.of (fun a h1 h2 => ?_) ?_
            · rw [E1, pb_uk_ne (by omega), (A3f a (by omega)).1, pb_uk_ne (by omega), (A2f a (by omega)).1, pb_uk_ne (by omega)]
            · rw [E2, pb_ur_ne (by omega), pb_ur_ne (by omega), pb_u0_ne (by omega), pb_ur_ne (by omega), (A3f (p + 1) (by omega)).2.1, pb_u0_ne (by omega), pb_ur_ne (by omega), (A2f (p + 1) (by omega)).2.1, pb_u0_ne (by omega), pb_ur_ne (by omega)]
          · refine A2.of (fun a h1 h2 => ?_) ?_
            · rw [E1, pb_uk_ne (by omega), (A3f a (by omega)).1, pb_uk_ne (by omega)]
            · rw [E2, pb_ur_ne (by omega), pb_ur_ne (by omega), pb_u0_ne (by omega), pb_ur_ne (by omega), (A3f (p + 6) (by omega)).2.1, pb_u0_ne (by omega), pb_ur_ne (by omega)]
          · refine A3.of (fun a h1 h2 => ?_) ?_
            · rw [E1, pb_uk_ne (by omega)]
            · rw [E2, pb_ur_ne (by omega), pb_ur_ne (by omega), pb_u0_ne (by omega), pb_ur_ne (by omega)]
          · exact k6
          · rw [E2]; simp [pb_ur, pb_u0, va_up, Nat.add_assoc]
          · rw [pb_fill_at, if_neg (by omega), E3, pb_up_self]
          · rw [pb_fill_at, if_neg (by omega), E3, pb_up_ne3 (by decide), pb_up_self]
          · intro t ht
            obtain ⟨z1, z2, z3, z4⟩ := A1z t ht
            have zz : ∀ a, p + 2 ≤ a → a ≤ p + 5 → pb_fillN sg4 (p + 17) 0 (-1) 16 a t = sg1 a t := fun a h1 h2 => by
              rw [pb_fill_at, if_neg (by omega), E3, pb_up_ne2 (by omega), pb_up_ne2 (by omega), pb_u0_ne (by omega), (A3f a (by omega)).2.2, pb_u0_ne (by omega), (A2f a (by omega)).2.2, pb_u0_ne (by omega)]
            exact ⟨(zz _ (by omega) (by omega)).trans z1, (zz _ (by omega) (by omega)).trans z2, (zz _ (by omega) (by omega)).trans z3, (zz _ (by omega) (by omega)).trans z4⟩
          · intro t ht
            obtain ⟨z1, z2, z3, z4⟩ := A2z t ht
            have zz : ∀ a, p + 7 ≤ a → a ≤ p + 10 → pb_fillN sg4 (p + 17) 0 (-1) 16 a t = sg2 a t := fun a h1 h2 => by
              rw [pb_fill_at, if_neg (by omega), E3, pb_up_ne2 (by omega), pb_up_ne2 (by omega), pb_u0_ne (by omega), (A3f a (by omega)).2.2, pb_u0_ne (by omega)]
            exact ⟨(zz _ (by omega) (by omega)).trans z1, (zz _ (by omega) (by omega)).trans z2, (zz _ (by omega) (by omega)).trans z3, (zz _ (by omega) (by omega)).trans z4⟩
          · rw [pb_fill_at, if_neg (by omega), E3, pb_up_ne2 (by omega), pb_up_ne2 (by omega), pb_u0_ne (by omega), A3z, pb_u0_eq]
          · rw [pb_fill_at, if_neg (by omega), E3, pb_up_ne2 (by omega), pb_up_ne2 (by omega), pb_u0_ne (by omega), A3z, pb_u0_eq]
          · intro t ht
            rw [pb_fill_at, if_pos (by omega)]
          · intro a ha
            refine ⟨?_, ?_, ?_⟩
            · rw [E1, pb_uk_ne (by omega), (A3f a (by omega)).1, pb_uk_ne (by omega), (A2f a (by omega)).1, pb_uk_ne (by omega), (A1f a (by omega)).1, pb_uk_ne (by omega)]
            · rw [E2, pb_ur_ne (by omega), pb_ur_ne (by omega), pb_u0_ne (by omega), pb_ur_ne (by omega), (A3f a (by omega)).2.1, pb_u0_ne (by omega), pb_ur_ne (by omega), (A2f a (by omega)).2.1, pb_u0_ne (by omega), pb_ur_ne (by omega), (A1f a (by omega)).2.1, pb_u0_ne (by omega)]
            · funext j
              rw [pb_fill_at, if_neg (by omega), E3, pb_up_ne2 (by omega), pb_up_ne2 (by omega), pb_u0_ne (by omega), (A3f a (by omega)).2.2, pb_u0_ne (by omega), (A2f a (by omega)).2.2, pb_u0_ne (by omega), (A1f a (by omega)).2.2, pb_u0_ne (by omega)])
    | succ j ih =>
      intro i  hi
      have hi2 : i < 16 := by omega
      refine v_iload_n h (i := 3) dX0_init_63 (q := 64) rfl rfl rfl ?_
      refine v_bipush h (v := nI 16) dX0_init_64 (q := 66) rfl (by decide +kernel) ?_
      refine v_icmp_ge h dX0_init_66 (q := 69) rfl (tgt := 82) (by decide) (fun c2 => pb_kge hi2 (by decide) c2) (fun c2 => ?_)
      refine v_aload_n h (i := 0) dX0_init_69 (q := 70) rfl rfl rfl ?_
      refine v_getr h fl_X0_28 k4 rfl k5 dX0_init_70 (q := 73) rfl ?_
      refine v_iload_n h (i := 3) dX0_init_73 (q := 74) rfl rfl rfl ?_
      refine v_iconst h (v := (-1)) dX0_init_74 (q := 75) rfl (by decide +kernel) ?_
      refine v_iast h k6 (show nI i = nI (0 + i) by rw [Nat.zero_add]) (by omega) (by decide) dX0_init_75 (q := 76) rfl ?_
      refine v_iinc h dX0_init_76 (q := 79) rfl rfl pb_inc rfl ?_
      refine v_goto h dX0_init_79 (tgt := 63) (by decide) ?_
      exact ih (i + 1) (by omega)
  exact lp 16 0 (by omega)
