theorem pb_fr.to {lo hi : Nat} {sk : pb_Sk} {rf : pb_Rf} {sg : pb_Sg} {sk' : pb_Sk} {rf' : pb_Rf} {sg' : pb_Sg} (h : pb_fr lo hi sk rf sg sk' rf' sg') {a : Nat} (ha : a < lo ∨ hi ≤ a) : sk' a = sk a ∧ rf' a = rf a ∧ sg' a = sg a := h a (by omega)
/-- the system as it is made -/
def pb_nSys (X : Nat) (sk : pb_Sk) (rf : pb_Rf) (sg : pb_Sg) (sk' : pb_Sk) (rf' : pb_Rf) (sg' : pb_Sg) : Prop := pb_sys sk' rf' X (fun _ => X + 2) (fun _ => 0) 1 ∧ sg' X 1 = nI 1 ∧ sg' (X + 2) 0 = nI 0 ∧ sg' (X + 2) 6 = 1000000 ∧ (∀ t, t < 16 → sg' (X + 4) t = 0 ∧ sg' (X + 5) t = -1 ∧ sg' (X + 6) t = 0 ∧ sg' (X + 7) t = 0) ∧ sg' (X + 13) 5 = 0 ∧ sg' (X + 13) 6 = 0 ∧ sg' (X + 20) 2 = 0 ∧ (∀ i, i < 5 → sg' (X + 21) i = 0) ∧ (∀ i d, i < 5 → d < 400 → sg' (X + 23 + i) d = -1) ∧ pb_fr X (X + 45) sk rf sg sk' rf' sg'
set_option maxHeartbeats 4000000 in
set_option maxRecDepth 100000 in
theorem c_X7_init {l : Launch} (hfl : l.stackTraces = false) {sz : Nat} {sk : pb_Sk} {rf : pb_Rf} {sg : pb_Sg} {p : Nat} (h0 : sk p = (13, 0)) (hz : sz = p + 1) : pb_Met l mX7_init 4 44 4467 [.ref p] sz sk rf sg (fun r sz9 sk9 rf9 sg9 => r = .inl none ∧ sz9 = p + 45 ∧ pb_nSys p sk rf sg sk9 rf9 sg9) := by
  refine pb_start hfl (by decide +kernel) rfl (pb_c1 rfl) (Nat.le_of_ble_eq_true rfl) (fun F hF h hQ => ?_)
  subst hF
  show pv F 0 0 sz sk rf sg 0 [some (.ref p)] []
  subst hz
  refine v_aload_n h (i := 0) dX7_init_0 (q := 1) rfl rfl rfl ?_
  refine v_objInit h tw70 tw71 tw72 (by decide) (by simp [Value.category]) rfl dX7_init_1 (q := 4) rfl ?_
  refine v_aload_n h (i := 0) dX7_init_4 (q := 5) rfl rfl rfl ?_
  refine v_bipush h (v := nI 8) dX7_init_5 (q := 7) rfl (by decide +kernel) ?_
  refine v_anew h tw73 rfl (by decide) (by decide) (by decide) dX7_init_7 (q := 10) rfl ?_
  refine v_putFr h fl_X7_11 (by simp [pb_uk, h0]) rfl rfl rfl rfl dX7_init_10 (q := 13) rfl ?_
  refine v_aload_n h (i := 0) dX7_init_13 (q := 14) rfl rfl rfl ?_
  refine v_getr h fl_X7_11 (by simp [pb_uk, h0]) rfl (show (pb_ur (pb_u0 rf (p + 1) none) p 0 (some (p + 1))) p 0 = some (p + 1) from by simp [pb_ur, va_up]) dX7_init_14 (q := 17) rfl ?_
  refine v_iconst h (v := nI 0) dX7_init_17 (q := 18) rfl (by decide +kernel) ?_
  refine v_new h (c := 0) (by decide) tw73 tw75 tw48 (by decide +kernel) (by decide) (by decide) dX7_init_18 (q := 21) rfl ?_
  refine v_dup h dX7_init_21 (q := 22) rfl rfl ?_
  refine v_iconst h (v := nI 0) dX7_init_22 (q := 23) rfl (by decide +kernel) ?_
  refine v_null h dX7_init_23 (q := 24) rfl ?_
  refine v_callI h (c0_X0_init hfl (p := p + 2) (by simp [pb_uk, Nat.add_assoc]) rfl) kX0_init rfl rfl tw76 rfl rfl (by simp [Value.category]) (by decide) (by decide) (by decide) rfl dX7_init_24 (q := 27) rfl ?_ (fun _ _ _ _ _ hx9 => nomatch hx9.1)
  rintro v1 sz1 sk1 rf1 sg1 ⟨q1, rfl, A1⟩
  cases q1
  have A1f := A1.2.2.2.2.2.2.2.2.2
  have k1 : sk1 p = (13, 0) := by rw [(A1f.to (a := p) (Or.inl (by omega))).1, pb_uk_ne (by omega), pb_uk_ne (by omega)]; exact h0
  have kb : sk1 (p + 1) = (4, 8) := by rw [(A1f.to (a := p + 1) (Or.inl (by omega))).1, pb_uk_ne (by omega)]; exact pb_uk_eq
  have kc : sk1 (p + 2) = (6, 0) := A1.1.1
  refine v_aast h kb kc rfl (by first | assumption | omega) (by decide) dX7_init_27 (q := 28) rfl ?_
  refine v_aload_n h (i := 0) dX7_init_28 (q := 29) rfl rfl rfl ?_
  refine v_iconst h (v := nI 1) dX7_init_29 (q := 30) rfl (by decide +kernel) ?_
  refine v_puti h fl_X7_18 k1 rfl rfl dX7_init_30 (q := 33) rfl ?_
  refine v_aload_n h (i := 0) dX7_init_33 (q := 34) rfl rfl rfl ?_
  refine v_new h (c := 1) (by decide) tw178 tw179 tw51 (by decide +kernel) (by decide) (by decide) dX7_init_34 (q := 37) rfl ?_
  refine v_dup h dX7_init_37 (q := 38) rfl rfl ?_
  refine v_callI h (c_X1_init hfl (p := p + 20) (by simp [pb_uk, Nat.add_assoc]) rfl) kX1_init rfl rfl tw180 rfl rfl (by simp [Value.category]) (by decide) (by decide) (by decide) rfl dX7_init_38 (q := 41) rfl ?_ (fun _ _ _ _ _ hx9 => nomatch hx9.1)
  rintro v2 sz2 sk2 rf2 sg2 ⟨q2, rfl, A2, A2b, A2c, A2d, A2f⟩
  cases q2
  have k2 : sk2 p = (13, 0) := by rw [(A2f.to (a := p) (Or.inl (by omega))).1, pb_uk_ne (by omega)]; exact k1
  refine v_putFr h fl_X7_25 k2 rfl rfl rfl rfl dX7_init_41 (q := 44) rfl ?_
  refine v_aload_n h (i := 0) dX7_init_44 (q := 45) rfl rfl rfl ?_
  refine v_new h (c := 3) (by decide) tw198 tw199 tw52 (by decide +kernel) (by decide) (by decide) dX7_init_45 (q := 48) rfl ?_
  refine v_dup h dX7_init_48 (q := 49) rfl rfl ?_
  refine v_callIN h (c_X3_init hfl (p := p + 28) (by simp [pb_uk, Nat.add_assoc]) rfl) kX3_init rfl rfl tw200 rfl rfl (by simp [Value.category]) (by decide) (by decide) (by decide) rfl dX7_init_49 (q := 52) rfl ?_ (fun _ _ _ _ _ hx9 => nomatch hx9.1)
  rintro v3 sz3 sk3 rf3 sg3 ⟨q3, rfl, A3, A3f⟩
  cases q3
  have k3 : sk3 p = (13, 0) := by rw [(A3f.to (a := p) (Or.inl (by omega))).1, pb_uk_ne (by omega)]; exact k2
  refine v_putFr h fl_X7_32 k3 rfl rfl rfl rfl dX7_init_52 (q := 55) rfl ?_
  refine v_aload_n h (i := 0) dX7_init_55 (q := 56) rfl rfl rfl ?_
  refine v_new h (c := 6) (by decide) tw219 tw220 tw53 (by decide +kernel) (by decide) (by decide) dX7_init_56 (q := 59) rfl ?_
  refine v_dup h dX7_init_59 (q := 60) rfl rfl ?_
  refine v_callIN h (c_X6_init hfl (p := p + 34) (by simp [pb_uk, Nat.add_assoc]) rfl) kX6_init rfl rfl tw221 rfl rfl (by simp [Value.category]) (by decide) (by decide) (by decide) rfl dX7_init_60 (q := 63) rfl ?_ (fun _ _ _ _ _ hx9 => nomatch hx9.1)
  rintro v4 sz4 sk4 rf4 sg4 ⟨q4, rfl, A4, A4f⟩
  cases q4
  have k4 : sk4 p = (13, 0) := by rw [(A4f.to (a := p) (Or.inl (by omega))).1, pb_uk_ne (by omega)]; exact k3
  refine v_putFr h fl_X7_39 k4 rfl rfl rfl rfl dX7_init_63 (q := 66) rfl ?_
  refine v_aload_n h (i := 0) dX7_init_66 (q := 67) rfl rfl rfl ?_
  refine v_new h (c := 5) (by decide) tw237 tw238 tw54 (by decide +kernel) (by decide) (by decide) dX7_init_67 (q := 70) rfl ?_
  refine v_dup h dX7_init_70 (q := 71) rfl rfl ?_
  refine v_callIN h (c_X5_init hfl (p := p + 37) (by simp [pb_uk, Nat.add_assoc]) rfl) kX5_init rfl rfl tw239 rfl rfl (by simp [Value.category]) (by decide) (by decide) (by decide) rfl dX7_init_71 (q := 74) rfl ?_ (fun _ _ _ _ _ hx9 => nomatch hx9.1)
  rintro v5 sz5 sk5 rf5 sg5 ⟨q5, rfl, A5, A5f⟩
  cases q5
  have k5 : sk5 p = (13, 0) := by rw [(A5f.to (a := p) (Or.inl (by omega))).1, pb_uk_ne (by omega)]; exact k4
  refine v_putFr h fl_X7_46 k5 rfl rfl rfl rfl dX7_init_74 (q := 77) rfl ?_
  refine v_aload_n h (i := 0) dX7_init_77 (q := 78) rfl rfl rfl ?_
  refine v_iconst h (v := nI 0) dX7_init_78 (q := 79) rfl (by decide +kernel) ?_
  refine v_puti h fl_X7_50 k5 rfl rfl dX7_init_79 (q := 82) rfl ?_
  refine v_vret h hQ rfl dX7_init_82 (by decide) (by decide) (by
      have f5 : ∀ a, a < p + 37 → sk5 a = sk4 a ∧ (a ≠ p → rf5 a = rf4 a) ∧ sg5 a = sg4 a := fun a ha => by
        obtain ⟨u1, u2, u3⟩ := A5f.to (Or.inl ha)
        exact ⟨u1.trans (pb_uk_ne (by omega)), fun hp => u2.trans ((pb_u0_ne (by omega)).trans (pb_ur_ne hp)), u3.trans (pb_u0_ne (by omega))⟩
      have f4 : ∀ a, a < p + 34 → sk4 a = sk3 a ∧ (a ≠ p → rf4 a = rf3 a) ∧ sg4 a = sg3 a := fun a ha => by
        obtain ⟨u1, u2, u3⟩ := A4f.to (Or.inl ha)
        exact ⟨u1.trans (pb_uk_ne (by omega)), fun hp => u2.trans ((pb_u0_ne (by omega)).trans (pb_ur_ne hp)), u3.trans (pb_u0_ne (by omega))⟩
      have f3 : ∀ a, a < p + 28 → sk3 a = sk2 a ∧ (a ≠ p → rf3 a = rf2 a) ∧ sg3 a = sg2 a := fun a ha => by
        obtain ⟨u1, u2, u3⟩ := A3f.to (Or.inl ha)
        exact ⟨u1.trans (pb_uk_ne (by omega)), fun hp => u2.trans ((pb_u0_ne (by omega)).trans (pb_ur_ne hp)), u3.trans (pb_u0_ne (by omega))⟩
      have f2 : ∀ a, a < p + 20 → sk2 a = sk1 a ∧ (a ≠ p + 1 → rf2 a = rf1 a) ∧ (a ≠ p → sg2 a = sg1 a) := fun a ha => by
        obtain ⟨u1, u2, u3⟩ := A2f.to (Or.inl ha)
        exact ⟨u1.trans (pb_uk_ne (by omega)), fun hp => u2.trans ((pb_u0_ne (by omega)).trans (pb_ur_ne hp)), fun hp => u3.trans ((pb_u0_ne (by omega)).trans (pb_up_ne hp))⟩
      have g3 : ∀ a, a < p + 20 → sk5 a = sk1 a ∧ (a ≠ p → a ≠ p + 1 → rf5 a = rf1 a) ∧ (a ≠ p → sg5 a = sg1 a) := fun a ha => by
        obtain ⟨u1, u2, u3⟩ := f5 a (by omega)
        obtain ⟨v1, v2, v3⟩ := f4 a (by omega)
        obtain ⟨w1, w2, w3⟩ := f3 a (by omega)
        obtain ⟨x1, x2, x3⟩ := f2 a ha
        exact ⟨u1.trans (v1.trans (w1.trans x1)), fun h1 h2 => (u2 h1).trans ((v2 h1).trans ((w2 h1).trans (x2 h2))), fun h1 => u3.trans (v3.trans (w3.trans (x3 h1)))⟩
      obtain ⟨b1, b2, b3, b4, b5, b6, b7, b8, b9, A1f⟩ := A1
      have rr : ∀ k, k ≠ 5 → pb_ur rf5 p 5 (some (p + 34 + 3)) p k = rf5 p k := fun k hk => by rw [pb_ur_eq]; exact if_neg hk
      have r5 : rf5 p = va_up (va_up (va_up (rf2 p) 2 (some (p + 2 + 18))) 3 (some (p + 20 + 8))) 4 (some (p + 28 + 6)) := by
        rw [(A5f.to (a := p) (Or.inl (by omega))).2.1, pb_u0_ne (by omega), pb_ur_eq, (A4f.to (a := p) (Or.inl (by omega))).2.1, pb_u0_ne (by omega), pb_ur_eq, (A3f.to (a := p) (Or.inl (by omega))).2.1, pb_u0_ne (by omega), pb_ur_eq]
      have r2 : rf2 p 0 = some (p + 1) := by
        rw [(A2f.to (a := p) (Or.inl (by omega))).2.1, pb_u0_ne (by omega), pb_ur_ne (by omega), (A1f.to (a := p) (Or.inl (by omega))).2.1, pb_u0_ne (by omega)]
        simp [pb_ur, va_up]
      have rb : ∀ k, pb_ur rf5 p 5 (some (p + 34 + 3)) (p + 1) k = va_up (rf1 (p + 1)) 0 (some (p + 2)) k := fun k => by
        rw [pb_ur_ne (by omega), (f5 _ (by omega)).2.1 (by omega), (f4 _ (by omega)).2.1 (by omega), (f3 _ (by omega)).2.1 (by omega), (A2f.to (a := p + 1) (Or.inl (by omega))).2.1, pb_u0_ne (by omega), pb_ur_eq]
      have rb1 : ∀ k, rf1 (p + 1) k = none := fun k => by
        rw [(A1f.to (a := p + 1) (Or.inl (by omega))).2.1, pb_u0_ne (by omega), pb_ur_ne (by omega), pb_u0_eq]
      have kX : sk5 p = (13, 0) := k5
      refine ⟨rfl, by omega, ⟨kX, ?_, ?_, ?_, ?_, ?_, ?_, ?_, ?_, ?_, ?_, ⟨by omega, by omega⟩, ?_, ?_, ?_, ?_⟩, ?_, ?_, ?_, ?_, ?_, ?_, ?_, ?_, ?_, ?_⟩
      · rw [rr 0 (by decide), r5]; simp [va_up, r2]
      · rw [rr 2 (by decide), r5]; simp [va_up]
      · rw [rr 3 (by decide), r5]; simp [va_up]
      · rw [rr 4 (by decide), r5]; simp [va_up]
      · rw [pb_ur_eq]; exact if_pos rfl
      · rw [(g3 _ (by omega)).1]; exact kb
      · refine A2.of (fun a h1 h2 => ⟨?_, ?_⟩)
        · rw [(f5 a (by omega)).1, (f4 a (by omega)).1, (f3 a (by omega)).1]
        · rw [pb_ur_ne (by omega), (f5 a (by omega)).2.1 (by omega), (f4 a (by omega)).2.1 (by omega), (f3 a (by omega)).2.1 (by omega)]
      · refine A3.of (fun a h1 h2 => ⟨?_, ?_⟩)
        · rw [(f5 a (by omega)).1, (f4 a (by omega)).1]
        · rw [pb_ur_ne (by omega), (f5 a (by omega)).2.1 (by omega), (f4 a (by omega)).2.1 (by omega)]
      · refine A4.of (fun a h1 h2 => ⟨?_, ?_⟩)
        · rw [(f5 a (by omega)).1]
        · rw [pb_ur_ne (by omega), (f5 a (by omega)).2.1 (by omega)]
      · exact A5.of (fun a h1 h2 => ⟨rfl, pb_ur_ne (by omega)⟩)
      · intro b hb
        obtain rfl : b = 0 := by omega
        refine ⟨by rw [rb]; exact if_pos rfl, b1.of (fun a h1 h2 => ⟨(g3 a (by omega)).1, ?_⟩)⟩
        rw [pb_ur_ne (by omega)]
        exact (g3 a (by omega)).2.1 (by omega) (by omega)
      · intro b h1 h2
        rw [rb, ← rb1 b]
        exact if_neg (by omega)
      · show pb_ur rf5 p 5 (some (p + 34 + 3)) (p + 2) 1 = none
        rw [pb_ur_ne (by omega), (g3 (p + 2) (by omega)).2.1 (by omega) (by omega)]
        exact b2
      · intro b h1 h2; omega
      · rw [pb_up_ne3 (by decide), (f5 p (by omega)).2.2, (f4 p (by omega)).2.2, (f3 p (by omega)).2.2, (A2f.to (a := p) (Or.inl (by omega))).2.2, pb_u0_ne (by omega), pb_up_self]
      · rw [pb_up_ne2 (by omega), (g3 _ (by omega)).2.2 (by omega)]; exact b3
      · rw [pb_up_ne2 (by omega), (g3 _ (by omega)).2.2 (by omega)]; exact b4
      · intro t ht
        rw [pb_up_ne2 (by omega), pb_up_ne2 (by omega), pb_up_ne2 (by omega), pb_up_ne2 (by omega), (g3 _ (by omega)).2.2 (by omega), (g3 _ (by omega)).2.2 (by omega), (g3 _ (by omega)).2.2 (by omega), (g3 _ (by omega)).2.2 (by omega)]
        exact b5 t ht
      · rw [pb_up_ne2 (by omega), (g3 _ (by omega)).2.2 (by omega)]; exact b7
      · rw [pb_up_ne2 (by omega), (g3 _ (by omega)).2.2 (by omega)]; exact b8
      · rw [pb_up_ne2 (by omega), (f5 _ (by omega)).2.2, (f4 _ (by omega)).2.2, (f3 _ (by omega)).2.2, A2b, pb_u0_eq]
      · intro i hi
        rw [pb_up_ne2 (by omega), (f5 _ (by omega)).2.2, (f4 _ (by omega)).2.2, (f3 _ (by omega)).2.2]
        exact A2c i hi
      · intro i d hi hd
        rw [pb_up_ne2 (by omega), (f5 _ (by omega)).2.2, (f4 _ (by omega)).2.2, (f3 _ (by omega)).2.2]
        exact A2d i d hi hd
      · intro a ha
        obtain ⟨u1, u2, u3⟩ := A5f.to (a := a) (by omega)
        obtain ⟨v1, v2, v3⟩ := A4f.to (a := a) (by omega)
        obtain ⟨w1, w2, w3⟩ := A3f.to (a := a) (by omega)
        obtain ⟨x1, x2, x3⟩ := A2f.to (a := a) (by omega)
        obtain ⟨y1, y2, y3⟩ := A1f.to (a := a) (by omega)
        refine ⟨?_, ?_, ?_⟩
        · rw [u1, pb_uk_ne (by omega), v1, pb_uk_ne (by omega), w1, pb_uk_ne (by omega), x1, pb_uk_ne (by omega), y1, pb_uk_ne (by omega), pb_uk_ne (by omega)]
        · rw [pb_ur_ne (by omega), u2, pb_u0_ne (by omega), pb_ur_ne (by omega), v2, pb_u0_ne (by omega), pb_ur_ne (by omega), w2, pb_u0_ne (by omega), pb_ur_ne (by omega), x2, pb_u0_ne (by omega), pb_ur_ne (by omega), y2, pb_u0_ne (by omega), pb_ur_ne (by omega), pb_u0_ne (by omega)]
        · rw [pb_up_ne (by omega), u3, pb_u0_ne (by omega), v3, pb_u0_ne (by omega), w3, pb_u0_ne (by omega), x3, pb_u0_ne (by omega), pb_up_ne (by omega), y3, pb_u0_ne (by omega), pb_u0_ne (by omega)])
