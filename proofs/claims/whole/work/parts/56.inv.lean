/-! THE INVARIANT of the law's loop: class at X, reference at X + 45, the row for answers at X + 70, later branches from X + 71 on. -/
def pq_ib (X : Nat) (S S' : pb_Sg) (β b : Nat) : Prop := pq_eq S S' (β + 1) (X + 45) b ∧ pq_gpN S (β + 1) 16 ∧ S β 0 = nI b ∧ S β 6 = S' (X + 45 + 6) b ∧ ∃ nx s, pq_hr S S' (β + 11) (X + 45) b nx s
def pq_ic (X : Nat) (S S' : pb_Sg) (β b f : Nat) : Prop := pq_eq S S' (β + 6) (X + 45) (8 + b) ∧ S' (X + 45 + 5) b = nI f ∧ ∀ t, t < 16 → S (β + 17) t = S' (X + 45 + 7) (16 * b + t)
/-- who holds a crew, were it y's -/
def pq_mh2 (S : pb_Sg) (M c : Nat) (x y : Int32) : Nat → Int32
  | 0 => y
  | n + 1 => if S (M + 15) n = nI c ∧ S (M + 17) n ≤ x ∧ x ≤ S (M + 18) n then S (M + 16) n else pq_mh2 S M c x y n
theorem pq_mh2_eq {S : pb_Sg} {M c : Nat} {x : Int32} (n : Nat) : pb_mh S M c x n = pq_mh2 S M c x (S (M + 14) c) n := by
  induction n with
  | zero => rfl
  | succ n ih =>
    unfold pb_mh pq_mh2
    rw [ih]
theorem pq_mh2_of {S T : pb_Sg} {M c : Nat} {x y : Int32} (h : ∀ k, 15 ≤ k → k ≤ 18 → T (M + k) = S (M + k)) (n : Nat) : pq_mh2 T M c x y n = pq_mh2 S M c x y n := by
  induction n with
  | zero => rfl
  | succ n ih =>
    unfold pq_mh2
    rw [ih, h 15 (by omega) (by omega), h 16 (by omega) (by omega), h 17 (by omega) (by omega), h 18 (by omega) (by omega)]
def pq_id (X : Nat) (S S' : pb_Sg) : Prop := (∀ i, i < 5 → S (X + 20 + 1) i = S' (X + 45 + 14) i) ∧ ∃ k, k ≤ 40 ∧ S (X + 20) 2 = nI k ∧ S' (X + 45) 20 = nI k ∧ ∀ i, i < 5 → ∀ d, d < 400 → ∀ y, pq_mh2 S' (X + 45) i (nI d) y k = if S (X + 20 + 3 + i) d = -1 then y else S (X + 20 + 3 + i) d
def pq_inv (X n : Nat) (B par : Nat → Nat) (S S' : pb_Sg) : Prop := (S X 1 = nI n ∧ S' (X + 45) 8 = nI n ∧ S' (X + 45 + 5) 0 = -1 ∧ ∀ c, n ≤ c → c < 8 → S' (X + 45 + 13) c = nI 0) ∧ (∀ b, b < n → pq_ib X S S' (B b) b) ∧ (∀ b, 0 < b → b < n → pq_ic X S S' (B b) b (par b)) ∧ pq_id X S S'
/-- the objects -/
def pq_sk (X n : Nat) (B par : Nat → Nat) (sz : Nat) (sk : pb_Sk) (rf : pb_Rf) : Prop := pb_sys sk rf X B par n ∧ pb_lyt X B n ∧ pb_md sk rf (X + 45) ∧ sk (X + 70) = (3, 1) ∧ X + 71 ≤ sz ∧ ∀ b, 0 < b → b < n → X + 71 ≤ B b ∧ B b + 18 ≤ sz
def pq_INV (X sz : Nat) (sk : pb_Sk) (rf : pb_Rf) (sg : pb_Sg) : Prop := ∃ (n : Nat) (B par : Nat → Nat), pq_sk X n B par sz sk rf ∧ pq_inv X n B par sg sg
theorem pq_sk.le {X n : Nat} {B par : Nat → Nat} {sz sz' : Nat} {sk : pb_Sk} {rf : pb_Rf} (h : pq_sk X n B par sz sk rf) (hz : sz ≤ sz') : pq_sk X n B par sz' sk rf := by
  obtain ⟨h1, h2, h3, h4, h5, h6⟩ := h
  exact ⟨h1, h2, h3, h4, by omega, fun b b0 b1 => ⟨(h6 b b0 b1).1, by have := (h6 b b0 b1).2; omega⟩⟩
theorem pq_bl {X n : Nat} {B par : Nat → Nat} {sz : Nat} {sk : pb_Sk} {rf : pb_Rf} (h : pq_sk X n B par sz sk rf) {b : Nat} (hb : b < n) : B b = X + 2 ∨ X + 71 ≤ B b := by
  by_cases e : b = 0
  · rw [e]; exact Or.inl h.2.1.1
  · exact Or.inr (h.2.2.2.2.2 b (by omega) hb).1
theorem pq_dis {X n : Nat} {B par : Nat → Nat} {sz : Nat} {sk : pb_Sk} {rf : pb_Rf} (h : pq_sk X n B par sz sk rf) {b c : Nat} (hb : b < n) (hc : c < n) (hne : b ≠ c) : B b + 18 ≤ B c ∨ B c + 18 ≤ B b := by
  have h0 := h.2.1.1
  by_cases e1 : b = 0
  · have h2 := (h.2.2.2.2.2 c (by omega) hc).1
    subst e1
    omega
  · by_cases e2 : c = 0
    · have h2 := (h.2.2.2.2.2 b (by omega) hb).1
      subst e2
      omega
    · rcases Nat.lt_or_ge b c with e3 | e3
      · exact Or.inl (h.2.1.2.2 b c (by omega) e3 hc)
      · exact Or.inr (h.2.1.2.2 c b (by omega) (by omega) hb)
theorem pq_par {X n : Nat} {B par : Nat → Nat} {sz : Nat} {sk : pb_Sk} {rf : pb_Rf} (h : pq_sk X n B par sz sk rf) {b : Nat} (b0 : 0 < b) (hb : b < n) : par b < b := (h.1.2.2.2.2.2.2.2.2.2.2.2.2.2.2.2 b b0 hb).2
theorem pq_n8 {X n : Nat} {B par : Nat → Nat} {sz : Nat} {sk : pb_Sk} {rf : pb_Rf} (h : pq_sk X n B par sz sk rf) : 1 ≤ n ∧ n ≤ 8 := h.1.2.2.2.2.2.2.2.2.2.2.2.1
/-- what is a branch's own at the reference -/
def pq_oB (b k j : Nat) : Prop := (1 ≤ k ∧ k ≤ 4 ∧ 16 * b ≤ j ∧ j < 16 * b + 16) ∨ (k = 6 ∧ j = b) ∨ (8 ≤ k ∧ k ≤ 12 ∧ 30 * b ≤ j ∧ j < 30 * b + 30) ∨ (k = 13 ∧ j = b)
def pq_oC (b k j : Nat) : Prop := (1 ≤ k ∧ k ≤ 4 ∧ 16 * (8 + b) ≤ j ∧ j < 16 * (8 + b) + 16) ∨ (k = 5 ∧ j = b) ∨ (k = 7 ∧ 16 * b ≤ j ∧ j < 16 * b + 16)
theorem pq_ib.of {X : Nat} {S S' T T' : pb_Sg} {β b : Nat} (h : pq_ib X S S' β b) (h1 : ∀ a, β ≤ a → a < β + 17 → T a = S a) (h2 : ∀ k j, pq_oB b k j → T' (X + 45 + k) j = S' (X + 45 + k) j) : pq_ib X T T' β b := by
  obtain ⟨a1, a2, a3, a4, nx, s, a5⟩ := h
  refine ⟨a1.of (fun k hk t ht => by rw [h1 _ (by omega) (by omega)]) (fun k k1 k4 t ht => h2 k _ (Or.inl ⟨k1, k4, by omega, by omega⟩)), pq_gpN_of a2 (fun k k1 k4 t ht => by rw [h1 _ (by omega) (by omega)]), by rw [h1 β (by omega) (by omega), a3], by rw [h1 β (by omega) (by omega), h2 6 b (Or.inr (Or.inl ⟨rfl, rfl⟩)), a4], nx, s, a5.of (fun a e1 e2 => h1 a (by omega) (by omega)) (fun k k1 k2 i hi => h2 k _ (Or.inr (Or.inr (Or.inl ⟨k1, k2, by omega, by omega⟩)))) (h2 13 b (Or.inr (Or.inr (Or.inr ⟨rfl, rfl⟩))))⟩
theorem pq_ic.of {X : Nat} {S S' T T' : pb_Sg} {β b f : Nat} (h : pq_ic X S S' β b f) (h1 : ∀ a, β + 6 ≤ a → a < β + 18 → (a < β + 11 ∨ a = β + 17) → T a = S a) (h2 : ∀ k j, pq_oC b k j → T' (X + 45 + k) j = S' (X + 45 + k) j) : pq_ic X T T' β b f := by
  obtain ⟨a1, a2, a3⟩ := h
  refine ⟨a1.of (fun k hk t ht => by rw [h1 _ (by omega) (by omega) (by omega)]) (fun k k1 k4 t ht => h2 k _ (Or.inl ⟨k1, k4, by omega, by omega⟩)), by rw [h2 5 b (Or.inr (Or.inl ⟨rfl, rfl⟩)), a2], fun t ht => ?_⟩
  rw [h1 _ (by omega) (by omega) (by omega), h2 7 _ (Or.inr (Or.inr ⟨rfl, by omega, by omega⟩)), a3 t ht]
theorem pq_id.of {X : Nat} {S S' T T' : pb_Sg} (h : pq_id X S S') (h1 : ∀ a, X + 20 < a → a < X + 28 → T a = S a) (h2 : T (X + 20) 2 = S (X + 20) 2) (h3 : ∀ k, 14 ≤ k → k ≤ 18 → T' (X + 45 + k) = S' (X + 45 + k)) (h4 : T' (X + 45) 20 = S' (X + 45) 20) : pq_id X T T' := by
  obtain ⟨a1, k, a2, a3, a4, a5⟩ := h
  refine ⟨fun i hi => by rw [h1 _ (by omega) (by omega), h3 14 (by omega) (by omega), a1 i hi], k, a2, by rw [h2, a3], by rw [h4, a4], fun i hi d hd y => ?_⟩
  rw [h1 _ (by omega) (by omega), pq_mh2_of (S := S') (fun j j1 j2 => h3 j (by omega) j2)]
  exact a5 i hi d hd y
theorem pq_inv.ofC {X n : Nat} {B par : Nat → Nat} {S S' T : pb_Sg} (h : pq_inv X n B par S S') (hB : ∀ b, b < n → B b = X + 2 ∨ X + 71 ≤ B b) (h1 : ∀ a, (X < a ∧ a < X + 28) ∨ X + 71 ≤ a → T a = S a) (h2 : T X 1 = S X 1) : pq_inv X n B par T S' := by
  obtain ⟨⟨a1, a2, a3⟩, a4, a5, a6⟩ := h
  refine ⟨⟨by rw [h2, a1], a2, a3⟩, fun b hb => (a4 b hb).of (fun a e1 e2 => h1 a (by have := hB b hb; omega)) (fun _ _ _ => rfl), fun b b0 hb => (a5 b b0 hb).of (fun a e1 e2 _ => h1 a (by have := hB b hb; omega)) (fun _ _ _ => rfl), a6.of (fun a e1 e2 => h1 a (by omega)) (by rw [h1 (X + 20) (by omega)]) (fun _ _ _ => rfl) rfl⟩
theorem pq_inv.ofM {X n : Nat} {B par : Nat → Nat} {S S' T' : pb_Sg} (h : pq_inv X n B par S S') (h1 : ∀ k, 1 ≤ k → k ≤ 18 → T' (X + 45 + k) = S' (X + 45 + k)) (h2 : T' (X + 45) 8 = S' (X + 45) 8) (h3 : T' (X + 45) 20 = S' (X + 45) 20) : pq_inv X n B par S T' := by
  obtain ⟨⟨a1, a2, a3⟩, a4, a5, a6⟩ := h
  refine ⟨⟨a1, by rw [h2, a2], by rw [h1 5 (by omega) (by omega), a3.1], fun c c1 c2 => by rw [h1 13 (by omega) (by omega), a3.2 c c1 c2]⟩, fun b hb => (a4 b hb).of (fun _ _ _ => rfl) (fun k j hk => by rw [h1 k (by unfold pq_oB at hk; omega) (by unfold pq_oB at hk; omega)]), fun b b0 hb => (a5 b b0 hb).of (fun _ _ _ _ => rfl) (fun k j hk => by rw [h1 k (by unfold pq_oC at hk; omega) (by unfold pq_oC at hk; omega)]), a6.of (fun _ _ _ => rfl) rfl (fun k k1 k2 => h1 k (by omega) k2) h3⟩
/-- who holds the crews, out of the invariant -/
theorem pq_inv_hd {X n : Nat} {B par : Nat → Nat} {S S' : pb_Sg} (h : pq_inv X n B par S S') : ∃ k, k ≤ 40 ∧ S (X + 20) 2 = nI k ∧ S' (X + 45) 20 = nI k ∧ pq_hd S S' (X + 20) (X + 45) k := by
  obtain ⟨a1, k, a2, a3, a4, a5⟩ := h.2.2.2
  refine ⟨k, a2, a3, a4, fun i hi d hd => ?_⟩
  rw [pq_mh2_eq, a5 i hi d hd, ← a1 i hi]
  rfl
/-- ONE CALL OF THE LAW: the class's, by the law's helper, and the reference's, with av -/
def pq_stp (l : Launch) (μL μ8 : pb_M) (X : Nat) (av : List Value) (P : Int32 → Prop) (sz : Nat) (sk : pb_Sk) (rf : pb_Rf) (sg : pb_Sg) : Prop := ∃ (k kc nc : Nat) (post : pb_Post), k ≤ 3 ∧ kc ≤ 18 ∧ nc ≤ 400 ∧ pb_Met l μL 20 kc nc (.ref X :: (av ++ [.ref (X + 70)])) sz sk rf sg post ∧ ∀ r sz' sk' rf' sg', post r sz' sk' rf' sg' → r = .inl (some (.int (nI k))) ∧ ∃ (d8 : Nat) (w : Int32) (sg2 : pb_Sg), d8 ≤ 7 ∧ P w ∧ pb_Met l μ8 d8 0 0 (.ref (X + 45) :: av) sz' sk' rf' sg' (pb_is (some (.int w)) sz' sk' rf' sg2) ∧ sg2 (X + 45) 0 = nI k ∧ (k = 0 → sg2 (X + 70) 0 = w) ∧ pq_INV X sz' sk' rf' sg2
theorem pq_fin {X n : Nat} {B par : Nat → Nat} {C sg2 : pb_Sg} (h : pq_inv X n B par C sg2) (hB : ∀ b, b < n → B b = X + 2 ∨ X + 71 ≤ B b) (hF : ∀ a, (a < X + 45 ∨ X + 70 < a) → sg2 a = C a) : pq_inv X n B par sg2 sg2 := h.ofC hB (fun a ha => hF a (by omega)) (by rw [hF X (by omega)])
theorem pq_stp_ok {l : Launch} {μL μ8 : pb_M} {X n : Nat} {B par : Nat → Nat} {av : List Value} {P : Int32 → Prop} {sz : Nat} {sk : pb_Sk} {rf : pb_Rf} {sg C sg2 : pb_Sg} {d8 : Nat} {v w : Int32} (hsk : pq_sk X n B par sz sk rf) (hP : P w) (hd : d8 ≤ 7) (hL : pb_Met l μL 20 0 0 (.ref X :: (av ++ [.ref (X + 70)])) sz sk rf sg (pb_is (some (.int (nI 0))) sz sk rf (pb_up C (X + 70) 0 v))) (h8 : pb_Met l μ8 d8 0 0 (.ref (X + 45) :: av) sz sk rf (pb_up C (X + 70) 0 v) (pb_is (some (.int w)) sz sk rf sg2)) (ht : sg2 (X + 45) 0 = nI 0) (hvw : v = w) (hF : ∀ a, (a < X + 45 ∨ X + 69 < a) → sg2 a = pb_up C (X + 70) 0 v a) (hi : pq_inv X n B par C sg2) : pq_stp l μL μ8 X av P sz sk rf sg := by
  refine ⟨0, 0, 0, _, by omega, by omega, by omega, hL, ?_⟩
  rintro r sz' sk' rf' sg' ⟨rfl, rfl, rfl, rfl, rfl⟩
  refine ⟨rfl, d8, w, sg2, hd, hP, h8, ht, fun _ => ?_, n, B, par, hsk, pq_fin hi (fun b hb => pq_bl hsk hb) (fun a ha => ?_)⟩
  · rw [hF (X + 70) (by omega), pb_up_self, hvw]
  · rw [hF a (by omega), pb_up_neA (by omega)]
theorem pq_stp_x {l : Launch} {μL μ8 : pb_M} {X n : Nat} {B par : Nat → Nat} {av : List Value} {P : Int32 → Prop} {sz : Nat} {sk : pb_Sk} {rf : pb_Rf} {sg C sg2 : pb_Sg} {d8 k : Nat} {w : Int32} (hsk : pq_sk X n B par sz sk rf) (hk : 1 ≤ k ∧ k ≤ 3) (hP : P w) (hd : d8 ≤ 7) (hL : pb_Met l μL 20 1 6 (.ref X :: (av ++ [.ref (X + 70)])) sz sk rf sg (pb_cau (nI k) sz sk rf C)) (h8 : ∀ sz', pb_Met l μ8 d8 0 0 (.ref (X + 45) :: av) sz' sk rf C (pb_is (some (.int w)) sz' sk rf sg2)) (ht : sg2 (X + 45) 0 = nI k) (hF : ∀ a, (a < X + 45 ∨ X + 69 < a) → sg2 a = C a) (hi : pq_inv X n B par C sg2) : pq_stp l μL μ8 X av P sz sk rf sg := by
  refine ⟨k, 1, 6, _, by omega, by omega, by omega, hL, ?_⟩
  rintro r sz' sk' rf' sg' ⟨rfl, hz, rfl, rfl, rfl⟩
  exact ⟨rfl, d8, w, sg2, hd, hP, h8 sz', ht, fun q => by omega, n, B, par, hsk.le hz, pq_fin hi (fun b hb => pq_bl hsk hb) (fun a ha => hF a (by omega))⟩
theorem pq_up_M {X n : Nat} {B par : Nat → Nat} {S S' : pb_Sg} {x : Int32} (h : pq_inv X n B par S S') : pq_inv X n B par S (pb_up S' (X + 45) 0 x) := h.ofM (fun k k1 k2 => pb_up_neA (by omega)) (pb_up_ne3 (by omega)) (pb_up_ne3 (by omega))
/-- both refuse the call -/
theorem pq_stp_x0 {l : Launch} {μL μ8 : pb_M} {X n : Nat} {B par : Nat → Nat} {av : List Value} {P : Int32 → Prop} {sz : Nat} {sk : pb_Sk} {rf : pb_Rf} {sg : pb_Sg} {d8 k : Nat} (hsk : pq_sk X n B par sz sk rf) (hinv : pq_inv X n B par sg sg) (hk : 1 ≤ k ∧ k ≤ 3) (hP : P (nI 0)) (hd : d8 ≤ 7) (hL : pb_Met l μL 20 1 6 (.ref X :: (av ++ [.ref (X + 70)])) sz sk rf sg (pb_cau (nI k) sz sk rf sg)) (h8 : ∀ sz', pb_Met l μ8 d8 0 0 (.ref (X + 45) :: av) sz' sk rf sg (pb_is (some (.int (nI 0))) sz' sk rf (pb_up sg (X + 45) 0 (nI k)))) : pq_stp l μL μ8 X av P sz sk rf sg :=
  pq_stp_x hsk hk hP hd hL h8 pb_up_self (fun a ha => pb_up_neA (by omega)) (pq_up_M hinv)
theorem pq_rng {x : Int32} {m : Nat} (hm : m < 2147483648) (h : nI 0 ≤ x ∧ x ≤ nI m) : ∃ j, j ≤ m ∧ x = nI j := nI_of2 (nI_toInt hm) (Int32.not_lt.mpr h.1) h.2
/-- the reference's memory, as it begins a call: the class's call and the answer's row leave it -/
theorem pq_in0 {X n : Nat} {B par : Nat → Nat} {S C : pb_Sg} {v : Int32} (h : pq_inv X n B par S S) (hF : ∀ a, X + 45 ≤ a → a < X + 70 → C a = S a) : pq_inv X n B par S (pb_up C (X + 70) 0 v) := h.ofM (fun k k1 k2 => by rw [pb_up_neA (by omega), hF _ (by omega) (by omega)]) (by rw [pb_up_neA (by omega), hF _ (by omega) (by omega)]) (by rw [pb_up_neA (by omega), hF _ (by omega) (by omega)])
