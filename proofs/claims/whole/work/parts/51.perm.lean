/-! All orders of tasks, in the order of the figures: the reference's turning, and the class's search. -/
def pq_pm : Nat → List Nat → List (List Nat)
  | 0, _ => [[]]
  | k + 1, l => l.flatMap (fun t => (pq_pm k (l.filter (fun x => x != t))).map (fun r => t :: r))
def pq_tk (o : Nat → Nat) : Nat → Option Nat
  | 0 => none
  | n + 1 => if o n ≤ o (n + 1) then some n else pq_tk o n
def pq_te (o : Nat → Nat) (v : Nat) : Nat → Nat
  | 0 => 0
  | n + 1 => if o (n + 1) < v then pq_te o v n else n + 1
def pq_sw (o : Nat → Nat) (a b : Nat) : Nat → Nat := fun k => if k = b then o a else if k = a then o b else o k
def pq_rv (o : Nat → Nat) (a b : Nat) : Nat → Nat → Nat
  | 0 => o
  | n + 1 => pq_sw (pq_rv o a b n) (a + n) (b - n)
def pq_tn (o : Nat → Nat) (m k : Nat) : Nat → Nat := pq_rv (pq_sw o k (pq_te o (o k) (m - 1))) (k + 1) (m - 1) ((m - 1 - k) / 2)
def pq_at (l : List Nat) (k : Nat) : Nat := l.getD k 0
def pq_nxt (m : Nat) (l : List Nat) : Option (List Nat) := match pq_tk (pq_at l) (m - 1) with
  | none => none
  | some k => some ((List.range m).map (pq_tn (pq_at l) m k))
def pq_okl (m : Nat) (l : List Nat) : Bool := decide (l.length = m) && l.all (fun x => decide (x < m)) && decide l.Nodup
def pq_chain (m : Nat) : List (List Nat) → Bool
  | [] => false
  | [a] => pq_okl m a && decide (pq_nxt m a = none)
  | a :: b :: r => pq_okl m a && decide (pq_nxt m a = some b) && pq_chain m (b :: r)
theorem pq_chain_1 : pq_chain 1 (pq_pm 1 (List.range 1)) = true := by decide +kernel
theorem pq_chain_2 : pq_chain 2 (pq_pm 2 (List.range 2)) = true := by decide +kernel
theorem pq_chain_3 : pq_chain 3 (pq_pm 3 (List.range 3)) = true := by decide +kernel
theorem pq_chain_4 : pq_chain 4 (pq_pm 4 (List.range 4)) = true := by decide +kernel
theorem pq_chain_5 : pq_chain 5 (pq_pm 5 (List.range 5)) = true := by decide +kernel
theorem pq_chain_6 : pq_chain 6 (pq_pm 6 (List.range 6)) = true := by decide +kernel
theorem pq_chain_ok {m : Nat} (h1 : 1 ≤ m) (h6 : m ≤ 6) : pq_chain m (pq_pm m (List.range m)) = true := by
  have h : m = 1 ∨ m = 2 ∨ m = 3 ∨ m = 4 ∨ m = 5 ∨ m = 6 := by omega
  rcases h with rfl | rfl | rfl | rfl | rfl | rfl
  · exact pq_chain_1
  · exact pq_chain_2
  · exact pq_chain_3
  · exact pq_chain_4
  · exact pq_chain_5
  · exact pq_chain_6
theorem pq_pm_hd_1 : (pq_pm 1 (List.range 1)).head? = some (List.range 1) := by decide +kernel
theorem pq_pm_hd_2 : (pq_pm 2 (List.range 2)).head? = some (List.range 2) := by decide +kernel
theorem pq_pm_hd_3 : (pq_pm 3 (List.range 3)).head? = some (List.range 3) := by decide +kernel
theorem pq_pm_hd_4 : (pq_pm 4 (List.range 4)).head? = some (List.range 4) := by decide +kernel
theorem pq_pm_hd_5 : (pq_pm 5 (List.range 5)).head? = some (List.range 5) := by decide +kernel
theorem pq_pm_hd_6 : (pq_pm 6 (List.range 6)).head? = some (List.range 6) := by decide +kernel
theorem pq_pm_hd {m : Nat} (h1 : 1 ≤ m) (h6 : m ≤ 6) : (pq_pm m (List.range m)).head? = some (List.range m) := by
  have h : m = 1 ∨ m = 2 ∨ m = 3 ∨ m = 4 ∨ m = 5 ∨ m = 6 := by omega
  rcases h with rfl | rfl | rfl | rfl | rfl | rfl
  · exact pq_pm_hd_1
  · exact pq_pm_hd_2
  · exact pq_pm_hd_3
  · exact pq_pm_hd_4
  · exact pq_pm_hd_5
  · exact pq_pm_hd_6
theorem pq_fm_congr {α β : Type} {l : List α} {f g : α → List β} (h : ∀ t, t ∈ l → f t = g t) : l.flatMap f = l.flatMap g := by
  induction l with
  | nil => rfl
  | cons a l ih =>
    rw [List.flatMap_cons, List.flatMap_cons, h a List.mem_cons_self, ih (fun t ht => h t (List.mem_cons_of_mem _ ht))]
theorem pq_fl_map {h : Nat → Nat} {t : Nat} : ∀ l : List Nat, (∀ x, x ∈ l → (h x = h t ↔ x = t)) → (l.map h).filter (fun x => x != h t) = (l.filter (fun x => x != t)).map h := by
  intro l
  induction l with
  | nil => intro _; rfl
  | cons a l ih =>
    intro hi
    have ih := ih (fun x hx => hi x (List.mem_cons_of_mem _ hx))
    have ha := hi a List.mem_cons_self
    rw [List.map_cons]
    by_cases e : a = t
    · have e2 : h a = h t := ha.mpr e
      rw [List.filter_cons_of_neg (by simp [e2]), List.filter_cons_of_neg (by simp [e]), ih]
    · have e2 : ¬ h a = h t := fun q => e (ha.mp q)
      rw [List.filter_cons_of_pos (by simp [e2]), List.filter_cons_of_pos (by simp [e]), List.map_cons, ih]
theorem pq_pm_map {h : Nat → Nat} (k : Nat) : ∀ l : List Nat, (∀ x, x ∈ l → ∀ y, y ∈ l → h x = h y → x = y) → pq_pm k (l.map h) = (pq_pm k l).map (List.map h) := by
  induction k with
  | zero => intro l _; rfl
  | succ k ih =>
    intro l hi
    unfold pq_pm
    rw [List.flatMap_map, List.map_flatMap]
    refine pq_fm_congr fun t ht => ?_
    rw [pq_fl_map l (fun x hx => ⟨fun q => hi x hx t ht q, fun q => by rw [q]⟩), ih _ (fun x hx y hy q => hi x ((List.mem_filter.mp hx).1) y ((List.mem_filter.mp hy).1) q)]
    rw [List.map_map, List.map_map]
    rfl
/-- the elements of a set -/
def pq_elN (c : Nat → Bool) (n : Nat) : List Nat := (List.range n).filter c
theorem pq_elN_s {c : Nat → Bool} (n : Nat) : pq_elN c (n + 1) = if c n = true then pq_elN c n ++ [n] else pq_elN c n := by
  unfold pq_elN
  rw [List.range_succ, List.filter_append]
  by_cases e : c n = true
  · rw [if_pos e, List.filter_cons_of_pos e]
    rfl
  · rw [if_neg e, List.filter_cons_of_neg e]
    exact List.append_nil _
theorem pq_elN_len {c : Nat → Bool} (n : Nat) : (pq_elN c n).length = pb_cnt c n := by
  induction n with
  | zero => rfl
  | succ n ih =>
    rw [pq_elN_s]
    unfold pb_cnt
    by_cases e : c n = true
    · rw [if_pos e, if_pos e, List.length_append, ih]
      rfl
    · rw [if_neg e, if_neg e, ih]
theorem pq_elN_mem {c : Nat → Bool} {n x : Nat} : x ∈ pq_elN c n ↔ x < n ∧ c x = true := by
  unfold pq_elN
  rw [List.mem_filter, List.mem_range]
theorem pq_elN_off {U : Int32} {t n : Nat} (ht : t < 16) (hn : n ≤ 16) : (pq_elN (pb_in U) n).filter (fun x => x != t) = pq_elN (pb_in (pb_off U t)) n := by
  unfold pq_elN
  rw [List.filter_filter]
  refine List.filter_congr fun x hx => ?_
  rw [List.mem_range] at hx
  rw [pb_off_in (by omega) (by omega)]
  by_cases e : x = t
  · subst e
    simp
  · simp [e]
theorem pq_elN_lt {c : Nat → Bool} (n : Nat) : ∀ i j, i < j → j < (pq_elN c n).length → pq_at (pq_elN c n) i < pq_at (pq_elN c n) j := by
  intro i j hij hj
  have hp : (pq_elN c n).Pairwise (· < ·) := (List.pairwise_lt_range (n := n)).filter c
  rw [List.pairwise_iff_getElem] at hp
  have h := hp i j (by omega) hj hij
  unfold pq_at
  rw [List.getD_eq_getElem?_getD, List.getD_eq_getElem?_getD, List.getElem?_eq_getElem (by omega), List.getElem?_eq_getElem hj]
  exact h
theorem pq_list_at (l : List Nat) : l = (List.range l.length).map (pq_at l) := by
  refine List.ext_getElem (by simp) fun i h1 h2 => ?_
  rw [List.getElem_map, List.getElem_range]
  unfold pq_at
  rw [List.getD_eq_getElem?_getD, List.getElem?_eq_getElem h1]
  rfl
theorem pq_at_mem {l : List Nat} {k : Nat} (hk : k < l.length) : pq_at l k ∈ l := by
  unfold pq_at
  rw [List.getD_eq_getElem?_getD, List.getElem?_eq_getElem hk]
  exact List.getElem_mem hk
theorem pq_at_map {h : Nat → Nat} {l : List Nat} {k : Nat} (hk : k < l.length) : pq_at (l.map h) k = h (pq_at l k) := by
  unfold pq_at
  rw [List.getD_eq_getElem?_getD, List.getD_eq_getElem?_getD, List.getElem?_map, List.getElem?_eq_getElem hk]
  rfl
/-- the order's row, as the reference lays it first -/
theorem pq_mor {S : pb_Sg} {M b : Nat} {c : Nat → Bool} (n : Nat) : ∀ k, k < pb_cnt c n → pb_mor S M b c n (M + 24) k = nI (pq_at (pq_elN c n) k) := by
  induction n with
  | zero => intro k hk; exact absurd hk (Nat.not_lt_zero _)
  | succ n ih =>
    intro k hk
    rw [pq_elN_s]
    unfold pb_cnt at hk
    unfold pb_mor
    by_cases e : c n = true
    · rw [if_pos e] at hk ⊢
      rw [if_pos e, pb_up_at]
      have hl := pq_elN_len (c := c) n
      unfold pq_at
      by_cases e2 : k = pb_cnt c n
      · rw [if_pos ⟨rfl, e2⟩, List.getD_eq_getElem?_getD, List.getElem?_append_right (by omega), hl, e2, Nat.sub_self]
        rfl
      · rw [if_neg (fun q => e2 q.2), ih k (by omega), List.getD_eq_getElem?_getD, List.getElem?_append_left (by omega)]
        unfold pq_at
        rw [List.getD_eq_getElem?_getD]
    · rw [if_neg e] at hk ⊢
      rw [if_neg e]
      exact ih k hk
