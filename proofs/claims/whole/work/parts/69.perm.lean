/-! the orders of lives: one after another, and by number -/
def y_gd (l : List Nat) (u : Nat) : Nat := l.getD u 0
def y_sw (l : List Nat) (i j : Nat) : List Nat := (l.set i (y_gd l j)).set j (y_gd l i)
def y_f1 (l : List Nat) : Nat → Option Nat
  | 0 => none
  | k + 1 => if y_gd l k ≤ y_gd l (k + 1) then some k else y_f1 l k
def y_f2 (l : List Nat) (i : Nat) : Nat → Nat
  | 0 => 0
  | j + 1 => if j + 1 ≤ i then j + 1 else if y_gd l i ≤ y_gd l (j + 1) then j + 1 else y_f2 l i j
def y_rv : Nat → List Nat → Nat → Nat → List Nat
  | 0, l, _, _ => l
  | q + 1, l, a, b => if b ≤ a then l else y_rv q (y_sw l a b) (a + 1) (b - 1)
def y_nx (n : Nat) (l : List Nat) : Option (List Nat) := match y_f1 l (n - 1) with
  | none => none
  | some i => some (y_rv 5 (y_sw l i (y_f2 l i (n - 1))) (i + 1) (n - 1))
def y_seq (n : Nat) : Nat → List Nat → List (List Nat)
  | 0, _ => []
  | q + 1, l => match y_nx n l with
    | none => []
    | some l' => l' :: y_seq n q l'
def y_dm (n : Nat) : Nat → Nat → Nat → List Nat → Nat × List Nat
  | 0, _, m, acc => (m, acc)
  | q + 1, k, m, acc => y_dm n q (k / n) (m ||| 2 ^ (k % n)) ((k % n) :: acc)
def y_rf (n : Nat) : Nat → Nat → List (List Nat)
  | 0, _ => []
  | q + 1, k => if (y_dm n n k 0 []).1 = 2 ^ n - 1 then (y_dm n n k 0 []).2 :: y_rf n q (k + 1) else y_rf n q (k + 1)
theorem y_rf0 : y_rf 0 (0 ^ 0) 0 = List.range 0 :: y_seq 0 120 (List.range 0) := by decide +kernel
theorem y_rf1 : y_rf 1 (1 ^ 1) 0 = List.range 1 :: y_seq 1 120 (List.range 1) := by decide +kernel
theorem y_rf2 : y_rf 2 (2 ^ 2) 0 = List.range 2 :: y_seq 2 120 (List.range 2) := by decide +kernel
theorem y_rf3 : y_rf 3 (3 ^ 3) 0 = List.range 3 :: y_seq 3 120 (List.range 3) := by decide +kernel
theorem y_rf4 : y_rf 4 (4 ^ 4) 0 = List.range 4 :: y_seq 4 120 (List.range 4) := by decide +kernel
theorem y_rf5 : y_rf 5 (5 ^ 5) 0 = List.range 5 :: y_seq 5 120 (List.range 5) := by decide +kernel
theorem y_gd_set {l : List Nat} {i : Nat} (hi : i < l.length) (v u : Nat) : y_gd (l.set i v) u = if u = i then v else y_gd l u := by
  unfold y_gd
  rw [List.getD_eq_getElem?_getD, List.getD_eq_getElem?_getD, List.getElem?_set]
  by_cases h : i = u
  · rw [if_pos h, if_pos (by omega), if_pos h.symm]
    rfl
  · rw [if_neg h, if_neg (fun g => h g.symm)]
def y_pm (n : Nat) (l : List Nat) : Prop := l.length = n ∧ ∀ u, u < n → y_gd l u < n
theorem y_sw_gd {l : List Nat} {i j : Nat} (hi : i < l.length) (hj : j < l.length) (u : Nat) : y_gd (y_sw l i j) u = if u = j then y_gd l i else if u = i then y_gd l j else y_gd l u := by
  unfold y_sw
  rw [y_gd_set (by rw [List.length_set]; exact hj), y_gd_set hi]
theorem y_sw_pm {n : Nat} {l : List Nat} {i j : Nat} (hi : i < n) (hj : j < n) (h : y_pm n l) : y_pm n (y_sw l i j) := by
  obtain ⟨h1, h2⟩ := h
  refine ⟨by unfold y_sw; rw [List.length_set, List.length_set]; exact h1, fun u hu => ?_⟩
  rw [y_sw_gd (by omega) (by omega)]
  split
  · exact h2 i hi
  · split
    · exact h2 j hj
    · exact h2 u hu
theorem y_f1_lt (l : List Nat) : ∀ k i, y_f1 l k = some i → i < k
  | 0, i, h => by cases h
  | k + 1, i, h => by
    unfold y_f1 at h
    split at h
    · cases h; omega
    · have := y_f1_lt l k i h; omega
theorem y_f2_lt (l : List Nat) (i : Nat) : ∀ j, y_f2 l i j ≤ j
  | 0 => Nat.le_refl _
  | j + 1 => by
    unfold y_f2
    split
    · exact Nat.le_refl _
    · split
      · exact Nat.le_refl _
      · have := y_f2_lt l i j; omega
theorem y_rv_pm {n : Nat} : ∀ q l a b, b < n → y_pm n l → y_pm n (y_rv q l a b)
  | 0, l, a, b, hb, h => h
  | q + 1, l, a, b, hb, h => by
    unfold y_rv
    split
    · exact h
    · exact y_rv_pm q _ _ _ (by omega) (y_sw_pm (by omega) hb h)
theorem y_nx_pm {n : Nat} {l l' : List Nat} (h : y_pm n l) (e : y_nx n l = some l') : y_pm n l' := by
  unfold y_nx at e
  cases c : y_f1 l (n - 1) with
  | none => rw [c] at e; cases e
  | some i =>
    rw [c] at e
    cases e
    have h1 := y_f1_lt l _ i c
    have h2 := y_f2_lt l i (n - 1)
    exact y_rv_pm 5 _ _ _ (by omega) (y_sw_pm (by omega) (by omega) h)
theorem y_rg_gd : ∀ n, n ≤ 5 → ∀ u, u < n → y_gd (List.range n) u = u := by decide +kernel
theorem y_rg_pm {n : Nat} (hn : n ≤ 5) : y_pm n (List.range n) := ⟨List.length_range, fun u hu => by rw [y_rg_gd n hn u hu]; exact hu⟩
def y_ct (c n : Nat) (l : List Nat) (σ : xS) : Prop := ∀ u, u < n → x_I σ c u = Int32.ofNat (y_gd l u)
theorem y_ct_sw {c n : Nat} {l : List Nat} {i j : Nat} (hl : l.length = n) (hi : i < n) (hj : j < n) {σ : xS} (h : y_ct c n l σ) : y_ct c n (y_sw l i j) (x_si (x_si σ c i (Int32.ofNat (y_gd l j))) c j (Int32.ofNat (y_gd l i))) := by
  intro u hu
  rw [y_sw_gd (by omega) (by omega), x_Isi, x_Isi]
  by_cases c1 : u = j
  · rw [if_pos ⟨rfl, c1⟩, if_pos c1]
  · rw [if_neg (fun g => c1 g.2), if_neg c1]
    by_cases c2 : u = i
    · rw [if_pos ⟨rfl, c2⟩, if_pos c2]
    · rw [if_neg (fun g => c2 g.2), if_neg c2]; exact h u hu
theorem y_rfs : ∀ n, n ≤ 5 → y_rf n (n ^ n) 0 = List.range n :: y_seq n 120 (List.range n) := by
  intro n hn
  rcases (show n = 0 ∨ n = 1 ∨ n = 2 ∨ n = 3 ∨ n = 4 ∨ n = 5 by omega) with rfl | rfl | rfl | rfl | rfl | rfl
  · exact y_rf0
  · exact y_rf1
  · exact y_rf2
  · exact y_rf3
  · exact y_rf4
  · exact y_rf5
