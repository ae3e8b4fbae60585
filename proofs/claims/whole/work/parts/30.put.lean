/-! put -/
def x_bk (n k : Nat) (v : Int32) : Prop := match k with
  | 0 => x_bd v 0 99999
  | 1 => x_bd v 0 999
  | 2 => x_bd v 0 100
  | 3 => x_bd v 0 11
  | 4 => -1 ≤ v ∧ v < Int32.ofNat n
  | _ => x_bd v 0 99
theorem x_row6_iff {σ : xS} {c rows l n : Nat} : x_row6 σ c rows l n ↔ (∀ k, k < 6 → x_I σ c (2 + k) = x_I σ rows (6 * l + k)) ∧ ∀ k, k < 6 → x_bk n k (x_I σ rows (6 * l + k)) := by
  constructor
  · rintro ⟨h, h0, h1, h2, h3, h4, h5⟩
    refine ⟨h, fun k hk => ?_⟩
    rcases (show k = 0 ∨ k = 1 ∨ k = 2 ∨ k = 3 ∨ k = 4 ∨ k = 5 by omega) with rfl | rfl | rfl | rfl | rfl | rfl
    · exact h0
    · exact h1
    · exact h2
    · exact h3
    · exact h4
    · exact h5
  · rintro ⟨h, g⟩
    exact ⟨h, g 0 (by omega), g 1 (by omega), g 2 (by omega), g 3 (by omega), g 4 (by omega), g 5 (by omega)⟩
theorem x_Rp.row {σ τ : xS} {n t z l k : Nat} {v : Int32} (h : x_Rp n t z σ) (hl : l < n) (hk : k < 6) (e : ∀ a u, ¬ (a = 3 + l ∧ u = 2 + k) → ¬ (a = 81 ∧ u = 6 * l + k) → x_I τ a u = x_I σ a u) (e2 : x_I τ (3 + l) (2 + k) = v) (e3 : x_I τ 81 (6 * l + k) = v) (hv : x_bk n k v) : x_Rp n t z τ := by
  obtain ⟨hn, ht, hz, ⟨l1, l2⟩, ⟨t1, t2⟩, ⟨z1, z2⟩, hnum, hli, hb, htx, him, hsh, hw⟩ := h
  have e' : ∀ a u, a < 3 ∨ 8 ≤ a → a ≠ 81 → x_I τ a u = x_I σ a u := fun a u h1 h2 => e a u (by omega) (by omega)
  refine ⟨hn, ht, hz, ⟨by rw [e' 78 0 (by omega) (by omega)]; exact l1, by rw [e' 1 1 (by omega) (by omega)]; exact l2⟩, ⟨by rw [e' 78 12 (by omega) (by omega)]; exact t1, by rw [e' 0 7 (by omega) (by omega)]; exact t2⟩, ⟨by rw [e' 78 9 (by omega) (by omega)]; exact z1, by rw [e' 22 2 (by omega) (by omega)]; exact z2⟩, ?_, fun l' hl' => ?_, fun k hk => ?_, fun k hk => ?_, ?_, fun s hs => ?_, fun q hq hq2 => ?_⟩
  · exact x_num.at (e' 1 2 (by omega) (by omega)) (e' 1 3 (by omega) (by omega)) (e' 1 4 (by omega) (by omega)) (e' 1 5 (by omega) (by omega)) (e' 1 6 (by omega) (by omega)) (e' 78 4 (by omega) (by omega)) (e' 78 5 (by omega) (by omega)) (e' 78 6 (by omega) (by omega)) (e' 78 7 (by omega) (by omega)) (e' 78 13 (by omega) (by omega)) hnum
  · obtain ⟨hr, hki⟩ := hli l' hl'
    obtain ⟨r1, r2⟩ := x_row6_iff.mp hr
    refine ⟨x_row6_iff.mpr ⟨fun k' hk' => ?_, fun k' hk' => ?_⟩, ?_⟩
    · by_cases hc : l' = l ∧ k' = k
      · obtain ⟨rfl, rfl⟩ := hc
        rw [e2, e3]
      · rw [e _ _ (by omega) (by omega), e _ _ (by omega) (by omega)]
        exact r1 k' hk'
    · by_cases hc : l' = l ∧ k' = k
      · obtain ⟨rfl, rfl⟩ := hc
        rw [e3]
        exact hv
      · rw [e _ _ (by omega) (by omega)]
        exact r2 k' hk'
    · obtain ⟨⟨a1, a2⟩, ⟨b1, b2⟩⟩ := hki
      exact ⟨⟨by rw [e _ _ (by omega) (by omega), e' 79 _ (by omega) (by omega)]; exact a1, by rw [e' 79 _ (by omega) (by omega)]; exact a2⟩, ⟨by rw [e _ _ (by omega) (by omega), e' 80 _ (by omega) (by omega)]; exact b1, by rw [e' 80 _ (by omega) (by omega)]; exact b2⟩⟩
  · rw [e' 23 _ (by omega) (by omega), e' 82 _ (by omega) (by omega)]; exact hb k hk
  · have hc : 8 ≤ x_tc k := by
      rcases k with _ | k
      · exact Nat.le_of_ble_eq_true rfl
      · show 8 ≤ 45 + 5 * k
        omega
    have hd : x_tc k + 3 < 81 := by
      rcases (show k = 0 ∨ k = 1 ∨ k = 2 ∨ k = 3 ∨ k = 4 ∨ k = 5 by omega) with rfl | rfl | rfl | rfl | rfl | rfl <;> exact Nat.le_of_ble_eq_true rfl
    exact x_txt.at (fun u => e' 83 u (by omega) (by omega)) (fun u => e' 84 u (by omega) (by omega)) (fun u => e' _ u (by omega) (by omega)) (fun u => e' _ u (by omega) (by omega)) (htx k hk)
  · exact x_img.at hn (e' 0 3 (by omega) (by omega)) (fun u _ _ => e' 78 u (by omega) (by omega)) (fun u _ _ => e' 8 u (by omega) (by omega)) (fun l hl u => e' _ u (by omega) (by omega)) (fun u => e' 85 u (by omega) (by omega)) (fun l _ => e' 79 l (by omega) (by omega)) (fun l _ => e' 80 l (by omega) (by omega)) him
  · exact x_she.at (fun u => e' _ u (by omega) (by omega)) (fun u => e' _ u (by omega) (by omega)) (e' 86 s (by omega) (by omega)) (e' 87 s (by omega) (by omega)) (fun k _ => e' 88 _ (by omega) (by omega)) (hsh s hs)
  · rw [e' 90 _ (by omega) (by omega)]; exact hw q hq hq2
