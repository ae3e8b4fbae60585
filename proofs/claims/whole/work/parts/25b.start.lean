/-! both constructors' state is tied -/
set_option maxRecDepth 1000000 in
theorem x_0_a : ∀ q ∈ [((1 : Nat), (1 : Nat), (0 : Int32)), (1, 2, 0), (1, 3, 0), (1, 4, 1000), (1, 5, 50), (1, 6, 0), (0, 3, 0), (0, 7, 1), (22, 2, 0), (78, 0, 0), (78, 4, 0), (78, 5, 0), (78, 6, 1000), (78, 7, 50), (78, 9, 0), (78, 12, 1), (78, 13, 0), (78, 14, 0)], q ∈ x_Il := by decide +kernel
set_option maxRecDepth 1000000 in
theorem x_0_s : ∀ q ∈ (List.range 4).flatMap (fun s => [((70 + 2 * s, 1, -1) : Nat × Nat × Int32), (86, s, -1), (70 + 2 * s, 2, 0), (87, s, 0)]), q ∈ x_Il := by decide +kernel
set_option maxRecDepth 1000000 in
theorem x_0_c : ∀ q ∈ (List.range 4).flatMap (fun s => (List.range 40).flatMap fun k => [((71 + 2 * s, k, 0) : Nat × Nat × Int32), (88, 40 * s + k, 0)]), q ∈ x_Il := by decide +kernel
def x_0_p : List Int32 := [100020, 2, 16, 100100, 1, 100010, 18, 16, 100030]
set_option maxRecDepth 1000000 in
theorem x_0_t : (∀ k, k < 9 → ((83, k, x_0_p.getD k 0) : Nat × Nat × Int32) ∈ x_Il ∧ ((30, k, x_enc (x_0_p.getD k 0)) : Nat × Nat × Int32) ∈ x_Il) ∧ ∀ q ∈ [((84 : Nat), (0 : Nat), (0 : Int32)), (84, 1, 3), (84, 2, 8), (84, 3, 9), (32, 0, 3), (32, 1, 8), (32, 2, 9)], q ∈ x_Il := by decide +kernel
theorem x_R_0 {τ : xS} (h : x_St0 τ) : x_R τ := by
  obtain ⟨h1, h2, h3⟩ := h
  have e : ∀ (a u : Nat) (v : Int32), (a, u, v) ∈ x_Il → x_I τ a u = v := fun a u v hm => h3 (a, u, v) hm
  have ea : ∀ (a u : Nat) (v : Int32), (a, u, v) ∈ [((1 : Nat), (1 : Nat), (0 : Int32)), (1, 2, 0), (1, 3, 0), (1, 4, 1000), (1, 5, 50), (1, 6, 0), (0, 3, 0), (0, 7, 1), (22, 2, 0), (78, 0, 0), (78, 4, 0), (78, 5, 0), (78, 6, 1000), (78, 7, 50), (78, 9, 0), (78, 12, 1), (78, 13, 0), (78, 14, 0)] → x_I τ a u = v := fun a u v hm => e a u v (x_0_a _ hm)
  have et : ∀ (a u : Nat) (v : Int32), (a, u, v) ∈ [((84 : Nat), (0 : Nat), (0 : Int32)), (84, 1, 3), (84, 2, 8), (84, 3, 9), (32, 0, 3), (32, 1, 8), (32, 2, 9)] → x_I τ a u = v := fun a u v hm => e a u v (x_0_t.2 _ hm)
  have b0 : ∀ hi : Int32, (0 : Int32) ≤ hi → x_bd 0 0 hi := fun hi h => ⟨Int32.le_refl 0, h⟩
  refine ⟨⟨h1, h2⟩, 0, 1, 0, by omega, ⟨by omega, by omega⟩, by omega, ⟨ea 78 0 0 (by decide), ea 1 1 0 (by decide)⟩, ⟨ea 78 12 1 (by decide), ea 0 7 1 (by decide)⟩, ⟨ea 78 9 0 (by decide), ea 22 2 0 (by decide)⟩, ?_, fun l hl => absurd hl (by omega), fun k hk => absurd hk (by omega), fun k hk => ?_, ?_, fun s hs => ?_, fun q hq hq2 => ?_⟩
  · unfold x_num
    rw [ea 1 2 0 (by decide), ea 1 3 0 (by decide), ea 1 4 1000 (by decide), ea 1 5 50 (by decide), ea 1 6 0 (by decide), ea 78 4 0 (by decide), ea 78 5 0 (by decide), ea 78 6 1000 (by decide), ea 78 7 50 (by decide), ea 78 13 0 (by decide)]
    unfold x_bd
    decide
  · obtain rfl : k = 0 := by omega
    refine ⟨[100020, 2, 16], [100100, 1, 100010, 18, 16], [100030], by decide, by decide, by decide, by decide, by decide, et 84 0 0 (by decide), et 84 1 3 (by decide), et 84 2 8 (by decide), et 84 3 9 (by decide), et 32 0 3 (by decide), et 32 1 8 (by decide), et 32 2 9 (by decide), fun k c hc => ?_⟩
    have hc : x_0_p[k]? = some c := hc
    have hk : k < 9 := (List.getElem?_eq_some_iff.mp hc).1
    have hg : x_0_p.getD k 0 = c := by rw [List.getD_eq_getElem?_getD, hc]; rfl
    obtain ⟨g1, g2⟩ := x_0_t.1 k hk
    rw [hg] at g1 g2
    exact ⟨by rw [show 200 * 0 + k = k by omega]; exact e 83 k c g1, e 30 k _ g2⟩
  · refine ⟨?_, Or.inl (ea 78 14 0 (by decide))⟩
    rw [ea 0 3 0 (by decide), ea 78 14 0 (by decide)]
  · have m : ∀ q ∈ [((70 + 2 * s, 1, -1) : Nat × Nat × Int32), (86, s, -1), (70 + 2 * s, 2, 0), (87, s, 0)], q ∈ x_Il := fun q hq => x_0_s q (List.mem_flatMap.mpr ⟨s, List.mem_range.mpr hs, hq⟩)
    have g1 := m (70 + 2 * s, 1, -1) (by simp)
    have g2 := m (86, s, -1) (by simp)
    have g3 := m (70 + 2 * s, 2, 0) (by simp)
    have g4 := m (87, s, 0) (by simp)
    unfold x_she
    rw [e _ _ _ g1, e _ _ _ g2, e _ _ _ g3, e _ _ _ g4]
    refine ⟨⟨rfl, by unfold x_bd; decide⟩, ⟨rfl, by unfold x_bd; decide⟩, fun k hk => ?_⟩
    have m2 : ∀ q ∈ [((71 + 2 * s, k, 0) : Nat × Nat × Int32), (88, 40 * s + k, 0)], q ∈ x_Il := fun q hq => x_0_c q (List.mem_flatMap.mpr ⟨s, List.mem_range.mpr hs, List.mem_flatMap.mpr ⟨k, List.mem_range.mpr hk, hq⟩⟩)
    have k1 := m2 (71 + 2 * s, k, 0) (by simp)
    have k2 := m2 (88, 40 * s + k, 0) (by simp)
    rw [e _ _ _ k1, e _ _ _ k2]
  · rw [← hq2]; exact h3 q hq
