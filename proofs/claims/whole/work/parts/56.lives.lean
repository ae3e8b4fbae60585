/-! livesBy -/
theorem x_s2 (i : Nat) : Int32.ofNat i + 2 = Int32.ofNat (i + 2) := (Int32.ofNat_add i 2).symm
theorem x_s3 (i : Nat) : Int32.ofNat i + 3 = Int32.ofNat (i + 3) := (Int32.ofNat_add i 3).symm
theorem y_3k (F k : Nat) : Int32.ofNat F + 3 * Int32.ofNat k = Int32.ofNat (F + 3 * k) := by
  rw [show (3 : Int32) = Int32.ofNat 3 from rfl, ← Int32.ofNat_mul, ← Int32.ofNat_add]
theorem y_hp3 {N a : Nat} (hN : N ≤ 40) (ha : a < 1000) : y_hp (Int32.ofNat N) (Int32.ofNat a) 3 ↔ a + 3 ≤ N := by
  constructor
  · intro h
    obtain ⟨x, y, e1, e2, h3⟩ := y_hp_n hN h
    have e1 := x_inj32 (by omega) (by omega) e1
    have e2 := x_inj32 (a := 3) (by omega) (by omega) e2
    omega
  · intro h
    refine ⟨x_nn0 (by omega), by decide, Int32.not_lt.mpr ((x_le (by omega) (by omega)).mpr (by omega)), ?_⟩
    rw [x_sb (by omega) (by omega)]
    exact Int32.not_lt.mpr ((x_le (a := 3) (by omega) (by omega)).mpr (by omega))
theorem y_z3 {N a : Nat} (hN : N ≤ 40) (ha : a < 1000) : Int32.ofNat a ≤ Int32.ofNat N - 3 ↔ a + 3 ≤ N := by
  by_cases h3 : 3 ≤ N
  · rw [show (3 : Int32) = Int32.ofNat 3 from rfl, x_sb h3 (by omega), x_le (by omega) (by omega)]
    omega
  · have : Int32.ofNat N - 3 < 0 := by
      rcases (show N = 0 ∨ N = 1 ∨ N = 2 by omega) with rfl | rfl | rfl <;> decide
    constructor
    · intro h
      exact absurd (Int32.lt_of_le_of_lt h this) (x_nn0 (by omega))
    · intro h; omega
abbrev y_T3 : Type := Int32 × Int32 × Int32
def y_lv (N F : Nat) (V : Nat → Int32) : Nat → Nat → Nat → Nat → (Nat → y_T3) → Int32 × Nat × (Nat → y_T3)
  | _, 0, n, c, L => (Int32.ofNat c, n, L)
  | k, q + 1, n, c, L => if F + 3 * k + 3 ≤ N then (if y_ok3 (V (F + 3 * k)) (V (F + 3 * k + 1)) (V (F + 3 * k + 2)) ∧ n < 5 then y_lv N F V (k + 1) q (n + 1) (c + 1) (fun l => if l = n then (V (F + 3 * k), V (F + 3 * k + 1), V (F + 3 * k + 2)) else L l) else y_lv N F V (k + 1) q n c L) else (-12, n, L)
theorem y_lv_n (N F : Nat) (V : Nat → Int32) : ∀ q k n c L, n ≤ 5 → n ≤ (y_lv N F V k q n c L).2.1 ∧ (y_lv N F V k q n c L).2.1 ≤ 5
  | 0, k, n, c, L, hn => ⟨Nat.le_refl _, hn⟩
  | q + 1, k, n, c, L, hn => by
    unfold y_lv
    by_cases h1 : F + 3 * k + 3 ≤ N
    · rw [if_pos h1]
      by_cases h2 : y_ok3 (V (F + 3 * k)) (V (F + 3 * k + 1)) (V (F + 3 * k + 2)) ∧ n < 5
      · rw [if_pos h2]
        have h := y_lv_n N F V q (k + 1) (n + 1) (c + 1) (fun l => if l = n then (V (F + 3 * k), V (F + 3 * k + 1), V (F + 3 * k + 2)) else L l) (by omega)
        exact ⟨by omega, h.2⟩
      · rw [if_neg h2]; exact y_lv_n N F V q (k + 1) n c L hn
    · rw [if_neg h1]; exact ⟨Nat.le_refl _, hn⟩
def y_wc (n0 b u : Nat) : Prop := (b = 1 ∧ u = 1) ∨ (3 + n0 ≤ b ∧ b < 8)
theorem y_neg {a b c : Int32} : (if y_ok3 a b c then (-4 : Int32) else -2) < 0 := by
  split <;> decide
theorem l117 (d : Nat) {s N F M n0 : Nat} {V : Nat → Int32} (hF : F ≤ 40) (hM : M ≤ 5) : ∀ q k n c L σ, k + q = M → n0 ≤ n → n ≤ 5 → x_G σ → y_sh σ s N V → x_I σ 1 1 = Int32.ofNat n → (∀ l, n0 ≤ l → l < n → y_ok3 (L l).1 (L l).2.1 (L l).2.2 ∧ y_cm σ (3 + l) (L l).1 (L l).2.1 (L l).2.2) → ∃ τ, x_f (d + 2) 117 67 [some (.inr (.inr (some 0))), none, none, none, some (.inl (Int32.ofNat M)), some (.inr (.inr (some (70 + 2 * s)))), some (.inl (Int32.ofNat c)), some (.inl (Int32.ofNat (F + 3 * k))), some (.inl (Int32.ofNat k))] [] σ = some (some (.inl (y_lv N F V k q n c L).1), τ) ∧ x_fr (y_wc n0) x_w0 σ τ ∧ x_I τ 1 1 = Int32.ofNat (y_lv N F V k q n c L).2.1 ∧ ∀ l, n0 ≤ l → l < (y_lv N F V k q n c L).2.1 → y_ok3 ((y_lv N F V k q n c L).2.2 l).1 ((y_lv N F V k q n c L).2.2 l).2.1 ((y_lv N F V k q n c L).2.2 l).2.2 ∧ y_cm τ (3 + l) ((y_lv N F V k q n c L).2.2 l).1 ((y_lv N F V k q n c L).2.2 l).2.1 ((y_lv N F V k q n c L).2.2 l).2.2
  | 0, k, n, c, L, σ, hk, h0, hn, hG, hs, h1, hL => by
    refine ⟨σ, ?_, x_fr.refl _ _ _, h1, hL⟩
    rw [x_feq, e117_67, if_pos ((x_le (by omega) (by omega)).mpr (by omega))]
    rfl
  | q + 1, k, n, c, L, σ, hk, h0, hn, hG, hs, h1, hL => by
    have hs4 := hs.1
    have hN := hs.2.1
    have one : ¬ (1 : Int32) = 0 := by decide
    have nes : ∀ b, (70 ≤ b ∧ b ≤ 77) ∨ b = 87 ∨ b = 88 → ∀ u, ¬ y_wc n0 b u := fun b h u => by unfold y_wc; omega
    rw [x_feq, e117_67, if_neg (fun h => absurd ((x_le (by omega) (by omega)).mp h) (by omega)), x_der_s, x_ks5 hG hs4, m33 _ hG hs4, hs.2.2.1, x_ci_s]
    unfold y_lv
    by_cases c1 : F + 3 * k + 3 ≤ N
    · rw [if_pos c1, x_b1_1 ((y_hp3 hN (by omega)).mpr c1), if_neg one, x_k0 hG, x_der_s, x_ks5 hG hs4, m31 _ hG hs (show F + 3 * k < 40 by omega), x_ci_s, x_der_s, x_ks5 hG hs4, x_s1, m31 _ hG hs (show F + 3 * k + 1 < 40 by omega), x_ci_s, x_der_s, x_ks5 hG hs4, x_s2, m31 _ hG hs (show F + 3 * k + 2 < 40 by omega), x_ci_s, x_q0_0 hG, x_der_s, x_k1 hG]
      by_cases c2 : y_ok3 (V (F + 3 * k)) (V (F + 3 * k + 1)) (V (F + 3 * k + 2)) ∧ n < 5
      · obtain ⟨σ1, a1, f1, p1, q1⟩ := m67_ok d hG c2.2 h1 c2.1
        have f1' : x_fr (y_wc n0) x_w0 σ σ1 := f1.mono (fun b u h => by unfold y_wc; omega) (fun _ _ h => h)
        obtain ⟨τ, a2, f2, p2, q2⟩ := l117 d (n0 := n0) hF hM q (k + 1) (n + 1) (c + 1) (fun l => if l = n then (V (F + 3 * k), V (F + 3 * k + 1), V (F + 3 * k + 2)) else L l) σ1 (by omega) (by omega) (by omega) (f1.G hG) (hs.fr f1' nes) p1 (fun l g1 g2 => by
          by_cases ln : l = n
          · subst ln
            rw [if_pos rfl]
            exact ⟨c2.1, q1⟩
          · rw [if_neg ln]
            obtain ⟨w1, w2⟩ := hL l g1 (by omega)
            refine ⟨w1, ?_⟩
            unfold y_cm at w2 ⊢
            have E : ∀ u, x_I σ1 (3 + l) u = x_I σ (3 + l) u := fun u => f1.I (by omega)
            simp only [E]
            exact w2)
        rw [if_pos c2, a1, x_ci_s, if_neg (x_nn0 (show n < 2 ^ 31 by omega)), x_s3, show F + 3 * k + 3 = F + 3 * (k + 1) by omega, x_s1, x_s1]
        exact ⟨τ, a2, f1'.trans f2, p2, q2⟩
      · obtain ⟨τ, a2, f2, p2, q2⟩ := l117 d (n0 := n0) hF hM q (k + 1) n c L σ (by omega) h0 hn hG hs h1 hL
        rw [if_neg c2, m67_no _ hG hn h1 c2, x_ci_s, if_pos y_neg, x_s3, show F + 3 * k + 3 = F + 3 * (k + 1) by omega, x_s1]
        exact ⟨τ, a2, f2, p2, q2⟩
    · rw [if_neg c1, x_b1_0 (fun h => c1 ((y_hp3 hN (by omega)).mp h)), if_pos rfl]
      exact ⟨σ, rfl, x_fr.refl _ _ _, h1, hL⟩
def y_wr (n0 b u : Nat) : Prop := (b = 78 ∧ u = 0) ∨ (b = 79 ∧ n0 ≤ u) ∨ (b = 80 ∧ n0 ≤ u) ∨ (b = 81 ∧ 6 * n0 ≤ u)
theorem l219 (d : Nat) {s N F M n0 : Nat} {V : Nat → Int32} (hF : F ≤ 40) (hM : M ≤ 5) : ∀ q k n c L σ, k + q = M → n0 ≤ n → n ≤ 5 → x_G σ → y_sh σ s N V → x_I σ 78 0 = Int32.ofNat n → (∀ l, n0 ≤ l → l < n → y_rm σ l (L l).1 (L l).2.1 (L l).2.2) → ∃ τ, x_f (d + 2) 219 63 [some (.inr (.inr (some 78))), some (.inl (Int32.ofNat s)), none, some (.inl (Int32.ofNat F)), some (.inl (Int32.ofNat M)), some (.inl (Int32.ofNat c)), some (.inl (Int32.ofNat k)), none, none] [] σ = some (some (.inl (y_lv N F V k q n c L).1), τ) ∧ x_fr (y_wr n0) x_w0 σ τ ∧ x_I τ 78 0 = Int32.ofNat (y_lv N F V k q n c L).2.1 ∧ ∀ l, n0 ≤ l → l < (y_lv N F V k q n c L).2.1 → y_rm τ l ((y_lv N F V k q n c L).2.2 l).1 ((y_lv N F V k q n c L).2.2 l).2.1 ((y_lv N F V k q n c L).2.2 l).2.2
  | 0, k, n, c, L, σ, hk, h0, hn, hG, hs, h1, hL => by
    refine ⟨σ, ?_, x_fr.refl _ _ _, h1, hL⟩
    rw [x_feq, e219_63, if_pos ((x_le (by omega) (by omega)).mpr (by omega))]
    rfl
  | q + 1, k, n, c, L, σ, hk, h0, hn, hG, hs, h1, hL => by
    have hs4 := hs.1
    have hN := hs.2.1
    have one : ¬ (1 : Int32) = 0 := by decide
    have nes : ∀ b, (70 ≤ b ∧ b ≤ 77) ∨ b = 87 ∨ b = 88 → ∀ u, ¬ y_wr n0 b u := fun b h u => by unfold y_wr; omega
    have lt : ¬ Int32.ofNat (F + 3 * k) < Int32.ofNat F := Int32.not_lt.mpr ((x_le (by omega) (by omega)).mpr (by omega))
    rw [x_feq, e219_63, if_neg (fun h => absurd ((x_le (by omega) (by omega)).mp h) (by omega)), if_neg (x_nn0 (by omega)), y_3k, if_neg lt, x_k78 hG, x_q78_23 hG, x_der_s, x_k87 hG, x_i4 hs4, x_n4 hs4, hs.2.2.2.1]
    unfold y_lv
    by_cases c1 : F + 3 * k + 3 ≤ N
    · rw [if_pos c1, if_pos ((y_z3 hN (by omega)).mpr c1), x_k78 hG, x_q78_24 hG, x_der_s, x_k88 hG, x_40, x_40i hs4 (by omega), x_k78 hG, x_der_s, x_k88 hG, x_s1, show 40 * s + (F + 3 * k) + 1 = 40 * s + (F + 3 * k + 1) by omega, x_40i hs4 (by omega), x_k78 hG, x_der_s, x_k88 hG, x_s2, show 40 * s + (F + 3 * k) + 2 = 40 * s + (F + 3 * k + 2) by omega, x_40i hs4 (by omega), x_k78 hG, x_40n hs4 (by omega), x_40n hs4 (by omega), x_40n hs4 (by omega), (hs.2.2.2.2 _ (show F + 3 * k < 40 by omega)).2, (hs.2.2.2.2 _ (show F + 3 * k + 1 < 40 by omega)).2, (hs.2.2.2.2 _ (show F + 3 * k + 2 < 40 by omega)).2]
      by_cases c2 : y_ok3 (V (F + 3 * k)) (V (F + 3 * k + 1)) (V (F + 3 * k + 2)) ∧ n < 5
      · obtain ⟨σ1, a1, f1, p1, q1⟩ := m156_ok d hG c2.2 h1 c2.1
        have f1' : x_fr (y_wr n0) x_w0 σ σ1 := f1.mono (fun b u h => by unfold y_w6 at h; unfold y_wr; omega) (fun _ _ h => h)
        obtain ⟨τ, a2, f2, p2, q2⟩ := l219 d (n0 := n0) hF hM q (k + 1) (n + 1) (c + 1) (fun l => if l = n then (V (F + 3 * k), V (F + 3 * k + 1), V (F + 3 * k + 2)) else L l) σ1 (by omega) (by omega) (by omega) (f1.G hG) (hs.fr f1' nes) p1 (fun l g1 g2 => by
          by_cases ln : l = n
          · subst ln
            rw [if_pos rfl]
            exact q1
          · rw [if_neg ln]
            have w2 := hL l g1 (by omega)
            unfold y_rm at w2 ⊢
            have E : ∀ b u, (b = 79 ∧ u = l) ∨ (b = 80 ∧ u = l) ∨ (b = 81 ∧ 6 * l ≤ u ∧ u < 6 * l + 6) → x_I σ1 b u = x_I σ b u := fun b u h => f1.I (by unfold y_w6; omega)
            rw [E 79 _ (by omega), E 80 _ (by omega), E 81 _ (by omega), E 81 _ (by omega), E 81 _ (by omega), E 81 _ (by omega), E 81 _ (by omega), E 81 _ (by omega)]
            exact w2)
        rw [if_pos c2, a1, x_ci_s, if_neg (x_nn0 (show n < 2 ^ 31 by omega)), x_s1, x_s1]
        exact ⟨τ, a2, f1'.trans f2, p2, q2⟩
      · obtain ⟨τ, a2, f2, p2, q2⟩ := l219 d (n0 := n0) hF hM q (k + 1) n c L σ (by omega) h0 hn hG hs h1 hL
        rw [if_neg c2, m156_no _ hG hn h1 c2, x_ci_s, if_pos y_neg, Int32.add_zero, x_s1]
        exact ⟨τ, a2, f2, p2, q2⟩
    · rw [if_neg c1, if_neg (fun h => c1 ((y_z3 hN (by omega)).mp h))]
      exact ⟨σ, rfl, x_fr.refl _ _ _, h1, hL⟩
theorem x_op_livesBy (D : Nat) : ∀ (σ : xS) (as : List Int32), as.length = 4 → x_R σ → x_stp (D + 3) x_R false 117 219 as σ := by
  intro σ as hl hR
  match as, hl with
  | [i1, i2, i3, i4], _ =>
    obtain ⟨hG, n, t, z, hP⟩ := id hR
    obtain ⟨hn, ht, hz, ⟨l1, l2⟩, ⟨t1, t2⟩, -, -, -, -, -, -, hsh, -⟩ := id hP
    have one : ¬ (1 : Int32) = 0 := by decide
    have fin : ∀ w : Int32, x_run (D + 3) 117 [.inr (.inr (some 0)), .inl i1, .inl i2, .inl i3, .inl i4] σ = some (some (.inl w), σ) → x_run (D + 3) 219 [.inr (.inr (some 78)), .inl i1, .inl i2, .inl i3, .inl i4] σ = some (some (.inl w), σ) → x_stp (D + 3) x_R false 117 219 [i1, i2, i3, i4] σ := fun w e1 e2 => x_op_eq hR (.inl w) ⟨w, rfl⟩ e1 e2
    rcases x_splitg (n := 4) (by omega) i1 with ⟨s, hs, rfl⟩ | ho
    · have d1 : x_b1 (0 ≤ Int32.ofNat s ∧ Int32.ofNat s ≤ 3) = 1 := if_pos ⟨Int32.not_lt.mp (x_nn0 (by omega)), (x_le (b := 3) (by omega) (by omega)).mpr (by omega)⟩
      obtain ⟨⟨s1, sb⟩, ⟨z1, zb⟩, cs⟩ := id (hsh s hs)
      by_cases c2 : 0 ≤ i2 ∧ i2 ≤ 2
      · by_cases c4 : 0 ≤ i4 ∧ i4 ≤ 5
        · by_cases c5 : x_I σ 86 s = -1
          · refine fin (-11) ?_ ?_
            · rw [r117, e117_0, x_k0 hG, m121_in _ hG hs, x_cr_s, x_nul_s, m126, x_ci_s, x_b1_1 c2, if_neg one, m126, x_ci_s, x_b1_1 c4, if_neg one, x_der_s, x_ks5 hG hs, s1, if_pos c5]
            · rw [r219, e219_0, m133, x_ci_s, d1, if_neg one, m133, x_ci_s, x_b1_1 c2, if_neg one, m133, x_ci_s, x_b1_1 c4, if_neg one, x_k78 hG, x_q78_22 hG, x_der_s, x_k86 hG, x_i4 hs, x_n4 hs, if_pos c5]
          · by_cases c6 : x_I σ 86 s = i2
            · obtain ⟨M, hM, rfl⟩ := x_bd_of (n := 5) (by omega) c4 rfl
              obtain ⟨N, V, hy⟩ := y_sh_of hs (hsh s hs)
              have hN := hy.2.1
              have preC : x_run (D + 3) 117 [.inr (.inr (some 0)), .inl (Int32.ofNat s), .inl i2, .inl i3, .inl (Int32.ofNat M)] σ = x_f (D + 2) 117 67 [some (.inr (.inr (some 0))), none, none, none, some (.inl (Int32.ofNat M)), some (.inr (.inr (some (70 + 2 * s)))), some (.inl 0), some (.inl i3), some (.inl 0)] [] σ := by
                rw [r117, e117_0, x_k0 hG, m121_in _ hG hs, x_cr_s, x_nul_s, m126, x_ci_s, x_b1_1 c2, if_neg one, m126, x_ci_s, x_b1_1 c4, if_neg one, x_der_s, x_ks5 hG hs, s1, if_neg c5, x_der_s, x_ks5 hG hs, s1, if_pos c6]
              have preR : ∀ (τ : xS) (_ : x_fr (y_wc n) x_w0 σ τ), x_run (D + 3) 219 [.inr (.inr (some 78)), .inl (Int32.ofNat s), .inl i2, .inl i3, .inl (Int32.ofNat M)] τ = x_f (D + 2) 219 63 [some (.inr (.inr (some 78))), some (.inl (Int32.ofNat s)), none, some (.inl i3), some (.inl (Int32.ofNat M)), some (.inl 0), some (.inl 0), none, none] [] τ := by
                intro τ f
                have hGt := f.G hG
                have e86 : x_I τ 86 s = x_I σ 86 s := f.I (by unfold y_wc; omega)
                rw [r219, e219_0, m133, x_ci_s, d1, if_neg one, m133, x_ci_s, x_b1_1 c2, if_neg one, m133, x_ci_s, x_b1_1 c4, if_neg one, x_k78 hGt, x_q78_22 hGt, x_der_s, x_k86 hGt, x_i4 hs, x_n4 hs, e86, if_neg c5, x_k78 hGt, x_der_s, x_k86 hGt, x_i4 hs, e86, if_pos c6]
              by_cases m0 : M = 0
              · subst m0
                refine fin 0 ?_ ?_
                · rw [preC, x_feq, e117_67, if_pos (by decide)]
                · rw [preR σ (x_fr.refl _ _ _), x_feq, e219_63, if_pos (by decide)]
              · have nM : ¬ Int32.ofNat M ≤ 0 := fun h => absurd ((x_le (b := 0) (by omega) (by omega)).mp h) (by omega)
                rcases x_splitg (n := 41) (by omega) i3 with ⟨F, hF, rfl⟩ | h3
                · obtain ⟨σ1, a1, f1, p1, q1⟩ := l117 D (n0 := n) (show F ≤ 40 by omega) hM M 0 n 0 (fun _ => (0, 0, 0)) σ (by omega) (Nat.le_refl _) hn hG hy l2 (fun l g1 g2 => absurd g2 (by omega))
                  have hG1 := f1.G hG
                  obtain ⟨τ, a2, f2, p2, q2⟩ := l219 D (n0 := n) (show F ≤ 40 by omega) hM M 0 n 0 (fun _ => (0, 0, 0)) σ1 (by omega) (Nat.le_refl _) hn hG1 (hy.fr f1 (fun b h u => by unfold y_wc; omega)) ((f1.I (by unfold y_wc; omega)).trans l1) (fun l g1 g2 => absurd g2 (by omega))
                  have hb := y_lv_n N F V M 0 n 0 (fun _ => (0, 0, 0)) hn
                  refine ⟨.inl _, σ1, τ, ⟨_, rfl⟩, Eq.trans preC a1, hG1.1, Eq.trans (preR σ1 f1) a2, f2.G hG1, (y_lv N F V 0 M n 0 (fun _ => (0, 0, 0))).2.1, t, z, y_Rp_liv hP hb.2 hb.1 (fun x u h1 h2 h3 h4 h5 h6 => ?_) ?_ p2 (y_lv N F V 0 M n 0 (fun _ => (0, 0, 0))).2.2 (fun l g1 g2 => ?_)⟩
                  · rw [f2.I (by unfold y_wr; omega), f1.I (by unfold y_wc; omega)]
                  · rw [f2.I (by unfold y_wr; omega)]; exact p1
                  · obtain ⟨w1, w2⟩ := q1 l g1 g2
                    refine ⟨w1, ?_, q2 l g1 g2⟩
                    unfold y_cm at w2 ⊢
                    have E : ∀ u, x_I τ (3 + l) u = x_I σ1 (3 + l) u := fun u => f2.I (by unfold y_wr; omega)
                    simp only [E]
                    exact w2
                · have no : ¬ y_hp (Int32.ofNat N) i3 3 := by
                    intro h
                    obtain ⟨a, b, e1, e2, h4⟩ := y_hp_n hN h
                    subst e1
                    rcases h3 with h3 | h3
                    · exact x_nn0 (by omega) h3
                    · exact absurd ((x_le (by omega) (by omega)).mp h3) (by omega)
                  refine fin (-12) ?_ ?_
                  · rw [preC, x_feq, e117_67, if_neg nM, x_der_s, x_ks5 hG hs, m33 _ hG hs, hy.2.2.1, x_ci_s, x_b1_0 no, if_pos rfl]
                  · rw [preR σ (x_fr.refl _ _ _), x_feq, e219_63, if_neg nM]
                    by_cases g : i3 < 0
                    · rw [if_pos g]
                    · rw [if_neg g, show i3 + 3 * 0 = i3 by rw [Int32.mul_zero, Int32.add_zero], if_neg (Int32.not_lt.mpr (Int32.le_refl i3)), x_k78 hG, x_q78_23 hG, x_der_s, x_k87 hG, x_i4 hs, x_n4 hs, hy.2.2.2.1, if_neg]
                      intro h
                      have h := Int32.le_trans (h3.resolve_left g) h
                      exact absurd ((y_z3 hN (by omega)).mp h) (by omega)
            · refine fin (-13) ?_ ?_
              · rw [r117, e117_0, x_k0 hG, m121_in _ hG hs, x_cr_s, x_nul_s, m126, x_ci_s, x_b1_1 c2, if_neg one, m126, x_ci_s, x_b1_1 c4, if_neg one, x_der_s, x_ks5 hG hs, s1, if_neg c5, x_der_s, x_ks5 hG hs, s1, if_neg c6]
              · rw [r219, e219_0, m133, x_ci_s, d1, if_neg one, m133, x_ci_s, x_b1_1 c2, if_neg one, m133, x_ci_s, x_b1_1 c4, if_neg one, x_k78 hG, x_q78_22 hG, x_der_s, x_k86 hG, x_i4 hs, x_n4 hs, if_neg c5, x_k78 hG, x_der_s, x_k86 hG, x_i4 hs, if_neg c6]
        · refine fin (-2) ?_ ?_
          · rw [r117, e117_0, x_k0 hG, m121_in _ hG hs, x_cr_s, x_nul_s, m126, x_ci_s, x_b1_1 c2, if_neg one, m126, x_ci_s, x_b1_0 c4, if_pos rfl]
          · rw [r219, e219_0, m133, x_ci_s, d1, if_neg one, m133, x_ci_s, x_b1_1 c2, if_neg one, m133, x_ci_s, x_b1_0 c4, if_pos rfl]
      · refine fin (-2) ?_ ?_
        · rw [r117, e117_0, x_k0 hG, m121_in _ hG hs, x_cr_s, x_nul_s, m126, x_ci_s, x_b1_0 c2, if_pos rfl]
        · rw [r219, e219_0, m133, x_ci_s, d1, if_neg one, m133, x_ci_s, x_b1_0 c2, if_pos rfl]
    · refine fin (-2) ?_ ?_
      · rw [r117, e117_0, x_k0 hG, m121_out _ hG ho, x_cr_s, x_nul_n]
      · rw [r219, e219_0, m133, x_ci_s, x_b1_0 (show ¬ (0 ≤ i1 ∧ i1 ≤ 3) from x_ltk (n := 3) (by omega) ho), if_pos rfl]
