/-! copy -/
abbrev y_hp (Z i n : Int32) : Prop := ¬ i < 0 ∧ ¬ n < 0 ∧ ¬ Z < i ∧ ¬ Z - i < n
theorem m33 (d : Nat) {σ : xS} (hG : x_G σ) {s : Nat} (hs : s < 4) (i n : Int32) : x_run (d + 1) 33 [.inr (.inr (some (70 + 2 * s))), .inl i, .inl n] σ = some (some (.inl (x_b1 (y_hp (x_I σ (70 + 2 * s) 2) i n))), σ) := by
  rw [r33, e33_0]
  by_cases h1 : i < 0
  · rw [if_pos h1, x_b1_0 (fun h => h.1 h1)]
  · rw [if_neg h1]
    by_cases h2 : n < 0
    · rw [if_pos h2, x_b1_0 (fun h => h.2.1 h2)]
    · rw [if_neg h2, x_ks5 hG hs]
      by_cases h3 : x_I σ (70 + 2 * s) 2 < i
      · rw [if_pos h3, x_b1_0 (fun h => h.2.2.1 h3)]
      · rw [if_neg h3, x_ks5 hG hs]
        by_cases h4 : x_I σ (70 + 2 * s) 2 - i < n
        · rw [if_pos h4, x_b1_0 (fun h => h.2.2.2 h4)]
        · rw [if_neg h4, x_b1_1 ⟨h1, h2, h3, h4⟩]
theorem y_hp_n {N : Nat} (hN : N ≤ 40) {i n : Int32} (h : y_hp (Int32.ofNat N) i n) : ∃ a b, i = Int32.ofNat a ∧ n = Int32.ofNat b ∧ a + b ≤ N := by
  obtain ⟨h1, h2, h3, h4⟩ := h
  obtain ⟨a, ha, rfl⟩ := x_bd_of (n := N) (by omega) ⟨Int32.not_lt.mp h1, Int32.not_lt.mp h3⟩ rfl
  rw [x_sb ha (by omega)] at h4
  obtain ⟨b, hb, rfl⟩ := x_bd_of (n := N - a) (by omega) ⟨Int32.not_lt.mp h2, Int32.not_lt.mp h4⟩ rfl
  exact ⟨a, b, rfl, rfl, by omega⟩
theorem l218 (d : Nat) {A B n : Nat} (hA : A + n ≤ 160) (hB : B + n ≤ 160) (f0 : Nat → Int32) : ∀ q k σ, k + q = n → x_G σ → (∀ u, ((B ≤ A ∧ B ≤ u ∧ u < B + k) ∨ (A < B ∧ B + n ≤ u + k ∧ u < B + n)) → x_I σ 88 u = f0 (A + (u - B))) → (∀ u, ¬ ((B ≤ A ∧ B ≤ u ∧ u < B + k) ∨ (A < B ∧ B + n ≤ u + k ∧ u < B + n)) → x_I σ 88 u = f0 u) → ∃ τ, x_f d 218 147 [some (.inr (.inr (some 78))), none, none, none, none, some (.inl (Int32.ofNat n)), some (.inl (Int32.ofNat A)), some (.inl (Int32.ofNat B)), some (.inl (Int32.ofNat k)), none] [] σ = some (some (.inl (Int32.ofNat n)), τ) ∧ x_fr (fun b u => b = 88 ∧ B ≤ u ∧ u < B + n) x_w0 σ τ ∧ (∀ u, B ≤ u → u < B + n → x_I τ 88 u = f0 (A + (u - B)))
  | 0, k, σ, hk, hG, h1, h2 => by
    refine ⟨σ, ?_, x_fr.refl _ _ _, fun u g1 g2 => h1 u (by omega)⟩
    rw [x_feq, e218_147, if_pos ((x_le (by omega) (by omega)).mpr (by omega))]
  | q + 1, k, σ, hk, hG, h1, h2 => by
    have st : ∃ x, x < n ∧ (B ≤ A → x = k) ∧ (A < B → x = n - 1 - k) ∧ x_f d 218 147 [some (.inr (.inr (some 78))), none, none, none, none, some (.inl (Int32.ofNat n)), some (.inl (Int32.ofNat A)), some (.inl (Int32.ofNat B)), some (.inl (Int32.ofNat k)), none] [] σ = x_f d 218 173 [some (.inr (.inr (some 78))), none, none, none, none, some (.inl (Int32.ofNat n)), some (.inl (Int32.ofNat A)), some (.inl (Int32.ofNat B)), some (.inl (Int32.ofNat k)), none] [.inl (Int32.ofNat x)] σ := by
      by_cases c : B ≤ A
      · refine ⟨k, by omega, fun _ => rfl, fun h => absurd h (by omega), ?_⟩
        rw [x_feq d 218 147, e218_147, if_neg (fun h => absurd ((x_le (by omega) (by omega)).mp h) (by omega)), if_pos ((x_le (by omega) (by omega)).mpr c)]
      · refine ⟨n - 1 - k, by omega, fun h => absurd h c, fun _ => rfl, ?_⟩
        rw [x_feq d 218 147, e218_147, if_neg (fun h => absurd ((x_le (by omega) (by omega)).mp h) (by omega)), if_neg (fun h => c ((x_le (by omega) (by omega)).mp h)), show (1 : Int32) = Int32.ofNat 1 from rfl, x_sb (by omega) (by omega), x_sb (by omega) (by omega)]
    obtain ⟨x, hx, x1, x2, e⟩ := st
    have rd : x_I σ 88 (A + x) = f0 (A + x) := h2 _ (by omega)
    obtain ⟨τ, a, f, g⟩ := l218 d hA hB f0 q (k + 1) (x_si σ 88 (B + x) (f0 (A + x))) (by omega) hG (fun u hu => by
      rw [x_Isi]
      by_cases c : u = B + x
      · subst c
        rw [if_pos ⟨rfl, rfl⟩, show B + x - B = x by omega]
      · rw [if_neg (fun h => c h.2)]
        exact h1 u (by omega)) (fun u hu => by
      rw [x_Isi, if_neg (by omega)]
      exact h2 u (by omega))
    refine ⟨τ, ?_, ((x_fr.refl (fun b u => b = 88 ∧ B ≤ u ∧ u < B + n) x_w0 σ).si _ ⟨rfl, by omega, by omega⟩).trans f, g⟩
    rw [e, x_feq, e218_173, x_k78 hG, x_k78 hG, x_q78_24 hG, x_der_s, x_k88 hG, ← Int32.ofNat_add, x_ixk (by omega) (by omega), x_tn (by omega), rd, x_der_s, x_k88 hG, ← Int32.ofNat_add, x_ixk (by omega) (by omega), x_tn (by omega), x_s1]
    exact a
theorem x_op_copy (D : Nat) : ∀ (σ : xS) (as : List Int32), as.length = 5 → x_R σ → x_stp (D + 3) x_R false 116 218 as σ := by
  intro σ as hl hR
  match as, hl with
  | [i1, i2, i3, i4, i5], _ =>
    obtain ⟨hG, n, t, z, hP⟩ := id hR
    obtain ⟨hn, ht, hz, ⟨l1, l2⟩, ⟨t1, t2⟩, -, -, -, -, -, -, hsh, -⟩ := id hP
    have one : ¬ (1 : Int32) = 0 := by decide
    have fin : ∀ w : Int32, x_run (D + 3) 116 [.inr (.inr (some 0)), .inl i1, .inl i2, .inl i3, .inl i4, .inl i5] σ = some (some (.inl w), σ) → x_run (D + 3) 218 [.inr (.inr (some 78)), .inl i1, .inl i2, .inl i3, .inl i4, .inl i5] σ = some (some (.inl w), σ) → x_stp (D + 3) x_R false 116 218 [i1, i2, i3, i4, i5] σ := fun w e1 e2 => x_op_eq hR (.inl w) ⟨w, rfl⟩ e1 e2
    have b3 : ∀ {s : Nat}, s < 4 → 0 ≤ Int32.ofNat s ∧ Int32.ofNat s ≤ 3 := fun hs => ⟨Int32.not_lt.mp (x_nn0 (by omega)), (x_le (b := 3) (by omega) (by omega)).mpr (by omega)⟩
    rcases x_splitg (n := 4) (by omega) i1 with ⟨s, hs, rfl⟩ | ho
    · rcases x_splitg (n := 4) (by omega) i3 with ⟨o, ho, rfl⟩ | ho
      · obtain ⟨⟨s1, sb⟩, ⟨z1, zb⟩, cs⟩ := id (hsh s hs)
        obtain ⟨⟨s2, sb2⟩, ⟨z2, zb2⟩, cs2⟩ := id (hsh o ho)
        obtain ⟨N, hN, eN⟩ := x_bd_of (n := 40) (by omega) zb rfl
        obtain ⟨M, hM, eM⟩ := x_bd_of (n := 40) (by omega) zb2 rfl
        have eN := eN
        have preC : ∀ R : Option xR, (if x_I σ 86 s = -1 then some (some (.inl (-11)), σ) else if x_I σ 86 o = -1 then some (some (.inl (-11)), σ) else if x_I σ 86 s = x_I σ 86 o then (if x_b1 (y_hp (Int32.ofNat N) i2 i5) = 0 then some (some (.inl (-12)), σ) else if x_b1 (y_hp (Int32.ofNat M) i4 i5) = 0 then some (some (.inl (-12)), σ) else x_cv (x_run (D + 2) 34 [.inr (.inr (some (70 + 2 * o))), .inl i4, .inr (.inr (some (70 + 2 * s))), .inl i2, .inl i5] σ) (fun σ16 => some (some (.inl i5), σ16))) else some (some (.inl (-13)), σ)) = R → x_run (D + 3) 116 [.inr (.inr (some 0)), .inl (Int32.ofNat s), .inl i2, .inl (Int32.ofNat o), .inl i4, .inl i5] σ = R := by
          intro R h
          rw [r116, e116_0, ← h, x_k0 hG, m121_in _ hG hs, x_cr_s, x_k0 hG, m121_in _ hG ho, x_cr_s, x_nul_s, x_nul_s]
          simp only [x_der_s, ↓x_der_s, ↓x_ks5, hG, hs, ho, s1, s2, m33, z1, z2, eN, eM, x_ci_s]
        have preR : ∀ (τ : xS) (f : x_fr (fun b _ => b = 71 + 2 * o) x_w0 σ τ) (R : Option xR), (if x_I σ 86 s = -1 then some (some (.inl (-11)), τ) else if x_I σ 86 o = -1 then some (some (.inl (-11)), τ) else if x_I σ 86 s = x_I σ 86 o then (if i5 < 0 then some (some (.inl (-12)), τ) else if i2 < 0 then some (some (.inl (-12)), τ) else if i4 < 0 then some (some (.inl (-12)), τ) else if Int32.ofNat N < i2 then some (some (.inl (-12)), τ) else if Int32.ofNat M < i4 then some (some (.inl (-12)), τ) else if Int32.ofNat N - i2 < i5 then some (some (.inl (-12)), τ) else if i5 ≤ Int32.ofNat M - i4 then x_f (D + 2) 218 147 [some (.inr (.inr (some 78))), none, none, none, none, some (.inl i5), some (.inl (40 * Int32.ofNat s + i2)), some (.inl (40 * Int32.ofNat o + i4)), some (.inl 0), none] [] τ else some (some (.inl (-12)), τ)) else some (some (.inl (-13)), τ)) = R → x_run (D + 3) 218 [.inr (.inr (some 78)), .inl (Int32.ofNat s), .inl i2, .inl (Int32.ofNat o), .inl i4, .inl i5] τ = R := by
          intro τ f R h
          have hGt := f.G hG
          have e86 : ∀ u, x_I τ 86 u = x_I σ 86 u := fun u => f.I (by omega)
          have e87 : ∀ u, x_I τ 87 u = x_I σ 87 u := fun u => f.I (by omega)
          rw [r218, e218_0, ← h, m133, x_ci_s, x_b1_1 (b3 hs), if_neg one, m133, x_ci_s, x_b1_1 (b3 ho), if_neg one]
          simp only [↓x_k78, ↓x_k86, ↓x_k87, x_q78_22, x_q78_23, hGt, x_der_s, ↓x_der_s, x_i4, x_n4, hs, ho, e86, e87, eN, eM]
        by_cases c1 : x_I σ 86 s = -1
        · exact fin (-11) (preC _ (if_pos c1)) (preR σ (x_fr.refl _ _ _) _ (if_pos c1))
        by_cases c2 : x_I σ 86 o = -1
        · exact fin (-11) (preC _ (by rw [if_neg c1, if_pos c2])) (preR σ (x_fr.refl _ _ _) _ (by rw [if_neg c1, if_pos c2]))
        by_cases c3 : x_I σ 86 s = x_I σ 86 o
        · by_cases c4 : y_hp (Int32.ofNat N) i2 i5 ∧ y_hp (Int32.ofNat M) i4 i5
          · obtain ⟨i, w, rfl, rfl, h1⟩ := y_hp_n hN c4.1
            obtain ⟨j, w', rfl, ew, h2⟩ := y_hp_n hM c4.2
            obtain ⟨⟨g1, g2, g3, g4⟩, ⟨g5, -, g6, g7⟩⟩ := id c4
            have hw : w = w' := by
              have hw1 : w ≤ 40 := by omega
              exact x_inj32 (by omega) (by omega) ew
            subst hw
            have a1 : x_run (D + 2) 34 [.inr (.inr (some (70 + 2 * o))), .inl (Int32.ofNat j), .inr (.inr (some (70 + 2 * s))), .inl (Int32.ofNat i), .inl (Int32.ofNat w)] σ = some (none, x_cp σ (71 + 2 * s) (71 + 2 * o) i j w) := by
              rw [r34, e34_0, x_ks5 hG ho, m33 _ hG ho, z2, eM, x_ci_s, x_b1_1 c4.2, if_neg one, x_der_s, x_ks5 hG hs, m33 _ hG hs, z1, eN, x_ci_s, x_b1_1 c4.1, if_neg one, x_der_s, x_ks5 hG hs, x_ks5 hG ho, x_qs5 hG hs, x_der_s, x_qs5 hG ho, x_der_s, x_kc5 hG hs, x_kc5 hG ho, if_neg (fun h => h.elim g1 (fun h => h.elim g5 g2)), x_tn (by omega), x_tn (by omega), x_tn (by omega), if_pos ⟨by omega, by omega⟩]
            have I1 : ∀ b u, x_I (x_cp σ (71 + 2 * s) (71 + 2 * o) i j w) b u = if b = 71 + 2 * o then (if j ≤ u ∧ u < j + w then x_I σ (71 + 2 * s) (i + (u - j)) else x_I σ (71 + 2 * o) u) else x_I σ b u := by
              intro b u
              show (bif Nat.beq b (71 + 2 * o) then va_cpy (σ.2.1 (71 + 2 * s)) (σ.2.1 (71 + 2 * o)) i j w u else σ.2.1 b u) = _
              by_cases c : b = 71 + 2 * o
              · subst c
                rw [Nat.beq_refl, if_pos rfl]
                rfl
              · have hb : Nat.beq b (71 + 2 * o) = false := by
                  cases h : Nat.beq b (71 + 2 * o) with
                  | true => exact absurd (Nat.eq_of_beq_eq_true h) c
                  | false => rfl
                rw [if_neg c, hb]
                rfl
            have f1 : x_fr (fun b _ => b = 71 + 2 * o) x_w0 σ (x_cp σ (71 + 2 * s) (71 + 2 * o) i j w) := ⟨rfl, fun _ _ => rfl, fun b u h => by rw [I1, if_neg h], fun _ _ _ => rfl⟩
            obtain ⟨τ, a2, f2, p2⟩ := l218 (D + 2) (A := 40 * s + i) (B := 40 * o + j) (n := w) (by omega) (by omega) (fun u => x_I σ 88 u) w 0 (x_cp σ (71 + 2 * s) (71 + 2 * o) i j w) (by omega) (f1.G hG) (fun u hu => absurd hu (by omega)) (fun u _ => f1.I (by omega))
            have fT : x_fr (y_ws o) x_w0 σ τ := (f1.mono (fun b u h => Or.inr (Or.inl h)) (fun _ _ h => h)).trans (f2.mono (fun b u h => Or.inr (Or.inr (Or.inr (Or.inr ⟨h.1, by omega, by omega⟩)))) (fun _ _ h => h))
            refine ⟨.inl (Int32.ofNat w), x_cp σ (71 + 2 * s) (71 + 2 * o) i j w, τ, ⟨_, rfl⟩, ?_, (f1.G hG).1, ?_, ?_⟩
            · refine preC _ ?_
              rw [if_neg c1, if_neg c2, if_pos c3, x_b1_1 c4.1, if_neg one, x_b1_1 c4.2, if_neg one, a1, x_cv_s]
            · refine preR _ f1 _ ?_
              rw [if_neg c1, if_neg c2, if_pos c3, if_neg g2, if_neg g1, if_neg g5, if_neg g3, if_neg g6, if_neg g4, if_pos (Int32.not_lt.mp g7), x_40, x_40]
              exact a2
            · have F : ∀ {b u : Nat}, b ≠ 71 + 2 * o → b ≠ 88 → x_I τ b u = x_I σ b u := fun h h' => (f2.I (fun g => h' g.1)).trans (f1.I h)
              refine y_R_she hG hP ho fT (fun a u h => Or.inr h) ⟨⟨?_, ?_⟩, ⟨?_, ?_⟩, fun k hk => ?_⟩
              · rw [F (by omega) (by omega), F (by omega) (by omega)]; exact s2
              · rw [F (by omega) (by omega)]; exact sb2
              · rw [F (by omega) (by omega), F (by omega) (by omega)]; exact z2
              · rw [F (by omega) (by omega)]; exact zb2
              · rw [f2.I (by omega), I1, if_pos rfl]
                by_cases c : j ≤ k ∧ k < j + w
                · rw [if_pos c, p2 (40 * o + k) (by omega) (by omega), cs (i + (k - j)) (by omega)]
                  show _ = x_I σ 88 (40 * s + i + (40 * o + k - (40 * o + j)))
                  rw [show 40 * s + i + (40 * o + k - (40 * o + j)) = 40 * s + (i + (k - j)) by omega]
                · rw [if_neg c, f2.I (by omega), f1.I (by omega)]
                  exact cs2 k hk
          · refine fin (-12) (preC _ ?_) (preR σ (x_fr.refl _ _ _) _ ?_)
            · rw [if_neg c1, if_neg c2, if_pos c3]
              by_cases g : y_hp (Int32.ofNat N) i2 i5
              · rw [x_b1_1 g, if_neg one, x_b1_0 (fun h => c4 ⟨g, h⟩), if_pos rfl]
              · rw [x_b1_0 g, if_pos rfl]
            · rw [if_neg c1, if_neg c2, if_pos c3]
              by_cases g2 : i5 < 0
              · rw [if_pos g2]
              rw [if_neg g2]
              by_cases g1 : i2 < 0
              · rw [if_pos g1]
              rw [if_neg g1]
              by_cases g5 : i4 < 0
              · rw [if_pos g5]
              rw [if_neg g5]
              by_cases g3 : Int32.ofNat N < i2
              · rw [if_pos g3]
              rw [if_neg g3]
              by_cases g6 : Int32.ofNat M < i4
              · rw [if_pos g6]
              rw [if_neg g6]
              by_cases g4 : Int32.ofNat N - i2 < i5
              · rw [if_pos g4]
              rw [if_neg g4, if_neg (fun g7 => c4 ⟨⟨g1, g2, g3, g4⟩, ⟨g5, g2, g6, Int32.not_lt.mpr g7⟩⟩)]
        · exact fin (-13) (preC _ (by rw [if_neg c1, if_neg c2, if_neg c3])) (preR σ (x_fr.refl _ _ _) _ (by rw [if_neg c1, if_neg c2, if_neg c3]))
      · refine fin (-2) ?_ ?_
        · rw [r116, e116_0, x_k0 hG, m121_in _ hG hs, x_cr_s, x_k0 hG, m121_out _ hG ho, x_cr_s, x_nul_s, x_nul_n]
        · rw [r218, e218_0, m133, x_ci_s, x_b1_1 (b3 hs), if_neg one, m133, x_ci_s, x_b1_0 (show ¬ (0 ≤ i3 ∧ i3 ≤ 3) from x_ltk (n := 3) (by omega) ho), if_pos rfl]
    · refine fin (-2) ?_ ?_
      · rw [r116, e116_0, x_k0 hG, m121_out _ hG ho, x_cr_s, x_k0 hG]
        rcases x_splitg (n := 4) (by omega) i3 with ⟨o, ho2, rfl⟩ | ho2
        · rw [m121_in _ hG ho2, x_cr_s, x_nul_n]
        · rw [m121_out _ hG ho2, x_cr_s, x_nul_n]
      · rw [r218, e218_0, m133, x_ci_s, x_b1_0 (show ¬ (0 ≤ i1 ∧ i1 ≤ 3) from x_ltk (n := 3) (by omega) ho), if_pos rfl]
