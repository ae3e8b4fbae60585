/-! cell, film -/
noncomputable def y_mrg (S : Nat → Nat → Prop) (σ τ : xS) : xS := (σ.1, (fun a u => @ite _ (S a u) (Classical.propDecidable _) (τ.2.1 a u) (σ.2.1 a u)), σ.2.2.1, σ.2.2.2)
theorem y_mrg_1 {S : Nat → Nat → Prop} {σ τ : xS} {a u : Nat} (h : S a u) : x_I (y_mrg S σ τ) a u = x_I τ a u := @if_pos _ (Classical.propDecidable _) h _ _ _
theorem y_mrg_0 {S : Nat → Nat → Prop} {σ τ : xS} {a u : Nat} (h : ¬ S a u) : x_I (y_mrg S σ τ) a u = x_I σ a u := @if_neg _ (Classical.propDecidable _) h _ _ _
/-- what is written is scratch, or lies where S says -/
theorem y_mrg_R {S W V : Nat → Nat → Prop} {σ τ : xS} {n t z : Nat} (hG : x_G σ) (f : x_fr W V σ τ) (hW : ∀ a u, x_per a u = true → W a u → S a u) (hP : x_Rp n t z (y_mrg S σ τ)) : x_R τ := by
  have hR : x_R (y_mrg S σ τ) := ⟨hG, n, t, z, hP⟩
  refine hR.to ⟨f.1, f.2.1, fun a u p => ?_⟩
  by_cases c : S a u
  · rw [y_mrg_1 c]
  · rw [y_mrg_0 c]
    exact f.I (fun g => c (hW a u p g))
def y_ws (s a u : Nat) : Prop := a = 70 + 2 * s ∨ a = 71 + 2 * s ∨ (a = 86 ∧ u = s) ∨ (a = 87 ∧ u = s) ∨ (a = 88 ∧ 40 * s ≤ u ∧ u < 40 * s + 40)
theorem y_R_she {W V : Nat → Nat → Prop} {σ τ : xS} {n t z s : Nat} (hG : x_G σ) (hP : x_Rp n t z σ) (hs : s < 4) (f : x_fr W V σ τ) (hW : ∀ a u, W a u → y_wb a u ∨ y_ws s a u) (g : x_she τ s) : x_R τ := by
  refine y_mrg_R (S := y_ws s) (n := n) (t := t) (z := z) hG f (fun a u p w => (hW a u w).resolve_left (y_wb_per a u p)) (hP.she hs (fun a u h1 h2 h3 h4 h5 => y_mrg_0 ?_) ?_)
  · unfold y_ws; omega
  · exact x_she.at (fun u => y_mrg_1 (Or.inl rfl)) (fun u => y_mrg_1 (Or.inr (Or.inl rfl))) (y_mrg_1 (Or.inr (Or.inr (Or.inl ⟨rfl, rfl⟩)))) (y_mrg_1 (Or.inr (Or.inr (Or.inr (Or.inl ⟨rfl, rfl⟩))))) (fun k hk => y_mrg_1 (Or.inr (Or.inr (Or.inr (Or.inr ⟨rfl, by omega, by omega⟩))))) g
theorem y_ha {s : Nat} (hs : s < 4) : x_nth x_K (71 + 2 * s) = (11, 40) := by
  rcases (show s = 0 ∨ s = 1 ∨ s = 2 ∨ s = 3 by omega) with rfl | rfl | rfl | rfl <;> rfl
def y_cast (so v : Int32) : Int32 := if so = 0 then v.toInt8.toInt32 else if so = 1 then v.toInt16.toInt32 else v
theorem m32 (d : Nat) {σ : xS} (hG : x_G σ) {s i : Nat} (hs : s < 4) (hi : i < 40) (v : Int32) : x_run (d + 2) 32 [.inr (.inr (some (70 + 2 * s))), .inl (Int32.ofNat i), .inl v] σ = some (none, x_si σ (71 + 2 * s) i (y_cast (x_I σ (70 + 2 * s) 1) v)) := by
  rw [r32, e32_0, x_ks5 hG hs, x_ks5 hG hs]
  unfold y_cast
  by_cases c : x_I σ (70 + 2 * s) 1 = 0
  · rw [if_pos c, if_pos c, x_qs5 hG hs, m130 d hG (y_ha hs) hi (by omega), x_cv_s]
  · rw [if_neg c, if_neg c, x_ks5 hG hs]
    by_cases c1 : x_I σ (70 + 2 * s) 1 = 1
    · rw [if_pos c1, if_pos c1, x_qs5 hG hs, m130 d hG (y_ha hs) hi (by omega), x_cv_s]
    · rw [if_neg c1, if_neg c1, x_qs5 hG hs, m130 d hG (y_ha hs) hi (by omega), x_cv_s]
theorem x_op_cell (D : Nat) : ∀ (σ : xS) (as : List Int32), as.length = 3 → x_R σ → x_stp (D + 3) x_R false 115 217 as σ := by
  intro σ as hl hR
  match as, hl with
  | [i1, i2, v], _ =>
    obtain ⟨hG, n, t, z, hP⟩ := id hR
    obtain ⟨hn, ht, hz, ⟨l1, l2⟩, ⟨t1, t2⟩, -, -, -, -, -, -, hsh, -⟩ := id hP
    have one : ¬ (1 : Int32) = 0 := by decide
    have fin : ∀ w : Int32, x_run (D + 3) 115 [.inr (.inr (some 0)), .inl i1, .inl i2, .inl v] σ = some (some (.inl w), σ) → x_run (D + 3) 217 [.inr (.inr (some 78)), .inl i1, .inl i2, .inl v] σ = some (some (.inl w), σ) → x_stp (D + 3) x_R false 115 217 [i1, i2, v] σ := fun w e1 e2 => x_op_eq hR (.inl w) ⟨w, rfl⟩ e1 e2
    rcases x_splitg (n := 4) (by omega) i1 with ⟨s, hs, rfl⟩ | ho
    · have d1 : x_b1 (0 ≤ Int32.ofNat s ∧ Int32.ofNat s ≤ 3) = 1 := if_pos ⟨Int32.not_lt.mp (x_nn0 (by omega)), (x_le (b := 3) (by omega) (by omega)).mpr (by omega)⟩
      have sh := hsh s hs
      obtain ⟨⟨s1, sb⟩, ⟨z1, zb⟩, cs⟩ := id sh
      by_cases c1 : x_I σ 86 s = -1
      · refine fin (-11) ?_ ?_
        · rw [r115, e115_0, x_k0 hG, m121_in _ hG hs, x_cr_s, x_nul_s, x_der_s, x_ks5 hG hs, s1, if_pos c1]
        · rw [r217, e217_0, m133, x_ci_s, d1, if_neg one, x_k78 hG, x_q78_22 hG, x_der_s, x_k86 hG, x_i4 hs, x_n4 hs, if_pos c1]
      · obtain ⟨N, hN, eN⟩ := x_bd_of (n := 40) (by omega) zb rfl
        have pre1 : ∀ R : Option xR, (if i2 < 0 then some (some (.inl (-12)), σ) else if i2 < Int32.ofNat N then x_cv (x_run (D + 2) 32 [.inr (.inr (some (70 + 2 * s))), .inl i2, .inl v] σ) (fun σ6 => some (some (.inl 1), σ6)) else some (some (.inl (-12)), σ)) = R → x_run (D + 3) 115 [.inr (.inr (some 0)), .inl (Int32.ofNat s), .inl i2, .inl v] σ = R := by
          intro R h
          rw [r115, e115_0, ← h, x_k0 hG, m121_in _ hG hs, x_cr_s, x_nul_s, x_der_s, x_ks5 hG hs, s1, if_neg c1, x_der_s, x_ks5 hG hs, z1, eN, x_der_s, x_ks5 hG hs]
        have pre2 : ∀ (τ : xS) (_ : x_fr (fun a _ => a = 71 + 2 * s) x_w0 σ τ) (R : Option xR), (if x_b1 (0 ≤ i2 ∧ i2 ≤ Int32.ofNat N - 1) = 0 then some (some (.inl (-12)), τ) else if x_I σ 86 s = 0 then x_ix (40 * Int32.ofNat s + i2) 160 (some (some (.inl 1), x_si τ 88 (40 * Int32.ofNat s + i2).toNatClampNeg v.toInt8.toInt32)) else if x_I σ 86 s = 1 then x_ix (40 * Int32.ofNat s + i2) 160 (some (some (.inl 1), x_si τ 88 (40 * Int32.ofNat s + i2).toNatClampNeg v.toInt16.toInt32)) else x_ix (40 * Int32.ofNat s + i2) 160 (some (some (.inl 1), x_si τ 88 (40 * Int32.ofNat s + i2).toNatClampNeg v))) = R → x_run (D + 3) 217 [.inr (.inr (some 78)), .inl (Int32.ofNat s), .inl i2, .inl v] τ = R := by
          intro τ f R h
          have hGt := f.G hG
          have e86 : x_I τ 86 s = x_I σ 86 s := f.I (by omega)
          have e87 : x_I τ 87 s = Int32.ofNat N := (f.I (by omega)).trans eN
          rw [r217, e217_0, ← h, m133, x_ci_s, d1, if_neg one]
          simp only [↓x_k78, ↓x_k86, ↓x_k87, ↓x_k88, x_q78_22, x_q78_23, x_q78_24, hGt, x_der_s, ↓x_der_s, x_i4, x_n4, hs, e86, e87, if_neg c1, m133, x_ci_s]
        rcases x_splitg (n := N) (by omega) i2 with ⟨i, hi, rfl⟩ | h2
        · have hi40 : i < 40 := by omega
          have a1 := m32 D hG hs hi40 v
          rw [s1] at a1
          have f1 : x_fr (fun a _ => a = 71 + 2 * s) x_w0 σ (x_si σ (71 + 2 * s) i (y_cast (x_I σ 86 s) v)) := (x_fr.refl (fun a _ => a = 71 + 2 * s) x_w0 σ).si _ rfl
          have d2 : x_b1 (0 ≤ Int32.ofNat i ∧ Int32.ofNat i ≤ Int32.ofNat N - 1) = 1 := by
            refine if_pos ⟨Int32.not_lt.mp (x_nn0 (by omega)), ?_⟩
            rw [show (1 : Int32) = Int32.ofNat 1 from rfl, x_sb (by omega) (by omega)]
            exact (x_le (by omega) (by omega)).mpr (by omega)
          have fW : x_fr (fun a u => a = 71 + 2 * s ∨ (a = 88 ∧ u = 40 * s + i)) x_w0 σ (x_si (x_si σ (71 + 2 * s) i (y_cast (x_I σ 86 s) v)) 88 (40 * s + i) (y_cast (x_I σ 86 s) v)) := (f1.mono (fun _ _ h => Or.inl h) (fun _ _ h => h)).si _ (Or.inr ⟨rfl, rfl⟩)
          refine ⟨.inl 1, x_si σ (71 + 2 * s) i (y_cast (x_I σ 86 s) v), x_si (x_si σ (71 + 2 * s) i (y_cast (x_I σ 86 s) v)) 88 (40 * s + i) (y_cast (x_I σ 86 s) v), ⟨1, rfl⟩, ?_, hG.1, ?_, ?_⟩
          · refine pre1 _ ?_
            rw [if_neg (x_nn0 (by omega)), if_pos (Int32.not_le.mp (fun h => absurd ((x_le (by omega) (by omega)).mp h) (by omega))), a1, x_cv_s]
          · refine pre2 _ f1 _ ?_
            rw [d2, if_neg one]
            unfold y_cast
            by_cases g0 : x_I σ 86 s = 0
            · simp only [if_pos g0, x_40, x_40i hs hi40, x_40n hs hi40]
            · by_cases g1 : x_I σ 86 s = 1
              · simp only [if_neg g0, if_pos g1, x_40, x_40i hs hi40, x_40n hs hi40]
              · simp only [if_neg g0, if_neg g1, x_40, x_40i hs hi40, x_40n hs hi40]
          · refine y_R_she hG hP hs fW (fun a u h => Or.inr ?_) ?_
            · unfold y_ws; omega
            · refine ⟨⟨?_, ?_⟩, ⟨?_, ?_⟩, fun k hk => ?_⟩
              · rw [fW.I (by omega), fW.I (by omega)]; exact s1
              · rw [fW.I (by omega)]; exact sb
              · rw [fW.I (by omega), fW.I (by omega)]; exact z1
              · rw [fW.I (by omega)]; exact zb
              · by_cases q : k = i
                · subst q
                  rw [x_Isi, if_neg (by omega), x_Isi, if_pos ⟨rfl, rfl⟩, x_Isi, if_pos ⟨rfl, rfl⟩]
                · rw [x_Isi, if_neg (by omega), x_Isi, if_neg (by omega), x_Isi, if_neg (by omega), x_Isi, if_neg (by omega)]
                  exact cs k hk
        · have d2 : x_b1 (0 ≤ i2 ∧ i2 ≤ Int32.ofNat N - 1) = 0 := by
            refine if_neg (fun g => ?_)
            rcases h2 with h2 | h2
            · exact absurd h2 (Int32.not_lt.mpr g.1)
            · have g2 := g.2
              rcases N with _ | N
              · have g3 := Int32.le_trans g.1 g2
                exact absurd g3 (by decide)
              · rw [x_p1] at g2
                exact absurd ((x_le (by omega) (by omega)).mp (Int32.le_trans h2 g2)) (by omega)
          refine fin (-12) (pre1 _ ?_) (pre2 σ (x_fr.refl _ _ _) _ ?_)
          · rcases h2 with h2 | h2
            · rw [if_pos h2]
            · by_cases g : i2 < 0
              · rw [if_pos g]
              · rw [if_neg g, if_neg (Int32.not_lt.mpr h2)]
          · rw [d2, if_pos rfl]
    · refine fin (-2) ?_ ?_
      · rw [r115, e115_0, x_k0 hG, m121_out _ hG ho, x_cr_s, x_nul_n]
      · rw [r217, e217_0, m133, x_ci_s, x_b1_0 (show ¬ (0 ≤ i1 ∧ i1 ≤ 3) from x_ltk (n := 3) (by omega) ho), if_pos rfl]
