/-! calls that change numbers -/
def x_nn (a u : Nat) : Bool := (Nat.beq a 1 && Nat.ble 2 u) || (Nat.beq a 78 && ((Nat.ble 4 u && Nat.ble u 7) || Nat.beq u 13))
theorem x_I_ne {σ : xS} {a u a0 u0 : Nat} (v : Int32) (W : Nat → Nat → Bool) (h : W a u = false) (h0 : W a0 u0 = true) : x_I (x_si σ a0 u0 v) a u = x_I σ a u := by
  show (bif Nat.beq a a0 && Nat.beq u u0 then v else σ.2.1 a u) = σ.2.1 a u
  cases e : (Nat.beq a a0 && Nat.beq u u0) with
  | false => rfl
  | true =>
    obtain ⟨e1, e2⟩ := x_an e
    rw [Nat.eq_of_beq_eq_true e1, Nat.eq_of_beq_eq_true e2, h0] at h
    cases h
theorem x_Rp.num {σ τ : xS} {n t z : Nat} (h : x_Rp n t z σ) (e : ∀ a u, x_nn a u = false → x_I τ a u = x_I σ a u) (hnum : x_num τ 1 4 5 6 7 13 t) : x_Rp n t z τ := by
  obtain ⟨hn, ht, hz, ⟨l1, l2⟩, ⟨t1, t2⟩, ⟨z1, z2⟩, -, hl, hb, htx, him, hsh, hw⟩ := h
  refine ⟨hn, ht, hz, ⟨by rw [e 78 0 rfl]; exact l1, by rw [e 1 1 rfl]; exact l2⟩, ⟨by rw [e 78 12 rfl]; exact t1, by rw [e 0 7 rfl]; exact t2⟩, ⟨by rw [e 78 9 rfl]; exact z1, by rw [e 22 2 rfl]; exact z2⟩, hnum, fun l hl1 => ?_, fun k hk => ?_, fun k hk => ?_, ?_, fun s hs => ?_, fun q hq hq2 => ?_⟩
  · have hc : ∀ u, x_I τ (3 + l) u = x_I σ (3 + l) u := fun u => e _ u (by rcases (show l = 0 ∨ l = 1 ∨ l = 2 ∨ l = 3 ∨ l = 4 by omega) with rfl | rfl | rfl | rfl | rfl <;> rfl)
    exact ⟨x_row6.at hc (fun u => e 81 u rfl) (hl l hl1).1, x_kin.at hc (fun u => e 79 u rfl) (fun u => e 80 u rfl) (hl l hl1).2⟩
  · rw [e 23 _ rfl, e 82 _ rfl]; exact hb k hk
  · have hc : ∀ u, x_I τ (x_tc k + 1) u = x_I σ (x_tc k + 1) u ∧ x_I τ (x_tc k + 3) u = x_I σ (x_tc k + 3) u := fun u => by
      rcases (show k = 0 ∨ k = 1 ∨ k = 2 ∨ k = 3 ∨ k = 4 ∨ k = 5 by omega) with rfl | rfl | rfl | rfl | rfl | rfl <;> exact ⟨e _ u rfl, e _ u rfl⟩
    exact x_txt.at (fun u => e 83 u rfl) (fun u => e 84 u rfl) (fun u => (hc u).1) (fun u => (hc u).2) (htx k hk)
  · refine x_img.at hn (e 0 3 rfl) (fun u h1 h2 => e 78 u ?_) (fun u h1 h2 => e 8 u rfl) (fun l hl u => e _ u ?_) (fun u => e 85 u rfl) (fun l _ => e 79 l rfl) (fun l _ => e 80 l rfl) him
    · rcases (show u = 14 ∨ u = 15 ∨ u = 16 ∨ u = 17 ∨ u = 18 ∨ u = 19 ∨ u = 20 by omega) with rfl | rfl | rfl | rfl | rfl | rfl | rfl <;> rfl
    · rcases (show l = 0 ∨ l = 1 ∨ l = 2 ∨ l = 3 ∨ l = 4 by omega) with rfl | rfl | rfl | rfl | rfl <;> rfl
  · have hc : ∀ u, x_I τ (70 + 2 * s) u = x_I σ (70 + 2 * s) u ∧ x_I τ (71 + 2 * s) u = x_I σ (71 + 2 * s) u := fun u => by
      rcases (show s = 0 ∨ s = 1 ∨ s = 2 ∨ s = 3 by omega) with rfl | rfl | rfl | rfl <;> exact ⟨e _ u rfl, e _ u rfl⟩
    exact x_she.at (fun u => (hc u).1) (fun u => (hc u).2) (e 86 s rfl) (e 87 s rfl) (fun k _ => e 88 _ rfl) (hsh s hs)
  · rw [e 90 _ rfl]; exact hw q hq hq2
theorem x_01 {i : Int32} (h1 : ¬ i < 0) (h2 : i ≤ 1) : i = 0 ∨ i = 1 := by
  have a1 := Int32.le_iff_toInt_le.mp (Int32.not_lt.mp h1)
  have a2 := Int32.le_iff_toInt_le.mp h2
  have a1 : (0 : Int) ≤ i.toInt := a1
  have a2 : i.toInt ≤ 1 := a2
  rcases (show i.toInt = 0 ∨ i.toInt = 1 by omega) with h | h
  · exact Or.inl (Int32.toInt_inj.mp h)
  · exact Or.inr (Int32.toInt_inj.mp h)
theorem x_op_set (D : Nat) : ∀ (σ : xS) (as : List Int32), as.length = 2 → x_R σ → x_stp (D + 2) x_R false 77 137 as σ := by
  intro σ as hl hR
  match as, hl with
  | [i1, i2], _ =>
    obtain ⟨hG, n, t, z, hP⟩ := id hR
    obtain ⟨hn, ht, hz, ⟨l1, l2⟩, ⟨t1, t2⟩, ⟨z1, z2⟩, ⟨⟨y1, yb⟩, ⟨f1, fb⟩, ⟨g1, gb⟩, ⟨p1, pb⟩, ⟨u1, ub⟩⟩, -⟩ := id hP
    have q0 : x_Q σ 0 0 = some 1 := hG.2 (0, 0, some 1) (by decide)
    have same : ∀ v : Int32, x_run (D + 2) 77 [.inr (.inr (some 0)), .inl i1, .inl i2] σ = some (some (.inl v), σ) → x_run (D + 2) 137 [.inr (.inr (some 78)), .inl i1, .inl i2] σ = some (some (.inl v), σ) → x_stp (D + 2) x_R false 77 137 [i1, i2] σ := fun v e1 e2 => ⟨.inl v, σ, σ, ⟨v, rfl⟩, e1, hG.1, e2, hR⟩
    by_cases c1 : i1 < 0
    · refine same (-5) ?_ ?_
      · rw [r77, e77_0, if_pos c1]
      · have d0 : x_b1 (0 ≤ i1 ∧ i1 ≤ 1) = 0 := if_neg (fun h => absurd c1 (Int32.not_lt.mpr h.1))
        rw [r137, e137_0, m133, x_ci_s, d0, if_pos rfl]
    · by_cases c2 : i1 ≤ 1
      · have d1 : x_b1 (0 ≤ i1 ∧ i1 ≤ 1) = 1 := if_pos ⟨Int32.not_lt.mp c1, c2⟩
        by_cases c3 : 0 ≤ i2 ∧ i2 ≤ 99999
        · have d2 : x_b1 (0 ≤ i2 ∧ i2 ≤ 99999) = 1 := if_pos c3
          rcases x_01 c1 c2 with rfl | rfl
          · refine ⟨.inl (x_I σ 1 4), x_si σ 1 4 i2, x_si (x_si (x_si σ 1 4 i2) 78 6 i2) 78 7 (x_I σ 78 7), ⟨_, rfl⟩, ?_, hG.1, ?_, hG, n, t, z, hP.num ?_ ?_⟩
            · show x_run (D + 2) 77 [.inr (.inr (some 0)), .inl 0, .inl i2] σ = _
              rw [r77, e77_0, if_neg c1, if_pos c2, m126, x_ci_s, d2, if_neg (by decide), if_pos rfl, x_ckk hG.1 rfl, q0, x_der_s, x_ckk hG.1 rfl, x_feq, e77_46, if_pos rfl, x_ckk hG.1 rfl, q0, x_der_s, x_ckk hG.1 rfl]
            · show x_run (D + 2) 137 [.inr (.inr (some 78)), .inl 0, .inl i2] (x_si σ 1 4 i2) = _
              have hk : (x_si σ 1 4 i2).1 = x_K := hG.1
              have hk2 : (x_si (x_si σ 1 4 i2) 78 6 i2).1 = x_K := hG.1
              rw [r137, e137_0, m133, x_ci_s, d1, if_neg (by decide), m133, x_ci_s, d2, if_neg (by decide), if_pos rfl, x_ckk hk rfl, if_pos rfl, x_feq, e137_54, x_der_s, x_ckk hk rfl, if_neg (by decide), x_ckk hk2 rfl, x_ckk hk2 rfl, g1]
              rfl
            · intro a u h
              rw [x_I_ne _ x_nn h rfl, x_I_ne _ x_nn h rfl, x_I_ne _ x_nn h rfl]
            · exact ⟨⟨y1, yb⟩, ⟨f1, fb⟩, ⟨rfl, c3⟩, ⟨p1, pb⟩, ⟨u1, ub⟩⟩
          · refine ⟨.inl (x_I σ 1 5), x_si σ 1 5 i2, x_si (x_si (x_si σ 1 5 i2) 78 6 (x_I σ 78 6)) 78 7 i2, ⟨_, rfl⟩, ?_, hG.1, ?_, hG, n, t, z, hP.num ?_ ?_⟩
            · show x_run (D + 2) 77 [.inr (.inr (some 0)), .inl 1, .inl i2] σ = _
              rw [r77, e77_0, if_neg c1, if_pos c2, m126, x_ci_s, d2, if_neg (by decide), if_neg (by decide), x_ckk hG.1 rfl, q0, x_der_s, x_ckk hG.1 rfl, x_feq, e77_46, if_neg (by decide), x_ckk hG.1 rfl, q0, x_der_s, x_ckk hG.1 rfl]
            · show x_run (D + 2) 137 [.inr (.inr (some 78)), .inl 1, .inl i2] (x_si σ 1 5 i2) = _
              have hk : (x_si σ 1 5 i2).1 = x_K := hG.1
              have hk2 : (x_si (x_si σ 1 5 i2) 78 6 (x_I (x_si σ 1 5 i2) 78 6)).1 = x_K := hG.1
              rw [r137, e137_0, m133, x_ci_s, d1, if_neg (by decide), m133, x_ci_s, d2, if_neg (by decide), if_neg (by decide), x_ckk hk rfl, if_neg (by decide), x_ckk hk rfl, x_feq, e137_54, x_der_s, x_ckk hk rfl, if_pos rfl, x_ckk hk2 rfl, p1]
              rfl
            · intro a u h
              rw [x_I_ne _ x_nn h rfl, x_I_ne _ x_nn h rfl, x_I_ne _ x_nn h rfl]
            · exact ⟨⟨y1, yb⟩, ⟨f1, fb⟩, ⟨g1, gb⟩, ⟨rfl, c3⟩, ⟨u1, ub⟩⟩
        · have d2 : x_b1 (0 ≤ i2 ∧ i2 ≤ 99999) = 0 := if_neg c3
          refine same (-7) ?_ ?_
          · rw [r77, e77_0, if_neg c1, if_pos c2, m126, x_ci_s, d2, if_pos rfl]
          · rw [r137, e137_0, m133, x_ci_s, d1, if_neg (by decide), m133, x_ci_s, d2, if_pos rfl]
      · refine same (-5) ?_ ?_
        · rw [r77, e77_0, if_neg c1, if_neg c2]
        · have d0 : x_b1 (0 ≤ i1 ∧ i1 ≤ 1) = 0 := if_neg (fun h => c2 h.2)
          rw [r137, e137_0, m133, x_ci_s, d0, if_pos rfl]
theorem x_pred {i : Int32} {t : Nat} (h1 : 1 ≤ t) (h2 : t ≤ 6) : i ≤ Int32.ofNat t - 1 ↔ i < Int32.ofNat t := by
  rw [Int32.le_iff_toInt_le, Int32.lt_iff_toInt_lt]
  have e : (Int32.ofNat t - 1).toInt = (t : Int) - 1 ∧ (Int32.ofNat t).toInt = (t : Int) := by
    rcases (show t = 1 ∨ t = 2 ∨ t = 3 ∨ t = 4 ∨ t = 5 ∨ t = 6 by omega) with rfl | rfl | rfl | rfl | rfl | rfl <;> exact ⟨by decide, by decide⟩
  rw [e.1, e.2]
  omega
theorem x_op_force (D : Nat) : ∀ (σ : xS) (as : List Int32), as.length = 1 → x_R σ → x_stp (D + 2) x_R false 80 153 as σ := by
  intro σ as hl hR
  match as, hl with
  | [i1], _ =>
    obtain ⟨hG, n, t, z, hP⟩ := id hR
    obtain ⟨hn, ht, hz, ⟨l1, l2⟩, ⟨t1, t2⟩, ⟨z1, z2⟩, ⟨⟨y1, yb⟩, ⟨f1, fb⟩, ⟨g1, gb⟩, ⟨p1, pb⟩, ⟨u1, ub⟩⟩, -⟩ := id hP
    have q0 : x_Q σ 0 0 = some 1 := hG.2 (0, 0, some 1) (by decide)
    have same : ∀ v : Int32, x_run (D + 2) 80 [.inr (.inr (some 0)), .inl i1] σ = some (some (.inl v), σ) → x_run (D + 2) 153 [.inr (.inr (some 78)), .inl i1] σ = some (some (.inl v), σ) → x_stp (D + 2) x_R false 80 153 [i1] σ := fun v e1 e2 => ⟨.inl v, σ, σ, ⟨v, rfl⟩, e1, hG.1, e2, hR⟩
    by_cases c1 : i1 < 0
    · have d0 : x_b1 (0 ≤ i1 ∧ i1 ≤ Int32.ofNat t - 1) = 0 := if_neg (fun h => absurd c1 (Int32.not_lt.mpr h.1))
      refine same (-2) ?_ ?_
      · rw [r80, e80_0, if_pos c1]
      · rw [r153, e153_0, x_ckk hG.1 rfl, t1, m133, x_ci_s, d0, if_pos rfl]
    · by_cases c2 : i1 < Int32.ofNat t
      · have d0 : x_b1 (0 ≤ i1 ∧ i1 ≤ Int32.ofNat t - 1) = 1 := if_pos ⟨Int32.not_lt.mp c1, (x_pred ht.1 ht.2).mpr c2⟩
        have hk : (x_si σ 1 6 i1).1 = x_K := hG.1
        have t1' : x_I (x_si σ 1 6 i1) 78 12 = Int32.ofNat t := t1
        refine ⟨.inl (x_I σ 1 6), x_si σ 1 6 i1, x_si (x_si σ 1 6 i1) 78 13 i1, ⟨_, rfl⟩, ?_, hG.1, ?_, hG, n, t, z, hP.num ?_ ?_⟩
        · show x_run (D + 2) 80 [.inr (.inr (some 0)), .inl i1] σ = _
          rw [r80, e80_0, if_neg c1, x_ckk hG.1 rfl, t2, if_pos c2, x_ckk hG.1 rfl, q0, x_der_s, x_ckk hG.1 rfl, x_ckk hG.1 rfl, x_der_s, x_ckk hG.1 rfl]
        · show x_run (D + 2) 153 [.inr (.inr (some 78)), .inl i1] (x_si σ 1 6 i1) = _
          rw [r153, e153_0, x_ckk hk rfl, t1', m133, x_ci_s, d0, if_neg (by decide), x_ckk hk rfl, x_ckk hk rfl, u1]
          rfl
        · intro a u h
          rw [x_I_ne _ x_nn h rfl, x_I_ne _ x_nn h rfl]
        · exact ⟨⟨y1, yb⟩, ⟨f1, fb⟩, ⟨g1, gb⟩, ⟨p1, pb⟩, ⟨rfl, Int32.not_lt.mp c1, c2⟩⟩
      · have d0 : x_b1 (0 ≤ i1 ∧ i1 ≤ Int32.ofNat t - 1) = 0 := if_neg (fun h => c2 ((x_pred ht.1 ht.2).mp h.2))
        refine same (-2) ?_ ?_
        · rw [r80, e80_0, if_neg c1, x_ckk hG.1 rfl, t2, if_neg c2]
        · rw [r153, e153_0, x_ckk hG.1 rfl, t1, m133, x_ci_s, d0, if_pos rfl]
