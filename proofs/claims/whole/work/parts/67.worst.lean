/-! ruin, worst -/
def y_pop (i0 : Int32) : Int32 := ((((((((i0 - (((i0.toUInt32 >>> ((1 : Int32).toUInt32 &&& Int32.toUInt32 31)).toInt32) &&& 1431655765)) &&& 858993459) + ((((i0 - (((i0.toUInt32 >>> ((1 : Int32).toUInt32 &&& Int32.toUInt32 31)).toInt32) &&& 1431655765)).toUInt32 >>> ((2 : Int32).toUInt32 &&& Int32.toUInt32 31)).toInt32) &&& 858993459)) + (((((i0 - (((i0.toUInt32 >>> ((1 : Int32).toUInt32 &&& Int32.toUInt32 31)).toInt32) &&& 1431655765)) &&& 858993459) + ((((i0 - (((i0.toUInt32 >>> ((1 : Int32).toUInt32 &&& Int32.toUInt32 31)).toInt32) &&& 1431655765)).toUInt32 >>> ((2 : Int32).toUInt32 &&& Int32.toUInt32 31)).toInt32) &&& 858993459)).toUInt32 >>> ((4 : Int32).toUInt32 &&& Int32.toUInt32 31)).toInt32)) &&& 252645135) + (((((((i0 - (((i0.toUInt32 >>> ((1 : Int32).toUInt32 &&& Int32.toUInt32 31)).toInt32) &&& 1431655765)) &&& 858993459) + ((((i0 - (((i0.toUInt32 >>> ((1 : Int32).toUInt32 &&& Int32.toUInt32 31)).toInt32) &&& 1431655765)).toUInt32 >>> ((2 : Int32).toUInt32 &&& Int32.toUInt32 31)).toInt32) &&& 858993459)) + (((((i0 - (((i0.toUInt32 >>> ((1 : Int32).toUInt32 &&& Int32.toUInt32 31)).toInt32) &&& 1431655765)) &&& 858993459) + ((((i0 - (((i0.toUInt32 >>> ((1 : Int32).toUInt32 &&& Int32.toUInt32 31)).toInt32) &&& 1431655765)).toUInt32 >>> ((2 : Int32).toUInt32 &&& Int32.toUInt32 31)).toInt32) &&& 858993459)).toUInt32 >>> ((4 : Int32).toUInt32 &&& Int32.toUInt32 31)).toInt32)) &&& 252645135).toUInt32 >>> ((8 : Int32).toUInt32 &&& Int32.toUInt32 31)).toInt32)) + ((((((((i0 - (((i0.toUInt32 >>> ((1 : Int32).toUInt32 &&& Int32.toUInt32 31)).toInt32) &&& 1431655765)) &&& 858993459) + ((((i0 - (((i0.toUInt32 >>> ((1 : Int32).toUInt32 &&& Int32.toUInt32 31)).toInt32) &&& 1431655765)).toUInt32 >>> ((2 : Int32).toUInt32 &&& Int32.toUInt32 31)).toInt32) &&& 858993459)) + (((((i0 - (((i0.toUInt32 >>> ((1 : Int32).toUInt32 &&& Int32.toUInt32 31)).toInt32) &&& 1431655765)) &&& 858993459) + ((((i0 - (((i0.toUInt32 >>> ((1 : Int32).toUInt32 &&& Int32.toUInt32 31)).toInt32) &&& 1431655765)).toUInt32 >>> ((2 : Int32).toUInt32 &&& Int32.toUInt32 31)).toInt32) &&& 858993459)).toUInt32 >>> ((4 : Int32).toUInt32 &&& Int32.toUInt32 31)).toInt32)) &&& 252645135) + (((((((i0 - (((i0.toUInt32 >>> ((1 : Int32).toUInt32 &&& Int32.toUInt32 31)).toInt32) &&& 1431655765)) &&& 858993459) + ((((i0 - (((i0.toUInt32 >>> ((1 : Int32).toUInt32 &&& Int32.toUInt32 31)).toInt32) &&& 1431655765)).toUInt32 >>> ((2 : Int32).toUInt32 &&& Int32.toUInt32 31)).toInt32) &&& 858993459)) + (((((i0 - (((i0.toUInt32 >>> ((1 : Int32).toUInt32 &&& Int32.toUInt32 31)).toInt32) &&& 1431655765)) &&& 858993459) + ((((i0 - (((i0.toUInt32 >>> ((1 : Int32).toUInt32 &&& Int32.toUInt32 31)).toInt32) &&& 1431655765)).toUInt32 >>> ((2 : Int32).toUInt32 &&& Int32.toUInt32 31)).toInt32) &&& 858993459)).toUInt32 >>> ((4 : Int32).toUInt32 &&& Int32.toUInt32 31)).toInt32)) &&& 252645135).toUInt32 >>> ((8 : Int32).toUInt32 &&& Int32.toUInt32 31)).toInt32)).toUInt32 >>> ((16 : Int32).toUInt32 &&& Int32.toUInt32 31)).toInt32)) &&& 63)
theorem m223 (d : Nat) (i : Int32) (σ : xS) : x_run (d + 1) 223 [.inl i] σ = some (some (.inl (y_pop i)), σ) := by
  rw [r223, e223_0]
  rfl
theorem y_popc : ∀ k, k < 32 → y_pop (Int32.ofNat k) = Int32.ofNat (y_cnt k) := by decide +kernel
def y_on1 (i0 : Int32) (l : Nat) (a : Int32) : Int32 := a + ((i0 >>> (Int32.ofNat l &&& 31)) &&& 1)
theorem l191 (d : Nat) (i0 : Int32) (σ : xS) : ∀ q l a, l + q = 5 → x_f d 191 4 [some (.inl i0), some (.inl a), some (.inl (Int32.ofNat l))] [] σ = some (some (.inl (x_it (y_on1 i0) l q a)), σ)
  | 0, l, a, h => by
    have : l = 5 := by omega
    subst this
    rw [x_feq, e191_4, if_pos (by decide)]
    rfl
  | q + 1, l, a, h => by
    have nxt := l191 d i0 σ q (l + 1) (y_on1 i0 l a) (by omega)
    rw [x_feq, e191_4, if_neg (show ¬ (5 : Int32) ≤ Int32.ofNat (l) from fun h => absurd ((x_le (a := 5) (by omega) (by omega)).mp h) (by omega)), x_s1]
    exact nxt
theorem y_onec : ∀ k, k < 32 → x_it (y_on1 (Int32.ofNat k)) 0 5 0 = Int32.ofNat (y_cnt k) := by decide +kernel
theorem m191 (d : Nat) {k : Nat} (hk : k < 32) (σ : xS) : x_run (d + 1) 191 [.inl (Int32.ofNat k)] σ = some (some (.inl (Int32.ofNat (y_cnt k))), σ) := by
  rw [r191, e191_0, ← y_onec k hk]
  exact l191 d _ σ 5 0 0 (by omega)
theorem y_sh5 {l : Nat} (h : l ≤ 5) : (1 : Int32) <<< (Int32.ofNat l &&& 31) = Int32.ofNat (2 ^ l) := by
  rcases (show l = 0 ∨ l = 1 ∨ l = 2 ∨ l = 3 ∨ l = 4 ∨ l = 5 by omega) with rfl | rfl | rfl | rfl | rfl | rfl <;> decide
theorem y_ru_nat (n : Nat) (g : Nat → Option Nat) (W E : Nat → Int32) (P : Int32) (hn : n ≤ 5) : ∀ q k c, k < 2 ^ n → ∃ r, r < 2 ^ n ∧ (y_ru n g W E P q (Int32.ofNat k) c).1 = Int32.ofNat r
  | 0, k, c, h => ⟨k, h, rfl⟩
  | q + 1, k, c, h => by
    show ∃ r, r < 2 ^ n ∧ (if Int32.ofNat k ||| y_R n g W E P (Int32.ofNat k) = Int32.ofNat k then (Int32.ofNat k, c) else y_ru n g W E P q (Int32.ofNat k ||| y_R n g W E P (Int32.ofNat k)) (c + 1)).1 = Int32.ofNat r
    split
    · exact ⟨k, h, rfl⟩
    · obtain ⟨r, hr, eR⟩ := y_R_nat n g W E P (Int32.ofNat k) hn n 0 0 (by omega) (Nat.pow_pos (by omega))
      have eR' : y_R n g W E P (Int32.ofNat k) = Int32.ofNat r := eR
      rw [eR', y_por]
      exact y_ru_nat n g W E P hn q (k ||| r) (c + 1) (Nat.or_lt_two_pow h hr)
/-- the ties at σ -/
theorem y_nets {σ : xS} {n t z : Nat} (hG : x_G σ) (hP : x_Rp n t z σ) : ∃ g W E P, y_gn n g ∧ y_net n g W E P σ := by
  obtain ⟨hn, ht, hz, ⟨l1, l2⟩, ⟨t1, t2⟩, -, hnum, hli, -⟩ := id hP
  obtain ⟨⟨y1, yb⟩, ⟨f1n, fb⟩, ⟨g1, gb⟩, ⟨p1, pb⟩, ⟨u1, ub⟩⟩ := id hnum
  have key : ∀ l, l < n → x_I σ 81 (6 * l + 4) = y_pr (if x_I σ 81 (6 * l + 4) = -1 then none else some (x_I σ 81 (6 * l + 4)).toNatClampNeg) ∧ ∀ k, (if x_I σ 81 (6 * l + 4) = -1 then none else some (x_I σ 81 (6 * l + 4)).toNatClampNeg) = some k → k < n := by
    intro l hl
    obtain ⟨⟨-, -, -, -, -, ⟨b4, b5⟩, -⟩, -⟩ := hli l hl
    by_cases c : x_I σ 81 (6 * l + 4) = -1
    · rw [if_pos c]
      exact ⟨c, fun k h => by cases h⟩
    · rw [if_neg c]
      have p : 0 ≤ x_I σ 81 (6 * l + 4) := by
        rw [Int32.le_iff_toInt_le] at b4 ⊢
        have h1 : (-1 : Int32).toInt = -1 := by decide
        have h2 : (0 : Int32).toInt = 0 := by decide
        have h3 : (x_I σ 81 (6 * l + 4)).toInt ≠ -1 := fun h => c (Int32.toInt_inj.mp (h.trans h1.symm))
        omega
      obtain ⟨k, hk, e⟩ := x_bd_of (v := x_I σ 81 (6 * l + 4)) (hi := Int32.ofNat n) (n := n) (by omega) ⟨p, Int32.le_of_lt b5⟩ rfl
      have hk2 : k < n := by
        rw [e] at b5
        exact Decidable.byContradiction fun h => absurd b5 (Int32.not_lt.mpr ((x_le (by omega) (by omega)).mpr (by omega)))
      rw [e, x_tn (by omega)]
      refine ⟨rfl, fun k' h => ?_⟩
      cases h
      exact hk2
  refine ⟨fun l => if x_I σ 81 (6 * l + 4) = -1 then none else some (x_I σ 81 (6 * l + 4)).toNatClampNeg, fun l => x_I σ 81 (6 * l), fun l => x_I σ 81 (6 * l + 1), x_I σ 78 7, fun l hl => (key l hl).2, hG, l2, p1, l1, rfl, fun l hl => ?_⟩
  obtain ⟨⟨h6, -⟩, -⟩ := hli l hl
  exact ⟨(h6 4 (by omega)).trans (key l hl).1, (key l hl).1, h6 0 (by omega), rfl, h6 1 (by omega), rfl⟩
theorem x_op_ruin (D : Nat) : ∀ (σ : xS) (as : List Int32), as.length = 2 → x_R σ → x_stp (D + 4) x_R false 98 190 as σ := by
  intro σ as hl hR
  match as, hl with
  | [i1, i2], _ =>
    obtain ⟨hG, n, t, z, hP⟩ := id hR
    obtain ⟨hn, ht, hz, ⟨l1, l2⟩, ⟨t1, t2⟩, -⟩ := id hP
    have one : ¬ (1 : Int32) = 0 := by decide
    have fin : ∀ w : Int32, x_run (D + 4) 98 [.inr (.inr (some 0)), .inl i1, .inl i2] σ = some (some (.inl w), σ) → x_run (D + 4) 190 [.inr (.inr (some 78)), .inl i1, .inl i2] σ = some (some (.inl w), σ) → x_stp (D + 4) x_R false 98 190 [i1, i2] σ := fun w e1 e2 => x_op_eq hR (.inl w) ⟨w, rfl⟩ e1 e2
    have p5 := y_pw5 hn
    have pp : 1 ≤ 2 ^ n := Nat.pow_pos (by omega)
    have e1n : (1 : Int32) <<< (Int32.ofNat n &&& 31) - 1 = Int32.ofNat (2 ^ n - 1) := by
      rw [y_sh5 hn, show (1 : Int32) = Int32.ofNat 1 from rfl]
      exact x_sb pp (by omega)
    by_cases c1 : 0 ≤ i1 ∧ i1 ≤ Int32.ofNat (2 ^ n - 1)
    · obtain ⟨k, hk, rfl⟩ := x_bd_of (n := 2 ^ n - 1) (by omega) c1 rfl
      have hk2 : k < 2 ^ n := by omega
      have nle : ¬ Int32.ofNat (2 ^ n) ≤ Int32.ofNat k := fun h => absurd ((x_le (by omega) (by omega)).mp h) (by omega)
      by_cases c2 : 0 ≤ i2 ∧ i2 ≤ 1
      · obtain ⟨g, W, E, P, hg, net⟩ := y_nets hG hP
        obtain ⟨σ1, a1, f1, k1⟩ := m72 D n g W E P hn hg net (Int32.ofNat k)
        have net1 := net.to n g W E P hn (f1.e y_wn_per)
        obtain ⟨τ, a2, f2, k2⟩ := m189 D n g W E P hn hg net1 hk2
        have hG1 := net1.1
        have hG2 := f2.G hG1
        refine x_op_fr hR (.inl (if i2 = 0 then (y_ru n g W E P (n + 1) (Int32.ofNat k) 0).1 else (y_ru n g W E P (n + 1) (Int32.ofNat k) 0).2)) ⟨_, rfl⟩ y_wn_per ?_ f1 ?_ f2
        · show x_run (D + 4) 98 [.inr (.inr (some 0)), .inl (Int32.ofNat k), .inl i2] σ = _
          rw [r98, e98_0, if_neg (x_nn0 (by omega)), x_k0 hG, x_q0_0 hG, x_der_s, x_k1 hG, l2, y_sh5 hn, if_neg nle, m126, x_ci_s, x_b1_1 c2, if_neg one, x_k0 hG, x_q0_0 hG, x_der_s, x_k1 hG, a1, x_ci_s]
          split
          · rfl
          · rw [x_k0 hG1, x_q0_0 hG1, x_der_s, x_k1 hG1, k1]
        · show x_run (D + 4) 190 [.inr (.inr (some 78)), .inl (Int32.ofNat k), .inl i2] σ1 = _
          rw [r190, e190_0, x_k78 hG1, net1.2.2.2.1, e1n, m133, x_ci_s, x_b1_1 c1, if_neg one, m133, x_ci_s, x_b1_1 c2, if_neg one, x_k78 hG1, a2, x_ci_s]
          split
          · rfl
          · rw [x_k78 hG2, k2]
      · refine fin (-2) ?_ ?_
        · rw [r98, e98_0, if_neg (x_nn0 (by omega)), x_k0 hG, x_q0_0 hG, x_der_s, x_k1 hG, l2, y_sh5 hn, if_neg nle, m126, x_ci_s, x_b1_0 c2, if_pos rfl]
        · rw [r190, e190_0, x_k78 hG, l1, e1n, m133, x_ci_s, x_b1_1 c1, if_neg one, m133, x_ci_s, x_b1_0 c2, if_pos rfl]
    · refine fin (-2) ?_ ?_
      · rw [r98, e98_0]
        by_cases c : i1 < 0
        · rw [if_pos c]
        · have ge : Int32.ofNat (2 ^ n) ≤ i1 := by
            have h1 : ¬ i1 ≤ Int32.ofNat (2 ^ n - 1) := fun h => c1 ⟨Int32.not_lt.mp c, h⟩
            rw [Int32.le_iff_toInt_le, Int32.toInt_ofNat_of_lt (by omega)] at h1 ⊢
            omega
          rw [if_neg c, x_k0 hG, x_q0_0 hG, x_der_s, x_k1 hG, l2, y_sh5 hn, if_pos ge]
      · rw [r190, e190_0, x_k78 hG, l1, e1n, m133, x_ci_s, x_b1_0 c1, if_pos rfl]
/-! worst -/
def y_cn (n : Nat) (g : Nat → Option Nat) (W E : Nat → Int32) (P : Int32) (l : Nat) : Nat := y_cnt (y_ru n g W E P (n + 1) (Int32.ofNat (2 ^ l)) 0).1.toNatClampNeg
def y_ws5 (n : Nat) (g : Nat → Option Nat) (W E : Nat → Int32) (P : Int32) (l : Nat) (b : Int32 × Int32) : Int32 × Int32 := if Int32.ofNat (y_cn n g W E P l) ≤ b.2 then b else (Int32.ofNat l, Int32.ofNat (y_cn n g W E P l))
theorem y_lgc (v w : Int32) : lg_cmp v.toInt64 w.toInt64 ≤ 0 ↔ v ≤ w := by
  unfold lg_cmp
  have e : v.toInt64 > w.toInt64 ↔ ¬ v ≤ w := by
    rw [gt_iff_lt, Int64.lt_iff_toInt_lt, Int32.toInt_toInt64, Int32.toInt_toInt64, Int32.le_iff_toInt_le]
    omega
  by_cases h : v.toInt64 > w.toInt64
  · rw [if_pos h]
    exact ⟨fun g => absurd g (by decide), fun g => absurd g (e.mp h)⟩
  · rw [if_neg h]
    have le : v ≤ w := Decidable.byContradiction fun g => h (e.mpr g)
    split
    · exact ⟨fun _ => le, fun _ => by decide⟩
    · exact ⟨fun _ => le, fun _ => by decide⟩
theorem y_ofws (n : Nat) (g : Nat → Option Nat) (W E : Nat → Int32) (P : Int32) (l : Nat) (b : Int32 × Int32) : y_of (b.1, b.2.toInt64) (Int32.ofNat l) (Int32.ofNat (y_cn n g W E P l)).toInt64 = ((y_ws5 n g W E P l b).1, (y_ws5 n g W E P l b).2.toInt64) := by
  unfold y_of y_ws5
  by_cases h : Int32.ofNat (y_cn n g W E P l) ≤ b.2
  · rw [if_pos h, if_pos ((y_lgc _ _).mpr h)]
  · rw [if_neg h, if_neg (fun g => h ((y_lgc _ _).mp g))]
def y_wm (b u : Nat) : Prop := y_wb b u ∨ y_wn b u
theorem y_wm_per (a u : Nat) (h : x_per a u = true) : ¬ y_wm a u := fun g => g.elim (y_wb_per a u h) (y_wn_per a u h)
theorem l99 (d : Nat) (n : Nat) (g : Nat → Option Nat) (W E : Nat → Int32) (P : Int32) (hn : n ≤ 5) (hg : y_gn n g) (i1 : Int32) : ∀ q l b σ, l + q = n → y_net n g W E P σ → y_bs σ (b.1, b.2.toInt64) → ∃ τ, x_f (d + 3) 99 21 [some (.inr (.inr (some 0))), some (.inl i1), some (.inl (Int32.ofNat l))] [] σ = some (some (.inl (if i1 = 0 then (x_it (y_ws5 n g W E P) l q b).1 else (x_it (y_ws5 n g W E P) l q b).2)), τ) ∧ x_fr y_wm y_vt σ τ
  | 0, l, b, σ, hi, h, hb => by
    obtain ⟨hG, a1, -⟩ := id h
    refine ⟨σ, ?_, x_fr.refl _ _ _⟩
    rw [x_feq, e99_21, x_k0 hG, x_q0_0 hG, x_der_s, x_k1 hG, a1, if_pos ((x_le (by omega) (by omega)).mpr (by omega)), x_k0 hG, x_q0_10 hG, x_der_s, x_k37 hG, x_k0 hG, hb.1]
    have e0 : x_it (y_ws5 n g W E P) l 0 b = b := rfl
    rw [e0]
    by_cases z : i1 = 0
    · rw [if_pos z, if_pos z]
    · rw [if_neg z, if_neg z, x_der_s, x_k37 hG, hb.2]
      show some (some (Sum.inl (b.2.toInt64).toInt32), σ) = _
      rw [Int32.toInt32_toInt64]
  | q + 1, l, b, σ, hi, h, hb => by
    obtain ⟨hG, a1, -⟩ := id h
    have hl : l < n := by omega
    have p5 := y_pw5 hn
    have p2 : 2 ^ l < 2 ^ n := Nat.pow_lt_pow_right (by omega) hl
    obtain ⟨σ1, e1, f1, -⟩ := m72 d n g W E P hn hg h (Int32.ofNat (2 ^ l))
    have h1 := h.to n g W E P hn (f1.e y_wn_per)
    obtain ⟨r, hr, eR⟩ := y_ru_nat n g W E P hn (n + 1) (2 ^ l) 0 p2
    have ec : y_cnt r = y_cn n g W E P l := by unfold y_cn; rw [eR, x_tn (by omega)]
    have hb1 : y_bs σ1 (b.1, b.2.toInt64) := ⟨(f1.I (by unfold y_wn; omega)).trans hb.1, (f1.J (fun h => h)).trans hb.2⟩
    obtain ⟨σ2, e2, f2, b2⟩ := m9 (d + 2) h1.1 hb1 (Int32.ofNat l) (Int32.ofNat (y_cn n g W E P l)).toInt64
    rw [y_ofws] at b2
    have f12 : x_fr y_wm y_vt σ σ2 := (f1.mono (fun _ _ h => Or.inr h) (fun _ _ h => h.elim)).trans (f2.mono (fun _ _ h => Or.inl h) (fun _ _ h => h))
    have h2 := h.to n g W E P hn (f12.e y_wm_per)
    obtain ⟨τ, e3, f3⟩ := l99 d n g W E P hn hg i1 q (l + 1) (y_ws5 n g W E P l b) σ2 (by omega) h2 b2
    refine ⟨τ, ?_, f12.trans f3⟩
    rw [x_feq, e99_21, x_k0 hG, x_q0_0 hG, x_der_s, x_k1 hG, a1, if_neg (fun h => absurd ((x_le (by omega) (by omega)).mp h) (by omega)), x_k0 hG, x_k0 hG, x_der_s, x_k1 hG, y_sh1 (by omega), e1, x_ci_s, eR, m223, x_ci_s, y_popc r (by omega), ec, x_q0_10 hG, x_der_s, x_k37 h1.1, e2, x_cv_s, x_s1]
    exact e3
theorem l192 (d : Nat) (n : Nat) (g : Nat → Option Nat) (W E : Nat → Int32) (P : Int32) (hn : n ≤ 5) (hg : y_gn n g) (i1 : Int32) : ∀ q l b σ, l + q = n → y_net n g W E P σ → ∃ τ, x_f (d + 3) 192 19 [some (.inr (.inr (some 78))), some (.inl i1), some (.inl b.1), some (.inl b.2), some (.inl (Int32.ofNat l)), none] [] σ = some (some (.inl (if i1 = 0 then (x_it (y_ws5 n g W E P) l q b).1 else (x_it (y_ws5 n g W E P) l q b).2)), τ) ∧ x_fr y_wm y_vt σ τ
  | 0, l, b, σ, hi, h => by
    obtain ⟨hG, a1, a2, a3, -⟩ := id h
    refine ⟨σ, ?_, x_fr.refl _ _ _⟩
    rw [x_feq, e192_19, x_k78 hG, a3, if_pos ((x_le (by omega) (by omega)).mpr (by omega))]
    have e0 : x_it (y_ws5 n g W E P) l 0 b = b := rfl
    rw [e0]
    by_cases z : i1 = 0
    · rw [if_pos z, if_pos z]
    · rw [if_neg z, if_neg z]
  | q + 1, l, b, σ, hi, h => by
    obtain ⟨hG, a1, a2, a3, -⟩ := id h
    have hl : l < n := by omega
    have p5 := y_pw5 hn
    have p2 : 2 ^ l < 2 ^ n := Nat.pow_lt_pow_right (by omega) hl
    obtain ⟨σ1, e1, f1, -⟩ := m189 d n g W E P hn hg h p2
    have h1 := h.to n g W E P hn (f1.e y_wn_per)
    obtain ⟨r, hr, eR⟩ := y_ru_nat n g W E P hn (n + 1) (2 ^ l) 0 p2
    have ec : y_cnt r = y_cn n g W E P l := by unfold y_cn; rw [eR, x_tn (by omega)]
    have f1' : x_fr y_wm y_vt σ σ1 := f1.mono (fun _ _ h => Or.inr h) (fun _ _ h => h.elim)
    obtain ⟨τ, e3, f3⟩ := l192 d n g W E P hn hg i1 q (l + 1) (y_ws5 n g W E P l b) σ1 (by omega) h1
    refine ⟨τ, ?_, f1'.trans f3⟩
    refine Eq.trans ?_ e3
    rw [x_feq, e192_19, x_k78 hG, a3, if_neg (fun h => absurd ((x_le (by omega) (by omega)).mp h) (by omega)), x_k78 hG, y_sh1 (by omega), e1, x_ci_s, eR, m191 _ (by omega), x_ci_s, ec]
    unfold y_ws5
    by_cases c : Int32.ofNat (y_cn n g W E P l) ≤ b.2
    · simp only [if_pos c]
      rw [x_feq, e192_53, if_pos c, x_s1]
    · simp only [if_neg c]
      rw [x_feq, e192_53, if_neg c, x_s1]
theorem x_op_worst (D : Nat) : ∀ (σ : xS) (as : List Int32), as.length = 1 → x_R σ → x_stp (D + 4) x_R false 99 192 as σ := by
  intro σ as hl hR
  match as, hl with
  | [i1], _ =>
    obtain ⟨hG, n, t, z, hP⟩ := id hR
    obtain ⟨hn, ht, hz, ⟨l1, l2⟩, ⟨t1, t2⟩, -⟩ := id hP
    have one : ¬ (1 : Int32) = 0 := by decide
    by_cases c1 : 0 ≤ i1 ∧ i1 ≤ 1
    · obtain ⟨g, W, E, P, hg, net⟩ := y_nets hG hP
      obtain ⟨σ1, a1, f1, b1⟩ := m8 (D + 2) hG
      have f1' : x_fr y_wm y_vt σ σ1 := f1.mono (fun _ _ h => Or.inl h) (fun _ _ h => h)
      have net1 := net.to n g W E P hn (f1'.e y_wm_per)
      obtain ⟨σ2, a2, f2⟩ := l99 D n g W E P hn hg i1 n 0 (-1, -1) σ1 (by omega) net1 b1
      have net2 := net1.to n g W E P hn (f2.e y_wm_per)
      obtain ⟨τ, a3, f3⟩ := l192 D n g W E P hn hg i1 n 0 (-1, -1) σ2 (by omega) net2
      refine x_op_fr hR _ ⟨_, rfl⟩ y_wm_per (Eq.trans ?_ a2) (f1'.trans f2) (Eq.trans ?_ a3) f3
      · show x_run (D + 4) 99 [.inr (.inr (some 0)), .inl i1] σ = _
        rw [r99, e99_0, m126, x_ci_s, x_b1_1 c1, if_neg one, x_k0 hG, x_q0_10 hG, x_der_s, x_k37 hG, a1, x_cv_s]
        rfl
      · show x_run (D + 4) 192 [.inr (.inr (some 78)), .inl i1] σ2 = _
        rw [r192, e192_0, m133, x_ci_s, x_b1_1 c1, if_neg one]
        rfl
    · refine x_op_eq hR (.inl (-2)) ⟨_, rfl⟩ ?_ ?_
      · show x_run (D + 4) 99 [.inr (.inr (some 0)), .inl i1] σ = _
        rw [r99, e99_0, m126, x_ci_s, x_b1_0 c1, if_pos rfl]
      · show x_run (D + 4) 192 [.inr (.inr (some 78)), .inl i1] σ = _
        rw [r192, e192_0, m133, x_ci_s, x_b1_0 c1, if_pos rfl]
