/-! the reference's runs -/
def y_wu (b u : Nat) : Prop := x_wt b u ∨ (b = 81 ∧ u < 30) ∨ b = 96 ∨ b = 97 ∨ (b = 78 ∧ (u = 4 ∨ u = 47 ∨ u = 50 ∨ u = 51))
theorem x_tv.wu {σ τ : xS} {V : Nat → Nat → Prop} {t : Nat} {o : Nat → Nat} {p : Nat → List Int32} (ht : t < 6) (f : x_fr y_wu V σ τ) (h : x_tv σ t o p) : x_tv τ t o p := by
  have hc : 29 ≤ x_tc t ∧ x_tc t + 3 < 70 := by
    rcases (show t = 0 ∨ t = 1 ∨ t = 2 ∨ t = 3 ∨ t = 4 ∨ t = 5 by omega) with rfl | rfl | rfl | rfl | rfl | rfl <;> exact ⟨Nat.le_of_ble_eq_true rfl, Nat.le_of_ble_eq_true rfl⟩
  exact x_tv.at (fun u => f.I (by unfold y_wu x_wt; omega)) (fun u => f.I (by unfold y_wu x_wt; omega)) (fun u => f.I (fun g => g.elim (x_wt_n ht u).1 (fun g => by omega))) (fun u => f.I (fun g => g.elim (x_wt_n ht u).2 (fun g => by omega))) h
theorem l198a (d : Nat) (i1 i2 i3 i4 : Int32) : ∀ q u σ, u + q = 30 → x_G σ → (∀ v, v < u → x_I σ 96 v = x_I σ 81 v) → ∃ τ, x_f d 198 11 [some (.inr (.inr (some 78))), some (.inl i1), some (.inl i2), some (.inl i3), some (.inl i4), some (.inl (Int32.ofNat u)), none, none] [] σ = x_f d 198 59 [some (.inr (.inr (some 78))), none, some (.inl i2), some (.inl i3), some (.inl i4), some (.inl 0), none, none] [] (x_si (x_si (x_sl τ 78 46 (i1.toInt64 + 1)) 78 50 (-1)) 78 51 (-1)) ∧ x_fr (fun a _ => a = 96) x_w0 σ τ ∧ ∀ v, v < 30 → x_I τ 96 v = x_I σ 81 v
  | 0, u, σ, hi, hG, hv => by
    have eu : u = 30 := by omega
    subst eu
    refine ⟨σ, ?_, x_fr.refl _ _ _, hv⟩
    have hG1 : x_G (x_sl σ 78 46 (i1.toInt64 + 1)) := hG
    rw [x_feq, e198_11, if_pos (by decide), x_k78 hG, x_k78 hG1, x_k78 (σ := x_si (x_sl σ 78 46 (i1.toInt64 + 1)) 78 50 (-1)) hG1]
  | q + 1, u, σ, hi, hG, hv => by
    have hu : u < 30 := by omega
    obtain ⟨τ, a, f, g⟩ := l198a d i1 i2 i3 i4 q (u + 1) (x_si σ 96 u (x_I σ 81 u)) (by omega) hG (fun v hv' => by
      rw [x_Isi, x_Isi, if_neg (show ¬ (81 = 96 ∧ v = u) by omega)]
      by_cases c : v = u
      · rw [if_pos ⟨rfl, c⟩, c]
      · rw [if_neg (by omega)]; exact hv v (by omega))
    refine ⟨τ, ?_, ((x_fr.refl (fun a _ => a = 96) x_w0 σ).si _ rfl).trans f, fun v hv' => (g v hv').trans ?_⟩
    · refine Eq.trans ?_ a
      rw [x_feq, e198_11, if_neg (show ¬ (30 : Int32) ≤ Int32.ofNat (u) from fun h => absurd ((x_le (a := 30) (by omega) (by omega)).mp h) (by omega)), x_k78 hG, x_k78 hG, x_q78_3 hG, x_q78_48 hG, x_der_s, x_k81 hG, x_ixk hu (by omega), x_der_s, x_k96 hG, x_ixk hu (by omega), x_tn (by omega), x_s1]
    · rw [x_Isi, if_neg (by omega)]
theorem l198c (d : Nat) (i3 i4 : Int32) {n : Nat} (hn : n ≤ 5) : ∀ q u σ, u + q = n → x_G σ → x_I σ 78 0 = Int32.ofNat n → (∀ v, v < u → x_I σ 97 v = x_I σ 81 (6 * v)) → ∃ τ, x_f d 198 169 [some (.inr (.inr (some 78))), none, none, some (.inl i3), some (.inl i4), some (.inl (Int32.ofNat u)), none, none] [] σ = x_f d 198 204 [some (.inr (.inr (some 78))), none, none, some (.inl i3), some (.inl i4), some (.inl 0), none, none] [] τ ∧ x_fr (fun a _ => a = 97) x_w0 σ τ ∧ ∀ v, v < n → x_I τ 97 v = x_I σ 81 (6 * v)
  | 0, u, σ, hi, hG, h0, hv => by
    have eu : u = n := by omega
    subst eu
    refine ⟨σ, ?_, x_fr.refl _ _ _, hv⟩
    rw [x_feq, e198_169, x_k78 hG, h0, if_pos ((x_le (by omega) (by omega)).mpr (by omega))]
  | q + 1, u, σ, hi, hG, h0, hv => by
    have hu : u < 5 := by omega
    obtain ⟨τ, a, f, g⟩ := l198c d i3 i4 hn q (u + 1) (x_si σ 97 u (x_I σ 81 (6 * u))) (by omega) hG h0 (fun v hv' => by
      rw [x_Isi, x_Isi, if_neg (show ¬ (81 = 97 ∧ 6 * v = u) by omega)]
      by_cases c : v = u
      · rw [if_pos ⟨rfl, c⟩, c]
      · rw [if_neg (by omega)]; exact hv v (by omega))
    refine ⟨τ, ?_, ((x_fr.refl (fun a _ => a = 97) x_w0 σ).si _ rfl).trans f, fun v hv' => (g v hv').trans ?_⟩
    · refine Eq.trans ?_ a
      rw [x_feq, e198_169, x_k78 hG, h0, if_neg (fun h => absurd ((x_le (by omega) (by omega)).mp h) (by omega)), x_k78 hG, x_k78 hG, x_q78_3 hG, x_q78_49 hG, x_der_s, x_k81 hG, x_6i0 hu, x_6n0 hu, x_der_s, x_k97 hG, x_i5 hu, x_n5 hu, x_s1]
      rfl
    · rw [x_Isi, if_neg (by omega)]
theorem l198d (d : Nat) (i3 i4 : Int32) : ∀ q u σ, u + q = 30 → x_G σ → (∀ v, v < u → x_I σ 81 v = x_I σ 96 v) → ∃ τ, x_f d 198 204 [some (.inr (.inr (some 78))), none, none, some (.inl i3), some (.inl i4), some (.inl (Int32.ofNat u)), none, none] [] σ = some (some (.inl i4), x_si τ 78 4 i3) ∧ x_fr (fun a u => a = 81 ∧ u < 30) x_w0 σ τ ∧ ∀ v, v < 30 → x_I τ 81 v = x_I σ 96 v
  | 0, u, σ, hi, hG, hv => by
    have eu : u = 30 := by omega
    subst eu
    refine ⟨σ, ?_, x_fr.refl _ _ _, hv⟩
    rw [x_feq, e198_204, if_pos (by decide), x_k78 hG]
  | q + 1, u, σ, hi, hG, hv => by
    have hu : u < 30 := by omega
    obtain ⟨τ, a, f, g⟩ := l198d d i3 i4 q (u + 1) (x_si σ 81 u (x_I σ 96 u)) (by omega) hG (fun v hv' => by
      rw [x_Isi, x_Isi, if_neg (show ¬ (96 = 81 ∧ v = u) by omega)]
      by_cases c : v = u
      · rw [if_pos ⟨rfl, c⟩, c]
      · rw [if_neg (by omega)]; exact hv v (by omega))
    refine ⟨τ, ?_, ((x_fr.refl (fun a u => a = 81 ∧ u < 30) x_w0 σ).si _ ⟨rfl, hu⟩).trans f, fun v hv' => (g v hv').trans ?_⟩
    · refine Eq.trans ?_ a
      rw [x_feq, e198_204, if_neg (show ¬ (30 : Int32) ≤ Int32.ofNat (u) from fun h => absurd ((x_le (a := 30) (by omega) (by omega)).mp h) (by omega)), x_k78 hG, x_k78 hG, x_q78_48 hG, x_q78_3 hG, x_der_s, x_k96 hG, x_ixk hu (by omega), x_der_s, x_k81 hG, x_ixk hu (by omega), x_tn (by omega), x_s1]
    · rw [x_Isi, if_neg (by omega)]
def y_wk (b u : Nat) : Prop := y_wv b u ∨ (b = 78 ∧ (u = 50 ∨ u = 51))
theorem x_tv.wk {σ τ : xS} {V : Nat → Nat → Prop} {t : Nat} {o : Nat → Nat} {p : Nat → List Int32} (ht : t < 6) (f : x_fr y_wk V σ τ) (h : x_tv σ t o p) : x_tv τ t o p := by
  have hc : 29 ≤ x_tc t ∧ x_tc t + 3 < 70 := by
    rcases (show t = 0 ∨ t = 1 ∨ t = 2 ∨ t = 3 ∨ t = 4 ∨ t = 5 by omega) with rfl | rfl | rfl | rfl | rfl | rfl <;> exact ⟨Nat.le_of_ble_eq_true rfl, Nat.le_of_ble_eq_true rfl⟩
  exact x_tv.at (fun u => f.I (by unfold y_wk y_wv x_wt; omega)) (fun u => f.I (by unfold y_wk y_wv x_wt; omega)) (fun u => f.I (fun g => g.elim (fun g => g.elim (x_wt_n ht u).1 (fun g => by omega)) (fun g => by omega))) (fun u => f.I (fun g => g.elim (fun g => g.elim (x_wt_n ht u).2 (fun g => by omega)) (fun g => by omega))) h
theorem l198b (d : Nat) {n r : Nat} (hn : n ≤ 5) (hr : r < 6) {o : Nat → Nat} {p : Nat → List Int32} {K M E S : Nat → Int32} (fx : y_fx n M E S) {Y G : Int32} {N : Nat} (hN : N ≤ 100) (i3 : Int32) : ∀ q t b σ, t + q = N → x_G σ → x_tv σ r o p → x_I σ 78 13 = Int32.ofNat r → x_I σ 78 0 = Int32.ofNat n → x_I σ 78 4 = Y + Int32.ofNat t → x_I σ 78 6 = G → y_iv n b.1 → (∀ l, l < n → y_rl σ l (K l) (M l) (E l) (S l) (Int32.ofNat (b.1.2.1 l)) ∧ x_I σ 81 (6 * l) = Int32.ofNat (b.1.1 l)) → x_J σ 78 46 = Int64.ofNat b.1.2.2.2.1 → x_I σ 78 50 = b.2.1 → x_I σ 78 51 = b.2.2 → ∃ τ, x_f (d + 5) 198 59 [some (.inr (.inr (some 78))), none, some (.inl (Int32.ofNat N)), some (.inl i3), some (.inl (Int32.ofNat b.1.2.2.1)), some (.inl (Int32.ofNat t)), none, none] [] σ = x_f (d + 5) 198 169 [some (.inr (.inr (some 78))), none, none, some (.inl i3), some (.inl (Int32.ofNat (x_it (y_yz p K M E S Y G n) t q b).1.2.2.1)), some (.inl 0), none, none] [] τ ∧ x_fr y_wk y_vt σ τ ∧ x_I τ 78 50 = (x_it (y_yz p K M E S Y G n) t q b).2.1 ∧ x_I τ 78 51 = (x_it (y_yz p K M E S Y G n) t q b).2.2 ∧ ∀ l, l < n → x_I τ 81 (6 * l) = Int32.ofNat ((x_it (y_yz p K M E S Y G n) t q b).1.1 l)
  | 0, t, b, σ, hi, hG, hv, h13, h0, h4, h6, iv, rl, hj, h8, h9 => by
    refine ⟨σ, ?_, x_fr.refl _ _ _, h8, h9, fun l hl => (rl l hl).2⟩
    rw [x_feq, e198_59, if_pos ((x_le (by omega) (by omega)).mpr (by omega))]
    rfl
  | q + 1, t, b, σ, hi, hG, hv, h13, h0, h4, h6, iv, rl, hj, h8, h9 => by
    have hG0 : x_G (x_si σ 78 47 0) := hG
    have f0 : x_fr y_wv y_vt σ (x_si σ 78 47 0) := (x_fr.refl y_wv y_vt σ).si _ (Or.inr (Or.inr ⟨rfl, Or.inr rfl⟩))
    have I0 : ∀ b u, ¬ (b = 78 ∧ u = 47) → x_I (x_si σ 78 47 0) b u = x_I σ b u := fun b u h => (x_Isi _ _ _ _ _ _).trans (if_neg h)
    obtain ⟨σ1, a1, f1, mr1, k1⟩ := l196 d hn hr fx (y := Y + Int32.ofNat t) (Int32.ofNat b.1.2.2.1) n 0 (b.1.1, b.1.2.1, b.1.2.2.1, b.1.2.2.2.1, 0) (x_si σ 78 47 0) (by omega) hG0 (hv.wv hr f0) ((I0 78 13 (by omega)).trans h13) ((I0 78 0 (by omega)).trans h0) ((I0 78 4 (by omega)).trans h4) iv ⟨fun l hl => by
      obtain ⟨⟨c1, c2, c3, c4, c5⟩, c6⟩ := rl l hl
      exact ⟨⟨(I0 79 _ (by omega)).trans c1, (I0 80 _ (by omega)).trans c2, (I0 81 _ (by omega)).trans c3, (I0 81 _ (by omega)).trans c4, (I0 81 _ (by omega)).trans c5⟩, (I0 81 _ (by omega)).trans c6⟩, hj, by rw [x_Isi, if_pos ⟨rfl, rfl⟩]⟩
    have hG1 := f1.G hG0
    have f01 : x_fr y_wk y_vt σ σ1 := (f0.trans f1).mono (fun b u h => Or.inl h) (fun _ _ h => h)
    have F1 : ∀ u, u ≠ 4 → u ≠ 47 → x_I σ1 78 u = x_I σ 78 u := fun u g1 g2 => (f0.trans f1).I (by unfold y_wv x_wt; omega)
    have mrA : y_mr n K M E S σ1 (y_yd p K M E S Y G n t b.1) := mr1
    obtain ⟨σ2, a2, f2, p8, p9⟩ := l77 (d + 5) hn (W := (y_yd p K M E S Y G n t b.1).1) (G := G) t (Int32.ofNat N) i3 (Int32.ofNat b.1.2.2.1 + (Int32.ofNat (y_yd p K M E S Y G n t b.1).2.2.1 - Int32.ofNat b.1.2.2.1)) n 0 b.2 σ1 (by omega) hG1 ((F1 0 (by omega) (by omega)).trans h0) ((F1 6 (by omega) (by omega)).trans h6) (fun l hl => (mrA.1 l hl).2) ((F1 50 (by omega) (by omega)).trans h8) ((F1 51 (by omega) (by omega)).trans h9)
    have f2' : x_fr y_wk y_vt σ1 σ2 := f2.mono (fun b u h => Or.inr h) (fun _ _ h => h.elim)
    have f12 := f01.trans f2'
    have hG2 := f12.G hG
    have F2 : ∀ u, u ≠ 4 → u ≠ 47 → u ≠ 50 → u ≠ 51 → x_I σ2 78 u = x_I σ 78 u := fun u g1 g2 g3 g4 => (f2.I (by omega)).trans (F1 u g1 g2)
    have K2 : ∀ a u, a ≠ 78 → x_I σ2 a u = x_I σ1 a u := fun a u h => f2.I (by omega)
    obtain ⟨τ, a3, f3, q8, q9, q0⟩ := l198b d hn hr fx (Y := Y) (G := G) hN i3 q (t + 1) (y_yz p K M E S Y G n t b) σ2 (by omega) hG2 (hv.wk hr f12) ((F2 13 (by omega) (by omega) (by omega) (by omega)).trans h13) ((F2 0 (by omega) (by omega) (by omega) (by omega)).trans h0) (by rw [f2.I (by omega), k1, Int32.add_assoc, x_s1]) ((F2 6 (by omega) (by omega) (by omega) (by omega)).trans h6) (y_yd_iv p K M E S Y G n t iv) (fun l hl => by
      obtain ⟨⟨c1, c2, c3, c4, c5⟩, c6⟩ := mrA.1 l hl
      exact ⟨⟨(K2 79 _ (by omega)).trans c1, (K2 80 _ (by omega)).trans c2, (K2 81 _ (by omega)).trans c3, (K2 81 _ (by omega)).trans c4, (K2 81 _ (by omega)).trans c5⟩, (K2 81 _ (by omega)).trans c6⟩) ((f2.J (fun h => h)).trans mrA.2.1) p8 p9
    refine ⟨τ, ?_, f12.trans f3, q8, q9, q0⟩
    have a1' : x_run (d + 5) 196 [.inr (.inr (some 78))] σ = some (some (.inl (Int32.ofNat (y_yd p K M E S Y G n t b.1).2.2.1 - Int32.ofNat b.1.2.2.1)), σ1) := by
      rw [r196, e196_0, x_k78 hG]
      have z : (0 : Int32) = Int32.ofNat b.1.2.2.1 - Int32.ofNat b.1.2.2.1 := (Int32.sub_self _).symm
      refine Eq.trans ?_ a1
      show x_f (d + 4) 196 9 [_, some (.inl 0), some (.inl 0), none, none, none] [] _ = x_f (d + 4) 196 9 [_, some (.inl (Int32.ofNat b.1.2.2.1 - Int32.ofNat b.1.2.2.1)), some (.inl 0), none, none, none] [] _
      rw [Int32.sub_self]
    have sum : Int32.ofNat b.1.2.2.1 + (Int32.ofNat (y_yd p K M E S Y G n t b.1).2.2.1 - Int32.ofNat b.1.2.2.1) = Int32.ofNat (y_yz p K M E S Y G n t b).1.2.2.1 := by
      rw [Int32.add_comm, Int32.sub_add_cancel]
      rfl
    rw [x_feq, e198_59, if_neg (fun h => absurd ((x_le (by omega) (by omega)).mp h) (by omega)), x_k78 hG, a1', x_ci_s]
    refine (a2.trans ?_)
    rw [sum]
    exact a3
theorem m198 (d : Nat) {n r : Nat} (hn : n ≤ 5) (hr : r < 6) {o : Nat → Nat} {p : Nat → List Int32} {K M E S : Nat → Int32} (fx : y_fx n M E S) {Y G : Int32} {N : Nat} (hN : N ≤ 100) {s : Nat} (hs : s ≤ 200000) {W U : Nat → Nat} {σ : xS} (hG : x_G σ) (hv : x_tv σ r o p) (h13 : x_I σ 78 13 = Int32.ofNat r) (h0 : x_I σ 78 0 = Int32.ofNat n) (h4 : x_I σ 78 4 = Y) (h6 : x_I σ 78 6 = G) (hb : ∀ l, l < n → W l ≤ 99999 ∧ U l ≤ 99) (rl : ∀ l, l < n → y_rl σ l (K l) (M l) (E l) (S l) (Int32.ofNat (U l)) ∧ x_I σ 81 (6 * l) = Int32.ofNat (W l)) : ∃ τ, x_run (d + 6) 198 [.inr (.inr (some 78)), .inl (Int32.ofNat s), .inl (Int32.ofNat N)] σ = some (some (.inl (Int32.ofNat (x_it (y_yz p K M E S Y G n) 0 N ((W, U, 0, s + 1, 0), (-1, -1))).1.2.2.1)), τ) ∧ x_fr y_wu y_vt σ τ ∧ (∀ u, u < 30 → x_I τ 81 u = x_I σ 81 u) ∧ x_I τ 78 4 = x_I σ 78 4 ∧ x_I τ 78 50 = (x_it (y_yz p K M E S Y G n) 0 N ((W, U, 0, s + 1, 0), (-1, -1))).2.1 ∧ x_I τ 78 51 = (x_it (y_yz p K M E S Y G n) 0 N ((W, U, 0, s + 1, 0), (-1, -1))).2.2 ∧ ∀ l, l < n → x_I τ 97 l = Int32.ofNat ((x_it (y_yz p K M E S Y G n) 0 N ((W, U, 0, s + 1, 0), (-1, -1))).1.1 l) := by
  obtain ⟨σ1, a1, f1, g1⟩ := l198a (d + 5) (Int32.ofNat s) (Int32.ofNat N) Y 0 30 0 σ (by omega) hG (fun v hv => absurd hv (Nat.not_lt_zero v))
  let σ2 := x_si (x_si (x_sl σ1 78 46 ((Int32.ofNat s).toInt64 + 1)) 78 50 (-1)) 78 51 (-1)
  have hG1 := f1.G hG
  have hG2 : x_G σ2 := hG1
  have f1' : x_fr y_wu y_vt σ σ1 := f1.mono (fun b u h => Or.inr (Or.inr (Or.inl h))) (fun _ _ h => h.elim)
  have f12 : x_fr y_wu y_vt σ σ2 := ((f1'.sl _ trivial).si _ (Or.inr (Or.inr (Or.inr (Or.inr ⟨rfl, by omega⟩))))).si _ (Or.inr (Or.inr (Or.inr (Or.inr ⟨rfl, by omega⟩))))
  have F2 : ∀ a u, a ≠ 96 → ¬ (a = 78 ∧ (u = 50 ∨ u = 51)) → x_I σ2 a u = x_I σ a u := by
    intro a u h1 h2
    show x_I (x_si (x_si (x_sl σ1 78 46 _) 78 50 _) 78 51 _) a u = _
    rw [x_Isi, if_neg (by omega), x_Isi, if_neg (by omega), x_Isl, f1.I (by omega)]
  have j2 : x_J σ2 78 46 = Int64.ofNat (s + 1) := by
    show x_J (x_sl σ1 78 46 ((Int32.ofNat s).toInt64 + 1)) 78 46 = _
    rw [x_Jsl, if_pos ⟨rfl, rfl⟩, x_to64 (by omega)]
    exact (Int64.ofNat_add s 1).symm
  obtain ⟨σ3, a3, f3, p8, p9, p0⟩ := l198b d hn hr fx (Y := Y) (G := G) hN Y N 0 ((W, U, 0, s + 1, 0), (-1, -1)) σ2 (by omega) hG2 (hv.wu hr f12) ((F2 78 13 (by omega) (by omega)).trans h13) ((F2 78 0 (by omega) (by omega)).trans h0) (by rw [F2 78 4 (by omega) (by omega), h4]; exact (Int32.add_zero Y).symm) ((F2 78 6 (by omega) (by omega)).trans h6) ⟨hb, by show s + 1 < _; omega⟩ (fun l hl => by
      obtain ⟨⟨c1, c2, c3, c4, c5⟩, c6⟩ := rl l hl
      exact ⟨⟨(F2 79 _ (by omega) (by omega)).trans c1, (F2 80 _ (by omega) (by omega)).trans c2, (F2 81 _ (by omega) (by omega)).trans c3, (F2 81 _ (by omega) (by omega)).trans c4, (F2 81 _ (by omega) (by omega)).trans c5⟩, (F2 81 _ (by omega) (by omega)).trans c6⟩) j2 ((x_Isi _ _ _ _ _ _).trans ((if_neg (by omega)).trans ((x_Isi _ _ _ _ _ _).trans (if_pos ⟨rfl, rfl⟩)))) ((x_Isi _ _ _ _ _ _).trans (if_pos ⟨rfl, rfl⟩))
  generalize x_it (y_yz p K M E S Y G n) 0 N ((W, U, 0, s + 1, 0), (-1, -1)) = B at *
  have hG3 := f3.G hG2
  have n96 : ∀ u, x_I σ3 96 u = x_I σ2 96 u := fun u => f3.I (by unfold y_wk y_wv x_wt; omega)
  have f3' : x_fr y_wu y_vt σ2 σ3 := f3.mono (fun b u h => by unfold y_wk y_wv x_wt at h; unfold y_wu x_wt; omega) (fun _ _ h => h)
  obtain ⟨σ4, a4, f4, g4⟩ := l198c (d + 5) Y (Int32.ofNat B.1.2.2.1) hn n 0 σ3 (by omega) hG3 ((f3.I (by unfold y_wk y_wv x_wt; omega)).trans ((F2 78 0 (by omega) (by omega)).trans h0)) (fun v hv => absurd hv (Nat.not_lt_zero v))
  have hG4 := f4.G hG3
  obtain ⟨σ5, a5, f5, g5⟩ := l198d (d + 5) Y (Int32.ofNat B.1.2.2.1) 30 0 σ4 (by omega) hG4 (fun v hv => absurd hv (Nat.not_lt_zero v))
  refine ⟨x_si σ5 78 4 Y, ?_, ?_, ?_, ?_, ?_, ?_, ?_⟩
  · rw [r198, e198_0, x_k78 hG, h4]
    exact a1.trans (a3.trans (a4.trans a5))
  · refine (((f12.trans f3').trans (f4.mono (fun b u h => Or.inr (Or.inr (Or.inr (Or.inl h)))) (fun _ _ h => h.elim))).trans (f5.mono (fun b u h => Or.inr (Or.inl h)) (fun _ _ h => h.elim))).si _ (Or.inr (Or.inr (Or.inr (Or.inr ⟨rfl, Or.inl rfl⟩))))
  · intro u hu
    rw [x_Isi, if_neg (by omega), g5 u hu, f4.I (by omega), n96]
    show x_I (x_si (x_si (x_sl σ1 78 46 _) 78 50 _) 78 51 _) 96 u = _
    rw [x_Isi, if_neg (by omega), x_Isi, if_neg (by omega), x_Isl, g1 u hu]
  · rw [x_Isi, if_pos ⟨rfl, rfl⟩, h4]
  · rw [x_Isi, if_neg (by omega), f5.I (by omega), f4.I (by omega), p8]
  · rw [x_Isi, if_neg (by omega), f5.I (by omega), f4.I (by omega), p9]
  · intro l hl
    rw [x_Isi, if_neg (by omega), f5.I (by omega), g4 l hl, p0 l hl]
