/-! years in thought -/
def y_hh (W : Nat → Nat) (G : Int32) (t l : Nat) (b : Int32 × Int32) : Int32 × Int32 := if b.1 = -1 ∧ ¬ Int32.ofNat (W l) < G then (Int32.ofNat l, Int32.ofNat t) else b
theorem y_hh_stay (W : Nat → Nat) (G : Int32) (t : Nat) : ∀ q l b, b.1 ≠ -1 → x_it (y_hh W G t) l q b = b
  | 0, l, b, h => rfl
  | q + 1, l, b, h => by
    show x_it (y_hh W G t) (l + 1) q (y_hh W G t l b) = b
    rw [show y_hh W G t l b = b from if_neg (fun g => h g.1), y_hh_stay W G t q (l + 1) b h]
abbrev y_Z : Type := y_Y × (Int32 × Int32)
def y_yd (p : Nat → List Int32) (K M E S : Nat → Int32) (Y G : Int32) (n : Nat) (t : Nat) (a : y_Y) : y_Y := x_it (y_yl p K M E S (Y + Int32.ofNat t)) 0 n (a.1, a.2.1, a.2.2.1, a.2.2.2.1, 0)
def y_yz (p : Nat → List Int32) (K M E S : Nat → Int32) (Y G : Int32) (n : Nat) (t : Nat) (b : y_Z) : y_Z := (y_yd p K M E S Y G n t b.1, x_it (y_hh (y_yd p K M E S Y G n t b.1).1 G t) 0 n b.2)
theorem y_yz_stay (p : Nat → List Int32) (K M E S : Nat → Int32) (Y G : Int32) (n : Nat) : ∀ q t b, b.2.1 ≠ -1 → (x_it (y_yz p K M E S Y G n) t q b).2 = b.2
  | 0, t, b, h => rfl
  | q + 1, t, b, h => by
    have e : (y_yz p K M E S Y G n t b).2 = b.2 := y_hh_stay _ G t n 0 b.2 h
    show (x_it (y_yz p K M E S Y G n) (t + 1) q (y_yz p K M E S Y G n t b)).2 = b.2
    rw [y_yz_stay p K M E S Y G n q (t + 1) (y_yz p K M E S Y G n t b) (by rw [e]; exact h), e]
theorem y_yd_iv (p : Nat → List Int32) (K M E S : Nat → Int32) (Y G : Int32) (n : Nat) (t : Nat) {a : y_Y} (h : y_iv n a) : y_iv n (y_yd p K M E S Y G n t a) := y_yr_iv p K M E S _ n 0 _ h
theorem l71 (d : Nat) {n : Nat} (hn : n ≤ 5) {W : Nat → Nat} {G : Int32} (t : Nat) : ∀ q l b σ, l + q = n → x_G σ → x_I σ 15 1 = Int32.ofNat n → x_I σ 15 4 = G → (∀ l, l < n → x_I σ (17 + l) 2 = Int32.ofNat (W l)) → x_I σ 15 8 = b.1 → x_I σ 15 9 = b.2 → ∃ τ, x_f (d + 1) 71 2 [some (.inr (.inr (some 15))), some (.inl (Int32.ofNat t)), some (.inl (Int32.ofNat l)), none] [] σ = some (none, τ) ∧ x_fr (fun a u => a = 15 ∧ (u = 8 ∨ u = 9)) x_w0 σ τ ∧ x_I τ 15 8 = (x_it (y_hh W G t) l q b).1 ∧ x_I τ 15 9 = (x_it (y_hh W G t) l q b).2
  | 0, l, b, σ, hi, hG, h1, h4, hW, h8, h9 => by
    refine ⟨σ, ?_, x_fr.refl _ _ _, h8, h9⟩
    rw [x_feq, e71_2, x_k15 hG, h1, if_pos ((x_le (by omega) (by omega)).mpr (by omega))]
  | q + 1, l, b, σ, hi, hG, h1, h4, hW, h8, h9 => by
    have hl : l < n := by omega
    have wd : y_wld 15 := Or.inr (Or.inr rfl)
    by_cases c : b.1 = -1
    · have pre : x_f (d + 1) 71 2 [some (.inr (.inr (some 15))), some (.inl (Int32.ofNat t)), some (.inl (Int32.ofNat l)), none] [] σ = if Int32.ofNat (W l) < G then x_f (d + 1) 71 2 [some (.inr (.inr (some 15))), some (.inl (Int32.ofNat t)), some (.inl (Int32.ofNat (l + 1))), none] [] σ else x_f (d + 1) 71 2 [some (.inr (.inr (some 15))), some (.inl (Int32.ofNat t)), some (.inl (Int32.ofNat (l + 1))), none] [] (x_si (x_si σ 15 8 (Int32.ofNat l)) 15 9 (Int32.ofNat t)) := by
        have h65 := m65w d hG wd hn hl h1
        rw [x_feq, e71_2, x_k15 hG, h1, if_neg (fun h => absurd ((x_le (by omega) (by omega)).mp h) (by omega)), x_k15 hG, h8, if_pos c, x_k15 hG, h65, x_cr_s, x_nul_s, x_der_s, x_kl17 hG (show l < 5 by omega), x_k15 hG, show x_I σ (15 + 2 + l) 2 = Int32.ofNat (W l) from hW l hl, h4, x_k15 hG, x_k15 (σ := x_si σ 15 8 (Int32.ofNat l)) hG, x_s1]
      by_cases g : Int32.ofNat (W l) < G
      · obtain ⟨τ, a, f, p8, p9⟩ := l71 d hn t q (l + 1) b σ (by omega) hG h1 h4 hW h8 h9
        have e : y_hh W G t l b = b := if_neg (fun h => h.2 g)
        refine ⟨τ, ?_, f, ?_, ?_⟩
        · rw [pre, if_pos g]; exact a
        · show _ = (x_it (y_hh W G t) (l + 1) q (y_hh W G t l b)).1
          rw [e]; exact p8
        · show _ = (x_it (y_hh W G t) (l + 1) q (y_hh W G t l b)).2
          rw [e]; exact p9
      · have e : y_hh W G t l b = (Int32.ofNat l, Int32.ofNat t) := if_pos ⟨c, g⟩
        obtain ⟨τ, a, f, p8, p9⟩ := l71 d hn t q (l + 1) (Int32.ofNat l, Int32.ofNat t) (x_si (x_si σ 15 8 (Int32.ofNat l)) 15 9 (Int32.ofNat t)) (by omega) hG h1 h4 (fun l' hl' => by rw [x_Isi, if_neg (by omega), x_Isi, if_neg (by omega)]; exact hW l' hl') rfl rfl
        refine ⟨τ, ?_, (((x_fr.refl (fun a u => a = 15 ∧ (u = 8 ∨ u = 9)) x_w0 σ).si _ ⟨rfl, Or.inl rfl⟩).si _ ⟨rfl, Or.inr rfl⟩).trans f, ?_, ?_⟩
        · rw [pre, if_neg g]; exact a
        · show _ = (x_it (y_hh W G t) (l + 1) q (y_hh W G t l b)).1
          rw [e]; exact p8
        · show _ = (x_it (y_hh W G t) (l + 1) q (y_hh W G t l b)).2
          rw [e]; exact p9
    · refine ⟨σ, ?_, x_fr.refl _ _ _, ?_, ?_⟩
      · rw [x_feq, e71_2, x_k15 hG, h1, if_neg (fun h => absurd ((x_le (by omega) (by omega)).mp h) (by omega)), x_k15 hG, h8, if_neg c]
      · rw [y_hh_stay W G t (q + 1) l b c]; exact h8
      · rw [y_hh_stay W G t (q + 1) l b c]; exact h9
theorem l77 (d : Nat) {n : Nat} (hn : n ≤ 5) {W : Nat → Nat} {G : Int32} (t : Nat) (i2 i3 i4 : Int32) : ∀ q l b σ, l + q = n → x_G σ → x_I σ 78 0 = Int32.ofNat n → x_I σ 78 6 = G → (∀ l, l < n → x_I σ 81 (6 * l) = Int32.ofNat (W l)) → x_I σ 78 50 = b.1 → x_I σ 78 51 = b.2 → ∃ τ, x_f d 198 77 [some (.inr (.inr (some 78))), none, some (.inl i2), some (.inl i3), some (.inl i4), some (.inl (Int32.ofNat t)), some (.inl (Int32.ofNat l)), none] [] σ = x_f d 198 59 [some (.inr (.inr (some 78))), none, some (.inl i2), some (.inl i3), some (.inl i4), some (.inl (Int32.ofNat (t + 1))), none, none] [] τ ∧ x_fr (fun a u => a = 78 ∧ (u = 50 ∨ u = 51)) x_w0 σ τ ∧ x_I τ 78 50 = (x_it (y_hh W G t) l q b).1 ∧ x_I τ 78 51 = (x_it (y_hh W G t) l q b).2
  | 0, l, b, σ, hi, hG, h1, h4, hW, h8, h9 => by
    refine ⟨σ, ?_, x_fr.refl _ _ _, h8, h9⟩
    rw [x_feq, e198_77, x_k78 hG, h1, if_pos ((x_le (by omega) (by omega)).mpr (by omega)), x_s1]
  | q + 1, l, b, σ, hi, hG, h1, h4, hW, h8, h9 => by
    have hl : l < n := by omega
    have hl5 : l < 5 := by omega
    have one : ¬ (1 : Int32) = 0 := by decide
    have z0 : (0 : Int32) = 0 := rfl
    have no : x_f d 198 133 [some (.inr (.inr (some 78))), none, some (.inl i2), some (.inl i3), some (.inl i4), some (.inl (Int32.ofNat t)), some (.inl (Int32.ofNat l)), some (.inl 0)] [.inl (x_I σ 78 51), .inr (.inr (some 78))] σ = x_f d 198 77 [some (.inr (.inr (some 78))), none, some (.inl i2), some (.inl i3), some (.inl i4), some (.inl (Int32.ofNat t)), some (.inl (Int32.ofNat (l + 1))), none] [] (x_si (x_si σ 78 51 b.2) 78 50 b.1) := by
      rw [x_feq, e198_133, x_der_s, x_k78 hG, if_pos rfl, x_k78 (σ := x_si σ 78 51 (x_I σ 78 51)) hG, x_k78 (σ := x_si σ 78 51 (x_I σ 78 51)) hG, show x_I (x_si σ 78 51 (x_I σ 78 51)) 78 50 = b.1 from h8, h9, x_s1]
    have fn : x_fr (fun a u => a = 78 ∧ (u = 50 ∨ u = 51)) x_w0 σ (x_si (x_si σ 78 51 b.2) 78 50 b.1) := ((x_fr.refl (fun a u => a = 78 ∧ (u = 50 ∨ u = 51)) x_w0 σ).si _ ⟨rfl, Or.inr rfl⟩).si _ ⟨rfl, Or.inl rfl⟩
    have go : ∀ (b' : Int32 × Int32), y_hh W G t l b = b' → x_f d 198 77 [some (.inr (.inr (some 78))), none, some (.inl i2), some (.inl i3), some (.inl i4), some (.inl (Int32.ofNat t)), some (.inl (Int32.ofNat l)), none] [] σ = x_f d 198 77 [some (.inr (.inr (some 78))), none, some (.inl i2), some (.inl i3), some (.inl i4), some (.inl (Int32.ofNat t)), some (.inl (Int32.ofNat (l + 1))), none] [] (x_si (x_si σ 78 51 b'.2) 78 50 b'.1) → ∃ τ, x_f d 198 77 [some (.inr (.inr (some 78))), none, some (.inl i2), some (.inl i3), some (.inl i4), some (.inl (Int32.ofNat t)), some (.inl (Int32.ofNat l)), none] [] σ = x_f d 198 59 [some (.inr (.inr (some 78))), none, some (.inl i2), some (.inl i3), some (.inl i4), some (.inl (Int32.ofNat (t + 1))), none, none] [] τ ∧ x_fr (fun a u => a = 78 ∧ (u = 50 ∨ u = 51)) x_w0 σ τ ∧ x_I τ 78 50 = (x_it (y_hh W G t) l (q + 1) b).1 ∧ x_I τ 78 51 = (x_it (y_hh W G t) l (q + 1) b).2 := by
      intro b' eb step
      obtain ⟨τ, a, f, p8, p9⟩ := l77 d hn (W := W) (G := G) t i2 i3 i4 q (l + 1) b' (x_si (x_si σ 78 51 b'.2) 78 50 b'.1) (by omega) hG h1 h4 (fun l' hl' => hW l' hl') rfl rfl
      refine ⟨τ, step.trans a, (((x_fr.refl (fun a u => a = 78 ∧ (u = 50 ∨ u = 51)) x_w0 σ).si _ ⟨rfl, Or.inr rfl⟩).si _ ⟨rfl, Or.inl rfl⟩).trans f, ?_, ?_⟩
      · show _ = (x_it (y_hh W G t) (l + 1) q (y_hh W G t l b)).1
        rw [eb]; exact p8
      · show _ = (x_it (y_hh W G t) (l + 1) q (y_hh W G t l b)).2
        rw [eb]; exact p9
    by_cases c : b.1 = -1
    · by_cases g : Int32.ofNat (W l) < G
      · refine go b (if_neg (fun h => h.2 g)) ?_
        rw [x_feq, e198_77, x_k78 hG, h1, if_neg (fun h => absurd ((x_le (by omega) (by omega)).mp h) (by omega)), x_k78 hG, h8, if_pos c, x_k78 hG, x_q78_3 hG, x_der_s, x_k81 hG, x_6i0 hl5, x_6n0 hl5, x_k78 hG, show x_I σ 81 (6 * l + 0) = Int32.ofNat (W l) from hW l hl, h4, if_pos g, if_pos z0, x_k78 hG]
        exact no
      · refine go (Int32.ofNat l, Int32.ofNat t) (if_pos ⟨c, g⟩) ?_
        rw [x_feq, e198_77, x_k78 hG, h1, if_neg (fun h => absurd ((x_le (by omega) (by omega)).mp h) (by omega)), x_k78 hG, h8, if_pos c, x_k78 hG, x_q78_3 hG, x_der_s, x_k81 hG, x_6i0 hl5, x_6n0 hl5, x_k78 hG, show x_I σ 81 (6 * l + 0) = Int32.ofNat (W l) from hW l hl, h4, if_neg g, if_neg one, x_feq, e198_133, x_der_s, x_k78 hG, if_neg one, x_k78 (σ := x_si σ 78 51 (Int32.ofNat t)) hG, x_s1]
    · refine go b (if_neg (fun h => c h.1)) ?_
      rw [x_feq, e198_77, x_k78 hG, h1, if_neg (fun h => absurd ((x_le (by omega) (by omega)).mp h) (by omega)), x_k78 hG, h8, if_neg c, if_pos z0, x_k78 hG]
      exact no
/-- the thought world -/
def y_tw5 (b u : Nat) : Prop := x_wt b u ∨ (15 ≤ b ∧ b < 22 ∧ b ≠ 16 ∧ ¬ (b = 15 ∧ u = 1))
theorem x_tv.t5 {σ τ : xS} {V : Nat → Nat → Prop} {t : Nat} {o : Nat → Nat} {p : Nat → List Int32} (ht : t < 6) (f : x_fr y_tw5 V σ τ) (h : x_tv σ t o p) : x_tv τ t o p := by
  have hc : 29 ≤ x_tc t ∧ x_tc t + 3 < 70 := by
    rcases (show t = 0 ∨ t = 1 ∨ t = 2 ∨ t = 3 ∨ t = 4 ∨ t = 5 by omega) with rfl | rfl | rfl | rfl | rfl | rfl <;> exact ⟨Nat.le_of_ble_eq_true rfl, Nat.le_of_ble_eq_true rfl⟩
  exact x_tv.at (fun u => f.I (by unfold y_tw5 x_wt; omega)) (fun u => f.I (by unfold y_tw5 x_wt; omega)) (fun u => f.I (fun g => g.elim (x_wt_n ht u).1 (fun g => by omega))) (fun u => f.I (fun g => g.elim (x_wt_n ht u).2 (fun g => by omega))) h
theorem l125 (d : Nat) {n tx r : Nat} (hn : n ≤ 5) (ht : tx ≤ 6) (hr : r < tx) {o : Nat → Nat} {p : Nat → List Int32} {K M E S : Nat → Int32} (fx : y_fx n M E S) {Y G : Int32} {N : Nat} (hN : N ≤ 40) (till : Int32) : ∀ q t b σ, t + q = N → x_G σ → x_tv σ r o p → x_I σ 0 7 = Int32.ofNat tx → x_I σ 1 6 = Int32.ofNat r → x_I σ 15 1 = Int32.ofNat n → x_I σ 15 2 = Y + Int32.ofNat t → x_I σ 15 4 = G → y_iv n b.1 → y_mc 15 n K M E S σ b.1 → x_I σ 15 8 = b.2.1 → x_I σ 15 9 = b.2.2 → ∃ τ, x_f (d + 5) 125 22 [some (.inr (.inr (some 0))), none, some (.inl (Int32.ofNat N)), some (.inl till), some (.inl (Int32.ofNat t))] [] σ = some (none, τ) ∧ x_fr y_tw5 y_vt σ τ ∧ x_I τ 15 8 = (x_it (y_yz p K M E S Y G n) t q b).2.1 ∧ (till = 0 → x_I τ 15 9 = (x_it (y_yz p K M E S Y G n) t q b).2.2 ∧ y_mc 15 n K M E S τ (x_it (y_yz p K M E S Y G n) t q b).1)
  | 0, t, b, σ, hi, hG, hv, n7, e6, h1, h2, h4, iv, mc, h8, h9 => by
    refine ⟨σ, ?_, x_fr.refl _ _ _, h8, fun _ => ⟨h9, mc⟩⟩
    rw [x_feq, e125_22, if_pos ((x_le (by omega) (by omega)).mpr (by omega))]
  | q + 1, t, b, σ, hi, hG, hv, n7, e6, h1, h2, h4, iv, mc, h8, h9 => by
    have wd : y_wld 15 := Or.inr (Or.inr rfl)
    have hr6 : r < 6 := by omega
    obtain ⟨σ1, a1, f1, mc1, k1⟩ := l70 d wd hn hr6 fx (y := Y + Int32.ofNat t) n 0 (b.1.1, b.1.2.1, b.1.2.2.1, b.1.2.2.2.1, 0) σ (by omega) hG hv h1 h2 iv mc
    have hG1 := f1.G hG
    have f1' : x_fr y_tw5 y_vt σ σ1 := f1.mono (fun b u h => by
      rcases h with h | h | h
      · exact Or.inl h
      · exact Or.inr ⟨by omega, by omega, by omega⟩
      · exact Or.inr ⟨by omega, by omega, by omega⟩) (fun _ _ h => h)
    have F1 : ∀ u, u ≠ 2 → u ≠ 7 → x_I σ1 15 u = x_I σ 15 u := fun u g1 g2 => f1.I (by unfold y_wy x_wt; omega)
    obtain ⟨σ2, a2, f2, p8, p9⟩ := l71 (d + 3) hn (W := (y_yd p K M E S Y G n t b.1).1) (G := G) t n 0 b.2 σ1 (by omega) hG1 ((F1 1 (by omega) (by omega)).trans h1) ((F1 4 (by omega) (by omega)).trans h4) (fun l hl => (mc1.1 l hl).2) ((F1 8 (by omega) (by omega)).trans h8) ((F1 9 (by omega) (by omega)).trans h9)
    have f2' : x_fr y_tw5 y_vt σ1 σ2 := f2.mono (fun b u h => Or.inr ⟨by omega, by omega, by omega⟩) (fun _ _ h => h.elim)
    have f12 := f1'.trans f2'
    have hG2 := f12.G hG
    have F2 : ∀ u, u ≠ 2 → u ≠ 7 → u ≠ 8 → u ≠ 9 → x_I σ2 15 u = x_I σ 15 u := fun u g1 g2 g3 g4 => (f2.I (by omega)).trans (F1 u g1 g2)
    have mc2 : y_mc 15 n K M E S σ2 (y_yd p K M E S Y G n t b.1) := by
      obtain ⟨m1, m2, m3⟩ := mc1
      refine ⟨fun l hl => ?_, (f2.J (fun h => h)).trans m2, (f2.I (by omega)).trans m3⟩
      obtain ⟨c1, c2⟩ := m1 l hl
      have E1 : ∀ u, x_I σ2 (15 + 2 + l) u = x_I σ1 (15 + 2 + l) u := fun u => f2.I (by omega)
      exact ⟨⟨(E1 0).trans c1.1, (E1 1).trans c1.2.1, (E1 3).trans c1.2.2.1, (E1 4).trans c1.2.2.2.1, (E1 7).trans c1.2.2.2.2⟩, (E1 2).trans c2⟩
    have y2 : x_I σ2 15 2 = Y + Int32.ofNat (t + 1) := by
      rw [f2.I (by omega), k1, Int32.add_assoc, x_s1]
    have a1' : x_run (d + 5) 70 [.inr (.inr (some 15)), .inr (.inr (some 44)), .inr (.inr (some (x_tc r)))] σ = some (some (.inl (x_it (y_yl p K M E S (Y + Int32.ofNat t)) 0 n (b.1.1, b.1.2.1, b.1.2.2.1, b.1.2.2.2.1, 0)).2.2.2.2), σ1) := by
      rw [r70, e70_0]
      exact a1
    have a2' : x_run (d + 5) 71 [.inr (.inr (some 15)), .inl (Int32.ofNat t)] σ1 = some (none, σ2) := by
      rw [r71, e71_0]
      exact a2
    obtain ⟨τ, a3, f3, q8, q9⟩ := l125 d hn ht hr fx hN till q (t + 1) (y_yz p K M E S Y G n t b) σ2 (by omega) hG2 (hv.t5 hr6 f12) ((f12.I (by unfold y_tw5 x_wt; omega)).trans n7) ((f12.I (by unfold y_tw5 x_wt; omega)).trans e6) ((F2 1 (by omega) (by omega) (by omega) (by omega)).trans h1) y2 ((F2 4 (by omega) (by omega) (by omega) (by omega)).trans h4) (y_yd_iv p K M E S Y G n t iv) mc2 p8 p9
    have pre : x_f (d + 5) 125 22 [some (.inr (.inr (some 0))), none, some (.inl (Int32.ofNat N)), some (.inl till), some (.inl (Int32.ofNat t))] [] σ = if till = 0 then x_f (d + 5) 125 22 [some (.inr (.inr (some 0))), none, some (.inl (Int32.ofNat N)), some (.inl till), some (.inl (Int32.ofNat (t + 1)))] [] σ2 else if (y_yz p K M E S Y G n t b).2.1 = -1 then x_f (d + 5) 125 22 [some (.inr (.inr (some 0))), none, some (.inl (Int32.ofNat N)), some (.inl till), some (.inl (Int32.ofNat (t + 1)))] [] σ2 else some (none, σ2) := by
      rw [x_feq, e125_22, if_neg (fun h => absurd ((x_le (by omega) (by omega)).mp h) (by omega)), x_k0 hG, x_k0 hG, x_k0 hG, m120 _ hG ht hr n7 e6, x_cr_s, x_q0_2 hG, x_der_s, x_k15 hG, x_q0_13 hG, a1', x_ci_s, x_k0 hG1, x_q0_2 hG1, x_der_s, x_k15 hG1, a2', x_cv_s, x_k0 hG2, x_q0_2 hG2, x_der_s, x_k15 hG2, show x_I σ2 15 8 = (y_yz p K M E S Y G n t b).2.1 from p8, x_s1]
    by_cases c0 : till = 0
    · refine ⟨τ, ?_, f12.trans f3, q8, q9⟩
      rw [pre, if_pos c0]
      exact a3
    · by_cases c1 : (y_yz p K M E S Y G n t b).2.1 = -1
      · refine ⟨τ, ?_, f12.trans f3, q8, fun h => absurd h c0⟩
        rw [pre, if_neg c0, if_pos c1]
        exact a3
      · refine ⟨σ2, ?_, f12, ?_, fun h => absurd h c0⟩
        · rw [pre, if_neg c0, if_neg c1]
        · show _ = (x_it (y_yz p K M E S Y G n) (t + 1) q (y_yz p K M E S Y G n t b)).2.1
          rw [y_yz_stay p K M E S Y G n q (t + 1) _ c1]
          exact p8
