/-! fits (wip/whole/gen51.py) -/
theorem m9f (d : Nat) {σ : xS} (hG : x_G σ) {b : Int32 × Int64} (hb : y_bs σ b) (x : Int32) (v : Int64) : ∃ τ, x_run (d + 1) 9 [.inr (.inr (some 37)), .inl x, .inr (.inl v)] σ = some (none, τ) ∧ x_fr (fun b _ => b = 37) y_vt σ τ ∧ y_bs τ (y_of b x v) := by
  unfold y_of
  by_cases h : lg_cmp v b.2 ≤ 0
  · refine ⟨σ, ?_, x_fr.refl _ _ _, ?_⟩
    · rw [r9, e9_0, x_k37 hG, hb.2, if_pos h]
    · rw [if_pos h]; exact hb
  · refine ⟨x_sl (x_si σ 37 0 x) 37 1 v, ?_, ((x_fr.refl (fun b _ => b = 37) y_vt σ).si _ rfl).sl _ trivial, ?_⟩
    · rw [r9, e9_0, x_k37 hG, hb.2, if_neg h]
      simp only [↓x_k37, hG, x_Gsi]
    · rw [if_neg h]; exact ⟨rfl, rfl⟩
def y_k (q i : Nat) (k : Int32) : Int32 := if q = 0 then Int32.ofNat i else k
def y_m (q i : Nat) (m : Int32) : Int32 := if q = 1 then Int32.ofNat i else m
def y_u (q i : Nat) (u : Int32) : Int32 := if q = 2 then Int32.ofNat i else u
def y_lst (q : Nat) : Nat := if q = 0 then 6 else if q = 1 then 10 else 21
def y_what (q : Nat) : Int32 := if q = 0 then 6 else if q = 1 then 7 else 5
def y_slot (q : Nat) : Nat := if q = 0 then 0 else if q = 1 then 1 else 7
theorem y_m_b {q i : Nat} {m : Int32} (mb : x_bd m 0 9) (hi : i < y_lst q) : x_bd (y_m q i m) 0 9 := by
  unfold y_m
  by_cases h : q = 1
  · subst h
    rw [if_pos rfl]
    have hi : i < 10 := hi
    exact x_bd_k (n := 9) (by omega) (by omega)
  · rw [if_neg h]; exact mb
theorem m14g (d : Nat) {σ : xS} (hG : x_G σ) {q : Nat} (hq : q < 3) (v : Int32) : x_run (d + 1) 14 [.inr (.inr (some 36)), .inl (y_what q), .inl v] σ = some (none, x_si σ 36 (y_slot q) v) := by
  rcases (show q = 0 ∨ q = 1 ∨ q = 2 by omega) with rfl | rfl | rfl
  · show x_run (d + 1) 14 [.inr (.inr (some 36)), .inl 6, .inl v] σ = some (none, x_si σ 36 0 v)
    rw [r14, e14_0, if_neg (by decide), if_neg (by decide), if_neg (by decide), if_neg (by decide), if_neg (by decide), if_neg (by decide), if_pos (by decide), x_k36 hG]
  · show x_run (d + 1) 14 [.inr (.inr (some 36)), .inl 7, .inl v] σ = some (none, x_si σ 36 1 v)
    rw [r14, e14_0, if_neg (by decide), if_neg (by decide), if_neg (by decide), if_neg (by decide), if_neg (by decide), if_neg (by decide), if_neg (by decide), x_k36 hG]
  · show x_run (d + 1) 14 [.inr (.inr (some 36)), .inl 5, .inl v] σ = some (none, x_si σ 36 7 v)
    rw [r14, e14_0, if_neg (by decide), if_neg (by decide), if_neg (by decide), if_neg (by decide), if_neg (by decide), if_pos (by decide), x_k36 hG]
def y_gf (σ : xS) (q : Nat) (k m e s1 u : Int32) : Prop := (q ≠ 0 → x_I σ 36 0 = k) ∧ (q ≠ 1 → x_I σ 36 1 = m) ∧ x_I σ 36 3 = e ∧ x_I σ 36 4 = s1 ∧ (q ≠ 2 → x_I σ 36 7 = u)
theorem y_gf_cl {σ : xS} {q : Nat} (hq : q < 3) {k m e s1 u : Int32} (i : Nat) (h : y_gf σ q k m e s1 u) : y_cl (x_si σ 36 (y_slot q) (Int32.ofNat i)) 36 (y_k q i k) (y_m q i m) e s1 (y_u q i u) ∧ y_gf (x_si σ 36 (y_slot q) (Int32.ofNat i)) q k m e s1 u := by
  obtain ⟨h0, h1, h2, h3, h4⟩ := h
  rcases (show q = 0 ∨ q = 1 ∨ q = 2 by omega) with rfl | rfl | rfl
  · exact ⟨⟨rfl, h1 (by decide), h2, h3, h4 (by decide)⟩, fun h => absurd rfl h, h1, h2, h3, h4⟩
  · exact ⟨⟨h0 (by decide), rfl, h2, h3, h4 (by decide)⟩, h0, fun h => absurd rfl h, h2, h3, h4⟩
  · exact ⟨⟨h0 (by decide), h1 (by decide), h2, h3, rfl⟩, h0, h1, h2, h3, fun h => absurd rfl h⟩
theorem y_gf.fr {W Q : Nat → Nat → Prop} {σ τ : xS} {q : Nat} {k m e s1 u : Int32} (f : x_fr W Q σ τ) (hw : ∀ u, ¬ W 36 u) (h : y_gf σ q k m e s1 u) : y_gf τ q k m e s1 u := by
  unfold y_gf at h ⊢
  rw [f.I (hw 0), f.I (hw 1), f.I (hw 3), f.I (hw 4), f.I (hw 7)]
  exact h
def y_ff (p : Nat → List Int32) (k m e s1 u y : Int32) (N : Nat) (V : Nat → Int32) (q i : Nat) (b : Int32 × Int64) : Int32 × Int64 := y_of b (Int32.ofNat i) (y_L p (y_k q i k) (y_m q i m) e s1 (y_u q i u) y N V)
theorem y_lst_b (q : Nat) : 1 ≤ y_lst q ∧ y_lst q ≤ 21 := by
  unfold y_lst
  split
  · omega
  · split <;> omega
theorem l107 (D : Nat) {t r s N q : Nat} {o : Nat → Nat} {p : Nat → List Int32} {V : Nat → Int32} {k m e s1 u y : Int32} (ht : t ≤ 6) (hr : r < t) (hq : q < 3) (mb : x_bd m 0 9) (i3 : Int32) : ∀ c i b σ, i + c = y_lst q → x_G σ → x_tv σ r o p → x_I σ 0 7 = Int32.ofNat t → x_I σ 1 6 = Int32.ofNat r → x_I σ 1 2 = y → y_gf σ q k m e s1 u → y_sh σ s N V → y_bs σ b → ∃ τ, x_f (D + 5) 107 122 [some (.inr (.inr (some 0))), none, none, some (.inl i3), some (.inr (.inr (some (70 + 2 * s)))), none, none, some (.inl (y_what q)), some (.inl (Int32.ofNat (y_lst q - 1))), some (.inl (Int32.ofNat i))] [] σ = some (some (.inr (.inl (y_end (i3 - i3 / 10 * 10) (x_it (y_ff p k m e s1 u y N V q) i c b)))), τ) ∧ x_fr y_wb y_vt σ τ
  | 0, i, b, σ, hi, hG, hv, n7, e6, y2, hg, hs, hb => by
    have lb := y_lst_b q
    refine ⟨σ, ?_, x_fr.refl _ _ _⟩
    rw [x_feq, e107_122, if_pos (Int32.not_le.mp (fun h => absurd ((x_le (by omega) (by omega)).mp h) (by omega)))]
    show _ = (some (some (Sum.inr (Sum.inl (if i3 - i3 / 10 * 10 = 0 then b.1.toInt64 else b.2))), σ) : Option xR)
    by_cases c : i3 - i3 / 10 * 10 = 0
    · rw [if_pos c, if_pos c, x_k0 hG, x_q0_10 hG, x_der_s, x_k37 hG, hb.1]
    · rw [if_neg c, if_neg c, x_k0 hG, x_q0_10 hG, x_der_s, x_k37 hG, hb.2]
  | c + 1, i, b, σ, hi, hG, hv, n7, e6, y2, hg, hs, hb => by
    have lb := y_lst_b q
    have hs4 := hs.1
    have f0 : x_fr y_wb y_vt σ (x_si σ 36 (y_slot q) (Int32.ofNat i)) := (x_fr.refl y_wb y_vt σ).si _ (Or.inr (Or.inl rfl))
    have hG0 := f0.G hG
    have n70 := (f0.I (y_wb_o (by omega) _)).trans n7
    have e60 := (f0.I (y_wb_o (by omega) _)).trans e6
    have y20 := (f0.I (y_wb_o (by omega) _)).trans y2
    obtain ⟨hcl, hg0⟩ := y_gf_cl hq i hg
    obtain ⟨σ1, a1, f1⟩ := m36 D (y := y) (show r < 6 by omega) (c := 36) rfl (y_m_b mb (show i < y_lst q by omega)) hG0 (hv.wb (by omega) f0) hcl (hs.fr f0 y_wb_s)
    have hG1 := f1.G hG0
    have b0 : y_bs σ1 b := ⟨(f1.I (by unfold x_wt; omega)).trans ((x_Isi _ _ _ _ _ _).trans ((if_neg (by omega)).trans hb.1)), (f1.J (fun h => h)).trans hb.2⟩
    obtain ⟨σ2, a2, f2, b2⟩ := m9f (D + 4) hG1 b0 (Int32.ofNat i) (y_L p (y_k q i k) (y_m q i m) e s1 (y_u q i u) y N V)
    have f02 : x_fr y_wb y_vt σ σ2 := (f0.trans f1.wb).trans (f2.mono (fun b u h => Or.inr (Or.inr h)) (fun _ _ h => h))
    obtain ⟨τ, a3, f3⟩ := l107 D ht hr hq mb i3 c (i + 1) _ σ2 (by omega) (f02.G hG) (hv.wb (by omega) f02) ((f02.I (y_wb_o (by omega) _)).trans n7) ((f02.I (y_wb_o (by omega) _)).trans e6) ((f02.I (y_wb_o (by omega) _)).trans y2) ((hg0.fr f1 (fun u => by unfold x_wt; omega)).fr f2 (fun u => by omega)) (hs.fr f02 y_wb_s) b2
    refine ⟨τ, ?_, f02.trans f3⟩
    rw [x_feq, e107_122, if_neg (Int32.not_lt.mpr ((x_le (by omega) (by omega)).mpr (by omega)))]
    simp only [↓x_k0, ↓x_k1, ↓x_k36, ↓x_ks5, hs4, hG, hG0, x_q0_0, x_q0_9, x_q0_10, m14g _ hG hq, m120 _ hG0 ht hr n70 e60, x_cr_s, x_der_s, ↓x_der_s, y20, a1, x_cl_s, ↓x_k37, hG1, a2, x_cv_s, x_s1]
    exact a3
def y_wg (l b u : Nat) : Prop := x_wt b u ∨ (b = 79 ∧ u = l) ∨ (b = 80 ∧ u = l) ∨ (b = 81 ∧ u = 6 * l + 5)
theorem y_wg_t {t : Nat} (ht : t < 6) (l u : Nat) : ¬ y_wg l (x_tc t + 1) u ∧ ¬ y_wg l (x_tc t + 3) u := by
  unfold y_wg x_wt
  rcases (show t = 0 ∨ t = 1 ∨ t = 2 ∨ t = 3 ∨ t = 4 ∨ t = 5 by omega) with rfl | rfl | rfl | rfl | rfl | rfl <;> simp [x_tc]
theorem x_tv.wg {σ τ : xS} {V : Nat → Nat → Prop} {t l : Nat} {o : Nat → Nat} {p : Nat → List Int32} (ht : t < 6) (f : x_fr (y_wg l) V σ τ) (h : x_tv σ t o p) : x_tv τ t o p := x_tv.at (fun u => f.I (by unfold y_wg x_wt; omega)) (fun u => f.I (by unfold y_wg x_wt; omega)) (fun u => f.I (y_wg_t ht l u).1) (fun u => f.I (y_wg_t ht l u).2) h
theorem y_208 (D : Nat) {s l : Nat} (hl : l < 5) {q i : Nat} (hq : q < 3) (hi : i < y_lst q) {k m u i3 : Int32} (b : Int32 × Int64) {σ : xS} (hG : x_G σ) : x_f (D + 6) 208 77 [some (.inr (.inr (some 78))), some (.inl (Int32.ofNat s)), some (.inl (Int32.ofNat l)), some (.inl i3), some (.inl (Int32.ofNat q)), some (.inl k), some (.inl m), some (.inl u), some (.inl b.1), some (.inr (.inl b.2)), none, some (.inl (Int32.ofNat i)), none, none] [] σ = x_cl (x_run (D + 6) 206 [.inr (.inr (some 78)), .inl (Int32.ofNat s), .inl (Int32.ofNat l)] (x_si (x_si (x_si σ 79 l (y_k q i k)) 80 l (y_m q i m)) 81 (6 * l + 5) (y_u q i u))) (fun y4 σ3 => if lg_cmp y4 b.2 ≤ 0 then x_f (D + 6) 208 189 [some (.inr (.inr (some 78))), some (.inl (Int32.ofNat s)), some (.inl (Int32.ofNat l)), some (.inl i3), some (.inl (Int32.ofNat q)), some (.inl k), some (.inl m), some (.inl u), none, some (.inr (.inl b.2)), none, some (.inl (Int32.ofNat i)), some (.inr (.inl y4)), none] [.inl b.1] σ3 else x_f (D + 6) 208 189 [some (.inr (.inr (some 78))), some (.inl (Int32.ofNat s)), some (.inl (Int32.ofNat l)), some (.inl i3), some (.inl (Int32.ofNat q)), some (.inl k), some (.inl m), some (.inl u), none, some (.inr (.inl b.2)), none, some (.inl (Int32.ofNat i)), some (.inr (.inl y4)), none] [.inl (Int32.ofNat i)] σ3) := by
  rcases (show q = 0 ∨ q = 1 ∨ q = 2 by omega) with rfl | rfl | rfl
  · have hi : i < 6 := hi
    have hb : ¬ (6 : Int32) ≤ Int32.ofNat i := fun h => absurd ((x_le (a := 6) (by omega) (by omega)).mp h) (by omega)
    rw [x_feq, e208_77]
    simp only [show (Int32.ofNat 0 = 0) = True from eq_true (by decide), show (Int32.ofNat 0 = 1) = False from eq_false (by decide), show (Int32.ofNat 0 = 2) = False from eq_false (by decide), if_true, if_false]
    rw [x_feq, e208_102, if_neg hb]
    simp only [↓x_k78, ↓x_k79, ↓x_k80, ↓x_k81, x_q78_1, x_q78_2, x_q78_3, hG, x_Gsi, x_Qsi, x_der_s, ↓x_der_s, x_i5, x_n5, x_6i5, x_6n5, hl, show (Int32.ofNat 0 = 0) = True from eq_true (by decide), show (Int32.ofNat 0 = 1) = False from eq_false (by decide), show (Int32.ofNat 0 = 2) = False from eq_false (by decide), if_true, if_false]
    rw [x_feq, e208_141]
    simp only [↓x_k78, ↓x_k79, ↓x_k80, ↓x_k81, x_q78_1, x_q78_2, x_q78_3, hG, x_Gsi, x_Qsi, x_der_s, ↓x_der_s, x_i5, x_n5, x_6i5, x_6n5, hl, show (Int32.ofNat 0 = 0) = True from eq_true (by decide), show (Int32.ofNat 0 = 1) = False from eq_false (by decide), show (Int32.ofNat 0 = 2) = False from eq_false (by decide), if_true, if_false]
    rw [x_feq, e208_165]
    simp only [↓x_k78, ↓x_k79, ↓x_k80, ↓x_k81, x_q78_1, x_q78_2, x_q78_3, hG, x_Gsi, x_Qsi, x_der_s, ↓x_der_s, x_i5, x_n5, x_6i5, x_6n5, hl]
    rfl
  · have hi : i < 10 := hi
    have hb : ¬ (10 : Int32) ≤ Int32.ofNat i := fun h => absurd ((x_le (a := 10) (by omega) (by omega)).mp h) (by omega)
    rw [x_feq, e208_77]
    simp only [show (Int32.ofNat 1 = 0) = False from eq_false (by decide), show (Int32.ofNat 1 = 1) = True from eq_true (by decide), show (Int32.ofNat 1 = 2) = False from eq_false (by decide), if_true, if_false]
    rw [x_feq, e208_102, if_neg hb]
    simp only [↓x_k78, ↓x_k79, ↓x_k80, ↓x_k81, x_q78_1, x_q78_2, x_q78_3, hG, x_Gsi, x_Qsi, x_der_s, ↓x_der_s, x_i5, x_n5, x_6i5, x_6n5, hl, show (Int32.ofNat 1 = 0) = False from eq_false (by decide), show (Int32.ofNat 1 = 1) = True from eq_true (by decide), show (Int32.ofNat 1 = 2) = False from eq_false (by decide), if_true, if_false]
    rw [x_feq, e208_141]
    simp only [↓x_k78, ↓x_k79, ↓x_k80, ↓x_k81, x_q78_1, x_q78_2, x_q78_3, hG, x_Gsi, x_Qsi, x_der_s, ↓x_der_s, x_i5, x_n5, x_6i5, x_6n5, hl, show (Int32.ofNat 1 = 0) = False from eq_false (by decide), show (Int32.ofNat 1 = 1) = True from eq_true (by decide), show (Int32.ofNat 1 = 2) = False from eq_false (by decide), if_true, if_false]
    rw [x_feq, e208_165]
    simp only [↓x_k78, ↓x_k79, ↓x_k80, ↓x_k81, x_q78_1, x_q78_2, x_q78_3, hG, x_Gsi, x_Qsi, x_der_s, ↓x_der_s, x_i5, x_n5, x_6i5, x_6n5, hl]
    rfl
  · have hi : i < 21 := hi
    have hb : ¬ (21 : Int32) ≤ Int32.ofNat i := fun h => absurd ((x_le (a := 21) (by omega) (by omega)).mp h) (by omega)
    rw [x_feq, e208_77]
    simp only [show (Int32.ofNat 2 = 0) = False from eq_false (by decide), show (Int32.ofNat 2 = 1) = False from eq_false (by decide), show (Int32.ofNat 2 = 2) = True from eq_true (by decide), if_true, if_false]
    rw [x_feq, e208_102, if_neg hb]
    simp only [↓x_k78, ↓x_k79, ↓x_k80, ↓x_k81, x_q78_1, x_q78_2, x_q78_3, hG, x_Gsi, x_Qsi, x_der_s, ↓x_der_s, x_i5, x_n5, x_6i5, x_6n5, hl, show (Int32.ofNat 2 = 0) = False from eq_false (by decide), show (Int32.ofNat 2 = 1) = False from eq_false (by decide), show (Int32.ofNat 2 = 2) = True from eq_true (by decide), if_true, if_false]
    rw [x_feq, e208_141]
    simp only [↓x_k78, ↓x_k79, ↓x_k80, ↓x_k81, x_q78_1, x_q78_2, x_q78_3, hG, x_Gsi, x_Qsi, x_der_s, ↓x_der_s, x_i5, x_n5, x_6i5, x_6n5, hl, show (Int32.ofNat 2 = 0) = False from eq_false (by decide), show (Int32.ofNat 2 = 1) = False from eq_false (by decide), show (Int32.ofNat 2 = 2) = True from eq_true (by decide), if_true, if_false]
    rw [x_feq, e208_165]
    simp only [↓x_k78, ↓x_k79, ↓x_k80, ↓x_k81, x_q78_1, x_q78_2, x_q78_3, hG, x_Gsi, x_Qsi, x_der_s, ↓x_der_s, x_i5, x_n5, x_6i5, x_6n5, hl]
    rfl
theorem y_208e (D : Nat) {s l : Nat} (hl : l < 5) {q : Nat} (hq : q < 3) {k m u i3 : Int32} (b : Int32 × Int64) {σ : xS} (hG : x_G σ) : x_f (D + 6) 208 77 [some (.inr (.inr (some 78))), some (.inl (Int32.ofNat s)), some (.inl (Int32.ofNat l)), some (.inl i3), some (.inl (Int32.ofNat q)), some (.inl k), some (.inl m), some (.inl u), some (.inl b.1), some (.inr (.inl b.2)), none, some (.inl (Int32.ofNat (y_lst q))), none, none] [] σ = some (some (.inr (.inl (y_end (i3 - i3 / 10 * 10) b))), x_si (x_si (x_si σ 79 l k) 80 l m) 81 (6 * l + 5) u) := by
  unfold y_end
  rcases (show q = 0 ∨ q = 1 ∨ q = 2 by omega) with rfl | rfl | rfl
  · have hb : (6 : Int32) ≤ Int32.ofNat (y_lst 0) := by decide
    rw [x_feq, e208_77]
    simp only [show (Int32.ofNat 0 = 0) = True from eq_true (by decide), show (Int32.ofNat 0 = 1) = False from eq_false (by decide), show (Int32.ofNat 0 = 2) = False from eq_false (by decide), if_true, if_false]
    rw [x_feq, e208_102, if_pos hb]
    simp only [↓x_k78, ↓x_k79, ↓x_k80, ↓x_k81, x_q78_1, x_q78_2, x_q78_3, hG, x_Gsi, x_Qsi, x_der_s, ↓x_der_s, x_i5, x_n5, x_6i5, x_6n5, hl]
    split <;> rfl
  · have hb : (10 : Int32) ≤ Int32.ofNat (y_lst 1) := by decide
    rw [x_feq, e208_77]
    simp only [show (Int32.ofNat 1 = 0) = False from eq_false (by decide), show (Int32.ofNat 1 = 1) = True from eq_true (by decide), show (Int32.ofNat 1 = 2) = False from eq_false (by decide), if_true, if_false]
    rw [x_feq, e208_102, if_pos hb]
    simp only [↓x_k78, ↓x_k79, ↓x_k80, ↓x_k81, x_q78_1, x_q78_2, x_q78_3, hG, x_Gsi, x_Qsi, x_der_s, ↓x_der_s, x_i5, x_n5, x_6i5, x_6n5, hl]
    split <;> rfl
  · have hb : (21 : Int32) ≤ Int32.ofNat (y_lst 2) := by decide
    rw [x_feq, e208_77]
    simp only [show (Int32.ofNat 2 = 0) = False from eq_false (by decide), show (Int32.ofNat 2 = 1) = False from eq_false (by decide), show (Int32.ofNat 2 = 2) = True from eq_true (by decide), if_true, if_false]
    rw [x_feq, e208_102, if_pos hb]
    simp only [↓x_k78, ↓x_k79, ↓x_k80, ↓x_k81, x_q78_1, x_q78_2, x_q78_3, hG, x_Gsi, x_Qsi, x_der_s, ↓x_der_s, x_i5, x_n5, x_6i5, x_6n5, hl]
    split <;> rfl
theorem l208 (D : Nat) {r s N l q : Nat} {o : Nat → Nat} {p : Nat → List Int32} {V : Nat → Int32} {k m e s1 u y : Int32} (hr : r < 6) (hl : l < 5) (hq : q < 3) (mb : x_bd m 0 9) (i3 : Int32) : ∀ c i b σ, i + c = y_lst q → x_G σ → x_tv σ r o p → x_I σ 78 13 = Int32.ofNat r → x_I σ 78 4 = y → (x_I σ 81 (6 * l + 1) = e ∧ x_I σ 81 (6 * l + 2) = s1) → y_sh σ s N V → ∃ τ, x_f (D + 6) 208 77 [some (.inr (.inr (some 78))), some (.inl (Int32.ofNat s)), some (.inl (Int32.ofNat l)), some (.inl i3), some (.inl (Int32.ofNat q)), some (.inl k), some (.inl m), some (.inl u), some (.inl b.1), some (.inr (.inl b.2)), none, some (.inl (Int32.ofNat i)), none, none] [] σ = some (some (.inr (.inl (y_end (i3 - i3 / 10 * 10) (x_it (y_ff p k m e s1 u y N V q) i c b)))), τ) ∧ x_fr (y_wg l) y_vt σ τ ∧ x_I τ 79 l = k ∧ x_I τ 80 l = m ∧ x_I τ 81 (6 * l + 5) = u
  | 0, i, b, σ, hi, hG, hv, h13, hy, hg, hs => by
    obtain rfl : i = y_lst q := by omega
    refine ⟨x_si (x_si (x_si σ 79 l k) 80 l m) 81 (6 * l + 5) u, y_208e D hl hq b hG, (((x_fr.refl (y_wg l) y_vt σ).si _ (Or.inr (Or.inl ⟨rfl, rfl⟩))).si _ (Or.inr (Or.inr (Or.inl ⟨rfl, rfl⟩)))).si _ (Or.inr (Or.inr (Or.inr ⟨rfl, rfl⟩))), ?_, ?_, ?_⟩
    · rw [x_Isi, if_neg (by omega), x_Isi, if_neg (by omega), x_Isi, if_pos ⟨rfl, rfl⟩]
    · rw [x_Isi, if_neg (by omega), x_Isi, if_pos ⟨rfl, rfl⟩]
    · rw [x_Isi, if_pos ⟨rfl, rfl⟩]
  | c + 1, i, b, σ, hi, hG, hv, h13, hy, hg, hs => by
    have f0 : x_fr (y_wg l) y_vt σ (x_si (x_si (x_si σ 79 l (y_k q i k)) 80 l (y_m q i m)) 81 (6 * l + 5) (y_u q i u)) := (((x_fr.refl (y_wg l) y_vt σ).si _ (Or.inr (Or.inl ⟨rfl, rfl⟩))).si _ (Or.inr (Or.inr (Or.inl ⟨rfl, rfl⟩)))).si _ (Or.inr (Or.inr (Or.inr ⟨rfl, rfl⟩)))
    have hG0 := f0.G hG
    have ne : ∀ u', u' = 13 ∨ u' = 4 → ¬ y_wg l 78 u' := fun u' h => by unfold y_wg x_wt; omega
    have nes : ∀ b, (70 ≤ b ∧ b ≤ 77) ∨ b = 87 ∨ b = 88 → ∀ u, ¬ y_wg l b u := fun b h u => by unfold y_wg x_wt; omega
    have hrl : y_rl (x_si (x_si (x_si σ 79 l (y_k q i k)) 80 l (y_m q i m)) 81 (6 * l + 5) (y_u q i u)) l (y_k q i k) (y_m q i m) e s1 (y_u q i u) := by
      refine ⟨?_, ?_, ?_, ?_, ?_⟩
      · rw [x_Isi, if_neg (by omega), x_Isi, if_neg (by omega), x_Isi, if_pos ⟨rfl, rfl⟩]
      · rw [x_Isi, if_neg (by omega), x_Isi, if_pos ⟨rfl, rfl⟩]
      · rw [x_Isi, if_neg (by omega), x_Isi, if_neg (by omega), x_Isi, if_neg (by omega)]; exact hg.1
      · rw [x_Isi, if_neg (by omega), x_Isi, if_neg (by omega), x_Isi, if_neg (by omega)]; exact hg.2
      · rw [x_Isi, if_pos ⟨rfl, rfl⟩]
    obtain ⟨σ1, a1, f1⟩ := m206 D hr hl (y_m_b mb (show i < y_lst q by omega)) hG0 (hv.wg hr f0) ((f0.I (ne _ (by omega))).trans h13) hrl ((f0.I (ne _ (by omega))).trans hy) (hs.fr f0 nes)
    have hG1 := f1.G hG0
    have f01 : x_fr (y_wg l) y_vt σ σ1 := f0.trans (f1.mono (fun _ _ h => Or.inl h) (fun _ _ _ => trivial))
    have n81 : ∀ u', ¬ x_wt 81 u' := fun u' => x_wt_o (by omega) u'
    obtain ⟨τ, a3, f3, g3⟩ := l208 D hr hl hq mb i3 c (i + 1) (y_ff p k m e s1 u y N V q i b) σ1 (by omega) hG1 (hv.wg hr f01) ((f01.I (ne _ (by omega))).trans h13) ((f01.I (ne _ (by omega))).trans hy) ⟨(f1.I (n81 _)).trans hrl.2.2.1, (f1.I (n81 _)).trans hrl.2.2.2.1⟩ (hs.fr f01 nes)
    refine ⟨τ, ?_, f01.trans f3, g3⟩
    rw [y_208 D hl hq (show i < y_lst q by omega) b hG, a1, x_cl_s]
    refine Eq.trans ?_ a3
    unfold y_ff y_of
    by_cases g : lg_cmp (y_L p (y_k q i k) (y_m q i m) e s1 (y_u q i u) y N V) b.2 ≤ 0
    · simp only [if_pos g]
      rw [x_feq, e208_189, if_pos g, x_s1]
    · simp only [if_neg g]
      rw [x_feq, e208_189, if_neg g, x_s1]
theorem x_op_fits (D : Nat) : ∀ (σ : xS) (as : List Int32), as.length = 3 → x_R σ → x_stp (D + 7) x_R true 107 208 as σ := by
  intro σ as hl hR
  match as, hl with
  | [i1, i2, i3], _ =>
    obtain ⟨hG, n, t, z, hP⟩ := id hR
    obtain ⟨hn, ht, hz, ⟨l1, l2⟩, ⟨t1, t2⟩, -, -, -, -, -, -, hsh, -⟩ := id hP
    have one : ¬ (1 : Int32) = 0 := by decide
    have fin : x_run (D + 7) 107 [.inr (.inr (some 0)), .inl i1, .inl i2, .inl i3] σ = some (some (.inr (.inl (-4611686018427387904))), σ) → x_run (D + 7) 208 [.inr (.inr (some 78)), .inl i1, .inl i2, .inl i3] σ = some (some (.inr (.inl (-4611686018427387904))), σ) → x_stp (D + 7) x_R true 107 208 [i1, i2, i3] σ := fun e1 e2 => x_op_eq hR (.inr (.inl _)) ⟨_, rfl⟩ e1 e2
    rcases y_told hG hsh i1 with ⟨s, hs, rfl, ⟨N, V, hy⟩, h122, h201⟩ | ⟨h122, v, hv0, h201⟩
    · rcases x_split hn i2 with ⟨l, hl, rfl⟩ | h2
      · by_cases c3 : 0 ≤ i3 ∧ i3 ≤ 21
        · by_cases c4 : i3 - i3 / 10 * 10 ≤ 1
          · have hl5 : l < 5 := by omega
            obtain ⟨r, o, p, y, k, m, e, s1, u, hf⟩ := y_lf_of hP hl
            obtain ⟨a, ha, ea⟩ := x_bd_of (n := 21) (by omega) c3 rfl
            have eq : i3 / 10 = Int32.ofNat (a / 10) := by
              rw [ea, show (10 : Int32) = Int32.ofNat 10 from rfl, x_dv (by omega) (by omega)]
            have hq : a / 10 < 3 := by omega
            obtain ⟨σ1, a1, f1, b1⟩ := m8 (D + 5) hG
            have hG1 := f1.G hG
            obtain ⟨σ2, a2, f2, g2⟩ := m12 (D + 5) hG1 (c := 36) (a := 3 + l) rfl (x_kl hl5) (by omega)
            have f2' : x_fr y_wb y_vt σ1 σ2 := f2.mono (fun b u h => Or.inr (Or.inl h)) (fun _ _ _ => trivial)
            have f12 := f1.trans f2'
            have hG2 := f12.G hG
            obtain ⟨-, hr, hv, e13, e6, y1, y2, hcl, hrl, ⟨n7, n1, n0⟩, yb, kb, mb, eb, sb, ub⟩ := id (hf.wb hn ht.2 f12)
            have hcl1 := (hf.wb hn ht.2 f1).2.2.2.2.2.2.2.1
            obtain ⟨σ3, a3, f3⟩ := l107 (D + 1) (q := a / 10) (k := k) (m := m) (e := e) (s1 := s1) (u := u) ht.2 hr hq mb i3 (y_lst (a / 10)) 0 (-1, -1) σ2 (by omega) hG2 hv n7 e6 y2 ⟨fun _ => (g2 0 (by omega)).trans hcl1.1, fun _ => (g2 1 (by omega)).trans hcl1.2.1, (g2 3 (by omega)).trans hcl1.2.2.1, (g2 4 (by omega)).trans hcl1.2.2.2.1, fun _ => (g2 7 (by omega)).trans hcl1.2.2.2.2⟩ (hy.fr f12 y_wb_s) ⟨(f2.I (by omega)).trans b1.1, (f2.J (fun h => h)).trans b1.2⟩
            have f13 := f12.trans f3
            have hG3 := f13.G hG
            obtain ⟨-, -, hv3, e133, -, y13, -, -, hrl3, ⟨-, -, n03⟩, -⟩ := id (hf.wb hn ht.2 f13)
            obtain ⟨τ, a4, f4, g4, g5, g6⟩ := l208 D (q := a / 10) (k := k) (m := m) (e := e) (s1 := s1) (u := u) (show r < 6 by omega) hl5 hq mb i3 (y_lst (a / 10)) 0 (-1, -1) σ3 (by omega) hG3 hv3 e133 y13 ⟨hrl3.2.2.1, hrl3.2.2.2.1⟩ (hy.fr f13 y_wb_s)
            have f4' : x_fr y_wb y_vt σ3 τ := by
              refine f4.fix (fun a' u' h1 h2 => ?_)
              rcases h1 with h1 | ⟨rfl, rfl⟩ | ⟨rfl, rfl⟩ | ⟨rfl, rfl⟩
              · exact absurd (Or.inl h1) h2
              · rw [g4]; exact hrl3.1.symm
              · rw [g5]; exact hrl3.2.1.symm
              · rw [g6]; exact hrl3.2.2.2.2.symm
            refine x_op_fr hR _ ⟨_, rfl⟩ y_wb_per (Eq.trans ?_ a3) f13 (Eq.trans ?_ a4) f4'
            · show x_run (D + 7) 107 [.inr (.inr (some 0)), .inl (Int32.ofNat s), .inl (Int32.ofNat l), .inl i3] σ = _
              have k101 : ∀ w M : Int32, x_f (D + 6) 107 101 [some (.inr (.inr (some 0))), none, none, some (.inl i3), some (.inr (.inr (some (70 + 2 * s)))), some (.inr (.inr (some (3 + l)))), none, some (.inl w), none, none] [.inl M] σ = x_f (D + 6) 107 122 [some (.inr (.inr (some 0))), none, none, some (.inl i3), some (.inr (.inr (some (70 + 2 * s)))), none, none, some (.inl w), some (.inl M), some (.inl 0)] [] σ2 := by
                intro w M
                rw [x_feq, e107_101, x_k0 hG, x_q0_10 hG, x_der_s, x_k37 hG, a1, x_cv_s, x_k0 hG1, x_q0_9 hG1, x_der_s, x_k36 hG1, a2, x_cv_s]
              rw [r107, e107_0, x_k0 hG, h122, x_cr_s, x_k0 hG, x_q0_0 hG, x_der_s, x_k1 hG, m65_in _ hG hn hl l2, x_cr_s, x_nul_s, x_nul_s, m126, x_ci_s, x_b1_1 c3, if_neg one, if_pos c4, eq]
              generalize a / 10 = q at *
              rcases (show q = 0 ∨ q = 1 ∨ q = 2 by omega) with rfl | rfl | rfl
              · simp only [show (Int32.ofNat 0 = 0) = True from eq_true rfl, if_true, k101]
                rfl
              · simp only [show ¬ (Int32.ofNat 1 = 0) from by decide, show (Int32.ofNat 1 = 1) = True from eq_true rfl, if_true, if_false, k101]
                rfl
              · simp only [show ¬ (Int32.ofNat 2 = 0) from by decide, show ¬ (Int32.ofNat 2 = 1) from by decide, if_false, k101]
                rfl
            · show x_run (D + 7) 208 [.inr (.inr (some 78)), .inl (Int32.ofNat s), .inl (Int32.ofNat l), .inl i3] σ3 = _
              rw [r208, e208_0, x_k78 hG3, m202_in (D + 3) hG3 hn hl n03 (h201 _ _ f13), x_ci_s, if_pos rfl, m133, x_ci_s, x_b1_1 c3, if_neg one, if_pos c4, eq]
              simp only [↓x_k78, ↓x_k79, ↓x_k80, ↓x_k81, x_q78_1, x_q78_2, x_q78_3, hG3, x_der_s, ↓x_der_s, x_i5, x_n5, x_6i5, x_6n5, hl5, hrl3.1, hrl3.2.1, hrl3.2.2.2.2]
              rfl
          · refine fin ?_ ?_
            · rw [r107, e107_0, x_k0 hG, h122, x_cr_s, x_k0 hG, x_q0_0 hG, x_der_s, x_k1 hG, m65_in _ hG hn hl l2, x_cr_s, x_nul_s, x_nul_s, m126, x_ci_s, x_b1_1 c3, if_neg one, if_neg c4]
            · rw [r208, e208_0, x_k78 hG, m202_in (D + 3) hG hn hl l1 (h201 _ _ (x_fr.refl _ _ _)), x_ci_s, if_pos rfl, m133, x_ci_s, x_b1_1 c3, if_neg one, if_neg c4]
        · refine fin ?_ ?_
          · rw [r107, e107_0, x_k0 hG, h122, x_cr_s, x_k0 hG, x_q0_0 hG, x_der_s, x_k1 hG, m65_in _ hG hn hl l2, x_cr_s, x_nul_s, x_nul_s, m126, x_ci_s, x_b1_0 c3, if_pos rfl]
          · rw [r208, e208_0, x_k78 hG, m202_in (D + 3) hG hn hl l1 (h201 _ _ (x_fr.refl _ _ _)), x_ci_s, if_pos rfl, m133, x_ci_s, x_b1_0 c3, if_pos rfl]
      · refine fin ?_ ?_
        · rw [r107, e107_0, x_k0 hG, h122, x_cr_s, x_k0 hG, x_q0_0 hG, x_der_s, x_k1 hG, m65_out _ hG h2 l2, x_cr_s, x_nul_s, x_nul_n]
        · rw [r208, e208_0, x_k78 hG, m202_out (D + 3) hG hn h2 l1 (h201 _ _ (x_fr.refl _ _ _)), x_ci_s, if_neg (by decide)]
    · refine fin ?_ ?_
      · rw [r107, e107_0, x_k0 hG, h122, x_cr_s, x_k0 hG, x_q0_0 hG, x_der_s, x_k1 hG]
        rcases x_split hn i2 with ⟨l, hl, rfl⟩ | h2
        · rw [m65_in _ hG hn hl l2, x_cr_s, x_nul_n]
        · rw [m65_out _ hG h2 l2, x_cr_s, x_nul_n]
      · rw [r208, e208_0, x_k78 hG, m202_no (D + 3) hG hv0 (h201 _), x_ci_s, if_neg hv0]
