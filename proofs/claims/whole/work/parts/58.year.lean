/-! a year by lots, on both sides -/
def y_on (p : Nat → List Int32) (k m e s y : Int32) (u : Nat) : Nat := (x_O p k m e s y (Int32.ofNat u)).toNatClampNeg
def y_zn (p : Nat → List Int32) (k m e s y : Int32) (u : Nat) : Nat := (x_Z p k m e s y (Int32.ofNat u)).toNatClampNeg
def y_tn (p : Nat → List Int32) (k m e s y : Int32) (u : Nat) : Nat := (x_tk e s (x_Z p k m e s y (Int32.ofNat u))).toNatClampNeg
theorem y_oztn (p : Nat → List Int32) {k m e s y : Int32} (he : x_bd e 0 999) (hs : x_bd s 0 100) (u : Nat) : (x_O p k m e s y (Int32.ofNat u) = Int32.ofNat (y_on p k m e s y u) ∧ y_on p k m e s y u ≤ 100) ∧ (x_Z p k m e s y (Int32.ofNat u) = Int32.ofNat (y_zn p k m e s y u) ∧ y_zn p k m e s y u ≤ 8991) ∧ x_tk e s (x_Z p k m e s y (Int32.ofNat u)) = Int32.ofNat (y_tn p k m e s y u) ∧ y_tn p k m e s y u ≤ y_zn p k m e s y u := by
  obtain ⟨o, ho, e1⟩ := x_bd_of (n := 100) (by omega) (x_O_b p k m e s y (Int32.ofNat u)) rfl
  obtain ⟨z, hz, e2⟩ := x_bd_of (n := 8991) (by omega) (x_Z_b p k m e s y (Int32.ofNat u)) rfl
  obtain ⟨a, q, e3, e4, hq, ha⟩ := y_tk_b he hs (y_big (x_Z_b p k m e s y (Int32.ofNat u)) (by decide))
  have az : a = z := x_inj32 (by omega) (by omega) (e3.symm.trans e2)
  have q1 : y_on p k m e s y u = o := by unfold y_on; rw [e1, x_tn (by omega)]
  have q2 : y_zn p k m e s y u = z := by unfold y_zn; rw [e2, x_tn (by omega)]
  have q3 : y_tn p k m e s y u = q := by unfold y_tn; rw [e4, x_tn (by omega)]
  rw [q1, q2, q3]
  exact ⟨⟨e1, ho⟩, ⟨e2, hz⟩, e4, by omega⟩
/-- wealths, lucks, all that is taken, the lot, who had a windfall -/
abbrev y_Y : Type := (Nat → Nat) × ((Nat → Nat) × (Nat × (Nat × Int32)))
def y_jn (j : Nat) : Nat := j * 48271 % 2147483647
def y_yl (p : Nat → List Int32) (K M E S : Nat → Int32) (y : Int32) (l : Nat) (a : y_Y) : y_Y := if y_on p (K l) (M l) (E l) (S l) y (a.2.1 l) ≤ y_jn a.2.2.2.1 % 100 then (a.1, a.2.1, a.2.2.1, y_jn a.2.2.2.1, a.2.2.2.2) else (fun q => if q = l then min 99999 (a.1 l + (y_zn p (K l) (M l) (E l) (S l) y (a.2.1 l) - y_tn p (K l) (M l) (E l) (S l) y (a.2.1 l))) else a.1 q, fun q => if q = l then min 99 (a.2.1 l + 1) else a.2.1 q, a.2.2.1 + y_tn p (K l) (M l) (E l) (S l) y (a.2.1 l), y_jn a.2.2.2.1, a.2.2.2.2 ||| (1 <<< (Int32.ofNat l &&& 31)))
def y_iv (n : Nat) (a : y_Y) : Prop := (∀ l, l < n → a.1 l ≤ 99999 ∧ a.2.1 l ≤ 99) ∧ a.2.2.2.1 < 2147483647
theorem y_yl_iv (p : Nat → List Int32) (K M E S : Nat → Int32) (y : Int32) {n l : Nat} {a : y_Y} (h : y_iv n a) : y_iv n (y_yl p K M E S y l a) := by
  obtain ⟨h1, h2⟩ := h
  have hj : y_jn a.2.2.2.1 < 2147483647 := Nat.mod_lt _ (by omega)
  unfold y_yl
  by_cases c : y_on p (K l) (M l) (E l) (S l) y (a.2.1 l) ≤ y_jn a.2.2.2.1 % 100
  · rw [if_pos c]; exact ⟨h1, hj⟩
  · rw [if_neg c]
    refine ⟨fun q hq => ?_, hj⟩
    show (if q = l then min 99999 (a.1 l + (y_zn p (K l) (M l) (E l) (S l) y (a.2.1 l) - y_tn p (K l) (M l) (E l) (S l) y (a.2.1 l))) else a.1 q) ≤ 99999 ∧ (if q = l then min 99 (a.2.1 l + 1) else a.2.1 q) ≤ 99
    by_cases g : q = l
    · rw [if_pos g, if_pos g]; omega
    · rw [if_neg g, if_neg g]; exact h1 q hq
theorem y_lot {j : Nat} (hj : j < 2147483647) : Int64.ofNat j * 48271 - Int64.ofNat j * 48271 / 2147483647 * 2147483647 = Int64.ofNat (y_jn j) := by
  rw [show (48271 : Int64) = Int64.ofNat 48271 from rfl, ← Int64.ofNat_mul, show (2147483647 : Int64) = Int64.ofNat 2147483647 from rfl, x_md64 (by omega) (by omega)]
  rfl
theorem y_64to {j : Nat} (hj : j < 2 ^ 31) : (Int64.ofNat j).toInt32 = Int32.ofNat j := by
  apply Int32.toInt_inj.mp
  rw [Int64.toInt_toInt32, Int64.toInt_ofNat_of_lt (by omega), Int32.toInt_ofNat_of_lt hj, Int.bmod_def]
  split <;> omega
theorem y_lgle {a b : Nat} (ha : a < 2 ^ 63) (hb : b < 2 ^ 63) : 0 ≤ lg_cmp (Int64.ofNat a) (Int64.ofNat b) ↔ b ≤ a := by
  unfold lg_cmp
  by_cases h1 : Int64.ofNat a > Int64.ofNat b
  · rw [if_pos h1]
    have := (x_le64 hb ha).mp h1
    exact ⟨fun _ => by omega, fun _ => by decide⟩
  · rw [if_neg h1]
    have h2 : ¬ b < a := fun h => h1 ((x_le64 hb ha).mpr h)
    by_cases h3 : Int64.ofNat a = Int64.ofNat b
    · rw [if_pos h3]
      have := x_inj64 ha hb h3
      exact ⟨fun _ => by omega, fun _ => by decide⟩
    · rw [if_neg h3]
      exact ⟨fun h => absurd h (by decide), fun h => absurd (show Int64.ofNat a = Int64.ofNat b by rw [show a = b by omega]) h3⟩
theorem y_min (a m : Nat) (ha : a < 2 ^ 31) (hm : m < 2 ^ 31) : (if Int32.ofNat a < Int32.ofNat m then Int32.ofNat a else Int32.ofNat m) = Int32.ofNat (min m a) := by
  by_cases h : m ≤ a
  · rw [if_neg (Int32.not_lt.mpr ((x_le hm ha).mpr h)), Nat.min_eq_left h]
  · rw [if_pos (Int32.not_le.mp (fun g => h ((x_le hm ha).mp g))), Nat.min_eq_right (by omega)]
theorem y_bmin (a m : Nat) (ha : a < 2 ^ 31) (hm : m < 2 ^ 31) : x_bnd (Int32.ofNat a) (Int32.ofNat m) = Int32.ofNat (min m a) := by
  unfold x_bnd
  rw [if_pos (Int32.not_lt.mp (x_nn0 ha))]
  by_cases h : a ≤ m
  · rw [if_pos ((x_le ha hm).mpr h), Nat.min_eq_right h]
  · rw [if_neg (fun g => h ((x_le ha hm).mp g)), Nat.min_eq_left (by omega)]
theorem m65w (d : Nat) {σ : xS} (hG : x_G σ) {w n l : Nat} (hw : y_wld w) (hn : n ≤ 5) (hl : l < n) (h1 : x_I σ w 1 = Int32.ofNat n) : x_run (d + 1) 65 [.inr (.inr (some w)), .inl (Int32.ofNat l)] σ = some (some (.inr (.inr (some (w + 2 + l)))), σ) := by
  have hl5 : l < 5 := by omega
  rw [r65, e65_0, if_neg (x_nn0 (by omega)), y_w8k hG hw, h1, if_neg (fun h => absurd ((x_le (by omega) (by omega)).mp h) (by omega)), y_w8k hG hw, y_wq hG hw, x_der_s, y_wa hG hw, if_neg (fun h => absurd ((x_le (by omega) (by omega)).mp h) (by omega)), y_w8k hG hw, x_der_s, y_wr5 hG hw, x_i5 hl5, x_n5 hl5, y_wl5 hG hw hl5]
theorem m65w_out (d : Nat) {σ : xS} (hG : x_G σ) {w n : Nat} (hw : y_wld w) {i : Int32} (ho : i < 0 ∨ Int32.ofNat n ≤ i) (h1 : x_I σ w 1 = Int32.ofNat n) : x_run (d + 1) 65 [.inr (.inr (some w)), .inl i] σ = some (some (.inr (.inr none)), σ) := by
  rw [r65, e65_0]
  by_cases h : i < 0
  · rw [if_pos h]
  · rw [if_neg h, y_w8k hG hw, h1, if_pos (ho.resolve_left h)]
/-- fixed numbers of lives and their bounds -/
def y_fx (n : Nat) (M E S : Nat → Int32) : Prop := ∀ l, l < n → x_bd (M l) 0 9 ∧ x_bd (E l) 0 999 ∧ x_bd (S l) 0 100
def y_mc (w n : Nat) (K M E S : Nat → Int32) (σ : xS) (a : y_Y) : Prop := (∀ l, l < n → y_cl σ (w + 2 + l) (K l) (M l) (E l) (S l) (Int32.ofNat (a.2.1 l)) ∧ x_I σ (w + 2 + l) 2 = Int32.ofNat (a.1 l)) ∧ x_J σ 44 0 = Int64.ofNat a.2.2.2.1 ∧ x_I σ w 7 = Int32.ofNat a.2.2.1
def y_wy (w b u : Nat) : Prop := x_wt b u ∨ (w + 2 ≤ b ∧ b < w + 7 ∧ (u = 2 ∨ u = 7)) ∨ (b = w ∧ (u = 2 ∨ u = 7))
theorem y_wy_t {w t : Nat} (hw : y_wld w) (ht : t < 6) (u : Nat) : ¬ y_wy w (x_tc t + 1) u ∧ ¬ y_wy w (x_tc t + 3) u := by
  have h := x_wt_n ht u
  have hc : 29 ≤ x_tc t := by
    rcases (show t = 0 ∨ t = 1 ∨ t = 2 ∨ t = 3 ∨ t = 4 ∨ t = 5 by omega) with rfl | rfl | rfl | rfl | rfl | rfl <;> exact Nat.le_of_ble_eq_true rfl
  have hw2 : w ≤ 15 := by rcases hw with rfl | rfl | rfl <;> omega
  exact ⟨fun g => g.elim h.1 (fun g => by omega), fun g => g.elim h.2 (fun g => by omega)⟩
theorem x_tv.wy {w : Nat} (hw : y_wld w) {σ τ : xS} {V : Nat → Nat → Prop} {t : Nat} {o : Nat → Nat} {p : Nat → List Int32} (ht : t < 6) (f : x_fr (y_wy w) V σ τ) (h : x_tv σ t o p) : x_tv τ t o p := by
  have hw2 : w ≤ 15 := by rcases hw with rfl | rfl | rfl <;> omega
  exact x_tv.at (fun u => f.I (by unfold y_wy x_wt; omega)) (fun u => f.I (by unfold y_wy x_wt; omega)) (fun u => f.I (y_wy_t hw ht u).1) (fun u => f.I (y_wy_t hw ht u).2) h
theorem m24 (d : Nat) {σ : xS} (hG : x_G σ) {j : Nat} (hj : j < 2147483647) (h : x_J σ 44 0 = Int64.ofNat j) : x_run (d + 1) 24 [.inr (.inr (some 44))] σ = some (some (.inl (Int32.ofNat (y_jn j))), x_sl σ 44 0 (Int64.ofNat (y_jn j))) := by
  have hj2 : y_jn j < 2147483647 := Nat.mod_lt _ (by omega)
  rw [r24, e24_0, x_k44 hG, x_k44 hG, h, y_lot hj, x_k44 (σ := x_sl σ 44 0 (Int64.ofNat (y_jn j))) hG, x_Jsl, if_pos ⟨rfl, rfl⟩, y_64to (by omega)]
theorem m21 (d : Nat) {σ : xS} (hG : x_G σ) {c W U q : Nat} (hc : Nat.beq (x_nth x_K c).1 2 = true) (hW : x_I σ c 2 = Int32.ofNat W) (hU : x_I σ c 7 = Int32.ofNat U) (bW : W ≤ 99999) (bU : U ≤ 99) (bq : q ≤ 99999) : x_run (d + 1) 21 [.inr (.inr (some c)), .inl (Int32.ofNat q)] σ = some (none, x_si (x_si σ c 2 (Int32.ofNat (min 99999 (W + q)))) c 7 (Int32.ofNat (min 99 (U + 1)))) := by
  have kc : ∀ (τ : xS) (K : Option xR), x_G τ → x_ck τ c 2 K = K := fun τ K h => x_ckk h.1 hc K
  have e1 : (if Int32.ofNat W + Int32.ofNat q < 99999 then Int32.ofNat W + Int32.ofNat q else 99999) = Int32.ofNat (min 99999 (W + q)) := by
    rw [← Int32.ofNat_add]
    exact y_min (W + q) 99999 (by omega) (by omega)
  have e2 : (if Int32.ofNat U + 1 < 99 then Int32.ofNat U + 1 else 99) = Int32.ofNat (min 99 (U + 1)) := by
    rw [x_s1]
    exact y_min (U + 1) 99 (by omega) (by omega)
  have e3 : ∀ v, x_I (x_si σ c 2 v) c 7 = x_I σ c 7 := fun v => by rw [x_Isi, if_neg (by omega)]
  rw [r21, e21_0]
  simp only [↓kc, hG, x_Gsi, e3, hW, hU, e1, e2]
theorem l70 (d : Nat) {w n r : Nat} (hw : y_wld w) (hn : n ≤ 5) (hr : r < 6) {o : Nat → Nat} {p : Nat → List Int32} {K M E S : Nat → Int32} (fx : y_fx n M E S) {y : Int32} : ∀ q l a σ, l + q = n → x_G σ → x_tv σ r o p → x_I σ w 1 = Int32.ofNat n → x_I σ w 2 = y → y_iv n a → y_mc w n K M E S σ a → ∃ τ, x_f (d + 4) 70 5 [some (.inr (.inr (some w))), some (.inr (.inr (some 44))), some (.inr (.inr (some (x_tc r)))), some (.inl a.2.2.2.2), some (.inl (Int32.ofNat l)), none, none, none, none] [] σ = some (some (.inl (x_it (y_yl p K M E S y) l q a).2.2.2.2), τ) ∧ x_fr (y_wy w) y_vt σ τ ∧ y_mc w n K M E S τ (x_it (y_yl p K M E S y) l q a) ∧ x_I τ w 2 = y + 1
  | 0, l, a, σ, hi, hG, hv, h1, h2, iv, mc => by
    refine ⟨x_si σ w 2 (y + 1), ?_, (x_fr.refl (y_wy w) y_vt σ).si _ (Or.inr (Or.inr ⟨rfl, Or.inl rfl⟩)), ?_, by rw [x_Isi, if_pos ⟨rfl, rfl⟩]⟩
    · rw [x_feq, e70_5, y_w8k hG hw, h1, if_pos ((x_le (by omega) (by omega)).mpr (by omega)), y_w8k hG hw, y_w8k hG hw, h2]
      rfl
    · obtain ⟨m1, m2, m3⟩ := mc
      refine ⟨fun q hq => ?_, m2, by rw [x_Isi, if_neg (by omega)]; exact m3⟩
      obtain ⟨c1, c2⟩ := m1 q hq
      have E1 : ∀ u, x_I (x_si σ w 2 (y + 1)) (w + 2 + q) u = x_I σ (w + 2 + q) u := fun u => by rw [x_Isi, if_neg (by omega)]
      exact ⟨⟨(E1 0).trans c1.1, (E1 1).trans c1.2.1, (E1 3).trans c1.2.2.1, (E1 4).trans c1.2.2.2.1, (E1 7).trans c1.2.2.2.2⟩, (E1 2).trans c2⟩
  | q + 1, l, a, σ, hi, hG, hv, h1, h2, iv, mc => by
    have hl : l < n := by omega
    have hl5 : l < 5 := by omega
    have hw15 : w ≤ 15 := by rcases hw with rfl | rfl | rfl <;> omega
    obtain ⟨mb, eb, sb⟩ := fx l hl
    obtain ⟨m1, m2, m3⟩ := id mc
    obtain ⟨c1, c2⟩ := m1 l hl
    obtain ⟨iv1, iv2⟩ := id iv
    have hj2 : y_jn a.2.2.2.1 < 2147483647 := Nat.mod_lt _ (by omega)
    have kc : ∀ (τ : xS) (K : Option xR), x_G τ → x_ck τ (w + 2 + l) 2 K = K := fun τ K h => x_ckk h.1 (y_wk2 hw hl5) K
    have a0 := m24 (d + 3) hG iv2 m2
    have f0 : x_fr (y_wy w) y_vt σ (x_sl σ 44 0 (Int64.ofNat (y_jn a.2.2.2.1))) := (x_fr.refl (y_wy w) y_vt σ).sl _ trivial
    have hG0 := f0.G hG
    have cl0 : y_cl (x_sl σ 44 0 (Int64.ofNat (y_jn a.2.2.2.1))) (w + 2 + l) (K l) (M l) (E l) (S l) (Int32.ofNat (a.2.1 l)) := c1
    obtain ⟨σ1, a1, f1⟩ := c16 d hG0 hr (hv.wy hw hr f0) (y_wk2 hw hl5) cl0 mb y (Int32.ofNat (a.2.1 l))
    have hG1 := f1.G hG0
    have nwt : ∀ b u, b ≤ 30 → ¬ x_wt b u := fun b u h => x_wt_o (by omega) u
    have f01 : x_fr (y_wy w) y_vt σ σ1 := f0.trans (f1.mono (fun _ _ h => Or.inl h) (fun _ _ h => h.elim))
    have F1 : ∀ b u, b ≤ 30 → x_I σ1 b u = x_I σ b u := fun b u h => (f1.I (nwt b u h)).trans rfl
    have j1 : x_J σ1 44 0 = Int64.ofNat (y_jn a.2.2.2.1) := (f1.J (fun h => h)).trans (by rw [x_Jsl, if_pos ⟨rfl, rfl⟩])
    have cl1 := cl0.fr f1 (x_wt_c (y_wk2 hw hl5))
    obtain ⟨⟨o1, o2⟩, ⟨z1, z2⟩, t1, t2⟩ := y_oztn p (k := K l) (m := M l) (y := y) eb sb (a.2.1 l)
    have e100 : Int32.ofNat (y_jn a.2.2.2.1) - Int32.ofNat (y_jn a.2.2.2.1) / 100 * 100 = Int32.ofNat (y_jn a.2.2.2.1 % 100) := by
      rw [show (100 : Int32) = Int32.ofNat 100 from rfl]
      exact x_md (by omega) (by omega)
    rw [o1] at a1
    have pre : ∀ R, (if Int32.ofNat (y_on p (K l) (M l) (E l) (S l) y (a.2.1 l)) ≤ Int32.ofNat (y_jn a.2.2.2.1 % 100) then x_f (d + 4) 70 5 [some (.inr (.inr (some w))), some (.inr (.inr (some 44))), some (.inr (.inr (some (x_tc r)))), some (.inl a.2.2.2.2), some (.inl (Int32.ofNat (l + 1))), none, none, none, none] [] σ1 else x_ci (x_run (d + 4) 18 [.inr (.inr (some (w + 2 + l))), .inr (.inr (some (x_tc r))), .inl y, .inl (Int32.ofNat (a.2.1 l))] σ1) fun x13 σ12 => (x_der (some (w + 2 + l)) fun a14 => x_ck σ12 a14 2 <| x_ci (x_run (d + 4) 20 [.inr (.inr (some (w + 2 + l))), .inl x13] σ12) fun x16 σ15 => (x_der (some (w + 2 + l)) fun a17 => x_ck σ15 a17 2 <| x_cv (x_run (d + 4) 21 [.inr (.inr (some (w + 2 + l))), .inl (x13 - x16)] σ15) fun σ18 => (x_ck σ18 w 8 <| (x_ck σ18 w 8 <| x_f (d + 4) 70 5 [some (.inr (.inr (some w))), some (.inr (.inr (some 44))), some (.inr (.inr (some (x_tc r)))), some (.inl (a.2.2.2.2 ||| (1 <<< (Int32.ofNat l &&& 31)))), some (.inl (Int32.ofNat (l + 1))), none, none, none, none] [] (x_si σ18 w 7 ((x_I σ18 w 7) + x16))))))) = R → x_f (d + 4) 70 5 [some (.inr (.inr (some w))), some (.inr (.inr (some 44))), some (.inr (.inr (some (x_tc r)))), some (.inl a.2.2.2.2), some (.inl (Int32.ofNat l)), none, none, none, none] [] σ = R := by
      intro R h
      rw [x_feq, e70_5, y_w8k hG hw, h1, if_neg (fun h => absurd ((x_le (by omega) (by omega)).mp h) (by omega)), y_w8k hG hw, m65w _ hG hw hn hl h1, x_cr_s, x_der_s, x_k44 hG, a0, x_ci_s, x_nul_s, y_w8k hG0 hw, x_der_s, kc _ _ hG0, x_der_s, kc _ _ hG0, show x_I (x_sl σ 44 0 (Int64.ofNat (y_jn a.2.2.2.1))) w 2 = y from h2, show x_I (x_sl σ 44 0 (Int64.ofNat (y_jn a.2.2.2.1))) (w + 2 + l) 7 = Int32.ofNat (a.2.1 l) from c1.2.2.2.2, a1, x_ci_s, e100, y_w8k hG1 hw, x_der_s, kc _ _ hG1, x_der_s, kc _ _ hG1, F1 w 2 (by omega), h2, cl1.2.2.2.2, x_s1]
      exact h
    by_cases c : y_on p (K l) (M l) (E l) (S l) y (a.2.1 l) ≤ y_jn a.2.2.2.1 % 100
    · have es : y_yl p K M E S y l a = (a.1, a.2.1, a.2.2.1, y_jn a.2.2.2.1, a.2.2.2.2) := if_pos c
      obtain ⟨τ, a3, f3, g3, k3⟩ := l70 d hw hn hr fx q (l + 1) (y_yl p K M E S y l a) σ1 (by omega) hG1 (hv.wy hw hr f01) ((F1 w 1 (by omega)).trans h1) ((F1 w 2 (by omega)).trans h2) (y_yl_iv p K M E S y iv) (by
        rw [es]
        refine ⟨fun q hq => ?_, j1, (F1 w 7 (by omega)).trans m3⟩
        obtain ⟨d1, d2⟩ := m1 q hq
        exact ⟨⟨(F1 _ 0 (by omega)).trans d1.1, (F1 _ 1 (by omega)).trans d1.2.1, (F1 _ 3 (by omega)).trans d1.2.2.1, (F1 _ 4 (by omega)).trans d1.2.2.2.1, (F1 _ 7 (by omega)).trans d1.2.2.2.2⟩, (F1 _ 2 (by omega)).trans d2⟩)
      refine ⟨τ, pre _ ?_, f01.trans f3, g3, k3⟩
      rw [if_pos ((x_le (by omega) (by omega)).mpr c)]
      refine Eq.trans ?_ a3
      rw [es]
    · obtain ⟨σ2, a2, f2⟩ := c18 d hG1 hr (hv.wy hw hr f01) (y_wk2 hw hl5) cl1 y (Int32.ofNat (a.2.1 l))
      have hG2 := f2.G hG1
      have cl2 := cl1.fr f2 (x_wt_c (y_wk2 hw hl5))
      have a2t := c20 (d + 3) hG2 (y_wk2 hw hl5) cl2 (x_Z p (K l) (M l) (E l) (S l) y (Int32.ofNat (a.2.1 l)))
      rw [t1] at a2t
      rw [z1] at a2 a2t
      have F2 : ∀ b u, b ≤ 30 → x_I σ2 b u = x_I σ b u := fun b u h => (f2.I (nwt b u h)).trans (F1 b u h)
      have a21 := m21 (d + 3) hG2 (c := w + 2 + l) (q := y_zn p (K l) (M l) (E l) (S l) y (a.2.1 l) - y_tn p (K l) (M l) (E l) (S l) y (a.2.1 l)) (y_wk2 hw hl5) ((F2 _ 2 (by omega)).trans c2) ((F2 _ 7 (by omega)).trans c1.2.2.2.2) (iv1 l hl).1 (iv1 l hl).2 (by omega)
      have es : y_yl p K M E S y l a = (fun q => if q = l then min 99999 (a.1 l + (y_zn p (K l) (M l) (E l) (S l) y (a.2.1 l) - y_tn p (K l) (M l) (E l) (S l) y (a.2.1 l))) else a.1 q, fun q => if q = l then min 99 (a.2.1 l + 1) else a.2.1 q, a.2.2.1 + y_tn p (K l) (M l) (E l) (S l) y (a.2.1 l), y_jn a.2.2.2.1, a.2.2.2.2 ||| (1 <<< (Int32.ofNat l &&& 31))) := if_neg c
      let σ4 := x_si (x_si (x_si σ2 (w + 2 + l) 2 (Int32.ofNat (min 99999 (a.1 l + (y_zn p (K l) (M l) (E l) (S l) y (a.2.1 l) - y_tn p (K l) (M l) (E l) (S l) y (a.2.1 l)))))) (w + 2 + l) 7 (Int32.ofNat (min 99 (a.2.1 l + 1)))) w 7 (Int32.ofNat (a.2.2.1 + y_tn p (K l) (M l) (E l) (S l) y (a.2.1 l)))
      have f4 : x_fr (y_wy w) y_vt σ2 σ4 := (((x_fr.refl (y_wy w) y_vt σ2).si _ (Or.inr (Or.inl ⟨by omega, by omega, Or.inl rfl⟩))).si _ (Or.inr (Or.inl ⟨by omega, by omega, Or.inr rfl⟩))).si _ (Or.inr (Or.inr ⟨rfl, Or.inr rfl⟩))
      have f04 : x_fr (y_wy w) y_vt σ σ4 := (f01.trans (f2.mono (fun _ _ h => Or.inl h) (fun _ _ h => h.elim))).trans f4
      have hG4 : x_G σ4 := hG2
      have I4 : ∀ b u, b ≤ 30 → ¬ (b = w + 2 + l ∧ (u = 2 ∨ u = 7)) → ¬ (b = w ∧ u = 7) → x_I σ4 b u = x_I σ b u := by
        intro b u hb n1 n2
        show x_I (x_si (x_si (x_si σ2 (w + 2 + l) 2 _) (w + 2 + l) 7 _) w 7 _) b u = _
        rw [x_Isi, if_neg (by omega), x_Isi, if_neg (by omega), x_Isi, if_neg (by omega), F2 b u hb]
      obtain ⟨τ, a3, f3, g3, k3⟩ := l70 d hw hn hr fx q (l + 1) (y_yl p K M E S y l a) σ4 (by omega) hG4 (hv.wy hw hr f04) ((I4 w 1 (by omega) (by omega) (by omega)).trans h1) ((I4 w 2 (by omega) (by omega) (by omega)).trans h2) (y_yl_iv p K M E S y iv) (by
        rw [es]
        refine ⟨fun q hq => ?_, ((f2.J (fun h => h)).trans j1), by show x_I (x_si _ w 7 _) w 7 = _; rw [x_Isi, if_pos ⟨rfl, rfl⟩]⟩
        obtain ⟨d1, d2⟩ := m1 q hq
        by_cases ql : q = l
        · subst ql
          refine ⟨⟨(I4 _ 0 (by omega) (by omega) (by omega)).trans d1.1, (I4 _ 1 (by omega) (by omega) (by omega)).trans d1.2.1, (I4 _ 3 (by omega) (by omega) (by omega)).trans d1.2.2.1, (I4 _ 4 (by omega) (by omega) (by omega)).trans d1.2.2.2.1, ?_⟩, ?_⟩
          · show x_I (x_si (x_si (x_si σ2 (w + 2 + q) 2 _) (w + 2 + q) 7 _) w 7 _) (w + 2 + q) 7 = Int32.ofNat (if q = q then _ else _)
            rw [x_Isi, if_neg (by omega), x_Isi, if_pos ⟨rfl, rfl⟩, if_pos rfl]
          · show x_I (x_si (x_si (x_si σ2 (w + 2 + q) 2 _) (w + 2 + q) 7 _) w 7 _) (w + 2 + q) 2 = Int32.ofNat (if q = q then _ else _)
            rw [x_Isi, if_neg (by omega), x_Isi, if_neg (by omega), x_Isi, if_pos ⟨rfl, rfl⟩, if_pos rfl]
        · refine ⟨⟨(I4 _ 0 (by omega) (by omega) (by omega)).trans d1.1, (I4 _ 1 (by omega) (by omega) (by omega)).trans d1.2.1, (I4 _ 3 (by omega) (by omega) (by omega)).trans d1.2.2.1, (I4 _ 4 (by omega) (by omega) (by omega)).trans d1.2.2.2.1, ?_⟩, ?_⟩
          · show _ = Int32.ofNat (if q = l then _ else _)
            rw [if_neg ql]; exact (I4 _ 7 (by omega) (by omega) (by omega)).trans d1.2.2.2.2
          · show _ = Int32.ofNat (if q = l then _ else _)
            rw [if_neg ql]; exact (I4 _ 2 (by omega) (by omega) (by omega)).trans d2)
      refine ⟨τ, pre _ ?_, f04.trans f3, g3, k3⟩
      have hG3 : x_G (x_si (x_si σ2 (w + 2 + l) 2 (Int32.ofNat (min 99999 (a.1 l + (y_zn p (K l) (M l) (E l) (S l) y (a.2.1 l) - y_tn p (K l) (M l) (E l) (S l) y (a.2.1 l)))))) (w + 2 + l) 7 (Int32.ofNat (min 99 (a.2.1 l + 1)))) := hG2
      have e7 : x_I (x_si (x_si σ2 (w + 2 + l) 2 (Int32.ofNat (min 99999 (a.1 l + (y_zn p (K l) (M l) (E l) (S l) y (a.2.1 l) - y_tn p (K l) (M l) (E l) (S l) y (a.2.1 l)))))) (w + 2 + l) 7 (Int32.ofNat (min 99 (a.2.1 l + 1)))) w 7 = Int32.ofNat a.2.2.1 := by
        rw [x_Isi, if_neg (by omega), x_Isi, if_neg (by omega), F2 w 7 (by omega)]; exact m3
      rw [if_neg (fun h => c ((x_le (by omega) (by omega)).mp h)), a2, x_ci_s, x_der_s, kc _ _ hG2, a2t, x_ci_s, x_der_s, kc _ _ hG2, x_sb t2 (by omega), a21, x_cv_s, y_w8k hG3 hw, y_w8k hG3 hw, e7, ← Int32.ofNat_add]
      refine Eq.trans ?_ a3
      rw [es]
