/-! a year of the reference; live -/
def y_mr (n : Nat) (K M E S : Nat → Int32) (σ : xS) (a : y_Y) : Prop := (∀ l, l < n → y_rl σ l (K l) (M l) (E l) (S l) (Int32.ofNat (a.2.1 l)) ∧ x_I σ 81 (6 * l) = Int32.ofNat (a.1 l)) ∧ x_J σ 78 46 = Int64.ofNat a.2.2.2.1 ∧ x_I σ 78 47 = a.2.2.2.2
def y_wv (b u : Nat) : Prop := x_wt b u ∨ (b = 81 ∧ u < 30 ∧ (u % 6 = 0 ∨ u % 6 = 5)) ∨ (b = 78 ∧ (u = 4 ∨ u = 47))
theorem x_tv.wv {σ τ : xS} {V : Nat → Nat → Prop} {t : Nat} {o : Nat → Nat} {p : Nat → List Int32} (ht : t < 6) (f : x_fr y_wv V σ τ) (h : x_tv σ t o p) : x_tv τ t o p := by
  have hc : 29 ≤ x_tc t ∧ x_tc t + 3 < 70 := by
    rcases (show t = 0 ∨ t = 1 ∨ t = 2 ∨ t = 3 ∨ t = 4 ∨ t = 5 by omega) with rfl | rfl | rfl | rfl | rfl | rfl <;> exact ⟨Nat.le_of_ble_eq_true rfl, Nat.le_of_ble_eq_true rfl⟩
  exact x_tv.at (fun u => f.I (by unfold y_wv x_wt; omega)) (fun u => f.I (by unfold y_wv x_wt; omega)) (fun u => f.I (fun g => g.elim (x_wt_n ht u).1 (fun g => by omega))) (fun u => f.I (fun g => g.elim (x_wt_n ht u).2 (fun g => by omega))) h
theorem l196 (d : Nat) {n r : Nat} (hn : n ≤ 5) (hr : r < 6) {o : Nat → Nat} {p : Nat → List Int32} {K M E S : Nat → Int32} (fx : y_fx n M E S) {y : Int32} (c : Int32) : ∀ q l a σ, l + q = n → x_G σ → x_tv σ r o p → x_I σ 78 13 = Int32.ofNat r → x_I σ 78 0 = Int32.ofNat n → x_I σ 78 4 = y → y_iv n a → y_mr n K M E S σ a → ∃ τ, x_f (d + 4) 196 9 [some (.inr (.inr (some 78))), some (.inl (Int32.ofNat a.2.2.1 - c)), some (.inl (Int32.ofNat l)), none, none, none] [] σ = some (some (.inl (Int32.ofNat (x_it (y_yl p K M E S y) l q a).2.2.1 - c)), τ) ∧ x_fr y_wv y_vt σ τ ∧ y_mr n K M E S τ (x_it (y_yl p K M E S y) l q a) ∧ x_I τ 78 4 = y + 1
  | 0, l, a, σ, hi, hG, hv, h13, h0, h4, iv, mr => by
    refine ⟨x_si σ 78 4 (y + 1), ?_, (x_fr.refl y_wv y_vt σ).si _ (Or.inr (Or.inr ⟨rfl, Or.inl rfl⟩)), mr, by rw [x_Isi, if_pos ⟨rfl, rfl⟩]⟩
    rw [x_feq, e196_9, x_k78 hG, h0, if_pos ((x_le (by omega) (by omega)).mpr (by omega)), x_k78 hG, x_k78 hG, h4]
    rfl
  | q + 1, l, a, σ, hi, hG, hv, h13, h0, h4, iv, mr => by
    have hl : l < n := by omega
    have hl5 : l < 5 := by omega
    obtain ⟨mb, eb, sb⟩ := fx l hl
    obtain ⟨m1, m2, m3⟩ := id mr
    obtain ⟨c1, c2⟩ := m1 l hl
    obtain ⟨iv1, iv2⟩ := id iv
    have hj2 : y_jn a.2.2.2.1 < 2147483647 := Nat.mod_lt _ (by omega)
    have w9 : ∀ {b}, b = 79 ∨ b = 80 ∨ b = 81 ∨ b = 78 → ∀ u, ¬ x_wt b u := fun h => x_wt_o (by omega)
    have f0 : x_fr y_wv y_vt σ (x_sl σ 78 46 (Int64.ofNat (y_jn a.2.2.2.1))) := (x_fr.refl y_wv y_vt σ).sl _ trivial
    have hG0 := f0.G hG
    have rl0 : y_rl (x_sl σ 78 46 (Int64.ofNat (y_jn a.2.2.2.1))) l (K l) (M l) (E l) (S l) (Int32.ofNat (a.2.1 l)) := c1
    obtain ⟨σ1, a1, f1⟩ := c160 d hG0 hr (hv.wv hr f0) (show x_I (x_sl σ 78 46 (Int64.ofNat (y_jn a.2.2.2.1))) 78 13 = Int32.ofNat r from h13) hl5 rl0 mb y (Int32.ofNat (a.2.1 l))
    have hG1 := f1.G hG0
    have f01 : x_fr y_wv y_vt σ σ1 := f0.trans (f1.mono (fun _ _ h => Or.inl h) (fun _ _ h => h.elim))
    have F1 : ∀ b u, (b = 79 ∨ b = 80 ∨ b = 81 ∨ b = 78) → x_I σ1 b u = x_I σ b u := fun b u h => (f1.I (w9 h u)).trans rfl
    have j1 : x_J σ1 78 46 = Int64.ofNat (y_jn a.2.2.2.1) := (f1.J (fun h => h)).trans (by rw [x_Jsl, if_pos ⟨rfl, rfl⟩])
    have rl1 := rl0.fr f1 (w9 (by omega)) (w9 (by omega)) (w9 (by omega))
    obtain ⟨⟨o1, o2⟩, ⟨z1, z2⟩, t1, t2⟩ := y_oztn p (k := K l) (m := M l) (y := y) eb sb (a.2.1 l)
    have e100 : Int64.ofNat (y_jn a.2.2.2.1) - Int64.ofNat (y_jn a.2.2.2.1) / 100 * 100 = Int64.ofNat (y_jn a.2.2.2.1 % 100) := by
      rw [show (100 : Int64) = Int64.ofNat 100 from rfl]
      exact x_md64 (by omega) (by omega)
    rw [o1] at a1
    have rJ : x_J (x_sl σ 78 46 (Int64.ofNat (y_jn a.2.2.2.1))) 78 46 = Int64.ofNat (y_jn a.2.2.2.1) := by rw [x_Jsl, if_pos ⟨rfl, rfl⟩]
    have pre : x_f (d + 4) 196 9 [some (.inr (.inr (some 78))), some (.inl (Int32.ofNat a.2.2.1 - c)), some (.inl (Int32.ofNat l)), none, none, none] [] σ = if y_on p (K l) (M l) (E l) (S l) y (a.2.1 l) ≤ y_jn a.2.2.2.1 % 100 then x_f (d + 4) 196 9 [some (.inr (.inr (some 78))), some (.inl (Int32.ofNat a.2.2.1 - c)), some (.inl (Int32.ofNat (l + 1))), none, none, none] [] σ1 else x_ci (x_run (d + 4) 161 [.inr (.inr (some 78)), .inl (Int32.ofNat l), .inl y, .inl (Int32.ofNat (a.2.1 l))] σ1) fun x6 σ5 => (x_ck σ5 78 10 <| x_ci (x_run (d + 4) 163 [.inr (.inr (some 78)), .inl (Int32.ofNat l), .inl x6] σ5) fun x8 σ7 => (x_ck σ7 78 10 <| (x_ck σ7 78 10 <| (x_der (x_Q σ7 78 3) fun a9 => x_ak σ7 a9 11 fun n10 => x_ix (6 * Int32.ofNat l) n10 <| (x_ci (x_run (d + 4) 134 [.inl (((x_I σ7 a9 (6 * Int32.ofNat l).toNatClampNeg) + x6) - x8), .inl 0, .inl 99999] σ7) fun x12 σ11 => (x_der (x_Q σ7 78 3) fun a13 => x_ak σ11 a13 11 fun n14 => x_ix (6 * Int32.ofNat l) n14 <| (x_ck (x_si σ11 a13 (6 * Int32.ofNat l).toNatClampNeg x12) 78 10 <| (x_ci (x_run (d + 4) 134 [.inl (Int32.ofNat (a.2.1 l) + 1), .inl 0, .inl 99] (x_si σ11 a13 (6 * Int32.ofNat l).toNatClampNeg x12)) fun x16 σ15 => (x_der (x_Q (x_si σ11 a13 (6 * Int32.ofNat l).toNatClampNeg x12) 78 3) fun a17 => x_ak σ15 a17 11 fun n18 => x_ix ((6 * Int32.ofNat l) + 5) n18 <| (x_ck (x_si σ15 a17 ((6 * Int32.ofNat l) + 5).toNatClampNeg x16) 78 10 <| (x_ck (x_si σ15 a17 ((6 * Int32.ofNat l) + 5).toNatClampNeg x16) 78 10 <| x_f (d + 4) 196 9 [some (.inr (.inr (some 78))), some (.inl ((Int32.ofNat a.2.2.1 - c) + x8)), some (.inl (Int32.ofNat (l + 1))), none, none, none] [] (x_si (x_si σ15 a17 ((6 * Int32.ofNat l) + 5).toNatClampNeg x16) 78 47 ((x_I (x_si σ15 a17 ((6 * Int32.ofNat l) + 5).toNatClampNeg x16) 78 47) ||| (1 <<< (Int32.ofNat l &&& 31))))))))))))))) := by
      rw [x_feq, e196_9, x_k78 hG, h0, if_neg (fun h => absurd ((x_le (by omega) (by omega)).mp h) (by omega)), x_k78 hG, x_k78 hG, m2, y_lot iv2, x_k78 hG0, x_Qsl, x_q78_3 hG, x_der_s, x_k81 hG0, x_6i5 hl5, x_6n5 hl5, x_k78 hG0, x_k78 hG0, x_k78 hG0, rl0.2.2.2.2, show x_I (x_sl σ 78 46 (Int64.ofNat (y_jn a.2.2.2.1))) 78 4 = y from h4, a1, x_ci_s, rJ, e100, x_to64 (by omega), x_s1, x_k78 hG1, x_k78 hG1, (F1 78 4 (by omega)).trans h4]
      by_cases cc : y_on p (K l) (M l) (E l) (S l) y (a.2.1 l) ≤ y_jn a.2.2.2.1 % 100
      · rw [if_pos ((y_lgle (by omega) (by omega)).mpr cc), if_pos cc]
      · rw [if_neg (fun h => cc ((y_lgle (by omega) (by omega)).mp h)), if_neg cc]
    by_cases cc : y_on p (K l) (M l) (E l) (S l) y (a.2.1 l) ≤ y_jn a.2.2.2.1 % 100
    · have es : y_yl p K M E S y l a = (a.1, a.2.1, a.2.2.1, y_jn a.2.2.2.1, a.2.2.2.2) := if_pos cc
      obtain ⟨τ, a3, f3, g3, k3⟩ := l196 d hn hr fx c q (l + 1) (y_yl p K M E S y l a) σ1 (by omega) hG1 (hv.wv hr f01) ((F1 78 13 (by omega)).trans h13) ((F1 78 0 (by omega)).trans h0) ((F1 78 4 (by omega)).trans h4) (y_yl_iv p K M E S y iv) (by
        rw [es]
        refine ⟨fun q hq => ?_, j1, (F1 78 47 (by omega)).trans m3⟩
        obtain ⟨d1, d2⟩ := m1 q hq
        exact ⟨⟨(F1 _ _ (by omega)).trans d1.1, (F1 _ _ (by omega)).trans d1.2.1, (F1 _ _ (by omega)).trans d1.2.2.1, (F1 _ _ (by omega)).trans d1.2.2.2.1, (F1 _ _ (by omega)).trans d1.2.2.2.2⟩, (F1 _ _ (by omega)).trans d2⟩)
      refine ⟨τ, ?_, f01.trans f3, g3, k3⟩
      rw [pre, if_pos cc]
      refine Eq.trans ?_ a3
      rw [es]
    · obtain ⟨σ2, a2, f2⟩ := c161 d hG1 hr (hv.wv hr f01) ((F1 78 13 (by omega)).trans h13) hl5 rl1 y (Int32.ofNat (a.2.1 l))
      have hG2 := f2.G hG1
      have rl2 := rl1.fr f2 (w9 (by omega)) (w9 (by omega)) (w9 (by omega))
      have a2t := c163 (d + 3) hG2 hl5 rl2 eb (y_big (x_Z_b p (K l) (M l) (E l) (S l) y (Int32.ofNat (a.2.1 l))) (by decide))
      rw [t1] at a2t
      rw [z1] at a2 a2t
      have F2 : ∀ b u, (b = 79 ∨ b = 80 ∨ b = 81 ∨ b = 78) → x_I σ2 b u = x_I σ b u := fun b u h => (f2.I (w9 h u)).trans (F1 b u h)
      have es : y_yl p K M E S y l a = (fun q => if q = l then min 99999 (a.1 l + (y_zn p (K l) (M l) (E l) (S l) y (a.2.1 l) - y_tn p (K l) (M l) (E l) (S l) y (a.2.1 l))) else a.1 q, fun q => if q = l then min 99 (a.2.1 l + 1) else a.2.1 q, a.2.2.1 + y_tn p (K l) (M l) (E l) (S l) y (a.2.1 l), y_jn a.2.2.2.1, a.2.2.2.2 ||| (1 <<< (Int32.ofNat l &&& 31))) := if_neg cc
      let σ3 := x_si (x_si σ2 81 (6 * l) (Int32.ofNat (min 99999 (a.1 l + (y_zn p (K l) (M l) (E l) (S l) y (a.2.1 l) - y_tn p (K l) (M l) (E l) (S l) y (a.2.1 l)))))) 81 (6 * l + 5) (Int32.ofNat (min 99 (a.2.1 l + 1)))
      let σ4 := x_si σ3 78 47 (a.2.2.2.2 ||| (1 <<< (Int32.ofNat l &&& 31)))
      have f4 : x_fr y_wv y_vt σ2 σ4 := (((x_fr.refl y_wv y_vt σ2).si _ (Or.inr (Or.inl ⟨rfl, by omega, by omega⟩))).si _ (Or.inr (Or.inl ⟨rfl, by omega, by omega⟩))).si _ (Or.inr (Or.inr ⟨rfl, Or.inr rfl⟩))
      have f04 : x_fr y_wv y_vt σ σ4 := (f01.trans (f2.mono (fun _ _ h => Or.inl h) (fun _ _ h => h.elim))).trans f4
      have hG4 : x_G σ4 := hG2
      have hG3 : x_G σ3 := hG2
      have I4 : ∀ b u, (b = 79 ∨ b = 80 ∨ b = 81 ∨ b = 78) → ¬ (b = 81 ∧ (u = 6 * l ∨ u = 6 * l + 5)) → ¬ (b = 78 ∧ u = 47) → x_I σ4 b u = x_I σ b u := by
        intro b u hb n1 n2
        show x_I (x_si (x_si (x_si σ2 81 (6 * l) _) 81 (6 * l + 5) _) 78 47 _) b u = _
        rw [x_Isi, if_neg (by omega), x_Isi, if_neg (by omega), x_Isi, if_neg (by omega), F2 b u hb]
      obtain ⟨τ, a3, f3, g3, k3⟩ := l196 d hn hr fx c q (l + 1) (y_yl p K M E S y l a) σ4 (by omega) hG4 (hv.wv hr f04) ((I4 78 13 (by omega) (by omega) (by omega)).trans h13) ((I4 78 0 (by omega) (by omega) (by omega)).trans h0) ((I4 78 4 (by omega) (by omega) (by omega)).trans h4) (y_yl_iv p K M E S y iv) (by
        rw [es]
        refine ⟨fun q hq => ?_, (f2.J (fun h => h)).trans j1, by show x_I (x_si σ3 78 47 _) 78 47 = _; rw [x_Isi, if_pos ⟨rfl, rfl⟩]⟩
        obtain ⟨d1, d2⟩ := m1 q hq
        by_cases ql : q = l
        · subst ql
          refine ⟨⟨(I4 79 _ (by omega) (by omega) (by omega)).trans d1.1, (I4 80 _ (by omega) (by omega) (by omega)).trans d1.2.1, (I4 81 _ (by omega) (by omega) (by omega)).trans d1.2.2.1, (I4 81 _ (by omega) (by omega) (by omega)).trans d1.2.2.2.1, ?_⟩, ?_⟩
          · show x_I (x_si (x_si (x_si σ2 81 (6 * q) _) 81 (6 * q + 5) _) 78 47 _) 81 (6 * q + 5) = Int32.ofNat (if q = q then _ else _)
            rw [x_Isi, if_neg (by omega), x_Isi, if_pos ⟨rfl, rfl⟩, if_pos rfl]
          · show x_I (x_si (x_si (x_si σ2 81 (6 * q) _) 81 (6 * q + 5) _) 78 47 _) 81 (6 * q) = Int32.ofNat (if q = q then _ else _)
            rw [x_Isi, if_neg (by omega), x_Isi, if_neg (by omega), x_Isi, if_pos ⟨rfl, rfl⟩, if_pos rfl]
        · refine ⟨⟨(I4 79 _ (by omega) (by omega) (by omega)).trans d1.1, (I4 80 _ (by omega) (by omega) (by omega)).trans d1.2.1, (I4 81 _ (by omega) (by omega) (by omega)).trans d1.2.2.1, (I4 81 _ (by omega) (by omega) (by omega)).trans d1.2.2.2.1, ?_⟩, ?_⟩
          · show _ = Int32.ofNat (if q = l then _ else _)
            rw [if_neg ql]; exact (I4 81 _ (by omega) (by omega) (by omega)).trans d1.2.2.2.2
          · show _ = Int32.ofNat (if q = l then _ else _)
            rw [if_neg ql]; exact (I4 81 _ (by omega) (by omega) (by omega)).trans d2)
      refine ⟨τ, ?_, f04.trans f3, g3, k3⟩
      have iW := (iv1 l hl).1
      have iU := (iv1 l hl).2
      have eW : x_bnd (Int32.ofNat (a.1 l) + Int32.ofNat (y_zn p (K l) (M l) (E l) (S l) y (a.2.1 l)) - Int32.ofNat (y_tn p (K l) (M l) (E l) (S l) y (a.2.1 l))) 99999 = Int32.ofNat (min 99999 (a.1 l + (y_zn p (K l) (M l) (E l) (S l) y (a.2.1 l) - y_tn p (K l) (M l) (E l) (S l) y (a.2.1 l)))) := by
        rw [← Int32.ofNat_add, x_sb (by omega) (by omega), show a.1 l + y_zn p (K l) (M l) (E l) (S l) y (a.2.1 l) - y_tn p (K l) (M l) (E l) (S l) y (a.2.1 l) = a.1 l + (y_zn p (K l) (M l) (E l) (S l) y (a.2.1 l) - y_tn p (K l) (M l) (E l) (S l) y (a.2.1 l)) by omega]
        exact y_bmin _ 99999 (by omega) (by omega)
      have eU : x_bnd (Int32.ofNat (a.2.1 l) + 1) 99 = Int32.ofNat (min 99 (a.2.1 l + 1)) := by
        rw [x_s1]
        exact y_bmin _ 99 (by omega) (by omega)
      have e47 : x_I σ3 78 47 = a.2.2.2.2 := by
        show x_I (x_si (x_si σ2 81 (6 * l) _) 81 (6 * l + 5) _) 78 47 = _
        rw [x_Isi, if_neg (by omega), x_Isi, if_neg (by omega), F2 78 47 (by omega)]; exact m3
      have cW : x_I σ2 81 (6 * l) = Int32.ofNat (a.1 l) := (F2 81 _ (by omega)).trans c2
      have sum : Int32.ofNat a.2.2.1 - c + Int32.ofNat (y_tn p (K l) (M l) (E l) (S l) y (a.2.1 l)) = Int32.ofNat (a.2.2.1 + y_tn p (K l) (M l) (E l) (S l) y (a.2.1 l)) - c := by
        rw [Int32.ofNat_add, Int32.sub_eq_add_neg, Int32.sub_eq_add_neg, Int32.add_assoc, Int32.add_comm (-c), ← Int32.add_assoc]
      rw [pre, if_neg cc, a2, x_ci_s, x_k78 hG2, a2t, x_ci_s, x_k78 hG2, x_k78 hG2, x_q78_3 hG2, x_der_s, x_k81 hG2, x_6i0 hl5, x_6n0 hl5, show 6 * l + 0 = 6 * l from rfl, cW, m134, x_ci_s, eW, x_der_s, x_k81 hG2, x_6i0 hl5]
      have hGm : x_G (x_si σ2 81 (6 * l) (Int32.ofNat (min 99999 (a.1 l + (y_zn p (K l) (M l) (E l) (S l) y (a.2.1 l) - y_tn p (K l) (M l) (E l) (S l) y (a.2.1 l)))))) := hG2
      rw [x_k78 hGm, m134, x_ci_s, eU, x_Qsi, x_q78_3 hG2, x_der_s, x_k81 hGm, x_6i5 hl5, x_6n5 hl5, x_k78 hG3, x_k78 hG3, e47, sum]
      refine Eq.trans ?_ a3
      rw [es]
theorem y_yl_T (p : Nat → List Int32) (K M E S : Nat → Int32) (y : Int32) {n l : Nat} (fx : y_fx n M E S) (hl : l < n) (a : y_Y) : (y_yl p K M E S y l a).2.2.1 ≤ a.2.2.1 + 8991 := by
  obtain ⟨mb, eb, sb⟩ := fx l hl
  obtain ⟨-, ⟨-, z2⟩, -, t2⟩ := y_oztn p (k := K l) (m := M l) (y := y) eb sb (a.2.1 l)
  unfold y_yl
  by_cases c : y_on p (K l) (M l) (E l) (S l) y (a.2.1 l) ≤ y_jn a.2.2.2.1 % 100
  · rw [if_pos c]; exact Nat.le_add_right _ _
  · rw [if_neg c]
    show a.2.2.1 + y_tn p (K l) (M l) (E l) (S l) y (a.2.1 l) ≤ a.2.2.1 + 8991
    omega
theorem y_yr_T (p : Nat → List Int32) (K M E S : Nat → Int32) (y : Int32) {n : Nat} (fx : y_fx n M E S) : ∀ q l a, l + q = n → (x_it (y_yl p K M E S y) l q a).2.2.1 ≤ a.2.2.1 + q * 8991
  | 0, l, a, h => by show a.2.2.1 ≤ _; omega
  | q + 1, l, a, h => by
    have h1 := y_yl_T p K M E S y fx (show l < n by omega) a
    have h2 := y_yr_T p K M E S y fx q (l + 1) (y_yl p K M E S y l a) (by omega)
    show (x_it (y_yl p K M E S y) (l + 1) q (y_yl p K M E S y l a)).2.2.1 ≤ _
    omega
theorem y_yr_iv (p : Nat → List Int32) (K M E S : Nat → Int32) (y : Int32) {n : Nat} : ∀ q l a, y_iv n a → y_iv n (x_it (y_yl p K M E S y) l q a)
  | 0, l, a, h => h
  | q + 1, l, a, h => y_yr_iv p K M E S y q (l + 1) _ (y_yl_iv p K M E S y h)
/-- what the lives are at σ -/
theorem y_now {σ : xS} {n t z : Nat} (hP : x_Rp n t z σ) : ∃ (W U : Nat → Nat), (∀ l, l < n → W l ≤ 99999 ∧ U l ≤ 99) ∧ (∀ l, l < n → x_I σ 81 (6 * l) = Int32.ofNat (W l) ∧ x_I σ 81 (6 * l + 5) = Int32.ofNat (U l)) ∧ y_fx n (fun l => x_I σ 80 l) (fun l => x_I σ 81 (6 * l + 1)) (fun l => x_I σ 81 (6 * l + 2)) ∧ (∀ l, l < n → y_rl σ l (x_I σ 79 l) (x_I σ 80 l) (x_I σ 81 (6 * l + 1)) (x_I σ 81 (6 * l + 2)) (Int32.ofNat (U l))) ∧ ∀ l, l < n → y_cl σ (3 + l) (x_I σ 79 l) (x_I σ 80 l) (x_I σ 81 (6 * l + 1)) (x_I σ 81 (6 * l + 2)) (Int32.ofNat (U l)) ∧ x_I σ (3 + l) 2 = Int32.ofNat (W l) := by
  obtain ⟨hn, ht, hz, -, -, -, -, hli, -⟩ := hP
  have key : ∀ l, l < n → x_I σ 81 (6 * l) = Int32.ofNat (x_I σ 81 (6 * l)).toNatClampNeg ∧ (x_I σ 81 (6 * l)).toNatClampNeg ≤ 99999 ∧ x_I σ 81 (6 * l + 5) = Int32.ofNat (x_I σ 81 (6 * l + 5)).toNatClampNeg ∧ (x_I σ 81 (6 * l + 5)).toNatClampNeg ≤ 99 := by
    intro l hl
    obtain ⟨⟨-, b0, -, -, -, -, b5⟩, -⟩ := hli l hl
    obtain ⟨a, ha, ea⟩ := x_bd_of (n := 99999) (by omega) b0 rfl
    obtain ⟨c, hc, ec⟩ := x_bd_of (n := 99) (by omega) b5 rfl
    rw [ea, ec, x_tn (by omega), x_tn (by omega)]
    exact ⟨rfl, ha, rfl, hc⟩
  refine ⟨fun l => (x_I σ 81 (6 * l)).toNatClampNeg, fun l => (x_I σ 81 (6 * l + 5)).toNatClampNeg, fun l hl => ⟨(key l hl).2.1, (key l hl).2.2.2⟩, fun l hl => ⟨(key l hl).1, (key l hl).2.2.1⟩, fun l hl => ?_, fun l hl => ⟨rfl, rfl, rfl, rfl, (key l hl).2.2.1⟩, fun l hl => ?_⟩
  · obtain ⟨⟨-, -, b1, b2, -⟩, ⟨-, ⟨-, mb⟩⟩⟩ := hli l hl
    exact ⟨mb, b1, b2⟩
  · obtain ⟨⟨h6, -⟩, ⟨k0, -⟩, ⟨k1, -⟩⟩ := hli l hl
    exact ⟨⟨k0, k1, h6 1 (by omega), h6 2 (by omega), (h6 5 (by omega)).trans (key l hl).2.2.1⟩, (h6 0 (by omega)).trans (key l hl).1⟩
def y_sl (a u : Nat) : Prop := (3 ≤ a ∧ a < 8 ∧ (u = 2 ∨ u = 7)) ∨ a = 81 ∨ (a = 1 ∧ (u = 2 ∨ u = 3)) ∨ (a = 78 ∧ (u = 4 ∨ u = 5))
theorem y_Rp_live {σ τ : xS} {n t z : Nat} (h : x_Rp n t z σ) (e : ∀ a u, ¬ y_sl a u → x_I τ a u = x_I σ a u) (hnum : x_num τ 1 4 5 6 7 13 t) (hr : ∀ l, l < n → x_row6 τ (3 + l) 81 l n) : x_Rp n t z τ := by
  obtain ⟨hn, ht, hz, ⟨l1, l2⟩, ⟨t1, t2⟩, ⟨z1, z2⟩, -, hli, hb, htx, him, hsh, hw⟩ := h
  have e' : ∀ a u, (8 ≤ a ∧ a ≠ 78 ∧ a ≠ 81) ∨ a = 0 ∨ (a = 1 ∧ u = 1) ∨ (a = 78 ∧ u ≠ 4 ∧ u ≠ 5) ∨ (3 ≤ a ∧ a < 8 ∧ u < 2) → x_I τ a u = x_I σ a u := fun a u h1 => e a u (by unfold y_sl; omega)
  refine ⟨hn, ht, hz, ⟨by rw [e' 78 0 (by omega)]; exact l1, by rw [e' 1 1 (by omega)]; exact l2⟩, ⟨by rw [e' 78 12 (by omega)]; exact t1, by rw [e' 0 7 (by omega)]; exact t2⟩, ⟨by rw [e' 78 9 (by omega)]; exact z1, by rw [e' 22 2 (by omega)]; exact z2⟩, hnum, fun l hl => ⟨hr l hl, ?_⟩, fun k hk => ?_, fun k hk => ?_, ?_, fun s hs => ?_, fun q hq hq2 => ?_⟩
  · obtain ⟨⟨a1, a2⟩, ⟨b1, b2⟩⟩ := (hli l hl).2
    exact ⟨⟨by rw [e' _ _ (by omega), e' 79 _ (by omega)]; exact a1, by rw [e' 79 _ (by omega)]; exact a2⟩, ⟨by rw [e' _ _ (by omega), e' 80 _ (by omega)]; exact b1, by rw [e' 80 _ (by omega)]; exact b2⟩⟩
  · rw [e' 23 _ (by omega), e' 82 _ (by omega)]; exact hb k hk
  · have hc : 29 ≤ x_tc k ∧ x_tc k + 3 < 70 := by
      rcases (show k = 0 ∨ k = 1 ∨ k = 2 ∨ k = 3 ∨ k = 4 ∨ k = 5 by omega) with rfl | rfl | rfl | rfl | rfl | rfl <;> exact ⟨Nat.le_of_ble_eq_true rfl, Nat.le_of_ble_eq_true rfl⟩
    exact x_txt.at (fun u => e' 83 u (by omega)) (fun u => e' 84 u (by omega)) (fun u => e' _ u (by omega)) (fun u => e' _ u (by omega)) (htx k hk)
  · exact x_img.at hn (e' 0 3 (by omega)) (fun u _ _ => e' 78 u (by omega)) (fun u _ _ => e' 8 u (by omega)) (fun l hl u => e' _ u (by omega)) (fun u => e' 85 u (by omega)) (fun l _ => e' 79 l (by omega)) (fun l _ => e' 80 l (by omega)) him
  · exact x_she.at (fun u => e' _ u (by omega)) (fun u => e' _ u (by omega)) (e' 86 s (by omega)) (e' 87 s (by omega)) (fun k _ => e' 88 _ (by omega)) (hsh s hs)
  · rw [e' 90 _ (by omega)]; exact hw q hq hq2
theorem m23 (d : Nat) {σ : xS} (hG : x_G σ) {s : Nat} (hs : s ≤ 200000) : x_run (d + 1) 23 [.inr (.inr (some 44)), .inl (Int32.ofNat s)] σ = some (none, x_sl σ 44 0 (Int64.ofNat (s + 1))) := by
  rw [r23, e23_0, x_k44 hG, x_to64 (by omega), show (1 : Int64) = Int64.ofNat 1 from rfl, ← Int64.ofNat_add]
