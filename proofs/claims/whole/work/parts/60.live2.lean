/-! live -/
theorem x_op_live (D : Nat) : ∀ (σ : xS) (as : List Int32), as.length = 1 → x_R σ → x_stp (D + 6) x_R false 102 197 as σ := by
  intro σ as hl hR
  match as, hl with
  | [i1], _ =>
    obtain ⟨hG, n, t, z, hP⟩ := id hR
    obtain ⟨hn, ht, hz, ⟨l1, l2⟩, ⟨t1, t2⟩, -, hnum, hli, -⟩ := id hP
    have one : ¬ (1 : Int32) = 0 := by decide
    have fin : ∀ w : Int32, x_run (D + 6) 102 [.inr (.inr (some 0)), .inl i1] σ = some (some (.inl w), σ) → x_run (D + 6) 197 [.inr (.inr (some 78)), .inl i1] σ = some (some (.inl w), σ) → x_stp (D + 6) x_R false 102 197 [i1] σ := fun w e1 e2 => x_op_eq hR (.inl w) ⟨w, rfl⟩ e1 e2
    obtain ⟨⟨y1, yb⟩, ⟨f1n, fb⟩, ⟨g1, gb⟩, ⟨p1, pb⟩, ⟨u1, ub⟩⟩ := id hnum
    obtain ⟨Y, hY, eY⟩ := x_bd_of (n := 99) (by omega) yb rfl
    by_cases c1 : 0 ≤ i1 ∧ i1 ≤ 99999
    · by_cases c2 : Y = 99
      · subst c2
        refine fin (-4) ?_ ?_
        · rw [r102, e102_0, m126, x_ci_s, x_b1_1 c1, if_neg one, x_k0 hG, x_q0_0 hG, x_der_s, x_k1 hG, y1, eY, if_neg (by decide)]
        · rw [r197, e197_0, m133, x_ci_s, x_b1_1 c1, if_neg one, x_k78 hG, eY, if_pos (by decide)]
      · obtain ⟨s, hs, rfl⟩ := x_bd_of (n := 99999) (by omega) c1 rfl
        obtain ⟨F, hF, eF⟩ := x_bd_of (n := 99999) (by omega) fb rfl
        obtain ⟨r, hr, e6, e13, o, p, hv⟩ := x_rule hP
        have hr6 : r < 6 := by omega
        obtain ⟨W, U, wu, wr, fx, rl, cl⟩ := y_now hP
        have lt : Int32.ofNat Y < 99 := Int32.not_le.mp (fun h => absurd ((x_le (a := 99) (by omega) (by omega)).mp h) (by omega))
        have ne : ¬ Int32.ofNat Y = 99 := fun h => absurd (x_inj32 (b := 99) (by omega) (by omega) h) (by omega)
        -- the component
        let σ0 := x_si (x_sl σ 44 0 (Int64.ofNat (s + 1))) 1 7 0
        have f0 : x_fr (y_wy 1) y_vt σ σ0 := ((x_fr.refl (y_wy 1) y_vt σ).sl _ trivial).si _ (Or.inr (Or.inr ⟨rfl, Or.inr rfl⟩))
        have hG0 : x_G σ0 := hG
        have I0 : ∀ b u, ¬ (b = 1 ∧ u = 7) → x_I σ0 b u = x_I σ b u := fun b u h => (x_Isi _ _ _ _ _ _).trans (if_neg h)
        let a : y_Y := (W, U, 0, s + 1, 0)
        have iv : y_iv n a := ⟨wu, by show s + 1 < _; omega⟩
        obtain ⟨σ1, a1, fr1, mc1, k1⟩ := l70 D (w := 1) (Or.inl rfl) hn hr6 fx n 0 a σ0 (by omega) hG0 (hv.wy (Or.inl rfl) hr6 f0) ((I0 1 1 (by omega)).trans l2) (I0 1 2 (by omega)) iv ⟨fun l hl => by
          obtain ⟨c1, c2⟩ := cl l hl
          have q : 1 + 2 + l = 3 + l := by omega
          rw [q]
          exact ⟨⟨(I0 _ _ (by omega)).trans c1.1, (I0 _ _ (by omega)).trans c1.2.1, (I0 _ _ (by omega)).trans c1.2.2.1, (I0 _ _ (by omega)).trans c1.2.2.2.1, (I0 _ _ (by omega)).trans c1.2.2.2.2⟩, (I0 _ _ (by omega)).trans c2⟩, by show x_J (x_sl σ 44 0 (Int64.ofNat (s + 1))) 44 0 = _; rw [x_Jsl, if_pos ⟨rfl, rfl⟩], by show x_I (x_si _ 1 7 0) 1 7 = _; rw [x_Isi, if_pos ⟨rfl, rfl⟩]; rfl⟩
        have f01 := f0.trans fr1
        have hG1 := f01.G hG
        generalize hA : x_it (y_yl p (fun l => x_I σ 79 l) (fun l => x_I σ 80 l) (fun l => x_I σ 81 (6 * l + 1)) (fun l => x_I σ 81 (6 * l + 2)) (x_I σ 1 2)) 0 n a = A at *
        have ivA : y_iv n A := by rw [← hA]; exact y_yr_iv p _ _ _ _ _ n 0 a iv
        have TA : A.2.2.1 ≤ n * 8991 := by
          have := y_yr_T p (fun l => x_I σ 79 l) (fun l => x_I σ 80 l) (fun l => x_I σ 81 (6 * l + 1)) (fun l => x_I σ 81 (6 * l + 2)) (x_I σ 1 2) fx n 0 a (by omega)
          rw [hA] at this
          have z : a.2.2.1 = 0 := rfl
          omega
        have T5 : n * 8991 ≤ 5 * 8991 := Nat.mul_le_mul_right _ hn
        let σ2 := x_si σ1 1 3 (Int32.ofNat (min 99999 (F + A.2.2.1)))
        have hG2 : x_G σ2 := hG1
        have N1 : ∀ b u, (b = 79 ∨ b = 80 ∨ b = 81 ∨ b = 78) → x_I σ2 b u = x_I σ b u := by
          intro b u h
          show x_I (x_si σ1 1 3 _) b u = _
          rw [x_Isi, if_neg (by omega), f01.I (by unfold y_wy x_wt; omega)]
        -- the reference
        let σ3 := x_si (x_sl σ2 78 46 (Int64.ofNat (s + 1))) 78 47 0
        have f3 : x_fr y_wv y_vt σ2 σ3 := ((x_fr.refl y_wv y_vt σ2).sl _ trivial).si _ (Or.inr (Or.inr ⟨rfl, Or.inr rfl⟩))
        have hG3 : x_G σ3 := hG2
        have I3 : ∀ b u, (b = 79 ∨ b = 80 ∨ b = 81 ∨ (b = 78 ∧ u ≠ 47)) → x_I σ3 b u = x_I σ b u := fun b u h => ((x_Isi _ _ _ _ _ _).trans (if_neg (by omega))).trans (N1 b u (by omega))
        have tv3 : x_tv σ3 r o p := by
          have h2 : x_tv σ1 r o p := hv.wy (Or.inl rfl) hr6 f01
          have hc : 29 ≤ x_tc r := by
            rcases (show r = 0 ∨ r = 1 ∨ r = 2 ∨ r = 3 ∨ r = 4 ∨ r = 5 by omega) with rfl | rfl | rfl | rfl | rfl | rfl <;> exact Nat.le_of_ble_eq_true rfl
          exact (x_tv.at (τ := σ2) (fun u => (x_Isi _ _ _ _ _ _).trans (if_neg (by omega))) (fun u => (x_Isi _ _ _ _ _ _).trans (if_neg (by omega))) (fun u => (x_Isi _ _ _ _ _ _).trans (if_neg (by omega))) (fun u => (x_Isi _ _ _ _ _ _).trans (if_neg (by omega))) h2).wv hr6 f3
        obtain ⟨σ4, a4, fr4, mr4, k4⟩ := l196 D hn hr6 fx (y := x_I σ 1 2) 0 n 0 a σ3 (by omega) hG3 tv3 ((I3 78 13 (by omega)).trans e13) ((I3 78 0 (by omega)).trans l1) ((I3 78 4 (by omega)).trans y1.symm) iv ⟨fun l hl => by
          obtain ⟨c1, c2, c3, c4, c5⟩ := rl l hl
          exact ⟨⟨(I3 79 _ (by omega)).trans c1, (I3 80 _ (by omega)).trans c2, (I3 81 _ (by omega)).trans c3, (I3 81 _ (by omega)).trans c4, (I3 81 _ (by omega)).trans c5⟩, (I3 81 _ (by omega)).trans (wr l hl).1⟩, by show x_J (x_sl σ2 78 46 (Int64.ofNat (s + 1))) 78 46 = _; rw [x_Jsl, if_pos ⟨rfl, rfl⟩], by show x_I (x_si _ 78 47 0) 78 47 = _; rw [x_Isi, if_pos ⟨rfl, rfl⟩]⟩
        rw [hA] at a4 mr4
        have f34 := f3.trans fr4
        have hG4 := f34.G hG2
        let τ := x_si σ4 78 5 (Int32.ofNat (min 99999 (F + A.2.2.1)))
        have F2 : x_fr (fun b u => y_wy 1 b u ∨ (b = 1 ∧ u = 3)) y_vt σ σ2 := (f01.mono (fun _ _ h => Or.inl h) (fun _ _ h => h)).si _ (Or.inr ⟨rfl, rfl⟩)
        have Ft : x_fr (fun b u => y_wv b u ∨ (b = 78 ∧ u = 5)) y_vt σ2 τ := (f34.mono (fun _ _ h => Or.inl h) (fun _ _ h => h)).si _ (Or.inr ⟨rfl, rfl⟩)
        have FT : x_fr (fun b u => x_wt b u ∨ (b = 1 ∧ u = 7) ∨ (b = 78 ∧ u = 47) ∨ y_sl b u) y_vt σ τ := (F2.mono (fun b u h => by
          rcases h with (h | h | h) | h
          · exact Or.inl h
          · exact Or.inr (Or.inr (Or.inr (by unfold y_sl; omega)))
          · by_cases c : u = 7
            · exact Or.inr (Or.inl ⟨h.1, c⟩)
            · exact Or.inr (Or.inr (Or.inr (by unfold y_sl; omega)))
          · exact Or.inr (Or.inr (Or.inr (by unfold y_sl; omega)))) (fun _ _ h => h)).trans (Ft.mono (fun b u h => by
          rcases h with (h | h | h) | h
          · exact Or.inl h
          · exact Or.inr (Or.inr (Or.inr (by unfold y_sl; omega)))
          · by_cases c : u = 47
            · exact Or.inr (Or.inr (Or.inl ⟨h.1, c⟩))
            · exact Or.inr (Or.inr (Or.inr (by unfold y_sl; omega)))
          · exact Or.inr (Or.inr (Or.inr (by unfold y_sl; omega)))) (fun _ _ h => h))
        refine ⟨.inl A.2.2.2.2, σ2, τ, ⟨_, rfl⟩, ?_, hG2.1, ?_, ?_⟩
        · show x_run (D + 6) 102 [.inr (.inr (some 0)), .inl (Int32.ofNat s)] σ = _
          have a1' : x_run (D + 5) 70 [.inr (.inr (some 1)), .inr (.inr (some 44)), .inr (.inr (some (x_tc r)))] σ0 = some (some (.inl A.2.2.2.2), σ1) := by
            rw [r70, e70_0]
            exact a1
          have c71 : x_I σ1 1 7 = Int32.ofNat A.2.2.1 := mc1.2.2
          have c73 : x_I σ1 1 3 = Int32.ofNat F := (f01.I (by unfold y_wy x_wt; omega)).trans (f1n.trans eF)
          have hGa : x_G (x_sl σ 44 0 (Int64.ofNat (s + 1))) := hG
          have h120 := m120 (D + 3) hG0 ht.2 hr ((I0 0 7 (by omega)).trans t2) ((I0 1 6 (by omega)).trans e6)
          rw [r102, e102_0, m126, x_ci_s, x_b1_1 c1, if_neg one, x_k0 hG, x_q0_0 hG, x_der_s, x_k1 hG, y1, eY, if_pos lt, x_k0 hG, x_q0_13 hG, x_der_s, x_k44 hG, m23 _ hG (by omega), x_cv_s, x_k0 hGa, x_q0_0 hGa, x_der_s, x_k1 hGa, x_k0 hG0, x_k0 hG0, x_k0 hG0, h120, x_cr_s, x_Qsi, x_q0_0 hGa, x_der_s, x_k1 hG0, x_Qsi, x_q0_13 hGa, a1', x_ci_s, x_k0 hG1, x_k0 hG1, x_q0_0 hG1, x_der_s, x_k1 hG1, x_k0 hG1, x_der_s, x_k1 hG1, x_der_s, x_k1 hG1, c73, c71, ← Int32.ofNat_add, show (99999 : Int32) = Int32.ofNat 99999 from rfl, y_min _ 99999 (by omega) (by omega)]
        · show x_run (D + 6) 197 [.inr (.inr (some 78)), .inl (Int32.ofNat s)] σ2 = _
          have hGb : x_G (x_sl σ2 78 46 (Int64.ofNat (s + 1))) := hG2
          have a4' : x_run (D + 5) 196 [.inr (.inr (some 78))] (x_sl σ2 78 46 (Int64.ofNat (s + 1))) = some (some (.inl (Int32.ofNat A.2.2.1)), σ4) := by
            rw [r196, e196_0, x_k78 hGb]
            simp only [Int32.sub_zero] at a4
            exact a4
          rw [r197, e197_0, m133, x_ci_s, x_b1_1 c1, if_neg one, x_k78 hG2, N1 78 4 (by omega), eY, if_neg ne, x_k78 hG2, x_to64 (by omega), show Int64.ofNat s + 1 = Int64.ofNat (s + 1) from (Int64.ofNat_add s 1).symm, x_k78 hGb, x_k78 hGb, a4', x_ci_s, show x_I (x_sl σ2 78 46 (Int64.ofNat (s + 1))) 78 5 = Int32.ofNat F from (N1 78 5 (by omega)).trans eF, ← Int32.ofNat_add, m134, x_ci_s, show (99999 : Int32) = Int32.ofNat 99999 from rfl, y_bmin _ 99999 (by omega) (by omega), x_k78 hG4, x_k78 (σ := x_si σ4 78 5 (Int32.ofNat (min 99999 (F + A.2.2.1)))) hG4]
          rw [show x_I (x_si σ4 78 5 (Int32.ofNat (min 99999 (F + A.2.2.1)))) 78 47 = A.2.2.2.2 from ((x_Isi _ _ _ _ _ _).trans (if_neg (by omega))).trans mr4.2.2]
        · have IS : ∀ b u, y_sl b u → x_I (y_mrg y_sl σ τ) b u = x_I τ b u := fun b u h => y_mrg_1 h
          have t4 : x_I τ 78 4 = x_I σ 1 2 + 1 := ((x_Isi _ _ _ _ _ _).trans (if_neg (by omega))).trans k4
          have t5 : x_I τ 78 5 = Int32.ofNat (min 99999 (F + A.2.2.1)) := (x_Isi _ _ _ _ _ _).trans (if_pos ⟨rfl, rfl⟩)
          have back : ∀ b u, b < 31 → x_I τ b u = x_I σ2 b u := fun b u h => Ft.I (by unfold y_wv x_wt; omega)
          have t12 : x_I τ 1 2 = x_I σ 1 2 + 1 := (back 1 2 (by omega)).trans (((x_Isi _ _ _ _ _ _).trans (if_neg (by omega))).trans k1)
          have t13 : x_I τ 1 3 = Int32.ofNat (min 99999 (F + A.2.2.1)) := (back 1 3 (by omega)).trans ((x_Isi _ _ _ _ _ _).trans (if_pos ⟨rfl, rfl⟩))
          refine y_mrg_R (S := y_sl) (n := n) (t := t) (z := z) hG FT (fun b u per w => ?_) (y_Rp_live hP (fun b u h => y_mrg_0 h) ?_ (fun l hl => ?_))
          · rcases w with w | ⟨rfl, rfl⟩ | ⟨rfl, rfl⟩ | w
            · exact absurd w (x_wt_per b u per)
            · cases per
            · cases per
            · exact w
          · have z : ∀ b u, ¬ y_sl b u → x_I (y_mrg y_sl σ τ) b u = x_I σ b u := fun b u h => y_mrg_0 h
            refine ⟨⟨?_, ?_⟩, ⟨?_, ?_⟩, ?_⟩
            · rw [IS 1 2 (by unfold y_sl; omega), IS 78 4 (by unfold y_sl; omega), t12, t4]
            · rw [IS 78 4 (by unfold y_sl; omega), t4, y1, eY, x_s1]
              exact x_bd_k (n := 99) (by omega) (by omega)
            · rw [IS 1 3 (by unfold y_sl; omega), IS 78 5 (by unfold y_sl; omega), t13, t5]
            · rw [IS 78 5 (by unfold y_sl; omega), t5]
              exact x_bd_k (n := 99999) (by omega) (by omega)
            · rw [z 1 4 (by unfold y_sl; omega), z 78 6 (by unfold y_sl; omega), z 1 5 (by unfold y_sl; omega), z 78 7 (by unfold y_sl; omega), z 1 6 (by unfold y_sl; omega), z 78 13 (by unfold y_sl; omega)]
              exact ⟨⟨g1, gb⟩, ⟨p1, pb⟩, ⟨u1, ub⟩⟩
          · obtain ⟨r1, r2⟩ := x_row6_iff.mp (hli l hl).1
            obtain ⟨cA, cW⟩ := mc1.1 l hl
            obtain ⟨rA, rW⟩ := mr4.1 l hl
            have q : 1 + 2 + l = 3 + l := by omega
            rw [q] at cA cW
            have tc : ∀ u, x_I τ (3 + l) u = x_I σ1 (3 + l) u := fun u => (back _ u (by omega)).trans ((x_Isi _ _ _ _ _ _).trans (if_neg (by omega)))
            have tr : ∀ u, x_I τ 81 u = x_I σ4 81 u := fun u => (x_Isi _ _ _ _ _ _).trans (if_neg (by omega))
            have sc : ∀ u, u ≠ 2 → u ≠ 7 → x_I τ (3 + l) u = x_I σ (3 + l) u := fun u h1 h2 => (tc u).trans (f01.I (by unfold y_wy x_wt; omega))
            have sr : ∀ k, 1 ≤ k → k ≤ 4 → x_I τ 81 (6 * l + k) = x_I σ 81 (6 * l + k) := fun k h1 h2 => (tr _).trans ((fr4.I (by unfold y_wv x_wt; omega)).trans (I3 81 _ (by omega)))
            have S1 : ∀ u, x_I (y_mrg y_sl σ τ) 81 u = x_I τ 81 u := fun u => IS 81 u (by unfold y_sl; omega)
            have S3 : ∀ u, x_I (y_mrg y_sl σ τ) (3 + l) u = x_I τ (3 + l) u := by
              intro u
              by_cases c : u = 2 ∨ u = 7
              · exact IS _ _ (by unfold y_sl; omega)
              · rw [show x_I (y_mrg y_sl σ τ) (3 + l) u = x_I σ (3 + l) u from y_mrg_0 (by unfold y_sl; omega)]
                exact (sc u (by omega) (by omega)).symm
            refine x_row6_iff.mpr ⟨fun k hk => ?_, fun k hk => ?_⟩
            · rw [S3, S1]
              rcases (show k = 0 ∨ k = 5 ∨ (1 ≤ k ∧ k ≤ 4) by omega) with rfl | rfl | ⟨h1, h2⟩
              · exact (tc 2).trans (cW.trans (rW.symm.trans (tr _).symm))
              · exact (tc 7).trans (cA.2.2.2.2.trans (rA.2.2.2.2.symm.trans (tr _).symm))
              · rw [sc _ (by omega) (by omega), sr k h1 h2]; exact r1 k hk
            · rw [S1]
              rcases (show k = 0 ∨ k = 5 ∨ (1 ≤ k ∧ k ≤ 4) by omega) with rfl | rfl | ⟨h1, h2⟩
              · have e : x_I τ 81 (6 * l + 0) = Int32.ofNat (A.1 l) := (tr _).trans rW
                rw [e]
                exact (show x_bd (Int32.ofNat (A.1 l)) 0 99999 from x_bd_k (n := 99999) (ivA.1 l hl).1 (by omega))
              · have e : x_I τ 81 (6 * l + 5) = Int32.ofNat (A.2.1 l) := (tr _).trans rA.2.2.2.2
                rw [e]
                exact (show x_bd (Int32.ofNat (A.2.1 l)) 0 99 from x_bd_k (n := 99) (ivA.1 l hl).2 (by omega))
              · rw [sr k h1 h2]; exact r2 k hk
    · refine fin (-2) ?_ ?_
      · rw [r102, e102_0, m126, x_ci_s, x_b1_0 c1, if_pos rfl]
      · rw [r197, e197_0, m133, x_ci_s, x_b1_0 c1, if_pos rfl]
