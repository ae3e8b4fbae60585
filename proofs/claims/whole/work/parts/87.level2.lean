/-! levels 44, 43, 46 -/
theorem z_emit (d : Nat) {C : Nat → Int32} {z n m p : Nat} {o : List Int32} {σ : xS} (c : Int32) (h : z_CS C z n o m p σ) (hk : (z_tok C z p).2.2.1 ≠ 300) : ∃ σ1 τ, x_run (d + 3) 58 [.inr (.inr (some 24)), .inl (x_enc c)] σ = some (none, σ1) ∧ x_G σ1 ∧ x_run (d + 3) 49 [.inr (.inr (some 22))] σ1 = some (none, τ) ∧ x_fr z_cw x_w0 σ τ ∧ z_CS C z n (o ++ [c]) m (z_tok C z p).2.1 τ := by
  obtain ⟨tp, ⟨c1, c2, c3, c4⟩, h7, h4, ho, hb, hp, hz, hn⟩ := id h
  have hG := tp.1
  have b := z_tok_b C hp
  have b1 := b.2.2.2 hk
  let σa := x_si σ 25 o.length (x_enc c)
  have hGa : x_G σa := hG
  let σ1 := x_si σa 24 4 (Int32.ofNat (o.length + 1))
  have f : x_fr z_cw x_w0 σ σ1 := ((x_fr.refl _ _ σ).si _ (Or.inr (Or.inr rfl))).si _ (Or.inr (Or.inl ⟨rfl, rfl⟩))
  have K : ∀ b u, ¬ (b = 25 ∧ u = o.length) → ¬ (b = 24 ∧ u = 4) → x_I σ1 b u = x_I σ b u := fun b u h1 h2 => (x_Isi _ _ _ _ _ _).trans ((if_neg h2).trans ((x_Isi _ _ _ _ _ _).trans (if_neg h1)))
  obtain ⟨τ, e, f2, g⟩ := z_m49 d hz b.2.1 (tp.cw f) ((K _ _ (by omega) (by omega)).trans c2)
  have F : ∀ b u, ¬ (b = 22 ∧ 3 ≤ u ∧ u ≤ 6) → x_I τ b u = x_I σ1 b u := fun b u hu => f2.I (by unfold z_lx; omega)
  refine ⟨σ1, τ, ?_, hG, e, f.trans (f2.mono (fun b u h => Or.inl ⟨h.1, h.2.1, by have := h.2.2; omega⟩) (fun _ _ h => h)), (tp.cw f).lx f2, g, (F _ _ (by omega)).trans ((K _ _ (by omega) (by omega)).trans h7), ?_, fun j e hj => ?_, by rw [List.length_append]; show o.length + 1 + m ≤ _; omega, b.2.1, hz, hn⟩
  · rw [r58, e58_0, x_k24 hG, x_k24 hG, x_q24_0 hG, h4, m130 (d + 1) hG (a := 25) (n := 160) rfl (by omega) (by omega), x_cv_s, x_k24 hGa, x_k24 hGa, show x_I (x_si σ 25 o.length (x_enc c)) 24 4 = Int32.ofNat o.length from (x_Isi _ _ _ _ _ _).trans ((if_neg (by omega)).trans h4), x_s1]
  · rw [List.length_append]; exact (F _ _ (by omega)).trans ((x_Isi _ _ _ _ _ _).trans (if_pos ⟨rfl, rfl⟩))
  · refine (F _ _ (by omega)).trans ((x_Isi _ _ _ _ _ _).trans ((if_neg (by omega)).trans ((x_Isi _ _ _ _ _ _).trans ?_)))
    rcases Nat.lt_trichotomy j o.length with c1 | c1 | c1
    · rw [if_neg (by omega)]
      rw [List.getElem?_append_left c1] at hj
      exact ho j e hj
    · rw [if_pos ⟨rfl, c1⟩]
      rw [c1, List.getElem?_append_right (Nat.le_refl _), Nat.sub_self] at hj
      cases hj; rfl
    · rw [List.getElem?_append_right (by omega), List.getElem?_eq_none (by simp; omega)] at hj
      cases hj
theorem z_lp44 (D k : Nat) (hs : z_CP (D + 4) 45 6 k) : z_CL (D + 4) 44 5 k [none] := by
  intro C z q
  induction q with
  | zero =>
    intro i w o m p σ hq h hi
    obtain ⟨tp, ⟨c1, c2, c3, c4⟩, h7, h4, ho, hb, hp, hz, hn⟩ := id h
    have pz : p = z := by omega
    subst pz
    have k3 := z_tok_z C p
    refine ⟨σ, p, some w, z_D.fin (Or.inr (Or.inr (Or.inl rfl))) (by rw [k3]; decide), ?_, x_fr.refl _ _ _, fun e => (by cases e), fun w' e => (by cases e; exact ⟨[], (List.append_nil _).symm, by rw [List.append_nil]; exact h⟩)⟩
    show x_f (D + 4) 44 11 [some (.inr (.inr (some 22))), some (.inl (Int32.ofNat i)), none] [] σ = _
    rw [x_feq, e44_11, x_k22 tp.1, c3, k3]
    split
    · rfl
    · rw [if_neg (by decide), x_k22 tp.1, if_neg (by decide)]; rfl
  | succ q ih =>
    intro i w o m p σ hq h hi
    obtain ⟨tp, ⟨c1, c2, c3, c4⟩, h7, h4, ho, hb, hp, hz, hn⟩ := id h
    have kk := z_tok_k C z p
    have kb : (z_tok C z p).2.2.1 < 1000 := by unfold z_knd at kk; omega
    show ∃ τ p' r, _ ∧ x_f (D + 4) 44 11 [some (.inr (.inr (some 22))), some (.inl (Int32.ofNat i)), none] [] σ = _ ∧ _
    have go : ∀ (c ng : Int32), z_op 5 (z_tok C z p).2.2.1 = some c → (z_tok C z p).2.2.1 ≠ 300 → ng = x_enc c → x_f (D + 4) 44 11 [some (.inr (.inr (some 22))), some (.inl (Int32.ofNat i)), none] [] σ = x_f (D + 4) 44 52 [some (.inr (.inr (some 22))), some (.inl (Int32.ofNat i)), none] [.inl ng] σ → ∃ τ p' r, z_D (z_tok C z) 5 true k p w p' r ∧ x_f (D + 4) 44 11 [some (.inr (.inr (some 22))), some (.inl (Int32.ofNat i)), none] [] σ = some (some (.inl (if r = none then 0 else 1)), τ) ∧ x_fr z_cw x_w0 σ τ ∧ (r = none → z_cur (z_tok C z p') τ) ∧ ∀ w', r = some w' → ∃ v, w' = w ++ v ∧ z_CS C z (5 - k) (o ++ v) m p' τ := by
      intro c ng op k3 eng est
      have bt := z_tok_b C hp
      have b1 := bt.2.2.2 k3
      obtain ⟨σ1, e1, f1, g1⟩ := z_adv (D + 1) h k3
      obtain ⟨σ2, p1, r, d2, e2, f2, n2, g2⟩ := hs C z o (m + 1) _ σ1 g1
      have hG1 := g1.1.1
      have hG2 := f2.G hG1
      have pre : ∀ R : Option xR, (x_ci (some (some (.inl (if r = none then 0 else 1)), σ2)) fun x3 σ2 => if x3 = 0 then some (some (.inl 0), σ2) else x_ck σ2 22 6 (x_der (x_Q σ2 22 1) fun a4 => x_ck σ2 a4 7 (x_cv (x_run (D + 4) 58 [.inr (.inr (x_Q σ2 22 1)), .inl ng] σ2) fun σ5 => x_f (D + 4) 44 11 [some (.inr (.inr (some 22))), some (.inl (Int32.ofNat (i + 1))), none] [] σ5))) = R → x_f (D + 4) 44 11 [some (.inr (.inr (some 22))), some (.inl (Int32.ofNat i)), none] [] σ = R := by
        intro R e
        rw [est, x_feq, e44_52, x_k22 tp.1, e1, x_cv_s, x_k22 hG1, e2, x_s1]
        exact e
      cases r with
      | none => exact ⟨σ2, p1, none, z_D.op0 (Or.inr (Or.inr (Or.inl rfl))) op d2, pre _ (by rw [x_ci_s, if_pos rfl, if_pos rfl]), f1.trans f2, n2, fun w' e => (by cases e)⟩
      | some w1 =>
        have g2' := g2 w1 rfl
        obtain ⟨σ3, e3, f3, g3⟩ := z_m58 (D + 2) c g2'
        have le := z_D_le d2 bt.2.1
        obtain ⟨τ, p', r', d4, e4, f4, n4, g4⟩ := ih (i + 1) (w ++ (w1 ++ [c])) _ m p1 σ3 (by omega) g3 (by omega)
        refine ⟨τ, p', r', z_D.op (Or.inr (Or.inr (Or.inl rfl))) op d2 d4, pre _ ?_, ((f1.trans f2).trans f3).trans f4, n4, fun w' e => ?_⟩
        · rw [x_ci_s, z_ret, if_neg (show ¬ (1 : Int32) = 0 by decide), x_k22 hG2, x_q22_1 hG2, x_der_s, x_k24 hG2, eng, e3, x_cv_s]
          exact e4
        · obtain ⟨v, e5, g5⟩ := g4 w' e
          refine ⟨w1 ++ ([c] ++ v), by rw [e5]; simp only [List.append_assoc], ?_⟩
          have e6 : o ++ (w1 ++ ([c] ++ v)) = o ++ w1 ++ [c] ++ v := by simp only [List.append_assoc]
          rw [e6]; exact g5
    have i160 : (z_tok C z p).2.2.1 ≠ 300 → ¬ (160 : Int32) ≤ Int32.ofNat i := fun k3 g => absurd ((x_le (a := 160) (by omega) (by omega)).mp g) (by have := (z_tok_b C hp).2.2.2 k3; have := (z_tok_b C hp).2.1; omega)
    by_cases c : (z_tok C z p).2.2.1 = 43
    · refine go 16 (-15) (by rw [c]; decide) (by omega) (by decide) ?_
      rw [x_feq, e44_11, if_neg (i160 (by omega)), x_k22 tp.1, c3, c, if_pos (show Int32.ofNat 43 = 43 from rfl), x_k22 tp.1, if_pos (show Int32.ofNat 43 = 43 from rfl)]
    · have n43 : ¬ Int32.ofNat (z_tok C z p).2.2.1 = 43 := fun g => c (x_inj32 (b := 43) (by omega) (by omega) g)
      by_cases c' : (z_tok C z p).2.2.1 = 45
      · refine go 17 (-16) (by rw [c']; decide) (by omega) (by decide) ?_
        rw [x_feq, e44_11, if_neg (i160 (by omega)), x_k22 tp.1, c3, if_neg n43, x_k22 tp.1, c', if_pos (show Int32.ofNat 45 = 45 from rfl), x_k22 tp.1, if_neg (by decide)]
      · have no : z_op 5 (z_tok C z p).2.2.1 = none := by
          unfold z_op
          rw [if_neg (fun g => absurd g.1 (by decide)), if_neg (fun g => absurd g.1 (by decide)), if_neg (fun g => c g.2), if_neg (fun g => c' g.2), if_neg (fun g => absurd g.1 (by decide))]
        refine ⟨σ, p, some w, z_D.fin (Or.inr (Or.inr (Or.inl rfl))) no, ?_, x_fr.refl _ _ _, fun e => (by cases e), fun w' e => (by cases e; exact ⟨[], (List.append_nil _).symm, by rw [List.append_nil]; exact h⟩)⟩
        rw [x_feq, e44_11, x_k22 tp.1, c3, if_neg n43, x_k22 tp.1, if_neg (show ¬ Int32.ofNat (z_tok C z p).2.2.1 = 45 from fun g => c' (x_inj32 (b := 45) (by omega) (by omega) g))]
        split <;> rfl
theorem z_lv44 (D k : Nat) (hs : z_CP (D + 4) 45 6 k) : z_CP (D + 5) 44 5 k := by
  intro C z o m p σ h
  have hG := h.1.1
  obtain ⟨σ1, p1, r, d1, e1, f1, n1, g1⟩ := hs C z o m p σ h
  have hG1 := f1.G hG
  have st : ∀ R : Option xR, (x_ci (some (some (.inl (if r = none then 0 else 1)), σ1)) fun x2 σ1 => if x2 = 0 then some (some (.inl 0), σ1) else x_f (D + 4) 44 11 [some (.inr (.inr (some 22))), some (.inl (Int32.ofNat 0)), none] [] σ1) = R → x_run (D + 5) 44 [.inr (.inr (some 22))] σ = R := by
    intro R e
    rw [r44, e44_0, x_k22 hG, e1]
    exact e
  cases r with
  | none => exact ⟨σ1, p1, none, z_D.fst0 (Or.inr (Or.inr (Or.inl rfl))) d1, st _ (by rw [x_ci_s, if_pos rfl, if_pos rfl]), f1, n1, fun w e => (by cases e)⟩
  | some w1 =>
    obtain ⟨τ, p', r', d2, e2, f2, n2, g2⟩ := z_lp44 D k hs C z z 0 w1 (o ++ w1) m p1 σ1 (by omega) (g1 w1 rfl) (Nat.zero_le _)
    refine ⟨τ, p', r', z_D.fst (Or.inr (Or.inr (Or.inl rfl))) d1 d2, st _ ?_, f1.trans f2, n2, fun w e => ?_⟩
    · rw [x_ci_s, z_ret, if_neg (show ¬ (1 : Int32) = 0 by decide)]
      exact e2
    · obtain ⟨v, e3, g3⟩ := g2 w e
      rw [e3, ← List.append_assoc]; exact g3
theorem z_lv43 (D k : Nat) (hk5 : k ≤ 5) (hs : z_CP (D + 4) 44 5 k) (hn : ∀ k', k = k' + 1 → z_CP (D + 4) 43 3 k') : z_CP (D + 5) 43 3 k := by
  intro C z o m p σ h
  obtain ⟨tp, ⟨c1, c2, c3, c4⟩, h7, h4, ho, hb, hp, hz, hn5⟩ := id h
  have hG := tp.1
  have kk := z_tok_k C z p
  have kb : (z_tok C z p).2.2.1 < 1000 := by unfold z_knd at kk; omega
  have one : ¬ (1 : Int32) = 0 := by decide
  have z0 : (0 : Int32) = 0 := rfl
  by_cases c : (z_tok C z p).2.2.1 = 315
  · rcases z_m47 D h (by omega) with ⟨n5, e⟩ | ⟨n5, σ1, e1, f1, g1⟩
    · have k0 : k = 0 := by omega
      subst k0
      refine ⟨σ, p, none, z_D.nt0 c, ?_, x_fr.refl _ _ _, fun _ => ⟨c1, c2, c3, c4⟩, fun w e => (by cases e)⟩
      rw [r43, e43_0, x_k22 hG, c3, c, if_pos (show Int32.ofNat 315 = 315 from rfl), x_k22 hG, e, x_ci_s, if_pos z0, if_pos rfl]
    · obtain ⟨k', rfl⟩ : ∃ k', k = k' + 1 := ⟨k - 1, by omega⟩
      have e5 : 5 - (k' + 1) + 1 = 5 - k' := by omega
      rw [e5] at g1
      have hG1 := g1.1.1
      obtain ⟨σ2, p1, r, d2, e2, f2, n2, g2⟩ := hn k' rfl C z o (m + 1) _ σ1 g1
      have hG2 := f2.G hG1
      cases r with
      | none =>
        refine ⟨σ2, p1, none, z_D.ntE c d2, ?_, f1.trans f2, n2, fun w e => (by cases e)⟩
        rw [r43, e43_0, x_k22 hG, c3, c, if_pos (show Int32.ofNat 315 = 315 from rfl), x_k22 hG, e1, x_ci_s, if_neg one, x_k22 hG1, e2, x_ci_s, if_pos rfl, if_pos z0]
      | some w1 =>
        have g2' := g2 w1 rfl
        rw [← e5] at g2'
        obtain ⟨q1, g3, f3⟩ := z_lessn g2'
        obtain ⟨σ4, e4, f4, g4⟩ := z_m58 (D + 2) 13 g3
        have hG3 := g3.1.1
        refine ⟨σ4, p1, some (w1 ++ [13]), z_D.nt c d2, ?_, ((f1.trans f2).trans f3).trans f4, fun e => (by cases e), fun w e => (by cases e; rw [← List.append_assoc]; exact g4)⟩
        rw [r43, e43_0, x_k22 hG, c3, c, if_pos (show Int32.ofNat 315 = 315 from rfl), x_k22 hG, e1, x_ci_s, if_neg one, x_k22 hG1, e2, x_ci_s, z_ret, if_neg one, x_k22 hG2, x_k22 hG2, q1, x_k22 hG3, x_q22_1 hG3, x_der_s, x_k24 hG3, show (-12 : Int32) = x_enc 13 by decide, e4, x_cv_s, z_ret]
  · have n315 : ¬ Int32.ofNat (z_tok C z p).2.2.1 = 315 := fun g => c (x_inj32 (b := 315) (by omega) (by omega) g)
    obtain ⟨σ1, p1, r, d1, e1, f1, n1, g1⟩ := hs C z o m p σ h
    have hG1 := f1.G hG
    cases r with
    | none =>
      refine ⟨σ1, p1, none, z_D.cmp0 c d1, ?_, f1, n1, fun w e => (by cases e)⟩
      rw [r43, e43_0, x_k22 hG, c3, if_neg n315, x_k22 hG, e1, x_ci_s, if_pos rfl, if_pos z0]
    | some w1 =>
      have g1' := g1 w1 rfl
      obtain ⟨-, ⟨a1, a2, a3, a4⟩, -, -, -, -, hp1, -⟩ := id g1'
      have kk1 := z_tok_k C z p1
      have kb1 : (z_tok C z p1).2.2.1 < 1000 := by unfold z_knd at kk1; omega
      have st : ∀ R : Option xR, (if Int32.ofNat (z_tok C z p1).2.2.1 = 60 then (if Int32.ofNat (z_tok C z p1).2.2.1 = 60 then x_f (D + 4) 43 92 [some (.inr (.inr (some 22))), none] [.inl (-13)] σ1 else x_f (D + 4) 43 92 [some (.inr (.inr (some 22))), none] [.inl (-14)] σ1) else (if Int32.ofNat (z_tok C z p1).2.2.1 = 61 then (if Int32.ofNat (z_tok C z p1).2.2.1 = 60 then x_f (D + 4) 43 92 [some (.inr (.inr (some 22))), none] [.inl (-13)] σ1 else x_f (D + 4) 43 92 [some (.inr (.inr (some 22))), none] [.inl (-14)] σ1) else some (some (.inl 1), σ1))) = R → x_run (D + 5) 43 [.inr (.inr (some 22))] σ = R := by
        intro R e
        rw [r43, e43_0, x_k22 hG, c3, if_neg n315, x_k22 hG, e1, x_ci_s, z_ret, if_neg one, x_k22 hG1, a3, x_k22 hG1, x_k22 hG1]
        exact e
      have go : ∀ (cc ng : Int32), ((z_tok C z p1).2.2.1 = 60 ∨ (z_tok C z p1).2.2.1 = 61) → (if (z_tok C z p1).2.2.1 = 60 then (14 : Int32) else 15) = cc → ng = x_enc cc → x_run (D + 5) 43 [.inr (.inr (some 22))] σ = x_f (D + 4) 43 92 [some (.inr (.inr (some 22))), none] [.inl ng] σ1 → ∃ τ p' r, z_D (z_tok C z) 3 false k p [] p' r ∧ x_run (D + 5) 43 [.inr (.inr (some 22))] σ = some (some (.inl (if r = none then 0 else 1)), τ) ∧ x_fr z_cw x_w0 σ τ ∧ (r = none → z_cur (z_tok C z p') τ) ∧ ∀ w, r = some w → z_CS C z (5 - k) (o ++ w) m p' τ := by
        intro cc ng h6 ec eng est
        obtain ⟨σ2, e2, f2, g2⟩ := z_adv (D + 1) g1' (by omega)
        have hG2 := g2.1.1
        obtain ⟨σ3, p2, r, d3, e3, f3, n3, g3⟩ := hs C z (o ++ w1) (m + 1) _ σ2 g2
        have hG3 := f3.G hG2
        cases r with
        | none =>
          refine ⟨σ3, p2, none, z_D.cmp2 c d1 h6 d3, ?_, (f1.trans f2).trans f3, n3, fun w e => (by cases e)⟩
          rw [est, x_feq, e43_92, x_k22 hG1, e2, x_cv_s, x_k22 hG2, e3, x_ci_s, if_pos rfl, if_pos z0]
        | some w2 =>
          obtain ⟨σ4, e4, f4, g4⟩ := z_m58 (D + 2) cc (g3 w2 rfl)
          have dd := z_D.cmp3 c d1 h6 d3
          rw [ec] at dd
          refine ⟨σ4, p2, _, dd, ?_, ((f1.trans f2).trans f3).trans f4, fun e => (by cases e), fun w e => ?_⟩
          · rw [est, x_feq, e43_92, x_k22 hG1, e2, x_cv_s, x_k22 hG2, e3, x_ci_s, z_ret, if_neg one, x_k22 hG3, x_q22_1 hG3, x_der_s, x_k24 hG3, eng, e4, x_cv_s, z_ret]
          · cases e
            have e6 : o ++ (w1 ++ (w2 ++ [cc])) = o ++ w1 ++ w2 ++ [cc] := by simp only [List.append_assoc]
            rw [e6]; exact g4
      by_cases c60 : (z_tok C z p1).2.2.1 = 60
      · have e60 : Int32.ofNat (z_tok C z p1).2.2.1 = 60 := by rw [c60]; rfl
        exact go 14 (-13) (Or.inl c60) (if_pos c60) (by decide) (st _ (by rw [if_pos e60, if_pos e60]))
      · have n60 : ¬ Int32.ofNat (z_tok C z p1).2.2.1 = 60 := fun g => c60 (x_inj32 (b := 60) (by omega) (by omega) g)
        by_cases c61 : (z_tok C z p1).2.2.1 = 61
        · have e61 : Int32.ofNat (z_tok C z p1).2.2.1 = 61 := by rw [c61]; rfl
          exact go 15 (-14) (Or.inr c61) (if_neg c60) (by decide) (st _ (by rw [if_neg n60, if_pos e61, if_neg n60]))
        · have n61 : ¬ Int32.ofNat (z_tok C z p1).2.2.1 = 61 := fun g => c61 (x_inj32 (b := 61) (by omega) (by omega) g)
          exact ⟨σ1, p1, some w1, z_D.cmp1 c d1 c60 c61, st _ (by rw [if_neg n60, if_neg n61, z_ret]), f1, fun e => (by cases e), g1⟩
