/-! the component's descent: levels -/
theorem z_D_le {C : Nat → Int32} {z L k p p' : Nat} {lp : Bool} {w : List Int32} {r : Option (List Int32)} (h : z_D (z_tok C z) L lp k p w p' r) : p ≤ z → p ≤ p' ∧ p' ≤ z := by
  have b := fun {q : Nat} (hq : q ≤ z) => z_tok_b C hq
  induction h using z_D_ind with
  | num _ => intro hp; have := b hp; omega
  | name _ => intro hp; have := b hp; omega
  | neg _ _ ih => intro hp; have h1 := b hp; have := ih h1.2.1; omega
  | negE _ _ ih => intro hp; have h1 := b hp; have := ih h1.2.1; omega
  | neg0 _ => intro hp; omega
  | par _ _ _ ih => intro hp; have h1 := b hp; have h2 := ih h1.2.1; have h3 := b h2.2; omega
  | parE _ _ ih => intro hp; have h1 := b hp; have := ih h1.2.1; omega
  | parX _ _ _ ih => intro hp; have h1 := b hp; have := ih h1.2.1; omega
  | par0 _ => intro hp; omega
  | bad _ _ _ _ => intro hp; omega
  | fst0 _ _ ih => exact ih
  | fst _ _ _ ih1 ih2 => intro hp; have h1 := ih1 hp; have h2 := ih2 h1.2; omega
  | fin _ _ => intro hp; omega
  | op0 _ _ _ ih => intro hp; have h1 := b hp; have := ih h1.2.1; omega
  | op _ _ _ _ ih1 ih2 => intro hp; have h1 := b hp; have h2 := ih1 h1.2.1; have h3 := ih2 h2.2; omega
  | nt _ _ ih => intro hp; have h1 := b hp; have := ih h1.2.1; omega
  | ntE _ _ ih => intro hp; have h1 := b hp; have := ih h1.2.1; omega
  | nt0 _ => intro hp; omega
  | cmp0 _ _ ih => exact ih
  | cmp1 _ _ _ _ ih => exact ih
  | cmp2 _ _ _ _ ih1 ih2 => intro hp; have h1 := ih1 hp; have h2 := b h1.2; have h3 := ih2 h2.2.1; omega
  | cmp3 _ _ _ _ ih1 ih2 => intro hp; have h1 := ih1 hp; have h2 := b h1.2; have h3 := ih2 h2.2.1; omega
theorem z_tok_z (C : Nat → Int32) (z : Nat) : (z_tok C z z).2.2.1 = 300 := by
  unfold z_tok
  rw [Nat.sub_self, if_pos (show z_rn z_spc C 0 z = z from rfl)]
theorem z_nu_b (C : Nat → Int32) : ∀ q p v, q ≤ 4 → v < 10 ^ (4 - q) → (∀ i, i < q → z_dig (C (p + i)) = true) → ∃ v', z_nu C q p (Int32.ofNat v) = Int32.ofNat v' ∧ v' < 10000
  | 0, p, v, hq, hv, hd => ⟨v, rfl, hv⟩
  | q + 1, p, v, hq, hv, hd => by
    have h0 := hd 0 (by omega)
    rw [Nat.add_zero] at h0
    unfold z_dig at h0
    simp only [Bool.and_eq_true, decide_eq_true_eq] at h0
    obtain ⟨c, hc, ec⟩ := x_bd_of (v := C p) (hi := 57) (n := 57) (by omega) ⟨Int32.le_trans (by decide) h0.1, h0.2⟩ rfl
    rw [ec] at h0
    have c48 := (x_le (a := 48) (by omega) (by omega)).mp h0.1
    have e10 : 10 ^ (4 - q) = 10 ^ (4 - (q + 1)) * 10 := by
      rw [← Nat.pow_succ]
      congr 1
      omega
    have hv2 : v < 10000 := by
      have : 10 ^ (4 - (q + 1)) ≤ 10 ^ 4 := Nat.pow_le_pow_right (by omega) (by omega)
      omega
    have st : Int32.ofNat v * 10 + C p - 48 = Int32.ofNat (v * 10 + (c - 48)) := by
      rw [ec, show (10 : Int32) = Int32.ofNat 10 from rfl, ← Int32.ofNat_mul, ← Int32.ofNat_add, show (48 : Int32) = Int32.ofNat 48 from rfl, x_sb (by omega) (by omega), show v * 10 + c - 48 = v * 10 + (c - 48) by omega]
    show ∃ v', z_nu C q (p + 1) (Int32.ofNat v * 10 + C p - 48) = Int32.ofNat v' ∧ v' < 10000
    rw [st]
    exact z_nu_b C q (p + 1) _ (by omega) (by omega) (fun i hi => by have := hd (i + 1) (by omega); rw [show p + 1 + i = p + (i + 1) by omega]; exact this)
theorem z_tok_v (C : Nat → Int32) (z p : Nat) : (z_tok C z p).2.2.1 = 302 → ∃ v, (z_tok C z p).2.2.2 = Int32.ofNat v ∧ v < 10000 := by
  unfold z_tok
  generalize z_rn z_spc C (z - p) p = s
  by_cases c0 : s = z
  · rw [if_pos c0]; intro h; exact absurd h (by show ¬ (300 = 302); decide)
  · rw [if_neg c0]
    by_cases c1 : z_let (C s) = true
    · rw [if_pos c1]
      intro h
      have h' : z_kw (z_wl C s (z_rn z_let C (z - s) s - s)) = 302 := h
      have := z_kw_c (z_wl C s (z_rn z_let C (z - s) s - s))
      omega
    · rw [if_neg c1]
      by_cases c2 : z_dig (C s) = true
      · rw [if_pos c2]
        intro h
        have h' : (if z_rn z_dig C (z - s) s - s ≤ 4 then 302 else 301) = 302 := h
        by_cases c4 : z_rn z_dig C (z - s) s - s ≤ 4
        · exact z_nu_b C _ s 0 c4 (Nat.pow_pos (by omega)) (fun i hi => z_rn_all z_dig C (z - s) s (s + i) (by omega) (by omega))
        · rw [if_neg c4] at h'; omega
      · rw [if_neg c2]
        intro h
        have h' : (if z_pun (C s) = true then (C s).toNatClampNeg else 301) = 302 := h
        by_cases c3 : z_pun (C s) = true
        · rw [if_pos c3] at h'
          have := z_pn c3
          rw [h'] at this
          rw [← this] at c3
          exact absurd c3 (by decide)
        · rw [if_neg c3] at h'; omega
theorem z_ret (w : List Int32) : (if some w = none then (0 : Int32) else 1) = 1 := if_neg (fun e => by cases e)
/-- a loop's promise -/
def z_CL (D j L k : Nat) (tl : List (Option xV)) : Prop := ∀ (C : Nat → Int32) (z q i : Nat) (w o : List Int32) (m p : Nat) (σ : xS), z ≤ p + q → z_CS C z (5 - k) o m p σ → i ≤ p → ∃ τ p' r, z_D (z_tok C z) L true k p w p' r ∧ x_f D j 11 ([some (.inr (.inr (some 22))), some (.inl (Int32.ofNat i))] ++ tl) [] σ = some (some (.inl (if r = none then 0 else 1)), τ) ∧ x_fr z_cw x_w0 σ τ ∧ (r = none → z_cur (z_tok C z p') τ) ∧ ∀ w', r = some w' → ∃ v, w' = w ++ v ∧ z_CS C z (5 - k) (o ++ v) m p' τ
theorem z_lp41 (D k : Nat) (hs : z_CP (D + 4) 42 2 k) : z_CL (D + 4) 41 1 k [] := by
  intro C z q
  induction q with
  | zero =>
    intro i w o m p σ hq h hi
    obtain ⟨tp, ⟨c1, c2, c3, c4⟩, h7, h4, ho, hb, hp, hz, hn⟩ := id h
    have pz : p = z := by omega
    subst pz
    have k3 := z_tok_z C p
    refine ⟨σ, p, some w, z_D.fin (Or.inl rfl) (by rw [k3]; decide), ?_, x_fr.refl _ _ _, fun e => (by cases e), fun w' e => (by cases e; exact ⟨[], (List.append_nil _).symm, by rw [List.append_nil]; exact h⟩)⟩
    show x_f (D + 4) 41 11 [some (.inr (.inr (some 22))), some (.inl (Int32.ofNat i))] [] σ = _
    rw [x_feq, e41_11, x_k22 tp.1, c3, k3]
    split
    · rfl
    · rw [if_neg (by decide)]; rfl
  | succ q ih =>
    intro i w o m p σ hq h hi
    obtain ⟨tp, ⟨c1, c2, c3, c4⟩, h7, h4, ho, hb, hp, hz, hn⟩ := id h
    have kk := z_tok_k C z p
    have kb : (z_tok C z p).2.2.1 < 1000 := by unfold z_knd at kk; omega
    show ∃ τ p' r, _ ∧ x_f (D + 4) 41 11 [some (.inr (.inr (some 22))), some (.inl (Int32.ofNat i))] [] σ = _ ∧ _
    by_cases c : (z_tok C z p).2.2.1 = 313
    · have bt := z_tok_b C hp
      have b1 := bt.2.2.2 (by omega)
      have i160 : ¬ (160 : Int32) ≤ Int32.ofNat i := fun g => absurd ((x_le (a := 160) (by omega) (by omega)).mp g) (by omega)
      obtain ⟨σ1, e1, f1, g1⟩ := z_adv (D + 1) h (by omega)
      obtain ⟨σ2, p1, r, d2, e2, f2, n2, g2⟩ := hs C z o (m + 1) _ σ1 g1
      have hG1 := g1.1.1
      have hG2 := f2.G hG1
      have op : z_op 1 (z_tok C z p).2.2.1 = some 11 := by rw [c]; decide
      have pre : ∀ R : Option xR, (x_ci (some (some (.inl (if r = none then 0 else 1)), σ2)) fun x3 σ2 => if x3 = 0 then some (some (.inl 0), σ2) else x_ck σ2 22 6 (x_der (x_Q σ2 22 1) fun a4 => x_ck σ2 a4 7 (x_cv (x_run (D + 4) 58 [.inr (.inr (x_Q σ2 22 1)), .inl (-10)] σ2) fun σ5 => x_f (D + 4) 41 11 [some (.inr (.inr (some 22))), some (.inl (Int32.ofNat (i + 1)))] [] σ5))) = R → x_f (D + 4) 41 11 [some (.inr (.inr (some 22))), some (.inl (Int32.ofNat i))] [] σ = R := by
        intro R e
        rw [x_feq, e41_11, if_neg i160, x_k22 tp.1, c3, c, if_pos (show Int32.ofNat 313 = 313 from rfl), x_k22 tp.1, e1, x_cv_s, x_k22 hG1, e2, x_s1]
        exact e
      cases r with
      | none => exact ⟨σ2, p1, none, z_D.op0 (Or.inl rfl) op d2, pre _ (by rw [x_ci_s, if_pos rfl, if_pos rfl]), f1.trans f2, n2, fun w' e => by cases e⟩
      | some w1 =>
        have g2' := g2 w1 rfl
        obtain ⟨σ3, e3, f3, g3⟩ := z_m58 (D + 2) 11 g2'
        have le := z_D_le d2 bt.2.1
        obtain ⟨τ, p', r', d4, e4, f4, n4, g4⟩ := ih (i + 1) (w ++ (w1 ++ [11])) _ m p1 σ3 (by omega) g3 (by omega)
        refine ⟨τ, p', r', z_D.op (Or.inl rfl) op d2 d4, pre _ ?_, ((f1.trans f2).trans f3).trans f4, n4, fun w' e => ?_⟩
        · rw [x_ci_s, z_ret, if_neg (show ¬ (1 : Int32) = 0 by decide), x_k22 hG2, x_q22_1 hG2, x_der_s, x_k24 hG2, show (-10 : Int32) = x_enc 11 by decide, e3, x_cv_s]
          exact e4
        · obtain ⟨v, e5, g5⟩ := g4 w' e
          refine ⟨w1 ++ ([11] ++ v), by rw [e5]; simp only [List.append_assoc], ?_⟩
          have e6 : o ++ (w1 ++ ([11] ++ v)) = o ++ w1 ++ [11] ++ v := by simp only [List.append_assoc]
          rw [e6]; exact g5
    · have no : z_op 1 (z_tok C z p).2.2.1 = none := by
        unfold z_op
        rw [if_neg (fun g => c g.2), if_neg (fun g => absurd g.1 (by decide)), if_neg (fun g => absurd g.1 (by decide)), if_neg (fun g => absurd g.1 (by decide)), if_neg (fun g => absurd g.1 (by decide))]
      refine ⟨σ, p, some w, z_D.fin (Or.inl rfl) no, ?_, x_fr.refl _ _ _, fun e => (by cases e), fun w' e => (by cases e; exact ⟨[], (List.append_nil _).symm, by rw [List.append_nil]; exact h⟩)⟩
      rw [x_feq, e41_11, x_k22 tp.1, c3, if_neg (show ¬ Int32.ofNat (z_tok C z p).2.2.1 = 313 from fun g => c (x_inj32 (b := 313) (by omega) (by omega) g))]
      split <;> rfl
theorem z_lv41 (D k : Nat) (hs : z_CP (D + 4) 42 2 k) : z_CP (D + 5) 41 1 k := by
  intro C z o m p σ h
  have hG := h.1.1
  obtain ⟨σ1, p1, r, d1, e1, f1, n1, g1⟩ := hs C z o m p σ h
  have hG1 := f1.G hG
  have st : ∀ R : Option xR, (x_ci (some (some (.inl (if r = none then 0 else 1)), σ1)) fun x2 σ1 => if x2 = 0 then some (some (.inl 0), σ1) else x_f (D + 4) 41 11 [some (.inr (.inr (some 22))), some (.inl (Int32.ofNat 0))] [] σ1) = R → x_run (D + 5) 41 [.inr (.inr (some 22))] σ = R := by
    intro R e
    rw [r41, e41_0, x_k22 hG, e1]
    exact e
  cases r with
  | none => exact ⟨σ1, p1, none, z_D.fst0 (Or.inl rfl) d1, st _ (by rw [x_ci_s, if_pos rfl, if_pos rfl]), f1, n1, fun w e => by cases e⟩
  | some w1 =>
    obtain ⟨τ, p', r', d2, e2, f2, n2, g2⟩ := z_lp41 D k hs C z z 0 w1 (o ++ w1) m p1 σ1 (by omega) (g1 w1 rfl) (Nat.zero_le _)
    refine ⟨τ, p', r', z_D.fst (Or.inl rfl) d1 d2, st _ ?_, f1.trans f2, n2, fun w e => ?_⟩
    · rw [x_ci_s, z_ret, if_neg (show ¬ (1 : Int32) = 0 by decide)]
      exact e2
    · obtain ⟨v, e3, g3⟩ := g2 w e
      rw [e3, ← List.append_assoc]; exact g3
theorem z_lp42 (D k : Nat) (hs : z_CP (D + 4) 43 3 k) : z_CL (D + 4) 42 2 k [] := by
  intro C z q
  induction q with
  | zero =>
    intro i w o m p σ hq h hi
    obtain ⟨tp, ⟨c1, c2, c3, c4⟩, h7, h4, ho, hb, hp, hz, hn⟩ := id h
    have pz : p = z := by omega
    subst pz
    have k3 := z_tok_z C p
    refine ⟨σ, p, some w, z_D.fin (Or.inr (Or.inl rfl)) (by rw [k3]; decide), ?_, x_fr.refl _ _ _, fun e => (by cases e), fun w' e => (by cases e; exact ⟨[], (List.append_nil _).symm, by rw [List.append_nil]; exact h⟩)⟩
    show x_f (D + 4) 42 11 [some (.inr (.inr (some 22))), some (.inl (Int32.ofNat i))] [] σ = _
    rw [x_feq, e42_11, x_k22 tp.1, c3, k3]
    split
    · rfl
    · rw [if_neg (by decide)]; rfl
  | succ q ih =>
    intro i w o m p σ hq h hi
    obtain ⟨tp, ⟨c1, c2, c3, c4⟩, h7, h4, ho, hb, hp, hz, hn⟩ := id h
    have kk := z_tok_k C z p
    have kb : (z_tok C z p).2.2.1 < 1000 := by unfold z_knd at kk; omega
    show ∃ τ p' r, _ ∧ x_f (D + 4) 42 11 [some (.inr (.inr (some 22))), some (.inl (Int32.ofNat i))] [] σ = _ ∧ _
    by_cases c : (z_tok C z p).2.2.1 = 314
    · have bt := z_tok_b C hp
      have b1 := bt.2.2.2 (by omega)
      have i160 : ¬ (160 : Int32) ≤ Int32.ofNat i := fun g => absurd ((x_le (a := 160) (by omega) (by omega)).mp g) (by omega)
      obtain ⟨σ1, e1, f1, g1⟩ := z_adv (D + 1) h (by omega)
      obtain ⟨σ2, p1, r, d2, e2, f2, n2, g2⟩ := hs C z o (m + 1) _ σ1 g1
      have hG1 := g1.1.1
      have hG2 := f2.G hG1
      have op : z_op 2 (z_tok C z p).2.2.1 = some 12 := by rw [c]; decide
      have pre : ∀ R : Option xR, (x_ci (some (some (.inl (if r = none then 0 else 1)), σ2)) fun x3 σ2 => if x3 = 0 then some (some (.inl 0), σ2) else x_ck σ2 22 6 (x_der (x_Q σ2 22 1) fun a4 => x_ck σ2 a4 7 (x_cv (x_run (D + 4) 58 [.inr (.inr (x_Q σ2 22 1)), .inl (-11)] σ2) fun σ5 => x_f (D + 4) 42 11 [some (.inr (.inr (some 22))), some (.inl (Int32.ofNat (i + 1)))] [] σ5))) = R → x_f (D + 4) 42 11 [some (.inr (.inr (some 22))), some (.inl (Int32.ofNat i))] [] σ = R := by
        intro R e
        rw [x_feq, e42_11, if_neg i160, x_k22 tp.1, c3, c, if_pos (show Int32.ofNat 314 = 314 from rfl), x_k22 tp.1, e1, x_cv_s, x_k22 hG1, e2, x_s1]
        exact e
      cases r with
      | none => exact ⟨σ2, p1, none, z_D.op0 (Or.inr (Or.inl rfl)) op d2, pre _ (by rw [x_ci_s, if_pos rfl, if_pos rfl]), f1.trans f2, n2, fun w' e => by cases e⟩
      | some w1 =>
        have g2' := g2 w1 rfl
        obtain ⟨σ3, e3, f3, g3⟩ := z_m58 (D + 2) 12 g2'
        have le := z_D_le d2 bt.2.1
        obtain ⟨τ, p', r', d4, e4, f4, n4, g4⟩ := ih (i + 1) (w ++ (w1 ++ [12])) _ m p1 σ3 (by omega) g3 (by omega)
        refine ⟨τ, p', r', z_D.op (Or.inr (Or.inl rfl)) op d2 d4, pre _ ?_, ((f1.trans f2).trans f3).trans f4, n4, fun w' e => ?_⟩
        · rw [x_ci_s, z_ret, if_neg (show ¬ (1 : Int32) = 0 by decide), x_k22 hG2, x_q22_1 hG2, x_der_s, x_k24 hG2, show (-11 : Int32) = x_enc 12 by decide, e3, x_cv_s]
          exact e4
        · obtain ⟨v, e5, g5⟩ := g4 w' e
          refine ⟨w1 ++ ([12] ++ v), by rw [e5]; simp only [List.append_assoc], ?_⟩
          have e6 : o ++ (w1 ++ ([12] ++ v)) = o ++ w1 ++ [12] ++ v := by simp only [List.append_assoc]
          rw [e6]; exact g5
    · have no : z_op 2 (z_tok C z p).2.2.1 = none := by
        unfold z_op
        rw [if_neg (fun g => absurd g.1 (by decide)), if_neg (fun g => c g.2), if_neg (fun g => absurd g.1 (by decide)), if_neg (fun g => absurd g.1 (by decide)), if_neg (fun g => absurd g.1 (by decide))]
      refine ⟨σ, p, some w, z_D.fin (Or.inr (Or.inl rfl)) no, ?_, x_fr.refl _ _ _, fun e => (by cases e), fun w' e => (by cases e; exact ⟨[], (List.append_nil _).symm, by rw [List.append_nil]; exact h⟩)⟩
      rw [x_feq, e42_11, x_k22 tp.1, c3, if_neg (show ¬ Int32.ofNat (z_tok C z p).2.2.1 = 314 from fun g => c (x_inj32 (b := 314) (by omega) (by omega) g))]
      split <;> rfl
theorem z_lv42 (D k : Nat) (hs : z_CP (D + 4) 43 3 k) : z_CP (D + 5) 42 2 k := by
  intro C z o m p σ h
  have hG := h.1.1
  obtain ⟨σ1, p1, r, d1, e1, f1, n1, g1⟩ := hs C z o m p σ h
  have hG1 := f1.G hG
  have st : ∀ R : Option xR, (x_ci (some (some (.inl (if r = none then 0 else 1)), σ1)) fun x2 σ1 => if x2 = 0 then some (some (.inl 0), σ1) else x_f (D + 4) 42 11 [some (.inr (.inr (some 22))), some (.inl (Int32.ofNat 0))] [] σ1) = R → x_run (D + 5) 42 [.inr (.inr (some 22))] σ = R := by
    intro R e
    rw [r42, e42_0, x_k22 hG, e1]
    exact e
  cases r with
  | none => exact ⟨σ1, p1, none, z_D.fst0 (Or.inr (Or.inl rfl)) d1, st _ (by rw [x_ci_s, if_pos rfl, if_pos rfl]), f1, n1, fun w e => by cases e⟩
  | some w1 =>
    obtain ⟨τ, p', r', d2, e2, f2, n2, g2⟩ := z_lp42 D k hs C z z 0 w1 (o ++ w1) m p1 σ1 (by omega) (g1 w1 rfl) (Nat.zero_le _)
    refine ⟨τ, p', r', z_D.fst (Or.inr (Or.inl rfl)) d1 d2, st _ ?_, f1.trans f2, n2, fun w e => ?_⟩
    · rw [x_ci_s, z_ret, if_neg (show ¬ (1 : Int32) = 0 by decide)]
      exact e2
    · obtain ⟨v, e3, g3⟩ := g2 w e
      rw [e3, ← List.append_assoc]; exact g3
theorem z_lp45 (D k : Nat) (hs : z_CP (D + 4) 46 7 k) : z_CL (D + 4) 45 6 k [] := by
  intro C z q
  induction q with
  | zero =>
    intro i w o m p σ hq h hi
    obtain ⟨tp, ⟨c1, c2, c3, c4⟩, h7, h4, ho, hb, hp, hz, hn⟩ := id h
    have pz : p = z := by omega
    subst pz
    have k3 := z_tok_z C p
    refine ⟨σ, p, some w, z_D.fin (Or.inr (Or.inr (Or.inr rfl))) (by rw [k3]; decide), ?_, x_fr.refl _ _ _, fun e => (by cases e), fun w' e => (by cases e; exact ⟨[], (List.append_nil _).symm, by rw [List.append_nil]; exact h⟩)⟩
    show x_f (D + 4) 45 11 [some (.inr (.inr (some 22))), some (.inl (Int32.ofNat i))] [] σ = _
    rw [x_feq, e45_11, x_k22 tp.1, c3, k3]
    split
    · rfl
    · rw [if_neg (by decide)]; rfl
  | succ q ih =>
    intro i w o m p σ hq h hi
    obtain ⟨tp, ⟨c1, c2, c3, c4⟩, h7, h4, ho, hb, hp, hz, hn⟩ := id h
    have kk := z_tok_k C z p
    have kb : (z_tok C z p).2.2.1 < 1000 := by unfold z_knd at kk; omega
    show ∃ τ p' r, _ ∧ x_f (D + 4) 45 11 [some (.inr (.inr (some 22))), some (.inl (Int32.ofNat i))] [] σ = _ ∧ _
    by_cases c : (z_tok C z p).2.2.1 = 42
    · have bt := z_tok_b C hp
      have b1 := bt.2.2.2 (by omega)
      have i160 : ¬ (160 : Int32) ≤ Int32.ofNat i := fun g => absurd ((x_le (a := 160) (by omega) (by omega)).mp g) (by omega)
      obtain ⟨σ1, e1, f1, g1⟩ := z_adv (D + 1) h (by omega)
      obtain ⟨σ2, p1, r, d2, e2, f2, n2, g2⟩ := hs C z o (m + 1) _ σ1 g1
      have hG1 := g1.1.1
      have hG2 := f2.G hG1
      have op : z_op 6 (z_tok C z p).2.2.1 = some 18 := by rw [c]; decide
      have pre : ∀ R : Option xR, (x_ci (some (some (.inl (if r = none then 0 else 1)), σ2)) fun x3 σ2 => if x3 = 0 then some (some (.inl 0), σ2) else x_ck σ2 22 6 (x_der (x_Q σ2 22 1) fun a4 => x_ck σ2 a4 7 (x_cv (x_run (D + 4) 58 [.inr (.inr (x_Q σ2 22 1)), .inl (-17)] σ2) fun σ5 => x_f (D + 4) 45 11 [some (.inr (.inr (some 22))), some (.inl (Int32.ofNat (i + 1)))] [] σ5))) = R → x_f (D + 4) 45 11 [some (.inr (.inr (some 22))), some (.inl (Int32.ofNat i))] [] σ = R := by
        intro R e
        rw [x_feq, e45_11, if_neg i160, x_k22 tp.1, c3, c, if_pos (show Int32.ofNat 42 = 42 from rfl), x_k22 tp.1, e1, x_cv_s, x_k22 hG1, e2, x_s1]
        exact e
      cases r with
      | none => exact ⟨σ2, p1, none, z_D.op0 (Or.inr (Or.inr (Or.inr rfl))) op d2, pre _ (by rw [x_ci_s, if_pos rfl, if_pos rfl]), f1.trans f2, n2, fun w' e => by cases e⟩
      | some w1 =>
        have g2' := g2 w1 rfl
        obtain ⟨σ3, e3, f3, g3⟩ := z_m58 (D + 2) 18 g2'
        have le := z_D_le d2 bt.2.1
        obtain ⟨τ, p', r', d4, e4, f4, n4, g4⟩ := ih (i + 1) (w ++ (w1 ++ [18])) _ m p1 σ3 (by omega) g3 (by omega)
        refine ⟨τ, p', r', z_D.op (Or.inr (Or.inr (Or.inr rfl))) op d2 d4, pre _ ?_, ((f1.trans f2).trans f3).trans f4, n4, fun w' e => ?_⟩
        · rw [x_ci_s, z_ret, if_neg (show ¬ (1 : Int32) = 0 by decide), x_k22 hG2, x_q22_1 hG2, x_der_s, x_k24 hG2, show (-17 : Int32) = x_enc 18 by decide, e3, x_cv_s]
          exact e4
        · obtain ⟨v, e5, g5⟩ := g4 w' e
          refine ⟨w1 ++ ([18] ++ v), by rw [e5]; simp only [List.append_assoc], ?_⟩
          have e6 : o ++ (w1 ++ ([18] ++ v)) = o ++ w1 ++ [18] ++ v := by simp only [List.append_assoc]
          rw [e6]; exact g5
    · have no : z_op 6 (z_tok C z p).2.2.1 = none := by
        unfold z_op
        rw [if_neg (fun g => absurd g.1 (by decide)), if_neg (fun g => absurd g.1 (by decide)), if_neg (fun g => absurd g.1 (by decide)), if_neg (fun g => absurd g.1 (by decide)), if_neg (fun g => c g.2)]
      refine ⟨σ, p, some w, z_D.fin (Or.inr (Or.inr (Or.inr rfl))) no, ?_, x_fr.refl _ _ _, fun e => (by cases e), fun w' e => (by cases e; exact ⟨[], (List.append_nil _).symm, by rw [List.append_nil]; exact h⟩)⟩
      rw [x_feq, e45_11, x_k22 tp.1, c3, if_neg (show ¬ Int32.ofNat (z_tok C z p).2.2.1 = 42 from fun g => c (x_inj32 (b := 42) (by omega) (by omega) g))]
      split <;> rfl
theorem z_lv45 (D k : Nat) (hs : z_CP (D + 4) 46 7 k) : z_CP (D + 5) 45 6 k := by
  intro C z o m p σ h
  have hG := h.1.1
  obtain ⟨σ1, p1, r, d1, e1, f1, n1, g1⟩ := hs C z o m p σ h
  have hG1 := f1.G hG
  have st : ∀ R : Option xR, (x_ci (some (some (.inl (if r = none then 0 else 1)), σ1)) fun x2 σ1 => if x2 = 0 then some (some (.inl 0), σ1) else x_f (D + 4) 45 11 [some (.inr (.inr (some 22))), some (.inl (Int32.ofNat 0))] [] σ1) = R → x_run (D + 5) 45 [.inr (.inr (some 22))] σ = R := by
    intro R e
    rw [r45, e45_0, x_k22 hG, e1]
    exact e
  cases r with
  | none => exact ⟨σ1, p1, none, z_D.fst0 (Or.inr (Or.inr (Or.inr rfl))) d1, st _ (by rw [x_ci_s, if_pos rfl, if_pos rfl]), f1, n1, fun w e => by cases e⟩
  | some w1 =>
    obtain ⟨τ, p', r', d2, e2, f2, n2, g2⟩ := z_lp45 D k hs C z z 0 w1 (o ++ w1) m p1 σ1 (by omega) (g1 w1 rfl) (Nat.zero_le _)
    refine ⟨τ, p', r', z_D.fst (Or.inr (Or.inr (Or.inr rfl))) d1 d2, st _ ?_, f1.trans f2, n2, fun w e => ?_⟩
    · rw [x_ci_s, z_ret, if_neg (show ¬ (1 : Int32) = 0 by decide)]
      exact e2
    · obtain ⟨v, e3, g3⟩ := g2 w e
      rw [e3, ← List.append_assoc]; exact g3
