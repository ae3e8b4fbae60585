/-! three parts: what both sides make of them -/
def z_E (T : Nat → Nat × (Nat × (Nat × Int32))) (i : Nat) (p : Nat) (ws : List (List Int32)) (p' : Nat) (r : Option (List (List Int32))) : Prop := ∀ M : Nat → Nat → List (List Int32) → Nat → Option (List (List Int32)) → Prop, (∀ {p ws}, (T p).2.2.1 = 300 → M 3 p ws p (some ws)) → (∀ {p ws}, (T p).2.2.1 ≠ 300 → M 3 p ws p none) → (∀ {i p ws}, i < 3 → (T p).2.2.1 ≠ 310 + i → M i p ws p none) → (∀ {i p ws p1}, i < 3 → (T p).2.2.1 = 310 + i → z_D T 1 false 5 (T p).2.1 [] p1 none → M i p ws p1 none) → (∀ {i p ws p1 w}, i < 3 → (T p).2.2.1 = 310 + i → z_D T 1 false 5 (T p).2.1 [] p1 (some w) → (T p1).2.2.1 ≠ 59 → M i p ws p1 none) → (∀ {i p ws p1 w p' r}, i < 3 → (T p).2.2.1 = 310 + i → z_D T 1 false 5 (T p).2.1 [] p1 (some w) → (T p1).2.2.1 = 59 → M (i + 1) (T p1).2.1 (ws ++ [w]) p' r → M i p ws p' r) → M i p ws p' r
theorem z_E.fin {T : Nat → Nat × (Nat × (Nat × Int32))} {p ws} (a0 : (T p).2.2.1 = 300) : z_E T 3 p ws p (some ws) := fun M r0 r1 r2 r3 r4 r5 => r0 a0
theorem z_E.finX {T : Nat → Nat × (Nat × (Nat × Int32))} {p ws} (a0 : (T p).2.2.1 ≠ 300) : z_E T 3 p ws p none := fun M r0 r1 r2 r3 r4 r5 => r1 a0
theorem z_E.kw {T : Nat → Nat × (Nat × (Nat × Int32))} {i p ws} (a0 : i < 3) (a1 : (T p).2.2.1 ≠ 310 + i) : z_E T i p ws p none := fun M r0 r1 r2 r3 r4 r5 => r2 a0 a1
theorem z_E.bad {T : Nat → Nat × (Nat × (Nat × Int32))} {i p ws p1} (a0 : i < 3) (a1 : (T p).2.2.1 = 310 + i) (a2 : z_D T 1 false 5 (T p).2.1 [] p1 none) : z_E T i p ws p1 none := fun M r0 r1 r2 r3 r4 r5 => r3 a0 a1 a2
theorem z_E.semi {T : Nat → Nat × (Nat × (Nat × Int32))} {i p ws p1 w} (a0 : i < 3) (a1 : (T p).2.2.1 = 310 + i) (a2 : z_D T 1 false 5 (T p).2.1 [] p1 (some w)) (a3 : (T p1).2.2.1 ≠ 59) : z_E T i p ws p1 none := fun M r0 r1 r2 r3 r4 r5 => r4 a0 a1 a2 a3
theorem z_E.go {T : Nat → Nat × (Nat × (Nat × Int32))} {i p ws p1 w p' r} (a0 : i < 3) (a1 : (T p).2.2.1 = 310 + i) (a2 : z_D T 1 false 5 (T p).2.1 [] p1 (some w)) (a3 : (T p1).2.2.1 = 59) (a4 : z_E T (i + 1) (T p1).2.1 (ws ++ [w]) p' r) : z_E T i p ws p' r := fun M r0 r1 r2 r3 r4 r5 => r5 a0 a1 a2 a3 (a4 M @r0 @r1 @r2 @r3 @r4 @r5)
theorem z_E_ind {T : Nat → Nat × (Nat × (Nat × Int32))} {motive : (i : Nat) → (p : Nat) → (ws : List (List Int32)) → (p' : Nat) → (r : Option (List (List Int32))) → z_E T i p ws p' r → Prop} (fin : ∀ {p ws} (a0 : (T p).2.2.1 = 300), motive 3 p ws p (some ws) (z_E.fin a0)) (finX : ∀ {p ws} (a0 : (T p).2.2.1 ≠ 300), motive 3 p ws p none (z_E.finX a0)) (kw : ∀ {i p ws} (a0 : i < 3) (a1 : (T p).2.2.1 ≠ 310 + i), motive i p ws p none (z_E.kw a0 a1)) (bad : ∀ {i p ws p1} (a0 : i < 3) (a1 : (T p).2.2.1 = 310 + i) (a2 : z_D T 1 false 5 (T p).2.1 [] p1 none), motive i p ws p1 none (z_E.bad a0 a1 a2)) (semi : ∀ {i p ws p1 w} (a0 : i < 3) (a1 : (T p).2.2.1 = 310 + i) (a2 : z_D T 1 false 5 (T p).2.1 [] p1 (some w)) (a3 : (T p1).2.2.1 ≠ 59), motive i p ws p1 none (z_E.semi a0 a1 a2 a3)) (go : ∀ {i p ws p1 w p' r} (a0 : i < 3) (a1 : (T p).2.2.1 = 310 + i) (a2 : z_D T 1 false 5 (T p).2.1 [] p1 (some w)) (a3 : (T p1).2.2.1 = 59) (a4 : z_E T (i + 1) (T p1).2.1 (ws ++ [w]) p' r), motive (i + 1) (T p1).2.1 (ws ++ [w]) p' r a4 → motive i p ws p' r (z_E.go a0 a1 a2 a3 a4)) {i : Nat} {p : Nat} {ws : List (List Int32)} {p' : Nat} {r : Option (List (List Int32))} (h : z_E T i p ws p' r) : motive i p ws p' r h := by
  obtain ⟨h', m⟩ := h (fun i p ws p' r => ∃ h, motive i p ws p' r h) (fun a0 => ⟨_, fin a0⟩) (fun a0 => ⟨_, finX a0⟩) (fun a0 a1 => ⟨_, kw a0 a1⟩) (fun a0 a1 a2 => ⟨_, bad a0 a1 a2⟩) (fun a0 a1 a2 a3 => ⟨_, semi a0 a1 a2 a3⟩) (fun a0 a1 a2 a3 ⟨a4, m4⟩ => ⟨_, go a0 a1 a2 a3 a4 m4⟩)
  exact m
/-- the draft's ends -/
def z_en (ws : List (List Int32)) (σ : xS) : Prop := ∀ j, j < ws.length → x_I σ 27 j = Int32.ofNat (ws.take (j + 1)).flatten.length
def z_cx (b u : Nat) : Prop := z_cw b u ∨ b = 27 ∨ (b = 22 ∧ u = 2)
theorem z_m59 (d : Nat) {σ : xS} (hG : x_G σ) {i : Nat} (hi : i < 3) : x_run (d + 2) 59 [.inr (.inr (some 24)), .inl (Int32.ofNat i)] σ = some (none, x_si σ 27 i (x_I σ 24 4)) := by
  rw [r59, e59_0, x_k24 hG, x_k24 hG, x_q24_2 hG, m130 d hG (a := 27) (n := 3) rfl hi (by omega), x_cv_s]
theorem z_CS27 {C : Nat → Int32} {z n m p i : Nat} {o : List Int32} {σ : xS} (v : Int32) (h : z_CS C z n o m p σ) : z_CS C z n o m p (x_si σ 27 i v) := by
  obtain ⟨tp, ⟨c1, c2, c3, c4⟩, h7, h4, ho, hb⟩ := h
  have K : ∀ b u, b ≠ 27 → x_I (x_si σ 27 i v) b u = x_I σ b u := fun b u h => (x_Isi _ _ _ _ _ _).trans (if_neg (by omega))
  have f : x_fr (fun b _ => b = 27) x_w0 σ (x_si σ 27 i v) := (x_fr.refl _ _ σ).si _ rfl
  exact ⟨tp.fr f (by omega) (by omega) (fun u => by omega), ⟨(K _ _ (by omega)).trans c1, (K _ _ (by omega)).trans c2, (K _ _ (by omega)).trans c3, fun e => (K _ _ (by omega)).trans (c4 e)⟩, (K _ _ (by omega)).trans h7, (K _ _ (by omega)).trans h4, z_oc.to (fun j _ => K _ _ (by omega)) ho, hb⟩
/-- the descent's end of a text -/
def z_KR (C : Nat → Int32) (z p' : Nat) (τ : xS) : Option (List (List Int32)) → Prop
  | none => True
  | some ws => z_en ws τ ∧ x_I τ 24 4 = Int32.ofNat ws.flatten.length ∧ z_oc ws.flatten τ ∧ ws.flatten.length ≤ p' ∧ p' ≤ z ∧ ws.length = 3
theorem z_l40 (d : Nat) {C : Nat → Int32} {z : Nat} : ∀ q i p ws σ, i + q = 3 → ws.length = i → z_CS C z 0 ws.flatten 0 p σ → z_en ws σ → ∃ τ p' r, z_E (z_tok C z) i p ws p' r ∧ x_f (d + 40) 40 25 [some (.inr (.inr (some 22))), some (.inl 1), some (.inl (Int32.ofNat i))] [] σ = some (some (.inl (if r = none then Int32.ofNat (z_tok C z p').1 else -1)), τ) ∧ x_fr z_cx x_w0 σ τ ∧ x_I τ 22 2 = 0 ∧ z_KR C z p' τ r := by
  have fail : ∀ (X : Option xR) (i : Nat) (σ : xS) (v : Int32), i < 3 → x_G σ → x_I σ 22 4 = v → X = x_f (d + 40) 40 66 [some (.inr (.inr (some 22))), none, some (.inl (Int32.ofNat i))] [] σ → ∃ τ, X = some (some (.inl v), τ) ∧ x_fr z_cx x_w0 σ τ ∧ x_I τ 22 2 = 0 := by
    intro X i σ v hi hG hv hX
    let σ1 := x_si σ 27 i (x_I σ 24 4)
    have hG1 : x_G σ1 := hG
    have k4 : x_I σ1 22 4 = v := ((x_Isi _ _ _ _ _ _).trans (if_neg (by omega))).trans hv
    refine ⟨x_si σ1 22 2 0, ?_, ((x_fr.refl _ _ σ).si _ (Or.inr (Or.inl rfl))).si _ (Or.inr (Or.inr ⟨rfl, rfl⟩)), (x_Isi _ _ _ _ _ _).trans (if_pos ⟨rfl, rfl⟩)⟩
    have e82 : x_f (d + 40) 40 82 [some (.inr (.inr (some 22))), some (.inl 0), none] [] σ1 = some (some (.inl v), x_si σ1 22 2 0) := by
      rw [x_feq, e40_82, if_pos rfl, x_k22 hG1, x_k22 hG1, k4]
    rw [hX, x_feq, e40_66, x_k22 hG, x_q22_1 hG, x_der_s, x_k24 hG, z_m59 (d + 38) hG hi, x_cv_s, x_feq, e40_25]
    split
    · exact e82
    · rw [if_pos rfl]; exact e82
  intro q
  induction q with
  | zero =>
    intro i p ws σ hi hl h he
    have i3 : i = 3 := by omega
    subst i3
    obtain ⟨tp, ⟨c1, c2, c3, c4⟩, h7, h4, ho, hb, hp, hz, hn⟩ := id h
    have hG := tp.1
    have kk := z_tok_k C z p
    have kb : (z_tok C z p).2.2.1 < 1000 := by unfold z_knd at kk; omega
    have one : ¬ (1 : Int32) = 0 := by decide
    have f : x_fr z_cx x_w0 σ (x_si σ 22 2 0) := (x_fr.refl _ _ σ).si _ (Or.inr (Or.inr ⟨rfl, rfl⟩))
    have K : ∀ b u, ¬ (b = 22 ∧ u = 2) → x_I (x_si σ 22 2 0) b u = x_I σ b u := fun b u h => (x_Isi _ _ _ _ _ _).trans (if_neg h)
    have k2 : x_I (x_si σ 22 2 0) 22 2 = 0 := (x_Isi _ _ _ _ _ _).trans (if_pos ⟨rfl, rfl⟩)
    by_cases c : (z_tok C z p).2.2.1 = 300
    · refine ⟨x_si σ 22 2 0, p, some ws, z_E.fin c, ?_, f, k2, fun j hj => (K _ _ (by omega)).trans (he j hj), (K _ _ (by omega)).trans h4, z_oc.to (fun j _ => K _ _ (by omega)) ho, by omega, hp, hl⟩
      rw [x_feq, e40_25, if_pos (by decide), x_feq, e40_82, if_neg one, x_k22 hG, c3, c, if_pos (show Int32.ofNat 300 = 300 from rfl), x_k22 hG, if_neg (fun e => by cases e)]
    · refine ⟨x_si σ 22 2 0, p, none, z_E.finX c, ?_, f, k2, trivial⟩
      rw [x_feq, e40_25, if_pos (by decide), x_feq, e40_82, if_neg one, x_k22 hG, c3, if_neg (show ¬ Int32.ofNat (z_tok C z p).2.2.1 = 300 from fun g => c (x_inj32 (b := 300) (by omega) (by omega) g)), x_k22 hG, x_k22 hG, c1, if_pos rfl]
  | succ q ih =>
    intro i p ws σ hi hl h he
    have hG := h.1.1
    have one : ¬ (1 : Int32) = 0 := by decide
    have z0 : (0 : Int32) = 0 := rfl
    have n2 : ¬ (2 : Int32) < Int32.ofNat i := fun g => absurd (Int32.not_le.mpr g) (fun k => k ((x_le (b := 2) (by omega) (by omega)).mpr (by omega)))
    have e310 : (310 : Int32) + Int32.ofNat i = Int32.ofNat (310 + i) := by rw [show (310 : Int32) = Int32.ofNat 310 from rfl, ← Int32.ofNat_add]
    have m0 := z_m48 (d + 36) (310 + i) (by omega) (by omega) h
    have pre : ∀ R : Option xR, (x_ci (x_run (d + 40) 48 [.inr (.inr (some 22)), .inl (Int32.ofNat (310 + i))] σ) fun x2 σ1 => if x2 = 0 then x_f (d + 40) 40 66 [some (.inr (.inr (some 22))), none, some (.inl (Int32.ofNat i))] [] σ1 else x_ck σ1 22 6 (x_ci (x_run (d + 40) 41 [.inr (.inr (some 22))] σ1) fun x4 σ3 => if x4 = 0 then x_f (d + 40) 40 66 [some (.inr (.inr (some 22))), none, some (.inl (Int32.ofNat i))] [] σ3 else x_ck σ3 22 6 (x_ci (x_run (d + 40) 48 [.inr (.inr (some 22)), .inl 59] σ3) fun x6 σ5 => if x6 = 0 then x_f (d + 40) 40 66 [some (.inr (.inr (some 22))), none, some (.inl (Int32.ofNat i))] [] σ5 else x_ck σ5 22 6 (x_der (x_Q σ5 22 1) fun a7 => x_ck σ5 a7 7 (x_cv (x_run (d + 40) 59 [.inr (.inr (x_Q σ5 22 1)), .inl (Int32.ofNat i)] σ5) fun σ8 => x_f (d + 40) 40 25 [some (.inr (.inr (some 22))), some (.inl 1), some (.inl (Int32.ofNat (i + 1)))] [] σ8))))) = R → x_f (d + 40) 40 25 [some (.inr (.inr (some 22))), some (.inl 1), some (.inl (Int32.ofNat i))] [] σ = R := by
      intro R e
      rw [x_feq, e40_25, if_neg n2, if_neg one, x_k22 hG, e310, x_s1]
      exact e
    have cwx : ∀ {σ τ : xS}, x_fr z_cw x_w0 σ τ → x_fr z_cx x_w0 σ τ := fun f => f.mono (fun _ _ h => Or.inl h) (fun _ _ h => h)
    rcases m0 with ⟨k1, e1⟩ | ⟨k1, σ1, e1, f1, g1⟩
    · obtain ⟨τ, e, f, g⟩ := fail _ i σ _ (by omega) hG h.2.1.1 (pre _ (by rw [e1, x_ci_s, if_pos z0]))
      exact ⟨τ, p, none, z_E.kw (by omega) k1, by rw [if_pos rfl]; exact e, f, g, trivial⟩
    · have hG1 := g1.1.1
      obtain ⟨σ2, p1, r, d2, e2, f2, n2', g2⟩ := z_41 d C z ws.flatten 1 _ σ1 g1
      have hG2 := f2.G hG1
      cases r with
      | none =>
        obtain ⟨τ, e, f, g⟩ := fail _ i σ2 _ (by omega) hG2 (n2' rfl).1 (pre _ (by rw [e1, x_ci_s, if_neg one, x_k22 hG1, e2, x_ci_s, if_pos rfl, if_pos z0]))
        exact ⟨τ, p1, none, z_E.bad (by omega) k1 d2, by rw [if_pos rfl]; exact e, ((cwx f1).trans (cwx f2)).trans f, g, trivial⟩
      | some w =>
        have g2' := g2 w rfl
        rcases z_m48 (d + 36) 59 (by omega) (by omega) g2' with ⟨k3, e3⟩ | ⟨k3, σ3, e3, f3, g3⟩
        · obtain ⟨τ, e, f, g⟩ := fail _ i σ2 _ (by omega) hG2 g2'.2.1.1 (pre _ (by rw [e1, x_ci_s, if_neg one, x_k22 hG1, e2, x_ci_s, z_ret, if_neg one, x_k22 hG2, show (59 : Int32) = Int32.ofNat 59 from rfl, e3, x_ci_s, if_pos z0]))
          exact ⟨τ, p1, none, z_E.semi (by omega) k1 d2 k3, by rw [if_pos rfl]; exact e, ((cwx f1).trans (cwx f2)).trans f, g, trivial⟩
        · have hG3 := g3.1.1
          have eo : ws.flatten ++ w = (ws ++ [w]).flatten := by rw [List.flatten_append, List.flatten_cons, List.flatten_nil, List.append_nil]
          rw [eo] at g3
          obtain ⟨b1, b2, b3, b4, b5, b6, b7⟩ := z_CS27 (i := i) (x_I σ3 24 4) g3
          have F : ∀ b u, ¬ z_cw b u → x_I σ3 b u = x_I σ b u := fun b u hu => (f3.I hu).trans ((f2.I hu).trans (f1.I hu))
          obtain ⟨τ, p', r', d4, e4, f4, k4, g4⟩ := ih (i + 1) _ (ws ++ [w]) (x_si σ3 27 i (x_I σ3 24 4)) (by omega) (by rw [List.length_append]; show ws.length + 1 = _; omega) ⟨b1, b2, b3, b4, b5, by omega, b7⟩ (fun j hj => by
            rw [List.length_append] at hj
            have hj' : j < ws.length + 1 := hj
            rw [x_Isi]
            by_cases c : j = i
            · rw [if_pos ⟨rfl, c⟩, g3.2.2.2.1, List.take_of_length_le (by rw [List.length_append]; show ws.length + 1 ≤ _; omega)]
            · rw [if_neg (fun g => c g.2), F _ _ (by unfold z_cw; omega), he j (by omega), List.take_append_of_le_length (by omega)])
          refine ⟨τ, p', r', z_E.go (by omega) k1 d2 k3 d4, pre _ ?_, (((cwx f1).trans (cwx f2)).trans (cwx f3)).trans ((((x_fr.refl z_cx x_w0 σ3).si _ (Or.inr (Or.inl rfl)))).trans f4), k4, g4⟩
          rw [e1, x_ci_s, if_neg one, x_k22 hG1, e2, x_ci_s, z_ret, if_neg one, x_k22 hG2, show (59 : Int32) = Int32.ofNat 59 from rfl, e3, x_ci_s, if_neg one, x_k22 hG3, x_q22_1 hG3, x_der_s, x_k24 hG3, z_m59 (d + 38) hG3 (by omega), x_cv_s]
          exact e4
