/-! behind an operand -/
def z_cod (v : Int32) : Int32 := if v = 4 then 11 else if v = 5 then 12 else if v = 60 then 14 else if v = 61 then 15 else if v = 43 then 16 else if v = 45 then 17 else if v = 42 then 18 else -1
theorem z_len (q : Nat) : ∀ S : List Int32, (z_pd q S).length + (z_pop q S).length = S.length
  | [] => rfl
  | a :: S => by
    have ih := z_len q S
    show (if q ≤ z_rank a then a :: z_pd q S else []).length + (if q ≤ z_rank a then z_pop q S else a :: S).length = _
    split
    · rw [List.length_cons, List.length_cons]; omega
    · rw [List.length_nil]; omega
theorem z_opx (d : Nat) {C : Nat → Int32} {z t p : Nat} {S o : List Int32} {σ : xS} (i2 : Int32) (h : z_YS C z t S o p σ) : ∃ σ1, x_fr (z_yw t) x_w0 σ σ1 ∧ z_YS C z t S o (z_tok C z p).2.1 σ1 ∧ x_I σ1 78 27 = Int32.ofNat (z_tok C z p).1 ∧ (z_rk (z_tok C z p).2.2.1 ≠ 59 → z_rk (z_tok C z p).2.2.1 ≠ 41 → x_f (d + 4) 149 14 [some (.inr (.inr (some 78))), some (.inl 0), some (.inl i2), none] [] σ = if z_cod (z_rk (z_tok C z p).2.2.1) = -1 then some (some (.inl 0), σ1) else x_ci (x_run (d + 4) 147 [.inr (.inr (some 78)), .inl (z_cod (z_rk (z_tok C z p).2.2.1))] σ1) fun x5 σ4 => if x5 = 0 then some (some (.inl 0), σ4) else if 12 < z_cod (z_rk (z_tok C z p).2.2.1) then x_f (d + 4) 149 14 [some (.inr (.inr (some 78))), some (.inl 1), some (.inl 0), none] [] σ4 else x_f (d + 4) 149 14 [some (.inr (.inr (some 78))), some (.inl 1), some (.inl 1), none] [] σ4) ∧ (z_rk (z_tok C z p).2.2.1 = 59 → x_f (d + 4) 149 14 [some (.inr (.inr (some 78))), some (.inl 0), some (.inl i2), none] [] σ = x_cv (x_run (d + 4) 144 [.inr (.inr (some 78)), .inl 1] σ1) fun σ8 => x_ck σ8 78 10 (if x_I σ8 78 32 = 0 then some (some (.inl 1), σ8) else some (some (.inl 0), σ8))) ∧ (z_rk (z_tok C z p).2.2.1 = 41 → x_f (d + 4) 149 14 [some (.inr (.inr (some 78))), some (.inl 0), some (.inl i2), none] [] σ = x_cv (x_run (d + 4) 144 [.inr (.inr (some 78)), .inl 1] σ1) fun σ6 => x_ck σ6 78 10 (if x_I σ6 78 32 = 0 then some (some (.inl 0), σ6) else (x_ck σ6 78 10 <| x_ck σ6 78 10 <| x_ck (x_si σ6 78 32 ((x_I σ6 78 32) - 1)) 78 10 <| x_ck (x_si σ6 78 32 ((x_I σ6 78 32) - 1)) 78 10 <| x_ck (x_si (x_si σ6 78 32 ((x_I σ6 78 32) - 1)) 78 33 ((x_I (x_si σ6 78 32 ((x_I σ6 78 32) - 1)) 78 33) - 1)) 78 10 <| x_cv (x_run (d + 4) 144 [.inr (.inr (some 78)), .inl 7] (x_si (x_si σ6 78 32 ((x_I σ6 78 32) - 1)) 78 33 ((x_I (x_si σ6 78 32 ((x_I σ6 78 32) - 1)) 78 33) - 1))) fun σ7 => x_f (d + 4) 149 14 [some (.inr (.inr (some 78))), some (.inl 0), some (.inl i2), none] [] σ7))) := by
  obtain ⟨σ1, e1, f1, y1, g1, g2, g3, -⟩ := z_next (d + 1) h
  have hG1 := y1.1.1
  have z0 : (0 : Int32) = 0 := rfl
  refine ⟨σ1, f1, y1, g2, fun n1 n2 => ?_, fun e => ?_, fun e => ?_⟩
  · rw [x_feq, e149_14, x_k78 h.1.1, e1, x_cv_s, if_pos z0, x_k78 hG1, g3, if_neg n1, x_k78 hG1, if_neg n2, x_k78 hG1, z_m148 (d + 3) hG1 g3, x_ci_s]
    show (if z_cod (z_rk (z_tok C z p).2.2.1) = -1 then _ else x_ck σ1 78 10 _) = _
    rw [x_k78 hG1]
    rfl
  · rw [x_feq, e149_14, x_k78 h.1.1, e1, x_cv_s, if_pos z0, x_k78 hG1, g3, if_pos e, x_k78 hG1]
  · rw [x_feq, e149_14, x_k78 h.1.1, e1, x_cv_s, if_pos z0, x_k78 hG1, g3, if_neg (by rw [e]; decide), x_k78 hG1, if_pos e, x_k78 hG1]
theorem z_bin (d : Nat) {C : Nat → Int32} {z t p : Nat} {P S o : List Int32} {σ : xS} (i2 : Int32) (h : z_YS C z t (P ++ S) o p σ) {L : Nat} {c : Int32} (hk : z_op L (z_tok C z p).2.2.1 = some c) (hP : ∀ a ∈ P, L ≤ z_rank a) (hS : z_top L S) : ∃ τ, x_f (d + 4) 149 14 [some (.inr (.inr (some 78))), some (.inl 0), some (.inl i2), none] [] σ = x_f (d + 4) 149 14 [some (.inr (.inr (some 78))), some (.inl 1), some (.inl (if 12 < c then 0 else 1)), none] [] τ ∧ x_fr (z_yw t) x_w0 σ τ ∧ z_YS C z t (c :: S) (o ++ P) (z_tok C z p).2.1 τ ∧ z_rank c = L ∧ z_un c = false ∧ c ≠ 0 ∧ ((L ≤ 3 ∧ ¬ 12 < c) ∨ (¬ L ≤ 3 ∧ 12 < c)) ∧ (z_tok C z p).2.2.1 ≠ 300 := by
  obtain ⟨σ1, f1, y1, g2, r1, -, -⟩ := z_opx d i2 h
  have b := z_tok_b C h.2.2.2.2.2.2.2.2.2.1
  have hb0 := h.2.2.2.2.2.2.2.2.1
  generalize z_tok C z p = tk at *
  have key : ∀ (k : Nat) (v : Int32), tk.2.2.1 = k → k ≠ 300 → z_rk k = v → v ≠ 59 → v ≠ 41 → z_cod v = c → c ≠ -1 → z_rank c = L → 1 ≤ L → L ≠ 4 → z_un c = false → c ≠ 0 → ((L ≤ 3 ∧ ¬ 12 < c) ∨ (¬ L ≤ 3 ∧ 12 < c)) → ∃ τ, x_f (d + 4) 149 14 [some (.inr (.inr (some 78))), some (.inl 0), some (.inl i2), none] [] σ = x_f (d + 4) 149 14 [some (.inr (.inr (some 78))), some (.inl 1), some (.inl (if 12 < c then 0 else 1)), none] [] τ ∧ x_fr (z_yw t) x_w0 σ τ ∧ z_YS C z t (c :: S) (o ++ P) tk.2.1 τ ∧ z_rank c = L ∧ z_un c = false ∧ c ≠ 0 ∧ ((L ≤ 3 ∧ ¬ 12 < c) ∨ (¬ L ≤ 3 ∧ 12 < c)) ∧ tk.2.2.1 ≠ 300 := by
    intro k v ek k3 e1 v1 v2 e2 c1 hc hq h4 hu hz hh
    have r := r1 (by rw [ek, e1]; exact v1) (by rw [ek, e1]; exact v2)
    rw [ek, e1, e2, if_neg c1] at r
    obtain ⟨τ, e, f, y⟩ := z_147 (d + 1) L hc hq h4 hu y1 (by have := b.2.2.2 (by omega); omega)
    obtain ⟨p1, p2⟩ := z_pop_app S hP
    obtain ⟨q1, q2⟩ := z_pop_top hS
    rw [p1, p2, q1, q2, List.append_nil] at y
    refine ⟨τ, ?_, f1.trans f, y, hc, hu, hz, hh, by omega⟩
    rw [r, e, x_ci_s, if_neg (by decide)]
    split <;> rfl
  unfold z_op at hk
  by_cases c1 : L = 1 ∧ tk.2.2.1 = 313
  · rw [if_pos c1] at hk
    cases hk
    obtain ⟨rfl, e⟩ := c1
    exact key 313 4 e (by decide) rfl (by decide) (by decide) rfl (by decide) rfl (by decide) (by decide) rfl (by decide) (Or.inl ⟨by decide, by decide⟩)
  rw [if_neg c1] at hk
  by_cases c2 : L = 2 ∧ tk.2.2.1 = 314
  · rw [if_pos c2] at hk
    cases hk
    obtain ⟨rfl, e⟩ := c2
    exact key 314 5 e (by decide) rfl (by decide) (by decide) rfl (by decide) rfl (by decide) (by decide) rfl (by decide) (Or.inl ⟨by decide, by decide⟩)
  rw [if_neg c2] at hk
  by_cases c3 : L = 5 ∧ tk.2.2.1 = 43
  · rw [if_pos c3] at hk
    cases hk
    obtain ⟨rfl, e⟩ := c3
    exact key 43 43 e (by decide) rfl (by decide) (by decide) rfl (by decide) rfl (by decide) (by decide) rfl (by decide) (Or.inr ⟨by decide, by decide⟩)
  rw [if_neg c3] at hk
  by_cases c4 : L = 5 ∧ tk.2.2.1 = 45
  · rw [if_pos c4] at hk
    cases hk
    obtain ⟨rfl, e⟩ := c4
    exact key 45 45 e (by decide) rfl (by decide) (by decide) rfl (by decide) rfl (by decide) (by decide) rfl (by decide) (Or.inr ⟨by decide, by decide⟩)
  rw [if_neg c4] at hk
  by_cases c5 : L = 6 ∧ tk.2.2.1 = 42
  · rw [if_pos c5] at hk
    cases hk
    obtain ⟨rfl, e⟩ := c5
    exact key 42 42 e (by decide) rfl (by decide) (by decide) rfl (by decide) rfl (by decide) (by decide) rfl (by decide) (Or.inr ⟨by decide, by decide⟩)
  rw [if_neg c5] at hk
  cases hk
theorem z_cmpo (d : Nat) {C : Nat → Int32} {z t p : Nat} {P S o : List Int32} {σ : xS} (i2 : Int32) (h : z_YS C z t (P ++ S) o p σ) (hk : (z_tok C z p).2.2.1 = 60 ∨ (z_tok C z p).2.2.1 = 61) (hP : ∀ a ∈ P, 5 ≤ z_rank a) (hS : z_top 4 S) : ∃ τ, x_f (d + 4) 149 14 [some (.inr (.inr (some 78))), some (.inl 0), some (.inl i2), none] [] σ = x_f (d + 4) 149 14 [some (.inr (.inr (some 78))), some (.inl 1), some (.inl 0), none] [] τ ∧ x_fr (z_yw t) x_w0 σ τ ∧ z_YS C z t ((if (z_tok C z p).2.2.1 = 60 then 14 else 15) :: S) (o ++ P) (z_tok C z p).2.1 τ := by
  obtain ⟨σ1, f1, y1, g2, r1, -, -⟩ := z_opx d i2 h
  have b := z_tok_b C h.2.2.2.2.2.2.2.2.2.1
  have hb0 := h.2.2.2.2.2.2.2.2.1
  generalize z_tok C z p = tk at *
  have hS5 : z_top 5 S := fun c r e => by have := hS c r e; omega
  have key : ∀ (k : Nat) (v c : Int32), tk.2.2.1 = k → k ≠ 300 → z_rk k = v → v ≠ 59 → v ≠ 41 → z_cod v = c → c ≠ -1 → z_rank c = 4 → z_un c = false → 12 < c → (if k = 60 then (14 : Int32) else 15) = c → ∃ τ, x_f (d + 4) 149 14 [some (.inr (.inr (some 78))), some (.inl 0), some (.inl i2), none] [] σ = x_f (d + 4) 149 14 [some (.inr (.inr (some 78))), some (.inl 1), some (.inl 0), none] [] τ ∧ x_fr (z_yw t) x_w0 σ τ ∧ z_YS C z t ((if k = 60 then 14 else 15) :: S) (o ++ P) tk.2.1 τ := by
    intro k v c ek k3 e1 v1 v2 e2 c1 hc hu h12 ec
    have r := r1 (by rw [ek, e1]; exact v1) (by rw [ek, e1]; exact v2)
    rw [ek, e1, e2, if_neg c1] at r
    obtain ⟨p1, p2⟩ := z_pop_app S hP
    obtain ⟨q1, q2⟩ := z_pop_top hS5
    rcases z_147c (d + 1) hc hu y1 (by have := b.2.2.2 (by omega); omega) with ⟨⟨a, rr, ha, ha4⟩, -⟩ | ⟨-, τ, e, f, y⟩
    · rw [p1, q1] at ha
      have := hS a rr ha
      omega
    · rw [p1, p2, q1, q2, List.append_nil] at y
      refine ⟨τ, ?_, f1.trans f, by rw [ec]; exact y⟩
      rw [r, e, x_ci_s, if_neg (by decide), if_pos h12]
  rcases hk with e | e
  · have := key 60 60 14 e (by decide) rfl (by decide) (by decide) rfl (by decide) rfl rfl (by decide) rfl
    rw [e]
    exact this
  · have := key 61 61 15 e (by decide) rfl (by decide) (by decide) rfl (by decide) rfl rfl (by decide) rfl
    rw [e]
    exact this
theorem z_close (d : Nat) {C : Nat → Int32} {z t p : Nat} {P S o : List Int32} {σ : xS} (i2 : Int32) (h : z_YS C z t (P ++ 0 :: S) o p σ) (hk : (z_tok C z p).2.2.1 = 41) (hP : ∀ a ∈ P, 1 ≤ z_rank a) : ∃ τ, x_f (d + 4) 149 14 [some (.inr (.inr (some 78))), some (.inl 0), some (.inl i2), none] [] σ = x_f (d + 4) 149 14 [some (.inr (.inr (some 78))), some (.inl 0), some (.inl i2), none] [] τ ∧ x_fr (z_yw t) x_w0 σ τ ∧ z_YS C z t (z_pop 7 S) ((o ++ P) ++ z_pd 7 S) (z_tok C z p).2.1 τ := by
  obtain ⟨σ1, f1, y1, g2, -, -, r1⟩ := z_opx d i2 h
  have r := r1 (by rw [hk]; rfl)
  obtain ⟨σ6, e6, f6, y6, -⟩ := z_m144 (d + 2) (q := 1) (by omega) (by omega) y1
  have top : z_top 1 (0 :: S) := fun c r e => by cases e; decide
  obtain ⟨p1, p2⟩ := z_pop_app (0 :: S) hP
  obtain ⟨q1, q2⟩ := z_pop_top top
  rw [p1, p2, q1, q2, List.append_nil] at y6
  obtain ⟨tp, h12, h26, h32, h33, h34, hs, ho, hb0, hp, hz, ht⟩ := id y6
  have hG6 := tp.1
  rw [List.length_cons] at h32 hb0
  have nz : ¬ Int32.ofNat (S.length + 1) = 0 := fun g => absurd (x_inj32 (b := 0) (by omega) (by omega) g) (by omega)
  have e33 : z_nc (0 :: S) = z_nc S + 1 := by
    show (if (0 : Int32) = 0 ∨ z_un 0 = true then 1 else 0) + z_nc S = _
    rw [if_pos (Or.inl rfl), Nat.add_comm]
  rw [e33] at h33
  let σa := x_si σ6 78 32 (Int32.ofNat S.length)
  let σb := x_si σa 78 33 (Int32.ofNat (z_nc S))
  have hGa : x_G σa := hG6
  have hGb : x_G σb := hG6
  have fb : x_fr (z_yw t) x_w0 σ6 σb := ((x_fr.refl _ _ σ6).si _ (Or.inl ⟨rfl, by omega⟩)).si _ (Or.inl ⟨rfl, by omega⟩)
  have k2 : ∀ b u, ¬ (b = 78 ∧ (u = 32 ∨ u = 33)) → x_I σb b u = x_I σ6 b u := fun b u hu => (x_Isi _ _ _ _ _ _).trans ((if_neg (by omega)).trans ((x_Isi _ _ _ _ _ _).trans (if_neg (by omega))))
  have yb : z_YS C z t S (o ++ P) (z_tok C z p).2.1 σb := ⟨tp.yw fb, (k2 _ _ (by omega)).trans h12, (k2 _ _ (by omega)).trans h26, (x_Isi _ _ _ _ _ _).trans ((if_neg (by omega)).trans ((x_Isi _ _ _ _ _ _).trans (if_pos ⟨rfl, rfl⟩))), (x_Isi _ _ _ _ _ _).trans (if_pos ⟨rfl, rfl⟩), (k2 _ _ (by omega)).trans h34, z_stk.to (fun j _ => k2 _ _ (by omega)) hs.2, z_out.to (fun j _ => k2 _ _ (by omega)) ho, by omega, hp, hz, ht⟩
  obtain ⟨τ, e7, f7, y7, -⟩ := z_m144 (d + 2) (q := 7) (by omega) (by omega) yb
  refine ⟨τ, ?_, ((f1.trans f6).trans fb).trans f7, y7⟩
  have h33a : x_I σa 78 33 = Int32.ofNat (z_nc S + 1) := ((x_Isi _ _ _ _ _ _).trans (if_neg (by omega))).trans h33
  rw [r, show (1 : Int32) = Int32.ofNat 1 from rfl, e6, x_cv_s, x_k78 hG6, h32, if_neg nz, x_k78 hG6, x_k78 hG6, show Int32.ofNat (S.length + 1) - Int32.ofNat 1 = Int32.ofNat S.length from x_p1 S.length, x_k78 hGa, x_k78 hGa, h33a, show Int32.ofNat (z_nc S + 1) - Int32.ofNat 1 = Int32.ofNat (z_nc S) from x_p1 (z_nc S), x_k78 hGb, show (7 : Int32) = Int32.ofNat 7 from rfl, e7, x_cv_s]
/-- what may not stand behind a level -/
def z_st (L : Nat) (P : List Int32) (k : Nat) : Prop := (L ≤ 1 → k ≠ 313) ∧ (L ≤ 2 → k ≠ 314) ∧ (L ≤ 3 → (k = 60 ∨ k = 61) → ∃ c r, z_pop 5 P = c :: r ∧ z_rank c = 4) ∧ (L ≤ 5 → k ≠ 43 ∧ k ≠ 45) ∧ (L ≤ 6 → k ≠ 42)
theorem z_stop (d : Nat) {C : Nat → Int32} {z t p : Nat} {P S o : List Int32} {σ : xS} (i2 : Int32) (h : z_YS C z t (P ++ S) o p σ) (hP : ∀ a ∈ P, 1 ≤ z_rank a) (hS : S = [] ∨ ∃ r, S = 0 :: r) (hst : z_st 1 P (z_tok C z p).2.2.1) (h1 : S = [] → (z_tok C z p).2.2.1 ≠ 59) (h2 : S ≠ [] → (z_tok C z p).2.2.1 ≠ 41) : ∃ τ, x_f (d + 4) 149 14 [some (.inr (.inr (some 78))), some (.inl 0), some (.inl i2), none] [] σ = some (some (.inl 0), τ) ∧ x_fr (z_yw t) x_w0 σ τ ∧ x_I τ 78 27 = Int32.ofNat (z_tok C z p).1 := by
  obtain ⟨σ1, f1, y1, g2, r1, r2, r3⟩ := z_opx d i2 h
  have kk := z_tok_k C z p
  have b := z_tok_b C h.2.2.2.2.2.2.2.2.2.1
  have hb0 := h.2.2.2.2.2.2.2.2.1
  generalize z_tok C z p = tk at *
  have hG1 := y1.1.1
  have top : z_top 1 S := by
    intro c r e
    rcases hS with e0 | ⟨r', e0⟩
    · rw [e0] at e; cases e
    · rw [e0] at e; cases e; decide
  obtain ⟨p1, p2⟩ := z_pop_app S hP
  obtain ⟨q1, q2⟩ := z_pop_top top
  obtain ⟨σ6, e6, f6, y6, k6⟩ := z_m144 (d + 2) (q := 1) (by omega) (by omega) y1
  rw [p1, p2, q1, q2, List.append_nil] at y6
  have hG6 := y6.1.1
  have hz := y6.2.2.2.2.2.2.2.2.2.2.1
  have hp6 := y6.2.2.2.2.2.2.2.2.2.1
  have hb6 := y6.2.2.2.2.2.2.2.2.1
  have h32 := y6.2.2.2.1
  obtain ⟨s1, s2, s3, s4, s5⟩ := hst
  have q27 : x_I σ6 78 27 = Int32.ofNat tk.1 := (k6 27 (by omega) (by omega) (by omega)).trans g2
  by_cases c59 : tk.2.2.1 = 59
  · have ne : S ≠ [] := fun e => h1 e c59
    obtain ⟨r, rfl⟩ := hS.resolve_left ne
    rw [List.length_cons] at h32 hb6
    have nz : ¬ Int32.ofNat (r.length + 1) = 0 := fun g => absurd (x_inj32 (b := 0) (by omega) (by omega) g) (by omega)
    refine ⟨σ6, ?_, f1.trans f6, q27⟩
    rw [r2 (by rw [c59]; rfl), show (1 : Int32) = Int32.ofNat 1 from rfl, e6, x_cv_s, x_k78 hG6, h32, if_neg nz]
  by_cases c41 : tk.2.2.1 = 41
  · have e : S = [] := Decidable.byContradiction (fun ne => h2 ne c41)
    subst e
    refine ⟨σ6, ?_, f1.trans f6, q27⟩
    rw [r3 (by rw [c41]; rfl), show (1 : Int32) = Int32.ofNat 1 from rfl, e6, x_cv_s, x_k78 hG6, h32, if_pos (show Int32.ofNat ([] : List Int32).length = 0 from rfl)]
  by_cases c60 : tk.2.2.1 = 60 ∨ tk.2.2.1 = 61
  · obtain ⟨c, r, e1, e2⟩ := s3 (by omega) c60
    have e1' := z_pop_ne S e1
    have key : ∀ (k : Nat) (v c' : Int32), tk.2.2.1 = k → z_rk k = v → v ≠ 59 → v ≠ 41 → z_cod v = c' → c' ≠ -1 → z_rank c' = 4 → z_un c' = false → ∃ τ, x_f (d + 4) 149 14 [some (.inr (.inr (some 78))), some (.inl 0), some (.inl i2), none] [] σ = some (some (.inl 0), τ) ∧ x_fr (z_yw t) x_w0 σ τ ∧ x_I τ 78 27 = Int32.ofNat tk.1 := by
      intro k v c' ek e3 v1 v2 e4 c1 hc hu
      have r := r1 (by rw [ek, e3]; exact v1) (by rw [ek, e3]; exact v2)
      rw [ek, e3, e4, if_neg c1] at r
      rcases z_147c (d + 1) hc hu y1 (by have := b.2.2.2 (by omega); omega) with ⟨-, τ, e, f, y⟩ | ⟨g, -⟩
      · refine ⟨τ, ?_, f1.trans f, y.trans g2⟩
        rw [r, e, x_ci_s, if_pos rfl]
      · exact absurd e2 (g c _ e1')
    rcases c60 with e | e
    · exact key 60 60 14 e rfl (by decide) (by decide) rfl (by decide) rfl rfl
    · exact key 61 61 15 e rfl (by decide) (by decide) rfl (by decide) rfl rfl
  · have key : ∀ (k : Nat) (v : Int32), tk.2.2.1 = k → z_rk k = v → v ≠ 59 → v ≠ 41 → z_cod v = -1 → ∃ τ, x_f (d + 4) 149 14 [some (.inr (.inr (some 78))), some (.inl 0), some (.inl i2), none] [] σ = some (some (.inl 0), τ) ∧ x_fr (z_yw t) x_w0 σ τ ∧ x_I τ 78 27 = Int32.ofNat tk.1 := by
      intro k v ek e3 v1 v2 e4
      have r := r1 (by rw [ek, e3]; exact v1) (by rw [ek, e3]; exact v2)
      rw [ek, e3, e4, if_pos rfl] at r
      exact ⟨σ1, r, f1, g2⟩
    clear s3
    have n1 := s1 (by omega)
    have n2 := s2 (by omega)
    have n4 := s4 (by omega)
    have n5 := s5 (by omega)
    unfold z_knd at kk
    rcases (show tk.2.2.1 = 300 ∨ tk.2.2.1 = 301 ∨ tk.2.2.1 = 302 ∨ tk.2.2.1 = 310 ∨ tk.2.2.1 = 311 ∨ tk.2.2.1 = 312 ∨ tk.2.2.1 = 315 ∨ tk.2.2.1 = 320 ∨ tk.2.2.1 = 321 ∨ tk.2.2.1 = 322 ∨ tk.2.2.1 = 323 ∨ tk.2.2.1 = 324 ∨ tk.2.2.1 = 325 ∨ tk.2.2.1 = 40 by omega) with e | e | e | e | e | e | e | e | e | e | e | e | e | e
    · exact key _ 0 e rfl (by decide) (by decide) rfl
    · exact key _ (-1) e rfl (by decide) (by decide) rfl
    · exact key _ 1 e rfl (by decide) (by decide) rfl
    · exact key _ 3 e rfl (by decide) (by decide) rfl
    · exact key _ 3 e rfl (by decide) (by decide) rfl
    · exact key _ 3 e rfl (by decide) (by decide) rfl
    · exact key _ 6 e rfl (by decide) (by decide) rfl
    · exact key _ 2 e rfl (by decide) (by decide) rfl
    · exact key _ 2 e rfl (by decide) (by decide) rfl
    · exact key _ 2 e rfl (by decide) (by decide) rfl
    · exact key _ 2 e rfl (by decide) (by decide) rfl
    · exact key _ 2 e rfl (by decide) (by decide) rfl
    · exact key _ 2 e rfl (by decide) (by decide) rfl
    · exact key _ 40 e rfl (by decide) (by decide) rfl
theorem z_done (d : Nat) {C : Nat → Int32} {z t p : Nat} {P o : List Int32} {σ : xS} (i2 : Int32) (h : z_YS C z t P o p σ) (hP : ∀ a ∈ P, 1 ≤ z_rank a) (hk : (z_tok C z p).2.2.1 = 59) : ∃ τ, x_f (d + 4) 149 14 [some (.inr (.inr (some 78))), some (.inl 0), some (.inl i2), none] [] σ = some (some (.inl 1), τ) ∧ x_fr (z_yw t) x_w0 σ τ ∧ z_YS C z t [] (o ++ P) (z_tok C z p).2.1 τ := by
  obtain ⟨σ1, f1, y1, g2, -, r2, -⟩ := z_opx d i2 h
  obtain ⟨σ6, e6, f6, y6, k6⟩ := z_m144 (d + 2) (q := 1) (by omega) (by omega) y1
  obtain ⟨p1, p2⟩ := z_pop_app [] hP
  rw [List.append_nil] at p1 p2
  rw [p1, p2] at y6
  have y7 : z_YS C z t [] (o ++ P) (z_tok C z p).2.1 σ6 := by
    have e : P ++ z_pd 1 [] = P := List.append_nil P
    rw [e] at y6
    exact y6
  refine ⟨σ6, ?_, f1.trans f6, y7⟩
  have h32 : x_I σ6 78 32 = 0 := y7.2.2.2.1
  rw [r2 (by rw [hk]; rfl), show (1 : Int32) = Int32.ofNat 1 from rfl, e6, x_cv_s, x_k78 y7.1.1, h32, if_pos rfl]
