/-! operators of the yard -/
def z_top (q : Nat) (S : List Int32) : Prop := ∀ c r, S = c :: r → z_rank c < q
theorem z_pop_top {q : Nat} : ∀ {S : List Int32}, z_top q S → z_pop q S = S ∧ z_pd q S = []
  | [], _ => ⟨rfl, rfl⟩
  | c :: S, h => by
    have := h c S rfl
    exact ⟨if_neg (by omega), if_neg (by omega)⟩
theorem z_pop_app {q : Nat} (S : List Int32) : ∀ {P : List Int32}, (∀ c ∈ P, q ≤ z_rank c) → z_pop q (P ++ S) = z_pop q S ∧ z_pd q (P ++ S) = P ++ z_pd q S
  | [], _ => ⟨rfl, rfl⟩
  | c :: P, h => by
    have hc := h c (List.mem_cons_self ..)
    obtain ⟨i1, i2⟩ := z_pop_app S (P := P) (fun c hc => h c (List.mem_cons_of_mem _ hc))
    refine ⟨?_, ?_⟩
    · show (if q ≤ z_rank c then z_pop q (P ++ S) else _) = _
      rw [if_pos hc, i1]
    · show (if q ≤ z_rank c then c :: z_pd q (P ++ S) else _) = _
      rw [if_pos hc, i2]; rfl
theorem z_pop_ne {q : Nat} (X : List Int32) : ∀ {P : List Int32} {c r}, z_pop q P = c :: r → z_pop q (P ++ X) = c :: (r ++ X)
  | [], c, r, h => by cases h
  | a :: P, c, r, h => by
    have u1 : z_pop q (a :: P) = if q ≤ z_rank a then z_pop q P else a :: P := rfl
    have u2 : z_pop q (a :: P ++ X) = if q ≤ z_rank a then z_pop q (P ++ X) else a :: P ++ X := rfl
    rw [u1] at h
    rw [u2]
    by_cases g : q ≤ z_rank a
    · rw [if_pos g] at h ⊢
      exact z_pop_ne X h
    · rw [if_neg g] at h ⊢
      cases h; rfl
/-- a sign pushed: rank q pops first -/
theorem z_147 (d : Nat) {C : Nat → Int32} {z t p : Nat} {S o : List Int32} {σ : xS} {c : Int32} (q : Nat) (hc : z_rank c = q) (hq : 1 ≤ q) (h4 : q ≠ 4) (hu : z_un c = false) (h : z_YS C z t S o p σ) (hb : o.length + 1 + S.length ≤ p) : ∃ τ, x_run (d + 3) 147 [.inr (.inr (some 78)), .inl c] σ = some (some (.inl 1), τ) ∧ x_fr (z_yw t) x_w0 σ τ ∧ z_YS C z t (c :: z_pop q S) (o ++ z_pd q S) p τ := by
  have q7 : q ≤ 7 := by have := z_rank_le c; omega
  have c0 : c ≠ 0 := by
    intro e
    rw [e] at hc
    have : z_rank 0 = 0 := rfl
    omega
  obtain ⟨σ1, e1, f1, y1, -⟩ := z_m144 d hq q7 h
  have len : ∀ S : List Int32, (z_pd q S).length + (z_pop q S).length = S.length := by
    intro S
    induction S with
    | nil => rfl
    | cons a S ih =>
      show (if q ≤ z_rank a then a :: z_pd q S else []).length + (if q ≤ z_rank a then z_pop q S else a :: S).length = _
      split
      · rw [List.length_cons, List.length_cons]; omega
      · rw [List.length_nil]; omega
  obtain ⟨τ, e2, f2, y2, -⟩ := z_push (d + 1) c hu c0 y1 (by rw [List.length_append]; have := len S; omega)
  refine ⟨τ, ?_, f1.trans f2, y2⟩
  have n4 : ¬ Int32.ofNat (z_rank c) = 4 := fun g => h4 (hc.symm.trans (x_inj32 (b := 4) (by omega) (by omega) g))
  rw [r147, e147_0, z_m142, x_ci_s, if_neg n4, z_m142, x_ci_s, x_feq, e147_17, x_der_s, x_k78 h.1.1, hc, e1, x_cv_s, z_m142, x_ci_s, if_neg n4, x_k78 y1.1.1, e2, x_cv_s]
theorem z_147c (d : Nat) {C : Nat → Int32} {z t p : Nat} {S o : List Int32} {σ : xS} {c : Int32} (hc : z_rank c = 4) (hu : z_un c = false) (h : z_YS C z t S o p σ) (hb : o.length + 1 + S.length ≤ p) : ((∃ a r, z_pop 5 S = a :: r ∧ z_rank a = 4) ∧ ∃ τ, x_run (d + 3) 147 [.inr (.inr (some 78)), .inl c] σ = some (some (.inl 0), τ) ∧ x_fr (z_yw t) x_w0 σ τ ∧ x_I τ 78 27 = x_I σ 78 27) ∨ ((∀ a r, z_pop 5 S = a :: r → z_rank a ≠ 4) ∧ ∃ τ, x_run (d + 3) 147 [.inr (.inr (some 78)), .inl c] σ = some (some (.inl 1), τ) ∧ x_fr (z_yw t) x_w0 σ τ ∧ z_YS C z t (c :: z_pop 5 S) (o ++ z_pd 5 S) p τ) := by
  have c0 : c ≠ 0 := by
    intro e
    rw [e] at hc
    exact absurd hc (by decide)
  obtain ⟨σ1, e1, f1, y1, k1⟩ := z_m144 d (q := 5) (by omega) (by omega) h
  have hG1 := y1.1.1
  have len : ∀ S : List Int32, (z_pd 5 S).length + (z_pop 5 S).length = S.length := by
    intro S
    induction S with
    | nil => rfl
    | cons a S ih =>
      show (if 5 ≤ z_rank a then a :: z_pd 5 S else []).length + (if 5 ≤ z_rank a then z_pop 5 S else a :: S).length = _
      split
      · rw [List.length_cons, List.length_cons]; omega
      · rw [List.length_nil]; omega
  have hl := len S
  obtain ⟨τ, e2, f2, y2, -⟩ := z_push (d + 1) c hu c0 y1 (by rw [List.length_append]; omega)
  have p4 : Int32.ofNat (z_rank c) = 4 := by rw [hc]; rfl
  have pre : ∀ R : Option xR, (if Int32.ofNat (z_pop 5 S).length ≤ 0 then (some (some (.inl 1), τ)) else (x_der (x_Q σ1 78 31) fun a7 => x_ak σ1 a7 11 fun n8 => x_ix (Int32.ofNat (z_pop 5 S).length - 1) n8 <| (x_ci (x_run (d + 2) 142 [.inl (x_I σ1 a7 (Int32.ofNat (z_pop 5 S).length - 1).toNatClampNeg)] σ1) fun x10 σ9 => (if x10 = 4 then (some (some (.inl 0), σ9)) else (x_ck σ9 78 10 <| x_cv (x_run (d + 2) 145 [.inr (.inr (some 78)), .inl c] σ9) fun σ11 => (some (some (.inl 1), σ11))))))) = R → x_run (d + 3) 147 [.inr (.inr (some 78)), .inl c] σ = R := by
    intro R e
    rw [r147, e147_0, z_m142, x_ci_s, if_pos p4, x_feq, e147_17, x_der_s, x_k78 h.1.1, show (5 : Int32) = Int32.ofNat 5 from rfl, e1, x_cv_s, z_m142, x_ci_s, if_pos p4, x_k78 hG1, y1.2.2.2.1, x_k78 hG1, e2, x_cv_s, x_k78 hG1, x_k78 hG1]
    exact e
  cases hS : z_pop 5 S with
  | nil =>
    refine Or.inr ⟨fun a r e => (by cases e), τ, pre _ ?_, f1.trans f2, by rw [hS] at y2; exact y2⟩
    rw [hS]
    rfl
  | cons a r =>
    have hz := y1.2.2.2.2.2.2.2.2.2.2.1
    have hp := y1.2.2.2.2.2.2.2.2.2.1
    have hb1 := y1.2.2.2.2.2.2.2.2.1
    have hs := y1.2.2.2.2.2.2.1
    rw [hS] at hs hb1
    rw [List.length_cons] at hb1
    have ha : x_I σ1 91 r.length = a := hs.1
    have nz : ¬ Int32.ofNat (r.length + 1) ≤ 0 := fun g => absurd ((x_le (b := 0) (by omega) (by omega)).mp g) (by omega)
    have go : ∀ R : Option xR, (if Int32.ofNat (z_rank a) = 4 then (some (some (.inl 0), σ1)) else some (some (.inl 1), τ)) = R → x_run (d + 3) 147 [.inr (.inr (some 78)), .inl c] σ = R := by
      intro R e
      refine pre R ?_
      rw [hS, List.length_cons, if_neg nz, x_q78_31 hG1, x_der_s, x_k91 hG1, x_p1, x_ixk (by omega) (by omega), x_tn (by omega), ha, z_m142, x_ci_s, x_k78 hG1, e2, x_cv_s]
      exact e
    by_cases c4 : z_rank a = 4
    · refine Or.inl ⟨⟨a, r, rfl, c4⟩, σ1, go _ (if_pos (by rw [c4]; rfl)), f1, k1 27 (by omega) (by omega) (by omega)⟩
    · refine Or.inr ⟨fun a' r' e => (by cases e; exact c4), τ, go _ (if_neg (fun g => c4 (x_inj32 (b := 4) (by have := z_rank_le a; omega) (by omega) g))), f1.trans f2, by rw [hS] at y2; exact y2⟩
theorem z_m148 (d : Nat) {σ : xS} (hG : x_G σ) {v : Int32} (h : x_I σ 78 28 = v) : x_run (d + 1) 148 [.inr (.inr (some 78))] σ = some (some (.inl (if v = 4 then 11 else if v = 5 then 12 else if v = 60 then 14 else if v = 61 then 15 else if v = 43 then 16 else if v = 45 then 17 else if v = 42 then 18 else -1)), σ) := by
  rw [r148, e148_0, x_k78 hG, h, x_k78 hG, x_k78 hG, x_k78 hG, x_k78 hG, x_k78 hG, x_k78 hG]
  by_cases c1 : v = 4
  · rw [if_pos c1, if_pos c1]
  rw [if_neg c1, if_neg c1]
  by_cases c2 : v = 5
  · rw [if_pos c2, if_pos c2]
  rw [if_neg c2, if_neg c2]
  by_cases c3 : v = 60
  · rw [if_pos c3, if_pos c3]
  rw [if_neg c3, if_neg c3]
  by_cases c4 : v = 61
  · rw [if_pos c4, if_pos c4]
  rw [if_neg c4, if_neg c4]
  by_cases c5 : v = 43
  · rw [if_pos c5, if_pos c5]
  rw [if_neg c5, if_neg c5]
  by_cases c6 : v = 45
  · rw [if_pos c6, if_pos c6]
  rw [if_neg c6, if_neg c6]
  by_cases c7 : v = 42
  · rw [if_pos c7, if_pos c7]
  rw [if_neg c7, if_neg c7]
