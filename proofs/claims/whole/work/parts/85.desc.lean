/-! the component's descent: its pieces -/
def z_oc (o : List Int32) (σ : xS) : Prop := ∀ j c, o[j]? = some c → x_I σ 25 j = x_enc c
theorem z_oc.to {o : List Int32} {σ τ : xS} (e : ∀ j, j < o.length → x_I τ 25 j = x_I σ 25 j) (h : z_oc o σ) : z_oc o τ := fun j c hj => by
  have l : j < o.length := by
    rcases Nat.lt_or_ge j o.length with l | l
    · exact l
    · rw [List.getElem?_eq_none l] at hj; cases hj
  exact (e j l).trans (h j c hj)
def z_CS (C : Nat → Int32) (z n : Nat) (o : List Int32) (m p : Nat) (σ : xS) : Prop := z_tpe z C σ ∧ z_cur (z_tok C z p) σ ∧ x_I σ 22 7 = Int32.ofNat n ∧ x_I σ 24 4 = Int32.ofNat o.length ∧ z_oc o σ ∧ o.length + m ≤ p ∧ p ≤ z ∧ z ≤ 160 ∧ n ≤ 5
def z_cw (b u : Nat) : Prop := (b = 22 ∧ 3 ≤ u ∧ u ≤ 7) ∨ (b = 24 ∧ u = 4) ∨ b = 25
theorem z_tpe.cw {V : Nat → Nat → Prop} {z : Nat} {C : Nat → Int32} {σ τ : xS} (f : x_fr z_cw V σ τ) (h : z_tpe z C σ) : z_tpe z C τ := h.fr f (by unfold z_cw; omega) (by unfold z_cw; omega) (fun u => by unfold z_cw; omega)
theorem z_adv (d : Nat) {C : Nat → Int32} {z n m p : Nat} {o : List Int32} {σ : xS} (h : z_CS C z n o m p σ) (hk : (z_tok C z p).2.2.1 ≠ 300) : ∃ τ, x_run (d + 3) 49 [.inr (.inr (some 22))] σ = some (none, τ) ∧ x_fr z_cw x_w0 σ τ ∧ z_CS C z n o (m + 1) (z_tok C z p).2.1 τ := by
  obtain ⟨tp, ⟨c1, c2, c3, c4⟩, h7, h4, ho, hb, hp, hz, hn⟩ := h
  have b := z_tok_b C hp
  obtain ⟨τ, e, f, g⟩ := z_m49 d hz b.2.1 tp c2
  have F : ∀ b u, ¬ (b = 22 ∧ 3 ≤ u ∧ u ≤ 6) → x_I τ b u = x_I σ b u := fun b u hu => f.I (by unfold z_lx; omega)
  exact ⟨τ, e, f.mono (fun b u h => Or.inl ⟨h.1, h.2.1, by have := h.2.2; omega⟩) (fun _ _ h => h), tp.lx f, g, (F _ _ (by omega)).trans h7, (F _ _ (by omega)).trans h4, z_oc.to (fun j _ => F _ _ (by omega)) ho, by have := b.2.2.2 hk; omega, b.2.1, hz, hn⟩
theorem z_m58 (d : Nat) {C : Nat → Int32} {z n m p : Nat} {o : List Int32} {σ : xS} (c : Int32) (h : z_CS C z n o (m + 1) p σ) : ∃ τ, x_run (d + 2) 58 [.inr (.inr (some 24)), .inl (x_enc c)] σ = some (none, τ) ∧ x_fr z_cw x_w0 σ τ ∧ z_CS C z n (o ++ [c]) m p τ := by
  obtain ⟨tp, ⟨c1, c2, c3, c4⟩, h7, h4, ho, hb, hp, hz, hn⟩ := h
  have hG := tp.1
  let σ1 := x_si σ 25 o.length (x_enc c)
  have hG1 : x_G σ1 := hG
  have f : x_fr z_cw x_w0 σ (x_si σ1 24 4 (Int32.ofNat (o.length + 1))) := ((x_fr.refl _ _ σ).si _ (Or.inr (Or.inr rfl))).si _ (Or.inr (Or.inl ⟨rfl, rfl⟩))
  have K : ∀ b u, ¬ (b = 25 ∧ u = o.length) → ¬ (b = 24 ∧ u = 4) → x_I (x_si σ1 24 4 (Int32.ofNat (o.length + 1))) b u = x_I σ b u := fun b u h1 h2 => (x_Isi _ _ _ _ _ _).trans ((if_neg h2).trans ((x_Isi _ _ _ _ _ _).trans (if_neg h1)))
  refine ⟨_, ?_, f, tp.cw f, ⟨(K _ _ (by omega) (by omega)).trans c1, (K _ _ (by omega) (by omega)).trans c2, (K _ _ (by omega) (by omega)).trans c3, fun e => (K _ _ (by omega) (by omega)).trans (c4 e)⟩, (K _ _ (by omega) (by omega)).trans h7, ?_, fun j e hj => ?_, by rw [List.length_append]; show o.length + 1 + m ≤ p; omega, hp, hz, hn⟩
  · rw [r58, e58_0, x_k24 hG, x_k24 hG, x_q24_0 hG, h4, m130 d hG (a := 25) (n := 160) rfl (by omega) (by omega), x_cv_s, x_k24 hG1, x_k24 hG1, show x_I (x_si σ 25 o.length (x_enc c)) 24 4 = Int32.ofNat o.length from (x_Isi _ _ _ _ _ _).trans ((if_neg (by omega)).trans h4), x_s1]
  · rw [List.length_append]; exact (x_Isi _ _ _ _ _ _).trans (if_pos ⟨rfl, rfl⟩)
  · refine (x_Isi _ _ _ _ _ _).trans ((if_neg (by omega)).trans ((x_Isi _ _ _ _ _ _).trans ?_))
    rcases Nat.lt_trichotomy j o.length with c1 | c1 | c1
    · rw [if_neg (by omega)]
      rw [List.getElem?_append_left c1] at hj
      exact ho j e hj
    · rw [if_pos ⟨rfl, c1⟩]
      rw [c1, List.getElem?_append_right (Nat.le_refl _), Nat.sub_self] at hj
      cases hj; rfl
    · rw [List.getElem?_append_right (by omega), List.getElem?_eq_none (by simp; omega)] at hj
      cases hj
theorem z_m47 (d : Nat) {C : Nat → Int32} {z n m p : Nat} {o : List Int32} {σ : xS} (h : z_CS C z n o m p σ) (hk : (z_tok C z p).2.2.1 ≠ 300) : (n = 5 ∧ x_run (d + 4) 47 [.inr (.inr (some 22))] σ = some (some (.inl 0), σ)) ∨ (n < 5 ∧ ∃ τ, x_run (d + 4) 47 [.inr (.inr (some 22))] σ = some (some (.inl 1), τ) ∧ x_fr z_cw x_w0 σ τ ∧ z_CS C z (n + 1) o (m + 1) (z_tok C z p).2.1 τ) := by
  obtain ⟨tp, ⟨c1, c2, c3, c4⟩, h7, h4, ho, hb, hp, hz, hn⟩ := id h
  have hG := tp.1
  by_cases c : n = 5
  · refine Or.inl ⟨c, ?_⟩
    rw [r47, e47_0, x_k22 hG, h7, c, if_neg (by decide)]
  · refine Or.inr ⟨by omega, ?_⟩
    let σ1 := x_si σ 22 7 (Int32.ofNat (n + 1))
    have hG1 : x_G σ1 := hG
    have f : x_fr z_cw x_w0 σ σ1 := (x_fr.refl _ _ σ).si _ (Or.inl ⟨rfl, by omega, by omega⟩)
    have K : ∀ b u, ¬ (b = 22 ∧ u = 7) → x_I σ1 b u = x_I σ b u := fun b u h1 => (x_Isi _ _ _ _ _ _).trans (if_neg h1)
    have h1 : z_CS C z (n + 1) o m p σ1 := ⟨tp.cw f, ⟨(K _ _ (by omega)).trans c1, (K _ _ (by omega)).trans c2, (K _ _ (by omega)).trans c3, fun e => (K _ _ (by omega)).trans (c4 e)⟩, (x_Isi _ _ _ _ _ _).trans (if_pos ⟨rfl, rfl⟩), (K _ _ (by omega)).trans h4, z_oc.to (fun j _ => K _ _ (by omega)) ho, hb, hp, hz, by omega⟩
    obtain ⟨τ, e, f2, g⟩ := z_adv d h1 hk
    refine ⟨τ, ?_, f.trans f2, g⟩
    rw [r47, e47_0, x_k22 hG, h7, if_pos (show Int32.ofNat n < 5 from Int32.not_le.mp (fun k => c (by have := (x_le (a := 5) (by omega) (by omega)).mp k; omega))), x_k22 hG, x_k22 hG, x_s1, x_k22 hG1, e, x_cv_s]
/-- the nest let go -/
theorem z_lessn {C : Nat → Int32} {z n m p : Nat} {o : List Int32} {σ : xS} (h : z_CS C z (n + 1) o m p σ) : x_I σ 22 7 - 1 = Int32.ofNat n ∧ z_CS C z n o m p (x_si σ 22 7 (Int32.ofNat n)) ∧ x_fr z_cw x_w0 σ (x_si σ 22 7 (Int32.ofNat n)) := by
  obtain ⟨tp, ⟨c1, c2, c3, c4⟩, h7, h4, ho, hb, hp, hz, hn⟩ := id h
  have f : x_fr z_cw x_w0 σ (x_si σ 22 7 (Int32.ofNat n)) := (x_fr.refl _ _ σ).si _ (Or.inl ⟨rfl, by omega, by omega⟩)
  have K : ∀ b u, ¬ (b = 22 ∧ u = 7) → x_I (x_si σ 22 7 (Int32.ofNat n)) b u = x_I σ b u := fun b u h1 => (x_Isi _ _ _ _ _ _).trans (if_neg h1)
  exact ⟨by rw [h7, x_p1], ⟨tp.cw f, ⟨(K _ _ (by omega)).trans c1, (K _ _ (by omega)).trans c2, (K _ _ (by omega)).trans c3, fun e => (K _ _ (by omega)).trans (c4 e)⟩, (x_Isi _ _ _ _ _ _).trans (if_pos ⟨rfl, rfl⟩), (K _ _ (by omega)).trans h4, z_oc.to (fun j _ => K _ _ (by omega)) ho, hb, hp, hz, by omega⟩, f⟩
theorem z_m48 (d : Nat) {C : Nat → Int32} {z n m p : Nat} {o : List Int32} {σ : xS} (k : Nat) (hk : k < 2 ^ 31) (k3 : k ≠ 300) (h : z_CS C z n o m p σ) : ((z_tok C z p).2.2.1 ≠ k ∧ x_run (d + 4) 48 [.inr (.inr (some 22)), .inl (Int32.ofNat k)] σ = some (some (.inl 0), σ)) ∨ ((z_tok C z p).2.2.1 = k ∧ ∃ τ, x_run (d + 4) 48 [.inr (.inr (some 22)), .inl (Int32.ofNat k)] σ = some (some (.inl 1), τ) ∧ x_fr z_cw x_w0 σ τ ∧ z_CS C z n o (m + 1) (z_tok C z p).2.1 τ) := by
  obtain ⟨tp, ⟨c1, c2, c3, c4⟩, -⟩ := id h
  have hG := tp.1
  have kk := z_tok_k C z p
  have kb : (z_tok C z p).2.2.1 < 1000 := by unfold z_knd at kk; omega
  by_cases c : (z_tok C z p).2.2.1 = k
  · refine Or.inr ⟨c, ?_⟩
    obtain ⟨τ, e, f, g⟩ := z_adv d h (by omega)
    refine ⟨τ, ?_, f, g⟩
    rw [r48, e48_0, x_k22 hG, c3, if_pos (by rw [c]), x_k22 hG, e, x_cv_s]
  · refine Or.inl ⟨c, ?_⟩
    rw [r48, e48_0, x_k22 hG, c3, if_neg (fun g => c (x_inj32 (by omega) hk g))]
/-- a level's promise -/
def z_CP (D j L k : Nat) : Prop := ∀ (C : Nat → Int32) (z : Nat) (o : List Int32) (m p : Nat) (σ : xS), z_CS C z (5 - k) o m p σ → ∃ τ p' r, z_D (z_tok C z) L false k p [] p' r ∧ x_run D j [.inr (.inr (some 22))] σ = some (some (.inl (if r = none then 0 else 1)), τ) ∧ x_fr z_cw x_w0 σ τ ∧ (r = none → z_cur (z_tok C z p') τ) ∧ ∀ w, r = some w → z_CS C z (5 - k) (o ++ w) m p' τ
