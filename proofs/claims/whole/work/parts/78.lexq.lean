/-! the reference's lexer -/
def z_wc (i : Nat) : Nat := if i < 3 then 1001 + i else if i < 9 then 1004 + i else 995 + i
theorem z_tb : ∀ i, i < 12 → ∀ k, k < 8 → (90, 8 * i + k, (x_TX (z_wc i)).getD k 32) ∈ x_Il := by decide +kernel
theorem z_wlen : ∀ i, i < 12 → (x_TX (z_wc i)).length ≤ 8 := by decide +kernel
theorem z_wlet : ∀ i, i < 12 → ∀ k, k < (x_TX (z_wc i)).length → z_let ((x_TX (z_wc i)).getD k 32) = true := by decide +kernel
theorem z_row {C : Nat → Int32} {s n i : Nat} (hi : i < 12) (hl : ∀ k, k < n → z_let (C (s + k)) = true) : (n ≤ 8 ∧ ∀ k, k < 8 → (x_TX (z_wc i)).getD k 32 = if n ≤ k then 32 else C (s + k)) ↔ x_TX (z_wc i) = z_wl C s n := by
  have w8 := z_wlen i hi
  have wl := z_wlet i hi
  generalize x_TX (z_wc i) = Wd at *
  constructor
  · rintro ⟨h8, h⟩
    have len : Wd.length = n := by
      rcases Nat.lt_trichotomy Wd.length n with c | c | c
      · have e := h Wd.length (by omega)
        rw [if_neg (by omega), List.getD_eq_getElem?_getD, List.getElem?_eq_none (Nat.le_refl _)] at e
        have l := hl Wd.length c
        rw [← e] at l
        exact absurd l (by decide)
      · exact c
      · have e := h n (by omega)
        rw [if_pos (Nat.le_refl _)] at e
        have l := wl n c
        rw [e] at l
        exact absurd l (by decide)
    rw [← len]
    refine (z_wl_eq Wd).mpr (fun k hk => ?_)
    have e := h k (by omega)
    rw [if_neg (by omega)] at e
    rw [← e, List.getD_eq_getElem?_getD, List.getD_eq_getElem?_getD, List.getElem?_eq_getElem hk]
    rfl
  · intro e
    have len : Wd.length = n := by rw [e, z_wl_len]
    rw [← len] at e
    have g := (z_wl_eq Wd).mp e
    refine ⟨by omega, fun k hk => ?_⟩
    by_cases c : n ≤ k
    · rw [if_pos c, List.getD_eq_getElem?_getD, List.getElem?_eq_none (by omega)]; rfl
    · rw [if_neg c, ← g k (by omega), List.getD_eq_getElem?_getD, List.getD_eq_getElem?_getD, List.getElem?_eq_getElem (show k < Wd.length by omega)]; rfl
theorem z_140b (d : Nat) {z : Nat} {C : Nat → Int32} (hz : z ≤ 160) {σ : xS} (h : z_tpr z C σ) {s e : Nat} (hs : s ≤ e) (he : e ≤ z) {i : Nat} (hi : i < 12) : ∀ q k, k + q = 8 → ((∀ j, k ≤ j → j < 8 → (x_TX (z_wc i)).getD j 32 = if e - s ≤ j then 32 else C (s + j)) ∧ x_f d 140 26 [some (.inr (.inr (some 78))), some (.inl (Int32.ofNat s)), some (.inl (Int32.ofNat e)), some (.inl (Int32.ofNat i)), some (.inl 1), some (.inl (Int32.ofNat k))] [] σ = some (some (.inl (Int32.ofNat i)), σ)) ∨ ((∃ j, k ≤ j ∧ j < 8 ∧ (x_TX (z_wc i)).getD j 32 ≠ if e - s ≤ j then 32 else C (s + j)) ∧ x_f d 140 26 [some (.inr (.inr (some 78))), some (.inl (Int32.ofNat s)), some (.inl (Int32.ofNat e)), some (.inl (Int32.ofNat i)), some (.inl 1), some (.inl (Int32.ofNat k))] [] σ = x_f d 140 2 [some (.inr (.inr (some 78))), some (.inl (Int32.ofNat s)), some (.inl (Int32.ofNat e)), some (.inl (Int32.ofNat (i + 1))), none, none] [] σ)
  | 0, k, hk => by
    have : k = 8 := by omega
    subst this
    refine Or.inl ⟨fun j h1 h2 => absurd h2 (by omega), ?_⟩
    rw [x_feq, e140_26, if_pos (by decide), if_neg (by decide)]
  | q + 1, k, hk => by
    have hG := h.1
    have one : ¬ (1 : Int32) = 0 := by decide
    have k8 : ¬ (8 : Int32) ≤ Int32.ofNat k := fun g => absurd ((x_le (a := 8) (by omega) (by omega)).mp g) (by omega)
    have tb := h.2.2.2.2 _ (z_tb i hi k (by omega)) rfl
    have tb' : x_I σ 90 (8 * i + k) = (x_TX (z_wc i)).getD k 32 := tb
    have ix : (8 : Int32) * Int32.ofNat i + Int32.ofNat k = Int32.ofNat (8 * i + k) := by
      rw [show (8 : Int32) = Int32.ofNat 8 from rfl, ← Int32.ofNat_mul, ← Int32.ofNat_add]
    have stop : x_f d 140 26 [some (.inr (.inr (some 78))), some (.inl (Int32.ofNat s)), some (.inl (Int32.ofNat e)), some (.inl (Int32.ofNat i)), some (.inl 0), some (.inl (Int32.ofNat (k + 1)))] [] σ = x_f d 140 2 [some (.inr (.inr (some 78))), some (.inl (Int32.ofNat s)), some (.inl (Int32.ofNat e)), some (.inl (Int32.ofNat (i + 1))), none, none] [] σ := by
      rw [x_feq, e140_26, if_pos rfl, x_s1]
      split <;> rfl
    have pre : x_f d 140 26 [some (.inr (.inr (some 78))), some (.inl (Int32.ofNat s)), some (.inl (Int32.ofNat e)), some (.inl (Int32.ofNat i)), some (.inl 1), some (.inl (Int32.ofNat k))] [] σ = if (x_TX (z_wc i)).getD k 32 = (if e - s ≤ k then 32 else C (s + k)) then x_f d 140 26 [some (.inr (.inr (some 78))), some (.inl (Int32.ofNat s)), some (.inl (Int32.ofNat e)), some (.inl (Int32.ofNat i)), some (.inl 1), some (.inl (Int32.ofNat (k + 1)))] [] σ else x_f d 140 26 [some (.inr (.inr (some 78))), some (.inl (Int32.ofNat s)), some (.inl (Int32.ofNat e)), some (.inl (Int32.ofNat i)), some (.inl 0), some (.inl (Int32.ofNat (k + 1)))] [] σ := by
      rw [x_feq, e140_26, if_neg k8, if_neg one, x_k78 hG, x_q78_30 hG, x_der_s, x_k90 hG, ix, x_ixk (by omega) (by omega), x_tn (by omega), tb', ← Int32.ofNat_add, x_s1]
      by_cases c : e - s ≤ k
      · rw [if_pos ((x_le (by omega) (by omega)).mpr (by omega)), if_pos c]
      · rw [if_neg (fun g => c (by have := (x_le (by omega) (by omega)).mp g; omega)), if_neg c, x_k78 hG, x_q78_8 hG, x_der_s, x_k82 hG, x_ixk (by omega) (by omega), x_tn (by omega), (h.2.2.2.1 (s + k) (by omega)).2]
    by_cases c : (x_TX (z_wc i)).getD k 32 = (if e - s ≤ k then 32 else C (s + k))
    · rw [pre, if_pos c]
      rcases z_140b d hz h hs he hi q (k + 1) (by omega) with ⟨g, r⟩ | ⟨⟨j, j1, j2, j3⟩, r⟩
      · refine Or.inl ⟨fun j h1 h2 => ?_, r⟩
        by_cases jk : j = k
        · rw [jk]; exact c
        · exact g j (by omega) h2
      · exact Or.inr ⟨⟨j, by omega, j2, j3⟩, r⟩
    · rw [pre, if_neg c]
      exact Or.inr ⟨⟨k, Nat.le_refl _, by omega, c⟩, stop⟩
def z_ri (L : List Int32) : Nat → Nat → Nat
  | 0, _ => 12
  | q + 1, i => if x_TX (z_wc i) = L then i else z_ri L q (i + 1)
theorem z_l140 (d : Nat) {z : Nat} {C : Nat → Int32} (hz : z ≤ 160) {σ : xS} (h : z_tpr z C σ) {s e : Nat} (hs : s ≤ e) (he : e ≤ z) (hl : ∀ k, k < e - s → z_let (C (s + k)) = true) : ∀ q i, i + q = 12 → x_f d 140 2 [some (.inr (.inr (some 78))), some (.inl (Int32.ofNat s)), some (.inl (Int32.ofNat e)), some (.inl (Int32.ofNat i)), none, none] [] σ = some (some (.inl (Int32.ofNat (z_ri (z_wl C s (e - s)) q i))), σ)
  | 0, i, hi => by
    have : i = 12 := by omega
    subst this
    rw [x_feq, e140_2, if_pos (by decide)]
    rfl
  | q + 1, i, hi => by
    have nxt := z_l140 d hz h hs he hl q (i + 1) (by omega)
    have rw1 := z_row (C := C) (s := s) (n := e - s) (i := i) (by omega) hl
    have us : z_ri (z_wl C s (e - s)) (q + 1) i = if x_TX (z_wc i) = z_wl C s (e - s) then i else z_ri (z_wl C s (e - s)) q (i + 1) := rfl
    have k12 : ¬ (12 : Int32) ≤ Int32.ofNat i := fun g => absurd ((x_le (a := 12) (by omega) (by omega)).mp g) (by omega)
    rw [us, x_feq, e140_2, if_neg k12, x_sb hs (by omega)]
    by_cases c8 : e - s ≤ 8
    · rw [if_neg (show ¬ (8 : Int32) < Int32.ofNat (e - s) from fun g => absurd (Int32.not_le.mpr g) (fun k => k ((x_le (b := 8) (by omega) (by omega)).mpr c8)))]
      rcases z_140b d hz h hs he (i := i) (by omega) 8 0 (by omega) with ⟨g, r⟩ | ⟨⟨j, j1, j2, j3⟩, r⟩
      · rw [if_pos (rw1.mp ⟨c8, fun k hk => g k (Nat.zero_le _) hk⟩)]
        exact r
      · rw [if_neg (fun e => j3 ((rw1.mpr e).2 j j2))]
        exact r.trans nxt
    · rw [if_pos (show (8 : Int32) < Int32.ofNat (e - s) from Int32.not_le.mp (fun k => c8 ((x_le (b := 8) (by omega) (by omega)).mp k))), if_neg (fun e => c8 (rw1.mpr e).1), x_feq, e140_26, if_neg (by decide), if_pos rfl, if_pos rfl, x_s1]
      exact nxt
def z_ix (k : Nat) : Nat := if k = 301 then 12 else if k ≤ 312 then k - 310 else if k ≤ 315 then k - 304 else k - 317
theorem z_rik (L : List Int32) : z_ri L 12 0 = z_ix (z_kw L) := by
  by_cases c1 : x_TX 1001 = L
  · subst c1; decide
  by_cases c2 : x_TX 1002 = L
  · subst c2; decide
  by_cases c3 : x_TX 1003 = L
  · subst c3; decide
  by_cases c4 : x_TX 1004 = L
  · subst c4; decide
  by_cases c5 : x_TX 1005 = L
  · subst c5; decide
  by_cases c6 : x_TX 1006 = L
  · subst c6; decide
  by_cases c7 : x_TX 1007 = L
  · subst c7; decide
  by_cases c8 : x_TX 1008 = L
  · subst c8; decide
  by_cases c9 : x_TX 1009 = L
  · subst c9; decide
  by_cases c10 : x_TX 1010 = L
  · subst c10; decide
  by_cases c11 : x_TX 1011 = L
  · subst c11; decide
  by_cases c12 : x_TX 1012 = L
  · subst c12; decide
  unfold z_kw
  rw [if_neg c1, if_neg c2, if_neg c3, if_neg c4, if_neg c5, if_neg c6, if_neg c7, if_neg c8, if_neg c9, if_neg c10, if_neg c11, if_neg c12]
  show (if x_TX 1001 = L then 0 else if x_TX 1002 = L then 1 else if x_TX 1003 = L then 2 else if x_TX 1007 = L then 3 else if x_TX 1008 = L then 4 else if x_TX 1009 = L then 5 else if x_TX 1010 = L then 6 else if x_TX 1011 = L then 7 else if x_TX 1012 = L then 8 else if x_TX 1004 = L then 9 else if x_TX 1005 = L then 10 else if x_TX 1006 = L then 11 else 12) = 12
  rw [if_neg c1, if_neg c2, if_neg c3, if_neg c7, if_neg c8, if_neg c9, if_neg c10, if_neg c11, if_neg c12, if_neg c4, if_neg c5, if_neg c6]
theorem z_m140 (d : Nat) {z : Nat} {C : Nat → Int32} (hz : z ≤ 160) {σ : xS} (h : z_tpr z C σ) {s e : Nat} (hs : s ≤ e) (he : e ≤ z) (hl : ∀ k, k < e - s → z_let (C (s + k)) = true) : x_run (d + 1) 140 [.inr (.inr (some 78)), .inl (Int32.ofNat s), .inl (Int32.ofNat e)] σ = some (some (.inl (Int32.ofNat (z_ix (z_kw (z_wl C s (e - s)))))), σ) := by
  rw [r140, e140_0, ← z_rik]
  exact z_l140 d hz h hs he hl 12 0 (by omega)
