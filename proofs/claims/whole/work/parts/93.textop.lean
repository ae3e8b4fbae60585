/-! text -/
def z_chg (t b u : Nat) : Prop := (b = 22 ∧ 2 ≤ u ∧ u ≤ 7) ∨ b = 24 ∨ b = 25 ∨ b = 27 ∨ b = x_tc t + 1 ∨ b = x_tc t + 3 ∨ (b = x_tc t ∧ u = 4) ∨ (b = 0 ∧ u = 7) ∨ (b = 78 ∧ (u = 9 ∨ u = 12 ∨ (26 ≤ u ∧ u ≤ 34))) ∨ b = 91 ∨ (b = 83 ∧ 200 * t ≤ u) ∨ (b = 84 ∧ 4 * t ≤ u)
theorem z_tc_lt {k t : Nat} (h : k < t) : x_tc k + 5 ≤ x_tc t := by
  cases t with
  | zero => omega
  | succ t =>
    cases k with
    | zero => show 29 + 5 ≤ 45 + 5 * t; omega
    | succ k => show 45 + 5 * k + 5 ≤ 45 + 5 * t; omega
theorem z_lt_t {v : Int32} {t t' : Nat} (h : v < Int32.ofNat t) (ht : t ≤ t') (h6 : t' ≤ 6) : v < Int32.ofNat t' := by
  have := (x_le (a := t) (b := t') (by omega) (by omega)).mpr ht
  rw [Int32.lt_iff_toInt_lt] at h ⊢
  rw [Int32.le_iff_toInt_le] at this
  omega
theorem z_num_t {σ : xS} {w y f g p r t t' : Nat} (h : x_num σ w y f g p r t) (ht : t ≤ t') (h6 : t' ≤ 6) : x_num σ w y f g p r t' := by
  obtain ⟨a, b, c, d, e1, e2, e3⟩ := h
  exact ⟨a, b, c, d, e1, e2, z_lt_t e3 ht h6⟩
theorem z_tok_1 (C : Nat → Int32) {z p : Nat} (hp : p ≤ z) : (z_tok C z p).1 ≤ z := by
  have b := z_rn_b z_spc C (z - p) p
  unfold z_tok
  generalize z_rn z_spc C (z - p) p = s at *
  have hs : s ≤ z := by omega
  by_cases c0 : s = z
  · rw [if_pos c0]; exact hs
  · rw [if_neg c0]
    by_cases c1 : z_let (C s) = true
    · rw [if_pos c1]; exact hs
    · rw [if_neg c1]
      by_cases c2 : z_dig (C s) = true
      · rw [if_pos c2]; exact hs
      · rw [if_neg c2]; exact hs
theorem z_E_le {C : Nat → Int32} {z i p p' : Nat} {ws : List (List Int32)} {r : Option (List (List Int32))} (h : z_E (z_tok C z) i p ws p' r) : p ≤ z → p' ≤ z := by
  induction h using z_E_ind with
  | fin _ => exact id
  | finX _ => exact id
  | kw _ _ => exact id
  | bad _ _ dd => intro hp; exact (z_D_le dd (z_tok_b C hp).2.1).2
  | semi _ _ dd _ => intro hp; exact (z_D_le dd (z_tok_b C hp).2.1).2
  | go _ _ dd _ _ ih => intro hp; exact ih (z_tok_b C (z_D_le dd (z_tok_b C hp).2.1).2).2.1
theorem z_endR {σ τ : xS} {n t z t' : Nat} (hP : x_Rp n t z σ) (hG : x_G τ) (ht6 : t < 6) (htt : t ≤ t') (h6 : t' ≤ 6) (e : ∀ b u, ¬ z_chg t b u → x_I τ b u = x_I σ b u) (k12 : x_I τ 78 12 = Int32.ofNat t') (k7 : x_I τ 0 7 = Int32.ofNat t') (k9 : x_I τ 78 9 = 0) (k22 : x_I τ 22 2 = 0) (hnew : ∀ k, t ≤ k → k < t' → x_txt τ k) : x_R τ := by
  obtain ⟨hn, ht, hz, ⟨l1, l2⟩, ⟨t1, t2⟩, ⟨z1, z2⟩, hnum, hli, hb, htx, him, hsh, hw⟩ := hP
  obtain ⟨tc1, tc2, tc3⟩ := z_tcb ht6
  have e' : ∀ b u, ¬ ((b = 22 ∧ 2 ≤ u ∧ u ≤ 7) ∨ b = 24 ∨ b = 25 ∨ b = 27 ∨ b = x_tc t + 1 ∨ b = x_tc t + 3 ∨ (b = x_tc t ∧ u = 4) ∨ (b = 0 ∧ u = 7) ∨ (b = 78 ∧ (u = 9 ∨ u = 12 ∨ (26 ≤ u ∧ u ≤ 34))) ∨ b = 91 ∨ (b = 83 ∧ 200 * t ≤ u) ∨ (b = 84 ∧ 4 * t ≤ u)) → x_I τ b u = x_I σ b u := e
  refine ⟨hG, n, t', 0, hn, ⟨by omega, h6⟩, by omega, ⟨by rw [e' 78 0 (by omega)]; exact l1, by rw [e' 1 1 (by omega)]; exact l2⟩, ⟨k12, k7⟩, ⟨k9, k22⟩, ?_, fun l hl => ?_, fun k hk => absurd hk (Nat.not_lt_zero k), fun k hk => ?_, ?_, fun s hs => ?_, fun q hq hq2 => ?_⟩
  · exact z_num_t (x_num.at (e' 1 2 (by omega)) (e' 1 3 (by omega)) (e' 1 4 (by omega)) (e' 1 5 (by omega)) (e' 1 6 (by omega)) (e' 78 4 (by omega)) (e' 78 5 (by omega)) (e' 78 6 (by omega)) (e' 78 7 (by omega)) (e' 78 13 (by omega)) hnum) htt h6
  · exact ⟨x_row6.at (fun u => e' _ u (by omega)) (fun u => e' 81 u (by omega)) (hli l hl).1, x_kin.at (fun u => e' _ u (by omega)) (fun u => e' 79 u (by omega)) (fun u => e' 80 u (by omega)) (hli l hl).2⟩
  · by_cases c : k < t
    · obtain ⟨p0, p1, p2, ok, g0, g1, g2, hl, a0, a1, a2, a3, b0, b1, b2, cc⟩ := htx k c
      have kt := z_tc_lt c
      have kb := z_tcb (show k < 6 by omega)
      have E3 : ∀ u, x_I τ (x_tc k + 3) u = x_I σ (x_tc k + 3) u := fun u => e' _ u (by omega)
      have E1 : ∀ u, x_I τ (x_tc k + 1) u = x_I σ (x_tc k + 1) u := fun u => e' _ u (by omega)
      refine ⟨p0, p1, p2, ok, g0, g1, g2, hl, by rw [e' 84 _ (by omega)]; exact a0, by rw [e' 84 _ (by omega)]; exact a1, by rw [e' 84 _ (by omega)]; exact a2, by rw [e' 84 _ (by omega)]; exact a3, by rw [E3]; exact b0, by rw [E3]; exact b1, by rw [E3]; exact b2, fun j x hj => ?_⟩
      have jl : j < (p0 ++ (p1 ++ p2)).length := by
        rcases Nat.lt_or_ge j (p0 ++ (p1 ++ p2)).length with l | l
        · exact l
        · rw [List.getElem?_eq_none l] at hj; cases hj
      rw [e' 83 _ (by omega), E1]
      exact cc j x hj
    · exact hnew k (by omega) hk
  · have h := x_img.at hn (e' 0 3 (by omega)) (fun u _ _ => e' 78 u (by omega)) (fun u _ _ => e' 8 u (by omega)) (fun l hl u => e' _ u (by omega)) (fun u => e' 85 u (by omega)) (fun l _ => e' 79 l (by omega)) (fun l _ => e' 80 l (by omega)) him
    obtain ⟨i1, i2⟩ := h
    refine ⟨i1, i2.imp id ?_⟩
    rintro ⟨j1, i, j2, j3, j4, j5, j6⟩
    exact ⟨j1, i, j2, j3, j4, z_num_t j5 htt h6, j6⟩
  · exact x_she.at (fun u => e' _ u (by omega)) (fun u => e' _ u (by omega)) (e' 86 s (by omega)) (e' 87 s (by omega)) (fun k _ => e' 88 _ (by omega)) (hsh s hs)
  · rw [e' 90 _ (by omega)]; exact hw q hq hq2
theorem x_op_text (D : Nat) : ∀ (σ : xS) (as : List Int32), as.length = 0 → x_R σ → x_stp (D + 42) x_R false 79 150 as σ := by
  intro σ as hl hR
  match as, hl with
  | [], _ =>
    obtain ⟨hG, n, t, z, hP⟩ := id hR
    obtain ⟨hn, ht, hz, ⟨l1, l2⟩, ⟨t1, t2⟩, ⟨z1, z2⟩, hnum, hli, hb, htx, him, hsh, hw⟩ := id hP
    by_cases c6 : t = 6
    · subst c6
      refine x_op_eq hR (.inl (-4)) ⟨_, rfl⟩ ?_ ?_
      · show x_run (D + 42) 79 [.inr (.inr (some 0))] σ = _
        rw [r79, e79_0, x_k0 hG, t2, if_neg (by decide)]
      · show x_run (D + 42) 150 [.inr (.inr (some 78))] σ = _
        rw [r150, e150_0, x_k78 hG, t1, if_pos (by decide)]
    · have ht6 : t < 6 := by omega
      have tb := z_tcb ht6
      have lt6 : Int32.ofNat t < 6 := Int32.not_le.mp (fun g => absurd ((x_le (a := 6) (by omega) (by omega)).mp g) (by omega))
      have ne6 : ¬ Int32.ofNat t = 6 := fun g => c6 (x_inj32 (b := 6) (by omega) (by omega) g)
      have tp : z_tpe z (fun k => x_I σ 82 k) σ := ⟨hG, z2, z1, fun k hk => ⟨(hb k hk).1, rfl⟩, hw⟩
      obtain ⟨σ1, p', r, dd, e1, f1, k1, kr⟩ := z_m40 D hz tp
      have hG1 := f1.G hG
      have fx1 : ∀ b u, ¬ z_cx b u → x_I σ1 b u = x_I σ b u := fun b u h => f1.I h
      have t2' : x_I σ1 0 7 = Int32.ofNat t := (fx1 _ _ (by unfold z_cx z_cw; omega)).trans t2
      -- the reference, from any such memory
      have ref : ∀ σ3 : xS, x_G σ3 → (∀ u, x_I σ3 78 u = x_I σ 78 u) → (∀ u, x_I σ3 82 u = x_I σ 82 u) → (∀ u, x_I σ3 90 u = x_I σ 90 u) → ∃ τ, x_run (D + 42) 150 [.inr (.inr (some 78))] σ3 = some (some (.inl (if r = none then -100 - Int32.ofNat (z_tok (fun k => x_I σ 82 k) z p').1 else Int32.ofNat t)), τ) ∧ x_fr (z_yx t) x_w0 σ3 τ ∧ x_I τ 78 9 = 0 ∧ z_LR z t p' τ r := by
        intro σ3 hG3 h78 h82 h90
        let σa := x_si σ3 78 26 0
        have hGa : x_G σa := hG3
        let σb := x_si σa 78 34 0
        have K : ∀ b u, ¬ (b = 78 ∧ (u = 26 ∨ u = 34)) → x_I σb b u = x_I σ3 b u := fun b u h => (x_Isi _ _ _ _ _ _).trans ((if_neg (by omega)).trans ((x_Isi _ _ _ _ _ _).trans (if_neg (by omega))))
        have yt : z_YT (fun k => x_I σ 82 k) z t ([] : List (List Int32)).flatten 0 σb := ⟨⟨hG3, trivial, (K _ _ (by omega)).trans ((h78 9).trans z1), fun k hk => ⟨trivial, (K _ _ (by omega)).trans (h82 k)⟩, fun q hq e => (K _ _ (by omega)).trans ((h90 _).trans (hw q hq e))⟩, (K _ _ (by omega)).trans ((h78 12).trans t1), (x_Isi _ _ _ _ _ _).trans ((if_neg (by omega)).trans ((x_Isi _ _ _ _ _ _).trans (if_pos ⟨rfl, rfl⟩))), (x_Isi _ _ _ _ _ _).trans (if_pos ⟨rfl, rfl⟩), fun j c hj => (by cases hj), Nat.le_refl _, Nat.zero_le _, hz, ht6⟩
        obtain ⟨τ, e, f, g⟩ := z_l150 (D + 36) dd σb rfl yt (fun j hj => absurd hj (Nat.not_lt_zero j))
        refine ⟨τ, ?_, (((x_fr.refl (z_yx t) x_w0 σ3).si _ (Or.inl (Or.inl ⟨rfl, by omega⟩))).si _ (Or.inl (Or.inl ⟨rfl, by omega⟩))).trans f, g⟩
        rw [r150, e150_0, x_k78 hG3, (h78 12).trans t1, if_neg ne6, x_k78 hG3, x_k78 hGa]
        exact e
      cases r with
      | none =>
        obtain ⟨τ, e2, f2, g9, g12⟩ := ref σ1 hG1 (fun u => fx1 _ _ (by unfold z_cx z_cw; omega)) (fun u => fx1 _ _ (by unfold z_cx z_cw; omega)) (fun u => fx1 _ _ (by unfold z_cx z_cw; omega))
        rw [if_pos rfl] at e1 e2
        have lt2 : (z_tok (fun k => x_I σ 82 k) z p').1 < 2 ^ 31 := by have := z_tok_1 (fun k => x_I σ 82 k) (z_E_le dd (Nat.zero_le z)); omega
        refine ⟨.inl (-100 - Int32.ofNat (z_tok (fun k => x_I σ 82 k) z p').1), σ1, τ, ⟨_, rfl⟩, ?_, hG1.1, e2, ?_⟩
        · show x_run (D + 42) 79 [.inr (.inr (some 0))] σ = _
          rw [r79, e79_0, x_k0 hG, t2, if_pos lt6, x_k0 hG, x_q0_4 hG, x_der_s, x_k22 hG, e1, x_ci_s, if_neg (y_ne1 lt2)]
        · refine z_endR hP (f2.G hG1) ht6 (Nat.le_refl t) (by omega) (fun b u h => ?_) g12 ((f2.I (by unfold z_yx z_yw; omega)).trans t2') g9 ((f2.I (by unfold z_yx z_yw; omega)).trans k1) (fun k h1 h2 => absurd h2 (by omega))
          unfold z_chg at h
          rw [f2.I (by unfold z_yx z_yw; omega), f1.I (by unfold z_cx z_cw; omega)]
      | some ws =>
        rw [if_neg (fun e => by cases e)] at e1
        obtain ⟨q1, q2, q3, q4, q5, q6⟩ := kr
        let σ2 := x_si σ1 0 7 (Int32.ofNat (t + 1))
        have hG2 : x_G σ2 := hG1
        have f2 : x_fr (fun b u => b = 0 ∧ u = 7) x_w0 σ1 σ2 := (x_fr.refl _ _ σ1).si _ ⟨rfl, rfl⟩
        have s7 : x_I σ2 0 7 = Int32.ofNat (t + 1) := (x_Isi _ _ _ _ _ _).trans (if_pos ⟨rfl, rfl⟩)
        have e119 := m119 (D + 40) hG2 (n := t + 1) (t := t) (by omega) (by omega) s7
        obtain ⟨σ3, e3, f3, w1, w3⟩ := z_m60 (D + 39) ht6 hG2
        have hG3 := f3.G hG2
        have F3 : ∀ b u, ¬ z_tw t b u → ¬ (b = 0 ∧ u = 7) → x_I σ3 b u = x_I σ1 b u := fun b u h1 h2 => (f3.I h1).trans (f2.I h2)
        have F0 : ∀ b u, ¬ z_tw t b u → ¬ (b = 0 ∧ u = 7) → ¬ z_cx b u → x_I σ3 b u = x_I σ b u := fun b u h1 h2 h3 => (F3 b u h1 h2).trans (fx1 b u h3)
        obtain ⟨τ, e2, f4, g9, g12, go, gs⟩ := ref σ3 hG3 (fun u => F0 _ _ (by unfold z_tw; omega) (by omega) (by unfold z_cx z_cw; omega)) (fun u => F0 _ _ (by unfold z_tw; omega) (by omega) (by unfold z_cx z_cw; omega)) (fun u => F0 _ _ (by unfold z_tw; omega) (by omega) (by unfold z_cx z_cw; omega))
        rw [if_neg (fun e => by cases e)] at e2
        have s73 : x_I σ3 0 7 = Int32.ofNat (t + 1) := (f3.I (by unfold z_tw; omega)).trans s7
        refine ⟨.inl (Int32.ofNat t), σ3, τ, ⟨_, rfl⟩, ?_, hG3.1, e2, ?_⟩
        · show x_run (D + 42) 79 [.inr (.inr (some 0))] σ = _
          rw [r79, e79_0, x_k0 hG, t2, if_pos lt6, x_k0 hG, x_q0_4 hG, x_der_s, x_k22 hG, e1, x_ci_s, if_pos rfl, x_k0 hG1, x_k0 hG1, t2', x_s1, x_k0 hG2, x_k0 hG2, s7, x_p1, e119, x_cr_s, x_k0 hG2, x_q0_4 hG2, x_der_s, x_k22 hG2, x_q22_1 hG2, x_der_s, x_tk7 hG2 ht6, e3, x_cv_s, x_k0 hG3, s73, x_p1]
        · refine z_endR hP (f4.G hG3) ht6 (Nat.le_succ t) (by omega) (fun b u h => ?_) g12 ((f4.I (by unfold z_yx z_yw; omega)).trans s73) g9 ((f4.I (by unfold z_yx z_yw; omega)).trans ((F3 _ _ (by unfold z_tw; omega) (by omega)).trans k1)) (fun k h1 h2 => ?_)
          · unfold z_chg at h
            rw [f4.I (by unfold z_yx z_yw; omega), F0 _ _ (by unfold z_tw; omega) (by omega) (by unfold z_cx z_cw; omega)]
          · have : k = t := by omega
            subst this
            refine z_newtxt (C := fun _ => 0) (z := 0) (p' := 0) q6 (by omega) (z_E_good dd (fun w hw => by cases hw) ws rfl) go gs (fun j c hj => ?_) (fun j hj => ?_)
            · have jl : j < ws.flatten.length := by
                rcases Nat.lt_or_ge j ws.flatten.length with l | l
                · exact l
                · rw [List.getElem?_eq_none l] at hj; cases hj
              rw [f4.I (by unfold z_yx z_yw; omega), w1 j (by omega), f2.I (by omega)]
              exact q3 j c hj
            · rw [f4.I (by unfold z_yx z_yw; omega), w3 j hj, f2.I (by omega)]
              exact q1 j (by omega)
