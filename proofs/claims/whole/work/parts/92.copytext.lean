/-! a text becomes the draft -/
def z_tw (t b u : Nat) : Prop := b = x_tc t + 1 ∨ b = x_tc t + 3 ∨ (b = x_tc t ∧ u = 4)
theorem z_tcb {t : Nat} (ht : t < 6) : 29 ≤ x_tc t ∧ x_tc t + 3 < 70 ∧ (x_tc t = 29 ∨ 45 ≤ x_tc t) := by
  rcases (show t = 0 ∨ t = 1 ∨ t = 2 ∨ t = 3 ∨ t = 4 ∨ t = 5 by omega) with rfl | rfl | rfl | rfl | rfl | rfl <;> exact ⟨Nat.le_of_ble_eq_true rfl, Nat.le_of_ble_eq_true rfl, by first | exact Or.inl rfl | exact Or.inr (Nat.le_of_ble_eq_true rfl)⟩
theorem z_60a (d : Nat) {t : Nat} (ht : t < 6) : ∀ q u σ, u + q = 160 → x_G σ → (∀ v, v < u → x_I σ (x_tc t + 1) v = x_I σ 25 v) → ∃ τ, x_f (d + 1) 60 2 [some (.inr (.inr (some (x_tc t)))), some (.inr (.inr (some 24))), some (.inl (Int32.ofNat u))] [] σ = x_f (d + 1) 60 35 [some (.inr (.inr (some (x_tc t)))), some (.inr (.inr (some 24))), some (.inl 0)] [] τ ∧ x_fr (z_tw t) x_w0 σ τ ∧ ∀ v, v < 160 → x_I τ (x_tc t + 1) v = x_I σ 25 v
  | 0, u, σ, hu, hG, hc => by
    have : u = 160 := by omega
    subst this
    refine ⟨σ, ?_, x_fr.refl _ _ _, hc⟩
    rw [x_feq, e60_2, x_tk7 hG ht, x_tq0 hG ht, x_der_s, x_aak hG.1 (x_ta ht).1 rfl, if_pos (Int32.le_refl _)]
  | q + 1, u, σ, hu, hG, hc => by
    have tb := z_tcb ht
    obtain ⟨τ, a, f, g⟩ := z_60a d ht q (u + 1) (x_si σ (x_tc t + 1) u (x_I σ 25 u)) (by omega) hG (fun v hv => by
      rw [x_Isi, x_Isi, if_neg (show ¬ (25 = x_tc t + 1 ∧ v = u) by omega)]
      by_cases c : v = u
      · rw [if_pos ⟨rfl, c⟩, c]
      · rw [if_neg (fun g => c g.2)]; exact hc v (by omega))
    refine ⟨τ, Eq.trans ?_ a, ((x_fr.refl (z_tw t) x_w0 σ).si _ (Or.inl rfl)).trans f, fun v hv => (g v hv).trans ((x_Isi _ _ _ _ _ _).trans (if_neg (by omega)))⟩
    rw [x_feq, e60_2, x_tk7 hG ht, x_tq0 hG ht, x_der_s, x_aak hG.1 (x_ta ht).1 rfl, if_neg (fun g => absurd ((x_le (by omega) (by omega)).mp g) (by omega)), x_tk7 hG ht, x_der_s, x_k24 hG, x_q24_0 hG, m129 d hG (a := 25) (n := 160) rfl (by omega) (by omega), x_ci_s, m130 d hG (x_ta ht).1 (by omega) (by omega), x_cv_s, x_s1]
theorem z_60b (d : Nat) {t : Nat} (ht : t < 6) : ∀ q u σ, u + q = 3 → x_G σ → (∀ v, v < u → x_I σ (x_tc t + 3) v = x_I σ 27 v) → ∃ τ, x_f (d + 1) 60 35 [some (.inr (.inr (some (x_tc t)))), some (.inr (.inr (some 24))), some (.inl (Int32.ofNat u))] [] σ = some (none, τ) ∧ x_fr (z_tw t) x_w0 σ τ ∧ (∀ v, v < 3 → x_I τ (x_tc t + 3) v = x_I σ 27 v) ∧ ∀ v, x_I τ (x_tc t + 1) v = x_I σ (x_tc t + 1) v
  | 0, u, σ, hu, hG, hc => by
    have : u = 3 := by omega
    subst this
    have tb := z_tcb ht
    refine ⟨x_si σ (x_tc t) 4 (x_I σ 24 4), ?_, (x_fr.refl (z_tw t) x_w0 σ).si _ (Or.inr (Or.inr ⟨rfl, rfl⟩)), fun v hv => ((x_Isi _ _ _ _ _ _).trans (if_neg (by omega))).trans (hc v hv), fun v => (x_Isi _ _ _ _ _ _).trans (if_neg (by omega))⟩
    rw [x_feq, e60_35, x_tk7 hG ht, x_tq2 hG ht, x_der_s, x_aak hG.1 (x_ta ht).2.2.1 rfl, if_pos (Int32.le_refl _), x_der_s, x_k24 hG, x_tk7 hG ht]
  | q + 1, u, σ, hu, hG, hc => by
    have tb := z_tcb ht
    obtain ⟨τ, a, f, g, k⟩ := z_60b d ht q (u + 1) (x_si σ (x_tc t + 3) u (x_I σ 27 u)) (by omega) hG (fun v hv => by
      rw [x_Isi, x_Isi, if_neg (show ¬ (27 = x_tc t + 3 ∧ v = u) by omega)]
      by_cases c : v = u
      · rw [if_pos ⟨rfl, c⟩, c]
      · rw [if_neg (fun g => c g.2)]; exact hc v (by omega))
    refine ⟨τ, Eq.trans ?_ a, ((x_fr.refl (z_tw t) x_w0 σ).si _ (Or.inr (Or.inl rfl))).trans f, fun v hv => (g v hv).trans ((x_Isi _ _ _ _ _ _).trans (if_neg (by omega))), fun v => (k v).trans ((x_Isi _ _ _ _ _ _).trans (if_neg (by omega)))⟩
    rw [x_feq, e60_35, x_tk7 hG ht, x_tq2 hG ht, x_der_s, x_aak hG.1 (x_ta ht).2.2.1 rfl, if_neg (fun g => absurd ((x_le (by omega) (by omega)).mp g) (by omega)), x_tk7 hG ht, x_der_s, x_k24 hG, x_q24_2 hG, m129 d hG (a := 27) (n := 3) rfl (by omega) (by omega), x_ci_s, m130 d hG (x_ta ht).2.2.1 (by omega) (by omega), x_cv_s, x_s1]
theorem z_m60 (d : Nat) {t : Nat} (ht : t < 6) {σ : xS} (hG : x_G σ) : ∃ τ, x_run (d + 2) 60 [.inr (.inr (some (x_tc t))), .inr (.inr (some 24))] σ = some (none, τ) ∧ x_fr (z_tw t) x_w0 σ τ ∧ (∀ v, v < 160 → x_I τ (x_tc t + 1) v = x_I σ 25 v) ∧ ∀ v, v < 3 → x_I τ (x_tc t + 3) v = x_I σ 27 v := by
  have tb := z_tcb ht
  obtain ⟨σ1, a, f, g⟩ := z_60a d ht 160 0 σ (by omega) hG (fun v hv => absurd hv (Nat.not_lt_zero v))
  obtain ⟨τ, a2, f2, g2, k2⟩ := z_60b d ht 3 0 σ1 (by omega) (f.G hG) (fun v hv => absurd hv (Nat.not_lt_zero v))
  refine ⟨τ, ?_, f.trans f2, fun v hv => (k2 v).trans (g v hv), fun v hv => (g2 v hv).trans (f.I (by unfold z_tw; omega))⟩
  rw [r60, e60_0]
  exact a.trans a2
/-- the text that both sides keep -/
theorem z_newtxt {C : Nat → Int32} {z p' t : Nat} {ws : List (List Int32)} {σ : xS} (hl : ws.length = 3) (hz : ws.flatten.length ≤ 160) (hg : ∀ w ∈ ws, z_good w) (ho : z_out t ws.flatten σ) (h4 : z_st4 t 4 ws σ) (hc : ∀ j c, ws.flatten[j]? = some c → x_I σ (x_tc t + 1) j = x_enc c) (he : ∀ j, j < 3 → x_I σ (x_tc t + 3) j = Int32.ofNat (ws.take (j + 1)).flatten.length) : x_txt σ t := by
  match ws, hl with
  | [p0, p1, p2], _ =>
    have ef : [p0, p1, p2].flatten = p0 ++ (p1 ++ p2) := by simp only [List.flatten_cons, List.flatten_nil, List.append_nil]
    rw [ef] at hz ho hc
    have g0 := hg p0 (by simp)
    have g1 := hg p1 (by simp)
    have g2 := hg p2 (by simp)
    have s0 := h4 0 (by omega)
    have s1 := h4 1 (by omega)
    have s2 := h4 2 (by omega)
    have s3 := h4 3 (by omega)
    have e0 := he 0 (by omega)
    have e1 := he 1 (by omega)
    have e2 := he 2 (by omega)
    simp only [List.take_succ_cons, List.take_zero, List.flatten_cons, List.flatten_nil, List.append_nil, List.length_append, List.length_nil, Nat.add_zero] at s0 s1 s2 s3 e0 e1 e2
    refine ⟨p0, p1, p2, fun c hc => ?_, g0.2 0, g1.2 0, g2.2 0, hz, s0, s1, s2, s3, e0, e1, e2, fun k c h => ⟨ho k c h, hc k c h⟩⟩
    rcases List.mem_append.mp hc with h | h
    · exact g0.1 c h
    · rcases List.mem_append.mp h with h | h
      · exact g1.1 c h
      · exact g2.1 c h
theorem z_E_good {C : Nat → Int32} {z i p p' : Nat} {ws : List (List Int32)} {r : Option (List (List Int32))} (h : z_E (z_tok C z) i p ws p' r) : (∀ w ∈ ws, z_good w) → ∀ ws', r = some ws' → ∀ w ∈ ws', z_good w := by
  induction h using z_E_ind with
  | fin _ => intro h ws' e; cases e; exact h
  | finX _ => intro h ws' e; cases e
  | kw _ _ => intro h ws' e; cases e
  | bad _ _ _ => intro h ws' e; cases e
  | semi _ _ _ _ => intro h ws' e; cases e
  | go _ _ dd _ _ ih =>
    intro h ws' e
    refine ih (fun w hw => ?_) ws' e
    rcases List.mem_append.mp hw with g | g
    · exact h w g
    · rw [List.mem_singleton.mp g]
      exact z_D_good dd (fun e => by cases e) _ rfl
