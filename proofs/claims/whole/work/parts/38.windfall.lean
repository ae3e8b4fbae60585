/-! a life's numbers on both sides; windfall -/
def y_cl (σ : xS) (c : Nat) (k m e s u : Int32) : Prop := x_I σ c 0 = k ∧ x_I σ c 1 = m ∧ x_I σ c 3 = e ∧ x_I σ c 4 = s ∧ x_I σ c 7 = u
def y_rl (σ : xS) (l : Nat) (k m e s u : Int32) : Prop := x_I σ 79 l = k ∧ x_I σ 80 l = m ∧ x_I σ 81 (6 * l + 1) = e ∧ x_I σ 81 (6 * l + 2) = s ∧ x_I σ 81 (6 * l + 5) = u
theorem y_cl.fr {W V : Nat → Nat → Prop} {σ τ : xS} {c : Nat} {k m e s u : Int32} (f : x_fr W V σ τ) (hw : ∀ u, ¬ W c u) (h : y_cl σ c k m e s u) : y_cl τ c k m e s u := by
  unfold y_cl at h ⊢
  rw [f.I (hw 0), f.I (hw 1), f.I (hw 3), f.I (hw 4), f.I (hw 7)]
  exact h
theorem y_rl.fr {W V : Nat → Nat → Prop} {σ τ : xS} {l : Nat} {k m e s u : Int32} (f : x_fr W V σ τ) (h9 : ∀ u, ¬ W 79 u) (h0 : ∀ u, ¬ W 80 u) (h1 : ∀ u, ¬ W 81 u) (h : y_rl σ l k m e s u) : y_rl τ l k m e s u := by
  unfold y_rl at h ⊢
  rw [f.I (h9 l), f.I (h0 l), f.I (h1 _), f.I (h1 _), f.I (h1 _)]
  exact h
theorem x_wt_o {b : Nat} (h : b < 31 ∨ 93 < b ∨ (69 < b ∧ b < 92)) (u : Nat) : ¬ x_wt b u := by unfold x_wt; omega
theorem c16 (d : Nat) {σ : xS} (hG : x_G σ) {t : Nat} (ht : t < 6) {o : Nat → Nat} {p : Nat → List Int32} (hv : x_tv σ t o p) {c : Nat} (hc : Nat.beq (x_nth x_K c).1 2 = true) {k m e s u : Int32} (h : y_cl σ c k m e s u) (hm : x_bd m 0 9) (y w : Int32) : ∃ τ, x_run (d + 4) 16 [.inr (.inr (some c)), .inr (.inr (some (x_tc t))), .inl y, .inl w] σ = some (some (.inl (x_O p k m e s y w)), τ) ∧ x_fr x_wt x_w0 σ τ := by
  obtain ⟨rfl, rfl, rfl, rfl, rfl⟩ := h
  exact m16 d hG ht hv hc hm y w
theorem c18 (d : Nat) {σ : xS} (hG : x_G σ) {t : Nat} (ht : t < 6) {o : Nat → Nat} {p : Nat → List Int32} (hv : x_tv σ t o p) {c : Nat} (hc : Nat.beq (x_nth x_K c).1 2 = true) {k m e s u : Int32} (h : y_cl σ c k m e s u) (y w : Int32) : ∃ τ, x_run (d + 4) 18 [.inr (.inr (some c)), .inr (.inr (some (x_tc t))), .inl y, .inl w] σ = some (some (.inl (x_Z p k m e s y w)), τ) ∧ x_fr x_wt x_w0 σ τ := by
  obtain ⟨rfl, rfl, rfl, rfl, rfl⟩ := h
  exact m18 d hG ht hv hc y w
theorem c19 (d : Nat) {σ : xS} (hG : x_G σ) {t : Nat} (ht : t < 6) {o : Nat → Nat} {p : Nat → List Int32} (hv : x_tv σ t o p) {c : Nat} (hc : Nat.beq (x_nth x_K c).1 2 = true) {k m e s u : Int32} (h : y_cl σ c k m e s u) (y w : Int32) : ∃ τ, x_run (d + 4) 19 [.inr (.inr (some c)), .inr (.inr (some (x_tc t))), .inl y, .inl w] σ = some (some (.inl (x_S p k m e s y u w)), τ) ∧ x_fr x_wt x_w0 σ τ := by
  obtain ⟨rfl, rfl, rfl, rfl, rfl⟩ := h
  exact m19 d hG ht hv hc y w
theorem c20 (d : Nat) {σ : xS} (hG : x_G σ) {c : Nat} (hc : Nat.beq (x_nth x_K c).1 2 = true) {k m e s u : Int32} (h : y_cl σ c k m e s u) (v : Int32) : x_run (d + 1) 20 [.inr (.inr (some c)), .inl v] σ = some (some (.inl (x_tk e s v)), σ) := by
  obtain ⟨rfl, rfl, rfl, rfl, rfl⟩ := h
  rw [r20, e20_0, x_ckk hG.1 hc]
  unfold x_tk
  by_cases h : v ≤ x_I σ c 3
  · rw [if_pos h, if_pos h]
  · rw [if_neg h, if_neg h, x_ckk hG.1 hc, x_ckk hG.1 hc]
theorem c160 (d : Nat) {σ : xS} (hG : x_G σ) {t : Nat} (ht : t < 6) {o : Nat → Nat} {p : Nat → List Int32} (hv : x_tv σ t o p) (hr : x_I σ 78 13 = Int32.ofNat t) {l : Nat} (hl : l < 5) {k m e s u : Int32} (h : y_rl σ l k m e s u) (hm : x_bd m 0 9) (y w : Int32) : ∃ τ, x_run (d + 4) 160 [.inr (.inr (some 78)), .inl (Int32.ofNat l), .inl y, .inl w] σ = some (some (.inl (x_O p k m e s y w)), τ) ∧ x_fr x_wt x_w0 σ τ := by
  obtain ⟨rfl, rfl, rfl, rfl, rfl⟩ := h
  exact m160 d hG ht hv hr hl hm y w
theorem c161 (d : Nat) {σ : xS} (hG : x_G σ) {t : Nat} (ht : t < 6) {o : Nat → Nat} {p : Nat → List Int32} (hv : x_tv σ t o p) (hr : x_I σ 78 13 = Int32.ofNat t) {l : Nat} (hl : l < 5) {k m e s u : Int32} (h : y_rl σ l k m e s u) (y w : Int32) : ∃ τ, x_run (d + 4) 161 [.inr (.inr (some 78)), .inl (Int32.ofNat l), .inl y, .inl w] σ = some (some (.inl (x_Z p k m e s y w)), τ) ∧ x_fr x_wt x_w0 σ τ := by
  obtain ⟨rfl, rfl, rfl, rfl, rfl⟩ := h
  exact m161 d hG ht hv hr hl y w
theorem c162 (d : Nat) {σ : xS} (hG : x_G σ) {t : Nat} (ht : t < 6) {o : Nat → Nat} {p : Nat → List Int32} (hv : x_tv σ t o p) (hr : x_I σ 78 13 = Int32.ofNat t) {l : Nat} (hl : l < 5) {k m e s u y : Int32} (h : y_rl σ l k m e s u) (hy : x_I σ 78 4 = y) (w : Int32) : ∃ τ, x_run (d + 4) 162 [.inr (.inr (some 78)), .inl (Int32.ofNat l), .inl w] σ = some (some (.inl (x_S p k m e s y u w)), τ) ∧ x_fr x_wt x_w0 σ τ := by
  obtain ⟨rfl, rfl, rfl, rfl, rfl⟩ := h
  subst hy
  exact m162 d hG ht hv hr hl w
theorem c164 (d : Nat) {σ : xS} (hG : x_G σ) {t : Nat} (ht : t < 6) {o : Nat → Nat} {p : Nat → List Int32} (hv : x_tv σ t o p) (hr : x_I σ 78 13 = Int32.ofNat t) {l : Nat} (hl : l < 5) {k m e s u y : Int32} (h : y_rl σ l k m e s u) (hy : x_I σ 78 4 = y) : ∃ τ, x_run (d + 5) 164 [.inr (.inr (some 78)), .inl (Int32.ofNat l)] σ = some (some (.inl (x_Z p k m e s y u)), τ) ∧ x_fr x_wt x_w0 σ τ := by
  obtain ⟨rfl, rfl, rfl, rfl, rfl⟩ := h
  subst hy
  exact m164 d hG ht hv hr hl
theorem c163 (d : Nat) {σ : xS} (hG : x_G σ) {l : Nat} (hl : l < 5) {k m e s u : Int32} (h : y_rl σ l k m e s u) (he : x_bd e 0 999) {v : Int32} (hv : x_bd v 0 99999) : x_run (d + 1) 163 [.inr (.inr (some 78)), .inl (Int32.ofNat l), .inl v] σ = some (some (.inl (x_tk e s v)), σ) := by
  obtain ⟨rfl, rfl, rfl, rfl, rfl⟩ := h
  exact m163 d hG hl hv he
/-- all that speaks of one life, on both sides -/
def y_lf (n t : Nat) (σ : xS) (l r : Nat) (o : Nat → Nat) (p : Nat → List Int32) (y k m e s u : Int32) : Prop := l < n ∧ r < t ∧ x_tv σ r o p ∧ x_I σ 78 13 = Int32.ofNat r ∧ x_I σ 1 6 = Int32.ofNat r ∧ x_I σ 78 4 = y ∧ x_I σ 1 2 = y ∧ y_cl σ (3 + l) k m e s u ∧ y_rl σ l k m e s u ∧ (x_I σ 0 7 = Int32.ofNat t ∧ x_I σ 1 1 = Int32.ofNat n ∧ x_I σ 78 0 = Int32.ofNat n) ∧ x_bd y 0 99 ∧ x_bd k 0 5 ∧ x_bd m 0 9 ∧ x_bd e 0 999 ∧ x_bd s 0 100 ∧ x_bd u 0 99
theorem y_lf_of {σ : xS} {n t z : Nat} (hP : x_Rp n t z σ) {l : Nat} (hl : l < n) : ∃ r o p y k m e s u, y_lf n t σ l r o p y k m e s u := by
  obtain ⟨r, hr, e6, e13, o, p, hv⟩ := x_rule hP
  obtain ⟨hn, ht, hz, ⟨l1, l2⟩, ⟨t1, t2⟩, -, ⟨⟨y1, yb⟩, -⟩, hli, -⟩ := hP
  obtain ⟨⟨h6, -, b1, b2, -, -, b5⟩, ⟨⟨k0, kb⟩, ⟨k1, mb⟩⟩⟩ := hli l hl
  exact ⟨r, o, p, _, _, _, _, _, _, hl, hr, hv, e13, e6, rfl, y1, ⟨k0, k1, h6 1 (by omega), h6 2 (by omega), h6 5 (by omega)⟩, ⟨rfl, rfl, rfl, rfl, rfl⟩, ⟨t2, l2, l1⟩, yb, kb, mb, b1, b2, b5⟩
theorem y_lf.fr {V : Nat → Nat → Prop} {σ τ : xS} {n t l r : Nat} {o : Nat → Nat} {p : Nat → List Int32} {y k m e s u : Int32} (hn : n ≤ 5) (ht : t ≤ 6) (f : x_fr x_wt V σ τ) (h : y_lf n t σ l r o p y k m e s u) : y_lf n t τ l r o p y k m e s u := by
  obtain ⟨h1, h2, h3, h4, h5, h6, h7, h8, h9, ⟨n1, n2, n3⟩, h10⟩ := h
  exact ⟨h1, h2, h3.fr (by omega) f, (f.I (x_wt_o (by omega) _)).trans h4, (f.I (x_wt_o (by omega) _)).trans h5, (f.I (x_wt_o (by omega) _)).trans h6, (f.I (x_wt_o (by omega) _)).trans h7, h8.fr f (x_wt_o (by omega)), h9.fr f (x_wt_o (by omega)) (x_wt_o (by omega)) (x_wt_o (by omega)), ⟨(f.I (x_wt_o (by omega) _)).trans n1, (f.I (x_wt_o (by omega) _)).trans n2, (f.I (x_wt_o (by omega) _)).trans n3⟩, h10⟩
theorem y_big {v hi : Int32} (h : x_bd v 0 hi) (g : hi ≤ 99999) : x_bd v 0 99999 := ⟨h.1, Int32.le_trans h.2 g⟩
theorem x_op_windfall (D : Nat) : ∀ (σ : xS) (as : List Int32), as.length = 2 → x_R σ → x_stp (D + 6) x_R false 85 165 as σ := by
  intro σ as hl hR
  match as, hl with
  | [i1, i2], _ =>
    obtain ⟨hG, n, t, z, hP⟩ := id hR
    obtain ⟨hn, ht, hz, ⟨l1, l2⟩, ⟨t1, t2⟩, -⟩ := id hP
    have one : ¬ (1 : Int32) = 0 := by decide
    rcases x_split hn i1 with ⟨l, hl, rfl⟩ | ho
    · obtain ⟨r, o, p, y, k, m, e, s, u, hf⟩ := y_lf_of hP hl
      obtain ⟨-, hr, hv, e13, e6, y1, y2, hcl, hrl, -, yb, kb, mb, eb, sb, ub⟩ := id hf
      have hc := x_kl (show l < 5 by omega)
      have hr6 : r < 6 := by omega
      have hl5 : l < 5 := by omega
      obtain ⟨σ1, a1, f1⟩ := c18 (D + 1) hG hr6 hv hc hcl y u
      have hG1 := f1.G hG
      have hf1 := hf.fr hn ht.2 f1
      obtain ⟨-, -, hv1, e131, e61, y11, y21, hcl1, hrl1, -⟩ := id hf1
      have la : ∀ {τ : xS}, x_fr x_wt x_w0 σ τ → x_I τ 78 0 = Int32.ofNat n := fun f => (f.I (x_wt_o (by omega) _)).trans l1
      have pre : ∀ R : Option xR, (if i2 = 0 then x_ck σ1 0 9 (x_der (x_Q σ1 0 0) fun a18 => x_ck σ1 a18 8 (x_der (some (3 + l)) fun a19 => x_ck σ1 a19 2 (x_der (some (3 + l)) fun a20 => x_ck σ1 a20 2 (x_ci (x_run (D + 5) 16 [.inr (.inr (some (3 + l))), .inr (.inr (some (x_tc r))), .inl (x_I σ1 a18 2), .inl (x_I σ1 a19 7)] σ1) fun x22 σ21 => some (some (.inl x22), σ21)))))
          else if i2 = 1 then some (some (.inl (x_Z p k m e s y u)), σ1)
          else if i2 = 2 then x_der (some (3 + l)) fun a15 => x_ck σ1 a15 2 (x_ci (x_run (D + 5) 20 [.inr (.inr (some (3 + l))), .inl (x_Z p k m e s y u)] σ1) fun x17 σ16 => some (some (.inl x17), σ16))
          else if i2 = 3 then x_ck σ1 0 9 (x_der (x_Q σ1 0 0) fun a11 => x_ck σ1 a11 8 (x_der (some (3 + l)) fun a12 => x_ck σ1 a12 2 (x_ci (x_run (D + 5) 19 [.inr (.inr (some (3 + l))), .inr (.inr (some (x_tc r))), .inl (x_I σ1 a11 2), .inl (x_Z p k m e s y u)] σ1) fun x14 σ13 => some (some (.inl x14), σ13))))
          else some (some (.inl (-7)), σ1)) = R → x_run (D + 6) 85 [.inr (.inr (some 0)), .inl (Int32.ofNat l), .inl i2] σ = R := by
        intro R h
        rw [r85, e85_0, ← h]
        simp only [x_k0, x_k1, hG, x_q0_0, x_der_s, m65_in _ hG hn hl l2, x_cr_s, x_nul_s, m120 _ hG ht.2 hr t2 e6, x_kl3, hl5, y2, hcl.2.2.2.2, a1, x_ci_s]
      have big : x_bd (x_Z p k m e s y u) 0 99999 := y_big (x_Z_b _ _ _ _ _ _ _) (by decide)
      by_cases c0 : i2 = 0
      · subst c0
        obtain ⟨σ2, a2, f2⟩ := c16 (D + 1) hG1 hr6 hv1 hc hcl1 mb y u
        have f12 := f1.trans f2
        have hG2 := f12.G hG
        obtain ⟨-, -, hv2, e132, e62, y12, y22, hcl2, hrl2, -⟩ := hf.fr hn ht.2 f12
        obtain ⟨σ3, a3, f3⟩ := c160 (D + 1) hG2 hr6 hv2 e132 hl5 hrl2 mb y u
        refine x_op_fr hR _ ⟨_, rfl⟩ x_wt_per (Eq.trans (pre _ ?_) a2) f12 (Eq.trans ?_ a3) f3
        · rw [if_pos rfl]
          simp only [x_k0, x_k1, hG1, x_q0_0, x_der_s, x_kl3, hl5, y21, hcl1.2.2.2.2, a2, x_ci_s]
        · show x_run (D + 6) 165 [.inr (.inr (some 78)), .inl (Int32.ofNat l), .inl 0] σ2 = _
          rw [r165, e165_0, x_k78 hG2, m135_in _ hG2 hn hl (la f12), x_ci_s, if_neg one, if_pos rfl]
          simp only [↓x_der_s, ↓x_nul_s, ↓x_nul_n, x_der_s, x_nul_s, x_nul_n, x_ci_s, x_cr_s, x_cv_s, x_cl_s, x_Gsi, x_Gsl, x_Isl, x_Jsi, x_Qsi, x_Qsl, x_i5, x_n5, x_i30, x_n30, x_i4, x_n4, x_i40, x_n40, x_40, x_40i, x_40n, ↓x_ks5, ↓x_kc5, ↓x_mc5, x_qs5, x_qs35, x_6i0, x_6i1, x_6i2, x_6i3, x_6i4, x_6i5, x_6n0, x_6n1, x_6n2, x_6n3, x_6n4, x_6n5, ↓x_kl3, ↓x_kl10, ↓x_kl17, x_ql2, x_ql9, x_ql16, ↓x_k0, ↓x_k1, ↓x_k2, ↓x_m2, ↓x_k3, ↓x_k4, ↓x_k5, ↓x_k6, ↓x_k7, ↓x_k8, ↓x_k9, ↓x_m9, ↓x_k10, ↓x_k11, ↓x_k12, ↓x_k13, ↓x_k14, ↓x_k15, ↓x_k16, ↓x_m16, ↓x_k17, ↓x_k18, ↓x_k19, ↓x_k20, ↓x_k21, ↓x_k22, ↓x_k23, ↓x_m23, ↓x_k24, ↓x_k25, ↓x_m25, ↓x_k26, ↓x_m26, ↓x_k27, ↓x_m27, ↓x_k28, ↓x_m28, ↓x_k29, ↓x_k30, ↓x_m30, ↓x_k31, ↓x_m31, ↓x_k32, ↓x_m32, ↓x_k33, ↓x_m33, ↓x_k34, ↓x_m34, ↓x_k35, ↓x_m35, ↓x_k36, ↓x_k37, ↓x_k38, ↓x_k39, ↓x_m39, ↓x_k40, ↓x_k41, ↓x_m41, ↓x_k42, ↓x_m42, ↓x_k43, ↓x_m43, ↓x_k44, ↓x_k45, ↓x_k46, ↓x_m46, ↓x_k47, ↓x_m47, ↓x_k48, ↓x_m48, ↓x_k49, ↓x_m49, ↓x_k50, ↓x_k51, ↓x_m51, ↓x_k52, ↓x_m52, ↓x_k53, ↓x_m53, ↓x_k54, ↓x_m54, ↓x_k55, ↓x_k56, ↓x_m56, ↓x_k57, ↓x_m57, ↓x_k58, ↓x_m58, ↓x_k59, ↓x_m59, ↓x_k60, ↓x_k61, ↓x_m61, ↓x_k62, ↓x_m62, ↓x_k63, ↓x_m63, ↓x_k64, ↓x_m64, ↓x_k65, ↓x_k66, ↓x_m66, ↓x_k67, ↓x_m67, ↓x_k68, ↓x_m68, ↓x_k69, ↓x_m69, ↓x_k70, ↓x_k71, ↓x_m71, ↓x_k72, ↓x_k73, ↓x_m73, ↓x_k74, ↓x_k75, ↓x_m75, ↓x_k76, ↓x_k77, ↓x_m77, ↓x_k78, ↓x_k79, ↓x_m79, ↓x_k80, ↓x_m80, ↓x_k81, ↓x_m81, ↓x_k82, ↓x_m82, ↓x_k83, ↓x_m83, ↓x_k84, ↓x_m84, ↓x_k85, ↓x_m85, ↓x_k86, ↓x_m86, ↓x_k87, ↓x_m87, ↓x_k88, ↓x_m88, ↓x_k89, ↓x_m89, ↓x_k90, ↓x_m90, ↓x_k91, ↓x_m91, ↓x_k92, ↓x_m92, ↓x_k93, ↓x_m93, ↓x_k94, ↓x_m94, ↓x_k95, ↓x_m95, ↓x_k96, ↓x_m96, ↓x_k97, ↓x_m97, x_q0_0, x_q0_1, x_q0_2, x_q0_4, x_q0_5, x_q0_6, x_q0_8, x_q0_9, x_q0_10, x_q0_11, x_q0_12, x_q0_13, x_q1_0, x_q2_0, x_q2_1, x_q2_2, x_q2_3, x_q2_4, x_q8_0, x_q9_0, x_q9_1, x_q9_2, x_q9_3, x_q9_4, x_q15_0, x_q16_0, x_q16_1, x_q16_2, x_q16_3, x_q16_4, x_q22_0, x_q22_1, x_q24_0, x_q24_1, x_q24_2, x_q24_3, x_q29_0, x_q29_1, x_q29_2, x_q29_3, x_q34_0, x_q34_1, x_q34_2, x_q34_3, x_q34_4, x_q34_5, x_q35_0, x_q35_1, x_q35_2, x_q35_3, x_q38_0, x_q40_0, x_q40_1, x_q40_2, x_q45_0, x_q45_1, x_q45_2, x_q45_3, x_q50_0, x_q50_1, x_q50_2, x_q50_3, x_q55_0, x_q55_1, x_q55_2, x_q55_3, x_q60_0, x_q60_1, x_q60_2, x_q60_3, x_q65_0, x_q65_1, x_q65_2, x_q65_3, x_q70_0, x_q72_0, x_q74_0, x_q76_0, x_q78_1, x_q78_2, x_q78_3, x_q78_8, x_q78_10, x_q78_11, x_q78_21, x_q78_22, x_q78_23, x_q78_24, x_q78_25, x_q78_30, x_q78_31, x_q78_35, x_q78_36, x_q78_37, x_q78_42, x_q78_48, x_q78_49, hG2, hl5, y12, hrl2.2.2.2.2]
          rw [a3, x_ci_s]
      by_cases c1 : i2 = 1
      · subst c1
        obtain ⟨σ2, a2, f2⟩ := c164 D hG1 hr6 hv1 e131 hl5 hrl1 y11
        refine x_op_fr hR _ ⟨_, rfl⟩ x_wt_per (Eq.trans (pre _ ?_) a1) f1 (Eq.trans ?_ a2) f2
        · rw [if_neg c0, if_pos rfl, a1]
        · show x_run (D + 6) 165 [.inr (.inr (some 78)), .inl (Int32.ofNat l), .inl 1] σ1 = _
          rw [r165, e165_0, x_k78 hG1, m135_in _ hG1 hn hl (la f1), x_ci_s, if_neg one, if_neg c0, if_pos rfl, x_k78 hG1, a2, x_ci_s]
      by_cases c2 : i2 = 2
      · subst c2
        obtain ⟨σ2, a2, f2⟩ := c164 D hG1 hr6 hv1 e131 hl5 hrl1 y11
        have f12 := f1.trans f2
        have hG2 := f12.G hG
        obtain ⟨-, -, hv2, e132, e62, y12, y22, hcl2, hrl2, -⟩ := hf.fr hn ht.2 f12
        refine x_op_fr hR _ ⟨_, rfl⟩ x_wt_per (Eq.trans (pre _ ?_) (c20 D hG1 hc hcl1 (x_Z p k m e s y u))) f1 (Eq.trans ?_ (c163 D hG2 hl5 hrl2 eb big)) f2
        · rw [if_neg c0, if_neg c1, if_pos rfl, x_der_s, x_kl3 hG1 hl5, c20 _ hG1 hc hcl1, x_ci_s, c20 _ hG1 hc hcl1]
        · show x_run (D + 6) 165 [.inr (.inr (some 78)), .inl (Int32.ofNat l), .inl 2] σ1 = _
          rw [r165, e165_0, x_k78 hG1, m135_in _ hG1 hn hl (la f1), x_ci_s, if_neg one, if_neg c0, if_neg c1, if_pos rfl, x_k78 hG1, a2, x_ci_s, x_k78 hG2, c163 _ hG2 hl5 hrl2 eb big, x_ci_s, c163 _ hG2 hl5 hrl2 eb big]
      by_cases c3 : i2 = 3
      · subst c3
        obtain ⟨σ2, a2, f2⟩ := c19 (D + 1) hG1 hr6 hv1 hc hcl1 y (x_Z p k m e s y u)
        have f12 := f1.trans f2
        have hG2 := f12.G hG
        obtain ⟨-, -, hv2, e132, e62, y12, y22, hcl2, hrl2, -⟩ := hf.fr hn ht.2 f12
        obtain ⟨σ3, a3, f3⟩ := c164 D hG2 hr6 hv2 e132 hl5 hrl2 y12
        have f13 := f12.trans f3
        have hG3 := f13.G hG
        obtain ⟨-, -, hv3, e133, e63, y13, y23, hcl3, hrl3, -⟩ := hf.fr hn ht.2 f13
        obtain ⟨σ4, a4, f4⟩ := c162 (D + 1) hG3 hr6 hv3 e133 hl5 hrl3 y13 (x_Z p k m e s y u)
        refine x_op_fr hR _ ⟨_, rfl⟩ x_wt_per (Eq.trans (pre _ ?_) a2) f12 (Eq.trans ?_ a4) (f3.trans f4)
        · rw [if_neg c0, if_neg c1, if_neg c2, if_pos rfl]
          simp only [x_k0, x_k1, hG1, x_q0_0, x_der_s, x_kl3, hl5, y21, a2, x_ci_s]
        · show x_run (D + 6) 165 [.inr (.inr (some 78)), .inl (Int32.ofNat l), .inl 3] σ2 = _
          rw [r165, e165_0, x_k78 hG2, m135_in _ hG2 hn hl (la f12), x_ci_s, if_neg one, if_neg c0, if_neg c1, if_neg c2, if_pos rfl, x_k78 hG2, a3, x_ci_s, x_k78 hG3, a4, x_ci_s]
      refine x_op_fr hR (.inl (-7)) ⟨_, rfl⟩ x_wt_per (pre _ ?_) f1 ?_ (x_fr.refl _ _ _)
      · rw [if_neg c0, if_neg c1, if_neg c2, if_neg c3]
      · show x_run (D + 6) 165 [.inr (.inr (some 78)), .inl (Int32.ofNat l), .inl i2] σ1 = _
        rw [r165, e165_0, x_k78 hG1, m135_in _ hG1 hn hl (la f1), x_ci_s, if_neg one, if_neg c0, if_neg c1, if_neg c2, if_neg c3]
    · refine x_op_eq hR (.inl (-5)) ⟨_, rfl⟩ ?_ ?_
      · show x_run (D + 6) 85 [.inr (.inr (some 0)), .inl i1, .inl i2] σ = _
        rw [r85, e85_0, x_k0 hG, x_q0_0 hG, x_der_s, x_k1 hG, m65_out _ hG ho l2, x_cr_s, x_nul_n]
      · show x_run (D + 6) 165 [.inr (.inr (some 78)), .inl i1, .inl i2] σ = _
        rw [r165, e165_0, x_k78 hG, m135_out _ hG hn ho l1, x_ci_s, if_pos rfl]
