/-! tools for walks (wip/whole/gen32.py) -/
theorem x_Gsi (σ : xS) (a u : Nat) (v : Int32) : x_G (x_si σ a u v) = x_G σ := propext Iff.rfl
theorem x_Gsl (σ : xS) (a u : Nat) (v : Int64) : x_G (x_sl σ a u v) = x_G σ := propext Iff.rfl
theorem x_Isl (σ : xS) (a u b w : Nat) (v : Int64) : x_I (x_sl σ a u v) b w = x_I σ b w := rfl
theorem x_Jsi (σ : xS) (a u b w : Nat) (v : Int32) : x_J (x_si σ a u v) b w = x_J σ b w := rfl
theorem x_Qsi (σ : xS) (a u b w : Nat) (v : Int32) : x_Q (x_si σ a u v) b w = x_Q σ b w := rfl
theorem x_Qsl (σ : xS) (a u b w : Nat) (v : Int64) : x_Q (x_sl σ a u v) b w = x_Q σ b w := rfl
theorem x_Isi (σ : xS) (a u b w : Nat) (v : Int32) : x_I (x_si σ a u v) b w = if b = a ∧ w = u then v else x_I σ b w := by
  by_cases h : b = a ∧ w = u
  · obtain ⟨rfl, rfl⟩ := h
    rw [if_pos ⟨rfl, rfl⟩]; exact x_I_same v
  · rw [if_neg h]; exact x_I_other v h
theorem x_Jsl (σ : xS) (a u b w : Nat) (v : Int64) : x_J (x_sl σ a u v) b w = if b = a ∧ w = u then v else x_J σ b w := by
  show (bif Nat.beq b a && Nat.beq w u then v else σ.2.2.1 b w) = _
  by_cases h : b = a ∧ w = u
  · obtain ⟨rfl, rfl⟩ := h
    rw [if_pos ⟨rfl, rfl⟩, Nat.beq_refl, Nat.beq_refl]; rfl
  · rw [if_neg h]
    cases e : (Nat.beq b a && Nat.beq w u) with
    | false => rfl
    | true =>
      obtain ⟨e1, e2⟩ := x_an e
      exact absurd ⟨Nat.eq_of_beq_eq_true e1, Nat.eq_of_beq_eq_true e2⟩ h
theorem x_ixl {i : Int32} {n : Nat} (h : (decide (i < 0) || Nat.ble n i.toNatClampNeg) = false) (K : Option xR) : x_ix i n K = K := by
  unfold x_ix
  rw [if_neg]
  rintro (g | g)
  · rw [decide_eq_true g] at h; cases h
  · rw [Nat.ble_eq_true_of_le g, Bool.or_true] at h; cases h
theorem x_k0 {σ : xS} (h : x_G σ) (K : Option xR) : x_ck σ 0 9 K = K := x_ckk h.1 rfl K
theorem x_k1 {σ : xS} (h : x_G σ) (K : Option xR) : x_ck σ 1 8 K = K := x_ckk h.1 rfl K
theorem x_k2 {σ : xS} (h : x_G σ) (K : Nat → Option xR) : x_aq σ 2 K = K 5 := x_aqk h.1 rfl K
theorem x_m2 {σ : xS} (h : x_G σ) (K : Nat → Option xR) : x_aa σ 2 K = K 5 := x_aak h.1 (c := 13) rfl rfl K
theorem x_k3 {σ : xS} (h : x_G σ) (K : Option xR) : x_ck σ 3 2 K = K := x_ckk h.1 rfl K
theorem x_k4 {σ : xS} (h : x_G σ) (K : Option xR) : x_ck σ 4 2 K = K := x_ckk h.1 rfl K
theorem x_k5 {σ : xS} (h : x_G σ) (K : Option xR) : x_ck σ 5 2 K = K := x_ckk h.1 rfl K
theorem x_k6 {σ : xS} (h : x_G σ) (K : Option xR) : x_ck σ 6 2 K = K := x_ckk h.1 rfl K
theorem x_k7 {σ : xS} (h : x_G σ) (K : Option xR) : x_ck σ 7 2 K = K := x_ckk h.1 rfl K
theorem x_k8 {σ : xS} (h : x_G σ) (K : Option xR) : x_ck σ 8 8 K = K := x_ckk h.1 rfl K
theorem x_k9 {σ : xS} (h : x_G σ) (K : Nat → Option xR) : x_aq σ 9 K = K 5 := x_aqk h.1 rfl K
theorem x_m9 {σ : xS} (h : x_G σ) (K : Nat → Option xR) : x_aa σ 9 K = K 5 := x_aak h.1 (c := 13) rfl rfl K
theorem x_k10 {σ : xS} (h : x_G σ) (K : Option xR) : x_ck σ 10 2 K = K := x_ckk h.1 rfl K
theorem x_k11 {σ : xS} (h : x_G σ) (K : Option xR) : x_ck σ 11 2 K = K := x_ckk h.1 rfl K
theorem x_k12 {σ : xS} (h : x_G σ) (K : Option xR) : x_ck σ 12 2 K = K := x_ckk h.1 rfl K
theorem x_k13 {σ : xS} (h : x_G σ) (K : Option xR) : x_ck σ 13 2 K = K := x_ckk h.1 rfl K
theorem x_k14 {σ : xS} (h : x_G σ) (K : Option xR) : x_ck σ 14 2 K = K := x_ckk h.1 rfl K
theorem x_k15 {σ : xS} (h : x_G σ) (K : Option xR) : x_ck σ 15 8 K = K := x_ckk h.1 rfl K
theorem x_k16 {σ : xS} (h : x_G σ) (K : Nat → Option xR) : x_aq σ 16 K = K 5 := x_aqk h.1 rfl K
theorem x_m16 {σ : xS} (h : x_G σ) (K : Nat → Option xR) : x_aa σ 16 K = K 5 := x_aak h.1 (c := 13) rfl rfl K
theorem x_k17 {σ : xS} (h : x_G σ) (K : Option xR) : x_ck σ 17 2 K = K := x_ckk h.1 rfl K
theorem x_k18 {σ : xS} (h : x_G σ) (K : Option xR) : x_ck σ 18 2 K = K := x_ckk h.1 rfl K
theorem x_k19 {σ : xS} (h : x_G σ) (K : Option xR) : x_ck σ 19 2 K = K := x_ckk h.1 rfl K
theorem x_k20 {σ : xS} (h : x_G σ) (K : Option xR) : x_ck σ 20 2 K = K := x_ckk h.1 rfl K
theorem x_k21 {σ : xS} (h : x_G σ) (K : Option xR) : x_ck σ 21 2 K = K := x_ckk h.1 rfl K
theorem x_k22 {σ : xS} (h : x_G σ) (K : Option xR) : x_ck σ 22 6 K = K := x_ckk h.1 rfl K
theorem x_k23 {σ : xS} (h : x_G σ) (K : Nat → Option xR) : x_ak σ 23 11 K = K 160 := x_akk h.1 rfl K
theorem x_m23 {σ : xS} (h : x_G σ) (K : Nat → Option xR) : x_aa σ 23 K = K 160 := x_aak h.1 (c := 11) rfl rfl K
theorem x_k24 {σ : xS} (h : x_G σ) (K : Option xR) : x_ck σ 24 7 K = K := x_ckk h.1 rfl K
theorem x_k25 {σ : xS} (h : x_G σ) (K : Nat → Option xR) : x_ak σ 25 11 K = K 160 := x_akk h.1 rfl K
theorem x_m25 {σ : xS} (h : x_G σ) (K : Nat → Option xR) : x_aa σ 25 K = K 160 := x_aak h.1 (c := 11) rfl rfl K
theorem x_k26 {σ : xS} (h : x_G σ) (K : Nat → Option xR) : x_ak σ 26 11 K = K 160 := x_akk h.1 rfl K
theorem x_m26 {σ : xS} (h : x_G σ) (K : Nat → Option xR) : x_aa σ 26 K = K 160 := x_aak h.1 (c := 11) rfl rfl K
theorem x_k27 {σ : xS} (h : x_G σ) (K : Nat → Option xR) : x_ak σ 27 11 K = K 3 := x_akk h.1 rfl K
theorem x_m27 {σ : xS} (h : x_G σ) (K : Nat → Option xR) : x_aa σ 27 K = K 3 := x_aak h.1 (c := 11) rfl rfl K
theorem x_k28 {σ : xS} (h : x_G σ) (K : Nat → Option xR) : x_ak σ 28 11 K = K 6 := x_akk h.1 rfl K
theorem x_m28 {σ : xS} (h : x_G σ) (K : Nat → Option xR) : x_aa σ 28 K = K 6 := x_aak h.1 (c := 11) rfl rfl K
theorem x_k29 {σ : xS} (h : x_G σ) (K : Option xR) : x_ck σ 29 7 K = K := x_ckk h.1 rfl K
theorem x_k30 {σ : xS} (h : x_G σ) (K : Nat → Option xR) : x_ak σ 30 11 K = K 160 := x_akk h.1 rfl K
theorem x_m30 {σ : xS} (h : x_G σ) (K : Nat → Option xR) : x_aa σ 30 K = K 160 := x_aak h.1 (c := 11) rfl rfl K
theorem x_k31 {σ : xS} (h : x_G σ) (K : Nat → Option xR) : x_ak σ 31 11 K = K 160 := x_akk h.1 rfl K
theorem x_m31 {σ : xS} (h : x_G σ) (K : Nat → Option xR) : x_aa σ 31 K = K 160 := x_aak h.1 (c := 11) rfl rfl K
theorem x_k32 {σ : xS} (h : x_G σ) (K : Nat → Option xR) : x_ak σ 32 11 K = K 3 := x_akk h.1 rfl K
theorem x_m32 {σ : xS} (h : x_G σ) (K : Nat → Option xR) : x_aa σ 32 K = K 3 := x_aak h.1 (c := 11) rfl rfl K
theorem x_k33 {σ : xS} (h : x_G σ) (K : Nat → Option xR) : x_ak σ 33 11 K = K 6 := x_akk h.1 rfl K
theorem x_m33 {σ : xS} (h : x_G σ) (K : Nat → Option xR) : x_aa σ 33 K = K 6 := x_aak h.1 (c := 11) rfl rfl K
theorem x_k34 {σ : xS} (h : x_G σ) (K : Nat → Option xR) : x_aq σ 34 K = K 6 := by unfold x_aq; rw [h.1]; rfl
theorem x_m34 {σ : xS} (h : x_G σ) (K : Nat → Option xR) : x_aa σ 34 K = K 6 := x_aak h.1 (c := 15) rfl rfl K
theorem x_k35 {σ : xS} (h : x_G σ) (K : Nat → Option xR) : x_aq σ 35 K = K 4 := by unfold x_aq; rw [h.1]; rfl
theorem x_m35 {σ : xS} (h : x_G σ) (K : Nat → Option xR) : x_aa σ 35 K = K 4 := x_aak h.1 (c := 14) rfl rfl K
theorem x_k36 {σ : xS} (h : x_G σ) (K : Option xR) : x_ck σ 36 2 K = K := x_ckk h.1 rfl K
theorem x_k37 {σ : xS} (h : x_G σ) (K : Option xR) : x_ck σ 37 1 K = K := x_ckk h.1 rfl K
theorem x_k38 {σ : xS} (h : x_G σ) (K : Option xR) : x_ck σ 38 4 K = K := x_ckk h.1 rfl K
theorem x_k39 {σ : xS} (h : x_G σ) (K : Nat → Option xR) : x_ak σ 39 12 K = K 7 := x_akk h.1 rfl K
theorem x_m39 {σ : xS} (h : x_G σ) (K : Nat → Option xR) : x_aa σ 39 K = K 7 := x_aak h.1 (c := 12) rfl rfl K
theorem x_k40 {σ : xS} (h : x_G σ) (K : Option xR) : x_ck σ 40 0 K = K := x_ckk h.1 rfl K
theorem x_k41 {σ : xS} (h : x_G σ) (K : Nat → Option xR) : x_ak σ 41 11 K = K 5 := x_akk h.1 rfl K
theorem x_m41 {σ : xS} (h : x_G σ) (K : Nat → Option xR) : x_aa σ 41 K = K 5 := x_aak h.1 (c := 11) rfl rfl K
theorem x_k42 {σ : xS} (h : x_G σ) (K : Nat → Option xR) : x_ak σ 42 11 K = K 5 := x_akk h.1 rfl K
theorem x_m42 {σ : xS} (h : x_G σ) (K : Nat → Option xR) : x_aa σ 42 K = K 5 := x_aak h.1 (c := 11) rfl rfl K
theorem x_k43 {σ : xS} (h : x_G σ) (K : Nat → Option xR) : x_ak σ 43 11 K = K 5 := x_akk h.1 rfl K
theorem x_m43 {σ : xS} (h : x_G σ) (K : Nat → Option xR) : x_aa σ 43 K = K 5 := x_aak h.1 (c := 11) rfl rfl K
theorem x_k44 {σ : xS} (h : x_G σ) (K : Option xR) : x_ck σ 44 3 K = K := x_ckk h.1 rfl K
theorem x_k45 {σ : xS} (h : x_G σ) (K : Option xR) : x_ck σ 45 7 K = K := x_ckk h.1 rfl K
theorem x_k46 {σ : xS} (h : x_G σ) (K : Nat → Option xR) : x_ak σ 46 11 K = K 160 := x_akk h.1 rfl K
theorem x_m46 {σ : xS} (h : x_G σ) (K : Nat → Option xR) : x_aa σ 46 K = K 160 := x_aak h.1 (c := 11) rfl rfl K
theorem x_k47 {σ : xS} (h : x_G σ) (K : Nat → Option xR) : x_ak σ 47 11 K = K 160 := x_akk h.1 rfl K
theorem x_m47 {σ : xS} (h : x_G σ) (K : Nat → Option xR) : x_aa σ 47 K = K 160 := x_aak h.1 (c := 11) rfl rfl K
theorem x_k48 {σ : xS} (h : x_G σ) (K : Nat → Option xR) : x_ak σ 48 11 K = K 3 := x_akk h.1 rfl K
theorem x_m48 {σ : xS} (h : x_G σ) (K : Nat → Option xR) : x_aa σ 48 K = K 3 := x_aak h.1 (c := 11) rfl rfl K
theorem x_k49 {σ : xS} (h : x_G σ) (K : Nat → Option xR) : x_ak σ 49 11 K = K 6 := x_akk h.1 rfl K
theorem x_m49 {σ : xS} (h : x_G σ) (K : Nat → Option xR) : x_aa σ 49 K = K 6 := x_aak h.1 (c := 11) rfl rfl K
theorem x_k50 {σ : xS} (h : x_G σ) (K : Option xR) : x_ck σ 50 7 K = K := x_ckk h.1 rfl K
theorem x_k51 {σ : xS} (h : x_G σ) (K : Nat → Option xR) : x_ak σ 51 11 K = K 160 := x_akk h.1 rfl K
theorem x_m51 {σ : xS} (h : x_G σ) (K : Nat → Option xR) : x_aa σ 51 K = K 160 := x_aak h.1 (c := 11) rfl rfl K
theorem x_k52 {σ : xS} (h : x_G σ) (K : Nat → Option xR) : x_ak σ 52 11 K = K 160 := x_akk h.1 rfl K
theorem x_m52 {σ : xS} (h : x_G σ) (K : Nat → Option xR) : x_aa σ 52 K = K 160 := x_aak h.1 (c := 11) rfl rfl K
theorem x_k53 {σ : xS} (h : x_G σ) (K : Nat → Option xR) : x_ak σ 53 11 K = K 3 := x_akk h.1 rfl K
theorem x_m53 {σ : xS} (h : x_G σ) (K : Nat → Option xR) : x_aa σ 53 K = K 3 := x_aak h.1 (c := 11) rfl rfl K
theorem x_k54 {σ : xS} (h : x_G σ) (K : Nat → Option xR) : x_ak σ 54 11 K = K 6 := x_akk h.1 rfl K
theorem x_m54 {σ : xS} (h : x_G σ) (K : Nat → Option xR) : x_aa σ 54 K = K 6 := x_aak h.1 (c := 11) rfl rfl K
theorem x_k55 {σ : xS} (h : x_G σ) (K : Option xR) : x_ck σ 55 7 K = K := x_ckk h.1 rfl K
theorem x_k56 {σ : xS} (h : x_G σ) (K : Nat → Option xR) : x_ak σ 56 11 K = K 160 := x_akk h.1 rfl K
theorem x_m56 {σ : xS} (h : x_G σ) (K : Nat → Option xR) : x_aa σ 56 K = K 160 := x_aak h.1 (c := 11) rfl rfl K
theorem x_k57 {σ : xS} (h : x_G σ) (K : Nat → Option xR) : x_ak σ 57 11 K = K 160 := x_akk h.1 rfl K
theorem x_m57 {σ : xS} (h : x_G σ) (K : Nat → Option xR) : x_aa σ 57 K = K 160 := x_aak h.1 (c := 11) rfl rfl K
theorem x_k58 {σ : xS} (h : x_G σ) (K : Nat → Option xR) : x_ak σ 58 11 K = K 3 := x_akk h.1 rfl K
theorem x_m58 {σ : xS} (h : x_G σ) (K : Nat → Option xR) : x_aa σ 58 K = K 3 := x_aak h.1 (c := 11) rfl rfl K
theorem x_k59 {σ : xS} (h : x_G σ) (K : Nat → Option xR) : x_ak σ 59 11 K = K 6 := x_akk h.1 rfl K
theorem x_m59 {σ : xS} (h : x_G σ) (K : Nat → Option xR) : x_aa σ 59 K = K 6 := x_aak h.1 (c := 11) rfl rfl K
theorem x_k60 {σ : xS} (h : x_G σ) (K : Option xR) : x_ck σ 60 7 K = K := x_ckk h.1 rfl K
theorem x_k61 {σ : xS} (h : x_G σ) (K : Nat → Option xR) : x_ak σ 61 11 K = K 160 := x_akk h.1 rfl K
theorem x_m61 {σ : xS} (h : x_G σ) (K : Nat → Option xR) : x_aa σ 61 K = K 160 := x_aak h.1 (c := 11) rfl rfl K
theorem x_k62 {σ : xS} (h : x_G σ) (K : Nat → Option xR) : x_ak σ 62 11 K = K 160 := x_akk h.1 rfl K
theorem x_m62 {σ : xS} (h : x_G σ) (K : Nat → Option xR) : x_aa σ 62 K = K 160 := x_aak h.1 (c := 11) rfl rfl K
theorem x_k63 {σ : xS} (h : x_G σ) (K : Nat → Option xR) : x_ak σ 63 11 K = K 3 := x_akk h.1 rfl K
theorem x_m63 {σ : xS} (h : x_G σ) (K : Nat → Option xR) : x_aa σ 63 K = K 3 := x_aak h.1 (c := 11) rfl rfl K
theorem x_k64 {σ : xS} (h : x_G σ) (K : Nat → Option xR) : x_ak σ 64 11 K = K 6 := x_akk h.1 rfl K
theorem x_m64 {σ : xS} (h : x_G σ) (K : Nat → Option xR) : x_aa σ 64 K = K 6 := x_aak h.1 (c := 11) rfl rfl K
theorem x_k65 {σ : xS} (h : x_G σ) (K : Option xR) : x_ck σ 65 7 K = K := x_ckk h.1 rfl K
theorem x_k66 {σ : xS} (h : x_G σ) (K : Nat → Option xR) : x_ak σ 66 11 K = K 160 := x_akk h.1 rfl K
theorem x_m66 {σ : xS} (h : x_G σ) (K : Nat → Option xR) : x_aa σ 66 K = K 160 := x_aak h.1 (c := 11) rfl rfl K
theorem x_k67 {σ : xS} (h : x_G σ) (K : Nat → Option xR) : x_ak σ 67 11 K = K 160 := x_akk h.1 rfl K
theorem x_m67 {σ : xS} (h : x_G σ) (K : Nat → Option xR) : x_aa σ 67 K = K 160 := x_aak h.1 (c := 11) rfl rfl K
theorem x_k68 {σ : xS} (h : x_G σ) (K : Nat → Option xR) : x_ak σ 68 11 K = K 3 := x_akk h.1 rfl K
theorem x_m68 {σ : xS} (h : x_G σ) (K : Nat → Option xR) : x_aa σ 68 K = K 3 := x_aak h.1 (c := 11) rfl rfl K
theorem x_k69 {σ : xS} (h : x_G σ) (K : Nat → Option xR) : x_ak σ 69 11 K = K 6 := x_akk h.1 rfl K
theorem x_m69 {σ : xS} (h : x_G σ) (K : Nat → Option xR) : x_aa σ 69 K = K 6 := x_aak h.1 (c := 11) rfl rfl K
theorem x_k70 {σ : xS} (h : x_G σ) (K : Option xR) : x_ck σ 70 5 K = K := x_ckk h.1 rfl K
theorem x_k71 {σ : xS} (h : x_G σ) (K : Nat → Option xR) : x_ak σ 71 11 K = K 40 := x_akk h.1 rfl K
theorem x_m71 {σ : xS} (h : x_G σ) (K : Nat → Option xR) : x_aa σ 71 K = K 40 := x_aak h.1 (c := 11) rfl rfl K
theorem x_k72 {σ : xS} (h : x_G σ) (K : Option xR) : x_ck σ 72 5 K = K := x_ckk h.1 rfl K
theorem x_k73 {σ : xS} (h : x_G σ) (K : Nat → Option xR) : x_ak σ 73 11 K = K 40 := x_akk h.1 rfl K
theorem x_m73 {σ : xS} (h : x_G σ) (K : Nat → Option xR) : x_aa σ 73 K = K 40 := x_aak h.1 (c := 11) rfl rfl K
theorem x_k74 {σ : xS} (h : x_G σ) (K : Option xR) : x_ck σ 74 5 K = K := x_ckk h.1 rfl K
theorem x_k75 {σ : xS} (h : x_G σ) (K : Nat → Option xR) : x_ak σ 75 11 K = K 40 := x_akk h.1 rfl K
theorem x_m75 {σ : xS} (h : x_G σ) (K : Nat → Option xR) : x_aa σ 75 K = K 40 := x_aak h.1 (c := 11) rfl rfl K
theorem x_k76 {σ : xS} (h : x_G σ) (K : Option xR) : x_ck σ 76 5 K = K := x_ckk h.1 rfl K
theorem x_k77 {σ : xS} (h : x_G σ) (K : Nat → Option xR) : x_ak σ 77 11 K = K 40 := x_akk h.1 rfl K
theorem x_m77 {σ : xS} (h : x_G σ) (K : Nat → Option xR) : x_aa σ 77 K = K 40 := x_aak h.1 (c := 11) rfl rfl K
theorem x_k78 {σ : xS} (h : x_G σ) (K : Option xR) : x_ck σ 78 10 K = K := x_ckk h.1 rfl K
theorem x_k79 {σ : xS} (h : x_G σ) (K : Nat → Option xR) : x_ak σ 79 11 K = K 5 := x_akk h.1 rfl K
theorem x_m79 {σ : xS} (h : x_G σ) (K : Nat → Option xR) : x_aa σ 79 K = K 5 := x_aak h.1 (c := 11) rfl rfl K
theorem x_k80 {σ : xS} (h : x_G σ) (K : Nat → Option xR) : x_ak σ 80 11 K = K 5 := x_akk h.1 rfl K
theorem x_m80 {σ : xS} (h : x_G σ) (K : Nat → Option xR) : x_aa σ 80 K = K 5 := x_aak h.1 (c := 11) rfl rfl K
theorem x_k81 {σ : xS} (h : x_G σ) (K : Nat → Option xR) : x_ak σ 81 11 K = K 30 := x_akk h.1 rfl K
theorem x_m81 {σ : xS} (h : x_G σ) (K : Nat → Option xR) : x_aa σ 81 K = K 30 := x_aak h.1 (c := 11) rfl rfl K
theorem x_k82 {σ : xS} (h : x_G σ) (K : Nat → Option xR) : x_ak σ 82 11 K = K 160 := x_akk h.1 rfl K
theorem x_m82 {σ : xS} (h : x_G σ) (K : Nat → Option xR) : x_aa σ 82 K = K 160 := x_aak h.1 (c := 11) rfl rfl K
theorem x_k83 {σ : xS} (h : x_G σ) (K : Nat → Option xR) : x_ak σ 83 11 K = K 1200 := x_akk h.1 rfl K
theorem x_m83 {σ : xS} (h : x_G σ) (K : Nat → Option xR) : x_aa σ 83 K = K 1200 := x_aak h.1 (c := 11) rfl rfl K
theorem x_k84 {σ : xS} (h : x_G σ) (K : Nat → Option xR) : x_ak σ 84 11 K = K 24 := x_akk h.1 rfl K
theorem x_m84 {σ : xS} (h : x_G σ) (K : Nat → Option xR) : x_aa σ 84 K = K 24 := x_aak h.1 (c := 11) rfl rfl K
theorem x_k85 {σ : xS} (h : x_G σ) (K : Nat → Option xR) : x_ak σ 85 11 K = K 30 := x_akk h.1 rfl K
theorem x_m85 {σ : xS} (h : x_G σ) (K : Nat → Option xR) : x_aa σ 85 K = K 30 := x_aak h.1 (c := 11) rfl rfl K
theorem x_k86 {σ : xS} (h : x_G σ) (K : Nat → Option xR) : x_ak σ 86 11 K = K 4 := x_akk h.1 rfl K
theorem x_m86 {σ : xS} (h : x_G σ) (K : Nat → Option xR) : x_aa σ 86 K = K 4 := x_aak h.1 (c := 11) rfl rfl K
theorem x_k87 {σ : xS} (h : x_G σ) (K : Nat → Option xR) : x_ak σ 87 11 K = K 4 := x_akk h.1 rfl K
theorem x_m87 {σ : xS} (h : x_G σ) (K : Nat → Option xR) : x_aa σ 87 K = K 4 := x_aak h.1 (c := 11) rfl rfl K
theorem x_k88 {σ : xS} (h : x_G σ) (K : Nat → Option xR) : x_ak σ 88 11 K = K 160 := x_akk h.1 rfl K
theorem x_m88 {σ : xS} (h : x_G σ) (K : Nat → Option xR) : x_aa σ 88 K = K 160 := x_aak h.1 (c := 11) rfl rfl K
theorem x_k89 {σ : xS} (h : x_G σ) (K : Nat → Option xR) : x_ak σ 89 11 K = K 50 := x_akk h.1 rfl K
theorem x_m89 {σ : xS} (h : x_G σ) (K : Nat → Option xR) : x_aa σ 89 K = K 50 := x_aak h.1 (c := 11) rfl rfl K
theorem x_k90 {σ : xS} (h : x_G σ) (K : Nat → Option xR) : x_ak σ 90 11 K = K 96 := x_akk h.1 rfl K
theorem x_m90 {σ : xS} (h : x_G σ) (K : Nat → Option xR) : x_aa σ 90 K = K 96 := x_aak h.1 (c := 11) rfl rfl K
theorem x_k91 {σ : xS} (h : x_G σ) (K : Nat → Option xR) : x_ak σ 91 11 K = K 200 := x_akk h.1 rfl K
theorem x_m91 {σ : xS} (h : x_G σ) (K : Nat → Option xR) : x_aa σ 91 K = K 200 := x_aak h.1 (c := 11) rfl rfl K
theorem x_k92 {σ : xS} (h : x_G σ) (K : Nat → Option xR) : x_ak σ 92 11 K = K 200 := x_akk h.1 rfl K
theorem x_m92 {σ : xS} (h : x_G σ) (K : Nat → Option xR) : x_aa σ 92 K = K 200 := x_aak h.1 (c := 11) rfl rfl K
theorem x_k93 {σ : xS} (h : x_G σ) (K : Nat → Option xR) : x_ak σ 93 11 K = K 6 := x_akk h.1 rfl K
theorem x_m93 {σ : xS} (h : x_G σ) (K : Nat → Option xR) : x_aa σ 93 K = K 6 := x_aak h.1 (c := 11) rfl rfl K
theorem x_k94 {σ : xS} (h : x_G σ) (K : Nat → Option xR) : x_ak σ 94 12 K = K 8 := x_akk h.1 rfl K
theorem x_m94 {σ : xS} (h : x_G σ) (K : Nat → Option xR) : x_aa σ 94 K = K 8 := x_aak h.1 (c := 12) rfl rfl K
theorem x_k95 {σ : xS} (h : x_G σ) (K : Nat → Option xR) : x_ak σ 95 11 K = K 5 := x_akk h.1 rfl K
theorem x_m95 {σ : xS} (h : x_G σ) (K : Nat → Option xR) : x_aa σ 95 K = K 5 := x_aak h.1 (c := 11) rfl rfl K
theorem x_k96 {σ : xS} (h : x_G σ) (K : Nat → Option xR) : x_ak σ 96 11 K = K 30 := x_akk h.1 rfl K
theorem x_m96 {σ : xS} (h : x_G σ) (K : Nat → Option xR) : x_aa σ 96 K = K 30 := x_aak h.1 (c := 11) rfl rfl K
theorem x_k97 {σ : xS} (h : x_G σ) (K : Nat → Option xR) : x_ak σ 97 11 K = K 5 := x_akk h.1 rfl K
theorem x_m97 {σ : xS} (h : x_G σ) (K : Nat → Option xR) : x_aa σ 97 K = K 5 := x_aak h.1 (c := 11) rfl rfl K
theorem x_q0_0 {σ : xS} (h : x_G σ) : x_Q σ 0 0 = some 1 := h.2 (0, 0, some 1) (by decide)
theorem x_q0_1 {σ : xS} (h : x_G σ) : x_Q σ 0 1 = some 8 := h.2 (0, 1, some 8) (by decide)
theorem x_q0_2 {σ : xS} (h : x_G σ) : x_Q σ 0 2 = some 15 := h.2 (0, 2, some 15) (by decide)
theorem x_q0_4 {σ : xS} (h : x_G σ) : x_Q σ 0 4 = some 22 := h.2 (0, 4, some 22) (by decide)
theorem x_q0_5 {σ : xS} (h : x_G σ) : x_Q σ 0 5 = some 29 := h.2 (0, 5, some 29) (by decide)
theorem x_q0_6 {σ : xS} (h : x_G σ) : x_Q σ 0 6 = some 34 := h.2 (0, 6, some 34) (by decide)
theorem x_q0_8 {σ : xS} (h : x_G σ) : x_Q σ 0 8 = some 35 := h.2 (0, 8, some 35) (by decide)
theorem x_q0_9 {σ : xS} (h : x_G σ) : x_Q σ 0 9 = some 36 := h.2 (0, 9, some 36) (by decide)
theorem x_q0_10 {σ : xS} (h : x_G σ) : x_Q σ 0 10 = some 37 := h.2 (0, 10, some 37) (by decide)
theorem x_q0_11 {σ : xS} (h : x_G σ) : x_Q σ 0 11 = some 38 := h.2 (0, 11, some 38) (by decide)
theorem x_q0_12 {σ : xS} (h : x_G σ) : x_Q σ 0 12 = some 40 := h.2 (0, 12, some 40) (by decide)
theorem x_q0_13 {σ : xS} (h : x_G σ) : x_Q σ 0 13 = some 44 := h.2 (0, 13, some 44) (by decide)
theorem x_q1_0 {σ : xS} (h : x_G σ) : x_Q σ 1 0 = some 2 := h.2 (1, 0, some 2) (by decide)
theorem x_q2_0 {σ : xS} (h : x_G σ) : x_Q σ 2 0 = some 3 := h.2 (2, 0, some 3) (by decide)
theorem x_q2_1 {σ : xS} (h : x_G σ) : x_Q σ 2 1 = some 4 := h.2 (2, 1, some 4) (by decide)
theorem x_q2_2 {σ : xS} (h : x_G σ) : x_Q σ 2 2 = some 5 := h.2 (2, 2, some 5) (by decide)
theorem x_q2_3 {σ : xS} (h : x_G σ) : x_Q σ 2 3 = some 6 := h.2 (2, 3, some 6) (by decide)
theorem x_q2_4 {σ : xS} (h : x_G σ) : x_Q σ 2 4 = some 7 := h.2 (2, 4, some 7) (by decide)
theorem x_q8_0 {σ : xS} (h : x_G σ) : x_Q σ 8 0 = some 9 := h.2 (8, 0, some 9) (by decide)
theorem x_q9_0 {σ : xS} (h : x_G σ) : x_Q σ 9 0 = some 10 := h.2 (9, 0, some 10) (by decide)
theorem x_q9_1 {σ : xS} (h : x_G σ) : x_Q σ 9 1 = some 11 := h.2 (9, 1, some 11) (by decide)
theorem x_q9_2 {σ : xS} (h : x_G σ) : x_Q σ 9 2 = some 12 := h.2 (9, 2, some 12) (by decide)
theorem x_q9_3 {σ : xS} (h : x_G σ) : x_Q σ 9 3 = some 13 := h.2 (9, 3, some 13) (by decide)
theorem x_q9_4 {σ : xS} (h : x_G σ) : x_Q σ 9 4 = some 14 := h.2 (9, 4, some 14) (by decide)
theorem x_q15_0 {σ : xS} (h : x_G σ) : x_Q σ 15 0 = some 16 := h.2 (15, 0, some 16) (by decide)
theorem x_q16_0 {σ : xS} (h : x_G σ) : x_Q σ 16 0 = some 17 := h.2 (16, 0, some 17) (by decide)
theorem x_q16_1 {σ : xS} (h : x_G σ) : x_Q σ 16 1 = some 18 := h.2 (16, 1, some 18) (by decide)
theorem x_q16_2 {σ : xS} (h : x_G σ) : x_Q σ 16 2 = some 19 := h.2 (16, 2, some 19) (by decide)
theorem x_q16_3 {σ : xS} (h : x_G σ) : x_Q σ 16 3 = some 20 := h.2 (16, 3, some 20) (by decide)
theorem x_q16_4 {σ : xS} (h : x_G σ) : x_Q σ 16 4 = some 21 := h.2 (16, 4, some 21) (by decide)
theorem x_q22_0 {σ : xS} (h : x_G σ) : x_Q σ 22 0 = some 23 := h.2 (22, 0, some 23) (by decide)
theorem x_q22_1 {σ : xS} (h : x_G σ) : x_Q σ 22 1 = some 24 := h.2 (22, 1, some 24) (by decide)
theorem x_q24_0 {σ : xS} (h : x_G σ) : x_Q σ 24 0 = some 25 := h.2 (24, 0, some 25) (by decide)
theorem x_q24_1 {σ : xS} (h : x_G σ) : x_Q σ 24 1 = some 26 := h.2 (24, 1, some 26) (by decide)
theorem x_q24_2 {σ : xS} (h : x_G σ) : x_Q σ 24 2 = some 27 := h.2 (24, 2, some 27) (by decide)
theorem x_q24_3 {σ : xS} (h : x_G σ) : x_Q σ 24 3 = some 28 := h.2 (24, 3, some 28) (by decide)
theorem x_q29_0 {σ : xS} (h : x_G σ) : x_Q σ 29 0 = some 30 := h.2 (29, 0, some 30) (by decide)
theorem x_q29_1 {σ : xS} (h : x_G σ) : x_Q σ 29 1 = some 31 := h.2 (29, 1, some 31) (by decide)
theorem x_q29_2 {σ : xS} (h : x_G σ) : x_Q σ 29 2 = some 32 := h.2 (29, 2, some 32) (by decide)
theorem x_q29_3 {σ : xS} (h : x_G σ) : x_Q σ 29 3 = some 33 := h.2 (29, 3, some 33) (by decide)
theorem x_q34_0 {σ : xS} (h : x_G σ) : x_Q σ 34 0 = some 29 := h.2 (34, 0, some 29) (by decide)
theorem x_q34_1 {σ : xS} (h : x_G σ) : x_Q σ 34 1 = some 45 := h.2 (34, 1, some 45) (by decide)
theorem x_q34_2 {σ : xS} (h : x_G σ) : x_Q σ 34 2 = some 50 := h.2 (34, 2, some 50) (by decide)
theorem x_q34_3 {σ : xS} (h : x_G σ) : x_Q σ 34 3 = some 55 := h.2 (34, 3, some 55) (by decide)
theorem x_q34_4 {σ : xS} (h : x_G σ) : x_Q σ 34 4 = some 60 := h.2 (34, 4, some 60) (by decide)
theorem x_q34_5 {σ : xS} (h : x_G σ) : x_Q σ 34 5 = some 65 := h.2 (34, 5, some 65) (by decide)
theorem x_q35_0 {σ : xS} (h : x_G σ) : x_Q σ 35 0 = some 70 := h.2 (35, 0, some 70) (by decide)
theorem x_q35_1 {σ : xS} (h : x_G σ) : x_Q σ 35 1 = some 72 := h.2 (35, 1, some 72) (by decide)
theorem x_q35_2 {σ : xS} (h : x_G σ) : x_Q σ 35 2 = some 74 := h.2 (35, 2, some 74) (by decide)
theorem x_q35_3 {σ : xS} (h : x_G σ) : x_Q σ 35 3 = some 76 := h.2 (35, 3, some 76) (by decide)
theorem x_q38_0 {σ : xS} (h : x_G σ) : x_Q σ 38 0 = some 39 := h.2 (38, 0, some 39) (by decide)
theorem x_q40_0 {σ : xS} (h : x_G σ) : x_Q σ 40 0 = some 41 := h.2 (40, 0, some 41) (by decide)
theorem x_q40_1 {σ : xS} (h : x_G σ) : x_Q σ 40 1 = some 42 := h.2 (40, 1, some 42) (by decide)
theorem x_q40_2 {σ : xS} (h : x_G σ) : x_Q σ 40 2 = some 43 := h.2 (40, 2, some 43) (by decide)
theorem x_q45_0 {σ : xS} (h : x_G σ) : x_Q σ 45 0 = some 46 := h.2 (45, 0, some 46) (by decide)
theorem x_q45_1 {σ : xS} (h : x_G σ) : x_Q σ 45 1 = some 47 := h.2 (45, 1, some 47) (by decide)
theorem x_q45_2 {σ : xS} (h : x_G σ) : x_Q σ 45 2 = some 48 := h.2 (45, 2, some 48) (by decide)
theorem x_q45_3 {σ : xS} (h : x_G σ) : x_Q σ 45 3 = some 49 := h.2 (45, 3, some 49) (by decide)
theorem x_q50_0 {σ : xS} (h : x_G σ) : x_Q σ 50 0 = some 51 := h.2 (50, 0, some 51) (by decide)
theorem x_q50_1 {σ : xS} (h : x_G σ) : x_Q σ 50 1 = some 52 := h.2 (50, 1, some 52) (by decide)
theorem x_q50_2 {σ : xS} (h : x_G σ) : x_Q σ 50 2 = some 53 := h.2 (50, 2, some 53) (by decide)
theorem x_q50_3 {σ : xS} (h : x_G σ) : x_Q σ 50 3 = some 54 := h.2 (50, 3, some 54) (by decide)
theorem x_q55_0 {σ : xS} (h : x_G σ) : x_Q σ 55 0 = some 56 := h.2 (55, 0, some 56) (by decide)
theorem x_q55_1 {σ : xS} (h : x_G σ) : x_Q σ 55 1 = some 57 := h.2 (55, 1, some 57) (by decide)
theorem x_q55_2 {σ : xS} (h : x_G σ) : x_Q σ 55 2 = some 58 := h.2 (55, 2, some 58) (by decide)
theorem x_q55_3 {σ : xS} (h : x_G σ) : x_Q σ 55 3 = some 59 := h.2 (55, 3, some 59) (by decide)
theorem x_q60_0 {σ : xS} (h : x_G σ) : x_Q σ 60 0 = some 61 := h.2 (60, 0, some 61) (by decide)
theorem x_q60_1 {σ : xS} (h : x_G σ) : x_Q σ 60 1 = some 62 := h.2 (60, 1, some 62) (by decide)
theorem x_q60_2 {σ : xS} (h : x_G σ) : x_Q σ 60 2 = some 63 := h.2 (60, 2, some 63) (by decide)
theorem x_q60_3 {σ : xS} (h : x_G σ) : x_Q σ 60 3 = some 64 := h.2 (60, 3, some 64) (by decide)
theorem x_q65_0 {σ : xS} (h : x_G σ) : x_Q σ 65 0 = some 66 := h.2 (65, 0, some 66) (by decide)
theorem x_q65_1 {σ : xS} (h : x_G σ) : x_Q σ 65 1 = some 67 := h.2 (65, 1, some 67) (by decide)
theorem x_q65_2 {σ : xS} (h : x_G σ) : x_Q σ 65 2 = some 68 := h.2 (65, 2, some 68) (by decide)
theorem x_q65_3 {σ : xS} (h : x_G σ) : x_Q σ 65 3 = some 69 := h.2 (65, 3, some 69) (by decide)
theorem x_q70_0 {σ : xS} (h : x_G σ) : x_Q σ 70 0 = some 71 := h.2 (70, 0, some 71) (by decide)
theorem x_q72_0 {σ : xS} (h : x_G σ) : x_Q σ 72 0 = some 73 := h.2 (72, 0, some 73) (by decide)
theorem x_q74_0 {σ : xS} (h : x_G σ) : x_Q σ 74 0 = some 75 := h.2 (74, 0, some 75) (by decide)
theorem x_q76_0 {σ : xS} (h : x_G σ) : x_Q σ 76 0 = some 77 := h.2 (76, 0, some 77) (by decide)
theorem x_q78_1 {σ : xS} (h : x_G σ) : x_Q σ 78 1 = some 79 := h.2 (78, 1, some 79) (by decide)
theorem x_q78_2 {σ : xS} (h : x_G σ) : x_Q σ 78 2 = some 80 := h.2 (78, 2, some 80) (by decide)
theorem x_q78_3 {σ : xS} (h : x_G σ) : x_Q σ 78 3 = some 81 := h.2 (78, 3, some 81) (by decide)
theorem x_q78_8 {σ : xS} (h : x_G σ) : x_Q σ 78 8 = some 82 := h.2 (78, 8, some 82) (by decide)
theorem x_q78_10 {σ : xS} (h : x_G σ) : x_Q σ 78 10 = some 83 := h.2 (78, 10, some 83) (by decide)
theorem x_q78_11 {σ : xS} (h : x_G σ) : x_Q σ 78 11 = some 84 := h.2 (78, 11, some 84) (by decide)
theorem x_q78_21 {σ : xS} (h : x_G σ) : x_Q σ 78 21 = some 85 := h.2 (78, 21, some 85) (by decide)
theorem x_q78_22 {σ : xS} (h : x_G σ) : x_Q σ 78 22 = some 86 := h.2 (78, 22, some 86) (by decide)
theorem x_q78_23 {σ : xS} (h : x_G σ) : x_Q σ 78 23 = some 87 := h.2 (78, 23, some 87) (by decide)
theorem x_q78_24 {σ : xS} (h : x_G σ) : x_Q σ 78 24 = some 88 := h.2 (78, 24, some 88) (by decide)
theorem x_q78_25 {σ : xS} (h : x_G σ) : x_Q σ 78 25 = some 89 := h.2 (78, 25, some 89) (by decide)
theorem x_q78_30 {σ : xS} (h : x_G σ) : x_Q σ 78 30 = some 90 := h.2 (78, 30, some 90) (by decide)
theorem x_q78_31 {σ : xS} (h : x_G σ) : x_Q σ 78 31 = some 91 := h.2 (78, 31, some 91) (by decide)
theorem x_q78_35 {σ : xS} (h : x_G σ) : x_Q σ 78 35 = some 92 := h.2 (78, 35, some 92) (by decide)
theorem x_q78_36 {σ : xS} (h : x_G σ) : x_Q σ 78 36 = some 93 := h.2 (78, 36, some 93) (by decide)
theorem x_q78_37 {σ : xS} (h : x_G σ) : x_Q σ 78 37 = some 94 := h.2 (78, 37, some 94) (by decide)
theorem x_q78_42 {σ : xS} (h : x_G σ) : x_Q σ 78 42 = some 95 := h.2 (78, 42, some 95) (by decide)
theorem x_q78_48 {σ : xS} (h : x_G σ) : x_Q σ 78 48 = some 96 := h.2 (78, 48, some 96) (by decide)
theorem x_q78_49 {σ : xS} (h : x_G σ) : x_Q σ 78 49 = some 97 := h.2 (78, 49, some 97) (by decide)
theorem x_kl3 {σ : xS} (h : x_G σ) {l : Nat} (hl : l < 5) (K : Option xR) : x_ck σ (3 + l) 2 K = K := x_ckk h.1 (x_kl hl) K
theorem x_kl10 {σ : xS} (h : x_G σ) {l : Nat} (hl : l < 5) (K : Option xR) : x_ck σ (10 + l) 2 K = K := x_ckk h.1 (by rcases (show l = 0 ∨ l = 1 ∨ l = 2 ∨ l = 3 ∨ l = 4 by omega) with rfl | rfl | rfl | rfl | rfl <;> rfl) K
theorem x_kl17 {σ : xS} (h : x_G σ) {l : Nat} (hl : l < 5) (K : Option xR) : x_ck σ (17 + l) 2 K = K := x_ckk h.1 (by rcases (show l = 0 ∨ l = 1 ∨ l = 2 ∨ l = 3 ∨ l = 4 by omega) with rfl | rfl | rfl | rfl | rfl <;> rfl) K
theorem x_ql2 {σ : xS} (h : x_G σ) {l : Nat} (hl : l < 5) : x_Q σ 2 l = some (3 + l) := x_q_lives h hl
theorem x_ql9 {σ : xS} (hG : x_G σ) {l : Nat} (hl : l < 5) : x_Q σ 9 l = some (10 + l) := by
  rcases (show l = 0 ∨ l = 1 ∨ l = 2 ∨ l = 3 ∨ l = 4 by omega) with rfl | rfl | rfl | rfl | rfl
  · exact x_q9_0 hG
  · exact x_q9_1 hG
  · exact x_q9_2 hG
  · exact x_q9_3 hG
  · exact x_q9_4 hG
theorem x_ql16 {σ : xS} (hG : x_G σ) {l : Nat} (hl : l < 5) : x_Q σ 16 l = some (17 + l) := by
  rcases (show l = 0 ∨ l = 1 ∨ l = 2 ∨ l = 3 ∨ l = 4 by omega) with rfl | rfl | rfl | rfl | rfl
  · exact x_q16_0 hG
  · exact x_q16_1 hG
  · exact x_q16_2 hG
  · exact x_q16_3 hG
  · exact x_q16_4 hG
theorem x_i5 {l : Nat} (hl : l < 5) (K : Option xR) : x_ix (Int32.ofNat l) 5 K = K := x_ixk (by omega) (by omega) K
theorem x_i30 {l : Nat} (hl : l < 30) (K : Option xR) : x_ix (Int32.ofNat l) 30 K = K := x_ixk (by omega) (by omega) K
theorem x_i40 {l : Nat} (hl : l < 40) (K : Option xR) : x_ix (Int32.ofNat l) 40 K = K := x_ixk (by omega) (by omega) K
theorem x_i160 {l : Nat} (hl : l < 160) (K : Option xR) : x_ix (Int32.ofNat l) 160 K = K := x_ixk (by omega) (by omega) K
theorem x_n5 {l : Nat} (hl : l < 5) : (Int32.ofNat l).toNatClampNeg = l := x_tn (by omega)
theorem x_n30 {l : Nat} (hl : l < 30) : (Int32.ofNat l).toNatClampNeg = l := x_tn (by omega)
theorem x_n160 {l : Nat} (hl : l < 160) : (Int32.ofNat l).toNatClampNeg = l := x_tn (by omega)
theorem x_6i0 {l : Nat} (hl : l < 5) (K : Option xR) : x_ix (6 * Int32.ofNat l) 30 K = K := by
  rw [show 6 * Int32.ofNat l = Int32.ofNat (6 * l + 0) from (Int32.ofNat_mul 6 l).symm]
  exact x_ixk (by omega) (by omega) K
theorem x_6n0 {l : Nat} (hl : l < 5) : (6 * Int32.ofNat l).toNatClampNeg = 6 * l + 0 := by
  rw [show 6 * Int32.ofNat l = Int32.ofNat (6 * l + 0) from (Int32.ofNat_mul 6 l).symm]
  exact x_tn (by omega)
theorem x_6i1 {l : Nat} (hl : l < 5) (K : Option xR) : x_ix (6 * Int32.ofNat l + 1) 30 K = K := by
  rw [show 6 * Int32.ofNat l + 1 = Int32.ofNat (6 * l + 1) from x_6l (c := 1)]
  exact x_ixk (by omega) (by omega) K
theorem x_6n1 {l : Nat} (hl : l < 5) : (6 * Int32.ofNat l + 1).toNatClampNeg = 6 * l + 1 := by
  rw [show 6 * Int32.ofNat l + 1 = Int32.ofNat (6 * l + 1) from x_6l (c := 1)]
  exact x_tn (by omega)
theorem x_6i2 {l : Nat} (hl : l < 5) (K : Option xR) : x_ix (6 * Int32.ofNat l + 2) 30 K = K := by
  rw [show 6 * Int32.ofNat l + 2 = Int32.ofNat (6 * l + 2) from x_6l (c := 2)]
  exact x_ixk (by omega) (by omega) K
theorem x_6n2 {l : Nat} (hl : l < 5) : (6 * Int32.ofNat l + 2).toNatClampNeg = 6 * l + 2 := by
  rw [show 6 * Int32.ofNat l + 2 = Int32.ofNat (6 * l + 2) from x_6l (c := 2)]
  exact x_tn (by omega)
theorem x_6i3 {l : Nat} (hl : l < 5) (K : Option xR) : x_ix (6 * Int32.ofNat l + 3) 30 K = K := by
  rw [show 6 * Int32.ofNat l + 3 = Int32.ofNat (6 * l + 3) from x_6l (c := 3)]
  exact x_ixk (by omega) (by omega) K
theorem x_6n3 {l : Nat} (hl : l < 5) : (6 * Int32.ofNat l + 3).toNatClampNeg = 6 * l + 3 := by
  rw [show 6 * Int32.ofNat l + 3 = Int32.ofNat (6 * l + 3) from x_6l (c := 3)]
  exact x_tn (by omega)
theorem x_6i4 {l : Nat} (hl : l < 5) (K : Option xR) : x_ix (6 * Int32.ofNat l + 4) 30 K = K := by
  rw [show 6 * Int32.ofNat l + 4 = Int32.ofNat (6 * l + 4) from x_6l (c := 4)]
  exact x_ixk (by omega) (by omega) K
theorem x_6n4 {l : Nat} (hl : l < 5) : (6 * Int32.ofNat l + 4).toNatClampNeg = 6 * l + 4 := by
  rw [show 6 * Int32.ofNat l + 4 = Int32.ofNat (6 * l + 4) from x_6l (c := 4)]
  exact x_tn (by omega)
theorem x_6i5 {l : Nat} (hl : l < 5) (K : Option xR) : x_ix (6 * Int32.ofNat l + 5) 30 K = K := by
  rw [show 6 * Int32.ofNat l + 5 = Int32.ofNat (6 * l + 5) from x_6l (c := 5)]
  exact x_ixk (by omega) (by omega) K
theorem x_6n5 {l : Nat} (hl : l < 5) : (6 * Int32.ofNat l + 5).toNatClampNeg = 6 * l + 5 := by
  rw [show 6 * Int32.ofNat l + 5 = Int32.ofNat (6 * l + 5) from x_6l (c := 5)]
  exact x_tn (by omega)
theorem x_le5 {a b : Nat} (ha : a < 4000) (hb : b < 4000) : (Int32.ofNat a ≤ Int32.ofNat b) = (a ≤ b) := propext (x_le (by omega) (by omega))
theorem x_s1 (i : Nat) : Int32.ofNat i + 1 = Int32.ofNat (i + 1) := (Int32.ofNat_add i 1).symm
theorem x_b1_1 {c : Prop} [Decidable c] (h : c) : x_b1 c = 1 := if_pos h
theorem x_b1_0 {c : Prop} [Decidable c] (h : ¬ c) : x_b1 c = 0 := if_neg h
/-- what may be written -/
def x_fr (W V : Nat → Nat → Prop) (σ τ : xS) : Prop := τ.1 = σ.1 ∧ (∀ a u, x_Q τ a u = x_Q σ a u) ∧ (∀ a u, ¬ W a u → x_I τ a u = x_I σ a u) ∧ ∀ a u, ¬ V a u → x_J τ a u = x_J σ a u
def x_w0 (_ _ : Nat) : Prop := False
theorem x_fr.refl (W V : Nat → Nat → Prop) (σ : xS) : x_fr W V σ σ := ⟨rfl, fun _ _ => rfl, fun _ _ _ => rfl, fun _ _ _ => rfl⟩
theorem x_fr.trans {W V : Nat → Nat → Prop} {σ τ υ : xS} (h : x_fr W V σ τ) (g : x_fr W V τ υ) : x_fr W V σ υ := ⟨g.1.trans h.1, fun a u => (g.2.1 a u).trans (h.2.1 a u), fun a u p => (g.2.2.1 a u p).trans (h.2.2.1 a u p), fun a u p => (g.2.2.2 a u p).trans (h.2.2.2 a u p)⟩
theorem x_fr.si {W V : Nat → Nat → Prop} {σ τ : xS} (h : x_fr W V σ τ) {a u : Nat} (v : Int32) (hp : W a u) : x_fr W V σ (x_si τ a u v) := by
  refine ⟨h.1, h.2.1, fun b w p => ?_, h.2.2.2⟩
  rw [← h.2.2.1 b w p, x_Isi, if_neg]
  rintro ⟨rfl, rfl⟩
  exact p hp
theorem x_fr.sl {W V : Nat → Nat → Prop} {σ τ : xS} (h : x_fr W V σ τ) {a u : Nat} (v : Int64) (hp : V a u) : x_fr W V σ (x_sl τ a u v) := by
  refine ⟨h.1, h.2.1, h.2.2.1, fun b w p => ?_⟩
  rw [← h.2.2.2 b w p, x_Jsl, if_neg]
  rintro ⟨rfl, rfl⟩
  exact p hp
theorem x_fr.mono {W V W' V' : Nat → Nat → Prop} {σ τ : xS} (h : x_fr W V σ τ) (hW : ∀ a u, W a u → W' a u) (hV : ∀ a u, V a u → V' a u) : x_fr W' V' σ τ := ⟨h.1, h.2.1, fun a u p => h.2.2.1 a u (fun q => p (hW a u q)), fun a u p => h.2.2.2 a u (fun q => p (hV a u q))⟩
theorem x_fr.G {W V : Nat → Nat → Prop} {σ τ : xS} (h : x_fr W V σ τ) (hG : x_G σ) : x_G τ := ⟨h.1.trans hG.1, fun q hq => (h.2.1 _ _).trans (hG.2 q hq)⟩
theorem x_fr.I {W V : Nat → Nat → Prop} {σ τ : xS} (h : x_fr W V σ τ) {a u : Nat} (hp : ¬ W a u) : x_I τ a u = x_I σ a u := h.2.2.1 a u hp
theorem x_fr.J {W V : Nat → Nat → Prop} {σ τ : xS} (h : x_fr W V σ τ) {a u : Nat} (hp : ¬ V a u) : x_J τ a u = x_J σ a u := h.2.2.2 a u hp
theorem x_fr.e {W V : Nat → Nat → Prop} {σ τ : xS} (h : x_fr W V σ τ) (hW : ∀ a u, x_per a u = true → ¬ W a u) : x_eqv σ τ := ⟨h.1, h.2.1, fun a u p => h.2.2.1 a u (hW a u p)⟩
theorem x_op_eq {D : Nat} {lg : Bool} {j j' : Nat} {as : List Int32} {σ : xS} (hR : x_R σ) (v : xV) (hv : x_isv lg v) (e1 : x_run D j (.inr (.inr (some 0)) :: as.map .inl) σ = some (some v, σ)) (e2 : x_run D j' (.inr (.inr (some 78)) :: as.map .inl) σ = some (some v, σ)) : x_stp D x_R lg j j' as σ := ⟨v, σ, σ, hv, e1, hR.1.1, e2, hR⟩
theorem x_op_fr {D : Nat} {lg : Bool} {j j' : Nat} {as : List Int32} {σ σ1 τ : xS} {W V : Nat → Nat → Prop} (hR : x_R σ) (v : xV) (hv : x_isv lg v) (hW : ∀ a u, x_per a u = true → ¬ W a u) (e1 : x_run D j (.inr (.inr (some 0)) :: as.map .inl) σ = some (some v, σ1)) (f1 : x_fr W V σ σ1) (e2 : x_run D j' (.inr (.inr (some 78)) :: as.map .inl) σ1 = some (some v, τ)) (f2 : x_fr W V σ1 τ) : x_stp D x_R lg j j' as σ := ⟨v, σ1, τ, hv, e1, f1.1.trans hR.1.1, e2, hR.to ((f1.trans f2).e hW)⟩
/-- sheets -/
theorem x_ks5 {σ : xS} (h : x_G σ) {s : Nat} (hs : s < 4) (K : Option xR) : x_ck σ (70 + 2 * s) 5 K = K := x_ckk h.1 (by rcases (show s = 0 ∨ s = 1 ∨ s = 2 ∨ s = 3 by omega) with rfl | rfl | rfl | rfl <;> rfl) K
theorem x_kc5 {σ : xS} (h : x_G σ) {s : Nat} (hs : s < 4) (K : Nat → Option xR) : x_ak σ (71 + 2 * s) 11 K = K 40 := x_akk h.1 (by rcases (show s = 0 ∨ s = 1 ∨ s = 2 ∨ s = 3 by omega) with rfl | rfl | rfl | rfl <;> rfl) K
theorem x_mc5 {σ : xS} (h : x_G σ) {s : Nat} (hs : s < 4) (K : Nat → Option xR) : x_aa σ (71 + 2 * s) K = K 40 := x_aak h.1 (c := 11) (by rcases (show s = 0 ∨ s = 1 ∨ s = 2 ∨ s = 3 by omega) with rfl | rfl | rfl | rfl <;> rfl) rfl K
theorem x_qs5 {σ : xS} (hG : x_G σ) {s : Nat} (hs : s < 4) : x_Q σ (70 + 2 * s) 0 = some (71 + 2 * s) := by
  rcases (show s = 0 ∨ s = 1 ∨ s = 2 ∨ s = 3 by omega) with rfl | rfl | rfl | rfl
  · exact x_q70_0 hG
  · exact x_q72_0 hG
  · exact x_q74_0 hG
  · exact x_q76_0 hG
theorem x_qs35 {σ : xS} (hG : x_G σ) {s : Nat} (hs : s < 4) : x_Q σ 35 s = some (70 + 2 * s) := by
  rcases (show s = 0 ∨ s = 1 ∨ s = 2 ∨ s = 3 by omega) with rfl | rfl | rfl | rfl
  · exact x_q35_0 hG
  · exact x_q35_1 hG
  · exact x_q35_2 hG
  · exact x_q35_3 hG
theorem x_i4 {l : Nat} (hl : l < 4) (K : Option xR) : x_ix (Int32.ofNat l) 4 K = K := x_ixk (by omega) (by omega) K
theorem x_n4 {l : Nat} (hl : l < 4) : (Int32.ofNat l).toNatClampNeg = l := x_tn (by omega)
theorem x_40 (s k : Nat) : 40 * Int32.ofNat s + Int32.ofNat k = Int32.ofNat (40 * s + k) := by
  rw [show (40 : Int32) = Int32.ofNat 40 from rfl, ← Int32.ofNat_mul, ← Int32.ofNat_add]
theorem x_40i {s k : Nat} (hs : s < 4) (hk : k < 40) (K : Option xR) : x_ix (Int32.ofNat (40 * s + k)) 160 K = K := x_ixk (by omega) (by omega) K
theorem x_40n {s k : Nat} (hs : s < 4) (hk : k < 40) : (Int32.ofNat (40 * s + k)).toNatClampNeg = 40 * s + k := x_tn (by omega)
theorem x_n40 {l : Nat} (hl : l < 40) : (Int32.ofNat l).toNatClampNeg = l := x_tn (by omega)
