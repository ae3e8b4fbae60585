/-! film -/
def y_bit (set : Int32) (i : Nat) : Prop := (set >>> (Int32.ofNat i &&& 31)) &&& 1 = 1
def y_bitd (set : Int32) (i : Nat) : Bool := decide ((set >>> (Int32.ofNat i &&& 31)) &&& 1 = 1)
def y_tw (set u : Int32) : Nat → Int32
  | 0 => u
  | i + 1 => if y_bitd set i = true then y_tw set u i + 1 else y_tw set u i
theorem y_bd_1 {set : Int32} {i : Nat} (h : (set >>> (Int32.ofNat i &&& 31)) &&& 1 = 1) : y_bitd set i = true := decide_eq_true h
theorem y_bd_0 {set : Int32} {i : Nat} (h : ¬ (set >>> (Int32.ofNat i &&& 31)) &&& 1 = 1) : ¬ y_bitd set i = true := fun g => h (of_decide_eq_true g)
def y_w3 (s N i : Nat) (b u : Nat) : Prop := x_wt b u ∨ (b = 71 + 2 * s ∧ i ≤ u ∧ u < N)
theorem l37 (d : Nat) {r s N c : Nat} (hr : r < 6) (hs : s < 4) (hN : N ≤ 20) {o : Nat → Nat} {p : Nat → List Int32} {set y : Int32} (hc : Nat.beq (x_nth x_K c).1 2 = true) (hc2 : ∀ i u, ¬ y_w3 s N i c u) {k m e s1 u : Int32} : ∀ q i σ, i + q = N → x_G σ → x_tv σ r o p → y_cl σ c k m e s1 u → x_I σ (70 + 2 * s) 2 = Int32.ofNat N → x_I σ (70 + 2 * s) 1 = 2 → ∃ τ, x_f (d + 4) 37 9 [some (.inr (.inr (some (70 + 2 * s)))), some (.inr (.inr (some c))), some (.inr (.inr (some (x_tc r)))), some (.inl y), some (.inl set), some (.inl (y_tw set u i)), some (.inl (Int32.ofNat i))] [] σ = some (none, τ) ∧ x_fr (y_w3 s N i) x_w0 σ τ ∧ ∀ j, i ≤ j → j < N → x_I τ (71 + 2 * s) j = if y_bitd set j = true then x_Z p k m e s1 (y + Int32.ofNat j) (y_tw set u j) else x_I σ (71 + 2 * s) j
  | 0, i, σ, hi, hG, hv, hcl, h2, h1 => by
    refine ⟨σ, ?_, x_fr.refl _ _ _, fun j h1 h2 => absurd h2 (by omega)⟩
    rw [x_feq, e37_9, x_ks5 hG hs, h2, if_pos ((x_le (by omega) (by omega)).mpr (by omega))]
  | q + 1, i, σ, hi, hG, hv, hcl, h2, h1 => by
    have kc : ∀ (τ : xS) (K : Option xR), x_G τ → x_ck τ c 2 K = K := fun τ K h => x_ckk h.1 hc K
    have w7 : ∀ i' u', ¬ y_w3 s N i' (70 + 2 * s) u' := fun i' u' => by unfold y_w3 x_wt; omega
    have tv : ∀ {i' : Nat} {σ τ : xS}, x_fr (y_w3 s N i') x_w0 σ τ → x_tv σ r o p → x_tv τ r o p := by
      intro i' σ τ f h
      have hd : x_tc r + 3 < 70 := by
        rcases (show r = 0 ∨ r = 1 ∨ r = 2 ∨ r = 3 ∨ r = 4 ∨ r = 5 by omega) with rfl | rfl | rfl | rfl | rfl | rfl <;> exact Nat.le_of_ble_eq_true rfl
      exact x_tv.at (fun u => f.I (by unfold y_w3 x_wt; omega)) (fun u => f.I (by unfold y_w3 x_wt; omega)) (fun u => f.I (fun g => g.elim (x_wt_n hr u).1 (fun g => by omega))) (fun u => f.I (fun g => g.elim (x_wt_n hr u).2 (fun g => by omega))) h
    by_cases b : (set >>> (Int32.ofNat i &&& 31)) &&& 1 = 1
    · have tw : y_tw set u (i + 1) = y_tw set u i + 1 := if_pos (y_bd_1 b)
      obtain ⟨σ1, a1, f1⟩ := c18 d hG hr hv hc hcl (y + Int32.ofNat i) (y_tw set u i)
      have hG1 := f1.G hG
      have a2 := m32 (d + 2) hG1 hs (show i < 40 by omega) (x_Z p k m e s1 (y + Int32.ofNat i) (y_tw set u i))
      rw [(f1.I (x_wt_o (by omega) _)).trans h1] at a2
      have a2 : x_run (d + 4) 32 [.inr (.inr (some (70 + 2 * s))), .inl (Int32.ofNat i), .inl (x_Z p k m e s1 (y + Int32.ofNat i) (y_tw set u i))] σ1 = some (none, x_si σ1 (71 + 2 * s) i (x_Z p k m e s1 (y + Int32.ofNat i) (y_tw set u i))) := a2
      have f2 : x_fr (y_w3 s N i) x_w0 σ (x_si σ1 (71 + 2 * s) i (x_Z p k m e s1 (y + Int32.ofNat i) (y_tw set u i))) := (f1.mono (fun _ _ h => Or.inl h) (fun _ _ h => h)).si _ (Or.inr ⟨rfl, by omega, by omega⟩)
      obtain ⟨τ, a3, f3, g3⟩ := l37 d hr hs hN hc hc2 q (i + 1) _ (by omega) (f2.G hG) (tv f2 hv) (hcl.fr f2 (hc2 i)) ((f2.I (w7 _ _)).trans h2) ((f2.I (w7 _ _)).trans h1)
      refine ⟨τ, ?_, f2.trans (f3.mono (fun b u h => h.elim Or.inl (fun h => Or.inr ⟨h.1, by omega, h.2.2⟩)) (fun _ _ h => h)), fun j j1 j2 => ?_⟩
      · rw [x_feq, e37_9, x_ks5 hG hs, h2, if_neg (fun h => absurd ((x_le (by omega) (by omega)).mp h) (by omega)), if_pos b, x_der_s, kc _ _ hG, a1, x_ci_s, x_ks5 hG1 hs, a2, x_cv_s, x_s1, ← tw]
        exact a3
      · by_cases ji : j = i
        · subst ji
          rw [f3.I (by unfold y_w3 x_wt; omega), x_Isi, if_pos ⟨rfl, rfl⟩, if_pos (y_bd_1 b)]
        · rw [g3 j (by omega) j2, x_Isi, if_neg (show ¬ (71 + 2 * s = 71 + 2 * s ∧ j = i) from fun h => ji h.2), f1.I (x_wt_o (by omega) _)]
    · have tw : y_tw set u (i + 1) = y_tw set u i := if_neg (y_bd_0 b)
      obtain ⟨τ, a3, f3, g3⟩ := l37 d hr hs hN hc hc2 q (i + 1) σ (by omega) hG hv hcl h2 h1
      refine ⟨τ, ?_, f3.mono (fun b u h => h.elim Or.inl (fun h => Or.inr ⟨h.1, by omega, h.2.2⟩)) (fun _ _ h => h), fun j j1 j2 => ?_⟩
      · rw [x_feq, e37_9, x_ks5 hG hs, h2, if_neg (fun h => absurd ((x_le (by omega) (by omega)).mp h) (by omega)), if_neg b, x_s1, ← tw]
        exact a3
      · by_cases ji : j = i
        · subst ji
          rw [f3.I (by unfold y_w3 x_wt; omega), if_neg (y_bd_0 b)]
        · exact g3 j (by omega) j2
def y_w8 (s i : Nat) (b u : Nat) : Prop := x_wt b u ∨ (b = 88 ∧ 40 * s + i ≤ u ∧ u < 40 * s + 40)
theorem l213 (d : Nat) {r s N l : Nat} (hr : r < 6) (hs : s < 4) (hN : N ≤ 20) {o : Nat → Nat} {p : Nat → List Int32} {set y : Int32} (hl : l < 5) {k m e s1 u : Int32} : ∀ q i σ, i + q = 40 → x_G σ → x_tv σ r o p → x_I σ 78 13 = Int32.ofNat r → y_rl σ l k m e s1 u → x_I σ 78 4 = y → ∃ τ, x_f (d + 4) 213 82 [some (.inr (.inr (some 78))), some (.inl (Int32.ofNat s)), some (.inl (Int32.ofNat l)), some (.inl set), some (.inl (Int32.ofNat N)), some (.inl (y_tw set u (min i N))), some (.inl (Int32.ofNat i)), none] [] σ = some (some (.inl (Int32.ofNat N)), τ) ∧ x_fr (y_w8 s i) x_w0 σ τ ∧ ∀ j, i ≤ j → j < 40 → x_I τ 88 (40 * s + j) = if j < N ∧ y_bitd set j = true then x_Z p k m e s1 (y + Int32.ofNat j) (y_tw set u j) else 0
  | 0, i, σ, hi, hG, hv, h13, hrl, hy => by
    refine ⟨σ, ?_, x_fr.refl _ _ _, fun j h1 h2 => absurd h2 (by omega)⟩
    rw [x_feq, e213_82, if_pos (show (40 : Int32) ≤ Int32.ofNat (i) from (x_le (a := 40) (by omega) (by omega)).mpr (by omega))]
  | q + 1, i, σ, hi, hG, hv, h13, hrl, hy => by
    have hi40 : i < 40 := by omega
    have w9 : ∀ {b}, b = 79 ∨ b = 80 ∨ b = 81 ∨ b = 78 → ∀ i' u, ¬ y_w8 s i' b u := fun h i' u => by unfold y_w8 x_wt; omega
    have tv : ∀ {i' : Nat} {σ τ : xS}, x_fr (y_w8 s i') x_w0 σ τ → x_tv σ r o p → x_tv τ r o p := by
      intro i' σ τ f h
      have hd : x_tc r + 3 < 70 := by
        rcases (show r = 0 ∨ r = 1 ∨ r = 2 ∨ r = 3 ∨ r = 4 ∨ r = 5 by omega) with rfl | rfl | rfl | rfl | rfl | rfl <;> exact Nat.le_of_ble_eq_true rfl
      exact x_tv.at (fun u => f.I (by unfold y_w8 x_wt; omega)) (fun u => f.I (by unfold y_w8 x_wt; omega)) (fun u => f.I (fun g => g.elim (x_wt_n hr u).1 (fun g => by omega))) (fun u => f.I (fun g => g.elim (x_wt_n hr u).2 (fun g => by omega))) h
    have down : ∀ b u, y_w8 s (i + 1) b u → y_w8 s i b u := fun b u h => h.elim Or.inl (fun h => Or.inr ⟨h.1, by omega, h.2.2⟩)
    by_cases b : i < N ∧ y_bitd set i = true
    · have bb : (set >>> (Int32.ofNat i &&& 31)) &&& 1 = 1 := of_decide_eq_true b.2
      have tw : y_tw set u (min (i + 1) N) = y_tw set u (min i N) + 1 := by
        rw [show min (i + 1) N = i + 1 by omega, show min i N = i by omega]
        exact if_pos b.2
      obtain ⟨σ1, a1, f1⟩ := c161 d hG hr hv h13 hl hrl (y + Int32.ofNat i) (y_tw set u (min i N))
      have hG1 := f1.G hG
      have f2 : x_fr (y_w8 s i) x_w0 σ (x_si σ1 88 (40 * s + i) (x_Z p k m e s1 (y + Int32.ofNat i) (y_tw set u (min i N)))) := (f1.mono (fun _ _ h => Or.inl h) (fun _ _ h => h)).si _ (Or.inr ⟨rfl, by omega, by omega⟩)
      obtain ⟨τ, a3, f3, g3⟩ := l213 d hr hs hN hl q (i + 1) _ (by omega) (f2.G hG) (tv f2 hv) ((f2.I (w9 (by omega) _ _)).trans h13) (hrl.fr f2 (w9 (by omega) i) (w9 (by omega) i) (w9 (by omega) i)) ((f2.I (w9 (by omega) _ _)).trans hy)
      refine ⟨τ, ?_, f2.trans (f3.mono down (fun _ _ h => h)), fun j j1 j2 => ?_⟩
      · rw [x_feq, e213_82, if_neg (show ¬ (40 : Int32) ≤ Int32.ofNat (i) from fun h => absurd ((x_le (a := 40) (by omega) (by omega)).mp h) (by omega)), if_neg (fun h => absurd ((x_le (by omega) (by omega)).mp h) (by omega)), m134, x_ci_s, x_bnd_id (hi := 20) (x_bd_k (n := 20) (by omega) (by omega)), if_pos bb, x_feq, e213_117, x_k78 hG, if_neg (by decide), x_k78 hG, x_k78 hG, hy, a1, x_ci_s, x_q78_24 hG, x_feq, e213_153, x_der_s, x_k88 hG1, x_40, x_40i hs hi40, if_neg (by decide), x_40n hs hi40, x_s1, ← tw]
        exact a3
      · by_cases ji : j = i
        · subst ji
          rw [f3.I (by unfold y_w8 x_wt; omega), x_Isi, if_pos ⟨rfl, rfl⟩, if_pos b, show min j N = j by omega]
        · exact g3 j (by omega) j2
    · have tw : y_tw set u (min (i + 1) N) = y_tw set u (min i N) := by
        by_cases c : i < N
        · rw [show min (i + 1) N = i + 1 by omega, show min i N = i by omega]
          exact if_neg (fun h => b ⟨c, h⟩)
        · rw [show min (i + 1) N = N by omega, show min i N = N by omega]
      have f2 : x_fr (y_w8 s i) x_w0 σ (x_si σ 88 (40 * s + i) 0) := (x_fr.refl (y_w8 s i) x_w0 σ).si _ (Or.inr ⟨rfl, by omega, by omega⟩)
      obtain ⟨τ, a3, f3, g3⟩ := l213 d hr hs hN hl q (i + 1) _ (by omega) (f2.G hG) (tv f2 hv) ((f2.I (w9 (by omega) _ _)).trans h13) (hrl.fr f2 (w9 (by omega) i) (w9 (by omega) i) (w9 (by omega) i)) ((f2.I (w9 (by omega) _ _)).trans hy)
      refine ⟨τ, ?_, f2.trans (f3.mono down (fun _ _ h => h)), fun j j1 j2 => ?_⟩
      · have k117 : x_f (d + 4) 213 117 [some (.inr (.inr (some 78))), some (.inl (Int32.ofNat s)), some (.inl (Int32.ofNat l)), some (.inl set), some (.inl (Int32.ofNat N)), some (.inl (y_tw set u (min i N))), some (.inl (Int32.ofNat i)), none] [.inl 0] σ = some (some (.inl (Int32.ofNat N)), τ) := by
          rw [x_feq, e213_117, x_k78 hG, if_pos rfl, x_q78_24 hG, x_feq, e213_153, x_der_s, x_k88 hG, x_40, x_40i hs hi40, if_pos rfl, x_40n hs hi40, x_s1, Int32.add_zero, ← tw]
          exact a3
        rw [x_feq, e213_82, if_neg (show ¬ (40 : Int32) ≤ Int32.ofNat (i) from fun h => absurd ((x_le (a := 40) (by omega) (by omega)).mp h) (by omega))]
        by_cases c : i < N
        · rw [if_neg (fun h => absurd ((x_le (by omega) (by omega)).mp h) (by omega)), m134, x_ci_s, x_bnd_id (hi := 20) (x_bd_k (n := 20) (by omega) (by omega)), if_neg (fun h => b ⟨c, y_bd_1 h⟩)]
          exact k117
        · rw [if_pos ((x_le (by omega) (by omega)).mpr (by omega))]
          exact k117
      · by_cases ji : j = i
        · subst ji
          rw [f3.I (by unfold y_w8 x_wt; omega), x_Isi, if_pos ⟨rfl, rfl⟩, if_neg b]
        · exact g3 j (by omega) j2
set_option maxRecDepth 10000 in
theorem y_shl : ∀ n, n < 21 → (1 : Int32) <<< (Int32.ofNat n &&& 31) = Int32.ofNat (2 ^ n) := by decide +kernel
theorem x_op_film (D : Nat) : ∀ (σ : xS) (as : List Int32), as.length = 4 → x_R σ → x_stp (D + 6) x_R false 111 213 as σ := by
  intro σ as hl hR
  match as, hl with
  | [i1, i2, set, i4], _ =>
    obtain ⟨hG, n, t, z, hP⟩ := id hR
    obtain ⟨hn, ht, hz, ⟨l1, l2⟩, ⟨t1, t2⟩, -, -, -, -, -, -, hsh, -⟩ := id hP
    have one : ¬ (1 : Int32) = 0 := by decide
    have fin : ∀ w : Int32, x_run (D + 6) 111 [.inr (.inr (some 0)), .inl i1, .inl i2, .inl set, .inl i4] σ = some (some (.inl w), σ) → x_run (D + 6) 213 [.inr (.inr (some 78)), .inl i1, .inl i2, .inl set, .inl i4] σ = some (some (.inl w), σ) → x_stp (D + 6) x_R false 111 213 [i1, i2, set, i4] σ := fun w e1 e2 => x_op_eq hR (.inl w) ⟨w, rfl⟩ e1 e2
    rcases x_splitg (n := 4) (by omega) i1 with ⟨s, hs, rfl⟩ | ho
    · have d1 : x_b1 (0 ≤ Int32.ofNat s ∧ Int32.ofNat s ≤ 3) = 1 := if_pos ⟨Int32.not_lt.mp (x_nn0 (by omega)), (x_le (b := 3) (by omega) (by omega)).mpr (by omega)⟩
      rcases x_split hn i2 with ⟨l, hl, rfl⟩ | h2
      · by_cases c4 : 0 ≤ i4 ∧ i4 ≤ 20
        · obtain ⟨N, hN, rfl⟩ := x_bd_of (n := 20) (by omega) c4 rfl
          have pw : 2 ^ N ≤ 2 ^ 20 := Nat.pow_le_pow_right (by omega) hN
          have pw0 : 0 < 2 ^ N := Nat.pow_pos (by omega)
          have shl := y_shl N (by omega)
          rcases x_splitg (n := 2 ^ N) (by omega) set with ⟨S, hS, hset⟩ | h3
          · have b1 : ¬ set < 0 := by rw [hset]; exact x_nn0 (by omega)
            have b2 : set < Int32.ofNat (2 ^ N) := by
              rw [hset]
              exact Int32.not_le.mp (fun h => absurd ((x_le (by omega) (by omega)).mp h) (by omega))
            have b3 : 0 ≤ set ∧ set ≤ Int32.ofNat (2 ^ N) - 1 := by
              refine ⟨Int32.not_lt.mp b1, ?_⟩
              rw [hset, show (1 : Int32) = Int32.ofNat 1 from rfl, x_sb (by omega) (by omega)]
              exact (x_le (by omega) (by omega)).mpr (by omega)
            obtain ⟨r, o, p, y, k, m, e, s1, u, hf⟩ := y_lf_of hP hl
            have hl5 : l < 5 := by omega
            obtain ⟨σ1, a1, f1, p1, p2, p3⟩ := m30 (D + 3) hG hs 2 (Int32.ofNat N)
            have hG1 := f1.G hG
            have F1 : ∀ {b u : Nat}, b < 70 ∨ 77 < b → x_I σ1 b u = x_I σ b u := fun h => f1.I (by omega)
            obtain ⟨-, hr, hv, e13, e6, y1, y2, hcl, hrl, ⟨n7, n1, n0⟩, yb, kb, mb, eb, sb, ub⟩ := id hf
            have hr6 : r < 6 := by omega
            have hd : x_tc r + 3 < 70 := by
              rcases (show r = 0 ∨ r = 1 ∨ r = 2 ∨ r = 3 ∨ r = 4 ∨ r = 5 by omega) with rfl | rfl | rfl | rfl | rfl | rfl <;> exact Nat.le_of_ble_eq_true rfl
            have hv1 : x_tv σ1 r o p := x_tv.at (fun u => F1 (by omega)) (fun u => F1 (by omega)) (fun u => F1 (by omega)) (fun u => F1 (by omega)) hv
            have hcl1 : y_cl σ1 (3 + l) k m e s1 u := hcl.fr f1 (fun u => by omega)
            obtain ⟨σ2, a2, f2, g2⟩ := l37 (D + 0) (N := N) (set := set) (y := y) hr6 hs hN (x_kl hl5) (fun i u => by unfold y_w3 x_wt; omega) N 0 σ1 (by omega) hG1 hv1 hcl1 p2 p1
            have hG2 := f2.G hG1
            have F2 : ∀ {b u : Nat}, ¬ x_wt b u → b < 70 ∨ 77 < b → x_I σ2 b u = x_I σ b u := fun h h' => (f2.I (fun g => g.elim h (fun g => by omega))).trans (F1 h')
            have hv2 : x_tv σ2 r o p := x_tv.at (fun u => F2 (x_wt_o (by omega) _) (by omega)) (fun u => F2 (x_wt_o (by omega) _) (by omega)) (fun u => F2 (x_wt_n hr6 u).1 (by omega)) (fun u => F2 (x_wt_n hr6 u).2 (by omega)) hv
            have hrl2 : y_rl σ2 l k m e s1 u := by
              unfold y_rl at hrl ⊢
              rw [F2 (x_wt_o (by omega) _) (by omega), F2 (x_wt_o (by omega) _) (by omega), F2 (x_wt_o (by omega) _) (by omega), F2 (x_wt_o (by omega) _) (by omega), F2 (x_wt_o (by omega) _) (by omega)]
              exact hrl
            let σ3 := x_si (x_si σ2 86 s 2) 87 s (Int32.ofNat N)
            have f3 : x_fr (fun b u => (b = 86 ∧ u = s) ∨ (b = 87 ∧ u = s)) x_w0 σ2 σ3 := ((x_fr.refl (fun b u => (b = 86 ∧ u = s) ∨ (b = 87 ∧ u = s)) x_w0 σ2).si _ (Or.inl ⟨rfl, rfl⟩)).si _ (Or.inr ⟨rfl, rfl⟩)
            have hG3 : x_G σ3 := hG2
            obtain ⟨τ, a4, f4, g4⟩ := l213 (D + 1) (N := N) (set := set) hr6 hs hN hl5 40 0 σ3 (by omega) hG3 (x_tv.at (fun u => f3.I (by omega)) (fun u => f3.I (by omega)) (fun u => f3.I (by omega)) (fun u => f3.I (by omega)) hv2) ((f3.I (by omega)).trans ((F2 (x_wt_o (by omega) _) (by omega)).trans e13)) (hrl2.fr f3 (fun u => by omega) (fun u => by omega) (fun u => by omega)) ((f3.I (by omega)).trans ((F2 (x_wt_o (by omega) _) (by omega)).trans y1))
            have fT : x_fr (fun a u => x_wt a u ∨ y_ws s a u) x_w0 σ τ := by
              refine (f1.mono (fun b u h => Or.inr ?_) (fun _ _ h => h)).trans ((f2.mono (fun b u h => h.elim Or.inl (fun h => Or.inr ?_)) (fun _ _ h => h)).trans ((f3.mono (fun b u h => Or.inr ?_) (fun _ _ h => h)).trans (f4.mono (fun b u h => h.elim Or.inl (fun h => Or.inr ?_)) (fun _ _ h => h))))
              · unfold y_ws; omega
              · unfold y_ws; omega
              · unfold y_ws; omega
              · unfold y_ws; omega
            refine ⟨.inl (Int32.ofNat N), σ2, τ, ⟨_, rfl⟩, ?_, hG2.1, ?_, ?_⟩
            · show x_run (D + 6) 111 [.inr (.inr (some 0)), .inl (Int32.ofNat s), .inl (Int32.ofNat l), .inl set, .inl (Int32.ofNat N)] σ = _
              have a2' : x_run (D + 5) 37 [.inr (.inr (some (70 + 2 * s))), .inr (.inr (some (3 + l))), .inr (.inr (some (x_tc r))), .inl y, .inl set] σ1 = some (none, σ2) := by
                rw [r37, e37_0, x_der_s, x_kl3 hG1 hl5, hcl1.2.2.2.2]
                exact a2
              rw [r111, e111_0, x_k0 hG, m121_in _ hG hs, x_cr_s, x_nul_s, x_k0 hG, x_q0_0 hG, x_der_s, x_k1 hG, m65_in _ hG hn hl l2, x_cr_s, x_nul_s, m126, x_ci_s, x_b1_1 c4, if_neg one, if_neg b1, shl, if_pos b2, x_der_s, x_ks5 hG hs, a1, x_cv_s, x_k0 hG1, m120 _ hG1 ht.2 hr ((F1 (by omega)).trans t2) ((F1 (by omega)).trans e6), x_cr_s, x_k0 hG1, x_q0_0 hG1, x_der_s, x_k1 hG1, x_der_s, x_ks5 hG1 hs, (F1 (by omega)).trans y2, a2', x_cv_s]
            · show x_run (D + 6) 213 [.inr (.inr (some 78)), .inl (Int32.ofNat s), .inl (Int32.ofNat l), .inl set, .inl (Int32.ofNat N)] σ2 = _
              rw [r213, e213_0, m133, x_ci_s, d1, if_neg one, x_k78 hG2, m135_in _ hG2 hn hl ((F2 (x_wt_o (by omega) _) (by omega)).trans l1), x_ci_s, if_neg one, m133, x_ci_s, x_b1_1 c4, if_neg one, shl, m133, x_ci_s, x_b1_1 b3, if_neg one]
              simp only [↓x_k78, ↓x_k81, ↓x_k86, ↓x_k87, x_q78_3, x_q78_22, x_q78_23, hG2, x_Gsi, x_Qsi, x_der_s, ↓x_der_s, x_6i5, x_6n5, hl5, x_i4, x_n4, hs, hrl2.2.2.2.2]
              refine Eq.trans ?_ a4
              rw [show min 0 N = 0 by omega]
              rfl
            · have q1 : x_I τ 86 s = 2 := by rw [f4.I (by unfold y_w8 x_wt; omega)]; show x_I (x_si (x_si σ2 86 s 2) 87 s (Int32.ofNat N)) 86 s = 2; rw [x_Isi, if_neg (by omega), x_Isi, if_pos ⟨rfl, rfl⟩]
              have q2 : x_I τ 87 s = Int32.ofNat N := by rw [f4.I (by unfold y_w8 x_wt; omega)]; show x_I (x_si (x_si σ2 86 s 2) 87 s (Int32.ofNat N)) 87 s = _; rw [x_Isi, if_pos ⟨rfl, rfl⟩]
              refine y_R_she hG hP hs fT (fun a u h => h.elim (fun h => Or.inl (Or.inl h)) Or.inr) ⟨⟨?_, ?_⟩, ⟨?_, ?_⟩, fun j hj => ?_⟩
              · rw [q1, f4.I (by unfold y_w8 x_wt; omega), f3.I (by omega), f2.I (by unfold y_w3 x_wt; omega), p1]
              · rw [q1]; unfold x_bd; decide
              · rw [q2, f4.I (by unfold y_w8 x_wt; omega), f3.I (by omega), f2.I (by unfold y_w3 x_wt; omega), p2]
              · rw [q2]; exact x_bd_k (n := 40) (by omega) (by omega)
              · rw [g4 j (by omega) hj, f4.I (by unfold y_w8 x_wt; omega), f3.I (by omega)]
                by_cases jN : j < N
                · rw [g2 j (by omega) jN, p3 j hj]
                  by_cases bj : y_bitd set j = true
                  · rw [if_pos bj, if_pos ⟨jN, bj⟩]
                  · rw [if_neg bj, if_neg (fun h => bj h.2)]
                · rw [f2.I (by unfold y_w3 x_wt; omega), p3 j hj, if_neg (fun h => jN h.1)]
          · have b3 : ¬ (0 ≤ set ∧ set ≤ Int32.ofNat (2 ^ N) - 1) := by
              rintro ⟨g1, g2⟩
              rcases h3 with h3 | h3
              · exact absurd h3 (Int32.not_lt.mpr g1)
              · rw [show (1 : Int32) = Int32.ofNat 1 from rfl, x_sb (by omega) (by omega)] at g2
                exact absurd ((x_le (by omega) (by omega)).mp (Int32.le_trans h3 g2)) (by omega)
            refine fin (-7) ?_ ?_
            · rw [r111, e111_0, x_k0 hG, m121_in _ hG hs, x_cr_s, x_nul_s, x_k0 hG, x_q0_0 hG, x_der_s, x_k1 hG, m65_in _ hG hn hl l2, x_cr_s, x_nul_s, m126, x_ci_s, x_b1_1 c4, if_neg one, shl]
              by_cases b1 : set < 0
              · rw [if_pos b1]
              · rw [if_neg b1, if_neg (Int32.not_lt.mpr (h3.resolve_left b1))]
            · rw [r213, e213_0, m133, x_ci_s, d1, if_neg one, x_k78 hG, m135_in _ hG hn hl l1, x_ci_s, if_neg one, m133, x_ci_s, x_b1_1 c4, if_neg one, shl, m133, x_ci_s, x_b1_0 b3, if_pos rfl]
        · refine fin (-7) ?_ ?_
          · rw [r111, e111_0, x_k0 hG, m121_in _ hG hs, x_cr_s, x_nul_s, x_k0 hG, x_q0_0 hG, x_der_s, x_k1 hG, m65_in _ hG hn hl l2, x_cr_s, x_nul_s, m126, x_ci_s, x_b1_0 c4, if_pos rfl]
          · rw [r213, e213_0, m133, x_ci_s, d1, if_neg one, x_k78 hG, m135_in _ hG hn hl l1, x_ci_s, if_neg one, m133, x_ci_s, x_b1_0 c4, if_pos rfl]
      · refine fin (-5) ?_ ?_
        · rw [r111, e111_0, x_k0 hG, m121_in _ hG hs, x_cr_s, x_nul_s, x_k0 hG, x_q0_0 hG, x_der_s, x_k1 hG, m65_out _ hG h2 l2, x_cr_s, x_nul_n]
        · rw [r213, e213_0, m133, x_ci_s, d1, if_neg one, x_k78 hG, m135_out _ hG hn h2 l1, x_ci_s, if_pos rfl]
    · refine fin (-2) ?_ ?_
      · rw [r111, e111_0, x_k0 hG, m121_out _ hG ho, x_cr_s, x_nul_n]
      · rw [r213, e213_0, m133, x_ci_s, x_b1_0 (show ¬ (0 ≤ i1 ∧ i1 ≤ 3) from x_ltk (n := 3) (by omega) ho), if_pos rfl]
