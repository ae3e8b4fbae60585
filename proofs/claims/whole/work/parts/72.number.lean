/-! the reference's round: orders by number -/
def y_95 (b _ : Nat) : Prop := b = 95
theorem m134_1 (d : Nat) {n : Nat} (h1 : 1 ≤ n) (h5 : n ≤ 5) (σ : xS) : x_run (d + 1) 134 [.inl (Int32.ofNat n), .inl 1, .inl 5] σ = some (some (.inl (Int32.ofNat n)), σ) := by
  rw [r134, e134_0, if_pos (show (1 : Int32) ≤ Int32.ofNat n from (x_le (a := 1) (by omega) (by omega)).mpr h1), if_pos (show Int32.ofNat n ≤ 5 from (x_le (b := 5) (by omega) (by omega)).mpr h5)]
theorem y_gd_c (a : Nat) (l : List Nat) (u : Nat) : y_gd (a :: l) (u + 1) = y_gd l u := rfl
theorem y_dm_pm {n : Nat} (h1 : 1 ≤ n) : ∀ q k m acc, acc.length + q = n → (∀ u, u < acc.length → y_gd acc u < n) → y_pm n (y_dm n q k m acc).2
  | 0, k, m, acc, hl, ha => ⟨hl, fun u hu => ha u (by omega)⟩
  | q + 1, k, m, acc, hl, ha => by
    refine y_dm_pm h1 q (k / n) (m ||| 2 ^ (k % n)) ((k % n) :: acc) (by rw [List.length_cons]; omega) (fun u hu => ?_)
    rw [List.length_cons] at hu
    cases u with
    | zero => exact Nat.mod_lt _ (by omega)
    | succ u => rw [y_gd_c]; exact ha u (by omega)
theorem l182 (d : Nat) {n : Nat} (hn : n ≤ 5) : ∀ q k m acc v σ, q ≤ n → k < 2 ^ 31 → m < 2 ^ n → x_G σ → x_I σ 78 0 = Int32.ofNat n → v = Int32.ofNat q + (-1) → (∀ u, q ≤ u → u < n → x_I σ 95 u = Int32.ofNat (y_gd acc (u - q))) → ∃ τ, x_f (d + 1) 182 12 [some (.inr (.inr (some 78))), none, some (.inl (Int32.ofNat k)), some (.inl (Int32.ofNat m)), some (.inl v)] [] σ = some (some (.inl (if (y_dm n q k m acc).1 = 2 ^ n - 1 then 1 else 0)), τ) ∧ x_fr y_95 x_w0 σ τ ∧ y_ct 95 n (y_dm n q k m acc).2 τ
  | 0, k, m, acc, v, σ, hq, hk, hm, hG, h0, hv, hc => by
    subst hv
    have p5 := y_pw5 hn
    have pp : 1 ≤ 2 ^ n := Nat.pow_pos (by omega)
    have e1n : (1 : Int32) <<< (Int32.ofNat n &&& 31) - 1 = Int32.ofNat (2 ^ n - 1) := by
      rw [y_sh5 hn, show (1 : Int32) = Int32.ofNat 1 from rfl]
      exact x_sb pp (by omega)
    refine ⟨σ, ?_, x_fr.refl _ _ _, fun u hu => hc u (by omega) hu⟩
    rw [x_feq, e182_12, if_pos (by decide), x_k78 hG, h0, e1n]
    show _ = some (some (Sum.inl (if m = 2 ^ n - 1 then 1 else 0)), σ)
    by_cases c : m = 2 ^ n - 1
    · rw [if_pos (by rw [c]), if_pos c]
    · rw [if_neg (fun h => c (x_inj32 (by omega) (by omega) h)), if_neg c]
  | q + 1, k, m, acc, v, σ, hq, hk, hm, hG, h0, hv, hc => by
    rw [x_pm1] at hv
    subst hv
    have p5 := y_pw5 hn
    have h1 : 1 ≤ n := by omega
    have kn : k % n < n := Nat.mod_lt _ (by omega)
    have nz : ¬ Int32.ofNat n = 0 := fun h => absurd (x_inj32 (b := 0) (by omega) (by omega) h) (by omega)
    have md : Int32.ofNat k - Int32.ofNat k / Int32.ofNat n * Int32.ofNat n = Int32.ofNat (k % n) := x_md hk (by omega)
    let σ1 := x_si σ 95 q (Int32.ofNat (k % n))
    have hG1 : x_G σ1 := hG
    have h01 : x_I σ1 78 0 = Int32.ofNat n := ((x_Isi _ _ _ _ _ _).trans (if_neg (by omega))).trans h0
    have dl : k / n ≤ k := Nat.div_le_self _ _
    obtain ⟨τ, a, f, g⟩ := l182 d hn q (k / n) (m ||| 2 ^ (k % n)) ((k % n) :: acc) _ σ1 (by omega) (by omega) (Nat.or_lt_two_pow hm (Nat.pow_lt_pow_right (by omega) kn)) hG1 h01 rfl (fun u hu hun => by
      by_cases c : u = q
      · subst c
        rw [Nat.sub_self]
        exact (x_Isi _ _ _ _ _ _).trans (if_pos ⟨rfl, rfl⟩)
      · refine ((x_Isi _ _ _ _ _ _).trans (if_neg (by omega))).trans ((hc u (by omega) hun).trans ?_)
        rw [show u - q = (u - (q + 1)) + 1 by omega, y_gd_c])
    refine ⟨τ, ?_, ((x_fr.refl y_95 x_w0 σ).si _ rfl).trans f, g⟩
    refine Eq.trans ?_ a
    rw [x_feq, e182_12, if_neg (x_nn0 (by omega)), x_k78 hG, x_k78 hG, h0, m134_1 d h1 hn, x_ci_s, if_neg nz, x_q78_42 hG, x_der_s, x_k95 hG, x_i5 (by omega), x_n5 (by omega), md, x_k78 hG1, h01, m134_1 d h1 hn, x_ci_s, if_neg nz, x_k78 hG1, x_q78_42 hG1, x_der_s, x_k95 hG1, x_i5 (by omega), x_Isi, if_pos ⟨rfl, rfl⟩, x_dv hk (by omega), y_sh1 (show k % n < 5 by omega), y_por]
theorem m182 (d : Nat) {n : Nat} (hn : n ≤ 5) {k : Nat} (hk : k < 2 ^ 31) {σ : xS} (hG : x_G σ) (h0 : x_I σ 78 0 = Int32.ofNat n) : ∃ τ, x_run (d + 2) 182 [.inr (.inr (some 78)), .inl (Int32.ofNat k)] σ = some (some (.inl (if (y_dm n n k 0 []).1 = 2 ^ n - 1 then 1 else 0)), τ) ∧ x_fr y_95 x_w0 σ τ ∧ y_ct 95 n (y_dm n n k 0 []).2 τ := by
  obtain ⟨τ, a, f, g⟩ := l182 d hn n k 0 [] _ σ (Nat.le_refl _) hk (Nat.pow_pos (by omega)) hG h0 rfl (fun u h1 h2 => absurd h2 (by omega))
  refine ⟨τ, ?_, f, g⟩
  rw [r182, e182_0, x_k78 hG, h0, Int32.sub_eq_add_neg]
  exact a
theorem l183 (d : Nat) {n : Nat} (hn : n ≤ 5) {σ : xS} (hG : x_G σ) (h0 : x_I σ 78 0 = Int32.ofNat n) : ∀ q u, u + q = n → x_f d 183 4 [some (.inr (.inr (some 78))), some (.inl (Int32.ofNat (n ^ u))), some (.inl (Int32.ofNat u))] [] σ = some (some (.inl (Int32.ofNat (n ^ n))), σ)
  | 0, u, hu => by
    have : u = n := by omega
    subst this
    rw [x_feq, e183_4, x_k78 hG, h0, if_pos ((x_le (by omega) (by omega)).mpr (by omega))]
  | q + 1, u, hu => by
    have nxt := l183 d hn hG h0 q (u + 1) (by omega)
    rw [x_feq, e183_4, x_k78 hG, h0, if_neg (fun h => absurd ((x_le (by omega) (by omega)).mp h) (by omega)), x_k78 hG, ← Int32.ofNat_mul, x_s1, ← Nat.pow_succ]
    exact nxt
theorem m183 (d : Nat) {n : Nat} (hn : n ≤ 5) {σ : xS} (hG : x_G σ) (h0 : x_I σ 78 0 = Int32.ofNat n) : x_run (d + 1) 183 [.inr (.inr (some 78))] σ = some (some (.inl (Int32.ofNat (n ^ n))), σ) := by
  rw [r183, e183_0]
  exact l183 d hn hG h0 n 0 (by omega)
theorem l184 (d : Nat) (n r tx : Nat) (o : Nat → Nat) (p : Nat → List Int32) (K M E S : Nat → Int32) (Y G : Int32) (W U : Nat → Nat) (hn : n ≤ 5) (hr : r < 6) (fx : y_fx n M E S) {H : Nat → Nat} (hH : ∀ p, p < n → H p < 12) {l : List Nat} (hl : y_pm n l) (i2 : Int32) : ∀ q u b σ, u + q = n → b.2.2 < 12 → y_ra n r tx o p K M E S Y G W U σ → y_hr n H σ → y_ct 95 n l σ → ∃ τ, x_f (d + 5) 184 11 [some (.inr (.inr (some 78))), none, some (.inl i2), some (.inl (Int32.ofNat b.1)), some (.inl (Int32.ofNat b.2.1)), some (.inl (Int32.ofNat b.2.2)), some (.inl (Int32.ofNat u)), none] [] σ = some (some (.inl (Int32.ofNat (if i2 = 0 then (x_it (y_cs H (y_TT p K M E S Y U i2) l) u q b).1 else (x_it (y_cs H (y_TT p K M E S Y U i2) l) u q b).2.1))), τ) ∧ x_fr x_wt x_w0 σ τ
  | 0, u, b, σ, hu, hb, ra, hh, hc => by
    obtain ⟨hG, hv, a1, a2, a3, a4, a6⟩ := id ra
    have e0 : x_it (y_cs H (y_TT p K M E S Y U i2) l) u 0 b = b := rfl
    refine ⟨σ, ?_, x_fr.refl _ _ _⟩
    rw [e0, x_feq, e184_11, x_k78 hG, a2, if_pos ((x_le (by omega) (by omega)).mpr (by omega))]
    by_cases z : i2 = 0
    · rw [if_pos z, if_pos z]
    · rw [if_neg z, if_neg z]
  | q + 1, u, b, σ, hu, hb, ra, hh, hc => by
    obtain ⟨hG, hv, a1, a2, a3, a4, a6⟩ := id ra
    have hp : y_gd l u < n := hl.2 u (by omega)
    have hp5 : y_gd l u < 5 := by omega
    have hu5 : u < 5 := by omega
    have pre : ∀ R, (if i2 = 0 then x_f (d + 5) 184 11 [some (.inr (.inr (some 78))), none, some (.inl i2), some (.inl (Int32.ofNat (b.1 + y_ds b.2.2 (H (y_gd l u))))), some (.inl (Int32.ofNat b.2.1)), some (.inl (Int32.ofNat (H (y_gd l u)))), some (.inl (Int32.ofNat (u + 1))), none] [] σ else x_ci (x_run (d + 5) 164 [.inr (.inr (some 78)), .inl (Int32.ofNat (y_gd l u))] σ) fun x10 σ9 => (x_ck σ9 78 10 <| x_ci (x_run (d + 5) 163 [.inr (.inr (some 78)), .inl (Int32.ofNat (y_gd l u)), .inl x10] σ9) fun x12 σ11 => x_f (d + 5) 184 11 [some (.inr (.inr (some 78))), none, some (.inl i2), some (.inl (Int32.ofNat (b.1 + y_ds b.2.2 (H (y_gd l u))))), some (.inl (Int32.ofNat b.2.1 + (x12 * Int32.ofNat (b.1 + y_ds b.2.2 (H (y_gd l u)))))), some (.inl (Int32.ofNat (H (y_gd l u)))), some (.inl (Int32.ofNat (u + 1))), none] [] σ11)) = R → x_f (d + 5) 184 11 [some (.inr (.inr (some 78))), none, some (.inl i2), some (.inl (Int32.ofNat b.1)), some (.inl (Int32.ofNat b.2.1)), some (.inl (Int32.ofNat b.2.2)), some (.inl (Int32.ofNat u)), none] [] σ = R := by
      intro R h
      rw [x_feq, e184_11, x_k78 hG, a2, if_neg (fun h => absurd ((x_le (by omega) (by omega)).mp h) (by omega)), x_k78 hG, x_q78_42 hG, x_der_s, x_k95 hG, x_i5 hu5, x_n5 hu5, hc u (by omega), x_k78 hG, x_q78_3 hG, x_der_s, x_k81 hG, x_6i3 hp5, x_6n3 hp5, (hh _ hp).2, m181 _ hb (hH _ hp), x_ci_s, x_k78 hG, x_q78_3 hG, x_der_s, x_k81 hG, x_6i3 hp5, (hh _ hp).2, Int32.add_zero, ← Int32.ofNat_add, x_s1, x_k78 hG]
      exact h
    by_cases z : i2 = 0
    · have T0 : y_TT p K M E S Y U i2 (y_gd l u) = 0 := if_pos z
      obtain ⟨τ, a, f⟩ := l184 d n r tx o p K M E S Y G W U hn hr fx hH hl i2 q (u + 1) (y_cs H (y_TT p K M E S Y U i2) l u b) σ (by omega) (hH _ hp) ra hh hc
      refine ⟨τ, pre _ ?_, f⟩
      rw [if_pos z]
      refine Eq.trans ?_ a
      show _ = x_f (d + 5) 184 11 [_, none, _, some (.inl (Int32.ofNat (b.1 + y_ds b.2.2 (H (y_gd l u))))), some (.inl (Int32.ofNat (b.2.1 + y_TT p K M E S Y U i2 (y_gd l u) * (b.1 + y_ds b.2.2 (H (y_gd l u)))))), some (.inl (Int32.ofNat (H (y_gd l u)))), _, _] [] σ
      rw [T0, Nat.zero_mul]
      rfl
    · obtain ⟨c1, c6⟩ := a6 _ hp
      obtain ⟨mb, eb, sb⟩ := fx _ hp
      obtain ⟨-, -, t1, -⟩ := y_oztn p (k := K (y_gd l u)) (m := M (y_gd l u)) (y := Y) eb sb (U (y_gd l u))
      obtain ⟨σ1, e1, f1⟩ := c164 d hG hr hv a1 hp5 c1 a3
      have hG1 := f1.G hG
      have f1' : x_fr y_wo x_w0 σ σ1 := f1.mono (fun _ _ h => Or.inl h) (fun _ _ h => h)
      have ra1 := ra.wo n r tx o p K M E S Y G W U hr f1'
      have e2 := c163 (d + 4) hG1 hp5 (ra1.2.2.2.2.2.2 _ hp).1 eb (y_big (x_Z_b p (K (y_gd l u)) (M (y_gd l u)) (E (y_gd l u)) (S (y_gd l u)) Y (Int32.ofNat (U (y_gd l u)))) (by decide))
      rw [t1] at e2
      obtain ⟨τ, a, f⟩ := l184 d n r tx o p K M E S Y G W U hn hr fx hH hl i2 q (u + 1) (y_cs H (y_TT p K M E S Y U i2) l u b) σ1 (by omega) (hH _ hp) ra1 (hh.wo hn f1') (fun v hv => (f1.I (by unfold x_wt; omega)).trans (hc v hv))
      refine ⟨τ, pre _ ?_, f1.trans f⟩
      have T0 : y_TT p K M E S Y U i2 (y_gd l u) = y_tn p (K (y_gd l u)) (M (y_gd l u)) (E (y_gd l u)) (S (y_gd l u)) Y (U (y_gd l u)) := if_neg z
      rw [if_neg z, e1, x_ci_s, x_k78 hG1, e2, x_ci_s, ← Int32.ofNat_mul, ← Int32.ofNat_add, ← T0]
      exact a
theorem m184 (d : Nat) (n r tx : Nat) (o : Nat → Nat) (p : Nat → List Int32) (K M E S : Nat → Int32) (Y G : Int32) (W U : Nat → Nat) (hn : n ≤ 5) (hr : r < 6) (fx : y_fx n M E S) {H : Nat → Nat} (hH : ∀ p, p < n → H p < 12) {l : List Nat} (hl : y_pm n l) {s : Nat} (hs : s < 12) (i2 : Int32) {σ : xS} (ra : y_ra n r tx o p K M E S Y G W U σ) (hh : y_hr n H σ) (hc : y_ct 95 n l σ) : ∃ τ, x_run (d + 6) 184 [.inr (.inr (some 78)), .inl (Int32.ofNat s), .inl i2] σ = some (some (.inl (Int32.ofNat (y_va H (y_TT p K M E S Y U i2) n s i2 l))), τ) ∧ x_fr x_wt x_w0 σ τ := by
  rw [r184, e184_0]
  exact l184 d n r tx o p K M E S Y G W U hn hr fx hH hl i2 n 0 (0, 0, s) σ (by omega) hs ra hh hc
def y_43 (b u : Nat) : Prop := b = 78 ∧ u = 43
theorem y_185c (d : Nat) {n : Nat} (hn : n ≤ 5) {l : List Nat} (hl : y_pm n l) (i1 i2 i3 i4 : Int32) : ∀ q u c σ, u + q = n → x_G σ → x_I σ 78 0 = Int32.ofNat n → y_ct 95 n l σ → x_I σ 78 43 = Int32.ofNat c → ∃ τ, x_f d 185 58 [some (.inr (.inr (some 78))), some (.inl i1), some (.inl i2), some (.inl i3), some (.inl i4), none, some (.inl (Int32.ofNat u))] [] σ = x_f d 185 10 [some (.inr (.inr (some 78))), some (.inl i1), some (.inl i2), some (.inl i3), some (.inl (i4 + 1)), none, none] [] τ ∧ x_fr y_43 x_w0 σ τ ∧ x_I τ 78 43 = Int32.ofNat (x_it (y_cd l) u q c)
  | 0, u, c, σ, hu, hG, h0, hc, h43 => by
    refine ⟨σ, ?_, x_fr.refl _ _ _, h43⟩
    rw [x_feq, e185_58, x_k78 hG, h0, if_pos ((x_le (by omega) (by omega)).mpr (by omega))]
  | q + 1, u, c, σ, hu, hG, h0, hc, h43 => by
    have hu5 : u < 5 := by omega
    have ec : 10 * c + y_gd l u + 1 = y_cd l u c := by unfold y_cd; omega
    obtain ⟨τ, a, f, g⟩ := y_185c d hn hl i1 i2 i3 i4 q (u + 1) (y_cd l u c) (x_si σ 78 43 (Int32.ofNat (y_cd l u c))) (by omega) hG (((x_Isi _ _ _ _ _ _).trans (if_neg (by omega))).trans h0) (fun v hv => ((x_Isi _ _ _ _ _ _).trans (if_neg (by omega))).trans (hc v hv)) ((x_Isi _ _ _ _ _ _).trans (if_pos ⟨rfl, rfl⟩))
    refine ⟨τ, ?_, ((x_fr.refl y_43 x_w0 σ).si _ ⟨rfl, rfl⟩).trans f, g⟩
    refine Eq.trans ?_ a
    rw [x_feq, e185_58, x_k78 hG, h0, if_neg (fun h => absurd ((x_le (by omega) (by omega)).mp h) (by omega)), x_k78 hG, x_k78 hG, x_q78_42 hG, x_der_s, x_k95 hG, x_i5 hu5, x_n5 hu5, hc u (by omega), x_k78 hG, h43, show (10 : Int32) = Int32.ofNat 10 from rfl, ← Int32.ofNat_mul, ← Int32.ofNat_add, x_s1, x_s1, ec]
def y_uo (V C : List Nat → Nat) : Option (Nat × Nat) → List Nat → Option (Nat × Nat)
  | none, l => some (V l, C l)
  | some b, l => some (y_up V C b l)
theorem y_uo_some (V C : List Nat → Nat) : ∀ (xs : List (List Nat)) (b : Nat × Nat), xs.foldl (y_uo V C) (some b) = some (xs.foldl (y_up V C) b)
  | [], b => rfl
  | x :: xs, b => y_uo_some V C xs (y_up V C b x)
def y_enc : Option (Nat × Nat) → Int32
  | none => -1
  | some b => Int32.ofNat b.1
theorem l185 (d : Nat) (n r tx : Nat) (o : Nat → Nat) (p : Nat → List Int32) (K M E S : Nat → Int32) (Y G : Int32) (W U : Nat → Nat) (hn : n ≤ 5) (hr : r < 6) (fx : y_fx n M E S) {H : Nat → Nat} (hH : ∀ p, p < n → H p < 12) {s : Nat} (hs : s < 12) (i2 : Int32) : ∀ q k b σ, k + q = n ^ n → y_ra n r tx o p K M E S Y G W U σ → y_hr n H σ → (∀ c, b = some c → c.1 < 2 ^ 30 ∧ x_I σ 78 43 = Int32.ofNat c.2) → ∃ τ, x_f (d + 6) 185 10 [some (.inr (.inr (some 78))), some (.inl (Int32.ofNat s)), some (.inl i2), some (.inl (y_enc b)), some (.inl (Int32.ofNat k)), none, none] [] σ = some (some (.inl (y_enc ((y_rf n q k).foldl (y_uo (y_va H (y_TT p K M E S Y U i2) n s i2) (y_co n)) b))), τ) ∧ x_fr y_wo x_w0 σ τ ∧ ∀ c, (y_rf n q k).foldl (y_uo (y_va H (y_TT p K M E S Y U i2) n s i2) (y_co n)) b = some c → x_I τ 78 43 = Int32.ofNat c.2
  | 0, k, b, σ, hk, ra, hh, hb => by
    obtain ⟨hG, hv, a1, a2, a3, a4, a6⟩ := id ra
    have ek : k = n ^ n := by omega
    refine ⟨σ, ?_, x_fr.refl _ _ _, fun c h => (hb c h).2⟩
    rw [x_feq, e185_10, x_k78 hG, m183 _ hn hG a2, x_ci_s, if_pos (by rw [ek]; exact Int32.le_refl _)]
    rfl
  | q + 1, k, b, σ, hk, ra, hh, hb => by
    obtain ⟨hG, hv, a1, a2, a3, a4, a6⟩ := id ra
    have nn : n ^ n ≤ 3125 := by
      rcases (show n = 0 ∨ n = 1 ∨ n = 2 ∨ n = 3 ∨ n = 4 ∨ n = 5 by omega) with rfl | rfl | rfl | rfl | rfl | rfl <;> decide
    have one : ¬ (1 : Int32) = 0 := by decide
    have nle : ¬ Int32.ofNat (n ^ n) ≤ Int32.ofNat k := fun h => absurd ((x_le (by omega) (by omega)).mp h) (by omega)
    obtain ⟨σ1, e1, f1, g1⟩ := m182 (d + 4) hn (k := k) (by omega) hG a2
    have f1' : x_fr y_wo x_w0 σ σ1 := f1.mono (fun _ _ h => Or.inr (Or.inr (Or.inr (Or.inr (Or.inr (Or.inl h)))))) (fun _ _ h => h)
    have hG1 := f1.G hG
    have ra1 := ra.wo n r tx o p K M E S Y G W U hr f1'
    have hh1 := hh.wo hn f1'
    have b1 : ∀ c, b = some c → c.1 < 2 ^ 30 ∧ x_I σ1 78 43 = Int32.ofNat c.2 := fun c h => ⟨(hb c h).1, (f1.I (by unfold y_95; omega)).trans (hb c h).2⟩
    have us : y_rf n (q + 1) k = if (y_dm n n k 0 []).1 = 2 ^ n - 1 then (y_dm n n k 0 []).2 :: y_rf n q (k + 1) else y_rf n q (k + 1) := rfl
    rw [us]
    by_cases cm : (y_dm n n k 0 []).1 = 2 ^ n - 1
    · rw [if_pos cm] at e1
      rw [if_pos cm]
      have hl : y_pm n (y_dm n n k 0 []).2 := by
        rcases (show n = 0 ∨ 1 ≤ n by omega) with rfl | h1
        · exact ⟨rfl, fun u hu => absurd hu (Nat.not_lt_zero u)⟩
        · exact y_dm_pm h1 n k 0 [] (by show 0 + n = n; omega) (fun u hu => absurd hu (Nat.not_lt_zero u))
      generalize (y_dm n n k 0 []).2 = l at *
      obtain ⟨σ2, e2, f2⟩ := m184 d n r tx o p K M E S Y G W U hn hr fx hH hl hs i2 ra1 hh1 g1
      have f2' : x_fr y_wo x_w0 σ1 σ2 := f2.mono (fun _ _ h => Or.inl h) (fun _ _ h => h)
      have f12 := f1'.trans f2'
      have hG2 := f2.G hG1
      have ra2 := ra1.wo n r tx o p K M E S Y G W U hr f2'
      have hh2 := hh1.wo hn f2'
      have g2 : y_ct 95 n l σ2 := fun u hu => (f2.I (by unfold x_wt; omega)).trans (g1 u hu)
      have b2 : ∀ c, b = some c → c.1 < 2 ^ 30 ∧ x_I σ2 78 43 = Int32.ofNat c.2 := fun c h => ⟨(hb c h).1, (f2.I (by unfold x_wt; omega)).trans (b1 c h).2⟩
      have vb := y_va_b H _ hn hl hH (y_TT_b p K M E S Y U i2 fx) hs i2
      have take : ∃ τ, x_f (d + 6) 185 58 [some (.inr (.inr (some 78))), some (.inl (Int32.ofNat s)), some (.inl i2), some (.inl (Int32.ofNat (y_va H (y_TT p K M E S Y U i2) n s i2 l))), some (.inl (Int32.ofNat k)), none, some (.inl 0)] [] (x_si σ2 78 43 0) = some (some (.inl (y_enc ((y_rf n q (k + 1)).foldl (y_uo (y_va H (y_TT p K M E S Y U i2) n s i2) (y_co n)) (some (y_va H (y_TT p K M E S Y U i2) n s i2 l, y_co n l))))), τ) ∧ x_fr y_wo x_w0 σ2 τ ∧ ∀ c, (y_rf n q (k + 1)).foldl (y_uo (y_va H (y_TT p K M E S Y U i2) n s i2) (y_co n)) (some (y_va H (y_TT p K M E S Y U i2) n s i2 l, y_co n l)) = some c → x_I τ 78 43 = Int32.ofNat c.2 := by
        obtain ⟨σ3, e3, f3, g3⟩ := y_185c (d + 6) hn hl (Int32.ofNat s) i2 (Int32.ofNat (y_va H (y_TT p K M E S Y U i2) n s i2 l)) (Int32.ofNat k) n 0 0 (x_si σ2 78 43 0) (by omega) hG2 (((x_Isi _ _ _ _ _ _).trans (if_neg (by omega))).trans ra2.2.2.2.1) (fun v hv => ((x_Isi _ _ _ _ _ _).trans (if_neg (by omega))).trans (g2 v hv)) ((x_Isi _ _ _ _ _ _).trans (if_pos ⟨rfl, rfl⟩))
        have f3' : x_fr y_wo x_w0 σ2 σ3 := ((x_fr.refl y_wo x_w0 σ2).si _ (Or.inr (Or.inr (Or.inr (Or.inr (Or.inr (Or.inr ⟨rfl, rfl⟩))))))).trans (f3.mono (fun _ _ h => Or.inr (Or.inr (Or.inr (Or.inr (Or.inr (Or.inr h)))))) (fun _ _ h => h))
        obtain ⟨τ, e4, f4, g4⟩ := l185 d n r tx o p K M E S Y G W U hn hr fx hH hs i2 q (k + 1) (some (y_va H (y_TT p K M E S Y U i2) n s i2 l, y_co n l)) σ3 (by omega) (ra2.wo n r tx o p K M E S Y G W U hr f3') (hh2.wo hn f3') (fun c h => by cases h; exact ⟨vb, g3⟩)
        refine ⟨τ, ?_, f3'.trans f4, g4⟩
        refine e3.trans ?_
        rw [x_s1]
        exact e4
      have pre : ∀ R, (if y_enc b = -1 then x_f (d + 6) 185 58 [some (.inr (.inr (some 78))), some (.inl (Int32.ofNat s)), some (.inl i2), some (.inl (Int32.ofNat (y_va H (y_TT p K M E S Y U i2) n s i2 l))), some (.inl (Int32.ofNat k)), none, some (.inl 0)] [] (x_si σ2 78 43 0) else if y_enc b ≤ Int32.ofNat (y_va H (y_TT p K M E S Y U i2) n s i2 l) then x_f (d + 6) 185 10 [some (.inr (.inr (some 78))), some (.inl (Int32.ofNat s)), some (.inl i2), some (.inl (y_enc b)), some (.inl (Int32.ofNat (k + 1))), none, none] [] σ2 else x_f (d + 6) 185 58 [some (.inr (.inr (some 78))), some (.inl (Int32.ofNat s)), some (.inl i2), some (.inl (Int32.ofNat (y_va H (y_TT p K M E S Y U i2) n s i2 l))), some (.inl (Int32.ofNat k)), none, some (.inl 0)] [] (x_si σ2 78 43 0)) = R → x_f (d + 6) 185 10 [some (.inr (.inr (some 78))), some (.inl (Int32.ofNat s)), some (.inl i2), some (.inl (y_enc b)), some (.inl (Int32.ofNat k)), none, none] [] σ = R := by
        intro R h
        rw [x_feq, e185_10, x_k78 hG, m183 _ hn hG a2, x_ci_s, if_neg nle, x_k78 hG, e1, x_ci_s, if_neg one, x_k78 hG1, e2, x_ci_s, x_k78 hG2, x_s1]
        exact h
      cases b with
      | none =>
        obtain ⟨τ, e, f, g⟩ := take
        refine ⟨τ, pre _ ?_, f12.trans f, g⟩
        rw [if_pos (show y_enc none = -1 from rfl)]
        exact e
      | some c =>
        have nm : ¬ y_enc (some c) = -1 := y_ne1 (by have := (hb c rfl).1; omega)
        have cb := (hb c rfl).1
        by_cases cc : c.1 ≤ y_va H (y_TT p K M E S Y U i2) n s i2 l
        · obtain ⟨τ, e, f, g⟩ := l185 d n r tx o p K M E S Y G W U hn hr fx hH hs i2 q (k + 1) (some c) σ2 (by omega) ra2 hh2 b2
          have eu : y_up (y_va H (y_TT p K M E S Y U i2) n s i2) (y_co n) c l = c := if_pos cc
          have ef : (l :: y_rf n q (k + 1)).foldl (y_uo (y_va H (y_TT p K M E S Y U i2) n s i2) (y_co n)) (some c) = (y_rf n q (k + 1)).foldl (y_uo (y_va H (y_TT p K M E S Y U i2) n s i2) (y_co n)) (some c) := by
            show (y_rf n q (k + 1)).foldl _ (some (y_up _ _ c l)) = _
            rw [eu]
          rw [ef]
          refine ⟨τ, pre _ ?_, f12.trans f, g⟩
          rw [if_neg nm, if_pos (show y_enc (some c) ≤ _ from (x_le (by omega) (by omega)).mpr cc)]
          exact e
        · obtain ⟨τ, e, f, g⟩ := take
          have eu : y_up (y_va H (y_TT p K M E S Y U i2) n s i2) (y_co n) c l = (y_va H (y_TT p K M E S Y U i2) n s i2 l, y_co n l) := if_neg cc
          have ef : (l :: y_rf n q (k + 1)).foldl (y_uo (y_va H (y_TT p K M E S Y U i2) n s i2) (y_co n)) (some c) = (y_rf n q (k + 1)).foldl (y_uo (y_va H (y_TT p K M E S Y U i2) n s i2) (y_co n)) (some (y_va H (y_TT p K M E S Y U i2) n s i2 l, y_co n l)) := by
            show (y_rf n q (k + 1)).foldl _ (some (y_up _ _ c l)) = _
            rw [eu]
          rw [ef]
          refine ⟨τ, pre _ ?_, f12.trans f, g⟩
          rw [if_neg nm, if_neg (show ¬ y_enc (some c) ≤ _ from fun h => cc ((x_le (by omega) (by omega)).mp h))]
          exact e
    · rw [if_neg cm] at e1
      rw [if_neg cm]
      obtain ⟨τ, e, f, g⟩ := l185 d n r tx o p K M E S Y G W U hn hr fx hH hs i2 q (k + 1) b σ1 (by omega) ra1 hh1 b1
      refine ⟨τ, ?_, f1'.trans f, g⟩
      rw [x_feq, e185_10, x_k78 hG, m183 _ hn hG a2, x_ci_s, if_neg nle, x_k78 hG, e1, x_ci_s, if_pos rfl, x_s1]
      exact e
theorem m185 (d : Nat) (n r tx : Nat) (o : Nat → Nat) (p : Nat → List Int32) (K M E S : Nat → Int32) (Y G : Int32) (W U : Nat → Nat) (hn : n ≤ 5) (hr : r < 6) (fx : y_fx n M E S) {H : Nat → Nat} (hH : ∀ p, p < n → H p < 12) {s : Nat} (hs : s < 12) (i2 : Int32) {σ : xS} (ra : y_ra n r tx o p K M E S Y G W U σ) (hh : y_hr n H σ) : ∃ τ, x_run (d + 7) 185 [.inr (.inr (some 78)), .inl (Int32.ofNat s), .inl i2] σ = some (some (.inl (Int32.ofNat (y_br H (y_TT p K M E S Y U i2) n s i2).1)), τ) ∧ x_fr y_wo x_w0 σ τ ∧ x_I τ 78 43 = Int32.ofNat (y_br H (y_TT p K M E S Y U i2) n s i2).2 := by
  have f0 : x_fr y_wo x_w0 σ (x_si σ 78 43 0) := (x_fr.refl y_wo x_w0 σ).si _ (Or.inr (Or.inr (Or.inr (Or.inr (Or.inr (Or.inr ⟨rfl, rfl⟩))))))
  obtain ⟨τ, e, f, g⟩ := l185 d n r tx o p K M E S Y G W U hn hr fx hH hs i2 (n ^ n) 0 none (x_si σ 78 43 0) (by omega) (ra.wo n r tx o p K M E S Y G W U hr f0) (hh.wo hn f0) (fun c h => by cases h)
  have ef : (y_rf n (n ^ n) 0).foldl (y_uo (y_va H (y_TT p K M E S Y U i2) n s i2) (y_co n)) none = some (y_br H (y_TT p K M E S Y U i2) n s i2) := by
    rw [y_rfs n hn]
    exact y_uo_some _ _ _ _
  rw [ef] at e
  refine ⟨τ, ?_, f0.trans f, g _ ef⟩
  rw [r185, e185_0, x_k78 ra.1]
  exact e
