/-! chains and rings -/
def y_rc (g : Nat → Option Nat) : Nat → Option Nat → Nat → Nat
  | 0, _, m => m
  | _ + 1, none, m => m
  | q + 1, some a, m => y_rc g q (g a) (match g a with
    | none => m
    | some y => m ||| 2 ^ y)
def y_ch (g : Nat → Option Nat) (l : Nat) : Nat → Nat → Option Nat → Nat → Nat × Bool
  | 0, _, _, k => (k, false)
  | _ + 1, _, none, k => (k, false)
  | q + 1, s, some y, k => if s.testBit y = true then (k, decide (y = l)) else y_ch g l q (s ||| 2 ^ y) (g y) (k + 1)
theorem y_tb (m y x : Nat) : (m ||| 2 ^ y).testBit x = (m.testBit x || decide (y = x)) := by
  rw [Nat.testBit_or, Nat.testBit_two_pow]
theorem y_ab {m y : Nat} (h : m.testBit y = true) : m ||| 2 ^ y = m := by
  apply Nat.eq_of_testBit_eq
  intro x
  rw [y_tb]
  by_cases e : y = x
  · rw [← e, h]; rfl
  · rw [decide_eq_false e, Bool.or_false]
theorem y_cn1 : ∀ m, m < 32 → ∀ l, l < 5 → m.testBit l = false → y_cnt (m ||| 2 ^ l) = y_cnt m + 1 := by decide +kernel
theorem y_rc_stay {n : Nat} {g : Nat → Option Nat} {M : Nat} (cl : ∀ x, x < n → M.testBit x = true → ∃ y, y < n ∧ g x = some y ∧ M.testBit y = true) : ∀ q a, a < n → M.testBit a = true → y_rc g q (some a) M = M
  | 0, a, _, _ => rfl
  | q + 1, a, ha, hb => by
    obtain ⟨y, hy, e, hyb⟩ := cl a ha hb
    show y_rc g q (g a) (match g a with
      | none => M
      | some y => M ||| 2 ^ y) = M
    rw [e]
    show y_rc g q (some y) (M ||| 2 ^ y) = M
    rw [y_ab hyb]
    exact y_rc_stay cl q y hy hyb
theorem y_rel {n : Nat} {g : Nat → Option Nat} (hn : n ≤ 5) (hg : y_gn n g) {l : Nat} (hl : l < n) : ∀ q Q s a m i, a < n → s < 2 ^ n → m < 2 ^ n → m ||| 2 ^ l = s → s.testBit a = true → y_cnt s = i + 1 → m.testBit l = false → (∀ x, x < n → s.testBit x = true → x ≠ a → ∃ y, y < n ∧ g x = some y ∧ s.testBit y = true ∧ y ≠ l) → n < y_cnt s + q → Q + i = n + 1 → y_rc g Q (some a) m < 2 ^ n ∧ y_cnt (y_rc g Q (some a) m) = (y_ch g l q s (g a) i).1 + (if (y_ch g l q s (g a) i).2 = true then 1 else 0) ∧ (y_rc g Q (some a) m).testBit l = (y_ch g l q s (g a) i).2
  | 0, Q, s, a, m, i, ha, hs, hm, e1, ba, hc, ml, cl, hq, hQ => absurd (y_cnt_le hn hs) (by omega)
  | q + 1, 0, s, a, m, i, ha, hs, hm, e1, ba, hc, ml, cl, hq, hQ => absurd (y_cnt_le hn hs) (by omega)
  | q + 1, Q + 1, s, a, m, i, ha, hs, hm, e1, ba, hc, ml, cl, hq, hQ => by
    have p5 := y_pw5 hn
    have cs := y_cn1 m (by omega) l (by omega) ml
    rw [e1] at cs
    have cle := y_cnt_le hn hs
    have sl : s.testBit l = true := by rw [← e1, y_tb, decide_eq_true rfl, Bool.or_true]
    have us : y_rc g (Q + 1) (some a) m = y_rc g Q (g a) (match g a with
      | none => m
      | some y => m ||| 2 ^ y) := rfl
    rw [us]
    cases hga : g a with
    | none =>
      have e0 : y_rc g Q none m = m := by cases Q <;> rfl
      show y_rc g Q none m < 2 ^ n ∧ y_cnt (y_rc g Q none m) = i + 0 ∧ (y_rc g Q none m).testBit l = false
      rw [e0]
      exact ⟨hm, by omega, ml⟩
    | some y =>
      have hy := hg a ha y hga
      show y_rc g Q (some y) (m ||| 2 ^ y) < 2 ^ n ∧ y_cnt (y_rc g Q (some y) (m ||| 2 ^ y)) = (y_ch g l (q + 1) s (some y) i).1 + (if (y_ch g l (q + 1) s (some y) i).2 = true then 1 else 0) ∧ (y_rc g Q (some y) (m ||| 2 ^ y)).testBit l = (y_ch g l (q + 1) s (some y) i).2
      have p2 : 2 ^ y < 2 ^ n := Nat.pow_lt_pow_right (by omega) hy
      cases hb : s.testBit y with
      | false =>
        have uc : y_ch g l (q + 1) s (some y) i = y_ch g l q (s ||| 2 ^ y) (g y) (i + 1) := if_neg (by rw [hb]; decide)
        rw [uc]
        have yl : y ≠ l := fun h => by rw [h, sl] at hb; cases hb
        have c1 := y_cn1 s (by omega) y (by omega) hb
        refine y_rel hn hg hl q Q (s ||| 2 ^ y) y (m ||| 2 ^ y) (i + 1) hy (Nat.or_lt_two_pow hs p2) (Nat.or_lt_two_pow hm p2) ?_ ?_ (by omega) ?_ (fun x hx bx xy => ?_) (by omega) (by omega)
        · rw [Nat.or_assoc, Nat.or_comm (2 ^ y), ← Nat.or_assoc, e1]
        · rw [y_tb, decide_eq_true rfl, Bool.or_true]
        · rw [y_tb, ml, decide_eq_false yl]; rfl
        · rw [y_tb, decide_eq_false (fun h => xy h.symm), Bool.or_false] at bx
          by_cases xa : x = a
          · subst xa
            exact ⟨y, hy, hga, by rw [y_tb, decide_eq_true rfl, Bool.or_true], yl⟩
          · obtain ⟨w, hw, gw, sw, wl⟩ := cl x hx bx xa
            exact ⟨w, hw, gw, by rw [y_tb, sw]; rfl, wl⟩
      | true =>
        have uc : y_ch g l (q + 1) s (some y) i = (i, decide (y = l)) := if_pos hb
        rw [uc]
        by_cases yl : y = l
        · subst yl
          rw [e1, y_rc_stay (n := n) (fun x hx bx => ?_) Q y hy sl]
          · exact ⟨hs, by rw [hc]; show i + 1 = i + (if decide (y = y) = true then 1 else 0); rw [if_pos (decide_eq_true rfl)], by rw [sl]; exact (decide_eq_true rfl).symm⟩
          · by_cases xa : x = a
            · subst xa
              exact ⟨y, hy, hga, sl⟩
            · obtain ⟨w, hw, gw, sw, -⟩ := cl x hx bx xa
              exact ⟨w, hw, gw, sw⟩
        · have my : m.testBit y = true := by
            rw [← e1, y_tb, decide_eq_false (fun h => yl h.symm), Bool.or_false] at hb
            exact hb
          rw [y_ab my, y_rc_stay (n := n) (fun x hx bx => ?_) Q y hy my]
          · exact ⟨hm, by show y_cnt m = i + (if decide (y = l) = true then 1 else 0); rw [if_neg (by rw [decide_eq_false yl]; decide)]; omega, by rw [ml]; exact (decide_eq_false yl).symm⟩
          · have sx : s.testBit x = true := by rw [← e1, y_tb, bx]; rfl
            have md : ∀ w, s.testBit w = true → w ≠ l → m.testBit w = true := fun w h1 h2 => by
              rw [← e1, y_tb, decide_eq_false (fun h => h2 h.symm), Bool.or_false] at h1
              exact h1
            by_cases xa : x = a
            · subst xa
              exact ⟨y, hy, hga, my⟩
            · obtain ⟨w, hw, gw, sw, wl⟩ := cl x hx sx xa
              exact ⟨w, hw, gw, md w sw wl⟩
theorem l74 (d : Nat) (n : Nat) (g : Nat → Option Nat) (W E : Nat → Int32) (P : Int32) (hn : n ≤ 5) (hg : y_gn n g) {σ : xS} (h : y_net n g W E P σ) : ∀ q i cur m, i + q = n + 1 → (∀ a, cur = some a → a < n) → x_f (d + 1) 74 11 [some (.inr (.inr (some 1))), none, some (.inl (Int32.ofNat m)), some (.inr (.inr (cur.map (3 + ·)))), some (.inl (Int32.ofNat i)), none] [] σ = some (some (.inl (Int32.ofNat (y_rc g q cur m))), σ)
  | 0, i, cur, m, hi, hc => by
    obtain ⟨hG, a1, -⟩ := id h
    rw [x_feq, e74_11, x_k1 hG, a1, if_pos (Int32.not_le.mp (fun k => absurd ((x_le (by omega) (by omega)).mp k) (by omega)))]
    rfl
  | q + 1, i, none, m, hi, hc => by
    obtain ⟨hG, a1, -⟩ := id h
    rw [x_feq, e74_11, x_k1 hG, a1, if_neg (fun g => absurd (Int32.not_le.mpr g) (fun k => k ((x_le (by omega) (by omega)).mpr (by omega))))]
    rfl
  | q + 1, i, some a, m, hi, hc => by
    obtain ⟨hG, a1, a2, a3, a4, a5⟩ := id h
    have ha := hc a rfl
    obtain ⟨b1, -⟩ := a5 a ha
    have us : y_rc g (q + 1) (some a) m = y_rc g q (g a) (match g a with
      | none => m
      | some y => m ||| 2 ^ y) := rfl
    rw [us, x_feq, e74_11, x_k1 hG, a1, if_neg (fun g => absurd (Int32.not_le.mpr g) (fun k => k ((x_le (by omega) (by omega)).mpr (by omega))))]
    show x_nul (some (3 + a)) _ (x_der (some (3 + a)) _) = _
    rw [x_nul_s, x_der_s, x_kl3 hG (show a < 5 by omega), x_k1 hG, b1]
    cases hga : g a with
    | none =>
      show x_cr (x_run (d + 1) 65 [.inr (.inr (some 1)), .inl (-1)] σ) _ = _
      rw [m65_out _ hG (n := n) (Or.inl (by decide)) a1, x_cr_s, x_nul_n, x_s1]
      exact l74 d n g W E P hn hg h q (i + 1) none m (by omega) (fun a h => by cases h)
    | some y =>
      have hy := hg a ha y hga
      show x_cr (x_run (d + 1) 65 [.inr (.inr (some 1)), .inl (Int32.ofNat y)] σ) _ = _
      rw [m65_in _ hG hn hy a1, x_cr_s, x_nul_s, x_s1]
      show x_f (d + 1) 74 11 [_, _, some (.inl (Int32.ofNat m ||| (1 <<< (Int32.ofNat y &&& 31)))), _, _, _] [] σ = _
      rw [y_sh1 (by omega), y_por]
      exact l74 d n g W E P hn hg h q (i + 1) (some y) (m ||| 2 ^ y) (by omega) (fun a h => by cases h; exact hy)
theorem m74 (d : Nat) (n : Nat) (g : Nat → Option Nat) (W E : Nat → Int32) (P : Int32) (hn : n ≤ 5) (hg : y_gn n g) {σ : xS} (h : y_net n g W E P σ) {l : Nat} (hl : l < n) : x_run (d + 2) 74 [.inr (.inr (some 1)), .inl (Int32.ofNat l)] σ = some (some (.inl (Int32.ofNat (y_rc g (n + 1) (some l) 0))), σ) := by
  obtain ⟨hG, a1, -⟩ := id h
  rw [r74, e74_0, x_k1 hG, m65_in _ hG hn hl a1, x_cr_s]
  exact l74 d n g W E P hn hg h (n + 1) 0 (some l) 0 (by omega) (fun a h => by cases h; exact hl)
theorem y_bit0 : ∀ s, s < 32 → ∀ y, y < 5 → (((Int32.ofNat s >>> (Int32.ofNat y &&& 31)) &&& 1) = 0 ↔ s.testBit y = false) := by decide +kernel
theorem y_ne1 {y : Nat} (h : y < 2 ^ 31) : ¬ Int32.ofNat y = -1 := fun e => absurd (x_nn0 h) (fun h => h (by rw [e]; decide))
theorem l193 (d : Nat) (n : Nat) (g : Nat → Option Nat) (W E : Nat → Int32) (P : Int32) (hn : n ≤ 5) (hg : y_gn n g) {σ : xS} (h : y_net n g W E P σ) {l : Nat} (hl : l < n) : ∀ q s cur k, s < 2 ^ n → n < y_cnt s + q → (∀ a, cur = some a → a < n) → x_f (d + 1) 193 19 [some (.inr (.inr (some 78))), some (.inl (Int32.ofNat l)), some (.inl (Int32.ofNat s)), some (.inl (y_pr cur)), some (.inl (Int32.ofNat k))] [] σ = some (some (.inl (Int32.ofNat (y_ch g l q s cur k).1)), x_si σ 78 45 (if (y_ch g l q s cur k).2 = true then 1 else 0))
  | 0, s, cur, k, hs, hq, hc => absurd (y_cnt_le hn hs) (by omega)
  | q + 1, s, none, k, hs, hq, hc => by
    obtain ⟨hG, -⟩ := id h
    rw [x_feq, e193_19, if_pos (show y_pr none = -1 from rfl), if_neg (show ¬ y_pr none = Int32.ofNat l from fun e => y_ne1 (by omega) e.symm), x_k78 hG]
    rfl
  | q + 1, s, some y, k, hs, hq, hc => by
    obtain ⟨hG, a1, a2, a3, a4, a5⟩ := id h
    have hy := hc y rfl
    have hy5 : y < 5 := by omega
    have p5 := y_pw5 hn
    have bk : x_bnd (Int32.ofNat y) 4 = Int32.ofNat y := by
      rw [show (4 : Int32) = Int32.ofNat 4 from rfl, y_bmin y 4 (by omega) (by omega), Nat.min_eq_right (by omega)]
    show x_f (d + 1) 193 19 [some (.inr (.inr (some 78))), some (.inl (Int32.ofNat l)), some (.inl (Int32.ofNat s)), some (.inl (Int32.ofNat y)), some (.inl (Int32.ofNat k))] [] σ = _
    rw [x_feq, e193_19, if_neg (y_ne1 (by omega)), m134, x_ci_s, bk]
    cases hb : s.testBit y with
    | false =>
      have uc : y_ch g l (q + 1) s (some y) k = y_ch g l q (s ||| 2 ^ y) (g y) (k + 1) := if_neg (by rw [hb]; decide)
      have p2 : 2 ^ y < 2 ^ n := Nat.pow_lt_pow_right (by omega) hy
      have c1 := y_cn1 s (by omega) y (by omega) hb
      rw [if_pos ((y_bit0 s (by omega) y (by omega)).mpr hb), x_k78 hG, x_q78_3 hG, x_der_s, x_k81 hG, x_6i4 hy5, x_6n4 hy5, (a5 y hy).2.1, y_sh1 hy5, y_por, x_s1, uc]
      exact l193 d n g W E P hn hg h hl q (s ||| 2 ^ y) (g y) (k + 1) (Nat.or_lt_two_pow hs p2) (by omega) (fun a e => hg y hy a e)
    | true =>
      have uc : y_ch g l (q + 1) s (some y) k = (k, decide (y = l)) := if_pos hb
      rw [if_neg (fun e => by rw [(y_bit0 s (by omega) y (by omega)).mp e] at hb; cases hb), uc]
      by_cases e : y = l
      · rw [if_pos (by rw [e]), x_k78 hG]
        show _ = some (some (Sum.inl (Int32.ofNat k)), x_si σ 78 45 (if decide (y = l) = true then 1 else 0))
        rw [if_pos (decide_eq_true e)]
      · rw [if_neg (fun h => e (x_inj32 (by omega) (by omega) h)), x_k78 hG]
        show _ = some (some (Sum.inl (Int32.ofNat k)), x_si σ 78 45 (if decide (y = l) = true then 1 else 0))
        rw [if_neg (by rw [decide_eq_false e]; decide)]
theorem m193 (d : Nat) (n : Nat) (g : Nat → Option Nat) (W E : Nat → Int32) (P : Int32) (hn : n ≤ 5) (hg : y_gn n g) {σ : xS} (h : y_net n g W E P σ) {l : Nat} (hl : l < n) : x_run (d + 2) 193 [.inr (.inr (some 78)), .inl (Int32.ofNat l)] σ = some (some (.inl (Int32.ofNat (y_ch g l (n + 1) (2 ^ l) (g l) 0).1)), x_si σ 78 45 (if (y_ch g l (n + 1) (2 ^ l) (g l) 0).2 = true then 1 else 0)) := by
  obtain ⟨hG, a1, a2, a3, a4, a5⟩ := id h
  have hl5 : l < 5 := by omega
  rw [r193, e193_0, x_k78 hG, x_q78_3 hG, x_der_s, x_k81 hG, x_6i4 hl5, x_6n4 hl5, (a5 l hl).2.1, y_sh1 hl5]
  exact l193 d n g W E P hn hg h hl (n + 1) (2 ^ l) (g l) 0 (Nat.pow_lt_pow_right (by omega) hl) (by omega) (fun a e => hg l hl a e)
theorem y_cn2 : ∀ l, l < 5 → y_cnt (2 ^ l) = 1 := by decide +kernel
theorem y_rel0 {n : Nat} {g : Nat → Option Nat} (hn : n ≤ 5) (hg : y_gn n g) {l : Nat} (hl : l < n) : y_rc g (n + 1) (some l) 0 < 2 ^ n ∧ y_cnt (y_rc g (n + 1) (some l) 0) = (y_ch g l (n + 1) (2 ^ l) (g l) 0).1 + (if (y_ch g l (n + 1) (2 ^ l) (g l) 0).2 = true then 1 else 0) ∧ (y_rc g (n + 1) (some l) 0).testBit l = (y_ch g l (n + 1) (2 ^ l) (g l) 0).2 := by
  refine y_rel hn hg hl (n + 1) (n + 1) (2 ^ l) l 0 0 hl (Nat.pow_lt_pow_right (by omega) hl) (Nat.pow_pos (by omega)) (Nat.zero_or _) ?_ (y_cn2 l (by omega)) (Nat.zero_testBit l) (fun x hx bx xl => ?_) (by omega) (by omega)
  · rw [Nat.testBit_two_pow, decide_eq_true rfl]
  · rw [Nat.testBit_two_pow, decide_eq_false (fun h => xl h.symm)] at bx
    cases bx
theorem y_popm : ∀ m, m < 32 → ∀ l, l < 5 → y_pop (Int32.ofNat m &&& ((1 <<< (Int32.ofNat l &&& 31)) ^^^ (-1))) = Int32.ofNat (y_cnt m - (if m.testBit l = true then 1 else 0)) := by decide +kernel
theorem y_anb : ∀ m, m < 32 → ∀ l, l < 5 → Int32.ofNat m &&& (1 <<< (Int32.ofNat l &&& 31)) = if m.testBit l = true then 1 <<< (Int32.ofNat l &&& 31) else 0 := by decide +kernel
theorem x_op_chain (D : Nat) : ∀ (σ : xS) (as : List Int32), as.length = 1 → x_R σ → x_stp (D + 3) x_R false 100 194 as σ := by
  intro σ as hl hR
  match as, hl with
  | [i1], _ =>
    obtain ⟨hG, n, t, z, hP⟩ := id hR
    obtain ⟨hn, ht, hz, ⟨l1, l2⟩, ⟨t1, t2⟩, -⟩ := id hP
    have one : ¬ (1 : Int32) = 0 := by decide
    by_cases c : i1 < 0 ∨ Int32.ofNat n ≤ i1
    · refine x_op_eq hR (.inl (-5)) ⟨_, rfl⟩ ?_ ?_
      · show x_run (D + 3) 100 [.inr (.inr (some 0)), .inl i1] σ = _
        rw [r100, e100_0, x_k0 hG, x_q0_0 hG, x_der_s, x_k1 hG, m65_out _ hG c l2, x_cr_s, x_nul_n]
      · show x_run (D + 3) 194 [.inr (.inr (some 78)), .inl i1] σ = _
        rw [r194, e194_0, x_k78 hG, m135_out _ hG hn c l1, x_ci_s, if_pos rfl]
    · obtain ⟨l, hl, rfl⟩ : ∃ l, l < n ∧ i1 = Int32.ofNat l := by
        obtain ⟨k, hk, e⟩ := x_bd_of (v := i1) (hi := Int32.ofNat n) (n := n) (by omega) ⟨Int32.not_lt.mp (fun h => c (Or.inl h)), Int32.le_of_lt (Int32.not_le.mp (fun h => c (Or.inr h)))⟩ rfl
        refine ⟨k, ?_, e⟩
        exact Decidable.byContradiction fun h => c (Or.inr (by rw [e]; exact (x_le (by omega) (by omega)).mpr (by omega)))
      obtain ⟨g, W, E, P, hg, net⟩ := y_nets hG hP
      obtain ⟨q1, q2, q3⟩ := y_rel0 hn hg hl
      have p5 := y_pw5 hn
      refine x_op_fr (W := y_wn) (V := x_w0) hR (.inl (Int32.ofNat (y_ch g l (n + 1) (2 ^ l) (g l) 0).1)) ⟨_, rfl⟩ y_wn_per ?_ (x_fr.refl _ _ _) ?_ ((x_fr.refl _ _ _).si (a := 78) (u := 45) (if (y_ch g l (n + 1) (2 ^ l) (g l) 0).2 = true then 1 else 0) (Or.inr ⟨rfl, Or.inr rfl⟩))
      · show x_run (D + 3) 100 [.inr (.inr (some 0)), .inl (Int32.ofNat l)] σ = _
        rw [r100, e100_0, x_k0 hG, x_q0_0 hG, x_der_s, x_k1 hG, m65_in _ hG hn hl l2, x_cr_s, x_nul_s, x_k0 hG, x_q0_0 hG, x_der_s, x_k1 hG, m74 D n g W E P hn hg net hl, x_ci_s, m223, x_ci_s, y_popm _ (by omega) l (by omega), q2, q3]
        rw [Nat.add_sub_cancel]
      · show x_run (D + 3) 194 [.inr (.inr (some 78)), .inl (Int32.ofNat l)] σ = _
        rw [r194, e194_0, x_k78 hG, m135_in _ hG hn hl l1, x_ci_s, if_neg one, x_k78 hG, m193 D n g W E P hn hg net hl, x_ci_s]
def y_rg (g : Nat → Option Nat) (n : Nat) (l : Nat) (a : Int32) : Int32 := a ||| (if (y_rc g (n + 1) (some l) 0).testBit l = true then 1 <<< (Int32.ofNat l &&& 31) else 0)
theorem l101 (d : Nat) (n : Nat) (g : Nat → Option Nat) (W E : Nat → Int32) (P : Int32) (hn : n ≤ 5) (hg : y_gn n g) {σ : xS} (h : y_net n g W E P σ) : ∀ q l a, l + q = n → x_f (d + 2) 101 4 [some (.inr (.inr (some 0))), some (.inl a), some (.inl (Int32.ofNat l))] [] σ = some (some (.inl (x_it (y_rg g n) l q a)), σ)
  | 0, l, a, hi => by
    obtain ⟨hG, a1, -⟩ := id h
    rw [x_feq, e101_4, x_k0 hG, x_q0_0 hG, x_der_s, x_k1 hG, a1, if_pos ((x_le (by omega) (by omega)).mpr (by omega))]
    rfl
  | q + 1, l, a, hi => by
    obtain ⟨hG, a1, -⟩ := id h
    have hl : l < n := by omega
    have p5 := y_pw5 hn
    have nxt := l101 d n g W E P hn hg h q (l + 1) (y_rg g n l a) (by omega)
    rw [x_feq, e101_4, x_k0 hG, x_q0_0 hG, x_der_s, x_k1 hG, a1, if_neg (fun h => absurd ((x_le (by omega) (by omega)).mp h) (by omega)), x_k0 hG, x_der_s, x_k1 hG, m74 d n g W E P hn hg h hl, x_ci_s, y_anb _ (by have := (y_rel0 hn hg hl).1; omega) l (by omega), x_s1]
    exact nxt
theorem l195 (d : Nat) (n : Nat) (g : Nat → Option Nat) (W E : Nat → Int32) (P : Int32) (hn : n ≤ 5) (hg : y_gn n g) : ∀ q l a σ, l + q = n → y_net n g W E P σ → ∃ τ, x_f (d + 2) 195 4 [some (.inr (.inr (some 78))), some (.inl a), some (.inl (Int32.ofNat l))] [] σ = some (some (.inl (x_it (y_rg g n) l q a)), τ) ∧ x_fr y_wn x_w0 σ τ
  | 0, l, a, σ, hi, h => by
    obtain ⟨hG, a1, a2, a3, -⟩ := id h
    refine ⟨σ, ?_, x_fr.refl _ _ _⟩
    rw [x_feq, e195_4, x_k78 hG, a3, if_pos ((x_le (by omega) (by omega)).mpr (by omega))]
    rfl
  | q + 1, l, a, σ, hi, h => by
    obtain ⟨hG, a1, a2, a3, -⟩ := id h
    have hl : l < n := by omega
    obtain ⟨q1, q2, q3⟩ := y_rel0 hn hg hl
    have f1 : x_fr y_wn x_w0 σ (x_si σ 78 45 (if (y_ch g l (n + 1) (2 ^ l) (g l) 0).2 = true then 1 else 0)) := (x_fr.refl _ _ _).si _ (Or.inr ⟨rfl, Or.inr rfl⟩)
    have h1 := h.to n g W E P hn (f1.e y_wn_per)
    obtain ⟨τ, e, f⟩ := l195 d n g W E P hn hg q (l + 1) (y_rg g n l a) _ (by omega) h1
    refine ⟨τ, Eq.trans ?_ e, f1.trans f⟩
    rw [x_feq, e195_4, x_k78 hG, a3, if_neg (fun h => absurd ((x_le (by omega) (by omega)).mp h) (by omega)), x_k78 hG, m193 d n g W E P hn hg h hl, x_ci_s, x_k78 h1.1, x_Isi, if_pos (show (78 = 78 ∧ 45 = 45) from ⟨rfl, rfl⟩), x_s1]
    unfold y_rg
    rw [q3]
    cases (y_ch g l (n + 1) (2 ^ l) (g l) 0).2 <;> rfl
theorem x_op_rings (D : Nat) : ∀ (σ : xS) (as : List Int32), as.length = 0 → x_R σ → x_stp (D + 3) x_R false 101 195 as σ := by
  intro σ as hl hR
  match as, hl with
  | [], _ =>
    obtain ⟨hG, n, t, z, hP⟩ := id hR
    obtain ⟨hn, -⟩ := id hP
    obtain ⟨g, W, E, P, hg, net⟩ := y_nets hG hP
    obtain ⟨τ, e, f⟩ := l195 D n g W E P hn hg n 0 0 σ (by omega) net
    refine x_op_fr hR _ ⟨_, rfl⟩ y_wn_per ?_ (x_fr.refl _ _ _) (Eq.trans ?_ e) f
    · show x_run (D + 3) 101 [.inr (.inr (some 0))] σ = _
      rw [r101, e101_0]
      exact l101 D n g W E P hn hg net n 0 0 (by omega)
    · show x_run (D + 3) 195 [.inr (.inr (some 78))] σ = _
      rw [r195, e195_0]
      rfl
