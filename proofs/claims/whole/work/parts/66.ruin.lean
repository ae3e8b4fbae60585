/-! who would be poor -/
theorem y_por {a b : Nat} : Int32.ofNat a ||| Int32.ofNat b = Int32.ofNat (a ||| b) := by
  apply Int32.toBitVec_inj.mp
  rw [Int32.toBitVec_or]
  show BitVec.ofNat 32 a ||| BitVec.ofNat 32 b = BitVec.ofNat 32 (a ||| b)
  rw [BitVec.ofNat_or]
theorem y_sh1 {l : Nat} (h : l < 5) : (1 : Int32) <<< (Int32.ofNat l &&& 31) = Int32.ofNat (2 ^ l) := by
  rcases (show l = 0 ∨ l = 1 ∨ l = 2 ∨ l = 3 ∨ l = 4 by omega) with rfl | rfl | rfl | rfl | rfl <;> decide
def y_cnt (k : Nat) : Nat := k % 2 + k / 2 % 2 + k / 4 % 2 + k / 8 % 2 + k / 16 % 2
theorem y_pw5 {n : Nat} (hn : n ≤ 5) : 2 ^ n ≤ 32 := Nat.pow_le_pow_right (by omega) hn (n := 2)
theorem y_cnt_le {n k : Nat} (hn : n ≤ 5) (h : k < 2 ^ n) : y_cnt k ≤ n := by
  unfold y_cnt
  rcases (show n = 0 ∨ n = 1 ∨ n = 2 ∨ n = 3 ∨ n = 4 ∨ n = 5 by omega) with rfl | rfl | rfl | rfl | rfl | rfl
  all_goals
    simp only [Nat.reducePow] at h
    omega
theorem y_cnt_or : ∀ a, a < 32 → ∀ b, b < 32 → a ||| b ≠ a → y_cnt a < y_cnt (a ||| b) := by decide +kernel
def y_pr : Option Nat → Int32
  | none => -1
  | some k => Int32.ofNat k
def y_net (n : Nat) (g : Nat → Option Nat) (W E : Nat → Int32) (P : Int32) (σ : xS) : Prop := x_G σ ∧ x_I σ 1 1 = Int32.ofNat n ∧ x_I σ 1 5 = P ∧ x_I σ 78 0 = Int32.ofNat n ∧ x_I σ 78 7 = P ∧ ∀ l, l < n → x_I σ (3 + l) 6 = y_pr (g l) ∧ x_I σ 81 (6 * l + 4) = y_pr (g l) ∧ x_I σ (3 + l) 2 = W l ∧ x_I σ 81 (6 * l) = W l ∧ x_I σ (3 + l) 3 = E l ∧ x_I σ 81 (6 * l + 1) = E l
theorem y_net.to (n : Nat) (g : Nat → Option Nat) (W E : Nat → Int32) (P : Int32) {σ τ : xS} (hn : n ≤ 5) (f : x_eqv σ τ) (h : y_net n g W E P σ) : y_net n g W E P τ := by
  obtain ⟨hG, a1, a2, a3, a4, a5⟩ := h
  have e := f.2.2
  refine ⟨hG.to f, (e 1 1 rfl).trans a1, (e 1 5 rfl).trans a2, (e 78 0 rfl).trans a3, (e 78 7 rfl).trans a4, fun l hl => ?_⟩
  obtain ⟨b1, b2, b3, b4, b5, b6⟩ := a5 l hl
  have p3 := fun u => (x_per_l (show l < 5 by omega) u).1
  exact ⟨(e _ _ (p3 _)).trans b1, (e 81 _ rfl).trans b2, (e _ _ (p3 _)).trans b3, (e 81 _ rfl).trans b4, (e _ _ (p3 _)).trans b5, (e 81 _ rfl).trans b6⟩
def y_gn (n : Nat) (g : Nat → Option Nat) : Prop := ∀ l, l < n → ∀ k, g l = some k → k < n
def y_cut (n : Nat) (g : Nat → Option Nat) (W E : Nat → Int32) (P : Int32) (S : Int32) (l : Nat) : Int32 := match g l with
  | none => 0
  | some k => if ((S >>> (Int32.ofNat k &&& 31)) &&& 1) = 1 then E k else 0
def y_pb (n : Nat) (g : Nat → Option Nat) (W E : Nat → Int32) (P : Int32) (S : Int32) (l : Nat) (a : Int32) : Int32 := if P ≤ W l - y_cut n g W E P S l then a else a ||| (1 <<< (Int32.ofNat l &&& 31))
def y_R (n : Nat) (g : Nat → Option Nat) (W E : Nat → Int32) (P : Int32) (S : Int32) : Int32 := x_it (y_pb n g W E P S) 0 n 0
theorem y_pb_or (n : Nat) (g : Nat → Option Nat) (W E : Nat → Int32) (P : Int32) (S a : Int32) : ∀ q l b, x_it (y_pb n g W E P S) l q (a ||| b) = a ||| x_it (y_pb n g W E P S) l q b
  | 0, l, b => rfl
  | q + 1, l, b => by
    show x_it (y_pb n g W E P S) (l + 1) q (y_pb n g W E P S l (a ||| b)) = a ||| x_it (y_pb n g W E P S) (l + 1) q (y_pb n g W E P S l b)
    rw [← y_pb_or n g W E P S a q (l + 1)]
    congr 1
    unfold y_pb
    split
    · rfl
    · rw [Int32.or_assoc]
theorem y_R_nat (n : Nat) (g : Nat → Option Nat) (W E : Nat → Int32) (P : Int32) (S : Int32) (hn : n ≤ 5) : ∀ q l k, l + q = n → k < 2 ^ n → ∃ r, r < 2 ^ n ∧ x_it (y_pb n g W E P S) l q (Int32.ofNat k) = Int32.ofNat r
  | 0, l, k, h, hk => ⟨k, hk, rfl⟩
  | q + 1, l, k, h, hk => by
    show ∃ r, r < 2 ^ n ∧ x_it (y_pb n g W E P S) (l + 1) q (y_pb n g W E P S l (Int32.ofNat k)) = Int32.ofNat r
    unfold y_pb
    split
    · exact y_R_nat n g W E P S hn q (l + 1) k (by omega) hk
    · rw [y_sh1 (by omega), y_por]
      exact y_R_nat n g W E P S hn q (l + 1) (k ||| 2 ^ l) (by omega) (Nat.or_lt_two_pow hk (Nat.pow_lt_pow_right (by omega) (by omega)))
theorem l73 (d : Nat) (n : Nat) (g : Nat → Option Nat) (W E : Nat → Int32) (P : Int32) (hn : n ≤ 5) (hg : y_gn n g) {σ : xS} (h : y_net n g W E P σ) (S : Int32) : ∀ q l a, l + q = n → x_f (d + 1) 73 4 [some (.inr (.inr (some 1))), some (.inl S), some (.inl a), some (.inl (Int32.ofNat l)), none, none, none] [] σ = some (some (.inl (x_it (y_pb n g W E P S) l q a)), σ)
  | 0, l, a, hi => by
    obtain ⟨hG, a1, a2, -, -, a5⟩ := h
    rw [x_feq, e73_4, x_k1 hG, a1, if_pos ((x_le (by omega) (by omega)).mpr (by omega))]
    rfl
  | q + 1, l, a, hi => by
    obtain ⟨hG, a1, a2, a3, a4, a5⟩ := id h
    have hl : l < n := by omega
    have hl5 : l < 5 := by omega
    obtain ⟨b1, -, b3, -, b5, -⟩ := a5 l hl
    have nxt := l73 d n g W E P hn hg h S q (l + 1)
    have one : ¬ (1 : Int32) = 0 := by decide
    have fin : ∀ c, x_f (d + 1) 73 88 [some (.inr (.inr (some 1))), some (.inl S), some (.inl a), some (.inl (Int32.ofNat l)), none, none, none] [.inl c, .inl (W l)] σ = some (some (.inl (x_it (y_pb n g W E P S) (l + 1) q (if P ≤ W l - c then a else a ||| (1 <<< (Int32.ofNat l &&& 31))))), σ) := by
      intro c
      rw [x_feq, e73_88, x_k1 hG, a2, x_s1]
      split
      · exact nxt _ (by omega)
      · exact nxt _ (by omega)
    have us : x_it (y_pb n g W E P S) l (q + 1) a = x_it (y_pb n g W E P S) (l + 1) q (y_pb n g W E P S l a) := rfl
    rw [us]
    unfold y_pb y_cut
    rw [x_feq, e73_4, x_k1 hG, a1, if_neg (fun h => absurd ((x_le (by omega) (by omega)).mp h) (by omega)), x_k1 hG, m65_in _ hG hn hl a1, x_cr_s, x_nul_s, x_der_s, x_kl3 hG hl5, x_k1 hG, b1]
    cases hgl : g l with
    | none =>
      show x_cr (x_run (d + 1) 65 [.inr (.inr (some 1)), .inl (-1)] σ) _ = _
      rw [m65_out _ hG (n := n) (Or.inl (by decide)) a1, x_cr_s, x_feq, e73_37, x_nul_n, x_feq, e73_62, x_nul_s, x_der_s, x_kl3 hG hl5, if_pos rfl, b3]
      exact fin 0
    | some k =>
      have hk := hg l hl k hgl
      have hk5 : k < 5 := by omega
      obtain ⟨-, -, -, -, d5, -⟩ := a5 k hk
      show x_cr (x_run (d + 1) 65 [.inr (.inr (some 1)), .inl (Int32.ofNat k)] σ) _ = _
      rw [m65_in _ hG hn hk a1, x_cr_s, x_feq, e73_37, x_nul_s, x_der_s, x_kl3 hG hl5, b1, hgl]
      show (if ((S >>> (Int32.ofNat k &&& 31)) &&& 1) = 1 then _ else _) = _
      by_cases c : ((S >>> (Int32.ofNat k &&& 31)) &&& 1) = 1
      · simp only [if_pos c]
        rw [x_feq, e73_62, x_nul_s, x_der_s, x_kl3 hG hl5, if_neg one, x_der_s, x_kl3 hG hk5, d5, b3]
        exact fin _
      · simp only [if_neg c]
        rw [x_feq, e73_62, x_nul_s, x_der_s, x_kl3 hG hl5, if_pos rfl, b3]
        exact fin 0
theorem l188 (d : Nat) (n : Nat) (g : Nat → Option Nat) (W E : Nat → Int32) (P : Int32) (hn : n ≤ 5) (hg : y_gn n g) {σ : xS} (h : y_net n g W E P σ) (S : Int32) : ∀ q l a, l + q = n → x_f (d + 1) 188 4 [some (.inr (.inr (some 78))), some (.inl S), some (.inl a), some (.inl (Int32.ofNat l)), none, none, none] [] σ = some (some (.inl (x_it (y_pb n g W E P S) l q a)), σ)
  | 0, l, a, hi => by
    obtain ⟨hG, a1, a2, a3, a4, a5⟩ := h
    rw [x_feq, e188_4, x_k78 hG, a3, if_pos ((x_le (by omega) (by omega)).mpr (by omega))]
    rfl
  | q + 1, l, a, hi => by
    obtain ⟨hG, a1, a2, a3, a4, a5⟩ := id h
    have hl : l < n := by omega
    have hl5 : l < 5 := by omega
    obtain ⟨-, b2, -, b4, -, b6⟩ := a5 l hl
    have nxt := l188 d n g W E P hn hg h S q (l + 1)
    have one : ¬ (1 : Int32) = 0 := by decide
    have fin : ∀ c, x_f (d + 1) 188 88 [some (.inr (.inr (some 78))), some (.inl S), some (.inl a), some (.inl (Int32.ofNat l)), none, none, none] [.inl c, .inl (W l)] σ = some (some (.inl (x_it (y_pb n g W E P S) (l + 1) q (if P ≤ W l - c then a else a ||| (1 <<< (Int32.ofNat l &&& 31))))), σ) := by
      intro c
      rw [x_feq, e188_88, x_k78 hG, a4, x_s1]
      split
      · rw [Int32.or_zero]; exact nxt _ (by omega)
      · exact nxt _ (by omega)
    have us : x_it (y_pb n g W E P S) l (q + 1) a = x_it (y_pb n g W E P S) (l + 1) q (y_pb n g W E P S l a) := rfl
    rw [us]
    unfold y_pb y_cut
    rw [x_feq, e188_4, x_k78 hG, a3, if_neg (fun h => absurd ((x_le (by omega) (by omega)).mp h) (by omega)), x_k78 hG, x_q78_3 hG, x_der_s, x_k81 hG, x_6i4 hl5, x_6n4 hl5, b2]
    cases hgl : g l with
    | none =>
      show (if (-1 : Int32) = -1 then _ else _) = _
      rw [if_pos rfl, x_feq, e188_51, x_k78 hG, x_q78_3 hG, x_der_s, x_k81 hG, x_6i0 hl5, x_6n0 hl5, if_pos rfl, show x_I σ 81 (6 * l + 0) = W l from b4]
      exact fin 0
    | some k =>
      have hk := hg l hl k hgl
      have hk5 : k < 5 := by omega
      obtain ⟨-, -, -, -, -, d6⟩ := a5 k hk
      have bk : x_bnd (Int32.ofNat k) 4 = Int32.ofNat k := by
        rw [show (4 : Int32) = Int32.ofNat 4 from rfl, y_bmin k 4 (by omega) (by omega), Nat.min_eq_right (by omega)]
      show (if Int32.ofNat k = -1 then _ else _) = _
      rw [if_neg (fun e => absurd (x_nn0 (l := k) (by omega)) (fun h => h (by rw [e]; decide)))]
      show x_ci (x_run (d + 1) 134 [.inl (Int32.ofNat k), .inl 0, .inl 4] σ) _ = _
      rw [m134, x_ci_s, bk]
      by_cases c : ((S >>> (Int32.ofNat k &&& 31)) &&& 1) = 1
      · simp only [if_pos c]
        show x_f (d + 1) 188 51 [some (.inr (.inr (some 78))), some (.inl S), some (.inl a), some (.inl (Int32.ofNat l)), some (.inl (Int32.ofNat k)), none, none] [.inl 1] σ = _
        rw [x_feq, e188_51, x_k78 hG, x_q78_3 hG, x_der_s, x_k81 hG, x_6i0 hl5, x_6n0 hl5, if_neg one, x_k78 hG, m134, x_ci_s, bk, x_der_s, x_k81 hG, x_6i1 hk5, x_6n1 hk5, show x_I σ 81 (6 * l + 0) = W l from b4, d6]
        exact fin _
      · simp only [if_neg c]
        show x_f (d + 1) 188 51 [some (.inr (.inr (some 78))), some (.inl S), some (.inl a), some (.inl (Int32.ofNat l)), some (.inl (Int32.ofNat k)), none, none] [.inl 0] σ = _
        rw [x_feq, e188_51, x_k78 hG, x_q78_3 hG, x_der_s, x_k81 hG, x_6i0 hl5, x_6n0 hl5, if_pos rfl, show x_I σ 81 (6 * l + 0) = W l from b4]
        exact fin 0
theorem m73 (d : Nat) (n : Nat) (g : Nat → Option Nat) (W E : Nat → Int32) (P : Int32) (hn : n ≤ 5) (hg : y_gn n g) {σ : xS} (h : y_net n g W E P σ) (S : Int32) : x_run (d + 2) 73 [.inr (.inr (some 1)), .inl S] σ = some (some (.inl (y_R n g W E P S)), σ) := by
  rw [r73, e73_0]
  exact l73 d n g W E P hn hg h S n 0 0 (by omega)
theorem m188 (d : Nat) (n : Nat) (g : Nat → Option Nat) (W E : Nat → Int32) (P : Int32) (hn : n ≤ 5) (hg : y_gn n g) {σ : xS} (h : y_net n g W E P σ) (S : Int32) : x_run (d + 2) 188 [.inr (.inr (some 78)), .inl S] σ = some (some (.inl (S ||| y_R n g W E P S)), σ) := by
  rw [r188, e188_0]
  refine (l188 d n g W E P hn hg h S n 0 S (by omega)).trans ?_
  rw [show y_R n g W E P S = x_it (y_pb n g W E P S) 0 n 0 from rfl, ← y_pb_or, Int32.or_zero]
/-- the spread, in so many rounds -/
def y_ru (n : Nat) (g : Nat → Option Nat) (W E : Nat → Int32) (P : Int32) : Nat → Int32 → Int32 → Int32 × Int32
  | 0, S, c => (S, c)
  | q + 1, S, c => if S ||| y_R n g W E P S = S then (S, c) else y_ru n g W E P q (S ||| y_R n g W E P S) (c + 1)
def y_wn (b u : Nat) : Prop := (b = 1 ∧ u = 10) ∨ (b = 78 ∧ (u = 44 ∨ u = 45))
theorem y_wn_per (a u : Nat) (h : x_per a u = true) : ¬ y_wn a u := by
  rintro (⟨rfl, rfl⟩ | ⟨rfl, rfl | rfl⟩) <;> cases h
theorem l72 (d : Nat) (n : Nat) (g : Nat → Option Nat) (W E : Nat → Int32) (P : Int32) (hn : n ≤ 5) (hg : y_gn n g) : ∀ q i S c σ, i + q = n + 1 → y_net n g W E P σ → x_I σ 1 10 = c → ∃ τ, x_f (d + 2) 72 9 [some (.inr (.inr (some 1))), none, some (.inl S), some (.inl (Int32.ofNat i)), none] [] σ = some (some (.inl (y_ru n g W E P q S c).1), τ) ∧ x_fr y_wn x_w0 σ τ ∧ x_I τ 1 10 = (y_ru n g W E P q S c).2
  | 0, i, S, c, σ, hi, h, hc => by
    obtain ⟨hG, a1, -⟩ := id h
    refine ⟨σ, ?_, x_fr.refl _ _ _, hc⟩
    rw [x_feq, e72_9, x_k1 hG, a1, if_pos (Int32.not_le.mp (fun k => absurd ((x_le (by omega) (by omega)).mp k) (by omega)))]
    rfl
  | q + 1, i, S, c, σ, hi, h, hc => by
    obtain ⟨hG, a1, -⟩ := id h
    have hm := m73 d n g W E P hn hg h S
    by_cases e : S ||| y_R n g W E P S = S
    · have er : y_ru n g W E P (q + 1) S c = (S, c) := if_pos e
      refine ⟨σ, ?_, x_fr.refl _ _ _, by rw [er]; exact hc⟩
      rw [er, x_feq, e72_9, x_k1 hG, a1, if_neg (fun g => absurd (Int32.not_le.mpr g) (fun k => k ((x_le (by omega) (by omega)).mpr (by omega)))), x_k1 hG, hm, x_ci_s, if_pos e]
    · have er : y_ru n g W E P (q + 1) S c = y_ru n g W E P q (S ||| y_R n g W E P S) (c + 1) := if_neg e
      have f1 : x_fr y_wn x_w0 σ (x_si σ 1 10 (x_I σ 1 10 + 1)) := (x_fr.refl y_wn x_w0 σ).si _ (Or.inl ⟨rfl, rfl⟩)
      obtain ⟨τ, a, f, k⟩ := l72 d n g W E P hn hg q (i + 1) (S ||| y_R n g W E P S) (c + 1) (x_si σ 1 10 (x_I σ 1 10 + 1)) (by omega) (h.to n g W E P hn (f1.e y_wn_per)) (by rw [x_Isi, if_pos ⟨rfl, rfl⟩, hc])
      refine ⟨τ, ?_, f1.trans f, by rw [er]; exact k⟩
      rw [er, x_feq, e72_9, x_k1 hG, a1, if_neg (fun g => absurd (Int32.not_le.mpr g) (fun k => k ((x_le (by omega) (by omega)).mpr (by omega)))), x_k1 hG, hm, x_ci_s, if_neg e, x_k1 hG, x_k1 hG, x_s1]
      exact a
theorem l189 (d : Nat) (n : Nat) (g : Nat → Option Nat) (W E : Nat → Int32) (P : Int32) (hn : n ≤ 5) (hg : y_gn n g) : ∀ q k c σ, k < 2 ^ n → n < y_cnt k + q → y_net n g W E P σ → x_I σ 78 44 = c → ∃ τ, x_f (d + 2) 189 13 [some (.inr (.inr (some 78))), none, some (.inl (Int32.ofNat k)), some (.inl (Int32.ofNat k ||| y_R n g W E P (Int32.ofNat k)))] [] σ = some (some (.inl (y_ru n g W E P q (Int32.ofNat k) c).1), τ) ∧ x_fr y_wn x_w0 σ τ ∧ x_I τ 78 44 = (y_ru n g W E P q (Int32.ofNat k) c).2
  | 0, k, c, σ, hk, hq, h, hc => absurd (y_cnt_le hn hk) (by omega)
  | q + 1, k, c, σ, hk, hq, h, hc => by
    obtain ⟨hG, -⟩ := id h
    by_cases e : Int32.ofNat k ||| y_R n g W E P (Int32.ofNat k) = Int32.ofNat k
    · have er : y_ru n g W E P (q + 1) (Int32.ofNat k) c = (Int32.ofNat k, c) := if_pos e
      refine ⟨σ, ?_, x_fr.refl _ _ _, by rw [er]; exact hc⟩
      rw [er, x_feq, e189_13, if_pos e]
    · have er : y_ru n g W E P (q + 1) (Int32.ofNat k) c = y_ru n g W E P q (Int32.ofNat k ||| y_R n g W E P (Int32.ofNat k)) (c + 1) := if_neg e
      have p5 := y_pw5 hn
      obtain ⟨r, hr, eR⟩ := y_R_nat n g W E P (Int32.ofNat k) hn n 0 0 (by omega) (Nat.pow_pos (by omega))
      have eR' : y_R n g W E P (Int32.ofNat k) = Int32.ofNat r := eR
      have hkr : k ||| r < 2 ^ n := Nat.or_lt_two_pow hk hr
      have ne : k ||| r ≠ k := fun g => e (by rw [eR', y_por, g])
      have lt := y_cnt_or k (by omega) r (by omega) ne
      have f1 : x_fr y_wn x_w0 σ (x_si σ 78 44 (x_I σ 78 44 + 1)) := (x_fr.refl y_wn x_w0 σ).si _ (Or.inr ⟨rfl, Or.inl rfl⟩)
      have h1 := h.to n g W E P hn (f1.e y_wn_per)
      obtain ⟨τ, a, f, k2⟩ := l189 d n g W E P hn hg q (k ||| r) (c + 1) (x_si σ 78 44 (x_I σ 78 44 + 1)) hkr (by omega) h1 (by rw [x_Isi, if_pos ⟨rfl, rfl⟩, hc])
      refine ⟨τ, ?_, f1.trans f, by rw [er, eR', y_por]; exact k2⟩
      rw [er, x_feq, e189_13, if_neg e, x_k78 hG, x_k78 hG, x_k78 (σ := x_si σ 78 44 (x_I σ 78 44 + 1)) h1.1, m188 d n g W E P hn hg h1, x_ci_s, eR', y_por]
      exact a
theorem m72 (d : Nat) (n : Nat) (g : Nat → Option Nat) (W E : Nat → Int32) (P : Int32) (hn : n ≤ 5) (hg : y_gn n g) {σ : xS} (h : y_net n g W E P σ) (S : Int32) : ∃ τ, x_run (d + 3) 72 [.inr (.inr (some 1)), .inl S] σ = some (some (.inl (y_ru n g W E P (n + 1) S 0).1), τ) ∧ x_fr y_wn x_w0 σ τ ∧ x_I τ 1 10 = (y_ru n g W E P (n + 1) S 0).2 := by
  have f1 : x_fr y_wn x_w0 σ (x_si σ 1 10 0) := (x_fr.refl y_wn x_w0 σ).si _ (Or.inl ⟨rfl, rfl⟩)
  obtain ⟨τ, a, f, k⟩ := l72 d n g W E P hn hg (n + 1) 0 S 0 (x_si σ 1 10 0) (by omega) (h.to n g W E P hn (f1.e y_wn_per)) (by rw [x_Isi, if_pos ⟨rfl, rfl⟩])
  refine ⟨τ, ?_, f1.trans f, k⟩
  rw [r72, e72_0, x_k1 h.1]
  exact a
theorem m189 (d : Nat) (n : Nat) (g : Nat → Option Nat) (W E : Nat → Int32) (P : Int32) (hn : n ≤ 5) (hg : y_gn n g) {σ : xS} (h : y_net n g W E P σ) {k : Nat} (hk : k < 2 ^ n) : ∃ τ, x_run (d + 3) 189 [.inr (.inr (some 78)), .inl (Int32.ofNat k)] σ = some (some (.inl (y_ru n g W E P (n + 1) (Int32.ofNat k) 0).1), τ) ∧ x_fr y_wn x_w0 σ τ ∧ x_I τ 78 44 = (y_ru n g W E P (n + 1) (Int32.ofNat k) 0).2 := by
  have f1 : x_fr y_wn x_w0 σ (x_si σ 78 44 0) := (x_fr.refl y_wn x_w0 σ).si _ (Or.inr ⟨rfl, Or.inl rfl⟩)
  obtain ⟨τ, a, f, k2⟩ := l189 d n g W E P hn hg (n + 1) k 0 (x_si σ 78 44 0) hk (by omega) (h.to n g W E P hn (f1.e y_wn_per)) (by rw [x_Isi, if_pos ⟨rfl, rfl⟩])
  refine ⟨τ, ?_, f1.trans f, k2⟩
  rw [r189, e189_0, x_k78 h.1, m188 d n g W E P hn hg h, x_ci_s, x_k78 h.1]
  exact a
