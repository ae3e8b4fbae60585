/-! numbers: small ones as naturals; the lowest terms of a fraction -/
theorem x_dv {a b : Nat} (ha : a < 2 ^ 31) (hb : b < 2 ^ 31) : Int32.ofNat a / Int32.ofNat b = Int32.ofNat (a / b) := by
  have h : a / b ≤ a := Nat.div_le_self a b
  apply Int32.toInt_inj.mp
  rw [Int32.toInt_div, Int32.toInt_ofNat_of_lt ha, Int32.toInt_ofNat_of_lt hb, Int32.toInt_ofNat_of_lt (by omega), ← Int.ofNat_tdiv]
  generalize a / b = q at h
  rw [Int.bmod_def]
  split <;> omega
theorem x_sb {a b : Nat} (h : b ≤ a) (ha : a < 2 ^ 31) : Int32.ofNat a - Int32.ofNat b = Int32.ofNat (a - b) := by
  apply Int32.toInt_inj.mp
  rw [Int32.toInt_sub, Int32.toInt_ofNat_of_lt ha, Int32.toInt_ofNat_of_lt (by omega), Int32.toInt_ofNat_of_lt (by omega), Int.bmod_def]
  split <;> omega
theorem x_md {a b : Nat} (ha : a < 2 ^ 31) (hb : b < 2 ^ 31) : Int32.ofNat a - Int32.ofNat a / Int32.ofNat b * Int32.ofNat b = Int32.ofNat (a % b) := by
  have h := Nat.div_add_mod a b
  have h2 : b * (a / b) = a / b * b := Nat.mul_comm _ _
  rw [x_dv ha hb, ← Int32.ofNat_mul, x_sb (by omega) ha]
  congr 1
  omega
theorem x_dv64 {a b : Nat} (ha : a < 2 ^ 63) (hb : b < 2 ^ 63) : Int64.ofNat a / Int64.ofNat b = Int64.ofNat (a / b) := by
  have h : a / b ≤ a := Nat.div_le_self a b
  apply Int64.toInt_inj.mp
  rw [Int64.toInt_div, Int64.toInt_ofNat_of_lt ha, Int64.toInt_ofNat_of_lt hb, Int64.toInt_ofNat_of_lt (by omega), ← Int.ofNat_tdiv]
  generalize a / b = q at h
  rw [Int.bmod_def]
  split <;> omega
theorem x_sb64 {a b : Nat} (h : b ≤ a) (ha : a < 2 ^ 63) : Int64.ofNat a - Int64.ofNat b = Int64.ofNat (a - b) := by
  apply Int64.toInt_inj.mp
  rw [Int64.toInt_sub, Int64.toInt_ofNat_of_lt ha, Int64.toInt_ofNat_of_lt (by omega), Int64.toInt_ofNat_of_lt (by omega), Int.bmod_def]
  split <;> omega
theorem x_md64 {a b : Nat} (ha : a < 2 ^ 63) (hb : b < 2 ^ 63) : Int64.ofNat a - Int64.ofNat a / Int64.ofNat b * Int64.ofNat b = Int64.ofNat (a % b) := by
  have h := Nat.div_add_mod a b
  have h2 : b * (a / b) = a / b * b := Nat.mul_comm _ _
  rw [x_dv64 ha hb, ← Int64.ofNat_mul, x_sb64 (by omega) ha]
  congr 1
  omega
theorem x_inj64 {a b : Nat} (ha : a < 2 ^ 63) (hb : b < 2 ^ 63) (h : Int64.ofNat a = Int64.ofNat b) : a = b := by
  have h := congrArg Int64.toInt h
  rw [Int64.toInt_ofNat_of_lt ha, Int64.toInt_ofNat_of_lt hb] at h
  omega
theorem x_inj32 {a b : Nat} (ha : a < 2 ^ 31) (hb : b < 2 ^ 31) (h : Int32.ofNat a = Int32.ofNat b) : a = b := by
  have h := congrArg Int32.toInt h
  rw [Int32.toInt_ofNat_of_lt ha, Int32.toInt_ofNat_of_lt hb] at h
  omega
theorem x_le64 {a b : Nat} (ha : a < 2 ^ 63) (hb : b < 2 ^ 63) : Int64.ofNat a < Int64.ofNat b ↔ a < b := by
  rw [Int64.lt_iff_toInt_lt, Int64.toInt_ofNat_of_lt ha, Int64.toInt_ofNat_of_lt hb]
  omega
theorem x_to64 {a : Nat} (ha : a < 2 ^ 31) : (Int32.ofNat a).toInt64 = Int64.ofNat a := by
  apply Int64.toInt_inj.mp
  rw [Int32.toInt_toInt64, Int32.toInt_ofNat_of_lt ha, Int64.toInt_ofNat_of_lt (by omega)]
theorem x_lg0 (x : Int64) : lg_cmp x 0 = 0 ↔ x = 0 := by
  unfold lg_cmp
  by_cases h : x > 0
  · rw [if_pos h]
    exact ⟨fun g => absurd g (by decide), fun g => by subst g; exact absurd h (by decide)⟩
  · rw [if_neg h]
    by_cases g : x = 0
    · rw [if_pos g]; exact ⟨fun _ => g, fun _ => rfl⟩
    · rw [if_neg g]; exact ⟨fun k => absurd k (by decide), fun k => absurd k g⟩
theorem x_lgp {x : Int64} (h : 0 < x) : ¬ lg_cmp x 0 ≤ 0 := by
  unfold lg_cmp
  rw [if_pos h]
  decide
theorem x_z64 {b : Nat} (hb : b < 2 ^ 63) : Int64.ofNat b = 0 ↔ b = 0 := ⟨fun h => x_inj64 hb (by omega) h, fun h => by subst h; rfl⟩
theorem l131 (d : Nat) (j0 j2 : Int64) (i4 : Int32) (σ : xS) : ∀ (m a b i : Nat), a < 2 ^ 63 → b < 2 ^ m → m ≤ 63 → i + 2 * m + 2 ≤ 1000 → x_f d 131 9 [some (.inr (.inl j0)), none, some (.inr (.inl j2)), none, some (.inl i4), some (.inr (.inl (Int64.ofNat a))), none, some (.inr (.inl (Int64.ofNat b))), none, some (.inl (Int32.ofNat i)), none, none] [] σ = x_f d 131 45 [some (.inr (.inl j0)), none, some (.inr (.inl j2)), none, some (.inl i4), some (.inr (.inl (Int64.ofNat (Nat.gcd a b)))), none, none, none, none, none, none] [] σ := by
  have stop : ∀ (a i : Nat), i < 1000 → x_f d 131 9 [some (.inr (.inl j0)), none, some (.inr (.inl j2)), none, some (.inl i4), some (.inr (.inl (Int64.ofNat a))), none, some (.inr (.inl (Int64.ofNat 0))), none, some (.inl (Int32.ofNat i)), none, none] [] σ = x_f d 131 45 [some (.inr (.inl j0)), none, some (.inr (.inl j2)), none, some (.inl i4), some (.inr (.inl (Int64.ofNat (Nat.gcd a 0)))), none, none, none, none, none, none] [] σ := by
    intro a i hi
    rw [x_feq d 131 9, e131_9, if_neg (show ¬ (1000 : Int32) ≤ Int32.ofNat (i) from fun h => absurd ((x_le (a := 1000) (by omega) (by omega)).mp h) (by omega)), if_pos (show lg_cmp (Int64.ofNat 0) 0 = 0 from (x_lg0 _).mpr rfl), Nat.gcd_zero_right]
  have go : ∀ (a b i : Nat), i < 1000 → a < 2 ^ 63 → b < 2 ^ 63 → 0 < b → x_f d 131 9 [some (.inr (.inl j0)), none, some (.inr (.inl j2)), none, some (.inl i4), some (.inr (.inl (Int64.ofNat a))), none, some (.inr (.inl (Int64.ofNat b))), none, some (.inl (Int32.ofNat i)), none, none] [] σ = x_f d 131 9 [some (.inr (.inl j0)), none, some (.inr (.inl j2)), none, some (.inl i4), some (.inr (.inl (Int64.ofNat b))), none, some (.inr (.inl (Int64.ofNat (a % b)))), none, some (.inl (Int32.ofNat (i + 1))), none, none] [] σ := by
    intro a b i hi ha hb h0
    have z : ¬ Int64.ofNat b = 0 := fun h => absurd ((x_z64 hb).mp h) (by omega)
    rw [x_feq d 131 9, e131_9, if_neg (show ¬ (1000 : Int32) ≤ Int32.ofNat (i) from fun h => absurd ((x_le (a := 1000) (by omega) (by omega)).mp h) (by omega)), if_neg (fun h => z ((x_lg0 _).mp h)), if_neg z, x_md64 ha hb, x_s1]
  have gc : ∀ a b : Nat, Nat.gcd a b = Nat.gcd b (a % b) := fun a b => by
    rw [Nat.gcd_comm a b, Nat.gcd_rec b a, Nat.gcd_comm]
  intro m
  induction m with
  | zero =>
    intro a b i ha hb hm hi
    obtain rfl : b = 0 := by omega
    exact stop a i (by omega)
  | succ m ih =>
    intro a b i ha hb hm hi
    have hb' : b < 2 ^ 63 := Nat.lt_of_lt_of_le hb (Nat.pow_le_pow_right (by omega) hm)
    by_cases h0 : b = 0
    · subst h0; exact stop a i (by omega)
    · rw [go a b i (by omega) ha hb' (by omega), gc a b]
      have r1 : a % b < b := Nat.mod_lt _ (by omega)
      by_cases h1 : a % b = 0
      · rw [h1]; exact stop b (i + 1) (by omega)
      · rw [go b (a % b) (i + 1) (by omega) hb' (by omega) (by omega), gc b (a % b)]
        have r2 : b % (a % b) < a % b := Nat.mod_lt _ (by omega)
        have r3 : 2 * (b % (a % b)) < b := by
          have e := Nat.div_add_mod b (a % b)
          have q : 1 ≤ b / (a % b) := Nat.div_pos (by omega) (by omega)
          have q2 : a % b * 1 ≤ a % b * (b / (a % b)) := Nat.mul_le_mul_left _ q
          omega
        exact ih (a % b) (b % (a % b)) (i + 1 + 1) (by omega) (by rw [Nat.pow_succ] at hb; omega) (by omega) (by omega)
theorem l168 (d : Nat) (j0 j2 : Int64) (i4 : Int32) (σ : xS) : ∀ (m a b : Nat), b ≤ m → a < 2 ^ 63 → b < 2 ^ 63 → x_f d 168 16 [some (.inr (.inl j0)), none, some (.inr (.inl j2)), none, some (.inl i4), some (.inr (.inl (Int64.ofNat a))), none, some (.inr (.inl (Int64.ofNat b))), none, none, none] [] σ = x_f d 168 16 [some (.inr (.inl j0)), none, some (.inr (.inl j2)), none, some (.inl i4), some (.inr (.inl (Int64.ofNat (Nat.gcd a b)))), none, some (.inr (.inl 0)), none, none, none] [] σ := by
  intro m
  induction m with
  | zero =>
    intro a b hb ha hb2
    obtain rfl : b = 0 := by omega
    rw [Nat.gcd_zero_right]
    rfl
  | succ m ih =>
    intro a b hb ha hb2
    by_cases h0 : b = 0
    · subst h0
      rw [Nat.gcd_zero_right]
      rfl
    · have z : ¬ Int64.ofNat b = 0 := fun h => absurd ((x_z64 hb2).mp h) h0
      have r1 : a % b < b := Nat.mod_lt _ (by omega)
      rw [x_feq d 168 16 [_, _, _, _, _, some (.inr (.inl (Int64.ofNat a))), _, some (.inr (.inl (Int64.ofNat b))), _, _, _], e168_16, if_neg (fun h => z ((x_lg0 _).mp h)), if_neg z, x_md64 ha hb2, ih b (a % b) (by omega) hb2 (by omega), show Nat.gcd b (a % b) = Nat.gcd a b from by rw [Nat.gcd_comm a b, Nat.gcd_rec b a, Nat.gcd_comm]]
/-- a fraction in lowest terms: the same on both sides -/
theorem x_low (d d' : Nat) {a b q : Nat} (ha : a < 2 ^ 63) (hb : b < 2 ^ 63) (h0 : 0 < b) (hq : q < 2) : ∃ v : Int64, (∀ σ, x_run (d + 1) 131 [.inr (.inl (Int64.ofNat a)), .inr (.inl (Int64.ofNat b)), .inl (Int32.ofNat q)] σ = some (some (.inr (.inl v)), σ)) ∧ ∀ σ, x_run (d' + 1) 168 [.inr (.inl (Int64.ofNat a)), .inr (.inl (Int64.ofNat b)), .inl (Int32.ofNat q)] σ = some (some (.inr (.inl v)), σ) := by
  have g0 : 0 < Nat.gcd a b := Nat.gcd_pos_of_pos_right a h0
  have g1 : Nat.gcd a b ≤ b := Nat.le_of_dvd h0 (Nat.gcd_dvd_right a b)
  have z : ¬ Int64.ofNat (Nat.gcd a b) = 0 := fun h => absurd ((x_z64 (by omega)).mp h) (by omega)
  have zp : ¬ lg_cmp (Int64.ofNat (Nat.gcd a b)) 0 ≤ 0 := x_lgp ((x_le64 (a := 0) (by omega) (by omega)).mpr g0)
  have comp : ∀ σ, x_run (d + 1) 131 [.inr (.inl (Int64.ofNat a)), .inr (.inl (Int64.ofNat b)), .inl (Int32.ofNat q)] σ = x_f d 131 45 [some (.inr (.inl (Int64.ofNat a))), none, some (.inr (.inl (Int64.ofNat b))), none, some (.inl (Int32.ofNat q)), some (.inr (.inl (Int64.ofNat (Nat.gcd a b)))), none, none, none, none, none, none] [] σ := by
    intro σ
    rw [r131, e131_0]
    exact l131 d _ _ _ σ 63 a b 0 ha hb (by omega) (by omega)
  by_cases ha0 : a = 0
  · subst ha0
    rw [Nat.gcd_zero_left] at comp z zp
    rcases (show q = 0 ∨ q = 1 by omega) with rfl | rfl
    · refine ⟨0, fun σ => ?_, fun σ => ?_⟩
      · rw [comp, x_feq, e131_45, if_pos (show Int32.ofNat 0 = 0 from rfl), if_neg zp, if_neg z, x_dv64 (by omega) hb, Nat.zero_div]
        rfl
      · rw [r168, e168_0, if_pos (show lg_cmp (Int64.ofNat 0) 0 = 0 from (x_lg0 _).mpr rfl)]
        rfl
    · refine ⟨1, fun σ => ?_, fun σ => ?_⟩
      · rw [comp, x_feq, e131_45, if_neg (show ¬ Int32.ofNat 1 = 0 by decide), if_neg zp, if_neg z, x_dv64 hb hb, Nat.div_self h0]
        rfl
      · rw [r168, e168_0, if_pos (show lg_cmp (Int64.ofNat 0) 0 = 0 from (x_lg0 _).mpr rfl)]
        rfl
  · have az : ¬ lg_cmp (Int64.ofNat a) 0 = 0 := fun h => absurd ((x_z64 ha).mp ((x_lg0 _).mp h)) ha0
    rcases (show q = 0 ∨ q = 1 by omega) with rfl | rfl
    · refine ⟨Int64.ofNat a / Int64.ofNat (Nat.gcd a b), fun σ => ?_, fun σ => ?_⟩
      · rw [comp, x_feq, e131_45, if_pos (show Int32.ofNat 0 = 0 from rfl), if_neg zp, if_neg z]
      · rw [r168, e168_0, if_neg az, l168 _ _ _ _ _ b a b (by omega) ha hb, x_feq, e168_16, if_pos (show lg_cmp 0 0 = 0 from (x_lg0 _).mpr rfl), if_pos (show Int32.ofNat 0 = 0 from rfl), if_neg z]
    · refine ⟨Int64.ofNat b / Int64.ofNat (Nat.gcd a b), fun σ => ?_, fun σ => ?_⟩
      · rw [comp, x_feq, e131_45, if_neg (show ¬ Int32.ofNat 1 = 0 by decide), if_neg zp, if_neg z]
      · rw [r168, e168_0, if_neg az, l168 _ _ _ _ _ b a b (by omega) ha hb, x_feq, e168_16, if_pos (show lg_cmp 0 0 = 0 from (x_lg0 _).mpr rfl), if_neg (show ¬ Int32.ofNat 1 = 0 by decide), if_neg z]
