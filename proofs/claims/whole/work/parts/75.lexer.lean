/-! the lexers -/
def z_let (c : Int32) : Bool := decide (97 ≤ c) && decide (c ≤ 122)
def z_dig (c : Int32) : Bool := decide (48 ≤ c) && decide (c ≤ 57)
def z_spc (c : Int32) : Bool := decide (c = 32) || decide (c = 10)
def z_pun (c : Int32) : Bool := decide (c = 40) || (decide (c = 41) || (decide (c = 59) || (decide (c = 43) || (decide (c = 45) || (decide (c = 42) || (decide (c = 60) || decide (c = 61)))))))
def z_rn (f : Int32 → Bool) (C : Nat → Int32) : Nat → Nat → Nat
  | 0, p => p
  | q + 1, p => if f (C p) = true then z_rn f C q (p + 1) else p
theorem z_rn_b (f : Int32 → Bool) (C : Nat → Int32) : ∀ q p, p ≤ z_rn f C q p ∧ z_rn f C q p ≤ p + q
  | 0, p => ⟨Nat.le_refl _, Nat.le_refl _⟩
  | q + 1, p => by
    have h := z_rn_b f C q (p + 1)
    show p ≤ (if f (C p) = true then z_rn f C q (p + 1) else p) ∧ (if f (C p) = true then z_rn f C q (p + 1) else p) ≤ p + (q + 1)
    split <;> omega
def z_wl (C : Nat → Int32) (s n : Nat) : List Int32 := (List.range n).map (fun k => C (s + k))
def z_kw (L : List Int32) : Nat := if x_TX 1001 = L then 310 else if x_TX 1002 = L then 311 else if x_TX 1003 = L then 312 else if x_TX 1004 = L then 313 else if x_TX 1005 = L then 314 else if x_TX 1006 = L then 315 else if x_TX 1007 = L then 320 else if x_TX 1008 = L then 321 else if x_TX 1009 = L then 322 else if x_TX 1010 = L then 323 else if x_TX 1011 = L then 324 else if x_TX 1012 = L then 325 else 301
def z_nu (C : Nat → Int32) : Nat → Nat → Int32 → Int32
  | 0, _, v => v
  | q + 1, p, v => z_nu C q (p + 1) (v * 10 + C p - 48)
theorem z_nu_s (C : Nat → Int32) : ∀ q p v, z_nu C (q + 1) p v = z_nu C q p v * 10 + C (p + q) - 48
  | 0, p, v => rfl
  | q + 1, p, v => by
    show z_nu C (q + 1) (p + 1) (v * 10 + C p - 48) = z_nu C q (p + 1) (v * 10 + C p - 48) * 10 + C (p + (q + 1)) - 48
    rw [z_nu_s C q (p + 1), show p + 1 + q = p + (q + 1) by omega]
/-- a token: from, behind, kind, number -/
def z_tok (C : Nat → Int32) (z p : Nat) : Nat × (Nat × (Nat × Int32)) :=
  let s := z_rn z_spc C (z - p) p
  if s = z then (s, s, 300, 0) else if z_let (C s) = true then (s, z_rn z_let C (z - s) s, z_kw (z_wl C s (z_rn z_let C (z - s) s - s)), 0) else if z_dig (C s) = true then (s, z_rn z_dig C (z - s) s, (if z_rn z_dig C (z - s) s - s ≤ 4 then 302 else 301), z_nu C (z_rn z_dig C (z - s) s - s) s 0) else (s, s + 1, (if z_pun (C s) = true then (C s).toNatClampNeg else 301), 0)
theorem m53 (d : Nat) (c : Int32) (σ : xS) : x_run (d + 1) 53 [.inl c] σ = some (some (.inl (if z_let c = true then 1 else 0)), σ) := by
  rw [r53, e53_0]
  unfold z_let
  by_cases h1 : c < 97
  · rw [if_pos h1, decide_eq_false (Int32.not_le.mpr h1)]; rfl
  · rw [if_neg h1, decide_eq_true (Int32.not_lt.mp h1)]
    by_cases h2 : 122 < c
    · rw [if_pos h2, decide_eq_false (Int32.not_le.mpr h2)]; rfl
    · rw [if_neg h2, decide_eq_true (Int32.not_lt.mp h2)]; rfl
theorem m54 (d : Nat) (c : Int32) (σ : xS) : x_run (d + 1) 54 [.inl c] σ = some (some (.inl (if z_dig c = true then 1 else 0)), σ) := by
  rw [r54, e54_0]
  unfold z_dig
  by_cases h1 : c < 48
  · rw [if_pos h1, decide_eq_false (Int32.not_le.mpr h1)]; rfl
  · rw [if_neg h1, decide_eq_true (Int32.not_lt.mp h1)]
    by_cases h2 : 57 < c
    · rw [if_pos h2, decide_eq_false (Int32.not_le.mpr h2)]; rfl
    · rw [if_neg h2, decide_eq_true (Int32.not_lt.mp h2)]; rfl
theorem m55 (d : Nat) (c : Int32) (σ : xS) : x_run (d + 1) 55 [.inl c] σ = some (some (.inl (if z_pun c = true then 1 else 0)), σ) := by
  rw [r55, e55_0]
  unfold z_pun
  by_cases h1 : c = 40
  · rw [if_pos h1, decide_eq_true h1]; rfl
  rw [if_neg h1, decide_eq_false h1]
  by_cases h1 : c = 41
  · rw [if_pos h1, decide_eq_true h1]; rfl
  rw [if_neg h1, decide_eq_false h1]
  by_cases h1 : c = 59
  · rw [if_pos h1, decide_eq_true h1]; rfl
  rw [if_neg h1, decide_eq_false h1]
  by_cases h1 : c = 43
  · rw [if_pos h1, decide_eq_true h1]; rfl
  rw [if_neg h1, decide_eq_false h1]
  by_cases h1 : c = 45
  · rw [if_pos h1, decide_eq_true h1]; rfl
  rw [if_neg h1, decide_eq_false h1]
  by_cases h1 : c = 42
  · rw [if_pos h1, decide_eq_true h1]; rfl
  rw [if_neg h1, decide_eq_false h1]
  by_cases h1 : c = 60
  · rw [if_pos h1, decide_eq_true h1]; rfl
  rw [if_neg h1, decide_eq_false h1]
  by_cases h1 : c = 61
  · rw [if_pos h1, decide_eq_true h1]; rfl
  rw [if_neg h1, decide_eq_false h1]
  rfl
def z_tpe (z : Nat) (C : Nat → Int32) (σ : xS) : Prop := x_G σ ∧ x_I σ 22 2 = Int32.ofNat z ∧ x_I σ 78 9 = Int32.ofNat z ∧ (∀ k, k < z → x_I σ 23 k = C k ∧ x_I σ 82 k = C k) ∧ ∀ q ∈ x_Il, q.1 = 90 → x_I σ 90 q.2.1 = q.2.2
def z_lx (b u : Nat) : Prop := b = 22 ∧ (3 ≤ u ∧ u ≤ 6)
def z_lr (b u : Nat) : Prop := b = 78 ∧ (26 ≤ u ∧ u ≤ 29)
theorem z_tpe.fr {W V : Nat → Nat → Prop} {z : Nat} {C : Nat → Int32} {σ τ : xS} (f : x_fr W V σ τ) (h1 : ¬ W 22 2) (h2 : ¬ W 78 9) (h3 : ∀ u, ¬ W 23 u ∧ ¬ W 82 u ∧ ¬ W 90 u) (h : z_tpe z C σ) : z_tpe z C τ := by
  obtain ⟨hG, a1, a2, a3, a4⟩ := h
  exact ⟨f.G hG, (f.I h1).trans a1, (f.I h2).trans a2, fun k hk => ⟨(f.I (h3 k).1).trans (a3 k hk).1, (f.I (h3 k).2.1).trans (a3 k hk).2⟩, fun q hq e => (f.I (h3 _).2.2).trans (a4 q hq e)⟩
/-- what the reference reads of it -/
def z_tpr (z : Nat) (C : Nat → Int32) (σ : xS) : Prop := x_G σ ∧ True ∧ x_I σ 78 9 = Int32.ofNat z ∧ (∀ k, k < z → True ∧ x_I σ 82 k = C k) ∧ ∀ q ∈ x_Il, q.1 = 90 → x_I σ 90 q.2.1 = q.2.2
theorem z_tpr.fr {W V : Nat → Nat → Prop} {z : Nat} {C : Nat → Int32} {σ τ : xS} (f : x_fr W V σ τ) (_h1 : ¬ W 22 2) (h2 : ¬ W 78 9) (h3 : ∀ u, ¬ W 23 u ∧ ¬ W 82 u ∧ ¬ W 90 u) (h : z_tpr z C σ) : z_tpr z C τ := by
  obtain ⟨hG, a1, a2, a3, a4⟩ := h
  exact ⟨f.G hG, trivial, (f.I h2).trans a2, fun k hk => ⟨trivial, (f.I (h3 k).2.1).trans (a3 k hk).2⟩, fun q hq e => (f.I (h3 _).2.2).trans (a4 q hq e)⟩
theorem z_tpr.lr {V : Nat → Nat → Prop} {z : Nat} {C : Nat → Int32} {σ τ : xS} (f : x_fr z_lr V σ τ) (h : z_tpr z C σ) : z_tpr z C τ := h.fr f (by unfold z_lr; omega) (by unfold z_lr; omega) (fun u => by unfold z_lr; omega)
theorem z_tpe.lx {V : Nat → Nat → Prop} {z : Nat} {C : Nat → Int32} {σ τ : xS} (f : x_fr z_lx V σ τ) (h : z_tpe z C σ) : z_tpe z C τ := h.fr f (by unfold z_lx; omega) (by unfold z_lx; omega) (fun u => by unfold z_lx; omega)
theorem z_tpe.lr {V : Nat → Nat → Prop} {z : Nat} {C : Nat → Int32} {σ τ : xS} (f : x_fr z_lr V σ τ) (h : z_tpe z C σ) : z_tpe z C τ := h.fr f (by unfold z_lr; omega) (by unfold z_lr; omega) (fun u => by unfold z_lr; omega)
theorem g23 {d : Nat} {z : Nat} {C : Nat → Int32} {σ : xS} (hz : z ≤ 160) (h : z_tpe z C σ) {k : Nat} (hk : k < z) : x_run (d + 1) 129 [.inr (.inr (some 23)), .inl (Int32.ofNat k)] σ = some (some (.inl (C k)), σ) := by
  rw [m129 d h.1 (a := 23) (n := 160) rfl (by omega) (by omega), (h.2.2.2.1 k hk).1]
/-- one word -/
theorem l52 (d : Nat) {z : Nat} {C : Nat → Int32} {σ : xS} (hz : z ≤ 160) (h : z_tpe z C σ) {s : Nat} (h4 : x_I σ 22 4 = Int32.ofNat s) {a : Nat} (ha : (Nat.ble 1000 a && Nat.blt a 1013) = true) (hl : s + (x_TX a).length ≤ z) : ∀ q i, i + q = (x_TX a).length → ∃ r, x_f d 52 39 [some (.inr (.inr (some 22))), some (.inr (.inr (some a))), some (.inl (Int32.ofNat i))] [] σ = some (some (.inl r), σ) ∧ ((r = 1 ∧ ∀ k, i ≤ k → k < (x_TX a).length → (x_TX a).getD k 0 = C (s + k)) ∨ (r = 0 ∧ ∃ k, i ≤ k ∧ k < (x_TX a).length ∧ (x_TX a).getD k 0 ≠ C (s + k)))
  | 0, i, hi => by
    refine ⟨1, ?_, Or.inl ⟨rfl, fun k h1 h2 => absurd h2 (by omega)⟩⟩
    rw [x_feq, e52_39, x_der_s, ha, show i = (x_TX a).length by omega]
    show (if Int32.ofNat (x_TX a).length ≤ Int32.ofNat (x_TX a).length then _ else _) = _
    rw [if_pos (Int32.le_refl _)]
  | q + 1, i, hi => by
    have hG := h.1
    have pre : x_f d 52 39 [some (.inr (.inr (some 22))), some (.inr (.inr (some a))), some (.inl (Int32.ofNat i))] [] σ = if (x_TX a).getD i 0 = C (s + i) then x_f d 52 39 [some (.inr (.inr (some 22))), some (.inr (.inr (some a))), some (.inl (Int32.ofNat (i + 1)))] [] σ else some (some (.inl 0), σ) := by
      rw [x_feq, e52_39, x_der_s, ha]
      show (if Int32.ofNat (x_TX a).length ≤ Int32.ofNat i then _ else x_der (some a) _) = _
      rw [if_neg (fun g => absurd ((x_le (by omega) (by omega)).mp g) (by omega)), x_der_s, ha]
      show x_ix (Int32.ofNat i) (x_TX a).length _ = _
      rw [x_ixk (by omega) (by omega), x_k22 hG, x_k22 hG, x_q22_0 hG, x_der_s, x_k23 hG, h4, ← Int32.ofNat_add, x_ixk (by omega) (by omega), x_tn (by omega), x_tn (by omega), (h.2.2.2.1 (s + i) (by omega)).1, x_s1]
    by_cases c : (x_TX a).getD i 0 = C (s + i)
    · obtain ⟨r, e, hr⟩ := l52 d hz h h4 ha hl q (i + 1) (by omega)
      refine ⟨r, by rw [pre, if_pos c]; exact e, ?_⟩
      rcases hr with ⟨r1, hr⟩ | ⟨r0, k, k1, k2, k3⟩
      · refine Or.inl ⟨r1, fun k h1 h2 => ?_⟩
        by_cases ki : k = i
        · rw [ki]; exact c
        · exact hr k (by omega) h2
      · exact Or.inr ⟨r0, k, by omega, k2, k3⟩
    · exact ⟨0, by rw [pre, if_neg c], Or.inr ⟨rfl, i, Nat.le_refl _, by omega, c⟩⟩
theorem z_wl_len (C : Nat → Int32) (s n : Nat) : (z_wl C s n).length = n := by unfold z_wl; rw [List.length_map, List.length_range]
theorem z_wl_eq {C : Nat → Int32} {s : Nat} (L : List Int32) : L = z_wl C s L.length ↔ ∀ k, k < L.length → L.getD k 0 = C (s + k) := by
  have g : ∀ k, k < L.length → (z_wl C s L.length).getD k 0 = C (s + k) := by
    intro k hk
    unfold z_wl
    rw [List.getD_eq_getElem?_getD, List.getElem?_map, List.getElem?_range hk]
    rfl
  constructor
  · intro h k hk
    rw [← g k hk, ← h]
  · intro h
    apply List.ext_getElem
    · rw [z_wl_len]
    · intro k h1 h2
      have e := (h k h1).trans (g k h1).symm
      rw [List.getD_eq_getElem?_getD, List.getD_eq_getElem?_getD, List.getElem?_eq_getElem h1, List.getElem?_eq_getElem h2] at e
      exact e
theorem m52 (d : Nat) {z : Nat} {C : Nat → Int32} {σ : xS} (hz : z ≤ 160) (h : z_tpe z C σ) {s e : Nat} (hs : s ≤ e) (he : e ≤ z) (h4 : x_I σ 22 4 = Int32.ofNat s) (h5 : x_I σ 22 5 = Int32.ofNat e) {a : Nat} (ha : (Nat.ble 1000 a && Nat.blt a 1013) = true) (hw : (x_TX a).length < 2 ^ 31) : x_run (d + 1) 52 [.inr (.inr (some 22)), .inr (.inr (some a))] σ = some (some (.inl (if x_TX a = z_wl C s (e - s) then 1 else 0)), σ) := by
  have hG := h.1
  rw [r52, e52_0, x_k22 hG, h4, if_neg (x_nn0 (by omega)), x_k22 hG, x_k22 hG, x_q22_0 hG, x_der_s, x_m23 hG, h5, if_neg (fun g => absurd (Int32.not_le.mpr g) (fun k => k ((x_le (by omega) (by omega)).mpr (by omega)))), x_der_s, ha]
  show x_ck σ 22 6 _ = _
  rw [x_k22 hG, x_k22 hG, x_sb hs (by omega)]
  by_cases c : (x_TX a).length = e - s
  · rw [if_pos (by rw [c])]
    obtain ⟨r, e1, hr⟩ := l52 d hz h h4 ha (by omega) (x_TX a).length 0 (by omega)
    refine e1.trans ?_
    rcases hr with ⟨r1, hr⟩ | ⟨r0, k, k1, k2, k3⟩
    · rw [if_pos (by rw [← c]; exact (z_wl_eq (x_TX a)).mpr (fun k hk => hr k (Nat.zero_le _) hk)), r1]
    · rw [if_neg (fun g => k3 ((z_wl_eq (x_TX a)).mp (by rw [c]; exact g) k k2)), r0]
  · rw [if_neg (fun g => c (x_inj32 hw (by omega) g)), if_neg (fun g => c (by rw [g, z_wl_len]))]
