/-! what ties the component to the reference between two calls -/
/-- a code of a text as the reference keeps it: 100000 + a number, a name 0..5, a sign 11..19; as the component does -/
def x_okc (c : Int32) : Bool := (decide (100000 ≤ c) && decide (c ≤ 109999)) || ((decide (0 ≤ c) && decide (c ≤ 5)) || (decide (11 ≤ c) && decide (c ≤ 19)))
def x_enc (c : Int32) : Int32 := if 100000 ≤ c then c - 100000 else if c < 11 then -1 - c else 1 - c
/-- how many numbers stand behind a code -/
def x_hg1 (c : Int32) (h : Nat) : Option Nat := if 100000 ≤ c ∨ c < 11 then some (h + 1) else if c = 13 ∨ c = 19 then (match h with
  | 0 => none
  | h + 1 => some (h + 1)) else (match h with
  | h + 2 => some (h + 1)
  | _ => none)
def x_hgt : List Int32 → Nat → Option Nat
  | [], h => some h
  | c :: r, h => (x_hg1 c h).bind (x_hgt r)
/-- where text t stands: its object's cell -/
def x_tc (t : Nat) : Nat := match t with
  | 0 => 29
  | t + 1 => 45 + 5 * t
def x_bd (v lo hi : Int32) : Prop := lo ≤ v ∧ v ≤ hi
def x_txt (σ : xS) (t : Nat) : Prop := ∃ p0 p1 p2 : List Int32, (∀ c ∈ p0 ++ (p1 ++ p2), x_okc c = true) ∧ x_hgt p0 0 = some 1 ∧ x_hgt p1 0 = some 1 ∧ x_hgt p2 0 = some 1 ∧ (p0 ++ (p1 ++ p2)).length ≤ 160 ∧
  x_I σ 84 (4 * t) = 0 ∧ x_I σ 84 (4 * t + 1) = Int32.ofNat p0.length ∧ x_I σ 84 (4 * t + 2) = Int32.ofNat (p0.length + p1.length) ∧ x_I σ 84 (4 * t + 3) = Int32.ofNat (p0.length + (p1.length + p2.length)) ∧
  x_I σ (x_tc t + 3) 0 = Int32.ofNat p0.length ∧ x_I σ (x_tc t + 3) 1 = Int32.ofNat (p0.length + p1.length) ∧ x_I σ (x_tc t + 3) 2 = Int32.ofNat (p0.length + (p1.length + p2.length)) ∧
  ∀ (k : Nat) (c : Int32), (p0 ++ (p1 ++ p2))[k]? = some c → x_I σ 83 (200 * t + k) = c ∧ x_I σ (x_tc t + 1) k = x_enc c
/-- the numbers of a world: reference's slots year, fund, goal, poor, rule; the component's world -/
def x_num (σ : xS) (w y f g p r t : Nat) : Prop := (x_I σ w 2 = x_I σ 78 y ∧ x_bd (x_I σ 78 y) 0 99) ∧ (x_I σ w 3 = x_I σ 78 f ∧ x_bd (x_I σ 78 f) 0 99999) ∧ (x_I σ w 4 = x_I σ 78 g ∧ x_bd (x_I σ 78 g) 0 99999) ∧ (x_I σ w 5 = x_I σ 78 p ∧ x_bd (x_I σ 78 p) 0 99999) ∧ (x_I σ w 6 = x_I σ 78 r ∧ 0 ≤ x_I σ 78 r ∧ x_I σ 78 r < Int32.ofNat t)
/-- a life's row of six: wealth, excess, share, house, insures, luck -/
def x_row6 (σ : xS) (c rows l n : Nat) : Prop := (∀ k, k < 6 → x_I σ c (2 + k) = x_I σ rows (6 * l + k)) ∧ x_bd (x_I σ rows (6 * l)) 0 99999 ∧ x_bd (x_I σ rows (6 * l + 1)) 0 999 ∧ x_bd (x_I σ rows (6 * l + 2)) 0 100 ∧ x_bd (x_I σ rows (6 * l + 3)) 0 11 ∧ (-1 ≤ x_I σ rows (6 * l + 4) ∧ x_I σ rows (6 * l + 4) < Int32.ofNat n) ∧ x_bd (x_I σ rows (6 * l + 5)) 0 99
def x_kin (σ : xS) (c l : Nat) : Prop := (x_I σ c 0 = x_I σ 79 l ∧ x_bd (x_I σ 79 l) 0 5) ∧ (x_I σ c 1 = x_I σ 80 l ∧ x_bd (x_I σ 80 l) 0 9)
def x_she (σ : xS) (s : Nat) : Prop := (x_I σ (70 + 2 * s) 1 = x_I σ 86 s ∧ x_bd (x_I σ 86 s) (-1) 2) ∧ (x_I σ (70 + 2 * s) 2 = x_I σ 87 s ∧ x_bd (x_I σ 87 s) 0 40) ∧ ∀ k, k < 40 → x_I σ (71 + 2 * s) k = x_I σ 88 (40 * s + k)
def x_img (σ : xS) (n t : Nat) : Prop := x_I σ 0 3 = x_I σ 78 14 ∧ (x_I σ 78 14 = 0 ∨ (x_I σ 78 14 = 1 ∧ ∃ i : Nat, i ≤ n ∧ x_I σ 78 15 = Int32.ofNat i ∧ x_I σ 8 1 = Int32.ofNat i ∧ x_num σ 8 16 17 18 19 20 t ∧ ∀ l, l < i → x_row6 σ (10 + l) 85 l i ∧ x_I σ (10 + l) 0 = x_I σ 79 l ∧ x_I σ (10 + l) 1 = x_I σ 80 l))
def x_Rp (n t z : Nat) (σ : xS) : Prop := n ≤ 5 ∧ (1 ≤ t ∧ t ≤ 6) ∧ z ≤ 160 ∧ (x_I σ 78 0 = Int32.ofNat n ∧ x_I σ 1 1 = Int32.ofNat n) ∧ (x_I σ 78 12 = Int32.ofNat t ∧ x_I σ 0 7 = Int32.ofNat t) ∧ (x_I σ 78 9 = Int32.ofNat z ∧ x_I σ 22 2 = Int32.ofNat z) ∧
  x_num σ 1 4 5 6 7 13 t ∧ (∀ l, l < n → x_row6 σ (3 + l) 81 l n ∧ x_kin σ (3 + l) l) ∧ (∀ k, k < z → x_I σ 23 k = x_I σ 82 k ∧ x_bd (x_I σ 82 k) 0 255) ∧ (∀ k, k < t → x_txt σ k) ∧ x_img σ n t ∧ (∀ s, s < 4 → x_she σ s) ∧ ∀ q ∈ x_Il, q.1 = 90 → x_I σ 90 q.2.1 = q.2.2
/-- what both constructors leave of cells and references stays -/
def x_G (σ : xS) : Prop := σ.1 = x_K ∧ ∀ q ∈ x_Ql, x_Q σ q.1 q.2.1 = q.2.2
def x_R (σ : xS) : Prop := x_G σ ∧ ∃ n t z : Nat, x_Rp n t z σ
theorem x_R_K (σ : xS) (h : x_R σ) : σ.1 = x_K := h.1.1
/-- what a call may leave otherwise and no later call sees -/
def x_per (a u : Nat) : Bool := match a with
  | 0 => Nat.beq u 3 || Nat.beq u 7
  | 1 => Nat.ble 1 u && Nat.ble u 6
  | 8 => Nat.ble 1 u && Nat.ble u 6
  | 22 => Nat.beq u 2
  | 78 => Nat.beq u 0 || ((Nat.ble 4 u && Nat.ble u 7) || (Nat.beq u 9 || (Nat.ble 12 u && Nat.ble u 20)))
  | _ => (Nat.ble 3 a && Nat.ble a 7) || ((Nat.ble 10 a && Nat.ble a 14) || (Nat.beq a 23 || (Nat.beq a 30 || (Nat.beq a 32 || (Nat.beq a 46 || (Nat.beq a 48 || (Nat.beq a 51 || (Nat.beq a 53 || (Nat.beq a 56 || (Nat.beq a 58 || (Nat.beq a 61 || (Nat.beq a 63 || (Nat.beq a 66 || (Nat.beq a 68 || ((Nat.ble 70 a && Nat.ble a 77) || ((Nat.ble 79 a && Nat.ble a 88) || Nat.beq a 90))))))))))))))))
def x_eqv (σ τ : xS) : Prop := τ.1 = σ.1 ∧ (∀ a u, x_Q τ a u = x_Q σ a u) ∧ ∀ a u, x_per a u = true → x_I τ a u = x_I σ a u
theorem x_eqv.refl (σ : xS) : x_eqv σ σ := ⟨rfl, fun _ _ => rfl, fun _ _ _ => rfl⟩
theorem x_eqv.trans {σ τ υ : xS} (h : x_eqv σ τ) (g : x_eqv τ υ) : x_eqv σ υ := ⟨g.1.trans h.1, fun a u => (g.2.1 a u).trans (h.2.1 a u), fun a u p => (g.2.2 a u p).trans (h.2.2 a u p)⟩
theorem x_eqv.si {σ τ : xS} (h : x_eqv σ τ) {a u : Nat} (v : Int32) (hp : x_per a u = false) : x_eqv σ (x_si τ a u v) := by
  refine ⟨h.1, h.2.1, fun a' u' p => ?_⟩
  rw [← h.2.2 a' u' p]
  show (bif Nat.beq a' a && Nat.beq u' u then v else τ.2.1 a' u') = τ.2.1 a' u'
  cases e : (Nat.beq a' a && Nat.beq u' u) with
  | false => rfl
  | true =>
    obtain ⟨e1, e2⟩ := x_an e
    rw [Nat.eq_of_beq_eq_true e1, Nat.eq_of_beq_eq_true e2, hp] at p
    cases p
theorem x_eqv.sl {σ τ : xS} (h : x_eqv σ τ) (a u : Nat) (v : Int64) : x_eqv σ (x_sl τ a u v) := h
theorem x_G.to {σ τ : xS} (h : x_G σ) (g : x_eqv σ τ) : x_G τ := ⟨g.1.trans h.1, fun q hq => (g.2.1 _ _).trans (h.2 q hq)⟩
theorem x_num.at {σ τ : xS} {w y f g p r t : Nat} (e2 : x_I τ w 2 = x_I σ w 2) (e3 : x_I τ w 3 = x_I σ w 3) (e4 : x_I τ w 4 = x_I σ w 4) (e5 : x_I τ w 5 = x_I σ w 5) (e6 : x_I τ w 6 = x_I σ w 6) (ey : x_I τ 78 y = x_I σ 78 y) (ef : x_I τ 78 f = x_I σ 78 f) (eg : x_I τ 78 g = x_I σ 78 g) (ep : x_I τ 78 p = x_I σ 78 p) (er : x_I τ 78 r = x_I σ 78 r) (h : x_num σ w y f g p r t) : x_num τ w y f g p r t := by
  unfold x_num at h ⊢
  rw [e2, e3, e4, e5, e6, ey, ef, eg, ep, er]
  exact h
theorem x_row6.at {σ τ : xS} {c rows l n : Nat} (hc : ∀ u, x_I τ c u = x_I σ c u) (hr : ∀ u, x_I τ rows u = x_I σ rows u) (h : x_row6 σ c rows l n) : x_row6 τ c rows l n := by
  unfold x_row6 at h ⊢
  simp only [hc, hr]
  exact h
theorem x_kin.at {σ τ : xS} {c l : Nat} (hc : ∀ u, x_I τ c u = x_I σ c u) (h1 : ∀ u, x_I τ 79 u = x_I σ 79 u) (h2 : ∀ u, x_I τ 80 u = x_I σ 80 u) (h : x_kin σ c l) : x_kin τ c l := by
  unfold x_kin at h ⊢
  simp only [hc, h1, h2]
  exact h
theorem x_she.at {σ τ : xS} {s : Nat} (ha : ∀ u, x_I τ (70 + 2 * s) u = x_I σ (70 + 2 * s) u) (hb : ∀ u, x_I τ (71 + 2 * s) u = x_I σ (71 + 2 * s) u) (h6 : x_I τ 86 s = x_I σ 86 s) (h7 : x_I τ 87 s = x_I σ 87 s) (h8 : ∀ k, k < 40 → x_I τ 88 (40 * s + k) = x_I σ 88 (40 * s + k)) (h : x_she σ s) : x_she τ s := by
  unfold x_she at h ⊢
  rw [ha, ha, h6, h7]
  exact ⟨h.1, h.2.1, fun k hk => by rw [hb, h8 k hk]; exact h.2.2 k hk⟩
theorem x_txt.at {σ τ : xS} {t : Nat} (h83 : ∀ u, x_I τ 83 u = x_I σ 83 u) (h84 : ∀ u, x_I τ 84 u = x_I σ 84 u) (h1 : ∀ u, x_I τ (x_tc t + 1) u = x_I σ (x_tc t + 1) u) (h3 : ∀ u, x_I τ (x_tc t + 3) u = x_I σ (x_tc t + 3) u) (h : x_txt σ t) : x_txt τ t := by
  unfold x_txt at h ⊢
  simp only [h83, h84, h1, h3]
  exact h
theorem x_img.at {σ τ : xS} {n t : Nat} (hn : n ≤ 5) (e1 : x_I τ 0 3 = x_I σ 0 3) (e2 : ∀ u, 14 ≤ u → u ≤ 20 → x_I τ 78 u = x_I σ 78 u) (e3 : ∀ u, 1 ≤ u → u ≤ 6 → x_I τ 8 u = x_I σ 8 u) (hc : ∀ l, l < 5 → ∀ u, x_I τ (10 + l) u = x_I σ (10 + l) u) (h5 : ∀ u, x_I τ 85 u = x_I σ 85 u) (h9 : ∀ l, l < n → x_I τ 79 l = x_I σ 79 l) (h0 : ∀ l, l < n → x_I τ 80 l = x_I σ 80 l) (h : x_img σ n t) : x_img τ n t := by
  obtain ⟨k1, k2⟩ := h
  refine ⟨by rw [e1, e2 14 (by omega) (by omega)]; exact k1, ?_⟩
  rw [e2 14 (by omega) (by omega)]
  rcases k2 with k2 | ⟨k2, i, hi, k3, k4, k5, k6⟩
  · exact Or.inl k2
  · refine Or.inr ⟨k2, i, hi, by rw [e2 15 (by omega) (by omega)]; exact k3, by rw [e3 1 (by omega) (by omega)]; exact k4, x_num.at (e3 2 (by omega) (by omega)) (e3 3 (by omega) (by omega)) (e3 4 (by omega) (by omega)) (e3 5 (by omega) (by omega)) (e3 6 (by omega) (by omega)) (e2 16 (by omega) (by omega)) (e2 17 (by omega) (by omega)) (e2 18 (by omega) (by omega)) (e2 19 (by omega) (by omega)) (e2 20 (by omega) (by omega)) k5, fun l hl => ?_⟩
    obtain ⟨g1, g2, g3⟩ := k6 l hl
    exact ⟨x_row6.at (hc l (by omega)) h5 g1, by rw [hc l (by omega), h9 l (by omega)]; exact g2, by rw [hc l (by omega), h0 l (by omega)]; exact g3⟩
theorem x_per_l {l : Nat} (hl : l < 5) (u : Nat) : x_per (3 + l) u = true ∧ x_per (10 + l) u = true := by
  rcases (show l = 0 ∨ l = 1 ∨ l = 2 ∨ l = 3 ∨ l = 4 by omega) with rfl | rfl | rfl | rfl | rfl <;> exact ⟨rfl, rfl⟩
theorem x_per_t {t : Nat} (ht : t < 6) (u : Nat) : x_per (x_tc t + 1) u = true ∧ x_per (x_tc t + 3) u = true := by
  rcases (show t = 0 ∨ t = 1 ∨ t = 2 ∨ t = 3 ∨ t = 4 ∨ t = 5 by omega) with rfl | rfl | rfl | rfl | rfl | rfl <;> exact ⟨rfl, rfl⟩
theorem x_per_s {s : Nat} (hs : s < 4) (u : Nat) : x_per (70 + 2 * s) u = true ∧ x_per (71 + 2 * s) u = true := by
  rcases (show s = 0 ∨ s = 1 ∨ s = 2 ∨ s = 3 by omega) with rfl | rfl | rfl | rfl <;> exact ⟨rfl, rfl⟩
theorem x_R.to {σ τ : xS} (h : x_R σ) (g : x_eqv σ τ) : x_R τ := by
  obtain ⟨hG, n, t, z, hn, ht, hz, ⟨l1, l2⟩, ⟨t1, t2⟩, ⟨z1, z2⟩, hnum, hl, hb, htx, him, hsh, hw⟩ := h
  have e := g.2.2
  refine ⟨hG.to g, n, t, z, hn, ht, hz, ⟨by rw [e 78 0 rfl]; exact l1, by rw [e 1 1 rfl]; exact l2⟩, ⟨by rw [e 78 12 rfl]; exact t1, by rw [e 0 7 rfl]; exact t2⟩, ⟨by rw [e 78 9 rfl]; exact z1, by rw [e 22 2 rfl]; exact z2⟩, ?_, fun l hl1 => ?_, fun k hk => ?_, fun k hk => ?_, ?_, fun s hs => ?_, fun q hq hq2 => ?_⟩
  · exact x_num.at (e 1 2 rfl) (e 1 3 rfl) (e 1 4 rfl) (e 1 5 rfl) (e 1 6 rfl) (e 78 4 rfl) (e 78 5 rfl) (e 78 6 rfl) (e 78 7 rfl) (e 78 13 rfl) hnum
  · exact ⟨x_row6.at (fun u => e _ u (x_per_l (by omega) u).1) (fun u => e 81 u rfl) (hl l hl1).1, x_kin.at (fun u => e _ u (x_per_l (by omega) u).1) (fun u => e 79 u rfl) (fun u => e 80 u rfl) (hl l hl1).2⟩
  · rw [e 23 _ rfl, e 82 _ rfl]; exact hb k hk
  · exact x_txt.at (fun u => e 83 u rfl) (fun u => e 84 u rfl) (fun u => e _ u (x_per_t (by omega) u).1) (fun u => e _ u (x_per_t (by omega) u).2) (htx k hk)
  · refine x_img.at hn (e 0 3 rfl) (fun u h1 h2 => e 78 u ?_) (fun u h1 h2 => e 8 u ?_) (fun l hl u => e _ u (x_per_l hl u).2) (fun u => e 85 u rfl) (fun l _ => e 79 l rfl) (fun l _ => e 80 l rfl) him
    · rcases (show u = 14 ∨ u = 15 ∨ u = 16 ∨ u = 17 ∨ u = 18 ∨ u = 19 ∨ u = 20 by omega) with rfl | rfl | rfl | rfl | rfl | rfl | rfl <;> rfl
    · rcases (show u = 1 ∨ u = 2 ∨ u = 3 ∨ u = 4 ∨ u = 5 ∨ u = 6 by omega) with rfl | rfl | rfl | rfl | rfl | rfl <;> rfl
  · exact x_she.at (fun u => e _ u (x_per_s hs u).1) (fun u => e _ u (x_per_s hs u).2) (e 86 s rfl) (e 87 s rfl) (fun k _ => e 88 _ rfl) (hsh s hs)
  · rw [e 90 _ rfl]; exact hw q hq hq2
