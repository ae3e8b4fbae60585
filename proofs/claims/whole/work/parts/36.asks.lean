/-! what a text says, on both sides -/
theorem x_c5m (m : Nat) : Int32.ofNat (100000 + m) - 100000 = Int32.ofNat m := by
  rw [Int32.ofNat_add, show Int32.ofNat 100000 = 100000 from rfl, Int32.add_comm, Int32.add_sub_cancel]
theorem x_4p (t p : Nat) : 4 * Int32.ofNat t + Int32.ofNat p = Int32.ofNat (4 * t + p) := by
  rw [show (4 : Int32) = Int32.ofNat 4 from rfl, ← Int32.ofNat_mul, ← Int32.ofNat_add]
theorem x_200 (t j : Nat) : 200 * Int32.ofNat t + Int32.ofNat j = Int32.ofNat (200 * t + j) := by
  rw [show (200 : Int32) = Int32.ofNat 200 from rfl, ← Int32.ofNat_mul, ← Int32.ofNat_add]
theorem l152 (d : Nat) {t part : Nat} (ht : t < 6) (hp : part < 3) (N : Nat → Int32) : ∀ (q : List Int32) (j : Nat) (st : List Int32) (σ : xS), x_G σ → x_I σ 78 13 = Int32.ofNat t → x_I σ 84 (4 * t + part + 1) = Int32.ofNat (j + q.length) → (∀ k c, q[k]? = some c → x_okc c = true ∧ x_I σ 83 (200 * t + (j + k)) = c) → x_hgt q st.length = some 1 → x_stk (x_I σ 92) st → (∀ k, k < 6 → x_I σ 93 k = N k) → j + q.length ≤ 160 → st.length ≤ j → ∃ τ, x_f (d + 1) 152 16 [some (.inr (.inr (some 78))), some (.inl (Int32.ofNat part)), some (.inl (Int32.ofNat st.length)), some (.inl (Int32.ofNat j)), none] [] σ = some (some (.inl ((x_evl N q st).headD 0)), τ) ∧ x_fr (fun b _ => b = 92) x_w0 σ τ
  | [], j, st, σ, hG, hr, he, hc, hh, hs, hN, hj, hsj => by
    have h1 : st.length = 1 := Option.some.inj hh
    match st, h1 with
    | [x], _ =>
      refine ⟨σ, ?_, x_fr.refl _ _ _⟩
      have he : x_I σ 84 (4 * t + part + 1) = Int32.ofNat j := he
      rw [x_feq, e152_16, x_k78 hG, x_k78 hG, x_q78_11 hG, x_der_s, x_k84 hG, hr, x_4p, x_s1, x_ixk (by omega) (by omega), x_tn (by omega), he, if_pos (Int32.le_refl _), x_k78 hG, x_q78_35 hG, x_der_s, x_k92 hG, x_ixl (by decide)]
      rw [show x_I σ 92 (0 : Int32).toNatClampNeg = x from hs.1]
      rfl
  | c :: q, j, st, σ, hG, hr, he, hc, hh, hs, hN, hj, hsj => by
    have hj : j + (q.length + 1) ≤ 160 := hj
    have he2 : x_I σ 84 (4 * t + part + 1) = Int32.ofNat (j + (q.length + 1)) := he
    obtain ⟨ok, en⟩ := hc 0 c rfl
    have en2 : x_I σ 83 (200 * t + j) = c := en
    have step : ∀ (r : List Int32) (v : Int32), x_step N c st = v :: r → r.length ≤ j → x_hgt q (r.length + 1) = some 1 → x_stk (x_I σ 92) r → (x_f (d + 1) 152 16 [some (.inr (.inr (some 78))), some (.inl (Int32.ofNat part)), some (.inl (Int32.ofNat st.length)), some (.inl (Int32.ofNat j)), none] [] σ = x_f (d + 1) 152 16 [some (.inr (.inr (some 78))), some (.inl (Int32.ofNat part)), some (.inl (Int32.ofNat (r.length + 1))), some (.inl (Int32.ofNat (j + 1))), none] [] (x_si σ 92 r.length v)) → ∃ τ, x_f (d + 1) 152 16 [some (.inr (.inr (some 78))), some (.inl (Int32.ofNat part)), some (.inl (Int32.ofNat st.length)), some (.inl (Int32.ofNat j)), none] [] σ = some (some (.inl ((x_evl N q (x_step N c st)).headD 0)), τ) ∧ x_fr (fun b _ => b = 92) x_w0 σ τ := by
      intro r v e1 h1 h2 h3 h4
      obtain ⟨τ, e, f⟩ := l152 d ht hp N q (j + 1) (v :: r) (x_si σ 92 r.length v) hG (by rw [x_Isi, if_neg (by omega)]; exact hr) (by rw [x_Isi, if_neg (by omega), he2, show j + 1 + q.length = j + (q.length + 1) by omega]) (fun k c' hk => by
        rw [x_Isi, if_neg (by omega), show j + 1 + k = j + (k + 1) by omega]
        exact hc (k + 1) c' hk) h2 (x_stk_w v h3) (fun k hk => by rw [x_Isi, if_neg (by omega)]; exact hN k hk) (by omega) (by show r.length + 1 ≤ j + 1; omega)
      refine ⟨τ, ?_, ((x_fr.refl (fun b _ => b = 92) x_w0 σ).si v rfl).trans f⟩
      rw [h4, e1, ← e]
      rfl
    have hlt : ¬ Int32.ofNat (j + (q.length + 1)) ≤ Int32.ofNat j := fun h => absurd ((x_le (by omega) (by omega)).mp h) (by omega)
    rcases x_okc_c ok with ⟨m, hm, rfl⟩ | ⟨k, hk, rfl⟩ | rfl | rfl | h2
    · refine step st (Int32.ofNat m) (x_sp_n hm N st) hsj ?_ hs ?_
      · rw [show x_hgt (Int32.ofNat (100000 + m) :: q) st.length = (x_hg1 (Int32.ofNat (100000 + m)) st.length).bind (x_hgt q) from rfl, x_hg_n hm] at hh
        exact hh
      · rw [x_feq, e152_16, x_k78 hG, x_k78 hG, x_q78_11 hG, x_der_s, x_k84 hG, hr, x_4p, x_s1, x_ixk (by omega) (by omega), x_tn (show 4 * t + part + 1 < 2 ^ 31 by omega), he2, if_neg hlt, x_k78 hG, x_k78 hG, x_q78_10 hG, x_der_s, x_k83 hG, x_200, x_ixk (by omega) (by omega), x_tn (show 200 * t + j < 2 ^ 31 by omega), en2, if_pos (show (100000 : Int32) ≤ Int32.ofNat (100000 + m) from (x_le (a := 100000) (by omega) (by omega)).mpr (by omega)), x_feq, e152_66, x_k78 hG, if_pos (show (11 : Int32) ≤ Int32.ofNat (100000 + m) from (x_le (a := 11) (by omega) (by omega)).mpr (by omega)), x_q78_35 hG, x_der_s, x_k92 hG, x_ixk (by omega) (by omega), x_tn (show st.length < 2 ^ 31 by omega), x_s1, x_s1, x_c5m]
    · refine step st (N k) (x_sp_k hk N st) hsj ?_ hs ?_
      · rw [show x_hgt (Int32.ofNat k :: q) st.length = (x_hg1 (Int32.ofNat k) st.length).bind (x_hgt q) from rfl, x_hg_k hk] at hh
        exact hh
      · rw [x_feq, e152_16, x_k78 hG, x_k78 hG, x_q78_11 hG, x_der_s, x_k84 hG, hr, x_4p, x_s1, x_ixk (by omega) (by omega), x_tn (show 4 * t + part + 1 < 2 ^ 31 by omega), he2, if_neg hlt, x_k78 hG, x_k78 hG, x_q78_10 hG, x_der_s, x_k83 hG, x_200, x_ixk (by omega) (by omega), x_tn (show 200 * t + j < 2 ^ 31 by omega), en2, if_neg (x_nm_f hk).1, if_neg (x_nm_f hk).2.2, x_feq, e152_66, x_k78 hG, if_neg (x_nm_f hk).2.2, x_k78 hG, x_q78_36 hG, x_der_s, x_k93 hG, x_ixk hk (by omega), x_q78_35 hG, x_der_s, x_k92 hG, x_ixk (by omega) (by omega), x_tn (show st.length < 2 ^ 31 by omega), x_tn (show k < 2 ^ 31 by omega), x_s1, x_s1, hN k hk]
    · match st, hs, hh, hsj, step with
      | [], _, hh, _, _ => cases hh
      | x :: r, hs, hh, hsj, step =>
        have hsj : r.length + 1 ≤ j := hsj
        refine step r (if x = 0 then 1 else 0) rfl (by omega) hh hs.2 ?_
        rw [x_feq, e152_16, x_k78 hG, x_k78 hG, x_q78_11 hG, x_der_s, x_k84 hG, hr, x_4p, x_s1, x_ixk (by omega) (by omega), x_tn (show 4 * t + part + 1 < 2 ^ 31 by omega), he2, if_neg hlt, x_k78 hG, x_k78 hG, x_q78_10 hG, x_der_s, x_k83 hG, x_200, x_ixk (by omega) (by omega), x_tn (show 200 * t + j < 2 ^ 31 by omega), en2, if_neg (by decide), if_pos (by decide), if_pos rfl]
        simp only [List.length_cons]
        rw [x_k78 hG, x_k78 hG, x_q78_35 hG, x_der_s, x_k92 hG, x_p1, x_ixk (by omega) (by omega), x_tn (show r.length < 2 ^ 31 by omega), show x_I σ 92 r.length = x from hs.1]
        by_cases x0 : x = 0
        · rw [if_pos x0, if_pos x0, x_der_s, x_k92 hG, x_ixk (by omega) (by omega), x_s1]
        · rw [if_neg x0, if_neg x0, x_der_s, x_k92 hG, x_ixk (by omega) (by omega), x_s1]
    · match st, hs, hh, hsj, step with
      | [], _, hh, _, _ => cases hh
      | x :: r, hs, hh, hsj, step =>
        have hsj : r.length + 1 ≤ j := hsj
        refine step r (-x) rfl (by omega) hh hs.2 ?_
        rw [x_feq, e152_16, x_k78 hG, x_k78 hG, x_q78_11 hG, x_der_s, x_k84 hG, hr, x_4p, x_s1, x_ixk (by omega) (by omega), x_tn (show 4 * t + part + 1 < 2 ^ 31 by omega), he2, if_neg hlt, x_k78 hG, x_k78 hG, x_q78_10 hG, x_der_s, x_k83 hG, x_200, x_ixk (by omega) (by omega), x_tn (show 200 * t + j < 2 ^ 31 by omega), en2, if_neg (by decide), if_pos (by decide), if_neg (by decide), if_pos rfl]
        simp only [List.length_cons]
        rw [x_k78 hG, x_k78 hG, x_q78_35 hG, x_der_s, x_k92 hG, x_p1, x_ixk (by omega) (by omega), x_der_s, x_k92 hG, x_ixk (by omega) (by omega), x_tn (show r.length < 2 ^ 31 by omega), show x_I σ 92 r.length = x from hs.1, x_s1]
    · rw [show x_hgt (c :: q) st.length = (x_hg1 c st.length).bind (x_hgt q) from rfl, x_hg_2 h2] at hh
      match st, hs, hh, hsj, step with
      | [], _, hh, _, _ => cases hh
      | [x], _, hh, _, _ => cases hh
      | b :: a :: r, hs, hh, hsj, step =>
        have hsj : r.length + 2 ≤ j := hsj
        obtain ⟨-, -, -, n4, n5, n6, n7⟩ := x_en_2 h2
        refine step r (x_two c a b) (x_sp_2 h2 N a b r) (by omega) hh hs.2.2 ?_
        rw [x_feq, e152_16, x_k78 hG, x_k78 hG, x_q78_11 hG, x_der_s, x_k84 hG, hr, x_4p, x_s1, x_ixk (by omega) (by omega), x_tn (show 4 * t + part + 1 < 2 ^ 31 by omega), he2, if_neg hlt, x_k78 hG, x_k78 hG, x_q78_10 hG, x_der_s, x_k83 hG, x_200, x_ixk (by omega) (by omega), x_tn (show 200 * t + j < 2 ^ 31 by omega), en2, if_neg n4, if_pos n5, if_neg n6, if_neg n7]
        simp only [List.length_cons]
        rw [x_k78 hG, x_k78 hG, x_q78_35 hG, x_der_s, x_k92 hG, x_pm1, x_p1, x_ixk (by omega) (by omega), x_k78 hG, x_der_s, x_k92 hG, x_ixk (by omega) (by omega), x_tn (show r.length < 2 ^ 31 by omega), x_tn (show r.length + 1 < 2 ^ 31 by omega), show x_I σ 92 r.length = a from hs.2.1, show x_I σ 92 (r.length + 1) = b from hs.1, m151, x_ci_s, x_der_s, x_k92 hG, x_ixk (by omega) (by omega), x_s1]
/-! a text: its parts -/
def x_tv (σ : xS) (t : Nat) (o : Nat → Nat) (p : Nat → List Int32) : Prop := o 0 = 0 ∧ ∀ part, part < 3 → o (part + 1) = o part + (p part).length ∧ o (part + 1) ≤ 160 ∧ x_hgt (p part) 0 = some 1 ∧ x_I σ (x_tc t + 3) part = Int32.ofNat (o part + (p part).length) ∧ x_I σ 84 (4 * t + part) = Int32.ofNat (o part) ∧ x_I σ 84 (4 * t + part + 1) = Int32.ofNat (o part + (p part).length) ∧ ∀ k c, (p part)[k]? = some c → x_okc c = true ∧ x_I σ (x_tc t + 1) (o part + k) = x_enc c ∧ x_I σ 83 (200 * t + (o part + k)) = c
theorem x_tv_of {σ : xS} {t : Nat} (h : x_txt σ t) : ∃ o p, x_tv σ t o p := by
  obtain ⟨p0, p1, p2, hok, h0, h1, h2, hl, a0, a1, a2, a3, b0, b1, b2, hc⟩ := h
  have hl : p0.length + (p1.length + p2.length) ≤ 160 := by rw [List.length_append, List.length_append] at hl; exact hl
  refine ⟨fun k => match k with
    | 0 => 0
    | 1 => p0.length
    | 2 => p0.length + p1.length
    | _ => p0.length + p1.length + p2.length, fun k => match k with
    | 0 => p0
    | 1 => p1
    | _ => p2, rfl, fun part hp => ?_⟩
  have key : ∀ k c, (p0 ++ (p1 ++ p2))[k]? = some c → x_okc c = true ∧ x_I σ (x_tc t + 1) k = x_enc c ∧ x_I σ 83 (200 * t + k) = c := fun k c h => ⟨hok c (List.mem_of_getElem? h), (hc k c h).2, (hc k c h).1⟩
  rcases (show part = 0 ∨ part = 1 ∨ part = 2 by omega) with rfl | rfl | rfl
  · refine ⟨(Nat.zero_add _).symm, by show p0.length ≤ 160; omega, h0, ?_, a0, ?_, fun k c h => ?_⟩
    · show _ = Int32.ofNat (0 + p0.length)
      rw [Nat.zero_add]; exact b0
    · show _ = Int32.ofNat (0 + p0.length)
      rw [Nat.zero_add]; exact a1
    · show _ ∧ x_I σ (x_tc t + 1) (0 + k) = _ ∧ x_I σ 83 (200 * t + (0 + k)) = _
      rw [Nat.zero_add]
      have h : p0[k]? = some c := h
      exact key k c (by rw [List.getElem?_append_left (List.getElem?_eq_some_iff.mp h).1]; exact h)
  · refine ⟨rfl, by show p0.length + p1.length ≤ 160; omega, h1, b1, a1, a2, fun k c h => key (p0.length + k) c ?_⟩
    have h : p1[k]? = some c := h
    rw [List.getElem?_append_right (by omega), Nat.add_sub_cancel_left, List.getElem?_append_left (List.getElem?_eq_some_iff.mp h).1]; exact h
  · refine ⟨rfl, by show p0.length + p1.length + p2.length ≤ 160; omega, h2, ?_, a2, ?_, fun k c h => ?_⟩
    · show _ = Int32.ofNat (p0.length + p1.length + p2.length)
      rw [show p0.length + p1.length + p2.length = p0.length + (p1.length + p2.length) by omega]; exact b2
    · show _ = Int32.ofNat (p0.length + p1.length + p2.length)
      rw [show p0.length + p1.length + p2.length = p0.length + (p1.length + p2.length) by omega]; exact a3
    · show _ ∧ x_I σ (x_tc t + 1) (p0.length + p1.length + k) = _ ∧ x_I σ 83 (200 * t + (p0.length + p1.length + k)) = _
      have h : p2[k]? = some c := h
      refine key (p0.length + p1.length + k) c ?_
      rw [List.getElem?_append_right (by omega), show p0.length + p1.length + k - p0.length = p1.length + k by omega, List.getElem?_append_right (by omega), Nat.add_sub_cancel_left]
      exact h
theorem x_tv.at {σ τ : xS} {t : Nat} {o : Nat → Nat} {p : Nat → List Int32} (h83 : ∀ u, x_I τ 83 u = x_I σ 83 u) (h84 : ∀ u, x_I τ 84 u = x_I σ 84 u) (h1 : ∀ u, x_I τ (x_tc t + 1) u = x_I σ (x_tc t + 1) u) (h3 : ∀ u, x_I τ (x_tc t + 3) u = x_I σ (x_tc t + 3) u) (h : x_tv σ t o p) : x_tv τ t o p := by
  unfold x_tv at h ⊢
  simp only [h83, h84, h1, h3]
  exact h
/-- the cells that reading a text writes -/
def x_wt (b _ : Nat) : Prop := b = 31 ∨ b = 33 ∨ b = 47 ∨ b = 49 ∨ b = 52 ∨ b = 54 ∨ b = 57 ∨ b = 59 ∨ b = 62 ∨ b = 64 ∨ b = 67 ∨ b = 69 ∨ b = 92 ∨ b = 93
theorem x_wt_t {t : Nat} (ht : t < 6) (u : Nat) : x_wt (x_tc t + 2) u ∧ x_wt (x_tc t + 4) u := by
  unfold x_wt
  rcases (show t = 0 ∨ t = 1 ∨ t = 2 ∨ t = 3 ∨ t = 4 ∨ t = 5 by omega) with rfl | rfl | rfl | rfl | rfl | rfl <;> simp [x_tc]
theorem x_wt_n {t : Nat} (ht : t < 6) (u : Nat) : ¬ x_wt (x_tc t + 1) u ∧ ¬ x_wt (x_tc t + 3) u := by
  unfold x_wt
  rcases (show t = 0 ∨ t = 1 ∨ t = 2 ∨ t = 3 ∨ t = 4 ∨ t = 5 by omega) with rfl | rfl | rfl | rfl | rfl | rfl <;> simp [x_tc]
theorem x_tv.fr {σ τ : xS} {V : Nat → Nat → Prop} {t : Nat} {o : Nat → Nat} {p : Nat → List Int32} (ht : t < 6) (f : x_fr x_wt V σ τ) (h : x_tv σ t o p) : x_tv τ t o p := x_tv.at (fun u => f.I (by unfold x_wt; omega)) (fun u => f.I (by unfold x_wt; omega)) (fun u => f.I (x_wt_n ht u).1) (fun u => f.I (x_wt_n ht u).2) h
theorem x_wt_per (a u : Nat) (h : x_per a u = true) : ¬ x_wt a u := by
  unfold x_wt
  rintro (rfl | rfl | rfl | rfl | rfl | rfl | rfl | rfl | rfl | rfl | rfl | rfl | rfl | rfl) <;> cases h
def x_bnd (v hi : Int32) : Int32 := if 0 ≤ v then (if v ≤ hi then v else hi) else 0
theorem m134 (d : Nat) (v hi : Int32) (σ : xS) : x_run (d + 1) 134 [.inl v, .inl 0, .inl hi] σ = some (some (.inl (x_bnd v hi)), σ) := by
  rw [r134, e134_0]
  unfold x_bnd
  by_cases h : 0 ≤ v
  · rw [if_pos h, if_pos h]
    by_cases g : v ≤ hi
    · rw [if_pos g, if_pos g]
    · rw [if_neg g, if_neg g]
  · rw [if_neg h, if_neg h]
theorem m128 (d : Nat) (v : Int32) {hi : Int32} (hh : 0 < hi) (σ : xS) : x_run (d + 1) 128 [.inl v, .inl hi] σ = some (some (.inl (x_bnd v hi)), σ) := by
  rw [r128, e128_0]
  have e : (if (0 : Int32) < (if v < hi then v else hi) then (if v < hi then v else hi) else 0) = x_bnd v hi := by
    unfold x_bnd
    by_cases h : v < hi
    · rw [if_pos h, if_pos (Int32.le_of_lt h)]
      by_cases g : 0 < v
      · rw [if_pos g, if_pos (Int32.le_of_lt g)]
      · rw [if_neg g]
        by_cases g2 : 0 ≤ v
        · rw [if_pos g2]; exact Int32.le_antisymm g2 (Int32.not_lt.mp g)
        · rw [if_neg g2]
    · rw [if_neg h, if_pos hh, if_pos (Int32.le_trans (Int32.le_of_lt hh) (Int32.not_lt.mp h))]
      by_cases g : v ≤ hi
      · rw [if_pos g]; exact Int32.le_antisymm (Int32.not_lt.mp h) g
      · rw [if_neg g]
  rw [e]
def x_nm (y u m e s w : Int32) (k : Nat) : Int32 := match k with
  | 0 => y
  | 1 => u
  | 2 => m
  | 3 => e
  | 4 => s
  | _ => w
def x_say (p : Nat → List Int32) (part : Nat) (N : Nat → Int32) : Int32 := x_bnd ((x_evl N (p part) []).headD 0) (if part = 1 then 999 else 100)
theorem m62 (d : Nat) {σ : xS} (hG : x_G σ) {t : Nat} (ht : t < 6) {o : Nat → Nat} {p : Nat → List Int32} (hv : x_tv σ t o p) {part : Nat} (hp : part < 3) {N : Nat → Int32} (hN : ∀ k, k < 6 → x_I σ (x_tc t + 4) k = N k) : ∃ τ, x_run (d + 2) 62 [.inr (.inr (some (x_tc t))), .inl (Int32.ofNat part)] σ = some (some (.inl ((x_evl N (p part) []).headD 0)), τ) ∧ x_fr x_wt x_w0 σ τ := by
  obtain ⟨h0, hv⟩ := hv
  obtain ⟨o1, ol, hh, b1, -, -, hc⟩ := hv part hp
  obtain ⟨τ, e, f⟩ := l62 d ht N (p part) (o part) [] σ hG (fun k c hk => ⟨(hc k c hk).1, (hc k c hk).2.1⟩) hh trivial hN (by omega) (Nat.zero_le _)
  refine ⟨τ, ?_, f.mono (fun b u h => by rw [h]; exact (x_wt_t ht u).1) (fun _ _ h => h)⟩
  rw [r62, e62_0, x_tk7 hG ht, x_tq2 hG ht, m129 d hG (x_ta ht).2.2.1 hp (by omega), x_ci_s, b1]
  rcases part with _ | part
  · rw [if_pos (show Int32.ofNat 0 = 0 from rfl), ← e, h0]
    rfl
  · rw [if_neg (fun h => absurd ((x_le (a := part + 1) (b := 0) (by omega) (by omega)).mp (by rw [h]; decide)) (by omega)), x_tk7 hG ht, x_tq2 hG ht, x_p1, m129 d hG (x_ta ht).2.2.1 (show part < 3 by omega) (by omega), x_ci_s, (hv part (by omega)).2.2.2.1, ← (hv part (by omega)).1, ← e]
    rfl
theorem m61 (d : Nat) {σ : xS} (hG : x_G σ) {t : Nat} (ht : t < 6) {o : Nat → Nat} {p : Nat → List Int32} (hv : x_tv σ t o p) {part : Nat} (hp : part < 3) {c : Nat} (hc : Nat.beq (x_nth x_K c).1 2 = true) (y u w : Int32) : ∃ τ, x_run (d + 3) 61 [.inr (.inr (some (x_tc t))), .inl (Int32.ofNat part), .inr (.inr (some c)), .inl y, .inl u, .inl w] σ = some (some (.inl (x_say p part (x_nm y (if u < 99 then u else 99) (x_I σ c 1) (x_I σ c 3) (x_I σ c 4) (if w < 999 then w else 999)))), τ) ∧ x_fr x_wt x_w0 σ τ := by
  have nc : c ≠ x_tc t + 4 := fun h => by rw [h, (x_ta ht).2.2.2] at hc; cases hc
  have nT : x_tc t ≠ x_tc t + 4 := by omega
  have W : ∀ (τ : xS) (k : Nat) (v : Int32), x_G τ → k < 6 → x_run (d + 2) 130 [.inr (.inr (some (x_tc t + 4))), .inl (Int32.ofNat k), .inl v] τ = some (none, x_si τ (x_tc t + 4) k v) := fun τ k v h hk => m130 (d + 1) h (x_ta ht).2.2.2 hk (by omega) v
  have hk2 : ∀ (τ : xS) (K : Option xR), x_G τ → x_ck τ c 2 K = K := fun τ K h => x_ckk h.1 hc K
  let σ6 := x_si (x_si (x_si (x_si (x_si (x_si σ (x_tc t + 4) 0 y) (x_tc t + 4) 1 (if u < 99 then u else 99)) (x_tc t + 4) 2 (x_I σ c 1)) (x_tc t + 4) 3 (x_I σ c 3)) (x_tc t + 4) 4 (x_I σ c 4)) (x_tc t + 4) 5 (if w < 999 then w else 999)
  have f6 : x_fr x_wt x_w0 σ σ6 := ((((((x_fr.refl _ _ σ).si _ (x_wt_t ht 0).2).si _ (x_wt_t ht 1).2).si _ (x_wt_t ht 2).2).si _ (x_wt_t ht 3).2).si _ (x_wt_t ht 4).2).si _ (x_wt_t ht 5).2
  obtain ⟨τ, e, f⟩ := m62 d (σ := σ6) hG ht (hv.fr ht f6) hp (N := x_nm y (if u < 99 then u else 99) (x_I σ c 1) (x_I σ c 3) (x_I σ c 4) (if w < 999 then w else 999)) (fun k hk => by
    rcases (show k = 0 ∨ k = 1 ∨ k = 2 ∨ k = 3 ∨ k = 4 ∨ k = 5 by omega) with rfl | rfl | rfl | rfl | rfl | rfl <;> simp [σ6, x_Isi, x_nm])
  refine ⟨τ, ?_, f6.trans f⟩
  have W0 : ∀ (τ : xS) (v : Int32), x_G τ → x_run (d + 2) 130 [.inr (.inr (some (x_tc t + 4))), .inl 0, .inl v] τ = some (none, x_si τ (x_tc t + 4) 0 v) := fun τ v h => W τ 0 v h (by omega)
  have W1 : ∀ (τ : xS) (v : Int32), x_G τ → x_run (d + 2) 130 [.inr (.inr (some (x_tc t + 4))), .inl 1, .inl v] τ = some (none, x_si τ (x_tc t + 4) 1 v) := fun τ v h => W τ 1 v h (by omega)
  have W2 : ∀ (τ : xS) (v : Int32), x_G τ → x_run (d + 2) 130 [.inr (.inr (some (x_tc t + 4))), .inl 2, .inl v] τ = some (none, x_si τ (x_tc t + 4) 2 v) := fun τ v h => W τ 2 v h (by omega)
  have W3 : ∀ (τ : xS) (v : Int32), x_G τ → x_run (d + 2) 130 [.inr (.inr (some (x_tc t + 4))), .inl 3, .inl v] τ = some (none, x_si τ (x_tc t + 4) 3 v) := fun τ v h => W τ 3 v h (by omega)
  have W4 : ∀ (τ : xS) (v : Int32), x_G τ → x_run (d + 2) 130 [.inr (.inr (some (x_tc t + 4))), .inl 4, .inl v] τ = some (none, x_si τ (x_tc t + 4) 4 v) := fun τ v h => W τ 4 v h (by omega)
  have W5 : ∀ (τ : xS) (v : Int32), x_G τ → x_run (d + 2) 130 [.inr (.inr (some (x_tc t + 4))), .inl 5, .inl v] τ = some (none, x_si τ (x_tc t + 4) 5 v) := fun τ v h => W τ 5 v h (by omega)
  rw [r61, e61_0]
  simp only [x_tk7, hG, ht, x_Qsi, x_tq3, x_Gsi, x_cv_s, x_der_s, W0, W1, W2, W3, W4, W5, hk2, x_Isi, nc, false_and, if_false]
  rw [e, x_ci_s]
  unfold x_say
  rcases (show part = 0 ∨ part = 1 ∨ part = 2 by omega) with rfl | rfl | rfl
  · rw [if_neg (show ¬ Int32.ofNat 0 = 1 by decide), if_neg (show ¬ (0 : Nat) = 1 by decide), m128 _ _ (by decide), x_ci_s]
  · rw [if_pos (show Int32.ofNat 1 = 1 from rfl), if_pos (show (1 : Nat) = 1 from rfl), m128 _ _ (by decide), x_ci_s]
  · rw [if_neg (show ¬ Int32.ofNat 2 = 1 by decide), if_neg (show ¬ (2 : Nat) = 1 by decide), m128 _ _ (by decide), x_ci_s]
theorem m152 (d : Nat) {σ : xS} (hG : x_G σ) {t : Nat} (ht : t < 6) {o : Nat → Nat} {p : Nat → List Int32} (hv : x_tv σ t o p) (hr : x_I σ 78 13 = Int32.ofNat t) {part : Nat} (hp : part < 3) {N : Nat → Int32} (hN : ∀ k, k < 6 → x_I σ 93 k = N k) : ∃ τ, x_run (d + 2) 152 [.inr (.inr (some 78)), .inl (Int32.ofNat part)] σ = some (some (.inl ((x_evl N (p part) []).headD 0)), τ) ∧ x_fr x_wt x_w0 σ τ := by
  obtain ⟨h0, hv⟩ := hv
  obtain ⟨o1, ol, hh, -, b2, b3, hc⟩ := hv part hp
  obtain ⟨τ, e, f⟩ := l152 d ht hp N (p part) (o part) [] σ hG hr b3 (fun k c hk => ⟨(hc k c hk).1, (hc k c hk).2.2⟩) hh trivial hN (by omega) (Nat.zero_le _)
  refine ⟨τ, ?_, f.mono (fun b u h => by rw [h]; unfold x_wt; omega) (fun _ _ h => h)⟩
  rw [r152, e152_0, x_k78 hG, x_k78 hG, x_q78_11 hG, x_der_s, x_k84 hG, hr, x_4p, x_ixk (by omega) (by omega), x_tn (by omega), b2, ← e]
  rfl
theorem x_I93 {σ : xS} {a u w : Nat} {v : Int32} (h : a ≠ 93) : x_I (x_si σ 93 u v) a w = x_I σ a w := x_I_other v (fun g => h g.1)
theorem m154 (d : Nat) {σ : xS} (hG : x_G σ) {t : Nat} (ht : t < 6) {o : Nat → Nat} {p : Nat → List Int32} (hv : x_tv σ t o p) (hr : x_I σ 78 13 = Int32.ofNat t) {part : Nat} (hp : part < 3) {l : Nat} (hl : l < 5) (y u w : Int32) : ∃ τ, x_run (d + 3) 154 [.inr (.inr (some 78)), .inl (Int32.ofNat part), .inl (Int32.ofNat l), .inl y, .inl u, .inl w] σ = some (some (.inl (x_say p part (x_nm y (if u ≤ 99 then u else 99) (x_I σ 80 l) (x_I σ 81 (6 * l + 1)) (x_I σ 81 (6 * l + 2)) w))), τ) ∧ x_fr x_wt x_w0 σ τ := by
  let u' : Int32 := if u ≤ 99 then u else 99
  let σ6 := x_si (x_si (x_si (x_si (x_si (x_si σ 93 0 y) 93 1 u') 93 2 (x_I σ 80 l)) 93 3 (x_I σ 81 (6 * l + 1))) 93 4 (x_I σ 81 (6 * l + 2))) 93 5 w
  have w9 : ∀ k, x_wt 93 k := fun k => by unfold x_wt; omega
  have f6 : x_fr x_wt x_w0 σ σ6 := ((((((x_fr.refl _ _ σ).si _ (w9 0)).si _ (w9 1)).si _ (w9 2)).si _ (w9 3)).si _ (w9 4)).si _ (w9 5)
  obtain ⟨τ, e, f⟩ := m152 d (σ := σ6) hG ht (hv.fr ht f6) (by rw [f6.I (by unfold x_wt; omega)]; exact hr) hp (N := x_nm y u' (x_I σ 80 l) (x_I σ 81 (6 * l + 1)) (x_I σ 81 (6 * l + 2)) w) (fun k hk => by
    rcases (show k = 0 ∨ k = 1 ∨ k = 2 ∨ k = 3 ∨ k = 4 ∨ k = 5 by omega) with rfl | rfl | rfl | rfl | rfl | rfl <;> simp [σ6, x_Isi, x_nm])
  refine ⟨τ, ?_, f6.trans f⟩
  have i0 : ∀ K, x_ix 0 6 K = K := fun K => x_ixl (by decide) K
  have i1 : ∀ K, x_ix 1 6 K = K := fun K => x_ixl (by decide) K
  have i2 : ∀ K, x_ix 2 6 K = K := fun K => x_ixl (by decide) K
  have i3 : ∀ K, x_ix 3 6 K = K := fun K => x_ixl (by decide) K
  have i4 : ∀ K, x_ix 4 6 K = K := fun K => x_ixl (by decide) K
  have i5 : ∀ K, x_ix 5 6 K = K := fun K => x_ixl (by decide) K
  have n0 : (0 : Int32).toNatClampNeg = 0 := rfl
  have n1 : (1 : Int32).toNatClampNeg = 1 := rfl
  have n2 : (2 : Int32).toNatClampNeg = 2 := rfl
  have n3 : (3 : Int32).toNatClampNeg = 3 := rfl
  have n4 : (4 : Int32).toNatClampNeg = 4 := rfl
  have n5 : (5 : Int32).toNatClampNeg = 5 := rfl
  have main : x_f (d + 2) 154 26 [some (.inr (.inr (some 78))), some (.inl (Int32.ofNat part)), some (.inl (Int32.ofNat l)), none, none, some (.inl w)] [.inl u', .inl 1, .inr (.inr (some 93))] (x_si σ 93 0 y) = some (some (.inl (x_say p part (x_nm y u' (x_I σ 80 l) (x_I σ 81 (6 * l + 1)) (x_I σ 81 (6 * l + 2)) w))), τ) := by
    rw [x_feq, e154_26]
    simp only [↓x_der_s, ↓x_nul_s, ↓x_nul_n, x_der_s, x_nul_s, x_nul_n, x_ci_s, x_cr_s, x_cv_s, x_cl_s, x_Gsi, x_Gsl, x_Isl, x_Jsi, x_Qsi, x_Qsl, x_i5, x_n5, x_i30, x_n30, x_i4, x_n4, x_i40, x_n40, x_40, x_40i, x_40n, ↓x_ks5, ↓x_kc5, ↓x_mc5, x_qs5, x_qs35, x_6i0, x_6i1, x_6i2, x_6i3, x_6i4, x_6i5, x_6n0, x_6n1, x_6n2, x_6n3, x_6n4, x_6n5, ↓x_kl3, ↓x_kl10, ↓x_kl17, x_ql2, x_ql9, x_ql16, ↓x_k0, ↓x_k1, ↓x_k2, ↓x_m2, ↓x_k3, ↓x_k4, ↓x_k5, ↓x_k6, ↓x_k7, ↓x_k8, ↓x_k9, ↓x_m9, ↓x_k10, ↓x_k11, ↓x_k12, ↓x_k13, ↓x_k14, ↓x_k15, ↓x_k16, ↓x_m16, ↓x_k17, ↓x_k18, ↓x_k19, ↓x_k20, ↓x_k21, ↓x_k22, ↓x_k23, ↓x_m23, ↓x_k24, ↓x_k25, ↓x_m25, ↓x_k26, ↓x_m26, ↓x_k27, ↓x_m27, ↓x_k28, ↓x_m28, ↓x_k29, ↓x_k30, ↓x_m30, ↓x_k31, ↓x_m31, ↓x_k32, ↓x_m32, ↓x_k33, ↓x_m33, ↓x_k34, ↓x_m34, ↓x_k35, ↓x_m35, ↓x_k36, ↓x_k37, ↓x_k38, ↓x_k39, ↓x_m39, ↓x_k40, ↓x_k41, ↓x_m41, ↓x_k42, ↓x_m42, ↓x_k43, ↓x_m43, ↓x_k44, ↓x_k45, ↓x_k46, ↓x_m46, ↓x_k47, ↓x_m47, ↓x_k48, ↓x_m48, ↓x_k49, ↓x_m49, ↓x_k50, ↓x_k51, ↓x_m51, ↓x_k52, ↓x_m52, ↓x_k53, ↓x_m53, ↓x_k54, ↓x_m54, ↓x_k55, ↓x_k56, ↓x_m56, ↓x_k57, ↓x_m57, ↓x_k58, ↓x_m58, ↓x_k59, ↓x_m59, ↓x_k60, ↓x_k61, ↓x_m61, ↓x_k62, ↓x_m62, ↓x_k63, ↓x_m63, ↓x_k64, ↓x_m64, ↓x_k65, ↓x_k66, ↓x_m66, ↓x_k67, ↓x_m67, ↓x_k68, ↓x_m68, ↓x_k69, ↓x_m69, ↓x_k70, ↓x_k71, ↓x_m71, ↓x_k72, ↓x_k73, ↓x_m73, ↓x_k74, ↓x_k75, ↓x_m75, ↓x_k76, ↓x_k77, ↓x_m77, ↓x_k78, ↓x_k79, ↓x_m79, ↓x_k80, ↓x_m80, ↓x_k81, ↓x_m81, ↓x_k82, ↓x_m82, ↓x_k83, ↓x_m83, ↓x_k84, ↓x_m84, ↓x_k85, ↓x_m85, ↓x_k86, ↓x_m86, ↓x_k87, ↓x_m87, ↓x_k88, ↓x_m88, ↓x_k89, ↓x_m89, ↓x_k90, ↓x_m90, ↓x_k91, ↓x_m91, ↓x_k92, ↓x_m92, ↓x_k93, ↓x_m93, ↓x_k94, ↓x_m94, ↓x_k95, ↓x_m95, ↓x_k96, ↓x_m96, ↓x_k97, ↓x_m97, x_q0_0, x_q0_1, x_q0_2, x_q0_4, x_q0_5, x_q0_6, x_q0_8, x_q0_9, x_q0_10, x_q0_11, x_q0_12, x_q0_13, x_q1_0, x_q2_0, x_q2_1, x_q2_2, x_q2_3, x_q2_4, x_q8_0, x_q9_0, x_q9_1, x_q9_2, x_q9_3, x_q9_4, x_q15_0, x_q16_0, x_q16_1, x_q16_2, x_q16_3, x_q16_4, x_q22_0, x_q22_1, x_q24_0, x_q24_1, x_q24_2, x_q24_3, x_q29_0, x_q29_1, x_q29_2, x_q29_3, x_q34_0, x_q34_1, x_q34_2, x_q34_3, x_q34_4, x_q34_5, x_q35_0, x_q35_1, x_q35_2, x_q35_3, x_q38_0, x_q40_0, x_q40_1, x_q40_2, x_q45_0, x_q45_1, x_q45_2, x_q45_3, x_q50_0, x_q50_1, x_q50_2, x_q50_3, x_q55_0, x_q55_1, x_q55_2, x_q55_3, x_q60_0, x_q60_1, x_q60_2, x_q60_3, x_q65_0, x_q65_1, x_q65_2, x_q65_3, x_q70_0, x_q72_0, x_q74_0, x_q76_0, x_q78_1, x_q78_2, x_q78_3, x_q78_8, x_q78_10, x_q78_11, x_q78_21, x_q78_22, x_q78_23, x_q78_24, x_q78_25, x_q78_30, x_q78_31, x_q78_35, x_q78_36, x_q78_37, x_q78_42, x_q78_48, x_q78_49, hG, hl, i1, i2, i3, i4, i5, n1, n2, n3, n4, n5, x_I93 (show 80 ≠ 93 by decide), x_I93 (show 81 ≠ 93 by decide)]
    rw [e, x_ci_s]
    unfold x_say
    rcases (show part = 0 ∨ part = 1 ∨ part = 2 by omega) with rfl | rfl | rfl
    · rw [if_neg (show ¬ Int32.ofNat 0 = 1 by decide), if_neg (show ¬ (0 : Nat) = 1 by decide), m134, x_ci_s]
    · rw [if_pos (show Int32.ofNat 1 = 1 from rfl), if_pos (show (1 : Nat) = 1 from rfl), m134, x_ci_s]
    · rw [if_neg (show ¬ Int32.ofNat 2 = 1 by decide), if_neg (show ¬ (2 : Nat) = 1 by decide), m134, x_ci_s]
  rw [r154, e154_0]
  simp only [↓x_der_s, ↓x_nul_s, ↓x_nul_n, x_der_s, x_nul_s, x_nul_n, x_ci_s, x_cr_s, x_cv_s, x_cl_s, x_Gsi, x_Gsl, x_Isl, x_Jsi, x_Qsi, x_Qsl, x_i5, x_n5, x_i30, x_n30, x_i4, x_n4, x_i40, x_n40, x_40, x_40i, x_40n, ↓x_ks5, ↓x_kc5, ↓x_mc5, x_qs5, x_qs35, x_6i0, x_6i1, x_6i2, x_6i3, x_6i4, x_6i5, x_6n0, x_6n1, x_6n2, x_6n3, x_6n4, x_6n5, ↓x_kl3, ↓x_kl10, ↓x_kl17, x_ql2, x_ql9, x_ql16, ↓x_k0, ↓x_k1, ↓x_k2, ↓x_m2, ↓x_k3, ↓x_k4, ↓x_k5, ↓x_k6, ↓x_k7, ↓x_k8, ↓x_k9, ↓x_m9, ↓x_k10, ↓x_k11, ↓x_k12, ↓x_k13, ↓x_k14, ↓x_k15, ↓x_k16, ↓x_m16, ↓x_k17, ↓x_k18, ↓x_k19, ↓x_k20, ↓x_k21, ↓x_k22, ↓x_k23, ↓x_m23, ↓x_k24, ↓x_k25, ↓x_m25, ↓x_k26, ↓x_m26, ↓x_k27, ↓x_m27, ↓x_k28, ↓x_m28, ↓x_k29, ↓x_k30, ↓x_m30, ↓x_k31, ↓x_m31, ↓x_k32, ↓x_m32, ↓x_k33, ↓x_m33, ↓x_k34, ↓x_m34, ↓x_k35, ↓x_m35, ↓x_k36, ↓x_k37, ↓x_k38, ↓x_k39, ↓x_m39, ↓x_k40, ↓x_k41, ↓x_m41, ↓x_k42, ↓x_m42, ↓x_k43, ↓x_m43, ↓x_k44, ↓x_k45, ↓x_k46, ↓x_m46, ↓x_k47, ↓x_m47, ↓x_k48, ↓x_m48, ↓x_k49, ↓x_m49, ↓x_k50, ↓x_k51, ↓x_m51, ↓x_k52, ↓x_m52, ↓x_k53, ↓x_m53, ↓x_k54, ↓x_m54, ↓x_k55, ↓x_k56, ↓x_m56, ↓x_k57, ↓x_m57, ↓x_k58, ↓x_m58, ↓x_k59, ↓x_m59, ↓x_k60, ↓x_k61, ↓x_m61, ↓x_k62, ↓x_m62, ↓x_k63, ↓x_m63, ↓x_k64, ↓x_m64, ↓x_k65, ↓x_k66, ↓x_m66, ↓x_k67, ↓x_m67, ↓x_k68, ↓x_m68, ↓x_k69, ↓x_m69, ↓x_k70, ↓x_k71, ↓x_m71, ↓x_k72, ↓x_k73, ↓x_m73, ↓x_k74, ↓x_k75, ↓x_m75, ↓x_k76, ↓x_k77, ↓x_m77, ↓x_k78, ↓x_k79, ↓x_m79, ↓x_k80, ↓x_m80, ↓x_k81, ↓x_m81, ↓x_k82, ↓x_m82, ↓x_k83, ↓x_m83, ↓x_k84, ↓x_m84, ↓x_k85, ↓x_m85, ↓x_k86, ↓x_m86, ↓x_k87, ↓x_m87, ↓x_k88, ↓x_m88, ↓x_k89, ↓x_m89, ↓x_k90, ↓x_m90, ↓x_k91, ↓x_m91, ↓x_k92, ↓x_m92, ↓x_k93, ↓x_m93, ↓x_k94, ↓x_m94, ↓x_k95, ↓x_m95, ↓x_k96, ↓x_m96, ↓x_k97, ↓x_m97, x_q0_0, x_q0_1, x_q0_2, x_q0_4, x_q0_5, x_q0_6, x_q0_8, x_q0_9, x_q0_10, x_q0_11, x_q0_12, x_q0_13, x_q1_0, x_q2_0, x_q2_1, x_q2_2, x_q2_3, x_q2_4, x_q8_0, x_q9_0, x_q9_1, x_q9_2, x_q9_3, x_q9_4, x_q15_0, x_q16_0, x_q16_1, x_q16_2, x_q16_3, x_q16_4, x_q22_0, x_q22_1, x_q24_0, x_q24_1, x_q24_2, x_q24_3, x_q29_0, x_q29_1, x_q29_2, x_q29_3, x_q34_0, x_q34_1, x_q34_2, x_q34_3, x_q34_4, x_q34_5, x_q35_0, x_q35_1, x_q35_2, x_q35_3, x_q38_0, x_q40_0, x_q40_1, x_q40_2, x_q45_0, x_q45_1, x_q45_2, x_q45_3, x_q50_0, x_q50_1, x_q50_2, x_q50_3, x_q55_0, x_q55_1, x_q55_2, x_q55_3, x_q60_0, x_q60_1, x_q60_2, x_q60_3, x_q65_0, x_q65_1, x_q65_2, x_q65_3, x_q70_0, x_q72_0, x_q74_0, x_q76_0, x_q78_1, x_q78_2, x_q78_3, x_q78_8, x_q78_10, x_q78_11, x_q78_21, x_q78_22, x_q78_23, x_q78_24, x_q78_25, x_q78_30, x_q78_31, x_q78_35, x_q78_36, x_q78_37, x_q78_42, x_q78_48, x_q78_49, hG, i0, n0]
  by_cases c : u ≤ 99
  · rw [if_pos c, ← main, show u' = u from if_pos c]
  · rw [if_neg c, ← main, show u' = 99 from if_neg c]
theorem x_cl99 (u : Int32) : (if u < 99 then u else 99) = (if u ≤ 99 then u else 99) := by
  by_cases h : u < 99
  · rw [if_pos h, if_pos (Int32.le_of_lt h)]
  · rw [if_neg h]
    by_cases g : u ≤ 99
    · rw [if_pos g]; exact Int32.le_antisymm (Int32.not_lt.mp h) g
    · rw [if_neg g]
theorem x_cl999 {w : Int32} (h : w ≤ 999) : (if w < 999 then w else 999) = w := by
  by_cases g : w < 999
  · rw [if_pos g]
  · rw [if_neg g]; exact Int32.le_antisymm (Int32.not_lt.mp g) h
theorem x_qt34 {σ : xS} (hG : x_G σ) {t : Nat} (ht : t < 6) : x_Q σ 34 t = some (x_tc t) := by
  rcases (show t = 0 ∨ t = 1 ∨ t = 2 ∨ t = 3 ∨ t = 4 ∨ t = 5 by omega) with rfl | rfl | rfl | rfl | rfl | rfl
  · exact x_q34_0 hG
  · exact x_q34_1 hG
  · exact x_q34_2 hG
  · exact x_q34_3 hG
  · exact x_q34_4 hG
  · exact x_q34_5 hG
theorem m119 (d : Nat) {σ : xS} (hG : x_G σ) {n t : Nat} (hn : n ≤ 6) (ht : t < n) (h7 : x_I σ 0 7 = Int32.ofNat n) : x_run (d + 1) 119 [.inr (.inr (some 0)), .inl (Int32.ofNat t)] σ = some (some (.inr (.inr (some (x_tc t)))), σ) := by
  rw [r119, e119_0, if_neg (x_nn0 (by omega)), x_k0 hG, h7, if_neg (fun h => absurd ((x_le (by omega) (by omega)).mp h) (by omega)), x_k0 hG, x_q0_6 hG, x_der_s, x_m34 hG, if_neg (fun h => absurd ((x_le (a := 6) (by omega) (by omega)).mp h) (by omega)), x_k0 hG, x_der_s, x_k34 hG, x_ixk (by omega) (by omega), x_tn (by omega), x_qt34 hG (by omega), x_nul_s]
theorem m120 (d : Nat) {σ : xS} (hG : x_G σ) {n t : Nat} (hn : n ≤ 6) (ht : t < n) (h7 : x_I σ 0 7 = Int32.ofNat n) (h6 : x_I σ 1 6 = Int32.ofNat t) : x_run (d + 2) 120 [.inr (.inr (some 0))] σ = some (some (.inr (.inr (some (x_tc t)))), σ) := by
  rw [r120, e120_0, x_k0 hG, x_q0_0 hG, x_der_s, x_k1 hG, x_k0 hG, h6, m119 d hG hn ht h7, x_cr_s]
/-- which text speaks -/
theorem x_rule {σ : xS} {n t z : Nat} (hP : x_Rp n t z σ) : ∃ r, r < t ∧ x_I σ 1 6 = Int32.ofNat r ∧ x_I σ 78 13 = Int32.ofNat r ∧ ∃ o p, x_tv σ r o p := by
  obtain ⟨hn, ht, hz, -, -, -, ⟨-, -, -, -, ⟨u1, u2, u3⟩⟩, -, -, htx, -⟩ := hP
  rcases x_splitg (n := t) (by omega) (x_I σ 78 13) with ⟨r, hr, e⟩ | h | h
  · exact ⟨r, hr, u1.trans e, e, x_tv_of (htx r hr)⟩
  · exact absurd h (Int32.not_lt.mpr u2)
  · exact absurd u3 (Int32.not_lt.mpr h)
theorem x_op_asks (D : Nat) : ∀ (σ : xS) (as : List Int32), as.length = 4 → x_R σ → x_stp (D + 4) x_R false 81 155 as σ := by
  intro σ as hl hR
  match as, hl with
  | [i1, i2, i3, i4], _ =>
    obtain ⟨hG, n, t, z, hP⟩ := id hR
    obtain ⟨hn, ht, hz, ⟨l1, l2⟩, ⟨t1, t2⟩, -, -, hli, -⟩ := id hP
    have bad : x_run (D + 4) 81 [.inr (.inr (some 0)), .inl i1, .inl i2, .inl i3, .inl i4] σ = some (some (.inl (-2)), σ) → x_run (D + 4) 155 [.inr (.inr (some 78)), .inl i1, .inl i2, .inl i3, .inl i4] σ = x_f (D + 3) 155 45 [some (.inr (.inr (some 78))), some (.inl i1), some (.inl i2), some (.inl i3), some (.inl i4), none] [.inl 0] σ → x_stp (D + 4) x_R false 81 155 [i1, i2, i3, i4] σ := fun e1 e2 => x_op_eq hR (.inl (-2)) ⟨_, rfl⟩ e1 (by
      show x_run (D + 4) 155 [.inr (.inr (some 78)), .inl i1, .inl i2, .inl i3, .inl i4] σ = _
      rw [e2, x_feq, e155_45, if_pos rfl])
    have one : ¬ (1 : Int32) = 0 := by decide
    rcases x_splitg (n := 3) (by omega) i1 with ⟨part, hp, rfl⟩ | hp
    · have d1 : x_b1 (0 ≤ Int32.ofNat part ∧ Int32.ofNat part ≤ 2) = 1 := if_pos ⟨Int32.not_lt.mp (x_nn0 (by omega)), (x_le (b := 2) (by omega) (by omega)).mpr (by omega)⟩
      rcases x_split hn i2 with ⟨l, hl, rfl⟩ | ho
      · by_cases c3 : 0 ≤ i3 ∧ i3 ≤ 9999
        · have d3 : x_b1 (0 ≤ i3 ∧ i3 ≤ 9999) = 1 := if_pos c3
          by_cases c4 : 0 ≤ i4 ∧ i4 ≤ 999
          · have d4 : x_b1 (0 ≤ i4 ∧ i4 ≤ 999) = 1 := if_pos c4
            obtain ⟨r, hr, e6, e13, o, p, hv⟩ := x_rule hP
            obtain ⟨⟨h6, -⟩, ⟨-, ⟨k1, -⟩⟩⟩ := hli l hl
            have e3 : x_I σ (3 + l) 3 = x_I σ 81 (6 * l + 1) := h6 1 (by omega)
            have e4 : x_I σ (3 + l) 4 = x_I σ 81 (6 * l + 2) := h6 2 (by omega)
            obtain ⟨σ1, f1, g1⟩ := m61 D hG (show r < 6 by omega) hv hp (x_kl (show l < 5 by omega)) (i3 / 100) (i3 - i3 / 100 * 100) i4
            have hG1 : x_G σ1 := g1.G hG
            obtain ⟨τ, f2, g2⟩ := m154 D hG1 (show r < 6 by omega) (hv.fr (by omega) g1) (by rw [g1.I (by unfold x_wt; omega)]; exact e13) hp (show l < 5 by omega) (i3 / 100) (i3 - i3 / 100 * 100) i4
            rw [g1.I (show ¬ x_wt 80 l by unfold x_wt; omega), g1.I (show ¬ x_wt 81 (6 * l + 1) by unfold x_wt; omega), g1.I (show ¬ x_wt 81 (6 * l + 2) by unfold x_wt; omega), ← x_cl99] at f2
            rw [e3, e4, k1, x_cl999 c4.2] at f1
            refine x_op_fr hR _ ⟨_, rfl⟩ x_wt_per (Eq.trans ?_ f1) g1 (Eq.trans ?_ f2) g2
            · show x_run (D + 4) 81 [.inr (.inr (some 0)), .inl (Int32.ofNat part), .inl (Int32.ofNat l), .inl i3, .inl i4] σ = _
              rw [r81, e81_0]
              simp only [x_k0, x_k1, hG, x_q0_0, x_der_s, m65_in _ hG hn hl l2, x_cr_s, m126, x_ci_s, d1, d3, d4, one, if_false, x_nul_s, m120 _ hG ht.2 hr t2 e6, x_tk7, show r < 6 by omega, f1]
            · show x_run (D + 4) 155 [.inr (.inr (some 78)), .inl (Int32.ofNat part), .inl (Int32.ofNat l), .inl i3, .inl i4] σ1 = _
              rw [r155, e155_0]
              simp only [m133, x_ci_s, d1, one, if_false, x_k78, hG1, m135_in _ hG1 hn hl ((g1.I (show ¬ x_wt 78 0 by unfold x_wt; omega)).trans l1), d3, d4]
              rw [x_feq, e155_45, if_neg one, x_k78 hG1, f2, x_ci_s]
          · have d4 : x_b1 (0 ≤ i4 ∧ i4 ≤ 999) = 0 := if_neg c4
            refine bad ?_ ?_
            · rw [r81, e81_0]
              simp only [x_k0, x_k1, hG, x_q0_0, x_der_s, m65_in _ hG hn hl l2, x_cr_s, m126, x_ci_s, d1, d3, d4, one, if_false, if_true, x_nul_s]
            · rw [r155, e155_0]
              simp only [m133, x_ci_s, d1, one, if_false, if_true, x_k78, hG, m135_in _ hG hn hl l1, d3, d4]
        · have d3 : x_b1 (0 ≤ i3 ∧ i3 ≤ 9999) = 0 := if_neg c3
          refine bad ?_ ?_
          · rw [r81, e81_0]
            simp only [x_k0, x_k1, hG, x_q0_0, x_der_s, m65_in _ hG hn hl l2, x_cr_s, m126, x_ci_s, d1, d3, one, if_false, if_true, x_nul_s]
          · rw [r155, e155_0]
            simp only [m133, x_ci_s, d1, one, if_false, if_true, x_k78, hG, m135_in _ hG hn hl l1, d3]
      · refine bad ?_ ?_
        · rw [r81, e81_0]
          simp only [x_k0, x_k1, hG, x_q0_0, x_der_s, m65_out _ hG ho l2, x_cr_s, m126, x_ci_s, d1, one, if_false, if_true, x_nul_n]
        · rw [r155, e155_0]
          simp only [m133, x_ci_s, d1, one, if_false, if_true, x_k78, hG, m135_out _ hG hn ho l1]
    · have d1 : x_b1 (0 ≤ i1 ∧ i1 ≤ 2) = 0 := if_neg (x_ltk (n := 2) (by omega) hp)
      refine bad ?_ ?_
      · rw [r81, e81_0]
        rcases x_split hn i2 with ⟨l, hl, rfl⟩ | ho
        · simp only [x_k0, x_k1, hG, x_q0_0, x_der_s, m65_in _ hG hn hl l2, x_cr_s, m126, x_ci_s, d1, if_true]
        · simp only [x_k0, x_k1, hG, x_q0_0, x_der_s, m65_out _ hG ho l2, x_cr_s, m126, x_ci_s, d1, if_true]
      · rw [r155, e155_0]
        simp only [m133, x_ci_s, d1, if_true]
