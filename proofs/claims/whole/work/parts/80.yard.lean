/-! the reference's yard -/
def z_rank (c : Int32) : Nat := if c = 0 then 0 else if c = 11 then 1 else if c = 12 then 2 else if c = 13 then 3 else if 15 < c then (if 17 < c then (if c = 18 then 6 else 7) else 5) else 4
theorem z_rank_le (c : Int32) : z_rank c ≤ 7 := by
  unfold z_rank
  repeat' split
  all_goals omega
theorem z_m142 (d : Nat) (c : Int32) (σ : xS) : x_run (d + 1) 142 [.inl c] σ = some (some (.inl (Int32.ofNat (z_rank c))), σ) := by
  rw [r142, e142_0]
  unfold z_rank
  by_cases h0 : c = 0
  · rw [if_pos h0, if_pos h0]; rfl
  rw [if_neg h0, if_neg h0]
  by_cases h1 : c = 11
  · rw [if_pos h1, if_pos h1]; rfl
  rw [if_neg h1, if_neg h1]
  by_cases h2 : c = 12
  · rw [if_pos h2, if_pos h2]; rfl
  rw [if_neg h2, if_neg h2]
  by_cases h3 : c = 13
  · rw [if_pos h3, if_pos h3]; rfl
  rw [if_neg h3, if_neg h3]
  by_cases h4 : 15 < c
  · rw [if_pos h4, if_pos h4]
    by_cases h5 : 17 < c
    · rw [if_pos h5, if_pos h5]
      by_cases h6 : c = 18
      · rw [if_pos h6, if_pos h6]; rfl
      · rw [if_neg h6, if_neg h6]; rfl
    · rw [if_neg h5, if_neg h5]; rfl
  · rw [if_neg h4, if_neg h4]; rfl
def z_un (c : Int32) : Bool := decide (c = 13) || decide (c = 19)
def z_nc : List Int32 → Nat
  | [] => 0
  | c :: S => (if c = 0 ∨ z_un c = true then 1 else 0) + z_nc S
def z_stk : List Int32 → xS → Prop
  | [], _ => True
  | c :: S, σ => x_I σ 91 S.length = c ∧ z_stk S σ
theorem z_stk.to {σ τ : xS} : ∀ {S : List Int32}, (∀ j, j < S.length → x_I τ 91 j = x_I σ 91 j) → z_stk S σ → z_stk S τ
  | [], _, _ => trivial
  | c :: S, e, h => ⟨(e S.length (by rw [List.length_cons]; omega)).trans h.1, z_stk.to (fun j hj => e j (by rw [List.length_cons]; omega)) h.2⟩
def z_out (t : Nat) (o : List Int32) (σ : xS) : Prop := ∀ j c, o[j]? = some c → x_I σ 83 (200 * t + j) = c
theorem z_out.to {t : Nat} {o : List Int32} {σ τ : xS} (e : ∀ j, j < o.length → x_I τ 83 (200 * t + j) = x_I σ 83 (200 * t + j)) (h : z_out t o σ) : z_out t o τ := fun j c hj => by
  have l : j < o.length := by
    rcases Nat.lt_or_ge j o.length with l | l
    · exact l
    · rw [List.getElem?_eq_none l] at hj; cases hj
  exact (e j l).trans (h j c hj)
/-- the yard's state at p: stack, codes -/
def z_YS (C : Nat → Int32) (z t : Nat) (S o : List Int32) (p : Nat) (σ : xS) : Prop := z_tpr z C σ ∧ x_I σ 78 12 = Int32.ofNat t ∧ x_I σ 78 26 = Int32.ofNat p ∧ x_I σ 78 32 = Int32.ofNat S.length ∧ x_I σ 78 33 = Int32.ofNat (z_nc S) ∧ x_I σ 78 34 = Int32.ofNat o.length ∧ z_stk S σ ∧ z_out t o σ ∧ o.length + S.length ≤ p ∧ p ≤ z ∧ z ≤ 160 ∧ t < 6
def z_yw (t : Nat) (b u : Nat) : Prop := (b = 78 ∧ ((26 ≤ u ∧ u ≤ 29) ∨ (32 ≤ u ∧ u ≤ 34))) ∨ b = 91 ∨ (b = 83 ∧ 200 * t ≤ u)
theorem z_tpr.yw {V : Nat → Nat → Prop} {z t : Nat} {C : Nat → Int32} {σ τ : xS} (f : x_fr (z_yw t) V σ τ) (h : z_tpr z C σ) : z_tpr z C τ := h.fr f (by unfold z_yw; omega) (by unfold z_yw; omega) (fun u => by unfold z_yw; omega)
theorem z_m143 (d : Nat) {C : Nat → Int32} {z t p : Nat} {S o : List Int32} {σ : xS} (c : Int32) (h : z_YS C z t S o p σ) (hb : o.length + 1 + S.length ≤ p) : ∃ τ, x_run (d + 1) 143 [.inr (.inr (some 78)), .inl c] σ = some (none, τ) ∧ x_fr (z_yw t) x_w0 σ τ ∧ z_YS C z t S (o ++ [c]) p τ ∧ ∀ u, u ≠ 34 → x_I τ 78 u = x_I σ 78 u := by
  obtain ⟨tp, h12, h26, h32, h33, h34, hs, ho, hb0, hp, hz, ht⟩ := h
  have hG := tp.1
  let σ1 := x_si σ 83 (200 * t + o.length) c
  have hG1 : x_G σ1 := hG
  have f : x_fr (z_yw t) x_w0 σ (x_si σ1 78 34 (Int32.ofNat (o.length + 1))) := ((x_fr.refl _ _ σ).si _ (Or.inr (Or.inr ⟨rfl, Nat.le_add_right _ _⟩))).si _ (Or.inl ⟨rfl, by omega⟩)
  have k : ∀ u, u ≠ 34 → x_I (x_si σ1 78 34 (Int32.ofNat (o.length + 1))) 78 u = x_I σ 78 u := fun u hu => (x_Isi _ _ _ _ _ _).trans ((if_neg (by omega)).trans ((x_Isi _ _ _ _ _ _).trans (if_neg (by omega))))
  refine ⟨_, ?_, f, ⟨tp.yw f, (k 12 (by omega)).trans h12, (k 26 (by omega)).trans h26, (k 32 (by omega)).trans h32, (k 33 (by omega)).trans h33, ?_, z_stk.to (fun j _ => (x_Isi _ _ _ _ _ _).trans ((if_neg (by omega)).trans ((x_Isi _ _ _ _ _ _).trans (if_neg (by omega))))) hs, fun j e hj => ?_, by rw [List.length_append]; exact hb, hp, hz, ht⟩, k⟩
  · rw [r143, e143_0, x_k78 hG, x_k78 hG, x_k78 hG, x_q78_10 hG, x_der_s, x_k83 hG, h12, h34, show (200 : Int32) = Int32.ofNat 200 from rfl, ← Int32.ofNat_mul, ← Int32.ofNat_add, x_ixk (by omega) (by omega), x_tn (by omega), x_k78 hG1, x_k78 hG1, show x_I (x_si σ 83 (200 * t + o.length) c) 78 34 = Int32.ofNat o.length from (x_Isi _ _ _ _ _ _).trans ((if_neg (by omega)).trans h34), x_s1]
  · rw [List.length_append]; exact (x_Isi _ _ _ _ _ _).trans (if_pos ⟨rfl, rfl⟩)
  · refine (x_Isi _ _ _ _ _ _).trans ((if_neg (by omega)).trans ((x_Isi _ _ _ _ _ _).trans ?_))
    rcases Nat.lt_trichotomy j o.length with c1 | c1 | c1
    · rw [if_neg (by omega)]
      rw [List.getElem?_append_left c1] at hj
      exact ho j e hj
    · rw [if_pos ⟨rfl, by rw [c1]⟩]
      rw [c1, List.getElem?_append_right (Nat.le_refl _), Nat.sub_self] at hj
      cases hj; rfl
    · rw [List.getElem?_append_right (by omega), List.getElem?_eq_none (by simp; omega)] at hj
      cases hj
def z_pop (q : Nat) : List Int32 → List Int32
  | [] => []
  | c :: S => if q ≤ z_rank c then z_pop q S else c :: S
def z_pd (q : Nat) : List Int32 → List Int32
  | [] => []
  | c :: S => if q ≤ z_rank c then c :: z_pd q S else []
theorem z_l144 (d : Nat) {C : Nat → Int32} {z t p : Nat} {q : Nat} (hq : 1 ≤ q) (hq7 : q ≤ 7) : ∀ (S o : List Int32) (σ : xS), z_YS C z t S o p σ → ∃ τ, x_f (d + 1) 144 0 [some (.inr (.inr (some 78))), some (.inl (Int32.ofNat q)), none] [] σ = some (none, τ) ∧ x_fr (z_yw t) x_w0 σ τ ∧ z_YS C z t (z_pop q S) (o ++ z_pd q S) p τ ∧ ∀ u, u ≠ 32 → u ≠ 33 → u ≠ 34 → x_I τ 78 u = x_I σ 78 u
  | [], o, σ, h => by
    obtain ⟨tp, h12, h26, h32, -⟩ := id h
    refine ⟨σ, ?_, x_fr.refl _ _ _, by rw [show z_pd q [] = [] from rfl, List.append_nil]; exact h, fun u _ _ _ => rfl⟩
    rw [x_feq, e144_0, x_k78 tp.1, h32, if_pos (by decide)]
  | c :: S, o, σ, h => by
    obtain ⟨tp, h12, h26, h32, h33, h34, hs, ho, hb0, hp, hz, ht⟩ := id h
    have hG := tp.1
    rw [List.length_cons] at h32 hb0
    have e1 : Int32.ofNat (S.length + 1) - 1 = Int32.ofNat S.length := x_p1 S.length
    have nz : ¬ Int32.ofNat (S.length + 1) ≤ 0 := fun g => absurd ((x_le (b := 0) (by omega) (by omega)).mp g) (by omega)
    have hc : x_I σ 91 S.length = c := hs.1
    by_cases cr : q ≤ z_rank c
    · have ep : z_pop q (c :: S) = z_pop q S := if_pos cr
      have ed : z_pd q (c :: S) = c :: z_pd q S := if_pos cr
      let σ1 := x_si σ 78 32 (Int32.ofNat S.length)
      have hG1 : x_G σ1 := hG
      have n0 : c ≠ 0 := by
        intro e
        subst e
        have : z_rank 0 = 0 := rfl
        omega
      let nn : Nat := z_nc S
      have h33' : x_I σ 78 33 = Int32.ofNat ((if z_un c = true then 1 else 0) + z_nc S) := by
        rw [h33]
        show Int32.ofNat ((if c = 0 ∨ z_un c = true then 1 else 0) + z_nc S) = _
        by_cases u : z_un c = true
        · rw [if_pos (Or.inr u), if_pos u]
        · rw [if_neg (fun g => g.elim n0 u), if_neg u]
      let σ2 := x_si σ1 78 33 (Int32.ofNat (z_nc S))
      have hG2 : x_G σ2 := hG
      have f2 : x_fr (z_yw t) x_w0 σ σ2 := ((x_fr.refl _ _ σ).si _ (Or.inl ⟨rfl, by omega⟩)).si _ (Or.inl ⟨rfl, by omega⟩)
      have k2 : ∀ b u, ¬ (b = 78 ∧ (u = 32 ∨ u = 33)) → x_I σ2 b u = x_I σ b u := fun b u hu => (x_Isi _ _ _ _ _ _).trans ((if_neg (by omega)).trans ((x_Isi _ _ _ _ _ _).trans (if_neg (by omega))))
      have y2 : z_YS C z t S o p σ2 := ⟨tp.yw f2, (k2 _ _ (by omega)).trans h12, (k2 _ _ (by omega)).trans h26, (x_Isi _ _ _ _ _ _).trans ((if_neg (by omega)).trans ((x_Isi _ _ _ _ _ _).trans (if_pos ⟨rfl, rfl⟩))), (x_Isi _ _ _ _ _ _).trans (if_pos ⟨rfl, rfl⟩), (k2 _ _ (by omega)).trans h34, z_stk.to (fun j _ => k2 _ _ (by omega)) hs.2, z_out.to (fun j _ => k2 _ _ (by omega)) ho, by omega, hp, hz, ht⟩
      obtain ⟨σ3, e3, f3, y3, k3⟩ := z_m143 d c y2 (by omega)
      obtain ⟨τ, e4, f4, y4, k4⟩ := z_l144 d hq hq7 S (o ++ [c]) σ3 y3
      refine ⟨τ, ?_, (f2.trans f3).trans f4, by rw [ep, ed]; rw [List.append_assoc] at y4; exact y4, fun u u1 u2 u3 => (k4 u u1 u2 u3).trans ((k3 u u3).trans (k2 _ _ (by omega)))⟩
      have h33s : x_I σ1 78 33 = Int32.ofNat ((if z_un c = true then 1 else 0) + z_nc S) := ((x_Isi _ _ _ _ _ _).trans (if_neg (by omega))).trans h33'
      have h32s : x_I σ1 78 32 = Int32.ofNat S.length := (x_Isi _ _ _ _ _ _).trans (if_pos ⟨rfl, rfl⟩)
      have hcs : x_I σ1 91 S.length = c := ((x_Isi _ _ _ _ _ _).trans (if_neg (by omega))).trans hc
      have pre : x_f (d + 1) 144 0 [some (.inr (.inr (some 78))), some (.inl (Int32.ofNat q)), none] [] σ = x_cv (x_run (d + 1) 143 [.inr (.inr (some 78)), .inl c] σ2) fun σ7 => x_f (d + 1) 144 0 [some (.inr (.inr (some 78))), some (.inl (Int32.ofNat q)), none] [] σ7 := by
        rw [x_feq, e144_0, x_k78 hG, h32, if_neg nz, x_k78 hG, x_k78 hG, x_q78_31 hG, x_der_s, x_k91 hG, e1, x_ixk (by omega) (by omega), x_tn (by omega), hc, z_m142, x_ci_s, if_neg (show ¬ Int32.ofNat (z_rank c) < Int32.ofNat q from fun g => absurd (Int32.not_le.mpr g) (fun k => k ((x_le (by omega) (by have := z_rank_le c; omega)).mpr cr))), x_k78 hG, x_k78 hG, h32, e1, x_k78 hG1, x_k78 hG1, x_Qsi, x_q78_31 hG, x_der_s, x_k91 hG1, h32s, x_ixk (by omega) (by omega), x_tn (by omega), hcs, x_k78 hG1, h33s]
        have eA : z_un c = true → Int32.ofNat ((if z_un c = true then 1 else 0) + z_nc S) - 1 = Int32.ofNat (z_nc S) := fun hu => by rw [if_pos hu, Nat.add_comm, x_p1]
        by_cases c13 : c = 13
        · rw [if_pos c13, x_feq, e144_62, x_der_s, x_k78 hG1, eA (by rw [c13]; rfl), x_k78 hG2]
        · rw [if_neg c13]
          by_cases c19 : c = 19
          · rw [if_pos c19, x_feq, e144_62, x_der_s, x_k78 hG1, eA (by rw [c19]; rfl), x_k78 hG2]
          · have eB : Int32.ofNat ((if z_un c = true then 1 else 0) + z_nc S) - 0 = Int32.ofNat (z_nc S) := by
              rw [if_neg (by unfold z_un; rw [decide_eq_false c13, decide_eq_false c19]; decide), Nat.zero_add, Int32.sub_zero]
            rw [if_neg c19, x_k78 hG1, eB, x_k78 hG2]
      rw [pre, e3, x_cv_s]
      exact e4
    · have ep : z_pop q (c :: S) = c :: S := if_neg cr
      have ed : z_pd q (c :: S) = [] := if_neg cr
      refine ⟨σ, ?_, x_fr.refl _ _ _, by rw [ep, ed, List.append_nil]; exact h, fun u _ _ _ => rfl⟩
      rw [x_feq, e144_0, x_k78 hG, h32, if_neg nz, x_k78 hG, x_k78 hG, x_q78_31 hG, x_der_s, x_k91 hG, e1, x_ixk (by omega) (by omega), x_tn (by omega), hc, z_m142, x_ci_s, if_pos (show Int32.ofNat (z_rank c) < Int32.ofNat q from Int32.not_le.mp (fun k => cr ((x_le (by omega) (by have := z_rank_le c; omega)).mp k)))]
theorem z_m144 (d : Nat) {C : Nat → Int32} {z t p : Nat} {q : Nat} (hq : 1 ≤ q) (hq7 : q ≤ 7) {S o : List Int32} {σ : xS} (h : z_YS C z t S o p σ) : ∃ τ, x_run (d + 2) 144 [.inr (.inr (some 78)), .inl (Int32.ofNat q)] σ = some (none, τ) ∧ x_fr (z_yw t) x_w0 σ τ ∧ z_YS C z t (z_pop q S) (o ++ z_pd q S) p τ ∧ ∀ u, u ≠ 32 → u ≠ 33 → u ≠ 34 → x_I τ 78 u = x_I σ 78 u := by
  rw [r144, ← x_feq]
  exact z_l144 d hq hq7 S o σ h
/-- pushes: 145 leaves the nest, 146 counts it -/
theorem z_m145 (d : Nat) {C : Nat → Int32} {z t p : Nat} {S o : List Int32} {σ : xS} (c : Int32) (m : Nat) (h : z_YS C z t S o p σ) (hb : o.length + 1 + S.length ≤ p) (h33 : x_I σ 78 33 = Int32.ofNat m ∨ True) : ∃ τ, x_run (d + 1) 145 [.inr (.inr (some 78)), .inl c] σ = some (none, τ) ∧ x_fr (z_yw t) x_w0 σ τ ∧ x_I τ 78 32 = Int32.ofNat (S.length + 1) ∧ z_stk (c :: S) τ ∧ ∀ b u, ¬ (b = 91 ∧ u = S.length) → ¬ (b = 78 ∧ u = 32) → x_I τ b u = x_I σ b u := by
  obtain ⟨tp, h12, h26, h32, h33', h34, hs, ho, hb0, hp, hz, ht⟩ := h
  have hG := tp.1
  let σ1 := x_si σ 91 S.length c
  have hG1 : x_G σ1 := hG
  have f : x_fr (z_yw t) x_w0 σ (x_si σ1 78 32 (Int32.ofNat (S.length + 1))) := ((x_fr.refl _ _ σ).si _ (Or.inr (Or.inl rfl))).si _ (Or.inl ⟨rfl, by omega⟩)
  refine ⟨_, ?_, f, (x_Isi _ _ _ _ _ _).trans (if_pos ⟨rfl, rfl⟩), ⟨(x_Isi _ _ _ _ _ _).trans ((if_neg (by omega)).trans ((x_Isi _ _ _ _ _ _).trans (if_pos ⟨rfl, rfl⟩))), z_stk.to (fun j hj => (x_Isi _ _ _ _ _ _).trans ((if_neg (by omega)).trans ((x_Isi _ _ _ _ _ _).trans (if_neg (by omega))))) hs⟩, fun b u h1 h2 => (x_Isi _ _ _ _ _ _).trans ((if_neg h2).trans ((x_Isi _ _ _ _ _ _).trans (if_neg h1)))⟩
  rw [r145, e145_0, x_k78 hG, x_k78 hG, x_q78_31 hG, x_der_s, x_k91 hG, h32, x_ixk (by omega) (by omega), x_tn (by omega), x_k78 hG1, x_k78 hG1, x_Isi, if_neg (by omega), h32, x_s1]
theorem z_push (d : Nat) {C : Nat → Int32} {z t p : Nat} {S o : List Int32} {σ : xS} (c : Int32) (hc : z_un c = false) (hc0 : c ≠ 0) (h : z_YS C z t S o p σ) (hb : o.length + 1 + S.length ≤ p) : ∃ τ, x_run (d + 1) 145 [.inr (.inr (some 78)), .inl c] σ = some (none, τ) ∧ x_fr (z_yw t) x_w0 σ τ ∧ z_YS C z t (c :: S) o p τ ∧ ∀ u, u ≠ 32 → x_I τ 78 u = x_I σ 78 u := by
  obtain ⟨τ, e, f, g1, g2, g3⟩ := z_m145 d c 0 h hb (Or.inr trivial)
  obtain ⟨tp, h12, h26, h32, h33, h34, hs, ho, hb0, hp, hz, ht⟩ := h
  refine ⟨τ, e, f, ⟨tp.yw f, (g3 _ _ (by omega) (by omega)).trans h12, (g3 _ _ (by omega) (by omega)).trans h26, g1, ?_, (g3 _ _ (by omega) (by omega)).trans h34, g2, z_out.to (fun j _ => g3 _ _ (by omega) (by omega)) ho, by rw [List.length_cons]; omega, hp, hz, ht⟩, fun u hu => g3 _ _ (by omega) (by omega)⟩
  rw [g3 _ _ (by omega) (by omega), h33]
  show _ = Int32.ofNat ((if c = 0 ∨ z_un c = true then 1 else 0) + z_nc S)
  rw [if_neg (fun g => g.elim hc0 (fun g => by rw [hc] at g; cases g)), Nat.zero_add]
theorem z_m146 (d : Nat) {C : Nat → Int32} {z t p : Nat} {S o : List Int32} {σ : xS} (c : Int32) (hc : c = 0 ∨ z_un c = true) (h : z_YS C z t S o p σ) (hb : o.length + 1 + S.length ≤ p) (hn : z_nc S ≤ 5) : (z_nc S = 5 ∧ x_run (d + 2) 146 [.inr (.inr (some 78)), .inl c] σ = some (some (.inl 0), σ)) ∨ (z_nc S < 5 ∧ ∃ τ, x_run (d + 2) 146 [.inr (.inr (some 78)), .inl c] σ = some (some (.inl 1), τ) ∧ x_fr (z_yw t) x_w0 σ τ ∧ z_YS C z t (c :: S) o p τ ∧ ∀ u, u ≠ 32 → u ≠ 33 → x_I τ 78 u = x_I σ 78 u) := by
  obtain ⟨tp, h12, h26, h32, h33, h34, hs, ho, hb0, hp, hz, ht⟩ := id h
  have hG := tp.1
  by_cases c5 : z_nc S = 5
  · refine Or.inl ⟨c5, ?_⟩
    rw [r146, e146_0, x_k78 hG, h33, c5, if_pos (by decide)]
  · refine Or.inr ⟨by omega, ?_⟩
    let σ1 := x_si σ 78 33 (Int32.ofNat (z_nc S + 1))
    have hG1 : x_G σ1 := hG
    have f1 : x_fr (z_yw t) x_w0 σ σ1 := (x_fr.refl _ _ σ).si _ (Or.inl ⟨rfl, by omega⟩)
    have k1 : ∀ b u, ¬ (b = 78 ∧ u = 33) → x_I σ1 b u = x_I σ b u := fun b u hu => (x_Isi _ _ _ _ _ _).trans (if_neg hu)
    -- a stack with one nest more, for the push alone
    have e33 : x_I σ1 78 33 = Int32.ofNat (z_nc S + 1) := (x_Isi _ _ _ _ _ _).trans (if_pos ⟨rfl, rfl⟩)
    let σ2 := x_si σ1 91 S.length c
    have hG2 : x_G σ2 := hG
    have k2 : ∀ b u, ¬ (b = 91 ∧ u = S.length) → x_I σ2 b u = x_I σ1 b u := fun b u hu => (x_Isi _ _ _ _ _ _).trans (if_neg hu)
    let τ := x_si σ2 78 32 (Int32.ofNat (S.length + 1))
    have k3 : ∀ b u, ¬ (b = 78 ∧ u = 32) → x_I τ b u = x_I σ2 b u := fun b u hu => (x_Isi _ _ _ _ _ _).trans (if_neg hu)
    have f3 : x_fr (z_yw t) x_w0 σ τ := (f1.si _ (Or.inr (Or.inl rfl))).si _ (Or.inl ⟨rfl, by omega⟩)
    have K : ∀ b u, ¬ (b = 78 ∧ (u = 32 ∨ u = 33)) → ¬ (b = 91 ∧ u = S.length) → x_I τ b u = x_I σ b u := fun b u h1 h2 => (k3 _ _ (by omega)).trans ((k2 _ _ h2).trans (k1 _ _ (by omega)))
    refine ⟨τ, ?_, f3, ⟨tp.yw f3, (K _ _ (by omega) (by omega)).trans h12, (K _ _ (by omega) (by omega)).trans h26, (x_Isi _ _ _ _ _ _).trans (if_pos ⟨rfl, rfl⟩), ?_, (K _ _ (by omega) (by omega)).trans h34, ⟨(k3 _ _ (by omega)).trans ((x_Isi _ _ _ _ _ _).trans (if_pos ⟨rfl, rfl⟩)), z_stk.to (fun j hj => K _ _ (by omega) (by omega)) hs⟩, z_out.to (fun j _ => K _ _ (by omega) (by omega)) ho, by rw [List.length_cons]; omega, hp, hz, ht⟩, fun u h1 h2 => K _ _ (by omega) (by omega)⟩
    · have e32 : x_I σ1 78 32 = Int32.ofNat S.length := (k1 _ _ (by omega)).trans h32
      have n5 : ¬ Int32.ofNat (z_nc S) = 5 := fun g => c5 (x_inj32 (b := 5) (by omega) (by omega) g)
      have e145 : x_run (d + 1) 145 [.inr (.inr (some 78)), .inl c] σ1 = some (none, τ) := by
        rw [r145, e145_0, x_k78 hG1, x_k78 hG1, x_q78_31 hG1, x_der_s, x_k91 hG1, e32, x_ixk (by omega) (by omega), x_tn (by omega), x_k78 hG2, x_k78 hG2, show x_I (x_si σ1 91 S.length c) 78 32 = Int32.ofNat S.length from (k2 _ _ (by omega)).trans e32, x_s1]
      rw [r146, e146_0, x_k78 hG, h33, if_neg n5, x_k78 hG, x_k78 hG, x_s1, x_k78 hG1, e145, x_cv_s]
    · refine (k3 _ _ (by omega)).trans ((k2 _ _ (by omega)).trans (e33.trans ?_))
      show _ = Int32.ofNat ((if c = 0 ∨ z_un c = true then 1 else 0) + z_nc S)
      rw [if_pos hc, Nat.add_comm]
