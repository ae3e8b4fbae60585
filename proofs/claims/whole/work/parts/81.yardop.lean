/-! derivations of the grammar; steps of the yard -/
theorem z_tok_b (C : Nat → Int32) {z p : Nat} (hp : p ≤ z) : p ≤ (z_tok C z p).1 ∧ (z_tok C z p).2.1 ≤ z ∧ p ≤ (z_tok C z p).2.1 ∧ ((z_tok C z p).2.2.1 ≠ 300 → p + 1 ≤ (z_tok C z p).2.1) := by
  have b := z_rn_b z_spc C (z - p) p
  unfold z_tok
  generalize z_rn z_spc C (z - p) p = s at *
  have step : ∀ f : Int32 → Bool, f (C s) = true → s ≠ z → s + 1 ≤ z_rn f C (z - s) s := by
    intro f h1 h2
    obtain ⟨m, e⟩ : ∃ m, z - s = m + 1 := ⟨z - s - 1, by omega⟩
    rw [e]
    have us : z_rn f C (m + 1) s = if f (C s) = true then z_rn f C m (s + 1) else s := rfl
    rw [us, if_pos h1]
    exact (z_rn_b f C m (s + 1)).1
  by_cases c0 : s = z
  · rw [if_pos c0]
    exact ⟨b.1, by show s ≤ z; omega, b.1, fun h => absurd rfl h⟩
  · rw [if_neg c0]
    by_cases c1 : z_let (C s) = true
    · rw [if_pos c1]
      have h := step z_let c1 c0
      have h2 := z_rn_b z_let C (z - s) s
      exact ⟨b.1, by show z_rn z_let C (z - s) s ≤ z; omega, by show p ≤ z_rn z_let C (z - s) s; omega, fun _ => by show p + 1 ≤ z_rn z_let C (z - s) s; omega⟩
    · rw [if_neg c1]
      by_cases c2 : z_dig (C s) = true
      · rw [if_pos c2]
        have h := step z_dig c2 c0
        have h2 := z_rn_b z_dig C (z - s) s
        exact ⟨b.1, by show z_rn z_dig C (z - s) s ≤ z; omega, by show p ≤ z_rn z_dig C (z - s) s; omega, fun _ => by show p + 1 ≤ z_rn z_dig C (z - s) s; omega⟩
      · rw [if_neg c2]
        exact ⟨b.1, by show s + 1 ≤ z; omega, by show p ≤ s + 1; omega, fun _ => by show p + 1 ≤ s + 1; omega⟩
def z_knd (k : Nat) : Prop := k = 300 ∨ k = 301 ∨ k = 302 ∨ (310 ≤ k ∧ k ≤ 315) ∨ (320 ≤ k ∧ k ≤ 325) ∨ k = 40 ∨ k = 41 ∨ k = 59 ∨ k = 43 ∨ k = 45 ∨ k = 42 ∨ k = 60 ∨ k = 61
theorem z_knd_pn {c : Int32} (h : z_pun c = true) : z_knd c.toNatClampNeg := by
  unfold z_pun at h
  simp only [Bool.or_eq_true, decide_eq_true_eq] at h
  unfold z_knd
  rcases h with rfl | rfl | rfl | rfl | rfl | rfl | rfl | rfl <;> decide
theorem z_knd_kw (L : List Int32) : z_knd (z_kw L) := by
  have := z_kw_c L
  unfold z_knd
  omega
theorem z_tok_k (C : Nat → Int32) (z p : Nat) : z_knd (z_tok C z p).2.2.1 := by
  unfold z_tok
  generalize z_rn z_spc C (z - p) p = s
  have k301 : z_knd 301 := Or.inr (Or.inl rfl)
  by_cases c0 : s = z
  · rw [if_pos c0]; exact Or.inl rfl
  · rw [if_neg c0]
    by_cases c1 : z_let (C s) = true
    · rw [if_pos c1]
      exact z_knd_kw _
    · rw [if_neg c1]
      by_cases c2 : z_dig (C s) = true
      · rw [if_pos c2]
        show z_knd (if z_rn z_dig C (z - s) s - s ≤ 4 then 302 else 301)
        split
        · exact Or.inr (Or.inr (Or.inl rfl))
        · exact k301
      · rw [if_neg c2]
        show z_knd (if z_pun (C s) = true then (C s).toNatClampNeg else 301)
        by_cases c3 : z_pun (C s) = true
        · rw [if_pos c3]; exact z_knd_pn c3
        · rw [if_neg c3]; exact k301
def z_op (L k : Nat) : Option Int32 := if L = 1 ∧ k = 313 then some 11 else if L = 2 ∧ k = 314 then some 12 else if L = 5 ∧ k = 43 then some 16 else if L = 5 ∧ k = 45 then some 17 else if L = 6 ∧ k = 42 then some 18 else none
def z_sub (L : Nat) : Nat := if L = 2 then 3 else if L = 1 then 2 else if L = 5 then 6 else 7
def z_lp (L : Nat) : Prop := L = 1 ∨ L = 2 ∨ L = 5 ∨ L = 6
def z_D (T : Nat → Nat × (Nat × (Nat × Int32))) (L : Nat) (lp : Bool) (k : Nat) (p : Nat) (w : List Int32) (p' : Nat) (r : Option (List Int32)) : Prop := ∀ M : Nat → Bool → Nat → Nat → List Int32 → Nat → Option (List Int32) → Prop, (∀ {k p}, (T p).2.2.1 = 302 → M 7 false k p [] (T p).2.1 (some [100000 + (T p).2.2.2])) → (∀ {k p}, 320 ≤ (T p).2.2.1 → M 7 false k p [] (T p).2.1 (some [Int32.ofNat ((T p).2.2.1 - 320)])) → (∀ {k p p' w}, (T p).2.2.1 = 45 → M 7 false k (T p).2.1 [] p' (some w) → M 7 false (k + 1) p [] p' (some (w ++ [19]))) → (∀ {k p p'}, (T p).2.2.1 = 45 → M 7 false k (T p).2.1 [] p' none → M 7 false (k + 1) p [] p' none) → (∀ {p}, (T p).2.2.1 = 45 → M 7 false 0 p [] p none) → (∀ {k p p1 w}, (T p).2.2.1 = 40 → M 1 false k (T p).2.1 [] p1 (some w) → (T p1).2.2.1 = 41 → M 7 false (k + 1) p [] (T p1).2.1 (some w)) → (∀ {k p p1}, (T p).2.2.1 = 40 → M 1 false k (T p).2.1 [] p1 none → M 7 false (k + 1) p [] p1 none) → (∀ {k p p1 w}, (T p).2.2.1 = 40 → M 1 false k (T p).2.1 [] p1 (some w) → (T p1).2.2.1 ≠ 41 → M 7 false (k + 1) p [] p1 none) → (∀ {p}, (T p).2.2.1 = 40 → M 7 false 0 p [] p none) → (∀ {k p}, (T p).2.2.1 ≠ 302 → ¬ 320 ≤ (T p).2.2.1 → (T p).2.2.1 ≠ 45 → (T p).2.2.1 ≠ 40 → M 7 false k p [] p none) → (∀ {L k p p1}, z_lp L → M (z_sub L) false k p [] p1 none → M L false k p [] p1 none) → (∀ {L k p p1 w p' r}, z_lp L → M (z_sub L) false k p [] p1 (some w) → M L true k p1 w p' r → M L false k p [] p' r) → (∀ {L k p w}, z_lp L → z_op L (T p).2.2.1 = none → M L true k p w p (some w)) → (∀ {L k p w p1 c}, z_lp L → z_op L (T p).2.2.1 = some c → M (z_sub L) false k (T p).2.1 [] p1 none → M L true k p w p1 none) → (∀ {L k p w p1 w1 p' r c}, z_lp L → z_op L (T p).2.2.1 = some c → M (z_sub L) false k (T p).2.1 [] p1 (some w1) → M L true k p1 (w ++ (w1 ++ [c])) p' r → M L true k p w p' r) → (∀ {k p p' w}, (T p).2.2.1 = 315 → M 3 false k (T p).2.1 [] p' (some w) → M 3 false (k + 1) p [] p' (some (w ++ [13]))) → (∀ {k p p'}, (T p).2.2.1 = 315 → M 3 false k (T p).2.1 [] p' none → M 3 false (k + 1) p [] p' none) → (∀ {p}, (T p).2.2.1 = 315 → M 3 false 0 p [] p none) → (∀ {k p p1}, (T p).2.2.1 ≠ 315 → M 5 false k p [] p1 none → M 3 false k p [] p1 none) → (∀ {k p p1 w}, (T p).2.2.1 ≠ 315 → M 5 false k p [] p1 (some w) → (T p1).2.2.1 ≠ 60 → (T p1).2.2.1 ≠ 61 → M 3 false k p [] p1 (some w)) → (∀ {k p p1 w p2}, (T p).2.2.1 ≠ 315 → M 5 false k p [] p1 (some w) → ((T p1).2.2.1 = 60 ∨ (T p1).2.2.1 = 61) → M 5 false k (T p1).2.1 [] p2 none → M 3 false k p [] p2 none) → (∀ {k p p1 w p2 w2}, (T p).2.2.1 ≠ 315 → M 5 false k p [] p1 (some w) → ((T p1).2.2.1 = 60 ∨ (T p1).2.2.1 = 61) → M 5 false k (T p1).2.1 [] p2 (some w2) → M 3 false k p [] p2 (some (w ++ (w2 ++ [if (T p1).2.2.1 = 60 then 14 else 15])))) → M L lp k p w p' r
theorem z_D.num {T : Nat → Nat × (Nat × (Nat × Int32))} {k p} (a0 : (T p).2.2.1 = 302) : z_D T 7 false k p [] (T p).2.1 (some [100000 + (T p).2.2.2]) := fun M r0 r1 r2 r3 r4 r5 r6 r7 r8 r9 r10 r11 r12 r13 r14 r15 r16 r17 r18 r19 r20 r21 => r0 a0
theorem z_D.name {T : Nat → Nat × (Nat × (Nat × Int32))} {k p} (a0 : 320 ≤ (T p).2.2.1) : z_D T 7 false k p [] (T p).2.1 (some [Int32.ofNat ((T p).2.2.1 - 320)]) := fun M r0 r1 r2 r3 r4 r5 r6 r7 r8 r9 r10 r11 r12 r13 r14 r15 r16 r17 r18 r19 r20 r21 => r1 a0
theorem z_D.neg {T : Nat → Nat × (Nat × (Nat × Int32))} {k p p' w} (a0 : (T p).2.2.1 = 45) (a1 : z_D T 7 false k (T p).2.1 [] p' (some w)) : z_D T 7 false (k + 1) p [] p' (some (w ++ [19])) := fun M r0 r1 r2 r3 r4 r5 r6 r7 r8 r9 r10 r11 r12 r13 r14 r15 r16 r17 r18 r19 r20 r21 => r2 a0 (a1 M @r0 @r1 @r2 @r3 @r4 @r5 @r6 @r7 @r8 @r9 @r10 @r11 @r12 @r13 @r14 @r15 @r16 @r17 @r18 @r19 @r20 @r21)
theorem z_D.negE {T : Nat → Nat × (Nat × (Nat × Int32))} {k p p'} (a0 : (T p).2.2.1 = 45) (a1 : z_D T 7 false k (T p).2.1 [] p' none) : z_D T 7 false (k + 1) p [] p' none := fun M r0 r1 r2 r3 r4 r5 r6 r7 r8 r9 r10 r11 r12 r13 r14 r15 r16 r17 r18 r19 r20 r21 => r3 a0 (a1 M @r0 @r1 @r2 @r3 @r4 @r5 @r6 @r7 @r8 @r9 @r10 @r11 @r12 @r13 @r14 @r15 @r16 @r17 @r18 @r19 @r20 @r21)
theorem z_D.neg0 {T : Nat → Nat × (Nat × (Nat × Int32))} {p} (a0 : (T p).2.2.1 = 45) : z_D T 7 false 0 p [] p none := fun M r0 r1 r2 r3 r4 r5 r6 r7 r8 r9 r10 r11 r12 r13 r14 r15 r16 r17 r18 r19 r20 r21 => r4 a0
theorem z_D.par {T : Nat → Nat × (Nat × (Nat × Int32))} {k p p1 w} (a0 : (T p).2.2.1 = 40) (a1 : z_D T 1 false k (T p).2.1 [] p1 (some w)) (a2 : (T p1).2.2.1 = 41) : z_D T 7 false (k + 1) p [] (T p1).2.1 (some w) := fun M r0 r1 r2 r3 r4 r5 r6 r7 r8 r9 r10 r11 r12 r13 r14 r15 r16 r17 r18 r19 r20 r21 => r5 a0 (a1 M @r0 @r1 @r2 @r3 @r4 @r5 @r6 @r7 @r8 @r9 @r10 @r11 @r12 @r13 @r14 @r15 @r16 @r17 @r18 @r19 @r20 @r21) a2
theorem z_D.parE {T : Nat → Nat × (Nat × (Nat × Int32))} {k p p1} (a0 : (T p).2.2.1 = 40) (a1 : z_D T 1 false k (T p).2.1 [] p1 none) : z_D T 7 false (k + 1) p [] p1 none := fun M r0 r1 r2 r3 r4 r5 r6 r7 r8 r9 r10 r11 r12 r13 r14 r15 r16 r17 r18 r19 r20 r21 => r6 a0 (a1 M @r0 @r1 @r2 @r3 @r4 @r5 @r6 @r7 @r8 @r9 @r10 @r11 @r12 @r13 @r14 @r15 @r16 @r17 @r18 @r19 @r20 @r21)
theorem z_D.parX {T : Nat → Nat × (Nat × (Nat × Int32))} {k p p1 w} (a0 : (T p).2.2.1 = 40) (a1 : z_D T 1 false k (T p).2.1 [] p1 (some w)) (a2 : (T p1).2.2.1 ≠ 41) : z_D T 7 false (k + 1) p [] p1 none := fun M r0 r1 r2 r3 r4 r5 r6 r7 r8 r9 r10 r11 r12 r13 r14 r15 r16 r17 r18 r19 r20 r21 => r7 a0 (a1 M @r0 @r1 @r2 @r3 @r4 @r5 @r6 @r7 @r8 @r9 @r10 @r11 @r12 @r13 @r14 @r15 @r16 @r17 @r18 @r19 @r20 @r21) a2
theorem z_D.par0 {T : Nat → Nat × (Nat × (Nat × Int32))} {p} (a0 : (T p).2.2.1 = 40) : z_D T 7 false 0 p [] p none := fun M r0 r1 r2 r3 r4 r5 r6 r7 r8 r9 r10 r11 r12 r13 r14 r15 r16 r17 r18 r19 r20 r21 => r8 a0
theorem z_D.bad {T : Nat → Nat × (Nat × (Nat × Int32))} {k p} (a0 : (T p).2.2.1 ≠ 302) (a1 : ¬ 320 ≤ (T p).2.2.1) (a2 : (T p).2.2.1 ≠ 45) (a3 : (T p).2.2.1 ≠ 40) : z_D T 7 false k p [] p none := fun M r0 r1 r2 r3 r4 r5 r6 r7 r8 r9 r10 r11 r12 r13 r14 r15 r16 r17 r18 r19 r20 r21 => r9 a0 a1 a2 a3
theorem z_D.fst0 {T : Nat → Nat × (Nat × (Nat × Int32))} {L k p p1} (a0 : z_lp L) (a1 : z_D T (z_sub L) false k p [] p1 none) : z_D T L false k p [] p1 none := fun M r0 r1 r2 r3 r4 r5 r6 r7 r8 r9 r10 r11 r12 r13 r14 r15 r16 r17 r18 r19 r20 r21 => r10 a0 (a1 M @r0 @r1 @r2 @r3 @r4 @r5 @r6 @r7 @r8 @r9 @r10 @r11 @r12 @r13 @r14 @r15 @r16 @r17 @r18 @r19 @r20 @r21)
theorem z_D.fst {T : Nat → Nat × (Nat × (Nat × Int32))} {L k p p1 w p' r} (a0 : z_lp L) (a1 : z_D T (z_sub L) false k p [] p1 (some w)) (a2 : z_D T L true k p1 w p' r) : z_D T L false k p [] p' r := fun M r0 r1 r2 r3 r4 r5 r6 r7 r8 r9 r10 r11 r12 r13 r14 r15 r16 r17 r18 r19 r20 r21 => r11 a0 (a1 M @r0 @r1 @r2 @r3 @r4 @r5 @r6 @r7 @r8 @r9 @r10 @r11 @r12 @r13 @r14 @r15 @r16 @r17 @r18 @r19 @r20 @r21) (a2 M @r0 @r1 @r2 @r3 @r4 @r5 @r6 @r7 @r8 @r9 @r10 @r11 @r12 @r13 @r14 @r15 @r16 @r17 @r18 @r19 @r20 @r21)
theorem z_D.fin {T : Nat → Nat × (Nat × (Nat × Int32))} {L k p w} (a0 : z_lp L) (a1 : z_op L (T p).2.2.1 = none) : z_D T L true k p w p (some w) := fun M r0 r1 r2 r3 r4 r5 r6 r7 r8 r9 r10 r11 r12 r13 r14 r15 r16 r17 r18 r19 r20 r21 => r12 a0 a1
theorem z_D.op0 {T : Nat → Nat × (Nat × (Nat × Int32))} {L k p w p1 c} (a0 : z_lp L) (a1 : z_op L (T p).2.2.1 = some c) (a2 : z_D T (z_sub L) false k (T p).2.1 [] p1 none) : z_D T L true k p w p1 none := fun M r0 r1 r2 r3 r4 r5 r6 r7 r8 r9 r10 r11 r12 r13 r14 r15 r16 r17 r18 r19 r20 r21 => r13 a0 a1 (a2 M @r0 @r1 @r2 @r3 @r4 @r5 @r6 @r7 @r8 @r9 @r10 @r11 @r12 @r13 @r14 @r15 @r16 @r17 @r18 @r19 @r20 @r21)
theorem z_D.op {T : Nat → Nat × (Nat × (Nat × Int32))} {L k p w p1 w1 p' r c} (a0 : z_lp L) (a1 : z_op L (T p).2.2.1 = some c) (a2 : z_D T (z_sub L) false k (T p).2.1 [] p1 (some w1)) (a3 : z_D T L true k p1 (w ++ (w1 ++ [c])) p' r) : z_D T L true k p w p' r := fun M r0 r1 r2 r3 r4 r5 r6 r7 r8 r9 r10 r11 r12 r13 r14 r15 r16 r17 r18 r19 r20 r21 => r14 a0 a1 (a2 M @r0 @r1 @r2 @r3 @r4 @r5 @r6 @r7 @r8 @r9 @r10 @r11 @r12 @r13 @r14 @r15 @r16 @r17 @r18 @r19 @r20 @r21) (a3 M @r0 @r1 @r2 @r3 @r4 @r5 @r6 @r7 @r8 @r9 @r10 @r11 @r12 @r13 @r14 @r15 @r16 @r17 @r18 @r19 @r20 @r21)
theorem z_D.nt {T : Nat → Nat × (Nat × (Nat × Int32))} {k p p' w} (a0 : (T p).2.2.1 = 315) (a1 : z_D T 3 false k (T p).2.1 [] p' (some w)) : z_D T 3 false (k + 1) p [] p' (some (w ++ [13])) := fun M r0 r1 r2 r3 r4 r5 r6 r7 r8 r9 r10 r11 r12 r13 r14 r15 r16 r17 r18 r19 r20 r21 => r15 a0 (a1 M @r0 @r1 @r2 @r3 @r4 @r5 @r6 @r7 @r8 @r9 @r10 @r11 @r12 @r13 @r14 @r15 @r16 @r17 @r18 @r19 @r20 @r21)
theorem z_D.ntE {T : Nat → Nat × (Nat × (Nat × Int32))} {k p p'} (a0 : (T p).2.2.1 = 315) (a1 : z_D T 3 false k (T p).2.1 [] p' none) : z_D T 3 false (k + 1) p [] p' none := fun M r0 r1 r2 r3 r4 r5 r6 r7 r8 r9 r10 r11 r12 r13 r14 r15 r16 r17 r18 r19 r20 r21 => r16 a0 (a1 M @r0 @r1 @r2 @r3 @r4 @r5 @r6 @r7 @r8 @r9 @r10 @r11 @r12 @r13 @r14 @r15 @r16 @r17 @r18 @r19 @r20 @r21)
theorem z_D.nt0 {T : Nat → Nat × (Nat × (Nat × Int32))} {p} (a0 : (T p).2.2.1 = 315) : z_D T 3 false 0 p [] p none := fun M r0 r1 r2 r3 r4 r5 r6 r7 r8 r9 r10 r11 r12 r13 r14 r15 r16 r17 r18 r19 r20 r21 => r17 a0
theorem z_D.cmp0 {T : Nat → Nat × (Nat × (Nat × Int32))} {k p p1} (a0 : (T p).2.2.1 ≠ 315) (a1 : z_D T 5 false k p [] p1 none) : z_D T 3 false k p [] p1 none := fun M r0 r1 r2 r3 r4 r5 r6 r7 r8 r9 r10 r11 r12 r13 r14 r15 r16 r17 r18 r19 r20 r21 => r18 a0 (a1 M @r0 @r1 @r2 @r3 @r4 @r5 @r6 @r7 @r8 @r9 @r10 @r11 @r12 @r13 @r14 @r15 @r16 @r17 @r18 @r19 @r20 @r21)
theorem z_D.cmp1 {T : Nat → Nat × (Nat × (Nat × Int32))} {k p p1 w} (a0 : (T p).2.2.1 ≠ 315) (a1 : z_D T 5 false k p [] p1 (some w)) (a2 : (T p1).2.2.1 ≠ 60) (a3 : (T p1).2.2.1 ≠ 61) : z_D T 3 false k p [] p1 (some w) := fun M r0 r1 r2 r3 r4 r5 r6 r7 r8 r9 r10 r11 r12 r13 r14 r15 r16 r17 r18 r19 r20 r21 => r19 a0 (a1 M @r0 @r1 @r2 @r3 @r4 @r5 @r6 @r7 @r8 @r9 @r10 @r11 @r12 @r13 @r14 @r15 @r16 @r17 @r18 @r19 @r20 @r21) a2 a3
theorem z_D.cmp2 {T : Nat → Nat × (Nat × (Nat × Int32))} {k p p1 w p2} (a0 : (T p).2.2.1 ≠ 315) (a1 : z_D T 5 false k p [] p1 (some w)) (a2 : ((T p1).2.2.1 = 60 ∨ (T p1).2.2.1 = 61)) (a3 : z_D T 5 false k (T p1).2.1 [] p2 none) : z_D T 3 false k p [] p2 none := fun M r0 r1 r2 r3 r4 r5 r6 r7 r8 r9 r10 r11 r12 r13 r14 r15 r16 r17 r18 r19 r20 r21 => r20 a0 (a1 M @r0 @r1 @r2 @r3 @r4 @r5 @r6 @r7 @r8 @r9 @r10 @r11 @r12 @r13 @r14 @r15 @r16 @r17 @r18 @r19 @r20 @r21) a2 (a3 M @r0 @r1 @r2 @r3 @r4 @r5 @r6 @r7 @r8 @r9 @r10 @r11 @r12 @r13 @r14 @r15 @r16 @r17 @r18 @r19 @r20 @r21)
theorem z_D.cmp3 {T : Nat → Nat × (Nat × (Nat × Int32))} {k p p1 w p2 w2} (a0 : (T p).2.2.1 ≠ 315) (a1 : z_D T 5 false k p [] p1 (some w)) (a2 : ((T p1).2.2.1 = 60 ∨ (T p1).2.2.1 = 61)) (a3 : z_D T 5 false k (T p1).2.1 [] p2 (some w2)) : z_D T 3 false k p [] p2 (some (w ++ (w2 ++ [if (T p1).2.2.1 = 60 then 14 else 15]))) := fun M r0 r1 r2 r3 r4 r5 r6 r7 r8 r9 r10 r11 r12 r13 r14 r15 r16 r17 r18 r19 r20 r21 => r21 a0 (a1 M @r0 @r1 @r2 @r3 @r4 @r5 @r6 @r7 @r8 @r9 @r10 @r11 @r12 @r13 @r14 @r15 @r16 @r17 @r18 @r19 @r20 @r21) a2 (a3 M @r0 @r1 @r2 @r3 @r4 @r5 @r6 @r7 @r8 @r9 @r10 @r11 @r12 @r13 @r14 @r15 @r16 @r17 @r18 @r19 @r20 @r21)
theorem z_D_ind {T : Nat → Nat × (Nat × (Nat × Int32))} {motive : (L : Nat) → (lp : Bool) → (k : Nat) → (p : Nat) → (w : List Int32) → (p' : Nat) → (r : Option (List Int32)) → z_D T L lp k p w p' r → Prop} (num : ∀ {k p} (a0 : (T p).2.2.1 = 302), motive 7 false k p [] (T p).2.1 (some [100000 + (T p).2.2.2]) (z_D.num a0)) (name : ∀ {k p} (a0 : 320 ≤ (T p).2.2.1), motive 7 false k p [] (T p).2.1 (some [Int32.ofNat ((T p).2.2.1 - 320)]) (z_D.name a0)) (neg : ∀ {k p p' w} (a0 : (T p).2.2.1 = 45) (a1 : z_D T 7 false k (T p).2.1 [] p' (some w)), motive 7 false k (T p).2.1 [] p' (some w) a1 → motive 7 false (k + 1) p [] p' (some (w ++ [19])) (z_D.neg a0 a1)) (negE : ∀ {k p p'} (a0 : (T p).2.2.1 = 45) (a1 : z_D T 7 false k (T p).2.1 [] p' none), motive 7 false k (T p).2.1 [] p' none a1 → motive 7 false (k + 1) p [] p' none (z_D.negE a0 a1)) (neg0 : ∀ {p} (a0 : (T p).2.2.1 = 45), motive 7 false 0 p [] p none (z_D.neg0 a0)) (par : ∀ {k p p1 w} (a0 : (T p).2.2.1 = 40) (a1 : z_D T 1 false k (T p).2.1 [] p1 (some w)) (a2 : (T p1).2.2.1 = 41), motive 1 false k (T p).2.1 [] p1 (some w) a1 → motive 7 false (k + 1) p [] (T p1).2.1 (some w) (z_D.par a0 a1 a2)) (parE : ∀ {k p p1} (a0 : (T p).2.2.1 = 40) (a1 : z_D T 1 false k (T p).2.1 [] p1 none), motive 1 false k (T p).2.1 [] p1 none a1 → motive 7 false (k + 1) p [] p1 none (z_D.parE a0 a1)) (parX : ∀ {k p p1 w} (a0 : (T p).2.2.1 = 40) (a1 : z_D T 1 false k (T p).2.1 [] p1 (some w)) (a2 : (T p1).2.2.1 ≠ 41), motive 1 false k (T p).2.1 [] p1 (some w) a1 → motive 7 false (k + 1) p [] p1 none (z_D.parX a0 a1 a2)) (par0 : ∀ {p} (a0 : (T p).2.2.1 = 40), motive 7 false 0 p [] p none (z_D.par0 a0)) (bad : ∀ {k p} (a0 : (T p).2.2.1 ≠ 302) (a1 : ¬ 320 ≤ (T p).2.2.1) (a2 : (T p).2.2.1 ≠ 45) (a3 : (T p).2.2.1 ≠ 40), motive 7 false k p [] p none (z_D.bad a0 a1 a2 a3)) (fst0 : ∀ {L k p p1} (a0 : z_lp L) (a1 : z_D T (z_sub L) false k p [] p1 none), motive (z_sub L) false k p [] p1 none a1 → motive L false k p [] p1 none (z_D.fst0 a0 a1)) (fst : ∀ {L k p p1 w p' r} (a0 : z_lp L) (a1 : z_D T (z_sub L) false k p [] p1 (some w)) (a2 : z_D T L true k p1 w p' r), motive (z_sub L) false k p [] p1 (some w) a1 → motive L true k p1 w p' r a2 → motive L false k p [] p' r (z_D.fst a0 a1 a2)) (fin : ∀ {L k p w} (a0 : z_lp L) (a1 : z_op L (T p).2.2.1 = none), motive L true k p w p (some w) (z_D.fin a0 a1)) (op0 : ∀ {L k p w p1 c} (a0 : z_lp L) (a1 : z_op L (T p).2.2.1 = some c) (a2 : z_D T (z_sub L) false k (T p).2.1 [] p1 none), motive (z_sub L) false k (T p).2.1 [] p1 none a2 → motive L true k p w p1 none (z_D.op0 a0 a1 a2)) (op : ∀ {L k p w p1 w1 p' r c} (a0 : z_lp L) (a1 : z_op L (T p).2.2.1 = some c) (a2 : z_D T (z_sub L) false k (T p).2.1 [] p1 (some w1)) (a3 : z_D T L true k p1 (w ++ (w1 ++ [c])) p' r), motive (z_sub L) false k (T p).2.1 [] p1 (some w1) a2 → motive L true k p1 (w ++ (w1 ++ [c])) p' r a3 → motive L true k p w p' r (z_D.op a0 a1 a2 a3)) (nt : ∀ {k p p' w} (a0 : (T p).2.2.1 = 315) (a1 : z_D T 3 false k (T p).2.1 [] p' (some w)), motive 3 false k (T p).2.1 [] p' (some w) a1 → motive 3 false (k + 1) p [] p' (some (w ++ [13])) (z_D.nt a0 a1)) (ntE : ∀ {k p p'} (a0 : (T p).2.2.1 = 315) (a1 : z_D T 3 false k (T p).2.1 [] p' none), motive 3 false k (T p).2.1 [] p' none a1 → motive 3 false (k + 1) p [] p' none (z_D.ntE a0 a1)) (nt0 : ∀ {p} (a0 : (T p).2.2.1 = 315), motive 3 false 0 p [] p none (z_D.nt0 a0)) (cmp0 : ∀ {k p p1} (a0 : (T p).2.2.1 ≠ 315) (a1 : z_D T 5 false k p [] p1 none), motive 5 false k p [] p1 none a1 → motive 3 false k p [] p1 none (z_D.cmp0 a0 a1)) (cmp1 : ∀ {k p p1 w} (a0 : (T p).2.2.1 ≠ 315) (a1 : z_D T 5 false k p [] p1 (some w)) (a2 : (T p1).2.2.1 ≠ 60) (a3 : (T p1).2.2.1 ≠ 61), motive 5 false k p [] p1 (some w) a1 → motive 3 false k p [] p1 (some w) (z_D.cmp1 a0 a1 a2 a3)) (cmp2 : ∀ {k p p1 w p2} (a0 : (T p).2.2.1 ≠ 315) (a1 : z_D T 5 false k p [] p1 (some w)) (a2 : ((T p1).2.2.1 = 60 ∨ (T p1).2.2.1 = 61)) (a3 : z_D T 5 false k (T p1).2.1 [] p2 none), motive 5 false k p [] p1 (some w) a1 → motive 5 false k (T p1).2.1 [] p2 none a3 → motive 3 false k p [] p2 none (z_D.cmp2 a0 a1 a2 a3)) (cmp3 : ∀ {k p p1 w p2 w2} (a0 : (T p).2.2.1 ≠ 315) (a1 : z_D T 5 false k p [] p1 (some w)) (a2 : ((T p1).2.2.1 = 60 ∨ (T p1).2.2.1 = 61)) (a3 : z_D T 5 false k (T p1).2.1 [] p2 (some w2)), motive 5 false k p [] p1 (some w) a1 → motive 5 false k (T p1).2.1 [] p2 (some w2) a3 → motive 3 false k p [] p2 (some (w ++ (w2 ++ [if (T p1).2.2.1 = 60 then 14 else 15]))) (z_D.cmp3 a0 a1 a2 a3)) {L : Nat} {lp : Bool} {k : Nat} {p : Nat} {w : List Int32} {p' : Nat} {r : Option (List Int32)} (h : z_D T L lp k p w p' r) : motive L lp k p w p' r h := by
  obtain ⟨h', m⟩ := h (fun L lp k p w p' r => ∃ h, motive L lp k p w p' r h) (fun a0 => ⟨_, num a0⟩) (fun a0 => ⟨_, name a0⟩) (fun a0 ⟨a1, m1⟩ => ⟨_, neg a0 a1 m1⟩) (fun a0 ⟨a1, m1⟩ => ⟨_, negE a0 a1 m1⟩) (fun a0 => ⟨_, neg0 a0⟩) (fun a0 ⟨a1, m1⟩ a2 => ⟨_, par a0 a1 a2 m1⟩) (fun a0 ⟨a1, m1⟩ => ⟨_, parE a0 a1 m1⟩) (fun a0 ⟨a1, m1⟩ a2 => ⟨_, parX a0 a1 a2 m1⟩) (fun a0 => ⟨_, par0 a0⟩) (fun a0 a1 a2 a3 => ⟨_, bad a0 a1 a2 a3⟩) (fun a0 ⟨a1, m1⟩ => ⟨_, fst0 a0 a1 m1⟩) (fun a0 ⟨a1, m1⟩ ⟨a2, m2⟩ => ⟨_, fst a0 a1 a2 m1 m2⟩) (fun a0 a1 => ⟨_, fin a0 a1⟩) (fun a0 a1 ⟨a2, m2⟩ => ⟨_, op0 a0 a1 a2 m2⟩) (fun a0 a1 ⟨a2, m2⟩ ⟨a3, m3⟩ => ⟨_, op a0 a1 a2 a3 m2 m3⟩) (fun a0 ⟨a1, m1⟩ => ⟨_, nt a0 a1 m1⟩) (fun a0 ⟨a1, m1⟩ => ⟨_, ntE a0 a1 m1⟩) (fun a0 => ⟨_, nt0 a0⟩) (fun a0 ⟨a1, m1⟩ => ⟨_, cmp0 a0 a1 m1⟩) (fun a0 ⟨a1, m1⟩ a2 a3 => ⟨_, cmp1 a0 a1 a2 a3 m1⟩) (fun a0 ⟨a1, m1⟩ a2 ⟨a3, m3⟩ => ⟨_, cmp2 a0 a1 a2 a3 m1 m3⟩) (fun a0 ⟨a1, m1⟩ a2 ⟨a3, m3⟩ => ⟨_, cmp3 a0 a1 a2 a3 m1 m3⟩)
  exact m
/-- the next token of the yard -/
theorem z_next (d : Nat) {C : Nat → Int32} {z t p : Nat} {S o : List Int32} {σ : xS} (h : z_YS C z t S o p σ) : ∃ τ, x_run (d + 3) 141 [.inr (.inr (some 78))] σ = some (none, τ) ∧ x_fr (z_yw t) x_w0 σ τ ∧ z_YS C z t S o (z_tok C z p).2.1 τ ∧ z_rcur (z_tok C z p) τ := by
  obtain ⟨tp, h12, h26, h32, h33, h34, hs, ho, hb0, hp, hz, ht⟩ := h
  obtain ⟨τ, e, f, g⟩ := z_m141 d hz hp tp h26
  have b := z_tok_b C hp
  have F : ∀ b u, ¬ (b = 78 ∧ 26 ≤ u ∧ u ≤ 29) → x_I τ b u = x_I σ b u := fun b u hu => f.I (by unfold z_lr; omega)
  exact ⟨τ, e, f.mono (fun b u h => Or.inl ⟨h.1, Or.inl h.2⟩) (fun _ _ h => h), ⟨tp.lr f, (F _ _ (by omega)).trans h12, g.1, (F _ _ (by omega)).trans h32, (F _ _ (by omega)).trans h33, (F _ _ (by omega)).trans h34, z_stk.to (fun j _ => F _ _ (by omega)) hs, z_out.to (fun j _ => F _ _ (by omega)) ho, by omega, b.2.1, hz, ht⟩, g⟩
/-- an operand's code, then all of rank 7 -/
theorem z_l61 (d : Nat) {C : Nat → Int32} {z t p : Nat} {S o : List Int32} {σ : xS} (c i2 : Int32) (h : z_YS C z t S o p σ) (hb : o.length + 1 + S.length ≤ p) : ∃ τ, x_f (d + 3) 149 61 [some (.inr (.inr (some 78))), none, some (.inl i2), none] [.inl c, .inr (.inr (some 78))] σ = x_f (d + 3) 149 14 [some (.inr (.inr (some 78))), some (.inl 0), some (.inl i2), none] [] τ ∧ x_fr (z_yw t) x_w0 σ τ ∧ z_YS C z t (z_pop 7 S) (o ++ (c :: z_pd 7 S)) p τ := by
  obtain ⟨σ1, e1, f1, y1, -⟩ := z_m143 (d + 2) c h hb
  obtain ⟨τ, e2, f2, y2, -⟩ := z_m144 (d + 1) (q := 7) (by omega) (by omega) y1
  refine ⟨τ, ?_, f1.trans f2, by rw [List.append_assoc] at y2; exact y2⟩
  rw [x_feq, e149_61, x_der_s, x_k78 h.1.1, e1, x_cv_s, x_k78 y1.1.1, show (7 : Int32) = Int32.ofNat 7 from rfl, e2, x_cv_s]
theorem z_opd (d : Nat) {C : Nat → Int32} {z t p : Nat} {S o : List Int32} {σ : xS} (i2 : Int32) (h : z_YS C z t S o p σ) (hk : (z_tok C z p).2.2.1 = 302 ∨ 320 ≤ (z_tok C z p).2.2.1) : ∃ τ, x_f (d + 3) 149 14 [some (.inr (.inr (some 78))), some (.inl 1), some (.inl i2), none] [] σ = x_f (d + 3) 149 14 [some (.inr (.inr (some 78))), some (.inl 0), some (.inl i2), none] [] τ ∧ x_fr (z_yw t) x_w0 σ τ ∧ z_YS C z t (z_pop 7 S) (o ++ ((if (z_tok C z p).2.2.1 = 302 then 100000 + (z_tok C z p).2.2.2 else Int32.ofNat ((z_tok C z p).2.2.1 - 320)) :: z_pd 7 S)) (z_tok C z p).2.1 τ := by
  obtain ⟨σ1, e1, f1, y1, g1, g2, g3, g4, g5, g6⟩ := z_next d h
  have hG1 := y1.1.1
  have b := z_tok_b C h.2.2.2.2.2.2.2.2.2.1
  have hb0 := h.2.2.2.2.2.2.2.2.1
  have hb : o.length + 1 + S.length ≤ (z_tok C z p).2.1 := by have := b.2.2.2 (by omega); omega
  obtain ⟨τ, e2, f2, y2⟩ := z_l61 d (if (z_tok C z p).2.2.1 = 302 then 100000 + (z_tok C z p).2.2.2 else Int32.ofNat ((z_tok C z p).2.2.1 - 320)) i2 y1 hb
  refine ⟨τ, ?_, f1.trans f2, y2⟩
  refine Eq.trans ?_ e2
  have one : ¬ (1 : Int32) = 0 := by decide
  have kk := z_tok_k C z p
  generalize z_tok C z p = tk at *
  rw [x_feq, e149_14, x_k78 h.1.1, e1, x_cv_s, if_neg one, x_k78 hG1]
  by_cases c : tk.2.2.1 = 302
  · have r1 : z_rk tk.2.2.1 = 1 := by rw [c]; rfl
    rw [g3, r1, if_pos rfl, x_k78 hG1, if_pos rfl, x_k78 hG1, g4 c, if_pos c]
  · have k320 : 320 ≤ tk.2.2.1 := hk.resolve_left c
    have r2 : z_rk tk.2.2.1 = 2 := by
      unfold z_knd at kk
      rcases (show tk.2.2.1 = 320 ∨ tk.2.2.1 = 321 ∨ tk.2.2.1 = 322 ∨ tk.2.2.1 = 323 ∨ tk.2.2.1 = 324 ∨ tk.2.2.1 = 325 by omega) with e | e | e | e | e | e <;> rw [e] <;> rfl
    rw [g3, r2, if_neg (by decide), x_k78 hG1, if_pos rfl, x_k78 hG1, if_neg (by decide), x_k78 hG1, g6 k320, if_neg c]
/-- '-', '(' and 'not' before an operand: nest -/
theorem z_pre (d : Nat) {C : Nat → Int32} {z t p : Nat} {S o : List Int32} {σ : xS} (i2 : Int32) (h : z_YS C z t S o p σ) (hn : z_nc S ≤ 5) (k : Nat) (hk : (z_tok C z p).2.2.1 = k) (h3 : (k = 45) ∨ (k = 40) ∨ (k = 315 ∧ i2 = 1)) : (z_nc S = 5 ∧ ∃ τ, x_f (d + 3) 149 14 [some (.inr (.inr (some 78))), some (.inl 1), some (.inl i2), none] [] σ = some (some (.inl 0), τ) ∧ x_fr (z_yw t) x_w0 σ τ ∧ x_I τ 78 27 = Int32.ofNat (z_tok C z p).1) ∨ (z_nc S < 5 ∧ ∃ τ, x_f (d + 3) 149 14 [some (.inr (.inr (some 78))), some (.inl 1), some (.inl i2), none] [] σ = x_f (d + 3) 149 14 [some (.inr (.inr (some 78))), some (.inl 1), some (.inl (if k = 45 then 0 else 1)), none] [] τ ∧ x_fr (z_yw t) x_w0 σ τ ∧ z_YS C z t ((if k = 45 then 19 else if k = 40 then 0 else 13) :: S) o (z_tok C z p).2.1 τ) := by
  obtain ⟨σ1, e1, f1, y1, g1, g2, g3, g4, g5, g6⟩ := z_next d h
  have hG1 := y1.1.1
  have b := z_tok_b C h.2.2.2.2.2.2.2.2.2.1
  have hb0 := h.2.2.2.2.2.2.2.2.1
  have hb : o.length + 1 + S.length ≤ (z_tok C z p).2.1 := by have := b.2.2.2 (by omega); omega
  have one : ¬ (1 : Int32) = 0 := by decide
  have z0 : (0 : Int32) = 0 := rfl
  rw [hk] at g3
  have hun : (if k = 45 then (19 : Int32) else if k = 40 then 0 else 13) = 0 ∨ z_un (if k = 45 then (19 : Int32) else if k = 40 then 0 else 13) = true := by
    by_cases c : k = 45
    · rw [if_pos c]; exact Or.inr rfl
    · rw [if_neg c]
      by_cases c2 : k = 40
      · rw [if_pos c2]; exact Or.inl rfl
      · rw [if_neg c2]; exact Or.inr rfl
  have m := z_m146 (d + 1) (if k = 45 then 19 else if k = 40 then 0 else 13) hun y1 hb hn
  have pre : ∀ R, x_ci (x_run (d + 3) 146 [.inr (.inr (some 78)), .inl (if k = 45 then 19 else if k = 40 then 0 else 13)] σ1) (fun x4 σ3 => if x4 = 0 then some (some (.inl 0), σ3) else x_f (d + 3) 149 14 [some (.inr (.inr (some 78))), some (.inl 1), some (.inl (if k = 45 then 0 else 1)), none] [] σ3) = R → x_f (d + 3) 149 14 [some (.inr (.inr (some 78))), some (.inl 1), some (.inl i2), none] [] σ = R := by
    intro R e
    rw [x_feq, e149_14, x_k78 h.1.1, e1, x_cv_s, if_neg one, x_k78 hG1, g3]
    rcases h3 with c | c | ⟨c, c2⟩
    · subst c
      rw [show z_rk 45 = 45 from rfl, if_neg (by decide), x_k78 hG1, if_neg (by decide), x_k78 hG1, if_neg (by decide), x_feq, e149_99, x_k78 hG1, g3, show z_rk 45 = 45 from rfl, if_pos rfl, x_k78 hG1]
      exact e
    · subst c
      rw [show z_rk 40 = 40 from rfl, if_neg (by decide), x_k78 hG1, if_neg (by decide), x_k78 hG1, if_neg (by decide), x_feq, e149_99, x_k78 hG1, g3, show z_rk 40 = 40 from rfl, if_neg (by decide), x_k78 hG1, if_pos rfl, x_k78 hG1]
      exact e
    · subst c
      subst c2
      rw [show z_rk 315 = 6 from rfl, if_neg (by decide), x_k78 hG1, if_neg (by decide), x_k78 hG1, if_pos rfl, if_neg one, x_k78 hG1]
      exact e
  rcases m with ⟨n5, e⟩ | ⟨n5, τ, e, f, y, -⟩
  · refine Or.inl ⟨n5, σ1, pre _ ?_, f1, g2⟩
    rw [e, x_ci_s, if_pos z0]
  · refine Or.inr ⟨n5, τ, pre _ ?_, f1.trans f, y⟩
    rw [e, x_ci_s, if_neg one]
/-- no operand -/
theorem z_nop (d : Nat) {C : Nat → Int32} {z t p : Nat} {S o : List Int32} {σ : xS} (i2 : Int32) (h : z_YS C z t S o p σ) (k : Nat) (hk : (z_tok C z p).2.2.1 = k) (n1 : k ≠ 302) (n2 : ¬ 320 ≤ k) (n3 : k ≠ 45) (n4 : k ≠ 40) (n5 : i2 = 0 ∨ k ≠ 315) : ∃ τ, x_f (d + 3) 149 14 [some (.inr (.inr (some 78))), some (.inl 1), some (.inl i2), none] [] σ = some (some (.inl 0), τ) ∧ x_fr (z_yw t) x_w0 σ τ ∧ x_I τ 78 27 = Int32.ofNat (z_tok C z p).1 := by
  obtain ⟨σ1, e1, f1, y1, g1, g2, g3, g4, g5, g6⟩ := z_next d h
  have hG1 := y1.1.1
  have one : ¬ (1 : Int32) = 0 := by decide
  have kk := z_tok_k C z p
  rw [hk] at g3 kk
  refine ⟨σ1, ?_, f1, g2⟩
  rw [x_feq, e149_14, x_k78 h.1.1, e1, x_cv_s, if_neg one, x_k78 hG1, g3]
  unfold z_knd at kk
  have fin : ∀ v : Int32, z_rk k = v → v ≠ 45 → v ≠ 40 → x_f (d + 3) 149 99 [some (.inr (.inr (some 78))), some (.inl 1), none, none] [] σ1 = some (some (.inl 0), σ1) := by
    intro v e v1 v2
    rw [x_feq, e149_99, x_k78 hG1, g3, e, if_neg v1, x_k78 hG1, if_neg v2]
  by_cases c : k = 315
  · subst c
    have i0 : i2 = 0 := n5.resolve_right (fun h => h rfl)
    rw [show z_rk 315 = 6 from rfl, if_neg (by decide), x_k78 hG1, if_neg (by decide), x_k78 hG1, if_pos rfl, if_pos i0]
    exact fin 6 rfl (by decide) (by decide)
  · have r : ∀ v : Int32, z_rk k = v → v ≠ 1 → v ≠ 2 → v ≠ 6 → v ≠ 45 → v ≠ 40 → (if z_rk k = 1 then (x_ck σ1 78 10 (if z_rk k = 1 then x_ck σ1 78 10 (x_f (d + 3) 149 61 [some (.inr (.inr (some 78))), none, some (.inl i2), none] [.inl (100000 + x_I σ1 78 29), .inr (.inr (some 78))] σ1) else x_ck σ1 78 10 (x_f (d + 3) 149 61 [some (.inr (.inr (some 78))), none, some (.inl i2), none] [.inl (x_I σ1 78 29), .inr (.inr (some 78))] σ1))) else x_ck σ1 78 10 (if z_rk k = 2 then (x_ck σ1 78 10 (if z_rk k = 1 then x_ck σ1 78 10 (x_f (d + 3) 149 61 [some (.inr (.inr (some 78))), none, some (.inl i2), none] [.inl (100000 + x_I σ1 78 29), .inr (.inr (some 78))] σ1) else x_ck σ1 78 10 (x_f (d + 3) 149 61 [some (.inr (.inr (some 78))), none, some (.inl i2), none] [.inl (x_I σ1 78 29), .inr (.inr (some 78))] σ1))) else x_ck σ1 78 10 (if z_rk k = 6 then (if i2 = 0 then x_f (d + 3) 149 99 [some (.inr (.inr (some 78))), some (.inl 1), none, none] [] σ1 else x_ck σ1 78 10 (x_ci (x_run (d + 3) 146 [.inr (.inr (some 78)), .inl 13] σ1) fun x10 σ9 => if x10 = 0 then some (some (.inl 0), σ9) else x_f (d + 3) 149 14 [some (.inr (.inr (some 78))), some (.inl 1), some (.inl i2), none] [] σ9)) else x_f (d + 3) 149 99 [some (.inr (.inr (some 78))), some (.inl 1), none, none] [] σ1))) = some (some (.inl 0), σ1) := by
      intro v e v1 v2 v3 v4 v5
      rw [e, if_neg v1, x_k78 hG1, if_neg v2, x_k78 hG1, if_neg v3]
      exact fin v e v4 v5
    rcases (show k = 300 ∨ k = 301 ∨ k = 310 ∨ k = 311 ∨ k = 312 ∨ k = 313 ∨ k = 314 ∨ k = 41 ∨ k = 59 ∨ k = 43 ∨ k = 42 ∨ k = 60 ∨ k = 61 by omega) with e | e | e | e | e | e | e | e | e | e | e | e | e
    · exact r 0 (by rw [e]; rfl) (by decide) (by decide) (by decide) (by decide) (by decide)
    · exact r (-1) (by rw [e]; rfl) (by decide) (by decide) (by decide) (by decide) (by decide)
    · exact r 3 (by rw [e]; rfl) (by decide) (by decide) (by decide) (by decide) (by decide)
    · exact r 3 (by rw [e]; rfl) (by decide) (by decide) (by decide) (by decide) (by decide)
    · exact r 3 (by rw [e]; rfl) (by decide) (by decide) (by decide) (by decide) (by decide)
    · exact r 4 (by rw [e]; rfl) (by decide) (by decide) (by decide) (by decide) (by decide)
    · exact r 5 (by rw [e]; rfl) (by decide) (by decide) (by decide) (by decide) (by decide)
    · exact r 41 (by rw [e]; rfl) (by decide) (by decide) (by decide) (by decide) (by decide)
    · exact r 59 (by rw [e]; rfl) (by decide) (by decide) (by decide) (by decide) (by decide)
    · exact r 43 (by rw [e]; rfl) (by decide) (by decide) (by decide) (by decide) (by decide)
    · exact r 42 (by rw [e]; rfl) (by decide) (by decide) (by decide) (by decide) (by decide)
    · exact r 60 (by rw [e]; rfl) (by decide) (by decide) (by decide) (by decide) (by decide)
    · exact r 61 (by rw [e]; rfl) (by decide) (by decide) (by decide) (by decide) (by decide)
