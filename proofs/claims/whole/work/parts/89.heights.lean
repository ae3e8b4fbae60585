/-! heights and kinds of what the descent gives -/
theorem z_hgt_app : ∀ (a b : List Int32) (h : Nat), x_hgt (a ++ b) h = (x_hgt a h).bind (x_hgt b)
  | [], b, h => rfl
  | c :: a, b, h => by
    show (x_hg1 c h).bind (x_hgt (a ++ b)) = ((x_hg1 c h).bind (x_hgt a)).bind (x_hgt b)
    cases x_hg1 c h with
    | none => rfl
    | some g => exact z_hgt_app a b g
def z_good (w : List Int32) : Prop := (∀ c ∈ w, x_okc c = true) ∧ ∀ h, x_hgt w h = some (h + 1)
theorem z_good1 {c : Int32} (h1 : x_okc c = true) (h2 : 100000 ≤ c ∨ c < 11) : z_good [c] := by
  refine ⟨fun a ha => by rw [List.mem_singleton.mp ha]; exact h1, fun h => ?_⟩
  show (x_hg1 c h).bind (x_hgt []) = _
  unfold x_hg1
  rw [if_pos h2]
  rfl
theorem z_good_u {w : List Int32} (h : z_good w) {c : Int32} (hc : c = 13 ∨ c = 19) : z_good (w ++ [c]) := by
  refine ⟨fun a ha => ?_, fun g => ?_⟩
  · rcases List.mem_append.mp ha with e | e
    · exact h.1 a e
    · rw [List.mem_singleton.mp e]
      rcases hc with rfl | rfl <;> decide
  · rw [z_hgt_app, h.2]
    show (x_hg1 c (g + 1)).bind (x_hgt []) = _
    rcases hc with rfl | rfl <;> rfl
theorem z_good_b {w w1 : List Int32} (h : z_good w) (h1 : z_good w1) {c : Int32} (hc : c = 11 ∨ c = 12 ∨ c = 14 ∨ c = 15 ∨ c = 16 ∨ c = 17 ∨ c = 18) : z_good (w ++ (w1 ++ [c])) := by
  refine ⟨fun a ha => ?_, fun g => ?_⟩
  · rcases List.mem_append.mp ha with e | e
    · exact h.1 a e
    · rcases List.mem_append.mp e with e | e
      · exact h1.1 a e
      · rw [List.mem_singleton.mp e]
        rcases hc with rfl | rfl | rfl | rfl | rfl | rfl | rfl <;> decide
  · rw [z_hgt_app, h.2]
    show x_hgt (w1 ++ [c]) (g + 1) = _
    rw [z_hgt_app, h1.2]
    show (x_hg1 c (g + 1 + 1)).bind (x_hgt []) = _
    rcases hc with rfl | rfl | rfl | rfl | rfl | rfl | rfl <;> rfl
theorem z_op_c {L k : Nat} {c : Int32} (h : z_op L k = some c) : c = 11 ∨ c = 12 ∨ c = 14 ∨ c = 15 ∨ c = 16 ∨ c = 17 ∨ c = 18 := by
  unfold z_op at h
  by_cases c1 : L = 1 ∧ k = 313
  · rw [if_pos c1] at h; cases h; exact Or.inl rfl
  rw [if_neg c1] at h
  by_cases c1 : L = 2 ∧ k = 314
  · rw [if_pos c1] at h; cases h; exact Or.inr (Or.inl rfl)
  rw [if_neg c1] at h
  by_cases c1 : L = 5 ∧ k = 43
  · rw [if_pos c1] at h; cases h; exact Or.inr (Or.inr (Or.inr (Or.inr (Or.inl rfl))))
  rw [if_neg c1] at h
  by_cases c1 : L = 5 ∧ k = 45
  · rw [if_pos c1] at h; cases h; exact Or.inr (Or.inr (Or.inr (Or.inr (Or.inr (Or.inl rfl)))))
  rw [if_neg c1] at h
  by_cases c1 : L = 6 ∧ k = 42
  · rw [if_pos c1] at h; cases h; exact Or.inr (Or.inr (Or.inr (Or.inr (Or.inr (Or.inr rfl)))))
  rw [if_neg c1] at h
  cases h
theorem z_D_good {C : Nat → Int32} {z L k p p' : Nat} {lp : Bool} {w : List Int32} {r : Option (List Int32)} (h : z_D (z_tok C z) L lp k p w p' r) : (lp = true → z_good w) → ∀ w', r = some w' → z_good w' := by
  induction h using z_D_ind with
  | @num k p hk =>
    intro _ w' e
    cases e
    obtain ⟨v, ev, hv⟩ := z_tok_v C z p hk
    have e1 : (100000 : Int32) + (z_tok C z p).2.2.2 = Int32.ofNat (100000 + v) := by
      rw [ev, show (100000 : Int32) = Int32.ofNat 100000 from rfl, ← Int32.ofNat_add]
    have l1 : (100000 : Int32) ≤ Int32.ofNat (100000 + v) := (x_le (a := 100000) (by omega) (by omega)).mpr (by omega)
    have l2 : Int32.ofNat (100000 + v) ≤ 109999 := (x_le (b := 109999) (by omega) (by omega)).mpr (by omega)
    refine z_good1 ?_ ?_
    · rw [e1]; unfold x_okc; rw [decide_eq_true l1, decide_eq_true l2]; rfl
    · rw [e1]; exact Or.inl l1
  | @name k p hk =>
    intro _ w' e
    cases e
    have kk := z_tok_k C z p
    unfold z_knd at kk
    rcases (show (z_tok C z p).2.2.1 = 320 ∨ (z_tok C z p).2.2.1 = 321 ∨ (z_tok C z p).2.2.1 = 322 ∨ (z_tok C z p).2.2.1 = 323 ∨ (z_tok C z p).2.2.1 = 324 ∨ (z_tok C z p).2.2.1 = 325 by omega) with e | e | e | e | e | e <;> rw [e] <;> exact z_good1 (by decide) (Or.inr (by decide))
  | neg _ _ ih => intro _ w' e; cases e; exact z_good_u (ih (fun e => by cases e) _ rfl) (Or.inr rfl)
  | negE _ _ _ => intro _ w' e; cases e
  | neg0 _ => intro _ w' e; cases e
  | par _ _ _ ih => intro _ w' e; cases e; exact ih (fun e => by cases e) _ rfl
  | parE _ _ _ => intro _ w' e; cases e
  | parX _ _ _ _ => intro _ w' e; cases e
  | par0 _ => intro _ w' e; cases e
  | bad _ _ _ _ => intro _ w' e; cases e
  | fst0 _ _ _ => intro _ w' e; cases e
  | fst _ _ _ ih1 ih2 => intro _ w' e; exact ih2 (fun _ => ih1 (fun e => by cases e) _ rfl) w' e
  | fin _ _ => intro h w' e; cases e; exact h rfl
  | op0 _ _ _ _ => intro _ w' e; cases e
  | op _ ho _ _ ih1 ih2 => intro h w' e; exact ih2 (fun _ => z_good_b (h rfl) (ih1 (fun e => by cases e) _ rfl) (z_op_c ho)) w' e
  | nt _ _ ih => intro _ w' e; cases e; exact z_good_u (ih (fun e => by cases e) _ rfl) (Or.inl rfl)
  | ntE _ _ _ => intro _ w' e; cases e
  | nt0 _ => intro _ w' e; cases e
  | cmp0 _ _ _ => intro _ w' e; cases e
  | cmp1 _ _ _ _ ih => intro _ w' e; cases e; exact ih (fun e => by cases e) _ rfl
  | cmp2 _ _ _ _ _ _ => intro _ w' e; cases e
  | @cmp3 k p p1 w p2 w2 _ _ h6 _ ih1 ih2 =>
    intro _ w' e
    cases e
    refine z_good_b (ih1 (fun e => by cases e) _ rfl) (ih2 (fun e => by cases e) _ rfl) ?_
    by_cases c : (z_tok C z p1).2.2.1 = 60
    · rw [if_pos c]; exact Or.inr (Or.inr (Or.inl rfl))
    · rw [if_neg c]; exact Or.inr (Or.inr (Or.inr (Or.inl rfl)))
