/-! what the yard makes of a derivation -/
def z_okS (L : Nat) (S : List Int32) : Prop := L = 7 ∨ (L = 3 ∧ z_top 4 S) ∨ (z_lp L ∧ z_top L S)
def z_cnd (L : Nat) (i2 : Int32) (k : Nat) : Prop := (L ≤ 3 ∧ i2 = 1) ∨ (¬ L ≤ 3 ∧ (i2 = 0 ∨ k ≠ 315))
def z_RA (d : Nat) (C : Nat → Int32) (z t L p p' : Nat) (S o : List Int32) (i2 : Int32) (σ : xS) : Option (List Int32) → Prop
  | some w => ∃ P o' i2' τ, x_f (d + 4) 149 14 [some (.inr (.inr (some 78))), some (.inl 1), some (.inl i2), none] [] σ = x_f (d + 4) 149 14 [some (.inr (.inr (some 78))), some (.inl 0), some (.inl i2'), none] [] τ ∧ x_fr (z_yw t) x_w0 σ τ ∧ z_YS C z t (P ++ z_pop 7 S) o' p' τ ∧ (∀ a ∈ P, L ≤ z_rank a) ∧ o' ++ P = o ++ (w ++ z_pd 7 S) ∧ z_st L P (z_tok C z p').2.2.1 ∧ p + 1 ≤ p'
  | none => ∃ τ, x_f (d + 4) 149 14 [some (.inr (.inr (some 78))), some (.inl 1), some (.inl i2), none] [] σ = some (some (.inl 0), τ) ∧ x_fr (z_yw t) x_w0 σ τ ∧ x_I τ 78 27 = Int32.ofNat (z_tok C z p').1
def z_RB (d : Nat) (C : Nat → Int32) (z t L p p' : Nat) (S b : List Int32) (i2 : Int32) (σ : xS) : Option (List Int32) → Prop
  | some w => ∃ P o' i2' τ, x_f (d + 4) 149 14 [some (.inr (.inr (some 78))), some (.inl 0), some (.inl i2), none] [] σ = x_f (d + 4) 149 14 [some (.inr (.inr (some 78))), some (.inl 0), some (.inl i2'), none] [] τ ∧ x_fr (z_yw t) x_w0 σ τ ∧ z_YS C z t (P ++ S) o' p' τ ∧ (∀ a ∈ P, L ≤ z_rank a) ∧ o' ++ P = b ++ w ∧ z_st L P (z_tok C z p').2.2.1 ∧ p ≤ p'
  | none => ∃ τ, x_f (d + 4) 149 14 [some (.inr (.inr (some 78))), some (.inl 0), some (.inl i2), none] [] σ = some (some (.inl 0), τ) ∧ x_fr (z_yw t) x_w0 σ τ ∧ x_I τ 78 27 = Int32.ofNat (z_tok C z p').1
theorem z_st7 (P : List Int32) (k : Nat) : z_st 7 P k := ⟨fun h => absurd h (by decide), fun h => absurd h (by decide), fun h => absurd h (by decide), fun h => absurd h (by decide), fun h => absurd h (by decide)⟩
theorem z_top_le {q q' : Nat} {S : List Int32} (h : z_top q S) (hq : q ≤ q') : z_top q' S := fun c r e => by have := h c r e; omega
theorem z_ok_7 {L : Nat} {S : List Int32} (h : z_okS L S) (h7 : L ≠ 7) : z_pop 7 S = S ∧ z_pd 7 S = [] := by
  rcases h with h | ⟨h, g⟩ | ⟨h, g⟩
  · exact absurd h h7
  · exact z_pop_top (z_top_le g (by omega))
  · exact z_pop_top (z_top_le g (by unfold z_lp at h; omega))
theorem z_nc_c {c : Int32} (h0 : c ≠ 0) (hu : z_un c = false) (S : List Int32) : z_nc (c :: S) = z_nc S := by
  show (if c = 0 ∨ z_un c = true then 1 else 0) + z_nc S = _
  rw [if_neg (fun g => g.elim h0 (fun g => by rw [hu] at g; cases g)), Nat.zero_add]
theorem z_nc_1 {c : Int32} (h : c = 0 ∨ z_un c = true) (S : List Int32) : z_nc (c :: S) = z_nc S + 1 := by
  show (if c = 0 ∨ z_un c = true then 1 else 0) + z_nc S = _
  rw [if_pos h, Nat.add_comm]
theorem z_top_c {q : Nat} {c : Int32} (h : z_rank c < q) (S : List Int32) : z_top q (c :: S) := fun a r e => by cases e; exact h
theorem z_st_app {L : Nat} {P : List Int32} {k : Nat} (X : List Int32) (h : z_st L P k) : z_st L (P ++ X) k := by
  obtain ⟨h1, h2, h3, h4, h5⟩ := h
  refine ⟨h1, h2, fun l e => ?_, h4, h5⟩
  obtain ⟨c, r, e1, e2⟩ := h3 l e
  exact ⟨c, _, z_pop_ne X e1, e2⟩
theorem z_sub_ok {L : Nat} (h : z_lp L) {S : List Int32} (hS : z_okS L S) : z_okS (z_sub L) S := by
  have g : z_top L S := by
    rcases hS with e | ⟨e, _⟩ | ⟨_, g⟩
    · unfold z_lp at h; omega
    · unfold z_lp at h; omega
    · exact g
  rcases h with rfl | rfl | rfl | rfl
  · exact Or.inr (Or.inr ⟨Or.inr (Or.inl rfl), z_top_le g (by decide)⟩)
  · exact Or.inr (Or.inl ⟨rfl, z_top_le g (by decide)⟩)
  · exact Or.inr (Or.inr ⟨Or.inr (Or.inr (Or.inr rfl)), z_top_le g (by decide)⟩)
  · exact Or.inl rfl
theorem z_sub_c {L : Nat} (h : z_lp L) {c : Int32} (hc : z_rank c = L) (S : List Int32) : z_okS (z_sub L) (c :: S) := by
  rcases h with rfl | rfl | rfl | rfl
  · exact Or.inr (Or.inr ⟨Or.inr (Or.inl rfl), z_top_c (by rw [hc]; decide) S⟩)
  · exact Or.inr (Or.inl ⟨rfl, z_top_c (by omega) S⟩)
  · exact Or.inr (Or.inr ⟨Or.inr (Or.inr (Or.inr rfl)), z_top_c (by rw [hc]; decide) S⟩)
  · exact Or.inl rfl
theorem z_sub_3 {L : Nat} (h : z_lp L) : (z_sub L ≤ 3 ↔ L ≤ 3) ∧ L ≤ z_sub L := by
  rcases h with rfl | rfl | rfl | rfl <;> decide
theorem z_lp_top {L : Nat} (h : z_lp L) {S : List Int32} (hS : z_okS L S) : z_top L S := by
  rcases hS with e | ⟨e, _⟩ | ⟨_, g⟩
  · unfold z_lp at h; omega
  · unfold z_lp at h; omega
  · exact g
theorem z_st_fin {L : Nat} (h : z_lp L) {P : List Int32} {k : Nat} (hs : z_st (z_sub L) P k) (ho : z_op L k = none) : z_st L P k := by
  obtain ⟨s1, s2, s3, s4, s5⟩ := hs
  unfold z_op at ho
  rcases h with rfl | rfl | rfl | rfl
  · refine ⟨fun _ e => ?_, fun _ => s2 (by decide), fun _ => s3 (by decide), fun _ => s4 (by decide), fun _ => s5 (by decide)⟩
    rw [if_pos ⟨rfl, e⟩] at ho; cases ho
  · refine ⟨fun h => absurd h (by decide), fun _ e => ?_, fun _ => s3 (by decide), fun _ => s4 (by decide), fun _ => s5 (by decide)⟩
    rw [if_neg (fun g => absurd g.1 (by decide)), if_pos ⟨rfl, e⟩] at ho; cases ho
  · refine ⟨fun h => absurd h (by decide), fun h => absurd h (by decide), fun h => absurd h (by decide), fun _ => ⟨fun e => ?_, fun e => ?_⟩, fun _ => s5 (by decide)⟩
    · rw [if_neg (fun g => absurd g.1 (by decide)), if_neg (fun g => absurd g.1 (by decide)), if_pos ⟨rfl, e⟩] at ho; cases ho
    · rw [if_neg (fun g => absurd g.1 (by decide)), if_neg (fun g => absurd g.1 (by decide)), if_neg (fun g => by have := g.2; omega), if_pos ⟨rfl, e⟩] at ho; cases ho
  · refine ⟨fun h => absurd h (by decide), fun h => absurd h (by decide), fun h => absurd h (by decide), fun h => absurd h (by decide), fun _ e => ?_⟩
    rw [if_neg (fun g => absurd g.1 (by decide)), if_neg (fun g => absurd g.1 (by decide)), if_neg (fun g => absurd g.1 (by decide)), if_neg (fun g => absurd g.1 (by decide)), if_pos ⟨rfl, e⟩] at ho; cases ho
theorem z_RA_l {d : Nat} {C : Nat → Int32} {z t L L' p p' : Nat} {S o : List Int32} {i2 : Int32} {σ : xS} (h : z_RA d C z t L p p' S o i2 σ none) : z_RA d C z t L' p p' S o i2 σ none := h
theorem z_R (d : Nat) {C : Nat → Int32} {z t : Nat} {L k p p' : Nat} {lp : Bool} {w : List Int32} {r : Option (List Int32)} (h : z_D (z_tok C z) L lp k p w p' r) : (lp = false → ∀ S o i2 σ, z_YS C z t S o p σ → z_nc S + k = 5 → z_okS L S → z_cnd L i2 (z_tok C z p).2.2.1 → z_RA d C z t L p p' S o i2 σ r) ∧ (lp = true → ∀ S P o b i2 σ, z_YS C z t (P ++ S) o p σ → z_nc S + k = 5 → z_okS L S → (∀ a ∈ P, L ≤ z_rank a) → z_st (z_sub L) P (z_tok C z p).2.2.1 → o ++ P = b ++ w → z_RB d C z t L p p' S b i2 σ r) := by
  have hpz : ∀ {S o p σ}, z_YS C z t S o p σ → p ≤ z := fun y => y.2.2.2.2.2.2.2.2.2.1
  induction h using z_D_ind with
  | @num k p hk =>
    refine ⟨fun _ S o i2 σ y n ok cn => ?_, fun e => by cases e⟩
    obtain ⟨τ, e, f, y'⟩ := z_opd (d + 1) i2 y (Or.inl hk)
    rw [if_pos hk] at y'
    exact ⟨[], _, i2, τ, e, f, y', fun a ha => (by cases ha), by rw [List.append_nil]; rfl, z_st7 _ _, (z_tok_b C (hpz y)).2.2.2 (by omega)⟩
  | @name k p hk =>
    refine ⟨fun _ S o i2 σ y n ok cn => ?_, fun e => by cases e⟩
    obtain ⟨τ, e, f, y'⟩ := z_opd (d + 1) i2 y (Or.inr hk)
    rw [if_neg (by omega)] at y'
    exact ⟨[], _, i2, τ, e, f, y', fun a ha => (by cases ha), by rw [List.append_nil]; rfl, z_st7 _ _, (z_tok_b C (hpz y)).2.2.2 (by omega)⟩
  | @neg k p p' w hk _ ih =>
    refine ⟨fun _ S o i2 σ y n ok cn => ?_, fun e => by cases e⟩
    rcases z_pre (d + 1) i2 y (by omega) 45 hk (Or.inl rfl) with ⟨n5, -⟩ | ⟨-, σ1, e1, f1, y1⟩
    · omega
    · obtain ⟨P, o', i2', τ, e, f, y', hr, ho, hs, hp⟩ := ih.1 rfl (19 :: S) o 0 σ1 y1 (by rw [z_nc_1 (Or.inr rfl)]; omega) (Or.inl rfl) (Or.inr ⟨by decide, Or.inl rfl⟩)
      refine ⟨P, o', i2', τ, e1.trans e, f1.trans f, y', hr, ?_, hs, by have := (z_tok_b C (hpz y)).2.2.1; omega⟩
      rw [ho]
      show o ++ (w ++ 19 :: z_pd 7 S) = o ++ ((w ++ [19]) ++ z_pd 7 S)
      rw [List.append_assoc]; rfl
  | @negE k p p' hk _ ih =>
    refine ⟨fun _ S o i2 σ y n ok cn => ?_, fun e => by cases e⟩
    rcases z_pre (d + 1) i2 y (by omega) 45 hk (Or.inl rfl) with ⟨n5, -⟩ | ⟨-, σ1, e1, f1, y1⟩
    · omega
    · obtain ⟨τ, e, f, g⟩ := ih.1 rfl (19 :: S) o 0 σ1 y1 (by rw [z_nc_1 (Or.inr rfl)]; omega) (Or.inl rfl) (Or.inr ⟨by decide, Or.inl rfl⟩)
      exact ⟨τ, e1.trans e, f1.trans f, g⟩
  | @neg0 p hk =>
    refine ⟨fun _ S o i2 σ y n ok cn => ?_, fun e => by cases e⟩
    rcases z_pre (d + 1) i2 y (by omega) 45 hk (Or.inl rfl) with ⟨n5, τ, e, f, g⟩ | ⟨n5, -⟩
    · exact ⟨τ, e, f, g⟩
    · omega
  | @par k p p1 w hk _ h41 ih =>
    refine ⟨fun _ S o i2 σ y n ok cn => ?_, fun e => by cases e⟩
    rcases z_pre (d + 1) i2 y (by omega) 40 hk (Or.inr (Or.inl rfl)) with ⟨n5, -⟩ | ⟨-, σ1, e1, f1, y1⟩
    · omega
    · have ok0 : z_okS 1 (0 :: S) := Or.inr (Or.inr ⟨Or.inl rfl, z_top_c (by decide) S⟩)
      obtain ⟨P, o', i2', τ, e, f, y', hr, ho, hs, hp⟩ := ih.1 rfl (0 :: S) o 1 σ1 y1 (by rw [z_nc_1 (Or.inl rfl)]; omega) ok0 (Or.inl ⟨by decide, rfl⟩)
      obtain ⟨p1', p2'⟩ := z_ok_7 ok0 (by decide)
      rw [p1'] at y'
      rw [p2', List.append_nil] at ho
      obtain ⟨τ', e', f', y''⟩ := z_close d i2' y' h41 hr
      refine ⟨[], _, i2', τ', e1.trans (e.trans e'), (f1.trans f).trans f', y'', fun a ha => (by cases ha), ?_, z_st7 _ _, ?_⟩
      · rw [List.append_nil, ho, List.append_assoc]
      · have := (z_tok_b C (hpz y)).2.2.1
        have := (z_tok_b C (hpz y')).2.2.1
        omega
  | @parE k p p1 hk _ ih =>
    refine ⟨fun _ S o i2 σ y n ok cn => ?_, fun e => by cases e⟩
    rcases z_pre (d + 1) i2 y (by omega) 40 hk (Or.inr (Or.inl rfl)) with ⟨n5, -⟩ | ⟨-, σ1, e1, f1, y1⟩
    · omega
    · obtain ⟨τ, e, f, g⟩ := ih.1 rfl (0 :: S) o 1 σ1 y1 (by rw [z_nc_1 (Or.inl rfl)]; omega) (Or.inr (Or.inr ⟨Or.inl rfl, z_top_c (by decide) S⟩)) (Or.inl ⟨by decide, rfl⟩)
      exact ⟨τ, e1.trans e, f1.trans f, g⟩
  | @parX k p p1 w hk _ h41 ih =>
    refine ⟨fun _ S o i2 σ y n ok cn => ?_, fun e => by cases e⟩
    rcases z_pre (d + 1) i2 y (by omega) 40 hk (Or.inr (Or.inl rfl)) with ⟨n5, -⟩ | ⟨-, σ1, e1, f1, y1⟩
    · omega
    · have ok0 : z_okS 1 (0 :: S) := Or.inr (Or.inr ⟨Or.inl rfl, z_top_c (by decide) S⟩)
      obtain ⟨P, o', i2', τ, e, f, y', hr, ho, hs, hp⟩ := ih.1 rfl (0 :: S) o 1 σ1 y1 (by rw [z_nc_1 (Or.inl rfl)]; omega) ok0 (Or.inl ⟨by decide, rfl⟩)
      obtain ⟨p1', p2'⟩ := z_ok_7 ok0 (by decide)
      rw [p1'] at y'
      obtain ⟨τ', e', f', g'⟩ := z_stop d i2' y' hr (Or.inr ⟨S, rfl⟩) hs (fun e => by cases e) (fun _ => h41)
      exact ⟨τ', e1.trans (e.trans e'), (f1.trans f).trans f', g'⟩
  | @par0 p hk =>
    refine ⟨fun _ S o i2 σ y n ok cn => ?_, fun e => by cases e⟩
    rcases z_pre (d + 1) i2 y (by omega) 40 hk (Or.inr (Or.inl rfl)) with ⟨n5, τ, e, f, g⟩ | ⟨n5, -⟩
    · exact ⟨τ, e, f, g⟩
    · omega
  | @bad k p h1 h2 h3 h4 =>
    refine ⟨fun _ S o i2 σ y n ok cn => ?_, fun e => by cases e⟩
    exact z_nop (d + 1) i2 y _ rfl h1 h2 h3 h4 (cn.elim (fun g => absurd g.1 (by decide)) (fun g => g.2))
  | @fst0 L k p p1 hl _ ih =>
    refine ⟨fun _ S o i2 σ y n ok cn => ?_, fun e => by cases e⟩
    have s3 := z_sub_3 hl
    exact z_RA_l (ih.1 rfl S o i2 σ y n (z_sub_ok hl ok) (cn.imp (fun g => ⟨s3.1.mpr g.1, g.2⟩) (fun g => ⟨fun e => g.1 (s3.1.mp e), g.2⟩)))
  | @fst L k p p1 w p' r hl _ _ ih1 ih2 =>
    refine ⟨fun _ S o i2 σ y n ok cn => ?_, fun e => by cases e⟩
    have s3 := z_sub_3 hl
    have h7 : L ≠ 7 := by unfold z_lp at hl; omega
    obtain ⟨q1, q2⟩ := z_ok_7 ok h7
    obtain ⟨P, o', i2', τ, e, f, y', hr, ho, hs, hp⟩ := ih1.1 rfl S o i2 σ y n (z_sub_ok hl ok) (cn.imp (fun g => ⟨s3.1.mpr g.1, g.2⟩) (fun g => ⟨fun e => g.1 (s3.1.mp e), g.2⟩))
    rw [q1] at y'
    rw [q2, List.append_nil] at ho
    have g := ih2.2 rfl S P o' o i2' τ y' n ok (fun a ha => Nat.le_trans s3.2 (hr a ha)) hs ho
    cases r with
    | none =>
      obtain ⟨τ', e', f', g'⟩ := g
      exact ⟨τ', e.trans e', f.trans f', g'⟩
    | some w' =>
      obtain ⟨P', o'', i2'', τ', e', f', y'', hr', ho', hs', hp'⟩ := g
      exact ⟨P', o'', i2'', τ', e.trans e', f.trans f', by rw [q1]; exact y'', hr', by rw [q2, List.append_nil]; exact ho', hs', by omega⟩
  | @fin L k p w hl ho =>
    refine ⟨fun e => (by cases e), fun _ S P o b i2 σ y n ok hr hs he => ?_⟩
    exact ⟨P, o, i2, σ, rfl, x_fr.refl _ _ _, y, hr, he, z_st_fin hl hs ho, Nat.le_refl _⟩
  | @op0 L k p w p1 c hl ho _ ih =>
    refine ⟨fun e => (by cases e), fun _ S P o b i2 σ y n ok hr hs he => ?_⟩
    have s3 := z_sub_3 hl
    obtain ⟨σ1, e1, f1, y1, hc, hu, c0, h12, k3⟩ := z_bin d i2 y ho hr (z_lp_top hl ok)
    have cn : z_cnd (z_sub L) (if 12 < c then 0 else 1) (z_tok C z (z_tok C z p).2.1).2.2.1 := by
      rcases h12 with ⟨a, b⟩ | ⟨a, b⟩
      · rw [if_neg b]; exact Or.inl ⟨s3.1.mpr a, rfl⟩
      · rw [if_pos b]; exact Or.inr ⟨fun e => a (s3.1.mp e), Or.inl rfl⟩
    obtain ⟨τ, e, f, g⟩ := ih.1 rfl (c :: S) (o ++ P) _ σ1 y1 (by rw [z_nc_c c0 hu]; exact n) (z_sub_c hl hc S) cn
    exact ⟨τ, e1.trans e, f1.trans f, g⟩
  | @op L k p w p1 w1 p' r c hl ho _ _ ih1 ih2 =>
    refine ⟨fun e => (by cases e), fun _ S P o b i2 σ y n ok hr hs he => ?_⟩
    have s3 := z_sub_3 hl
    obtain ⟨σ1, e1, f1, y1, hc, hu, c0, h12, k3⟩ := z_bin d i2 y ho hr (z_lp_top hl ok)
    have cn : z_cnd (z_sub L) (if 12 < c then 0 else 1) (z_tok C z (z_tok C z p).2.1).2.2.1 := by
      rcases h12 with ⟨a, b⟩ | ⟨a, b⟩
      · rw [if_neg b]; exact Or.inl ⟨s3.1.mpr a, rfl⟩
      · rw [if_pos b]; exact Or.inr ⟨fun e => a (s3.1.mp e), Or.inl rfl⟩
    obtain ⟨P1, o1, i3, τ, e, f, y', hr', ho', hs', hp'⟩ := ih1.1 rfl (c :: S) (o ++ P) _ σ1 y1 (by rw [z_nc_c c0 hu]; exact n) (z_sub_c hl hc S) cn
    have t7 : z_top 7 (c :: S) := z_top_c (by rw [hc]; unfold z_lp at hl; omega) S
    obtain ⟨q1, q2⟩ := z_pop_top t7
    rw [q1] at y'
    rw [q2, List.append_nil] at ho'
    have y2 : z_YS C z t ((P1 ++ [c]) ++ S) o1 p1 τ := by rw [List.append_assoc]; exact y'
    have g := ih2.2 rfl S (P1 ++ [c]) o1 b i3 τ y2 n ok (fun a ha => by
      rcases List.mem_append.mp ha with h | h
      · exact Nat.le_trans s3.2 (hr' a h)
      · rw [List.mem_singleton.mp h, hc]; exact Nat.le_refl _) (z_st_app [c] hs') (by rw [← List.append_assoc, ho', he]; simp only [List.append_assoc])
    have pp := (z_tok_b C (hpz y)).2.2.1
    cases r with
    | none =>
      obtain ⟨τ', e', f', g'⟩ := g
      exact ⟨τ', e1.trans (e.trans e'), (f1.trans f).trans f', g'⟩
    | some w' =>
      obtain ⟨P', o'', i2'', τ', e', f', y'', hr'', ho'', hs'', hp''⟩ := g
      exact ⟨P', o'', i2'', τ', e1.trans (e.trans e'), (f1.trans f).trans f', y'', hr'', ho'', hs'', by omega⟩
  | @nt k p p' w hk _ ih =>
    refine ⟨fun _ S o i2 σ y n ok cn => ?_, fun e => by cases e⟩
    have i1 : i2 = 1 := cn.elim (fun g => g.2) (fun g => absurd (by decide) g.1)
    rcases z_pre (d + 1) i2 y (by omega) 315 hk (Or.inr (Or.inr ⟨rfl, i1⟩)) with ⟨n5, -⟩ | ⟨-, σ1, e1, f1, y1⟩
    · omega
    · obtain ⟨P, o', i2', τ, e, f, y', hr, ho, hs, hp⟩ := ih.1 rfl (13 :: S) o 1 σ1 y1 (by rw [z_nc_1 (Or.inr rfl)]; omega) (Or.inr (Or.inl ⟨rfl, z_top_c (by decide) S⟩)) (Or.inl ⟨by decide, rfl⟩)
      obtain ⟨q1, q2⟩ := z_pop_top (q := 7) (S := 13 :: S) (z_top_c (by decide) S)
      obtain ⟨q3, q4⟩ := z_ok_7 ok (by decide)
      rw [q1] at y'
      rw [q2, List.append_nil] at ho
      refine ⟨P ++ [13], o', i2', τ, e1.trans e, f1.trans f, by rw [q3, List.append_assoc]; exact y', fun a ha => ?_, ?_, z_st_app [13] hs, by have := (z_tok_b C (hpz y)).2.2.1; omega⟩
      · rcases List.mem_append.mp ha with h | h
        · exact hr a h
        · rw [List.mem_singleton.mp h]; decide
      · rw [← List.append_assoc, ho, q4, List.append_nil, List.append_assoc]
  | @ntE k p p' hk _ ih =>
    refine ⟨fun _ S o i2 σ y n ok cn => ?_, fun e => by cases e⟩
    have i1 : i2 = 1 := cn.elim (fun g => g.2) (fun g => absurd (by decide) g.1)
    rcases z_pre (d + 1) i2 y (by omega) 315 hk (Or.inr (Or.inr ⟨rfl, i1⟩)) with ⟨n5, -⟩ | ⟨-, σ1, e1, f1, y1⟩
    · omega
    · obtain ⟨τ, e, f, g⟩ := ih.1 rfl (13 :: S) o 1 σ1 y1 (by rw [z_nc_1 (Or.inr rfl)]; omega) (Or.inr (Or.inl ⟨rfl, z_top_c (by decide) S⟩)) (Or.inl ⟨by decide, rfl⟩)
      exact ⟨τ, e1.trans e, f1.trans f, g⟩
  | @nt0 p hk =>
    refine ⟨fun _ S o i2 σ y n ok cn => ?_, fun e => by cases e⟩
    have i1 : i2 = 1 := cn.elim (fun g => g.2) (fun g => absurd (by decide) g.1)
    rcases z_pre (d + 1) i2 y (by omega) 315 hk (Or.inr (Or.inr ⟨rfl, i1⟩)) with ⟨n5, τ, e, f, g⟩ | ⟨n5, -⟩
    · exact ⟨τ, e, f, g⟩
    · omega
  | @cmp0 k p p1 hk _ ih =>
    refine ⟨fun _ S o i2 σ y n ok cn => ?_, fun e => by cases e⟩
    have t4 : z_top 4 S := ok.elim (fun g => absurd g (by decide)) (fun g => g.elim (fun g => g.2) (fun g => by have := g.1; unfold z_lp at this; omega))
    exact z_RA_l (ih.1 rfl S o i2 σ y n (Or.inr (Or.inr ⟨Or.inr (Or.inr (Or.inl rfl)), z_top_le t4 (by decide)⟩)) (Or.inr ⟨by decide, Or.inr hk⟩))
  | @cmp1 k p p1 w hk _ n60 n61 ih =>
    refine ⟨fun _ S o i2 σ y n ok cn => ?_, fun e => by cases e⟩
    have t4 : z_top 4 S := ok.elim (fun g => absurd g (by decide)) (fun g => g.elim (fun g => g.2) (fun g => by have := g.1; unfold z_lp at this; omega))
    obtain ⟨P, o', i2', τ, e, f, y', hr, ho, hs, hp⟩ := ih.1 rfl S o i2 σ y n (Or.inr (Or.inr ⟨Or.inr (Or.inr (Or.inl rfl)), z_top_le t4 (by decide)⟩)) (Or.inr ⟨by decide, Or.inr hk⟩)
    obtain ⟨s1, s2, s3, s4, s5⟩ := hs
    exact ⟨P, o', i2', τ, e, f, y', fun a ha => Nat.le_trans (by decide) (hr a ha), ho, ⟨fun h => absurd h (by decide), fun h => absurd h (by decide), fun _ e => absurd e (fun g => g.elim n60 n61), fun _ => s4 (by decide), fun _ => s5 (by decide)⟩, hp⟩
  | @cmp2 k p p1 w p2 hk _ h6 _ ih1 ih2 =>
    refine ⟨fun _ S o i2 σ y n ok cn => ?_, fun e => by cases e⟩
    have t4 : z_top 4 S := ok.elim (fun g => absurd g (by decide)) (fun g => g.elim (fun g => g.2) (fun g => by have := g.1; unfold z_lp at this; omega))
    obtain ⟨P, o', i2', τ, e, f, y', hr, ho, hs, hp⟩ := ih1.1 rfl S o i2 σ y n (Or.inr (Or.inr ⟨Or.inr (Or.inr (Or.inl rfl)), z_top_le t4 (by decide)⟩)) (Or.inr ⟨by decide, Or.inr hk⟩)
    obtain ⟨q1, q2⟩ := z_pop_top (z_top_le t4 (show 4 ≤ 7 by decide))
    rw [q1] at y'
    obtain ⟨τ1, e1, f1, y1⟩ := z_cmpo d i2' y' h6 hr t4
    have r4 : z_rank (if (z_tok C z p1).2.2.1 = 60 then 14 else 15) = 4 ∧ (if (z_tok C z p1).2.2.1 = 60 then (14 : Int32) else 15) ≠ 0 ∧ z_un (if (z_tok C z p1).2.2.1 = 60 then 14 else 15) = false := by split <;> decide
    obtain ⟨τ2, e2, f2, g2⟩ := ih2.1 rfl _ (o' ++ P) 0 τ1 y1 (by rw [z_nc_c r4.2.1 r4.2.2]; exact n) (Or.inr (Or.inr ⟨Or.inr (Or.inr (Or.inl rfl)), z_top_c (by rw [r4.1]; decide) S⟩)) (Or.inr ⟨by decide, Or.inl rfl⟩)
    exact ⟨τ2, e.trans (e1.trans e2), (f.trans f1).trans f2, g2⟩
  | @cmp3 k p p1 w p2 w2 hk _ h6 _ ih1 ih2 =>
    refine ⟨fun _ S o i2 σ y n ok cn => ?_, fun e => by cases e⟩
    have t4 : z_top 4 S := ok.elim (fun g => absurd g (by decide)) (fun g => g.elim (fun g => g.2) (fun g => by have := g.1; unfold z_lp at this; omega))
    obtain ⟨P, o', i2', τ, e, f, y', hr, ho, hs, hp⟩ := ih1.1 rfl S o i2 σ y n (Or.inr (Or.inr ⟨Or.inr (Or.inr (Or.inl rfl)), z_top_le t4 (by decide)⟩)) (Or.inr ⟨by decide, Or.inr hk⟩)
    obtain ⟨q1, q2⟩ := z_pop_top (z_top_le t4 (show 4 ≤ 7 by decide))
    rw [q1] at y'
    rw [q2, List.append_nil] at ho
    obtain ⟨τ1, e1, f1, y1⟩ := z_cmpo d i2' y' h6 hr t4
    have r4 : z_rank (if (z_tok C z p1).2.2.1 = 60 then 14 else 15) = 4 ∧ (if (z_tok C z p1).2.2.1 = 60 then (14 : Int32) else 15) ≠ 0 ∧ z_un (if (z_tok C z p1).2.2.1 = 60 then 14 else 15) = false := by split <;> decide
    generalize (if (z_tok C z p1).2.2.1 = 60 then (14 : Int32) else 15) = c at *
    obtain ⟨P2, o2, i3, τ2, e2, f2, y2, hr2, ho2, hs2, hp2⟩ := ih2.1 rfl _ (o' ++ P) 0 τ1 y1 (by rw [z_nc_c r4.2.1 r4.2.2]; exact n) (Or.inr (Or.inr ⟨Or.inr (Or.inr (Or.inl rfl)), z_top_c (by rw [r4.1]; decide) S⟩)) (Or.inr ⟨by decide, Or.inl rfl⟩)
    obtain ⟨u1, u2⟩ := z_pop_top (q := 7) (S := c :: S) (z_top_c (by rw [r4.1]; decide) S)
    rw [u1] at y2
    rw [u2, List.append_nil] at ho2
    obtain ⟨s1, s2, s3, s4, s5⟩ := hs2
    refine ⟨P2 ++ [c], o2, i3, τ2, e.trans (e1.trans e2), (f.trans f1).trans f2, by rw [q1, List.append_assoc]; exact y2, fun a ha => ?_, ?_, ⟨fun h => absurd h (by decide), fun h => absurd h (by decide), fun _ _ => ⟨c, [], ?_, r4.1⟩, fun _ => s4 (by decide), fun _ => s5 (by decide)⟩, ?_⟩
    · rcases List.mem_append.mp ha with h | h
      · exact Nat.le_trans (by decide) (hr2 a h)
      · rw [List.mem_singleton.mp h, r4.1]; decide
    · rw [← List.append_assoc, ho2, ho, q2]
      simp only [List.append_assoc, List.append_nil]
    · rw [(z_pop_app [c] hr2).1]
      exact if_neg (by rw [r4.1]; decide)
    · have := (z_tok_b C (hpz y')).2.2.1
      omega
