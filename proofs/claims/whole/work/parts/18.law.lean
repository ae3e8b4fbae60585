/-! from the small machine's run to the law's walk -/
theorem x_arrI {s : State} {args : Array Value} {ty : FieldType} (h : (Cond.arrayClass ty).before args s = true) (hty : ∀ n, ty ≠ .object n) : ∃ cA, ArrOfT s cA ty ∧ va_RA s cA ty := by
  obtain ⟨cA, kA, comp, h1, h2, h3⟩ := Cond.arrayClass_spec h
  refine ⟨cA, fun n z => ⟨fun k h => (by cases h), kA, h2, comp, h3⟩, ?_⟩
  cases ty
  case object n => exact absurd rfl (hty n)
  all_goals exact h1
theorem x_arrO {s : State} {args : Array Value} {C : String} (h : (Cond.arrayOver (.object C)).before args s = true) : ∃ cA, ArrOfT s cA (.object C) ∧ va_RA s cA (.object C) := by
  obtain ⟨comp, cA, kA, h1, -, h2, h3, h4⟩ := Cond.arrayOver_spec h
  exact ⟨cA, fun n z => ⟨fun k h => (by cases h), kA, h2, comp, h3⟩, kA, comp, h2, h3, h1, h4⟩
def x_s0 : xS := ([], fun _ _ => 0, fun _ _ => 0, fun _ _ => none)
theorem x_law_sound {p : Program} {e : Env} {s : State} {m : MethodId} {below : List Frame} {meth : Method} {c : Code} (l : Launch) {b L : Nat} {xs : Nat → Int32} (C0 : lw_At p s m meth c b L xs) {d : Nat} (hd : d ≤ 1200) {τ : xS} (hrun : x_F (x_run d) (L, xs) x_TX x_lc 0 (x_args [.inr (.inr (some 2000))] 4) [] x_s0 = some (some (.inl 1), τ)) (hsz : x_sz τ.1 ≤ 7302250 ∧ τ.1.length ≤ 900) : W p l e room_1 s m #[Value.ref b] below meth c s.heap [] 0 0 (lw_Z below #[Value.ref b] s) (entryFrame m ([Value.ref b] : List Value).toArray 4) := by
  obtain ⟨hx, hb, hr, hml, hown, hts, hX, hbl, hlocks, hgv⟩ := C0
  have hfl := flat_of_before _ hgv
  have htb : ∀ w ∈ x_Tb, w.before #[Value.ref b] s = true := fun w hw => hts w (List.mem_filter.mp hw).1
  have hAn : ∀ q : Nat, q < s.heap.size → ¬ (fun q : Nat => s.heap.size ≤ q) q := fun q hq => Nat.not_le.mpr hq
  obtain ⟨adK, adV, hV, hadK⟩ := vk_Sof (args := #[Value.ref b]) (s := s) (N := 13) (tm := x_tm) (len := x_len) (byt := x_byt) (A := fun q => s.heap.size ≤ q) (fun i hi => by rw [(x_tx_len hi).1]; exact (x_tx_len hi).2.2) (fun i hi => hfl _ (x_g_ex i hi)) (fun i hi => hfl _ (x_g_co i hi)) (fun i hi => hfl _ (x_g_ar i hi)) (fun i hi => hfl _ (x_g_le i hi))
    (fun i hi j hj => by
      match i, hi, hj with
      | 0, hi, hj => exact hfl _ (x_g_el0 j hj)
      | i + 1, hi, hj => exact hfl _ (x_g_el1 i (by omega) j hj))
    (fun i j hi hj hij => by
      rcases Nat.lt_or_gt_of_ne hij with h | h
      · exact Or.inl (hfl _ (x_g_ne i hi j hj h))
      · exact Or.inr (hfl _ (x_g_ne j hj i hi h))) hAn
  obtain ⟨a, ha, hak, hab⟩ : ∃ a : Nat → Nat, (∀ k, k < 900 → a k = s.heap.size + k) ∧ (∀ k, k < 13 → a (1000 + k) = adK k) ∧ a 2000 = b := by
    refine ⟨fun k => if k < 900 then s.heap.size + k else if k = 2000 then b else adK (k - 1000), fun k hk => if_pos hk, fun k hk => ?_, rfl⟩
    show (if 1000 + k < 900 then s.heap.size + (1000 + k) else if 1000 + k = 2000 then b else adK (1000 + k - 1000)) = adK k
    rw [if_neg (by omega), if_neg (by omega), show 1000 + k - 1000 = k by omega]
  have hVa : vk_S 13 x_len x_byt (fun i => a (1000 + i)) adV (fun q => s.heap.size ≤ q) s s.heap := by
    refine ⟨fun i hi => ?_, fun i j hi hj h => hV.2 i j hi hj (by rw [← hak i hi, ← hak j hj]; exact h)⟩
    show va_O _ (a (1000 + i)) _ _ _ ∧ va_OF _ _ _ _ (a (1000 + i)) _ _ _ ∧ va_OF _ _ _ _ (a (1000 + i)) _ _ _ ∧ _
    rw [hak i hi]
    exact hV.1 i hi
  have hZ1 : va_Z "java/lang/String" "COMPACT_STRINGS" "Z" (.int 1) (fun q => s.heap.size ≤ q) s s.heap := va_Zof (hts _ x_g_ls.1) (htb _ x_sw_n0) (va_eqi (hfl _ x_g_cs)) hAn
  have hZ2 := va_Zqof (hts _ x_g_ls.2) (htb _ x_sw_n3) (hfl _ x_g_sf) hAn
  have hSt : x_St a (fun q => s.heap.size ≤ q) s s.heap := ⟨⟨adV, hVa⟩, fun k q hk hq => by
    obtain ⟨g1, g2⟩ := x_g_st k hk q hq
    refine vk_R.of (hts _ (x_g_sr q g2)) ?_
    rw [← g1, hak k hk]
    exact hadK k hk, fun q hq => va_Nw.of rfl (hts _ (x_g_nw q hq)), ⟨va_AO.of (hts _ x_g_ao.1), va_AO.of (hts _ x_g_ao.2.1), va_AO.of (hts _ x_g_ao.2.2)⟩, hZ1, hZ2⟩
  have hKn : ∀ k, ∃ z : ClassId × (Nat → Nat), k < 11 → u_Kn s (x_cn k) (x_ct k) (x_nf k) z.1 z.2 := by
    intro k
    by_cases hk : k < 11
    · obtain ⟨cC, iS, h⟩ := u_known (C := x_cn k) (T := x_ct k) (N := x_nf k) (n := x_nf k) htb (x_clsok_all k hk).2.1 (htb _ (x_Tb_at (x_ins_ok k hk).1 rfl))
      exact ⟨(cC, iS), fun _ => h⟩
    · exact ⟨(default, fun _ => 0), fun h => absurd h hk⟩
  obtain ⟨z, hz⟩ := Classical.axiomOfChoice hKn
  obtain ⟨c0, hc0⟩ := x_arrI (htb _ x_fx12) (fun n h => by cases h)
  obtain ⟨c1, hc1⟩ := x_arrI (htb _ x_fx13) (fun n h => by cases h)
  obtain ⟨c2, hc2⟩ := x_arrO (hts _ x_g_ao.1)
  obtain ⟨c3, hc3⟩ := x_arrO (hts _ x_g_ao.2.1)
  obtain ⟨c4, hc4⟩ := x_arrO (hts _ x_g_ao.2.2)
  obtain ⟨cy, hcy0, hcy1, hcy2, hcy3, hcy4⟩ : ∃ cy : Nat → ClassId, cy 0 = c0 ∧ cy 1 = c1 ∧ cy 2 = c2 ∧ cy 3 = c3 ∧ cy 4 = c4 := ⟨fun k => match k with | 0 => c0 | 1 => c1 | 2 => c2 | 3 => c3 | _ => c4, rfl, rfl, rfl, rfl, rfl⟩
  subst hcy0; subst hcy1; subst hcy2; subst hcy3; subst hcy4
  have hK : va_K ((fun k => (z k).1), (fun k => (z k).2)) x_cls (x_tys cy) s := by
    refine ⟨fun k q hq => ?_, fun k q hq => ?_⟩
    · by_cases hk : k < 11
      · rw [(x_clsok_all k hk).1] at hq
        cases hq
        exact hz k hk
      · have := (List.getElem?_eq_some_iff.mp hq).1
        exact absurd this hk
    · match k, hq with
      | 0, hq => cases hq; exact hc0
      | 1, hq => cases hq; exact hc1
      | 2, hq => cases hq; exact hc2
      | 3, hq => cases hq; exact hc3
      | 4, hq => cases hq; exact hc4
      | k + 5, hq => simp [x_tys] at hq
  have F : x_fix p room_1 s m #[Value.ref b] meth c code ((fun k => (z k).1), (fun k => (z k).2)) cy a (fun q => s.heap.size ≤ q) 0 4 s.heap.size d RL false :=
    ⟨hx, hb, hml, hown, htb, (fun z => by cases z), hK, hSt, rfl, ha, fun q h => h, by show d + 9 ≤ 2048; omega, by show 64 * (d + 9) ≤ 84000; omega⟩
  obtain ⟨n, hn⟩ := x_F_some.mp hrun
  have hbA : ¬ (fun q : Nat => s.heap.size ≤ q) b := Nat.not_le.mpr hbl
  have hScr : x_Scr p l e room_1 s m #[Value.ref b] below meth c (lw_Z below #[Value.ref b] s) code a (fun q => s.heap.size ≤ q) (L, xs) := by
    refine ⟨fun H locs cells slots pc i ls rest hS hin hdg kk => ?_, fun H locs cells slots pc ls rest hS hdg kk => ?_⟩
    · rw [hab]
      exact va_sld hx hb hX hbl hbA hS hin hdg kk
    · rw [hab]
      exact va_slen hx hb hX hbl hbA hS hdg kk
  have hRet : x_Ret p l e room_1 s m #[Value.ref b] below meth c (lw_Z below #[Value.ref b] s) code ((fun k => (z k).1), (fun k => (z k).2)) cy a (fun q => s.heap.size ≤ q) 0 0 (some .boolean) (some (.inl 1), τ) := by
    intro H locs cells slots pc ls hc hcase
    obtain ⟨hP1, hD1, hS1, e1, e2, e3⟩ := hc
    have e1 : cells + 0 = τ.1.length := e1
    have e2 : slots + 0 = x_sz τ.1 := e2
    rcases hcase with ⟨x, h1, h2, h3⟩ | ⟨x, h1, h2, h3⟩ | ⟨x, nm, h1, h2, h3⟩ | ⟨h1, h2, h3⟩
    · refine W.widen (k := 600000) (n := 7302250) (by omega) (by omega) (va_forget (fun q hq => hS1.2.2 q hq) ?_)
      exact lw_ret hx hb hr hlocks h2
    · cases h1
    · cases h1
    · cases h1
  have hl := lv_entry ([.ref b]) (n := 4) (Nat.le_of_ble_eq_true rfl)
  rw [lg_entry_eq]
  generalize (lg_sl ([.ref b]) ++ List.replicate (4 - (lg_sl ([.ref b])).length) Slot.unset).toArray = ls at hl ⊢
  have hl2 : lv_has ls 4 (x_lv a 0 (x_args [.inr (.inr (some 2000))] 4)) := by
    refine lv_less hl (fun q hq => ?_)
    have := x_lv_entry a [.inr (.inr (some 2000))] 4 0 q hq
    rw [show List.map (x_tr a) [.inr (.inr (some 2000))] = [Value.ref (a 2000)] from rfl, hab] at this
    exact this
  exact x_m_sound (O := x_run d) (rr := (some (.inl 1), τ)) (w0 := 0) (scr := true) (rt := some .boolean) x_clsok_all (x_M_run d) (fun j av σ r τ hj h => x_run_sound l x_clsok_all x_jok_all (x_SL_all l) _ cy a s.heap.size ha d j av σ r τ hj h) F ⟨by show τ.1.length ≤ 0 + 600000; omega, by show x_sz τ.1 ≤ 0 + 7302250; omega⟩ (x_SL_all l F) hRet (X := (L, xs)) (fun _ => hScr) x_lrows (x_chc_ok _ x_lch) n 0 _ [] x_s0 s.heap [] 0 0 ls hn ⟨fun k q h => by simp [x_W, x_s0] at h, ⟨fun i j q r h => by simp [x_W, x_s0] at h, fun k q h => by simp [x_W, x_s0] at h⟩, va_S.rf, rfl, rfl, Nat.zero_le _⟩ hl2
