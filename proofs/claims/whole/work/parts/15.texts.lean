/-! String.length, String.charAt, of the texts in the code -/
set_option maxRecDepth 1000000 in
set_option maxHeartbeats 40000000 in
theorem x_sc_len : Cond.code yJ0_length_8abf5 cJ0_length_8abf5 1 (some .int) ∈ x_Tb := x_Tb_at (i := 354) (show lw_tbl[354]? = some (Cond.code yJ0_length_8abf5 cJ0_length_8abf5 1 (some .int)) from rfl) rfl
set_option maxRecDepth 1000000 in
set_option maxHeartbeats 40000000 in
theorem x_sc_chr : Cond.code yJ0_charAt_5068e cJ0_charAt_5068e 2 (some .char) ∈ x_Tb := x_Tb_at (i := 364) (show lw_tbl[364]? = some (Cond.code yJ0_charAt_5068e cJ0_charAt_5068e 2 (some .char)) from rfl) rfl
set_option maxRecDepth 1000000 in
set_option maxHeartbeats 40000000 in
theorem x_sc_cod : Cond.code yJ0_coder_7d493 cJ0_coder_7d493 1 (some .byte) ∈ x_Tb := x_Tb_at (i := 358) (show lw_tbl[358]? = some (Cond.code yJ0_coder_7d493 cJ0_coder_7d493 1 (some .byte)) from rfl) rfl
set_option maxRecDepth 1000000 in
set_option maxHeartbeats 40000000 in
theorem x_sc_lat : Cond.code yJ0_isLatin1_aae02 cJ0_isLatin1_aae02 1 (some .boolean) ∈ x_Tb := x_Tb_at (i := 368) (show lw_tbl[368]? = some (Cond.code yJ0_isLatin1_aae02 cJ0_isLatin1_aae02 1 (some .boolean)) from rfl) rfl
set_option maxRecDepth 1000000 in
set_option maxHeartbeats 40000000 in
theorem x_sc_cki : Cond.code yJ0_checkIndex_df160 cJ0_checkIndex_df160 2 (none) ∈ x_Tb := x_Tb_at (i := 374) (show lw_tbl[374]? = some (Cond.code yJ0_checkIndex_df160 cJ0_checkIndex_df160 2 (none)) from rfl) rfl
set_option maxRecDepth 1000000 in
set_option maxHeartbeats 40000000 in
theorem x_sc_lch : Cond.code yJ1_charAt_3b067 cJ1_charAt_3b067 2 (some .char) ∈ x_Tb := x_Tb_at (i := 371) (show lw_tbl[371]? = some (Cond.code yJ1_charAt_3b067 cJ1_charAt_3b067 2 (some .char)) from rfl) rfl
set_option maxRecDepth 1000000 in
set_option maxHeartbeats 40000000 in
theorem x_sc_pck : Cond.code yJ3_checkIndex_8e157 cJ3_checkIndex_8e157 3 (some .int) ∈ x_Tb := x_Tb_at (i := 379) (show lw_tbl[379]? = some (Cond.code yJ3_checkIndex_8e157 cJ3_checkIndex_8e157 3 (some .int)) from rfl) rfl
set_option maxRecDepth 1000000 in
set_option maxHeartbeats 40000000 in
theorem x_sw_ilen : Cond.instanceMethod yJ0_length_8abf5 ∈ x_Tb := x_Tb_at (i := 352) (by decide +kernel) rfl
set_option maxRecDepth 1000000 in
set_option maxHeartbeats 40000000 in
theorem x_sw_slen : Cond.selects RJ0 yJ0_length_8abf5 yJ0_length_8abf5 ∈ x_Tb := x_Tb_at (i := 353) (by decide +kernel) rfl
set_option maxRecDepth 1000000 in
set_option maxHeartbeats 40000000 in
theorem x_sw_ichr : Cond.instanceMethod yJ0_charAt_5068e ∈ x_Tb := x_Tb_at (i := 362) (by decide +kernel) rfl
set_option maxRecDepth 1000000 in
set_option maxHeartbeats 40000000 in
theorem x_sw_schr : Cond.selects RJ0 yJ0_charAt_5068e yJ0_charAt_5068e ∈ x_Tb := x_Tb_at (i := 363) (by decide +kernel) rfl
set_option maxRecDepth 1000000 in
set_option maxHeartbeats 40000000 in
theorem x_sw_icod : Cond.instanceMethod yJ0_coder_7d493 ∈ x_Tb := x_Tb_at (i := 356) (by decide +kernel) rfl
set_option maxRecDepth 1000000 in
set_option maxHeartbeats 40000000 in
theorem x_sw_scod : Cond.selects RJ0 yJ0_coder_7d493 yJ0_coder_7d493 ∈ x_Tb := x_Tb_at (i := 357) (by decide +kernel) rfl
set_option maxRecDepth 1000000 in
set_option maxHeartbeats 40000000 in
theorem x_sw_ilat : Cond.instanceMethod yJ0_isLatin1_aae02 ∈ x_Tb := x_Tb_at (i := 366) (by decide +kernel) rfl
set_option maxRecDepth 1000000 in
set_option maxHeartbeats 40000000 in
theorem x_sw_slat : Cond.selects RJ0 yJ0_isLatin1_aae02 yJ0_isLatin1_aae02 ∈ x_Tb := x_Tb_at (i := 367) (by decide +kernel) rfl
set_option maxRecDepth 1000000 in
set_option maxHeartbeats 40000000 in
theorem x_sw_tcki : Cond.static yJ0_checkIndex_df160 ∈ x_Tb := x_Tb_at (i := 373) (by decide +kernel) rfl
set_option maxRecDepth 1000000 in
set_option maxHeartbeats 40000000 in
theorem x_sw_tlch : Cond.static yJ1_charAt_3b067 ∈ x_Tb := x_Tb_at (i := 370) (by decide +kernel) rfl
set_option maxRecDepth 1000000 in
set_option maxHeartbeats 40000000 in
theorem x_sw_tpck : Cond.static yJ3_checkIndex_8e157 ∈ x_Tb := x_Tb_at (i := 378) (by decide +kernel) rfl
set_option maxRecDepth 1000000 in
set_option maxHeartbeats 40000000 in
theorem x_sw_lcod : Cond.methodLink RJ0 335 yJ0_coder_7d493 ∈ x_Tb := x_Tb_at (i := 355) (by decide +kernel) rfl
set_option maxRecDepth 1000000 in
set_option maxHeartbeats 40000000 in
theorem x_sw_llat : Cond.methodLink RJ0 492 yJ0_isLatin1_aae02 ∈ x_Tb := x_Tb_at (i := 365) (by decide +kernel) rfl
set_option maxRecDepth 1000000 in
set_option maxHeartbeats 40000000 in
theorem x_sw_llch : Cond.methodLink RJ0 495 yJ1_charAt_3b067 ∈ x_Tb := x_Tb_at (i := 369) (by decide +kernel) rfl
set_option maxRecDepth 1000000 in
set_option maxHeartbeats 40000000 in
theorem x_sw_lcki : Cond.methodLink RJ1 9 yJ0_checkIndex_df160 ∈ x_Tb := x_Tb_at (i := 372) (by decide +kernel) rfl
set_option maxRecDepth 1000000 in
set_option maxHeartbeats 40000000 in
theorem x_sw_lpck : Cond.methodLink RJ0 1059 yJ3_checkIndex_8e157 ∈ x_Tb := x_Tb_at (i := 377) (by decide +kernel) rfl
set_option maxRecDepth 1000000 in
set_option maxHeartbeats 40000000 in
theorem x_sw_fval : Cond.fieldLink RJ0 9 "java/lang/String" "value" "[B" ∈ x_Tb := x_Tb_at (i := 1524) (by decide +kernel) rfl
set_option maxRecDepth 1000000 in
set_option maxHeartbeats 40000000 in
theorem x_sw_fcod : Cond.fieldLink RJ0 15 "java/lang/String" "coder" "B" ∈ x_Tb := x_Tb_at (i := 1525) (by decide +kernel) rfl
set_option maxRecDepth 1000000 in
set_option maxHeartbeats 40000000 in
theorem x_sw_fcom : Cond.fieldLink RJ0 38 "java/lang/String" "COMPACT_STRINGS" "Z" ∈ x_Tb := x_Tb_at (i := 359) (by decide +kernel) rfl
set_option maxRecDepth 1000000 in
set_option maxHeartbeats 40000000 in
theorem x_sw_fsio : Cond.fieldLink RJ0 1053 "jdk/internal/util/Preconditions" "SIOOBE_FORMATTER" "Ljava/util/function/BiFunction;" ∈ x_Tb := x_Tb_at (i := 375) (by decide +kernel) rfl
set_option maxRecDepth 1000000 in
set_option maxHeartbeats 40000000 in
theorem x_sw_n0 : Cond.initialized RJ0 ∈ x_Tb := x_Tb_at (i := 74) (by decide +kernel) rfl
set_option maxRecDepth 1000000 in
set_option maxHeartbeats 40000000 in
theorem x_sw_n1 : Cond.initialized RJ1 ∈ x_Tb := x_Tb_at (i := 75) (by decide +kernel) rfl
set_option maxRecDepth 1000000 in
set_option maxHeartbeats 40000000 in
theorem x_sw_n3 : Cond.initialized RJ3 ∈ x_Tb := x_Tb_at (i := 76) (by decide +kernel) rfl
theorem x_d_J0_length_8abf5_0 : decode cJ0_length_8abf5 0 = .ok (.aload_n 0, 1) := by decide +kernel
theorem x_d_J0_length_8abf5_1 : decode cJ0_length_8abf5 1 = .ok (.getfield 9, 3) := by decide +kernel
theorem x_d_J0_length_8abf5_4 : decode cJ0_length_8abf5 4 = .ok (.arraylength, 1) := by decide +kernel
theorem x_d_J0_length_8abf5_5 : decode cJ0_length_8abf5 5 = .ok (.aload_n 0, 1) := by decide +kernel
theorem x_d_J0_length_8abf5_6 : decode cJ0_length_8abf5 6 = .ok (.invokevirtual 335, 3) := by decide +kernel
theorem x_d_J0_length_8abf5_9 : decode cJ0_length_8abf5 9 = .ok (.ishr, 1) := by decide +kernel
theorem x_d_J0_length_8abf5_10 : decode cJ0_length_8abf5 10 = .ok (.ireturn, 1) := by decide +kernel
theorem x_d_J0_charAt_5068e_0 : decode cJ0_charAt_5068e 0 = .ok (.aload_n 0, 1) := by decide +kernel
theorem x_d_J0_charAt_5068e_1 : decode cJ0_charAt_5068e 1 = .ok (.invokevirtual 492, 3) := by decide +kernel
theorem x_d_J0_charAt_5068e_4 : decode cJ0_charAt_5068e 4 = .ok (.ifCond .eq 12, 3) := by decide +kernel
theorem x_d_J0_charAt_5068e_7 : decode cJ0_charAt_5068e 7 = .ok (.aload_n 0, 1) := by decide +kernel
theorem x_d_J0_charAt_5068e_8 : decode cJ0_charAt_5068e 8 = .ok (.getfield 9, 3) := by decide +kernel
theorem x_d_J0_charAt_5068e_11 : decode cJ0_charAt_5068e 11 = .ok (.iload_n 1, 1) := by decide +kernel
theorem x_d_J0_charAt_5068e_12 : decode cJ0_charAt_5068e 12 = .ok (.invokestatic 495, 3) := by decide +kernel
theorem x_d_J0_charAt_5068e_15 : decode cJ0_charAt_5068e 15 = .ok (.ireturn, 1) := by decide +kernel
theorem x_d_J0_charAt_5068e_16 : decode cJ0_charAt_5068e 16 = .ok (.aload_n 0, 1) := by decide +kernel
theorem x_d_J0_charAt_5068e_17 : decode cJ0_charAt_5068e 17 = .ok (.getfield 9, 3) := by decide +kernel
theorem x_d_J0_charAt_5068e_20 : decode cJ0_charAt_5068e 20 = .ok (.iload_n 1, 1) := by decide +kernel
theorem x_d_J0_charAt_5068e_21 : decode cJ0_charAt_5068e 21 = .ok (.invokestatic 498, 3) := by decide +kernel
theorem x_d_J0_charAt_5068e_24 : decode cJ0_charAt_5068e 24 = .ok (.ireturn, 1) := by decide +kernel
theorem x_d_J0_coder_7d493_0 : decode cJ0_coder_7d493 0 = .ok (.getstatic 38, 3) := by decide +kernel
theorem x_d_J0_coder_7d493_3 : decode cJ0_coder_7d493 3 = .ok (.ifCond .eq 10, 3) := by decide +kernel
theorem x_d_J0_coder_7d493_6 : decode cJ0_coder_7d493 6 = .ok (.aload_n 0, 1) := by decide +kernel
theorem x_d_J0_coder_7d493_7 : decode cJ0_coder_7d493 7 = .ok (.getfield 15, 3) := by decide +kernel
theorem x_d_J0_coder_7d493_10 : decode cJ0_coder_7d493 10 = .ok (.goto 4, 3) := by decide +kernel
theorem x_d_J0_coder_7d493_13 : decode cJ0_coder_7d493 13 = .ok (.iconst 1, 1) := by decide +kernel
theorem x_d_J0_coder_7d493_14 : decode cJ0_coder_7d493 14 = .ok (.ireturn, 1) := by decide +kernel
theorem x_d_J0_isLatin1_aae02_0 : decode cJ0_isLatin1_aae02 0 = .ok (.getstatic 38, 3) := by decide +kernel
theorem x_d_J0_isLatin1_aae02_3 : decode cJ0_isLatin1_aae02 3 = .ok (.ifCond .eq 14, 3) := by decide +kernel
theorem x_d_J0_isLatin1_aae02_6 : decode cJ0_isLatin1_aae02 6 = .ok (.aload_n 0, 1) := by decide +kernel
theorem x_d_J0_isLatin1_aae02_7 : decode cJ0_isLatin1_aae02 7 = .ok (.getfield 15, 3) := by decide +kernel
theorem x_d_J0_isLatin1_aae02_10 : decode cJ0_isLatin1_aae02 10 = .ok (.ifCond .ne 7, 3) := by decide +kernel
theorem x_d_J0_isLatin1_aae02_13 : decode cJ0_isLatin1_aae02 13 = .ok (.iconst 1, 1) := by decide +kernel
theorem x_d_J0_isLatin1_aae02_14 : decode cJ0_isLatin1_aae02 14 = .ok (.goto 4, 3) := by decide +kernel
theorem x_d_J0_isLatin1_aae02_17 : decode cJ0_isLatin1_aae02 17 = .ok (.iconst 0, 1) := by decide +kernel
theorem x_d_J0_isLatin1_aae02_18 : decode cJ0_isLatin1_aae02 18 = .ok (.ireturn, 1) := by decide +kernel
theorem x_d_J0_checkIndex_df160_0 : decode cJ0_checkIndex_df160 0 = .ok (.iload_n 0, 1) := by decide +kernel
theorem x_d_J0_checkIndex_df160_1 : decode cJ0_checkIndex_df160 1 = .ok (.iload_n 1, 1) := by decide +kernel
theorem x_d_J0_checkIndex_df160_2 : decode cJ0_checkIndex_df160 2 = .ok (.getstatic 1053, 3) := by decide +kernel
theorem x_d_J0_checkIndex_df160_5 : decode cJ0_checkIndex_df160 5 = .ok (.invokestatic 1059, 3) := by decide +kernel
theorem x_d_J0_checkIndex_df160_8 : decode cJ0_checkIndex_df160 8 = .ok (.pop, 1) := by decide +kernel
theorem x_d_J0_checkIndex_df160_9 : decode cJ0_checkIndex_df160 9 = .ok (.return_, 1) := by decide +kernel
theorem x_d_J1_charAt_3b067_0 : decode cJ1_charAt_3b067 0 = .ok (.iload_n 1, 1) := by decide +kernel
theorem x_d_J1_charAt_3b067_1 : decode cJ1_charAt_3b067 1 = .ok (.aload_n 0, 1) := by decide +kernel
theorem x_d_J1_charAt_3b067_2 : decode cJ1_charAt_3b067 2 = .ok (.arraylength, 1) := by decide +kernel
theorem x_d_J1_charAt_3b067_3 : decode cJ1_charAt_3b067 3 = .ok (.invokestatic 9, 3) := by decide +kernel
theorem x_d_J1_charAt_3b067_6 : decode cJ1_charAt_3b067 6 = .ok (.aload_n 0, 1) := by decide +kernel
theorem x_d_J1_charAt_3b067_7 : decode cJ1_charAt_3b067 7 = .ok (.iload_n 1, 1) := by decide +kernel
theorem x_d_J1_charAt_3b067_8 : decode cJ1_charAt_3b067 8 = .ok (.baload, 1) := by decide +kernel
theorem x_d_J1_charAt_3b067_9 : decode cJ1_charAt_3b067 9 = .ok (.sipush 255, 3) := by decide +kernel
theorem x_d_J1_charAt_3b067_12 : decode cJ1_charAt_3b067 12 = .ok (.iand, 1) := by decide +kernel
theorem x_d_J1_charAt_3b067_13 : decode cJ1_charAt_3b067 13 = .ok (.i2c, 1) := by decide +kernel
theorem x_d_J1_charAt_3b067_14 : decode cJ1_charAt_3b067 14 = .ok (.ireturn, 1) := by decide +kernel
theorem x_d_J3_checkIndex_8e157_0 : decode cJ3_checkIndex_8e157 0 = .ok (.iload_n 0, 1) := by decide +kernel
theorem x_d_J3_checkIndex_8e157_1 : decode cJ3_checkIndex_8e157 1 = .ok (.ifCond .lt 8, 3) := by decide +kernel
theorem x_d_J3_checkIndex_8e157_4 : decode cJ3_checkIndex_8e157 4 = .ok (.iload_n 0, 1) := by decide +kernel
theorem x_d_J3_checkIndex_8e157_5 : decode cJ3_checkIndex_8e157 5 = .ok (.iload_n 1, 1) := by decide +kernel
theorem x_d_J3_checkIndex_8e157_6 : decode cJ3_checkIndex_8e157 6 = .ok (.if_icmp .lt 10, 3) := by decide +kernel
theorem x_d_J3_checkIndex_8e157_9 : decode cJ3_checkIndex_8e157 9 = .ok (.aload_n 2, 1) := by decide +kernel
theorem x_d_J3_checkIndex_8e157_10 : decode cJ3_checkIndex_8e157 10 = .ok (.iload_n 0, 1) := by decide +kernel
theorem x_d_J3_checkIndex_8e157_11 : decode cJ3_checkIndex_8e157 11 = .ok (.iload_n 1, 1) := by decide +kernel
theorem x_d_J3_checkIndex_8e157_12 : decode cJ3_checkIndex_8e157 12 = .ok (.invokestatic 95, 3) := by decide +kernel
theorem x_d_J3_checkIndex_8e157_15 : decode cJ3_checkIndex_8e157 15 = .ok (.athrow, 1) := by decide +kernel
theorem x_d_J3_checkIndex_8e157_16 : decode cJ3_checkIndex_8e157 16 = .ok (.iload_n 0, 1) := by decide +kernel
theorem x_d_J3_checkIndex_8e157_17 : decode cJ3_checkIndex_8e157 17 = .ok (.ireturn, 1) := by decide +kernel
/-- a call that leaves the heap as it was -/
def x_Qz (r : Option Value) : Array Value → State → Outcome → State → Prop := fun _ st oc t => oc = .returned r ∧ t.heap = st.heap
def x_no : Nat → Prop := fun _ => False
theorem x_sback {p : Program} {l : Launch} {e : Env} {R : Room} {s : State} {m : MethodId} {args : Array Value} {below : List Frame} {meth : Method} {c : Code} {H : Heap} {locs : List Loc} {cells slots : Nat} {Q : State → Prop} {pc : Nat} {ls : Array Slot} {st0 rest : List Value} {av : Array Value} {r : Option Value}
    (hr : va_Run p l e R s m args below meth c H locs cells slots 0 0 (F0 m pc ls st0) rest (x_Qz r av) x_no) (kk : W p l e R s m args below meth c H locs cells slots Q (F0 m (pc + 3) ls (r.toList ++ rest))) : W p l e R s m args below meth c H locs cells slots Q (F0 m pc ls st0) := by
  intro T hT X
  obtain ⟨v, st₀, t, T', Lo, h0, X', hL, g1, g2, ⟨hv, hh⟩, st⟩ := hr T hT X
  injection hv with hv
  subst hv
  have hLo : Lo = [] := by
    cases Lo with
    | nil => rfl
    | cons q Lo => exact (hL q List.mem_cons_self).elim
  subst hLo
  rw [List.append_nil] at X'
  obtain ⟨t2, a1, b1⟩ := kk T' (by rw [g1, hh, h0]) X'
  exact ⟨t2, st t2 a1, b1⟩
def x_wsj (y : MethodName) (cc : ByteArray) (ml : Nat) (rt : Option FieldType) : List Cond := Cond.code y cc ml rt :: x_Tb
theorem x_good_wj {y : MethodName} {cc : ByteArray} {ml : Nat} {rt : Option FieldType} (h : Cond.code y cc ml rt ∈ x_Tb) : GoodIn x_Tb (x_wsj y cc ml rt) := by
  have g : ∀ w ∈ x_Tb, w ∈ x_Tb ∧ ((w.onTables && w.keeps) = true ∨ ∃ ty, w = .arrayClass ty) := fun w hw => ⟨hw, good_of_word (List.mem_filter.mp hw).2⟩
  intro w hw
  rcases List.mem_cons.mp hw with rfl | hw
  · exact g _ h
  · exact g _ hw
def x_rms (d : Nat) : Room := { frames := d, cells := 0, slots := 0, locals := 64 * d }
/-- what the texts' methods ask of a state -/
theorem x_vin_lt {i : Int32} {N : Nat} (hN : N < 2 ^ 31) (hi : vp_in i N) : i < Int32.ofNat N := by
  have h0 : ¬ i < 0 := fun h => hi (Or.inl h)
  have h1 : i.toNatClampNeg < N := Nat.not_le.mp fun q => hi (Or.inr q)
  have h2 : (0 : Int) ≤ i.toInt := by
    have := Int32.not_lt.mp h0
    simpa using Int32.le_iff_toInt_le.mp this
  have h3 : i.toInt = (i.toNatClampNeg : Int) := by
    show i.toInt = ((i.toInt.toNat : Nat) : Int)
    omega
  rw [Int32.lt_iff_toInt_lt, Int32.toInt_ofNat_of_lt hN]
  omega
theorem x_shr0 (x : Int32) : x >>> ((0 : Int32) &&& 31) = x := by
  rw [show (0 : Int32) &&& 31 = 0 from by decide]
  apply Int32.toBitVec_inj.mp
  simp
def x_Vt (bs : Option (Nat × Nat)) (A : Nat → Prop) (U : State) (H : Heap) : Prop := ∀ b k, bs = some (b, k) → va_T .byte b (x_len.getD k 0) (fun j => .int ((x_byt.getD k []).getD j 0)) A U H
def x_Su (a : Nat → Nat) (bs : Option (Nat × Nat)) (U : State) : Prop := ∃ A, x_St a A U U.heap ∧ x_Vt bs A U U.heap
theorem x_Su.calling {a : Nat → Nat} {bs : Option (Nat × Nat)} {U : State} (h : x_Su a bs U) (g : JFrame) (mk : MethodId) (v : Array Value) : x_Su a bs (U.calling g mk v) := by
  obtain ⟨A, h, hV⟩ := h
  exact ⟨A, h.calling g mk v, fun b k e => va_T.moved (u := U) (U := U.calling g mk v) (Vm.Alike.refl U.vm) (hV b k e)⟩
theorem x_Su.to {a : Nat → Nat} {A : Nat → Prop} {bs : Option (Nat × Nat)} {s U : State} {H : Heap} {locs : List Loc} (h : x_St a A s s.heap) (hV : x_Vt bs A s s.heap) (hS : va_S A s.heap H locs) (hU : U.heap = H) (hW : s.WarmedH U.vm) : x_Su a bs U := ⟨A, h.to hS hU hW (fun _ h => h), fun b k e => by
  subst hU
  exact va_T.moved hW.alike (va_T.kept (hV b k e) (fun q a b => hS.2.1 q a b))⟩
theorem x_Vt.no {A : Nat → Prop} {U : State} {H : Heap} : x_Vt none A U H := fun b k e => by cases e
def x_Pa (P : List Value → Prop) (a : Nat → Nat) (bs : Option (Nat × Nat)) : Array Value → State → Prop := fun v U => (∃ vs : List Value, v = vs.toArray ∧ P vs) ∧ x_Su a bs U
theorem x_Pa.blind {P : List Value → Prop} {a : Nat → Nat} {bs : Option (Nat × Nat)} : FrameBlind (x_Pa P a bs) := fun v U g mk h => ⟨h.1, h.2.calling g mk v⟩
def x_Ms (l : Launch) (y : MethodName) (cc : ByteArray) (ml : Nat) (rt : Option FieldType) (d : Nat) (P : List Value → Prop) (a : Nat → Nat) (bs : Option (Nat × Nat)) (r : Option Value) : Prop := Met l y (x_wsj y cc ml rt) (x_rms d) (x_Pa P a bs) (x_Qz r) 0 0 x_no
theorem x_Ms.of {l : Launch} {y : MethodName} {cc : ByteArray} {ml d : Nat} {rt : Option FieldType} {P : List Value → Prop} {a : Nat → Nat} {bs : Option (Nat × Nat)} {r : Option Value} (hy : plainName y.cls = true) (hP : ∀ vs, P vs → (lg_sl vs).length ≤ ml)
    (body : ∀ {p : Program} {e : Env} {s : State} {m : MethodId} {args : Array Value} {below : List Frame} {meth : Method} {c : Code} {vs : List Value} {A : Nat → Prop} {ls : Array Slot}, P vs → p.tables.exec = Jvm.exec → c.code = cc → c.maxLocals = ml → s.vm.findClass y.cls = some m.cls → (∀ w ∈ x_Tb, w.before args s = true) → meth.sig.returnType = rt → meth.locks = false → x_St a A s s.heap → x_Vt bs A s s.heap → lv_has ls ml (lv_args 0 vs) →
      W p l e (headSpec (x_wsj y cc ml rt) (x_rms d)).room s m args below meth c s.heap [] 0 0 (MQ below (x_Qz r) args s 0 0 x_no) (F0 m 0 ls [])) : x_Ms l y cc ml rt d P a bs r := by
  refine Met.ofW (cc := cc) (maxL := ml) (ret := rt) hy rfl ?_
  intro p e s m args below meth c s₁ B hml hv
  obtain ⟨⟨vs, rfl, hp⟩, A, hSt, hVt⟩ := hv
  rw [lg_entry_eq]
  have hts : ∀ w ∈ x_Tb, w.before vs.toArray s = true := fun w hw => atoms_spec (ws := x_wsj y cc ml rt) B.pre w (List.mem_cons_of_mem _ hw)
  exact body hp B.exec B.bytes hml (findClass_of_methodNamed B.named) hts B.returns B.notSynchronized hSt hVt (lv_entry vs (hP vs hp))
section
variable {p : Program} {l : Launch} {e : Env} {R : Room} {s : State} {m : MethodId} {args : Array Value} {below : List Frame} {meth : Method} {c : Code} {Q : State → Prop} {cc : ByteArray} {H : Heap} {locs : List Loc} {cells slots pc index nL : Nat} {ls : Array Slot} {rest As : List Value} {a : Nat → Nat} {A : Nat → Prop} {own : String} {y : MethodName} {bytes : ByteArray} {ml d n : Nat} {rt : Option FieldType} {P : List Value → Prop} {bs : Option (Nat × Nat)} {r : Option Value}
theorem x_callS (hx : p.tables.exec = Jvm.exec) (hb : c.code = cc) (hml : c.maxLocals = nL) (hown : s.vm.findClass own = some m.cls) (hts : ∀ w ∈ x_Tb, w.before args s = true) (hSt : x_St a A s s.heap) (hVt : x_Vt bs A s s.heap) (hS : va_S A s.heap H locs) (hM : x_Ms l y bytes ml rt d P a bs r) (hc : Cond.code y bytes ml rt ∈ x_Tb) (hi : Cond.initialized y.cls ∈ x_Tb) (hl : (Cond.methodLink own index y).before args s = true) (hs : Cond.static y ∈ x_Tb)
    (hy : y.cls ≠ "java/lang/invoke/MethodHandle" ∧ y.cls ≠ "java/lang/invoke/VarHandle" ∧ (parseMethodDescriptor y.desc).map (fun d => d.parameters.length) = some n) (hR : d + 1 ≤ R.frames ∧ 8 + (ml + 11) + 64 * d ≤ R.locals) (hP : P As) (hn : As.length = n) (hsize : ls.size = nL) (h8 : (rest.map fun v => v.category).sum ≤ 8) (hd : decode cc pc = .ok (.invokestatic index, 3)) (hf : cells ≤ R.cells ∧ slots ≤ R.slots)
    (kk : W p l e R s m args below meth c H locs cells slots Q (F0 m (pc + 3) ls (r.toList ++ rest))) : W p l e R s m args below meth c H locs cells slots Q (F0 m pc ls (As.reverse ++ rest)) :=
  x_sback (va_runS (Ts := x_Tb) (As := As) ⟨hx, hb, hml, hown, hts⟩ hM ⟨callB_of n hts (x_good_wj hc) rfl rfl rfl (hts _ hi) hl hy hR, hts _ hs⟩ ⟨x_Pa.blind, fun U hU hW => ⟨⟨As, rfl, hP⟩, x_Su.to hSt hVt hS hU hW⟩⟩ rfl hn hsize rfl (lv_room h8) hd hf) kk
theorem x_callV (hx : p.tables.exec = Jvm.exec) (hb : c.code = cc) (hml : c.maxLocals = nL) (hown : s.vm.findClass own = some m.cls) (hts : ∀ w ∈ x_Tb, w.before args s = true) (hSt : x_St a A s s.heap) (hVt : x_Vt bs A s s.heap) (hS : va_S A s.heap H locs) (hM : x_Ms l y bytes ml rt d P a bs r) (hc : Cond.code y bytes ml rt ∈ x_Tb) (hi : Cond.initialized y.cls ∈ x_Tb) (hl : (Cond.methodLink own index y).before args s = true) (hs : Cond.instanceMethod y ∈ x_Tb) (hse : Cond.selects RJ0 y y ∈ x_Tb)
    (hy : y.cls ≠ "java/lang/invoke/MethodHandle" ∧ y.cls ≠ "java/lang/invoke/VarHandle" ∧ (parseMethodDescriptor y.desc).map (fun d => d.parameters.length) = some n) (hR : d + 1 ≤ R.frames ∧ 8 + (ml + 11) + 64 * d ≤ R.locals) {k : Nat} (hk : k < 13) (hP : P (.ref (a (1000 + k)) :: As)) (hn : As.length = n) (hsize : ls.size = nL) (h8 : (rest.map fun v => v.category).sum ≤ 8) (hd : decode cc pc = .ok (.invokevirtual index, 3)) (hf : cells ≤ R.cells ∧ slots ≤ R.slots)
    (kk : W p l e R s m args below meth c H locs cells slots Q (F0 m (pc + 3) ls (r.toList ++ rest))) : W p l e R s m args below meth c H locs cells slots Q (F0 m pc ls (As.reverse ++ .ref (a (1000 + k)) :: rest)) := by
  obtain ⟨adV, hV⟩ := hSt.1
  exact x_sback (va_runV (Ts := x_Tb) (As := As) (C := RJ0) ⟨hx, hb, hml, hown, hts⟩ hM ⟨callB_of n hts (x_good_wj hc) rfl rfl rfl (hts _ hi) hl hy hR, hts _ hs, hts _ hse⟩ ⟨x_Pa.blind, vk_recv hV hk hS, fun U hU hW => ⟨⟨.ref (a (1000 + k)) :: As, rfl, hP⟩, x_Su.to hSt hVt hS hU hW⟩⟩ rfl hn hsize rfl (lv_room h8) hd hf) kk
end
theorem x_tx_len {k : Nat} (hk : k < 13) : x_len.getD k 0 = (x_TX (1000 + k)).length ∧ (x_byt.getD k [] = x_TX (1000 + k)) ∧ (x_TX (1000 + k)).length < 2 ^ 31 := by
  have h : ∀ k, k < 13 → x_len.getD k 0 = (x_TX (1000 + k)).length ∧ (x_byt.getD k [] = x_TX (1000 + k)) ∧ (x_TX (1000 + k)).length < 2 ^ 31 := by decide
  exact h k hk
theorem x_tx_chr {k : Nat} (hk : k < 13) {j : Nat} (hj : j < (x_TX (1000 + k)).length) : (((x_TX (1000 + k)).getD j 0 &&& 255).toUInt32 % 65536).toInt32 = (x_TX (1000 + k)).getD j 0 ∧ narrow .char (.int ((x_TX (1000 + k)).getD j 0)) = .int ((x_TX (1000 + k)).getD j 0) := by
  have h : ∀ k, k < 13 → ∀ b ∈ x_TX (1000 + k), ((b &&& 255).toUInt32 % 65536).toInt32 = b ∧ narrow .char (.int b) = .int b := by decide +kernel
  have hm : (x_TX (1000 + k)).getD j 0 ∈ x_TX (1000 + k) := by
    rw [List.getD_eq_getElem?_getD, List.getElem?_eq_getElem hj]
    exact List.getElem_mem _
  exact h k hk _ hm
theorem x_m_pck (l : Launch) (a : Nat → Nat) (i : Int32) (N : Nat) (hN : N < 2 ^ 31) (hi : vp_in i N) : x_Ms l yJ3_checkIndex_8e157 cJ3_checkIndex_8e157 3 (some .int) 0 (fun vs => vs = [.int i, .int (Int32.ofNat N), .null] ∨ ∃ t, vs = [.int i, .int (Int32.ofNat N), .ref t]) a none (some (.int i)) := by
  have h0 : ¬ i < 0 := fun h => hi (Or.inl h)
  have h1 : i < Int32.ofNat N := x_vin_lt hN hi
  refine x_Ms.of (by decide) (fun vs h => by rcases h with rfl | ⟨t, rfl⟩ <;> exact Nat.le_refl _) ?_
  intro p e s m args below meth c vs A ls hP hx hb hml hown hts hr hlk hSt hVt hl
  have l0 : ls[0]? = some (.val (.int i)) := by rcases hP with rfl | ⟨t, rfl⟩ <;> exact lv_at hl 0 rfl
  have l1 : ls[1]? = some (.val (.int (Int32.ofNat N))) := by rcases hP with rfl | ⟨t, rfl⟩ <;> exact lv_at hl 1 rfl
  refine lv_iload_n hx hb x_d_J3_checkIndex_8e157_0 rfl l0 ?_
  refine lv_if_lt hx hb x_d_J3_checkIndex_8e157_1 (tgt := 9) rfl (fun g => absurd g h0) (fun _ => ?_)
  refine lv_iload_n hx hb x_d_J3_checkIndex_8e157_4 rfl l0 ?_
  refine lv_iload_n hx hb x_d_J3_checkIndex_8e157_5 rfl l1 ?_
  refine lv_icmp_lt hx hb x_d_J3_checkIndex_8e157_6 (tgt := 16) rfl (fun _ => ?_) (fun g => absurd h1 g)
  refine lv_iload_n hx hb x_d_J3_checkIndex_8e157_16 rfl l0 ?_
  exact W.iret hx hb hr (fun t ht _ => ⟨rfl, ht⟩) (fun q hq => by cases hq) x_d_J3_checkIndex_8e157_17
theorem x_m_cki (l : Launch) (a : Nat → Nat) (i : Int32) (N : Nat) (hN : N < 2 ^ 31) (hi : vp_in i N) : x_Ms l yJ0_checkIndex_df160 cJ0_checkIndex_df160 2 none 1 (fun vs => vs = [.int i, .int (Int32.ofNat N)]) a none none := by
  refine x_Ms.of (by decide) (fun vs h => by subst h; exact Nat.le_refl _) ?_
  intro p e s m args below meth c vs A ls hP hx hb hml hown hts hr hlk hSt hVt hl
  subst hP
  have l0 : ls[0]? = some (.val (.int i)) := lv_at hl 0 rfl
  have l1 : ls[1]? = some (.val (.int (Int32.ofNat N))) := lv_at hl 1 rfl
  have hS : va_S A s.heap s.heap [] := va_S.rf
  refine lv_iload_n hx hb x_d_J0_checkIndex_df160_0 rfl l0 ?_
  refine lv_iload_n hx hb x_d_J0_checkIndex_df160_1 rfl l1 ?_
  have hend : ∀ q : Value, q.category = 1 → (q = .null ∨ ∃ t, q = .ref t) → W p l e (headSpec (x_wsj yJ0_checkIndex_df160 cJ0_checkIndex_df160 2 none) (x_rms 1)).room s m args below meth c s.heap [] 0 0 (MQ below (x_Qz none) args s 0 0 x_no) (F0 m 5 ls [q, .int (Int32.ofNat N), .int i]) := by
    intro q hq hq2
    refine x_callS (As := [.int i, .int (Int32.ofNat N), q]) (rest := []) (n := 3) hx hb hml hown hts hSt x_Vt.no hS (x_m_pck l a i N hN hi) x_sc_pck x_sw_n3 (hts _ x_sw_lpck) x_sw_tpck (by decide) (by decide) (by rcases hq2 with rfl | ⟨t, rfl⟩; exact Or.inl rfl; exact Or.inr ⟨t, rfl⟩) rfl hl.1 (by decide) x_d_J0_checkIndex_df160_5 (by decide) ?_
    refine lv_pop hx hb x_d_J0_checkIndex_df160_8 rfl ?_
    exact W.vret hx hb hr (fun t ht _ => ⟨rfl, ht⟩) (fun q hq => by cases hq) x_d_J0_checkIndex_df160_9
  rcases hSt.2.2.2.2.2 with hZ | ⟨t, hZ⟩
  · exact va_gets hx hb hZ hS hown (hts _ x_sw_fsio) (fun x h => h) x_d_J0_checkIndex_df160_2 (hend _ rfl (Or.inl rfl))
  · exact va_gets hx hb hZ hS hown (hts _ x_sw_fsio) (fun x h => h) x_d_J0_checkIndex_df160_2 (hend _ rfl (Or.inr ⟨t, rfl⟩))
theorem x_m_lat (l : Launch) (a : Nat → Nat) {k : Nat} (hk : k < 13) : x_Ms l yJ0_isLatin1_aae02 cJ0_isLatin1_aae02 1 (some .boolean) 0 (fun vs => vs = [.ref (a (1000 + k))]) a none (some (.int 1)) := by
  refine x_Ms.of (by decide) (fun vs h => by subst h; exact Nat.le_refl _) ?_
  intro p e s m args below meth c vs A ls hP hx hb hml hown hts hr hlk hSt hVt hl
  subst hP
  have l0 : ls[0]? = some (.val (.ref (a (1000 + k)))) := lv_at hl 0 rfl
  have hS : va_S A s.heap s.heap [] := va_S.rf
  obtain ⟨adV, hV⟩ := hSt.1
  obtain ⟨-, v1, v2, v3⟩ := hV.1 k hk
  refine va_gets hx hb hSt.2.2.2.2.1 hS hown (hts _ x_sw_fcom) (fun x h => h) x_d_J0_isLatin1_aae02_0 ?_
  refine lv_if_eq hx hb x_d_J0_isLatin1_aae02_3 (tgt := 17) rfl (fun g => absurd g (by decide)) (fun _ => ?_)
  refine lv_aload_n hx hb x_d_J0_isLatin1_aae02_6 rfl l0 ?_
  refine vk_getf hx hb v1 hS hown (hts _ x_sw_fcod) (fun x h => h) x_d_J0_isLatin1_aae02_7 ?_
  refine lv_if_ne hx hb x_d_J0_isLatin1_aae02_10 (tgt := 17) rfl (fun g => absurd rfl g) (fun _ => ?_)
  refine lv_iconst hx hb (v := 1) x_d_J0_isLatin1_aae02_13 (by decide) ?_
  refine lv_goto hx hb x_d_J0_isLatin1_aae02_14 (tgt := 18) rfl ?_
  exact W.zret hx hb hr (by decide) (fun t ht _ => ⟨rfl, ht⟩) (fun q hq => by cases hq) x_d_J0_isLatin1_aae02_18
theorem x_m_cod (l : Launch) (a : Nat → Nat) {k : Nat} (hk : k < 13) : x_Ms l yJ0_coder_7d493 cJ0_coder_7d493 1 (some .byte) 0 (fun vs => vs = [.ref (a (1000 + k))]) a none (some (.int 0)) := by
  refine x_Ms.of (by decide) (fun vs h => by subst h; exact Nat.le_refl _) ?_
  intro p e s m args below meth c vs A ls hP hx hb hml hown hts hr hlk hSt hVt hl
  subst hP
  have l0 : ls[0]? = some (.val (.ref (a (1000 + k)))) := lv_at hl 0 rfl
  have hS : va_S A s.heap s.heap [] := va_S.rf
  obtain ⟨adV, hV⟩ := hSt.1
  obtain ⟨-, v1, v2, v3⟩ := hV.1 k hk
  refine va_gets hx hb hSt.2.2.2.2.1 hS hown (hts _ x_sw_fcom) (fun x h => h) x_d_J0_coder_7d493_0 ?_
  refine lv_if_eq hx hb x_d_J0_coder_7d493_3 (tgt := 13) rfl (fun g => absurd g (by decide)) (fun _ => ?_)
  refine lv_aload_n hx hb x_d_J0_coder_7d493_6 rfl l0 ?_
  refine vk_getf hx hb v1 hS hown (hts _ x_sw_fcod) (fun x h => h) x_d_J0_coder_7d493_7 ?_
  refine lv_goto hx hb x_d_J0_coder_7d493_10 (tgt := 14) rfl ?_
  exact W.zret hx hb hr (by decide) (fun t ht _ => ⟨rfl, ht⟩) (fun q hq => by cases hq) x_d_J0_coder_7d493_14
theorem x_m_len (l : Launch) (a : Nat → Nat) {k : Nat} (hk : k < 13) : x_Ms l yJ0_length_8abf5 cJ0_length_8abf5 1 (some .int) 1 (fun vs => vs = [.ref (a (1000 + k))]) a none (some (.int (Int32.ofNat (x_TX (1000 + k)).length))) := by
  refine x_Ms.of (by decide) (fun vs h => by subst h; exact Nat.le_refl _) ?_
  intro p e s m args below meth c vs A ls hP hx hb hml hown hts hr hlk hSt hVt hl
  subst hP
  have l0 : ls[0]? = some (.val (.ref (a (1000 + k)))) := lv_at hl 0 rfl
  have hS : va_S A s.heap s.heap [] := va_S.rf
  obtain ⟨adV, hV⟩ := hSt.1
  obtain ⟨-, v1, v2, v3⟩ := hV.1 k hk
  refine lv_aload_n hx hb x_d_J0_length_8abf5_0 rfl l0 ?_
  refine vk_getf hx hb v2 hS hown (hts _ x_sw_fval) (fun x h => h) x_d_J0_length_8abf5_1 ?_
  refine va_tlen hx hb v3 hS (v := Int32.ofNat (x_TX (1000 + k)).length) (by rw [(x_tx_len hk).1]) x_d_J0_length_8abf5_4 ?_
  refine lv_aload_n hx hb x_d_J0_length_8abf5_5 rfl l0 ?_
  refine x_callV (As := []) (k := k) (n := 0) hx hb hml hown hts hSt x_Vt.no hS (x_m_cod l a hk) x_sc_cod x_sw_n0 (hts _ x_sw_lcod) x_sw_icod x_sw_scod (by decide) (by decide) hk rfl rfl hl.1 (Nat.le_of_ble_eq_true rfl) x_d_J0_length_8abf5_6 (by decide) ?_
  refine lv_ishr hx hb x_d_J0_length_8abf5_9 ?_
  rw [show (Int32.ofNat (x_TX (1000 + k)).length) >>> ((0 : Int32) &&& 31) = Int32.ofNat (x_TX (1000 + k)).length from x_shr0 _]
  exact W.iret hx hb hr (fun t ht _ => ⟨rfl, ht⟩) (fun q hq => by cases hq) x_d_J0_length_8abf5_10
theorem x_m_lch (l : Launch) (a : Nat → Nat) {k : Nat} (hk : k < 13) (i : Int32) (b : Nat) (hi : vp_in i (x_TX (1000 + k)).length) : x_Ms l yJ1_charAt_3b067 cJ1_charAt_3b067 2 (some .char) 2 (fun vs => vs = [.ref b, .int i]) a (some (b, k)) (some (.int ((x_TX (1000 + k)).getD i.toNatClampNeg 0))) := by
  obtain ⟨e1, e2, e3⟩ := x_tx_len hk
  refine x_Ms.of (by decide) (fun vs h => by subst h; exact Nat.le_refl _) ?_
  intro p e s m args below meth c vs A ls hP hx hb hml hown hts hr hlk hSt hVt hl
  subst hP
  have l0 : ls[0]? = some (.val (.ref b)) := lv_at hl 0 rfl
  have l1 : ls[1]? = some (.val (.int i)) := lv_at hl 1 rfl
  have hS : va_S A s.heap s.heap [] := va_S.rf
  have v3 := hVt b k rfl
  refine lv_iload_n hx hb x_d_J1_charAt_3b067_0 rfl l1 ?_
  refine lv_aload_n hx hb x_d_J1_charAt_3b067_1 rfl l0 ?_
  refine va_tlen hx hb v3 hS (v := Int32.ofNat (x_TX (1000 + k)).length) (by rw [e1]) x_d_J1_charAt_3b067_2 ?_
  refine x_callS (As := [.int i, .int (Int32.ofNat (x_TX (1000 + k)).length)]) (rest := []) (n := 2) hx hb hml hown hts hSt x_Vt.no hS (x_m_cki l a i _ e3 hi) x_sc_cki x_sw_n0 (hts _ x_sw_lcki) x_sw_tcki (by decide) (by decide) rfl rfl hl.1 (by decide) x_d_J1_charAt_3b067_3 (by decide) ?_
  refine lv_aload_n hx hb x_d_J1_charAt_3b067_6 rfl l0 ?_
  refine lv_iload_n hx hb x_d_J1_charAt_3b067_7 rfl l1 ?_
  have hlt : i.toNatClampNeg < (x_TX (1000 + k)).length := Nat.not_le.mp fun q => hi (Or.inr q)
  obtain ⟨c1, c2⟩ := x_tx_chr hk hlt
  refine va_tb hx hb v3 hS (v := .int ((x_TX (1000 + k)).getD i.toNatClampNeg 0)) (by rw [e1]; exact hi) (by rw [e2]) x_d_J1_charAt_3b067_8 ?_
  refine lv_sipush hx hb (v := 255) x_d_J1_charAt_3b067_9 (by decide) ?_
  refine lv_iand hx hb x_d_J1_charAt_3b067_12 ?_
  refine lv_i2c hx hb x_d_J1_charAt_3b067_13 c1 ?_
  exact W.zret hx hb hr c2 (fun t ht _ => ⟨rfl, ht⟩) (fun q hq => by cases hq) x_d_J1_charAt_3b067_14
theorem x_m_chr (l : Launch) (a : Nat → Nat) {k : Nat} (hk : k < 13) (i : Int32) (hi : vp_in i (x_TX (1000 + k)).length) : x_Ms l yJ0_charAt_5068e cJ0_charAt_5068e 2 (some .char) 3 (fun vs => vs = [.ref (a (1000 + k)), .int i]) a none (some (.int ((x_TX (1000 + k)).getD i.toNatClampNeg 0))) := by
  refine x_Ms.of (by decide) (fun vs h => by subst h; exact Nat.le_refl _) ?_
  intro p e s m args below meth c vs A ls hP hx hb hml hown hts hr hlk hSt hVt hl
  subst hP
  have l0 : ls[0]? = some (.val (.ref (a (1000 + k)))) := lv_at hl 0 rfl
  have l1 : ls[1]? = some (.val (.int i)) := lv_at hl 1 rfl
  have hS : va_S A s.heap s.heap [] := va_S.rf
  obtain ⟨adV, hV⟩ := hSt.1
  obtain ⟨-, v1, v2, v3⟩ := hV.1 k hk
  have hlt : i.toNatClampNeg < (x_TX (1000 + k)).length := Nat.not_le.mp fun q => hi (Or.inr q)
  obtain ⟨c1, c2⟩ := x_tx_chr hk hlt
  refine lv_aload_n hx hb x_d_J0_charAt_5068e_0 rfl l0 ?_
  refine x_callV (As := []) (k := k) (n := 0) hx hb hml hown hts hSt x_Vt.no hS (x_m_lat l a hk) x_sc_lat x_sw_n0 (hts _ x_sw_llat) x_sw_ilat x_sw_slat (by decide) (by decide) hk rfl rfl hl.1 (by decide) x_d_J0_charAt_5068e_1 (by decide) ?_
  refine lv_if_eq hx hb x_d_J0_charAt_5068e_4 (tgt := 16) rfl (fun g => absurd g (by decide)) (fun _ => ?_)
  refine lv_aload_n hx hb x_d_J0_charAt_5068e_7 rfl l0 ?_
  refine vk_getf hx hb v2 hS hown (hts _ x_sw_fval) (fun x h => h) x_d_J0_charAt_5068e_8 ?_
  refine lv_iload_n hx hb x_d_J0_charAt_5068e_11 rfl l1 ?_
  refine x_callS (As := [.ref (adV k), .int i]) (rest := []) (n := 2) hx hb hml hown hts hSt (fun b k' e => by cases e; exact v3) hS (x_m_lch l a hk i (adV k) hi) x_sc_lch x_sw_n1 (hts _ x_sw_llch) x_sw_tlch (by decide) (by decide) rfl rfl hl.1 (by decide) x_d_J0_charAt_5068e_12 (by decide) ?_
  exact W.zret hx hb hr c2 (fun t ht _ => ⟨rfl, ht⟩) (fun q hq => by cases hq) x_d_J0_charAt_5068e_15
theorem x_SL_all (l : Launch) : x_SLall l := by
  intro p e R s m args below meth c Q cc D cy a A n0 nL base d own ini F
  obtain ⟨hx, hb, hml, hown, hts, hini, hK, hSt, hs0, ha, hA, hRf, hRl⟩ := F
  constructor
  · intro H locs cells slots pc i k ls rest hS hc1 hc2 hk h8 hsz hd hlink kk
    exact x_callV (As := []) (rest := rest) (k := k) (n := 0) (d := 1) hx hb hml hown hts hSt x_Vt.no hS (x_m_len l a hk) x_sc_len x_sw_n0 hlink x_sw_ilen x_sw_slen (by decide) ⟨by omega, by omega⟩ hk rfl rfl hsz h8 hd ⟨hc1, hc2⟩ kk
  · intro H locs cells slots pc i k x ls rest hS hc1 hc2 hk hi h8 hsz hd hlink kk
    exact x_callV (As := [.int x]) (rest := rest) (k := k) (n := 1) (d := 3) hx hb hml hown hts hSt x_Vt.no hS (x_m_chr l a hk x hi) x_sc_chr x_sw_n0 hlink x_sw_ichr x_sw_schr (by decide) ⟨by omega, by omega⟩ hk rfl rfl hsz h8 hd ⟨hc1, hc2⟩ kk
