/-! what the small machine makes of each piece of code: by program (wip/whole/gen5.py); the kernel compares -/
section
set_option maxRecDepth 100000 in
set_option maxHeartbeats 1000000 in
/-- I$Adjuster.<init> -/
theorem e0_0 (O : Nat → List xV → xS → Option xR) (k : Nat → xF) (h : Nat) (σ : xS) : x_b O x_X0 x_TX (x_C 0) k 3000 (x_suf (x_C 0) 0) [some (.inr (.inr (some h)))] [] σ =
  (bif Nat.blt (σ).1.length 900 then
  (x_ck (x_new σ 11 ((5 : Int32).toNatClampNeg)) h 0 <|
  (bif Nat.blt (x_sr (x_new σ 11 ((5 : Int32).toNatClampNeg)) h 0 (some (σ).1.length)).1.length 900 then
  (x_ck (x_new (x_sr (x_new σ 11 ((5 : Int32).toNatClampNeg)) h 0 (some (σ).1.length)) 11 ((5 : Int32).toNatClampNeg)) h 0 <|
  (bif Nat.blt (x_sr (x_new (x_sr (x_new σ 11 ((5 : Int32).toNatClampNeg)) h 0 (some (σ).1.length)) 11 ((5 : Int32).toNatClampNeg)) h 1 (some (x_sr (x_new σ 11 ((5 : Int32).toNatClampNeg)) h 0 (some (σ).1.length)).1.length)).1.length 900 then
  (x_ck (x_new (x_sr (x_new (x_sr (x_new σ 11 ((5 : Int32).toNatClampNeg)) h 0 (some (σ).1.length)) 11 ((5 : Int32).toNatClampNeg)) h 1 (some (x_sr (x_new σ 11 ((5 : Int32).toNatClampNeg)) h 0 (some (σ).1.length)).1.length)) 11 ((5 : Int32).toNatClampNeg)) h 0 <|
  (x_ck (x_sr (x_new (x_sr (x_new (x_sr (x_new σ 11 ((5 : Int32).toNatClampNeg)) h 0 (some (σ).1.length)) 11 ((5 : Int32).toNatClampNeg)) h 1 (some (x_sr (x_new σ 11 ((5 : Int32).toNatClampNeg)) h 0 (some (σ).1.length)).1.length)) 11 ((5 : Int32).toNatClampNeg)) h 2 (some (x_sr (x_new (x_sr (x_new σ 11 ((5 : Int32).toNatClampNeg)) h 0 (some (σ).1.length)) 11 ((5 : Int32).toNatClampNeg)) h 1 (some (x_sr (x_new σ 11 ((5 : Int32).toNatClampNeg)) h 0 (some (σ).1.length)).1.length)).1.length)) h 0 <|
  (x_ck (x_si (x_sr (x_new (x_sr (x_new (x_sr (x_new σ 11 ((5 : Int32).toNatClampNeg)) h 0 (some (σ).1.length)) 11 ((5 : Int32).toNatClampNeg)) h 1 (some (x_sr (x_new σ 11 ((5 : Int32).toNatClampNeg)) h 0 (some (σ).1.length)).1.length)) 11 ((5 : Int32).toNatClampNeg)) h 2 (some (x_sr (x_new (x_sr (x_new σ 11 ((5 : Int32).toNatClampNeg)) h 0 (some (σ).1.length)) 11 ((5 : Int32).toNatClampNeg)) h 1 (some (x_sr (x_new σ 11 ((5 : Int32).toNatClampNeg)) h 0 (some (σ).1.length)).1.length)).1.length)) h 3 0) h 0 <|
  (x_ck (x_si (x_si (x_sr (x_new (x_sr (x_new (x_sr (x_new σ 11 ((5 : Int32).toNatClampNeg)) h 0 (some (σ).1.length)) 11 ((5 : Int32).toNatClampNeg)) h 1 (some (x_sr (x_new σ 11 ((5 : Int32).toNatClampNeg)) h 0 (some (σ).1.length)).1.length)) 11 ((5 : Int32).toNatClampNeg)) h 2 (some (x_sr (x_new (x_sr (x_new σ 11 ((5 : Int32).toNatClampNeg)) h 0 (some (σ).1.length)) 11 ((5 : Int32).toNatClampNeg)) h 1 (some (x_sr (x_new σ 11 ((5 : Int32).toNatClampNeg)) h 0 (some (σ).1.length)).1.length)).1.length)) h 3 0) h 4 0) h 0 <|
  (some (none, x_si (x_si (x_si (x_sr (x_new (x_sr (x_new (x_sr (x_new σ 11 ((5 : Int32).toNatClampNeg)) h 0 (some (σ).1.length)) 11 ((5 : Int32).toNatClampNeg)) h 1 (some (x_sr (x_new σ 11 ((5 : Int32).toNatClampNeg)) h 0 (some (σ).1.length)).1.length)) 11 ((5 : Int32).toNatClampNeg)) h 2 (some (x_sr (x_new (x_sr (x_new σ 11 ((5 : Int32).toNatClampNeg)) h 0 (some (σ).1.length)) 11 ((5 : Int32).toNatClampNeg)) h 1 (some (x_sr (x_new σ 11 ((5 : Int32).toNatClampNeg)) h 0 (some (σ).1.length)).1.length)).1.length)) h 3 0) h 4 0) h 5 0)))))) else none)) else none)) else none) := rfl
set_option maxRecDepth 100000 in
set_option maxHeartbeats 1000000 in
/-- I$Adjuster.seek -/
theorem e1_0 (O : Nat → List xV → xS → Option xR) (k : Nat → xF) (h : Nat) (q1 : Option Nat) (q2 : Option Nat) (i3 : Int32) (i4 : Int32) (σ : xS) : x_b O x_X0 x_TX (x_C 1) k 3000 (x_suf (x_C 1) 0) [some (.inr (.inr (some h))), some (.inr (.inr q1)), some (.inr (.inr q2)), some (.inl i3), some (.inl i4), none, none] [] σ =
  (x_der q1 fun a1 => x_ck σ a1 8 <|
  (x_ck σ h 0 <|
  k 11 [some (.inr (.inr (some h))), some (.inr (.inr q1)), some (.inr (.inr q2)), some (.inl i3), some (.inl i4), some (.inl 0), none] [] (x_si σ h 3 (x_I σ a1 1)))) := rfl
set_option maxRecDepth 100000 in
set_option maxHeartbeats 1000000 in
/-- I$Adjuster.seek -/
theorem e1_11 (O : Nat → List xV → xS → Option xR) (k : Nat → xF) (h : Nat) (q1 : Option Nat) (q2 : Option Nat) (i3 : Int32) (i4 : Int32) (i5 : Int32) (σ : xS) : x_b O x_X0 x_TX (x_C 1) k 3000 (x_suf (x_C 1) 11) [some (.inr (.inr (some h))), some (.inr (.inr q1)), some (.inr (.inr q2)), some (.inl i3), some (.inl i4), some (.inl i5), none] [] σ =
  (x_ck σ h 0 <|
  (if (x_I σ h 3) ≤ i5 then
    (x_ck σ h 0 <|
    x_ci (O 2 [.inr (.inr (some h)), .inl i3, .inl i4] σ) fun x2 σ1 =>
    (x_ck σ1 h 0 <|
    (x_ck (x_si σ1 h 4 x2) h 0 <|
    x_ci (O 4 [.inr (.inr (some h))] (x_si σ1 h 4 x2)) fun x4 σ3 =>
    (x_ck σ3 h 0 <|
    k 124 [some (.inr (.inr (some h))), none, none, some (.inl i3), some (.inl i4), some (.inl 0), none] [] (x_si σ3 h 5 x4)))))
  else
    (x_der q1 fun a5 => x_ck σ a5 8 <|
    x_cr (O 65 [.inr (.inr q1), .inl i5] σ) fun r7 σ6 =>
    (x_nul r7
      (k 11 [some (.inr (.inr (some h))), some (.inr (.inr q1)), some (.inr (.inr q2)), some (.inl i3), some (.inl i4), some (.inl (i5 + 1)), none] [] σ6)
      (x_ck σ6 h 0 <|
      (x_cv (O 130 [.inr (.inr (x_Q σ6 h 0)), .inl i5, .inl i5] σ6) fun σ8 =>
      (x_ck σ8 h 0 <|
      (x_der r7 fun a9 => x_ck σ8 a9 2 <|
      (x_cv (O 130 [.inr (.inr (x_Q σ8 h 1)), .inl i5, .inl (x_I σ8 a9 5)] σ8) fun σ10 =>
      (x_ck σ10 h 0 <|
      (if i4 = 0 then
        (x_cv (O 130 [.inr (.inr (x_Q σ10 h 2)), .inl i5, .inl 0] σ10) fun σ20 =>
        k 11 [some (.inr (.inr (some h))), some (.inr (.inr q1)), some (.inr (.inr q2)), some (.inl i3), some (.inl i4), some (.inl (i5 + 1)), none] [] σ20)
      else
        (x_der q1 fun a11 => x_ck σ10 a11 8 <|
        (x_der r7 fun a12 => x_ck σ10 a12 2 <|
        (x_der r7 fun a13 => x_ck σ10 a13 2 <|
        x_ci (O 18 [.inr (.inr r7), .inr (.inr q2), .inl (x_I σ10 a11 2), .inl (x_I σ10 a12 7)] σ10) fun x15 σ14 =>
        (x_der r7 fun a16 => x_ck σ14 a16 2 <|
        x_ci (O 20 [.inr (.inr r7), .inl x15] σ14) fun x18 σ17 =>
        (x_cv (O 130 [.inr (.inr (x_Q σ10 h 2)), .inl i5, .inl x18] σ17) fun σ19 =>
        k 11 [some (.inr (.inr (some h))), some (.inr (.inr q1)), some (.inr (.inr q2)), some (.inl i3), some (.inl i4), some (.inl (i5 + 1)), none] [] σ19)))))))))))))))) := rfl
set_option maxRecDepth 100000 in
set_option maxHeartbeats 1000000 in
/-- I$Adjuster.seek -/
theorem e1_124 (O : Nat → List xV → xS → Option xR) (k : Nat → xF) (h : Nat) (i3 : Int32) (i4 : Int32) (i5 : Int32) (σ : xS) : x_b O x_X0 x_TX (x_C 1) k 3000 (x_suf (x_C 1) 124) [some (.inr (.inr (some h))), none, none, some (.inl i3), some (.inl i4), some (.inl i5), none] [] σ =
  (if 120 ≤ i5 then
    (some (none, σ))
  else
    (x_ck σ h 0 <|
    x_ci (O 5 [.inr (.inr (some h))] σ) fun x2 σ1 =>
    (if x2 = 0 then
      (some (none, σ1))
    else
      (x_ck σ1 h 0 <|
      x_ci (O 2 [.inr (.inr (some h)), .inl i3, .inl i4] σ1) fun x4 σ3 =>
      (x_ck σ3 h 0 <|
      (if (x_I σ3 h 4) ≤ x4 then
        k 124 [some (.inr (.inr (some h))), none, none, some (.inl i3), some (.inl i4), some (.inl (i5 + 1)), none] [] σ3
      else
        (x_ck σ3 h 0 <|
        (x_ck (x_si σ3 h 4 x4) h 0 <|
        x_ci (O 4 [.inr (.inr (some h))] (x_si σ3 h 4 x4)) fun x6 σ5 =>
        (x_ck σ5 h 0 <|
        k 124 [some (.inr (.inr (some h))), none, none, some (.inl i3), some (.inl i4), some (.inl (i5 + 1)), none] [] (x_si σ5 h 5 x6)))))))))) := rfl
set_option maxRecDepth 100000 in
set_option maxHeartbeats 1000000 in
/-- I$Adjuster.cost -/
theorem e2_0 (O : Nat → List xV → xS → Option xR) (k : Nat → xF) (h : Nat) (i1 : Int32) (i2 : Int32) (σ : xS) : x_b O x_X0 x_TX (x_C 2) k 3000 (x_suf (x_C 2) 0) [some (.inr (.inr (some h))), some (.inl i1), some (.inl i2), none, none, none, none, none] [] σ =
  k 11 [some (.inr (.inr (some h))), none, some (.inl i2), some (.inl 0), some (.inl 0), some (.inl i1), some (.inl 0), none] [] σ := rfl
set_option maxRecDepth 100000 in
set_option maxHeartbeats 1000000 in
/-- I$Adjuster.cost -/
theorem e2_11 (O : Nat → List xV → xS → Option xR) (k : Nat → xF) (h : Nat) (i2 : Int32) (i3 : Int32) (i4 : Int32) (i5 : Int32) (i6 : Int32) (σ : xS) : x_b O x_X0 x_TX (x_C 2) k 3000 (x_suf (x_C 2) 11) [some (.inr (.inr (some h))), none, some (.inl i2), some (.inl i3), some (.inl i4), some (.inl i5), some (.inl i6), none] [] σ =
  (x_ck σ h 0 <|
  (if (x_I σ h 3) ≤ i6 then
    (if i2 = 0 then
      (some (some (.inl i3), σ))
    else
      (some (some (.inl i4), σ)))
  else
    (x_ck σ h 0 <|
    (x_ci (O 129 [.inr (.inr (x_Q σ h 0)), .inl i6] σ) fun x2 σ1 =>
    (x_ck σ1 h 0 <|
    (x_ci (O 129 [.inr (.inr (x_Q σ1 h 1)), .inl x2] σ1) fun x4 σ3 =>
    (x_ci (O 3 [.inl i5, .inl x4] σ3) fun x6 σ5 =>
    (x_ck σ5 h 0 <|
    (x_ci (O 129 [.inr (.inr (x_Q σ5 h 2)), .inl x2] σ5) fun x8 σ7 =>
    (x_ck σ7 h 0 <|
    (x_ci (O 129 [.inr (.inr (x_Q σ7 h 1)), .inl x2] σ7) fun x10 σ9 =>
    k 11 [some (.inr (.inr (some h))), none, some (.inl i2), some (.inl (i3 + x6)), some (.inl (i4 + (x8 * (i3 + x6)))), some (.inl x10), some (.inl (i6 + 1)), none] [] σ9))))))))))) := rfl
set_option maxRecDepth 100000 in
set_option maxHeartbeats 1000000 in
/-- I$Adjuster.wayBetween -/
theorem e3_0 (O : Nat → List xV → xS → Option xR) (k : Nat → xF) (i0 : Int32) (i1 : Int32) (σ : xS) : x_b O x_X0 x_TX (x_C 3) k 3000 (x_suf (x_C 3) 0) [some (.inl i0), some (.inl i1), none] [] σ =
  (some (some (.inl (if (12 - (if 0 ≤ (i0 - i1) then (i0 - i1) else 0 - (i0 - i1))) < (if 0 ≤ (i0 - i1) then (i0 - i1) else 0 - (i0 - i1)) then (12 - (if 0 ≤ (i0 - i1) then (i0 - i1) else 0 - (i0 - i1))) else (if 0 ≤ (i0 - i1) then (i0 - i1) else 0 - (i0 - i1)))), σ)) := rfl
set_option maxRecDepth 100000 in
set_option maxHeartbeats 1000000 in
/-- I$Adjuster.digits -/
theorem e4_0 (O : Nat → List xV → xS → Option xR) (k : Nat → xF) (h : Nat) (σ : xS) : x_b O x_X0 x_TX (x_C 4) k 3000 (x_suf (x_C 4) 0) [some (.inr (.inr (some h))), none, none] [] σ =
  k 4 [some (.inr (.inr (some h))), some (.inl 0), some (.inl 0)] [] σ := rfl
set_option maxRecDepth 100000 in
set_option maxHeartbeats 1000000 in
/-- I$Adjuster.digits -/
theorem e4_4 (O : Nat → List xV → xS → Option xR) (k : Nat → xF) (h : Nat) (i1 : Int32) (i2 : Int32) (σ : xS) : x_b O x_X0 x_TX (x_C 4) k 3000 (x_suf (x_C 4) 4) [some (.inr (.inr (some h))), some (.inl i1), some (.inl i2)] [] σ =
  (x_ck σ h 0 <|
  (if (x_I σ h 3) ≤ i2 then
    (some (some (.inl i1), σ))
  else
    (x_ck σ h 0 <|
    (x_ci (O 129 [.inr (.inr (x_Q σ h 0)), .inl i2] σ) fun x2 σ1 =>
    k 4 [some (.inr (.inr (some h))), some (.inl (((i1 * 10) + x2) + 1)), some (.inl (i2 + 1))] [] σ1)))) := rfl
set_option maxRecDepth 100000 in
set_option maxHeartbeats 1000000 in
/-- I$Adjuster.toNextOrder -/
theorem e5_0 (O : Nat → List xV → xS → Option xR) (k : Nat → xF) (h : Nat) (σ : xS) : x_b O x_X0 x_TX (x_C 5) k 3000 (x_suf (x_C 5) 0) [some (.inr (.inr (some h))), none, none, none, none] [] σ =
  (x_ck σ h 0 <|
  k 7 [some (.inr (.inr (some h))), some (.inl ((x_I σ h 3) - 2)), none, none, none] [] σ) := rfl
set_option maxRecDepth 100000 in
set_option maxHeartbeats 1000000 in
/-- I$Adjuster.toNextOrder -/
theorem e5_7 (O : Nat → List xV → xS → Option xR) (k : Nat → xF) (h : Nat) (i1 : Int32) (σ : xS) : x_b O x_X0 x_TX (x_C 5) k 3000 (x_suf (x_C 5) 7) [some (.inr (.inr (some h))), some (.inl i1), none, none, none] [] σ =
  (if i1 < 0 then
    (if 0 ≤ i1 then
      (x_ck σ h 0 <|
      k 51 [some (.inr (.inr (some h))), some (.inl i1), some (.inl ((x_I σ h 3) - 1)), none, none] [] σ)
    else
      (some (some (.inl 0), σ)))
  else
    (x_ck σ h 0 <|
    (x_ci (O 129 [.inr (.inr (x_Q σ h 0)), .inl i1] σ) fun x2 σ1 =>
    (x_ck σ1 h 0 <|
    (x_ci (O 129 [.inr (.inr (x_Q σ1 h 0)), .inl (i1 + 1)] σ1) fun x4 σ3 =>
    (if x2 ≤ x4 then
      (if 0 ≤ i1 then
        (x_ck σ3 h 0 <|
        k 51 [some (.inr (.inr (some h))), some (.inl i1), some (.inl ((x_I σ3 h 3) - 1)), none, none] [] σ3)
      else
        (some (some (.inl 0), σ3)))
    else
      k 7 [some (.inr (.inr (some h))), some (.inl (i1 + (-1))), none, none, none] [] σ3)))))) := rfl
set_option maxRecDepth 100000 in
set_option maxHeartbeats 1000000 in
/-- I$Adjuster.toNextOrder -/
theorem e5_51 (O : Nat → List xV → xS → Option xR) (k : Nat → xF) (h : Nat) (i1 : Int32) (i2 : Int32) (σ : xS) : x_b O x_X0 x_TX (x_C 5) k 3000 (x_suf (x_C 5) 51) [some (.inr (.inr (some h))), some (.inl i1), some (.inl i2), none, none] [] σ =
  (if i2 ≤ i1 then
    k 81 [some (.inr (.inr (some h))), some (.inl i1), some (.inl i2), none, none] [] σ
  else
    (x_ck σ h 0 <|
    (x_ci (O 129 [.inr (.inr (x_Q σ h 0)), .inl i2] σ) fun x2 σ1 =>
    (x_ck σ1 h 0 <|
    (x_ci (O 129 [.inr (.inr (x_Q σ1 h 0)), .inl i1] σ1) fun x4 σ3 =>
    (if x4 ≤ x2 then
      k 81 [some (.inr (.inr (some h))), some (.inl i1), some (.inl i2), none, none] [] σ3
    else
      k 51 [some (.inr (.inr (some h))), some (.inl i1), some (.inl (i2 + (-1))), none, none] [] σ3)))))) := rfl
set_option maxRecDepth 100000 in
set_option maxHeartbeats 1000000 in
/-- I$Adjuster.toNextOrder -/
theorem e5_81 (O : Nat → List xV → xS → Option xR) (k : Nat → xF) (h : Nat) (i1 : Int32) (i2 : Int32) (σ : xS) : x_b O x_X0 x_TX (x_C 5) k 3000 (x_suf (x_C 5) 81) [some (.inr (.inr (some h))), some (.inl i1), some (.inl i2), none, none] [] σ =
  (x_ck σ h 0 <|
  x_cv (O 6 [.inr (.inr (some h)), .inl i1, .inl i2] σ) fun σ1 =>
  (x_ck σ1 h 0 <|
  k 99 [some (.inr (.inr (some h))), none, none, some (.inl (i1 + 1)), some (.inl ((x_I σ1 h 3) - 1))] [] σ1)) := rfl
set_option maxRecDepth 100000 in
set_option maxHeartbeats 1000000 in
/-- I$Adjuster.toNextOrder -/
theorem e5_99 (O : Nat → List xV → xS → Option xR) (k : Nat → xF) (h : Nat) (i3 : Int32) (i4 : Int32) (σ : xS) : x_b O x_X0 x_TX (x_C 5) k 3000 (x_suf (x_C 5) 99) [some (.inr (.inr (some h))), none, none, some (.inl i3), some (.inl i4)] [] σ =
  (if i4 ≤ i3 then
    (some (some (.inl 1), σ))
  else
    (x_ck σ h 0 <|
    x_cv (O 6 [.inr (.inr (some h)), .inl i3, .inl i4] σ) fun σ1 =>
    k 99 [some (.inr (.inr (some h))), none, none, some (.inl (i3 + 1)), some (.inl (i4 + (-1)))] [] σ1)) := rfl
set_option maxRecDepth 100000 in
set_option maxHeartbeats 1000000 in
/-- I$Adjuster.swap -/
theorem e6_0 (O : Nat → List xV → xS → Option xR) (k : Nat → xF) (h : Nat) (i1 : Int32) (i2 : Int32) (σ : xS) : x_b O x_X0 x_TX (x_C 6) k 3000 (x_suf (x_C 6) 0) [some (.inr (.inr (some h))), some (.inl i1), some (.inl i2), none] [] σ =
  (x_ck σ h 0 <|
  (x_ci (O 129 [.inr (.inr (x_Q σ h 0)), .inl i1] σ) fun x2 σ1 =>
  (x_ck σ1 h 0 <|
  (x_ck σ1 h 0 <|
  (x_ci (O 129 [.inr (.inr (x_Q σ1 h 0)), .inl i2] σ1) fun x4 σ3 =>
  (x_cv (O 130 [.inr (.inr (x_Q σ1 h 0)), .inl i1, .inl x4] σ3) fun σ5 =>
  (x_ck σ5 h 0 <|
  (x_cv (O 130 [.inr (.inr (x_Q σ5 h 0)), .inl i2, .inl x2] σ5) fun σ6 =>
  (some (none, σ6)))))))))) := rfl
set_option maxRecDepth 100000 in
set_option maxHeartbeats 1000000 in
/-- I$Best.<init> -/
theorem e7_0 (O : Nat → List xV → xS → Option xR) (k : Nat → xF) (h : Nat) (σ : xS) : x_b O x_X0 x_TX (x_C 7) k 3000 (x_suf (x_C 7) 0) [some (.inr (.inr (some h)))] [] σ =
  (x_ck σ h 1 <|
  (x_ck (x_si σ h 0 (-1)) h 1 <|
  (some (none, x_sl (x_si σ h 0 (-1)) h 1 (-1))))) := rfl
set_option maxRecDepth 100000 in
set_option maxHeartbeats 1000000 in
/-- I$Best.begin -/
theorem e8_0 (O : Nat → List xV → xS → Option xR) (k : Nat → xF) (h : Nat) (σ : xS) : x_b O x_X0 x_TX (x_C 8) k 3000 (x_suf (x_C 8) 0) [some (.inr (.inr (some h)))] [] σ =
  (x_ck σ h 1 <|
  (x_ck (x_si σ h 0 (-1)) h 1 <|
  (some (none, x_sl (x_si σ h 0 (-1)) h 1 (-1))))) := rfl
set_option maxRecDepth 100000 in
set_option maxHeartbeats 1000000 in
/-- I$Best.offer -/
theorem e9_0 (O : Nat → List xV → xS → Option xR) (k : Nat → xF) (h : Nat) (i1 : Int32) (j2 : Int64) (σ : xS) : x_b O x_X0 x_TX (x_C 9) k 3000 (x_suf (x_C 9) 0) [some (.inr (.inr (some h))), some (.inl i1), some (.inr (.inl j2)), none] [] σ =
  (x_ck σ h 1 <|
  (if (lg_cmp j2 (x_J σ h 1)) ≤ 0 then
    (some (none, σ))
  else
    (x_ck σ h 1 <|
    (x_ck (x_si σ h 0 i1) h 1 <|
    (some (none, x_sl (x_si σ h 0 i1) h 1 j2)))))) := rfl
set_option maxRecDepth 100000 in
set_option maxHeartbeats 1000000 in
/-- I$Life.<init> -/
theorem e10_0 (O : Nat → List xV → xS → Option xR) (k : Nat → xF) (h : Nat) (σ : xS) : x_b O x_X0 x_TX (x_C 10) k 3000 (x_suf (x_C 10) 0) [some (.inr (.inr (some h)))] [] σ =
  (some (none, σ)) := rfl
set_option maxRecDepth 100000 in
set_option maxHeartbeats 1000000 in
/-- I$Life.come -/
theorem e11_0 (O : Nat → List xV → xS → Option xR) (k : Nat → xF) (h : Nat) (i1 : Int32) (i2 : Int32) (i3 : Int32) (σ : xS) : x_b O x_X0 x_TX (x_C 11) k 3000 (x_suf (x_C 11) 0) [some (.inr (.inr (some h))), some (.inl i1), some (.inl i2), some (.inl i3)] [] σ =
  (x_ck σ h 2 <|
  (x_ck (x_si σ h 0 (i1 / 10)) h 2 <|
  (x_ck (x_si (x_si σ h 0 (i1 / 10)) h 1 (i1 - i1 / 10 * 10)) h 2 <|
  (x_ck (x_si (x_si (x_si σ h 0 (i1 / 10)) h 1 (i1 - i1 / 10 * 10)) h 2 i2) h 2 <|
  (x_ck (x_si (x_si (x_si (x_si σ h 0 (i1 / 10)) h 1 (i1 - i1 / 10 * 10)) h 2 i2) h 3 10) h 2 <|
  (x_ck (x_si (x_si (x_si (x_si (x_si σ h 0 (i1 / 10)) h 1 (i1 - i1 / 10 * 10)) h 2 i2) h 3 10) h 4 50) h 2 <|
  (x_ck (x_si (x_si (x_si (x_si (x_si (x_si σ h 0 (i1 / 10)) h 1 (i1 - i1 / 10 * 10)) h 2 i2) h 3 10) h 4 50) h 5 i3) h 2 <|
  (x_ck (x_si (x_si (x_si (x_si (x_si (x_si (x_si σ h 0 (i1 / 10)) h 1 (i1 - i1 / 10 * 10)) h 2 i2) h 3 10) h 4 50) h 5 i3) h 6 (-1)) h 2 <|
  (some (none, x_si (x_si (x_si (x_si (x_si (x_si (x_si (x_si σ h 0 (i1 / 10)) h 1 (i1 - i1 / 10 * 10)) h 2 i2) h 3 10) h 4 50) h 5 i3) h 6 (-1)) h 7 0)))))))))) := rfl
set_option maxRecDepth 100000 in
set_option maxHeartbeats 1000000 in
/-- I$Life.become -/
theorem e12_0 (O : Nat → List xV → xS → Option xR) (k : Nat → xF) (h : Nat) (q1 : Option Nat) (σ : xS) : x_b O x_X0 x_TX (x_C 12) k 3000 (x_suf (x_C 12) 0) [some (.inr (.inr (some h))), some (.inr (.inr q1))] [] σ =
  (x_der q1 fun a1 => x_ck σ a1 2 <|
  (x_ck σ h 2 <|
  (x_der q1 fun a2 => x_ck (x_si σ h 0 (x_I σ a1 0)) a2 2 <|
  (x_ck (x_si σ h 0 (x_I σ a1 0)) h 2 <|
  (x_der q1 fun a3 => x_ck (x_si (x_si σ h 0 (x_I σ a1 0)) h 1 (x_I (x_si σ h 0 (x_I σ a1 0)) a2 1)) a3 2 <|
  (x_ck (x_si (x_si σ h 0 (x_I σ a1 0)) h 1 (x_I (x_si σ h 0 (x_I σ a1 0)) a2 1)) h 2 <|
  (x_der q1 fun a4 => x_ck (x_si (x_si (x_si σ h 0 (x_I σ a1 0)) h 1 (x_I (x_si σ h 0 (x_I σ a1 0)) a2 1)) h 2 (x_I (x_si (x_si σ h 0 (x_I σ a1 0)) h 1 (x_I (x_si σ h 0 (x_I σ a1 0)) a2 1)) a3 2)) a4 2 <|
  (x_ck (x_si (x_si (x_si σ h 0 (x_I σ a1 0)) h 1 (x_I (x_si σ h 0 (x_I σ a1 0)) a2 1)) h 2 (x_I (x_si (x_si σ h 0 (x_I σ a1 0)) h 1 (x_I (x_si σ h 0 (x_I σ a1 0)) a2 1)) a3 2)) h 2 <|
  (x_der q1 fun a5 => x_ck (x_si (x_si (x_si (x_si σ h 0 (x_I σ a1 0)) h 1 (x_I (x_si σ h 0 (x_I σ a1 0)) a2 1)) h 2 (x_I (x_si (x_si σ h 0 (x_I σ a1 0)) h 1 (x_I (x_si σ h 0 (x_I σ a1 0)) a2 1)) a3 2)) h 3 (x_I (x_si (x_si (x_si σ h 0 (x_I σ a1 0)) h 1 (x_I (x_si σ h 0 (x_I σ a1 0)) a2 1)) h 2 (x_I (x_si (x_si σ h 0 (x_I σ a1 0)) h 1 (x_I (x_si σ h 0 (x_I σ a1 0)) a2 1)) a3 2)) a4 3)) a5 2 <|
  (x_ck (x_si (x_si (x_si (x_si σ h 0 (x_I σ a1 0)) h 1 (x_I (x_si σ h 0 (x_I σ a1 0)) a2 1)) h 2 (x_I (x_si (x_si σ h 0 (x_I σ a1 0)) h 1 (x_I (x_si σ h 0 (x_I σ a1 0)) a2 1)) a3 2)) h 3 (x_I (x_si (x_si (x_si σ h 0 (x_I σ a1 0)) h 1 (x_I (x_si σ h 0 (x_I σ a1 0)) a2 1)) h 2 (x_I (x_si (x_si σ h 0 (x_I σ a1 0)) h 1 (x_I (x_si σ h 0 (x_I σ a1 0)) a2 1)) a3 2)) a4 3)) h 2 <|
  (x_der q1 fun a6 => x_ck (x_si (x_si (x_si (x_si (x_si σ h 0 (x_I σ a1 0)) h 1 (x_I (x_si σ h 0 (x_I σ a1 0)) a2 1)) h 2 (x_I (x_si (x_si σ h 0 (x_I σ a1 0)) h 1 (x_I (x_si σ h 0 (x_I σ a1 0)) a2 1)) a3 2)) h 3 (x_I (x_si (x_si (x_si σ h 0 (x_I σ a1 0)) h 1 (x_I (x_si σ h 0 (x_I σ a1 0)) a2 1)) h 2 (x_I (x_si (x_si σ h 0 (x_I σ a1 0)) h 1 (x_I (x_si σ h 0 (x_I σ a1 0)) a2 1)) a3 2)) a4 3)) h 4 (x_I (x_si (x_si (x_si (x_si σ h 0 (x_I σ a1 0)) h 1 (x_I (x_si σ h 0 (x_I σ a1 0)) a2 1)) h 2 (x_I (x_si (x_si σ h 0 (x_I σ a1 0)) h 1 (x_I (x_si σ h 0 (x_I σ a1 0)) a2 1)) a3 2)) h 3 (x_I (x_si (x_si (x_si σ h 0 (x_I σ a1 0)) h 1 (x_I (x_si σ h 0 (x_I σ a1 0)) a2 1)) h 2 (x_I (x_si (x_si σ h 0 (x_I σ a1 0)) h 1 (x_I (x_si σ h 0 (x_I σ a1 0)) a2 1)) a3 2)) a4 3)) a5 4)) a6 2 <|
  (x_ck (x_si (x_si (x_si (x_si (x_si σ h 0 (x_I σ a1 0)) h 1 (x_I (x_si σ h 0 (x_I σ a1 0)) a2 1)) h 2 (x_I (x_si (x_si σ h 0 (x_I σ a1 0)) h 1 (x_I (x_si σ h 0 (x_I σ a1 0)) a2 1)) a3 2)) h 3 (x_I (x_si (x_si (x_si σ h 0 (x_I σ a1 0)) h 1 (x_I (x_si σ h 0 (x_I σ a1 0)) a2 1)) h 2 (x_I (x_si (x_si σ h 0 (x_I σ a1 0)) h 1 (x_I (x_si σ h 0 (x_I σ a1 0)) a2 1)) a3 2)) a4 3)) h 4 (x_I (x_si (x_si (x_si (x_si σ h 0 (x_I σ a1 0)) h 1 (x_I (x_si σ h 0 (x_I σ a1 0)) a2 1)) h 2 (x_I (x_si (x_si σ h 0 (x_I σ a1 0)) h 1 (x_I (x_si σ h 0 (x_I σ a1 0)) a2 1)) a3 2)) h 3 (x_I (x_si (x_si (x_si σ h 0 (x_I σ a1 0)) h 1 (x_I (x_si σ h 0 (x_I σ a1 0)) a2 1)) h 2 (x_I (x_si (x_si σ h 0 (x_I σ a1 0)) h 1 (x_I (x_si σ h 0 (x_I σ a1 0)) a2 1)) a3 2)) a4 3)) a5 4)) h 2 <|
  (x_der q1 fun a7 => x_ck (x_si (x_si (x_si (x_si (x_si (x_si σ h 0 (x_I σ a1 0)) h 1 (x_I (x_si σ h 0 (x_I σ a1 0)) a2 1)) h 2 (x_I (x_si (x_si σ h 0 (x_I σ a1 0)) h 1 (x_I (x_si σ h 0 (x_I σ a1 0)) a2 1)) a3 2)) h 3 (x_I (x_si (x_si (x_si σ h 0 (x_I σ a1 0)) h 1 (x_I (x_si σ h 0 (x_I σ a1 0)) a2 1)) h 2 (x_I (x_si (x_si σ h 0 (x_I σ a1 0)) h 1 (x_I (x_si σ h 0 (x_I σ a1 0)) a2 1)) a3 2)) a4 3)) h 4 (x_I (x_si (x_si (x_si (x_si σ h 0 (x_I σ a1 0)) h 1 (x_I (x_si σ h 0 (x_I σ a1 0)) a2 1)) h 2 (x_I (x_si (x_si σ h 0 (x_I σ a1 0)) h 1 (x_I (x_si σ h 0 (x_I σ a1 0)) a2 1)) a3 2)) h 3 (x_I (x_si (x_si (x_si σ h 0 (x_I σ a1 0)) h 1 (x_I (x_si σ h 0 (x_I σ a1 0)) a2 1)) h 2 (x_I (x_si (x_si σ h 0 (x_I σ a1 0)) h 1 (x_I (x_si σ h 0 (x_I σ a1 0)) a2 1)) a3 2)) a4 3)) a5 4)) h 5 (x_I (x_si (x_si (x_si (x_si (x_si σ h 0 (x_I σ a1 0)) h 1 (x_I (x_si σ h 0 (x_I σ a1 0)) a2 1)) h 2 (x_I (x_si (x_si σ h 0 (x_I σ a1 0)) h 1 (x_I (x_si σ h 0 (x_I σ a1 0)) a2 1)) a3 2)) h 3 (x_I (x_si (x_si (x_si σ h 0 (x_I σ a1 0)) h 1 (x_I (x_si σ h 0 (x_I σ a1 0)) a2 1)) h 2 (x_I (x_si (x_si σ h 0 (x_I σ a1 0)) h 1 (x_I (x_si σ h 0 (x_I σ a1 0)) a2 1)) a3 2)) a4 3)) h 4 (x_I (x_si (x_si (x_si (x_si σ h 0 (x_I σ a1 0)) h 1 (x_I (x_si σ h 0 (x_I σ a1 0)) a2 1)) h 2 (x_I (x_si (x_si σ h 0 (x_I σ a1 0)) h 1 (x_I (x_si σ h 0 (x_I σ a1 0)) a2 1)) a3 2)) h 3 (x_I (x_si (x_si (x_si σ h 0 (x_I σ a1 0)) h 1 (x_I (x_si σ h 0 (x_I σ a1 0)) a2 1)) h 2 (x_I (x_si (x_si σ h 0 (x_I σ a1 0)) h 1 (x_I (x_si σ h 0 (x_I σ a1 0)) a2 1)) a3 2)) a4 3)) a5 4)) a6 5)) a7 2 <|
  (x_ck (x_si (x_si (x_si (x_si (x_si (x_si σ h 0 (x_I σ a1 0)) h 1 (x_I (x_si σ h 0 (x_I σ a1 0)) a2 1)) h 2 (x_I (x_si (x_si σ h 0 (x_I σ a1 0)) h 1 (x_I (x_si σ h 0 (x_I σ a1 0)) a2 1)) a3 2)) h 3 (x_I (x_si (x_si (x_si σ h 0 (x_I σ a1 0)) h 1 (x_I (x_si σ h 0 (x_I σ a1 0)) a2 1)) h 2 (x_I (x_si (x_si σ h 0 (x_I σ a1 0)) h 1 (x_I (x_si σ h 0 (x_I σ a1 0)) a2 1)) a3 2)) a4 3)) h 4 (x_I (x_si (x_si (x_si (x_si σ h 0 (x_I σ a1 0)) h 1 (x_I (x_si σ h 0 (x_I σ a1 0)) a2 1)) h 2 (x_I (x_si (x_si σ h 0 (x_I σ a1 0)) h 1 (x_I (x_si σ h 0 (x_I σ a1 0)) a2 1)) a3 2)) h 3 (x_I (x_si (x_si (x_si σ h 0 (x_I σ a1 0)) h 1 (x_I (x_si σ h 0 (x_I σ a1 0)) a2 1)) h 2 (x_I (x_si (x_si σ h 0 (x_I σ a1 0)) h 1 (x_I (x_si σ h 0 (x_I σ a1 0)) a2 1)) a3 2)) a4 3)) a5 4)) h 5 (x_I (x_si (x_si (x_si (x_si (x_si σ h 0 (x_I σ a1 0)) h 1 (x_I (x_si σ h 0 (x_I σ a1 0)) a2 1)) h 2 (x_I (x_si (x_si σ h 0 (x_I σ a1 0)) h 1 (x_I (x_si σ h 0 (x_I σ a1 0)) a2 1)) a3 2)) h 3 (x_I (x_si (x_si (x_si σ h 0 (x_I σ a1 0)) h 1 (x_I (x_si σ h 0 (x_I σ a1 0)) a2 1)) h 2 (x_I (x_si (x_si σ h 0 (x_I σ a1 0)) h 1 (x_I (x_si σ h 0 (x_I σ a1 0)) a2 1)) a3 2)) a4 3)) h 4 (x_I (x_si (x_si (x_si (x_si σ h 0 (x_I σ a1 0)) h 1 (x_I (x_si σ h 0 (x_I σ a1 0)) a2 1)) h 2 (x_I (x_si (x_si σ h 0 (x_I σ a1 0)) h 1 (x_I (x_si σ h 0 (x_I σ a1 0)) a2 1)) a3 2)) h 3 (x_I (x_si (x_si (x_si σ h 0 (x_I σ a1 0)) h 1 (x_I (x_si σ h 0 (x_I σ a1 0)) a2 1)) h 2 (x_I (x_si (x_si σ h 0 (x_I σ a1 0)) h 1 (x_I (x_si σ h 0 (x_I σ a1 0)) a2 1)) a3 2)) a4 3)) a5 4)) a6 5)) h 2 <|
  (x_der q1 fun a8 => x_ck (x_si (x_si (x_si (x_si (x_si (x_si (x_si σ h 0 (x_I σ a1 0)) h 1 (x_I (x_si σ h 0 (x_I σ a1 0)) a2 1)) h 2 (x_I (x_si (x_si σ h 0 (x_I σ a1 0)) h 1 (x_I (x_si σ h 0 (x_I σ a1 0)) a2 1)) a3 2)) h 3 (x_I (x_si (x_si (x_si σ h 0 (x_I σ a1 0)) h 1 (x_I (x_si σ h 0 (x_I σ a1 0)) a2 1)) h 2 (x_I (x_si (x_si σ h 0 (x_I σ a1 0)) h 1 (x_I (x_si σ h 0 (x_I σ a1 0)) a2 1)) a3 2)) a4 3)) h 4 (x_I (x_si (x_si (x_si (x_si σ h 0 (x_I σ a1 0)) h 1 (x_I (x_si σ h 0 (x_I σ a1 0)) a2 1)) h 2 (x_I (x_si (x_si σ h 0 (x_I σ a1 0)) h 1 (x_I (x_si σ h 0 (x_I σ a1 0)) a2 1)) a3 2)) h 3 (x_I (x_si (x_si (x_si σ h 0 (x_I σ a1 0)) h 1 (x_I (x_si σ h 0 (x_I σ a1 0)) a2 1)) h 2 (x_I (x_si (x_si σ h 0 (x_I σ a1 0)) h 1 (x_I (x_si σ h 0 (x_I σ a1 0)) a2 1)) a3 2)) a4 3)) a5 4)) h 5 (x_I (x_si (x_si (x_si (x_si (x_si σ h 0 (x_I σ a1 0)) h 1 (x_I (x_si σ h 0 (x_I σ a1 0)) a2 1)) h 2 (x_I (x_si (x_si σ h 0 (x_I σ a1 0)) h 1 (x_I (x_si σ h 0 (x_I σ a1 0)) a2 1)) a3 2)) h 3 (x_I (x_si (x_si (x_si σ h 0 (x_I σ a1 0)) h 1 (x_I (x_si σ h 0 (x_I σ a1 0)) a2 1)) h 2 (x_I (x_si (x_si σ h 0 (x_I σ a1 0)) h 1 (x_I (x_si σ h 0 (x_I σ a1 0)) a2 1)) a3 2)) a4 3)) h 4 (x_I (x_si (x_si (x_si (x_si σ h 0 (x_I σ a1 0)) h 1 (x_I (x_si σ h 0 (x_I σ a1 0)) a2 1)) h 2 (x_I (x_si (x_si σ h 0 (x_I σ a1 0)) h 1 (x_I (x_si σ h 0 (x_I σ a1 0)) a2 1)) a3 2)) h 3 (x_I (x_si (x_si (x_si σ h 0 (x_I σ a1 0)) h 1 (x_I (x_si σ h 0 (x_I σ a1 0)) a2 1)) h 2 (x_I (x_si (x_si σ h 0 (x_I σ a1 0)) h 1 (x_I (x_si σ h 0 (x_I σ a1 0)) a2 1)) a3 2)) a4 3)) a5 4)) a6 5)) h 6 (x_I (x_si (x_si (x_si (x_si (x_si (x_si σ h 0 (x_I σ a1 0)) h 1 (x_I (x_si σ h 0 (x_I σ a1 0)) a2 1)) h 2 (x_I (x_si (x_si σ h 0 (x_I σ a1 0)) h 1 (x_I (x_si σ h 0 (x_I σ a1 0)) a2 1)) a3 2)) h 3 (x_I (x_si (x_si (x_si σ h 0 (x_I σ a1 0)) h 1 (x_I (x_si σ h 0 (x_I σ a1 0)) a2 1)) h 2 (x_I (x_si (x_si σ h 0 (x_I σ a1 0)) h 1 (x_I (x_si σ h 0 (x_I σ a1 0)) a2 1)) a3 2)) a4 3)) h 4 (x_I (x_si (x_si (x_si (x_si σ h 0 (x_I σ a1 0)) h 1 (x_I (x_si σ h 0 (x_I σ a1 0)) a2 1)) h 2 (x_I (x_si (x_si σ h 0 (x_I σ a1 0)) h 1 (x_I (x_si σ h 0 (x_I σ a1 0)) a2 1)) a3 2)) h 3 (x_I (x_si (x_si (x_si σ h 0 (x_I σ a1 0)) h 1 (x_I (x_si σ h 0 (x_I σ a1 0)) a2 1)) h 2 (x_I (x_si (x_si σ h 0 (x_I σ a1 0)) h 1 (x_I (x_si σ h 0 (x_I σ a1 0)) a2 1)) a3 2)) a4 3)) a5 4)) h 5 (x_I (x_si (x_si (x_si (x_si (x_si σ h 0 (x_I σ a1 0)) h 1 (x_I (x_si σ h 0 (x_I σ a1 0)) a2 1)) h 2 (x_I (x_si (x_si σ h 0 (x_I σ a1 0)) h 1 (x_I (x_si σ h 0 (x_I σ a1 0)) a2 1)) a3 2)) h 3 (x_I (x_si (x_si (x_si σ h 0 (x_I σ a1 0)) h 1 (x_I (x_si σ h 0 (x_I σ a1 0)) a2 1)) h 2 (x_I (x_si (x_si σ h 0 (x_I σ a1 0)) h 1 (x_I (x_si σ h 0 (x_I σ a1 0)) a2 1)) a3 2)) a4 3)) h 4 (x_I (x_si (x_si (x_si (x_si σ h 0 (x_I σ a1 0)) h 1 (x_I (x_si σ h 0 (x_I σ a1 0)) a2 1)) h 2 (x_I (x_si (x_si σ h 0 (x_I σ a1 0)) h 1 (x_I (x_si σ h 0 (x_I σ a1 0)) a2 1)) a3 2)) h 3 (x_I (x_si (x_si (x_si σ h 0 (x_I σ a1 0)) h 1 (x_I (x_si σ h 0 (x_I σ a1 0)) a2 1)) h 2 (x_I (x_si (x_si σ h 0 (x_I σ a1 0)) h 1 (x_I (x_si σ h 0 (x_I σ a1 0)) a2 1)) a3 2)) a4 3)) a5 4)) a6 5)) a7 6)) a8 2 <|
  (x_ck (x_si (x_si (x_si (x_si (x_si (x_si (x_si σ h 0 (x_I σ a1 0)) h 1 (x_I (x_si σ h 0 (x_I σ a1 0)) a2 1)) h 2 (x_I (x_si (x_si σ h 0 (x_I σ a1 0)) h 1 (x_I (x_si σ h 0 (x_I σ a1 0)) a2 1)) a3 2)) h 3 (x_I (x_si (x_si (x_si σ h 0 (x_I σ a1 0)) h 1 (x_I (x_si σ h 0 (x_I σ a1 0)) a2 1)) h 2 (x_I (x_si (x_si σ h 0 (x_I σ a1 0)) h 1 (x_I (x_si σ h 0 (x_I σ a1 0)) a2 1)) a3 2)) a4 3)) h 4 (x_I (x_si (x_si (x_si (x_si σ h 0 (x_I σ a1 0)) h 1 (x_I (x_si σ h 0 (x_I σ a1 0)) a2 1)) h 2 (x_I (x_si (x_si σ h 0 (x_I σ a1 0)) h 1 (x_I (x_si σ h 0 (x_I σ a1 0)) a2 1)) a3 2)) h 3 (x_I (x_si (x_si (x_si σ h 0 (x_I σ a1 0)) h 1 (x_I (x_si σ h 0 (x_I σ a1 0)) a2 1)) h 2 (x_I (x_si (x_si σ h 0 (x_I σ a1 0)) h 1 (x_I (x_si σ h 0 (x_I σ a1 0)) a2 1)) a3 2)) a4 3)) a5 4)) h 5 (x_I (x_si (x_si (x_si (x_si (x_si σ h 0 (x_I σ a1 0)) h 1 (x_I (x_si σ h 0 (x_I σ a1 0)) a2 1)) h 2 (x_I (x_si (x_si σ h 0 (x_I σ a1 0)) h 1 (x_I (x_si σ h 0 (x_I σ a1 0)) a2 1)) a3 2)) h 3 (x_I (x_si (x_si (x_si σ h 0 (x_I σ a1 0)) h 1 (x_I (x_si σ h 0 (x_I σ a1 0)) a2 1)) h 2 (x_I (x_si (x_si σ h 0 (x_I σ a1 0)) h 1 (x_I (x_si σ h 0 (x_I σ a1 0)) a2 1)) a3 2)) a4 3)) h 4 (x_I (x_si (x_si (x_si (x_si σ h 0 (x_I σ a1 0)) h 1 (x_I (x_si σ h 0 (x_I σ a1 0)) a2 1)) h 2 (x_I (x_si (x_si σ h 0 (x_I σ a1 0)) h 1 (x_I (x_si σ h 0 (x_I σ a1 0)) a2 1)) a3 2)) h 3 (x_I (x_si (x_si (x_si σ h 0 (x_I σ a1 0)) h 1 (x_I (x_si σ h 0 (x_I σ a1 0)) a2 1)) h 2 (x_I (x_si (x_si σ h 0 (x_I σ a1 0)) h 1 (x_I (x_si σ h 0 (x_I σ a1 0)) a2 1)) a3 2)) a4 3)) a5 4)) a6 5)) h 6 (x_I (x_si (x_si (x_si (x_si (x_si (x_si σ h 0 (x_I σ a1 0)) h 1 (x_I (x_si σ h 0 (x_I σ a1 0)) a2 1)) h 2 (x_I (x_si (x_si σ h 0 (x_I σ a1 0)) h 1 (x_I (x_si σ h 0 (x_I σ a1 0)) a2 1)) a3 2)) h 3 (x_I (x_si (x_si (x_si σ h 0 (x_I σ a1 0)) h 1 (x_I (x_si σ h 0 (x_I σ a1 0)) a2 1)) h 2 (x_I (x_si (x_si σ h 0 (x_I σ a1 0)) h 1 (x_I (x_si σ h 0 (x_I σ a1 0)) a2 1)) a3 2)) a4 3)) h 4 (x_I (x_si (x_si (x_si (x_si σ h 0 (x_I σ a1 0)) h 1 (x_I (x_si σ h 0 (x_I σ a1 0)) a2 1)) h 2 (x_I (x_si (x_si σ h 0 (x_I σ a1 0)) h 1 (x_I (x_si σ h 0 (x_I σ a1 0)) a2 1)) a3 2)) h 3 (x_I (x_si (x_si (x_si σ h 0 (x_I σ a1 0)) h 1 (x_I (x_si σ h 0 (x_I σ a1 0)) a2 1)) h 2 (x_I (x_si (x_si σ h 0 (x_I σ a1 0)) h 1 (x_I (x_si σ h 0 (x_I σ a1 0)) a2 1)) a3 2)) a4 3)) a5 4)) h 5 (x_I (x_si (x_si (x_si (x_si (x_si σ h 0 (x_I σ a1 0)) h 1 (x_I (x_si σ h 0 (x_I σ a1 0)) a2 1)) h 2 (x_I (x_si (x_si σ h 0 (x_I σ a1 0)) h 1 (x_I (x_si σ h 0 (x_I σ a1 0)) a2 1)) a3 2)) h 3 (x_I (x_si (x_si (x_si σ h 0 (x_I σ a1 0)) h 1 (x_I (x_si σ h 0 (x_I σ a1 0)) a2 1)) h 2 (x_I (x_si (x_si σ h 0 (x_I σ a1 0)) h 1 (x_I (x_si σ h 0 (x_I σ a1 0)) a2 1)) a3 2)) a4 3)) h 4 (x_I (x_si (x_si (x_si (x_si σ h 0 (x_I σ a1 0)) h 1 (x_I (x_si σ h 0 (x_I σ a1 0)) a2 1)) h 2 (x_I (x_si (x_si σ h 0 (x_I σ a1 0)) h 1 (x_I (x_si σ h 0 (x_I σ a1 0)) a2 1)) a3 2)) h 3 (x_I (x_si (x_si (x_si σ h 0 (x_I σ a1 0)) h 1 (x_I (x_si σ h 0 (x_I σ a1 0)) a2 1)) h 2 (x_I (x_si (x_si σ h 0 (x_I σ a1 0)) h 1 (x_I (x_si σ h 0 (x_I σ a1 0)) a2 1)) a3 2)) a4 3)) a5 4)) a6 5)) a7 6)) h 2 <|
  (some (none, x_si (x_si (x_si (x_si (x_si (x_si (x_si (x_si σ h 0 (x_I σ a1 0)) h 1 (x_I (x_si σ h 0 (x_I σ a1 0)) a2 1)) h 2 (x_I (x_si (x_si σ h 0 (x_I σ a1 0)) h 1 (x_I (x_si σ h 0 (x_I σ a1 0)) a2 1)) a3 2)) h 3 (x_I (x_si (x_si (x_si σ h 0 (x_I σ a1 0)) h 1 (x_I (x_si σ h 0 (x_I σ a1 0)) a2 1)) h 2 (x_I (x_si (x_si σ h 0 (x_I σ a1 0)) h 1 (x_I (x_si σ h 0 (x_I σ a1 0)) a2 1)) a3 2)) a4 3)) h 4 (x_I (x_si (x_si (x_si (x_si σ h 0 (x_I σ a1 0)) h 1 (x_I (x_si σ h 0 (x_I σ a1 0)) a2 1)) h 2 (x_I (x_si (x_si σ h 0 (x_I σ a1 0)) h 1 (x_I (x_si σ h 0 (x_I σ a1 0)) a2 1)) a3 2)) h 3 (x_I (x_si (x_si (x_si σ h 0 (x_I σ a1 0)) h 1 (x_I (x_si σ h 0 (x_I σ a1 0)) a2 1)) h 2 (x_I (x_si (x_si σ h 0 (x_I σ a1 0)) h 1 (x_I (x_si σ h 0 (x_I σ a1 0)) a2 1)) a3 2)) a4 3)) a5 4)) h 5 (x_I (x_si (x_si (x_si (x_si (x_si σ h 0 (x_I σ a1 0)) h 1 (x_I (x_si σ h 0 (x_I σ a1 0)) a2 1)) h 2 (x_I (x_si (x_si σ h 0 (x_I σ a1 0)) h 1 (x_I (x_si σ h 0 (x_I σ a1 0)) a2 1)) a3 2)) h 3 (x_I (x_si (x_si (x_si σ h 0 (x_I σ a1 0)) h 1 (x_I (x_si σ h 0 (x_I σ a1 0)) a2 1)) h 2 (x_I (x_si (x_si σ h 0 (x_I σ a1 0)) h 1 (x_I (x_si σ h 0 (x_I σ a1 0)) a2 1)) a3 2)) a4 3)) h 4 (x_I (x_si (x_si (x_si (x_si σ h 0 (x_I σ a1 0)) h 1 (x_I (x_si σ h 0 (x_I σ a1 0)) a2 1)) h 2 (x_I (x_si (x_si σ h 0 (x_I σ a1 0)) h 1 (x_I (x_si σ h 0 (x_I σ a1 0)) a2 1)) a3 2)) h 3 (x_I (x_si (x_si (x_si σ h 0 (x_I σ a1 0)) h 1 (x_I (x_si σ h 0 (x_I σ a1 0)) a2 1)) h 2 (x_I (x_si (x_si σ h 0 (x_I σ a1 0)) h 1 (x_I (x_si σ h 0 (x_I σ a1 0)) a2 1)) a3 2)) a4 3)) a5 4)) a6 5)) h 6 (x_I (x_si (x_si (x_si (x_si (x_si (x_si σ h 0 (x_I σ a1 0)) h 1 (x_I (x_si σ h 0 (x_I σ a1 0)) a2 1)) h 2 (x_I (x_si (x_si σ h 0 (x_I σ a1 0)) h 1 (x_I (x_si σ h 0 (x_I σ a1 0)) a2 1)) a3 2)) h 3 (x_I (x_si (x_si (x_si σ h 0 (x_I σ a1 0)) h 1 (x_I (x_si σ h 0 (x_I σ a1 0)) a2 1)) h 2 (x_I (x_si (x_si σ h 0 (x_I σ a1 0)) h 1 (x_I (x_si σ h 0 (x_I σ a1 0)) a2 1)) a3 2)) a4 3)) h 4 (x_I (x_si (x_si (x_si (x_si σ h 0 (x_I σ a1 0)) h 1 (x_I (x_si σ h 0 (x_I σ a1 0)) a2 1)) h 2 (x_I (x_si (x_si σ h 0 (x_I σ a1 0)) h 1 (x_I (x_si σ h 0 (x_I σ a1 0)) a2 1)) a3 2)) h 3 (x_I (x_si (x_si (x_si σ h 0 (x_I σ a1 0)) h 1 (x_I (x_si σ h 0 (x_I σ a1 0)) a2 1)) h 2 (x_I (x_si (x_si σ h 0 (x_I σ a1 0)) h 1 (x_I (x_si σ h 0 (x_I σ a1 0)) a2 1)) a3 2)) a4 3)) a5 4)) h 5 (x_I (x_si (x_si (x_si (x_si (x_si σ h 0 (x_I σ a1 0)) h 1 (x_I (x_si σ h 0 (x_I σ a1 0)) a2 1)) h 2 (x_I (x_si (x_si σ h 0 (x_I σ a1 0)) h 1 (x_I (x_si σ h 0 (x_I σ a1 0)) a2 1)) a3 2)) h 3 (x_I (x_si (x_si (x_si σ h 0 (x_I σ a1 0)) h 1 (x_I (x_si σ h 0 (x_I σ a1 0)) a2 1)) h 2 (x_I (x_si (x_si σ h 0 (x_I σ a1 0)) h 1 (x_I (x_si σ h 0 (x_I σ a1 0)) a2 1)) a3 2)) a4 3)) h 4 (x_I (x_si (x_si (x_si (x_si σ h 0 (x_I σ a1 0)) h 1 (x_I (x_si σ h 0 (x_I σ a1 0)) a2 1)) h 2 (x_I (x_si (x_si σ h 0 (x_I σ a1 0)) h 1 (x_I (x_si σ h 0 (x_I σ a1 0)) a2 1)) a3 2)) h 3 (x_I (x_si (x_si (x_si σ h 0 (x_I σ a1 0)) h 1 (x_I (x_si σ h 0 (x_I σ a1 0)) a2 1)) h 2 (x_I (x_si (x_si σ h 0 (x_I σ a1 0)) h 1 (x_I (x_si σ h 0 (x_I σ a1 0)) a2 1)) a3 2)) a4 3)) a5 4)) a6 5)) a7 6)) h 7 (x_I (x_si (x_si (x_si (x_si (x_si (x_si (x_si σ h 0 (x_I σ a1 0)) h 1 (x_I (x_si σ h 0 (x_I σ a1 0)) a2 1)) h 2 (x_I (x_si (x_si σ h 0 (x_I σ a1 0)) h 1 (x_I (x_si σ h 0 (x_I σ a1 0)) a2 1)) a3 2)) h 3 (x_I (x_si (x_si (x_si σ h 0 (x_I σ a1 0)) h 1 (x_I (x_si σ h 0 (x_I σ a1 0)) a2 1)) h 2 (x_I (x_si (x_si σ h 0 (x_I σ a1 0)) h 1 (x_I (x_si σ h 0 (x_I σ a1 0)) a2 1)) a3 2)) a4 3)) h 4 (x_I (x_si (x_si (x_si (x_si σ h 0 (x_I σ a1 0)) h 1 (x_I (x_si σ h 0 (x_I σ a1 0)) a2 1)) h 2 (x_I (x_si (x_si σ h 0 (x_I σ a1 0)) h 1 (x_I (x_si σ h 0 (x_I σ a1 0)) a2 1)) a3 2)) h 3 (x_I (x_si (x_si (x_si σ h 0 (x_I σ a1 0)) h 1 (x_I (x_si σ h 0 (x_I σ a1 0)) a2 1)) h 2 (x_I (x_si (x_si σ h 0 (x_I σ a1 0)) h 1 (x_I (x_si σ h 0 (x_I σ a1 0)) a2 1)) a3 2)) a4 3)) a5 4)) h 5 (x_I (x_si (x_si (x_si (x_si (x_si σ h 0 (x_I σ a1 0)) h 1 (x_I (x_si σ h 0 (x_I σ a1 0)) a2 1)) h 2 (x_I (x_si (x_si σ h 0 (x_I σ a1 0)) h 1 (x_I (x_si σ h 0 (x_I σ a1 0)) a2 1)) a3 2)) h 3 (x_I (x_si (x_si (x_si σ h 0 (x_I σ a1 0)) h 1 (x_I (x_si σ h 0 (x_I σ a1 0)) a2 1)) h 2 (x_I (x_si (x_si σ h 0 (x_I σ a1 0)) h 1 (x_I (x_si σ h 0 (x_I σ a1 0)) a2 1)) a3 2)) a4 3)) h 4 (x_I (x_si (x_si (x_si (x_si σ h 0 (x_I σ a1 0)) h 1 (x_I (x_si σ h 0 (x_I σ a1 0)) a2 1)) h 2 (x_I (x_si (x_si σ h 0 (x_I σ a1 0)) h 1 (x_I (x_si σ h 0 (x_I σ a1 0)) a2 1)) a3 2)) h 3 (x_I (x_si (x_si (x_si σ h 0 (x_I σ a1 0)) h 1 (x_I (x_si σ h 0 (x_I σ a1 0)) a2 1)) h 2 (x_I (x_si (x_si σ h 0 (x_I σ a1 0)) h 1 (x_I (x_si σ h 0 (x_I σ a1 0)) a2 1)) a3 2)) a4 3)) a5 4)) a6 5)) h 6 (x_I (x_si (x_si (x_si (x_si (x_si (x_si σ h 0 (x_I σ a1 0)) h 1 (x_I (x_si σ h 0 (x_I σ a1 0)) a2 1)) h 2 (x_I (x_si (x_si σ h 0 (x_I σ a1 0)) h 1 (x_I (x_si σ h 0 (x_I σ a1 0)) a2 1)) a3 2)) h 3 (x_I (x_si (x_si (x_si σ h 0 (x_I σ a1 0)) h 1 (x_I (x_si σ h 0 (x_I σ a1 0)) a2 1)) h 2 (x_I (x_si (x_si σ h 0 (x_I σ a1 0)) h 1 (x_I (x_si σ h 0 (x_I σ a1 0)) a2 1)) a3 2)) a4 3)) h 4 (x_I (x_si (x_si (x_si (x_si σ h 0 (x_I σ a1 0)) h 1 (x_I (x_si σ h 0 (x_I σ a1 0)) a2 1)) h 2 (x_I (x_si (x_si σ h 0 (x_I σ a1 0)) h 1 (x_I (x_si σ h 0 (x_I σ a1 0)) a2 1)) a3 2)) h 3 (x_I (x_si (x_si (x_si σ h 0 (x_I σ a1 0)) h 1 (x_I (x_si σ h 0 (x_I σ a1 0)) a2 1)) h 2 (x_I (x_si (x_si σ h 0 (x_I σ a1 0)) h 1 (x_I (x_si σ h 0 (x_I σ a1 0)) a2 1)) a3 2)) a4 3)) a5 4)) h 5 (x_I (x_si (x_si (x_si (x_si (x_si σ h 0 (x_I σ a1 0)) h 1 (x_I (x_si σ h 0 (x_I σ a1 0)) a2 1)) h 2 (x_I (x_si (x_si σ h 0 (x_I σ a1 0)) h 1 (x_I (x_si σ h 0 (x_I σ a1 0)) a2 1)) a3 2)) h 3 (x_I (x_si (x_si (x_si σ h 0 (x_I σ a1 0)) h 1 (x_I (x_si σ h 0 (x_I σ a1 0)) a2 1)) h 2 (x_I (x_si (x_si σ h 0 (x_I σ a1 0)) h 1 (x_I (x_si σ h 0 (x_I σ a1 0)) a2 1)) a3 2)) a4 3)) h 4 (x_I (x_si (x_si (x_si (x_si σ h 0 (x_I σ a1 0)) h 1 (x_I (x_si σ h 0 (x_I σ a1 0)) a2 1)) h 2 (x_I (x_si (x_si σ h 0 (x_I σ a1 0)) h 1 (x_I (x_si σ h 0 (x_I σ a1 0)) a2 1)) a3 2)) h 3 (x_I (x_si (x_si (x_si σ h 0 (x_I σ a1 0)) h 1 (x_I (x_si σ h 0 (x_I σ a1 0)) a2 1)) h 2 (x_I (x_si (x_si σ h 0 (x_I σ a1 0)) h 1 (x_I (x_si σ h 0 (x_I σ a1 0)) a2 1)) a3 2)) a4 3)) a5 4)) a6 5)) a7 6)) a8 7))))))))))))))))))) := rfl
set_option maxRecDepth 100000 in
set_option maxHeartbeats 1000000 in
/-- I$Life.get -/
theorem e13_0 (O : Nat → List xV → xS → Option xR) (k : Nat → xF) (h : Nat) (i1 : Int32) (σ : xS) : x_b O x_X0 x_TX (x_C 13) k 3000 (x_suf (x_C 13) 0) [some (.inr (.inr (some h))), some (.inl i1)] [] σ =
  (if i1 = 0 then
    (x_ck σ h 2 <|
    (some (some (.inl (x_I σ h 2)), σ)))
  else
    (if i1 = 1 then
    (x_ck σ h 2 <|
    (some (some (.inl (x_I σ h 3)), σ)))
  else
    (if i1 = 2 then
    (x_ck σ h 2 <|
    (some (some (.inl (x_I σ h 4)), σ)))
  else
    (if i1 = 3 then
    (x_ck σ h 2 <|
    (some (some (.inl (x_I σ h 5)), σ)))
  else
    (if i1 = 4 then
    (x_ck σ h 2 <|
    (some (some (.inl (x_I σ h 6)), σ)))
  else
    (if i1 = 5 then
    (x_ck σ h 2 <|
    (some (some (.inl (x_I σ h 7)), σ)))
  else
    (if i1 = 6 then
    (x_ck σ h 2 <|
    (some (some (.inl (x_I σ h 0)), σ)))
  else
    (x_ck σ h 2 <|
    (some (some (.inl (x_I σ h 1)), σ)))))))))) := rfl
set_option maxRecDepth 100000 in
set_option maxHeartbeats 1000000 in
/-- I$Life.change -/
theorem e14_0 (O : Nat → List xV → xS → Option xR) (k : Nat → xF) (h : Nat) (i1 : Int32) (i2 : Int32) (σ : xS) : x_b O x_X0 x_TX (x_C 14) k 3000 (x_suf (x_C 14) 0) [some (.inr (.inr (some h))), some (.inl i1), some (.inl i2)] [] σ =
  (if i1 = 0 then
    (x_ck σ h 2 <|
    (some (none, x_si σ h 2 i2)))
  else
    (if i1 = 1 then
    (x_ck σ h 2 <|
    (some (none, x_si σ h 3 i2)))
  else
    (if i1 = 2 then
    (x_ck σ h 2 <|
    (some (none, x_si σ h 4 i2)))
  else
    (if i1 = 3 then
    (x_ck σ h 2 <|
    (some (none, x_si σ h 5 i2)))
  else
    (if i1 = 4 then
    (x_ck σ h 2 <|
    (some (none, x_si σ h 6 i2)))
  else
    (if i1 = 5 then
    (x_ck σ h 2 <|
    (some (none, x_si σ h 7 i2)))
  else
    (if i1 = 6 then
    (x_ck σ h 2 <|
    (some (none, x_si σ h 0 i2)))
  else
    (x_ck σ h 2 <|
    (some (none, x_si σ h 1 i2)))))))))) := rfl
set_option maxRecDepth 100000 in
set_option maxHeartbeats 1000000 in
/-- I$Life.isOf -/
theorem e15_0 (O : Nat → List xV → xS → Option xR) (k : Nat → xF) (h : Nat) (i1 : Int32) (σ : xS) : x_b O x_X0 x_TX (x_C 15) k 3000 (x_suf (x_C 15) 0) [some (.inr (.inr (some h))), some (.inl i1)] [] σ =
  (x_ck σ h 2 <|
  (if i1 = (x_I σ h 0) then
    (some (some (.inl 1), σ))
  else
    (if i1 = 0 then
      (some (some (.inl 1), σ))
    else
      (if i1 = 1 then
        (x_ck σ h 2 <|
        (if (x_I σ h 0) = 3 then
          (some (some (.inl 1), σ))
        else
          (if i1 = 2 then
            (x_ck σ h 2 <|
            (if (x_I σ h 0) = 4 then
              (some (some (.inl 1), σ))
            else
              (some (some (.inl 0), σ))))
          else
            (some (some (.inl 0), σ)))))
      else
        (if i1 = 2 then
          (x_ck σ h 2 <|
          (if (x_I σ h 0) = 4 then
            (some (some (.inl 1), σ))
          else
            (some (some (.inl 0), σ))))
        else
          (some (some (.inl 0), σ))))))) := rfl
set_option maxRecDepth 100000 in
set_option maxHeartbeats 1000000 in
/-- I$Life.oddsBy -/
theorem e16_0 (O : Nat → List xV → xS → Option xR) (k : Nat → xF) (h : Nat) (q1 : Option Nat) (i2 : Int32) (i3 : Int32) (σ : xS) : x_b O x_X0 x_TX (x_C 16) k 3000 (x_suf (x_C 16) 0) [some (.inr (.inr (some h))), some (.inr (.inr q1)), some (.inl i2), some (.inl i3), none] [] σ =
  (x_der q1 fun a1 => x_ck σ a1 7 <|
  x_ci (O 61 [.inr (.inr q1), .inl 0, .inr (.inr (some h)), .inl i2, .inl i3, .inl 0] σ) fun x3 σ2 =>
  (x_ck σ2 h 2 <|
  (if (x_I σ2 h 0) = 1 then
    (x_ck σ2 h 2 <|
    (x_ci (O 128 [.inl (x3 + (2 * (x_I σ2 h 1))), .inl 100] σ2) fun x13 σ12 =>
    (some (some (.inl x13), σ12))))
  else
    (if (x_I σ2 h 0) = 2 then
    (some (some (.inl (x3 / 2)), σ2))
  else
    (if (x_I σ2 h 0) = 3 then
    (x_ck σ2 h 2 <|
    (x_ci (O 128 [.inl (x3 + (2 * (x_I σ2 h 1))), .inl 100] σ2) fun x11 σ10 =>
    (some (some (.inl x11), σ10))))
  else
    (if (x_I σ2 h 0) = 4 then
    (some (some (.inl (x3 / 2)), σ2))
  else
    (if (x_I σ2 h 0) = 5 then
    (x_ck σ2 h 2 <|
    x_ci (O 17 [.inr (.inr (some h)), .inl i2] σ2) fun x5 σ4 =>
    (if x5 = 0 then
      (x_ci (O 128 [.inl (x3 / 4), .inl 100] σ4) fun x7 σ6 =>
      (some (some (.inl x7), σ6)))
    else
      (x_ci (O 128 [.inl ((2 * x3) + 20), .inl 100] σ4) fun x9 σ8 =>
      (some (some (.inl x9), σ8)))))
  else
    (some (some (.inl x3), σ2))))))))) := rfl
set_option maxRecDepth 100000 in
set_option maxHeartbeats 1000000 in
/-- I$Life.isHeirsYear -/
theorem e17_0 (O : Nat → List xV → xS → Option xR) (k : Nat → xF) (h : Nat) (i1 : Int32) (σ : xS) : x_b O x_X0 x_TX (x_C 17) k 3000 (x_suf (x_C 17) 0) [some (.inr (.inr (some h))), some (.inl i1), none] [] σ =
  (x_ck σ h 2 <|
  (if ((x_I σ h 1) + 2) ≤ 0 then
    (some (some (.inl 0), σ))
  else
    (if ((x_I σ h 1) + 2) = 0 then none else
    (x_ck σ h 2 <|
    (if (i1 - i1 / ((x_I σ h 1) + 2) * ((x_I σ h 1) + 2)) = ((x_I σ h 1) + 1) then
      (some (some (.inl 1), σ))
    else
      (some (some (.inl 0), σ))))))) := rfl
set_option maxRecDepth 100000 in
set_option maxHeartbeats 1000000 in
/-- I$Life.sizeBy -/
theorem e18_0 (O : Nat → List xV → xS → Option xR) (k : Nat → xF) (h : Nat) (q1 : Option Nat) (i2 : Int32) (i3 : Int32) (σ : xS) : x_b O x_X0 x_TX (x_C 18) k 3000 (x_suf (x_C 18) 0) [some (.inr (.inr (some h))), some (.inr (.inr q1)), some (.inl i2), some (.inl i3), none] [] σ =
  (x_der q1 fun a1 => x_ck σ a1 7 <|
  x_ci (O 61 [.inr (.inr q1), .inl 1, .inr (.inr (some h)), .inl i2, .inl i3, .inl 0] σ) fun x3 σ2 =>
  (x_ck σ2 h 2 <|
  (if (x_I σ2 h 0) = 1 then
    (some (some (.inl (x3 / 2)), σ2))
  else
    (if (x_I σ2 h 0) = 2 then
    (some (some (.inl x3), σ2))
  else
    (if (x_I σ2 h 0) = 3 then
    (if i3 ≤ 2 then
      (some (some (.inl (x3 / 2)), σ2))
    else
      (some (some (.inl ((x3 / 2) / 2)), σ2)))
  else
    (if (x_I σ2 h 0) = 4 then
    (x_ck σ2 h 2 <|
    (x_ci (O 128 [.inl (x3 - (10 * (x_I σ2 h 1))), .inl 8991] σ2) fun x9 σ8 =>
    (some (some (.inl x9), σ8))))
  else
    (if (x_I σ2 h 0) = 5 then
    (if i3 = 0 then
      (x_ci (O 128 [.inl (3 * x3), .inl 8991] σ2) fun x7 σ6 =>
      (some (some (.inl x7), σ6)))
    else
      (x_ci (O 128 [.inl x3, .inl 8991] σ2) fun x5 σ4 =>
      (some (some (.inl x5), σ4))))
  else
    (some (some (.inl x3), σ2))))))))) := rfl
set_option maxRecDepth 100000 in
set_option maxHeartbeats 1000000 in
/-- I$Life.seenBy -/
theorem e19_0 (O : Nat → List xV → xS → Option xR) (k : Nat → xF) (h : Nat) (q1 : Option Nat) (i2 : Int32) (i3 : Int32) (σ : xS) : x_b O x_X0 x_TX (x_C 19) k 3000 (x_suf (x_C 19) 0) [some (.inr (.inr (some h))), some (.inr (.inr q1)), some (.inl i2), some (.inl i3), none] [] σ =
  (x_ck σ h 2 <|
  (x_der q1 fun a1 => x_ck σ a1 7 <|
  x_ci (O 61 [.inr (.inr q1), .inl 2, .inr (.inr (some h)), .inl i2, .inl (x_I σ h 7), .inl i3] σ) fun x3 σ2 =>
  (x_ck σ2 h 2 <|
  (if (x_I σ2 h 0) = 2 then
    (x_ck σ2 h 2 <|
    (x_ci (O 128 [.inl (x3 - (3 * (x_I σ2 h 1))), .inl 100] σ2) fun x9 σ8 =>
    (some (some (.inl x9), σ8))))
  else
    (if (x_I σ2 h 0) = 3 then
    (x_ck σ2 h 2 <|
    (x_ci (O 128 [.inl (100 - (x_I σ2 h 1)), .inl 100] σ2) fun x7 σ6 =>
    (some (some (.inl x7), σ6))))
  else
    (if (x_I σ2 h 0) = 4 then
    (x_ck σ2 h 2 <|
    (x_ci (O 128 [.inl ((x3 - (3 * (x_I σ2 h 1))) + 20), .inl 100] σ2) fun x5 σ4 =>
    (some (some (.inl x5), σ4))))
  else
    (some (some (.inl x3), σ2)))))))) := rfl
set_option maxRecDepth 100000 in
set_option maxHeartbeats 1000000 in
/-- I$Life.takenOf -/
theorem e20_0 (O : Nat → List xV → xS → Option xR) (k : Nat → xF) (h : Nat) (i1 : Int32) (σ : xS) : x_b O x_X0 x_TX (x_C 20) k 3000 (x_suf (x_C 20) 0) [some (.inr (.inr (some h))), some (.inl i1)] [] σ =
  (x_ck σ h 2 <|
  (if i1 ≤ (x_I σ h 3) then
    (some (some (.inl 0), σ))
  else
    (x_ck σ h 2 <|
    (x_ck σ h 2 <|
    (some (some (.inl (((i1 - (x_I σ h 3)) * (x_I σ h 4)) / 100)), σ)))))) := rfl
set_option maxRecDepth 100000 in
set_option maxHeartbeats 1000000 in
/-- I$Life.gain -/
theorem e21_0 (O : Nat → List xV → xS → Option xR) (k : Nat → xF) (h : Nat) (i1 : Int32) (σ : xS) : x_b O x_X0 x_TX (x_C 21) k 3000 (x_suf (x_C 21) 0) [some (.inr (.inr (some h))), some (.inl i1)] [] σ =
  (x_ck σ h 2 <|
  (x_ck σ h 2 <|
  (x_ck (x_si σ h 2 (if ((x_I σ h 2) + i1) < 99999 then ((x_I σ h 2) + i1) else 99999)) h 2 <|
  (x_ck (x_si σ h 2 (if ((x_I σ h 2) + i1) < 99999 then ((x_I σ h 2) + i1) else 99999)) h 2 <|
  (some (none, x_si (x_si σ h 2 (if ((x_I σ h 2) + i1) < 99999 then ((x_I σ h 2) + i1) else 99999)) h 7 (if ((x_I (x_si σ h 2 (if ((x_I σ h 2) + i1) < 99999 then ((x_I σ h 2) + i1) else 99999)) h 7) + 1) < 99 then ((x_I (x_si σ h 2 (if ((x_I σ h 2) + i1) < 99999 then ((x_I σ h 2) + i1) else 99999)) h 7) + 1) else 99))))))) := rfl
set_option maxRecDepth 100000 in
set_option maxHeartbeats 1000000 in
/-- I$Lots.<init> -/
theorem e22_0 (O : Nat → List xV → xS → Option xR) (k : Nat → xF) (h : Nat) (σ : xS) : x_b O x_X0 x_TX (x_C 22) k 3000 (x_suf (x_C 22) 0) [some (.inr (.inr (some h)))] [] σ =
  (x_ck σ h 3 <|
  (some (none, x_sl σ h 0 1))) := rfl
set_option maxRecDepth 100000 in
set_option maxHeartbeats 1000000 in
/-- I$Lots.start -/
theorem e23_0 (O : Nat → List xV → xS → Option xR) (k : Nat → xF) (h : Nat) (i1 : Int32) (σ : xS) : x_b O x_X0 x_TX (x_C 23) k 3000 (x_suf (x_C 23) 0) [some (.inr (.inr (some h))), some (.inl i1)] [] σ =
  (x_ck σ h 3 <|
  (some (none, x_sl σ h 0 (i1.toInt64 + 1)))) := rfl
set_option maxRecDepth 100000 in
set_option maxHeartbeats 1000000 in
/-- I$Lots.next -/
theorem e24_0 (O : Nat → List xV → xS → Option xR) (k : Nat → xF) (h : Nat) (σ : xS) : x_b O x_X0 x_TX (x_C 24) k 3000 (x_suf (x_C 24) 0) [some (.inr (.inr (some h)))] [] σ =
  (x_ck σ h 3 <|
  (x_ck σ h 3 <|
  (x_ck (x_sl σ h 0 (((x_J σ h 0) * 48271) - ((x_J σ h 0) * 48271) / 2147483647 * 2147483647)) h 3 <|
  (some (some (.inl ((x_J (x_sl σ h 0 (((x_J σ h 0) * 48271) - ((x_J σ h 0) * 48271) / 2147483647 * 2147483647)) h 0).toInt32)), x_sl σ h 0 (((x_J σ h 0) * 48271) - ((x_J σ h 0) * 48271) / 2147483647 * 2147483647)))))) := rfl
set_option maxRecDepth 100000 in
set_option maxHeartbeats 1000000 in
/-- I$Outlook.<init> -/
theorem e25_0 (O : Nat → List xV → xS → Option xR) (k : Nat → xF) (h : Nat) (σ : xS) : x_b O x_X0 x_TX (x_C 25) k 3000 (x_suf (x_C 25) 0) [some (.inr (.inr (some h)))] [] σ =
  (bif Nat.blt (σ).1.length 900 then
  (x_ck (x_new σ 12 ((7 : Int32).toNatClampNeg)) h 4 <|
  (x_ck (x_sr (x_new σ 12 ((7 : Int32).toNatClampNeg)) h 0 (some (σ).1.length)) h 4 <|
  (x_ck (x_sl (x_sr (x_new σ 12 ((7 : Int32).toNatClampNeg)) h 0 (some (σ).1.length)) h 1 1) h 4 <|
  (x_ck (x_sl (x_sl (x_sr (x_new σ 12 ((7 : Int32).toNatClampNeg)) h 0 (some (σ).1.length)) h 1 1) h 2 0) h 4 <|
  (x_ck (x_sl (x_sl (x_sl (x_sr (x_new σ 12 ((7 : Int32).toNatClampNeg)) h 0 (some (σ).1.length)) h 1 1) h 2 0) h 3 0) h 4 <|
  (some (none, x_sl (x_sl (x_sl (x_sl (x_sr (x_new σ 12 ((7 : Int32).toNatClampNeg)) h 0 (some (σ).1.length)) h 1 1) h 2 0) h 3 0) h 4 0))))))) else none) := rfl
set_option maxRecDepth 100000 in
set_option maxHeartbeats 1000000 in
/-- I$Outlook.chanceOf -/
theorem e26_0 (O : Nat → List xV → xS → Option xR) (k : Nat → xF) (h : Nat) (i1 : Int32) (σ : xS) : x_b O x_X0 x_TX (x_C 26) k 3000 (x_suf (x_C 26) 0) [some (.inr (.inr (some h))), some (.inl i1)] [] σ =
  (if i1 < 0 then
    (some (some (.inr (.inl 0)), σ))
  else
    (x_ck σ h 4 <|
    (x_der (x_Q σ h 0) fun a1 => x_aa σ a1 fun n2 => (if (Int32.ofNat n2) ≤ i1 then
      (some (some (.inr (.inl 0)), σ))
    else
      (x_ck σ h 4 <|
      (x_der (x_Q σ h 0) fun a3 => x_ak σ a3 12 fun n4 => x_ix i1 n4 <|
      (some (some (.inr (.inl (x_J σ a3 (i1).toNatClampNeg))), σ)))))))) := rfl
set_option maxRecDepth 100000 in
set_option maxHeartbeats 1000000 in
/-- I$Outlook.reckon -/
theorem e27_0 (O : Nat → List xV → xS → Option xR) (k : Nat → xF) (h : Nat) (q1 : Option Nat) (q2 : Option Nat) (i3 : Int32) (i4 : Int32) (σ : xS) : x_b O x_X0 x_TX (x_C 27) k 3000 (x_suf (x_C 27) 0) [some (.inr (.inr (some h))), some (.inr (.inr q1)), some (.inr (.inr q2)), some (.inl i3), some (.inl i4), none, none] [] σ =
  (x_ck σ h 4 <|
  (x_cv (O 224 [.inr (.inr (x_Q σ h 0)), .inr (.inl 0)] σ) fun σ1 =>
  (x_ck σ1 h 4 <|
  (x_der (x_Q σ1 h 0) fun a2 => x_ak σ1 a2 12 fun n3 => x_ix 0 n3 <|
  (x_ck (x_sl σ1 a2 (0 : Int32).toNatClampNeg 1) h 4 <|
  (x_ck (x_sl (x_sl σ1 a2 (0 : Int32).toNatClampNeg 1) h 1 1) h 4 <|
  (x_ck (x_sl (x_sl (x_sl σ1 a2 (0 : Int32).toNatClampNeg 1) h 1 1) h 2 0) h 4 <|
  (x_ck (x_sl (x_sl (x_sl (x_sl σ1 a2 (0 : Int32).toNatClampNeg 1) h 1 1) h 2 0) h 3 0) h 4 <|
  k 38 [some (.inr (.inr (some h))), some (.inr (.inr q1)), some (.inr (.inr q2)), some (.inl i3), some (.inl i4), some (.inl 0), none] [] (x_sl (x_sl (x_sl (x_sl (x_sl σ1 a2 (0 : Int32).toNatClampNeg 1) h 1 1) h 2 0) h 3 0) h 4 0))))))))) := rfl
set_option maxRecDepth 100000 in
set_option maxHeartbeats 1000000 in
/-- I$Outlook.reckon -/
theorem e27_38 (O : Nat → List xV → xS → Option xR) (k : Nat → xF) (h : Nat) (q1 : Option Nat) (q2 : Option Nat) (i3 : Int32) (i4 : Int32) (i5 : Int32) (σ : xS) : x_b O x_X0 x_TX (x_C 27) k 3000 (x_suf (x_C 27) 38) [some (.inr (.inr (some h))), some (.inr (.inr q1)), some (.inr (.inr q2)), some (.inl i3), some (.inl i4), some (.inl i5), none] [] σ =
  (if i4 ≤ i5 then
    (some (none, σ))
  else
    (x_ck σ h 4 <|
    (x_ck σ h 4 <|
    (x_ck (x_sl σ h 1 ((x_J σ h 1) * 100)) h 4 <|
    (x_ck (x_sl σ h 1 ((x_J σ h 1) * 100)) h 4 <|
    (x_ck (x_sl (x_sl σ h 1 ((x_J σ h 1) * 100)) h 2 ((x_J (x_sl σ h 1 ((x_J σ h 1) * 100)) h 2) * 100)) h 4 <|
    (x_ck (x_sl (x_sl σ h 1 ((x_J σ h 1) * 100)) h 2 ((x_J (x_sl σ h 1 ((x_J σ h 1) * 100)) h 2) * 100)) h 4 <|
    (x_ck (x_sl (x_sl (x_sl σ h 1 ((x_J σ h 1) * 100)) h 2 ((x_J (x_sl σ h 1 ((x_J σ h 1) * 100)) h 2) * 100)) h 3 ((x_J (x_sl (x_sl σ h 1 ((x_J σ h 1) * 100)) h 2 ((x_J (x_sl σ h 1 ((x_J σ h 1) * 100)) h 2) * 100)) h 3) * 100)) h 4 <|
    (x_ck (x_sl (x_sl (x_sl σ h 1 ((x_J σ h 1) * 100)) h 2 ((x_J (x_sl σ h 1 ((x_J σ h 1) * 100)) h 2) * 100)) h 3 ((x_J (x_sl (x_sl σ h 1 ((x_J σ h 1) * 100)) h 2 ((x_J (x_sl σ h 1 ((x_J σ h 1) * 100)) h 2) * 100)) h 3) * 100)) h 4 <|
    k 97 [some (.inr (.inr (some h))), some (.inr (.inr q1)), some (.inr (.inr q2)), some (.inl i3), some (.inl i4), some (.inl i5), some (.inl i5)] [] (x_sl (x_sl (x_sl (x_sl σ h 1 ((x_J σ h 1) * 100)) h 2 ((x_J (x_sl σ h 1 ((x_J σ h 1) * 100)) h 2) * 100)) h 3 ((x_J (x_sl (x_sl σ h 1 ((x_J σ h 1) * 100)) h 2 ((x_J (x_sl σ h 1 ((x_J σ h 1) * 100)) h 2) * 100)) h 3) * 100)) h 4 ((x_J (x_sl (x_sl (x_sl σ h 1 ((x_J σ h 1) * 100)) h 2 ((x_J (x_sl σ h 1 ((x_J σ h 1) * 100)) h 2) * 100)) h 3 ((x_J (x_sl (x_sl σ h 1 ((x_J σ h 1) * 100)) h 2 ((x_J (x_sl σ h 1 ((x_J σ h 1) * 100)) h 2) * 100)) h 3) * 100)) h 4) * 100))))))))))) := rfl
set_option maxRecDepth 100000 in
set_option maxHeartbeats 1000000 in
/-- I$Outlook.reckon -/
theorem e27_97 (O : Nat → List xV → xS → Option xR) (k : Nat → xF) (h : Nat) (q1 : Option Nat) (q2 : Option Nat) (i3 : Int32) (i4 : Int32) (i5 : Int32) (i6 : Int32) (σ : xS) : x_b O x_X0 x_TX (x_C 27) k 3000 (x_suf (x_C 27) 97) [some (.inr (.inr (some h))), some (.inr (.inr q1)), some (.inr (.inr q2)), some (.inl i3), some (.inl i4), some (.inl i5), some (.inl i6)] [] σ =
  (if i6 < 0 then
    k 38 [some (.inr (.inr (some h))), some (.inr (.inr q1)), some (.inr (.inr q2)), some (.inl i3), some (.inl i4), some (.inl (i5 + 1)), none] [] σ
  else
    (x_ck σ h 4 <|
    x_cv (O 28 [.inr (.inr (some h)), .inr (.inr q1), .inr (.inr q2), .inl (i3 + i5), .inl i6] σ) fun σ1 =>
    k 97 [some (.inr (.inr (some h))), some (.inr (.inr q1)), some (.inr (.inr q2)), some (.inl i3), some (.inl i4), some (.inl i5), some (.inl (i6 + (-1)))] [] σ1)) := rfl
set_option maxRecDepth 100000 in
set_option maxHeartbeats 1000000 in
/-- I$Outlook.passYear -/
theorem e28_0 (O : Nat → List xV → xS → Option xR) (k : Nat → xF) (h : Nat) (q1 : Option Nat) (q2 : Option Nat) (i3 : Int32) (i4 : Int32) (σ : xS) : x_b O x_X0 x_TX (x_C 28) k 3000 (x_suf (x_C 28) 0) [some (.inr (.inr (some h))), some (.inr (.inr q1)), some (.inr (.inr q2)), some (.inl i3), some (.inl i4), none, none, none, none, none, none] [] σ =
  (if i4 < 0 then
    (some (none, σ))
  else
    (x_ck σ h 4 <|
    (x_der (x_Q σ h 0) fun a1 => x_aa σ a1 fun n2 => (if (i4 + 1) < (Int32.ofNat n2) then
      (x_der q1 fun a3 => x_ck σ a3 2 <|
      (x_der q1 fun a4 => x_ck σ a4 2 <|
      x_ci (O 16 [.inr (.inr q1), .inr (.inr q2), .inl i3, .inl ((x_I σ a3 7) + i4)] σ) fun x6 σ5 =>
      (x_der q1 fun a7 => x_ck σ5 a7 2 <|
      x_ci (O 18 [.inr (.inr q1), .inr (.inr q2), .inl i3, .inl ((x_I σ a3 7) + i4)] σ5) fun x9 σ8 =>
      (x_der q1 fun a10 => x_ck σ8 a10 2 <|
      x_ci (O 20 [.inr (.inr q1), .inl x9] σ8) fun x12 σ11 =>
      (x_ck σ11 h 4 <|
      (x_der (x_Q σ11 h 0) fun a13 => x_ak σ11 a13 12 fun n14 => x_ix i4 n14 <|
      (x_ck σ11 h 4 <|
      (x_ck σ11 h 4 <|
      (x_ck (x_sl σ11 h 2 ((x_J σ11 h 2) + (((x_J σ11 a13 (i4).toNatClampNeg) * x6.toInt64) * x12.toInt64))) h 4 <|
      (x_ck (x_sl σ11 h 2 ((x_J σ11 h 2) + (((x_J σ11 a13 (i4).toNatClampNeg) * x6.toInt64) * x12.toInt64))) h 4 <|
      (x_ck (x_sl (x_sl σ11 h 2 ((x_J σ11 h 2) + (((x_J σ11 a13 (i4).toNatClampNeg) * x6.toInt64) * x12.toInt64))) h 3 ((x_J (x_sl σ11 h 2 ((x_J σ11 h 2) + (((x_J σ11 a13 (i4).toNatClampNeg) * x6.toInt64) * x12.toInt64))) h 3) + (((x_J σ11 a13 (i4).toNatClampNeg) * x6.toInt64) * ((x9 - x12).toInt64)))) h 4 <|
      (x_ck (x_sl (x_sl σ11 h 2 ((x_J σ11 h 2) + (((x_J σ11 a13 (i4).toNatClampNeg) * x6.toInt64) * x12.toInt64))) h 3 ((x_J (x_sl σ11 h 2 ((x_J σ11 h 2) + (((x_J σ11 a13 (i4).toNatClampNeg) * x6.toInt64) * x12.toInt64))) h 3) + (((x_J σ11 a13 (i4).toNatClampNeg) * x6.toInt64) * ((x9 - x12).toInt64)))) h 4 <|
      (x_ck (x_sl (x_sl (x_sl σ11 h 2 ((x_J σ11 h 2) + (((x_J σ11 a13 (i4).toNatClampNeg) * x6.toInt64) * x12.toInt64))) h 3 ((x_J (x_sl σ11 h 2 ((x_J σ11 h 2) + (((x_J σ11 a13 (i4).toNatClampNeg) * x6.toInt64) * x12.toInt64))) h 3) + (((x_J σ11 a13 (i4).toNatClampNeg) * x6.toInt64) * ((x9 - x12).toInt64)))) h 4 ((x_J (x_sl (x_sl σ11 h 2 ((x_J σ11 h 2) + (((x_J σ11 a13 (i4).toNatClampNeg) * x6.toInt64) * x12.toInt64))) h 3 ((x_J (x_sl σ11 h 2 ((x_J σ11 h 2) + (((x_J σ11 a13 (i4).toNatClampNeg) * x6.toInt64) * x12.toInt64))) h 3) + (((x_J σ11 a13 (i4).toNatClampNeg) * x6.toInt64) * ((x9 - x12).toInt64)))) h 4) + ((x_J σ11 a13 (i4).toNatClampNeg) * x6.toInt64))) h 4 <|
      (x_der (x_Q (x_sl (x_sl (x_sl σ11 h 2 ((x_J σ11 h 2) + (((x_J σ11 a13 (i4).toNatClampNeg) * x6.toInt64) * x12.toInt64))) h 3 ((x_J (x_sl σ11 h 2 ((x_J σ11 h 2) + (((x_J σ11 a13 (i4).toNatClampNeg) * x6.toInt64) * x12.toInt64))) h 3) + (((x_J σ11 a13 (i4).toNatClampNeg) * x6.toInt64) * ((x9 - x12).toInt64)))) h 4 ((x_J (x_sl (x_sl σ11 h 2 ((x_J σ11 h 2) + (((x_J σ11 a13 (i4).toNatClampNeg) * x6.toInt64) * x12.toInt64))) h 3 ((x_J (x_sl σ11 h 2 ((x_J σ11 h 2) + (((x_J σ11 a13 (i4).toNatClampNeg) * x6.toInt64) * x12.toInt64))) h 3) + (((x_J σ11 a13 (i4).toNatClampNeg) * x6.toInt64) * ((x9 - x12).toInt64)))) h 4) + ((x_J σ11 a13 (i4).toNatClampNeg) * x6.toInt64))) h 0) fun a15 => x_ak (x_sl (x_sl (x_sl σ11 h 2 ((x_J σ11 h 2) + (((x_J σ11 a13 (i4).toNatClampNeg) * x6.toInt64) * x12.toInt64))) h 3 ((x_J (x_sl σ11 h 2 ((x_J σ11 h 2) + (((x_J σ11 a13 (i4).toNatClampNeg) * x6.toInt64) * x12.toInt64))) h 3) + (((x_J σ11 a13 (i4).toNatClampNeg) * x6.toInt64) * ((x9 - x12).toInt64)))) h 4 ((x_J (x_sl (x_sl σ11 h 2 ((x_J σ11 h 2) + (((x_J σ11 a13 (i4).toNatClampNeg) * x6.toInt64) * x12.toInt64))) h 3 ((x_J (x_sl σ11 h 2 ((x_J σ11 h 2) + (((x_J σ11 a13 (i4).toNatClampNeg) * x6.toInt64) * x12.toInt64))) h 3) + (((x_J σ11 a13 (i4).toNatClampNeg) * x6.toInt64) * ((x9 - x12).toInt64)))) h 4) + ((x_J σ11 a13 (i4).toNatClampNeg) * x6.toInt64))) a15 12 fun n16 => x_ix (i4 + 1) n16 <|
      (x_der (x_Q (x_sl (x_sl (x_sl σ11 h 2 ((x_J σ11 h 2) + (((x_J σ11 a13 (i4).toNatClampNeg) * x6.toInt64) * x12.toInt64))) h 3 ((x_J (x_sl σ11 h 2 ((x_J σ11 h 2) + (((x_J σ11 a13 (i4).toNatClampNeg) * x6.toInt64) * x12.toInt64))) h 3) + (((x_J σ11 a13 (i4).toNatClampNeg) * x6.toInt64) * ((x9 - x12).toInt64)))) h 4 ((x_J (x_sl (x_sl σ11 h 2 ((x_J σ11 h 2) + (((x_J σ11 a13 (i4).toNatClampNeg) * x6.toInt64) * x12.toInt64))) h 3 ((x_J (x_sl σ11 h 2 ((x_J σ11 h 2) + (((x_J σ11 a13 (i4).toNatClampNeg) * x6.toInt64) * x12.toInt64))) h 3) + (((x_J σ11 a13 (i4).toNatClampNeg) * x6.toInt64) * ((x9 - x12).toInt64)))) h 4) + ((x_J σ11 a13 (i4).toNatClampNeg) * x6.toInt64))) h 0) fun a17 => x_ak (x_sl (x_sl (x_sl σ11 h 2 ((x_J σ11 h 2) + (((x_J σ11 a13 (i4).toNatClampNeg) * x6.toInt64) * x12.toInt64))) h 3 ((x_J (x_sl σ11 h 2 ((x_J σ11 h 2) + (((x_J σ11 a13 (i4).toNatClampNeg) * x6.toInt64) * x12.toInt64))) h 3) + (((x_J σ11 a13 (i4).toNatClampNeg) * x6.toInt64) * ((x9 - x12).toInt64)))) h 4 ((x_J (x_sl (x_sl σ11 h 2 ((x_J σ11 h 2) + (((x_J σ11 a13 (i4).toNatClampNeg) * x6.toInt64) * x12.toInt64))) h 3 ((x_J (x_sl σ11 h 2 ((x_J σ11 h 2) + (((x_J σ11 a13 (i4).toNatClampNeg) * x6.toInt64) * x12.toInt64))) h 3) + (((x_J σ11 a13 (i4).toNatClampNeg) * x6.toInt64) * ((x9 - x12).toInt64)))) h 4) + ((x_J σ11 a13 (i4).toNatClampNeg) * x6.toInt64))) a17 12 fun n18 => x_ix (i4 + 1) n18 <|
      (x_ck (x_sl (x_sl (x_sl (x_sl σ11 h 2 ((x_J σ11 h 2) + (((x_J σ11 a13 (i4).toNatClampNeg) * x6.toInt64) * x12.toInt64))) h 3 ((x_J (x_sl σ11 h 2 ((x_J σ11 h 2) + (((x_J σ11 a13 (i4).toNatClampNeg) * x6.toInt64) * x12.toInt64))) h 3) + (((x_J σ11 a13 (i4).toNatClampNeg) * x6.toInt64) * ((x9 - x12).toInt64)))) h 4 ((x_J (x_sl (x_sl σ11 h 2 ((x_J σ11 h 2) + (((x_J σ11 a13 (i4).toNatClampNeg) * x6.toInt64) * x12.toInt64))) h 3 ((x_J (x_sl σ11 h 2 ((x_J σ11 h 2) + (((x_J σ11 a13 (i4).toNatClampNeg) * x6.toInt64) * x12.toInt64))) h 3) + (((x_J σ11 a13 (i4).toNatClampNeg) * x6.toInt64) * ((x9 - x12).toInt64)))) h 4) + ((x_J σ11 a13 (i4).toNatClampNeg) * x6.toInt64))) a17 (i4 + 1).toNatClampNeg ((x_J (x_sl (x_sl (x_sl σ11 h 2 ((x_J σ11 h 2) + (((x_J σ11 a13 (i4).toNatClampNeg) * x6.toInt64) * x12.toInt64))) h 3 ((x_J (x_sl σ11 h 2 ((x_J σ11 h 2) + (((x_J σ11 a13 (i4).toNatClampNeg) * x6.toInt64) * x12.toInt64))) h 3) + (((x_J σ11 a13 (i4).toNatClampNeg) * x6.toInt64) * ((x9 - x12).toInt64)))) h 4 ((x_J (x_sl (x_sl σ11 h 2 ((x_J σ11 h 2) + (((x_J σ11 a13 (i4).toNatClampNeg) * x6.toInt64) * x12.toInt64))) h 3 ((x_J (x_sl σ11 h 2 ((x_J σ11 h 2) + (((x_J σ11 a13 (i4).toNatClampNeg) * x6.toInt64) * x12.toInt64))) h 3) + (((x_J σ11 a13 (i4).toNatClampNeg) * x6.toInt64) * ((x9 - x12).toInt64)))) h 4) + ((x_J σ11 a13 (i4).toNatClampNeg) * x6.toInt64))) a15 (i4 + 1).toNatClampNeg) + ((x_J σ11 a13 (i4).toNatClampNeg) * x6.toInt64))) h 4 <|
      (x_der (x_Q (x_sl (x_sl (x_sl (x_sl σ11 h 2 ((x_J σ11 h 2) + (((x_J σ11 a13 (i4).toNatClampNeg) * x6.toInt64) * x12.toInt64))) h 3 ((x_J (x_sl σ11 h 2 ((x_J σ11 h 2) + (((x_J σ11 a13 (i4).toNatClampNeg) * x6.toInt64) * x12.toInt64))) h 3) + (((x_J σ11 a13 (i4).toNatClampNeg) * x6.toInt64) * ((x9 - x12).toInt64)))) h 4 ((x_J (x_sl (x_sl σ11 h 2 ((x_J σ11 h 2) + (((x_J σ11 a13 (i4).toNatClampNeg) * x6.toInt64) * x12.toInt64))) h 3 ((x_J (x_sl σ11 h 2 ((x_J σ11 h 2) + (((x_J σ11 a13 (i4).toNatClampNeg) * x6.toInt64) * x12.toInt64))) h 3) + (((x_J σ11 a13 (i4).toNatClampNeg) * x6.toInt64) * ((x9 - x12).toInt64)))) h 4) + ((x_J σ11 a13 (i4).toNatClampNeg) * x6.toInt64))) a17 (i4 + 1).toNatClampNeg ((x_J (x_sl (x_sl (x_sl σ11 h 2 ((x_J σ11 h 2) + (((x_J σ11 a13 (i4).toNatClampNeg) * x6.toInt64) * x12.toInt64))) h 3 ((x_J (x_sl σ11 h 2 ((x_J σ11 h 2) + (((x_J σ11 a13 (i4).toNatClampNeg) * x6.toInt64) * x12.toInt64))) h 3) + (((x_J σ11 a13 (i4).toNatClampNeg) * x6.toInt64) * ((x9 - x12).toInt64)))) h 4 ((x_J (x_sl (x_sl σ11 h 2 ((x_J σ11 h 2) + (((x_J σ11 a13 (i4).toNatClampNeg) * x6.toInt64) * x12.toInt64))) h 3 ((x_J (x_sl σ11 h 2 ((x_J σ11 h 2) + (((x_J σ11 a13 (i4).toNatClampNeg) * x6.toInt64) * x12.toInt64))) h 3) + (((x_J σ11 a13 (i4).toNatClampNeg) * x6.toInt64) * ((x9 - x12).toInt64)))) h 4) + ((x_J σ11 a13 (i4).toNatClampNeg) * x6.toInt64))) a15 (i4 + 1).toNatClampNeg) + ((x_J σ11 a13 (i4).toNatClampNeg) * x6.toInt64))) h 0) fun a19 => x_ak (x_sl (x_sl (x_sl (x_sl σ11 h 2 ((x_J σ11 h 2) + (((x_J σ11 a13 (i4).toNatClampNeg) * x6.toInt64) * x12.toInt64))) h 3 ((x_J (x_sl σ11 h 2 ((x_J σ11 h 2) + (((x_J σ11 a13 (i4).toNatClampNeg) * x6.toInt64) * x12.toInt64))) h 3) + (((x_J σ11 a13 (i4).toNatClampNeg) * x6.toInt64) * ((x9 - x12).toInt64)))) h 4 ((x_J (x_sl (x_sl σ11 h 2 ((x_J σ11 h 2) + (((x_J σ11 a13 (i4).toNatClampNeg) * x6.toInt64) * x12.toInt64))) h 3 ((x_J (x_sl σ11 h 2 ((x_J σ11 h 2) + (((x_J σ11 a13 (i4).toNatClampNeg) * x6.toInt64) * x12.toInt64))) h 3) + (((x_J σ11 a13 (i4).toNatClampNeg) * x6.toInt64) * ((x9 - x12).toInt64)))) h 4) + ((x_J σ11 a13 (i4).toNatClampNeg) * x6.toInt64))) a17 (i4 + 1).toNatClampNeg ((x_J (x_sl (x_sl (x_sl σ11 h 2 ((x_J σ11 h 2) + (((x_J σ11 a13 (i4).toNatClampNeg) * x6.toInt64) * x12.toInt64))) h 3 ((x_J (x_sl σ11 h 2 ((x_J σ11 h 2) + (((x_J σ11 a13 (i4).toNatClampNeg) * x6.toInt64) * x12.toInt64))) h 3) + (((x_J σ11 a13 (i4).toNatClampNeg) * x6.toInt64) * ((x9 - x12).toInt64)))) h 4 ((x_J (x_sl (x_sl σ11 h 2 ((x_J σ11 h 2) + (((x_J σ11 a13 (i4).toNatClampNeg) * x6.toInt64) * x12.toInt64))) h 3 ((x_J (x_sl σ11 h 2 ((x_J σ11 h 2) + (((x_J σ11 a13 (i4).toNatClampNeg) * x6.toInt64) * x12.toInt64))) h 3) + (((x_J σ11 a13 (i4).toNatClampNeg) * x6.toInt64) * ((x9 - x12).toInt64)))) h 4) + ((x_J σ11 a13 (i4).toNatClampNeg) * x6.toInt64))) a15 (i4 + 1).toNatClampNeg) + ((x_J σ11 a13 (i4).toNatClampNeg) * x6.toInt64))) a19 12 fun n20 => x_ix i4 n20 <|
      (x_der (x_Q (x_sl (x_sl (x_sl (x_sl σ11 h 2 ((x_J σ11 h 2) + (((x_J σ11 a13 (i4).toNatClampNeg) * x6.toInt64) * x12.toInt64))) h 3 ((x_J (x_sl σ11 h 2 ((x_J σ11 h 2) + (((x_J σ11 a13 (i4).toNatClampNeg) * x6.toInt64) * x12.toInt64))) h 3) + (((x_J σ11 a13 (i4).toNatClampNeg) * x6.toInt64) * ((x9 - x12).toInt64)))) h 4 ((x_J (x_sl (x_sl σ11 h 2 ((x_J σ11 h 2) + (((x_J σ11 a13 (i4).toNatClampNeg) * x6.toInt64) * x12.toInt64))) h 3 ((x_J (x_sl σ11 h 2 ((x_J σ11 h 2) + (((x_J σ11 a13 (i4).toNatClampNeg) * x6.toInt64) * x12.toInt64))) h 3) + (((x_J σ11 a13 (i4).toNatClampNeg) * x6.toInt64) * ((x9 - x12).toInt64)))) h 4) + ((x_J σ11 a13 (i4).toNatClampNeg) * x6.toInt64))) a17 (i4 + 1).toNatClampNeg ((x_J (x_sl (x_sl (x_sl σ11 h 2 ((x_J σ11 h 2) + (((x_J σ11 a13 (i4).toNatClampNeg) * x6.toInt64) * x12.toInt64))) h 3 ((x_J (x_sl σ11 h 2 ((x_J σ11 h 2) + (((x_J σ11 a13 (i4).toNatClampNeg) * x6.toInt64) * x12.toInt64))) h 3) + (((x_J σ11 a13 (i4).toNatClampNeg) * x6.toInt64) * ((x9 - x12).toInt64)))) h 4 ((x_J (x_sl (x_sl σ11 h 2 ((x_J σ11 h 2) + (((x_J σ11 a13 (i4).toNatClampNeg) * x6.toInt64) * x12.toInt64))) h 3 ((x_J (x_sl σ11 h 2 ((x_J σ11 h 2) + (((x_J σ11 a13 (i4).toNatClampNeg) * x6.toInt64) * x12.toInt64))) h 3) + (((x_J σ11 a13 (i4).toNatClampNeg) * x6.toInt64) * ((x9 - x12).toInt64)))) h 4) + ((x_J σ11 a13 (i4).toNatClampNeg) * x6.toInt64))) a15 (i4 + 1).toNatClampNeg) + ((x_J σ11 a13 (i4).toNatClampNeg) * x6.toInt64))) h 0) fun a21 => x_ak (x_sl (x_sl (x_sl (x_sl σ11 h 2 ((x_J σ11 h 2) + (((x_J σ11 a13 (i4).toNatClampNeg) * x6.toInt64) * x12.toInt64))) h 3 ((x_J (x_sl σ11 h 2 ((x_J σ11 h 2) + (((x_J σ11 a13 (i4).toNatClampNeg) * x6.toInt64) * x12.toInt64))) h 3) + (((x_J σ11 a13 (i4).toNatClampNeg) * x6.toInt64) * ((x9 - x12).toInt64)))) h 4 ((x_J (x_sl (x_sl σ11 h 2 ((x_J σ11 h 2) + (((x_J σ11 a13 (i4).toNatClampNeg) * x6.toInt64) * x12.toInt64))) h 3 ((x_J (x_sl σ11 h 2 ((x_J σ11 h 2) + (((x_J σ11 a13 (i4).toNatClampNeg) * x6.toInt64) * x12.toInt64))) h 3) + (((x_J σ11 a13 (i4).toNatClampNeg) * x6.toInt64) * ((x9 - x12).toInt64)))) h 4) + ((x_J σ11 a13 (i4).toNatClampNeg) * x6.toInt64))) a17 (i4 + 1).toNatClampNeg ((x_J (x_sl (x_sl (x_sl σ11 h 2 ((x_J σ11 h 2) + (((x_J σ11 a13 (i4).toNatClampNeg) * x6.toInt64) * x12.toInt64))) h 3 ((x_J (x_sl σ11 h 2 ((x_J σ11 h 2) + (((x_J σ11 a13 (i4).toNatClampNeg) * x6.toInt64) * x12.toInt64))) h 3) + (((x_J σ11 a13 (i4).toNatClampNeg) * x6.toInt64) * ((x9 - x12).toInt64)))) h 4 ((x_J (x_sl (x_sl σ11 h 2 ((x_J σ11 h 2) + (((x_J σ11 a13 (i4).toNatClampNeg) * x6.toInt64) * x12.toInt64))) h 3 ((x_J (x_sl σ11 h 2 ((x_J σ11 h 2) + (((x_J σ11 a13 (i4).toNatClampNeg) * x6.toInt64) * x12.toInt64))) h 3) + (((x_J σ11 a13 (i4).toNatClampNeg) * x6.toInt64) * ((x9 - x12).toInt64)))) h 4) + ((x_J σ11 a13 (i4).toNatClampNeg) * x6.toInt64))) a15 (i4 + 1).toNatClampNeg) + ((x_J σ11 a13 (i4).toNatClampNeg) * x6.toInt64))) a21 12 fun n22 => x_ix i4 n22 <|
      (some (none, x_sl (x_sl (x_sl (x_sl (x_sl σ11 h 2 ((x_J σ11 h 2) + (((x_J σ11 a13 (i4).toNatClampNeg) * x6.toInt64) * x12.toInt64))) h 3 ((x_J (x_sl σ11 h 2 ((x_J σ11 h 2) + (((x_J σ11 a13 (i4).toNatClampNeg) * x6.toInt64) * x12.toInt64))) h 3) + (((x_J σ11 a13 (i4).toNatClampNeg) * x6.toInt64) * ((x9 - x12).toInt64)))) h 4 ((x_J (x_sl (x_sl σ11 h 2 ((x_J σ11 h 2) + (((x_J σ11 a13 (i4).toNatClampNeg) * x6.toInt64) * x12.toInt64))) h 3 ((x_J (x_sl σ11 h 2 ((x_J σ11 h 2) + (((x_J σ11 a13 (i4).toNatClampNeg) * x6.toInt64) * x12.toInt64))) h 3) + (((x_J σ11 a13 (i4).toNatClampNeg) * x6.toInt64) * ((x9 - x12).toInt64)))) h 4) + ((x_J σ11 a13 (i4).toNatClampNeg) * x6.toInt64))) a17 (i4 + 1).toNatClampNeg ((x_J (x_sl (x_sl (x_sl σ11 h 2 ((x_J σ11 h 2) + (((x_J σ11 a13 (i4).toNatClampNeg) * x6.toInt64) * x12.toInt64))) h 3 ((x_J (x_sl σ11 h 2 ((x_J σ11 h 2) + (((x_J σ11 a13 (i4).toNatClampNeg) * x6.toInt64) * x12.toInt64))) h 3) + (((x_J σ11 a13 (i4).toNatClampNeg) * x6.toInt64) * ((x9 - x12).toInt64)))) h 4 ((x_J (x_sl (x_sl σ11 h 2 ((x_J σ11 h 2) + (((x_J σ11 a13 (i4).toNatClampNeg) * x6.toInt64) * x12.toInt64))) h 3 ((x_J (x_sl σ11 h 2 ((x_J σ11 h 2) + (((x_J σ11 a13 (i4).toNatClampNeg) * x6.toInt64) * x12.toInt64))) h 3) + (((x_J σ11 a13 (i4).toNatClampNeg) * x6.toInt64) * ((x9 - x12).toInt64)))) h 4) + ((x_J σ11 a13 (i4).toNatClampNeg) * x6.toInt64))) a15 (i4 + 1).toNatClampNeg) + ((x_J σ11 a13 (i4).toNatClampNeg) * x6.toInt64))) a21 (i4).toNatClampNeg ((x_J (x_sl (x_sl (x_sl (x_sl σ11 h 2 ((x_J σ11 h 2) + (((x_J σ11 a13 (i4).toNatClampNeg) * x6.toInt64) * x12.toInt64))) h 3 ((x_J (x_sl σ11 h 2 ((x_J σ11 h 2) + (((x_J σ11 a13 (i4).toNatClampNeg) * x6.toInt64) * x12.toInt64))) h 3) + (((x_J σ11 a13 (i4).toNatClampNeg) * x6.toInt64) * ((x9 - x12).toInt64)))) h 4 ((x_J (x_sl (x_sl σ11 h 2 ((x_J σ11 h 2) + (((x_J σ11 a13 (i4).toNatClampNeg) * x6.toInt64) * x12.toInt64))) h 3 ((x_J (x_sl σ11 h 2 ((x_J σ11 h 2) + (((x_J σ11 a13 (i4).toNatClampNeg) * x6.toInt64) * x12.toInt64))) h 3) + (((x_J σ11 a13 (i4).toNatClampNeg) * x6.toInt64) * ((x9 - x12).toInt64)))) h 4) + ((x_J σ11 a13 (i4).toNatClampNeg) * x6.toInt64))) a17 (i4 + 1).toNatClampNeg ((x_J (x_sl (x_sl (x_sl σ11 h 2 ((x_J σ11 h 2) + (((x_J σ11 a13 (i4).toNatClampNeg) * x6.toInt64) * x12.toInt64))) h 3 ((x_J (x_sl σ11 h 2 ((x_J σ11 h 2) + (((x_J σ11 a13 (i4).toNatClampNeg) * x6.toInt64) * x12.toInt64))) h 3) + (((x_J σ11 a13 (i4).toNatClampNeg) * x6.toInt64) * ((x9 - x12).toInt64)))) h 4 ((x_J (x_sl (x_sl σ11 h 2 ((x_J σ11 h 2) + (((x_J σ11 a13 (i4).toNatClampNeg) * x6.toInt64) * x12.toInt64))) h 3 ((x_J (x_sl σ11 h 2 ((x_J σ11 h 2) + (((x_J σ11 a13 (i4).toNatClampNeg) * x6.toInt64) * x12.toInt64))) h 3) + (((x_J σ11 a13 (i4).toNatClampNeg) * x6.toInt64) * ((x9 - x12).toInt64)))) h 4) + ((x_J σ11 a13 (i4).toNatClampNeg) * x6.toInt64))) a15 (i4 + 1).toNatClampNeg) + ((x_J σ11 a13 (i4).toNatClampNeg) * x6.toInt64))) a19 (i4).toNatClampNeg) * ((100 - x6).toInt64))))))))))))))))))))))
    else
      (some (none, σ)))))) := rfl
set_option maxRecDepth 100000 in
set_option maxHeartbeats 1000000 in
/-- I$Sheet.<init> -/
theorem e29_0 (O : Nat → List xV → xS → Option xR) (k : Nat → xF) (h : Nat) (σ : xS) : x_b O x_X0 x_TX (x_C 29) k 3000 (x_suf (x_C 29) 0) [some (.inr (.inr (some h)))] [] σ =
  (bif Nat.blt (σ).1.length 900 then
  (x_ck (x_new σ 11 ((40 : Int32).toNatClampNeg)) h 5 <|
  (x_ck (x_sr (x_new σ 11 ((40 : Int32).toNatClampNeg)) h 0 (some (σ).1.length)) h 5 <|
  (x_ck (x_si (x_sr (x_new σ 11 ((40 : Int32).toNatClampNeg)) h 0 (some (σ).1.length)) h 1 (-1)) h 5 <|
  (some (none, x_si (x_si (x_sr (x_new σ 11 ((40 : Int32).toNatClampNeg)) h 0 (some (σ).1.length)) h 1 (-1)) h 2 0))))) else none) := rfl
set_option maxRecDepth 100000 in
set_option maxHeartbeats 1000000 in
/-- I$Sheet.become -/
theorem e30_0 (O : Nat → List xV → xS → Option xR) (k : Nat → xF) (h : Nat) (i1 : Int32) (i2 : Int32) (σ : xS) : x_b O x_X0 x_TX (x_C 30) k 3000 (x_suf (x_C 30) 0) [some (.inr (.inr (some h))), some (.inl i1), some (.inl i2)] [] σ =
  (x_ck σ h 5 <|
  (x_ck (x_si σ h 1 i1) h 5 <|
  (x_ck (x_si (x_si σ h 1 i1) h 2 i2) h 5 <|
  (x_cv (O 225 [.inr (.inr (x_Q (x_si (x_si σ h 1 i1) h 2 i2) h 0)), .inl 0] (x_si (x_si σ h 1 i1) h 2 i2)) fun σ1 =>
  (some (none, σ1)))))) := rfl
set_option maxRecDepth 100000 in
set_option maxHeartbeats 1000000 in
/-- I$Sheet.read -/
theorem e31_0 (O : Nat → List xV → xS → Option xR) (k : Nat → xF) (h : Nat) (i1 : Int32) (σ : xS) : x_b O x_X0 x_TX (x_C 31) k 3000 (x_suf (x_C 31) 0) [some (.inr (.inr (some h))), some (.inl i1)] [] σ =
  (x_ck σ h 5 <|
  (x_ci (O 129 [.inr (.inr (x_Q σ h 0)), .inl i1] σ) fun x2 σ1 =>
  (some (some (.inl x2), σ1)))) := rfl
set_option maxRecDepth 100000 in
set_option maxHeartbeats 1000000 in
/-- I$Sheet.write -/
theorem e32_0 (O : Nat → List xV → xS → Option xR) (k : Nat → xF) (h : Nat) (i1 : Int32) (i2 : Int32) (σ : xS) : x_b O x_X0 x_TX (x_C 32) k 3000 (x_suf (x_C 32) 0) [some (.inr (.inr (some h))), some (.inl i1), some (.inl i2)] [] σ =
  (x_ck σ h 5 <|
  (x_ck σ h 5 <|
  (if (x_I σ h 1) = 0 then
    (x_cv (O 130 [.inr (.inr (x_Q σ h 0)), .inl i1, .inl i2.toInt8.toInt32] σ) fun σ3 =>
    (some (none, σ3)))
  else
    (x_ck σ h 5 <|
    (if (x_I σ h 1) = 1 then
      (x_cv (O 130 [.inr (.inr (x_Q σ h 0)), .inl i1, .inl i2.toInt16.toInt32] σ) fun σ2 =>
      (some (none, σ2)))
    else
      (x_cv (O 130 [.inr (.inr (x_Q σ h 0)), .inl i1, .inl i2] σ) fun σ1 =>
      (some (none, σ1)))))))) := rfl
set_option maxRecDepth 100000 in
set_option maxHeartbeats 1000000 in
/-- I$Sheet.hasPlaces -/
theorem e33_0 (O : Nat → List xV → xS → Option xR) (k : Nat → xF) (h : Nat) (i1 : Int32) (i2 : Int32) (σ : xS) : x_b O x_X0 x_TX (x_C 33) k 3000 (x_suf (x_C 33) 0) [some (.inr (.inr (some h))), some (.inl i1), some (.inl i2)] [] σ =
  (if i1 < 0 then
    (some (some (.inl 0), σ))
  else
    (if i2 < 0 then
      (some (some (.inl 0), σ))
    else
      (x_ck σ h 5 <|
      (if (x_I σ h 2) < i1 then
        (some (some (.inl 0), σ))
      else
        (x_ck σ h 5 <|
        (if ((x_I σ h 2) - i1) < i2 then
          (some (some (.inl 0), σ))
        else
          (some (some (.inl 1), σ)))))))) := rfl
set_option maxRecDepth 100000 in
set_option maxHeartbeats 1000000 in
/-- I$Sheet.take -/
theorem e34_0 (O : Nat → List xV → xS → Option xR) (k : Nat → xF) (h : Nat) (i1 : Int32) (q2 : Option Nat) (i3 : Int32) (i4 : Int32) (σ : xS) : x_b O x_X0 x_TX (x_C 34) k 3000 (x_suf (x_C 34) 0) [some (.inr (.inr (some h))), some (.inl i1), some (.inr (.inr q2)), some (.inl i3), some (.inl i4)] [] σ =
  (x_ck σ h 5 <|
  x_ci (O 33 [.inr (.inr (some h)), .inl i1, .inl i4] σ) fun x2 σ1 =>
  (if x2 = 0 then
    (some (none, σ1))
  else
    (x_der q2 fun a3 => x_ck σ1 a3 5 <|
    x_ci (O 33 [.inr (.inr q2), .inl i3, .inl i4] σ1) fun x5 σ4 =>
    (if x5 = 0 then
      (some (none, σ4))
    else
      (x_der q2 fun a6 => x_ck σ4 a6 5 <|
      (x_ck σ4 h 5 <|
      (x_der (x_Q σ4 a6 0) fun a7 => x_der (x_Q σ4 h 0) fun a8 => x_ak σ4 a7 11 fun n9 => x_ak σ4 a8 11 fun n10 =>
      (if i3 < 0 ∨ i1 < 0 ∨ i4 < 0 then none else if (i3).toNatClampNeg + (i4).toNatClampNeg ≤ n9 ∧ (i1).toNatClampNeg + (i4).toNatClampNeg ≤ n10 then (some (none, x_cp σ4 a7 a8 (i3).toNatClampNeg (i1).toNatClampNeg (i4).toNatClampNeg)) else none)))))))) := rfl
set_option maxRecDepth 100000 in
set_option maxHeartbeats 1000000 in
/-- I$Sheet.firstImpossible -/
theorem e35_0 (O : Nat → List xV → xS → Option xR) (k : Nat → xF) (h : Nat) (q1 : Option Nat) (q2 : Option Nat) (i3 : Int32) (σ : xS) : x_b O x_X0 x_TX (x_C 35) k 3000 (x_suf (x_C 35) 0) [some (.inr (.inr (some h))), some (.inr (.inr q1)), some (.inr (.inr q2)), some (.inl i3), none, none, none, none] [] σ =
  (x_der q1 fun a1 => x_ck σ a1 2 <|
  k 9 [some (.inr (.inr (some h))), some (.inr (.inr q1)), some (.inr (.inr q2)), some (.inl i3), some (.inl (x_I σ a1 7)), some (.inl 0), none, none] [] σ) := rfl
set_option maxRecDepth 100000 in
set_option maxHeartbeats 1000000 in
/-- I$Sheet.firstImpossible -/
theorem e35_9 (O : Nat → List xV → xS → Option xR) (k : Nat → xF) (h : Nat) (q1 : Option Nat) (q2 : Option Nat) (i3 : Int32) (i4 : Int32) (i5 : Int32) (σ : xS) : x_b O x_X0 x_TX (x_C 35) k 3000 (x_suf (x_C 35) 9) [some (.inr (.inr (some h))), some (.inr (.inr q1)), some (.inr (.inr q2)), some (.inl i3), some (.inl i4), some (.inl i5), none, none] [] σ =
  (x_ck σ h 5 <|
  (if (x_I σ h 2) ≤ i5 then
    (some (some (.inl (-1)), σ))
  else
    (x_ck σ h 5 <|
    x_ci (O 31 [.inr (.inr (some h)), .inl i5] σ) fun x2 σ1 =>
    (x_der q1 fun a3 => x_ck σ1 a3 2 <|
    x_ci (O 16 [.inr (.inr q1), .inr (.inr q2), .inl (i3 + i5), .inl i4] σ1) fun x5 σ4 =>
    (if x2 = 0 then
      (if x5 = 100 then
        (some (some (.inl i5), σ4))
      else
        k 54 [some (.inr (.inr (some h))), some (.inr (.inr q1)), some (.inr (.inr q2)), some (.inl i3), some (.inl i4), some (.inl i5), some (.inl x2), some (.inl x5)] [] σ4)
    else
      k 54 [some (.inr (.inr (some h))), some (.inr (.inr q1)), some (.inr (.inr q2)), some (.inl i3), some (.inl i4), some (.inl i5), some (.inl x2), some (.inl x5)] [] σ4))))) := rfl
set_option maxRecDepth 100000 in
set_option maxHeartbeats 1000000 in
/-- I$Sheet.firstImpossible -/
theorem e35_54 (O : Nat → List xV → xS → Option xR) (k : Nat → xF) (h : Nat) (q1 : Option Nat) (q2 : Option Nat) (i3 : Int32) (i4 : Int32) (i5 : Int32) (i6 : Int32) (i7 : Int32) (σ : xS) : x_b O x_X0 x_TX (x_C 35) k 3000 (x_suf (x_C 35) 54) [some (.inr (.inr (some h))), some (.inr (.inr q1)), some (.inr (.inr q2)), some (.inl i3), some (.inl i4), some (.inl i5), some (.inl i6), some (.inl i7)] [] σ =
  (if i6 = 0 then
    k 83 [some (.inr (.inr (some h))), some (.inr (.inr q1)), some (.inr (.inr q2)), some (.inl i3), some (.inl i4), some (.inl i5), some (.inl i6), none] [] σ
  else
    (if i7 = 0 then
      (some (some (.inl i5), σ))
    else
      (x_der q1 fun a1 => x_ck σ a1 2 <|
      x_ci (O 18 [.inr (.inr q1), .inr (.inr q2), .inl (i3 + i5), .inl i4] σ) fun x3 σ2 =>
      (if i6 = x3 then
        k 83 [some (.inr (.inr (some h))), some (.inr (.inr q1)), some (.inr (.inr q2)), some (.inl i3), some (.inl i4), some (.inl i5), some (.inl i6), none] [] σ2
      else
        (some (some (.inl i5), σ2)))))) := rfl
set_option maxRecDepth 100000 in
set_option maxHeartbeats 1000000 in
/-- I$Sheet.firstImpossible -/
theorem e35_83 (O : Nat → List xV → xS → Option xR) (k : Nat → xF) (h : Nat) (q1 : Option Nat) (q2 : Option Nat) (i3 : Int32) (i4 : Int32) (i5 : Int32) (i6 : Int32) (σ : xS) : x_b O x_X0 x_TX (x_C 35) k 3000 (x_suf (x_C 35) 83) [some (.inr (.inr (some h))), some (.inr (.inr q1)), some (.inr (.inr q2)), some (.inl i3), some (.inl i4), some (.inl i5), some (.inl i6), none] [] σ =
  (if i6 = 0 then
    k 9 [some (.inr (.inr (some h))), some (.inr (.inr q1)), some (.inr (.inr q2)), some (.inl i3), some (.inl (i4 + 0)), some (.inl (i5 + 1)), none, none] [] σ
  else
    k 9 [some (.inr (.inr (some h))), some (.inr (.inr q1)), some (.inr (.inr q2)), some (.inl i3), some (.inl (i4 + 1)), some (.inl (i5 + 1)), none, none] [] σ) := rfl
set_option maxRecDepth 100000 in
set_option maxHeartbeats 1000000 in
/-- I$Sheet.likelihood -/
theorem e36_0 (O : Nat → List xV → xS → Option xR) (k : Nat → xF) (h : Nat) (q1 : Option Nat) (q2 : Option Nat) (i3 : Int32) (σ : xS) : x_b O x_X0 x_TX (x_C 36) k 3000 (x_suf (x_C 36) 0) [some (.inr (.inr (some h))), some (.inr (.inr q1)), some (.inr (.inr q2)), some (.inl i3), none, none, none, none, none, none, none] [] σ =
  (x_der q1 fun a1 => x_ck σ a1 2 <|
  k 14 [some (.inr (.inr (some h))), some (.inr (.inr q1)), some (.inr (.inr q2)), some (.inl i3), some (.inr (.inl 1000000000)), none, some (.inl (x_I σ a1 7)), some (.inl 0), none, none, none] [] σ) := rfl
set_option maxRecDepth 100000 in
set_option maxHeartbeats 1000000 in
/-- I$Sheet.likelihood -/
theorem e36_14 (O : Nat → List xV → xS → Option xR) (k : Nat → xF) (h : Nat) (q1 : Option Nat) (q2 : Option Nat) (i3 : Int32) (j4 : Int64) (i6 : Int32) (i7 : Int32) (σ : xS) : x_b O x_X0 x_TX (x_C 36) k 3000 (x_suf (x_C 36) 14) [some (.inr (.inr (some h))), some (.inr (.inr q1)), some (.inr (.inr q2)), some (.inl i3), some (.inr (.inl j4)), none, some (.inl i6), some (.inl i7), none, none, none] [] σ =
  (x_ck σ h 5 <|
  (if (x_I σ h 2) ≤ i7 then
    (some (some (.inr (.inl j4)), σ))
  else
    (x_ck σ h 5 <|
    x_ci (O 31 [.inr (.inr (some h)), .inl i7] σ) fun x2 σ1 =>
    (x_der q1 fun a3 => x_ck σ1 a3 2 <|
    x_ci (O 16 [.inr (.inr q1), .inr (.inr q2), .inl (i3 + i7), .inl i6] σ1) fun x5 σ4 =>
    (if x2 = 0 then
      k 14 [some (.inr (.inr (some h))), some (.inr (.inr q1)), some (.inr (.inr q2)), some (.inl i3), some (.inr (.inl ((j4 * ((100 - x5).toInt64)) / 100))), none, some (.inl i6), some (.inl (i7 + 1)), none, none, none] [] σ4
    else
      (x_der q1 fun a6 => x_ck σ4 a6 2 <|
      x_ci (O 18 [.inr (.inr q1), .inr (.inr q2), .inl (i3 + i7), .inl i6] σ4) fun x8 σ7 =>
      (if x2 = x8 then
        k 88 [some (.inr (.inr (some h))), some (.inr (.inr q1)), some (.inr (.inr q2)), some (.inl i3), some (.inr (.inl j4)), none, some (.inl i6), some (.inl i7), none, some (.inl x5), none] [.inl 1] σ7
      else
        k 88 [some (.inr (.inr (some h))), some (.inr (.inr q1)), some (.inr (.inr q2)), some (.inl i3), some (.inr (.inl j4)), none, some (.inl i6), some (.inl i7), none, some (.inl x5), none] [.inl 0] σ7))))))) := rfl
set_option maxRecDepth 100000 in
set_option maxHeartbeats 1000000 in
/-- I$Sheet.likelihood -/
theorem e36_88 (O : Nat → List xV → xS → Option xR) (k : Nat → xF) (h : Nat) (q1 : Option Nat) (q2 : Option Nat) (i3 : Int32) (j4 : Int64) (i6 : Int32) (i7 : Int32) (i9 : Int32) (s0 : Int32) (σ : xS) : x_b O x_X0 x_TX (x_C 36) k 3000 (x_suf (x_C 36) 88) [some (.inr (.inr (some h))), some (.inr (.inr q1)), some (.inr (.inr q2)), some (.inl i3), some (.inr (.inl j4)), none, some (.inl i6), some (.inl i7), none, some (.inl i9), none] [.inl s0] σ =
  (if s0 = 0 then
    k 14 [some (.inr (.inr (some h))), some (.inr (.inr q1)), some (.inr (.inr q2)), some (.inl i3), some (.inr (.inl 0)), none, some (.inl (i6 + 1)), some (.inl (i7 + 1)), none, none, none] [] σ
  else
    k 14 [some (.inr (.inr (some h))), some (.inr (.inr q1)), some (.inr (.inr q2)), some (.inl i3), some (.inr (.inl ((j4 * i9.toInt64) / 100))), none, some (.inl (i6 + 1)), some (.inl (i7 + 1)), none, none, none] [] σ) := rfl
set_option maxRecDepth 100000 in
set_option maxHeartbeats 1000000 in
/-- I$Sheet.tell -/
theorem e37_0 (O : Nat → List xV → xS → Option xR) (k : Nat → xF) (h : Nat) (q1 : Option Nat) (q2 : Option Nat) (i3 : Int32) (i4 : Int32) (σ : xS) : x_b O x_X0 x_TX (x_C 37) k 3000 (x_suf (x_C 37) 0) [some (.inr (.inr (some h))), some (.inr (.inr q1)), some (.inr (.inr q2)), some (.inl i3), some (.inl i4), none, none] [] σ =
  (x_der q1 fun a1 => x_ck σ a1 2 <|
  k 9 [some (.inr (.inr (some h))), some (.inr (.inr q1)), some (.inr (.inr q2)), some (.inl i3), some (.inl i4), some (.inl (x_I σ a1 7)), some (.inl 0)] [] σ) := rfl
set_option maxRecDepth 100000 in
set_option maxHeartbeats 1000000 in
/-- I$Sheet.tell -/
theorem e37_9 (O : Nat → List xV → xS → Option xR) (k : Nat → xF) (h : Nat) (q1 : Option Nat) (q2 : Option Nat) (i3 : Int32) (i4 : Int32) (i5 : Int32) (i6 : Int32) (σ : xS) : x_b O x_X0 x_TX (x_C 37) k 3000 (x_suf (x_C 37) 9) [some (.inr (.inr (some h))), some (.inr (.inr q1)), some (.inr (.inr q2)), some (.inl i3), some (.inl i4), some (.inl i5), some (.inl i6)] [] σ =
  (x_ck σ h 5 <|
  (if (x_I σ h 2) ≤ i6 then
    (some (none, σ))
  else
    (if ((i4 >>> (i6 &&& 31)) &&& 1) = 1 then
      (x_der q1 fun a1 => x_ck σ a1 2 <|
      x_ci (O 18 [.inr (.inr q1), .inr (.inr q2), .inl (i3 + i6), .inl i5] σ) fun x3 σ2 =>
      (x_ck σ2 h 5 <|
      x_cv (O 32 [.inr (.inr (some h)), .inl i6, .inl x3] σ2) fun σ4 =>
      k 9 [some (.inr (.inr (some h))), some (.inr (.inr q1)), some (.inr (.inr q2)), some (.inl i3), some (.inl i4), some (.inl (i5 + 1)), some (.inl (i6 + 1))] [] σ4))
    else
      k 9 [some (.inr (.inr (some h))), some (.inr (.inr q1)), some (.inr (.inr q2)), some (.inl i3), some (.inl i4), some (.inl i5), some (.inl (i6 + 1))] [] σ))) := rfl
set_option maxRecDepth 100000 in
set_option maxHeartbeats 1000000 in
/-- I$Tape.<init> -/
theorem e38_0 (O : Nat → List xV → xS → Option xR) (k : Nat → xF) (h : Nat) (σ : xS) : x_b O x_X0 x_TX (x_C 38) k 3000 (x_suf (x_C 38) 0) [some (.inr (.inr (some h)))] [] σ =
  (bif Nat.blt (σ).1.length 900 then
  (x_ck (x_new σ 11 ((160 : Int32).toNatClampNeg)) h 6 <|
  (bif Nat.blt (x_sr (x_new σ 11 ((160 : Int32).toNatClampNeg)) h 0 (some (σ).1.length)).1.length 900 then
  (x_cv (O 56 [.inr (.inr (some (x_sr (x_new σ 11 ((160 : Int32).toNatClampNeg)) h 0 (some (σ).1.length)).1.length))] (x_new (x_sr (x_new σ 11 ((160 : Int32).toNatClampNeg)) h 0 (some (σ).1.length)) 7 0)) fun σ1 =>
  (x_ck σ1 h 6 <|
  (x_ck (x_sr σ1 h 1 (some (x_sr (x_new σ 11 ((160 : Int32).toNatClampNeg)) h 0 (some (σ).1.length)).1.length)) h 6 <|
  (x_ck (x_si (x_sr σ1 h 1 (some (x_sr (x_new σ 11 ((160 : Int32).toNatClampNeg)) h 0 (some (σ).1.length)).1.length)) h 2 0) h 6 <|
  (x_ck (x_si (x_si (x_sr σ1 h 1 (some (x_sr (x_new σ 11 ((160 : Int32).toNatClampNeg)) h 0 (some (σ).1.length)).1.length)) h 2 0) h 3 300) h 6 <|
  (x_ck (x_si (x_si (x_si (x_sr σ1 h 1 (some (x_sr (x_new σ 11 ((160 : Int32).toNatClampNeg)) h 0 (some (σ).1.length)).1.length)) h 2 0) h 3 300) h 4 0) h 6 <|
  (x_ck (x_si (x_si (x_si (x_si (x_sr σ1 h 1 (some (x_sr (x_new σ 11 ((160 : Int32).toNatClampNeg)) h 0 (some (σ).1.length)).1.length)) h 2 0) h 3 300) h 4 0) h 5 0) h 6 <|
  (x_ck (x_si (x_si (x_si (x_si (x_si (x_sr σ1 h 1 (some (x_sr (x_new σ 11 ((160 : Int32).toNatClampNeg)) h 0 (some (σ).1.length)).1.length)) h 2 0) h 3 300) h 4 0) h 5 0) h 6 0) h 6 <|
  (some (none, x_si (x_si (x_si (x_si (x_si (x_si (x_sr σ1 h 1 (some (x_sr (x_new σ 11 ((160 : Int32).toNatClampNeg)) h 0 (some (σ).1.length)).1.length)) h 2 0) h 3 300) h 4 0) h 5 0) h 6 0) h 7 0)))))))))) else none)) else none) := rfl
set_option maxRecDepth 100000 in
set_option maxHeartbeats 1000000 in
/-- I$Tape.add -/
theorem e39_0 (O : Nat → List xV → xS → Option xR) (k : Nat → xF) (h : Nat) (i1 : Int32) (σ : xS) : x_b O x_X0 x_TX (x_C 39) k 3000 (x_suf (x_C 39) 0) [some (.inr (.inr (some h))), some (.inl i1)] [] σ =
  (x_ck σ h 6 <|
  (x_ck σ h 6 <|
  (x_der (x_Q σ h 0) fun a1 => x_aa σ a1 fun n2 => (if (Int32.ofNat n2) ≤ (x_I σ h 2) then
    (some (none, σ))
  else
    (x_ck σ h 6 <|
    (x_ck σ h 6 <|
    (x_cv (O 130 [.inr (.inr (x_Q σ h 0)), .inl (x_I σ h 2), .inl i1] σ) fun σ3 =>
    (x_ck σ3 h 6 <|
    (x_ck σ3 h 6 <|
    (some (none, x_si σ3 h 2 ((x_I σ3 h 2) + 1)))))))))))) := rfl
set_option maxRecDepth 100000 in
set_option maxHeartbeats 1000000 in
/-- I$Tape.readText -/
theorem e40_0 (O : Nat → List xV → xS → Option xR) (k : Nat → xF) (h : Nat) (σ : xS) : x_b O x_X0 x_TX (x_C 40) k 3000 (x_suf (x_C 40) 0) [some (.inr (.inr (some h))), none, none] [] σ =
  (x_ck σ h 6 <|
  (x_der (x_Q σ h 1) fun a1 => x_ck σ a1 7 <|
  x_cv (O 57 [.inr (.inr (x_Q σ h 1))] σ) fun σ2 =>
  (x_ck σ2 h 6 <|
  (x_ck (x_si σ2 h 7 0) h 6 <|
  (x_ck (x_si (x_si σ2 h 7 0) h 5 0) h 6 <|
  x_cv (O 49 [.inr (.inr (some h))] (x_si (x_si σ2 h 7 0) h 5 0)) fun σ3 =>
  k 25 [some (.inr (.inr (some h))), some (.inl 1), some (.inl 0)] [] σ3))))) := rfl
set_option maxRecDepth 100000 in
set_option maxHeartbeats 1000000 in
/-- I$Tape.readText -/
theorem e40_25 (O : Nat → List xV → xS → Option xR) (k : Nat → xF) (h : Nat) (i1 : Int32) (i2 : Int32) (σ : xS) : x_b O x_X0 x_TX (x_C 40) k 3000 (x_suf (x_C 40) 25) [some (.inr (.inr (some h))), some (.inl i1), some (.inl i2)] [] σ =
  (if 2 < i2 then
    k 82 [some (.inr (.inr (some h))), some (.inl i1), none] [] σ
  else
    (if i1 = 0 then
      k 82 [some (.inr (.inr (some h))), some (.inl i1), none] [] σ
    else
      (x_ck σ h 6 <|
      x_ci (O 48 [.inr (.inr (some h)), .inl (310 + i2)] σ) fun x2 σ1 =>
      (if x2 = 0 then
        k 66 [some (.inr (.inr (some h))), none, some (.inl i2)] [] σ1
      else
        (x_ck σ1 h 6 <|
        x_ci (O 41 [.inr (.inr (some h))] σ1) fun x4 σ3 =>
        (if x4 = 0 then
          k 66 [some (.inr (.inr (some h))), none, some (.inl i2)] [] σ3
        else
          (x_ck σ3 h 6 <|
          x_ci (O 48 [.inr (.inr (some h)), .inl 59] σ3) fun x6 σ5 =>
          (if x6 = 0 then
            k 66 [some (.inr (.inr (some h))), none, some (.inl i2)] [] σ5
          else
            (x_ck σ5 h 6 <|
            (x_der (x_Q σ5 h 1) fun a7 => x_ck σ5 a7 7 <|
            x_cv (O 59 [.inr (.inr (x_Q σ5 h 1)), .inl i2] σ5) fun σ8 =>
            k 25 [some (.inr (.inr (some h))), some (.inl 1), some (.inl (i2 + 1))] [] σ8)))))))))) := rfl
set_option maxRecDepth 100000 in
set_option maxHeartbeats 1000000 in
/-- I$Tape.readText -/
theorem e40_66 (O : Nat → List xV → xS → Option xR) (k : Nat → xF) (h : Nat) (i2 : Int32) (σ : xS) : x_b O x_X0 x_TX (x_C 40) k 3000 (x_suf (x_C 40) 66) [some (.inr (.inr (some h))), none, some (.inl i2)] [] σ =
  (x_ck σ h 6 <|
  (x_der (x_Q σ h 1) fun a1 => x_ck σ a1 7 <|
  x_cv (O 59 [.inr (.inr (x_Q σ h 1)), .inl i2] σ) fun σ2 =>
  k 25 [some (.inr (.inr (some h))), some (.inl 0), some (.inl (i2 + 1))] [] σ2)) := rfl
set_option maxRecDepth 100000 in
set_option maxHeartbeats 1000000 in
/-- I$Tape.readText -/
theorem e40_82 (O : Nat → List xV → xS → Option xR) (k : Nat → xF) (h : Nat) (i1 : Int32) (σ : xS) : x_b O x_X0 x_TX (x_C 40) k 3000 (x_suf (x_C 40) 82) [some (.inr (.inr (some h))), some (.inl i1), none] [] σ =
  (if i1 = 0 then
    (x_ck σ h 6 <|
    (x_ck σ h 6 <|
    (some (some (.inl (x_I σ h 4)), x_si σ h 2 0))))
  else
    (x_ck σ h 6 <|
    (if (x_I σ h 3) = 300 then
      (x_ck σ h 6 <|
      (some (some (.inl (-1)), x_si σ h 2 0)))
    else
      (x_ck σ h 6 <|
      (x_ck σ h 6 <|
      (some (some (.inl (x_I σ h 4)), x_si σ h 2 0))))))) := rfl
set_option maxRecDepth 100000 in
set_option maxHeartbeats 1000000 in
/-- I$Tape.readOr -/
theorem e41_0 (O : Nat → List xV → xS → Option xR) (k : Nat → xF) (h : Nat) (σ : xS) : x_b O x_X0 x_TX (x_C 41) k 3000 (x_suf (x_C 41) 0) [some (.inr (.inr (some h))), none] [] σ =
  (x_ck σ h 6 <|
  x_ci (O 42 [.inr (.inr (some h))] σ) fun x2 σ1 =>
  (if x2 = 0 then
    (some (some (.inl 0), σ1))
  else
    k 11 [some (.inr (.inr (some h))), some (.inl 0)] [] σ1)) := rfl
set_option maxRecDepth 100000 in
set_option maxHeartbeats 1000000 in
/-- I$Tape.readOr -/
theorem e41_11 (O : Nat → List xV → xS → Option xR) (k : Nat → xF) (h : Nat) (i1 : Int32) (σ : xS) : x_b O x_X0 x_TX (x_C 41) k 3000 (x_suf (x_C 41) 11) [some (.inr (.inr (some h))), some (.inl i1)] [] σ =
  (if 160 ≤ i1 then
    (some (some (.inl 1), σ))
  else
    (x_ck σ h 6 <|
    (if (x_I σ h 3) = 313 then
      (x_ck σ h 6 <|
      x_cv (O 49 [.inr (.inr (some h))] σ) fun σ1 =>
      (x_ck σ1 h 6 <|
      x_ci (O 42 [.inr (.inr (some h))] σ1) fun x3 σ2 =>
      (if x3 = 0 then
        (some (some (.inl 0), σ2))
      else
        (x_ck σ2 h 6 <|
        (x_der (x_Q σ2 h 1) fun a4 => x_ck σ2 a4 7 <|
        x_cv (O 58 [.inr (.inr (x_Q σ2 h 1)), .inl (-10)] σ2) fun σ5 =>
        k 11 [some (.inr (.inr (some h))), some (.inl (i1 + 1))] [] σ5)))))
    else
      (some (some (.inl 1), σ))))) := rfl
set_option maxRecDepth 100000 in
set_option maxHeartbeats 1000000 in
/-- I$Tape.readAnd -/
theorem e42_0 (O : Nat → List xV → xS → Option xR) (k : Nat → xF) (h : Nat) (σ : xS) : x_b O x_X0 x_TX (x_C 42) k 3000 (x_suf (x_C 42) 0) [some (.inr (.inr (some h))), none] [] σ =
  (x_ck σ h 6 <|
  x_ci (O 43 [.inr (.inr (some h))] σ) fun x2 σ1 =>
  (if x2 = 0 then
    (some (some (.inl 0), σ1))
  else
    k 11 [some (.inr (.inr (some h))), some (.inl 0)] [] σ1)) := rfl
set_option maxRecDepth 100000 in
set_option maxHeartbeats 1000000 in
/-- I$Tape.readAnd -/
theorem e42_11 (O : Nat → List xV → xS → Option xR) (k : Nat → xF) (h : Nat) (i1 : Int32) (σ : xS) : x_b O x_X0 x_TX (x_C 42) k 3000 (x_suf (x_C 42) 11) [some (.inr (.inr (some h))), some (.inl i1)] [] σ =
  (if 160 ≤ i1 then
    (some (some (.inl 1), σ))
  else
    (x_ck σ h 6 <|
    (if (x_I σ h 3) = 314 then
      (x_ck σ h 6 <|
      x_cv (O 49 [.inr (.inr (some h))] σ) fun σ1 =>
      (x_ck σ1 h 6 <|
      x_ci (O 43 [.inr (.inr (some h))] σ1) fun x3 σ2 =>
      (if x3 = 0 then
        (some (some (.inl 0), σ2))
      else
        (x_ck σ2 h 6 <|
        (x_der (x_Q σ2 h 1) fun a4 => x_ck σ2 a4 7 <|
        x_cv (O 58 [.inr (.inr (x_Q σ2 h 1)), .inl (-11)] σ2) fun σ5 =>
        k 11 [some (.inr (.inr (some h))), some (.inl (i1 + 1))] [] σ5)))))
    else
      (some (some (.inl 1), σ))))) := rfl
set_option maxRecDepth 100000 in
set_option maxHeartbeats 1000000 in
/-- I$Tape.readNot -/
theorem e43_0 (O : Nat → List xV → xS → Option xR) (k : Nat → xF) (h : Nat) (σ : xS) : x_b O x_X0 x_TX (x_C 43) k 3000 (x_suf (x_C 43) 0) [some (.inr (.inr (some h))), none] [] σ =
  (x_ck σ h 6 <|
  (if (x_I σ h 3) = 315 then
    (x_ck σ h 6 <|
    x_ci (O 47 [.inr (.inr (some h))] σ) fun x4 σ3 =>
    (if x4 = 0 then
      (some (some (.inl 0), σ3))
    else
      (x_ck σ3 h 6 <|
      x_ci (O 43 [.inr (.inr (some h))] σ3) fun x6 σ5 =>
      (if x6 = 0 then
        (some (some (.inl 0), σ5))
      else
        (x_ck σ5 h 6 <|
        (x_ck σ5 h 6 <|
        (x_ck (x_si σ5 h 7 ((x_I σ5 h 7) - 1)) h 6 <|
        (x_der (x_Q (x_si σ5 h 7 ((x_I σ5 h 7) - 1)) h 1) fun a7 => x_ck (x_si σ5 h 7 ((x_I σ5 h 7) - 1)) a7 7 <|
        x_cv (O 58 [.inr (.inr (x_Q (x_si σ5 h 7 ((x_I σ5 h 7) - 1)) h 1)), .inl (-12)] (x_si σ5 h 7 ((x_I σ5 h 7) - 1))) fun σ8 =>
        (some (some (.inl 1), σ8))))))))))
  else
    (x_ck σ h 6 <|
    x_ci (O 44 [.inr (.inr (some h))] σ) fun x2 σ1 =>
    (if x2 = 0 then
      (some (some (.inl 0), σ1))
    else
      (x_ck σ1 h 6 <|
      (if (x_I σ1 h 3) = 60 then
        (x_ck σ1 h 6 <|
        (if (x_I σ1 h 3) = 60 then
          k 92 [some (.inr (.inr (some h))), none] [.inl (-13)] σ1
        else
          k 92 [some (.inr (.inr (some h))), none] [.inl (-14)] σ1))
      else
        (x_ck σ1 h 6 <|
        (if (x_I σ1 h 3) = 61 then
          (x_ck σ1 h 6 <|
          (if (x_I σ1 h 3) = 60 then
            k 92 [some (.inr (.inr (some h))), none] [.inl (-13)] σ1
          else
            k 92 [some (.inr (.inr (some h))), none] [.inl (-14)] σ1))
        else
          (some (some (.inl 1), σ1)))))))))) := rfl
set_option maxRecDepth 100000 in
set_option maxHeartbeats 1000000 in
/-- I$Tape.readNot -/
theorem e43_92 (O : Nat → List xV → xS → Option xR) (k : Nat → xF) (h : Nat) (s0 : Int32) (σ : xS) : x_b O x_X0 x_TX (x_C 43) k 3000 (x_suf (x_C 43) 92) [some (.inr (.inr (some h))), none] [.inl s0] σ =
  (x_ck σ h 6 <|
  x_cv (O 49 [.inr (.inr (some h))] σ) fun σ1 =>
  (x_ck σ1 h 6 <|
  x_ci (O 44 [.inr (.inr (some h))] σ1) fun x3 σ2 =>
  (if x3 = 0 then
    (some (some (.inl 0), σ2))
  else
    (x_ck σ2 h 6 <|
    (x_der (x_Q σ2 h 1) fun a4 => x_ck σ2 a4 7 <|
    x_cv (O 58 [.inr (.inr (x_Q σ2 h 1)), .inl s0] σ2) fun σ5 =>
    (some (some (.inl 1), σ5))))))) := rfl
set_option maxRecDepth 100000 in
set_option maxHeartbeats 1000000 in
/-- I$Tape.readSum -/
theorem e44_0 (O : Nat → List xV → xS → Option xR) (k : Nat → xF) (h : Nat) (σ : xS) : x_b O x_X0 x_TX (x_C 44) k 3000 (x_suf (x_C 44) 0) [some (.inr (.inr (some h))), none, none] [] σ =
  (x_ck σ h 6 <|
  x_ci (O 45 [.inr (.inr (some h))] σ) fun x2 σ1 =>
  (if x2 = 0 then
    (some (some (.inl 0), σ1))
  else
    k 11 [some (.inr (.inr (some h))), some (.inl 0), none] [] σ1)) := rfl
set_option maxRecDepth 100000 in
set_option maxHeartbeats 1000000 in
/-- I$Tape.readSum -/
theorem e44_11 (O : Nat → List xV → xS → Option xR) (k : Nat → xF) (h : Nat) (i1 : Int32) (σ : xS) : x_b O x_X0 x_TX (x_C 44) k 3000 (x_suf (x_C 44) 11) [some (.inr (.inr (some h))), some (.inl i1), none] [] σ =
  (if 160 ≤ i1 then
    (some (some (.inl 1), σ))
  else
    (x_ck σ h 6 <|
    (if (x_I σ h 3) = 43 then
      (x_ck σ h 6 <|
      (if (x_I σ h 3) = 43 then
        k 52 [some (.inr (.inr (some h))), some (.inl i1), none] [.inl (-15)] σ
      else
        k 52 [some (.inr (.inr (some h))), some (.inl i1), none] [.inl (-16)] σ))
    else
      (x_ck σ h 6 <|
      (if (x_I σ h 3) = 45 then
        (x_ck σ h 6 <|
        (if (x_I σ h 3) = 43 then
          k 52 [some (.inr (.inr (some h))), some (.inl i1), none] [.inl (-15)] σ
        else
          k 52 [some (.inr (.inr (some h))), some (.inl i1), none] [.inl (-16)] σ))
      else
        (some (some (.inl 1), σ))))))) := rfl
set_option maxRecDepth 100000 in
set_option maxHeartbeats 1000000 in
/-- I$Tape.readSum -/
theorem e44_52 (O : Nat → List xV → xS → Option xR) (k : Nat → xF) (h : Nat) (i1 : Int32) (s0 : Int32) (σ : xS) : x_b O x_X0 x_TX (x_C 44) k 3000 (x_suf (x_C 44) 52) [some (.inr (.inr (some h))), some (.inl i1), none] [.inl s0] σ =
  (x_ck σ h 6 <|
  x_cv (O 49 [.inr (.inr (some h))] σ) fun σ1 =>
  (x_ck σ1 h 6 <|
  x_ci (O 45 [.inr (.inr (some h))] σ1) fun x3 σ2 =>
  (if x3 = 0 then
    (some (some (.inl 0), σ2))
  else
    (x_ck σ2 h 6 <|
    (x_der (x_Q σ2 h 1) fun a4 => x_ck σ2 a4 7 <|
    x_cv (O 58 [.inr (.inr (x_Q σ2 h 1)), .inl s0] σ2) fun σ5 =>
    k 11 [some (.inr (.inr (some h))), some (.inl (i1 + 1)), none] [] σ5))))) := rfl
set_option maxRecDepth 100000 in
set_option maxHeartbeats 1000000 in
/-- I$Tape.readTerm -/
theorem e45_0 (O : Nat → List xV → xS → Option xR) (k : Nat → xF) (h : Nat) (σ : xS) : x_b O x_X0 x_TX (x_C 45) k 3000 (x_suf (x_C 45) 0) [some (.inr (.inr (some h))), none] [] σ =
  (x_ck σ h 6 <|
  x_ci (O 46 [.inr (.inr (some h))] σ) fun x2 σ1 =>
  (if x2 = 0 then
    (some (some (.inl 0), σ1))
  else
    k 11 [some (.inr (.inr (some h))), some (.inl 0)] [] σ1)) := rfl
set_option maxRecDepth 100000 in
set_option maxHeartbeats 1000000 in
/-- I$Tape.readTerm -/
theorem e45_11 (O : Nat → List xV → xS → Option xR) (k : Nat → xF) (h : Nat) (i1 : Int32) (σ : xS) : x_b O x_X0 x_TX (x_C 45) k 3000 (x_suf (x_C 45) 11) [some (.inr (.inr (some h))), some (.inl i1)] [] σ =
  (if 160 ≤ i1 then
    (some (some (.inl 1), σ))
  else
    (x_ck σ h 6 <|
    (if (x_I σ h 3) = 42 then
      (x_ck σ h 6 <|
      x_cv (O 49 [.inr (.inr (some h))] σ) fun σ1 =>
      (x_ck σ1 h 6 <|
      x_ci (O 46 [.inr (.inr (some h))] σ1) fun x3 σ2 =>
      (if x3 = 0 then
        (some (some (.inl 0), σ2))
      else
        (x_ck σ2 h 6 <|
        (x_der (x_Q σ2 h 1) fun a4 => x_ck σ2 a4 7 <|
        x_cv (O 58 [.inr (.inr (x_Q σ2 h 1)), .inl (-17)] σ2) fun σ5 =>
        k 11 [some (.inr (.inr (some h))), some (.inl (i1 + 1))] [] σ5)))))
    else
      (some (some (.inl 1), σ))))) := rfl
set_option maxRecDepth 100000 in
set_option maxHeartbeats 1000000 in
/-- I$Tape.readOne -/
theorem e46_0 (O : Nat → List xV → xS → Option xR) (k : Nat → xF) (h : Nat) (σ : xS) : x_b O x_X0 x_TX (x_C 46) k 3000 (x_suf (x_C 46) 0) [some (.inr (.inr (some h)))] [] σ =
  (x_ck σ h 6 <|
  (if (x_I σ h 3) = 302 then
    (x_ck σ h 6 <|
    (x_ck σ h 6 <|
    (x_der (x_Q σ h 1) fun a18 => x_ck σ a18 7 <|
    x_cv (O 58 [.inr (.inr (x_Q σ h 1)), .inl (x_I σ h 6)] σ) fun σ19 =>
    (x_ck σ19 h 6 <|
    x_cv (O 49 [.inr (.inr (some h))] σ19) fun σ20 =>
    (some (some (.inl 1), σ20))))))
  else
    (x_ck σ h 6 <|
    (x_ci (O 126 [.inl (x_I σ h 3), .inl 320, .inl 325] σ) fun x2 σ1 =>
    (if x2 = 0 then
      (x_ck σ1 h 6 <|
      (if (x_I σ1 h 3) = 45 then
        (x_ck σ1 h 6 <|
        x_ci (O 47 [.inr (.inr (some h))] σ1) fun x10 σ9 =>
        (if x10 = 0 then
          (some (some (.inl 0), σ9))
        else
          (x_ck σ9 h 6 <|
          x_ci (O 46 [.inr (.inr (some h))] σ9) fun x12 σ11 =>
          (if x12 = 0 then
            (some (some (.inl 0), σ11))
          else
            (x_ck σ11 h 6 <|
            (x_ck σ11 h 6 <|
            (x_ck (x_si σ11 h 7 ((x_I σ11 h 7) - 1)) h 6 <|
            (x_der (x_Q (x_si σ11 h 7 ((x_I σ11 h 7) - 1)) h 1) fun a13 => x_ck (x_si σ11 h 7 ((x_I σ11 h 7) - 1)) a13 7 <|
            x_cv (O 58 [.inr (.inr (x_Q (x_si σ11 h 7 ((x_I σ11 h 7) - 1)) h 1)), .inl (-18)] (x_si σ11 h 7 ((x_I σ11 h 7) - 1))) fun σ14 =>
            (some (some (.inl 1), σ14))))))))))
      else
        (x_ck σ1 h 6 <|
        (if (x_I σ1 h 3) = 40 then
          (x_ck σ1 h 6 <|
          x_ci (O 47 [.inr (.inr (some h))] σ1) fun x4 σ3 =>
          (if x4 = 0 then
            (some (some (.inl 0), σ3))
          else
            (x_ck σ3 h 6 <|
            x_ci (O 41 [.inr (.inr (some h))] σ3) fun x6 σ5 =>
            (if x6 = 0 then
              (some (some (.inl 0), σ5))
            else
              (x_ck σ5 h 6 <|
              x_ci (O 48 [.inr (.inr (some h)), .inl 41] σ5) fun x8 σ7 =>
              (if x8 = 0 then
                (some (some (.inl 0), σ7))
              else
                (x_ck σ7 h 6 <|
                (x_ck σ7 h 6 <|
                (some (some (.inl 1), x_si σ7 h 7 ((x_I σ7 h 7) - 1)))))))))))
        else
          (some (some (.inl 0), σ1))))))
    else
      (x_ck σ1 h 6 <|
      (x_ck σ1 h 6 <|
      (x_der (x_Q σ1 h 1) fun a15 => x_ck σ1 a15 7 <|
      x_cv (O 58 [.inr (.inr (x_Q σ1 h 1)), .inl ((-1) - ((x_I σ1 h 3) - 320))] σ1) fun σ16 =>
      (x_ck σ16 h 6 <|
      x_cv (O 49 [.inr (.inr (some h))] σ16) fun σ17 =>
      (some (some (.inl 1), σ17))))))))))) := rfl
set_option maxRecDepth 100000 in
set_option maxHeartbeats 1000000 in
/-- I$Tape.opens -/
theorem e47_0 (O : Nat → List xV → xS → Option xR) (k : Nat → xF) (h : Nat) (σ : xS) : x_b O x_X0 x_TX (x_C 47) k 3000 (x_suf (x_C 47) 0) [some (.inr (.inr (some h)))] [] σ =
  (x_ck σ h 6 <|
  (if (x_I σ h 7) < 5 then
    (x_ck σ h 6 <|
    (x_ck σ h 6 <|
    (x_ck (x_si σ h 7 ((x_I σ h 7) + 1)) h 6 <|
    x_cv (O 49 [.inr (.inr (some h))] (x_si σ h 7 ((x_I σ h 7) + 1))) fun σ1 =>
    (some (some (.inl 1), σ1)))))
  else
    (some (some (.inl 0), σ)))) := rfl
set_option maxRecDepth 100000 in
set_option maxHeartbeats 1000000 in
/-- I$Tape.pass -/
theorem e48_0 (O : Nat → List xV → xS → Option xR) (k : Nat → xF) (h : Nat) (i1 : Int32) (σ : xS) : x_b O x_X0 x_TX (x_C 48) k 3000 (x_suf (x_C 48) 0) [some (.inr (.inr (some h))), some (.inl i1)] [] σ =
  (x_ck σ h 6 <|
  (if (x_I σ h 3) = i1 then
    (x_ck σ h 6 <|
    x_cv (O 49 [.inr (.inr (some h))] σ) fun σ1 =>
    (some (some (.inl 1), σ1)))
  else
    (some (some (.inl 0), σ)))) := rfl
set_option maxRecDepth 100000 in
set_option maxHeartbeats 1000000 in
/-- I$Tape.advance -/
theorem e49_0 (O : Nat → List xV → xS → Option xR) (k : Nat → xF) (h : Nat) (σ : xS) : x_b O x_X0 x_TX (x_C 49) k 3000 (x_suf (x_C 49) 0) [some (.inr (.inr (some h))), none] [] σ =
  (x_ck σ h 6 <|
  (x_ck σ h 6 <|
  k 8 [some (.inr (.inr (some h))), none] [] (x_si σ h 4 (x_I σ h 5)))) := rfl
set_option maxRecDepth 100000 in
set_option maxHeartbeats 1000000 in
/-- I$Tape.advance -/
theorem e49_8 (O : Nat → List xV → xS → Option xR) (k : Nat → xF) (h : Nat) (σ : xS) : x_b O x_X0 x_TX (x_C 49) k 3000 (x_suf (x_C 49) 8) [some (.inr (.inr (some h))), none] [] σ =
  (x_ck σ h 6 <|
  (x_ck σ h 6 <|
  (if (x_I σ h 2) ≤ (x_I σ h 4) then
    k 64 [some (.inr (.inr (some h))), none] [] σ
  else
    (x_ck σ h 6 <|
    (x_ck σ h 6 <|
    (x_ci (O 129 [.inr (.inr (x_Q σ h 0)), .inl (x_I σ h 4)] σ) fun x2 σ1 =>
    (if x2 = 32 then
      (x_ck σ1 h 6 <|
      (x_ck σ1 h 6 <|
      k 8 [some (.inr (.inr (some h))), none] [] (x_si σ1 h 4 ((x_I σ1 h 4) + 1))))
    else
      (x_ck σ1 h 6 <|
      (x_ck σ1 h 6 <|
      (x_ci (O 129 [.inr (.inr (x_Q σ1 h 0)), .inl (x_I σ1 h 4)] σ1) fun x4 σ3 =>
      (if x4 = 10 then
        (x_ck σ3 h 6 <|
        (x_ck σ3 h 6 <|
        k 8 [some (.inr (.inr (some h))), none] [] (x_si σ3 h 4 ((x_I σ3 h 4) + 1))))
      else
        k 64 [some (.inr (.inr (some h))), none] [] σ3))))))))))) := rfl
set_option maxRecDepth 100000 in
set_option maxHeartbeats 1000000 in
/-- I$Tape.advance -/
theorem e49_64 (O : Nat → List xV → xS → Option xR) (k : Nat → xF) (h : Nat) (σ : xS) : x_b O x_X0 x_TX (x_C 49) k 3000 (x_suf (x_C 49) 64) [some (.inr (.inr (some h))), none] [] σ =
  (x_ck σ h 6 <|
  (x_ck σ h 6 <|
  (x_ck (x_si σ h 5 (x_I σ h 4)) h 6 <|
  (x_ck (x_si σ h 5 (x_I σ h 4)) h 6 <|
  (if (x_I (x_si σ h 5 (x_I σ h 4)) h 4) < (x_I (x_si σ h 5 (x_I σ h 4)) h 2) then
    (x_ck (x_si σ h 5 (x_I σ h 4)) h 6 <|
    (x_ck (x_si σ h 5 (x_I σ h 4)) h 6 <|
    (x_ci (O 129 [.inr (.inr (x_Q (x_si σ h 5 (x_I σ h 4)) h 0)), .inl (x_I (x_si σ h 5 (x_I σ h 4)) h 4)] (x_si σ h 5 (x_I σ h 4))) fun x2 σ1 =>
    (x_ci (O 53 [.inl x2] σ1) fun x4 σ3 =>
    (if x4 = 0 then
      (x_ci (O 54 [.inl x2] σ3) fun x6 σ5 =>
      (if x6 = 0 then
        (x_ck σ5 h 6 <|
        (x_ck σ5 h 6 <|
        (x_ci (O 55 [.inl x2] (x_si σ5 h 5 ((x_I σ5 h 5) + 1))) fun x8 σ7 =>
        (if x8 = 0 then
          (x_ck σ7 h 6 <|
          (some (none, x_si σ7 h 3 301)))
        else
          (x_ck σ7 h 6 <|
          (some (none, x_si σ7 h 3 x2)))))))
      else
        (x_ck σ5 h 6 <|
        x_cv (O 51 [.inr (.inr (some h))] σ5) fun σ9 =>
        (some (none, σ9)))))
    else
      (x_ck σ3 h 6 <|
      x_cv (O 50 [.inr (.inr (some h))] σ3) fun σ10 =>
      (some (none, σ10))))))))
  else
    (x_ck (x_si σ h 5 (x_I σ h 4)) h 6 <|
    (some (none, x_si (x_si σ h 5 (x_I σ h 4)) h 3 300)))))))) := rfl
set_option maxRecDepth 100000 in
set_option maxHeartbeats 1000000 in
/-- I$Tape.advanceWord -/
theorem e50_0 (O : Nat → List xV → xS → Option xR) (k : Nat → xF) (h : Nat) (σ : xS) : x_b O x_X0 x_TX (x_C 50) k 3000 (x_suf (x_C 50) 0) [some (.inr (.inr (some h)))] [] σ =
  (x_ck σ h 6 <|
  (x_ck σ h 6 <|
  (if (x_I σ h 2) ≤ (x_I σ h 5) then
    k 41 [some (.inr (.inr (some h)))] [] σ
  else
    (x_ck σ h 6 <|
    (x_ck σ h 6 <|
    (x_ci (O 129 [.inr (.inr (x_Q σ h 0)), .inl (x_I σ h 5)] σ) fun x2 σ1 =>
    (x_ci (O 53 [.inl x2] σ1) fun x4 σ3 =>
    (if x4 = 0 then
      k 41 [some (.inr (.inr (some h)))] [] σ3
    else
      (x_ck σ3 h 6 <|
      (x_ck σ3 h 6 <|
      k 0 [some (.inr (.inr (some h)))] [] (x_si σ3 h 5 ((x_I σ3 h 5) + 1)))))))))))) := rfl
set_option maxRecDepth 100000 in
set_option maxHeartbeats 1000000 in
/-- I$Tape.advanceWord -/
theorem e50_41 (O : Nat → List xV → xS → Option xR) (k : Nat → xF) (h : Nat) (σ : xS) : x_b O x_X0 x_TX (x_C 50) k 3000 (x_suf (x_C 50) 41) [some (.inr (.inr (some h)))] [] σ =
  (x_ck σ h 6 <|
  x_ci (O 52 [.inr (.inr (some h)), .inr (.inr (some 1001))] σ) fun x2 σ1 =>
  (if x2 = 0 then
    (x_ck σ1 h 6 <|
    x_ci (O 52 [.inr (.inr (some h)), .inr (.inr (some 1002))] σ1) fun x4 σ3 =>
    (if x4 = 0 then
      (x_ck σ3 h 6 <|
      x_ci (O 52 [.inr (.inr (some h)), .inr (.inr (some 1003))] σ3) fun x6 σ5 =>
      (if x6 = 0 then
        (x_ck σ5 h 6 <|
        x_ci (O 52 [.inr (.inr (some h)), .inr (.inr (some 1004))] σ5) fun x8 σ7 =>
        (if x8 = 0 then
          (x_ck σ7 h 6 <|
          x_ci (O 52 [.inr (.inr (some h)), .inr (.inr (some 1005))] σ7) fun x10 σ9 =>
          (if x10 = 0 then
            (x_ck σ9 h 6 <|
            x_ci (O 52 [.inr (.inr (some h)), .inr (.inr (some 1006))] σ9) fun x12 σ11 =>
            (if x12 = 0 then
              (x_ck σ11 h 6 <|
              x_ci (O 52 [.inr (.inr (some h)), .inr (.inr (some 1007))] σ11) fun x14 σ13 =>
              (if x14 = 0 then
                (x_ck σ13 h 6 <|
                x_ci (O 52 [.inr (.inr (some h)), .inr (.inr (some 1008))] σ13) fun x16 σ15 =>
                (if x16 = 0 then
                  (x_ck σ15 h 6 <|
                  x_ci (O 52 [.inr (.inr (some h)), .inr (.inr (some 1009))] σ15) fun x18 σ17 =>
                  (if x18 = 0 then
                    (x_ck σ17 h 6 <|
                    x_ci (O 52 [.inr (.inr (some h)), .inr (.inr (some 1010))] σ17) fun x20 σ19 =>
                    (if x20 = 0 then
                      (x_ck σ19 h 6 <|
                      x_ci (O 52 [.inr (.inr (some h)), .inr (.inr (some 1011))] σ19) fun x22 σ21 =>
                      (if x22 = 0 then
                        (x_ck σ21 h 6 <|
                        x_ci (O 52 [.inr (.inr (some h)), .inr (.inr (some 1012))] σ21) fun x24 σ23 =>
                        (if x24 = 0 then
                          (x_ck σ23 h 6 <|
                          (some (none, x_si σ23 h 3 301)))
                        else
                          (x_ck σ23 h 6 <|
                          (some (none, x_si σ23 h 3 325)))))
                      else
                        (x_ck σ21 h 6 <|
                        (some (none, x_si σ21 h 3 324)))))
                    else
                      (x_ck σ19 h 6 <|
                      (some (none, x_si σ19 h 3 323)))))
                  else
                    (x_ck σ17 h 6 <|
                    (some (none, x_si σ17 h 3 322)))))
                else
                  (x_ck σ15 h 6 <|
                  (some (none, x_si σ15 h 3 321)))))
              else
                (x_ck σ13 h 6 <|
                (some (none, x_si σ13 h 3 320)))))
            else
              (x_ck σ11 h 6 <|
              (some (none, x_si σ11 h 3 315)))))
          else
            (x_ck σ9 h 6 <|
            (some (none, x_si σ9 h 3 314)))))
        else
          (x_ck σ7 h 6 <|
          (some (none, x_si σ7 h 3 313)))))
      else
        (x_ck σ5 h 6 <|
        (some (none, x_si σ5 h 3 312)))))
    else
      (x_ck σ3 h 6 <|
      (some (none, x_si σ3 h 3 311)))))
  else
    (x_ck σ1 h 6 <|
    (some (none, x_si σ1 h 3 310))))) := rfl
set_option maxRecDepth 100000 in
set_option maxHeartbeats 1000000 in
/-- I$Tape.advanceNumber -/
theorem e51_0 (O : Nat → List xV → xS → Option xR) (k : Nat → xF) (h : Nat) (σ : xS) : x_b O x_X0 x_TX (x_C 51) k 3000 (x_suf (x_C 51) 0) [some (.inr (.inr (some h)))] [] σ =
  (x_ck σ h 6 <|
  k 5 [some (.inr (.inr (some h)))] [] (x_si σ h 6 0)) := rfl
set_option maxRecDepth 100000 in
set_option maxHeartbeats 1000000 in
/-- I$Tape.advanceNumber -/
theorem e51_5 (O : Nat → List xV → xS → Option xR) (k : Nat → xF) (h : Nat) (σ : xS) : x_b O x_X0 x_TX (x_C 51) k 3000 (x_suf (x_C 51) 5) [some (.inr (.inr (some h)))] [] σ =
  (x_ck σ h 6 <|
  (x_ck σ h 6 <|
  (if (x_I σ h 2) ≤ (x_I σ h 5) then
    k 72 [some (.inr (.inr (some h)))] [] σ
  else
    (x_ck σ h 6 <|
    (x_ck σ h 6 <|
    (x_ci (O 129 [.inr (.inr (x_Q σ h 0)), .inl (x_I σ h 5)] σ) fun x2 σ1 =>
    (x_ci (O 54 [.inl x2] σ1) fun x4 σ3 =>
    (if x4 = 0 then
      k 72 [some (.inr (.inr (some h)))] [] σ3
    else
      (x_ck σ3 h 6 <|
      (x_ck σ3 h 6 <|
      (x_ck σ3 h 6 <|
      (x_ci (O 129 [.inr (.inr (x_Q σ3 h 0)), .inl (x_I σ3 h 5)] σ3) fun x6 σ5 =>
      (x_ck σ5 h 6 <|
      (x_ck (x_si σ5 h 6 ((((x_I σ3 h 6) * 10) + x6) - 48)) h 6 <|
      (x_ck (x_si σ5 h 6 ((((x_I σ3 h 6) * 10) + x6) - 48)) h 6 <|
      k 5 [some (.inr (.inr (some h)))] [] (x_si (x_si σ5 h 6 ((((x_I σ3 h 6) * 10) + x6) - 48)) h 5 ((x_I (x_si σ5 h 6 ((((x_I σ3 h 6) * 10) + x6) - 48)) h 5) + 1))))))))))))))))) := rfl
set_option maxRecDepth 100000 in
set_option maxHeartbeats 1000000 in
/-- I$Tape.advanceNumber -/
theorem e51_72 (O : Nat → List xV → xS → Option xR) (k : Nat → xF) (h : Nat) (σ : xS) : x_b O x_X0 x_TX (x_C 51) k 3000 (x_suf (x_C 51) 72) [some (.inr (.inr (some h)))] [] σ =
  (x_ck σ h 6 <|
  (x_ck σ h 6 <|
  (if ((x_I σ h 5) - (x_I σ h 4)) ≤ 4 then
    (x_ck σ h 6 <|
    (some (none, x_si σ h 3 302)))
  else
    (x_ck σ h 6 <|
    (some (none, x_si σ h 3 301)))))) := rfl
set_option maxRecDepth 100000 in
set_option maxHeartbeats 1000000 in
/-- I$Tape.spells -/
theorem e52_0 (O : Nat → List xV → xS → Option xR) (k : Nat → xF) (h : Nat) (q1 : Option Nat) (σ : xS) : x_b O x_X0 x_TX (x_C 52) k 3000 (x_suf (x_C 52) 0) [some (.inr (.inr (some h))), some (.inr (.inr q1)), none] [] σ =
  (x_ck σ h 6 <|
  (if (x_I σ h 4) < 0 then
    (some (some (.inl 0), σ))
  else
    (x_ck σ h 6 <|
    (x_ck σ h 6 <|
    (x_der (x_Q σ h 0) fun a1 => x_aa σ a1 fun n2 => (if (Int32.ofNat n2) < (x_I σ h 5) then
      (some (some (.inl 0), σ))
    else
      (x_der q1 fun a3 => (bif Nat.ble 1000 a3 && Nat.blt a3 1013 then (x_ck σ h 6 <|
      (x_ck σ h 6 <|
      (if (Int32.ofNat (x_TX a3).length) = ((x_I σ h 5) - (x_I σ h 4)) then
        k 39 [some (.inr (.inr (some h))), some (.inr (.inr q1)), some (.inl 0)] [] σ
      else
        (some (some (.inl 0), σ))))) else none)))))))) := rfl
set_option maxRecDepth 100000 in
set_option maxHeartbeats 1000000 in
/-- I$Tape.spells -/
theorem e52_39 (O : Nat → List xV → xS → Option xR) (k : Nat → xF) (h : Nat) (q1 : Option Nat) (i2 : Int32) (σ : xS) : x_b O x_X0 x_TX (x_C 52) k 3000 (x_suf (x_C 52) 39) [some (.inr (.inr (some h))), some (.inr (.inr q1)), some (.inl i2)] [] σ =
  (x_der q1 fun a1 => (bif Nat.ble 1000 a1 && Nat.blt a1 1013 then (if (Int32.ofNat (x_TX a1).length) ≤ i2 then
    (some (some (.inl 1), σ))
  else
    (x_der q1 fun a2 => (bif Nat.ble 1000 a2 && Nat.blt a2 1013 then x_ix i2 (x_TX a2).length <|
    (x_ck σ h 6 <|
    (x_ck σ h 6 <|
    (x_der (x_Q σ h 0) fun a3 => x_ak σ a3 11 fun n4 => x_ix ((x_I σ h 4) + i2) n4 <|
    (if ((x_TX a2).getD (i2).toNatClampNeg 0) = (x_I σ a3 ((x_I σ h 4) + i2).toNatClampNeg) then
      k 39 [some (.inr (.inr (some h))), some (.inr (.inr q1)), some (.inl (i2 + 1))] [] σ
    else
      (some (some (.inl 0), σ)))))) else none))) else none)) := rfl
set_option maxRecDepth 100000 in
set_option maxHeartbeats 1000000 in
/-- I$Tape.isLetter -/
theorem e53_0 (O : Nat → List xV → xS → Option xR) (k : Nat → xF) (i0 : Int32) (σ : xS) : x_b O x_X0 x_TX (x_C 53) k 3000 (x_suf (x_C 53) 0) [some (.inl i0)] [] σ =
  (if i0 < 97 then
    (some (some (.inl 0), σ))
  else
    (if 122 < i0 then
      (some (some (.inl 0), σ))
    else
      (some (some (.inl 1), σ)))) := rfl
set_option maxRecDepth 100000 in
set_option maxHeartbeats 1000000 in
/-- I$Tape.isDigit -/
theorem e54_0 (O : Nat → List xV → xS → Option xR) (k : Nat → xF) (i0 : Int32) (σ : xS) : x_b O x_X0 x_TX (x_C 54) k 3000 (x_suf (x_C 54) 0) [some (.inl i0)] [] σ =
  (if i0 < 48 then
    (some (some (.inl 0), σ))
  else
    (if 57 < i0 then
      (some (some (.inl 0), σ))
    else
      (some (some (.inl 1), σ)))) := rfl
set_option maxRecDepth 100000 in
set_option maxHeartbeats 1000000 in
/-- I$Tape.isSign -/
theorem e55_0 (O : Nat → List xV → xS → Option xR) (k : Nat → xF) (i0 : Int32) (σ : xS) : x_b O x_X0 x_TX (x_C 55) k 3000 (x_suf (x_C 55) 0) [some (.inl i0)] [] σ =
  (if i0 = 40 then
    (some (some (.inl 1), σ))
  else
    (if i0 = 41 then
      (some (some (.inl 1), σ))
    else
      (if i0 = 59 then
        (some (some (.inl 1), σ))
      else
        (if i0 = 43 then
          (some (some (.inl 1), σ))
        else
          (if i0 = 45 then
            (some (some (.inl 1), σ))
          else
            (if i0 = 42 then
              (some (some (.inl 1), σ))
            else
              (if i0 = 60 then
                (some (some (.inl 1), σ))
              else
                (if i0 = 61 then
                  (some (some (.inl 1), σ))
                else
                  (some (some (.inl 0), σ)))))))))) := rfl
set_option maxRecDepth 100000 in
set_option maxHeartbeats 1000000 in
/-- I$Text.<init> -/
theorem e56_0 (O : Nat → List xV → xS → Option xR) (k : Nat → xF) (h : Nat) (σ : xS) : x_b O x_X0 x_TX (x_C 56) k 3000 (x_suf (x_C 56) 0) [some (.inr (.inr (some h)))] [] σ =
  (bif Nat.blt (σ).1.length 900 then
  (x_ck (x_new σ 11 ((160 : Int32).toNatClampNeg)) h 7 <|
  (bif Nat.blt (x_sr (x_new σ 11 ((160 : Int32).toNatClampNeg)) h 0 (some (σ).1.length)).1.length 900 then
  (x_ck (x_new (x_sr (x_new σ 11 ((160 : Int32).toNatClampNeg)) h 0 (some (σ).1.length)) 11 ((160 : Int32).toNatClampNeg)) h 7 <|
  (bif Nat.blt (x_sr (x_new (x_sr (x_new σ 11 ((160 : Int32).toNatClampNeg)) h 0 (some (σ).1.length)) 11 ((160 : Int32).toNatClampNeg)) h 1 (some (x_sr (x_new σ 11 ((160 : Int32).toNatClampNeg)) h 0 (some (σ).1.length)).1.length)).1.length 900 then
  (x_ck (x_new (x_sr (x_new (x_sr (x_new σ 11 ((160 : Int32).toNatClampNeg)) h 0 (some (σ).1.length)) 11 ((160 : Int32).toNatClampNeg)) h 1 (some (x_sr (x_new σ 11 ((160 : Int32).toNatClampNeg)) h 0 (some (σ).1.length)).1.length)) 11 ((3 : Int32).toNatClampNeg)) h 7 <|
  (bif Nat.blt (x_sr (x_new (x_sr (x_new (x_sr (x_new σ 11 ((160 : Int32).toNatClampNeg)) h 0 (some (σ).1.length)) 11 ((160 : Int32).toNatClampNeg)) h 1 (some (x_sr (x_new σ 11 ((160 : Int32).toNatClampNeg)) h 0 (some (σ).1.length)).1.length)) 11 ((3 : Int32).toNatClampNeg)) h 2 (some (x_sr (x_new (x_sr (x_new σ 11 ((160 : Int32).toNatClampNeg)) h 0 (some (σ).1.length)) 11 ((160 : Int32).toNatClampNeg)) h 1 (some (x_sr (x_new σ 11 ((160 : Int32).toNatClampNeg)) h 0 (some (σ).1.length)).1.length)).1.length)).1.length 900 then
  (x_ck (x_new (x_sr (x_new (x_sr (x_new (x_sr (x_new σ 11 ((160 : Int32).toNatClampNeg)) h 0 (some (σ).1.length)) 11 ((160 : Int32).toNatClampNeg)) h 1 (some (x_sr (x_new σ 11 ((160 : Int32).toNatClampNeg)) h 0 (some (σ).1.length)).1.length)) 11 ((3 : Int32).toNatClampNeg)) h 2 (some (x_sr (x_new (x_sr (x_new σ 11 ((160 : Int32).toNatClampNeg)) h 0 (some (σ).1.length)) 11 ((160 : Int32).toNatClampNeg)) h 1 (some (x_sr (x_new σ 11 ((160 : Int32).toNatClampNeg)) h 0 (some (σ).1.length)).1.length)).1.length)) 11 ((6 : Int32).toNatClampNeg)) h 7 <|
  (x_ck (x_sr (x_new (x_sr (x_new (x_sr (x_new (x_sr (x_new σ 11 ((160 : Int32).toNatClampNeg)) h 0 (some (σ).1.length)) 11 ((160 : Int32).toNatClampNeg)) h 1 (some (x_sr (x_new σ 11 ((160 : Int32).toNatClampNeg)) h 0 (some (σ).1.length)).1.length)) 11 ((3 : Int32).toNatClampNeg)) h 2 (some (x_sr (x_new (x_sr (x_new σ 11 ((160 : Int32).toNatClampNeg)) h 0 (some (σ).1.length)) 11 ((160 : Int32).toNatClampNeg)) h 1 (some (x_sr (x_new σ 11 ((160 : Int32).toNatClampNeg)) h 0 (some (σ).1.length)).1.length)).1.length)) 11 ((6 : Int32).toNatClampNeg)) h 3 (some (x_sr (x_new (x_sr (x_new (x_sr (x_new σ 11 ((160 : Int32).toNatClampNeg)) h 0 (some (σ).1.length)) 11 ((160 : Int32).toNatClampNeg)) h 1 (some (x_sr (x_new σ 11 ((160 : Int32).toNatClampNeg)) h 0 (some (σ).1.length)).1.length)) 11 ((3 : Int32).toNatClampNeg)) h 2 (some (x_sr (x_new (x_sr (x_new σ 11 ((160 : Int32).toNatClampNeg)) h 0 (some (σ).1.length)) 11 ((160 : Int32).toNatClampNeg)) h 1 (some (x_sr (x_new σ 11 ((160 : Int32).toNatClampNeg)) h 0 (some (σ).1.length)).1.length)).1.length)).1.length)) h 7 <|
  (some (none, x_si (x_sr (x_new (x_sr (x_new (x_sr (x_new (x_sr (x_new σ 11 ((160 : Int32).toNatClampNeg)) h 0 (some (σ).1.length)) 11 ((160 : Int32).toNatClampNeg)) h 1 (some (x_sr (x_new σ 11 ((160 : Int32).toNatClampNeg)) h 0 (some (σ).1.length)).1.length)) 11 ((3 : Int32).toNatClampNeg)) h 2 (some (x_sr (x_new (x_sr (x_new σ 11 ((160 : Int32).toNatClampNeg)) h 0 (some (σ).1.length)) 11 ((160 : Int32).toNatClampNeg)) h 1 (some (x_sr (x_new σ 11 ((160 : Int32).toNatClampNeg)) h 0 (some (σ).1.length)).1.length)).1.length)) 11 ((6 : Int32).toNatClampNeg)) h 3 (some (x_sr (x_new (x_sr (x_new (x_sr (x_new σ 11 ((160 : Int32).toNatClampNeg)) h 0 (some (σ).1.length)) 11 ((160 : Int32).toNatClampNeg)) h 1 (some (x_sr (x_new σ 11 ((160 : Int32).toNatClampNeg)) h 0 (some (σ).1.length)).1.length)) 11 ((3 : Int32).toNatClampNeg)) h 2 (some (x_sr (x_new (x_sr (x_new σ 11 ((160 : Int32).toNatClampNeg)) h 0 (some (σ).1.length)) 11 ((160 : Int32).toNatClampNeg)) h 1 (some (x_sr (x_new σ 11 ((160 : Int32).toNatClampNeg)) h 0 (some (σ).1.length)).1.length)).1.length)).1.length)) h 4 0)))) else none)) else none)) else none)) else none) := rfl
set_option maxRecDepth 100000 in
set_option maxHeartbeats 1000000 in
/-- I$Text.clear -/
theorem e57_0 (O : Nat → List xV → xS → Option xR) (k : Nat → xF) (h : Nat) (σ : xS) : x_b O x_X0 x_TX (x_C 57) k 3000 (x_suf (x_C 57) 0) [some (.inr (.inr (some h)))] [] σ =
  (x_ck σ h 7 <|
  (x_ck (x_si σ h 4 0) h 7 <|
  (x_cv (O 225 [.inr (.inr (x_Q (x_si σ h 4 0) h 2)), .inl 0] (x_si σ h 4 0)) fun σ1 =>
  (some (none, σ1))))) := rfl
set_option maxRecDepth 100000 in
set_option maxHeartbeats 1000000 in
/-- I$Text.add -/
theorem e58_0 (O : Nat → List xV → xS → Option xR) (k : Nat → xF) (h : Nat) (i1 : Int32) (σ : xS) : x_b O x_X0 x_TX (x_C 58) k 3000 (x_suf (x_C 58) 0) [some (.inr (.inr (some h))), some (.inl i1)] [] σ =
  (x_ck σ h 7 <|
  (x_ck σ h 7 <|
  (x_cv (O 130 [.inr (.inr (x_Q σ h 0)), .inl (x_I σ h 4), .inl i1] σ) fun σ1 =>
  (x_ck σ1 h 7 <|
  (x_ck σ1 h 7 <|
  (some (none, x_si σ1 h 4 ((x_I σ1 h 4) + 1)))))))) := rfl
set_option maxRecDepth 100000 in
set_option maxHeartbeats 1000000 in
/-- I$Text.endPart -/
theorem e59_0 (O : Nat → List xV → xS → Option xR) (k : Nat → xF) (h : Nat) (i1 : Int32) (σ : xS) : x_b O x_X0 x_TX (x_C 59) k 3000 (x_suf (x_C 59) 0) [some (.inr (.inr (some h))), some (.inl i1)] [] σ =
  (x_ck σ h 7 <|
  (x_ck σ h 7 <|
  (x_cv (O 130 [.inr (.inr (x_Q σ h 2)), .inl i1, .inl (x_I σ h 4)] σ) fun σ1 =>
  (some (none, σ1))))) := rfl
set_option maxRecDepth 100000 in
set_option maxHeartbeats 1000000 in
/-- I$Text.become -/
theorem e60_0 (O : Nat → List xV → xS → Option xR) (k : Nat → xF) (h : Nat) (q1 : Option Nat) (σ : xS) : x_b O x_X0 x_TX (x_C 60) k 3000 (x_suf (x_C 60) 0) [some (.inr (.inr (some h))), some (.inr (.inr q1)), none] [] σ =
  k 2 [some (.inr (.inr (some h))), some (.inr (.inr q1)), some (.inl 0)] [] σ := rfl
set_option maxRecDepth 100000 in
set_option maxHeartbeats 1000000 in
/-- I$Text.become -/
theorem e60_2 (O : Nat → List xV → xS → Option xR) (k : Nat → xF) (h : Nat) (q1 : Option Nat) (i2 : Int32) (σ : xS) : x_b O x_X0 x_TX (x_C 60) k 3000 (x_suf (x_C 60) 2) [some (.inr (.inr (some h))), some (.inr (.inr q1)), some (.inl i2)] [] σ =
  (x_ck σ h 7 <|
  (x_der (x_Q σ h 0) fun a1 => x_aa σ a1 fun n2 => (if (Int32.ofNat n2) ≤ i2 then
    k 35 [some (.inr (.inr (some h))), some (.inr (.inr q1)), some (.inl 0)] [] σ
  else
    (x_ck σ h 7 <|
    (x_der q1 fun a3 => x_ck σ a3 7 <|
    (x_ci (O 129 [.inr (.inr (x_Q σ a3 0)), .inl i2] σ) fun x5 σ4 =>
    (x_cv (O 130 [.inr (.inr (x_Q σ h 0)), .inl i2, .inl x5] σ4) fun σ6 =>
    k 2 [some (.inr (.inr (some h))), some (.inr (.inr q1)), some (.inl (i2 + 1))] [] σ6))))))) := rfl
set_option maxRecDepth 100000 in
set_option maxHeartbeats 1000000 in
/-- I$Text.become -/
theorem e60_35 (O : Nat → List xV → xS → Option xR) (k : Nat → xF) (h : Nat) (q1 : Option Nat) (i2 : Int32) (σ : xS) : x_b O x_X0 x_TX (x_C 60) k 3000 (x_suf (x_C 60) 35) [some (.inr (.inr (some h))), some (.inr (.inr q1)), some (.inl i2)] [] σ =
  (x_ck σ h 7 <|
  (x_der (x_Q σ h 2) fun a1 => x_aa σ a1 fun n2 => (if (Int32.ofNat n2) ≤ i2 then
    (x_der q1 fun a3 => x_ck σ a3 7 <|
    (x_ck σ h 7 <|
    (some (none, x_si σ h 4 (x_I σ a3 4)))))
  else
    (x_ck σ h 7 <|
    (x_der q1 fun a4 => x_ck σ a4 7 <|
    (x_ci (O 129 [.inr (.inr (x_Q σ a4 2)), .inl i2] σ) fun x6 σ5 =>
    (x_cv (O 130 [.inr (.inr (x_Q σ h 2)), .inl i2, .inl x6] σ5) fun σ7 =>
    k 35 [some (.inr (.inr (some h))), some (.inr (.inr q1)), some (.inl (i2 + 1))] [] σ7))))))) := rfl
set_option maxRecDepth 100000 in
set_option maxHeartbeats 1000000 in
/-- I$Text.says -/
theorem e61_0 (O : Nat → List xV → xS → Option xR) (k : Nat → xF) (h : Nat) (i1 : Int32) (q2 : Option Nat) (i3 : Int32) (i4 : Int32) (i5 : Int32) (σ : xS) : x_b O x_X0 x_TX (x_C 61) k 3000 (x_suf (x_C 61) 0) [some (.inr (.inr (some h))), some (.inl i1), some (.inr (.inr q2)), some (.inl i3), some (.inl i4), some (.inl i5)] [] σ =
  (x_ck σ h 7 <|
  (x_cv (O 130 [.inr (.inr (x_Q σ h 3)), .inl 0, .inl i3] σ) fun σ1 =>
  (x_ck σ1 h 7 <|
  (x_cv (O 130 [.inr (.inr (x_Q σ1 h 3)), .inl 1, .inl (if i4 < 99 then i4 else 99)] σ1) fun σ2 =>
  (x_ck σ2 h 7 <|
  (x_der q2 fun a3 => x_ck σ2 a3 2 <|
  (x_cv (O 130 [.inr (.inr (x_Q σ2 h 3)), .inl 2, .inl (x_I σ2 a3 1)] σ2) fun σ4 =>
  (x_ck σ4 h 7 <|
  (x_der q2 fun a5 => x_ck σ4 a5 2 <|
  (x_cv (O 130 [.inr (.inr (x_Q σ4 h 3)), .inl 3, .inl (x_I σ4 a5 3)] σ4) fun σ6 =>
  (x_ck σ6 h 7 <|
  (x_der q2 fun a7 => x_ck σ6 a7 2 <|
  (x_cv (O 130 [.inr (.inr (x_Q σ6 h 3)), .inl 4, .inl (x_I σ6 a7 4)] σ6) fun σ8 =>
  (x_ck σ8 h 7 <|
  (x_cv (O 130 [.inr (.inr (x_Q σ8 h 3)), .inl 5, .inl (if i5 < 999 then i5 else 999)] σ8) fun σ9 =>
  (x_ck σ9 h 7 <|
  x_ci (O 62 [.inr (.inr (some h)), .inl i1] σ9) fun x11 σ10 =>
  (if i1 = 1 then
    (x_ci (O 128 [.inl x11, .inl 999] σ10) fun x15 σ14 =>
    (some (some (.inl x15), σ14)))
  else
    (x_ci (O 128 [.inl x11, .inl 100] σ10) fun x13 σ12 =>
    (some (some (.inl x13), σ12)))))))))))))))))))) := rfl
set_option maxRecDepth 100000 in
set_option maxHeartbeats 1000000 in
/-- I$Text.reckoned -/
theorem e62_0 (O : Nat → List xV → xS → Option xR) (k : Nat → xF) (h : Nat) (i1 : Int32) (σ : xS) : x_b O x_X0 x_TX (x_C 62) k 3000 (x_suf (x_C 62) 0) [some (.inr (.inr (some h))), some (.inl i1), none, none, none, none, none] [] σ =
  (x_ck σ h 7 <|
  (x_ci (O 129 [.inr (.inr (x_Q σ h 2)), .inl i1] σ) fun x2 σ1 =>
  (if i1 = 0 then
    k 31 [some (.inr (.inr (some h))), none, some (.inl 0), some (.inl x2), some (.inl 0), none, none] [] σ1
  else
    (x_ck σ1 h 7 <|
    (x_ci (O 129 [.inr (.inr (x_Q σ1 h 2)), .inl (i1 - 1)] σ1) fun x4 σ3 =>
    k 31 [some (.inr (.inr (some h))), none, some (.inl 0), some (.inl x2), some (.inl x4), none, none] [] σ3))))) := rfl
set_option maxRecDepth 100000 in
set_option maxHeartbeats 1000000 in
/-- I$Text.reckoned -/
theorem e62_31 (O : Nat → List xV → xS → Option xR) (k : Nat → xF) (h : Nat) (i2 : Int32) (i3 : Int32) (i4 : Int32) (σ : xS) : x_b O x_X0 x_TX (x_C 62) k 3000 (x_suf (x_C 62) 31) [some (.inr (.inr (some h))), none, some (.inl i2), some (.inl i3), some (.inl i4), none, none] [] σ =
  (if i3 ≤ i4 then
    (x_ck σ h 7 <|
    (x_ci (O 129 [.inr (.inr (x_Q σ h 1)), .inl (i2 - 1)] σ) fun x2 σ1 =>
    (some (some (.inl x2), σ1))))
  else
    (x_ck σ h 7 <|
    (x_ci (O 129 [.inr (.inr (x_Q σ h 0)), .inl i4] σ) fun x4 σ3 =>
    (x_ck σ3 h 7 <|
    (x_ci (O 129 [.inr (.inr (x_Q σ3 h 1)), .inl (i2 - 1)] σ3) fun x6 σ5 =>
    (if x4 < (-6) then
      (if x4 = (-12) then
        (x_ck σ5 h 7 <|
        (if x6 = 0 then
          (x_cv (O 130 [.inr (.inr (x_Q σ5 h 1)), .inl (i2 - 1), .inl 1] σ5) fun σ14 =>
          k 31 [some (.inr (.inr (some h))), none, some (.inl i2), some (.inl i3), some (.inl (i4 + 1)), none, none] [] σ14)
        else
          (x_cv (O 130 [.inr (.inr (x_Q σ5 h 1)), .inl (i2 - 1), .inl 0] σ5) fun σ13 =>
          k 31 [some (.inr (.inr (some h))), none, some (.inl i2), some (.inl i3), some (.inl (i4 + 1)), none, none] [] σ13)))
      else
        (if x4 = (-18) then
          (x_ck σ5 h 7 <|
          (x_cv (O 130 [.inr (.inr (x_Q σ5 h 1)), .inl (i2 - 1), .inl (-x6)] σ5) fun σ12 =>
          k 31 [some (.inr (.inr (some h))), none, some (.inl i2), some (.inl i3), some (.inl (i4 + 1)), none, none] [] σ12))
        else
          (x_ck σ5 h 7 <|
          (x_ck σ5 h 7 <|
          (x_ci (O 129 [.inr (.inr (x_Q σ5 h 1)), .inl ((i2 + (-1)) - 1)] σ5) fun x8 σ7 =>
          (x_ci (O 63 [.inl x4, .inl x8, .inl x6] σ7) fun x10 σ9 =>
          (x_cv (O 130 [.inr (.inr (x_Q σ5 h 1)), .inl ((i2 + (-1)) - 1), .inl x10] σ9) fun σ11 =>
          k 31 [some (.inr (.inr (some h))), none, some (.inl (i2 + (-1))), some (.inl i3), some (.inl (i4 + 1)), none, none] [] σ11)))))))
    else
      (x_ck σ5 h 7 <|
      (if x4 < 0 then
        (x_ck σ5 h 7 <|
        (x_ci (O 129 [.inr (.inr (x_Q σ5 h 3)), .inl ((-1) - x4)] σ5) fun x16 σ15 =>
        (x_cv (O 130 [.inr (.inr (x_Q σ5 h 1)), .inl i2, .inl x16] σ15) fun σ17 =>
        k 31 [some (.inr (.inr (some h))), none, some (.inl (i2 + 1)), some (.inl i3), some (.inl (i4 + 1)), none, none] [] σ17)))
      else
        (x_cv (O 130 [.inr (.inr (x_Q σ5 h 1)), .inl i2, .inl x4] σ5) fun σ18 =>
        k 31 [some (.inr (.inr (some h))), none, some (.inl (i2 + 1)), some (.inl i3), some (.inl (i4 + 1)), none, none] [] σ18))))))))) := rfl
set_option maxRecDepth 100000 in
set_option maxHeartbeats 1000000 in
/-- I$Text.joined -/
theorem e63_0 (O : Nat → List xV → xS → Option xR) (k : Nat → xF) (i0 : Int32) (i1 : Int32) (i2 : Int32) (σ : xS) : x_b O x_X0 x_TX (x_C 63) k 3000 (x_suf (x_C 63) 0) [some (.inl i0), some (.inl i1), some (.inl i2)] [] σ =
  (if i0 = (-16) then
    (some (some (.inl (i1 - i2)), σ))
  else
    (if i0 = (-15) then
    (some (some (.inl (i1 + i2)), σ))
  else
    (if i0 = (-14) then
    (if i1 = i2 then
      (some (some (.inl 1), σ))
    else
      (some (some (.inl 0), σ)))
  else
    (if i0 = (-13) then
    (if i2 ≤ i1 then
      (some (some (.inl 0), σ))
    else
      (some (some (.inl 1), σ)))
  else
    (if i0 = (-12) then
    (some (some (.inl (i1 * i2)), σ))
  else
    (if i0 = (-11) then
    (if i1 = 0 then
      (some (some (.inl 0), σ))
    else
      (if i2 = 0 then
        (some (some (.inl 0), σ))
      else
        (some (some (.inl 1), σ))))
  else
    (if i0 = (-10) then
    (if i1 = 0 then
      (if i2 = 0 then
        (some (some (.inl 0), σ))
      else
        (some (some (.inl 1), σ)))
    else
      (some (some (.inl 1), σ)))
  else
    (some (some (.inl (i1 * i2)), σ))))))))) := rfl
set_option maxRecDepth 100000 in
set_option maxHeartbeats 1000000 in
/-- I$World.<init> -/
theorem e64_0 (O : Nat → List xV → xS → Option xR) (k : Nat → xF) (h : Nat) (σ : xS) : x_b O x_X0 x_TX (x_C 64) k 3000 (x_suf (x_C 64) 0) [some (.inr (.inr (some h))), none] [] σ =
  (bif Nat.blt (σ).1.length 900 then
  (x_ck (x_new σ 13 ((5 : Int32).toNatClampNeg)) h 8 <|
  (x_ck (x_sr (x_new σ 13 ((5 : Int32).toNatClampNeg)) h 0 (some (σ).1.length)) h 8 <|
  (x_ck (x_si (x_sr (x_new σ 13 ((5 : Int32).toNatClampNeg)) h 0 (some (σ).1.length)) h 1 0) h 8 <|
  (x_ck (x_si (x_si (x_sr (x_new σ 13 ((5 : Int32).toNatClampNeg)) h 0 (some (σ).1.length)) h 1 0) h 2 0) h 8 <|
  (x_ck (x_si (x_si (x_si (x_sr (x_new σ 13 ((5 : Int32).toNatClampNeg)) h 0 (some (σ).1.length)) h 1 0) h 2 0) h 3 0) h 8 <|
  (x_ck (x_si (x_si (x_si (x_si (x_sr (x_new σ 13 ((5 : Int32).toNatClampNeg)) h 0 (some (σ).1.length)) h 1 0) h 2 0) h 3 0) h 4 1000) h 8 <|
  (x_ck (x_si (x_si (x_si (x_si (x_si (x_sr (x_new σ 13 ((5 : Int32).toNatClampNeg)) h 0 (some (σ).1.length)) h 1 0) h 2 0) h 3 0) h 4 1000) h 5 50) h 8 <|
  (x_ck (x_si (x_si (x_si (x_si (x_si (x_si (x_sr (x_new σ 13 ((5 : Int32).toNatClampNeg)) h 0 (some (σ).1.length)) h 1 0) h 2 0) h 3 0) h 4 1000) h 5 50) h 6 0) h 8 <|
  (x_ck (x_si (x_si (x_si (x_si (x_si (x_si (x_si (x_sr (x_new σ 13 ((5 : Int32).toNatClampNeg)) h 0 (some (σ).1.length)) h 1 0) h 2 0) h 3 0) h 4 1000) h 5 50) h 6 0) h 7 0) h 8 <|
  (x_ck (x_si (x_si (x_si (x_si (x_si (x_si (x_si (x_si (x_sr (x_new σ 13 ((5 : Int32).toNatClampNeg)) h 0 (some (σ).1.length)) h 1 0) h 2 0) h 3 0) h 4 1000) h 5 50) h 6 0) h 7 0) h 8 (-1)) h 8 <|
  (x_ck (x_si (x_si (x_si (x_si (x_si (x_si (x_si (x_si (x_si (x_sr (x_new σ 13 ((5 : Int32).toNatClampNeg)) h 0 (some (σ).1.length)) h 1 0) h 2 0) h 3 0) h 4 1000) h 5 50) h 6 0) h 7 0) h 8 (-1)) h 9 (-1)) h 8 <|
  k 67 [some (.inr (.inr (some h))), some (.inl 0)] [] (x_si (x_si (x_si (x_si (x_si (x_si (x_si (x_si (x_si (x_si (x_sr (x_new σ 13 ((5 : Int32).toNatClampNeg)) h 0 (some (σ).1.length)) h 1 0) h 2 0) h 3 0) h 4 1000) h 5 50) h 6 0) h 7 0) h 8 (-1)) h 9 (-1)) h 10 0)))))))))))) else none) := rfl
set_option maxRecDepth 100000 in
set_option maxHeartbeats 1000000 in
/-- I$World.<init> -/
theorem e64_67 (O : Nat → List xV → xS → Option xR) (k : Nat → xF) (h : Nat) (i1 : Int32) (σ : xS) : x_b O x_X0 x_TX (x_C 64) k 3000 (x_suf (x_C 64) 67) [some (.inr (.inr (some h))), some (.inl i1)] [] σ =
  (x_ck σ h 8 <|
  (x_der (x_Q σ h 0) fun a1 => x_aa σ a1 fun n2 => (if (Int32.ofNat n2) ≤ i1 then
    (some (none, σ))
  else
    (x_ck σ h 8 <|
    (bif Nat.blt (σ).1.length 900 then
    (x_cv (O 10 [.inr (.inr (some (σ).1.length))] (x_new σ 2 0)) fun σ3 =>
    (x_der (x_Q σ h 0) fun a4 => x_aq σ3 a4 fun n5 => x_ix i1 n5 <|
    x_ck σ3 ((σ).1.length) (x_ec (x_nth σ3.1 a4).1) <|
    k 67 [some (.inr (.inr (some h))), some (.inl (i1 + 1))] [] (x_sr σ3 a4 (i1).toNatClampNeg (some ((σ).1.length))))) else none))))) := rfl
set_option maxRecDepth 100000 in
set_option maxHeartbeats 1000000 in
/-- I$World.lifeAt -/
theorem e65_0 (O : Nat → List xV → xS → Option xR) (k : Nat → xF) (h : Nat) (i1 : Int32) (σ : xS) : x_b O x_X0 x_TX (x_C 65) k 3000 (x_suf (x_C 65) 0) [some (.inr (.inr (some h))), some (.inl i1)] [] σ =
  (if i1 < 0 then
    (some (some (.inr (.inr none)), σ))
  else
    (x_ck σ h 8 <|
    (if (x_I σ h 1) ≤ i1 then
      (some (some (.inr (.inr none)), σ))
    else
      (x_ck σ h 8 <|
      (x_der (x_Q σ h 0) fun a1 => x_aa σ a1 fun n2 => (if (Int32.ofNat n2) ≤ i1 then
        (some (some (.inr (.inr none)), σ))
      else
        (x_ck σ h 8 <|
        (x_der (x_Q σ h 0) fun a3 => x_aq σ a3 fun n4 => x_ix i1 n4 <|
        (some (some (.inr (.inr (x_Q σ a3 (i1).toNatClampNeg))), σ)))))))))) := rfl
set_option maxRecDepth 100000 in
set_option maxHeartbeats 1000000 in
/-- I$World.become -/
theorem e66_0 (O : Nat → List xV → xS → Option xR) (k : Nat → xF) (h : Nat) (q1 : Option Nat) (σ : xS) : x_b O x_X0 x_TX (x_C 66) k 3000 (x_suf (x_C 66) 0) [some (.inr (.inr (some h))), some (.inr (.inr q1)), none] [] σ =
  k 2 [some (.inr (.inr (some h))), some (.inr (.inr q1)), some (.inl 0)] [] σ := rfl
set_option maxRecDepth 100000 in
set_option maxHeartbeats 1000000 in
/-- I$World.become -/
theorem e66_2 (O : Nat → List xV → xS → Option xR) (k : Nat → xF) (h : Nat) (q1 : Option Nat) (i2 : Int32) (σ : xS) : x_b O x_X0 x_TX (x_C 66) k 3000 (x_suf (x_C 66) 2) [some (.inr (.inr (some h))), some (.inr (.inr q1)), some (.inl i2)] [] σ =
  (x_ck σ h 8 <|
  (x_der (x_Q σ h 0) fun a1 => x_aa σ a1 fun n2 => (if (Int32.ofNat n2) ≤ i2 then
    k 59 [some (.inr (.inr (some h))), some (.inr (.inr q1)), none] [] σ
  else
    (x_der q1 fun a3 => x_ck σ a3 8 <|
    (x_der (x_Q σ a3 0) fun a4 => x_aa σ a4 fun n5 => (if (Int32.ofNat n5) ≤ i2 then
      k 59 [some (.inr (.inr (some h))), some (.inr (.inr q1)), none] [] σ
    else
      (x_ck σ h 8 <|
      (x_der (x_Q σ h 0) fun a6 => x_aq σ a6 fun n7 => x_ix i2 n7 <|
      (x_nul (x_Q σ a6 (i2).toNatClampNeg)
        (k 2 [some (.inr (.inr (some h))), some (.inr (.inr q1)), some (.inl (i2 + 1))] [] σ)
        (x_der q1 fun a8 => x_ck σ a8 8 <|
        (x_der (x_Q σ a8 0) fun a9 => x_aq σ a9 fun n10 => x_ix i2 n10 <|
        (x_nul (x_Q σ a9 (i2).toNatClampNeg)
          (k 2 [some (.inr (.inr (some h))), some (.inr (.inr q1)), some (.inl (i2 + 1))] [] σ)
          (x_ck σ h 8 <|
          (x_der (x_Q σ h 0) fun a11 => x_aq σ a11 fun n12 => x_ix i2 n12 <|
          (x_der q1 fun a13 => x_ck σ a13 8 <|
          (x_der (x_Q σ a13 0) fun a14 => x_aq σ a14 fun n15 => x_ix i2 n15 <|
          (x_der (x_Q σ a11 (i2).toNatClampNeg) fun a16 => x_ck σ a16 2 <|
          x_cv (O 12 [.inr (.inr (x_Q σ a11 (i2).toNatClampNeg)), .inr (.inr (x_Q σ a14 (i2).toNatClampNeg))] σ) fun σ17 =>
          k 2 [some (.inr (.inr (some h))), some (.inr (.inr q1)), some (.inl (i2 + 1))] [] σ17))))))))))))))))) := rfl
set_option maxRecDepth 100000 in
set_option maxHeartbeats 1000000 in
/-- I$World.become -/
theorem e66_59 (O : Nat → List xV → xS → Option xR) (k : Nat → xF) (h : Nat) (q1 : Option Nat) (σ : xS) : x_b O x_X0 x_TX (x_C 66) k 3000 (x_suf (x_C 66) 59) [some (.inr (.inr (some h))), some (.inr (.inr q1)), none] [] σ =
  (x_der q1 fun a1 => x_ck σ a1 8 <|
  (x_ck σ h 8 <|
  (x_der q1 fun a2 => x_ck (x_si σ h 1 (x_I σ a1 1)) a2 8 <|
  (x_ck (x_si σ h 1 (x_I σ a1 1)) h 8 <|
  (x_der q1 fun a3 => x_ck (x_si (x_si σ h 1 (x_I σ a1 1)) h 2 (x_I (x_si σ h 1 (x_I σ a1 1)) a2 2)) a3 8 <|
  (x_ck (x_si (x_si σ h 1 (x_I σ a1 1)) h 2 (x_I (x_si σ h 1 (x_I σ a1 1)) a2 2)) h 8 <|
  (x_der q1 fun a4 => x_ck (x_si (x_si (x_si σ h 1 (x_I σ a1 1)) h 2 (x_I (x_si σ h 1 (x_I σ a1 1)) a2 2)) h 3 (x_I (x_si (x_si σ h 1 (x_I σ a1 1)) h 2 (x_I (x_si σ h 1 (x_I σ a1 1)) a2 2)) a3 3)) a4 8 <|
  (x_ck (x_si (x_si (x_si σ h 1 (x_I σ a1 1)) h 2 (x_I (x_si σ h 1 (x_I σ a1 1)) a2 2)) h 3 (x_I (x_si (x_si σ h 1 (x_I σ a1 1)) h 2 (x_I (x_si σ h 1 (x_I σ a1 1)) a2 2)) a3 3)) h 8 <|
  (x_der q1 fun a5 => x_ck (x_si (x_si (x_si (x_si σ h 1 (x_I σ a1 1)) h 2 (x_I (x_si σ h 1 (x_I σ a1 1)) a2 2)) h 3 (x_I (x_si (x_si σ h 1 (x_I σ a1 1)) h 2 (x_I (x_si σ h 1 (x_I σ a1 1)) a2 2)) a3 3)) h 4 (x_I (x_si (x_si (x_si σ h 1 (x_I σ a1 1)) h 2 (x_I (x_si σ h 1 (x_I σ a1 1)) a2 2)) h 3 (x_I (x_si (x_si σ h 1 (x_I σ a1 1)) h 2 (x_I (x_si σ h 1 (x_I σ a1 1)) a2 2)) a3 3)) a4 4)) a5 8 <|
  (x_ck (x_si (x_si (x_si (x_si σ h 1 (x_I σ a1 1)) h 2 (x_I (x_si σ h 1 (x_I σ a1 1)) a2 2)) h 3 (x_I (x_si (x_si σ h 1 (x_I σ a1 1)) h 2 (x_I (x_si σ h 1 (x_I σ a1 1)) a2 2)) a3 3)) h 4 (x_I (x_si (x_si (x_si σ h 1 (x_I σ a1 1)) h 2 (x_I (x_si σ h 1 (x_I σ a1 1)) a2 2)) h 3 (x_I (x_si (x_si σ h 1 (x_I σ a1 1)) h 2 (x_I (x_si σ h 1 (x_I σ a1 1)) a2 2)) a3 3)) a4 4)) h 8 <|
  (x_der q1 fun a6 => x_ck (x_si (x_si (x_si (x_si (x_si σ h 1 (x_I σ a1 1)) h 2 (x_I (x_si σ h 1 (x_I σ a1 1)) a2 2)) h 3 (x_I (x_si (x_si σ h 1 (x_I σ a1 1)) h 2 (x_I (x_si σ h 1 (x_I σ a1 1)) a2 2)) a3 3)) h 4 (x_I (x_si (x_si (x_si σ h 1 (x_I σ a1 1)) h 2 (x_I (x_si σ h 1 (x_I σ a1 1)) a2 2)) h 3 (x_I (x_si (x_si σ h 1 (x_I σ a1 1)) h 2 (x_I (x_si σ h 1 (x_I σ a1 1)) a2 2)) a3 3)) a4 4)) h 5 (x_I (x_si (x_si (x_si (x_si σ h 1 (x_I σ a1 1)) h 2 (x_I (x_si σ h 1 (x_I σ a1 1)) a2 2)) h 3 (x_I (x_si (x_si σ h 1 (x_I σ a1 1)) h 2 (x_I (x_si σ h 1 (x_I σ a1 1)) a2 2)) a3 3)) h 4 (x_I (x_si (x_si (x_si σ h 1 (x_I σ a1 1)) h 2 (x_I (x_si σ h 1 (x_I σ a1 1)) a2 2)) h 3 (x_I (x_si (x_si σ h 1 (x_I σ a1 1)) h 2 (x_I (x_si σ h 1 (x_I σ a1 1)) a2 2)) a3 3)) a4 4)) a5 5)) a6 8 <|
  (x_ck (x_si (x_si (x_si (x_si (x_si σ h 1 (x_I σ a1 1)) h 2 (x_I (x_si σ h 1 (x_I σ a1 1)) a2 2)) h 3 (x_I (x_si (x_si σ h 1 (x_I σ a1 1)) h 2 (x_I (x_si σ h 1 (x_I σ a1 1)) a2 2)) a3 3)) h 4 (x_I (x_si (x_si (x_si σ h 1 (x_I σ a1 1)) h 2 (x_I (x_si σ h 1 (x_I σ a1 1)) a2 2)) h 3 (x_I (x_si (x_si σ h 1 (x_I σ a1 1)) h 2 (x_I (x_si σ h 1 (x_I σ a1 1)) a2 2)) a3 3)) a4 4)) h 5 (x_I (x_si (x_si (x_si (x_si σ h 1 (x_I σ a1 1)) h 2 (x_I (x_si σ h 1 (x_I σ a1 1)) a2 2)) h 3 (x_I (x_si (x_si σ h 1 (x_I σ a1 1)) h 2 (x_I (x_si σ h 1 (x_I σ a1 1)) a2 2)) a3 3)) h 4 (x_I (x_si (x_si (x_si σ h 1 (x_I σ a1 1)) h 2 (x_I (x_si σ h 1 (x_I σ a1 1)) a2 2)) h 3 (x_I (x_si (x_si σ h 1 (x_I σ a1 1)) h 2 (x_I (x_si σ h 1 (x_I σ a1 1)) a2 2)) a3 3)) a4 4)) a5 5)) h 8 <|
  (x_ck (x_si (x_si (x_si (x_si (x_si (x_si σ h 1 (x_I σ a1 1)) h 2 (x_I (x_si σ h 1 (x_I σ a1 1)) a2 2)) h 3 (x_I (x_si (x_si σ h 1 (x_I σ a1 1)) h 2 (x_I (x_si σ h 1 (x_I σ a1 1)) a2 2)) a3 3)) h 4 (x_I (x_si (x_si (x_si σ h 1 (x_I σ a1 1)) h 2 (x_I (x_si σ h 1 (x_I σ a1 1)) a2 2)) h 3 (x_I (x_si (x_si σ h 1 (x_I σ a1 1)) h 2 (x_I (x_si σ h 1 (x_I σ a1 1)) a2 2)) a3 3)) a4 4)) h 5 (x_I (x_si (x_si (x_si (x_si σ h 1 (x_I σ a1 1)) h 2 (x_I (x_si σ h 1 (x_I σ a1 1)) a2 2)) h 3 (x_I (x_si (x_si σ h 1 (x_I σ a1 1)) h 2 (x_I (x_si σ h 1 (x_I σ a1 1)) a2 2)) a3 3)) h 4 (x_I (x_si (x_si (x_si σ h 1 (x_I σ a1 1)) h 2 (x_I (x_si σ h 1 (x_I σ a1 1)) a2 2)) h 3 (x_I (x_si (x_si σ h 1 (x_I σ a1 1)) h 2 (x_I (x_si σ h 1 (x_I σ a1 1)) a2 2)) a3 3)) a4 4)) a5 5)) h 6 (x_I (x_si (x_si (x_si (x_si (x_si σ h 1 (x_I σ a1 1)) h 2 (x_I (x_si σ h 1 (x_I σ a1 1)) a2 2)) h 3 (x_I (x_si (x_si σ h 1 (x_I σ a1 1)) h 2 (x_I (x_si σ h 1 (x_I σ a1 1)) a2 2)) a3 3)) h 4 (x_I (x_si (x_si (x_si σ h 1 (x_I σ a1 1)) h 2 (x_I (x_si σ h 1 (x_I σ a1 1)) a2 2)) h 3 (x_I (x_si (x_si σ h 1 (x_I σ a1 1)) h 2 (x_I (x_si σ h 1 (x_I σ a1 1)) a2 2)) a3 3)) a4 4)) h 5 (x_I (x_si (x_si (x_si (x_si σ h 1 (x_I σ a1 1)) h 2 (x_I (x_si σ h 1 (x_I σ a1 1)) a2 2)) h 3 (x_I (x_si (x_si σ h 1 (x_I σ a1 1)) h 2 (x_I (x_si σ h 1 (x_I σ a1 1)) a2 2)) a3 3)) h 4 (x_I (x_si (x_si (x_si σ h 1 (x_I σ a1 1)) h 2 (x_I (x_si σ h 1 (x_I σ a1 1)) a2 2)) h 3 (x_I (x_si (x_si σ h 1 (x_I σ a1 1)) h 2 (x_I (x_si σ h 1 (x_I σ a1 1)) a2 2)) a3 3)) a4 4)) a5 5)) a6 6)) h 8 <|
  (x_ck (x_si (x_si (x_si (x_si (x_si (x_si (x_si σ h 1 (x_I σ a1 1)) h 2 (x_I (x_si σ h 1 (x_I σ a1 1)) a2 2)) h 3 (x_I (x_si (x_si σ h 1 (x_I σ a1 1)) h 2 (x_I (x_si σ h 1 (x_I σ a1 1)) a2 2)) a3 3)) h 4 (x_I (x_si (x_si (x_si σ h 1 (x_I σ a1 1)) h 2 (x_I (x_si σ h 1 (x_I σ a1 1)) a2 2)) h 3 (x_I (x_si (x_si σ h 1 (x_I σ a1 1)) h 2 (x_I (x_si σ h 1 (x_I σ a1 1)) a2 2)) a3 3)) a4 4)) h 5 (x_I (x_si (x_si (x_si (x_si σ h 1 (x_I σ a1 1)) h 2 (x_I (x_si σ h 1 (x_I σ a1 1)) a2 2)) h 3 (x_I (x_si (x_si σ h 1 (x_I σ a1 1)) h 2 (x_I (x_si σ h 1 (x_I σ a1 1)) a2 2)) a3 3)) h 4 (x_I (x_si (x_si (x_si σ h 1 (x_I σ a1 1)) h 2 (x_I (x_si σ h 1 (x_I σ a1 1)) a2 2)) h 3 (x_I (x_si (x_si σ h 1 (x_I σ a1 1)) h 2 (x_I (x_si σ h 1 (x_I σ a1 1)) a2 2)) a3 3)) a4 4)) a5 5)) h 6 (x_I (x_si (x_si (x_si (x_si (x_si σ h 1 (x_I σ a1 1)) h 2 (x_I (x_si σ h 1 (x_I σ a1 1)) a2 2)) h 3 (x_I (x_si (x_si σ h 1 (x_I σ a1 1)) h 2 (x_I (x_si σ h 1 (x_I σ a1 1)) a2 2)) a3 3)) h 4 (x_I (x_si (x_si (x_si σ h 1 (x_I σ a1 1)) h 2 (x_I (x_si σ h 1 (x_I σ a1 1)) a2 2)) h 3 (x_I (x_si (x_si σ h 1 (x_I σ a1 1)) h 2 (x_I (x_si σ h 1 (x_I σ a1 1)) a2 2)) a3 3)) a4 4)) h 5 (x_I (x_si (x_si (x_si (x_si σ h 1 (x_I σ a1 1)) h 2 (x_I (x_si σ h 1 (x_I σ a1 1)) a2 2)) h 3 (x_I (x_si (x_si σ h 1 (x_I σ a1 1)) h 2 (x_I (x_si σ h 1 (x_I σ a1 1)) a2 2)) a3 3)) h 4 (x_I (x_si (x_si (x_si σ h 1 (x_I σ a1 1)) h 2 (x_I (x_si σ h 1 (x_I σ a1 1)) a2 2)) h 3 (x_I (x_si (x_si σ h 1 (x_I σ a1 1)) h 2 (x_I (x_si σ h 1 (x_I σ a1 1)) a2 2)) a3 3)) a4 4)) a5 5)) a6 6)) h 7 0) h 8 <|
  (x_ck (x_si (x_si (x_si (x_si (x_si (x_si (x_si (x_si σ h 1 (x_I σ a1 1)) h 2 (x_I (x_si σ h 1 (x_I σ a1 1)) a2 2)) h 3 (x_I (x_si (x_si σ h 1 (x_I σ a1 1)) h 2 (x_I (x_si σ h 1 (x_I σ a1 1)) a2 2)) a3 3)) h 4 (x_I (x_si (x_si (x_si σ h 1 (x_I σ a1 1)) h 2 (x_I (x_si σ h 1 (x_I σ a1 1)) a2 2)) h 3 (x_I (x_si (x_si σ h 1 (x_I σ a1 1)) h 2 (x_I (x_si σ h 1 (x_I σ a1 1)) a2 2)) a3 3)) a4 4)) h 5 (x_I (x_si (x_si (x_si (x_si σ h 1 (x_I σ a1 1)) h 2 (x_I (x_si σ h 1 (x_I σ a1 1)) a2 2)) h 3 (x_I (x_si (x_si σ h 1 (x_I σ a1 1)) h 2 (x_I (x_si σ h 1 (x_I σ a1 1)) a2 2)) a3 3)) h 4 (x_I (x_si (x_si (x_si σ h 1 (x_I σ a1 1)) h 2 (x_I (x_si σ h 1 (x_I σ a1 1)) a2 2)) h 3 (x_I (x_si (x_si σ h 1 (x_I σ a1 1)) h 2 (x_I (x_si σ h 1 (x_I σ a1 1)) a2 2)) a3 3)) a4 4)) a5 5)) h 6 (x_I (x_si (x_si (x_si (x_si (x_si σ h 1 (x_I σ a1 1)) h 2 (x_I (x_si σ h 1 (x_I σ a1 1)) a2 2)) h 3 (x_I (x_si (x_si σ h 1 (x_I σ a1 1)) h 2 (x_I (x_si σ h 1 (x_I σ a1 1)) a2 2)) a3 3)) h 4 (x_I (x_si (x_si (x_si σ h 1 (x_I σ a1 1)) h 2 (x_I (x_si σ h 1 (x_I σ a1 1)) a2 2)) h 3 (x_I (x_si (x_si σ h 1 (x_I σ a1 1)) h 2 (x_I (x_si σ h 1 (x_I σ a1 1)) a2 2)) a3 3)) a4 4)) h 5 (x_I (x_si (x_si (x_si (x_si σ h 1 (x_I σ a1 1)) h 2 (x_I (x_si σ h 1 (x_I σ a1 1)) a2 2)) h 3 (x_I (x_si (x_si σ h 1 (x_I σ a1 1)) h 2 (x_I (x_si σ h 1 (x_I σ a1 1)) a2 2)) a3 3)) h 4 (x_I (x_si (x_si (x_si σ h 1 (x_I σ a1 1)) h 2 (x_I (x_si σ h 1 (x_I σ a1 1)) a2 2)) h 3 (x_I (x_si (x_si σ h 1 (x_I σ a1 1)) h 2 (x_I (x_si σ h 1 (x_I σ a1 1)) a2 2)) a3 3)) a4 4)) a5 5)) a6 6)) h 7 0) h 8 (-1)) h 8 <|
  (some (none, x_si (x_si (x_si (x_si (x_si (x_si (x_si (x_si (x_si σ h 1 (x_I σ a1 1)) h 2 (x_I (x_si σ h 1 (x_I σ a1 1)) a2 2)) h 3 (x_I (x_si (x_si σ h 1 (x_I σ a1 1)) h 2 (x_I (x_si σ h 1 (x_I σ a1 1)) a2 2)) a3 3)) h 4 (x_I (x_si (x_si (x_si σ h 1 (x_I σ a1 1)) h 2 (x_I (x_si σ h 1 (x_I σ a1 1)) a2 2)) h 3 (x_I (x_si (x_si σ h 1 (x_I σ a1 1)) h 2 (x_I (x_si σ h 1 (x_I σ a1 1)) a2 2)) a3 3)) a4 4)) h 5 (x_I (x_si (x_si (x_si (x_si σ h 1 (x_I σ a1 1)) h 2 (x_I (x_si σ h 1 (x_I σ a1 1)) a2 2)) h 3 (x_I (x_si (x_si σ h 1 (x_I σ a1 1)) h 2 (x_I (x_si σ h 1 (x_I σ a1 1)) a2 2)) a3 3)) h 4 (x_I (x_si (x_si (x_si σ h 1 (x_I σ a1 1)) h 2 (x_I (x_si σ h 1 (x_I σ a1 1)) a2 2)) h 3 (x_I (x_si (x_si σ h 1 (x_I σ a1 1)) h 2 (x_I (x_si σ h 1 (x_I σ a1 1)) a2 2)) a3 3)) a4 4)) a5 5)) h 6 (x_I (x_si (x_si (x_si (x_si (x_si σ h 1 (x_I σ a1 1)) h 2 (x_I (x_si σ h 1 (x_I σ a1 1)) a2 2)) h 3 (x_I (x_si (x_si σ h 1 (x_I σ a1 1)) h 2 (x_I (x_si σ h 1 (x_I σ a1 1)) a2 2)) a3 3)) h 4 (x_I (x_si (x_si (x_si σ h 1 (x_I σ a1 1)) h 2 (x_I (x_si σ h 1 (x_I σ a1 1)) a2 2)) h 3 (x_I (x_si (x_si σ h 1 (x_I σ a1 1)) h 2 (x_I (x_si σ h 1 (x_I σ a1 1)) a2 2)) a3 3)) a4 4)) h 5 (x_I (x_si (x_si (x_si (x_si σ h 1 (x_I σ a1 1)) h 2 (x_I (x_si σ h 1 (x_I σ a1 1)) a2 2)) h 3 (x_I (x_si (x_si σ h 1 (x_I σ a1 1)) h 2 (x_I (x_si σ h 1 (x_I σ a1 1)) a2 2)) a3 3)) h 4 (x_I (x_si (x_si (x_si σ h 1 (x_I σ a1 1)) h 2 (x_I (x_si σ h 1 (x_I σ a1 1)) a2 2)) h 3 (x_I (x_si (x_si σ h 1 (x_I σ a1 1)) h 2 (x_I (x_si σ h 1 (x_I σ a1 1)) a2 2)) a3 3)) a4 4)) a5 5)) a6 6)) h 7 0) h 8 (-1)) h 9 (-1)))))))))))))))))) := rfl
set_option maxRecDepth 100000 in
set_option maxHeartbeats 1000000 in
/-- I$World.welcome -/
theorem e67_0 (O : Nat → List xV → xS → Option xR) (k : Nat → xF) (h : Nat) (i1 : Int32) (i2 : Int32) (i3 : Int32) (σ : xS) : x_b O x_X0 x_TX (x_C 67) k 3000 (x_suf (x_C 67) 0) [some (.inr (.inr (some h))), some (.inl i1), some (.inl i2), some (.inl i3), none] [] σ =
  (x_ci (O 126 [.inl i1, .inl 0, .inl 59] σ) fun x2 σ1 =>
  (if x2 = 0 then
    (some (some (.inl (-2)), σ1))
  else
    (x_ci (O 126 [.inl i2, .inl 0, .inl 99999] σ1) fun x4 σ3 =>
    (if x4 = 0 then
      (some (some (.inl (-2)), σ3))
    else
      (x_ci (O 126 [.inl i3, .inl 0, .inl 11] σ3) fun x6 σ5 =>
      (if x6 = 0 then
        (some (some (.inl (-2)), σ5))
      else
        (x_ck σ5 h 8 <|
        (if (x_I σ5 h 1) < 5 then
          (x_ck σ5 h 8 <|
          (x_ck σ5 h 8 <|
          (x_ck (x_si σ5 h 1 ((x_I σ5 h 1) + 1)) h 8 <|
          (x_ck (x_si σ5 h 1 ((x_I σ5 h 1) + 1)) h 8 <|
          x_cr (O 65 [.inr (.inr (some h)), .inl ((x_I (x_si σ5 h 1 ((x_I σ5 h 1) + 1)) h 1) - 1)] (x_si σ5 h 1 ((x_I σ5 h 1) + 1))) fun r8 σ7 =>
          (x_nul r8
            (x_ck σ7 h 8 <|
            (some (some (.inl ((x_I σ7 h 1) - 1)), σ7)))
            (x_der r8 fun a9 => x_ck σ7 a9 2 <|
            x_cv (O 11 [.inr (.inr r8), .inl i1, .inl i2, .inl i3] σ7) fun σ10 =>
            (x_ck σ10 h 8 <|
            (some (some (.inl ((x_I σ10 h 1) - 1)), σ10)))))))))
        else
          (some (some (.inl (-4)), σ5)))))))))) := rfl
set_option maxRecDepth 100000 in
set_option maxHeartbeats 1000000 in
/-- I$World.mayPut -/
theorem e68_0 (O : Nat → List xV → xS → Option xR) (k : Nat → xF) (h : Nat) (i1 : Int32) (i2 : Int32) (i3 : Int32) (σ : xS) : x_b O x_X0 x_TX (x_C 68) k 3000 (x_suf (x_C 68) 0) [some (.inr (.inr (some h))), some (.inl i1), some (.inl i2), some (.inl i3)] [] σ =
  (if i2 = 0 then
    (x_ci (O 126 [.inl i3, .inl 0, .inl 99999] σ) fun x12 σ11 =>
    (x_bl x12 <| some (some (.inl x12), σ11)))
  else
    (if i2 = 1 then
    (x_ci (O 126 [.inl i3, .inl 0, .inl 999] σ) fun x10 σ9 =>
    (x_bl x10 <| some (some (.inl x10), σ9)))
  else
    (if i2 = 2 then
    (x_ci (O 126 [.inl i3, .inl 0, .inl 100] σ) fun x8 σ7 =>
    (x_bl x8 <| some (some (.inl x8), σ7)))
  else
    (if i2 = 3 then
    (x_ci (O 126 [.inl i3, .inl 0, .inl 11] σ) fun x6 σ5 =>
    (x_bl x6 <| some (some (.inl x6), σ5)))
  else
    (if i2 = 4 then
    (x_ck σ h 8 <|
    (x_ci (O 126 [.inl i3, .inl (-1), .inl ((x_I σ h 1) - 1)] σ) fun x4 σ3 =>
    (if x4 = 0 then
      (some (some (.inl 0), σ3))
    else
      (if i3 = i1 then
        (some (some (.inl 0), σ3))
      else
        (some (some (.inl 1), σ3))))))
  else
    (if i2 = 5 then
    (x_ci (O 126 [.inl i3, .inl 0, .inl 99] σ) fun x2 σ1 =>
    (x_bl x2 <| some (some (.inl x2), σ1)))
  else
    (some (some (.inl 0), σ)))))))) := rfl
set_option maxRecDepth 100000 in
set_option maxHeartbeats 1000000 in
/-- I$World.isHome -/
theorem e69_0 (O : Nat → List xV → xS → Option xR) (k : Nat → xF) (h : Nat) (i1 : Int32) (σ : xS) : x_b O x_X0 x_TX (x_C 69) k 3000 (x_suf (x_C 69) 0) [some (.inr (.inr (some h))), some (.inl i1), none, none] [] σ =
  k 2 [some (.inr (.inr (some h))), some (.inl i1), some (.inl 0), none] [] σ := rfl
set_option maxRecDepth 100000 in
set_option maxHeartbeats 1000000 in
/-- I$World.isHome -/
theorem e69_2 (O : Nat → List xV → xS → Option xR) (k : Nat → xF) (h : Nat) (i1 : Int32) (i2 : Int32) (σ : xS) : x_b O x_X0 x_TX (x_C 69) k 3000 (x_suf (x_C 69) 2) [some (.inr (.inr (some h))), some (.inl i1), some (.inl i2), none] [] σ =
  (x_ck σ h 8 <|
  (if (x_I σ h 1) ≤ i2 then
    (some (some (.inl 0), σ))
  else
    (x_ck σ h 8 <|
    x_cr (O 65 [.inr (.inr (some h)), .inl i2] σ) fun r2 σ1 =>
    (x_nul r2
      (k 2 [some (.inr (.inr (some h))), some (.inl i1), some (.inl (i2 + 1)), none] [] σ1)
      (x_der r2 fun a3 => x_ck σ1 a3 2 <|
      (if (x_I σ1 a3 5) = i1 then
        (some (some (.inl 1), σ1))
      else
        k 2 [some (.inr (.inr (some h))), some (.inl i1), some (.inl (i2 + 1)), none] [] σ1)))))) := rfl
set_option maxRecDepth 100000 in
set_option maxHeartbeats 1000000 in
/-- I$World.passYear -/
theorem e70_0 (O : Nat → List xV → xS → Option xR) (k : Nat → xF) (h : Nat) (q1 : Option Nat) (q2 : Option Nat) (σ : xS) : x_b O x_X0 x_TX (x_C 70) k 3000 (x_suf (x_C 70) 0) [some (.inr (.inr (some h))), some (.inr (.inr q1)), some (.inr (.inr q2)), none, none, none, none, none, none] [] σ =
  k 5 [some (.inr (.inr (some h))), some (.inr (.inr q1)), some (.inr (.inr q2)), some (.inl 0), some (.inl 0), none, none, none, none] [] σ := rfl
set_option maxRecDepth 100000 in
set_option maxHeartbeats 1000000 in
/-- I$World.passYear -/
theorem e70_5 (O : Nat → List xV → xS → Option xR) (k : Nat → xF) (h : Nat) (q1 : Option Nat) (q2 : Option Nat) (i3 : Int32) (i4 : Int32) (σ : xS) : x_b O x_X0 x_TX (x_C 70) k 3000 (x_suf (x_C 70) 5) [some (.inr (.inr (some h))), some (.inr (.inr q1)), some (.inr (.inr q2)), some (.inl i3), some (.inl i4), none, none, none, none] [] σ =
  (x_ck σ h 8 <|
  (if (x_I σ h 1) ≤ i4 then
    (x_ck σ h 8 <|
    (x_ck σ h 8 <|
    (some (some (.inl i3), x_si σ h 2 ((x_I σ h 2) + 1)))))
  else
    (x_ck σ h 8 <|
    x_cr (O 65 [.inr (.inr (some h)), .inl i4] σ) fun r2 σ1 =>
    (x_der q1 fun a3 => x_ck σ1 a3 3 <|
    x_ci (O 24 [.inr (.inr q1)] σ1) fun x5 σ4 =>
    (x_nul r2
      (k 5 [some (.inr (.inr (some h))), some (.inr (.inr q1)), some (.inr (.inr q2)), some (.inl i3), some (.inl (i4 + 1)), none, none, none, none] [] σ4)
      (x_ck σ4 h 8 <|
      (x_der r2 fun a6 => x_ck σ4 a6 2 <|
      (x_der r2 fun a7 => x_ck σ4 a7 2 <|
      x_ci (O 16 [.inr (.inr r2), .inr (.inr q2), .inl (x_I σ4 h 2), .inl (x_I σ4 a6 7)] σ4) fun x9 σ8 =>
      (if x9 ≤ (x5 - x5 / 100 * 100) then
        k 5 [some (.inr (.inr (some h))), some (.inr (.inr q1)), some (.inr (.inr q2)), some (.inl i3), some (.inl (i4 + 1)), none, none, none, none] [] σ8
      else
        (x_ck σ8 h 8 <|
        (x_der r2 fun a10 => x_ck σ8 a10 2 <|
        (x_der r2 fun a11 => x_ck σ8 a11 2 <|
        x_ci (O 18 [.inr (.inr r2), .inr (.inr q2), .inl (x_I σ8 h 2), .inl (x_I σ8 a10 7)] σ8) fun x13 σ12 =>
        (x_der r2 fun a14 => x_ck σ12 a14 2 <|
        x_ci (O 20 [.inr (.inr r2), .inl x13] σ12) fun x16 σ15 =>
        (x_der r2 fun a17 => x_ck σ15 a17 2 <|
        x_cv (O 21 [.inr (.inr r2), .inl (x13 - x16)] σ15) fun σ18 =>
        (x_ck σ18 h 8 <|
        (x_ck σ18 h 8 <|
        k 5 [some (.inr (.inr (some h))), some (.inr (.inr q1)), some (.inr (.inr q2)), some (.inl (i3 ||| (1 <<< (i4 &&& 31)))), some (.inl (i4 + 1)), none, none, none, none] [] (x_si σ18 h 7 ((x_I σ18 h 7) + x16)))))))))))))))))) := rfl
set_option maxRecDepth 100000 in
set_option maxHeartbeats 1000000 in
/-- I$World.noteHappy -/
theorem e71_0 (O : Nat → List xV → xS → Option xR) (k : Nat → xF) (h : Nat) (i1 : Int32) (σ : xS) : x_b O x_X0 x_TX (x_C 71) k 3000 (x_suf (x_C 71) 0) [some (.inr (.inr (some h))), some (.inl i1), none, none] [] σ =
  k 2 [some (.inr (.inr (some h))), some (.inl i1), some (.inl 0), none] [] σ := rfl
set_option maxRecDepth 100000 in
set_option maxHeartbeats 1000000 in
/-- I$World.noteHappy -/
theorem e71_2 (O : Nat → List xV → xS → Option xR) (k : Nat → xF) (h : Nat) (i1 : Int32) (i2 : Int32) (σ : xS) : x_b O x_X0 x_TX (x_C 71) k 3000 (x_suf (x_C 71) 2) [some (.inr (.inr (some h))), some (.inl i1), some (.inl i2), none] [] σ =
  (x_ck σ h 8 <|
  (if (x_I σ h 1) ≤ i2 then
    (some (none, σ))
  else
    (x_ck σ h 8 <|
    (if (x_I σ h 8) = (-1) then
      (x_ck σ h 8 <|
      x_cr (O 65 [.inr (.inr (some h)), .inl i2] σ) fun r2 σ1 =>
      (x_nul r2
        (k 2 [some (.inr (.inr (some h))), some (.inl i1), some (.inl (i2 + 1)), none] [] σ1)
        (x_der r2 fun a3 => x_ck σ1 a3 2 <|
        (x_ck σ1 h 8 <|
        (if (x_I σ1 a3 2) < (x_I σ1 h 4) then
          k 2 [some (.inr (.inr (some h))), some (.inl i1), some (.inl (i2 + 1)), none] [] σ1
        else
          (x_ck σ1 h 8 <|
          (x_ck (x_si σ1 h 8 i2) h 8 <|
          k 2 [some (.inr (.inr (some h))), some (.inl i1), some (.inl (i2 + 1)), none] [] (x_si (x_si σ1 h 8 i2) h 9 i1))))))))
    else
      (some (none, σ)))))) := rfl
set_option maxRecDepth 100000 in
set_option maxHeartbeats 1000000 in
/-- I$World.ruinedBy -/
theorem e72_0 (O : Nat → List xV → xS → Option xR) (k : Nat → xF) (h : Nat) (i1 : Int32) (σ : xS) : x_b O x_X0 x_TX (x_C 72) k 3000 (x_suf (x_C 72) 0) [some (.inr (.inr (some h))), some (.inl i1), none, none, none] [] σ =
  (x_ck σ h 8 <|
  k 9 [some (.inr (.inr (some h))), none, some (.inl i1), some (.inl 0), none] [] (x_si σ h 10 0)) := rfl
set_option maxRecDepth 100000 in
set_option maxHeartbeats 1000000 in
/-- I$World.ruinedBy -/
theorem e72_9 (O : Nat → List xV → xS → Option xR) (k : Nat → xF) (h : Nat) (i2 : Int32) (i3 : Int32) (σ : xS) : x_b O x_X0 x_TX (x_C 72) k 3000 (x_suf (x_C 72) 9) [some (.inr (.inr (some h))), none, some (.inl i2), some (.inl i3), none] [] σ =
  (x_ck σ h 8 <|
  (if (x_I σ h 1) < i3 then
    (some (some (.inl i2), σ))
  else
    (x_ck σ h 8 <|
    x_ci (O 73 [.inr (.inr (some h)), .inl i2] σ) fun x2 σ1 =>
    (if (i2 ||| x2) = i2 then
      (some (some (.inl i2), σ1))
    else
      (x_ck σ1 h 8 <|
      (x_ck σ1 h 8 <|
      k 9 [some (.inr (.inr (some h))), none, some (.inl (i2 ||| x2)), some (.inl (i3 + 1)), none] [] (x_si σ1 h 10 ((x_I σ1 h 10) + 1)))))))) := rfl
set_option maxRecDepth 100000 in
set_option maxHeartbeats 1000000 in
/-- I$World.poorBeside -/
theorem e73_0 (O : Nat → List xV → xS → Option xR) (k : Nat → xF) (h : Nat) (i1 : Int32) (σ : xS) : x_b O x_X0 x_TX (x_C 73) k 3000 (x_suf (x_C 73) 0) [some (.inr (.inr (some h))), some (.inl i1), none, none, none, none, none] [] σ =
  k 4 [some (.inr (.inr (some h))), some (.inl i1), some (.inl 0), some (.inl 0), none, none, none] [] σ := rfl
set_option maxRecDepth 100000 in
set_option maxHeartbeats 1000000 in
/-- I$World.poorBeside -/
theorem e73_4 (O : Nat → List xV → xS → Option xR) (k : Nat → xF) (h : Nat) (i1 : Int32) (i2 : Int32) (i3 : Int32) (σ : xS) : x_b O x_X0 x_TX (x_C 73) k 3000 (x_suf (x_C 73) 4) [some (.inr (.inr (some h))), some (.inl i1), some (.inl i2), some (.inl i3), none, none, none] [] σ =
  (x_ck σ h 8 <|
  (if (x_I σ h 1) ≤ i3 then
    (some (some (.inl i2), σ))
  else
    (x_ck σ h 8 <|
    x_cr (O 65 [.inr (.inr (some h)), .inl i3] σ) fun r2 σ1 =>
    (x_nul r2
      (k 37 [some (.inr (.inr (some h))), some (.inl i1), some (.inl i2), some (.inl i3), some (.inr (.inr r2)), none, none] [.inr (.inr none)] σ1)
      (x_der r2 fun a3 => x_ck σ1 a3 2 <|
      (x_ck σ1 h 8 <|
      x_cr (O 65 [.inr (.inr (some h)), .inl (x_I σ1 a3 6)] σ1) fun r5 σ4 =>
      k 37 [some (.inr (.inr (some h))), some (.inl i1), some (.inl i2), some (.inl i3), some (.inr (.inr r2)), none, none] [.inr (.inr r5)] σ4)))))) := rfl
set_option maxRecDepth 100000 in
set_option maxHeartbeats 1000000 in
/-- I$World.poorBeside -/
theorem e73_37 (O : Nat → List xV → xS → Option xR) (k : Nat → xF) (h : Nat) (i1 : Int32) (i2 : Int32) (i3 : Int32) (q4 : Option Nat) (s0 : Option Nat) (σ : xS) : x_b O x_X0 x_TX (x_C 73) k 3000 (x_suf (x_C 73) 37) [some (.inr (.inr (some h))), some (.inl i1), some (.inl i2), some (.inl i3), some (.inr (.inr q4)), none, none] [.inr (.inr s0)] σ =
  (x_nul s0
    (k 62 [some (.inr (.inr (some h))), some (.inl i1), some (.inl i2), some (.inl i3), some (.inr (.inr q4)), some (.inr (.inr s0)), none] [.inl 0] σ)
    (x_der q4 fun a1 => x_ck σ a1 2 <|
    (if ((i1 >>> ((x_I σ a1 6) &&& 31)) &&& 1) = 1 then
      k 62 [some (.inr (.inr (some h))), some (.inl i1), some (.inl i2), some (.inl i3), some (.inr (.inr q4)), some (.inr (.inr s0)), none] [.inl 1] σ
    else
      k 62 [some (.inr (.inr (some h))), some (.inl i1), some (.inl i2), some (.inl i3), some (.inr (.inr q4)), some (.inr (.inr s0)), none] [.inl 0] σ))) := rfl
set_option maxRecDepth 100000 in
set_option maxHeartbeats 1000000 in
/-- I$World.poorBeside -/
theorem e73_62 (O : Nat → List xV → xS → Option xR) (k : Nat → xF) (h : Nat) (i1 : Int32) (i2 : Int32) (i3 : Int32) (q4 : Option Nat) (q5 : Option Nat) (s0 : Int32) (σ : xS) : x_b O x_X0 x_TX (x_C 73) k 3000 (x_suf (x_C 73) 62) [some (.inr (.inr (some h))), some (.inl i1), some (.inl i2), some (.inl i3), some (.inr (.inr q4)), some (.inr (.inr q5)), none] [.inl s0] σ =
  (x_nul q4
    (k 4 [some (.inr (.inr (some h))), some (.inl i1), some (.inl i2), some (.inl (i3 + 1)), none, none, none] [] σ)
    (x_der q4 fun a1 => x_ck σ a1 2 <|
    (if s0 = 0 then
      k 88 [some (.inr (.inr (some h))), some (.inl i1), some (.inl i2), some (.inl i3), none, none, none] [.inl 0, .inl (x_I σ a1 2)] σ
    else
      (x_der q5 fun a2 => x_ck σ a2 2 <|
      k 88 [some (.inr (.inr (some h))), some (.inl i1), some (.inl i2), some (.inl i3), none, none, none] [.inl (x_I σ a2 3), .inl (x_I σ a1 2)] σ)))) := rfl
set_option maxRecDepth 100000 in
set_option maxHeartbeats 1000000 in
/-- I$World.poorBeside -/
theorem e73_88 (O : Nat → List xV → xS → Option xR) (k : Nat → xF) (h : Nat) (i1 : Int32) (i2 : Int32) (i3 : Int32) (s0 : Int32) (s1 : Int32) (σ : xS) : x_b O x_X0 x_TX (x_C 73) k 3000 (x_suf (x_C 73) 88) [some (.inr (.inr (some h))), some (.inl i1), some (.inl i2), some (.inl i3), none, none, none] [.inl s0, .inl s1] σ =
  (x_ck σ h 8 <|
  (if (x_I σ h 5) ≤ (s1 - s0) then
    k 4 [some (.inr (.inr (some h))), some (.inl i1), some (.inl i2), some (.inl (i3 + 1)), none, none, none] [] σ
  else
    k 4 [some (.inr (.inr (some h))), some (.inl i1), some (.inl (i2 ||| (1 <<< (i3 &&& 31)))), some (.inl (i3 + 1)), none, none, none] [] σ)) := rfl
set_option maxRecDepth 100000 in
set_option maxHeartbeats 1000000 in
/-- I$World.reachedFrom -/
theorem e74_0 (O : Nat → List xV → xS → Option xR) (k : Nat → xF) (h : Nat) (i1 : Int32) (σ : xS) : x_b O x_X0 x_TX (x_C 74) k 3000 (x_suf (x_C 74) 0) [some (.inr (.inr (some h))), some (.inl i1), none, none, none, none] [] σ =
  (x_ck σ h 8 <|
  x_cr (O 65 [.inr (.inr (some h)), .inl i1] σ) fun r2 σ1 =>
  k 11 [some (.inr (.inr (some h))), none, some (.inl 0), some (.inr (.inr r2)), some (.inl 0), none] [] σ1) := rfl
set_option maxRecDepth 100000 in
set_option maxHeartbeats 1000000 in
/-- I$World.reachedFrom -/
theorem e74_11 (O : Nat → List xV → xS → Option xR) (k : Nat → xF) (h : Nat) (i2 : Int32) (q3 : Option Nat) (i4 : Int32) (σ : xS) : x_b O x_X0 x_TX (x_C 74) k 3000 (x_suf (x_C 74) 11) [some (.inr (.inr (some h))), none, some (.inl i2), some (.inr (.inr q3)), some (.inl i4), none] [] σ =
  (x_ck σ h 8 <|
  (if (x_I σ h 1) < i4 then
    (some (some (.inl i2), σ))
  else
    (x_nul q3
      (some (some (.inl i2), σ))
      (x_der q3 fun a1 => x_ck σ a1 2 <|
      (x_ck σ h 8 <|
      x_cr (O 65 [.inr (.inr (some h)), .inl (x_I σ a1 6)] σ) fun r3 σ2 =>
      (x_nul r3
        (k 11 [some (.inr (.inr (some h))), none, some (.inl i2), some (.inr (.inr r3)), some (.inl (i4 + 1)), none] [] σ2)
        (k 11 [some (.inr (.inr (some h))), none, some (.inl (i2 ||| (1 <<< ((x_I σ a1 6) &&& 31)))), some (.inr (.inr r3)), some (.inl (i4 + 1)), none] [] σ2))))))) := rfl
set_option maxRecDepth 100000 in
set_option maxHeartbeats 1000000 in
/-- java/lang/Integer.bitCount -/
theorem e223_0 (O : Nat → List xV → xS → Option xR) (k : Nat → xF) (i0 : Int32) (σ : xS) : x_b O x_X0 x_TX (x_C 223) k 3000 (x_suf (x_C 223) 0) [some (.inl i0)] [] σ =
  (some (some (.inl ((((((((i0 - (((i0.toUInt32 >>> ((1 : Int32).toUInt32 &&& Int32.toUInt32 31)).toInt32) &&& 1431655765)) &&& 858993459) + ((((i0 - (((i0.toUInt32 >>> ((1 : Int32).toUInt32 &&& Int32.toUInt32 31)).toInt32) &&& 1431655765)).toUInt32 >>> ((2 : Int32).toUInt32 &&& Int32.toUInt32 31)).toInt32) &&& 858993459)) + (((((i0 - (((i0.toUInt32 >>> ((1 : Int32).toUInt32 &&& Int32.toUInt32 31)).toInt32) &&& 1431655765)) &&& 858993459) + ((((i0 - (((i0.toUInt32 >>> ((1 : Int32).toUInt32 &&& Int32.toUInt32 31)).toInt32) &&& 1431655765)).toUInt32 >>> ((2 : Int32).toUInt32 &&& Int32.toUInt32 31)).toInt32) &&& 858993459)).toUInt32 >>> ((4 : Int32).toUInt32 &&& Int32.toUInt32 31)).toInt32)) &&& 252645135) + (((((((i0 - (((i0.toUInt32 >>> ((1 : Int32).toUInt32 &&& Int32.toUInt32 31)).toInt32) &&& 1431655765)) &&& 858993459) + ((((i0 - (((i0.toUInt32 >>> ((1 : Int32).toUInt32 &&& Int32.toUInt32 31)).toInt32) &&& 1431655765)).toUInt32 >>> ((2 : Int32).toUInt32 &&& Int32.toUInt32 31)).toInt32) &&& 858993459)) + (((((i0 - (((i0.toUInt32 >>> ((1 : Int32).toUInt32 &&& Int32.toUInt32 31)).toInt32) &&& 1431655765)) &&& 858993459) + ((((i0 - (((i0.toUInt32 >>> ((1 : Int32).toUInt32 &&& Int32.toUInt32 31)).toInt32) &&& 1431655765)).toUInt32 >>> ((2 : Int32).toUInt32 &&& Int32.toUInt32 31)).toInt32) &&& 858993459)).toUInt32 >>> ((4 : Int32).toUInt32 &&& Int32.toUInt32 31)).toInt32)) &&& 252645135).toUInt32 >>> ((8 : Int32).toUInt32 &&& Int32.toUInt32 31)).toInt32)) + ((((((((i0 - (((i0.toUInt32 >>> ((1 : Int32).toUInt32 &&& Int32.toUInt32 31)).toInt32) &&& 1431655765)) &&& 858993459) + ((((i0 - (((i0.toUInt32 >>> ((1 : Int32).toUInt32 &&& Int32.toUInt32 31)).toInt32) &&& 1431655765)).toUInt32 >>> ((2 : Int32).toUInt32 &&& Int32.toUInt32 31)).toInt32) &&& 858993459)) + (((((i0 - (((i0.toUInt32 >>> ((1 : Int32).toUInt32 &&& Int32.toUInt32 31)).toInt32) &&& 1431655765)) &&& 858993459) + ((((i0 - (((i0.toUInt32 >>> ((1 : Int32).toUInt32 &&& Int32.toUInt32 31)).toInt32) &&& 1431655765)).toUInt32 >>> ((2 : Int32).toUInt32 &&& Int32.toUInt32 31)).toInt32) &&& 858993459)).toUInt32 >>> ((4 : Int32).toUInt32 &&& Int32.toUInt32 31)).toInt32)) &&& 252645135) + (((((((i0 - (((i0.toUInt32 >>> ((1 : Int32).toUInt32 &&& Int32.toUInt32 31)).toInt32) &&& 1431655765)) &&& 858993459) + ((((i0 - (((i0.toUInt32 >>> ((1 : Int32).toUInt32 &&& Int32.toUInt32 31)).toInt32) &&& 1431655765)).toUInt32 >>> ((2 : Int32).toUInt32 &&& Int32.toUInt32 31)).toInt32) &&& 858993459)) + (((((i0 - (((i0.toUInt32 >>> ((1 : Int32).toUInt32 &&& Int32.toUInt32 31)).toInt32) &&& 1431655765)) &&& 858993459) + ((((i0 - (((i0.toUInt32 >>> ((1 : Int32).toUInt32 &&& Int32.toUInt32 31)).toInt32) &&& 1431655765)).toUInt32 >>> ((2 : Int32).toUInt32 &&& Int32.toUInt32 31)).toInt32) &&& 858993459)).toUInt32 >>> ((4 : Int32).toUInt32 &&& Int32.toUInt32 31)).toInt32)) &&& 252645135).toUInt32 >>> ((8 : Int32).toUInt32 &&& Int32.toUInt32 31)).toInt32)).toUInt32 >>> ((16 : Int32).toUInt32 &&& Int32.toUInt32 31)).toInt32)) &&& 63)), σ)) := rfl
set_option maxRecDepth 100000 in
set_option maxHeartbeats 1000000 in
/-- java/util/Arrays.fill -/
theorem e224_0 (O : Nat → List xV → xS → Option xR) (k : Nat → xF) (q0 : Option Nat) (j1 : Int64) (σ : xS) : x_b O x_X0 x_TX (x_C 224) k 3000 (x_suf (x_C 224) 0) [some (.inr (.inr q0)), some (.inr (.inl j1)), none, none, none] [] σ =
  (x_der q0 fun a1 => x_aa σ a1 fun n2 => k 6 [some (.inr (.inr q0)), some (.inr (.inl j1)), none, some (.inl 0), some (.inl (Int32.ofNat n2))] [] σ) := rfl
set_option maxRecDepth 100000 in
set_option maxHeartbeats 1000000 in
/-- java/util/Arrays.fill -/
theorem e224_6 (O : Nat → List xV → xS → Option xR) (k : Nat → xF) (q0 : Option Nat) (j1 : Int64) (i3 : Int32) (i4 : Int32) (σ : xS) : x_b O x_X0 x_TX (x_C 224) k 3000 (x_suf (x_C 224) 6) [some (.inr (.inr q0)), some (.inr (.inl j1)), none, some (.inl i3), some (.inl i4)] [] σ =
  (if i4 ≤ i3 then
    (some (none, σ))
  else
    (x_der q0 fun a1 => x_ak σ a1 12 fun n2 => x_ix i3 n2 <|
    k 6 [some (.inr (.inr q0)), some (.inr (.inl j1)), none, some (.inl (i3 + 1)), some (.inl i4)] [] (x_sl σ a1 (i3).toNatClampNeg j1))) := rfl
set_option maxRecDepth 100000 in
set_option maxHeartbeats 1000000 in
/-- java/util/Arrays.fill -/
theorem e225_0 (O : Nat → List xV → xS → Option xR) (k : Nat → xF) (q0 : Option Nat) (i1 : Int32) (σ : xS) : x_b O x_X0 x_TX (x_C 225) k 3000 (x_suf (x_C 225) 0) [some (.inr (.inr q0)), some (.inl i1), none, none] [] σ =
  (x_der q0 fun a1 => x_aa σ a1 fun n2 => k 5 [some (.inr (.inr q0)), some (.inl i1), some (.inl 0), some (.inl (Int32.ofNat n2))] [] σ) := rfl
set_option maxRecDepth 100000 in
set_option maxHeartbeats 1000000 in
/-- java/util/Arrays.fill -/
theorem e225_5 (O : Nat → List xV → xS → Option xR) (k : Nat → xF) (q0 : Option Nat) (i1 : Int32) (i2 : Int32) (i3 : Int32) (σ : xS) : x_b O x_X0 x_TX (x_C 225) k 3000 (x_suf (x_C 225) 5) [some (.inr (.inr q0)), some (.inl i1), some (.inl i2), some (.inl i3)] [] σ =
  (if i3 ≤ i2 then
    (some (none, σ))
  else
    (x_der q0 fun a1 => x_ak σ a1 11 fun n2 => x_ix i2 n2 <|
    k 5 [some (.inr (.inr q0)), some (.inl i1), some (.inl (i2 + 1)), some (.inl i3)] [] (x_si σ a1 (i2).toNatClampNeg i1))) := rfl
theorem r0 (d : Nat) (h : Nat) (σ : xS) : x_run (d + 1) 0 [.inr (.inr (some h))] σ = x_b (x_run d) x_X0 x_TX (x_C 0) (x_f d 0) 3000 (x_suf (x_C 0) 0) [some (.inr (.inr (some h)))] [] σ := x_feq d 0 0 [some (.inr (.inr (some h)))] [] σ
theorem r1 (d : Nat) (h : Nat) (q1 : Option Nat) (q2 : Option Nat) (i3 : Int32) (i4 : Int32) (σ : xS) : x_run (d + 1) 1 [.inr (.inr (some h)), .inr (.inr q1), .inr (.inr q2), .inl i3, .inl i4] σ = x_b (x_run d) x_X0 x_TX (x_C 1) (x_f d 1) 3000 (x_suf (x_C 1) 0) [some (.inr (.inr (some h))), some (.inr (.inr q1)), some (.inr (.inr q2)), some (.inl i3), some (.inl i4), none, none] [] σ := x_feq d 1 0 [some (.inr (.inr (some h))), some (.inr (.inr q1)), some (.inr (.inr q2)), some (.inl i3), some (.inl i4), none, none] [] σ
theorem r2 (d : Nat) (h : Nat) (i1 : Int32) (i2 : Int32) (σ : xS) : x_run (d + 1) 2 [.inr (.inr (some h)), .inl i1, .inl i2] σ = x_b (x_run d) x_X0 x_TX (x_C 2) (x_f d 2) 3000 (x_suf (x_C 2) 0) [some (.inr (.inr (some h))), some (.inl i1), some (.inl i2), none, none, none, none, none] [] σ := x_feq d 2 0 [some (.inr (.inr (some h))), some (.inl i1), some (.inl i2), none, none, none, none, none] [] σ
theorem r3 (d : Nat) (i0 : Int32) (i1 : Int32) (σ : xS) : x_run (d + 1) 3 [.inl i0, .inl i1] σ = x_b (x_run d) x_X0 x_TX (x_C 3) (x_f d 3) 3000 (x_suf (x_C 3) 0) [some (.inl i0), some (.inl i1), none] [] σ := x_feq d 3 0 [some (.inl i0), some (.inl i1), none] [] σ
theorem r4 (d : Nat) (h : Nat) (σ : xS) : x_run (d + 1) 4 [.inr (.inr (some h))] σ = x_b (x_run d) x_X0 x_TX (x_C 4) (x_f d 4) 3000 (x_suf (x_C 4) 0) [some (.inr (.inr (some h))), none, none] [] σ := x_feq d 4 0 [some (.inr (.inr (some h))), none, none] [] σ
theorem r5 (d : Nat) (h : Nat) (σ : xS) : x_run (d + 1) 5 [.inr (.inr (some h))] σ = x_b (x_run d) x_X0 x_TX (x_C 5) (x_f d 5) 3000 (x_suf (x_C 5) 0) [some (.inr (.inr (some h))), none, none, none, none] [] σ := x_feq d 5 0 [some (.inr (.inr (some h))), none, none, none, none] [] σ
theorem r6 (d : Nat) (h : Nat) (i1 : Int32) (i2 : Int32) (σ : xS) : x_run (d + 1) 6 [.inr (.inr (some h)), .inl i1, .inl i2] σ = x_b (x_run d) x_X0 x_TX (x_C 6) (x_f d 6) 3000 (x_suf (x_C 6) 0) [some (.inr (.inr (some h))), some (.inl i1), some (.inl i2), none] [] σ := x_feq d 6 0 [some (.inr (.inr (some h))), some (.inl i1), some (.inl i2), none] [] σ
theorem r7 (d : Nat) (h : Nat) (σ : xS) : x_run (d + 1) 7 [.inr (.inr (some h))] σ = x_b (x_run d) x_X0 x_TX (x_C 7) (x_f d 7) 3000 (x_suf (x_C 7) 0) [some (.inr (.inr (some h)))] [] σ := x_feq d 7 0 [some (.inr (.inr (some h)))] [] σ
theorem r8 (d : Nat) (h : Nat) (σ : xS) : x_run (d + 1) 8 [.inr (.inr (some h))] σ = x_b (x_run d) x_X0 x_TX (x_C 8) (x_f d 8) 3000 (x_suf (x_C 8) 0) [some (.inr (.inr (some h)))] [] σ := x_feq d 8 0 [some (.inr (.inr (some h)))] [] σ
theorem r9 (d : Nat) (h : Nat) (i1 : Int32) (j2 : Int64) (σ : xS) : x_run (d + 1) 9 [.inr (.inr (some h)), .inl i1, .inr (.inl j2)] σ = x_b (x_run d) x_X0 x_TX (x_C 9) (x_f d 9) 3000 (x_suf (x_C 9) 0) [some (.inr (.inr (some h))), some (.inl i1), some (.inr (.inl j2)), none] [] σ := x_feq d 9 0 [some (.inr (.inr (some h))), some (.inl i1), some (.inr (.inl j2)), none] [] σ
theorem r10 (d : Nat) (h : Nat) (σ : xS) : x_run (d + 1) 10 [.inr (.inr (some h))] σ = x_b (x_run d) x_X0 x_TX (x_C 10) (x_f d 10) 3000 (x_suf (x_C 10) 0) [some (.inr (.inr (some h)))] [] σ := x_feq d 10 0 [some (.inr (.inr (some h)))] [] σ
theorem r11 (d : Nat) (h : Nat) (i1 : Int32) (i2 : Int32) (i3 : Int32) (σ : xS) : x_run (d + 1) 11 [.inr (.inr (some h)), .inl i1, .inl i2, .inl i3] σ = x_b (x_run d) x_X0 x_TX (x_C 11) (x_f d 11) 3000 (x_suf (x_C 11) 0) [some (.inr (.inr (some h))), some (.inl i1), some (.inl i2), some (.inl i3)] [] σ := x_feq d 11 0 [some (.inr (.inr (some h))), some (.inl i1), some (.inl i2), some (.inl i3)] [] σ
theorem r12 (d : Nat) (h : Nat) (q1 : Option Nat) (σ : xS) : x_run (d + 1) 12 [.inr (.inr (some h)), .inr (.inr q1)] σ = x_b (x_run d) x_X0 x_TX (x_C 12) (x_f d 12) 3000 (x_suf (x_C 12) 0) [some (.inr (.inr (some h))), some (.inr (.inr q1))] [] σ := x_feq d 12 0 [some (.inr (.inr (some h))), some (.inr (.inr q1))] [] σ
theorem r13 (d : Nat) (h : Nat) (i1 : Int32) (σ : xS) : x_run (d + 1) 13 [.inr (.inr (some h)), .inl i1] σ = x_b (x_run d) x_X0 x_TX (x_C 13) (x_f d 13) 3000 (x_suf (x_C 13) 0) [some (.inr (.inr (some h))), some (.inl i1)] [] σ := x_feq d 13 0 [some (.inr (.inr (some h))), some (.inl i1)] [] σ
theorem r14 (d : Nat) (h : Nat) (i1 : Int32) (i2 : Int32) (σ : xS) : x_run (d + 1) 14 [.inr (.inr (some h)), .inl i1, .inl i2] σ = x_b (x_run d) x_X0 x_TX (x_C 14) (x_f d 14) 3000 (x_suf (x_C 14) 0) [some (.inr (.inr (some h))), some (.inl i1), some (.inl i2)] [] σ := x_feq d 14 0 [some (.inr (.inr (some h))), some (.inl i1), some (.inl i2)] [] σ
theorem r15 (d : Nat) (h : Nat) (i1 : Int32) (σ : xS) : x_run (d + 1) 15 [.inr (.inr (some h)), .inl i1] σ = x_b (x_run d) x_X0 x_TX (x_C 15) (x_f d 15) 3000 (x_suf (x_C 15) 0) [some (.inr (.inr (some h))), some (.inl i1)] [] σ := x_feq d 15 0 [some (.inr (.inr (some h))), some (.inl i1)] [] σ
theorem r16 (d : Nat) (h : Nat) (q1 : Option Nat) (i2 : Int32) (i3 : Int32) (σ : xS) : x_run (d + 1) 16 [.inr (.inr (some h)), .inr (.inr q1), .inl i2, .inl i3] σ = x_b (x_run d) x_X0 x_TX (x_C 16) (x_f d 16) 3000 (x_suf (x_C 16) 0) [some (.inr (.inr (some h))), some (.inr (.inr q1)), some (.inl i2), some (.inl i3), none] [] σ := x_feq d 16 0 [some (.inr (.inr (some h))), some (.inr (.inr q1)), some (.inl i2), some (.inl i3), none] [] σ
theorem r17 (d : Nat) (h : Nat) (i1 : Int32) (σ : xS) : x_run (d + 1) 17 [.inr (.inr (some h)), .inl i1] σ = x_b (x_run d) x_X0 x_TX (x_C 17) (x_f d 17) 3000 (x_suf (x_C 17) 0) [some (.inr (.inr (some h))), some (.inl i1), none] [] σ := x_feq d 17 0 [some (.inr (.inr (some h))), some (.inl i1), none] [] σ
theorem r18 (d : Nat) (h : Nat) (q1 : Option Nat) (i2 : Int32) (i3 : Int32) (σ : xS) : x_run (d + 1) 18 [.inr (.inr (some h)), .inr (.inr q1), .inl i2, .inl i3] σ = x_b (x_run d) x_X0 x_TX (x_C 18) (x_f d 18) 3000 (x_suf (x_C 18) 0) [some (.inr (.inr (some h))), some (.inr (.inr q1)), some (.inl i2), some (.inl i3), none] [] σ := x_feq d 18 0 [some (.inr (.inr (some h))), some (.inr (.inr q1)), some (.inl i2), some (.inl i3), none] [] σ
theorem r19 (d : Nat) (h : Nat) (q1 : Option Nat) (i2 : Int32) (i3 : Int32) (σ : xS) : x_run (d + 1) 19 [.inr (.inr (some h)), .inr (.inr q1), .inl i2, .inl i3] σ = x_b (x_run d) x_X0 x_TX (x_C 19) (x_f d 19) 3000 (x_suf (x_C 19) 0) [some (.inr (.inr (some h))), some (.inr (.inr q1)), some (.inl i2), some (.inl i3), none] [] σ := x_feq d 19 0 [some (.inr (.inr (some h))), some (.inr (.inr q1)), some (.inl i2), some (.inl i3), none] [] σ
theorem r20 (d : Nat) (h : Nat) (i1 : Int32) (σ : xS) : x_run (d + 1) 20 [.inr (.inr (some h)), .inl i1] σ = x_b (x_run d) x_X0 x_TX (x_C 20) (x_f d 20) 3000 (x_suf (x_C 20) 0) [some (.inr (.inr (some h))), some (.inl i1)] [] σ := x_feq d 20 0 [some (.inr (.inr (some h))), some (.inl i1)] [] σ
theorem r21 (d : Nat) (h : Nat) (i1 : Int32) (σ : xS) : x_run (d + 1) 21 [.inr (.inr (some h)), .inl i1] σ = x_b (x_run d) x_X0 x_TX (x_C 21) (x_f d 21) 3000 (x_suf (x_C 21) 0) [some (.inr (.inr (some h))), some (.inl i1)] [] σ := x_feq d 21 0 [some (.inr (.inr (some h))), some (.inl i1)] [] σ
theorem r22 (d : Nat) (h : Nat) (σ : xS) : x_run (d + 1) 22 [.inr (.inr (some h))] σ = x_b (x_run d) x_X0 x_TX (x_C 22) (x_f d 22) 3000 (x_suf (x_C 22) 0) [some (.inr (.inr (some h)))] [] σ := x_feq d 22 0 [some (.inr (.inr (some h)))] [] σ
theorem r23 (d : Nat) (h : Nat) (i1 : Int32) (σ : xS) : x_run (d + 1) 23 [.inr (.inr (some h)), .inl i1] σ = x_b (x_run d) x_X0 x_TX (x_C 23) (x_f d 23) 3000 (x_suf (x_C 23) 0) [some (.inr (.inr (some h))), some (.inl i1)] [] σ := x_feq d 23 0 [some (.inr (.inr (some h))), some (.inl i1)] [] σ
theorem r24 (d : Nat) (h : Nat) (σ : xS) : x_run (d + 1) 24 [.inr (.inr (some h))] σ = x_b (x_run d) x_X0 x_TX (x_C 24) (x_f d 24) 3000 (x_suf (x_C 24) 0) [some (.inr (.inr (some h)))] [] σ := x_feq d 24 0 [some (.inr (.inr (some h)))] [] σ
theorem r25 (d : Nat) (h : Nat) (σ : xS) : x_run (d + 1) 25 [.inr (.inr (some h))] σ = x_b (x_run d) x_X0 x_TX (x_C 25) (x_f d 25) 3000 (x_suf (x_C 25) 0) [some (.inr (.inr (some h)))] [] σ := x_feq d 25 0 [some (.inr (.inr (some h)))] [] σ
theorem r26 (d : Nat) (h : Nat) (i1 : Int32) (σ : xS) : x_run (d + 1) 26 [.inr (.inr (some h)), .inl i1] σ = x_b (x_run d) x_X0 x_TX (x_C 26) (x_f d 26) 3000 (x_suf (x_C 26) 0) [some (.inr (.inr (some h))), some (.inl i1)] [] σ := x_feq d 26 0 [some (.inr (.inr (some h))), some (.inl i1)] [] σ
theorem r27 (d : Nat) (h : Nat) (q1 : Option Nat) (q2 : Option Nat) (i3 : Int32) (i4 : Int32) (σ : xS) : x_run (d + 1) 27 [.inr (.inr (some h)), .inr (.inr q1), .inr (.inr q2), .inl i3, .inl i4] σ = x_b (x_run d) x_X0 x_TX (x_C 27) (x_f d 27) 3000 (x_suf (x_C 27) 0) [some (.inr (.inr (some h))), some (.inr (.inr q1)), some (.inr (.inr q2)), some (.inl i3), some (.inl i4), none, none] [] σ := x_feq d 27 0 [some (.inr (.inr (some h))), some (.inr (.inr q1)), some (.inr (.inr q2)), some (.inl i3), some (.inl i4), none, none] [] σ
theorem r28 (d : Nat) (h : Nat) (q1 : Option Nat) (q2 : Option Nat) (i3 : Int32) (i4 : Int32) (σ : xS) : x_run (d + 1) 28 [.inr (.inr (some h)), .inr (.inr q1), .inr (.inr q2), .inl i3, .inl i4] σ = x_b (x_run d) x_X0 x_TX (x_C 28) (x_f d 28) 3000 (x_suf (x_C 28) 0) [some (.inr (.inr (some h))), some (.inr (.inr q1)), some (.inr (.inr q2)), some (.inl i3), some (.inl i4), none, none, none, none, none, none] [] σ := x_feq d 28 0 [some (.inr (.inr (some h))), some (.inr (.inr q1)), some (.inr (.inr q2)), some (.inl i3), some (.inl i4), none, none, none, none, none, none] [] σ
theorem r29 (d : Nat) (h : Nat) (σ : xS) : x_run (d + 1) 29 [.inr (.inr (some h))] σ = x_b (x_run d) x_X0 x_TX (x_C 29) (x_f d 29) 3000 (x_suf (x_C 29) 0) [some (.inr (.inr (some h)))] [] σ := x_feq d 29 0 [some (.inr (.inr (some h)))] [] σ
theorem r30 (d : Nat) (h : Nat) (i1 : Int32) (i2 : Int32) (σ : xS) : x_run (d + 1) 30 [.inr (.inr (some h)), .inl i1, .inl i2] σ = x_b (x_run d) x_X0 x_TX (x_C 30) (x_f d 30) 3000 (x_suf (x_C 30) 0) [some (.inr (.inr (some h))), some (.inl i1), some (.inl i2)] [] σ := x_feq d 30 0 [some (.inr (.inr (some h))), some (.inl i1), some (.inl i2)] [] σ
theorem r31 (d : Nat) (h : Nat) (i1 : Int32) (σ : xS) : x_run (d + 1) 31 [.inr (.inr (some h)), .inl i1] σ = x_b (x_run d) x_X0 x_TX (x_C 31) (x_f d 31) 3000 (x_suf (x_C 31) 0) [some (.inr (.inr (some h))), some (.inl i1)] [] σ := x_feq d 31 0 [some (.inr (.inr (some h))), some (.inl i1)] [] σ
theorem r32 (d : Nat) (h : Nat) (i1 : Int32) (i2 : Int32) (σ : xS) : x_run (d + 1) 32 [.inr (.inr (some h)), .inl i1, .inl i2] σ = x_b (x_run d) x_X0 x_TX (x_C 32) (x_f d 32) 3000 (x_suf (x_C 32) 0) [some (.inr (.inr (some h))), some (.inl i1), some (.inl i2)] [] σ := x_feq d 32 0 [some (.inr (.inr (some h))), some (.inl i1), some (.inl i2)] [] σ
theorem r33 (d : Nat) (h : Nat) (i1 : Int32) (i2 : Int32) (σ : xS) : x_run (d + 1) 33 [.inr (.inr (some h)), .inl i1, .inl i2] σ = x_b (x_run d) x_X0 x_TX (x_C 33) (x_f d 33) 3000 (x_suf (x_C 33) 0) [some (.inr (.inr (some h))), some (.inl i1), some (.inl i2)] [] σ := x_feq d 33 0 [some (.inr (.inr (some h))), some (.inl i1), some (.inl i2)] [] σ
theorem r34 (d : Nat) (h : Nat) (i1 : Int32) (q2 : Option Nat) (i3 : Int32) (i4 : Int32) (σ : xS) : x_run (d + 1) 34 [.inr (.inr (some h)), .inl i1, .inr (.inr q2), .inl i3, .inl i4] σ = x_b (x_run d) x_X0 x_TX (x_C 34) (x_f d 34) 3000 (x_suf (x_C 34) 0) [some (.inr (.inr (some h))), some (.inl i1), some (.inr (.inr q2)), some (.inl i3), some (.inl i4)] [] σ := x_feq d 34 0 [some (.inr (.inr (some h))), some (.inl i1), some (.inr (.inr q2)), some (.inl i3), some (.inl i4)] [] σ
theorem r35 (d : Nat) (h : Nat) (q1 : Option Nat) (q2 : Option Nat) (i3 : Int32) (σ : xS) : x_run (d + 1) 35 [.inr (.inr (some h)), .inr (.inr q1), .inr (.inr q2), .inl i3] σ = x_b (x_run d) x_X0 x_TX (x_C 35) (x_f d 35) 3000 (x_suf (x_C 35) 0) [some (.inr (.inr (some h))), some (.inr (.inr q1)), some (.inr (.inr q2)), some (.inl i3), none, none, none, none] [] σ := x_feq d 35 0 [some (.inr (.inr (some h))), some (.inr (.inr q1)), some (.inr (.inr q2)), some (.inl i3), none, none, none, none] [] σ
theorem r36 (d : Nat) (h : Nat) (q1 : Option Nat) (q2 : Option Nat) (i3 : Int32) (σ : xS) : x_run (d + 1) 36 [.inr (.inr (some h)), .inr (.inr q1), .inr (.inr q2), .inl i3] σ = x_b (x_run d) x_X0 x_TX (x_C 36) (x_f d 36) 3000 (x_suf (x_C 36) 0) [some (.inr (.inr (some h))), some (.inr (.inr q1)), some (.inr (.inr q2)), some (.inl i3), none, none, none, none, none, none, none] [] σ := x_feq d 36 0 [some (.inr (.inr (some h))), some (.inr (.inr q1)), some (.inr (.inr q2)), some (.inl i3), none, none, none, none, none, none, none] [] σ
theorem r37 (d : Nat) (h : Nat) (q1 : Option Nat) (q2 : Option Nat) (i3 : Int32) (i4 : Int32) (σ : xS) : x_run (d + 1) 37 [.inr (.inr (some h)), .inr (.inr q1), .inr (.inr q2), .inl i3, .inl i4] σ = x_b (x_run d) x_X0 x_TX (x_C 37) (x_f d 37) 3000 (x_suf (x_C 37) 0) [some (.inr (.inr (some h))), some (.inr (.inr q1)), some (.inr (.inr q2)), some (.inl i3), some (.inl i4), none, none] [] σ := x_feq d 37 0 [some (.inr (.inr (some h))), some (.inr (.inr q1)), some (.inr (.inr q2)), some (.inl i3), some (.inl i4), none, none] [] σ
theorem r38 (d : Nat) (h : Nat) (σ : xS) : x_run (d + 1) 38 [.inr (.inr (some h))] σ = x_b (x_run d) x_X0 x_TX (x_C 38) (x_f d 38) 3000 (x_suf (x_C 38) 0) [some (.inr (.inr (some h)))] [] σ := x_feq d 38 0 [some (.inr (.inr (some h)))] [] σ
theorem r39 (d : Nat) (h : Nat) (i1 : Int32) (σ : xS) : x_run (d + 1) 39 [.inr (.inr (some h)), .inl i1] σ = x_b (x_run d) x_X0 x_TX (x_C 39) (x_f d 39) 3000 (x_suf (x_C 39) 0) [some (.inr (.inr (some h))), some (.inl i1)] [] σ := x_feq d 39 0 [some (.inr (.inr (some h))), some (.inl i1)] [] σ
theorem r40 (d : Nat) (h : Nat) (σ : xS) : x_run (d + 1) 40 [.inr (.inr (some h))] σ = x_b (x_run d) x_X0 x_TX (x_C 40) (x_f d 40) 3000 (x_suf (x_C 40) 0) [some (.inr (.inr (some h))), none, none] [] σ := x_feq d 40 0 [some (.inr (.inr (some h))), none, none] [] σ
theorem r41 (d : Nat) (h : Nat) (σ : xS) : x_run (d + 1) 41 [.inr (.inr (some h))] σ = x_b (x_run d) x_X0 x_TX (x_C 41) (x_f d 41) 3000 (x_suf (x_C 41) 0) [some (.inr (.inr (some h))), none] [] σ := x_feq d 41 0 [some (.inr (.inr (some h))), none] [] σ
theorem r42 (d : Nat) (h : Nat) (σ : xS) : x_run (d + 1) 42 [.inr (.inr (some h))] σ = x_b (x_run d) x_X0 x_TX (x_C 42) (x_f d 42) 3000 (x_suf (x_C 42) 0) [some (.inr (.inr (some h))), none] [] σ := x_feq d 42 0 [some (.inr (.inr (some h))), none] [] σ
theorem r43 (d : Nat) (h : Nat) (σ : xS) : x_run (d + 1) 43 [.inr (.inr (some h))] σ = x_b (x_run d) x_X0 x_TX (x_C 43) (x_f d 43) 3000 (x_suf (x_C 43) 0) [some (.inr (.inr (some h))), none] [] σ := x_feq d 43 0 [some (.inr (.inr (some h))), none] [] σ
theorem r44 (d : Nat) (h : Nat) (σ : xS) : x_run (d + 1) 44 [.inr (.inr (some h))] σ = x_b (x_run d) x_X0 x_TX (x_C 44) (x_f d 44) 3000 (x_suf (x_C 44) 0) [some (.inr (.inr (some h))), none, none] [] σ := x_feq d 44 0 [some (.inr (.inr (some h))), none, none] [] σ
theorem r45 (d : Nat) (h : Nat) (σ : xS) : x_run (d + 1) 45 [.inr (.inr (some h))] σ = x_b (x_run d) x_X0 x_TX (x_C 45) (x_f d 45) 3000 (x_suf (x_C 45) 0) [some (.inr (.inr (some h))), none] [] σ := x_feq d 45 0 [some (.inr (.inr (some h))), none] [] σ
theorem r46 (d : Nat) (h : Nat) (σ : xS) : x_run (d + 1) 46 [.inr (.inr (some h))] σ = x_b (x_run d) x_X0 x_TX (x_C 46) (x_f d 46) 3000 (x_suf (x_C 46) 0) [some (.inr (.inr (some h)))] [] σ := x_feq d 46 0 [some (.inr (.inr (some h)))] [] σ
theorem r47 (d : Nat) (h : Nat) (σ : xS) : x_run (d + 1) 47 [.inr (.inr (some h))] σ = x_b (x_run d) x_X0 x_TX (x_C 47) (x_f d 47) 3000 (x_suf (x_C 47) 0) [some (.inr (.inr (some h)))] [] σ := x_feq d 47 0 [some (.inr (.inr (some h)))] [] σ
theorem r48 (d : Nat) (h : Nat) (i1 : Int32) (σ : xS) : x_run (d + 1) 48 [.inr (.inr (some h)), .inl i1] σ = x_b (x_run d) x_X0 x_TX (x_C 48) (x_f d 48) 3000 (x_suf (x_C 48) 0) [some (.inr (.inr (some h))), some (.inl i1)] [] σ := x_feq d 48 0 [some (.inr (.inr (some h))), some (.inl i1)] [] σ
theorem r49 (d : Nat) (h : Nat) (σ : xS) : x_run (d + 1) 49 [.inr (.inr (some h))] σ = x_b (x_run d) x_X0 x_TX (x_C 49) (x_f d 49) 3000 (x_suf (x_C 49) 0) [some (.inr (.inr (some h))), none] [] σ := x_feq d 49 0 [some (.inr (.inr (some h))), none] [] σ
theorem r50 (d : Nat) (h : Nat) (σ : xS) : x_run (d + 1) 50 [.inr (.inr (some h))] σ = x_b (x_run d) x_X0 x_TX (x_C 50) (x_f d 50) 3000 (x_suf (x_C 50) 0) [some (.inr (.inr (some h)))] [] σ := x_feq d 50 0 [some (.inr (.inr (some h)))] [] σ
theorem r51 (d : Nat) (h : Nat) (σ : xS) : x_run (d + 1) 51 [.inr (.inr (some h))] σ = x_b (x_run d) x_X0 x_TX (x_C 51) (x_f d 51) 3000 (x_suf (x_C 51) 0) [some (.inr (.inr (some h)))] [] σ := x_feq d 51 0 [some (.inr (.inr (some h)))] [] σ
theorem r52 (d : Nat) (h : Nat) (q1 : Option Nat) (σ : xS) : x_run (d + 1) 52 [.inr (.inr (some h)), .inr (.inr q1)] σ = x_b (x_run d) x_X0 x_TX (x_C 52) (x_f d 52) 3000 (x_suf (x_C 52) 0) [some (.inr (.inr (some h))), some (.inr (.inr q1)), none] [] σ := x_feq d 52 0 [some (.inr (.inr (some h))), some (.inr (.inr q1)), none] [] σ
theorem r53 (d : Nat) (i0 : Int32) (σ : xS) : x_run (d + 1) 53 [.inl i0] σ = x_b (x_run d) x_X0 x_TX (x_C 53) (x_f d 53) 3000 (x_suf (x_C 53) 0) [some (.inl i0)] [] σ := x_feq d 53 0 [some (.inl i0)] [] σ
theorem r54 (d : Nat) (i0 : Int32) (σ : xS) : x_run (d + 1) 54 [.inl i0] σ = x_b (x_run d) x_X0 x_TX (x_C 54) (x_f d 54) 3000 (x_suf (x_C 54) 0) [some (.inl i0)] [] σ := x_feq d 54 0 [some (.inl i0)] [] σ
theorem r55 (d : Nat) (i0 : Int32) (σ : xS) : x_run (d + 1) 55 [.inl i0] σ = x_b (x_run d) x_X0 x_TX (x_C 55) (x_f d 55) 3000 (x_suf (x_C 55) 0) [some (.inl i0)] [] σ := x_feq d 55 0 [some (.inl i0)] [] σ
theorem r56 (d : Nat) (h : Nat) (σ : xS) : x_run (d + 1) 56 [.inr (.inr (some h))] σ = x_b (x_run d) x_X0 x_TX (x_C 56) (x_f d 56) 3000 (x_suf (x_C 56) 0) [some (.inr (.inr (some h)))] [] σ := x_feq d 56 0 [some (.inr (.inr (some h)))] [] σ
theorem r57 (d : Nat) (h : Nat) (σ : xS) : x_run (d + 1) 57 [.inr (.inr (some h))] σ = x_b (x_run d) x_X0 x_TX (x_C 57) (x_f d 57) 3000 (x_suf (x_C 57) 0) [some (.inr (.inr (some h)))] [] σ := x_feq d 57 0 [some (.inr (.inr (some h)))] [] σ
theorem r58 (d : Nat) (h : Nat) (i1 : Int32) (σ : xS) : x_run (d + 1) 58 [.inr (.inr (some h)), .inl i1] σ = x_b (x_run d) x_X0 x_TX (x_C 58) (x_f d 58) 3000 (x_suf (x_C 58) 0) [some (.inr (.inr (some h))), some (.inl i1)] [] σ := x_feq d 58 0 [some (.inr (.inr (some h))), some (.inl i1)] [] σ
theorem r59 (d : Nat) (h : Nat) (i1 : Int32) (σ : xS) : x_run (d + 1) 59 [.inr (.inr (some h)), .inl i1] σ = x_b (x_run d) x_X0 x_TX (x_C 59) (x_f d 59) 3000 (x_suf (x_C 59) 0) [some (.inr (.inr (some h))), some (.inl i1)] [] σ := x_feq d 59 0 [some (.inr (.inr (some h))), some (.inl i1)] [] σ
theorem r60 (d : Nat) (h : Nat) (q1 : Option Nat) (σ : xS) : x_run (d + 1) 60 [.inr (.inr (some h)), .inr (.inr q1)] σ = x_b (x_run d) x_X0 x_TX (x_C 60) (x_f d 60) 3000 (x_suf (x_C 60) 0) [some (.inr (.inr (some h))), some (.inr (.inr q1)), none] [] σ := x_feq d 60 0 [some (.inr (.inr (some h))), some (.inr (.inr q1)), none] [] σ
theorem r61 (d : Nat) (h : Nat) (i1 : Int32) (q2 : Option Nat) (i3 : Int32) (i4 : Int32) (i5 : Int32) (σ : xS) : x_run (d + 1) 61 [.inr (.inr (some h)), .inl i1, .inr (.inr q2), .inl i3, .inl i4, .inl i5] σ = x_b (x_run d) x_X0 x_TX (x_C 61) (x_f d 61) 3000 (x_suf (x_C 61) 0) [some (.inr (.inr (some h))), some (.inl i1), some (.inr (.inr q2)), some (.inl i3), some (.inl i4), some (.inl i5)] [] σ := x_feq d 61 0 [some (.inr (.inr (some h))), some (.inl i1), some (.inr (.inr q2)), some (.inl i3), some (.inl i4), some (.inl i5)] [] σ
theorem r62 (d : Nat) (h : Nat) (i1 : Int32) (σ : xS) : x_run (d + 1) 62 [.inr (.inr (some h)), .inl i1] σ = x_b (x_run d) x_X0 x_TX (x_C 62) (x_f d 62) 3000 (x_suf (x_C 62) 0) [some (.inr (.inr (some h))), some (.inl i1), none, none, none, none, none] [] σ := x_feq d 62 0 [some (.inr (.inr (some h))), some (.inl i1), none, none, none, none, none] [] σ
theorem r63 (d : Nat) (i0 : Int32) (i1 : Int32) (i2 : Int32) (σ : xS) : x_run (d + 1) 63 [.inl i0, .inl i1, .inl i2] σ = x_b (x_run d) x_X0 x_TX (x_C 63) (x_f d 63) 3000 (x_suf (x_C 63) 0) [some (.inl i0), some (.inl i1), some (.inl i2)] [] σ := x_feq d 63 0 [some (.inl i0), some (.inl i1), some (.inl i2)] [] σ
theorem r64 (d : Nat) (h : Nat) (σ : xS) : x_run (d + 1) 64 [.inr (.inr (some h))] σ = x_b (x_run d) x_X0 x_TX (x_C 64) (x_f d 64) 3000 (x_suf (x_C 64) 0) [some (.inr (.inr (some h))), none] [] σ := x_feq d 64 0 [some (.inr (.inr (some h))), none] [] σ
theorem r65 (d : Nat) (h : Nat) (i1 : Int32) (σ : xS) : x_run (d + 1) 65 [.inr (.inr (some h)), .inl i1] σ = x_b (x_run d) x_X0 x_TX (x_C 65) (x_f d 65) 3000 (x_suf (x_C 65) 0) [some (.inr (.inr (some h))), some (.inl i1)] [] σ := x_feq d 65 0 [some (.inr (.inr (some h))), some (.inl i1)] [] σ
theorem r66 (d : Nat) (h : Nat) (q1 : Option Nat) (σ : xS) : x_run (d + 1) 66 [.inr (.inr (some h)), .inr (.inr q1)] σ = x_b (x_run d) x_X0 x_TX (x_C 66) (x_f d 66) 3000 (x_suf (x_C 66) 0) [some (.inr (.inr (some h))), some (.inr (.inr q1)), none] [] σ := x_feq d 66 0 [some (.inr (.inr (some h))), some (.inr (.inr q1)), none] [] σ
theorem r67 (d : Nat) (h : Nat) (i1 : Int32) (i2 : Int32) (i3 : Int32) (σ : xS) : x_run (d + 1) 67 [.inr (.inr (some h)), .inl i1, .inl i2, .inl i3] σ = x_b (x_run d) x_X0 x_TX (x_C 67) (x_f d 67) 3000 (x_suf (x_C 67) 0) [some (.inr (.inr (some h))), some (.inl i1), some (.inl i2), some (.inl i3), none] [] σ := x_feq d 67 0 [some (.inr (.inr (some h))), some (.inl i1), some (.inl i2), some (.inl i3), none] [] σ
theorem r68 (d : Nat) (h : Nat) (i1 : Int32) (i2 : Int32) (i3 : Int32) (σ : xS) : x_run (d + 1) 68 [.inr (.inr (some h)), .inl i1, .inl i2, .inl i3] σ = x_b (x_run d) x_X0 x_TX (x_C 68) (x_f d 68) 3000 (x_suf (x_C 68) 0) [some (.inr (.inr (some h))), some (.inl i1), some (.inl i2), some (.inl i3)] [] σ := x_feq d 68 0 [some (.inr (.inr (some h))), some (.inl i1), some (.inl i2), some (.inl i3)] [] σ
theorem r69 (d : Nat) (h : Nat) (i1 : Int32) (σ : xS) : x_run (d + 1) 69 [.inr (.inr (some h)), .inl i1] σ = x_b (x_run d) x_X0 x_TX (x_C 69) (x_f d 69) 3000 (x_suf (x_C 69) 0) [some (.inr (.inr (some h))), some (.inl i1), none, none] [] σ := x_feq d 69 0 [some (.inr (.inr (some h))), some (.inl i1), none, none] [] σ
theorem r70 (d : Nat) (h : Nat) (q1 : Option Nat) (q2 : Option Nat) (σ : xS) : x_run (d + 1) 70 [.inr (.inr (some h)), .inr (.inr q1), .inr (.inr q2)] σ = x_b (x_run d) x_X0 x_TX (x_C 70) (x_f d 70) 3000 (x_suf (x_C 70) 0) [some (.inr (.inr (some h))), some (.inr (.inr q1)), some (.inr (.inr q2)), none, none, none, none, none, none] [] σ := x_feq d 70 0 [some (.inr (.inr (some h))), some (.inr (.inr q1)), some (.inr (.inr q2)), none, none, none, none, none, none] [] σ
theorem r71 (d : Nat) (h : Nat) (i1 : Int32) (σ : xS) : x_run (d + 1) 71 [.inr (.inr (some h)), .inl i1] σ = x_b (x_run d) x_X0 x_TX (x_C 71) (x_f d 71) 3000 (x_suf (x_C 71) 0) [some (.inr (.inr (some h))), some (.inl i1), none, none] [] σ := x_feq d 71 0 [some (.inr (.inr (some h))), some (.inl i1), none, none] [] σ
theorem r72 (d : Nat) (h : Nat) (i1 : Int32) (σ : xS) : x_run (d + 1) 72 [.inr (.inr (some h)), .inl i1] σ = x_b (x_run d) x_X0 x_TX (x_C 72) (x_f d 72) 3000 (x_suf (x_C 72) 0) [some (.inr (.inr (some h))), some (.inl i1), none, none, none] [] σ := x_feq d 72 0 [some (.inr (.inr (some h))), some (.inl i1), none, none, none] [] σ
theorem r73 (d : Nat) (h : Nat) (i1 : Int32) (σ : xS) : x_run (d + 1) 73 [.inr (.inr (some h)), .inl i1] σ = x_b (x_run d) x_X0 x_TX (x_C 73) (x_f d 73) 3000 (x_suf (x_C 73) 0) [some (.inr (.inr (some h))), some (.inl i1), none, none, none, none, none] [] σ := x_feq d 73 0 [some (.inr (.inr (some h))), some (.inl i1), none, none, none, none, none] [] σ
theorem r74 (d : Nat) (h : Nat) (i1 : Int32) (σ : xS) : x_run (d + 1) 74 [.inr (.inr (some h)), .inl i1] σ = x_b (x_run d) x_X0 x_TX (x_C 74) (x_f d 74) 3000 (x_suf (x_C 74) 0) [some (.inr (.inr (some h))), some (.inl i1), none, none, none, none] [] σ := x_feq d 74 0 [some (.inr (.inr (some h))), some (.inl i1), none, none, none, none] [] σ
theorem r223 (d : Nat) (i0 : Int32) (σ : xS) : x_run (d + 1) 223 [.inl i0] σ = x_b (x_run d) x_X0 x_TX (x_C 223) (x_f d 223) 3000 (x_suf (x_C 223) 0) [some (.inl i0)] [] σ := x_feq d 223 0 [some (.inl i0)] [] σ
theorem r224 (d : Nat) (q0 : Option Nat) (j1 : Int64) (σ : xS) : x_run (d + 1) 224 [.inr (.inr q0), .inr (.inl j1)] σ = x_b (x_run d) x_X0 x_TX (x_C 224) (x_f d 224) 3000 (x_suf (x_C 224) 0) [some (.inr (.inr q0)), some (.inr (.inl j1)), none, none, none] [] σ := x_feq d 224 0 [some (.inr (.inr q0)), some (.inr (.inl j1)), none, none, none] [] σ
theorem r225 (d : Nat) (q0 : Option Nat) (i1 : Int32) (σ : xS) : x_run (d + 1) 225 [.inr (.inr q0), .inl i1] σ = x_b (x_run d) x_X0 x_TX (x_C 225) (x_f d 225) 3000 (x_suf (x_C 225) 0) [some (.inr (.inr q0)), some (.inl i1), none, none] [] σ := x_feq d 225 0 [some (.inr (.inr q0)), some (.inl i1), none, none] [] σ
end
