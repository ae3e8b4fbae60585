/-! what the small machine makes of each piece of code: by program (wip/whole/gen5.py); the kernel compares -/
section
set_option maxRecDepth 100000 in
set_option maxHeartbeats 1000000 in
/-- I.<init> -/
theorem e75_0 (O : Nat → List xV → xS → Option xR) (k : Nat → xF) (h : Nat) (σ : xS) : x_b O x_X0 x_TX (x_C 75) k 3000 (x_suf (x_C 75) 0) [some (.inr (.inr (some h))), none] [] σ =
  (bif Nat.blt (σ).1.length 900 then
  (x_cv (O 64 [.inr (.inr (some (σ).1.length))] (x_new σ 8 0)) fun σ1 =>
  (x_ck σ1 h 9 <|
  k 15 [some (.inr (.inr (some h))), none] [] (x_sr σ1 h 0 (some (σ).1.length)))) else none) := rfl
set_option maxRecDepth 100000 in
set_option maxHeartbeats 1000000 in
/-- I.<init> -/
theorem e75_15 (O : Nat → List xV → xS → Option xR) (k : Nat → xF) (h : Nat) (σ : xS) : x_b O x_X0 x_TX (x_C 75) k 3000 (x_suf (x_C 75) 15) [some (.inr (.inr (some h))), none] [] σ =
  (bif Nat.blt (σ).1.length 900 then
  (x_cv (O 64 [.inr (.inr (some (σ).1.length))] (x_new σ 8 0)) fun σ1 =>
  (x_ck σ1 h 9 <|
  (bif Nat.blt (x_sr σ1 h 1 (some (σ).1.length)).1.length 900 then
  (x_cv (O 64 [.inr (.inr (some (x_sr σ1 h 1 (some (σ).1.length)).1.length))] (x_new (x_sr σ1 h 1 (some (σ).1.length)) 8 0)) fun σ2 =>
  (x_ck σ2 h 9 <|
  k 37 [some (.inr (.inr (some h))), none] [] (x_sr σ2 h 2 (some (x_sr σ1 h 1 (some (σ).1.length)).1.length)))) else none))) else none) := rfl
set_option maxRecDepth 100000 in
set_option maxHeartbeats 1000000 in
/-- I.<init> -/
theorem e75_37 (O : Nat → List xV → xS → Option xR) (k : Nat → xF) (h : Nat) (σ : xS) : x_b O x_X0 x_TX (x_C 75) k 3000 (x_suf (x_C 75) 37) [some (.inr (.inr (some h))), none] [] σ =
  (x_ck σ h 9 <|
  (bif Nat.blt (x_si σ h 3 0).1.length 900 then
  (x_cv (O 38 [.inr (.inr (some (x_si σ h 3 0).1.length))] (x_new (x_si σ h 3 0) 6 0)) fun σ1 =>
  (x_ck σ1 h 9 <|
  k 53 [some (.inr (.inr (some h))), none] [] (x_sr σ1 h 4 (some (x_si σ h 3 0).1.length)))) else none)) := rfl
set_option maxRecDepth 100000 in
set_option maxHeartbeats 1000000 in
/-- I.<init> -/
theorem e75_53 (O : Nat → List xV → xS → Option xR) (k : Nat → xF) (h : Nat) (σ : xS) : x_b O x_X0 x_TX (x_C 75) k 3000 (x_suf (x_C 75) 53) [some (.inr (.inr (some h))), none] [] σ =
  (bif Nat.blt (σ).1.length 900 then
  (x_cv (O 56 [.inr (.inr (some (σ).1.length))] (x_new σ 7 0)) fun σ1 =>
  (x_ck σ1 h 9 <|
  (bif Nat.blt (x_sr σ1 h 5 (some (σ).1.length)).1.length 900 then
  (x_ck (x_new (x_sr σ1 h 5 (some (σ).1.length)) 15 ((6 : Int32).toNatClampNeg)) h 9 <|
  k 73 [some (.inr (.inr (some h))), none] [] (x_sr (x_new (x_sr σ1 h 5 (some (σ).1.length)) 15 ((6 : Int32).toNatClampNeg)) h 6 (some (x_sr σ1 h 5 (some (σ).1.length)).1.length))) else none))) else none) := rfl
set_option maxRecDepth 100000 in
set_option maxHeartbeats 1000000 in
/-- I.<init> -/
theorem e75_73 (O : Nat → List xV → xS → Option xR) (k : Nat → xF) (h : Nat) (σ : xS) : x_b O x_X0 x_TX (x_C 75) k 3000 (x_suf (x_C 75) 73) [some (.inr (.inr (some h))), none] [] σ =
  (x_ck σ h 9 <|
  (bif Nat.blt (x_si σ h 7 1).1.length 900 then
  (x_ck (x_new (x_si σ h 7 1) 14 ((4 : Int32).toNatClampNeg)) h 9 <|
  (bif Nat.blt (x_sr (x_new (x_si σ h 7 1) 14 ((4 : Int32).toNatClampNeg)) h 8 (some (x_si σ h 7 1).1.length)).1.length 900 then
  (x_cv (O 10 [.inr (.inr (some (x_sr (x_new (x_si σ h 7 1) 14 ((4 : Int32).toNatClampNeg)) h 8 (some (x_si σ h 7 1).1.length)).1.length))] (x_new (x_sr (x_new (x_si σ h 7 1) 14 ((4 : Int32).toNatClampNeg)) h 8 (some (x_si σ h 7 1).1.length)) 2 0)) fun σ1 =>
  (x_ck σ1 h 9 <|
  k 97 [some (.inr (.inr (some h))), none] [] (x_sr σ1 h 9 (some (x_sr (x_new (x_si σ h 7 1) 14 ((4 : Int32).toNatClampNeg)) h 8 (some (x_si σ h 7 1).1.length)).1.length)))) else none)) else none)) := rfl
set_option maxRecDepth 100000 in
set_option maxHeartbeats 1000000 in
/-- I.<init> -/
theorem e75_97 (O : Nat → List xV → xS → Option xR) (k : Nat → xF) (h : Nat) (σ : xS) : x_b O x_X0 x_TX (x_C 75) k 3000 (x_suf (x_C 75) 97) [some (.inr (.inr (some h))), none] [] σ =
  (bif Nat.blt (σ).1.length 900 then
  (x_cv (O 7 [.inr (.inr (some (σ).1.length))] (x_new σ 1 0)) fun σ1 =>
  (x_ck σ1 h 9 <|
  (bif Nat.blt (x_sr σ1 h 10 (some (σ).1.length)).1.length 900 then
  (x_cv (O 25 [.inr (.inr (some (x_sr σ1 h 10 (some (σ).1.length)).1.length))] (x_new (x_sr σ1 h 10 (some (σ).1.length)) 4 0)) fun σ2 =>
  (x_ck σ2 h 9 <|
  k 119 [some (.inr (.inr (some h))), none] [] (x_sr σ2 h 11 (some (x_sr σ1 h 10 (some (σ).1.length)).1.length)))) else none))) else none) := rfl
set_option maxRecDepth 100000 in
set_option maxHeartbeats 1000000 in
/-- I.<init> -/
theorem e75_119 (O : Nat → List xV → xS → Option xR) (k : Nat → xF) (h : Nat) (σ : xS) : x_b O x_X0 x_TX (x_C 75) k 3000 (x_suf (x_C 75) 119) [some (.inr (.inr (some h))), none] [] σ =
  (bif Nat.blt (σ).1.length 900 then
  (x_cv (O 0 [.inr (.inr (some (σ).1.length))] (x_new σ 0 0)) fun σ1 =>
  (x_ck σ1 h 9 <|
  (bif Nat.blt (x_sr σ1 h 12 (some (σ).1.length)).1.length 900 then
  (x_cv (O 22 [.inr (.inr (some (x_sr σ1 h 12 (some (σ).1.length)).1.length))] (x_new (x_sr σ1 h 12 (some (σ).1.length)) 3 0)) fun σ2 =>
  (x_ck σ2 h 9 <|
  k 141 [some (.inr (.inr (some h))), none] [] (x_sr σ2 h 13 (some (x_sr σ1 h 12 (some (σ).1.length)).1.length)))) else none))) else none) := rfl
set_option maxRecDepth 100000 in
set_option maxHeartbeats 1000000 in
/-- I.<init> -/
theorem e75_141 (O : Nat → List xV → xS → Option xR) (k : Nat → xF) (h : Nat) (σ : xS) : x_b O x_X0 x_TX (x_C 75) k 3000 (x_suf (x_C 75) 141) [some (.inr (.inr (some h))), none] [] σ =
  (x_ck σ h 9 <|
  (x_ck σ h 9 <|
  (x_der (x_Q σ h 6) fun a1 => x_aq σ a1 fun n2 => x_ix 0 n2 <|
  x_der (x_Q σ h 5) fun a3 => x_ck σ a3 (x_ec (x_nth σ.1 a1).1) <|
  k 153 [some (.inr (.inr (some h))), some (.inl 1)] [] (x_sr σ a1 (0 : Int32).toNatClampNeg (some a3))))) := rfl
set_option maxRecDepth 100000 in
set_option maxHeartbeats 1000000 in
/-- I.<init> -/
theorem e75_153 (O : Nat → List xV → xS → Option xR) (k : Nat → xF) (h : Nat) (i1 : Int32) (σ : xS) : x_b O x_X0 x_TX (x_C 75) k 3000 (x_suf (x_C 75) 153) [some (.inr (.inr (some h))), some (.inl i1)] [] σ =
  (x_ck σ h 9 <|
  (x_der (x_Q σ h 6) fun a1 => x_aa σ a1 fun n2 => (if (Int32.ofNat n2) ≤ i1 then
    k 183 [some (.inr (.inr (some h))), some (.inl 0)] [] σ
  else
    (x_ck σ h 9 <|
    (bif Nat.blt (σ).1.length 900 then
    (x_cv (O 56 [.inr (.inr (some (σ).1.length))] (x_new σ 7 0)) fun σ3 =>
    (x_der (x_Q σ h 6) fun a4 => x_aq σ3 a4 fun n5 => x_ix i1 n5 <|
    x_ck σ3 ((σ).1.length) (x_ec (x_nth σ3.1 a4).1) <|
    k 175 [some (.inr (.inr (some h))), some (.inl i1)] [] (x_sr σ3 a4 (i1).toNatClampNeg (some ((σ).1.length))))) else none))))) := rfl
set_option maxRecDepth 100000 in
set_option maxHeartbeats 1000000 in
/-- I.<init> -/
theorem e75_175 (O : Nat → List xV → xS → Option xR) (k : Nat → xF) (h : Nat) (i1 : Int32) (σ : xS) : x_b O x_X0 x_TX (x_C 75) k 3000 (x_suf (x_C 75) 175) [some (.inr (.inr (some h))), some (.inl i1)] [] σ =
  k 153 [some (.inr (.inr (some h))), some (.inl (i1 + 1))] [] σ := rfl
set_option maxRecDepth 100000 in
set_option maxHeartbeats 1000000 in
/-- I.<init> -/
theorem e75_183 (O : Nat → List xV → xS → Option xR) (k : Nat → xF) (h : Nat) (i1 : Int32) (σ : xS) : x_b O x_X0 x_TX (x_C 75) k 3000 (x_suf (x_C 75) 183) [some (.inr (.inr (some h))), some (.inl i1)] [] σ =
  (x_ck σ h 9 <|
  (x_der (x_Q σ h 8) fun a1 => x_aa σ a1 fun n2 => (if (Int32.ofNat n2) ≤ i1 then
    k 213 [some (.inr (.inr (some h))), some (.inl 0)] [] σ
  else
    (x_ck σ h 9 <|
    (bif Nat.blt (σ).1.length 900 then
    (x_cv (O 29 [.inr (.inr (some (σ).1.length))] (x_new σ 5 0)) fun σ3 =>
    (x_der (x_Q σ h 8) fun a4 => x_aq σ3 a4 fun n5 => x_ix i1 n5 <|
    x_ck σ3 ((σ).1.length) (x_ec (x_nth σ3.1 a4).1) <|
    k 183 [some (.inr (.inr (some h))), some (.inl (i1 + 1))] [] (x_sr σ3 a4 (i1).toNatClampNeg (some ((σ).1.length))))) else none))))) := rfl
set_option maxRecDepth 100000 in
set_option maxHeartbeats 1000000 in
/-- I.<init> -/
theorem e75_213 (O : Nat → List xV → xS → Option xR) (k : Nat → xF) (h : Nat) (i1 : Int32) (σ : xS) : x_b O x_X0 x_TX (x_C 75) k 3000 (x_suf (x_C 75) 213) [some (.inr (.inr (some h))), some (.inl i1)] [] σ =
  (bif Nat.ble 1000 1000 && Nat.blt 1000 1013 then k 219 [some (.inr (.inr (some h))), some (.inl i1)] [.inl (Int32.ofNat (x_TX 1000).length), .inl i1] σ else none) := rfl
set_option maxRecDepth 100000 in
set_option maxHeartbeats 1000000 in
/-- I.<init> -/
theorem e75_219 (O : Nat → List xV → xS → Option xR) (k : Nat → xF) (h : Nat) (i1 : Int32) (s0 : Int32) (s1 : Int32) (σ : xS) : x_b O x_X0 x_TX (x_C 75) k 3000 (x_suf (x_C 75) 219) [some (.inr (.inr (some h))), some (.inl i1)] [.inl s0, .inl s1] σ =
  (if s0 ≤ s1 then
    (x_ck σ h 9 <|
    (x_der (x_Q σ h 4) fun a1 => x_ck σ a1 6 <|
    x_ci (O 40 [.inr (.inr (x_Q σ h 4))] σ) fun x3 σ2 =>
    k 248 [some (.inr (.inr (some h))), none] [.inl x3] σ2))
  else
    (x_ck σ h 9 <|
    (bif Nat.ble 1000 1000 && Nat.blt 1000 1013 then x_ix i1 (x_TX 1000).length <|
    (x_der (x_Q σ h 4) fun a4 => x_ck σ a4 6 <|
    x_cv (O 39 [.inr (.inr (x_Q σ h 4)), .inl ((x_TX 1000).getD (i1).toNatClampNeg 0)] σ) fun σ5 =>
    k 213 [some (.inr (.inr (some h))), some (.inl (i1 + 1))] [] σ5) else none))) := rfl
set_option maxRecDepth 100000 in
set_option maxHeartbeats 1000000 in
/-- I.<init> -/
theorem e75_248 (O : Nat → List xV → xS → Option xR) (k : Nat → xF) (h : Nat) (s0 : Int32) (σ : xS) : x_b O x_X0 x_TX (x_C 75) k 3000 (x_suf (x_C 75) 248) [some (.inr (.inr (some h))), none] [.inl s0] σ =
  (x_ck σ h 9 <|
  (x_ck σ h 9 <|
  (x_der (x_Q σ h 4) fun a1 => x_ck σ a1 6 <|
  (x_der (x_Q σ h 5) fun a2 => x_ck σ a2 7 <|
  x_cv (O 60 [.inr (.inr (x_Q σ h 5)), .inr (.inr (x_Q σ a1 1))] σ) fun σ3 =>
  (some (none, σ3)))))) := rfl
set_option maxRecDepth 100000 in
set_option maxHeartbeats 1000000 in
/-- I.count -/
theorem e76_0 (O : Nat → List xV → xS → Option xR) (k : Nat → xF) (h : Nat) (i1 : Int32) (σ : xS) : x_b O x_X0 x_TX (x_C 76) k 3000 (x_suf (x_C 76) 0) [some (.inr (.inr (some h))), some (.inl i1)] [] σ =
  (if i1 = 0 then
    (x_ck σ h 9 <|
    (x_der (x_Q σ h 0) fun a7 => x_ck σ a7 8 <|
    (some (some (.inl (x_I σ a7 1)), σ))))
  else
    (if i1 = 1 then
    (x_ck σ h 9 <|
    (x_der (x_Q σ h 0) fun a6 => x_ck σ a6 8 <|
    (some (some (.inl (x_I σ a6 2)), σ))))
  else
    (if i1 = 2 then
    (x_ck σ h 9 <|
    (x_der (x_Q σ h 0) fun a5 => x_ck σ a5 8 <|
    (some (some (.inl (x_I σ a5 3)), σ))))
  else
    (if i1 = 3 then
    (x_ck σ h 9 <|
    (x_der (x_Q σ h 0) fun a4 => x_ck σ a4 8 <|
    (some (some (.inl (x_I σ a4 4)), σ))))
  else
    (if i1 = 4 then
    (x_ck σ h 9 <|
    (x_der (x_Q σ h 0) fun a3 => x_ck σ a3 8 <|
    (some (some (.inl (x_I σ a3 5)), σ))))
  else
    (if i1 = 5 then
    (x_ck σ h 9 <|
    (some (some (.inl (x_I σ h 7)), σ)))
  else
    (if i1 = 6 then
    (x_ck σ h 9 <|
    (x_der (x_Q σ h 0) fun a2 => x_ck σ a2 8 <|
    (some (some (.inl (x_I σ a2 6)), σ))))
  else
    (if i1 = 7 then
    (x_ck σ h 9 <|
    (x_der (x_Q σ h 4) fun a1 => x_ck σ a1 6 <|
    (some (some (.inl (x_I σ a1 2)), σ))))
  else
    (some (some (.inl (-2)), σ)))))))))) := rfl
set_option maxRecDepth 100000 in
set_option maxHeartbeats 1000000 in
/-- I.set -/
theorem e77_0 (O : Nat → List xV → xS → Option xR) (k : Nat → xF) (h : Nat) (i1 : Int32) (i2 : Int32) (σ : xS) : x_b O x_X0 x_TX (x_C 77) k 3000 (x_suf (x_C 77) 0) [some (.inr (.inr (some h))), some (.inl i1), some (.inl i2), none] [] σ =
  (if i1 < 0 then
    (some (some (.inl (-5)), σ))
  else
    (if i1 ≤ 1 then
      (x_ci (O 126 [.inl i2, .inl 0, .inl 99999] σ) fun x2 σ1 =>
      (if x2 = 0 then
        (some (some (.inl (-7)), σ1))
      else
        (if i1 = 0 then
          (x_ck σ1 h 9 <|
          (x_der (x_Q σ1 h 0) fun a4 => x_ck σ1 a4 8 <|
          k 46 [some (.inr (.inr (some h))), some (.inl i1), some (.inl i2), none] [.inl (x_I σ1 a4 4)] σ1))
        else
          (x_ck σ1 h 9 <|
          (x_der (x_Q σ1 h 0) fun a3 => x_ck σ1 a3 8 <|
          k 46 [some (.inr (.inr (some h))), some (.inl i1), some (.inl i2), none] [.inl (x_I σ1 a3 5)] σ1)))))
    else
      (some (some (.inl (-5)), σ)))) := rfl
set_option maxRecDepth 100000 in
set_option maxHeartbeats 1000000 in
/-- I.set -/
theorem e77_46 (O : Nat → List xV → xS → Option xR) (k : Nat → xF) (h : Nat) (i1 : Int32) (i2 : Int32) (s0 : Int32) (σ : xS) : x_b O x_X0 x_TX (x_C 77) k 3000 (x_suf (x_C 77) 46) [some (.inr (.inr (some h))), some (.inl i1), some (.inl i2), none] [.inl s0] σ =
  (if i1 = 0 then
    (x_ck σ h 9 <|
    (x_der (x_Q σ h 0) fun a2 => x_ck σ a2 8 <|
    (some (some (.inl s0), x_si σ a2 4 i2))))
  else
    (x_ck σ h 9 <|
    (x_der (x_Q σ h 0) fun a1 => x_ck σ a1 8 <|
    (some (some (.inl s0), x_si σ a1 5 i2))))) := rfl
set_option maxRecDepth 100000 in
set_option maxHeartbeats 1000000 in
/-- I.feed -/
theorem e78_0 (O : Nat → List xV → xS → Option xR) (k : Nat → xF) (h : Nat) (i1 : Int32) (i2 : Int32) (i3 : Int32) (i4 : Int32) (i5 : Int32) (i6 : Int32) (σ : xS) : x_b O x_X0 x_TX (x_C 78) k 3000 (x_suf (x_C 78) 0) [some (.inr (.inr (some h))), some (.inl i1), some (.inl i2), some (.inl i3), some (.inl i4), some (.inl i5), some (.inl i6), none] [] σ =
  (x_ci (O 126 [.inl i1, .inl 1, .inl 5] σ) fun x2 σ1 =>
  (if x2 = 0 then
    (some (some (.inl (-2)), σ1))
  else
    (x_ci (O 127 [.inl i2] σ1) fun x4 σ3 =>
    (if x4 = 0 then
      (some (some (.inl (-2)), σ3))
    else
      (x_ci (O 127 [.inl i3] σ3) fun x6 σ5 =>
      (if x6 = 0 then
        (some (some (.inl (-2)), σ5))
      else
        (x_ci (O 127 [.inl i4] σ5) fun x8 σ7 =>
        (if x8 = 0 then
          (some (some (.inl (-2)), σ7))
        else
          (x_ci (O 127 [.inl i5] σ7) fun x10 σ9 =>
          (if x10 = 0 then
            (some (some (.inl (-2)), σ9))
          else
            (x_ci (O 127 [.inl i6] σ9) fun x12 σ11 =>
            (if x12 = 0 then
              (some (some (.inl (-2)), σ11))
            else
              (x_ck σ11 h 9 <|
              (x_der (x_Q σ11 h 4) fun a13 => x_ck σ11 a13 6 <|
              (if ((x_I σ11 a13 2) + i1) ≤ 160 then
                k 71 [some (.inr (.inr (some h))), some (.inl i1), some (.inl i2), some (.inl i3), some (.inl i4), some (.inl i5), some (.inl i6), some (.inl 0)] [] σ11
              else
                (some (some (.inl (-4)), σ11))))))))))))))))) := rfl
set_option maxRecDepth 100000 in
set_option maxHeartbeats 1000000 in
/-- I.feed -/
theorem e78_71 (O : Nat → List xV → xS → Option xR) (k : Nat → xF) (h : Nat) (i1 : Int32) (i2 : Int32) (i3 : Int32) (i4 : Int32) (i5 : Int32) (i6 : Int32) (i7 : Int32) (σ : xS) : x_b O x_X0 x_TX (x_C 78) k 3000 (x_suf (x_C 78) 71) [some (.inr (.inr (some h))), some (.inl i1), some (.inl i2), some (.inl i3), some (.inl i4), some (.inl i5), some (.inl i6), some (.inl i7)] [] σ =
  (if i1 ≤ i7 then
    (x_ck σ h 9 <|
    (x_der (x_Q σ h 4) fun a1 => x_ck σ a1 6 <|
    (some (some (.inl (x_I σ a1 2)), σ))))
  else
    (x_ck σ h 9 <|
    (if i7 = 0 then
      (x_der (x_Q σ h 4) fun a10 => x_ck σ a10 6 <|
      x_cv (O 39 [.inr (.inr (x_Q σ h 4)), .inl i2] σ) fun σ11 =>
      k 71 [some (.inr (.inr (some h))), some (.inl i1), some (.inl i2), some (.inl i3), some (.inl i4), some (.inl i5), some (.inl i6), some (.inl (i7 + 1))] [] σ11)
    else
      (if i7 = 1 then
        (x_der (x_Q σ h 4) fun a8 => x_ck σ a8 6 <|
        x_cv (O 39 [.inr (.inr (x_Q σ h 4)), .inl i3] σ) fun σ9 =>
        k 71 [some (.inr (.inr (some h))), some (.inl i1), some (.inl i2), some (.inl i3), some (.inl i4), some (.inl i5), some (.inl i6), some (.inl (i7 + 1))] [] σ9)
      else
        (if i7 = 2 then
          (x_der (x_Q σ h 4) fun a6 => x_ck σ a6 6 <|
          x_cv (O 39 [.inr (.inr (x_Q σ h 4)), .inl i4] σ) fun σ7 =>
          k 71 [some (.inr (.inr (some h))), some (.inl i1), some (.inl i2), some (.inl i3), some (.inl i4), some (.inl i5), some (.inl i6), some (.inl (i7 + 1))] [] σ7)
        else
          (if i7 = 3 then
            (x_der (x_Q σ h 4) fun a4 => x_ck σ a4 6 <|
            x_cv (O 39 [.inr (.inr (x_Q σ h 4)), .inl i5] σ) fun σ5 =>
            k 71 [some (.inr (.inr (some h))), some (.inl i1), some (.inl i2), some (.inl i3), some (.inl i4), some (.inl i5), some (.inl i6), some (.inl (i7 + 1))] [] σ5)
          else
            (x_der (x_Q σ h 4) fun a2 => x_ck σ a2 6 <|
            x_cv (O 39 [.inr (.inr (x_Q σ h 4)), .inl i6] σ) fun σ3 =>
            k 71 [some (.inr (.inr (some h))), some (.inl i1), some (.inl i2), some (.inl i3), some (.inl i4), some (.inl i5), some (.inl i6), some (.inl (i7 + 1))] [] σ3))))))) := rfl
set_option maxRecDepth 100000 in
set_option maxHeartbeats 1000000 in
/-- I.text -/
theorem e79_0 (O : Nat → List xV → xS → Option xR) (k : Nat → xF) (h : Nat) (σ : xS) : x_b O x_X0 x_TX (x_C 79) k 3000 (x_suf (x_C 79) 0) [some (.inr (.inr (some h))), none] [] σ =
  (x_ck σ h 9 <|
  (if (x_I σ h 7) < 6 then
    (x_ck σ h 9 <|
    (x_der (x_Q σ h 4) fun a1 => x_ck σ a1 6 <|
    x_ci (O 40 [.inr (.inr (x_Q σ h 4))] σ) fun x3 σ2 =>
    (if x3 = (-1) then
      (x_ck σ2 h 9 <|
      (x_ck σ2 h 9 <|
      (x_ck (x_si σ2 h 7 ((x_I σ2 h 7) + 1)) h 9 <|
      (x_ck (x_si σ2 h 7 ((x_I σ2 h 7) + 1)) h 9 <|
      x_cr (O 119 [.inr (.inr (some h)), .inl ((x_I (x_si σ2 h 7 ((x_I σ2 h 7) + 1)) h 7) - 1)] (x_si σ2 h 7 ((x_I σ2 h 7) + 1))) fun r5 σ4 =>
      (x_ck σ4 h 9 <|
      (x_der (x_Q σ4 h 4) fun a6 => x_ck σ4 a6 6 <|
      (x_der r5 fun a7 => x_ck σ4 a7 7 <|
      x_cv (O 60 [.inr (.inr r5), .inr (.inr (x_Q σ4 a6 1))] σ4) fun σ8 =>
      (x_ck σ8 h 9 <|
      (some (some (.inl ((x_I σ8 h 7) - 1)), σ8))))))))))
    else
      (some (some (.inl ((-100) - x3)), σ2)))))
  else
    (some (some (.inl (-4)), σ)))) := rfl
set_option maxRecDepth 100000 in
set_option maxHeartbeats 1000000 in
/-- I.force -/
theorem e80_0 (O : Nat → List xV → xS → Option xR) (k : Nat → xF) (h : Nat) (i1 : Int32) (σ : xS) : x_b O x_X0 x_TX (x_C 80) k 3000 (x_suf (x_C 80) 0) [some (.inr (.inr (some h))), some (.inl i1), none] [] σ =
  (if i1 < 0 then
    (some (some (.inl (-2)), σ))
  else
    (x_ck σ h 9 <|
    (if i1 < (x_I σ h 7) then
      (x_ck σ h 9 <|
      (x_der (x_Q σ h 0) fun a1 => x_ck σ a1 8 <|
      (x_ck σ h 9 <|
      (x_der (x_Q σ h 0) fun a2 => x_ck σ a2 8 <|
      (some (some (.inl (x_I σ a1 6)), x_si σ a2 6 i1))))))
    else
      (some (some (.inl (-2)), σ))))) := rfl
set_option maxRecDepth 100000 in
set_option maxHeartbeats 1000000 in
/-- I.asks -/
theorem e81_0 (O : Nat → List xV → xS → Option xR) (k : Nat → xF) (h : Nat) (i1 : Int32) (i2 : Int32) (i3 : Int32) (i4 : Int32) (σ : xS) : x_b O x_X0 x_TX (x_C 81) k 3000 (x_suf (x_C 81) 0) [some (.inr (.inr (some h))), some (.inl i1), some (.inl i2), some (.inl i3), some (.inl i4), none] [] σ =
  (x_ck σ h 9 <|
  (x_der (x_Q σ h 0) fun a1 => x_ck σ a1 8 <|
  x_cr (O 65 [.inr (.inr (x_Q σ h 0)), .inl i2] σ) fun r3 σ2 =>
  (x_ci (O 126 [.inl i1, .inl 0, .inl 2] σ2) fun x5 σ4 =>
  (if x5 = 0 then
    (some (some (.inl (-2)), σ4))
  else
    (x_nul r3
      (some (some (.inl (-2)), σ4))
      (x_ci (O 126 [.inl i3, .inl 0, .inl 9999] σ4) fun x7 σ6 =>
      (if x7 = 0 then
        (some (some (.inl (-2)), σ6))
      else
        (x_ci (O 126 [.inl i4, .inl 0, .inl 999] σ6) fun x9 σ8 =>
        (if x9 = 0 then
          (some (some (.inl (-2)), σ8))
        else
          (x_ck σ8 h 9 <|
          x_cr (O 120 [.inr (.inr (some h))] σ8) fun r11 σ10 =>
          (x_der r11 fun a12 => x_ck σ10 a12 7 <|
          x_ci (O 61 [.inr (.inr r11), .inl i1, .inr (.inr r3), .inl (i3 / 100), .inl (i3 - i3 / 100 * 100), .inl i4] σ10) fun x14 σ13 =>
          (some (some (.inl x14), σ13))))))))))))) := rfl
set_option maxRecDepth 100000 in
set_option maxHeartbeats 1000000 in
/-- I.life -/
theorem e82_0 (O : Nat → List xV → xS → Option xR) (k : Nat → xF) (h : Nat) (i1 : Int32) (i2 : Int32) (i3 : Int32) (σ : xS) : x_b O x_X0 x_TX (x_C 82) k 3000 (x_suf (x_C 82) 0) [some (.inr (.inr (some h))), some (.inl i1), some (.inl i2), some (.inl i3)] [] σ =
  (x_ck σ h 9 <|
  (x_der (x_Q σ h 0) fun a1 => x_ck σ a1 8 <|
  x_ci (O 67 [.inr (.inr (x_Q σ h 0)), .inl i1, .inl i2, .inl i3] σ) fun x3 σ2 =>
  (some (some (.inl x3), σ2)))) := rfl
set_option maxRecDepth 100000 in
set_option maxHeartbeats 1000000 in
/-- I.put -/
theorem e83_0 (O : Nat → List xV → xS → Option xR) (k : Nat → xF) (h : Nat) (i1 : Int32) (i2 : Int32) (i3 : Int32) (σ : xS) : x_b O x_X0 x_TX (x_C 83) k 3000 (x_suf (x_C 83) 0) [some (.inr (.inr (some h))), some (.inl i1), some (.inl i2), some (.inl i3), none, none] [] σ =
  (x_ck σ h 9 <|
  (x_der (x_Q σ h 0) fun a1 => x_ck σ a1 8 <|
  x_cr (O 65 [.inr (.inr (x_Q σ h 0)), .inl i1] σ) fun r3 σ2 =>
  (x_nul r3
    (some (some (.inl (-5)), σ2))
    (x_ck σ2 h 9 <|
    (x_der (x_Q σ2 h 0) fun a4 => x_ck σ2 a4 8 <|
    x_ci (O 68 [.inr (.inr (x_Q σ2 h 0)), .inl i1, .inl i2, .inl i3] σ2) fun x6 σ5 =>
    (if x6 = 0 then
      (some (some (.inl (-7)), σ5))
    else
      (x_der r3 fun a7 => x_ck σ5 a7 2 <|
      x_ci (O 13 [.inr (.inr r3), .inl i2] σ5) fun x9 σ8 =>
      (x_der r3 fun a10 => x_ck σ8 a10 2 <|
      x_cv (O 14 [.inr (.inr r3), .inl i2, .inl i3] σ8) fun σ11 =>
      (some (some (.inl x9), σ11)))))))))) := rfl
set_option maxRecDepth 100000 in
set_option maxHeartbeats 1000000 in
/-- I.told -/
theorem e84_0 (O : Nat → List xV → xS → Option xR) (k : Nat → xF) (h : Nat) (i1 : Int32) (i2 : Int32) (σ : xS) : x_b O x_X0 x_TX (x_C 84) k 3000 (x_suf (x_C 84) 0) [some (.inr (.inr (some h))), some (.inl i1), some (.inl i2), none] [] σ =
  (x_ck σ h 9 <|
  (x_der (x_Q σ h 0) fun a1 => x_ck σ a1 8 <|
  x_cr (O 65 [.inr (.inr (x_Q σ h 0)), .inl i1] σ) fun r3 σ2 =>
  (x_nul r3
    (some (some (.inl (-5)), σ2))
    (x_ci (O 126 [.inl i2, .inl 0, .inl 7] σ2) fun x5 σ4 =>
    (if x5 = 0 then
      (some (some (.inl (-7)), σ4))
    else
      (x_der r3 fun a6 => x_ck σ4 a6 2 <|
      x_ci (O 13 [.inr (.inr r3), .inl i2] σ4) fun x8 σ7 =>
      (some (some (.inl x8), σ7)))))))) := rfl
set_option maxRecDepth 100000 in
set_option maxHeartbeats 1000000 in
/-- I.windfall -/
theorem e85_0 (O : Nat → List xV → xS → Option xR) (k : Nat → xF) (h : Nat) (i1 : Int32) (i2 : Int32) (σ : xS) : x_b O x_X0 x_TX (x_C 85) k 3000 (x_suf (x_C 85) 0) [some (.inr (.inr (some h))), some (.inl i1), some (.inl i2), none, none, none] [] σ =
  (x_ck σ h 9 <|
  (x_der (x_Q σ h 0) fun a1 => x_ck σ a1 8 <|
  x_cr (O 65 [.inr (.inr (x_Q σ h 0)), .inl i1] σ) fun r3 σ2 =>
  (x_nul r3
    (some (some (.inl (-5)), σ2))
    (x_ck σ2 h 9 <|
    x_cr (O 120 [.inr (.inr (some h))] σ2) fun r5 σ4 =>
    (x_ck σ4 h 9 <|
    (x_der (x_Q σ4 h 0) fun a6 => x_ck σ4 a6 8 <|
    (x_der r3 fun a7 => x_ck σ4 a7 2 <|
    (x_der r3 fun a8 => x_ck σ4 a8 2 <|
    x_ci (O 18 [.inr (.inr r3), .inr (.inr r5), .inl (x_I σ4 a6 2), .inl (x_I σ4 a7 7)] σ4) fun x10 σ9 =>
    (if i2 = 0 then
      (x_ck σ9 h 9 <|
      (x_der (x_Q σ9 h 0) fun a18 => x_ck σ9 a18 8 <|
      (x_der r3 fun a19 => x_ck σ9 a19 2 <|
      (x_der r3 fun a20 => x_ck σ9 a20 2 <|
      x_ci (O 16 [.inr (.inr r3), .inr (.inr r5), .inl (x_I σ9 a18 2), .inl (x_I σ9 a19 7)] σ9) fun x22 σ21 =>
      (some (some (.inl x22), σ21))))))
    else
      (if i2 = 1 then
      (some (some (.inl x10), σ9))
    else
      (if i2 = 2 then
      (x_der r3 fun a15 => x_ck σ9 a15 2 <|
      x_ci (O 20 [.inr (.inr r3), .inl x10] σ9) fun x17 σ16 =>
      (some (some (.inl x17), σ16)))
    else
      (if i2 = 3 then
      (x_ck σ9 h 9 <|
      (x_der (x_Q σ9 h 0) fun a11 => x_ck σ9 a11 8 <|
      (x_der r3 fun a12 => x_ck σ9 a12 2 <|
      x_ci (O 19 [.inr (.inr r3), .inr (.inr r5), .inl (x_I σ9 a11 2), .inl x10] σ9) fun x14 σ13 =>
      (some (some (.inl x14), σ13)))))
    else
      (some (some (.inl (-7)), σ9)))))))))))))) := rfl
set_option maxRecDepth 100000 in
set_option maxHeartbeats 1000000 in
/-- I.claim -/
theorem e86_0 (O : Nat → List xV → xS → Option xR) (k : Nat → xF) (h : Nat) (i1 : Int32) (i2 : Int32) (σ : xS) : x_b O x_X0 x_TX (x_C 86) k 3000 (x_suf (x_C 86) 0) [some (.inr (.inr (some h))), some (.inl i1), some (.inl i2), none] [] σ =
  (x_ck σ h 9 <|
  (x_der (x_Q σ h 0) fun a1 => x_ck σ a1 8 <|
  x_cr (O 65 [.inr (.inr (x_Q σ h 0)), .inl i1] σ) fun r3 σ2 =>
  (x_nul r3
    (some (some (.inl (-5)), σ2))
    (x_ci (O 126 [.inl i2, .inl 0, .inl 99999] σ2) fun x5 σ4 =>
    (if x5 = 0 then
      (some (some (.inl (-7)), σ4))
    else
      (x_der r3 fun a6 => x_ck σ4 a6 2 <|
      x_ci (O 20 [.inr (.inr r3), .inl i2] σ4) fun x8 σ7 =>
      (some (some (.inl x8), σ7)))))))) := rfl
set_option maxRecDepth 100000 in
set_option maxHeartbeats 1000000 in
/-- I.mean -/
theorem e87_0 (O : Nat → List xV → xS → Option xR) (k : Nat → xF) (h : Nat) (i1 : Int32) (i2 : Int32) (i3 : Int32) (σ : xS) : x_b O x_X0 x_TX (x_C 87) k 3000 (x_suf (x_C 87) 0) [some (.inr (.inr (some h))), some (.inl i1), some (.inl i2), some (.inl i3), none] [] σ =
  (x_ck σ h 9 <|
  (x_der (x_Q σ h 0) fun a1 => x_ck σ a1 8 <|
  x_cr (O 65 [.inr (.inr (x_Q σ h 0)), .inl i1] σ) fun r3 σ2 =>
  (x_nul r3
    (some (some (.inr (.inl (-4611686018427387904))), σ2))
    (x_ci (O 126 [.inl i2, .inl 0, .inl 6] σ2) fun x5 σ4 =>
    (if x5 = 0 then
      (some (some (.inr (.inl (-4611686018427387904))), σ4))
    else
      (x_ci (O 126 [.inl i3, .inl 0, .inl 1] σ4) fun x7 σ6 =>
      (if x7 = 0 then
        (some (some (.inr (.inl (-4611686018427387904))), σ6))
      else
        (x_ck σ6 h 9 <|
        (x_ck σ6 h 9 <|
        x_cr (O 120 [.inr (.inr (some h))] σ6) fun r9 σ8 =>
        (x_ck σ8 h 9 <|
        (x_der (x_Q σ8 h 0) fun a10 => x_ck σ8 a10 8 <|
        (x_der (x_Q σ6 h 11) fun a11 => x_ck σ8 a11 4 <|
        x_cv (O 27 [.inr (.inr (x_Q σ6 h 11)), .inr (.inr r3), .inr (.inr r9), .inl (x_I σ8 a10 2), .inl i2] σ8) fun σ12 =>
        (x_ck σ12 h 9 <|
        (x_der (x_Q σ12 h 11) fun a13 => x_ck σ12 a13 4 <|
        (x_ck σ12 h 9 <|
        (x_der (x_Q σ12 h 11) fun a14 => x_ck σ12 a14 4 <|
        (x_cl (O 131 [.inr (.inl (x_J σ12 a13 2)), .inr (.inl (x_J σ12 a14 1)), .inl i3] σ12) fun y16 σ15 =>
        (some (some (.inr (.inl y16)), σ15))))))))))))))))))) := rfl
set_option maxRecDepth 100000 in
set_option maxHeartbeats 1000000 in
/-- I.keeps -/
theorem e88_0 (O : Nat → List xV → xS → Option xR) (k : Nat → xF) (h : Nat) (i1 : Int32) (i2 : Int32) (i3 : Int32) (σ : xS) : x_b O x_X0 x_TX (x_C 88) k 3000 (x_suf (x_C 88) 0) [some (.inr (.inr (some h))), some (.inl i1), some (.inl i2), some (.inl i3), none] [] σ =
  (x_ck σ h 9 <|
  (x_der (x_Q σ h 0) fun a1 => x_ck σ a1 8 <|
  x_cr (O 65 [.inr (.inr (x_Q σ h 0)), .inl i1] σ) fun r3 σ2 =>
  (x_nul r3
    (some (some (.inr (.inl (-4611686018427387904))), σ2))
    (x_ci (O 126 [.inl i2, .inl 0, .inl 6] σ2) fun x5 σ4 =>
    (if x5 = 0 then
      (some (some (.inr (.inl (-4611686018427387904))), σ4))
    else
      (x_ci (O 126 [.inl i3, .inl 0, .inl 1] σ4) fun x7 σ6 =>
      (if x7 = 0 then
        (some (some (.inr (.inl (-4611686018427387904))), σ6))
      else
        (x_ck σ6 h 9 <|
        (x_ck σ6 h 9 <|
        x_cr (O 120 [.inr (.inr (some h))] σ6) fun r9 σ8 =>
        (x_ck σ8 h 9 <|
        (x_der (x_Q σ8 h 0) fun a10 => x_ck σ8 a10 8 <|
        (x_der (x_Q σ6 h 11) fun a11 => x_ck σ8 a11 4 <|
        x_cv (O 27 [.inr (.inr (x_Q σ6 h 11)), .inr (.inr r3), .inr (.inr r9), .inl (x_I σ8 a10 2), .inl i2] σ8) fun σ12 =>
        (x_ck σ12 h 9 <|
        (x_der (x_Q σ12 h 11) fun a13 => x_ck σ12 a13 4 <|
        (x_ck σ12 h 9 <|
        (x_der (x_Q σ12 h 11) fun a14 => x_ck σ12 a14 4 <|
        (x_cl (O 131 [.inr (.inl (x_J σ12 a13 3)), .inr (.inl (x_J σ12 a14 1)), .inl i3] σ12) fun y16 σ15 =>
        (some (some (.inr (.inl y16)), σ15))))))))))))))))))) := rfl
set_option maxRecDepth 100000 in
set_option maxHeartbeats 1000000 in
/-- I.likely -/
theorem e89_0 (O : Nat → List xV → xS → Option xR) (k : Nat → xF) (h : Nat) (i1 : Int32) (i2 : Int32) (i3 : Int32) (i4 : Int32) (σ : xS) : x_b O x_X0 x_TX (x_C 89) k 3000 (x_suf (x_C 89) 0) [some (.inr (.inr (some h))), some (.inl i1), some (.inl i2), some (.inl i3), some (.inl i4), none] [] σ =
  (x_ck σ h 9 <|
  (x_der (x_Q σ h 0) fun a1 => x_ck σ a1 8 <|
  x_cr (O 65 [.inr (.inr (x_Q σ h 0)), .inl i1] σ) fun r3 σ2 =>
  (x_nul r3
    (some (some (.inr (.inl (-4611686018427387904))), σ2))
    (x_ci (O 126 [.inl i2, .inl 0, .inl 6] σ2) fun x5 σ4 =>
    (if x5 = 0 then
      (some (some (.inr (.inl (-4611686018427387904))), σ4))
    else
      (x_ci (O 126 [.inl i3, .inl 0, .inl 6] σ4) fun x7 σ6 =>
      (if x7 = 0 then
        (some (some (.inr (.inl (-4611686018427387904))), σ6))
      else
        (x_ci (O 126 [.inl i4, .inl 0, .inl 1] σ6) fun x9 σ8 =>
        (if x9 = 0 then
          (some (some (.inr (.inl (-4611686018427387904))), σ8))
        else
          (x_ck σ8 h 9 <|
          (x_ck σ8 h 9 <|
          x_cr (O 120 [.inr (.inr (some h))] σ8) fun r11 σ10 =>
          (x_ck σ10 h 9 <|
          (x_der (x_Q σ10 h 0) fun a12 => x_ck σ10 a12 8 <|
          (x_der (x_Q σ8 h 11) fun a13 => x_ck σ10 a13 4 <|
          x_cv (O 27 [.inr (.inr (x_Q σ8 h 11)), .inr (.inr r3), .inr (.inr r11), .inl (x_I σ10 a12 2), .inl i2] σ10) fun σ14 =>
          (x_ck σ14 h 9 <|
          (x_der (x_Q σ14 h 11) fun a15 => x_ck σ14 a15 4 <|
          x_cl (O 26 [.inr (.inr (x_Q σ14 h 11)), .inl i3] σ14) fun y17 σ16 =>
          (x_ck σ16 h 9 <|
          (x_der (x_Q σ16 h 11) fun a18 => x_ck σ16 a18 4 <|
          (x_cl (O 131 [.inr (.inl y17), .inr (.inl (x_J σ16 a18 1)), .inl i4] σ16) fun y20 σ19 =>
          (some (some (.inr (.inl y20)), σ19))))))))))))))))))))) := rfl
set_option maxRecDepth 100000 in
set_option maxHeartbeats 1000000 in
/-- I.fair -/
theorem e90_0 (O : Nat → List xV → xS → Option xR) (k : Nat → xF) (h : Nat) (i1 : Int32) (i2 : Int32) (σ : xS) : x_b O x_X0 x_TX (x_C 90) k 3000 (x_suf (x_C 90) 0) [some (.inr (.inr (some h))), some (.inl i1), some (.inl i2), none, none, none] [] σ =
  (x_ck σ h 9 <|
  (x_der (x_Q σ h 0) fun a1 => x_ck σ a1 8 <|
  x_cr (O 65 [.inr (.inr (x_Q σ h 0)), .inl i1] σ) fun r3 σ2 =>
  (x_nul r3
    (some (some (.inr (.inl (-4611686018427387904))), σ2))
    (x_ci (O 126 [.inl i2, .inl 1, .inl 6] σ2) fun x5 σ4 =>
    (if x5 = 0 then
      (some (some (.inr (.inl (-4611686018427387904))), σ4))
    else
      (x_ck σ4 h 9 <|
      (x_ck σ4 h 9 <|
      x_cr (O 120 [.inr (.inr (some h))] σ4) fun r7 σ6 =>
      (x_ck σ6 h 9 <|
      (x_der (x_Q σ6 h 0) fun a8 => x_ck σ6 a8 8 <|
      (x_der (x_Q σ4 h 11) fun a9 => x_ck σ6 a9 4 <|
      x_cv (O 27 [.inr (.inr (x_Q σ4 h 11)), .inr (.inr r3), .inr (.inr r7), .inl (x_I σ6 a8 2), .inl i2] σ6) fun σ10 =>
      (x_ck σ10 h 9 <|
      (x_der (x_Q σ10 h 11) fun a11 => x_ck σ10 a11 4 <|
      (if (lg_cmp ((x_J σ10 a11 1) * i2.toInt64) 0) ≤ 0 then
        (some (some (.inr (.inl (-4611686018427387904))), σ10))
      else
        (x_ck σ10 h 9 <|
        (x_der (x_Q σ10 h 11) fun a12 => x_ck σ10 a12 4 <|
        (if ((x_J σ10 a11 1) * i2.toInt64) = 0 then none else
        (some (some (.inr (.inl ((((x_J σ10 a12 2) + ((x_J σ10 a11 1) * i2.toInt64)) - 1) / ((x_J σ10 a11 1) * i2.toInt64)))), σ10)))))))))))))))))) := rfl
set_option maxRecDepth 100000 in
set_option maxHeartbeats 1000000 in
/-- I.excess -/
theorem e91_0 (O : Nat → List xV → xS → Option xR) (k : Nat → xF) (h : Nat) (i1 : Int32) (i2 : Int32) (i3 : Int32) (σ : xS) : x_b O x_X0 x_TX (x_C 91) k 3000 (x_suf (x_C 91) 0) [some (.inr (.inr (some h))), some (.inl i1), some (.inl i2), some (.inl i3), none, none] [] σ =
  (x_ck σ h 9 <|
  (x_der (x_Q σ h 0) fun a1 => x_ck σ a1 8 <|
  x_cr (O 65 [.inr (.inr (x_Q σ h 0)), .inl i1] σ) fun r3 σ2 =>
  (x_nul r3
    (some (some (.inl (-5)), σ2))
    (x_ci (O 126 [.inl i2, .inl 1, .inl 6] σ2) fun x5 σ4 =>
    (if x5 = 0 then
      (some (some (.inl (-7)), σ4))
    else
      (x_ci (O 126 [.inl i3, .inl 0, .inl 1] σ4) fun x7 σ6 =>
      (if x7 = 0 then
        (some (some (.inl (-7)), σ6))
      else
        (x_ck σ6 h 9 <|
        (x_der (x_Q σ6 h 10) fun a8 => x_ck σ6 a8 1 <|
        x_cv (O 8 [.inr (.inr (x_Q σ6 h 10))] σ6) fun σ9 =>
        (x_ck σ9 h 9 <|
        (x_der (x_Q σ9 h 9) fun a10 => x_ck σ9 a10 2 <|
        x_cv (O 12 [.inr (.inr (x_Q σ9 h 9)), .inr (.inr r3)] σ9) fun σ11 =>
        k 59 [some (.inr (.inr (some h))), none, some (.inl i2), some (.inl i3), none, some (.inl 0)] [] σ11))))))))))) := rfl
set_option maxRecDepth 100000 in
set_option maxHeartbeats 1000000 in
/-- I.excess -/
theorem e91_59 (O : Nat → List xV → xS → Option xR) (k : Nat → xF) (h : Nat) (i2 : Int32) (i3 : Int32) (i5 : Int32) (σ : xS) : x_b O x_X0 x_TX (x_C 91) k 3000 (x_suf (x_C 91) 59) [some (.inr (.inr (some h))), none, some (.inl i2), some (.inl i3), none, some (.inl i5)] [] σ =
  (if 990 < i5 then
    (x_ck σ h 9 <|
    (x_der (x_Q σ h 10) fun a1 => x_ck σ a1 1 <|
    (some (some (.inl (x_I σ a1 0)), σ))))
  else
    (x_ck σ h 9 <|
    (x_der (x_Q σ h 9) fun a2 => x_ck σ a2 2 <|
    (x_ck (x_si σ a2 3 i5) h 9 <|
    (x_ck (x_si σ a2 3 i5) h 9 <|
    (x_ck (x_si σ a2 3 i5) h 9 <|
    x_cr (O 120 [.inr (.inr (some h))] (x_si σ a2 3 i5)) fun r4 σ3 =>
    (x_ck σ3 h 9 <|
    (x_der (x_Q σ3 h 0) fun a5 => x_ck σ3 a5 8 <|
    (x_der (x_Q (x_si σ a2 3 i5) h 11) fun a6 => x_ck σ3 a6 4 <|
    x_cv (O 27 [.inr (.inr (x_Q (x_si σ a2 3 i5) h 11)), .inr (.inr (x_Q (x_si σ a2 3 i5) h 9)), .inr (.inr r4), .inl (x_I σ3 a5 2), .inl i2] σ3) fun σ7 =>
    (x_ck σ7 h 9 <|
    (if i3 = 0 then
      (x_ck σ7 h 9 <|
      (x_der (x_Q σ7 h 11) fun a11 => x_ck σ7 a11 4 <|
      (x_der (x_Q σ7 h 10) fun a12 => x_ck σ7 a12 1 <|
      x_cv (O 9 [.inr (.inr (x_Q σ7 h 10)), .inl i5, .inr (.inl (x_J σ7 a11 2))] σ7) fun σ13 =>
      k 59 [some (.inr (.inr (some h))), none, some (.inl i2), some (.inl i3), none, some (.inl (i5 + 10))] [] σ13)))
    else
      (x_ck σ7 h 9 <|
      (x_der (x_Q σ7 h 11) fun a8 => x_ck σ7 a8 4 <|
      (x_der (x_Q σ7 h 10) fun a9 => x_ck σ7 a9 1 <|
      x_cv (O 9 [.inr (.inr (x_Q σ7 h 10)), .inl i5, .inr (.inl (x_J σ7 a8 3))] σ7) fun σ10 =>
      k 59 [some (.inr (.inr (some h))), none, some (.inl i2), some (.inl i3), none, some (.inl (i5 + 10))] [] σ10)))))))))))))) := rfl
set_option maxRecDepth 100000 in
set_option maxHeartbeats 1000000 in
/-- I.who -/
theorem e92_0 (O : Nat → List xV → xS → Option xR) (k : Nat → xF) (h : Nat) (i1 : Int32) (i2 : Int32) (σ : xS) : x_b O x_X0 x_TX (x_C 92) k 3000 (x_suf (x_C 92) 0) [some (.inr (.inr (some h))), some (.inl i1), some (.inl i2), none, none] [] σ =
  (x_ci (O 126 [.inl i1, .inl 1, .inl 6] σ) fun x2 σ1 =>
  (if x2 = 0 then
    (some (some (.inl (-2)), σ1))
  else
    (x_ci (O 126 [.inl i2, .inl 0, .inl 1] σ1) fun x4 σ3 =>
    (if x4 = 0 then
      (some (some (.inl (-2)), σ3))
    else
      (x_ck σ3 h 9 <|
      (x_der (x_Q σ3 h 10) fun a5 => x_ck σ3 a5 1 <|
      x_cv (O 8 [.inr (.inr (x_Q σ3 h 10))] σ3) fun σ6 =>
      k 31 [some (.inr (.inr (some h))), some (.inl i1), some (.inl i2), some (.inl 0), none] [] σ6)))))) := rfl
set_option maxRecDepth 100000 in
set_option maxHeartbeats 1000000 in
/-- I.who -/
theorem e92_31 (O : Nat → List xV → xS → Option xR) (k : Nat → xF) (h : Nat) (i1 : Int32) (i2 : Int32) (i3 : Int32) (σ : xS) : x_b O x_X0 x_TX (x_C 92) k 3000 (x_suf (x_C 92) 31) [some (.inr (.inr (some h))), some (.inl i1), some (.inl i2), some (.inl i3), none] [] σ =
  (x_ck σ h 9 <|
  (x_der (x_Q σ h 0) fun a1 => x_ck σ a1 8 <|
  (if (x_I σ a1 1) ≤ i3 then
    (x_ck σ h 9 <|
    (x_der (x_Q σ h 10) fun a2 => x_ck σ a2 1 <|
    (some (some (.inl (x_I σ a2 0)), σ))))
  else
    (x_ck σ h 9 <|
    (x_der (x_Q σ h 0) fun a3 => x_ck σ a3 8 <|
    x_cr (O 65 [.inr (.inr (x_Q σ h 0)), .inl i3] σ) fun r5 σ4 =>
    (x_nul r5
      (k 31 [some (.inr (.inr (some h))), some (.inl i1), some (.inl i2), some (.inl (i3 + 1)), none] [] σ4)
      (x_ck σ4 h 9 <|
      (x_ck σ4 h 9 <|
      x_cr (O 120 [.inr (.inr (some h))] σ4) fun r7 σ6 =>
      (x_ck σ6 h 9 <|
      (x_der (x_Q σ6 h 0) fun a8 => x_ck σ6 a8 8 <|
      (x_der (x_Q σ4 h 11) fun a9 => x_ck σ6 a9 4 <|
      x_cv (O 27 [.inr (.inr (x_Q σ4 h 11)), .inr (.inr r5), .inr (.inr r7), .inl (x_I σ6 a8 2), .inl i1] σ6) fun σ10 =>
      (x_ck σ10 h 9 <|
      (if i2 = 0 then
        (x_ck σ10 h 9 <|
        (x_der (x_Q σ10 h 11) fun a14 => x_ck σ10 a14 4 <|
        (x_der (x_Q σ10 h 10) fun a15 => x_ck σ10 a15 1 <|
        x_cv (O 9 [.inr (.inr (x_Q σ10 h 10)), .inl i3, .inr (.inl (x_J σ10 a14 2))] σ10) fun σ16 =>
        k 31 [some (.inr (.inr (some h))), some (.inl i1), some (.inl i2), some (.inl (i3 + 1)), none] [] σ16)))
      else
        (x_ck σ10 h 9 <|
        (x_der (x_Q σ10 h 11) fun a11 => x_ck σ10 a11 4 <|
        (x_der (x_Q σ10 h 10) fun a12 => x_ck σ10 a12 1 <|
        x_cv (O 9 [.inr (.inr (x_Q σ10 h 10)), .inl i3, .inr (.inl (x_J σ10 a11 4))] σ10) fun σ13 =>
        k 31 [some (.inr (.inr (some h))), some (.inl i1), some (.inl i2), some (.inl (i3 + 1)), none] [] σ13)))))))))))))))) := rfl
set_option maxRecDepth 100000 in
set_option maxHeartbeats 1000000 in
/-- I.hide -/
theorem e93_0 (O : Nat → List xV → xS → Option xR) (k : Nat → xF) (h : Nat) (i1 : Int32) (i2 : Int32) (i3 : Int32) (σ : xS) : x_b O x_X0 x_TX (x_C 93) k 3000 (x_suf (x_C 93) 0) [some (.inr (.inr (some h))), some (.inl i1), some (.inl i2), some (.inl i3), none, none, none, none, none, none, none] [] σ =
  (x_ck σ h 9 <|
  (x_der (x_Q σ h 0) fun a1 => x_ck σ a1 8 <|
  x_cr (O 65 [.inr (.inr (x_Q σ h 0)), .inl i1] σ) fun r3 σ2 =>
  (x_nul r3
    (some (some (.inr (.inl (-5))), σ2))
    (x_ci (O 126 [.inl i2, .inl 0, .inl 99999] σ2) fun x5 σ4 =>
    (if x5 = 0 then
      (some (some (.inr (.inl (-7))), σ4))
    else
      (x_ci (O 126 [.inl i3, .inl 0, .inl 1] σ4) fun x7 σ6 =>
      (if x7 = 0 then
        (some (some (.inr (.inl (-7))), σ6))
      else
        (x_ck σ6 h 9 <|
        x_cl (O 124 [.inr (.inr (some h)), .inr (.inr r3), .inl i2, .inl 1] σ6) fun y9 σ8 =>
        k 58 [some (.inr (.inr (some h))), none, some (.inl i2), some (.inl i3), some (.inr (.inr r3)), some (.inl 1), some (.inr (.inl y9)), none, some (.inl 2), none, none] [] σ8)))))))) := rfl
set_option maxRecDepth 100000 in
set_option maxHeartbeats 1000000 in
/-- I.hide -/
theorem e93_58 (O : Nat → List xV → xS → Option xR) (k : Nat → xF) (h : Nat) (i2 : Int32) (i3 : Int32) (q4 : Option Nat) (i5 : Int32) (j6 : Int64) (i8 : Int32) (σ : xS) : x_b O x_X0 x_TX (x_C 93) k 3000 (x_suf (x_C 93) 58) [some (.inr (.inr (some h))), none, some (.inl i2), some (.inl i3), some (.inr (.inr q4)), some (.inl i5), some (.inr (.inl j6)), none, some (.inl i8), none, none] [] σ =
  (if 9 < i8 then
    (if i3 = 0 then
      (some (some (.inr (.inl i5.toInt64)), σ))
    else
      (some (some (.inr (.inl j6)), σ)))
  else
    (x_ck σ h 9 <|
    x_cl (O 124 [.inr (.inr (some h)), .inr (.inr q4), .inl i2, .inl i8] σ) fun y2 σ1 =>
    (if 0 ≤ (lg_cmp y2 j6) then
      k 58 [some (.inr (.inr (some h))), none, some (.inl i2), some (.inl i3), some (.inr (.inr q4)), some (.inl i5), some (.inr (.inl j6)), none, some (.inl (i8 + 1)), none, none] [] σ1
    else
      k 58 [some (.inr (.inr (some h))), none, some (.inl i2), some (.inl i3), some (.inr (.inr q4)), some (.inl i8), some (.inr (.inl y2)), none, some (.inl (i8 + 1)), none, none] [] σ1))) := rfl
set_option maxRecDepth 100000 in
set_option maxHeartbeats 1000000 in
/-- I.none -/
theorem e94_0 (O : Nat → List xV → xS → Option xR) (k : Nat → xF) (h : Nat) (i1 : Int32) (i2 : Int32) (σ : xS) : x_b O x_X0 x_TX (x_C 94) k 3000 (x_suf (x_C 94) 0) [some (.inr (.inr (some h))), some (.inl i1), some (.inl i2), none, none] [] σ =
  (x_ck σ h 9 <|
  (x_der (x_Q σ h 0) fun a1 => x_ck σ a1 8 <|
  x_cr (O 65 [.inr (.inr (x_Q σ h 0)), .inl i1] σ) fun r3 σ2 =>
  (x_nul r3
    (some (some (.inl (-5)), σ2))
    (x_ci (O 126 [.inl i2, .inl 0, .inl 99999] σ2) fun x5 σ4 =>
    (if x5 = 0 then
      (some (some (.inl (-7)), σ4))
    else
      k 32 [none, none, some (.inl i2), some (.inr (.inr r3)), some (.inl 1)] [] σ4))))) := rfl
set_option maxRecDepth 100000 in
set_option maxHeartbeats 1000000 in
/-- I.none -/
theorem e94_32 (O : Nat → List xV → xS → Option xR) (k : Nat → xF) (i2 : Int32) (q3 : Option Nat) (i4 : Int32) (σ : xS) : x_b O x_X0 x_TX (x_C 94) k 3000 (x_suf (x_C 94) 32) [none, none, some (.inl i2), some (.inr (.inr q3)), some (.inl i4)] [] σ =
  (if 9 < i4 then
    (some (some (.inl (-1)), σ))
  else
    (x_ci (O 123 [.inl i2, .inl i4, .inl 0] σ) fun x2 σ1 =>
    (x_der q3 fun a3 => x_ck σ1 a3 2 <|
    (if (x_I σ1 a3 3) < x2 then
      k 32 [none, none, some (.inl i2), some (.inr (.inr q3)), some (.inl (i4 + 1))] [] σ1
    else
      (some (some (.inl i4), σ1)))))) := rfl
set_option maxRecDepth 100000 in
set_option maxHeartbeats 1000000 in
/-- I.unseen -/
theorem e95_0 (O : Nat → List xV → xS → Option xR) (k : Nat → xF) (h : Nat) (i1 : Int32) (i2 : Int32) (i3 : Int32) (i4 : Int32) (σ : xS) : x_b O x_X0 x_TX (x_C 95) k 3000 (x_suf (x_C 95) 0) [some (.inr (.inr (some h))), some (.inl i1), some (.inl i2), some (.inl i3), some (.inl i4), none, none, none, none, none, none] [] σ =
  (x_ck σ h 9 <|
  (x_der (x_Q σ h 0) fun a1 => x_ck σ a1 8 <|
  x_cr (O 65 [.inr (.inr (x_Q σ h 0)), .inl i1] σ) fun r3 σ2 =>
  (x_nul r3
    (some (some (.inr (.inl (-4611686018427387904))), σ2))
    (x_ci (O 126 [.inl i2, .inl 0, .inl 99999] σ2) fun x5 σ4 =>
    (if x5 = 0 then
      (some (some (.inr (.inl (-4611686018427387904))), σ4))
    else
      (x_ci (O 126 [.inl i3, .inl 1, .inl 9] σ4) fun x7 σ6 =>
      (if x7 = 0 then
        (some (some (.inr (.inl (-4611686018427387904))), σ6))
      else
        (x_ci (O 126 [.inl i4, .inl 0, .inl 1] σ6) fun x9 σ8 =>
        (if x9 = 0 then
          (some (some (.inr (.inl (-4611686018427387904))), σ8))
        else
          k 62 [some (.inr (.inr (some h))), none, some (.inl i2), some (.inl i3), some (.inl i4), some (.inr (.inr r3)), some (.inr (.inl 1)), none, some (.inr (.inl 1)), none, some (.inl 0)] [] σ8))))))))) := rfl
set_option maxRecDepth 100000 in
set_option maxHeartbeats 1000000 in
/-- I.unseen -/
theorem e95_62 (O : Nat → List xV → xS → Option xR) (k : Nat → xF) (h : Nat) (i2 : Int32) (i3 : Int32) (i4 : Int32) (q5 : Option Nat) (j6 : Int64) (j8 : Int64) (i10 : Int32) (σ : xS) : x_b O x_X0 x_TX (x_C 95) k 3000 (x_suf (x_C 95) 62) [some (.inr (.inr (some h))), none, some (.inl i2), some (.inl i3), some (.inl i4), some (.inr (.inr q5)), some (.inr (.inl j6)), none, some (.inr (.inl j8)), none, some (.inl i10)] [] σ =
  (if i3 ≤ i10 then
    (x_cl (O 131 [.inr (.inl j6), .inr (.inl j8), .inl i4] σ) fun y2 σ1 =>
    (some (some (.inr (.inl y2)), σ1)))
  else
    (x_ck σ h 9 <|
    x_cr (O 120 [.inr (.inr (some h))] σ) fun r4 σ3 =>
    (x_ck σ3 h 9 <|
    (x_der (x_Q σ3 h 0) fun a5 => x_ck σ3 a5 8 <|
    (x_ci (O 123 [.inl i2, .inl i3, .inl i10] σ3) fun x7 σ6 =>
    (x_der q5 fun a8 => x_ck σ6 a8 2 <|
    x_ci (O 19 [.inr (.inr q5), .inr (.inr r4), .inl (x_I σ3 a5 2), .inl x7] σ6) fun x10 σ9 =>
    k 62 [some (.inr (.inr (some h))), none, some (.inl i2), some (.inl i3), some (.inl i4), some (.inr (.inr q5)), some (.inr (.inl (j6 * ((100 - x10).toInt64)))), none, some (.inr (.inl (j8 * 100))), none, some (.inl (i10 + 1))] [] σ9)))))) := rfl
set_option maxRecDepth 100000 in
set_option maxHeartbeats 1000000 in
/-- I.round -/
theorem e96_0 (O : Nat → List xV → xS → Option xR) (k : Nat → xF) (h : Nat) (i1 : Int32) (i2 : Int32) (i3 : Int32) (σ : xS) : x_b O x_X0 x_TX (x_C 96) k 3000 (x_suf (x_C 96) 0) [some (.inr (.inr (some h))), some (.inl i1), some (.inl i2), some (.inl i3)] [] σ =
  (x_ci (O 126 [.inl i1, .inl 0, .inl 11] σ) fun x2 σ1 =>
  (if x2 = 0 then
    (some (some (.inl (-2)), σ1))
  else
    (x_ci (O 126 [.inl i2, .inl 0, .inl 1] σ1) fun x4 σ3 =>
    (if x4 = 0 then
      (some (some (.inl (-2)), σ3))
    else
      (x_ci (O 126 [.inl i3, .inl 0, .inl 1] σ3) fun x6 σ5 =>
      (if x6 = 0 then
        (some (some (.inl (-2)), σ5))
      else
        (x_ck σ5 h 9 <|
        (x_ck σ5 h 9 <|
        (x_ck σ5 h 9 <|
        x_cr (O 120 [.inr (.inr (some h))] σ5) fun r8 σ7 =>
        (x_der (x_Q σ5 h 12) fun a9 => x_ck σ7 a9 0 <|
        x_cv (O 1 [.inr (.inr (x_Q σ5 h 12)), .inr (.inr (x_Q σ5 h 0)), .inr (.inr r8), .inl i1, .inl i2] σ7) fun σ10 =>
        (if i3 = 0 then
          (x_ck σ10 h 9 <|
          (x_der (x_Q σ10 h 12) fun a12 => x_ck σ10 a12 0 <|
          (some (some (.inl (x_I σ10 a12 4)), σ10))))
        else
          (x_ck σ10 h 9 <|
          (x_der (x_Q σ10 h 12) fun a11 => x_ck σ10 a11 0 <|
          (some (some (.inl (x_I σ10 a11 5)), σ10))))))))))))))) := rfl
set_option maxRecDepth 100000 in
set_option maxHeartbeats 1000000 in
/-- I.office -/
theorem e97_0 (O : Nat → List xV → xS → Option xR) (k : Nat → xF) (h : Nat) (i1 : Int32) (σ : xS) : x_b O x_X0 x_TX (x_C 97) k 3000 (x_suf (x_C 97) 0) [some (.inr (.inr (some h))), some (.inl i1), none, none, none] [] σ =
  (x_ci (O 126 [.inl i1, .inl 0, .inl 1] σ) fun x2 σ1 =>
  (if x2 = 0 then
    (some (some (.inl (-2)), σ1))
  else
    (x_ck σ1 h 9 <|
    (x_ck σ1 h 9 <|
    (x_ck σ1 h 9 <|
    x_cr (O 120 [.inr (.inr (some h))] σ1) fun r4 σ3 =>
    (x_der (x_Q σ1 h 12) fun a5 => x_ck σ3 a5 0 <|
    x_cv (O 1 [.inr (.inr (x_Q σ1 h 12)), .inr (.inr (x_Q σ1 h 0)), .inr (.inr r4), .inl 0, .inl 0] σ3) fun σ6 =>
    (x_ck σ6 h 9 <|
    (x_der (x_Q σ6 h 12) fun a7 => x_ck σ6 a7 0 <|
    k 42 [some (.inr (.inr (some h))), some (.inl i1), some (.inl 0), some (.inl (x_I σ6 a7 4)), some (.inl 1)] [] σ6)))))))) := rfl
set_option maxRecDepth 100000 in
set_option maxHeartbeats 1000000 in
/-- I.office -/
theorem e97_42 (O : Nat → List xV → xS → Option xR) (k : Nat → xF) (h : Nat) (i1 : Int32) (i2 : Int32) (i3 : Int32) (i4 : Int32) (σ : xS) : x_b O x_X0 x_TX (x_C 97) k 3000 (x_suf (x_C 97) 42) [some (.inr (.inr (some h))), some (.inl i1), some (.inl i2), some (.inl i3), some (.inl i4)] [] σ =
  (if 12 ≤ i4 then
    (if i1 = 0 then
      (some (some (.inl i2), σ))
    else
      (some (some (.inl i3), σ)))
  else
    (x_ck σ h 9 <|
    (x_ck σ h 9 <|
    (x_ck σ h 9 <|
    x_cr (O 120 [.inr (.inr (some h))] σ) fun r2 σ1 =>
    (x_der (x_Q σ h 12) fun a3 => x_ck σ1 a3 0 <|
    x_cv (O 1 [.inr (.inr (x_Q σ h 12)), .inr (.inr (x_Q σ h 0)), .inr (.inr r2), .inl i4, .inl 0] σ1) fun σ4 =>
    (x_ck σ4 h 9 <|
    (x_der (x_Q σ4 h 12) fun a5 => x_ck σ4 a5 0 <|
    (if i3 ≤ (x_I σ4 a5 4) then
      k 42 [some (.inr (.inr (some h))), some (.inl i1), some (.inl i2), some (.inl i3), some (.inl (i4 + 1))] [] σ4
    else
      (x_ck σ4 h 9 <|
      (x_der (x_Q σ4 h 12) fun a6 => x_ck σ4 a6 0 <|
      k 42 [some (.inr (.inr (some h))), some (.inl i1), some (.inl i4), some (.inl (x_I σ4 a6 4)), some (.inl (i4 + 1))] [] σ4)))))))))) := rfl
set_option maxRecDepth 100000 in
set_option maxHeartbeats 1000000 in
/-- I.ruin -/
theorem e98_0 (O : Nat → List xV → xS → Option xR) (k : Nat → xF) (h : Nat) (i1 : Int32) (i2 : Int32) (σ : xS) : x_b O x_X0 x_TX (x_C 98) k 3000 (x_suf (x_C 98) 0) [some (.inr (.inr (some h))), some (.inl i1), some (.inl i2), none] [] σ =
  (if i1 < 0 then
    (some (some (.inl (-2)), σ))
  else
    (x_ck σ h 9 <|
    (x_der (x_Q σ h 0) fun a1 => x_ck σ a1 8 <|
    (if (1 <<< ((x_I σ a1 1) &&& 31)) ≤ i1 then
      (some (some (.inl (-2)), σ))
    else
      (x_ci (O 126 [.inl i2, .inl 0, .inl 1] σ) fun x3 σ2 =>
      (if x3 = 0 then
        (some (some (.inl (-2)), σ2))
      else
        (x_ck σ2 h 9 <|
        (x_der (x_Q σ2 h 0) fun a4 => x_ck σ2 a4 8 <|
        x_ci (O 72 [.inr (.inr (x_Q σ2 h 0)), .inl i1] σ2) fun x6 σ5 =>
        (if i2 = 0 then
          (some (some (.inl x6), σ5))
        else
          (x_ck σ5 h 9 <|
          (x_der (x_Q σ5 h 0) fun a7 => x_ck σ5 a7 8 <|
          (some (some (.inl (x_I σ5 a7 10)), σ5))))))))))))) := rfl
set_option maxRecDepth 100000 in
set_option maxHeartbeats 1000000 in
/-- I.worst -/
theorem e99_0 (O : Nat → List xV → xS → Option xR) (k : Nat → xF) (h : Nat) (i1 : Int32) (σ : xS) : x_b O x_X0 x_TX (x_C 99) k 3000 (x_suf (x_C 99) 0) [some (.inr (.inr (some h))), some (.inl i1), none] [] σ =
  (x_ci (O 126 [.inl i1, .inl 0, .inl 1] σ) fun x2 σ1 =>
  (if x2 = 0 then
    (some (some (.inl (-2)), σ1))
  else
    (x_ck σ1 h 9 <|
    (x_der (x_Q σ1 h 10) fun a3 => x_ck σ1 a3 1 <|
    x_cv (O 8 [.inr (.inr (x_Q σ1 h 10))] σ1) fun σ4 =>
    k 21 [some (.inr (.inr (some h))), some (.inl i1), some (.inl 0)] [] σ4)))) := rfl
set_option maxRecDepth 100000 in
set_option maxHeartbeats 1000000 in
/-- I.worst -/
theorem e99_21 (O : Nat → List xV → xS → Option xR) (k : Nat → xF) (h : Nat) (i1 : Int32) (i2 : Int32) (σ : xS) : x_b O x_X0 x_TX (x_C 99) k 3000 (x_suf (x_C 99) 21) [some (.inr (.inr (some h))), some (.inl i1), some (.inl i2)] [] σ =
  (x_ck σ h 9 <|
  (x_der (x_Q σ h 0) fun a1 => x_ck σ a1 8 <|
  (if (x_I σ a1 1) ≤ i2 then
    (if i1 = 0 then
      (x_ck σ h 9 <|
      (x_der (x_Q σ h 10) fun a3 => x_ck σ a3 1 <|
      (some (some (.inl (x_I σ a3 0)), σ))))
    else
      (x_ck σ h 9 <|
      (x_der (x_Q σ h 10) fun a2 => x_ck σ a2 1 <|
      (some (some (.inl ((x_J σ a2 1).toInt32)), σ)))))
  else
    (x_ck σ h 9 <|
    (x_ck σ h 9 <|
    (x_der (x_Q σ h 0) fun a4 => x_ck σ a4 8 <|
    x_ci (O 72 [.inr (.inr (x_Q σ h 0)), .inl (1 <<< (i2 &&& 31))] σ) fun x6 σ5 =>
    (x_ci (O 223 [.inl x6] σ5) fun x8 σ7 =>
    (x_der (x_Q σ h 10) fun a9 => x_ck σ7 a9 1 <|
    x_cv (O 9 [.inr (.inr (x_Q σ h 10)), .inl i2, .inr (.inl x8.toInt64)] σ7) fun σ10 =>
    k 21 [some (.inr (.inr (some h))), some (.inl i1), some (.inl (i2 + 1))] [] σ10)))))))) := rfl
set_option maxRecDepth 100000 in
set_option maxHeartbeats 1000000 in
/-- I.chain -/
theorem e100_0 (O : Nat → List xV → xS → Option xR) (k : Nat → xF) (h : Nat) (i1 : Int32) (σ : xS) : x_b O x_X0 x_TX (x_C 100) k 3000 (x_suf (x_C 100) 0) [some (.inr (.inr (some h))), some (.inl i1)] [] σ =
  (x_ck σ h 9 <|
  (x_der (x_Q σ h 0) fun a1 => x_ck σ a1 8 <|
  x_cr (O 65 [.inr (.inr (x_Q σ h 0)), .inl i1] σ) fun r3 σ2 =>
  (x_nul r3
    (some (some (.inl (-5)), σ2))
    (x_ck σ2 h 9 <|
    (x_der (x_Q σ2 h 0) fun a4 => x_ck σ2 a4 8 <|
    x_ci (O 74 [.inr (.inr (x_Q σ2 h 0)), .inl i1] σ2) fun x6 σ5 =>
    (x_ci (O 223 [.inl (x6 &&& ((1 <<< (i1 &&& 31)) ^^^ (-1)))] σ5) fun x8 σ7 =>
    (some (some (.inl x8), σ7)))))))) := rfl
set_option maxRecDepth 100000 in
set_option maxHeartbeats 1000000 in
/-- I.rings -/
theorem e101_0 (O : Nat → List xV → xS → Option xR) (k : Nat → xF) (h : Nat) (σ : xS) : x_b O x_X0 x_TX (x_C 101) k 3000 (x_suf (x_C 101) 0) [some (.inr (.inr (some h))), none, none] [] σ =
  k 4 [some (.inr (.inr (some h))), some (.inl 0), some (.inl 0)] [] σ := rfl
set_option maxRecDepth 100000 in
set_option maxHeartbeats 1000000 in
/-- I.rings -/
theorem e101_4 (O : Nat → List xV → xS → Option xR) (k : Nat → xF) (h : Nat) (i1 : Int32) (i2 : Int32) (σ : xS) : x_b O x_X0 x_TX (x_C 101) k 3000 (x_suf (x_C 101) 4) [some (.inr (.inr (some h))), some (.inl i1), some (.inl i2)] [] σ =
  (x_ck σ h 9 <|
  (x_der (x_Q σ h 0) fun a1 => x_ck σ a1 8 <|
  (if (x_I σ a1 1) ≤ i2 then
    (some (some (.inl i1), σ))
  else
    (x_ck σ h 9 <|
    (x_der (x_Q σ h 0) fun a2 => x_ck σ a2 8 <|
    x_ci (O 74 [.inr (.inr (x_Q σ h 0)), .inl i2] σ) fun x4 σ3 =>
    k 4 [some (.inr (.inr (some h))), some (.inl (i1 ||| (x4 &&& (1 <<< (i2 &&& 31))))), some (.inl (i2 + 1))] [] σ3))))) := rfl
set_option maxRecDepth 100000 in
set_option maxHeartbeats 1000000 in
/-- I.live -/
theorem e102_0 (O : Nat → List xV → xS → Option xR) (k : Nat → xF) (h : Nat) (i1 : Int32) (σ : xS) : x_b O x_X0 x_TX (x_C 102) k 3000 (x_suf (x_C 102) 0) [some (.inr (.inr (some h))), some (.inl i1), none] [] σ =
  (x_ci (O 126 [.inl i1, .inl 0, .inl 99999] σ) fun x2 σ1 =>
  (if x2 = 0 then
    (some (some (.inl (-2)), σ1))
  else
    (x_ck σ1 h 9 <|
    (x_der (x_Q σ1 h 0) fun a3 => x_ck σ1 a3 8 <|
    (if (x_I σ1 a3 2) < 99 then
      (x_ck σ1 h 9 <|
      (x_der (x_Q σ1 h 13) fun a4 => x_ck σ1 a4 3 <|
      x_cv (O 23 [.inr (.inr (x_Q σ1 h 13)), .inl i1] σ1) fun σ5 =>
      (x_ck σ5 h 9 <|
      (x_der (x_Q σ5 h 0) fun a6 => x_ck σ5 a6 8 <|
      (x_ck (x_si σ5 a6 7 0) h 9 <|
      (x_ck (x_si σ5 a6 7 0) h 9 <|
      (x_ck (x_si σ5 a6 7 0) h 9 <|
      x_cr (O 120 [.inr (.inr (some h))] (x_si σ5 a6 7 0)) fun r8 σ7 =>
      (x_der (x_Q (x_si σ5 a6 7 0) h 0) fun a9 => x_ck σ7 a9 8 <|
      x_ci (O 70 [.inr (.inr (x_Q (x_si σ5 a6 7 0) h 0)), .inr (.inr (x_Q (x_si σ5 a6 7 0) h 13)), .inr (.inr r8)] σ7) fun x11 σ10 =>
      (x_ck σ10 h 9 <|
      (x_ck σ10 h 9 <|
      (x_der (x_Q σ10 h 0) fun a12 => x_ck σ10 a12 8 <|
      (x_ck σ10 h 9 <|
      (x_der (x_Q σ10 h 0) fun a13 => x_ck σ10 a13 8 <|
      (x_der (x_Q σ10 h 0) fun a14 => x_ck σ10 a14 8 <|
      (some (some (.inl x11), x_si σ10 a14 3 (if ((x_I σ10 a12 3) + (x_I σ10 a13 7)) < 99999 then ((x_I σ10 a12 3) + (x_I σ10 a13 7)) else 99999)))))))))))))))))
    else
      (some (some (.inl (-4)), σ1))))))) := rfl
set_option maxRecDepth 100000 in
set_option maxHeartbeats 1000000 in
/-- I.run -/
theorem e103_0 (O : Nat → List xV → xS → Option xR) (k : Nat → xF) (h : Nat) (i1 : Int32) (i2 : Int32) (i3 : Int32) (σ : xS) : x_b O x_X0 x_TX (x_C 103) k 3000 (x_suf (x_C 103) 0) [some (.inr (.inr (some h))), some (.inl i1), some (.inl i2), some (.inl i3), none] [] σ =
  (x_ci (O 126 [.inl i1, .inl 0, .inl 99999] σ) fun x2 σ1 =>
  (if x2 = 0 then
    (some (some (.inl (-2)), σ1))
  else
    (x_ci (O 126 [.inl i2, .inl 0, .inl 40] σ1) fun x4 σ3 =>
    (if x4 = 0 then
      (some (some (.inl (-2)), σ3))
    else
      (x_ci (O 126 [.inl i3, .inl 0, .inl 2] σ3) fun x6 σ5 =>
      (if x6 = 0 then
        (x_ck σ5 h 9 <|
        (x_der (x_Q σ5 h 0) fun a7 => x_ck σ5 a7 8 <|
        x_cr (O 65 [.inr (.inr (x_Q σ5 h 0)), .inl (i3 - 10)] σ5) fun r9 σ8 =>
        (x_nul r9
          (some (some (.inl (-7)), σ8))
          (k 49 [some (.inr (.inr (some h))), some (.inl i1), some (.inl i2), some (.inl i3), none] [] σ8))))
      else
        k 49 [some (.inr (.inr (some h))), some (.inl i1), some (.inl i2), some (.inl i3), none] [] σ5)))))) := rfl
set_option maxRecDepth 100000 in
set_option maxHeartbeats 1000000 in
/-- I.run -/
theorem e103_49 (O : Nat → List xV → xS → Option xR) (k : Nat → xF) (h : Nat) (i1 : Int32) (i2 : Int32) (i3 : Int32) (σ : xS) : x_b O x_X0 x_TX (x_C 103) k 3000 (x_suf (x_C 103) 49) [some (.inr (.inr (some h))), some (.inl i1), some (.inl i2), some (.inl i3), none] [] σ =
  (x_ck σ h 9 <|
  x_cv (O 125 [.inr (.inr (some h)), .inl i1, .inl i2, .inl 0] σ) fun σ1 =>
  (x_ck σ1 h 9 <|
  (x_der (x_Q σ1 h 2) fun a2 => x_ck σ1 a2 8 <|
  x_cr (O 65 [.inr (.inr (x_Q σ1 h 2)), .inl (i3 - 10)] σ1) fun r4 σ3 =>
  (x_nul r4
    (if i3 = 0 then
      (x_ck σ3 h 9 <|
      (x_der (x_Q σ3 h 2) fun a7 => x_ck σ3 a7 8 <|
      (some (some (.inl (x_I σ3 a7 7)), σ3))))
    else
      (if i3 = 1 then
        (x_ck σ3 h 9 <|
        (x_der (x_Q σ3 h 2) fun a6 => x_ck σ3 a6 8 <|
        (some (some (.inl (x_I σ3 a6 8)), σ3))))
      else
        (x_ck σ3 h 9 <|
        (x_der (x_Q σ3 h 2) fun a5 => x_ck σ3 a5 8 <|
        (some (some (.inl (x_I σ3 a5 9)), σ3))))))
    (x_der r4 fun a8 => x_ck σ3 a8 2 <|
    (some (some (.inl (x_I σ3 a8 2)), σ3))))))) := rfl
set_option maxRecDepth 100000 in
set_option maxHeartbeats 1000000 in
/-- I.odds -/
theorem e104_0 (O : Nat → List xV → xS → Option xR) (k : Nat → xF) (h : Nat) (i1 : Int32) (i2 : Int32) (i3 : Int32) (σ : xS) : x_b O x_X0 x_TX (x_C 104) k 3000 (x_suf (x_C 104) 0) [some (.inr (.inr (some h))), some (.inl i1), some (.inl i2), some (.inl i3), none, none, none] [] σ =
  (x_ci (O 126 [.inl i1, .inl 0, .inl 99999] σ) fun x2 σ1 =>
  (if x2 = 0 then
    (some (some (.inr (.inl (-4611686018427387904))), σ1))
  else
    (x_ci (O 126 [.inl i2, .inl 0, .inl 4099] σ1) fun x4 σ3 =>
    (if x4 = 0 then
      (some (some (.inr (.inl (-4611686018427387904))), σ3))
    else
      (x_ci (O 126 [.inl (i2 - i2 / 100 * 100), .inl 1, .inl 50] σ3) fun x6 σ5 =>
      (if x6 = 0 then
        (some (some (.inr (.inl (-4611686018427387904))), σ5))
      else
        (x_ci (O 126 [.inl i3, .inl 0, .inl 1] σ5) fun x8 σ7 =>
        (if x8 = 0 then
          (some (some (.inr (.inl (-4611686018427387904))), σ7))
        else
          k 61 [some (.inr (.inr (some h))), some (.inl i1), some (.inl i2), some (.inl i3), some (.inl (i2 - i2 / 100 * 100)), some (.inl 0), some (.inl 0)] [] σ7)))))))) := rfl
set_option maxRecDepth 100000 in
set_option maxHeartbeats 1000000 in
/-- I.odds -/
theorem e104_61 (O : Nat → List xV → xS → Option xR) (k : Nat → xF) (h : Nat) (i1 : Int32) (i2 : Int32) (i3 : Int32) (i4 : Int32) (i5 : Int32) (i6 : Int32) (σ : xS) : x_b O x_X0 x_TX (x_C 104) k 3000 (x_suf (x_C 104) 61) [some (.inr (.inr (some h))), some (.inl i1), some (.inl i2), some (.inl i3), some (.inl i4), some (.inl i5), some (.inl i6)] [] σ =
  (if i4 ≤ i6 then
    (x_cl (O 131 [.inr (.inl i5.toInt64), .inr (.inl i4.toInt64), .inl i3] σ) fun y2 σ1 =>
    (some (some (.inr (.inl y2)), σ1)))
  else
    (x_ck σ h 9 <|
    x_cv (O 125 [.inr (.inr (some h)), .inl (i1 + i6), .inl (i2 / 100), .inl 1] σ) fun σ3 =>
    (x_ck σ3 h 9 <|
    (x_der (x_Q σ3 h 2) fun a4 => x_ck σ3 a4 8 <|
    (if (x_I σ3 a4 8) = (-1) then
      k 61 [some (.inr (.inr (some h))), some (.inl i1), some (.inl i2), some (.inl i3), some (.inl i4), some (.inl i5), some (.inl (i6 + 1))] [] σ3
    else
      k 61 [some (.inr (.inr (some h))), some (.inl i1), some (.inl i2), some (.inl i3), some (.inl i4), some (.inl (i5 + 1)), some (.inl (i6 + 1))] [] σ3))))) := rfl
set_option maxRecDepth 100000 in
set_option maxHeartbeats 1000000 in
/-- I.judge -/
theorem e105_0 (O : Nat → List xV → xS → Option xR) (k : Nat → xF) (h : Nat) (i1 : Int32) (i2 : Int32) (σ : xS) : x_b O x_X0 x_TX (x_C 105) k 3000 (x_suf (x_C 105) 0) [some (.inr (.inr (some h))), some (.inl i1), some (.inl i2), none, none] [] σ =
  (x_ck σ h 9 <|
  x_cr (O 121 [.inr (.inr (some h)), .inl i1] σ) fun r2 σ1 =>
  (x_nul r2
    (some (some (.inl (-2)), σ1))
    (x_der r2 fun a3 => x_ck σ1 a3 5 <|
    (if (x_I σ1 a3 1) = (-1) then
      (some (some (.inl (-11)), σ1))
    else
      (x_der r2 fun a4 => x_ck σ1 a4 5 <|
      (if (x_I σ1 a4 2) ≤ 20 then
        (x_ck σ1 h 9 <|
        (x_der (x_Q σ1 h 0) fun a5 => x_ck σ1 a5 8 <|
        x_cr (O 65 [.inr (.inr (x_Q σ1 h 0)), .inl i2] σ1) fun r7 σ6 =>
        (x_nul r7
          (some (some (.inl (-5)), σ6))
          (x_ck σ6 h 9 <|
          x_cr (O 120 [.inr (.inr (some h))] σ6) fun r9 σ8 =>
          (x_ck σ8 h 9 <|
          (x_der (x_Q σ8 h 0) fun a10 => x_ck σ8 a10 8 <|
          (x_der r2 fun a11 => x_ck σ8 a11 5 <|
          x_ci (O 35 [.inr (.inr r2), .inr (.inr r7), .inr (.inr r9), .inl (x_I σ8 a10 2)] σ8) fun x13 σ12 =>
          (some (some (.inl x13), σ12)))))))))
      else
        (some (some (.inl (-2)), σ1)))))))) := rfl
set_option maxRecDepth 100000 in
set_option maxHeartbeats 1000000 in
/-- I.parts -/
theorem e106_0 (O : Nat → List xV → xS → Option xR) (k : Nat → xF) (h : Nat) (i1 : Int32) (i2 : Int32) (σ : xS) : x_b O x_X0 x_TX (x_C 106) k 3000 (x_suf (x_C 106) 0) [some (.inr (.inr (some h))), some (.inl i1), some (.inl i2), none, none] [] σ =
  (x_ck σ h 9 <|
  x_cr (O 122 [.inr (.inr (some h)), .inl i1] σ) fun r2 σ1 =>
  (x_ck σ1 h 9 <|
  (x_der (x_Q σ1 h 0) fun a3 => x_ck σ1 a3 8 <|
  x_cr (O 65 [.inr (.inr (x_Q σ1 h 0)), .inl i2] σ1) fun r5 σ4 =>
  (x_nul r2
    (some (some (.inr (.inl (-4611686018427387904))), σ4))
    (x_nul r5
      (some (some (.inr (.inl (-4611686018427387904))), σ4))
      (x_ck σ4 h 9 <|
      x_cr (O 120 [.inr (.inr (some h))] σ4) fun r7 σ6 =>
      (x_ck σ6 h 9 <|
      (x_der (x_Q σ6 h 0) fun a8 => x_ck σ6 a8 8 <|
      (x_der r2 fun a9 => x_ck σ6 a9 5 <|
      x_cl (O 36 [.inr (.inr r2), .inr (.inr r5), .inr (.inr r7), .inl (x_I σ6 a8 2)] σ6) fun y11 σ10 =>
      (some (some (.inr (.inl y11)), σ10))))))))))) := rfl
set_option maxRecDepth 100000 in
set_option maxHeartbeats 1000000 in
/-- I.fits -/
theorem e107_0 (O : Nat → List xV → xS → Option xR) (k : Nat → xF) (h : Nat) (i1 : Int32) (i2 : Int32) (i3 : Int32) (σ : xS) : x_b O x_X0 x_TX (x_C 107) k 3000 (x_suf (x_C 107) 0) [some (.inr (.inr (some h))), some (.inl i1), some (.inl i2), some (.inl i3), none, none, none, none, none, none] [] σ =
  (x_ck σ h 9 <|
  x_cr (O 122 [.inr (.inr (some h)), .inl i1] σ) fun r2 σ1 =>
  (x_ck σ1 h 9 <|
  (x_der (x_Q σ1 h 0) fun a3 => x_ck σ1 a3 8 <|
  x_cr (O 65 [.inr (.inr (x_Q σ1 h 0)), .inl i2] σ1) fun r5 σ4 =>
  (x_nul r2
    (some (some (.inr (.inl (-4611686018427387904))), σ4))
    (x_nul r5
      (some (some (.inr (.inl (-4611686018427387904))), σ4))
      (x_ci (O 126 [.inl i3, .inl 0, .inl 21] σ4) fun x7 σ6 =>
      (if x7 = 0 then
        (some (some (.inr (.inl (-4611686018427387904))), σ6))
      else
        (if (i3 - i3 / 10 * 10) ≤ 1 then
          (if (i3 / 10) = 0 then
            (if (i3 / 10) = 0 then
              k 101 [some (.inr (.inr (some h))), none, none, some (.inl i3), some (.inr (.inr r2)), some (.inr (.inr r5)), none, some (.inl 6), none, none] [.inl 5] σ6
            else
              (if (i3 / 10) = 1 then
                k 101 [some (.inr (.inr (some h))), none, none, some (.inl i3), some (.inr (.inr r2)), some (.inr (.inr r5)), none, some (.inl 6), none, none] [.inl 9] σ6
              else
                k 101 [some (.inr (.inr (some h))), none, none, some (.inl i3), some (.inr (.inr r2)), some (.inr (.inr r5)), none, some (.inl 6), none, none] [.inl 20] σ6))
          else
            (if (i3 / 10) = 1 then
              (if (i3 / 10) = 0 then
                k 101 [some (.inr (.inr (some h))), none, none, some (.inl i3), some (.inr (.inr r2)), some (.inr (.inr r5)), none, some (.inl 7), none, none] [.inl 5] σ6
              else
                (if (i3 / 10) = 1 then
                  k 101 [some (.inr (.inr (some h))), none, none, some (.inl i3), some (.inr (.inr r2)), some (.inr (.inr r5)), none, some (.inl 7), none, none] [.inl 9] σ6
                else
                  k 101 [some (.inr (.inr (some h))), none, none, some (.inl i3), some (.inr (.inr r2)), some (.inr (.inr r5)), none, some (.inl 7), none, none] [.inl 20] σ6))
            else
              (if (i3 / 10) = 0 then
                k 101 [some (.inr (.inr (some h))), none, none, some (.inl i3), some (.inr (.inr r2)), some (.inr (.inr r5)), none, some (.inl 5), none, none] [.inl 5] σ6
              else
                (if (i3 / 10) = 1 then
                  k 101 [some (.inr (.inr (some h))), none, none, some (.inl i3), some (.inr (.inr r2)), some (.inr (.inr r5)), none, some (.inl 5), none, none] [.inl 9] σ6
                else
                  k 101 [some (.inr (.inr (some h))), none, none, some (.inl i3), some (.inr (.inr r2)), some (.inr (.inr r5)), none, some (.inl 5), none, none] [.inl 20] σ6))))
        else
          (some (some (.inr (.inl (-4611686018427387904))), σ6)))))))))) := rfl
set_option maxRecDepth 100000 in
set_option maxHeartbeats 1000000 in
/-- I.fits -/
theorem e107_101 (O : Nat → List xV → xS → Option xR) (k : Nat → xF) (h : Nat) (i3 : Int32) (q4 : Option Nat) (q5 : Option Nat) (i7 : Int32) (s0 : Int32) (σ : xS) : x_b O x_X0 x_TX (x_C 107) k 3000 (x_suf (x_C 107) 101) [some (.inr (.inr (some h))), none, none, some (.inl i3), some (.inr (.inr q4)), some (.inr (.inr q5)), none, some (.inl i7), none, none] [.inl s0] σ =
  (x_ck σ h 9 <|
  (x_der (x_Q σ h 10) fun a1 => x_ck σ a1 1 <|
  x_cv (O 8 [.inr (.inr (x_Q σ h 10))] σ) fun σ2 =>
  (x_ck σ2 h 9 <|
  (x_der (x_Q σ2 h 9) fun a3 => x_ck σ2 a3 2 <|
  x_cv (O 12 [.inr (.inr (x_Q σ2 h 9)), .inr (.inr q5)] σ2) fun σ4 =>
  k 122 [some (.inr (.inr (some h))), none, none, some (.inl i3), some (.inr (.inr q4)), none, none, some (.inl i7), some (.inl s0), some (.inl 0)] [] σ4)))) := rfl
set_option maxRecDepth 100000 in
set_option maxHeartbeats 1000000 in
/-- I.fits -/
theorem e107_122 (O : Nat → List xV → xS → Option xR) (k : Nat → xF) (h : Nat) (i3 : Int32) (q4 : Option Nat) (i7 : Int32) (i8 : Int32) (i9 : Int32) (σ : xS) : x_b O x_X0 x_TX (x_C 107) k 3000 (x_suf (x_C 107) 122) [some (.inr (.inr (some h))), none, none, some (.inl i3), some (.inr (.inr q4)), none, none, some (.inl i7), some (.inl i8), some (.inl i9)] [] σ =
  (if i8 < i9 then
    (if (i3 - i3 / 10 * 10) = 0 then
      (x_ck σ h 9 <|
      (x_der (x_Q σ h 10) fun a2 => x_ck σ a2 1 <|
      (some (some (.inr (.inl ((x_I σ a2 0).toInt64))), σ))))
    else
      (x_ck σ h 9 <|
      (x_der (x_Q σ h 10) fun a1 => x_ck σ a1 1 <|
      (some (some (.inr (.inl (x_J σ a1 1))), σ)))))
  else
    (x_ck σ h 9 <|
    (x_der (x_Q σ h 9) fun a3 => x_ck σ a3 2 <|
    x_cv (O 14 [.inr (.inr (x_Q σ h 9)), .inl i7, .inl i9] σ) fun σ4 =>
    (x_ck σ4 h 9 <|
    (x_ck σ4 h 9 <|
    (x_ck σ4 h 9 <|
    x_cr (O 120 [.inr (.inr (some h))] σ4) fun r6 σ5 =>
    (x_ck σ5 h 9 <|
    (x_der (x_Q σ5 h 0) fun a7 => x_ck σ5 a7 8 <|
    (x_der q4 fun a8 => x_ck σ5 a8 5 <|
    x_cl (O 36 [.inr (.inr q4), .inr (.inr (x_Q σ4 h 9)), .inr (.inr r6), .inl (x_I σ5 a7 2)] σ5) fun y10 σ9 =>
    (x_der (x_Q σ4 h 10) fun a11 => x_ck σ9 a11 1 <|
    x_cv (O 9 [.inr (.inr (x_Q σ4 h 10)), .inl i9, .inr (.inl y10)] σ9) fun σ12 =>
    k 122 [some (.inr (.inr (some h))), none, none, some (.inl i3), some (.inr (.inr q4)), none, none, some (.inl i7), some (.inl i8), some (.inl (i9 + 1))] [] σ12)))))))))) := rfl
set_option maxRecDepth 100000 in
set_option maxHeartbeats 1000000 in
/-- I.whose -/
theorem e108_0 (O : Nat → List xV → xS → Option xR) (k : Nat → xF) (h : Nat) (i1 : Int32) (i2 : Int32) (σ : xS) : x_b O x_X0 x_TX (x_C 108) k 3000 (x_suf (x_C 108) 0) [some (.inr (.inr (some h))), some (.inl i1), some (.inl i2), none, none, none] [] σ =
  (x_ck σ h 9 <|
  x_cr (O 122 [.inr (.inr (some h)), .inl i1] σ) fun r2 σ1 =>
  (x_nul r2
    (some (some (.inr (.inl (-4611686018427387904))), σ1))
    (x_ci (O 126 [.inl i2, .inl 0, .inl 1] σ1) fun x4 σ3 =>
    (if x4 = 0 then
      (some (some (.inr (.inl (-4611686018427387904))), σ3))
    else
      (x_ck σ3 h 9 <|
      (x_der (x_Q σ3 h 10) fun a5 => x_ck σ3 a5 1 <|
      x_cv (O 8 [.inr (.inr (x_Q σ3 h 10))] σ3) fun σ6 =>
      k 33 [some (.inr (.inr (some h))), none, some (.inl i2), some (.inr (.inr r2)), some (.inl 0), none] [] σ6)))))) := rfl
set_option maxRecDepth 100000 in
set_option maxHeartbeats 1000000 in
/-- I.whose -/
theorem e108_33 (O : Nat → List xV → xS → Option xR) (k : Nat → xF) (h : Nat) (i2 : Int32) (q3 : Option Nat) (i4 : Int32) (σ : xS) : x_b O x_X0 x_TX (x_C 108) k 3000 (x_suf (x_C 108) 33) [some (.inr (.inr (some h))), none, some (.inl i2), some (.inr (.inr q3)), some (.inl i4), none] [] σ =
  (x_ck σ h 9 <|
  (x_der (x_Q σ h 0) fun a1 => x_ck σ a1 8 <|
  (if (x_I σ a1 1) ≤ i4 then
    (if i2 = 0 then
      (x_ck σ h 9 <|
      (x_der (x_Q σ h 10) fun a3 => x_ck σ a3 1 <|
      (some (some (.inr (.inl ((x_I σ a3 0).toInt64))), σ))))
    else
      (x_ck σ h 9 <|
      (x_der (x_Q σ h 10) fun a2 => x_ck σ a2 1 <|
      (some (some (.inr (.inl (x_J σ a2 1))), σ)))))
  else
    (x_ck σ h 9 <|
    (x_der (x_Q σ h 0) fun a4 => x_ck σ a4 8 <|
    x_cr (O 65 [.inr (.inr (x_Q σ h 0)), .inl i4] σ) fun r6 σ5 =>
    (x_nul r6
      (k 33 [some (.inr (.inr (some h))), none, some (.inl i2), some (.inr (.inr q3)), some (.inl (i4 + 1)), none] [] σ5)
      (x_ck σ5 h 9 <|
      (x_ck σ5 h 9 <|
      x_cr (O 120 [.inr (.inr (some h))] σ5) fun r8 σ7 =>
      (x_ck σ7 h 9 <|
      (x_der (x_Q σ7 h 0) fun a9 => x_ck σ7 a9 8 <|
      (x_der q3 fun a10 => x_ck σ7 a10 5 <|
      x_cl (O 36 [.inr (.inr q3), .inr (.inr r6), .inr (.inr r8), .inl (x_I σ7 a9 2)] σ7) fun y12 σ11 =>
      (x_der (x_Q σ5 h 10) fun a13 => x_ck σ11 a13 1 <|
      x_cv (O 9 [.inr (.inr (x_Q σ5 h 10)), .inl i4, .inr (.inl y12)] σ11) fun σ14 =>
      k 33 [some (.inr (.inr (some h))), none, some (.inl i2), some (.inr (.inr q3)), some (.inl (i4 + 1)), none] [] σ14)))))))))))) := rfl
set_option maxRecDepth 100000 in
set_option maxHeartbeats 1000000 in
/-- I.rule -/
theorem e109_0 (O : Nat → List xV → xS → Option xR) (k : Nat → xF) (h : Nat) (i1 : Int32) (i2 : Int32) (i3 : Int32) (σ : xS) : x_b O x_X0 x_TX (x_C 109) k 3000 (x_suf (x_C 109) 0) [some (.inr (.inr (some h))), some (.inl i1), some (.inl i2), some (.inl i3), none, none, none] [] σ =
  (x_ck σ h 9 <|
  x_cr (O 122 [.inr (.inr (some h)), .inl i1] σ) fun r2 σ1 =>
  (x_ck σ1 h 9 <|
  (x_der (x_Q σ1 h 0) fun a3 => x_ck σ1 a3 8 <|
  x_cr (O 65 [.inr (.inr (x_Q σ1 h 0)), .inl i2] σ1) fun r5 σ4 =>
  (x_nul r2
    (some (some (.inr (.inl (-4611686018427387904))), σ4))
    (x_nul r5
      (some (some (.inr (.inl (-4611686018427387904))), σ4))
      (x_ci (O 126 [.inl i3, .inl 0, .inl 1] σ4) fun x7 σ6 =>
      (if x7 = 0 then
        (some (some (.inr (.inl (-4611686018427387904))), σ6))
      else
        (x_ck σ6 h 9 <|
        (x_der (x_Q σ6 h 10) fun a8 => x_ck σ6 a8 1 <|
        x_cv (O 8 [.inr (.inr (x_Q σ6 h 10))] σ6) fun σ9 =>
        k 50 [some (.inr (.inr (some h))), none, none, some (.inl i3), some (.inr (.inr r2)), some (.inr (.inr r5)), some (.inl 0)] [] σ9))))))))) := rfl
set_option maxRecDepth 100000 in
set_option maxHeartbeats 1000000 in
/-- I.rule -/
theorem e109_50 (O : Nat → List xV → xS → Option xR) (k : Nat → xF) (h : Nat) (i3 : Int32) (q4 : Option Nat) (q5 : Option Nat) (i6 : Int32) (σ : xS) : x_b O x_X0 x_TX (x_C 109) k 3000 (x_suf (x_C 109) 50) [some (.inr (.inr (some h))), none, none, some (.inl i3), some (.inr (.inr q4)), some (.inr (.inr q5)), some (.inl i6)] [] σ =
  (x_ck σ h 9 <|
  (if (x_I σ h 7) ≤ i6 then
    (if i3 = 0 then
      (x_ck σ h 9 <|
      (x_der (x_Q σ h 10) fun a2 => x_ck σ a2 1 <|
      (some (some (.inr (.inl ((x_I σ a2 0).toInt64))), σ))))
    else
      (x_ck σ h 9 <|
      (x_der (x_Q σ h 10) fun a1 => x_ck σ a1 1 <|
      (some (some (.inr (.inl (x_J σ a1 1))), σ)))))
  else
    (x_ck σ h 9 <|
    (x_ck σ h 9 <|
    x_cr (O 119 [.inr (.inr (some h)), .inl i6] σ) fun r4 σ3 =>
    (x_ck σ3 h 9 <|
    (x_der (x_Q σ3 h 0) fun a5 => x_ck σ3 a5 8 <|
    (x_der q4 fun a6 => x_ck σ3 a6 5 <|
    x_cl (O 36 [.inr (.inr q4), .inr (.inr q5), .inr (.inr r4), .inl (x_I σ3 a5 2)] σ3) fun y8 σ7 =>
    (x_der (x_Q σ h 10) fun a9 => x_ck σ7 a9 1 <|
    x_cv (O 9 [.inr (.inr (x_Q σ h 10)), .inl i6, .inr (.inl y8)] σ7) fun σ10 =>
    k 50 [some (.inr (.inr (some h))), none, none, some (.inl i3), some (.inr (.inr q4)), some (.inr (.inr q5)), some (.inl (i6 + 1))] [] σ10)))))))) := rfl
set_option maxRecDepth 100000 in
set_option maxHeartbeats 1000000 in
/-- I.law -/
theorem e110_0 (O : Nat → List xV → xS → Option xR) (k : Nat → xF) (h : Nat) (i1 : Int32) (i2 : Int32) (σ : xS) : x_b O x_X0 x_TX (x_C 110) k 3000 (x_suf (x_C 110) 0) [some (.inr (.inr (some h))), some (.inl i1), some (.inl i2), none, none] [] σ =
  (x_ck σ h 9 <|
  (x_der (x_Q σ h 0) fun a1 => x_ck σ a1 8 <|
  x_cr (O 65 [.inr (.inr (x_Q σ h 0)), .inl i1] σ) fun r3 σ2 =>
  (x_nul r3
    (some (some (.inl (-5)), σ2))
    (x_ci (O 126 [.inl i2, .inl 1, .inl 6] σ2) fun x5 σ4 =>
    (if x5 = 0 then
      (some (some (.inl (-7)), σ4))
    else
      (x_ck σ4 h 9 <|
      (x_der (x_Q σ4 h 10) fun a6 => x_ck σ4 a6 1 <|
      x_cv (O 8 [.inr (.inr (x_Q σ4 h 10))] σ4) fun σ7 =>
      k 39 [some (.inr (.inr (some h))), none, some (.inl i2), some (.inr (.inr r3)), some (.inl 0)] [] σ7))))))) := rfl
set_option maxRecDepth 100000 in
set_option maxHeartbeats 1000000 in
/-- I.law -/
theorem e110_39 (O : Nat → List xV → xS → Option xR) (k : Nat → xF) (h : Nat) (i2 : Int32) (q3 : Option Nat) (i4 : Int32) (σ : xS) : x_b O x_X0 x_TX (x_C 110) k 3000 (x_suf (x_C 110) 39) [some (.inr (.inr (some h))), none, some (.inl i2), some (.inr (.inr q3)), some (.inl i4)] [] σ =
  (x_ck σ h 9 <|
  (if (x_I σ h 7) ≤ i4 then
    (x_ck σ h 9 <|
    (x_der (x_Q σ h 10) fun a1 => x_ck σ a1 1 <|
    (some (some (.inl (x_I σ a1 0)), σ))))
  else
    (x_ck σ h 9 <|
    (x_ck σ h 9 <|
    x_cr (O 119 [.inr (.inr (some h)), .inl i4] σ) fun r3 σ2 =>
    (x_ck σ2 h 9 <|
    (x_der (x_Q σ2 h 0) fun a4 => x_ck σ2 a4 8 <|
    (x_der (x_Q σ h 11) fun a5 => x_ck σ2 a5 4 <|
    x_cv (O 27 [.inr (.inr (x_Q σ h 11)), .inr (.inr q3), .inr (.inr r3), .inl (x_I σ2 a4 2), .inl i2] σ2) fun σ6 =>
    (x_ck σ6 h 9 <|
    (x_ck σ6 h 9 <|
    (x_der (x_Q σ6 h 11) fun a7 => x_ck σ6 a7 4 <|
    (x_der (x_Q σ6 h 10) fun a8 => x_ck σ6 a8 1 <|
    x_cv (O 9 [.inr (.inr (x_Q σ6 h 10)), .inl i4, .inr (.inl (x_J σ6 a7 2))] σ6) fun σ9 =>
    k 39 [some (.inr (.inr (some h))), none, some (.inl i2), some (.inr (.inr q3)), some (.inl (i4 + 1))] [] σ9))))))))))) := rfl
set_option maxRecDepth 100000 in
set_option maxHeartbeats 1000000 in
/-- I.film -/
theorem e111_0 (O : Nat → List xV → xS → Option xR) (k : Nat → xF) (h : Nat) (i1 : Int32) (i2 : Int32) (i3 : Int32) (i4 : Int32) (σ : xS) : x_b O x_X0 x_TX (x_C 111) k 3000 (x_suf (x_C 111) 0) [some (.inr (.inr (some h))), some (.inl i1), some (.inl i2), some (.inl i3), some (.inl i4), none, none] [] σ =
  (x_ck σ h 9 <|
  x_cr (O 121 [.inr (.inr (some h)), .inl i1] σ) fun r2 σ1 =>
  (x_nul r2
    (some (some (.inl (-2)), σ1))
    (x_ck σ1 h 9 <|
    (x_der (x_Q σ1 h 0) fun a3 => x_ck σ1 a3 8 <|
    x_cr (O 65 [.inr (.inr (x_Q σ1 h 0)), .inl i2] σ1) fun r5 σ4 =>
    (x_nul r5
      (some (some (.inl (-5)), σ4))
      (x_ci (O 126 [.inl i4, .inl 0, .inl 20] σ4) fun x7 σ6 =>
      (if x7 = 0 then
        (some (some (.inl (-7)), σ6))
      else
        (if i3 < 0 then
          (some (some (.inl (-7)), σ6))
        else
          (if i3 < (1 <<< (i4 &&& 31)) then
            (x_der r2 fun a8 => x_ck σ6 a8 5 <|
            x_cv (O 30 [.inr (.inr r2), .inl 2, .inl i4] σ6) fun σ9 =>
            (x_ck σ9 h 9 <|
            x_cr (O 120 [.inr (.inr (some h))] σ9) fun r11 σ10 =>
            (x_ck σ10 h 9 <|
            (x_der (x_Q σ10 h 0) fun a12 => x_ck σ10 a12 8 <|
            (x_der r2 fun a13 => x_ck σ10 a13 5 <|
            x_cv (O 37 [.inr (.inr r2), .inr (.inr r5), .inr (.inr r11), .inl (x_I σ10 a12 2), .inl i3] σ10) fun σ14 =>
            (some (some (.inl i4), σ14)))))))
          else
            (some (some (.inl (-7)), σ6))))))))))) := rfl
set_option maxRecDepth 100000 in
set_option maxHeartbeats 1000000 in
/-- I.image -/
theorem e112_0 (O : Nat → List xV → xS → Option xR) (k : Nat → xF) (h : Nat) (σ : xS) : x_b O x_X0 x_TX (x_C 112) k 3000 (x_suf (x_C 112) 0) [some (.inr (.inr (some h)))] [] σ =
  (x_ck σ h 9 <|
  (x_ck σ h 9 <|
  (x_der (x_Q σ h 1) fun a1 => x_ck σ a1 8 <|
  x_cv (O 66 [.inr (.inr (x_Q σ h 1)), .inr (.inr (x_Q σ h 0))] σ) fun σ2 =>
  (x_ck σ2 h 9 <|
  (x_ck (x_si σ2 h 3 1) h 9 <|
  (x_der (x_Q (x_si σ2 h 3 1) h 0) fun a3 => x_ck (x_si σ2 h 3 1) a3 8 <|
  (some (some (.inl (x_I (x_si σ2 h 3 1) a3 1)), x_si σ2 h 3 1)))))))) := rfl
set_option maxRecDepth 100000 in
set_option maxHeartbeats 1000000 in
/-- I.back -/
theorem e113_0 (O : Nat → List xV → xS → Option xR) (k : Nat → xF) (h : Nat) (σ : xS) : x_b O x_X0 x_TX (x_C 113) k 3000 (x_suf (x_C 113) 0) [some (.inr (.inr (some h)))] [] σ =
  (x_ck σ h 9 <|
  (if (x_I σ h 3) = 0 then
    (some (some (.inl (-3)), σ))
  else
    (x_ck σ h 9 <|
    (x_ck σ h 9 <|
    (x_der (x_Q σ h 0) fun a1 => x_ck σ a1 8 <|
    x_cv (O 66 [.inr (.inr (x_Q σ h 0)), .inr (.inr (x_Q σ h 1))] σ) fun σ2 =>
    (x_ck σ2 h 9 <|
    (x_der (x_Q σ2 h 0) fun a3 => x_ck σ2 a3 8 <|
    (some (some (.inl (x_I σ2 a3 1)), σ2))))))))) := rfl
set_option maxRecDepth 100000 in
set_option maxHeartbeats 1000000 in
/-- I.sheet -/
theorem e114_0 (O : Nat → List xV → xS → Option xR) (k : Nat → xF) (h : Nat) (i1 : Int32) (i2 : Int32) (i3 : Int32) (σ : xS) : x_b O x_X0 x_TX (x_C 114) k 3000 (x_suf (x_C 114) 0) [some (.inr (.inr (some h))), some (.inl i1), some (.inl i2), some (.inl i3), none] [] σ =
  (x_ck σ h 9 <|
  x_cr (O 121 [.inr (.inr (some h)), .inl i1] σ) fun r2 σ1 =>
  (x_nul r2
    (some (some (.inl (-2)), σ1))
    (x_ci (O 126 [.inl i2, .inl (-1), .inl 2] σ1) fun x4 σ3 =>
    (if x4 = 0 then
      (some (some (.inl (-2)), σ3))
    else
      (if i2 = (-1) then
        (x_der r2 fun a7 => x_ck σ3 a7 5 <|
        x_cv (O 30 [.inr (.inr r2), .inl (-1), .inl 0] σ3) fun σ8 =>
        (some (some (.inl 1), σ8)))
      else
        (if i3 ≤ 40 then
          (if 0 ≤ i3 then
            (x_der r2 fun a5 => x_ck σ3 a5 5 <|
            x_cv (O 30 [.inr (.inr r2), .inl i2, .inl i3] σ3) fun σ6 =>
            (some (some (.inl 1), σ6)))
          else
            (some (some (.inl (-14)), σ3)))
        else
          (some (some (.inl (-2)), σ3)))))))) := rfl
set_option maxRecDepth 100000 in
set_option maxHeartbeats 1000000 in
/-- I.cell -/
theorem e115_0 (O : Nat → List xV → xS → Option xR) (k : Nat → xF) (h : Nat) (i1 : Int32) (i2 : Int32) (i3 : Int32) (σ : xS) : x_b O x_X0 x_TX (x_C 115) k 3000 (x_suf (x_C 115) 0) [some (.inr (.inr (some h))), some (.inl i1), some (.inl i2), some (.inl i3), none] [] σ =
  (x_ck σ h 9 <|
  x_cr (O 121 [.inr (.inr (some h)), .inl i1] σ) fun r2 σ1 =>
  (x_nul r2
    (some (some (.inl (-2)), σ1))
    (x_der r2 fun a3 => x_ck σ1 a3 5 <|
    (if (x_I σ1 a3 1) = (-1) then
      (some (some (.inl (-11)), σ1))
    else
      (if i2 < 0 then
        (some (some (.inl (-12)), σ1))
      else
        (x_der r2 fun a4 => x_ck σ1 a4 5 <|
        (if i2 < (x_I σ1 a4 2) then
          (x_der r2 fun a5 => x_ck σ1 a5 5 <|
          x_cv (O 32 [.inr (.inr r2), .inl i2, .inl i3] σ1) fun σ6 =>
          (some (some (.inl 1), σ6)))
        else
          (some (some (.inl (-12)), σ1))))))))) := rfl
set_option maxRecDepth 100000 in
set_option maxHeartbeats 1000000 in
/-- I.copy -/
theorem e116_0 (O : Nat → List xV → xS → Option xR) (k : Nat → xF) (h : Nat) (i1 : Int32) (i2 : Int32) (i3 : Int32) (i4 : Int32) (i5 : Int32) (σ : xS) : x_b O x_X0 x_TX (x_C 116) k 3000 (x_suf (x_C 116) 0) [some (.inr (.inr (some h))), some (.inl i1), some (.inl i2), some (.inl i3), some (.inl i4), some (.inl i5), none, none] [] σ =
  (x_ck σ h 9 <|
  x_cr (O 121 [.inr (.inr (some h)), .inl i1] σ) fun r2 σ1 =>
  (x_ck σ1 h 9 <|
  x_cr (O 121 [.inr (.inr (some h)), .inl i3] σ1) fun r4 σ3 =>
  (x_nul r2
    (some (some (.inl (-2)), σ3))
    (x_nul r4
      (some (some (.inl (-2)), σ3))
      (x_der r2 fun a5 => x_ck σ3 a5 5 <|
      (if (x_I σ3 a5 1) = (-1) then
        (some (some (.inl (-11)), σ3))
      else
        (x_der r4 fun a6 => x_ck σ3 a6 5 <|
        (if (x_I σ3 a6 1) = (-1) then
          (some (some (.inl (-11)), σ3))
        else
          (x_der r2 fun a7 => x_ck σ3 a7 5 <|
          (x_der r4 fun a8 => x_ck σ3 a8 5 <|
          (if (x_I σ3 a7 1) = (x_I σ3 a8 1) then
            (x_der r2 fun a9 => x_ck σ3 a9 5 <|
            x_ci (O 33 [.inr (.inr r2), .inl i2, .inl i5] σ3) fun x11 σ10 =>
            (if x11 = 0 then
              (some (some (.inl (-12)), σ10))
            else
              (x_der r4 fun a12 => x_ck σ10 a12 5 <|
              x_ci (O 33 [.inr (.inr r4), .inl i4, .inl i5] σ10) fun x14 σ13 =>
              (if x14 = 0 then
                (some (some (.inl (-12)), σ13))
              else
                (x_der r4 fun a15 => x_ck σ13 a15 5 <|
                x_cv (O 34 [.inr (.inr r4), .inl i4, .inr (.inr r2), .inl i2, .inl i5] σ13) fun σ16 =>
                (some (some (.inl i5), σ16)))))))
          else
            (some (some (.inl (-13)), σ3))))))))))))) := rfl
set_option maxRecDepth 100000 in
set_option maxHeartbeats 1000000 in
/-- I.livesBy -/
theorem e117_0 (O : Nat → List xV → xS → Option xR) (k : Nat → xF) (h : Nat) (i1 : Int32) (i2 : Int32) (i3 : Int32) (i4 : Int32) (σ : xS) : x_b O x_X0 x_TX (x_C 117) k 3000 (x_suf (x_C 117) 0) [some (.inr (.inr (some h))), some (.inl i1), some (.inl i2), some (.inl i3), some (.inl i4), none, none, none, none] [] σ =
  (x_ck σ h 9 <|
  x_cr (O 121 [.inr (.inr (some h)), .inl i1] σ) fun r2 σ1 =>
  (x_nul r2
    (some (some (.inl (-2)), σ1))
    (x_ci (O 126 [.inl i2, .inl 0, .inl 2] σ1) fun x4 σ3 =>
    (if x4 = 0 then
      (some (some (.inl (-2)), σ3))
    else
      (x_ci (O 126 [.inl i4, .inl 0, .inl 5] σ3) fun x6 σ5 =>
      (if x6 = 0 then
        (some (some (.inl (-2)), σ5))
      else
        (x_der r2 fun a7 => x_ck σ5 a7 5 <|
        (if (x_I σ5 a7 1) = (-1) then
          (some (some (.inl (-11)), σ5))
        else
          (x_der r2 fun a8 => x_ck σ5 a8 5 <|
          (if (x_I σ5 a8 1) = i2 then
            k 67 [some (.inr (.inr (some h))), none, none, none, some (.inl i4), some (.inr (.inr r2)), some (.inl 0), some (.inl i3), some (.inl 0)] [] σ5
          else
            (some (some (.inl (-13)), σ5)))))))))))) := rfl
set_option maxRecDepth 100000 in
set_option maxHeartbeats 1000000 in
/-- I.livesBy -/
theorem e117_67 (O : Nat → List xV → xS → Option xR) (k : Nat → xF) (h : Nat) (i4 : Int32) (q5 : Option Nat) (i6 : Int32) (i7 : Int32) (i8 : Int32) (σ : xS) : x_b O x_X0 x_TX (x_C 117) k 3000 (x_suf (x_C 117) 67) [some (.inr (.inr (some h))), none, none, none, some (.inl i4), some (.inr (.inr q5)), some (.inl i6), some (.inl i7), some (.inl i8)] [] σ =
  (if i4 ≤ i8 then
    (some (some (.inl i6), σ))
  else
    (x_der q5 fun a1 => x_ck σ a1 5 <|
    x_ci (O 33 [.inr (.inr q5), .inl i7, .inl 3] σ) fun x3 σ2 =>
    (if x3 = 0 then
      (some (some (.inl (-12)), σ2))
    else
      (x_ck σ2 h 9 <|
      (x_der q5 fun a4 => x_ck σ2 a4 5 <|
      x_ci (O 31 [.inr (.inr q5), .inl i7] σ2) fun x6 σ5 =>
      (x_der q5 fun a7 => x_ck σ5 a7 5 <|
      x_ci (O 31 [.inr (.inr q5), .inl (i7 + 1)] σ5) fun x9 σ8 =>
      (x_der q5 fun a10 => x_ck σ8 a10 5 <|
      x_ci (O 31 [.inr (.inr q5), .inl (i7 + 2)] σ8) fun x12 σ11 =>
      (x_der (x_Q σ2 h 0) fun a13 => x_ck σ11 a13 8 <|
      x_ci (O 67 [.inr (.inr (x_Q σ2 h 0)), .inl x6, .inl x9, .inl x12] σ11) fun x15 σ14 =>
      (if x15 < 0 then
        k 67 [some (.inr (.inr (some h))), none, none, none, some (.inl i4), some (.inr (.inr q5)), some (.inl i6), some (.inl (i7 + 3)), some (.inl (i8 + 1))] [] σ14
      else
        k 67 [some (.inr (.inr (some h))), none, none, none, some (.inl i4), some (.inr (.inr q5)), some (.inl (i6 + 1)), some (.inl (i7 + 3)), some (.inl (i8 + 1))] [] σ14))))))))) := rfl
set_option maxRecDepth 100000 in
set_option maxHeartbeats 1000000 in
/-- I.taken -/
theorem e118_0 (O : Nat → List xV → xS → Option xR) (k : Nat → xF) (h : Nat) (i1 : Int32) (i2 : Int32) (σ : xS) : x_b O x_X0 x_TX (x_C 118) k 3000 (x_suf (x_C 118) 0) [some (.inr (.inr (some h))), some (.inl i1), some (.inl i2), none] [] σ =
  (x_ci (O 126 [.inl i2, .inl 0, .inl 6] σ) fun x2 σ1 =>
  (if x2 = 0 then
    (some (some (.inl (-2)), σ1))
  else
    (x_ci (O 126 [.inl i1, .inl 0, .inl 16] σ1) fun x4 σ3 =>
    (if x4 = 0 then
      (some (some (.inl (-12)), σ3))
    else
      (if i1 < 5 then
        (x_ck σ3 h 9 <|
        (x_der (x_Q σ3 h 0) fun a5 => x_ck σ3 a5 8 <|
        x_cr (O 65 [.inr (.inr (x_Q σ3 h 0)), .inl i1] σ3) fun r7 σ6 =>
        (x_nul r7
          (some (some (.inl (-11)), σ6))
          (x_der r7 fun a8 => x_ck σ6 a8 2 <|
          x_ci (O 15 [.inr (.inr r7), .inl i2] σ6) fun x10 σ9 =>
          (if x10 = 0 then
            (some (some (.inl (-13)), σ9))
          else
            (some (some (.inl i1), σ9)))))))
      else
        (if i2 = 6 then
          (x_ck σ3 h 9 <|
          (x_der (x_Q σ3 h 0) fun a11 => x_ck σ3 a11 8 <|
          x_ci (O 69 [.inr (.inr (x_Q σ3 h 0)), .inl (i1 - 5)] σ3) fun x13 σ12 =>
          (if x13 = 0 then
            (some (some (.inl 0), σ12))
          else
            (some (some (.inl 1), σ12)))))
        else
          (some (some (.inl (-13)), σ3)))))))) := rfl
set_option maxRecDepth 100000 in
set_option maxHeartbeats 1000000 in
/-- I.textAt -/
theorem e119_0 (O : Nat → List xV → xS → Option xR) (k : Nat → xF) (h : Nat) (i1 : Int32) (σ : xS) : x_b O x_X0 x_TX (x_C 119) k 3000 (x_suf (x_C 119) 0) [some (.inr (.inr (some h))), some (.inl i1), none] [] σ =
  (if i1 < 0 then
    (x_ck σ h 9 <|
      (some (some (.inr (.inr (x_Q σ h 5))), σ)))
  else
    (x_ck σ h 9 <|
    (if (x_I σ h 7) ≤ i1 then
      (x_ck σ h 9 <|
        (some (some (.inr (.inr (x_Q σ h 5))), σ)))
    else
      (x_ck σ h 9 <|
      (x_der (x_Q σ h 6) fun a1 => x_aa σ a1 fun n2 => (if (Int32.ofNat n2) ≤ i1 then
        (x_ck σ h 9 <|
          (some (some (.inr (.inr (x_Q σ h 5))), σ)))
      else
        (x_ck σ h 9 <|
        (x_der (x_Q σ h 6) fun a3 => x_aq σ a3 fun n4 => x_ix i1 n4 <|
        (x_nul (x_Q σ a3 (i1).toNatClampNeg)
          (x_ck σ h 9 <|
          (some (some (.inr (.inr (x_Q σ h 5))), σ)))
          (some (some (.inr (.inr (x_Q σ a3 (i1).toNatClampNeg))), σ))))))))))) := rfl
set_option maxRecDepth 100000 in
set_option maxHeartbeats 1000000 in
/-- I.lawNow -/
theorem e120_0 (O : Nat → List xV → xS → Option xR) (k : Nat → xF) (h : Nat) (σ : xS) : x_b O x_X0 x_TX (x_C 120) k 3000 (x_suf (x_C 120) 0) [some (.inr (.inr (some h)))] [] σ =
  (x_ck σ h 9 <|
  (x_der (x_Q σ h 0) fun a1 => x_ck σ a1 8 <|
  (x_ck σ h 9 <|
  x_cr (O 119 [.inr (.inr (some h)), .inl (x_I σ a1 6)] σ) fun r3 σ2 =>
  (some (some (.inr (.inr r3)), σ2))))) := rfl
set_option maxRecDepth 100000 in
set_option maxHeartbeats 1000000 in
/-- I.sheetAt -/
theorem e121_0 (O : Nat → List xV → xS → Option xR) (k : Nat → xF) (h : Nat) (i1 : Int32) (σ : xS) : x_b O x_X0 x_TX (x_C 121) k 3000 (x_suf (x_C 121) 0) [some (.inr (.inr (some h))), some (.inl i1)] [] σ =
  (if i1 < 0 then
    (some (some (.inr (.inr none)), σ))
  else
    (x_ck σ h 9 <|
    (x_der (x_Q σ h 8) fun a1 => x_aa σ a1 fun n2 => (if (Int32.ofNat n2) ≤ i1 then
      (some (some (.inr (.inr none)), σ))
    else
      (x_ck σ h 9 <|
      (x_der (x_Q σ h 8) fun a3 => x_aq σ a3 fun n4 => x_ix i1 n4 <|
      (some (some (.inr (.inr (x_Q σ a3 (i1).toNatClampNeg))), σ)))))))) := rfl
set_option maxRecDepth 100000 in
set_option maxHeartbeats 1000000 in
/-- I.tellingAt -/
theorem e122_0 (O : Nat → List xV → xS → Option xR) (k : Nat → xF) (h : Nat) (i1 : Int32) (σ : xS) : x_b O x_X0 x_TX (x_C 122) k 3000 (x_suf (x_C 122) 0) [some (.inr (.inr (some h))), some (.inl i1), none] [] σ =
  (x_ck σ h 9 <|
  x_cr (O 121 [.inr (.inr (some h)), .inl i1] σ) fun r2 σ1 =>
  (x_nul r2
    (some (some (.inr (.inr none)), σ1))
    (x_der r2 fun a3 => x_ck σ1 a3 5 <|
    (if (x_I σ1 a3 1) = (-1) then
      (some (some (.inr (.inr none)), σ1))
    else
      (x_der r2 fun a4 => x_ck σ1 a4 5 <|
      (if (x_I σ1 a4 2) ≤ 20 then
        (some (some (.inr (.inr r2)), σ1))
      else
        (some (some (.inr (.inr none)), σ1)))))))) := rfl
set_option maxRecDepth 100000 in
set_option maxHeartbeats 1000000 in
/-- I.partOf -/
theorem e123_0 (O : Nat → List xV → xS → Option xR) (k : Nat → xF) (i0 : Int32) (i1 : Int32) (i2 : Int32) (σ : xS) : x_b O x_X0 x_TX (x_C 123) k 3000 (x_suf (x_C 123) 0) [some (.inl i0), some (.inl i1), some (.inl i2)] [] σ =
  (if 0 < i1 then
    (if i1 = 0 then none else
    (if i1 = 0 then none else
    (if (i0 - i0 / i1 * i1) ≤ i2 then
      (some (some (.inl ((i0 / i1) + 0)), σ))
    else
      (some (some (.inl ((i0 / i1) + 1)), σ)))))
  else
    (some (some (.inl i0), σ))) := rfl
set_option maxRecDepth 100000 in
set_option maxHeartbeats 1000000 in
/-- I.meansOf -/
theorem e124_0 (O : Nat → List xV → xS → Option xR) (k : Nat → xF) (h : Nat) (q1 : Option Nat) (i2 : Int32) (i3 : Int32) (σ : xS) : x_b O x_X0 x_TX (x_C 124) k 3000 (x_suf (x_C 124) 0) [some (.inr (.inr (some h))), some (.inr (.inr q1)), some (.inl i2), some (.inl i3), none, none, none, none] [] σ =
  k 6 [some (.inr (.inr (some h))), some (.inr (.inr q1)), some (.inl i2), some (.inl i3), some (.inr (.inl 0)), none, some (.inl 0), none] [] σ := rfl
set_option maxRecDepth 100000 in
set_option maxHeartbeats 1000000 in
/-- I.meansOf -/
theorem e124_6 (O : Nat → List xV → xS → Option xR) (k : Nat → xF) (h : Nat) (q1 : Option Nat) (i2 : Int32) (i3 : Int32) (j4 : Int64) (i6 : Int32) (σ : xS) : x_b O x_X0 x_TX (x_C 124) k 3000 (x_suf (x_C 124) 6) [some (.inr (.inr (some h))), some (.inr (.inr q1)), some (.inl i2), some (.inl i3), some (.inr (.inl j4)), none, some (.inl i6), none] [] σ =
  (if i3 ≤ i6 then
    (some (some (.inr (.inl j4)), σ))
  else
    (x_ci (O 123 [.inl i2, .inl i3, .inl i6] σ) fun x2 σ1 =>
    (x_ck σ1 h 9 <|
    x_cr (O 120 [.inr (.inr (some h))] σ1) fun r4 σ3 =>
    (x_ck σ3 h 9 <|
    (x_der (x_Q σ3 h 0) fun a5 => x_ck σ3 a5 8 <|
    (x_der q1 fun a6 => x_ck σ3 a6 2 <|
    x_ci (O 19 [.inr (.inr q1), .inr (.inr r4), .inl (x_I σ3 a5 2), .inl x2] σ3) fun x8 σ7 =>
    (x_der q1 fun a9 => x_ck σ7 a9 2 <|
    x_ci (O 20 [.inr (.inr q1), .inl x2] σ7) fun x11 σ10 =>
    k 6 [some (.inr (.inr (some h))), some (.inr (.inr q1)), some (.inl i2), some (.inl i3), some (.inr (.inl (j4 + (x8.toInt64 * x11.toInt64)))), none, some (.inl (i6 + 1)), none] [] σ10))))))) := rfl
set_option maxRecDepth 100000 in
set_option maxHeartbeats 1000000 in
/-- I.imagine -/
theorem e125_0 (O : Nat → List xV → xS → Option xR) (k : Nat → xF) (h : Nat) (i1 : Int32) (i2 : Int32) (i3 : Int32) (σ : xS) : x_b O x_X0 x_TX (x_C 125) k 3000 (x_suf (x_C 125) 0) [some (.inr (.inr (some h))), some (.inl i1), some (.inl i2), some (.inl i3), none] [] σ =
  (x_ck σ h 9 <|
  (x_ck σ h 9 <|
  (x_der (x_Q σ h 2) fun a1 => x_ck σ a1 8 <|
  x_cv (O 66 [.inr (.inr (x_Q σ h 2)), .inr (.inr (x_Q σ h 0))] σ) fun σ2 =>
  (x_ck σ2 h 9 <|
  (x_der (x_Q σ2 h 13) fun a3 => x_ck σ2 a3 3 <|
  x_cv (O 23 [.inr (.inr (x_Q σ2 h 13)), .inl i1] σ2) fun σ4 =>
  k 22 [some (.inr (.inr (some h))), none, some (.inl i2), some (.inl i3), some (.inl 0)] [] σ4))))) := rfl
set_option maxRecDepth 100000 in
set_option maxHeartbeats 1000000 in
/-- I.imagine -/
theorem e125_22 (O : Nat → List xV → xS → Option xR) (k : Nat → xF) (h : Nat) (i2 : Int32) (i3 : Int32) (i4 : Int32) (σ : xS) : x_b O x_X0 x_TX (x_C 125) k 3000 (x_suf (x_C 125) 22) [some (.inr (.inr (some h))), none, some (.inl i2), some (.inl i3), some (.inl i4)] [] σ =
  (if i2 ≤ i4 then
    (some (none, σ))
  else
    (x_ck σ h 9 <|
    (x_ck σ h 9 <|
    (x_ck σ h 9 <|
    x_cr (O 120 [.inr (.inr (some h))] σ) fun r2 σ1 =>
    (x_der (x_Q σ h 2) fun a3 => x_ck σ1 a3 8 <|
    x_ci (O 70 [.inr (.inr (x_Q σ h 2)), .inr (.inr (x_Q σ h 13)), .inr (.inr r2)] σ1) fun x5 σ4 =>
    (x_ck σ4 h 9 <|
    (x_der (x_Q σ4 h 2) fun a6 => x_ck σ4 a6 8 <|
    x_cv (O 71 [.inr (.inr (x_Q σ4 h 2)), .inl i4] σ4) fun σ7 =>
    (if i3 = 0 then
      k 22 [some (.inr (.inr (some h))), none, some (.inl i2), some (.inl i3), some (.inl (i4 + 1))] [] σ7
    else
      (x_ck σ7 h 9 <|
      (x_der (x_Q σ7 h 2) fun a8 => x_ck σ7 a8 8 <|
      (if (x_I σ7 a8 8) = (-1) then
        k 22 [some (.inr (.inr (some h))), none, some (.inl i2), some (.inl i3), some (.inl (i4 + 1))] [] σ7
      else
        (some (none, σ7))))))))))))) := rfl
set_option maxRecDepth 100000 in
set_option maxHeartbeats 1000000 in
/-- I.within -/
theorem e126_0 (O : Nat → List xV → xS → Option xR) (k : Nat → xF) (i0 : Int32) (i1 : Int32) (i2 : Int32) (σ : xS) : x_b O x_X0 x_TX (x_C 126) k 3000 (x_suf (x_C 126) 0) [some (.inl i0), some (.inl i1), some (.inl i2)] [] σ =
  (if i0 < i1 then
    (some (some (.inl 0), σ))
  else
    (if i2 < i0 then
      (some (some (.inl 0), σ))
    else
      (some (some (.inl 1), σ)))) := rfl
set_option maxRecDepth 100000 in
set_option maxHeartbeats 1000000 in
/-- I.isByte -/
theorem e127_0 (O : Nat → List xV → xS → Option xR) (k : Nat → xF) (i0 : Int32) (σ : xS) : x_b O x_X0 x_TX (x_C 127) k 3000 (x_suf (x_C 127) 0) [some (.inl i0)] [] σ =
  (x_ci (O 126 [.inl i0, .inl 0, .inl 255] σ) fun x2 σ1 =>
  (x_bl x2 <| some (some (.inl x2), σ1))) := rfl
set_option maxRecDepth 100000 in
set_option maxHeartbeats 1000000 in
/-- I.bounded -/
theorem e128_0 (O : Nat → List xV → xS → Option xR) (k : Nat → xF) (i0 : Int32) (i1 : Int32) (σ : xS) : x_b O x_X0 x_TX (x_C 128) k 3000 (x_suf (x_C 128) 0) [some (.inl i0), some (.inl i1)] [] σ =
  (some (some (.inl (if (0 : Int32) < (if i0 < i1 then i0 else i1) then (if i0 < i1 then i0 else i1) else 0)), σ)) := rfl
set_option maxRecDepth 100000 in
set_option maxHeartbeats 1000000 in
/-- I.at -/
theorem e129_0 (O : Nat → List xV → xS → Option xR) (k : Nat → xF) (q0 : Option Nat) (i1 : Int32) (σ : xS) : x_b O x_X0 x_TX (x_C 129) k 3000 (x_suf (x_C 129) 0) [some (.inr (.inr q0)), some (.inl i1)] [] σ =
  (if i1 < 0 then
    (some (some (.inl 0), σ))
  else
    (x_der q0 fun a1 => x_aa σ a1 fun n2 => (if (Int32.ofNat n2) ≤ i1 then
      (some (some (.inl 0), σ))
    else
      (x_der q0 fun a3 => x_ak σ a3 11 fun n4 => x_ix i1 n4 <|
      (some (some (.inl (x_I σ a3 (i1).toNatClampNeg)), σ)))))) := rfl
set_option maxRecDepth 100000 in
set_option maxHeartbeats 1000000 in
/-- I.store -/
theorem e130_0 (O : Nat → List xV → xS → Option xR) (k : Nat → xF) (q0 : Option Nat) (i1 : Int32) (i2 : Int32) (σ : xS) : x_b O x_X0 x_TX (x_C 130) k 3000 (x_suf (x_C 130) 0) [some (.inr (.inr q0)), some (.inl i1), some (.inl i2)] [] σ =
  (if i1 < 0 then
    (some (none, σ))
  else
    (x_der q0 fun a1 => x_aa σ a1 fun n2 => (if (Int32.ofNat n2) ≤ i1 then
      (some (none, σ))
    else
      (x_der q0 fun a3 => x_ak σ a3 11 fun n4 => x_ix i1 n4 <|
      (some (none, x_si σ a3 (i1).toNatClampNeg i2)))))) := rfl
set_option maxRecDepth 100000 in
set_option maxHeartbeats 1000000 in
/-- I.lowest -/
theorem e131_0 (O : Nat → List xV → xS → Option xR) (k : Nat → xF) (j0 : Int64) (j2 : Int64) (i4 : Int32) (σ : xS) : x_b O x_X0 x_TX (x_C 131) k 3000 (x_suf (x_C 131) 0) [some (.inr (.inl j0)), none, some (.inr (.inl j2)), none, some (.inl i4), none, none, none, none, none, none, none] [] σ =
  k 9 [some (.inr (.inl j0)), none, some (.inr (.inl j2)), none, some (.inl i4), some (.inr (.inl j0)), none, some (.inr (.inl j2)), none, some (.inl 0), none, none] [] σ := rfl
set_option maxRecDepth 100000 in
set_option maxHeartbeats 1000000 in
/-- I.lowest -/
theorem e131_9 (O : Nat → List xV → xS → Option xR) (k : Nat → xF) (j0 : Int64) (j2 : Int64) (i4 : Int32) (j5 : Int64) (j7 : Int64) (i9 : Int32) (σ : xS) : x_b O x_X0 x_TX (x_C 131) k 3000 (x_suf (x_C 131) 9) [some (.inr (.inl j0)), none, some (.inr (.inl j2)), none, some (.inl i4), some (.inr (.inl j5)), none, some (.inr (.inl j7)), none, some (.inl i9), none, none] [] σ =
  (if 1000 ≤ i9 then
    k 45 [some (.inr (.inl j0)), none, some (.inr (.inl j2)), none, some (.inl i4), some (.inr (.inl j5)), none, none, none, none, none, none] [] σ
  else
    (if (lg_cmp j7 0) = 0 then
      k 45 [some (.inr (.inl j0)), none, some (.inr (.inl j2)), none, some (.inl i4), some (.inr (.inl j5)), none, none, none, none, none, none] [] σ
    else
      (if j7 = 0 then none else
      k 9 [some (.inr (.inl j0)), none, some (.inr (.inl j2)), none, some (.inl i4), some (.inr (.inl j7)), none, some (.inr (.inl (j5 - j5 / j7 * j7))), none, some (.inl (i9 + 1)), none, none] [] σ))) := rfl
set_option maxRecDepth 100000 in
set_option maxHeartbeats 1000000 in
/-- I.lowest -/
theorem e131_45 (O : Nat → List xV → xS → Option xR) (k : Nat → xF) (j0 : Int64) (j2 : Int64) (i4 : Int32) (j5 : Int64) (σ : xS) : x_b O x_X0 x_TX (x_C 131) k 3000 (x_suf (x_C 131) 45) [some (.inr (.inl j0)), none, some (.inr (.inl j2)), none, some (.inl i4), some (.inr (.inl j5)), none, none, none, none, none, none] [] σ =
  (if i4 = 0 then
    (if (lg_cmp j5 0) ≤ 0 then
      (some (some (.inr (.inl j0)), σ))
    else
      (if j5 = 0 then none else
      (some (some (.inr (.inl (j0 / j5))), σ))))
  else
    (if (lg_cmp j5 0) ≤ 0 then
      (some (some (.inr (.inl j2)), σ))
    else
      (if j5 = 0 then none else
      (some (some (.inr (.inl (j2 / j5))), σ))))) := rfl
theorem r75 (d : Nat) (h : Nat) (σ : xS) : x_run (d + 1) 75 [.inr (.inr (some h))] σ = x_b (x_run d) x_X0 x_TX (x_C 75) (x_f d 75) 3000 (x_suf (x_C 75) 0) [some (.inr (.inr (some h))), none] [] σ := x_feq d 75 0 [some (.inr (.inr (some h))), none] [] σ
theorem r76 (d : Nat) (h : Nat) (i1 : Int32) (σ : xS) : x_run (d + 1) 76 [.inr (.inr (some h)), .inl i1] σ = x_b (x_run d) x_X0 x_TX (x_C 76) (x_f d 76) 3000 (x_suf (x_C 76) 0) [some (.inr (.inr (some h))), some (.inl i1)] [] σ := x_feq d 76 0 [some (.inr (.inr (some h))), some (.inl i1)] [] σ
theorem r77 (d : Nat) (h : Nat) (i1 : Int32) (i2 : Int32) (σ : xS) : x_run (d + 1) 77 [.inr (.inr (some h)), .inl i1, .inl i2] σ = x_b (x_run d) x_X0 x_TX (x_C 77) (x_f d 77) 3000 (x_suf (x_C 77) 0) [some (.inr (.inr (some h))), some (.inl i1), some (.inl i2), none] [] σ := x_feq d 77 0 [some (.inr (.inr (some h))), some (.inl i1), some (.inl i2), none] [] σ
theorem r78 (d : Nat) (h : Nat) (i1 : Int32) (i2 : Int32) (i3 : Int32) (i4 : Int32) (i5 : Int32) (i6 : Int32) (σ : xS) : x_run (d + 1) 78 [.inr (.inr (some h)), .inl i1, .inl i2, .inl i3, .inl i4, .inl i5, .inl i6] σ = x_b (x_run d) x_X0 x_TX (x_C 78) (x_f d 78) 3000 (x_suf (x_C 78) 0) [some (.inr (.inr (some h))), some (.inl i1), some (.inl i2), some (.inl i3), some (.inl i4), some (.inl i5), some (.inl i6), none] [] σ := x_feq d 78 0 [some (.inr (.inr (some h))), some (.inl i1), some (.inl i2), some (.inl i3), some (.inl i4), some (.inl i5), some (.inl i6), none] [] σ
theorem r79 (d : Nat) (h : Nat) (σ : xS) : x_run (d + 1) 79 [.inr (.inr (some h))] σ = x_b (x_run d) x_X0 x_TX (x_C 79) (x_f d 79) 3000 (x_suf (x_C 79) 0) [some (.inr (.inr (some h))), none] [] σ := x_feq d 79 0 [some (.inr (.inr (some h))), none] [] σ
theorem r80 (d : Nat) (h : Nat) (i1 : Int32) (σ : xS) : x_run (d + 1) 80 [.inr (.inr (some h)), .inl i1] σ = x_b (x_run d) x_X0 x_TX (x_C 80) (x_f d 80) 3000 (x_suf (x_C 80) 0) [some (.inr (.inr (some h))), some (.inl i1), none] [] σ := x_feq d 80 0 [some (.inr (.inr (some h))), some (.inl i1), none] [] σ
theorem r81 (d : Nat) (h : Nat) (i1 : Int32) (i2 : Int32) (i3 : Int32) (i4 : Int32) (σ : xS) : x_run (d + 1) 81 [.inr (.inr (some h)), .inl i1, .inl i2, .inl i3, .inl i4] σ = x_b (x_run d) x_X0 x_TX (x_C 81) (x_f d 81) 3000 (x_suf (x_C 81) 0) [some (.inr (.inr (some h))), some (.inl i1), some (.inl i2), some (.inl i3), some (.inl i4), none] [] σ := x_feq d 81 0 [some (.inr (.inr (some h))), some (.inl i1), some (.inl i2), some (.inl i3), some (.inl i4), none] [] σ
theorem r82 (d : Nat) (h : Nat) (i1 : Int32) (i2 : Int32) (i3 : Int32) (σ : xS) : x_run (d + 1) 82 [.inr (.inr (some h)), .inl i1, .inl i2, .inl i3] σ = x_b (x_run d) x_X0 x_TX (x_C 82) (x_f d 82) 3000 (x_suf (x_C 82) 0) [some (.inr (.inr (some h))), some (.inl i1), some (.inl i2), some (.inl i3)] [] σ := x_feq d 82 0 [some (.inr (.inr (some h))), some (.inl i1), some (.inl i2), some (.inl i3)] [] σ
theorem r83 (d : Nat) (h : Nat) (i1 : Int32) (i2 : Int32) (i3 : Int32) (σ : xS) : x_run (d + 1) 83 [.inr (.inr (some h)), .inl i1, .inl i2, .inl i3] σ = x_b (x_run d) x_X0 x_TX (x_C 83) (x_f d 83) 3000 (x_suf (x_C 83) 0) [some (.inr (.inr (some h))), some (.inl i1), some (.inl i2), some (.inl i3), none, none] [] σ := x_feq d 83 0 [some (.inr (.inr (some h))), some (.inl i1), some (.inl i2), some (.inl i3), none, none] [] σ
theorem r84 (d : Nat) (h : Nat) (i1 : Int32) (i2 : Int32) (σ : xS) : x_run (d + 1) 84 [.inr (.inr (some h)), .inl i1, .inl i2] σ = x_b (x_run d) x_X0 x_TX (x_C 84) (x_f d 84) 3000 (x_suf (x_C 84) 0) [some (.inr (.inr (some h))), some (.inl i1), some (.inl i2), none] [] σ := x_feq d 84 0 [some (.inr (.inr (some h))), some (.inl i1), some (.inl i2), none] [] σ
theorem r85 (d : Nat) (h : Nat) (i1 : Int32) (i2 : Int32) (σ : xS) : x_run (d + 1) 85 [.inr (.inr (some h)), .inl i1, .inl i2] σ = x_b (x_run d) x_X0 x_TX (x_C 85) (x_f d 85) 3000 (x_suf (x_C 85) 0) [some (.inr (.inr (some h))), some (.inl i1), some (.inl i2), none, none, none] [] σ := x_feq d 85 0 [some (.inr (.inr (some h))), some (.inl i1), some (.inl i2), none, none, none] [] σ
theorem r86 (d : Nat) (h : Nat) (i1 : Int32) (i2 : Int32) (σ : xS) : x_run (d + 1) 86 [.inr (.inr (some h)), .inl i1, .inl i2] σ = x_b (x_run d) x_X0 x_TX (x_C 86) (x_f d 86) 3000 (x_suf (x_C 86) 0) [some (.inr (.inr (some h))), some (.inl i1), some (.inl i2), none] [] σ := x_feq d 86 0 [some (.inr (.inr (some h))), some (.inl i1), some (.inl i2), none] [] σ
theorem r87 (d : Nat) (h : Nat) (i1 : Int32) (i2 : Int32) (i3 : Int32) (σ : xS) : x_run (d + 1) 87 [.inr (.inr (some h)), .inl i1, .inl i2, .inl i3] σ = x_b (x_run d) x_X0 x_TX (x_C 87) (x_f d 87) 3000 (x_suf (x_C 87) 0) [some (.inr (.inr (some h))), some (.inl i1), some (.inl i2), some (.inl i3), none] [] σ := x_feq d 87 0 [some (.inr (.inr (some h))), some (.inl i1), some (.inl i2), some (.inl i3), none] [] σ
theorem r88 (d : Nat) (h : Nat) (i1 : Int32) (i2 : Int32) (i3 : Int32) (σ : xS) : x_run (d + 1) 88 [.inr (.inr (some h)), .inl i1, .inl i2, .inl i3] σ = x_b (x_run d) x_X0 x_TX (x_C 88) (x_f d 88) 3000 (x_suf (x_C 88) 0) [some (.inr (.inr (some h))), some (.inl i1), some (.inl i2), some (.inl i3), none] [] σ := x_feq d 88 0 [some (.inr (.inr (some h))), some (.inl i1), some (.inl i2), some (.inl i3), none] [] σ
theorem r89 (d : Nat) (h : Nat) (i1 : Int32) (i2 : Int32) (i3 : Int32) (i4 : Int32) (σ : xS) : x_run (d + 1) 89 [.inr (.inr (some h)), .inl i1, .inl i2, .inl i3, .inl i4] σ = x_b (x_run d) x_X0 x_TX (x_C 89) (x_f d 89) 3000 (x_suf (x_C 89) 0) [some (.inr (.inr (some h))), some (.inl i1), some (.inl i2), some (.inl i3), some (.inl i4), none] [] σ := x_feq d 89 0 [some (.inr (.inr (some h))), some (.inl i1), some (.inl i2), some (.inl i3), some (.inl i4), none] [] σ
theorem r90 (d : Nat) (h : Nat) (i1 : Int32) (i2 : Int32) (σ : xS) : x_run (d + 1) 90 [.inr (.inr (some h)), .inl i1, .inl i2] σ = x_b (x_run d) x_X0 x_TX (x_C 90) (x_f d 90) 3000 (x_suf (x_C 90) 0) [some (.inr (.inr (some h))), some (.inl i1), some (.inl i2), none, none, none] [] σ := x_feq d 90 0 [some (.inr (.inr (some h))), some (.inl i1), some (.inl i2), none, none, none] [] σ
theorem r91 (d : Nat) (h : Nat) (i1 : Int32) (i2 : Int32) (i3 : Int32) (σ : xS) : x_run (d + 1) 91 [.inr (.inr (some h)), .inl i1, .inl i2, .inl i3] σ = x_b (x_run d) x_X0 x_TX (x_C 91) (x_f d 91) 3000 (x_suf (x_C 91) 0) [some (.inr (.inr (some h))), some (.inl i1), some (.inl i2), some (.inl i3), none, none] [] σ := x_feq d 91 0 [some (.inr (.inr (some h))), some (.inl i1), some (.inl i2), some (.inl i3), none, none] [] σ
theorem r92 (d : Nat) (h : Nat) (i1 : Int32) (i2 : Int32) (σ : xS) : x_run (d + 1) 92 [.inr (.inr (some h)), .inl i1, .inl i2] σ = x_b (x_run d) x_X0 x_TX (x_C 92) (x_f d 92) 3000 (x_suf (x_C 92) 0) [some (.inr (.inr (some h))), some (.inl i1), some (.inl i2), none, none] [] σ := x_feq d 92 0 [some (.inr (.inr (some h))), some (.inl i1), some (.inl i2), none, none] [] σ
theorem r93 (d : Nat) (h : Nat) (i1 : Int32) (i2 : Int32) (i3 : Int32) (σ : xS) : x_run (d + 1) 93 [.inr (.inr (some h)), .inl i1, .inl i2, .inl i3] σ = x_b (x_run d) x_X0 x_TX (x_C 93) (x_f d 93) 3000 (x_suf (x_C 93) 0) [some (.inr (.inr (some h))), some (.inl i1), some (.inl i2), some (.inl i3), none, none, none, none, none, none, none] [] σ := x_feq d 93 0 [some (.inr (.inr (some h))), some (.inl i1), some (.inl i2), some (.inl i3), none, none, none, none, none, none, none] [] σ
theorem r94 (d : Nat) (h : Nat) (i1 : Int32) (i2 : Int32) (σ : xS) : x_run (d + 1) 94 [.inr (.inr (some h)), .inl i1, .inl i2] σ = x_b (x_run d) x_X0 x_TX (x_C 94) (x_f d 94) 3000 (x_suf (x_C 94) 0) [some (.inr (.inr (some h))), some (.inl i1), some (.inl i2), none, none] [] σ := x_feq d 94 0 [some (.inr (.inr (some h))), some (.inl i1), some (.inl i2), none, none] [] σ
theorem r95 (d : Nat) (h : Nat) (i1 : Int32) (i2 : Int32) (i3 : Int32) (i4 : Int32) (σ : xS) : x_run (d + 1) 95 [.inr (.inr (some h)), .inl i1, .inl i2, .inl i3, .inl i4] σ = x_b (x_run d) x_X0 x_TX (x_C 95) (x_f d 95) 3000 (x_suf (x_C 95) 0) [some (.inr (.inr (some h))), some (.inl i1), some (.inl i2), some (.inl i3), some (.inl i4), none, none, none, none, none, none] [] σ := x_feq d 95 0 [some (.inr (.inr (some h))), some (.inl i1), some (.inl i2), some (.inl i3), some (.inl i4), none, none, none, none, none, none] [] σ
theorem r96 (d : Nat) (h : Nat) (i1 : Int32) (i2 : Int32) (i3 : Int32) (σ : xS) : x_run (d + 1) 96 [.inr (.inr (some h)), .inl i1, .inl i2, .inl i3] σ = x_b (x_run d) x_X0 x_TX (x_C 96) (x_f d 96) 3000 (x_suf (x_C 96) 0) [some (.inr (.inr (some h))), some (.inl i1), some (.inl i2), some (.inl i3)] [] σ := x_feq d 96 0 [some (.inr (.inr (some h))), some (.inl i1), some (.inl i2), some (.inl i3)] [] σ
theorem r97 (d : Nat) (h : Nat) (i1 : Int32) (σ : xS) : x_run (d + 1) 97 [.inr (.inr (some h)), .inl i1] σ = x_b (x_run d) x_X0 x_TX (x_C 97) (x_f d 97) 3000 (x_suf (x_C 97) 0) [some (.inr (.inr (some h))), some (.inl i1), none, none, none] [] σ := x_feq d 97 0 [some (.inr (.inr (some h))), some (.inl i1), none, none, none] [] σ
theorem r98 (d : Nat) (h : Nat) (i1 : Int32) (i2 : Int32) (σ : xS) : x_run (d + 1) 98 [.inr (.inr (some h)), .inl i1, .inl i2] σ = x_b (x_run d) x_X0 x_TX (x_C 98) (x_f d 98) 3000 (x_suf (x_C 98) 0) [some (.inr (.inr (some h))), some (.inl i1), some (.inl i2), none] [] σ := x_feq d 98 0 [some (.inr (.inr (some h))), some (.inl i1), some (.inl i2), none] [] σ
theorem r99 (d : Nat) (h : Nat) (i1 : Int32) (σ : xS) : x_run (d + 1) 99 [.inr (.inr (some h)), .inl i1] σ = x_b (x_run d) x_X0 x_TX (x_C 99) (x_f d 99) 3000 (x_suf (x_C 99) 0) [some (.inr (.inr (some h))), some (.inl i1), none] [] σ := x_feq d 99 0 [some (.inr (.inr (some h))), some (.inl i1), none] [] σ
theorem r100 (d : Nat) (h : Nat) (i1 : Int32) (σ : xS) : x_run (d + 1) 100 [.inr (.inr (some h)), .inl i1] σ = x_b (x_run d) x_X0 x_TX (x_C 100) (x_f d 100) 3000 (x_suf (x_C 100) 0) [some (.inr (.inr (some h))), some (.inl i1)] [] σ := x_feq d 100 0 [some (.inr (.inr (some h))), some (.inl i1)] [] σ
theorem r101 (d : Nat) (h : Nat) (σ : xS) : x_run (d + 1) 101 [.inr (.inr (some h))] σ = x_b (x_run d) x_X0 x_TX (x_C 101) (x_f d 101) 3000 (x_suf (x_C 101) 0) [some (.inr (.inr (some h))), none, none] [] σ := x_feq d 101 0 [some (.inr (.inr (some h))), none, none] [] σ
theorem r102 (d : Nat) (h : Nat) (i1 : Int32) (σ : xS) : x_run (d + 1) 102 [.inr (.inr (some h)), .inl i1] σ = x_b (x_run d) x_X0 x_TX (x_C 102) (x_f d 102) 3000 (x_suf (x_C 102) 0) [some (.inr (.inr (some h))), some (.inl i1), none] [] σ := x_feq d 102 0 [some (.inr (.inr (some h))), some (.inl i1), none] [] σ
theorem r103 (d : Nat) (h : Nat) (i1 : Int32) (i2 : Int32) (i3 : Int32) (σ : xS) : x_run (d + 1) 103 [.inr (.inr (some h)), .inl i1, .inl i2, .inl i3] σ = x_b (x_run d) x_X0 x_TX (x_C 103) (x_f d 103) 3000 (x_suf (x_C 103) 0) [some (.inr (.inr (some h))), some (.inl i1), some (.inl i2), some (.inl i3), none] [] σ := x_feq d 103 0 [some (.inr (.inr (some h))), some (.inl i1), some (.inl i2), some (.inl i3), none] [] σ
theorem r104 (d : Nat) (h : Nat) (i1 : Int32) (i2 : Int32) (i3 : Int32) (σ : xS) : x_run (d + 1) 104 [.inr (.inr (some h)), .inl i1, .inl i2, .inl i3] σ = x_b (x_run d) x_X0 x_TX (x_C 104) (x_f d 104) 3000 (x_suf (x_C 104) 0) [some (.inr (.inr (some h))), some (.inl i1), some (.inl i2), some (.inl i3), none, none, none] [] σ := x_feq d 104 0 [some (.inr (.inr (some h))), some (.inl i1), some (.inl i2), some (.inl i3), none, none, none] [] σ
theorem r105 (d : Nat) (h : Nat) (i1 : Int32) (i2 : Int32) (σ : xS) : x_run (d + 1) 105 [.inr (.inr (some h)), .inl i1, .inl i2] σ = x_b (x_run d) x_X0 x_TX (x_C 105) (x_f d 105) 3000 (x_suf (x_C 105) 0) [some (.inr (.inr (some h))), some (.inl i1), some (.inl i2), none, none] [] σ := x_feq d 105 0 [some (.inr (.inr (some h))), some (.inl i1), some (.inl i2), none, none] [] σ
theorem r106 (d : Nat) (h : Nat) (i1 : Int32) (i2 : Int32) (σ : xS) : x_run (d + 1) 106 [.inr (.inr (some h)), .inl i1, .inl i2] σ = x_b (x_run d) x_X0 x_TX (x_C 106) (x_f d 106) 3000 (x_suf (x_C 106) 0) [some (.inr (.inr (some h))), some (.inl i1), some (.inl i2), none, none] [] σ := x_feq d 106 0 [some (.inr (.inr (some h))), some (.inl i1), some (.inl i2), none, none] [] σ
theorem r107 (d : Nat) (h : Nat) (i1 : Int32) (i2 : Int32) (i3 : Int32) (σ : xS) : x_run (d + 1) 107 [.inr (.inr (some h)), .inl i1, .inl i2, .inl i3] σ = x_b (x_run d) x_X0 x_TX (x_C 107) (x_f d 107) 3000 (x_suf (x_C 107) 0) [some (.inr (.inr (some h))), some (.inl i1), some (.inl i2), some (.inl i3), none, none, none, none, none, none] [] σ := x_feq d 107 0 [some (.inr (.inr (some h))), some (.inl i1), some (.inl i2), some (.inl i3), none, none, none, none, none, none] [] σ
theorem r108 (d : Nat) (h : Nat) (i1 : Int32) (i2 : Int32) (σ : xS) : x_run (d + 1) 108 [.inr (.inr (some h)), .inl i1, .inl i2] σ = x_b (x_run d) x_X0 x_TX (x_C 108) (x_f d 108) 3000 (x_suf (x_C 108) 0) [some (.inr (.inr (some h))), some (.inl i1), some (.inl i2), none, none, none] [] σ := x_feq d 108 0 [some (.inr (.inr (some h))), some (.inl i1), some (.inl i2), none, none, none] [] σ
theorem r109 (d : Nat) (h : Nat) (i1 : Int32) (i2 : Int32) (i3 : Int32) (σ : xS) : x_run (d + 1) 109 [.inr (.inr (some h)), .inl i1, .inl i2, .inl i3] σ = x_b (x_run d) x_X0 x_TX (x_C 109) (x_f d 109) 3000 (x_suf (x_C 109) 0) [some (.inr (.inr (some h))), some (.inl i1), some (.inl i2), some (.inl i3), none, none, none] [] σ := x_feq d 109 0 [some (.inr (.inr (some h))), some (.inl i1), some (.inl i2), some (.inl i3), none, none, none] [] σ
theorem r110 (d : Nat) (h : Nat) (i1 : Int32) (i2 : Int32) (σ : xS) : x_run (d + 1) 110 [.inr (.inr (some h)), .inl i1, .inl i2] σ = x_b (x_run d) x_X0 x_TX (x_C 110) (x_f d 110) 3000 (x_suf (x_C 110) 0) [some (.inr (.inr (some h))), some (.inl i1), some (.inl i2), none, none] [] σ := x_feq d 110 0 [some (.inr (.inr (some h))), some (.inl i1), some (.inl i2), none, none] [] σ
theorem r111 (d : Nat) (h : Nat) (i1 : Int32) (i2 : Int32) (i3 : Int32) (i4 : Int32) (σ : xS) : x_run (d + 1) 111 [.inr (.inr (some h)), .inl i1, .inl i2, .inl i3, .inl i4] σ = x_b (x_run d) x_X0 x_TX (x_C 111) (x_f d 111) 3000 (x_suf (x_C 111) 0) [some (.inr (.inr (some h))), some (.inl i1), some (.inl i2), some (.inl i3), some (.inl i4), none, none] [] σ := x_feq d 111 0 [some (.inr (.inr (some h))), some (.inl i1), some (.inl i2), some (.inl i3), some (.inl i4), none, none] [] σ
theorem r112 (d : Nat) (h : Nat) (σ : xS) : x_run (d + 1) 112 [.inr (.inr (some h))] σ = x_b (x_run d) x_X0 x_TX (x_C 112) (x_f d 112) 3000 (x_suf (x_C 112) 0) [some (.inr (.inr (some h)))] [] σ := x_feq d 112 0 [some (.inr (.inr (some h)))] [] σ
theorem r113 (d : Nat) (h : Nat) (σ : xS) : x_run (d + 1) 113 [.inr (.inr (some h))] σ = x_b (x_run d) x_X0 x_TX (x_C 113) (x_f d 113) 3000 (x_suf (x_C 113) 0) [some (.inr (.inr (some h)))] [] σ := x_feq d 113 0 [some (.inr (.inr (some h)))] [] σ
theorem r114 (d : Nat) (h : Nat) (i1 : Int32) (i2 : Int32) (i3 : Int32) (σ : xS) : x_run (d + 1) 114 [.inr (.inr (some h)), .inl i1, .inl i2, .inl i3] σ = x_b (x_run d) x_X0 x_TX (x_C 114) (x_f d 114) 3000 (x_suf (x_C 114) 0) [some (.inr (.inr (some h))), some (.inl i1), some (.inl i2), some (.inl i3), none] [] σ := x_feq d 114 0 [some (.inr (.inr (some h))), some (.inl i1), some (.inl i2), some (.inl i3), none] [] σ
theorem r115 (d : Nat) (h : Nat) (i1 : Int32) (i2 : Int32) (i3 : Int32) (σ : xS) : x_run (d + 1) 115 [.inr (.inr (some h)), .inl i1, .inl i2, .inl i3] σ = x_b (x_run d) x_X0 x_TX (x_C 115) (x_f d 115) 3000 (x_suf (x_C 115) 0) [some (.inr (.inr (some h))), some (.inl i1), some (.inl i2), some (.inl i3), none] [] σ := x_feq d 115 0 [some (.inr (.inr (some h))), some (.inl i1), some (.inl i2), some (.inl i3), none] [] σ
theorem r116 (d : Nat) (h : Nat) (i1 : Int32) (i2 : Int32) (i3 : Int32) (i4 : Int32) (i5 : Int32) (σ : xS) : x_run (d + 1) 116 [.inr (.inr (some h)), .inl i1, .inl i2, .inl i3, .inl i4, .inl i5] σ = x_b (x_run d) x_X0 x_TX (x_C 116) (x_f d 116) 3000 (x_suf (x_C 116) 0) [some (.inr (.inr (some h))), some (.inl i1), some (.inl i2), some (.inl i3), some (.inl i4), some (.inl i5), none, none] [] σ := x_feq d 116 0 [some (.inr (.inr (some h))), some (.inl i1), some (.inl i2), some (.inl i3), some (.inl i4), some (.inl i5), none, none] [] σ
theorem r117 (d : Nat) (h : Nat) (i1 : Int32) (i2 : Int32) (i3 : Int32) (i4 : Int32) (σ : xS) : x_run (d + 1) 117 [.inr (.inr (some h)), .inl i1, .inl i2, .inl i3, .inl i4] σ = x_b (x_run d) x_X0 x_TX (x_C 117) (x_f d 117) 3000 (x_suf (x_C 117) 0) [some (.inr (.inr (some h))), some (.inl i1), some (.inl i2), some (.inl i3), some (.inl i4), none, none, none, none] [] σ := x_feq d 117 0 [some (.inr (.inr (some h))), some (.inl i1), some (.inl i2), some (.inl i3), some (.inl i4), none, none, none, none] [] σ
theorem r118 (d : Nat) (h : Nat) (i1 : Int32) (i2 : Int32) (σ : xS) : x_run (d + 1) 118 [.inr (.inr (some h)), .inl i1, .inl i2] σ = x_b (x_run d) x_X0 x_TX (x_C 118) (x_f d 118) 3000 (x_suf (x_C 118) 0) [some (.inr (.inr (some h))), some (.inl i1), some (.inl i2), none] [] σ := x_feq d 118 0 [some (.inr (.inr (some h))), some (.inl i1), some (.inl i2), none] [] σ
theorem r119 (d : Nat) (h : Nat) (i1 : Int32) (σ : xS) : x_run (d + 1) 119 [.inr (.inr (some h)), .inl i1] σ = x_b (x_run d) x_X0 x_TX (x_C 119) (x_f d 119) 3000 (x_suf (x_C 119) 0) [some (.inr (.inr (some h))), some (.inl i1), none] [] σ := x_feq d 119 0 [some (.inr (.inr (some h))), some (.inl i1), none] [] σ
theorem r120 (d : Nat) (h : Nat) (σ : xS) : x_run (d + 1) 120 [.inr (.inr (some h))] σ = x_b (x_run d) x_X0 x_TX (x_C 120) (x_f d 120) 3000 (x_suf (x_C 120) 0) [some (.inr (.inr (some h)))] [] σ := x_feq d 120 0 [some (.inr (.inr (some h)))] [] σ
theorem r121 (d : Nat) (h : Nat) (i1 : Int32) (σ : xS) : x_run (d + 1) 121 [.inr (.inr (some h)), .inl i1] σ = x_b (x_run d) x_X0 x_TX (x_C 121) (x_f d 121) 3000 (x_suf (x_C 121) 0) [some (.inr (.inr (some h))), some (.inl i1)] [] σ := x_feq d 121 0 [some (.inr (.inr (some h))), some (.inl i1)] [] σ
theorem r122 (d : Nat) (h : Nat) (i1 : Int32) (σ : xS) : x_run (d + 1) 122 [.inr (.inr (some h)), .inl i1] σ = x_b (x_run d) x_X0 x_TX (x_C 122) (x_f d 122) 3000 (x_suf (x_C 122) 0) [some (.inr (.inr (some h))), some (.inl i1), none] [] σ := x_feq d 122 0 [some (.inr (.inr (some h))), some (.inl i1), none] [] σ
theorem r123 (d : Nat) (i0 : Int32) (i1 : Int32) (i2 : Int32) (σ : xS) : x_run (d + 1) 123 [.inl i0, .inl i1, .inl i2] σ = x_b (x_run d) x_X0 x_TX (x_C 123) (x_f d 123) 3000 (x_suf (x_C 123) 0) [some (.inl i0), some (.inl i1), some (.inl i2)] [] σ := x_feq d 123 0 [some (.inl i0), some (.inl i1), some (.inl i2)] [] σ
theorem r124 (d : Nat) (h : Nat) (q1 : Option Nat) (i2 : Int32) (i3 : Int32) (σ : xS) : x_run (d + 1) 124 [.inr (.inr (some h)), .inr (.inr q1), .inl i2, .inl i3] σ = x_b (x_run d) x_X0 x_TX (x_C 124) (x_f d 124) 3000 (x_suf (x_C 124) 0) [some (.inr (.inr (some h))), some (.inr (.inr q1)), some (.inl i2), some (.inl i3), none, none, none, none] [] σ := x_feq d 124 0 [some (.inr (.inr (some h))), some (.inr (.inr q1)), some (.inl i2), some (.inl i3), none, none, none, none] [] σ
theorem r125 (d : Nat) (h : Nat) (i1 : Int32) (i2 : Int32) (i3 : Int32) (σ : xS) : x_run (d + 1) 125 [.inr (.inr (some h)), .inl i1, .inl i2, .inl i3] σ = x_b (x_run d) x_X0 x_TX (x_C 125) (x_f d 125) 3000 (x_suf (x_C 125) 0) [some (.inr (.inr (some h))), some (.inl i1), some (.inl i2), some (.inl i3), none] [] σ := x_feq d 125 0 [some (.inr (.inr (some h))), some (.inl i1), some (.inl i2), some (.inl i3), none] [] σ
theorem r126 (d : Nat) (i0 : Int32) (i1 : Int32) (i2 : Int32) (σ : xS) : x_run (d + 1) 126 [.inl i0, .inl i1, .inl i2] σ = x_b (x_run d) x_X0 x_TX (x_C 126) (x_f d 126) 3000 (x_suf (x_C 126) 0) [some (.inl i0), some (.inl i1), some (.inl i2)] [] σ := x_feq d 126 0 [some (.inl i0), some (.inl i1), some (.inl i2)] [] σ
theorem r127 (d : Nat) (i0 : Int32) (σ : xS) : x_run (d + 1) 127 [.inl i0] σ = x_b (x_run d) x_X0 x_TX (x_C 127) (x_f d 127) 3000 (x_suf (x_C 127) 0) [some (.inl i0)] [] σ := x_feq d 127 0 [some (.inl i0)] [] σ
theorem r128 (d : Nat) (i0 : Int32) (i1 : Int32) (σ : xS) : x_run (d + 1) 128 [.inl i0, .inl i1] σ = x_b (x_run d) x_X0 x_TX (x_C 128) (x_f d 128) 3000 (x_suf (x_C 128) 0) [some (.inl i0), some (.inl i1)] [] σ := x_feq d 128 0 [some (.inl i0), some (.inl i1)] [] σ
theorem r129 (d : Nat) (q0 : Option Nat) (i1 : Int32) (σ : xS) : x_run (d + 1) 129 [.inr (.inr q0), .inl i1] σ = x_b (x_run d) x_X0 x_TX (x_C 129) (x_f d 129) 3000 (x_suf (x_C 129) 0) [some (.inr (.inr q0)), some (.inl i1)] [] σ := x_feq d 129 0 [some (.inr (.inr q0)), some (.inl i1)] [] σ
theorem r130 (d : Nat) (q0 : Option Nat) (i1 : Int32) (i2 : Int32) (σ : xS) : x_run (d + 1) 130 [.inr (.inr q0), .inl i1, .inl i2] σ = x_b (x_run d) x_X0 x_TX (x_C 130) (x_f d 130) 3000 (x_suf (x_C 130) 0) [some (.inr (.inr q0)), some (.inl i1), some (.inl i2)] [] σ := x_feq d 130 0 [some (.inr (.inr q0)), some (.inl i1), some (.inl i2)] [] σ
theorem r131 (d : Nat) (j0 : Int64) (j2 : Int64) (i4 : Int32) (σ : xS) : x_run (d + 1) 131 [.inr (.inl j0), .inr (.inl j2), .inl i4] σ = x_b (x_run d) x_X0 x_TX (x_C 131) (x_f d 131) 3000 (x_suf (x_C 131) 0) [some (.inr (.inl j0)), none, some (.inr (.inl j2)), none, some (.inl i4), none, none, none, none, none, none, none] [] σ := x_feq d 131 0 [some (.inr (.inl j0)), none, some (.inr (.inl j2)), none, some (.inl i4), none, none, none, none, none, none, none] [] σ
end
