/-! the law's pieces, by program (wip/whole/gen23.py) -/
set_option maxRecDepth 100000 in
set_option maxHeartbeats 4000000 in
theorem eL_0 (O : Nat → List xV → xS → Option xR) (X : Nat × (Nat → Int32)) (k : Nat → xF) (σ : xS) : x_b O X x_TX x_lc k 3000 (x_suf x_lc 0) [some (.inr (.inr (some 2000))), none, none, none] [] σ =
  (bif Nat.blt (σ).1.length 900 then
  (x_cv (O 75 [.inr (.inr (some (σ).1.length))] (x_new σ 9 0)) fun σ1 =>
  (bif Nat.blt (σ1).1.length 900 then
  (x_cv (O 132 [.inr (.inr (some (σ1).1.length))] (x_new σ1 10 0)) fun σ2 =>
  k 18 [some (.inr (.inr (some 2000))), some (.inr (.inr (some (σ).1.length))), some (.inr (.inr (some (σ1).1.length))), some (.inl 0)] [] σ2) else none)) else none) := rfl
set_option maxRecDepth 100000 in
set_option maxHeartbeats 4000000 in
theorem eL_18 (O : Nat → List xV → xS → Option xR) (X : Nat × (Nat → Int32)) (k : Nat → xF) (i3 : Int32) (σ : xS) : x_b O X x_TX x_lc k 3000 (x_suf x_lc 18) [some (.inr (.inr (some 2000))), some (.inr (.inr (some 0))), some (.inr (.inr (some 78))), some (.inl i3)] [] σ =
  (x_der (some 2000) fun a1 => (if ((Int32.ofNat X.1) - 7) < i3 then
    (some (some (.inl 1), σ))
  else
    (x_der (some 2000) fun a2 => x_ix i3 X.1 <|
    (if ((X.2 (i3).toNatClampNeg) &&& 63) = 0 then
      k 220 [some (.inr (.inr (some 2000))), some (.inr (.inr (some 0))), some (.inr (.inr (some 78))), some (.inl i3)] [] σ
    else
      (if ((X.2 (i3).toNatClampNeg) &&& 63) = 1 then
      k 243 [some (.inr (.inr (some 2000))), some (.inr (.inr (some 0))), some (.inr (.inr (some 78))), some (.inl i3)] [] σ
    else
      (if ((X.2 (i3).toNatClampNeg) &&& 63) = 2 then
      k 276 [some (.inr (.inr (some 2000))), some (.inr (.inr (some 0))), some (.inr (.inr (some 78))), some (.inl i3)] [] σ
    else
      (if ((X.2 (i3).toNatClampNeg) &&& 63) = 3 then
      k 351 [some (.inr (.inr (some 2000))), some (.inr (.inr (some 0))), some (.inr (.inr (some 78))), some (.inl i3)] [] σ
    else
      (if ((X.2 (i3).toNatClampNeg) &&& 63) = 4 then
      k 364 [some (.inr (.inr (some 2000))), some (.inr (.inr (some 0))), some (.inr (.inr (some 78))), some (.inl i3)] [] σ
    else
      (if ((X.2 (i3).toNatClampNeg) &&& 63) = 5 then
      k 387 [some (.inr (.inr (some 2000))), some (.inr (.inr (some 0))), some (.inr (.inr (some 78))), some (.inl i3)] [] σ
    else
      (if ((X.2 (i3).toNatClampNeg) &&& 63) = 6 then
      k 440 [some (.inr (.inr (some 2000))), some (.inr (.inr (some 0))), some (.inr (.inr (some 78))), some (.inl i3)] [] σ
    else
      (if ((X.2 (i3).toNatClampNeg) &&& 63) = 7 then
      k 483 [some (.inr (.inr (some 2000))), some (.inr (.inr (some 0))), some (.inr (.inr (some 78))), some (.inl i3)] [] σ
    else
      (if ((X.2 (i3).toNatClampNeg) &&& 63) = 8 then
      k 526 [some (.inr (.inr (some 2000))), some (.inr (.inr (some 0))), some (.inr (.inr (some 78))), some (.inl i3)] [] σ
    else
      (if ((X.2 (i3).toNatClampNeg) &&& 63) = 9 then
      k 559 [some (.inr (.inr (some 2000))), some (.inr (.inr (some 0))), some (.inr (.inr (some 78))), some (.inl i3)] [] σ
    else
      (if ((X.2 (i3).toNatClampNeg) &&& 63) = 10 then
      k 592 [some (.inr (.inr (some 2000))), some (.inr (.inr (some 0))), some (.inr (.inr (some 78))), some (.inl i3)] [] σ
    else
      (if ((X.2 (i3).toNatClampNeg) &&& 63) = 11 then
      k 625 [some (.inr (.inr (some 2000))), some (.inr (.inr (some 0))), some (.inr (.inr (some 78))), some (.inl i3)] [] σ
    else
      (if ((X.2 (i3).toNatClampNeg) &&& 63) = 12 then
      k 669 [some (.inr (.inr (some 2000))), some (.inr (.inr (some 0))), some (.inr (.inr (some 78))), some (.inl i3)] [] σ
    else
      (if ((X.2 (i3).toNatClampNeg) &&& 63) = 13 then
      k 713 [some (.inr (.inr (some 2000))), some (.inr (.inr (some 0))), some (.inr (.inr (some 78))), some (.inl i3)] [] σ
    else
      (if ((X.2 (i3).toNatClampNeg) &&& 63) = 14 then
      k 767 [some (.inr (.inr (some 2000))), some (.inr (.inr (some 0))), some (.inr (.inr (some 78))), some (.inl i3)] [] σ
    else
      (if ((X.2 (i3).toNatClampNeg) &&& 63) = 15 then
      k 801 [some (.inr (.inr (some 2000))), some (.inr (.inr (some 0))), some (.inr (.inr (some 78))), some (.inl i3)] [] σ
    else
      (if ((X.2 (i3).toNatClampNeg) &&& 63) = 16 then
      k 844 [some (.inr (.inr (some 2000))), some (.inr (.inr (some 0))), some (.inr (.inr (some 78))), some (.inl i3)] [] σ
    else
      (if ((X.2 (i3).toNatClampNeg) &&& 63) = 17 then
      k 877 [some (.inr (.inr (some 2000))), some (.inr (.inr (some 0))), some (.inr (.inr (some 78))), some (.inl i3)] [] σ
    else
      (if ((X.2 (i3).toNatClampNeg) &&& 63) = 18 then
      k 921 [some (.inr (.inr (some 2000))), some (.inr (.inr (some 0))), some (.inr (.inr (some 78))), some (.inl i3)] [] σ
    else
      (if ((X.2 (i3).toNatClampNeg) &&& 63) = 19 then
      k 954 [some (.inr (.inr (some 2000))), some (.inr (.inr (some 0))), some (.inr (.inr (some 78))), some (.inl i3)] [] σ
    else
      (if ((X.2 (i3).toNatClampNeg) &&& 63) = 20 then
      k 1008 [some (.inr (.inr (some 2000))), some (.inr (.inr (some 0))), some (.inr (.inr (some 78))), some (.inl i3)] [] σ
    else
      (if ((X.2 (i3).toNatClampNeg) &&& 63) = 21 then
      k 1051 [some (.inr (.inr (some 2000))), some (.inr (.inr (some 0))), some (.inr (.inr (some 78))), some (.inl i3)] [] σ
    else
      (if ((X.2 (i3).toNatClampNeg) &&& 63) = 22 then
      k 1074 [some (.inr (.inr (some 2000))), some (.inr (.inr (some 0))), some (.inr (.inr (some 78))), some (.inl i3)] [] σ
    else
      (if ((X.2 (i3).toNatClampNeg) &&& 63) = 23 then
      k 1107 [some (.inr (.inr (some 2000))), some (.inr (.inr (some 0))), some (.inr (.inr (some 78))), some (.inl i3)] [] σ
    else
      (if ((X.2 (i3).toNatClampNeg) &&& 63) = 24 then
      k 1130 [some (.inr (.inr (some 2000))), some (.inr (.inr (some 0))), some (.inr (.inr (some 78))), some (.inl i3)] [] σ
    else
      (if ((X.2 (i3).toNatClampNeg) &&& 63) = 25 then
      k 1153 [some (.inr (.inr (some 2000))), some (.inr (.inr (some 0))), some (.inr (.inr (some 78))), some (.inl i3)] [] σ
    else
      (if ((X.2 (i3).toNatClampNeg) &&& 63) = 26 then
      k 1166 [some (.inr (.inr (some 2000))), some (.inr (.inr (some 0))), some (.inr (.inr (some 78))), some (.inl i3)] [] σ
    else
      (if ((X.2 (i3).toNatClampNeg) &&& 63) = 27 then
      k 1189 [some (.inr (.inr (some 2000))), some (.inr (.inr (some 0))), some (.inr (.inr (some 78))), some (.inl i3)] [] σ
    else
      (if ((X.2 (i3).toNatClampNeg) &&& 63) = 28 then
      k 1232 [some (.inr (.inr (some 2000))), some (.inr (.inr (some 0))), some (.inr (.inr (some 78))), some (.inl i3)] [] σ
    else
      (if ((X.2 (i3).toNatClampNeg) &&& 63) = 29 then
      k 1276 [some (.inr (.inr (some 2000))), some (.inr (.inr (some 0))), some (.inr (.inr (some 78))), some (.inl i3)] [] σ
    else
      (if ((X.2 (i3).toNatClampNeg) &&& 63) = 30 then
      k 1309 [some (.inr (.inr (some 2000))), some (.inr (.inr (some 0))), some (.inr (.inr (some 78))), some (.inl i3)] [] σ
    else
      (if ((X.2 (i3).toNatClampNeg) &&& 63) = 31 then
      k 1343 [some (.inr (.inr (some 2000))), some (.inr (.inr (some 0))), some (.inr (.inr (some 78))), some (.inl i3)] [] σ
    else
      (if ((X.2 (i3).toNatClampNeg) &&& 63) = 32 then
      k 1387 [some (.inr (.inr (some 2000))), some (.inr (.inr (some 0))), some (.inr (.inr (some 78))), some (.inl i3)] [] σ
    else
      (if ((X.2 (i3).toNatClampNeg) &&& 63) = 33 then
      k 1421 [some (.inr (.inr (some 2000))), some (.inr (.inr (some 0))), some (.inr (.inr (some 78))), some (.inl i3)] [] σ
    else
      (if ((X.2 (i3).toNatClampNeg) &&& 63) = 34 then
      k 1465 [some (.inr (.inr (some 2000))), some (.inr (.inr (some 0))), some (.inr (.inr (some 78))), some (.inl i3)] [] σ
    else
      (if ((X.2 (i3).toNatClampNeg) &&& 63) = 35 then
      k 1498 [some (.inr (.inr (some 2000))), some (.inr (.inr (some 0))), some (.inr (.inr (some 78))), some (.inl i3)] [] σ
    else
      (if ((X.2 (i3).toNatClampNeg) &&& 63) = 36 then
      k 1551 [some (.inr (.inr (some 2000))), some (.inr (.inr (some 0))), some (.inr (.inr (some 78))), some (.inl i3)] [] σ
    else
      (if ((X.2 (i3).toNatClampNeg) &&& 63) = 37 then
      k 1564 [some (.inr (.inr (some 2000))), some (.inr (.inr (some 0))), some (.inr (.inr (some 78))), some (.inl i3)] [] σ
    else
      (if ((X.2 (i3).toNatClampNeg) &&& 63) = 38 then
      k 1577 [some (.inr (.inr (some 2000))), some (.inr (.inr (some 0))), some (.inr (.inr (some 78))), some (.inl i3)] [] σ
    else
      (if ((X.2 (i3).toNatClampNeg) &&& 63) = 39 then
      k 1620 [some (.inr (.inr (some 2000))), some (.inr (.inr (some 0))), some (.inr (.inr (some 78))), some (.inl i3)] [] σ
    else
      (if ((X.2 (i3).toNatClampNeg) &&& 63) = 40 then
      k 1663 [some (.inr (.inr (some 2000))), some (.inr (.inr (some 0))), some (.inr (.inr (some 78))), some (.inl i3)] [] σ
    else
      (if ((X.2 (i3).toNatClampNeg) &&& 63) = 41 then
      k 1726 [some (.inr (.inr (some 2000))), some (.inr (.inr (some 0))), some (.inr (.inr (some 78))), some (.inl i3)] [] σ
    else
      (if ((X.2 (i3).toNatClampNeg) &&& 63) = 42 then
      k 1779 [some (.inr (.inr (some 2000))), some (.inr (.inr (some 0))), some (.inr (.inr (some 78))), some (.inl i3)] [] σ
    else
      k 1812 [some (.inr (.inr (some 2000))), some (.inr (.inr (some 0))), some (.inr (.inr (some 78))), some (.inl i3)] [] σ)))))))))))))))))))))))))))))))))))))))))))))) := rfl
set_option maxRecDepth 100000 in
set_option maxHeartbeats 4000000 in
theorem eL_220 (O : Nat → List xV → xS → Option xR) (X : Nat × (Nat → Int32)) (k : Nat → xF) (i3 : Int32) (σ : xS) : x_b O X x_TX x_lc k 3000 (x_suf x_lc 220) [some (.inr (.inr (some 2000))), some (.inr (.inr (some 0))), some (.inr (.inr (some 78))), some (.inl i3)] [] σ =
  (x_der (some 2000) fun a1 => x_ix (i3 + 1) X.1 <|
  (x_der (some 0) fun a2 => x_ck σ a2 9 <|
  x_ci (O 76 [.inr (.inr (some 0)), .inl (X.2 (i3 + 1).toNatClampNeg)] σ) fun x4 σ3 =>
  (x_der (some 2000) fun a5 => x_ix (i3 + 1) X.1 <|
  (x_der (some 78) fun a6 => x_ck σ3 a6 10 <|
  x_ci (O 136 [.inr (.inr (some 78)), .inl (X.2 (i3 + 1).toNatClampNeg)] σ3) fun x8 σ7 =>
  (if x4 = x8 then
    k 1812 [some (.inr (.inr (some 2000))), some (.inr (.inr (some 0))), some (.inr (.inr (some 78))), some (.inl i3)] [] σ7
  else
    (some (some (.inl 0), σ7))))))) := rfl
set_option maxRecDepth 100000 in
set_option maxHeartbeats 4000000 in
theorem eL_243 (O : Nat → List xV → xS → Option xR) (X : Nat × (Nat → Int32)) (k : Nat → xF) (i3 : Int32) (σ : xS) : x_b O X x_TX x_lc k 3000 (x_suf x_lc 243) [some (.inr (.inr (some 2000))), some (.inr (.inr (some 0))), some (.inr (.inr (some 78))), some (.inl i3)] [] σ =
  (x_der (some 2000) fun a1 => x_ix (i3 + 1) X.1 <|
  (x_der (some 2000) fun a2 => x_ix (i3 + 2) X.1 <|
  (x_der (some 0) fun a3 => x_ck σ a3 9 <|
  x_ci (O 77 [.inr (.inr (some 0)), .inl (X.2 (i3 + 1).toNatClampNeg), .inl (X.2 (i3 + 2).toNatClampNeg)] σ) fun x5 σ4 =>
  (x_der (some 2000) fun a6 => x_ix (i3 + 1) X.1 <|
  (x_der (some 2000) fun a7 => x_ix (i3 + 2) X.1 <|
  (x_der (some 78) fun a8 => x_ck σ4 a8 10 <|
  x_ci (O 137 [.inr (.inr (some 78)), .inl (X.2 (i3 + 1).toNatClampNeg), .inl (X.2 (i3 + 2).toNatClampNeg)] σ4) fun x10 σ9 =>
  (if x5 = x10 then
    k 1812 [some (.inr (.inr (some 2000))), some (.inr (.inr (some 0))), some (.inr (.inr (some 78))), some (.inl i3)] [] σ9
  else
    (some (some (.inl 0), σ9))))))))) := rfl
set_option maxRecDepth 100000 in
set_option maxHeartbeats 4000000 in
theorem eL_276 (O : Nat → List xV → xS → Option xR) (X : Nat × (Nat → Int32)) (k : Nat → xF) (i3 : Int32) (σ : xS) : x_b O X x_TX x_lc k 3000 (x_suf x_lc 276) [some (.inr (.inr (some 2000))), some (.inr (.inr (some 0))), some (.inr (.inr (some 78))), some (.inl i3)] [] σ =
  (x_der (some 2000) fun a1 => x_ix (i3 + 1) X.1 <|
  (x_der (some 2000) fun a2 => x_ix (i3 + 2) X.1 <|
  (x_der (some 2000) fun a3 => x_ix (i3 + 3) X.1 <|
  (x_der (some 2000) fun a4 => x_ix (i3 + 4) X.1 <|
  (x_der (some 2000) fun a5 => x_ix (i3 + 5) X.1 <|
  (x_der (some 2000) fun a6 => x_ix (i3 + 6) X.1 <|
  (x_der (some 0) fun a7 => x_ck σ a7 9 <|
  x_ci (O 78 [.inr (.inr (some 0)), .inl (X.2 (i3 + 1).toNatClampNeg), .inl (X.2 (i3 + 2).toNatClampNeg), .inl (X.2 (i3 + 3).toNatClampNeg), .inl (X.2 (i3 + 4).toNatClampNeg), .inl (X.2 (i3 + 5).toNatClampNeg), .inl (X.2 (i3 + 6).toNatClampNeg)] σ) fun x9 σ8 =>
  (x_der (some 2000) fun a10 => x_ix (i3 + 1) X.1 <|
  (x_der (some 2000) fun a11 => x_ix (i3 + 2) X.1 <|
  (x_der (some 2000) fun a12 => x_ix (i3 + 3) X.1 <|
  (x_der (some 2000) fun a13 => x_ix (i3 + 4) X.1 <|
  (x_der (some 2000) fun a14 => x_ix (i3 + 5) X.1 <|
  (x_der (some 2000) fun a15 => x_ix (i3 + 6) X.1 <|
  (x_der (some 78) fun a16 => x_ck σ8 a16 10 <|
  x_ci (O 139 [.inr (.inr (some 78)), .inl (X.2 (i3 + 1).toNatClampNeg), .inl (X.2 (i3 + 2).toNatClampNeg), .inl (X.2 (i3 + 3).toNatClampNeg), .inl (X.2 (i3 + 4).toNatClampNeg), .inl (X.2 (i3 + 5).toNatClampNeg), .inl (X.2 (i3 + 6).toNatClampNeg)] σ8) fun x18 σ17 =>
  (if x9 = x18 then
    k 1812 [some (.inr (.inr (some 2000))), some (.inr (.inr (some 0))), some (.inr (.inr (some 78))), some (.inl i3)] [] σ17
  else
    (some (some (.inl 0), σ17))))))))))))))))) := rfl
set_option maxRecDepth 100000 in
set_option maxHeartbeats 4000000 in
theorem eL_351 (O : Nat → List xV → xS → Option xR) (X : Nat × (Nat → Int32)) (k : Nat → xF) (i3 : Int32) (σ : xS) : x_b O X x_TX x_lc k 3000 (x_suf x_lc 351) [some (.inr (.inr (some 2000))), some (.inr (.inr (some 0))), some (.inr (.inr (some 78))), some (.inl i3)] [] σ =
  (x_der (some 0) fun a1 => x_ck σ a1 9 <|
  x_ci (O 79 [.inr (.inr (some 0))] σ) fun x3 σ2 =>
  (x_der (some 78) fun a4 => x_ck σ2 a4 10 <|
  x_ci (O 150 [.inr (.inr (some 78))] σ2) fun x6 σ5 =>
  (if x3 = x6 then
    k 1812 [some (.inr (.inr (some 2000))), some (.inr (.inr (some 0))), some (.inr (.inr (some 78))), some (.inl i3)] [] σ5
  else
    (some (some (.inl 0), σ5))))) := rfl
set_option maxRecDepth 100000 in
set_option maxHeartbeats 4000000 in
theorem eL_364 (O : Nat → List xV → xS → Option xR) (X : Nat × (Nat → Int32)) (k : Nat → xF) (i3 : Int32) (σ : xS) : x_b O X x_TX x_lc k 3000 (x_suf x_lc 364) [some (.inr (.inr (some 2000))), some (.inr (.inr (some 0))), some (.inr (.inr (some 78))), some (.inl i3)] [] σ =
  (x_der (some 2000) fun a1 => x_ix (i3 + 1) X.1 <|
  (x_der (some 0) fun a2 => x_ck σ a2 9 <|
  x_ci (O 80 [.inr (.inr (some 0)), .inl (X.2 (i3 + 1).toNatClampNeg)] σ) fun x4 σ3 =>
  (x_der (some 2000) fun a5 => x_ix (i3 + 1) X.1 <|
  (x_der (some 78) fun a6 => x_ck σ3 a6 10 <|
  x_ci (O 153 [.inr (.inr (some 78)), .inl (X.2 (i3 + 1).toNatClampNeg)] σ3) fun x8 σ7 =>
  (if x4 = x8 then
    k 1812 [some (.inr (.inr (some 2000))), some (.inr (.inr (some 0))), some (.inr (.inr (some 78))), some (.inl i3)] [] σ7
  else
    (some (some (.inl 0), σ7))))))) := rfl
set_option maxRecDepth 100000 in
set_option maxHeartbeats 4000000 in
theorem eL_387 (O : Nat → List xV → xS → Option xR) (X : Nat × (Nat → Int32)) (k : Nat → xF) (i3 : Int32) (σ : xS) : x_b O X x_TX x_lc k 3000 (x_suf x_lc 387) [some (.inr (.inr (some 2000))), some (.inr (.inr (some 0))), some (.inr (.inr (some 78))), some (.inl i3)] [] σ =
  (x_der (some 2000) fun a1 => x_ix (i3 + 1) X.1 <|
  (x_der (some 2000) fun a2 => x_ix (i3 + 2) X.1 <|
  (x_der (some 2000) fun a3 => x_ix (i3 + 3) X.1 <|
  (x_der (some 2000) fun a4 => x_ix (i3 + 4) X.1 <|
  (x_der (some 0) fun a5 => x_ck σ a5 9 <|
  x_ci (O 81 [.inr (.inr (some 0)), .inl (X.2 (i3 + 1).toNatClampNeg), .inl (X.2 (i3 + 2).toNatClampNeg), .inl (X.2 (i3 + 3).toNatClampNeg), .inl (X.2 (i3 + 4).toNatClampNeg)] σ) fun x7 σ6 =>
  (x_der (some 2000) fun a8 => x_ix (i3 + 1) X.1 <|
  (x_der (some 2000) fun a9 => x_ix (i3 + 2) X.1 <|
  (x_der (some 2000) fun a10 => x_ix (i3 + 3) X.1 <|
  (x_der (some 2000) fun a11 => x_ix (i3 + 4) X.1 <|
  (x_der (some 78) fun a12 => x_ck σ6 a12 10 <|
  x_ci (O 155 [.inr (.inr (some 78)), .inl (X.2 (i3 + 1).toNatClampNeg), .inl (X.2 (i3 + 2).toNatClampNeg), .inl (X.2 (i3 + 3).toNatClampNeg), .inl (X.2 (i3 + 4).toNatClampNeg)] σ6) fun x14 σ13 =>
  (if x7 = x14 then
    k 1812 [some (.inr (.inr (some 2000))), some (.inr (.inr (some 0))), some (.inr (.inr (some 78))), some (.inl i3)] [] σ13
  else
    (some (some (.inl 0), σ13))))))))))))) := rfl
set_option maxRecDepth 100000 in
set_option maxHeartbeats 4000000 in
theorem eL_440 (O : Nat → List xV → xS → Option xR) (X : Nat × (Nat → Int32)) (k : Nat → xF) (i3 : Int32) (σ : xS) : x_b O X x_TX x_lc k 3000 (x_suf x_lc 440) [some (.inr (.inr (some 2000))), some (.inr (.inr (some 0))), some (.inr (.inr (some 78))), some (.inl i3)] [] σ =
  (x_der (some 2000) fun a1 => x_ix (i3 + 1) X.1 <|
  (x_der (some 2000) fun a2 => x_ix (i3 + 2) X.1 <|
  (x_der (some 2000) fun a3 => x_ix (i3 + 3) X.1 <|
  (x_der (some 0) fun a4 => x_ck σ a4 9 <|
  x_ci (O 82 [.inr (.inr (some 0)), .inl (X.2 (i3 + 1).toNatClampNeg), .inl (X.2 (i3 + 2).toNatClampNeg), .inl (X.2 (i3 + 3).toNatClampNeg)] σ) fun x6 σ5 =>
  (x_der (some 2000) fun a7 => x_ix (i3 + 1) X.1 <|
  (x_der (some 2000) fun a8 => x_ix (i3 + 2) X.1 <|
  (x_der (some 2000) fun a9 => x_ix (i3 + 3) X.1 <|
  (x_der (some 78) fun a10 => x_ck σ5 a10 10 <|
  x_ci (O 156 [.inr (.inr (some 78)), .inl (X.2 (i3 + 1).toNatClampNeg), .inl (X.2 (i3 + 2).toNatClampNeg), .inl (X.2 (i3 + 3).toNatClampNeg)] σ5) fun x12 σ11 =>
  (if x6 = x12 then
    k 1812 [some (.inr (.inr (some 2000))), some (.inr (.inr (some 0))), some (.inr (.inr (some 78))), some (.inl i3)] [] σ11
  else
    (some (some (.inl 0), σ11))))))))))) := rfl
set_option maxRecDepth 100000 in
set_option maxHeartbeats 4000000 in
theorem eL_483 (O : Nat → List xV → xS → Option xR) (X : Nat × (Nat → Int32)) (k : Nat → xF) (i3 : Int32) (σ : xS) : x_b O X x_TX x_lc k 3000 (x_suf x_lc 483) [some (.inr (.inr (some 2000))), some (.inr (.inr (some 0))), some (.inr (.inr (some 78))), some (.inl i3)] [] σ =
  (x_der (some 2000) fun a1 => x_ix (i3 + 1) X.1 <|
  (x_der (some 2000) fun a2 => x_ix (i3 + 2) X.1 <|
  (x_der (some 2000) fun a3 => x_ix (i3 + 3) X.1 <|
  (x_der (some 0) fun a4 => x_ck σ a4 9 <|
  x_ci (O 83 [.inr (.inr (some 0)), .inl (X.2 (i3 + 1).toNatClampNeg), .inl (X.2 (i3 + 2).toNatClampNeg), .inl (X.2 (i3 + 3).toNatClampNeg)] σ) fun x6 σ5 =>
  (x_der (some 2000) fun a7 => x_ix (i3 + 1) X.1 <|
  (x_der (some 2000) fun a8 => x_ix (i3 + 2) X.1 <|
  (x_der (some 2000) fun a9 => x_ix (i3 + 3) X.1 <|
  (x_der (some 78) fun a10 => x_ck σ5 a10 10 <|
  x_ci (O 158 [.inr (.inr (some 78)), .inl (X.2 (i3 + 1).toNatClampNeg), .inl (X.2 (i3 + 2).toNatClampNeg), .inl (X.2 (i3 + 3).toNatClampNeg)] σ5) fun x12 σ11 =>
  (if x6 = x12 then
    k 1812 [some (.inr (.inr (some 2000))), some (.inr (.inr (some 0))), some (.inr (.inr (some 78))), some (.inl i3)] [] σ11
  else
    (some (some (.inl 0), σ11))))))))))) := rfl
set_option maxRecDepth 100000 in
set_option maxHeartbeats 4000000 in
theorem eL_526 (O : Nat → List xV → xS → Option xR) (X : Nat × (Nat → Int32)) (k : Nat → xF) (i3 : Int32) (σ : xS) : x_b O X x_TX x_lc k 3000 (x_suf x_lc 526) [some (.inr (.inr (some 2000))), some (.inr (.inr (some 0))), some (.inr (.inr (some 78))), some (.inl i3)] [] σ =
  (x_der (some 2000) fun a1 => x_ix (i3 + 1) X.1 <|
  (x_der (some 2000) fun a2 => x_ix (i3 + 2) X.1 <|
  (x_der (some 0) fun a3 => x_ck σ a3 9 <|
  x_ci (O 84 [.inr (.inr (some 0)), .inl (X.2 (i3 + 1).toNatClampNeg), .inl (X.2 (i3 + 2).toNatClampNeg)] σ) fun x5 σ4 =>
  (x_der (some 2000) fun a6 => x_ix (i3 + 1) X.1 <|
  (x_der (some 2000) fun a7 => x_ix (i3 + 2) X.1 <|
  (x_der (some 78) fun a8 => x_ck σ4 a8 10 <|
  x_ci (O 159 [.inr (.inr (some 78)), .inl (X.2 (i3 + 1).toNatClampNeg), .inl (X.2 (i3 + 2).toNatClampNeg)] σ4) fun x10 σ9 =>
  (if x5 = x10 then
    k 1812 [some (.inr (.inr (some 2000))), some (.inr (.inr (some 0))), some (.inr (.inr (some 78))), some (.inl i3)] [] σ9
  else
    (some (some (.inl 0), σ9))))))))) := rfl
set_option maxRecDepth 100000 in
set_option maxHeartbeats 4000000 in
theorem eL_559 (O : Nat → List xV → xS → Option xR) (X : Nat × (Nat → Int32)) (k : Nat → xF) (i3 : Int32) (σ : xS) : x_b O X x_TX x_lc k 3000 (x_suf x_lc 559) [some (.inr (.inr (some 2000))), some (.inr (.inr (some 0))), some (.inr (.inr (some 78))), some (.inl i3)] [] σ =
  (x_der (some 2000) fun a1 => x_ix (i3 + 1) X.1 <|
  (x_der (some 2000) fun a2 => x_ix (i3 + 2) X.1 <|
  (x_der (some 0) fun a3 => x_ck σ a3 9 <|
  x_ci (O 85 [.inr (.inr (some 0)), .inl (X.2 (i3 + 1).toNatClampNeg), .inl (X.2 (i3 + 2).toNatClampNeg)] σ) fun x5 σ4 =>
  (x_der (some 2000) fun a6 => x_ix (i3 + 1) X.1 <|
  (x_der (some 2000) fun a7 => x_ix (i3 + 2) X.1 <|
  (x_der (some 78) fun a8 => x_ck σ4 a8 10 <|
  x_ci (O 165 [.inr (.inr (some 78)), .inl (X.2 (i3 + 1).toNatClampNeg), .inl (X.2 (i3 + 2).toNatClampNeg)] σ4) fun x10 σ9 =>
  (if x5 = x10 then
    k 1812 [some (.inr (.inr (some 2000))), some (.inr (.inr (some 0))), some (.inr (.inr (some 78))), some (.inl i3)] [] σ9
  else
    (some (some (.inl 0), σ9))))))))) := rfl
set_option maxRecDepth 100000 in
set_option maxHeartbeats 4000000 in
theorem eL_592 (O : Nat → List xV → xS → Option xR) (X : Nat × (Nat → Int32)) (k : Nat → xF) (i3 : Int32) (σ : xS) : x_b O X x_TX x_lc k 3000 (x_suf x_lc 592) [some (.inr (.inr (some 2000))), some (.inr (.inr (some 0))), some (.inr (.inr (some 78))), some (.inl i3)] [] σ =
  (x_der (some 2000) fun a1 => x_ix (i3 + 1) X.1 <|
  (x_der (some 2000) fun a2 => x_ix (i3 + 2) X.1 <|
  (x_der (some 0) fun a3 => x_ck σ a3 9 <|
  x_ci (O 86 [.inr (.inr (some 0)), .inl (X.2 (i3 + 1).toNatClampNeg), .inl (X.2 (i3 + 2).toNatClampNeg)] σ) fun x5 σ4 =>
  (x_der (some 2000) fun a6 => x_ix (i3 + 1) X.1 <|
  (x_der (some 2000) fun a7 => x_ix (i3 + 2) X.1 <|
  (x_der (some 78) fun a8 => x_ck σ4 a8 10 <|
  x_ci (O 166 [.inr (.inr (some 78)), .inl (X.2 (i3 + 1).toNatClampNeg), .inl (X.2 (i3 + 2).toNatClampNeg)] σ4) fun x10 σ9 =>
  (if x5 = x10 then
    k 1812 [some (.inr (.inr (some 2000))), some (.inr (.inr (some 0))), some (.inr (.inr (some 78))), some (.inl i3)] [] σ9
  else
    (some (some (.inl 0), σ9))))))))) := rfl
set_option maxRecDepth 100000 in
set_option maxHeartbeats 4000000 in
theorem eL_625 (O : Nat → List xV → xS → Option xR) (X : Nat × (Nat → Int32)) (k : Nat → xF) (i3 : Int32) (σ : xS) : x_b O X x_TX x_lc k 3000 (x_suf x_lc 625) [some (.inr (.inr (some 2000))), some (.inr (.inr (some 0))), some (.inr (.inr (some 78))), some (.inl i3)] [] σ =
  (x_der (some 2000) fun a1 => x_ix (i3 + 1) X.1 <|
  (x_der (some 2000) fun a2 => x_ix (i3 + 2) X.1 <|
  (x_der (some 2000) fun a3 => x_ix (i3 + 3) X.1 <|
  (x_der (some 0) fun a4 => x_ck σ a4 9 <|
  x_cl (O 87 [.inr (.inr (some 0)), .inl (X.2 (i3 + 1).toNatClampNeg), .inl (X.2 (i3 + 2).toNatClampNeg), .inl (X.2 (i3 + 3).toNatClampNeg)] σ) fun y6 σ5 =>
  (x_der (some 2000) fun a7 => x_ix (i3 + 1) X.1 <|
  (x_der (some 2000) fun a8 => x_ix (i3 + 2) X.1 <|
  (x_der (some 2000) fun a9 => x_ix (i3 + 3) X.1 <|
  (x_der (some 78) fun a10 => x_ck σ5 a10 10 <|
  x_cl (O 170 [.inr (.inr (some 78)), .inl (X.2 (i3 + 1).toNatClampNeg), .inl (X.2 (i3 + 2).toNatClampNeg), .inl (X.2 (i3 + 3).toNatClampNeg)] σ5) fun y12 σ11 =>
  (if (lg_cmp y6 y12) = 0 then
    k 1812 [some (.inr (.inr (some 2000))), some (.inr (.inr (some 0))), some (.inr (.inr (some 78))), some (.inl i3)] [] σ11
  else
    (some (some (.inl 0), σ11))))))))))) := rfl
set_option maxRecDepth 100000 in
set_option maxHeartbeats 4000000 in
theorem eL_669 (O : Nat → List xV → xS → Option xR) (X : Nat × (Nat → Int32)) (k : Nat → xF) (i3 : Int32) (σ : xS) : x_b O X x_TX x_lc k 3000 (x_suf x_lc 669) [some (.inr (.inr (some 2000))), some (.inr (.inr (some 0))), some (.inr (.inr (some 78))), some (.inl i3)] [] σ =
  (x_der (some 2000) fun a1 => x_ix (i3 + 1) X.1 <|
  (x_der (some 2000) fun a2 => x_ix (i3 + 2) X.1 <|
  (x_der (some 2000) fun a3 => x_ix (i3 + 3) X.1 <|
  (x_der (some 0) fun a4 => x_ck σ a4 9 <|
  x_cl (O 88 [.inr (.inr (some 0)), .inl (X.2 (i3 + 1).toNatClampNeg), .inl (X.2 (i3 + 2).toNatClampNeg), .inl (X.2 (i3 + 3).toNatClampNeg)] σ) fun y6 σ5 =>
  (x_der (some 2000) fun a7 => x_ix (i3 + 1) X.1 <|
  (x_der (some 2000) fun a8 => x_ix (i3 + 2) X.1 <|
  (x_der (some 2000) fun a9 => x_ix (i3 + 3) X.1 <|
  (x_der (some 78) fun a10 => x_ck σ5 a10 10 <|
  x_cl (O 171 [.inr (.inr (some 78)), .inl (X.2 (i3 + 1).toNatClampNeg), .inl (X.2 (i3 + 2).toNatClampNeg), .inl (X.2 (i3 + 3).toNatClampNeg)] σ5) fun y12 σ11 =>
  (if (lg_cmp y6 y12) = 0 then
    k 1812 [some (.inr (.inr (some 2000))), some (.inr (.inr (some 0))), some (.inr (.inr (some 78))), some (.inl i3)] [] σ11
  else
    (some (some (.inl 0), σ11))))))))))) := rfl
set_option maxRecDepth 100000 in
set_option maxHeartbeats 4000000 in
theorem eL_713 (O : Nat → List xV → xS → Option xR) (X : Nat × (Nat → Int32)) (k : Nat → xF) (i3 : Int32) (σ : xS) : x_b O X x_TX x_lc k 3000 (x_suf x_lc 713) [some (.inr (.inr (some 2000))), some (.inr (.inr (some 0))), some (.inr (.inr (some 78))), some (.inl i3)] [] σ =
  (x_der (some 2000) fun a1 => x_ix (i3 + 1) X.1 <|
  (x_der (some 2000) fun a2 => x_ix (i3 + 2) X.1 <|
  (x_der (some 2000) fun a3 => x_ix (i3 + 3) X.1 <|
  (x_der (some 2000) fun a4 => x_ix (i3 + 4) X.1 <|
  (x_der (some 0) fun a5 => x_ck σ a5 9 <|
  x_cl (O 89 [.inr (.inr (some 0)), .inl (X.2 (i3 + 1).toNatClampNeg), .inl (X.2 (i3 + 2).toNatClampNeg), .inl (X.2 (i3 + 3).toNatClampNeg), .inl (X.2 (i3 + 4).toNatClampNeg)] σ) fun y7 σ6 =>
  (x_der (some 2000) fun a8 => x_ix (i3 + 1) X.1 <|
  (x_der (some 2000) fun a9 => x_ix (i3 + 2) X.1 <|
  (x_der (some 2000) fun a10 => x_ix (i3 + 3) X.1 <|
  (x_der (some 2000) fun a11 => x_ix (i3 + 4) X.1 <|
  (x_der (some 78) fun a12 => x_ck σ6 a12 10 <|
  x_cl (O 172 [.inr (.inr (some 78)), .inl (X.2 (i3 + 1).toNatClampNeg), .inl (X.2 (i3 + 2).toNatClampNeg), .inl (X.2 (i3 + 3).toNatClampNeg), .inl (X.2 (i3 + 4).toNatClampNeg)] σ6) fun y14 σ13 =>
  (if (lg_cmp y7 y14) = 0 then
    k 1812 [some (.inr (.inr (some 2000))), some (.inr (.inr (some 0))), some (.inr (.inr (some 78))), some (.inl i3)] [] σ13
  else
    (some (some (.inl 0), σ13))))))))))))) := rfl
set_option maxRecDepth 100000 in
set_option maxHeartbeats 4000000 in
theorem eL_767 (O : Nat → List xV → xS → Option xR) (X : Nat × (Nat → Int32)) (k : Nat → xF) (i3 : Int32) (σ : xS) : x_b O X x_TX x_lc k 3000 (x_suf x_lc 767) [some (.inr (.inr (some 2000))), some (.inr (.inr (some 0))), some (.inr (.inr (some 78))), some (.inl i3)] [] σ =
  (x_der (some 2000) fun a1 => x_ix (i3 + 1) X.1 <|
  (x_der (some 2000) fun a2 => x_ix (i3 + 2) X.1 <|
  (x_der (some 0) fun a3 => x_ck σ a3 9 <|
  x_cl (O 90 [.inr (.inr (some 0)), .inl (X.2 (i3 + 1).toNatClampNeg), .inl (X.2 (i3 + 2).toNatClampNeg)] σ) fun y5 σ4 =>
  (x_der (some 2000) fun a6 => x_ix (i3 + 1) X.1 <|
  (x_der (some 2000) fun a7 => x_ix (i3 + 2) X.1 <|
  (x_der (some 78) fun a8 => x_ck σ4 a8 10 <|
  x_cl (O 173 [.inr (.inr (some 78)), .inl (X.2 (i3 + 1).toNatClampNeg), .inl (X.2 (i3 + 2).toNatClampNeg)] σ4) fun y10 σ9 =>
  (if (lg_cmp y5 y10) = 0 then
    k 1812 [some (.inr (.inr (some 2000))), some (.inr (.inr (some 0))), some (.inr (.inr (some 78))), some (.inl i3)] [] σ9
  else
    (some (some (.inl 0), σ9))))))))) := rfl
set_option maxRecDepth 100000 in
set_option maxHeartbeats 4000000 in
theorem eL_801 (O : Nat → List xV → xS → Option xR) (X : Nat × (Nat → Int32)) (k : Nat → xF) (i3 : Int32) (σ : xS) : x_b O X x_TX x_lc k 3000 (x_suf x_lc 801) [some (.inr (.inr (some 2000))), some (.inr (.inr (some 0))), some (.inr (.inr (some 78))), some (.inl i3)] [] σ =
  (x_der (some 2000) fun a1 => x_ix (i3 + 1) X.1 <|
  (x_der (some 2000) fun a2 => x_ix (i3 + 2) X.1 <|
  (x_der (some 2000) fun a3 => x_ix (i3 + 3) X.1 <|
  (x_der (some 0) fun a4 => x_ck σ a4 9 <|
  x_ci (O 91 [.inr (.inr (some 0)), .inl (X.2 (i3 + 1).toNatClampNeg), .inl (X.2 (i3 + 2).toNatClampNeg), .inl (X.2 (i3 + 3).toNatClampNeg)] σ) fun x6 σ5 =>
  (x_der (some 2000) fun a7 => x_ix (i3 + 1) X.1 <|
  (x_der (some 2000) fun a8 => x_ix (i3 + 2) X.1 <|
  (x_der (some 2000) fun a9 => x_ix (i3 + 3) X.1 <|
  (x_der (some 78) fun a10 => x_ck σ5 a10 10 <|
  x_ci (O 174 [.inr (.inr (some 78)), .inl (X.2 (i3 + 1).toNatClampNeg), .inl (X.2 (i3 + 2).toNatClampNeg), .inl (X.2 (i3 + 3).toNatClampNeg)] σ5) fun x12 σ11 =>
  (if x6 = x12 then
    k 1812 [some (.inr (.inr (some 2000))), some (.inr (.inr (some 0))), some (.inr (.inr (some 78))), some (.inl i3)] [] σ11
  else
    (some (some (.inl 0), σ11))))))))))) := rfl
set_option maxRecDepth 100000 in
set_option maxHeartbeats 4000000 in
theorem eL_844 (O : Nat → List xV → xS → Option xR) (X : Nat × (Nat → Int32)) (k : Nat → xF) (i3 : Int32) (σ : xS) : x_b O X x_TX x_lc k 3000 (x_suf x_lc 844) [some (.inr (.inr (some 2000))), some (.inr (.inr (some 0))), some (.inr (.inr (some 78))), some (.inl i3)] [] σ =
  (x_der (some 2000) fun a1 => x_ix (i3 + 1) X.1 <|
  (x_der (some 2000) fun a2 => x_ix (i3 + 2) X.1 <|
  (x_der (some 0) fun a3 => x_ck σ a3 9 <|
  x_ci (O 92 [.inr (.inr (some 0)), .inl (X.2 (i3 + 1).toNatClampNeg), .inl (X.2 (i3 + 2).toNatClampNeg)] σ) fun x5 σ4 =>
  (x_der (some 2000) fun a6 => x_ix (i3 + 1) X.1 <|
  (x_der (some 2000) fun a7 => x_ix (i3 + 2) X.1 <|
  (x_der (some 78) fun a8 => x_ck σ4 a8 10 <|
  x_ci (O 175 [.inr (.inr (some 78)), .inl (X.2 (i3 + 1).toNatClampNeg), .inl (X.2 (i3 + 2).toNatClampNeg)] σ4) fun x10 σ9 =>
  (if x5 = x10 then
    k 1812 [some (.inr (.inr (some 2000))), some (.inr (.inr (some 0))), some (.inr (.inr (some 78))), some (.inl i3)] [] σ9
  else
    (some (some (.inl 0), σ9))))))))) := rfl
set_option maxRecDepth 100000 in
set_option maxHeartbeats 4000000 in
theorem eL_877 (O : Nat → List xV → xS → Option xR) (X : Nat × (Nat → Int32)) (k : Nat → xF) (i3 : Int32) (σ : xS) : x_b O X x_TX x_lc k 3000 (x_suf x_lc 877) [some (.inr (.inr (some 2000))), some (.inr (.inr (some 0))), some (.inr (.inr (some 78))), some (.inl i3)] [] σ =
  (x_der (some 2000) fun a1 => x_ix (i3 + 1) X.1 <|
  (x_der (some 2000) fun a2 => x_ix (i3 + 2) X.1 <|
  (x_der (some 2000) fun a3 => x_ix (i3 + 3) X.1 <|
  (x_der (some 0) fun a4 => x_ck σ a4 9 <|
  x_cl (O 93 [.inr (.inr (some 0)), .inl (X.2 (i3 + 1).toNatClampNeg), .inl (X.2 (i3 + 2).toNatClampNeg), .inl (X.2 (i3 + 3).toNatClampNeg)] σ) fun y6 σ5 =>
  (x_der (some 2000) fun a7 => x_ix (i3 + 1) X.1 <|
  (x_der (some 2000) fun a8 => x_ix (i3 + 2) X.1 <|
  (x_der (some 2000) fun a9 => x_ix (i3 + 3) X.1 <|
  (x_der (some 78) fun a10 => x_ck σ5 a10 10 <|
  x_cl (O 178 [.inr (.inr (some 78)), .inl (X.2 (i3 + 1).toNatClampNeg), .inl (X.2 (i3 + 2).toNatClampNeg), .inl (X.2 (i3 + 3).toNatClampNeg)] σ5) fun y12 σ11 =>
  (if (lg_cmp y6 y12) = 0 then
    k 1812 [some (.inr (.inr (some 2000))), some (.inr (.inr (some 0))), some (.inr (.inr (some 78))), some (.inl i3)] [] σ11
  else
    (some (some (.inl 0), σ11))))))))))) := rfl
set_option maxRecDepth 100000 in
set_option maxHeartbeats 4000000 in
theorem eL_921 (O : Nat → List xV → xS → Option xR) (X : Nat × (Nat → Int32)) (k : Nat → xF) (i3 : Int32) (σ : xS) : x_b O X x_TX x_lc k 3000 (x_suf x_lc 921) [some (.inr (.inr (some 2000))), some (.inr (.inr (some 0))), some (.inr (.inr (some 78))), some (.inl i3)] [] σ =
  (x_der (some 2000) fun a1 => x_ix (i3 + 1) X.1 <|
  (x_der (some 2000) fun a2 => x_ix (i3 + 2) X.1 <|
  (x_der (some 0) fun a3 => x_ck σ a3 9 <|
  x_ci (O 94 [.inr (.inr (some 0)), .inl (X.2 (i3 + 1).toNatClampNeg), .inl (X.2 (i3 + 2).toNatClampNeg)] σ) fun x5 σ4 =>
  (x_der (some 2000) fun a6 => x_ix (i3 + 1) X.1 <|
  (x_der (some 2000) fun a7 => x_ix (i3 + 2) X.1 <|
  (x_der (some 78) fun a8 => x_ck σ4 a8 10 <|
  x_ci (O 179 [.inr (.inr (some 78)), .inl (X.2 (i3 + 1).toNatClampNeg), .inl (X.2 (i3 + 2).toNatClampNeg)] σ4) fun x10 σ9 =>
  (if x5 = x10 then
    k 1812 [some (.inr (.inr (some 2000))), some (.inr (.inr (some 0))), some (.inr (.inr (some 78))), some (.inl i3)] [] σ9
  else
    (some (some (.inl 0), σ9))))))))) := rfl
set_option maxRecDepth 100000 in
set_option maxHeartbeats 4000000 in
theorem eL_954 (O : Nat → List xV → xS → Option xR) (X : Nat × (Nat → Int32)) (k : Nat → xF) (i3 : Int32) (σ : xS) : x_b O X x_TX x_lc k 3000 (x_suf x_lc 954) [some (.inr (.inr (some 2000))), some (.inr (.inr (some 0))), some (.inr (.inr (some 78))), some (.inl i3)] [] σ =
  (x_der (some 2000) fun a1 => x_ix (i3 + 1) X.1 <|
  (x_der (some 2000) fun a2 => x_ix (i3 + 2) X.1 <|
  (x_der (some 2000) fun a3 => x_ix (i3 + 3) X.1 <|
  (x_der (some 2000) fun a4 => x_ix (i3 + 4) X.1 <|
  (x_der (some 0) fun a5 => x_ck σ a5 9 <|
  x_cl (O 95 [.inr (.inr (some 0)), .inl (X.2 (i3 + 1).toNatClampNeg), .inl (X.2 (i3 + 2).toNatClampNeg), .inl (X.2 (i3 + 3).toNatClampNeg), .inl (X.2 (i3 + 4).toNatClampNeg)] σ) fun y7 σ6 =>
  (x_der (some 2000) fun a8 => x_ix (i3 + 1) X.1 <|
  (x_der (some 2000) fun a9 => x_ix (i3 + 2) X.1 <|
  (x_der (some 2000) fun a10 => x_ix (i3 + 3) X.1 <|
  (x_der (some 2000) fun a11 => x_ix (i3 + 4) X.1 <|
  (x_der (some 78) fun a12 => x_ck σ6 a12 10 <|
  x_cl (O 180 [.inr (.inr (some 78)), .inl (X.2 (i3 + 1).toNatClampNeg), .inl (X.2 (i3 + 2).toNatClampNeg), .inl (X.2 (i3 + 3).toNatClampNeg), .inl (X.2 (i3 + 4).toNatClampNeg)] σ6) fun y14 σ13 =>
  (if (lg_cmp y7 y14) = 0 then
    k 1812 [some (.inr (.inr (some 2000))), some (.inr (.inr (some 0))), some (.inr (.inr (some 78))), some (.inl i3)] [] σ13
  else
    (some (some (.inl 0), σ13))))))))))))) := rfl
set_option maxRecDepth 100000 in
set_option maxHeartbeats 4000000 in
theorem eL_1008 (O : Nat → List xV → xS → Option xR) (X : Nat × (Nat → Int32)) (k : Nat → xF) (i3 : Int32) (σ : xS) : x_b O X x_TX x_lc k 3000 (x_suf x_lc 1008) [some (.inr (.inr (some 2000))), some (.inr (.inr (some 0))), some (.inr (.inr (some 78))), some (.inl i3)] [] σ =
  (x_der (some 2000) fun a1 => x_ix (i3 + 1) X.1 <|
  (x_der (some 2000) fun a2 => x_ix (i3 + 2) X.1 <|
  (x_der (some 2000) fun a3 => x_ix (i3 + 3) X.1 <|
  (x_der (some 0) fun a4 => x_ck σ a4 9 <|
  x_ci (O 96 [.inr (.inr (some 0)), .inl (X.2 (i3 + 1).toNatClampNeg), .inl (X.2 (i3 + 2).toNatClampNeg), .inl (X.2 (i3 + 3).toNatClampNeg)] σ) fun x6 σ5 =>
  (x_der (some 2000) fun a7 => x_ix (i3 + 1) X.1 <|
  (x_der (some 2000) fun a8 => x_ix (i3 + 2) X.1 <|
  (x_der (some 2000) fun a9 => x_ix (i3 + 3) X.1 <|
  (x_der (some 78) fun a10 => x_ck σ5 a10 10 <|
  x_ci (O 186 [.inr (.inr (some 78)), .inl (X.2 (i3 + 1).toNatClampNeg), .inl (X.2 (i3 + 2).toNatClampNeg), .inl (X.2 (i3 + 3).toNatClampNeg)] σ5) fun x12 σ11 =>
  (if x6 = x12 then
    k 1812 [some (.inr (.inr (some 2000))), some (.inr (.inr (some 0))), some (.inr (.inr (some 78))), some (.inl i3)] [] σ11
  else
    (some (some (.inl 0), σ11))))))))))) := rfl
set_option maxRecDepth 100000 in
set_option maxHeartbeats 4000000 in
theorem eL_1051 (O : Nat → List xV → xS → Option xR) (X : Nat × (Nat → Int32)) (k : Nat → xF) (i3 : Int32) (σ : xS) : x_b O X x_TX x_lc k 3000 (x_suf x_lc 1051) [some (.inr (.inr (some 2000))), some (.inr (.inr (some 0))), some (.inr (.inr (some 78))), some (.inl i3)] [] σ =
  (x_der (some 2000) fun a1 => x_ix (i3 + 1) X.1 <|
  (x_der (some 0) fun a2 => x_ck σ a2 9 <|
  x_ci (O 97 [.inr (.inr (some 0)), .inl (X.2 (i3 + 1).toNatClampNeg)] σ) fun x4 σ3 =>
  (x_der (some 2000) fun a5 => x_ix (i3 + 1) X.1 <|
  (x_der (some 78) fun a6 => x_ck σ3 a6 10 <|
  x_ci (O 187 [.inr (.inr (some 78)), .inl (X.2 (i3 + 1).toNatClampNeg)] σ3) fun x8 σ7 =>
  (if x4 = x8 then
    k 1812 [some (.inr (.inr (some 2000))), some (.inr (.inr (some 0))), some (.inr (.inr (some 78))), some (.inl i3)] [] σ7
  else
    (some (some (.inl 0), σ7))))))) := rfl
set_option maxRecDepth 100000 in
set_option maxHeartbeats 4000000 in
theorem eL_1074 (O : Nat → List xV → xS → Option xR) (X : Nat × (Nat → Int32)) (k : Nat → xF) (i3 : Int32) (σ : xS) : x_b O X x_TX x_lc k 3000 (x_suf x_lc 1074) [some (.inr (.inr (some 2000))), some (.inr (.inr (some 0))), some (.inr (.inr (some 78))), some (.inl i3)] [] σ =
  (x_der (some 2000) fun a1 => x_ix (i3 + 1) X.1 <|
  (x_der (some 2000) fun a2 => x_ix (i3 + 2) X.1 <|
  (x_der (some 0) fun a3 => x_ck σ a3 9 <|
  x_ci (O 98 [.inr (.inr (some 0)), .inl (X.2 (i3 + 1).toNatClampNeg), .inl (X.2 (i3 + 2).toNatClampNeg)] σ) fun x5 σ4 =>
  (x_der (some 2000) fun a6 => x_ix (i3 + 1) X.1 <|
  (x_der (some 2000) fun a7 => x_ix (i3 + 2) X.1 <|
  (x_der (some 78) fun a8 => x_ck σ4 a8 10 <|
  x_ci (O 190 [.inr (.inr (some 78)), .inl (X.2 (i3 + 1).toNatClampNeg), .inl (X.2 (i3 + 2).toNatClampNeg)] σ4) fun x10 σ9 =>
  (if x5 = x10 then
    k 1812 [some (.inr (.inr (some 2000))), some (.inr (.inr (some 0))), some (.inr (.inr (some 78))), some (.inl i3)] [] σ9
  else
    (some (some (.inl 0), σ9))))))))) := rfl
set_option maxRecDepth 100000 in
set_option maxHeartbeats 4000000 in
theorem eL_1107 (O : Nat → List xV → xS → Option xR) (X : Nat × (Nat → Int32)) (k : Nat → xF) (i3 : Int32) (σ : xS) : x_b O X x_TX x_lc k 3000 (x_suf x_lc 1107) [some (.inr (.inr (some 2000))), some (.inr (.inr (some 0))), some (.inr (.inr (some 78))), some (.inl i3)] [] σ =
  (x_der (some 2000) fun a1 => x_ix (i3 + 1) X.1 <|
  (x_der (some 0) fun a2 => x_ck σ a2 9 <|
  x_ci (O 99 [.inr (.inr (some 0)), .inl (X.2 (i3 + 1).toNatClampNeg)] σ) fun x4 σ3 =>
  (x_der (some 2000) fun a5 => x_ix (i3 + 1) X.1 <|
  (x_der (some 78) fun a6 => x_ck σ3 a6 10 <|
  x_ci (O 192 [.inr (.inr (some 78)), .inl (X.2 (i3 + 1).toNatClampNeg)] σ3) fun x8 σ7 =>
  (if x4 = x8 then
    k 1812 [some (.inr (.inr (some 2000))), some (.inr (.inr (some 0))), some (.inr (.inr (some 78))), some (.inl i3)] [] σ7
  else
    (some (some (.inl 0), σ7))))))) := rfl
set_option maxRecDepth 100000 in
set_option maxHeartbeats 4000000 in
theorem eL_1130 (O : Nat → List xV → xS → Option xR) (X : Nat × (Nat → Int32)) (k : Nat → xF) (i3 : Int32) (σ : xS) : x_b O X x_TX x_lc k 3000 (x_suf x_lc 1130) [some (.inr (.inr (some 2000))), some (.inr (.inr (some 0))), some (.inr (.inr (some 78))), some (.inl i3)] [] σ =
  (x_der (some 2000) fun a1 => x_ix (i3 + 1) X.1 <|
  (x_der (some 0) fun a2 => x_ck σ a2 9 <|
  x_ci (O 100 [.inr (.inr (some 0)), .inl (X.2 (i3 + 1).toNatClampNeg)] σ) fun x4 σ3 =>
  (x_der (some 2000) fun a5 => x_ix (i3 + 1) X.1 <|
  (x_der (some 78) fun a6 => x_ck σ3 a6 10 <|
  x_ci (O 194 [.inr (.inr (some 78)), .inl (X.2 (i3 + 1).toNatClampNeg)] σ3) fun x8 σ7 =>
  (if x4 = x8 then
    k 1812 [some (.inr (.inr (some 2000))), some (.inr (.inr (some 0))), some (.inr (.inr (some 78))), some (.inl i3)] [] σ7
  else
    (some (some (.inl 0), σ7))))))) := rfl
set_option maxRecDepth 100000 in
set_option maxHeartbeats 4000000 in
theorem eL_1153 (O : Nat → List xV → xS → Option xR) (X : Nat × (Nat → Int32)) (k : Nat → xF) (i3 : Int32) (σ : xS) : x_b O X x_TX x_lc k 3000 (x_suf x_lc 1153) [some (.inr (.inr (some 2000))), some (.inr (.inr (some 0))), some (.inr (.inr (some 78))), some (.inl i3)] [] σ =
  (x_der (some 0) fun a1 => x_ck σ a1 9 <|
  x_ci (O 101 [.inr (.inr (some 0))] σ) fun x3 σ2 =>
  (x_der (some 78) fun a4 => x_ck σ2 a4 10 <|
  x_ci (O 195 [.inr (.inr (some 78))] σ2) fun x6 σ5 =>
  (if x3 = x6 then
    k 1812 [some (.inr (.inr (some 2000))), some (.inr (.inr (some 0))), some (.inr (.inr (some 78))), some (.inl i3)] [] σ5
  else
    (some (some (.inl 0), σ5))))) := rfl
set_option maxRecDepth 100000 in
set_option maxHeartbeats 4000000 in
theorem eL_1166 (O : Nat → List xV → xS → Option xR) (X : Nat × (Nat → Int32)) (k : Nat → xF) (i3 : Int32) (σ : xS) : x_b O X x_TX x_lc k 3000 (x_suf x_lc 1166) [some (.inr (.inr (some 2000))), some (.inr (.inr (some 0))), some (.inr (.inr (some 78))), some (.inl i3)] [] σ =
  (x_der (some 2000) fun a1 => x_ix (i3 + 1) X.1 <|
  (x_der (some 0) fun a2 => x_ck σ a2 9 <|
  x_ci (O 102 [.inr (.inr (some 0)), .inl (X.2 (i3 + 1).toNatClampNeg)] σ) fun x4 σ3 =>
  (x_der (some 2000) fun a5 => x_ix (i3 + 1) X.1 <|
  (x_der (some 78) fun a6 => x_ck σ3 a6 10 <|
  x_ci (O 197 [.inr (.inr (some 78)), .inl (X.2 (i3 + 1).toNatClampNeg)] σ3) fun x8 σ7 =>
  (if x4 = x8 then
    k 1812 [some (.inr (.inr (some 2000))), some (.inr (.inr (some 0))), some (.inr (.inr (some 78))), some (.inl i3)] [] σ7
  else
    (some (some (.inl 0), σ7))))))) := rfl
set_option maxRecDepth 100000 in
set_option maxHeartbeats 4000000 in
theorem eL_1189 (O : Nat → List xV → xS → Option xR) (X : Nat × (Nat → Int32)) (k : Nat → xF) (i3 : Int32) (σ : xS) : x_b O X x_TX x_lc k 3000 (x_suf x_lc 1189) [some (.inr (.inr (some 2000))), some (.inr (.inr (some 0))), some (.inr (.inr (some 78))), some (.inl i3)] [] σ =
  (x_der (some 2000) fun a1 => x_ix (i3 + 1) X.1 <|
  (x_der (some 2000) fun a2 => x_ix (i3 + 2) X.1 <|
  (x_der (some 2000) fun a3 => x_ix (i3 + 3) X.1 <|
  (x_der (some 0) fun a4 => x_ck σ a4 9 <|
  x_ci (O 103 [.inr (.inr (some 0)), .inl (X.2 (i3 + 1).toNatClampNeg), .inl (X.2 (i3 + 2).toNatClampNeg), .inl (X.2 (i3 + 3).toNatClampNeg)] σ) fun x6 σ5 =>
  (x_der (some 2000) fun a7 => x_ix (i3 + 1) X.1 <|
  (x_der (some 2000) fun a8 => x_ix (i3 + 2) X.1 <|
  (x_der (some 2000) fun a9 => x_ix (i3 + 3) X.1 <|
  (x_der (some 78) fun a10 => x_ck σ5 a10 10 <|
  x_ci (O 199 [.inr (.inr (some 78)), .inl (X.2 (i3 + 1).toNatClampNeg), .inl (X.2 (i3 + 2).toNatClampNeg), .inl (X.2 (i3 + 3).toNatClampNeg)] σ5) fun x12 σ11 =>
  (if x6 = x12 then
    k 1812 [some (.inr (.inr (some 2000))), some (.inr (.inr (some 0))), some (.inr (.inr (some 78))), some (.inl i3)] [] σ11
  else
    (some (some (.inl 0), σ11))))))))))) := rfl
set_option maxRecDepth 100000 in
set_option maxHeartbeats 4000000 in
theorem eL_1232 (O : Nat → List xV → xS → Option xR) (X : Nat × (Nat → Int32)) (k : Nat → xF) (i3 : Int32) (σ : xS) : x_b O X x_TX x_lc k 3000 (x_suf x_lc 1232) [some (.inr (.inr (some 2000))), some (.inr (.inr (some 0))), some (.inr (.inr (some 78))), some (.inl i3)] [] σ =
  (x_der (some 2000) fun a1 => x_ix (i3 + 1) X.1 <|
  (x_der (some 2000) fun a2 => x_ix (i3 + 2) X.1 <|
  (x_der (some 2000) fun a3 => x_ix (i3 + 3) X.1 <|
  (x_der (some 0) fun a4 => x_ck σ a4 9 <|
  x_cl (O 104 [.inr (.inr (some 0)), .inl (X.2 (i3 + 1).toNatClampNeg), .inl (X.2 (i3 + 2).toNatClampNeg), .inl (X.2 (i3 + 3).toNatClampNeg)] σ) fun y6 σ5 =>
  (x_der (some 2000) fun a7 => x_ix (i3 + 1) X.1 <|
  (x_der (some 2000) fun a8 => x_ix (i3 + 2) X.1 <|
  (x_der (some 2000) fun a9 => x_ix (i3 + 3) X.1 <|
  (x_der (some 78) fun a10 => x_ck σ5 a10 10 <|
  x_cl (O 200 [.inr (.inr (some 78)), .inl (X.2 (i3 + 1).toNatClampNeg), .inl (X.2 (i3 + 2).toNatClampNeg), .inl (X.2 (i3 + 3).toNatClampNeg)] σ5) fun y12 σ11 =>
  (if (lg_cmp y6 y12) = 0 then
    k 1812 [some (.inr (.inr (some 2000))), some (.inr (.inr (some 0))), some (.inr (.inr (some 78))), some (.inl i3)] [] σ11
  else
    (some (some (.inl 0), σ11))))))))))) := rfl
set_option maxRecDepth 100000 in
set_option maxHeartbeats 4000000 in
theorem eL_1276 (O : Nat → List xV → xS → Option xR) (X : Nat × (Nat → Int32)) (k : Nat → xF) (i3 : Int32) (σ : xS) : x_b O X x_TX x_lc k 3000 (x_suf x_lc 1276) [some (.inr (.inr (some 2000))), some (.inr (.inr (some 0))), some (.inr (.inr (some 78))), some (.inl i3)] [] σ =
  (x_der (some 2000) fun a1 => x_ix (i3 + 1) X.1 <|
  (x_der (some 2000) fun a2 => x_ix (i3 + 2) X.1 <|
  (x_der (some 0) fun a3 => x_ck σ a3 9 <|
  x_ci (O 105 [.inr (.inr (some 0)), .inl (X.2 (i3 + 1).toNatClampNeg), .inl (X.2 (i3 + 2).toNatClampNeg)] σ) fun x5 σ4 =>
  (x_der (some 2000) fun a6 => x_ix (i3 + 1) X.1 <|
  (x_der (some 2000) fun a7 => x_ix (i3 + 2) X.1 <|
  (x_der (some 78) fun a8 => x_ck σ4 a8 10 <|
  x_ci (O 205 [.inr (.inr (some 78)), .inl (X.2 (i3 + 1).toNatClampNeg), .inl (X.2 (i3 + 2).toNatClampNeg)] σ4) fun x10 σ9 =>
  (if x5 = x10 then
    k 1812 [some (.inr (.inr (some 2000))), some (.inr (.inr (some 0))), some (.inr (.inr (some 78))), some (.inl i3)] [] σ9
  else
    (some (some (.inl 0), σ9))))))))) := rfl
set_option maxRecDepth 100000 in
set_option maxHeartbeats 4000000 in
theorem eL_1309 (O : Nat → List xV → xS → Option xR) (X : Nat × (Nat → Int32)) (k : Nat → xF) (i3 : Int32) (σ : xS) : x_b O X x_TX x_lc k 3000 (x_suf x_lc 1309) [some (.inr (.inr (some 2000))), some (.inr (.inr (some 0))), some (.inr (.inr (some 78))), some (.inl i3)] [] σ =
  (x_der (some 2000) fun a1 => x_ix (i3 + 1) X.1 <|
  (x_der (some 2000) fun a2 => x_ix (i3 + 2) X.1 <|
  (x_der (some 0) fun a3 => x_ck σ a3 9 <|
  x_cl (O 106 [.inr (.inr (some 0)), .inl (X.2 (i3 + 1).toNatClampNeg), .inl (X.2 (i3 + 2).toNatClampNeg)] σ) fun y5 σ4 =>
  (x_der (some 2000) fun a6 => x_ix (i3 + 1) X.1 <|
  (x_der (some 2000) fun a7 => x_ix (i3 + 2) X.1 <|
  (x_der (some 78) fun a8 => x_ck σ4 a8 10 <|
  x_cl (O 207 [.inr (.inr (some 78)), .inl (X.2 (i3 + 1).toNatClampNeg), .inl (X.2 (i3 + 2).toNatClampNeg)] σ4) fun y10 σ9 =>
  (if (lg_cmp y5 y10) = 0 then
    k 1812 [some (.inr (.inr (some 2000))), some (.inr (.inr (some 0))), some (.inr (.inr (some 78))), some (.inl i3)] [] σ9
  else
    (some (some (.inl 0), σ9))))))))) := rfl
set_option maxRecDepth 100000 in
set_option maxHeartbeats 4000000 in
theorem eL_1343 (O : Nat → List xV → xS → Option xR) (X : Nat × (Nat → Int32)) (k : Nat → xF) (i3 : Int32) (σ : xS) : x_b O X x_TX x_lc k 3000 (x_suf x_lc 1343) [some (.inr (.inr (some 2000))), some (.inr (.inr (some 0))), some (.inr (.inr (some 78))), some (.inl i3)] [] σ =
  (x_der (some 2000) fun a1 => x_ix (i3 + 1) X.1 <|
  (x_der (some 2000) fun a2 => x_ix (i3 + 2) X.1 <|
  (x_der (some 2000) fun a3 => x_ix (i3 + 3) X.1 <|
  (x_der (some 0) fun a4 => x_ck σ a4 9 <|
  x_cl (O 107 [.inr (.inr (some 0)), .inl (X.2 (i3 + 1).toNatClampNeg), .inl (X.2 (i3 + 2).toNatClampNeg), .inl (X.2 (i3 + 3).toNatClampNeg)] σ) fun y6 σ5 =>
  (x_der (some 2000) fun a7 => x_ix (i3 + 1) X.1 <|
  (x_der (some 2000) fun a8 => x_ix (i3 + 2) X.1 <|
  (x_der (some 2000) fun a9 => x_ix (i3 + 3) X.1 <|
  (x_der (some 78) fun a10 => x_ck σ5 a10 10 <|
  x_cl (O 208 [.inr (.inr (some 78)), .inl (X.2 (i3 + 1).toNatClampNeg), .inl (X.2 (i3 + 2).toNatClampNeg), .inl (X.2 (i3 + 3).toNatClampNeg)] σ5) fun y12 σ11 =>
  (if (lg_cmp y6 y12) = 0 then
    k 1812 [some (.inr (.inr (some 2000))), some (.inr (.inr (some 0))), some (.inr (.inr (some 78))), some (.inl i3)] [] σ11
  else
    (some (some (.inl 0), σ11))))))))))) := rfl
set_option maxRecDepth 100000 in
set_option maxHeartbeats 4000000 in
theorem eL_1387 (O : Nat → List xV → xS → Option xR) (X : Nat × (Nat → Int32)) (k : Nat → xF) (i3 : Int32) (σ : xS) : x_b O X x_TX x_lc k 3000 (x_suf x_lc 1387) [some (.inr (.inr (some 2000))), some (.inr (.inr (some 0))), some (.inr (.inr (some 78))), some (.inl i3)] [] σ =
  (x_der (some 2000) fun a1 => x_ix (i3 + 1) X.1 <|
  (x_der (some 2000) fun a2 => x_ix (i3 + 2) X.1 <|
  (x_der (some 0) fun a3 => x_ck σ a3 9 <|
  x_cl (O 108 [.inr (.inr (some 0)), .inl (X.2 (i3 + 1).toNatClampNeg), .inl (X.2 (i3 + 2).toNatClampNeg)] σ) fun y5 σ4 =>
  (x_der (some 2000) fun a6 => x_ix (i3 + 1) X.1 <|
  (x_der (some 2000) fun a7 => x_ix (i3 + 2) X.1 <|
  (x_der (some 78) fun a8 => x_ck σ4 a8 10 <|
  x_cl (O 209 [.inr (.inr (some 78)), .inl (X.2 (i3 + 1).toNatClampNeg), .inl (X.2 (i3 + 2).toNatClampNeg)] σ4) fun y10 σ9 =>
  (if (lg_cmp y5 y10) = 0 then
    k 1812 [some (.inr (.inr (some 2000))), some (.inr (.inr (some 0))), some (.inr (.inr (some 78))), some (.inl i3)] [] σ9
  else
    (some (some (.inl 0), σ9))))))))) := rfl
set_option maxRecDepth 100000 in
set_option maxHeartbeats 4000000 in
theorem eL_1421 (O : Nat → List xV → xS → Option xR) (X : Nat × (Nat → Int32)) (k : Nat → xF) (i3 : Int32) (σ : xS) : x_b O X x_TX x_lc k 3000 (x_suf x_lc 1421) [some (.inr (.inr (some 2000))), some (.inr (.inr (some 0))), some (.inr (.inr (some 78))), some (.inl i3)] [] σ =
  (x_der (some 2000) fun a1 => x_ix (i3 + 1) X.1 <|
  (x_der (some 2000) fun a2 => x_ix (i3 + 2) X.1 <|
  (x_der (some 2000) fun a3 => x_ix (i3 + 3) X.1 <|
  (x_der (some 0) fun a4 => x_ck σ a4 9 <|
  x_cl (O 109 [.inr (.inr (some 0)), .inl (X.2 (i3 + 1).toNatClampNeg), .inl (X.2 (i3 + 2).toNatClampNeg), .inl (X.2 (i3 + 3).toNatClampNeg)] σ) fun y6 σ5 =>
  (x_der (some 2000) fun a7 => x_ix (i3 + 1) X.1 <|
  (x_der (some 2000) fun a8 => x_ix (i3 + 2) X.1 <|
  (x_der (some 2000) fun a9 => x_ix (i3 + 3) X.1 <|
  (x_der (some 78) fun a10 => x_ck σ5 a10 10 <|
  x_cl (O 210 [.inr (.inr (some 78)), .inl (X.2 (i3 + 1).toNatClampNeg), .inl (X.2 (i3 + 2).toNatClampNeg), .inl (X.2 (i3 + 3).toNatClampNeg)] σ5) fun y12 σ11 =>
  (if (lg_cmp y6 y12) = 0 then
    k 1812 [some (.inr (.inr (some 2000))), some (.inr (.inr (some 0))), some (.inr (.inr (some 78))), some (.inl i3)] [] σ11
  else
    (some (some (.inl 0), σ11))))))))))) := rfl
set_option maxRecDepth 100000 in
set_option maxHeartbeats 4000000 in
theorem eL_1465 (O : Nat → List xV → xS → Option xR) (X : Nat × (Nat → Int32)) (k : Nat → xF) (i3 : Int32) (σ : xS) : x_b O X x_TX x_lc k 3000 (x_suf x_lc 1465) [some (.inr (.inr (some 2000))), some (.inr (.inr (some 0))), some (.inr (.inr (some 78))), some (.inl i3)] [] σ =
  (x_der (some 2000) fun a1 => x_ix (i3 + 1) X.1 <|
  (x_der (some 2000) fun a2 => x_ix (i3 + 2) X.1 <|
  (x_der (some 0) fun a3 => x_ck σ a3 9 <|
  x_ci (O 110 [.inr (.inr (some 0)), .inl (X.2 (i3 + 1).toNatClampNeg), .inl (X.2 (i3 + 2).toNatClampNeg)] σ) fun x5 σ4 =>
  (x_der (some 2000) fun a6 => x_ix (i3 + 1) X.1 <|
  (x_der (some 2000) fun a7 => x_ix (i3 + 2) X.1 <|
  (x_der (some 78) fun a8 => x_ck σ4 a8 10 <|
  x_ci (O 212 [.inr (.inr (some 78)), .inl (X.2 (i3 + 1).toNatClampNeg), .inl (X.2 (i3 + 2).toNatClampNeg)] σ4) fun x10 σ9 =>
  (if x5 = x10 then
    k 1812 [some (.inr (.inr (some 2000))), some (.inr (.inr (some 0))), some (.inr (.inr (some 78))), some (.inl i3)] [] σ9
  else
    (some (some (.inl 0), σ9))))))))) := rfl
set_option maxRecDepth 100000 in
set_option maxHeartbeats 4000000 in
theorem eL_1498 (O : Nat → List xV → xS → Option xR) (X : Nat × (Nat → Int32)) (k : Nat → xF) (i3 : Int32) (σ : xS) : x_b O X x_TX x_lc k 3000 (x_suf x_lc 1498) [some (.inr (.inr (some 2000))), some (.inr (.inr (some 0))), some (.inr (.inr (some 78))), some (.inl i3)] [] σ =
  (x_der (some 2000) fun a1 => x_ix (i3 + 1) X.1 <|
  (x_der (some 2000) fun a2 => x_ix (i3 + 2) X.1 <|
  (x_der (some 2000) fun a3 => x_ix (i3 + 3) X.1 <|
  (x_der (some 2000) fun a4 => x_ix (i3 + 4) X.1 <|
  (x_der (some 0) fun a5 => x_ck σ a5 9 <|
  x_ci (O 111 [.inr (.inr (some 0)), .inl (X.2 (i3 + 1).toNatClampNeg), .inl (X.2 (i3 + 2).toNatClampNeg), .inl (X.2 (i3 + 3).toNatClampNeg), .inl (X.2 (i3 + 4).toNatClampNeg)] σ) fun x7 σ6 =>
  (x_der (some 2000) fun a8 => x_ix (i3 + 1) X.1 <|
  (x_der (some 2000) fun a9 => x_ix (i3 + 2) X.1 <|
  (x_der (some 2000) fun a10 => x_ix (i3 + 3) X.1 <|
  (x_der (some 2000) fun a11 => x_ix (i3 + 4) X.1 <|
  (x_der (some 78) fun a12 => x_ck σ6 a12 10 <|
  x_ci (O 213 [.inr (.inr (some 78)), .inl (X.2 (i3 + 1).toNatClampNeg), .inl (X.2 (i3 + 2).toNatClampNeg), .inl (X.2 (i3 + 3).toNatClampNeg), .inl (X.2 (i3 + 4).toNatClampNeg)] σ6) fun x14 σ13 =>
  (if x7 = x14 then
    k 1812 [some (.inr (.inr (some 2000))), some (.inr (.inr (some 0))), some (.inr (.inr (some 78))), some (.inl i3)] [] σ13
  else
    (some (some (.inl 0), σ13))))))))))))) := rfl
set_option maxRecDepth 100000 in
set_option maxHeartbeats 4000000 in
theorem eL_1551 (O : Nat → List xV → xS → Option xR) (X : Nat × (Nat → Int32)) (k : Nat → xF) (i3 : Int32) (σ : xS) : x_b O X x_TX x_lc k 3000 (x_suf x_lc 1551) [some (.inr (.inr (some 2000))), some (.inr (.inr (some 0))), some (.inr (.inr (some 78))), some (.inl i3)] [] σ =
  (x_der (some 0) fun a1 => x_ck σ a1 9 <|
  x_ci (O 112 [.inr (.inr (some 0))] σ) fun x3 σ2 =>
  (x_der (some 78) fun a4 => x_ck σ2 a4 10 <|
  x_ci (O 214 [.inr (.inr (some 78))] σ2) fun x6 σ5 =>
  (if x3 = x6 then
    k 1812 [some (.inr (.inr (some 2000))), some (.inr (.inr (some 0))), some (.inr (.inr (some 78))), some (.inl i3)] [] σ5
  else
    (some (some (.inl 0), σ5))))) := rfl
set_option maxRecDepth 100000 in
set_option maxHeartbeats 4000000 in
theorem eL_1564 (O : Nat → List xV → xS → Option xR) (X : Nat × (Nat → Int32)) (k : Nat → xF) (i3 : Int32) (σ : xS) : x_b O X x_TX x_lc k 3000 (x_suf x_lc 1564) [some (.inr (.inr (some 2000))), some (.inr (.inr (some 0))), some (.inr (.inr (some 78))), some (.inl i3)] [] σ =
  (x_der (some 0) fun a1 => x_ck σ a1 9 <|
  x_ci (O 113 [.inr (.inr (some 0))] σ) fun x3 σ2 =>
  (x_der (some 78) fun a4 => x_ck σ2 a4 10 <|
  x_ci (O 215 [.inr (.inr (some 78))] σ2) fun x6 σ5 =>
  (if x3 = x6 then
    k 1812 [some (.inr (.inr (some 2000))), some (.inr (.inr (some 0))), some (.inr (.inr (some 78))), some (.inl i3)] [] σ5
  else
    (some (some (.inl 0), σ5))))) := rfl
set_option maxRecDepth 100000 in
set_option maxHeartbeats 4000000 in
theorem eL_1577 (O : Nat → List xV → xS → Option xR) (X : Nat × (Nat → Int32)) (k : Nat → xF) (i3 : Int32) (σ : xS) : x_b O X x_TX x_lc k 3000 (x_suf x_lc 1577) [some (.inr (.inr (some 2000))), some (.inr (.inr (some 0))), some (.inr (.inr (some 78))), some (.inl i3)] [] σ =
  (x_der (some 2000) fun a1 => x_ix (i3 + 1) X.1 <|
  (x_der (some 2000) fun a2 => x_ix (i3 + 2) X.1 <|
  (x_der (some 2000) fun a3 => x_ix (i3 + 3) X.1 <|
  (x_der (some 0) fun a4 => x_ck σ a4 9 <|
  x_ci (O 114 [.inr (.inr (some 0)), .inl (X.2 (i3 + 1).toNatClampNeg), .inl (X.2 (i3 + 2).toNatClampNeg), .inl (X.2 (i3 + 3).toNatClampNeg)] σ) fun x6 σ5 =>
  (x_der (some 2000) fun a7 => x_ix (i3 + 1) X.1 <|
  (x_der (some 2000) fun a8 => x_ix (i3 + 2) X.1 <|
  (x_der (some 2000) fun a9 => x_ix (i3 + 3) X.1 <|
  (x_der (some 78) fun a10 => x_ck σ5 a10 10 <|
  x_ci (O 216 [.inr (.inr (some 78)), .inl (X.2 (i3 + 1).toNatClampNeg), .inl (X.2 (i3 + 2).toNatClampNeg), .inl (X.2 (i3 + 3).toNatClampNeg)] σ5) fun x12 σ11 =>
  (if x6 = x12 then
    k 1812 [some (.inr (.inr (some 2000))), some (.inr (.inr (some 0))), some (.inr (.inr (some 78))), some (.inl i3)] [] σ11
  else
    (some (some (.inl 0), σ11))))))))))) := rfl
set_option maxRecDepth 100000 in
set_option maxHeartbeats 4000000 in
theorem eL_1620 (O : Nat → List xV → xS → Option xR) (X : Nat × (Nat → Int32)) (k : Nat → xF) (i3 : Int32) (σ : xS) : x_b O X x_TX x_lc k 3000 (x_suf x_lc 1620) [some (.inr (.inr (some 2000))), some (.inr (.inr (some 0))), some (.inr (.inr (some 78))), some (.inl i3)] [] σ =
  (x_der (some 2000) fun a1 => x_ix (i3 + 1) X.1 <|
  (x_der (some 2000) fun a2 => x_ix (i3 + 2) X.1 <|
  (x_der (some 2000) fun a3 => x_ix (i3 + 3) X.1 <|
  (x_der (some 0) fun a4 => x_ck σ a4 9 <|
  x_ci (O 115 [.inr (.inr (some 0)), .inl (X.2 (i3 + 1).toNatClampNeg), .inl (X.2 (i3 + 2).toNatClampNeg), .inl (X.2 (i3 + 3).toNatClampNeg)] σ) fun x6 σ5 =>
  (x_der (some 2000) fun a7 => x_ix (i3 + 1) X.1 <|
  (x_der (some 2000) fun a8 => x_ix (i3 + 2) X.1 <|
  (x_der (some 2000) fun a9 => x_ix (i3 + 3) X.1 <|
  (x_der (some 78) fun a10 => x_ck σ5 a10 10 <|
  x_ci (O 217 [.inr (.inr (some 78)), .inl (X.2 (i3 + 1).toNatClampNeg), .inl (X.2 (i3 + 2).toNatClampNeg), .inl (X.2 (i3 + 3).toNatClampNeg)] σ5) fun x12 σ11 =>
  (if x6 = x12 then
    k 1812 [some (.inr (.inr (some 2000))), some (.inr (.inr (some 0))), some (.inr (.inr (some 78))), some (.inl i3)] [] σ11
  else
    (some (some (.inl 0), σ11))))))))))) := rfl
set_option maxRecDepth 100000 in
set_option maxHeartbeats 4000000 in
theorem eL_1663 (O : Nat → List xV → xS → Option xR) (X : Nat × (Nat → Int32)) (k : Nat → xF) (i3 : Int32) (σ : xS) : x_b O X x_TX x_lc k 3000 (x_suf x_lc 1663) [some (.inr (.inr (some 2000))), some (.inr (.inr (some 0))), some (.inr (.inr (some 78))), some (.inl i3)] [] σ =
  (x_der (some 2000) fun a1 => x_ix (i3 + 1) X.1 <|
  (x_der (some 2000) fun a2 => x_ix (i3 + 2) X.1 <|
  (x_der (some 2000) fun a3 => x_ix (i3 + 3) X.1 <|
  (x_der (some 2000) fun a4 => x_ix (i3 + 4) X.1 <|
  (x_der (some 2000) fun a5 => x_ix (i3 + 5) X.1 <|
  (x_der (some 0) fun a6 => x_ck σ a6 9 <|
  x_ci (O 116 [.inr (.inr (some 0)), .inl (X.2 (i3 + 1).toNatClampNeg), .inl (X.2 (i3 + 2).toNatClampNeg), .inl (X.2 (i3 + 3).toNatClampNeg), .inl (X.2 (i3 + 4).toNatClampNeg), .inl (X.2 (i3 + 5).toNatClampNeg)] σ) fun x8 σ7 =>
  (x_der (some 2000) fun a9 => x_ix (i3 + 1) X.1 <|
  (x_der (some 2000) fun a10 => x_ix (i3 + 2) X.1 <|
  (x_der (some 2000) fun a11 => x_ix (i3 + 3) X.1 <|
  (x_der (some 2000) fun a12 => x_ix (i3 + 4) X.1 <|
  (x_der (some 2000) fun a13 => x_ix (i3 + 5) X.1 <|
  (x_der (some 78) fun a14 => x_ck σ7 a14 10 <|
  x_ci (O 218 [.inr (.inr (some 78)), .inl (X.2 (i3 + 1).toNatClampNeg), .inl (X.2 (i3 + 2).toNatClampNeg), .inl (X.2 (i3 + 3).toNatClampNeg), .inl (X.2 (i3 + 4).toNatClampNeg), .inl (X.2 (i3 + 5).toNatClampNeg)] σ7) fun x16 σ15 =>
  (if x8 = x16 then
    k 1812 [some (.inr (.inr (some 2000))), some (.inr (.inr (some 0))), some (.inr (.inr (some 78))), some (.inl i3)] [] σ15
  else
    (some (some (.inl 0), σ15))))))))))))))) := rfl
set_option maxRecDepth 100000 in
set_option maxHeartbeats 4000000 in
theorem eL_1726 (O : Nat → List xV → xS → Option xR) (X : Nat × (Nat → Int32)) (k : Nat → xF) (i3 : Int32) (σ : xS) : x_b O X x_TX x_lc k 3000 (x_suf x_lc 1726) [some (.inr (.inr (some 2000))), some (.inr (.inr (some 0))), some (.inr (.inr (some 78))), some (.inl i3)] [] σ =
  (x_der (some 2000) fun a1 => x_ix (i3 + 1) X.1 <|
  (x_der (some 2000) fun a2 => x_ix (i3 + 2) X.1 <|
  (x_der (some 2000) fun a3 => x_ix (i3 + 3) X.1 <|
  (x_der (some 2000) fun a4 => x_ix (i3 + 4) X.1 <|
  (x_der (some 0) fun a5 => x_ck σ a5 9 <|
  x_ci (O 117 [.inr (.inr (some 0)), .inl (X.2 (i3 + 1).toNatClampNeg), .inl (X.2 (i3 + 2).toNatClampNeg), .inl (X.2 (i3 + 3).toNatClampNeg), .inl (X.2 (i3 + 4).toNatClampNeg)] σ) fun x7 σ6 =>
  (x_der (some 2000) fun a8 => x_ix (i3 + 1) X.1 <|
  (x_der (some 2000) fun a9 => x_ix (i3 + 2) X.1 <|
  (x_der (some 2000) fun a10 => x_ix (i3 + 3) X.1 <|
  (x_der (some 2000) fun a11 => x_ix (i3 + 4) X.1 <|
  (x_der (some 78) fun a12 => x_ck σ6 a12 10 <|
  x_ci (O 219 [.inr (.inr (some 78)), .inl (X.2 (i3 + 1).toNatClampNeg), .inl (X.2 (i3 + 2).toNatClampNeg), .inl (X.2 (i3 + 3).toNatClampNeg), .inl (X.2 (i3 + 4).toNatClampNeg)] σ6) fun x14 σ13 =>
  (if x7 = x14 then
    k 1812 [some (.inr (.inr (some 2000))), some (.inr (.inr (some 0))), some (.inr (.inr (some 78))), some (.inl i3)] [] σ13
  else
    (some (some (.inl 0), σ13))))))))))))) := rfl
set_option maxRecDepth 100000 in
set_option maxHeartbeats 4000000 in
theorem eL_1779 (O : Nat → List xV → xS → Option xR) (X : Nat × (Nat → Int32)) (k : Nat → xF) (i3 : Int32) (σ : xS) : x_b O X x_TX x_lc k 3000 (x_suf x_lc 1779) [some (.inr (.inr (some 2000))), some (.inr (.inr (some 0))), some (.inr (.inr (some 78))), some (.inl i3)] [] σ =
  (x_der (some 2000) fun a1 => x_ix (i3 + 1) X.1 <|
  (x_der (some 2000) fun a2 => x_ix (i3 + 2) X.1 <|
  (x_der (some 0) fun a3 => x_ck σ a3 9 <|
  x_ci (O 118 [.inr (.inr (some 0)), .inl (X.2 (i3 + 1).toNatClampNeg), .inl (X.2 (i3 + 2).toNatClampNeg)] σ) fun x5 σ4 =>
  (x_der (some 2000) fun a6 => x_ix (i3 + 1) X.1 <|
  (x_der (some 2000) fun a7 => x_ix (i3 + 2) X.1 <|
  (x_der (some 78) fun a8 => x_ck σ4 a8 10 <|
  x_ci (O 222 [.inr (.inr (some 78)), .inl (X.2 (i3 + 1).toNatClampNeg), .inl (X.2 (i3 + 2).toNatClampNeg)] σ4) fun x10 σ9 =>
  (if x5 = x10 then
    k 1812 [some (.inr (.inr (some 2000))), some (.inr (.inr (some 0))), some (.inr (.inr (some 78))), some (.inl i3)] [] σ9
  else
    (some (some (.inl 0), σ9))))))))) := rfl
set_option maxRecDepth 100000 in
set_option maxHeartbeats 4000000 in
theorem eL_1812 (O : Nat → List xV → xS → Option xR) (X : Nat × (Nat → Int32)) (k : Nat → xF) (i3 : Int32) (σ : xS) : x_b O X x_TX x_lc k 3000 (x_suf x_lc 1812) [some (.inr (.inr (some 2000))), some (.inr (.inr (some 0))), some (.inr (.inr (some 78))), some (.inl i3)] [] σ =
  k 18 [some (.inr (.inr (some 2000))), some (.inr (.inr (some 0))), some (.inr (.inr (some 78))), some (.inl (i3 + 7))] [] σ := rfl
