/-! what the small machine makes of each piece of code: by program (wip/whole/gen5.py); the kernel compares -/
section
set_option maxRecDepth 100000 in
set_option maxHeartbeats 1000000 in
/-- IModel.<init> -/
theorem e132_0 (O : Nat → List xV → xS → Option xR) (k : Nat → xF) (h : Nat) (σ : xS) : x_b O x_X0 x_TX (x_C 132) k 3000 (x_suf (x_C 132) 0) [some (.inr (.inr (some h))), none] [] σ =
  (bif Nat.blt (σ).1.length 900 then
  (x_ck (x_new σ 11 ((5 : Int32).toNatClampNeg)) h 10 <|
  (bif Nat.blt (x_sr (x_new σ 11 ((5 : Int32).toNatClampNeg)) h 1 (some (σ).1.length)).1.length 900 then
  (x_ck (x_new (x_sr (x_new σ 11 ((5 : Int32).toNatClampNeg)) h 1 (some (σ).1.length)) 11 ((5 : Int32).toNatClampNeg)) h 10 <|
  k 18 [some (.inr (.inr (some h))), none] [] (x_sr (x_new (x_sr (x_new σ 11 ((5 : Int32).toNatClampNeg)) h 1 (some (σ).1.length)) 11 ((5 : Int32).toNatClampNeg)) h 2 (some (x_sr (x_new σ 11 ((5 : Int32).toNatClampNeg)) h 1 (some (σ).1.length)).1.length))) else none)) else none) := rfl
set_option maxRecDepth 100000 in
set_option maxHeartbeats 1000000 in
/-- IModel.<init> -/
theorem e132_18 (O : Nat → List xV → xS → Option xR) (k : Nat → xF) (h : Nat) (σ : xS) : x_b O x_X0 x_TX (x_C 132) k 3000 (x_suf (x_C 132) 18) [some (.inr (.inr (some h))), none] [] σ =
  (bif Nat.blt (σ).1.length 900 then
  (x_ck (x_new σ 11 ((30 : Int32).toNatClampNeg)) h 10 <|
  (x_ck (x_sr (x_new σ 11 ((30 : Int32).toNatClampNeg)) h 3 (some (σ).1.length)) h 10 <|
  (x_ck (x_si (x_sr (x_new σ 11 ((30 : Int32).toNatClampNeg)) h 3 (some (σ).1.length)) h 6 1000) h 10 <|
  k 39 [some (.inr (.inr (some h))), none] [] (x_si (x_si (x_sr (x_new σ 11 ((30 : Int32).toNatClampNeg)) h 3 (some (σ).1.length)) h 6 1000) h 7 50)))) else none) := rfl
set_option maxRecDepth 100000 in
set_option maxHeartbeats 1000000 in
/-- IModel.<init> -/
theorem e132_39 (O : Nat → List xV → xS → Option xR) (k : Nat → xF) (h : Nat) (σ : xS) : x_b O x_X0 x_TX (x_C 132) k 3000 (x_suf (x_C 132) 39) [some (.inr (.inr (some h))), none] [] σ =
  (bif Nat.blt (σ).1.length 900 then
  (x_ck (x_new σ 11 ((160 : Int32).toNatClampNeg)) h 10 <|
  (bif Nat.blt (x_sr (x_new σ 11 ((160 : Int32).toNatClampNeg)) h 8 (some (σ).1.length)).1.length 900 then
  (x_ck (x_new (x_sr (x_new σ 11 ((160 : Int32).toNatClampNeg)) h 8 (some (σ).1.length)) 11 ((1200 : Int32).toNatClampNeg)) h 10 <|
  (bif Nat.blt (x_sr (x_new (x_sr (x_new σ 11 ((160 : Int32).toNatClampNeg)) h 8 (some (σ).1.length)) 11 ((1200 : Int32).toNatClampNeg)) h 10 (some (x_sr (x_new σ 11 ((160 : Int32).toNatClampNeg)) h 8 (some (σ).1.length)).1.length)).1.length 900 then
  (x_ck (x_new (x_sr (x_new (x_sr (x_new σ 11 ((160 : Int32).toNatClampNeg)) h 8 (some (σ).1.length)) 11 ((1200 : Int32).toNatClampNeg)) h 10 (some (x_sr (x_new σ 11 ((160 : Int32).toNatClampNeg)) h 8 (some (σ).1.length)).1.length)) 11 ((24 : Int32).toNatClampNeg)) h 10 <|
  k 65 [some (.inr (.inr (some h))), none] [] (x_sr (x_new (x_sr (x_new (x_sr (x_new σ 11 ((160 : Int32).toNatClampNeg)) h 8 (some (σ).1.length)) 11 ((1200 : Int32).toNatClampNeg)) h 10 (some (x_sr (x_new σ 11 ((160 : Int32).toNatClampNeg)) h 8 (some (σ).1.length)).1.length)) 11 ((24 : Int32).toNatClampNeg)) h 11 (some (x_sr (x_new (x_sr (x_new σ 11 ((160 : Int32).toNatClampNeg)) h 8 (some (σ).1.length)) 11 ((1200 : Int32).toNatClampNeg)) h 10 (some (x_sr (x_new σ 11 ((160 : Int32).toNatClampNeg)) h 8 (some (σ).1.length)).1.length)).1.length))) else none)) else none)) else none) := rfl
set_option maxRecDepth 100000 in
set_option maxHeartbeats 1000000 in
/-- IModel.<init> -/
theorem e132_65 (O : Nat → List xV → xS → Option xR) (k : Nat → xF) (h : Nat) (σ : xS) : x_b O x_X0 x_TX (x_C 132) k 3000 (x_suf (x_C 132) 65) [some (.inr (.inr (some h))), none] [] σ =
  (bif Nat.blt (σ).1.length 900 then
  (x_ck (x_new σ 11 ((30 : Int32).toNatClampNeg)) h 10 <|
  (bif Nat.blt (x_sr (x_new σ 11 ((30 : Int32).toNatClampNeg)) h 21 (some (σ).1.length)).1.length 900 then
  (x_ak (x_new (x_sr (x_new σ 11 ((30 : Int32).toNatClampNeg)) h 21 (some (σ).1.length)) 11 ((4 : Int32).toNatClampNeg)) ((x_sr (x_new σ 11 ((30 : Int32).toNatClampNeg)) h 21 (some (σ).1.length)).1.length) 11 fun n1 => x_ix 0 n1 <|
  (x_ak (x_si (x_new (x_sr (x_new σ 11 ((30 : Int32).toNatClampNeg)) h 21 (some (σ).1.length)) 11 ((4 : Int32).toNatClampNeg)) ((x_sr (x_new σ 11 ((30 : Int32).toNatClampNeg)) h 21 (some (σ).1.length)).1.length) (0 : Int32).toNatClampNeg (-1)) ((x_sr (x_new σ 11 ((30 : Int32).toNatClampNeg)) h 21 (some (σ).1.length)).1.length) 11 fun n2 => x_ix 1 n2 <|
  k 85 [some (.inr (.inr (some h))), none] [.inr (.inr (some (x_sr (x_new σ 11 ((30 : Int32).toNatClampNeg)) h 21 (some (σ).1.length)).1.length)), .inr (.inr (some h))] (x_si (x_si (x_new (x_sr (x_new σ 11 ((30 : Int32).toNatClampNeg)) h 21 (some (σ).1.length)) 11 ((4 : Int32).toNatClampNeg)) ((x_sr (x_new σ 11 ((30 : Int32).toNatClampNeg)) h 21 (some (σ).1.length)).1.length) (0 : Int32).toNatClampNeg (-1)) ((x_sr (x_new σ 11 ((30 : Int32).toNatClampNeg)) h 21 (some (σ).1.length)).1.length) (1 : Int32).toNatClampNeg (-1)))) else none)) else none) := rfl
set_option maxRecDepth 100000 in
set_option maxHeartbeats 1000000 in
/-- IModel.<init> -/
theorem e132_85 (O : Nat → List xV → xS → Option xR) (k : Nat → xF) (h : Nat) (s0 : Option Nat) (s1 : Option Nat) (σ : xS) : x_b O x_X0 x_TX (x_C 132) k 3000 (x_suf (x_C 132) 85) [some (.inr (.inr (some h))), none] [.inr (.inr s0), .inr (.inr s1)] σ =
  (x_der s0 fun a1 => x_ak σ a1 11 fun n2 => x_ix 2 n2 <|
  (x_der s0 fun a3 => x_ak (x_si σ a1 (2 : Int32).toNatClampNeg (-1)) a3 11 fun n4 => x_ix 3 n4 <|
  (x_der s1 fun a5 => x_ck (x_si (x_si σ a1 (2 : Int32).toNatClampNeg (-1)) a3 (3 : Int32).toNatClampNeg (-1)) a5 10 <|
  k 96 [some (.inr (.inr (some h))), none] [] (x_sr (x_si (x_si σ a1 (2 : Int32).toNatClampNeg (-1)) a3 (3 : Int32).toNatClampNeg (-1)) a5 22 s0)))) := rfl
set_option maxRecDepth 100000 in
set_option maxHeartbeats 1000000 in
/-- IModel.<init> -/
theorem e132_96 (O : Nat → List xV → xS → Option xR) (k : Nat → xF) (h : Nat) (σ : xS) : x_b O x_X0 x_TX (x_C 132) k 3000 (x_suf (x_C 132) 96) [some (.inr (.inr (some h))), none] [] σ =
  (bif Nat.blt (σ).1.length 900 then
  (x_ck (x_new σ 11 ((4 : Int32).toNatClampNeg)) h 10 <|
  (bif Nat.blt (x_sr (x_new σ 11 ((4 : Int32).toNatClampNeg)) h 23 (some (σ).1.length)).1.length 900 then
  (x_ck (x_new (x_sr (x_new σ 11 ((4 : Int32).toNatClampNeg)) h 23 (some (σ).1.length)) 11 ((160 : Int32).toNatClampNeg)) h 10 <|
  (bif Nat.blt (x_sr (x_new (x_sr (x_new σ 11 ((4 : Int32).toNatClampNeg)) h 23 (some (σ).1.length)) 11 ((160 : Int32).toNatClampNeg)) h 24 (some (x_sr (x_new σ 11 ((4 : Int32).toNatClampNeg)) h 23 (some (σ).1.length)).1.length)).1.length 900 then
  (x_ak (x_new (x_sr (x_new (x_sr (x_new σ 11 ((4 : Int32).toNatClampNeg)) h 23 (some (σ).1.length)) 11 ((160 : Int32).toNatClampNeg)) h 24 (some (x_sr (x_new σ 11 ((4 : Int32).toNatClampNeg)) h 23 (some (σ).1.length)).1.length)) 11 ((50 : Int32).toNatClampNeg)) ((x_sr (x_new (x_sr (x_new σ 11 ((4 : Int32).toNatClampNeg)) h 23 (some (σ).1.length)) 11 ((160 : Int32).toNatClampNeg)) h 24 (some (x_sr (x_new σ 11 ((4 : Int32).toNatClampNeg)) h 23 (some (σ).1.length)).1.length)).1.length) 11 fun n1 => x_ix 0 n1 <|
  k 122 [some (.inr (.inr (some h))), none] [.inr (.inr (some (x_sr (x_new (x_sr (x_new σ 11 ((4 : Int32).toNatClampNeg)) h 23 (some (σ).1.length)) 11 ((160 : Int32).toNatClampNeg)) h 24 (some (x_sr (x_new σ 11 ((4 : Int32).toNatClampNeg)) h 23 (some (σ).1.length)).1.length)).1.length)), .inr (.inr (some h))] (x_si (x_new (x_sr (x_new (x_sr (x_new σ 11 ((4 : Int32).toNatClampNeg)) h 23 (some (σ).1.length)) 11 ((160 : Int32).toNatClampNeg)) h 24 (some (x_sr (x_new σ 11 ((4 : Int32).toNatClampNeg)) h 23 (some (σ).1.length)).1.length)) 11 ((50 : Int32).toNatClampNeg)) ((x_sr (x_new (x_sr (x_new σ 11 ((4 : Int32).toNatClampNeg)) h 23 (some (σ).1.length)) 11 ((160 : Int32).toNatClampNeg)) h 24 (some (x_sr (x_new σ 11 ((4 : Int32).toNatClampNeg)) h 23 (some (σ).1.length)).1.length)).1.length) (0 : Int32).toNatClampNeg 111)) else none)) else none)) else none) := rfl
set_option maxRecDepth 100000 in
set_option maxHeartbeats 1000000 in
/-- IModel.<init> -/
theorem e132_122 (O : Nat → List xV → xS → Option xR) (k : Nat → xF) (h : Nat) (s0 : Option Nat) (s1 : Option Nat) (σ : xS) : x_b O x_X0 x_TX (x_C 132) k 3000 (x_suf (x_C 132) 122) [some (.inr (.inr (some h))), none] [.inr (.inr s0), .inr (.inr s1)] σ =
  (x_der s0 fun a1 => x_ak σ a1 11 fun n2 => x_ix 1 n2 <|
  (x_der s0 fun a3 => x_ak (x_si σ a1 (1 : Int32).toNatClampNeg 100) a3 11 fun n4 => x_ix 2 n4 <|
  (x_der s0 fun a5 => x_ak (x_si (x_si σ a1 (1 : Int32).toNatClampNeg 100) a3 (2 : Int32).toNatClampNeg 100) a5 11 fun n6 => x_ix 3 n6 <|
  k 137 [some (.inr (.inr (some h))), none] [.inr (.inr s0), .inr (.inr s1)] (x_si (x_si (x_si σ a1 (1 : Int32).toNatClampNeg 100) a3 (2 : Int32).toNatClampNeg 100) a5 (3 : Int32).toNatClampNeg 115)))) := rfl
set_option maxRecDepth 100000 in
set_option maxHeartbeats 1000000 in
/-- IModel.<init> -/
theorem e132_137 (O : Nat → List xV → xS → Option xR) (k : Nat → xF) (h : Nat) (s0 : Option Nat) (s1 : Option Nat) (σ : xS) : x_b O x_X0 x_TX (x_C 132) k 3000 (x_suf (x_C 132) 137) [some (.inr (.inr (some h))), none] [.inr (.inr s0), .inr (.inr s1)] σ =
  (x_der s0 fun a1 => x_ak σ a1 11 fun n2 => x_ix 4 n2 <|
  (x_der s0 fun a3 => x_ak (x_si σ a1 (4 : Int32).toNatClampNeg 32) a3 11 fun n4 => x_ix 5 n4 <|
  (x_der s0 fun a5 => x_ak (x_si (x_si σ a1 (4 : Int32).toNatClampNeg 32) a3 (5 : Int32).toNatClampNeg 50) a5 11 fun n6 => x_ix 6 n6 <|
  k 153 [some (.inr (.inr (some h))), none] [.inr (.inr s0), .inr (.inr s1)] (x_si (x_si (x_si σ a1 (4 : Int32).toNatClampNeg 32) a3 (5 : Int32).toNatClampNeg 50) a5 (6 : Int32).toNatClampNeg 48)))) := rfl
set_option maxRecDepth 100000 in
set_option maxHeartbeats 1000000 in
/-- IModel.<init> -/
theorem e132_153 (O : Nat → List xV → xS → Option xR) (k : Nat → xF) (h : Nat) (s0 : Option Nat) (s1 : Option Nat) (σ : xS) : x_b O x_X0 x_TX (x_C 132) k 3000 (x_suf (x_C 132) 153) [some (.inr (.inr (some h))), none] [.inr (.inr s0), .inr (.inr s1)] σ =
  (x_der s0 fun a1 => x_ak σ a1 11 fun n2 => x_ix 7 n2 <|
  (x_der s0 fun a3 => x_ak (x_si σ a1 (7 : Int32).toNatClampNeg 32) a3 11 fun n4 => x_ix 8 n4 <|
  (x_der s0 fun a5 => x_ak (x_si (x_si σ a1 (7 : Int32).toNatClampNeg 32) a3 (8 : Int32).toNatClampNeg 43) a5 11 fun n6 => x_ix 9 n6 <|
  k 171 [some (.inr (.inr (some h))), none] [.inr (.inr s0), .inr (.inr s1)] (x_si (x_si (x_si σ a1 (7 : Int32).toNatClampNeg 32) a3 (8 : Int32).toNatClampNeg 43) a5 (9 : Int32).toNatClampNeg 32)))) := rfl
set_option maxRecDepth 100000 in
set_option maxHeartbeats 1000000 in
/-- IModel.<init> -/
theorem e132_171 (O : Nat → List xV → xS → Option xR) (k : Nat → xF) (h : Nat) (s0 : Option Nat) (s1 : Option Nat) (σ : xS) : x_b O x_X0 x_TX (x_C 132) k 3000 (x_suf (x_C 132) 171) [some (.inr (.inr (some h))), none] [.inr (.inr s0), .inr (.inr s1)] σ =
  (x_der s0 fun a1 => x_ak σ a1 11 fun n2 => x_ix 10 n2 <|
  (x_der s0 fun a3 => x_ak (x_si σ a1 (10 : Int32).toNatClampNeg 109) a3 11 fun n4 => x_ix 11 n4 <|
  (x_der s0 fun a5 => x_ak (x_si (x_si σ a1 (10 : Int32).toNatClampNeg 109) a3 (11 : Int32).toNatClampNeg 111) a5 11 fun n6 => x_ix 12 n6 <|
  k 189 [some (.inr (.inr (some h))), none] [.inr (.inr s0), .inr (.inr s1)] (x_si (x_si (x_si σ a1 (10 : Int32).toNatClampNeg 109) a3 (11 : Int32).toNatClampNeg 111) a5 (12 : Int32).toNatClampNeg 114)))) := rfl
set_option maxRecDepth 100000 in
set_option maxHeartbeats 1000000 in
/-- IModel.<init> -/
theorem e132_189 (O : Nat → List xV → xS → Option xR) (k : Nat → xF) (h : Nat) (s0 : Option Nat) (s1 : Option Nat) (σ : xS) : x_b O x_X0 x_TX (x_C 132) k 3000 (x_suf (x_C 132) 189) [some (.inr (.inr (some h))), none] [.inr (.inr s0), .inr (.inr s1)] σ =
  (x_der s0 fun a1 => x_ak σ a1 11 fun n2 => x_ix 13 n2 <|
  (x_der s0 fun a3 => x_ak (x_si σ a1 (13 : Int32).toNatClampNeg 101) a3 11 fun n4 => x_ix 14 n4 <|
  (x_der s0 fun a5 => x_ak (x_si (x_si σ a1 (13 : Int32).toNatClampNeg 101) a3 (14 : Int32).toNatClampNeg 32) a5 11 fun n6 => x_ix 15 n6 <|
  k 207 [some (.inr (.inr (some h))), none] [.inr (.inr s0), .inr (.inr s1)] (x_si (x_si (x_si σ a1 (13 : Int32).toNatClampNeg 101) a3 (14 : Int32).toNatClampNeg 32) a5 (15 : Int32).toNatClampNeg 59)))) := rfl
set_option maxRecDepth 100000 in
set_option maxHeartbeats 1000000 in
/-- IModel.<init> -/
theorem e132_207 (O : Nat → List xV → xS → Option xR) (k : Nat → xF) (h : Nat) (s0 : Option Nat) (s1 : Option Nat) (σ : xS) : x_b O x_X0 x_TX (x_C 132) k 3000 (x_suf (x_C 132) 207) [some (.inr (.inr (some h))), none] [.inr (.inr s0), .inr (.inr s1)] σ =
  (x_der s0 fun a1 => x_ak σ a1 11 fun n2 => x_ix 16 n2 <|
  (x_der s0 fun a3 => x_ak (x_si σ a1 (16 : Int32).toNatClampNeg 32) a3 11 fun n4 => x_ix 17 n4 <|
  (x_der s0 fun a5 => x_ak (x_si (x_si σ a1 (16 : Int32).toNatClampNeg 32) a3 (17 : Int32).toNatClampNeg 115) a5 11 fun n6 => x_ix 18 n6 <|
  k 225 [some (.inr (.inr (some h))), none] [.inr (.inr s0), .inr (.inr s1)] (x_si (x_si (x_si σ a1 (16 : Int32).toNatClampNeg 32) a3 (17 : Int32).toNatClampNeg 115) a5 (18 : Int32).toNatClampNeg 105)))) := rfl
set_option maxRecDepth 100000 in
set_option maxHeartbeats 1000000 in
/-- IModel.<init> -/
theorem e132_225 (O : Nat → List xV → xS → Option xR) (k : Nat → xF) (h : Nat) (s0 : Option Nat) (s1 : Option Nat) (σ : xS) : x_b O x_X0 x_TX (x_C 132) k 3000 (x_suf (x_C 132) 225) [some (.inr (.inr (some h))), none] [.inr (.inr s0), .inr (.inr s1)] σ =
  (x_der s0 fun a1 => x_ak σ a1 11 fun n2 => x_ix 19 n2 <|
  (x_der s0 fun a3 => x_ak (x_si σ a1 (19 : Int32).toNatClampNeg 122) a3 11 fun n4 => x_ix 20 n4 <|
  (x_der s0 fun a5 => x_ak (x_si (x_si σ a1 (19 : Int32).toNatClampNeg 122) a3 (20 : Int32).toNatClampNeg 101) a5 11 fun n6 => x_ix 21 n6 <|
  k 243 [some (.inr (.inr (some h))), none] [.inr (.inr s0), .inr (.inr s1)] (x_si (x_si (x_si σ a1 (19 : Int32).toNatClampNeg 122) a3 (20 : Int32).toNatClampNeg 101) a5 (21 : Int32).toNatClampNeg 115)))) := rfl
set_option maxRecDepth 100000 in
set_option maxHeartbeats 1000000 in
/-- IModel.<init> -/
theorem e132_243 (O : Nat → List xV → xS → Option xR) (k : Nat → xF) (h : Nat) (s0 : Option Nat) (s1 : Option Nat) (σ : xS) : x_b O x_X0 x_TX (x_C 132) k 3000 (x_suf (x_C 132) 243) [some (.inr (.inr (some h))), none] [.inr (.inr s0), .inr (.inr s1)] σ =
  (x_der s0 fun a1 => x_ak σ a1 11 fun n2 => x_ix 22 n2 <|
  (x_der s0 fun a3 => x_ak (x_si σ a1 (22 : Int32).toNatClampNeg 32) a3 11 fun n4 => x_ix 23 n4 <|
  (x_der s0 fun a5 => x_ak (x_si (x_si σ a1 (22 : Int32).toNatClampNeg 32) a3 (23 : Int32).toNatClampNeg 49) a5 11 fun n6 => x_ix 24 n6 <|
  k 261 [some (.inr (.inr (some h))), none] [.inr (.inr s0), .inr (.inr s1)] (x_si (x_si (x_si σ a1 (22 : Int32).toNatClampNeg 32) a3 (23 : Int32).toNatClampNeg 49) a5 (24 : Int32).toNatClampNeg 48)))) := rfl
set_option maxRecDepth 100000 in
set_option maxHeartbeats 1000000 in
/-- IModel.<init> -/
theorem e132_261 (O : Nat → List xV → xS → Option xR) (k : Nat → xF) (h : Nat) (s0 : Option Nat) (s1 : Option Nat) (σ : xS) : x_b O x_X0 x_TX (x_C 132) k 3000 (x_suf (x_C 132) 261) [some (.inr (.inr (some h))), none] [.inr (.inr s0), .inr (.inr s1)] σ =
  (x_der s0 fun a1 => x_ak σ a1 11 fun n2 => x_ix 25 n2 <|
  (x_der s0 fun a3 => x_ak (x_si σ a1 (25 : Int32).toNatClampNeg 48) a3 11 fun n4 => x_ix 26 n4 <|
  (x_der s0 fun a5 => x_ak (x_si (x_si σ a1 (25 : Int32).toNatClampNeg 48) a3 (26 : Int32).toNatClampNeg 32) a5 11 fun n6 => x_ix 27 n6 <|
  k 279 [some (.inr (.inr (some h))), none] [.inr (.inr s0), .inr (.inr s1)] (x_si (x_si (x_si σ a1 (25 : Int32).toNatClampNeg 48) a3 (26 : Int32).toNatClampNeg 32) a5 (27 : Int32).toNatClampNeg 43)))) := rfl
set_option maxRecDepth 100000 in
set_option maxHeartbeats 1000000 in
/-- IModel.<init> -/
theorem e132_279 (O : Nat → List xV → xS → Option xR) (k : Nat → xF) (h : Nat) (s0 : Option Nat) (s1 : Option Nat) (σ : xS) : x_b O x_X0 x_TX (x_C 132) k 3000 (x_suf (x_C 132) 279) [some (.inr (.inr (some h))), none] [.inr (.inr s0), .inr (.inr s1)] σ =
  (x_der s0 fun a1 => x_ak σ a1 11 fun n2 => x_ix 28 n2 <|
  (x_der s0 fun a3 => x_ak (x_si σ a1 (28 : Int32).toNatClampNeg 32) a3 11 fun n4 => x_ix 29 n4 <|
  (x_der s0 fun a5 => x_ak (x_si (x_si σ a1 (28 : Int32).toNatClampNeg 32) a3 (29 : Int32).toNatClampNeg 108) a5 11 fun n6 => x_ix 30 n6 <|
  k 297 [some (.inr (.inr (some h))), none] [.inr (.inr s0), .inr (.inr s1)] (x_si (x_si (x_si σ a1 (28 : Int32).toNatClampNeg 32) a3 (29 : Int32).toNatClampNeg 108) a5 (30 : Int32).toNatClampNeg 117)))) := rfl
set_option maxRecDepth 100000 in
set_option maxHeartbeats 1000000 in
/-- IModel.<init> -/
theorem e132_297 (O : Nat → List xV → xS → Option xR) (k : Nat → xF) (h : Nat) (s0 : Option Nat) (s1 : Option Nat) (σ : xS) : x_b O x_X0 x_TX (x_C 132) k 3000 (x_suf (x_C 132) 297) [some (.inr (.inr (some h))), none] [.inr (.inr s0), .inr (.inr s1)] σ =
  (x_der s0 fun a1 => x_ak σ a1 11 fun n2 => x_ix 31 n2 <|
  (x_der s0 fun a3 => x_ak (x_si σ a1 (31 : Int32).toNatClampNeg 99) a3 11 fun n4 => x_ix 32 n4 <|
  (x_der s0 fun a5 => x_ak (x_si (x_si σ a1 (31 : Int32).toNatClampNeg 99) a3 (32 : Int32).toNatClampNeg 107) a5 11 fun n6 => x_ix 33 n6 <|
  k 315 [some (.inr (.inr (some h))), none] [.inr (.inr s0), .inr (.inr s1)] (x_si (x_si (x_si σ a1 (31 : Int32).toNatClampNeg 99) a3 (32 : Int32).toNatClampNeg 107) a5 (33 : Int32).toNatClampNeg 32)))) := rfl
set_option maxRecDepth 100000 in
set_option maxHeartbeats 1000000 in
/-- IModel.<init> -/
theorem e132_315 (O : Nat → List xV → xS → Option xR) (k : Nat → xF) (h : Nat) (s0 : Option Nat) (s1 : Option Nat) (σ : xS) : x_b O x_X0 x_TX (x_C 132) k 3000 (x_suf (x_C 132) 315) [some (.inr (.inr (some h))), none] [.inr (.inr s0), .inr (.inr s1)] σ =
  (x_der s0 fun a1 => x_ak σ a1 11 fun n2 => x_ix 34 n2 <|
  (x_der s0 fun a3 => x_ak (x_si σ a1 (34 : Int32).toNatClampNeg 42) a3 11 fun n4 => x_ix 35 n4 <|
  (x_der s0 fun a5 => x_ak (x_si (x_si σ a1 (34 : Int32).toNatClampNeg 42) a3 (35 : Int32).toNatClampNeg 32) a5 11 fun n6 => x_ix 36 n6 <|
  k 333 [some (.inr (.inr (some h))), none] [.inr (.inr s0), .inr (.inr s1)] (x_si (x_si (x_si σ a1 (34 : Int32).toNatClampNeg 42) a3 (35 : Int32).toNatClampNeg 32) a5 (36 : Int32).toNatClampNeg 49)))) := rfl
set_option maxRecDepth 100000 in
set_option maxHeartbeats 1000000 in
/-- IModel.<init> -/
theorem e132_333 (O : Nat → List xV → xS → Option xR) (k : Nat → xF) (h : Nat) (s0 : Option Nat) (s1 : Option Nat) (σ : xS) : x_b O x_X0 x_TX (x_C 132) k 3000 (x_suf (x_C 132) 333) [some (.inr (.inr (some h))), none] [.inr (.inr s0), .inr (.inr s1)] σ =
  (x_der s0 fun a1 => x_ak σ a1 11 fun n2 => x_ix 37 n2 <|
  (x_der s0 fun a3 => x_ak (x_si σ a1 (37 : Int32).toNatClampNeg 48) a3 11 fun n4 => x_ix 38 n4 <|
  (x_der s0 fun a5 => x_ak (x_si (x_si σ a1 (37 : Int32).toNatClampNeg 48) a3 (38 : Int32).toNatClampNeg 32) a5 11 fun n6 => x_ix 39 n6 <|
  k 351 [some (.inr (.inr (some h))), none] [.inr (.inr s0), .inr (.inr s1)] (x_si (x_si (x_si σ a1 (37 : Int32).toNatClampNeg 48) a3 (38 : Int32).toNatClampNeg 32) a5 (39 : Int32).toNatClampNeg 59)))) := rfl
set_option maxRecDepth 100000 in
set_option maxHeartbeats 1000000 in
/-- IModel.<init> -/
theorem e132_351 (O : Nat → List xV → xS → Option xR) (k : Nat → xF) (h : Nat) (s0 : Option Nat) (s1 : Option Nat) (σ : xS) : x_b O x_X0 x_TX (x_C 132) k 3000 (x_suf (x_C 132) 351) [some (.inr (.inr (some h))), none] [.inr (.inr s0), .inr (.inr s1)] σ =
  (x_der s0 fun a1 => x_ak σ a1 11 fun n2 => x_ix 40 n2 <|
  (x_der s0 fun a3 => x_ak (x_si σ a1 (40 : Int32).toNatClampNeg 32) a3 11 fun n4 => x_ix 41 n4 <|
  (x_der s0 fun a5 => x_ak (x_si (x_si σ a1 (40 : Int32).toNatClampNeg 32) a3 (41 : Int32).toNatClampNeg 115) a5 11 fun n6 => x_ix 42 n6 <|
  k 369 [some (.inr (.inr (some h))), none] [.inr (.inr s0), .inr (.inr s1)] (x_si (x_si (x_si σ a1 (40 : Int32).toNatClampNeg 32) a3 (41 : Int32).toNatClampNeg 115) a5 (42 : Int32).toNatClampNeg 101)))) := rfl
set_option maxRecDepth 100000 in
set_option maxHeartbeats 1000000 in
/-- IModel.<init> -/
theorem e132_369 (O : Nat → List xV → xS → Option xR) (k : Nat → xF) (h : Nat) (s0 : Option Nat) (s1 : Option Nat) (σ : xS) : x_b O x_X0 x_TX (x_C 132) k 3000 (x_suf (x_C 132) 369) [some (.inr (.inr (some h))), none] [.inr (.inr s0), .inr (.inr s1)] σ =
  (x_der s0 fun a1 => x_ak σ a1 11 fun n2 => x_ix 43 n2 <|
  (x_der s0 fun a3 => x_ak (x_si σ a1 (43 : Int32).toNatClampNeg 101) a3 11 fun n4 => x_ix 44 n4 <|
  (x_der s0 fun a5 => x_ak (x_si (x_si σ a1 (43 : Int32).toNatClampNeg 101) a3 (44 : Int32).toNatClampNeg 110) a5 11 fun n6 => x_ix 45 n6 <|
  k 387 [some (.inr (.inr (some h))), none] [.inr (.inr s0), .inr (.inr s1)] (x_si (x_si (x_si σ a1 (43 : Int32).toNatClampNeg 101) a3 (44 : Int32).toNatClampNeg 110) a5 (45 : Int32).toNatClampNeg 32)))) := rfl
set_option maxRecDepth 100000 in
set_option maxHeartbeats 1000000 in
/-- IModel.<init> -/
theorem e132_387 (O : Nat → List xV → xS → Option xR) (k : Nat → xF) (h : Nat) (s0 : Option Nat) (s1 : Option Nat) (σ : xS) : x_b O x_X0 x_TX (x_C 132) k 3000 (x_suf (x_C 132) 387) [some (.inr (.inr (some h))), none] [.inr (.inr s0), .inr (.inr s1)] σ =
  (x_der s0 fun a1 => x_ak σ a1 11 fun n2 => x_ix 46 n2 <|
  (x_der s0 fun a3 => x_ak (x_si σ a1 (46 : Int32).toNatClampNeg 51) a3 11 fun n4 => x_ix 47 n4 <|
  (x_der s0 fun a5 => x_ak (x_si (x_si σ a1 (46 : Int32).toNatClampNeg 51) a3 (47 : Int32).toNatClampNeg 48) a5 11 fun n6 => x_ix 48 n6 <|
  k 405 [some (.inr (.inr (some h))), none] [.inr (.inr s0), .inr (.inr s1)] (x_si (x_si (x_si σ a1 (46 : Int32).toNatClampNeg 51) a3 (47 : Int32).toNatClampNeg 48) a5 (48 : Int32).toNatClampNeg 32)))) := rfl
set_option maxRecDepth 100000 in
set_option maxHeartbeats 1000000 in
/-- IModel.<init> -/
theorem e132_405 (O : Nat → List xV → xS → Option xR) (k : Nat → xF) (h : Nat) (s0 : Option Nat) (s1 : Option Nat) (σ : xS) : x_b O x_X0 x_TX (x_C 132) k 3000 (x_suf (x_C 132) 405) [some (.inr (.inr (some h))), none] [.inr (.inr s0), .inr (.inr s1)] σ =
  (x_der s0 fun a1 => x_ak σ a1 11 fun n2 => x_ix 49 n2 <|
  (x_der s1 fun a3 => x_ck (x_si σ a1 (49 : Int32).toNatClampNeg 59) a3 10 <|
  (bif Nat.blt (x_sr (x_si σ a1 (49 : Int32).toNatClampNeg 59) a3 25 s0).1.length 900 then
  (x_ak (x_new (x_sr (x_si σ a1 (49 : Int32).toNatClampNeg 59) a3 25 s0) 11 ((96 : Int32).toNatClampNeg)) ((x_sr (x_si σ a1 (49 : Int32).toNatClampNeg 59) a3 25 s0).1.length) 11 fun n4 => x_ix 0 n4 <|
  k 424 [some (.inr (.inr (some h))), none] [.inr (.inr (some (x_sr (x_si σ a1 (49 : Int32).toNatClampNeg 59) a3 25 s0).1.length)), .inr (.inr (some h))] (x_si (x_new (x_sr (x_si σ a1 (49 : Int32).toNatClampNeg 59) a3 25 s0) 11 ((96 : Int32).toNatClampNeg)) ((x_sr (x_si σ a1 (49 : Int32).toNatClampNeg 59) a3 25 s0).1.length) (0 : Int32).toNatClampNeg 111)) else none))) := rfl
set_option maxRecDepth 100000 in
set_option maxHeartbeats 1000000 in
/-- IModel.<init> -/
theorem e132_424 (O : Nat → List xV → xS → Option xR) (k : Nat → xF) (h : Nat) (s0 : Option Nat) (s1 : Option Nat) (σ : xS) : x_b O x_X0 x_TX (x_C 132) k 3000 (x_suf (x_C 132) 424) [some (.inr (.inr (some h))), none] [.inr (.inr s0), .inr (.inr s1)] σ =
  (x_der s0 fun a1 => x_ak σ a1 11 fun n2 => x_ix 1 n2 <|
  (x_der s0 fun a3 => x_ak (x_si σ a1 (1 : Int32).toNatClampNeg 100) a3 11 fun n4 => x_ix 2 n4 <|
  (x_der s0 fun a5 => x_ak (x_si (x_si σ a1 (1 : Int32).toNatClampNeg 100) a3 (2 : Int32).toNatClampNeg 100) a5 11 fun n6 => x_ix 3 n6 <|
  k 439 [some (.inr (.inr (some h))), none] [.inr (.inr s0), .inr (.inr s1)] (x_si (x_si (x_si σ a1 (1 : Int32).toNatClampNeg 100) a3 (2 : Int32).toNatClampNeg 100) a5 (3 : Int32).toNatClampNeg 115)))) := rfl
set_option maxRecDepth 100000 in
set_option maxHeartbeats 1000000 in
/-- IModel.<init> -/
theorem e132_439 (O : Nat → List xV → xS → Option xR) (k : Nat → xF) (h : Nat) (s0 : Option Nat) (s1 : Option Nat) (σ : xS) : x_b O x_X0 x_TX (x_C 132) k 3000 (x_suf (x_C 132) 439) [some (.inr (.inr (some h))), none] [.inr (.inr s0), .inr (.inr s1)] σ =
  (x_der s0 fun a1 => x_ak σ a1 11 fun n2 => x_ix 4 n2 <|
  (x_der s0 fun a3 => x_ak (x_si σ a1 (4 : Int32).toNatClampNeg 32) a3 11 fun n4 => x_ix 5 n4 <|
  (x_der s0 fun a5 => x_ak (x_si (x_si σ a1 (4 : Int32).toNatClampNeg 32) a3 (5 : Int32).toNatClampNeg 32) a5 11 fun n6 => x_ix 6 n6 <|
  k 455 [some (.inr (.inr (some h))), none] [.inr (.inr s0), .inr (.inr s1)] (x_si (x_si (x_si σ a1 (4 : Int32).toNatClampNeg 32) a3 (5 : Int32).toNatClampNeg 32) a5 (6 : Int32).toNatClampNeg 32)))) := rfl
set_option maxRecDepth 100000 in
set_option maxHeartbeats 1000000 in
/-- IModel.<init> -/
theorem e132_455 (O : Nat → List xV → xS → Option xR) (k : Nat → xF) (h : Nat) (s0 : Option Nat) (s1 : Option Nat) (σ : xS) : x_b O x_X0 x_TX (x_C 132) k 3000 (x_suf (x_C 132) 455) [some (.inr (.inr (some h))), none] [.inr (.inr s0), .inr (.inr s1)] σ =
  (x_der s0 fun a1 => x_ak σ a1 11 fun n2 => x_ix 7 n2 <|
  (x_der s0 fun a3 => x_ak (x_si σ a1 (7 : Int32).toNatClampNeg 32) a3 11 fun n4 => x_ix 8 n4 <|
  (x_der s0 fun a5 => x_ak (x_si (x_si σ a1 (7 : Int32).toNatClampNeg 32) a3 (8 : Int32).toNatClampNeg 115) a5 11 fun n6 => x_ix 9 n6 <|
  k 473 [some (.inr (.inr (some h))), none] [.inr (.inr s0), .inr (.inr s1)] (x_si (x_si (x_si σ a1 (7 : Int32).toNatClampNeg 32) a3 (8 : Int32).toNatClampNeg 115) a5 (9 : Int32).toNatClampNeg 105)))) := rfl
set_option maxRecDepth 100000 in
set_option maxHeartbeats 1000000 in
/-- IModel.<init> -/
theorem e132_473 (O : Nat → List xV → xS → Option xR) (k : Nat → xF) (h : Nat) (s0 : Option Nat) (s1 : Option Nat) (σ : xS) : x_b O x_X0 x_TX (x_C 132) k 3000 (x_suf (x_C 132) 473) [some (.inr (.inr (some h))), none] [.inr (.inr s0), .inr (.inr s1)] σ =
  (x_der s0 fun a1 => x_ak σ a1 11 fun n2 => x_ix 10 n2 <|
  (x_der s0 fun a3 => x_ak (x_si σ a1 (10 : Int32).toNatClampNeg 122) a3 11 fun n4 => x_ix 11 n4 <|
  (x_der s0 fun a5 => x_ak (x_si (x_si σ a1 (10 : Int32).toNatClampNeg 122) a3 (11 : Int32).toNatClampNeg 101) a5 11 fun n6 => x_ix 12 n6 <|
  k 491 [some (.inr (.inr (some h))), none] [.inr (.inr s0), .inr (.inr s1)] (x_si (x_si (x_si σ a1 (10 : Int32).toNatClampNeg 122) a3 (11 : Int32).toNatClampNeg 101) a5 (12 : Int32).toNatClampNeg 115)))) := rfl
set_option maxRecDepth 100000 in
set_option maxHeartbeats 1000000 in
/-- IModel.<init> -/
theorem e132_491 (O : Nat → List xV → xS → Option xR) (k : Nat → xF) (h : Nat) (s0 : Option Nat) (s1 : Option Nat) (σ : xS) : x_b O x_X0 x_TX (x_C 132) k 3000 (x_suf (x_C 132) 491) [some (.inr (.inr (some h))), none] [.inr (.inr s0), .inr (.inr s1)] σ =
  (x_der s0 fun a1 => x_ak σ a1 11 fun n2 => x_ix 13 n2 <|
  (x_der s0 fun a3 => x_ak (x_si σ a1 (13 : Int32).toNatClampNeg 32) a3 11 fun n4 => x_ix 14 n4 <|
  (x_der s0 fun a5 => x_ak (x_si (x_si σ a1 (13 : Int32).toNatClampNeg 32) a3 (14 : Int32).toNatClampNeg 32) a5 11 fun n6 => x_ix 15 n6 <|
  k 509 [some (.inr (.inr (some h))), none] [.inr (.inr s0), .inr (.inr s1)] (x_si (x_si (x_si σ a1 (13 : Int32).toNatClampNeg 32) a3 (14 : Int32).toNatClampNeg 32) a5 (15 : Int32).toNatClampNeg 32)))) := rfl
set_option maxRecDepth 100000 in
set_option maxHeartbeats 1000000 in
/-- IModel.<init> -/
theorem e132_509 (O : Nat → List xV → xS → Option xR) (k : Nat → xF) (h : Nat) (s0 : Option Nat) (s1 : Option Nat) (σ : xS) : x_b O x_X0 x_TX (x_C 132) k 3000 (x_suf (x_C 132) 509) [some (.inr (.inr (some h))), none] [.inr (.inr s0), .inr (.inr s1)] σ =
  (x_der s0 fun a1 => x_ak σ a1 11 fun n2 => x_ix 16 n2 <|
  (x_der s0 fun a3 => x_ak (x_si σ a1 (16 : Int32).toNatClampNeg 115) a3 11 fun n4 => x_ix 17 n4 <|
  (x_der s0 fun a5 => x_ak (x_si (x_si σ a1 (16 : Int32).toNatClampNeg 115) a3 (17 : Int32).toNatClampNeg 101) a5 11 fun n6 => x_ix 18 n6 <|
  k 527 [some (.inr (.inr (some h))), none] [.inr (.inr s0), .inr (.inr s1)] (x_si (x_si (x_si σ a1 (16 : Int32).toNatClampNeg 115) a3 (17 : Int32).toNatClampNeg 101) a5 (18 : Int32).toNatClampNeg 101)))) := rfl
set_option maxRecDepth 100000 in
set_option maxHeartbeats 1000000 in
/-- IModel.<init> -/
theorem e132_527 (O : Nat → List xV → xS → Option xR) (k : Nat → xF) (h : Nat) (s0 : Option Nat) (s1 : Option Nat) (σ : xS) : x_b O x_X0 x_TX (x_C 132) k 3000 (x_suf (x_C 132) 527) [some (.inr (.inr (some h))), none] [.inr (.inr s0), .inr (.inr s1)] σ =
  (x_der s0 fun a1 => x_ak σ a1 11 fun n2 => x_ix 19 n2 <|
  (x_der s0 fun a3 => x_ak (x_si σ a1 (19 : Int32).toNatClampNeg 110) a3 11 fun n4 => x_ix 20 n4 <|
  (x_der s0 fun a5 => x_ak (x_si (x_si σ a1 (19 : Int32).toNatClampNeg 110) a3 (20 : Int32).toNatClampNeg 32) a5 11 fun n6 => x_ix 21 n6 <|
  k 545 [some (.inr (.inr (some h))), none] [.inr (.inr s0), .inr (.inr s1)] (x_si (x_si (x_si σ a1 (19 : Int32).toNatClampNeg 110) a3 (20 : Int32).toNatClampNeg 32) a5 (21 : Int32).toNatClampNeg 32)))) := rfl
set_option maxRecDepth 100000 in
set_option maxHeartbeats 1000000 in
/-- IModel.<init> -/
theorem e132_545 (O : Nat → List xV → xS → Option xR) (k : Nat → xF) (h : Nat) (s0 : Option Nat) (s1 : Option Nat) (σ : xS) : x_b O x_X0 x_TX (x_C 132) k 3000 (x_suf (x_C 132) 545) [some (.inr (.inr (some h))), none] [.inr (.inr s0), .inr (.inr s1)] σ =
  (x_der s0 fun a1 => x_ak σ a1 11 fun n2 => x_ix 22 n2 <|
  (x_der s0 fun a3 => x_ak (x_si σ a1 (22 : Int32).toNatClampNeg 32) a3 11 fun n4 => x_ix 23 n4 <|
  (x_der s0 fun a5 => x_ak (x_si (x_si σ a1 (22 : Int32).toNatClampNeg 32) a3 (23 : Int32).toNatClampNeg 32) a5 11 fun n6 => x_ix 24 n6 <|
  k 563 [some (.inr (.inr (some h))), none] [.inr (.inr s0), .inr (.inr s1)] (x_si (x_si (x_si σ a1 (22 : Int32).toNatClampNeg 32) a3 (23 : Int32).toNatClampNeg 32) a5 (24 : Int32).toNatClampNeg 121)))) := rfl
set_option maxRecDepth 100000 in
set_option maxHeartbeats 1000000 in
/-- IModel.<init> -/
theorem e132_563 (O : Nat → List xV → xS → Option xR) (k : Nat → xF) (h : Nat) (s0 : Option Nat) (s1 : Option Nat) (σ : xS) : x_b O x_X0 x_TX (x_C 132) k 3000 (x_suf (x_C 132) 563) [some (.inr (.inr (some h))), none] [.inr (.inr s0), .inr (.inr s1)] σ =
  (x_der s0 fun a1 => x_ak σ a1 11 fun n2 => x_ix 25 n2 <|
  (x_der s0 fun a3 => x_ak (x_si σ a1 (25 : Int32).toNatClampNeg 101) a3 11 fun n4 => x_ix 26 n4 <|
  (x_der s0 fun a5 => x_ak (x_si (x_si σ a1 (25 : Int32).toNatClampNeg 101) a3 (26 : Int32).toNatClampNeg 97) a5 11 fun n6 => x_ix 27 n6 <|
  k 581 [some (.inr (.inr (some h))), none] [.inr (.inr s0), .inr (.inr s1)] (x_si (x_si (x_si σ a1 (25 : Int32).toNatClampNeg 101) a3 (26 : Int32).toNatClampNeg 97) a5 (27 : Int32).toNatClampNeg 114)))) := rfl
set_option maxRecDepth 100000 in
set_option maxHeartbeats 1000000 in
/-- IModel.<init> -/
theorem e132_581 (O : Nat → List xV → xS → Option xR) (k : Nat → xF) (h : Nat) (s0 : Option Nat) (s1 : Option Nat) (σ : xS) : x_b O x_X0 x_TX (x_C 132) k 3000 (x_suf (x_C 132) 581) [some (.inr (.inr (some h))), none] [.inr (.inr s0), .inr (.inr s1)] σ =
  (x_der s0 fun a1 => x_ak σ a1 11 fun n2 => x_ix 28 n2 <|
  (x_der s0 fun a3 => x_ak (x_si σ a1 (28 : Int32).toNatClampNeg 32) a3 11 fun n4 => x_ix 29 n4 <|
  (x_der s0 fun a5 => x_ak (x_si (x_si σ a1 (28 : Int32).toNatClampNeg 32) a3 (29 : Int32).toNatClampNeg 32) a5 11 fun n6 => x_ix 30 n6 <|
  k 599 [some (.inr (.inr (some h))), none] [.inr (.inr s0), .inr (.inr s1)] (x_si (x_si (x_si σ a1 (28 : Int32).toNatClampNeg 32) a3 (29 : Int32).toNatClampNeg 32) a5 (30 : Int32).toNatClampNeg 32)))) := rfl
set_option maxRecDepth 100000 in
set_option maxHeartbeats 1000000 in
/-- IModel.<init> -/
theorem e132_599 (O : Nat → List xV → xS → Option xR) (k : Nat → xF) (h : Nat) (s0 : Option Nat) (s1 : Option Nat) (σ : xS) : x_b O x_X0 x_TX (x_C 132) k 3000 (x_suf (x_C 132) 599) [some (.inr (.inr (some h))), none] [.inr (.inr s0), .inr (.inr s1)] σ =
  (x_der s0 fun a1 => x_ak σ a1 11 fun n2 => x_ix 31 n2 <|
  (x_der s0 fun a3 => x_ak (x_si σ a1 (31 : Int32).toNatClampNeg 32) a3 11 fun n4 => x_ix 32 n4 <|
  (x_der s0 fun a5 => x_ak (x_si (x_si σ a1 (31 : Int32).toNatClampNeg 32) a3 (32 : Int32).toNatClampNeg 108) a5 11 fun n6 => x_ix 33 n6 <|
  k 617 [some (.inr (.inr (some h))), none] [.inr (.inr s0), .inr (.inr s1)] (x_si (x_si (x_si σ a1 (31 : Int32).toNatClampNeg 32) a3 (32 : Int32).toNatClampNeg 108) a5 (33 : Int32).toNatClampNeg 117)))) := rfl
set_option maxRecDepth 100000 in
set_option maxHeartbeats 1000000 in
/-- IModel.<init> -/
theorem e132_617 (O : Nat → List xV → xS → Option xR) (k : Nat → xF) (h : Nat) (s0 : Option Nat) (s1 : Option Nat) (σ : xS) : x_b O x_X0 x_TX (x_C 132) k 3000 (x_suf (x_C 132) 617) [some (.inr (.inr (some h))), none] [.inr (.inr s0), .inr (.inr s1)] σ =
  (x_der s0 fun a1 => x_ak σ a1 11 fun n2 => x_ix 34 n2 <|
  (x_der s0 fun a3 => x_ak (x_si σ a1 (34 : Int32).toNatClampNeg 99) a3 11 fun n4 => x_ix 35 n4 <|
  (x_der s0 fun a5 => x_ak (x_si (x_si σ a1 (34 : Int32).toNatClampNeg 99) a3 (35 : Int32).toNatClampNeg 107) a5 11 fun n6 => x_ix 36 n6 <|
  k 635 [some (.inr (.inr (some h))), none] [.inr (.inr s0), .inr (.inr s1)] (x_si (x_si (x_si σ a1 (34 : Int32).toNatClampNeg 99) a3 (35 : Int32).toNatClampNeg 107) a5 (36 : Int32).toNatClampNeg 32)))) := rfl
set_option maxRecDepth 100000 in
set_option maxHeartbeats 1000000 in
/-- IModel.<init> -/
theorem e132_635 (O : Nat → List xV → xS → Option xR) (k : Nat → xF) (h : Nat) (s0 : Option Nat) (s1 : Option Nat) (σ : xS) : x_b O x_X0 x_TX (x_C 132) k 3000 (x_suf (x_C 132) 635) [some (.inr (.inr (some h))), none] [.inr (.inr s0), .inr (.inr s1)] σ =
  (x_der s0 fun a1 => x_ak σ a1 11 fun n2 => x_ix 37 n2 <|
  (x_der s0 fun a3 => x_ak (x_si σ a1 (37 : Int32).toNatClampNeg 32) a3 11 fun n4 => x_ix 38 n4 <|
  (x_der s0 fun a5 => x_ak (x_si (x_si σ a1 (37 : Int32).toNatClampNeg 32) a3 (38 : Int32).toNatClampNeg 32) a5 11 fun n6 => x_ix 39 n6 <|
  k 653 [some (.inr (.inr (some h))), none] [.inr (.inr s0), .inr (.inr s1)] (x_si (x_si (x_si σ a1 (37 : Int32).toNatClampNeg 32) a3 (38 : Int32).toNatClampNeg 32) a5 (39 : Int32).toNatClampNeg 32)))) := rfl
set_option maxRecDepth 100000 in
set_option maxHeartbeats 1000000 in
/-- IModel.<init> -/
theorem e132_653 (O : Nat → List xV → xS → Option xR) (k : Nat → xF) (h : Nat) (s0 : Option Nat) (s1 : Option Nat) (σ : xS) : x_b O x_X0 x_TX (x_C 132) k 3000 (x_suf (x_C 132) 653) [some (.inr (.inr (some h))), none] [.inr (.inr s0), .inr (.inr s1)] σ =
  (x_der s0 fun a1 => x_ak σ a1 11 fun n2 => x_ix 40 n2 <|
  (x_der s0 fun a3 => x_ak (x_si σ a1 (40 : Int32).toNatClampNeg 109) a3 11 fun n4 => x_ix 41 n4 <|
  (x_der s0 fun a5 => x_ak (x_si (x_si σ a1 (40 : Int32).toNatClampNeg 109) a3 (41 : Int32).toNatClampNeg 111) a5 11 fun n6 => x_ix 42 n6 <|
  k 671 [some (.inr (.inr (some h))), none] [.inr (.inr s0), .inr (.inr s1)] (x_si (x_si (x_si σ a1 (40 : Int32).toNatClampNeg 109) a3 (41 : Int32).toNatClampNeg 111) a5 (42 : Int32).toNatClampNeg 114)))) := rfl
set_option maxRecDepth 100000 in
set_option maxHeartbeats 1000000 in
/-- IModel.<init> -/
theorem e132_671 (O : Nat → List xV → xS → Option xR) (k : Nat → xF) (h : Nat) (s0 : Option Nat) (s1 : Option Nat) (σ : xS) : x_b O x_X0 x_TX (x_C 132) k 3000 (x_suf (x_C 132) 671) [some (.inr (.inr (some h))), none] [.inr (.inr s0), .inr (.inr s1)] σ =
  (x_der s0 fun a1 => x_ak σ a1 11 fun n2 => x_ix 43 n2 <|
  (x_der s0 fun a3 => x_ak (x_si σ a1 (43 : Int32).toNatClampNeg 101) a3 11 fun n4 => x_ix 44 n4 <|
  (x_der s0 fun a5 => x_ak (x_si (x_si σ a1 (43 : Int32).toNatClampNeg 101) a3 (44 : Int32).toNatClampNeg 32) a5 11 fun n6 => x_ix 45 n6 <|
  k 689 [some (.inr (.inr (some h))), none] [.inr (.inr s0), .inr (.inr s1)] (x_si (x_si (x_si σ a1 (43 : Int32).toNatClampNeg 101) a3 (44 : Int32).toNatClampNeg 32) a5 (45 : Int32).toNatClampNeg 32)))) := rfl
set_option maxRecDepth 100000 in
set_option maxHeartbeats 1000000 in
/-- IModel.<init> -/
theorem e132_689 (O : Nat → List xV → xS → Option xR) (k : Nat → xF) (h : Nat) (s0 : Option Nat) (s1 : Option Nat) (σ : xS) : x_b O x_X0 x_TX (x_C 132) k 3000 (x_suf (x_C 132) 689) [some (.inr (.inr (some h))), none] [.inr (.inr s0), .inr (.inr s1)] σ =
  (x_der s0 fun a1 => x_ak σ a1 11 fun n2 => x_ix 46 n2 <|
  (x_der s0 fun a3 => x_ak (x_si σ a1 (46 : Int32).toNatClampNeg 32) a3 11 fun n4 => x_ix 47 n4 <|
  (x_der s0 fun a5 => x_ak (x_si (x_si σ a1 (46 : Int32).toNatClampNeg 32) a3 (47 : Int32).toNatClampNeg 32) a5 11 fun n6 => x_ix 48 n6 <|
  k 707 [some (.inr (.inr (some h))), none] [.inr (.inr s0), .inr (.inr s1)] (x_si (x_si (x_si σ a1 (46 : Int32).toNatClampNeg 32) a3 (47 : Int32).toNatClampNeg 32) a5 (48 : Int32).toNatClampNeg 101)))) := rfl
set_option maxRecDepth 100000 in
set_option maxHeartbeats 1000000 in
/-- IModel.<init> -/
theorem e132_707 (O : Nat → List xV → xS → Option xR) (k : Nat → xF) (h : Nat) (s0 : Option Nat) (s1 : Option Nat) (σ : xS) : x_b O x_X0 x_TX (x_C 132) k 3000 (x_suf (x_C 132) 707) [some (.inr (.inr (some h))), none] [.inr (.inr s0), .inr (.inr s1)] σ =
  (x_der s0 fun a1 => x_ak σ a1 11 fun n2 => x_ix 49 n2 <|
  (x_der s0 fun a3 => x_ak (x_si σ a1 (49 : Int32).toNatClampNeg 120) a3 11 fun n4 => x_ix 50 n4 <|
  (x_der s0 fun a5 => x_ak (x_si (x_si σ a1 (49 : Int32).toNatClampNeg 120) a3 (50 : Int32).toNatClampNeg 99) a5 11 fun n6 => x_ix 51 n6 <|
  k 725 [some (.inr (.inr (some h))), none] [.inr (.inr s0), .inr (.inr s1)] (x_si (x_si (x_si σ a1 (49 : Int32).toNatClampNeg 120) a3 (50 : Int32).toNatClampNeg 99) a5 (51 : Int32).toNatClampNeg 101)))) := rfl
set_option maxRecDepth 100000 in
set_option maxHeartbeats 1000000 in
/-- IModel.<init> -/
theorem e132_725 (O : Nat → List xV → xS → Option xR) (k : Nat → xF) (h : Nat) (s0 : Option Nat) (s1 : Option Nat) (σ : xS) : x_b O x_X0 x_TX (x_C 132) k 3000 (x_suf (x_C 132) 725) [some (.inr (.inr (some h))), none] [.inr (.inr s0), .inr (.inr s1)] σ =
  (x_der s0 fun a1 => x_ak σ a1 11 fun n2 => x_ix 52 n2 <|
  (x_der s0 fun a3 => x_ak (x_si σ a1 (52 : Int32).toNatClampNeg 115) a3 11 fun n4 => x_ix 53 n4 <|
  (x_der s0 fun a5 => x_ak (x_si (x_si σ a1 (52 : Int32).toNatClampNeg 115) a3 (53 : Int32).toNatClampNeg 115) a5 11 fun n6 => x_ix 54 n6 <|
  k 743 [some (.inr (.inr (some h))), none] [.inr (.inr s0), .inr (.inr s1)] (x_si (x_si (x_si σ a1 (52 : Int32).toNatClampNeg 115) a3 (53 : Int32).toNatClampNeg 115) a5 (54 : Int32).toNatClampNeg 32)))) := rfl
set_option maxRecDepth 100000 in
set_option maxHeartbeats 1000000 in
/-- IModel.<init> -/
theorem e132_743 (O : Nat → List xV → xS → Option xR) (k : Nat → xF) (h : Nat) (s0 : Option Nat) (s1 : Option Nat) (σ : xS) : x_b O x_X0 x_TX (x_C 132) k 3000 (x_suf (x_C 132) 743) [some (.inr (.inr (some h))), none] [.inr (.inr s0), .inr (.inr s1)] σ =
  (x_der s0 fun a1 => x_ak σ a1 11 fun n2 => x_ix 55 n2 <|
  (x_der s0 fun a3 => x_ak (x_si σ a1 (55 : Int32).toNatClampNeg 32) a3 11 fun n4 => x_ix 56 n4 <|
  (x_der s0 fun a5 => x_ak (x_si (x_si σ a1 (55 : Int32).toNatClampNeg 32) a3 (56 : Int32).toNatClampNeg 115) a5 11 fun n6 => x_ix 57 n6 <|
  k 761 [some (.inr (.inr (some h))), none] [.inr (.inr s0), .inr (.inr s1)] (x_si (x_si (x_si σ a1 (55 : Int32).toNatClampNeg 32) a3 (56 : Int32).toNatClampNeg 115) a5 (57 : Int32).toNatClampNeg 104)))) := rfl
set_option maxRecDepth 100000 in
set_option maxHeartbeats 1000000 in
/-- IModel.<init> -/
theorem e132_761 (O : Nat → List xV → xS → Option xR) (k : Nat → xF) (h : Nat) (s0 : Option Nat) (s1 : Option Nat) (σ : xS) : x_b O x_X0 x_TX (x_C 132) k 3000 (x_suf (x_C 132) 761) [some (.inr (.inr (some h))), none] [.inr (.inr s0), .inr (.inr s1)] σ =
  (x_der s0 fun a1 => x_ak σ a1 11 fun n2 => x_ix 58 n2 <|
  (x_der s0 fun a3 => x_ak (x_si σ a1 (58 : Int32).toNatClampNeg 97) a3 11 fun n4 => x_ix 59 n4 <|
  (x_der s0 fun a5 => x_ak (x_si (x_si σ a1 (58 : Int32).toNatClampNeg 97) a3 (59 : Int32).toNatClampNeg 114) a5 11 fun n6 => x_ix 60 n6 <|
  k 779 [some (.inr (.inr (some h))), none] [.inr (.inr s0), .inr (.inr s1)] (x_si (x_si (x_si σ a1 (58 : Int32).toNatClampNeg 97) a3 (59 : Int32).toNatClampNeg 114) a5 (60 : Int32).toNatClampNeg 101)))) := rfl
set_option maxRecDepth 100000 in
set_option maxHeartbeats 1000000 in
/-- IModel.<init> -/
theorem e132_779 (O : Nat → List xV → xS → Option xR) (k : Nat → xF) (h : Nat) (s0 : Option Nat) (s1 : Option Nat) (σ : xS) : x_b O x_X0 x_TX (x_C 132) k 3000 (x_suf (x_C 132) 779) [some (.inr (.inr (some h))), none] [.inr (.inr s0), .inr (.inr s1)] σ =
  (x_der s0 fun a1 => x_ak σ a1 11 fun n2 => x_ix 61 n2 <|
  (x_der s0 fun a3 => x_ak (x_si σ a1 (61 : Int32).toNatClampNeg 32) a3 11 fun n4 => x_ix 62 n4 <|
  (x_der s0 fun a5 => x_ak (x_si (x_si σ a1 (61 : Int32).toNatClampNeg 32) a3 (62 : Int32).toNatClampNeg 32) a5 11 fun n6 => x_ix 63 n6 <|
  k 797 [some (.inr (.inr (some h))), none] [.inr (.inr s0), .inr (.inr s1)] (x_si (x_si (x_si σ a1 (61 : Int32).toNatClampNeg 32) a3 (62 : Int32).toNatClampNeg 32) a5 (63 : Int32).toNatClampNeg 32)))) := rfl
set_option maxRecDepth 100000 in
set_option maxHeartbeats 1000000 in
/-- IModel.<init> -/
theorem e132_797 (O : Nat → List xV → xS → Option xR) (k : Nat → xF) (h : Nat) (s0 : Option Nat) (s1 : Option Nat) (σ : xS) : x_b O x_X0 x_TX (x_C 132) k 3000 (x_suf (x_C 132) 797) [some (.inr (.inr (some h))), none] [.inr (.inr s0), .inr (.inr s1)] σ =
  (x_der s0 fun a1 => x_ak σ a1 11 fun n2 => x_ix 64 n2 <|
  (x_der s0 fun a3 => x_ak (x_si σ a1 (64 : Int32).toNatClampNeg 109) a3 11 fun n4 => x_ix 65 n4 <|
  (x_der s0 fun a5 => x_ak (x_si (x_si σ a1 (64 : Int32).toNatClampNeg 109) a3 (65 : Int32).toNatClampNeg 117) a5 11 fun n6 => x_ix 66 n6 <|
  k 815 [some (.inr (.inr (some h))), none] [.inr (.inr s0), .inr (.inr s1)] (x_si (x_si (x_si σ a1 (64 : Int32).toNatClampNeg 109) a3 (65 : Int32).toNatClampNeg 117) a5 (66 : Int32).toNatClampNeg 99)))) := rfl
set_option maxRecDepth 100000 in
set_option maxHeartbeats 1000000 in
/-- IModel.<init> -/
theorem e132_815 (O : Nat → List xV → xS → Option xR) (k : Nat → xF) (h : Nat) (s0 : Option Nat) (s1 : Option Nat) (σ : xS) : x_b O x_X0 x_TX (x_C 132) k 3000 (x_suf (x_C 132) 815) [some (.inr (.inr (some h))), none] [.inr (.inr s0), .inr (.inr s1)] σ =
  (x_der s0 fun a1 => x_ak σ a1 11 fun n2 => x_ix 67 n2 <|
  (x_der s0 fun a3 => x_ak (x_si σ a1 (67 : Int32).toNatClampNeg 104) a3 11 fun n4 => x_ix 68 n4 <|
  (x_der s0 fun a5 => x_ak (x_si (x_si σ a1 (67 : Int32).toNatClampNeg 104) a3 (68 : Int32).toNatClampNeg 32) a5 11 fun n6 => x_ix 69 n6 <|
  k 833 [some (.inr (.inr (some h))), none] [.inr (.inr s0), .inr (.inr s1)] (x_si (x_si (x_si σ a1 (67 : Int32).toNatClampNeg 104) a3 (68 : Int32).toNatClampNeg 32) a5 (69 : Int32).toNatClampNeg 32)))) := rfl
set_option maxRecDepth 100000 in
set_option maxHeartbeats 1000000 in
/-- IModel.<init> -/
theorem e132_833 (O : Nat → List xV → xS → Option xR) (k : Nat → xF) (h : Nat) (s0 : Option Nat) (s1 : Option Nat) (σ : xS) : x_b O x_X0 x_TX (x_C 132) k 3000 (x_suf (x_C 132) 833) [some (.inr (.inr (some h))), none] [.inr (.inr s0), .inr (.inr s1)] σ =
  (x_der s0 fun a1 => x_ak σ a1 11 fun n2 => x_ix 70 n2 <|
  (x_der s0 fun a3 => x_ak (x_si σ a1 (70 : Int32).toNatClampNeg 32) a3 11 fun n4 => x_ix 71 n4 <|
  (x_der s0 fun a5 => x_ak (x_si (x_si σ a1 (70 : Int32).toNatClampNeg 32) a3 (71 : Int32).toNatClampNeg 32) a5 11 fun n6 => x_ix 72 n6 <|
  k 851 [some (.inr (.inr (some h))), none] [.inr (.inr s0), .inr (.inr s1)] (x_si (x_si (x_si σ a1 (70 : Int32).toNatClampNeg 32) a3 (71 : Int32).toNatClampNeg 32) a5 (72 : Int32).toNatClampNeg 111)))) := rfl
set_option maxRecDepth 100000 in
set_option maxHeartbeats 1000000 in
/-- IModel.<init> -/
theorem e132_851 (O : Nat → List xV → xS → Option xR) (k : Nat → xF) (h : Nat) (s0 : Option Nat) (s1 : Option Nat) (σ : xS) : x_b O x_X0 x_TX (x_C 132) k 3000 (x_suf (x_C 132) 851) [some (.inr (.inr (some h))), none] [.inr (.inr s0), .inr (.inr s1)] σ =
  (x_der s0 fun a1 => x_ak σ a1 11 fun n2 => x_ix 73 n2 <|
  (x_der s0 fun a3 => x_ak (x_si σ a1 (73 : Int32).toNatClampNeg 114) a3 11 fun n4 => x_ix 74 n4 <|
  (x_der s0 fun a5 => x_ak (x_si (x_si σ a1 (73 : Int32).toNatClampNeg 114) a3 (74 : Int32).toNatClampNeg 32) a5 11 fun n6 => x_ix 75 n6 <|
  k 869 [some (.inr (.inr (some h))), none] [.inr (.inr s0), .inr (.inr s1)] (x_si (x_si (x_si σ a1 (73 : Int32).toNatClampNeg 114) a3 (74 : Int32).toNatClampNeg 32) a5 (75 : Int32).toNatClampNeg 32)))) := rfl
set_option maxRecDepth 100000 in
set_option maxHeartbeats 1000000 in
/-- IModel.<init> -/
theorem e132_869 (O : Nat → List xV → xS → Option xR) (k : Nat → xF) (h : Nat) (s0 : Option Nat) (s1 : Option Nat) (σ : xS) : x_b O x_X0 x_TX (x_C 132) k 3000 (x_suf (x_C 132) 869) [some (.inr (.inr (some h))), none] [.inr (.inr s0), .inr (.inr s1)] σ =
  (x_der s0 fun a1 => x_ak σ a1 11 fun n2 => x_ix 76 n2 <|
  (x_der s0 fun a3 => x_ak (x_si σ a1 (76 : Int32).toNatClampNeg 32) a3 11 fun n4 => x_ix 77 n4 <|
  (x_der s0 fun a5 => x_ak (x_si (x_si σ a1 (76 : Int32).toNatClampNeg 32) a3 (77 : Int32).toNatClampNeg 32) a5 11 fun n6 => x_ix 78 n6 <|
  k 887 [some (.inr (.inr (some h))), none] [.inr (.inr s0), .inr (.inr s1)] (x_si (x_si (x_si σ a1 (76 : Int32).toNatClampNeg 32) a3 (77 : Int32).toNatClampNeg 32) a5 (78 : Int32).toNatClampNeg 32)))) := rfl
set_option maxRecDepth 100000 in
set_option maxHeartbeats 1000000 in
/-- IModel.<init> -/
theorem e132_887 (O : Nat → List xV → xS → Option xR) (k : Nat → xF) (h : Nat) (s0 : Option Nat) (s1 : Option Nat) (σ : xS) : x_b O x_X0 x_TX (x_C 132) k 3000 (x_suf (x_C 132) 887) [some (.inr (.inr (some h))), none] [.inr (.inr s0), .inr (.inr s1)] σ =
  (x_der s0 fun a1 => x_ak σ a1 11 fun n2 => x_ix 79 n2 <|
  (x_der s0 fun a3 => x_ak (x_si σ a1 (79 : Int32).toNatClampNeg 32) a3 11 fun n4 => x_ix 80 n4 <|
  (x_der s0 fun a5 => x_ak (x_si (x_si σ a1 (79 : Int32).toNatClampNeg 32) a3 (80 : Int32).toNatClampNeg 97) a5 11 fun n6 => x_ix 81 n6 <|
  k 905 [some (.inr (.inr (some h))), none] [.inr (.inr s0), .inr (.inr s1)] (x_si (x_si (x_si σ a1 (79 : Int32).toNatClampNeg 32) a3 (80 : Int32).toNatClampNeg 97) a5 (81 : Int32).toNatClampNeg 110)))) := rfl
set_option maxRecDepth 100000 in
set_option maxHeartbeats 1000000 in
/-- IModel.<init> -/
theorem e132_905 (O : Nat → List xV → xS → Option xR) (k : Nat → xF) (h : Nat) (s0 : Option Nat) (s1 : Option Nat) (σ : xS) : x_b O x_X0 x_TX (x_C 132) k 3000 (x_suf (x_C 132) 905) [some (.inr (.inr (some h))), none] [.inr (.inr s0), .inr (.inr s1)] σ =
  (x_der s0 fun a1 => x_ak σ a1 11 fun n2 => x_ix 82 n2 <|
  (x_der s0 fun a3 => x_ak (x_si σ a1 (82 : Int32).toNatClampNeg 100) a3 11 fun n4 => x_ix 83 n4 <|
  (x_der s0 fun a5 => x_ak (x_si (x_si σ a1 (82 : Int32).toNatClampNeg 100) a3 (83 : Int32).toNatClampNeg 32) a5 11 fun n6 => x_ix 84 n6 <|
  k 923 [some (.inr (.inr (some h))), none] [.inr (.inr s0), .inr (.inr s1)] (x_si (x_si (x_si σ a1 (82 : Int32).toNatClampNeg 100) a3 (83 : Int32).toNatClampNeg 32) a5 (84 : Int32).toNatClampNeg 32)))) := rfl
set_option maxRecDepth 100000 in
set_option maxHeartbeats 1000000 in
/-- IModel.<init> -/
theorem e132_923 (O : Nat → List xV → xS → Option xR) (k : Nat → xF) (h : Nat) (s0 : Option Nat) (s1 : Option Nat) (σ : xS) : x_b O x_X0 x_TX (x_C 132) k 3000 (x_suf (x_C 132) 923) [some (.inr (.inr (some h))), none] [.inr (.inr s0), .inr (.inr s1)] σ =
  (x_der s0 fun a1 => x_ak σ a1 11 fun n2 => x_ix 85 n2 <|
  (x_der s0 fun a3 => x_ak (x_si σ a1 (85 : Int32).toNatClampNeg 32) a3 11 fun n4 => x_ix 86 n4 <|
  (x_der s0 fun a5 => x_ak (x_si (x_si σ a1 (85 : Int32).toNatClampNeg 32) a3 (86 : Int32).toNatClampNeg 32) a5 11 fun n6 => x_ix 87 n6 <|
  k 941 [some (.inr (.inr (some h))), none] [.inr (.inr s0), .inr (.inr s1)] (x_si (x_si (x_si σ a1 (85 : Int32).toNatClampNeg 32) a3 (86 : Int32).toNatClampNeg 32) a5 (87 : Int32).toNatClampNeg 32)))) := rfl
set_option maxRecDepth 100000 in
set_option maxHeartbeats 1000000 in
/-- IModel.<init> -/
theorem e132_941 (O : Nat → List xV → xS → Option xR) (k : Nat → xF) (h : Nat) (s0 : Option Nat) (s1 : Option Nat) (σ : xS) : x_b O x_X0 x_TX (x_C 132) k 3000 (x_suf (x_C 132) 941) [some (.inr (.inr (some h))), none] [.inr (.inr s0), .inr (.inr s1)] σ =
  (x_der s0 fun a1 => x_ak σ a1 11 fun n2 => x_ix 88 n2 <|
  (x_der s0 fun a3 => x_ak (x_si σ a1 (88 : Int32).toNatClampNeg 110) a3 11 fun n4 => x_ix 89 n4 <|
  (x_der s0 fun a5 => x_ak (x_si (x_si σ a1 (88 : Int32).toNatClampNeg 110) a3 (89 : Int32).toNatClampNeg 111) a5 11 fun n6 => x_ix 90 n6 <|
  k 959 [some (.inr (.inr (some h))), none] [.inr (.inr s0), .inr (.inr s1)] (x_si (x_si (x_si σ a1 (88 : Int32).toNatClampNeg 110) a3 (89 : Int32).toNatClampNeg 111) a5 (90 : Int32).toNatClampNeg 116)))) := rfl
set_option maxRecDepth 100000 in
set_option maxHeartbeats 1000000 in
/-- IModel.<init> -/
theorem e132_959 (O : Nat → List xV → xS → Option xR) (k : Nat → xF) (h : Nat) (s0 : Option Nat) (s1 : Option Nat) (σ : xS) : x_b O x_X0 x_TX (x_C 132) k 3000 (x_suf (x_C 132) 959) [some (.inr (.inr (some h))), none] [.inr (.inr s0), .inr (.inr s1)] σ =
  (x_der s0 fun a1 => x_ak σ a1 11 fun n2 => x_ix 91 n2 <|
  (x_der s0 fun a3 => x_ak (x_si σ a1 (91 : Int32).toNatClampNeg 32) a3 11 fun n4 => x_ix 92 n4 <|
  (x_der s0 fun a5 => x_ak (x_si (x_si σ a1 (91 : Int32).toNatClampNeg 32) a3 (92 : Int32).toNatClampNeg 32) a5 11 fun n6 => x_ix 93 n6 <|
  k 977 [some (.inr (.inr (some h))), none] [.inr (.inr s0), .inr (.inr s1)] (x_si (x_si (x_si σ a1 (91 : Int32).toNatClampNeg 32) a3 (92 : Int32).toNatClampNeg 32) a5 (93 : Int32).toNatClampNeg 32)))) := rfl
set_option maxRecDepth 100000 in
set_option maxHeartbeats 1000000 in
/-- IModel.<init> -/
theorem e132_977 (O : Nat → List xV → xS → Option xR) (k : Nat → xF) (h : Nat) (s0 : Option Nat) (s1 : Option Nat) (σ : xS) : x_b O x_X0 x_TX (x_C 132) k 3000 (x_suf (x_C 132) 977) [some (.inr (.inr (some h))), none] [.inr (.inr s0), .inr (.inr s1)] σ =
  (x_der s0 fun a1 => x_ak σ a1 11 fun n2 => x_ix 94 n2 <|
  (x_der s0 fun a3 => x_ak (x_si σ a1 (94 : Int32).toNatClampNeg 32) a3 11 fun n4 => x_ix 95 n4 <|
  (x_der s1 fun a5 => x_ck (x_si (x_si σ a1 (94 : Int32).toNatClampNeg 32) a3 (95 : Int32).toNatClampNeg 32) a5 10 <|
  k 992 [some (.inr (.inr (some h))), none] [] (x_sr (x_si (x_si σ a1 (94 : Int32).toNatClampNeg 32) a3 (95 : Int32).toNatClampNeg 32) a5 30 s0)))) := rfl
set_option maxRecDepth 100000 in
set_option maxHeartbeats 1000000 in
/-- IModel.<init> -/
theorem e132_992 (O : Nat → List xV → xS → Option xR) (k : Nat → xF) (h : Nat) (σ : xS) : x_b O x_X0 x_TX (x_C 132) k 3000 (x_suf (x_C 132) 992) [some (.inr (.inr (some h))), none] [] σ =
  (bif Nat.blt (σ).1.length 900 then
  (x_ck (x_new σ 11 ((200 : Int32).toNatClampNeg)) h 10 <|
  (bif Nat.blt (x_sr (x_new σ 11 ((200 : Int32).toNatClampNeg)) h 31 (some (σ).1.length)).1.length 900 then
  (x_ck (x_new (x_sr (x_new σ 11 ((200 : Int32).toNatClampNeg)) h 31 (some (σ).1.length)) 11 ((200 : Int32).toNatClampNeg)) h 10 <|
  (bif Nat.blt (x_sr (x_new (x_sr (x_new σ 11 ((200 : Int32).toNatClampNeg)) h 31 (some (σ).1.length)) 11 ((200 : Int32).toNatClampNeg)) h 35 (some (x_sr (x_new σ 11 ((200 : Int32).toNatClampNeg)) h 31 (some (σ).1.length)).1.length)).1.length 900 then
  (x_ck (x_new (x_sr (x_new (x_sr (x_new σ 11 ((200 : Int32).toNatClampNeg)) h 31 (some (σ).1.length)) 11 ((200 : Int32).toNatClampNeg)) h 35 (some (x_sr (x_new σ 11 ((200 : Int32).toNatClampNeg)) h 31 (some (σ).1.length)).1.length)) 11 ((6 : Int32).toNatClampNeg)) h 10 <|
  k 1018 [some (.inr (.inr (some h))), none] [] (x_sr (x_new (x_sr (x_new (x_sr (x_new σ 11 ((200 : Int32).toNatClampNeg)) h 31 (some (σ).1.length)) 11 ((200 : Int32).toNatClampNeg)) h 35 (some (x_sr (x_new σ 11 ((200 : Int32).toNatClampNeg)) h 31 (some (σ).1.length)).1.length)) 11 ((6 : Int32).toNatClampNeg)) h 36 (some (x_sr (x_new (x_sr (x_new σ 11 ((200 : Int32).toNatClampNeg)) h 31 (some (σ).1.length)) 11 ((200 : Int32).toNatClampNeg)) h 35 (some (x_sr (x_new σ 11 ((200 : Int32).toNatClampNeg)) h 31 (some (σ).1.length)).1.length)).1.length))) else none)) else none)) else none) := rfl
set_option maxRecDepth 100000 in
set_option maxHeartbeats 1000000 in
/-- IModel.<init> -/
theorem e132_1018 (O : Nat → List xV → xS → Option xR) (k : Nat → xF) (h : Nat) (σ : xS) : x_b O x_X0 x_TX (x_C 132) k 3000 (x_suf (x_C 132) 1018) [some (.inr (.inr (some h))), none] [] σ =
  (bif Nat.blt (σ).1.length 900 then
  (x_ck (x_new σ 12 ((8 : Int32).toNatClampNeg)) h 10 <|
  (bif Nat.blt (x_sr (x_new σ 12 ((8 : Int32).toNatClampNeg)) h 37 (some (σ).1.length)).1.length 900 then
  (x_ck (x_new (x_sr (x_new σ 12 ((8 : Int32).toNatClampNeg)) h 37 (some (σ).1.length)) 11 ((5 : Int32).toNatClampNeg)) h 10 <|
  (bif Nat.blt (x_sr (x_new (x_sr (x_new σ 12 ((8 : Int32).toNatClampNeg)) h 37 (some (σ).1.length)) 11 ((5 : Int32).toNatClampNeg)) h 42 (some (x_sr (x_new σ 12 ((8 : Int32).toNatClampNeg)) h 37 (some (σ).1.length)).1.length)).1.length 900 then
  (x_ck (x_new (x_sr (x_new (x_sr (x_new σ 12 ((8 : Int32).toNatClampNeg)) h 37 (some (σ).1.length)) 11 ((5 : Int32).toNatClampNeg)) h 42 (some (x_sr (x_new σ 12 ((8 : Int32).toNatClampNeg)) h 37 (some (σ).1.length)).1.length)) 11 ((30 : Int32).toNatClampNeg)) h 10 <|
  k 1041 [some (.inr (.inr (some h))), none] [] (x_sr (x_new (x_sr (x_new (x_sr (x_new σ 12 ((8 : Int32).toNatClampNeg)) h 37 (some (σ).1.length)) 11 ((5 : Int32).toNatClampNeg)) h 42 (some (x_sr (x_new σ 12 ((8 : Int32).toNatClampNeg)) h 37 (some (σ).1.length)).1.length)) 11 ((30 : Int32).toNatClampNeg)) h 48 (some (x_sr (x_new (x_sr (x_new σ 12 ((8 : Int32).toNatClampNeg)) h 37 (some (σ).1.length)) 11 ((5 : Int32).toNatClampNeg)) h 42 (some (x_sr (x_new σ 12 ((8 : Int32).toNatClampNeg)) h 37 (some (σ).1.length)).1.length)).1.length))) else none)) else none)) else none) := rfl
set_option maxRecDepth 100000 in
set_option maxHeartbeats 1000000 in
/-- IModel.<init> -/
theorem e132_1041 (O : Nat → List xV → xS → Option xR) (k : Nat → xF) (h : Nat) (σ : xS) : x_b O x_X0 x_TX (x_C 132) k 3000 (x_suf (x_C 132) 1041) [some (.inr (.inr (some h))), none] [] σ =
  (bif Nat.blt (σ).1.length 900 then
  (x_ck (x_new σ 11 ((5 : Int32).toNatClampNeg)) h 10 <|
  k 1050 [some (.inr (.inr (some h))), some (.inl 0)] [] (x_sr (x_new σ 11 ((5 : Int32).toNatClampNeg)) h 49 (some (σ).1.length))) else none) := rfl
set_option maxRecDepth 100000 in
set_option maxHeartbeats 1000000 in
/-- IModel.<init> -/
theorem e132_1050 (O : Nat → List xV → xS → Option xR) (k : Nat → xF) (h : Nat) (i1 : Int32) (σ : xS) : x_b O x_X0 x_TX (x_C 132) k 3000 (x_suf (x_C 132) 1050) [some (.inr (.inr (some h))), some (.inl i1)] [] σ =
  (if 50 ≤ i1 then
    (x_ck σ h 10 <|
    k 1080 [some (.inr (.inr (some h))), none] [] (x_si σ h 9 50))
  else
    (x_ck σ h 10 <|
    (x_ck σ h 10 <|
    (x_der (x_Q σ h 25) fun a1 => x_ak σ a1 11 fun n2 => x_ix i1 n2 <|
    (x_der (x_Q σ h 8) fun a3 => x_ak σ a3 11 fun n4 => x_ix i1 n4 <|
    k 1050 [some (.inr (.inr (some h))), some (.inl (i1 + 1))] [] (x_si σ a3 (i1).toNatClampNeg (x_I σ a1 (i1).toNatClampNeg))))))) := rfl
set_option maxRecDepth 100000 in
set_option maxHeartbeats 1000000 in
/-- IModel.<init> -/
theorem e132_1080 (O : Nat → List xV → xS → Option xR) (k : Nat → xF) (h : Nat) (σ : xS) : x_b O x_X0 x_TX (x_C 132) k 3000 (x_suf (x_C 132) 1080) [some (.inr (.inr (some h))), none] [] σ =
  (x_ck σ h 10 <|
  x_ci (O 150 [.inr (.inr (some h))] σ) fun x2 σ1 =>
  (some (none, σ1))) := rfl
set_option maxRecDepth 100000 in
set_option maxHeartbeats 1000000 in
/-- IModel.in -/
theorem e133_0 (O : Nat → List xV → xS → Option xR) (k : Nat → xF) (i0 : Int32) (i1 : Int32) (i2 : Int32) (σ : xS) : x_b O x_X0 x_TX (x_C 133) k 3000 (x_suf (x_C 133) 0) [some (.inl i0), some (.inl i1), some (.inl i2)] [] σ =
  (if i0 < i1 then
    (some (some (.inl 0), σ))
  else
    (if i2 < i0 then
      (some (some (.inl 0), σ))
    else
      (some (some (.inl 1), σ)))) := rfl
set_option maxRecDepth 100000 in
set_option maxHeartbeats 1000000 in
/-- IModel.within -/
theorem e134_0 (O : Nat → List xV → xS → Option xR) (k : Nat → xF) (i0 : Int32) (i1 : Int32) (i2 : Int32) (σ : xS) : x_b O x_X0 x_TX (x_C 134) k 3000 (x_suf (x_C 134) 0) [some (.inl i0), some (.inl i1), some (.inl i2)] [] σ =
  (if i1 ≤ i0 then
    (if i0 ≤ i2 then
      (some (some (.inl i0), σ))
    else
      (some (some (.inl i2), σ)))
  else
    (some (some (.inl i1), σ))) := rfl
set_option maxRecDepth 100000 in
set_option maxHeartbeats 1000000 in
/-- IModel.isLife -/
theorem e135_0 (O : Nat → List xV → xS → Option xR) (k : Nat → xF) (h : Nat) (i1 : Int32) (σ : xS) : x_b O x_X0 x_TX (x_C 135) k 3000 (x_suf (x_C 135) 0) [some (.inr (.inr (some h))), some (.inl i1)] [] σ =
  (x_ck σ h 10 <|
  (x_ci (O 133 [.inl i1, .inl 0, .inl ((x_I σ h 0) - 1)] σ) fun x2 σ1 =>
  (x_bl x2 <| some (some (.inl x2), σ1)))) := rfl
set_option maxRecDepth 100000 in
set_option maxHeartbeats 1000000 in
/-- IModel.count -/
theorem e136_0 (O : Nat → List xV → xS → Option xR) (k : Nat → xF) (h : Nat) (i1 : Int32) (σ : xS) : x_b O x_X0 x_TX (x_C 136) k 3000 (x_suf (x_C 136) 0) [some (.inr (.inr (some h))), some (.inl i1)] [] σ =
  (if i1 = 0 then
    (x_ck σ h 10 <|
    (some (some (.inl (x_I σ h 0)), σ)))
  else
    (if i1 = 1 then
    (x_ck σ h 10 <|
    (some (some (.inl (x_I σ h 4)), σ)))
  else
    (if i1 = 2 then
    (x_ck σ h 10 <|
    (some (some (.inl (x_I σ h 5)), σ)))
  else
    (if i1 = 3 then
    (x_ck σ h 10 <|
    (some (some (.inl (x_I σ h 6)), σ)))
  else
    (if i1 = 4 then
    (x_ck σ h 10 <|
    (some (some (.inl (x_I σ h 7)), σ)))
  else
    (if i1 = 5 then
    (x_ck σ h 10 <|
    (some (some (.inl (x_I σ h 12)), σ)))
  else
    (if i1 = 6 then
    (x_ck σ h 10 <|
    (some (some (.inl (x_I σ h 13)), σ)))
  else
    (if i1 = 7 then
    (x_ck σ h 10 <|
    (some (some (.inl (x_I σ h 9)), σ)))
  else
    (some (some (.inl (-2)), σ)))))))))) := rfl
set_option maxRecDepth 100000 in
set_option maxHeartbeats 1000000 in
/-- IModel.set -/
theorem e137_0 (O : Nat → List xV → xS → Option xR) (k : Nat → xF) (h : Nat) (i1 : Int32) (i2 : Int32) (σ : xS) : x_b O x_X0 x_TX (x_C 137) k 3000 (x_suf (x_C 137) 0) [some (.inr (.inr (some h))), some (.inl i1), some (.inl i2), none] [] σ =
  (x_ci (O 133 [.inl i1, .inl 0, .inl 1] σ) fun x2 σ1 =>
  (if x2 = 0 then
    (some (some (.inl (-5)), σ1))
  else
    (x_ci (O 133 [.inl i2, .inl 0, .inl 99999] σ1) fun x4 σ3 =>
    (if x4 = 0 then
      (some (some (.inl (-7)), σ3))
    else
      (if i1 = 0 then
        (x_ck σ3 h 10 <|
        (if i1 = 0 then
          k 54 [some (.inr (.inr (some h))), some (.inl i1), some (.inl i2), some (.inl (x_I σ3 h 6))] [.inl i2, .inr (.inr (some h))] σ3
        else
          (x_ck σ3 h 10 <|
          k 54 [some (.inr (.inr (some h))), some (.inl i1), some (.inl i2), some (.inl (x_I σ3 h 6))] [.inl (x_I σ3 h 6), .inr (.inr (some h))] σ3)))
      else
        (x_ck σ3 h 10 <|
        (if i1 = 0 then
          k 54 [some (.inr (.inr (some h))), some (.inl i1), some (.inl i2), some (.inl (x_I σ3 h 7))] [.inl i2, .inr (.inr (some h))] σ3
        else
          (x_ck σ3 h 10 <|
          k 54 [some (.inr (.inr (some h))), some (.inl i1), some (.inl i2), some (.inl (x_I σ3 h 7))] [.inl (x_I σ3 h 6), .inr (.inr (some h))] σ3)))))))) := rfl
set_option maxRecDepth 100000 in
set_option maxHeartbeats 1000000 in
/-- IModel.set -/
theorem e137_54 (O : Nat → List xV → xS → Option xR) (k : Nat → xF) (h : Nat) (i1 : Int32) (i2 : Int32) (i3 : Int32) (s0 : Int32) (s1 : Option Nat) (σ : xS) : x_b O x_X0 x_TX (x_C 137) k 3000 (x_suf (x_C 137) 54) [some (.inr (.inr (some h))), some (.inl i1), some (.inl i2), some (.inl i3)] [.inl s0, .inr (.inr s1)] σ =
  (x_der s1 fun a1 => x_ck σ a1 10 <|
  (if i1 = 1 then
    (x_ck (x_si σ a1 6 s0) h 10 <|
    (some (some (.inl i3), x_si (x_si σ a1 6 s0) h 7 i2)))
  else
    (x_ck (x_si σ a1 6 s0) h 10 <|
    (x_ck (x_si σ a1 6 s0) h 10 <|
    (some (some (.inl i3), x_si (x_si σ a1 6 s0) h 7 (x_I (x_si σ a1 6 s0) h 7))))))) := rfl
set_option maxRecDepth 100000 in
set_option maxHeartbeats 1000000 in
/-- IModel.isByte -/
theorem e138_0 (O : Nat → List xV → xS → Option xR) (k : Nat → xF) (i0 : Int32) (σ : xS) : x_b O x_X0 x_TX (x_C 138) k 3000 (x_suf (x_C 138) 0) [some (.inl i0)] [] σ =
  (x_ci (O 133 [.inl i0, .inl 0, .inl 255] σ) fun x2 σ1 =>
  (x_bl x2 <| some (some (.inl x2), σ1))) := rfl
set_option maxRecDepth 100000 in
set_option maxHeartbeats 1000000 in
/-- IModel.feed -/
theorem e139_0 (O : Nat → List xV → xS → Option xR) (k : Nat → xF) (h : Nat) (i1 : Int32) (i2 : Int32) (i3 : Int32) (i4 : Int32) (i5 : Int32) (i6 : Int32) (σ : xS) : x_b O x_X0 x_TX (x_C 139) k 3000 (x_suf (x_C 139) 0) [some (.inr (.inr (some h))), some (.inl i1), some (.inl i2), some (.inl i3), some (.inl i4), some (.inl i5), some (.inl i6), none] [] σ =
  (x_ci (O 133 [.inl i1, .inl 1, .inl 5] σ) fun x2 σ1 =>
  (if x2 = 0 then
    (some (some (.inl (-2)), σ1))
  else
    (x_ci (O 138 [.inl i2] σ1) fun x4 σ3 =>
    (if x4 = 0 then
      (some (some (.inl (-2)), σ3))
    else
      (x_ci (O 138 [.inl i3] σ3) fun x6 σ5 =>
      (if x6 = 0 then
        (some (some (.inl (-2)), σ5))
      else
        (x_ci (O 138 [.inl i4] σ5) fun x8 σ7 =>
        (if x8 = 0 then
          (some (some (.inl (-2)), σ7))
        else
          (x_ci (O 138 [.inl i5] σ7) fun x10 σ9 =>
          (if x10 = 0 then
            (some (some (.inl (-2)), σ9))
          else
            (x_ci (O 138 [.inl i6] σ9) fun x12 σ11 =>
            (if x12 = 0 then
              (some (some (.inl (-2)), σ11))
            else
              (x_ck σ11 h 10 <|
              (if ((x_I σ11 h 9) + i1) ≤ 160 then
                k 68 [some (.inr (.inr (some h))), some (.inl i1), some (.inl i2), some (.inl i3), some (.inl i4), some (.inl i5), some (.inl i6), some (.inl 0)] [] σ11
              else
                (some (some (.inl (-4)), σ11)))))))))))))))) := rfl
set_option maxRecDepth 100000 in
set_option maxHeartbeats 1000000 in
/-- IModel.feed -/
theorem e139_68 (O : Nat → List xV → xS → Option xR) (k : Nat → xF) (h : Nat) (i1 : Int32) (i2 : Int32) (i3 : Int32) (i4 : Int32) (i5 : Int32) (i6 : Int32) (i7 : Int32) (σ : xS) : x_b O x_X0 x_TX (x_C 139) k 3000 (x_suf (x_C 139) 68) [some (.inr (.inr (some h))), some (.inl i1), some (.inl i2), some (.inl i3), some (.inl i4), some (.inl i5), some (.inl i6), some (.inl i7)] [] σ =
  (if i1 ≤ i7 then
    (x_ck σ h 10 <|
    (some (some (.inl (x_I σ h 9)), σ)))
  else
    (x_ck σ h 10 <|
    (x_ck σ h 10 <|
    (if i7 = 0 then
      (x_der (x_Q σ h 8) fun a9 => x_ak σ a9 11 fun n10 => x_ix (x_I σ h 9) n10 <|
      (x_ck (x_si σ a9 (x_I σ h 9).toNatClampNeg i2) h 10 <|
      (x_ck (x_si σ a9 (x_I σ h 9).toNatClampNeg i2) h 10 <|
      k 68 [some (.inr (.inr (some h))), some (.inl i1), some (.inl i2), some (.inl i3), some (.inl i4), some (.inl i5), some (.inl i6), some (.inl (i7 + 1))] [] (x_si (x_si σ a9 (x_I σ h 9).toNatClampNeg i2) h 9 ((x_I (x_si σ a9 (x_I σ h 9).toNatClampNeg i2) h 9) + 1)))))
    else
      (if i7 = 1 then
        (x_der (x_Q σ h 8) fun a7 => x_ak σ a7 11 fun n8 => x_ix (x_I σ h 9) n8 <|
        (x_ck (x_si σ a7 (x_I σ h 9).toNatClampNeg i3) h 10 <|
        (x_ck (x_si σ a7 (x_I σ h 9).toNatClampNeg i3) h 10 <|
        k 68 [some (.inr (.inr (some h))), some (.inl i1), some (.inl i2), some (.inl i3), some (.inl i4), some (.inl i5), some (.inl i6), some (.inl (i7 + 1))] [] (x_si (x_si σ a7 (x_I σ h 9).toNatClampNeg i3) h 9 ((x_I (x_si σ a7 (x_I σ h 9).toNatClampNeg i3) h 9) + 1)))))
      else
        (if i7 = 2 then
          (x_der (x_Q σ h 8) fun a5 => x_ak σ a5 11 fun n6 => x_ix (x_I σ h 9) n6 <|
          (x_ck (x_si σ a5 (x_I σ h 9).toNatClampNeg i4) h 10 <|
          (x_ck (x_si σ a5 (x_I σ h 9).toNatClampNeg i4) h 10 <|
          k 68 [some (.inr (.inr (some h))), some (.inl i1), some (.inl i2), some (.inl i3), some (.inl i4), some (.inl i5), some (.inl i6), some (.inl (i7 + 1))] [] (x_si (x_si σ a5 (x_I σ h 9).toNatClampNeg i4) h 9 ((x_I (x_si σ a5 (x_I σ h 9).toNatClampNeg i4) h 9) + 1)))))
        else
          (if i7 = 3 then
            (x_der (x_Q σ h 8) fun a3 => x_ak σ a3 11 fun n4 => x_ix (x_I σ h 9) n4 <|
            (x_ck (x_si σ a3 (x_I σ h 9).toNatClampNeg i5) h 10 <|
            (x_ck (x_si σ a3 (x_I σ h 9).toNatClampNeg i5) h 10 <|
            k 68 [some (.inr (.inr (some h))), some (.inl i1), some (.inl i2), some (.inl i3), some (.inl i4), some (.inl i5), some (.inl i6), some (.inl (i7 + 1))] [] (x_si (x_si σ a3 (x_I σ h 9).toNatClampNeg i5) h 9 ((x_I (x_si σ a3 (x_I σ h 9).toNatClampNeg i5) h 9) + 1)))))
          else
            (x_der (x_Q σ h 8) fun a1 => x_ak σ a1 11 fun n2 => x_ix (x_I σ h 9) n2 <|
            (x_ck (x_si σ a1 (x_I σ h 9).toNatClampNeg i6) h 10 <|
            (x_ck (x_si σ a1 (x_I σ h 9).toNatClampNeg i6) h 10 <|
            k 68 [some (.inr (.inr (some h))), some (.inl i1), some (.inl i2), some (.inl i3), some (.inl i4), some (.inl i5), some (.inl i6), some (.inl (i7 + 1))] [] (x_si (x_si σ a1 (x_I σ h 9).toNatClampNeg i6) h 9 ((x_I (x_si σ a1 (x_I σ h 9).toNatClampNeg i6) h 9) + 1)))))))))))) := rfl
set_option maxRecDepth 100000 in
set_option maxHeartbeats 1000000 in
/-- IModel.wordFrom -/
theorem e140_0 (O : Nat → List xV → xS → Option xR) (k : Nat → xF) (h : Nat) (i1 : Int32) (i2 : Int32) (σ : xS) : x_b O x_X0 x_TX (x_C 140) k 3000 (x_suf (x_C 140) 0) [some (.inr (.inr (some h))), some (.inl i1), some (.inl i2), none, none, none] [] σ =
  k 2 [some (.inr (.inr (some h))), some (.inl i1), some (.inl i2), some (.inl 0), none, none] [] σ := rfl
set_option maxRecDepth 100000 in
set_option maxHeartbeats 1000000 in
/-- IModel.wordFrom -/
theorem e140_2 (O : Nat → List xV → xS → Option xR) (k : Nat → xF) (h : Nat) (i1 : Int32) (i2 : Int32) (i3 : Int32) (σ : xS) : x_b O x_X0 x_TX (x_C 140) k 3000 (x_suf (x_C 140) 2) [some (.inr (.inr (some h))), some (.inl i1), some (.inl i2), some (.inl i3), none, none] [] σ =
  (if 12 ≤ i3 then
    (some (some (.inl 12), σ))
  else
    (if 8 < (i2 - i1) then
      k 26 [some (.inr (.inr (some h))), some (.inl i1), some (.inl i2), some (.inl i3), some (.inl 0), some (.inl 0)] [] σ
    else
      k 26 [some (.inr (.inr (some h))), some (.inl i1), some (.inl i2), some (.inl i3), some (.inl 1), some (.inl 0)] [] σ)) := rfl
set_option maxRecDepth 100000 in
set_option maxHeartbeats 1000000 in
/-- IModel.wordFrom -/
theorem e140_26 (O : Nat → List xV → xS → Option xR) (k : Nat → xF) (h : Nat) (i1 : Int32) (i2 : Int32) (i3 : Int32) (i4 : Int32) (i5 : Int32) (σ : xS) : x_b O x_X0 x_TX (x_C 140) k 3000 (x_suf (x_C 140) 26) [some (.inr (.inr (some h))), some (.inl i1), some (.inl i2), some (.inl i3), some (.inl i4), some (.inl i5)] [] σ =
  (if 8 ≤ i5 then
    (if i4 = 0 then
      k 2 [some (.inr (.inr (some h))), some (.inl i1), some (.inl i2), some (.inl (i3 + 1)), none, none] [] σ
    else
      (some (some (.inl i3), σ)))
  else
    (if i4 = 0 then
      (if i4 = 0 then
        k 2 [some (.inr (.inr (some h))), some (.inl i1), some (.inl i2), some (.inl (i3 + 1)), none, none] [] σ
      else
        (some (some (.inl i3), σ)))
    else
      (x_ck σ h 10 <|
      (x_der (x_Q σ h 30) fun a1 => x_ak σ a1 11 fun n2 => x_ix ((8 * i3) + i5) n2 <|
      (if i2 ≤ (i1 + i5) then
        (if (x_I σ a1 ((8 * i3) + i5).toNatClampNeg) = 32 then
          k 26 [some (.inr (.inr (some h))), some (.inl i1), some (.inl i2), some (.inl i3), some (.inl 1), some (.inl (i5 + 1))] [] σ
        else
          k 26 [some (.inr (.inr (some h))), some (.inl i1), some (.inl i2), some (.inl i3), some (.inl 0), some (.inl (i5 + 1))] [] σ)
      else
        (x_ck σ h 10 <|
        (x_der (x_Q σ h 8) fun a3 => x_ak σ a3 11 fun n4 => x_ix (i1 + i5) n4 <|
        (if (x_I σ a1 ((8 * i3) + i5).toNatClampNeg) = (x_I σ a3 (i1 + i5).toNatClampNeg) then
          k 26 [some (.inr (.inr (some h))), some (.inl i1), some (.inl i2), some (.inl i3), some (.inl 1), some (.inl (i5 + 1))] [] σ
        else
          k 26 [some (.inr (.inr (some h))), some (.inl i1), some (.inl i2), some (.inl i3), some (.inl 0), some (.inl (i5 + 1))] [] σ)))))))) := rfl
set_option maxRecDepth 100000 in
set_option maxHeartbeats 1000000 in
/-- IModel.next -/
theorem e141_0 (O : Nat → List xV → xS → Option xR) (k : Nat → xF) (h : Nat) (σ : xS) : x_b O x_X0 x_TX (x_C 141) k 3000 (x_suf (x_C 141) 0) [some (.inr (.inr (some h))), none, none] [] σ =
  (x_ck σ h 10 <|
  (x_ck σ h 10 <|
  (if (x_I σ h 9) ≤ (x_I σ h 26) then
    k 52 [some (.inr (.inr (some h))), none, none] [] σ
  else
    (x_ck σ h 10 <|
    (x_ck σ h 10 <|
    (x_der (x_Q σ h 8) fun a1 => x_ak σ a1 11 fun n2 => x_ix (x_I σ h 26) n2 <|
    (if (x_I σ a1 (x_I σ h 26).toNatClampNeg) = 32 then
      (x_ck σ h 10 <|
      (x_ck σ h 10 <|
      k 0 [some (.inr (.inr (some h))), none, none] [] (x_si σ h 26 ((x_I σ h 26) + 1))))
    else
      (x_ck σ h 10 <|
      (x_ck σ h 10 <|
      (x_der (x_Q σ h 8) fun a3 => x_ak σ a3 11 fun n4 => x_ix (x_I σ h 26) n4 <|
      (if (x_I σ a3 (x_I σ h 26).toNatClampNeg) = 10 then
        (x_ck σ h 10 <|
        (x_ck σ h 10 <|
        k 0 [some (.inr (.inr (some h))), none, none] [] (x_si σ h 26 ((x_I σ h 26) + 1))))
      else
        k 52 [some (.inr (.inr (some h))), none, none] [] σ))))))))))) := rfl
set_option maxRecDepth 100000 in
set_option maxHeartbeats 1000000 in
/-- IModel.next -/
theorem e141_52 (O : Nat → List xV → xS → Option xR) (k : Nat → xF) (h : Nat) (σ : xS) : x_b O x_X0 x_TX (x_C 141) k 3000 (x_suf (x_C 141) 52) [some (.inr (.inr (some h))), none, none] [] σ =
  (x_ck σ h 10 <|
  (x_ck σ h 10 <|
  (x_ck (x_si σ h 27 (x_I σ h 26)) h 10 <|
  (x_ck (x_si (x_si σ h 27 (x_I σ h 26)) h 28 0) h 10 <|
  (x_ck (x_si (x_si (x_si σ h 27 (x_I σ h 26)) h 28 0) h 29 0) h 10 <|
  (x_ck (x_si (x_si (x_si σ h 27 (x_I σ h 26)) h 28 0) h 29 0) h 10 <|
  (if (x_I (x_si (x_si (x_si σ h 27 (x_I σ h 26)) h 28 0) h 29 0) h 26) = (x_I (x_si (x_si (x_si σ h 27 (x_I σ h 26)) h 28 0) h 29 0) h 9) then
    (some (none, x_si (x_si (x_si σ h 27 (x_I σ h 26)) h 28 0) h 29 0))
  else
    (x_ck (x_si (x_si (x_si σ h 27 (x_I σ h 26)) h 28 0) h 29 0) h 10 <|
    (x_ck (x_si (x_si (x_si σ h 27 (x_I σ h 26)) h 28 0) h 29 0) h 10 <|
    (x_der (x_Q (x_si (x_si (x_si σ h 27 (x_I σ h 26)) h 28 0) h 29 0) h 8) fun a1 => x_ak (x_si (x_si (x_si σ h 27 (x_I σ h 26)) h 28 0) h 29 0) a1 11 fun n2 => x_ix (x_I (x_si (x_si (x_si σ h 27 (x_I σ h 26)) h 28 0) h 29 0) h 26) n2 <|
    (x_ci (O 133 [.inl (x_I (x_si (x_si (x_si σ h 27 (x_I σ h 26)) h 28 0) h 29 0) a1 (x_I (x_si (x_si (x_si σ h 27 (x_I σ h 26)) h 28 0) h 29 0) h 26).toNatClampNeg), .inl 97, .inl 122] (x_si (x_si (x_si σ h 27 (x_I σ h 26)) h 28 0) h 29 0)) fun x4 σ3 =>
    (if x4 = 0 then
      (x_ci (O 133 [.inl (x_I (x_si (x_si (x_si σ h 27 (x_I σ h 26)) h 28 0) h 29 0) a1 (x_I (x_si (x_si (x_si σ h 27 (x_I σ h 26)) h 28 0) h 29 0) h 26).toNatClampNeg), .inl 48, .inl 57] σ3) fun x6 σ5 =>
      (if x6 = 0 then
        (if (x_I (x_si (x_si (x_si σ h 27 (x_I σ h 26)) h 28 0) h 29 0) a1 (x_I (x_si (x_si (x_si σ h 27 (x_I σ h 26)) h 28 0) h 29 0) h 26).toNatClampNeg) = 40 then
          k 379 [some (.inr (.inr (some h))), some (.inl (x_I (x_si (x_si (x_si σ h 27 (x_I σ h 26)) h 28 0) h 29 0) a1 (x_I (x_si (x_si (x_si σ h 27 (x_I σ h 26)) h 28 0) h 29 0) h 26).toNatClampNeg)), none] [.inl 1] σ5
        else
          (if (x_I (x_si (x_si (x_si σ h 27 (x_I σ h 26)) h 28 0) h 29 0) a1 (x_I (x_si (x_si (x_si σ h 27 (x_I σ h 26)) h 28 0) h 29 0) h 26).toNatClampNeg) = 41 then
            k 379 [some (.inr (.inr (some h))), some (.inl (x_I (x_si (x_si (x_si σ h 27 (x_I σ h 26)) h 28 0) h 29 0) a1 (x_I (x_si (x_si (x_si σ h 27 (x_I σ h 26)) h 28 0) h 29 0) h 26).toNatClampNeg)), none] [.inl 1] σ5
          else
            (if (x_I (x_si (x_si (x_si σ h 27 (x_I σ h 26)) h 28 0) h 29 0) a1 (x_I (x_si (x_si (x_si σ h 27 (x_I σ h 26)) h 28 0) h 29 0) h 26).toNatClampNeg) = 59 then
              k 379 [some (.inr (.inr (some h))), some (.inl (x_I (x_si (x_si (x_si σ h 27 (x_I σ h 26)) h 28 0) h 29 0) a1 (x_I (x_si (x_si (x_si σ h 27 (x_I σ h 26)) h 28 0) h 29 0) h 26).toNatClampNeg)), none] [.inl 1] σ5
            else
              (if (x_I (x_si (x_si (x_si σ h 27 (x_I σ h 26)) h 28 0) h 29 0) a1 (x_I (x_si (x_si (x_si σ h 27 (x_I σ h 26)) h 28 0) h 29 0) h 26).toNatClampNeg) = 43 then
                k 379 [some (.inr (.inr (some h))), some (.inl (x_I (x_si (x_si (x_si σ h 27 (x_I σ h 26)) h 28 0) h 29 0) a1 (x_I (x_si (x_si (x_si σ h 27 (x_I σ h 26)) h 28 0) h 29 0) h 26).toNatClampNeg)), none] [.inl 1] σ5
              else
                (if (x_I (x_si (x_si (x_si σ h 27 (x_I σ h 26)) h 28 0) h 29 0) a1 (x_I (x_si (x_si (x_si σ h 27 (x_I σ h 26)) h 28 0) h 29 0) h 26).toNatClampNeg) = 45 then
                  k 379 [some (.inr (.inr (some h))), some (.inl (x_I (x_si (x_si (x_si σ h 27 (x_I σ h 26)) h 28 0) h 29 0) a1 (x_I (x_si (x_si (x_si σ h 27 (x_I σ h 26)) h 28 0) h 29 0) h 26).toNatClampNeg)), none] [.inl 1] σ5
                else
                  (if (x_I (x_si (x_si (x_si σ h 27 (x_I σ h 26)) h 28 0) h 29 0) a1 (x_I (x_si (x_si (x_si σ h 27 (x_I σ h 26)) h 28 0) h 29 0) h 26).toNatClampNeg) = 42 then
                    k 379 [some (.inr (.inr (some h))), some (.inl (x_I (x_si (x_si (x_si σ h 27 (x_I σ h 26)) h 28 0) h 29 0) a1 (x_I (x_si (x_si (x_si σ h 27 (x_I σ h 26)) h 28 0) h 29 0) h 26).toNatClampNeg)), none] [.inl 1] σ5
                  else
                    (if (x_I (x_si (x_si (x_si σ h 27 (x_I σ h 26)) h 28 0) h 29 0) a1 (x_I (x_si (x_si (x_si σ h 27 (x_I σ h 26)) h 28 0) h 29 0) h 26).toNatClampNeg) = 60 then
                      k 379 [some (.inr (.inr (some h))), some (.inl (x_I (x_si (x_si (x_si σ h 27 (x_I σ h 26)) h 28 0) h 29 0) a1 (x_I (x_si (x_si (x_si σ h 27 (x_I σ h 26)) h 28 0) h 29 0) h 26).toNatClampNeg)), none] [.inl 1] σ5
                    else
                      (if (x_I (x_si (x_si (x_si σ h 27 (x_I σ h 26)) h 28 0) h 29 0) a1 (x_I (x_si (x_si (x_si σ h 27 (x_I σ h 26)) h 28 0) h 29 0) h 26).toNatClampNeg) = 61 then
                        k 379 [some (.inr (.inr (some h))), some (.inl (x_I (x_si (x_si (x_si σ h 27 (x_I σ h 26)) h 28 0) h 29 0) a1 (x_I (x_si (x_si (x_si σ h 27 (x_I σ h 26)) h 28 0) h 29 0) h 26).toNatClampNeg)), none] [.inl 1] σ5
                      else
                        k 379 [some (.inr (.inr (some h))), some (.inl (x_I (x_si (x_si (x_si σ h 27 (x_I σ h 26)) h 28 0) h 29 0) a1 (x_I (x_si (x_si (x_si σ h 27 (x_I σ h 26)) h 28 0) h 29 0) h 26).toNatClampNeg)), none] [.inl 0] σ5))))))))
      else
        k 230 [some (.inr (.inr (some h))), none, some (.inl 0)] [] σ5))
    else
      k 103 [some (.inr (.inr (some h))), none, none] [] σ3)))))))))))) := rfl
set_option maxRecDepth 100000 in
set_option maxHeartbeats 1000000 in
/-- IModel.next -/
theorem e141_103 (O : Nat → List xV → xS → Option xR) (k : Nat → xF) (h : Nat) (σ : xS) : x_b O x_X0 x_TX (x_C 141) k 3000 (x_suf (x_C 141) 103) [some (.inr (.inr (some h))), none, none] [] σ =
  (x_ck σ h 10 <|
  (x_ck σ h 10 <|
  (if (x_I σ h 9) ≤ (x_I σ h 26) then
    k 146 [some (.inr (.inr (some h))), none, none] [] σ
  else
    (x_ck σ h 10 <|
    (x_ck σ h 10 <|
    (x_der (x_Q σ h 8) fun a1 => x_ak σ a1 11 fun n2 => x_ix (x_I σ h 26) n2 <|
    (x_ci (O 133 [.inl (x_I σ a1 (x_I σ h 26).toNatClampNeg), .inl 97, .inl 122] σ) fun x4 σ3 =>
    (if x4 = 0 then
      k 146 [some (.inr (.inr (some h))), none, none] [] σ3
    else
      (x_ck σ3 h 10 <|
      (x_ck σ3 h 10 <|
      k 103 [some (.inr (.inr (some h))), none, none] [] (x_si σ3 h 26 ((x_I σ3 h 26) + 1)))))))))))) := rfl
set_option maxRecDepth 100000 in
set_option maxHeartbeats 1000000 in
/-- IModel.next -/
theorem e141_146 (O : Nat → List xV → xS → Option xR) (k : Nat → xF) (h : Nat) (σ : xS) : x_b O x_X0 x_TX (x_C 141) k 3000 (x_suf (x_C 141) 146) [some (.inr (.inr (some h))), none, none] [] σ =
  (x_ck σ h 10 <|
  (x_ck σ h 10 <|
  (x_ck σ h 10 <|
  x_ci (O 140 [.inr (.inr (some h)), .inl (x_I σ h 27), .inl (x_I σ h 26)] σ) fun x2 σ1 =>
  (if 3 ≤ x2 then
    (if 9 ≤ x2 then
      (if x2 = 12 then
        k 195 [some (.inr (.inr (some h))), none, some (.inl x2)] [.inl (-1), .inr (.inr (some h))] σ1
      else
        k 195 [some (.inr (.inr (some h))), none, some (.inl x2)] [.inl ((4 + x2) - 9), .inr (.inr (some h))] σ1)
    else
      k 195 [some (.inr (.inr (some h))), none, some (.inl x2)] [.inl 2, .inr (.inr (some h))] σ1)
  else
    k 195 [some (.inr (.inr (some h))), none, some (.inl x2)] [.inl 3, .inr (.inr (some h))] σ1)))) := rfl
set_option maxRecDepth 100000 in
set_option maxHeartbeats 1000000 in
/-- IModel.next -/
theorem e141_195 (O : Nat → List xV → xS → Option xR) (k : Nat → xF) (h : Nat) (i2 : Int32) (s0 : Int32) (s1 : Option Nat) (σ : xS) : x_b O x_X0 x_TX (x_C 141) k 3000 (x_suf (x_C 141) 195) [some (.inr (.inr (some h))), none, some (.inl i2)] [.inl s0, .inr (.inr s1)] σ =
  (x_der s1 fun a1 => x_ck σ a1 10 <|
  (if 3 ≤ i2 then
    (x_ck (x_si σ a1 28 s0) h 10 <|
    (some (none, x_si (x_si σ a1 28 s0) h 29 (i2 - 3))))
  else
    (x_ck (x_si σ a1 28 s0) h 10 <|
    (some (none, x_si (x_si σ a1 28 s0) h 29 i2))))) := rfl
set_option maxRecDepth 100000 in
set_option maxHeartbeats 1000000 in
/-- IModel.next -/
theorem e141_230 (O : Nat → List xV → xS → Option xR) (k : Nat → xF) (h : Nat) (i2 : Int32) (σ : xS) : x_b O x_X0 x_TX (x_C 141) k 3000 (x_suf (x_C 141) 230) [some (.inr (.inr (some h))), none, some (.inl i2)] [] σ =
  (x_ck σ h 10 <|
  (x_ck σ h 10 <|
  (if (x_I σ h 9) ≤ (x_I σ h 26) then
    (if i2 ≤ 4 then
      (x_ck σ h 10 <|
      (some (none, x_si σ h 28 1)))
    else
      (x_ck σ h 10 <|
      (some (none, x_si σ h 28 (-1)))))
  else
    (x_ck σ h 10 <|
    (x_ck σ h 10 <|
    (x_der (x_Q σ h 8) fun a1 => x_ak σ a1 11 fun n2 => x_ix (x_I σ h 26) n2 <|
    (x_ci (O 133 [.inl (x_I σ a1 (x_I σ h 26).toNatClampNeg), .inl 48, .inl 57] σ) fun x4 σ3 =>
    (if x4 = 0 then
      (if i2 ≤ 4 then
        (x_ck σ3 h 10 <|
        (some (none, x_si σ3 h 28 1)))
      else
        (x_ck σ3 h 10 <|
        (some (none, x_si σ3 h 28 (-1)))))
    else
      (if 4 ≤ i2 then
        (x_ck σ3 h 10 <|
        (x_ck (x_si σ3 h 29 0) h 10 <|
        (x_ck (x_si σ3 h 29 0) h 10 <|
        k 230 [some (.inr (.inr (some h))), none, some (.inl (i2 + 1))] [] (x_si (x_si σ3 h 29 0) h 26 ((x_I (x_si σ3 h 29 0) h 26) + 1)))))
      else
        (x_ck σ3 h 10 <|
        (x_ck σ3 h 10 <|
        (x_ck σ3 h 10 <|
        (x_der (x_Q σ3 h 8) fun a5 => x_ak σ3 a5 11 fun n6 => x_ix (x_I σ3 h 26) n6 <|
        (x_ck σ3 h 10 <|
        (x_ck (x_si σ3 h 29 (((10 * (x_I σ3 h 29)) + (x_I σ3 a5 (x_I σ3 h 26).toNatClampNeg)) - 48)) h 10 <|
        (x_ck (x_si σ3 h 29 (((10 * (x_I σ3 h 29)) + (x_I σ3 a5 (x_I σ3 h 26).toNatClampNeg)) - 48)) h 10 <|
        k 230 [some (.inr (.inr (some h))), none, some (.inl (i2 + 1))] [] (x_si (x_si σ3 h 29 (((10 * (x_I σ3 h 29)) + (x_I σ3 a5 (x_I σ3 h 26).toNatClampNeg)) - 48)) h 26 ((x_I (x_si σ3 h 29 (((10 * (x_I σ3 h 29)) + (x_I σ3 a5 (x_I σ3 h 26).toNatClampNeg)) - 48)) h 26) + 1)))))))))))))))))) := rfl
set_option maxRecDepth 100000 in
set_option maxHeartbeats 1000000 in
/-- IModel.next -/
theorem e141_379 (O : Nat → List xV → xS → Option xR) (k : Nat → xF) (h : Nat) (i1 : Int32) (s0 : Int32) (σ : xS) : x_b O x_X0 x_TX (x_C 141) k 3000 (x_suf (x_C 141) 379) [some (.inr (.inr (some h))), some (.inl i1), none] [.inl s0] σ =
  (if s0 = 0 then
    (x_ck σ h 10 <|
    (x_ck (x_si σ h 28 (-1)) h 10 <|
    (x_ck (x_si σ h 28 (-1)) h 10 <|
    (some (none, x_si (x_si σ h 28 (-1)) h 26 ((x_I (x_si σ h 28 (-1)) h 26) + 1))))))
  else
    (x_ck σ h 10 <|
    (x_ck (x_si σ h 28 i1) h 10 <|
    (x_ck (x_si σ h 28 i1) h 10 <|
    (some (none, x_si (x_si σ h 28 i1) h 26 ((x_I (x_si σ h 28 i1) h 26) + 1))))))) := rfl
set_option maxRecDepth 100000 in
set_option maxHeartbeats 1000000 in
/-- IModel.rank -/
theorem e142_0 (O : Nat → List xV → xS → Option xR) (k : Nat → xF) (i0 : Int32) (σ : xS) : x_b O x_X0 x_TX (x_C 142) k 3000 (x_suf (x_C 142) 0) [some (.inl i0)] [] σ =
  (if i0 = 0 then
    (some (some (.inl 0), σ))
  else
    (if i0 = 11 then
      (some (some (.inl 1), σ))
    else
      (if i0 = 12 then
        (some (some (.inl 2), σ))
      else
        (if i0 = 13 then
          (some (some (.inl 3), σ))
        else
          (if 15 < i0 then
            (if 17 < i0 then
              (if i0 = 18 then
                (some (some (.inl 6), σ))
              else
                (some (some (.inl 7), σ)))
            else
              (some (some (.inl 5), σ)))
          else
            (some (some (.inl 4), σ))))))) := rfl
set_option maxRecDepth 100000 in
set_option maxHeartbeats 1000000 in
/-- IModel.puts -/
theorem e143_0 (O : Nat → List xV → xS → Option xR) (k : Nat → xF) (h : Nat) (i1 : Int32) (σ : xS) : x_b O x_X0 x_TX (x_C 143) k 3000 (x_suf (x_C 143) 0) [some (.inr (.inr (some h))), some (.inl i1)] [] σ =
  (x_ck σ h 10 <|
  (x_ck σ h 10 <|
  (x_ck σ h 10 <|
  (x_der (x_Q σ h 10) fun a1 => x_ak σ a1 11 fun n2 => x_ix ((200 * (x_I σ h 12)) + (x_I σ h 34)) n2 <|
  (x_ck (x_si σ a1 ((200 * (x_I σ h 12)) + (x_I σ h 34)).toNatClampNeg i1) h 10 <|
  (x_ck (x_si σ a1 ((200 * (x_I σ h 12)) + (x_I σ h 34)).toNatClampNeg i1) h 10 <|
  (some (none, x_si (x_si σ a1 ((200 * (x_I σ h 12)) + (x_I σ h 34)).toNatClampNeg i1) h 34 ((x_I (x_si σ a1 ((200 * (x_I σ h 12)) + (x_I σ h 34)).toNatClampNeg i1) h 34) + 1))))))))) := rfl
set_option maxRecDepth 100000 in
set_option maxHeartbeats 1000000 in
/-- IModel.unwinds -/
theorem e144_0 (O : Nat → List xV → xS → Option xR) (k : Nat → xF) (h : Nat) (i1 : Int32) (σ : xS) : x_b O x_X0 x_TX (x_C 144) k 3000 (x_suf (x_C 144) 0) [some (.inr (.inr (some h))), some (.inl i1), none] [] σ =
  (x_ck σ h 10 <|
  (if (x_I σ h 32) ≤ 0 then
    (some (none, σ))
  else
    (x_ck σ h 10 <|
    (x_ck σ h 10 <|
    (x_der (x_Q σ h 31) fun a1 => x_ak σ a1 11 fun n2 => x_ix ((x_I σ h 32) - 1) n2 <|
    (x_ci (O 142 [.inl (x_I σ a1 ((x_I σ h 32) - 1).toNatClampNeg)] σ) fun x4 σ3 =>
    (if x4 < i1 then
      (some (none, σ3))
    else
      (x_ck σ3 h 10 <|
      (x_ck σ3 h 10 <|
      (x_ck (x_si σ3 h 32 ((x_I σ3 h 32) - 1)) h 10 <|
      (x_ck (x_si σ3 h 32 ((x_I σ3 h 32) - 1)) h 10 <|
      (x_der (x_Q (x_si σ3 h 32 ((x_I σ3 h 32) - 1)) h 31) fun a5 => x_ak (x_si σ3 h 32 ((x_I σ3 h 32) - 1)) a5 11 fun n6 => x_ix (x_I (x_si σ3 h 32 ((x_I σ3 h 32) - 1)) h 32) n6 <|
      (x_ck (x_si σ3 h 32 ((x_I σ3 h 32) - 1)) h 10 <|
      (if (x_I (x_si σ3 h 32 ((x_I σ3 h 32) - 1)) a5 (x_I (x_si σ3 h 32 ((x_I σ3 h 32) - 1)) h 32).toNatClampNeg) = 13 then
        k 62 [some (.inr (.inr (some h))), some (.inl i1), some (.inl (x_I (x_si σ3 h 32 ((x_I σ3 h 32) - 1)) a5 (x_I (x_si σ3 h 32 ((x_I σ3 h 32) - 1)) h 32).toNatClampNeg))] [.inl (x_I (x_si σ3 h 32 ((x_I σ3 h 32) - 1)) h 33), .inr (.inr (some h))] (x_si σ3 h 32 ((x_I σ3 h 32) - 1))
      else
        (if (x_I (x_si σ3 h 32 ((x_I σ3 h 32) - 1)) a5 (x_I (x_si σ3 h 32 ((x_I σ3 h 32) - 1)) h 32).toNatClampNeg) = 19 then
          k 62 [some (.inr (.inr (some h))), some (.inl i1), some (.inl (x_I (x_si σ3 h 32 ((x_I σ3 h 32) - 1)) a5 (x_I (x_si σ3 h 32 ((x_I σ3 h 32) - 1)) h 32).toNatClampNeg))] [.inl (x_I (x_si σ3 h 32 ((x_I σ3 h 32) - 1)) h 33), .inr (.inr (some h))] (x_si σ3 h 32 ((x_I σ3 h 32) - 1))
        else
          (x_ck (x_si σ3 h 32 ((x_I σ3 h 32) - 1)) h 10 <|
          (x_ck (x_si (x_si σ3 h 32 ((x_I σ3 h 32) - 1)) h 33 ((x_I (x_si σ3 h 32 ((x_I σ3 h 32) - 1)) h 33) - 0)) h 10 <|
          x_cv (O 143 [.inr (.inr (some h)), .inl (x_I (x_si σ3 h 32 ((x_I σ3 h 32) - 1)) a5 (x_I (x_si σ3 h 32 ((x_I σ3 h 32) - 1)) h 32).toNatClampNeg)] (x_si (x_si σ3 h 32 ((x_I σ3 h 32) - 1)) h 33 ((x_I (x_si σ3 h 32 ((x_I σ3 h 32) - 1)) h 33) - 0))) fun σ7 =>
          k 0 [some (.inr (.inr (some h))), some (.inl i1), none] [] σ7))))))))))))))))) := rfl
set_option maxRecDepth 100000 in
set_option maxHeartbeats 1000000 in
/-- IModel.unwinds -/
theorem e144_62 (O : Nat → List xV → xS → Option xR) (k : Nat → xF) (h : Nat) (i1 : Int32) (i2 : Int32) (s0 : Int32) (s1 : Option Nat) (σ : xS) : x_b O x_X0 x_TX (x_C 144) k 3000 (x_suf (x_C 144) 62) [some (.inr (.inr (some h))), some (.inl i1), some (.inl i2)] [.inl s0, .inr (.inr s1)] σ =
  (x_der s1 fun a1 => x_ck σ a1 10 <|
  (x_ck (x_si σ a1 33 (s0 - 1)) h 10 <|
  x_cv (O 143 [.inr (.inr (some h)), .inl i2] (x_si σ a1 33 (s0 - 1))) fun σ2 =>
  k 0 [some (.inr (.inr (some h))), some (.inl i1), none] [] σ2)) := rfl
set_option maxRecDepth 100000 in
set_option maxHeartbeats 1000000 in
/-- IModel.holds -/
theorem e145_0 (O : Nat → List xV → xS → Option xR) (k : Nat → xF) (h : Nat) (i1 : Int32) (σ : xS) : x_b O x_X0 x_TX (x_C 145) k 3000 (x_suf (x_C 145) 0) [some (.inr (.inr (some h))), some (.inl i1)] [] σ =
  (x_ck σ h 10 <|
  (x_ck σ h 10 <|
  (x_der (x_Q σ h 31) fun a1 => x_ak σ a1 11 fun n2 => x_ix (x_I σ h 32) n2 <|
  (x_ck (x_si σ a1 (x_I σ h 32).toNatClampNeg i1) h 10 <|
  (x_ck (x_si σ a1 (x_I σ h 32).toNatClampNeg i1) h 10 <|
  (some (none, x_si (x_si σ a1 (x_I σ h 32).toNatClampNeg i1) h 32 ((x_I (x_si σ a1 (x_I σ h 32).toNatClampNeg i1) h 32) + 1)))))))) := rfl
set_option maxRecDepth 100000 in
set_option maxHeartbeats 1000000 in
/-- IModel.opensOne -/
theorem e146_0 (O : Nat → List xV → xS → Option xR) (k : Nat → xF) (h : Nat) (i1 : Int32) (σ : xS) : x_b O x_X0 x_TX (x_C 146) k 3000 (x_suf (x_C 146) 0) [some (.inr (.inr (some h))), some (.inl i1)] [] σ =
  (x_ck σ h 10 <|
  (if (x_I σ h 33) = 5 then
    (some (some (.inl 0), σ))
  else
    (x_ck σ h 10 <|
    (x_ck σ h 10 <|
    (x_ck (x_si σ h 33 ((x_I σ h 33) + 1)) h 10 <|
    x_cv (O 145 [.inr (.inr (some h)), .inl i1] (x_si σ h 33 ((x_I σ h 33) + 1))) fun σ1 =>
    (some (some (.inl 1), σ1))))))) := rfl
set_option maxRecDepth 100000 in
set_option maxHeartbeats 1000000 in
/-- IModel.between -/
theorem e147_0 (O : Nat → List xV → xS → Option xR) (k : Nat → xF) (h : Nat) (i1 : Int32) (σ : xS) : x_b O x_X0 x_TX (x_C 147) k 3000 (x_suf (x_C 147) 0) [some (.inr (.inr (some h))), some (.inl i1)] [] σ =
  (x_ci (O 142 [.inl i1] σ) fun x2 σ1 =>
  (if x2 = 4 then
    k 17 [some (.inr (.inr (some h))), some (.inl i1)] [.inl 5, .inr (.inr (some h))] σ1
  else
    (x_ci (O 142 [.inl i1] σ1) fun x4 σ3 =>
    k 17 [some (.inr (.inr (some h))), some (.inl i1)] [.inl x4, .inr (.inr (some h))] σ3))) := rfl
set_option maxRecDepth 100000 in
set_option maxHeartbeats 1000000 in
/-- IModel.between -/
theorem e147_17 (O : Nat → List xV → xS → Option xR) (k : Nat → xF) (h : Nat) (i1 : Int32) (s0 : Int32) (s1 : Option Nat) (σ : xS) : x_b O x_X0 x_TX (x_C 147) k 3000 (x_suf (x_C 147) 17) [some (.inr (.inr (some h))), some (.inl i1)] [.inl s0, .inr (.inr s1)] σ =
  (x_der s1 fun a1 => x_ck σ a1 10 <|
  x_cv (O 144 [.inr (.inr s1), .inl s0] σ) fun σ2 =>
  (x_ci (O 142 [.inl i1] σ2) fun x4 σ3 =>
  (if x4 = 4 then
    (x_ck σ3 h 10 <|
    (if (x_I σ3 h 32) ≤ 0 then
      (x_ck σ3 h 10 <|
      x_cv (O 145 [.inr (.inr (some h)), .inl i1] σ3) fun σ6 =>
      (some (some (.inl 1), σ6)))
    else
      (x_ck σ3 h 10 <|
      (x_ck σ3 h 10 <|
      (x_der (x_Q σ3 h 31) fun a7 => x_ak σ3 a7 11 fun n8 => x_ix ((x_I σ3 h 32) - 1) n8 <|
      (x_ci (O 142 [.inl (x_I σ3 a7 ((x_I σ3 h 32) - 1).toNatClampNeg)] σ3) fun x10 σ9 =>
      (if x10 = 4 then
        (some (some (.inl 0), σ9))
      else
        (x_ck σ9 h 10 <|
        x_cv (O 145 [.inr (.inr (some h)), .inl i1] σ9) fun σ11 =>
        (some (some (.inl 1), σ11))))))))))
  else
    (x_ck σ3 h 10 <|
    x_cv (O 145 [.inr (.inr (some h)), .inl i1] σ3) fun σ5 =>
    (some (some (.inl 1), σ5)))))) := rfl
set_option maxRecDepth 100000 in
set_option maxHeartbeats 1000000 in
/-- IModel.signOf -/
theorem e148_0 (O : Nat → List xV → xS → Option xR) (k : Nat → xF) (h : Nat) (σ : xS) : x_b O x_X0 x_TX (x_C 148) k 3000 (x_suf (x_C 148) 0) [some (.inr (.inr (some h)))] [] σ =
  (x_ck σ h 10 <|
  (if (x_I σ h 28) = 4 then
    (some (some (.inl 11), σ))
  else
    (x_ck σ h 10 <|
    (if (x_I σ h 28) = 5 then
      (some (some (.inl 12), σ))
    else
      (x_ck σ h 10 <|
      (if (x_I σ h 28) = 60 then
        (some (some (.inl 14), σ))
      else
        (x_ck σ h 10 <|
        (if (x_I σ h 28) = 61 then
          (some (some (.inl 15), σ))
        else
          (x_ck σ h 10 <|
          (if (x_I σ h 28) = 43 then
            (some (some (.inl 16), σ))
          else
            (x_ck σ h 10 <|
            (if (x_I σ h 28) = 45 then
              (some (some (.inl 17), σ))
            else
              (x_ck σ h 10 <|
              (if (x_I σ h 28) = 42 then
                (some (some (.inl 18), σ))
              else
                (some (some (.inl (-1)), σ)))))))))))))))) := rfl
set_option maxRecDepth 100000 in
set_option maxHeartbeats 1000000 in
/-- IModel.eRead -/
theorem e149_0 (O : Nat → List xV → xS → Option xR) (k : Nat → xF) (h : Nat) (σ : xS) : x_b O x_X0 x_TX (x_C 149) k 3000 (x_suf (x_C 149) 0) [some (.inr (.inr (some h))), none, none, none] [] σ =
  (x_ck σ h 10 <|
  (x_ck (x_si σ h 32 0) h 10 <|
  k 14 [some (.inr (.inr (some h))), some (.inl 1), some (.inl 1), none] [] (x_si (x_si σ h 32 0) h 33 0))) := rfl
set_option maxRecDepth 100000 in
set_option maxHeartbeats 1000000 in
/-- IModel.eRead -/
theorem e149_14 (O : Nat → List xV → xS → Option xR) (k : Nat → xF) (h : Nat) (i1 : Int32) (i2 : Int32) (σ : xS) : x_b O x_X0 x_TX (x_C 149) k 3000 (x_suf (x_C 149) 14) [some (.inr (.inr (some h))), some (.inl i1), some (.inl i2), none] [] σ =
  (x_ck σ h 10 <|
  x_cv (O 141 [.inr (.inr (some h))] σ) fun σ1 =>
  (if i1 = 0 then
    (x_ck σ1 h 10 <|
    (if (x_I σ1 h 28) = 59 then
      (x_ck σ1 h 10 <|
      x_cv (O 144 [.inr (.inr (some h)), .inl 1] σ1) fun σ8 =>
      (x_ck σ8 h 10 <|
      (if (x_I σ8 h 32) = 0 then
        (some (some (.inl 1), σ8))
      else
        (some (some (.inl 0), σ8)))))
    else
      (x_ck σ1 h 10 <|
      (if (x_I σ1 h 28) = 41 then
        (x_ck σ1 h 10 <|
        x_cv (O 144 [.inr (.inr (some h)), .inl 1] σ1) fun σ6 =>
        (x_ck σ6 h 10 <|
        (if (x_I σ6 h 32) = 0 then
          (some (some (.inl 0), σ6))
        else
          (x_ck σ6 h 10 <|
          (x_ck σ6 h 10 <|
          (x_ck (x_si σ6 h 32 ((x_I σ6 h 32) - 1)) h 10 <|
          (x_ck (x_si σ6 h 32 ((x_I σ6 h 32) - 1)) h 10 <|
          (x_ck (x_si (x_si σ6 h 32 ((x_I σ6 h 32) - 1)) h 33 ((x_I (x_si σ6 h 32 ((x_I σ6 h 32) - 1)) h 33) - 1)) h 10 <|
          x_cv (O 144 [.inr (.inr (some h)), .inl 7] (x_si (x_si σ6 h 32 ((x_I σ6 h 32) - 1)) h 33 ((x_I (x_si σ6 h 32 ((x_I σ6 h 32) - 1)) h 33) - 1))) fun σ7 =>
          k 14 [some (.inr (.inr (some h))), some (.inl i1), some (.inl i2), none] [] σ7))))))))
      else
        (x_ck σ1 h 10 <|
        x_ci (O 148 [.inr (.inr (some h))] σ1) fun x3 σ2 =>
        (if x3 = (-1) then
          (some (some (.inl 0), σ2))
        else
          (x_ck σ2 h 10 <|
          x_ci (O 147 [.inr (.inr (some h)), .inl x3] σ2) fun x5 σ4 =>
          (if x5 = 0 then
            (some (some (.inl 0), σ4))
          else
            (if 12 < x3 then
              k 14 [some (.inr (.inr (some h))), some (.inl 1), some (.inl 0), none] [] σ4
            else
              k 14 [some (.inr (.inr (some h))), some (.inl 1), some (.inl 1), none] [] σ4)))))))))
  else
    (x_ck σ1 h 10 <|
    (if (x_I σ1 h 28) = 1 then
      (x_ck σ1 h 10 <|
      (if (x_I σ1 h 28) = 1 then
        (x_ck σ1 h 10 <|
        k 61 [some (.inr (.inr (some h))), none, some (.inl i2), none] [.inl (100000 + (x_I σ1 h 29)), .inr (.inr (some h))] σ1)
      else
        (x_ck σ1 h 10 <|
        k 61 [some (.inr (.inr (some h))), none, some (.inl i2), none] [.inl (x_I σ1 h 29), .inr (.inr (some h))] σ1)))
    else
      (x_ck σ1 h 10 <|
      (if (x_I σ1 h 28) = 2 then
        (x_ck σ1 h 10 <|
        (if (x_I σ1 h 28) = 1 then
          (x_ck σ1 h 10 <|
          k 61 [some (.inr (.inr (some h))), none, some (.inl i2), none] [.inl (100000 + (x_I σ1 h 29)), .inr (.inr (some h))] σ1)
        else
          (x_ck σ1 h 10 <|
          k 61 [some (.inr (.inr (some h))), none, some (.inl i2), none] [.inl (x_I σ1 h 29), .inr (.inr (some h))] σ1)))
      else
        (x_ck σ1 h 10 <|
        (if (x_I σ1 h 28) = 6 then
          (if i2 = 0 then
            k 99 [some (.inr (.inr (some h))), some (.inl i1), none, none] [] σ1
          else
            (x_ck σ1 h 10 <|
            x_ci (O 146 [.inr (.inr (some h)), .inl 13] σ1) fun x10 σ9 =>
            (if x10 = 0 then
              (some (some (.inl 0), σ9))
            else
              k 14 [some (.inr (.inr (some h))), some (.inl i1), some (.inl i2), none] [] σ9)))
        else
          k 99 [some (.inr (.inr (some h))), some (.inl i1), none, none] [] σ1)))))))) := rfl
set_option maxRecDepth 100000 in
set_option maxHeartbeats 1000000 in
/-- IModel.eRead -/
theorem e149_61 (O : Nat → List xV → xS → Option xR) (k : Nat → xF) (h : Nat) (i2 : Int32) (s0 : Int32) (s1 : Option Nat) (σ : xS) : x_b O x_X0 x_TX (x_C 149) k 3000 (x_suf (x_C 149) 61) [some (.inr (.inr (some h))), none, some (.inl i2), none] [.inl s0, .inr (.inr s1)] σ =
  (x_der s1 fun a1 => x_ck σ a1 10 <|
  x_cv (O 143 [.inr (.inr s1), .inl s0] σ) fun σ2 =>
  (x_ck σ2 h 10 <|
  x_cv (O 144 [.inr (.inr (some h)), .inl 7] σ2) fun σ3 =>
  k 14 [some (.inr (.inr (some h))), some (.inl 0), some (.inl i2), none] [] σ3)) := rfl
set_option maxRecDepth 100000 in
set_option maxHeartbeats 1000000 in
/-- IModel.eRead -/
theorem e149_99 (O : Nat → List xV → xS → Option xR) (k : Nat → xF) (h : Nat) (i1 : Int32) (σ : xS) : x_b O x_X0 x_TX (x_C 149) k 3000 (x_suf (x_C 149) 99) [some (.inr (.inr (some h))), some (.inl i1), none, none] [] σ =
  (x_ck σ h 10 <|
  (if (x_I σ h 28) = 45 then
    (x_ck σ h 10 <|
    x_ci (O 146 [.inr (.inr (some h)), .inl 19] σ) fun x4 σ3 =>
    (if x4 = 0 then
      (some (some (.inl 0), σ3))
    else
      k 14 [some (.inr (.inr (some h))), some (.inl i1), some (.inl 0), none] [] σ3))
  else
    (x_ck σ h 10 <|
    (if (x_I σ h 28) = 40 then
      (x_ck σ h 10 <|
      x_ci (O 146 [.inr (.inr (some h)), .inl 0] σ) fun x2 σ1 =>
      (if x2 = 0 then
        (some (some (.inl 0), σ1))
      else
        k 14 [some (.inr (.inr (some h))), some (.inl i1), some (.inl 1), none] [] σ1))
    else
      (some (some (.inl 0), σ)))))) := rfl
set_option maxRecDepth 100000 in
set_option maxHeartbeats 1000000 in
/-- IModel.text -/
theorem e150_0 (O : Nat → List xV → xS → Option xR) (k : Nat → xF) (h : Nat) (σ : xS) : x_b O x_X0 x_TX (x_C 150) k 3000 (x_suf (x_C 150) 0) [some (.inr (.inr (some h))), none, none] [] σ =
  (x_ck σ h 10 <|
  (if (x_I σ h 12) = 6 then
    (some (some (.inl (-4)), σ))
  else
    (x_ck σ h 10 <|
    (x_ck (x_si σ h 26 0) h 10 <|
    k 26 [some (.inr (.inr (some h))), some (.inl 1), some (.inl 0)] [] (x_si (x_si σ h 26 0) h 34 0))))) := rfl
set_option maxRecDepth 100000 in
set_option maxHeartbeats 1000000 in
/-- IModel.text -/
theorem e150_26 (O : Nat → List xV → xS → Option xR) (k : Nat → xF) (h : Nat) (i1 : Int32) (i2 : Int32) (σ : xS) : x_b O x_X0 x_TX (x_C 150) k 3000 (x_suf (x_C 150) 26) [some (.inr (.inr (some h))), some (.inl i1), some (.inl i2)] [] σ =
  (if 3 ≤ i2 then
    k 101 [some (.inr (.inr (some h))), some (.inl i1), none] [] σ
  else
    (if i1 = 0 then
      k 101 [some (.inr (.inr (some h))), some (.inl i1), none] [] σ
    else
      (x_ck σ h 10 <|
      x_cv (O 141 [.inr (.inr (some h))] σ) fun σ1 =>
      (x_ck σ1 h 10 <|
      (if (x_I σ1 h 28) = 3 then
        (x_ck σ1 h 10 <|
        (if (x_I σ1 h 29) = i2 then
          k 60 [some (.inr (.inr (some h))), none, some (.inl i2)] [.inl 1] σ1
        else
          k 60 [some (.inr (.inr (some h))), none, some (.inl i2)] [.inl 0] σ1))
      else
        k 60 [some (.inr (.inr (some h))), none, some (.inl i2)] [.inl 0] σ1))))) := rfl
set_option maxRecDepth 100000 in
set_option maxHeartbeats 1000000 in
/-- IModel.text -/
theorem e150_60 (O : Nat → List xV → xS → Option xR) (k : Nat → xF) (h : Nat) (i2 : Int32) (s0 : Int32) (σ : xS) : x_b O x_X0 x_TX (x_C 150) k 3000 (x_suf (x_C 150) 60) [some (.inr (.inr (some h))), none, some (.inl i2)] [.inl s0] σ =
  (x_ck σ h 10 <|
  (x_ck σ h 10 <|
  (x_ck σ h 10 <|
  (x_der (x_Q σ h 11) fun a1 => x_ak σ a1 11 fun n2 => x_ix ((4 * (x_I σ h 12)) + i2) n2 <|
  (if s0 = 0 then
    k 26 [some (.inr (.inr (some h))), some (.inl 0), some (.inl (i2 + 1))] [] (x_si σ a1 ((4 * (x_I σ h 12)) + i2).toNatClampNeg (x_I σ h 34))
  else
    (x_ck (x_si σ a1 ((4 * (x_I σ h 12)) + i2).toNatClampNeg (x_I σ h 34)) h 10 <|
    x_ci (O 149 [.inr (.inr (some h))] (x_si σ a1 ((4 * (x_I σ h 12)) + i2).toNatClampNeg (x_I σ h 34))) fun x4 σ3 =>
    (if x4 = 0 then
      k 26 [some (.inr (.inr (some h))), some (.inl 0), some (.inl (i2 + 1))] [] σ3
    else
      k 26 [some (.inr (.inr (some h))), some (.inl 1), some (.inl (i2 + 1))] [] σ3))))))) := rfl
set_option maxRecDepth 100000 in
set_option maxHeartbeats 1000000 in
/-- IModel.text -/
theorem e150_101 (O : Nat → List xV → xS → Option xR) (k : Nat → xF) (h : Nat) (i1 : Int32) (σ : xS) : x_b O x_X0 x_TX (x_C 150) k 3000 (x_suf (x_C 150) 101) [some (.inr (.inr (some h))), some (.inl i1), none] [] σ =
  (if i1 = 0 then
    k 122 [some (.inr (.inr (some h))), some (.inl i1), none] [] σ
  else
    (x_ck σ h 10 <|
    x_cv (O 141 [.inr (.inr (some h))] σ) fun σ1 =>
    (x_ck σ1 h 10 <|
    (if (x_I σ1 h 28) = 0 then
      k 122 [some (.inr (.inr (some h))), some (.inl 1), none] [] σ1
    else
      k 122 [some (.inr (.inr (some h))), some (.inl 0), none] [] σ1)))) := rfl
set_option maxRecDepth 100000 in
set_option maxHeartbeats 1000000 in
/-- IModel.text -/
theorem e150_122 (O : Nat → List xV → xS → Option xR) (k : Nat → xF) (h : Nat) (i1 : Int32) (σ : xS) : x_b O x_X0 x_TX (x_C 150) k 3000 (x_suf (x_C 150) 122) [some (.inr (.inr (some h))), some (.inl i1), none] [] σ =
  (x_ck σ h 10 <|
  (x_ck σ h 10 <|
  (x_ck σ h 10 <|
  (x_der (x_Q σ h 11) fun a1 => x_ak σ a1 11 fun n2 => x_ix ((4 * (x_I σ h 12)) + 3) n2 <|
  (x_ck (x_si σ a1 ((4 * (x_I σ h 12)) + 3).toNatClampNeg (x_I σ h 34)) h 10 <|
  (if i1 = 0 then
    (x_ck (x_si (x_si σ a1 ((4 * (x_I σ h 12)) + 3).toNatClampNeg (x_I σ h 34)) h 9 0) h 10 <|
    (some (some (.inl ((-100) - (x_I (x_si (x_si σ a1 ((4 * (x_I σ h 12)) + 3).toNatClampNeg (x_I σ h 34)) h 9 0) h 27))), x_si (x_si σ a1 ((4 * (x_I σ h 12)) + 3).toNatClampNeg (x_I σ h 34)) h 9 0)))
  else
    (x_ck (x_si (x_si σ a1 ((4 * (x_I σ h 12)) + 3).toNatClampNeg (x_I σ h 34)) h 9 0) h 10 <|
    (x_ck (x_si (x_si σ a1 ((4 * (x_I σ h 12)) + 3).toNatClampNeg (x_I σ h 34)) h 9 0) h 10 <|
    (x_ck (x_si (x_si (x_si σ a1 ((4 * (x_I σ h 12)) + 3).toNatClampNeg (x_I σ h 34)) h 9 0) h 12 ((x_I (x_si (x_si σ a1 ((4 * (x_I σ h 12)) + 3).toNatClampNeg (x_I σ h 34)) h 9 0) h 12) + 1)) h 10 <|
    (some (some (.inl ((x_I (x_si (x_si (x_si σ a1 ((4 * (x_I σ h 12)) + 3).toNatClampNeg (x_I σ h 34)) h 9 0) h 12 ((x_I (x_si (x_si σ a1 ((4 * (x_I σ h 12)) + 3).toNatClampNeg (x_I σ h 34)) h 9 0) h 12) + 1)) h 12) - 1)), x_si (x_si (x_si σ a1 ((4 * (x_I σ h 12)) + 3).toNatClampNeg (x_I σ h 34)) h 9 0) h 12 ((x_I (x_si (x_si σ a1 ((4 * (x_I σ h 12)) + 3).toNatClampNeg (x_I σ h 34)) h 9 0) h 12) + 1)))))))))))) := rfl
set_option maxRecDepth 100000 in
set_option maxHeartbeats 1000000 in
/-- IModel.two -/
theorem e151_0 (O : Nat → List xV → xS → Option xR) (k : Nat → xF) (i0 : Int32) (i1 : Int32) (i2 : Int32) (σ : xS) : x_b O x_X0 x_TX (x_C 151) k 3000 (x_suf (x_C 151) 0) [some (.inl i0), some (.inl i1), some (.inl i2)] [] σ =
  (if i0 = 11 then
    (if i1 = 0 then
      (if i2 = 0 then
        (some (some (.inl 0), σ))
      else
        (some (some (.inl 1), σ)))
    else
      (some (some (.inl 1), σ)))
  else
    (if i0 = 12 then
    (if i1 = 0 then
      (some (some (.inl 0), σ))
    else
      (if i2 = 0 then
        (some (some (.inl 0), σ))
      else
        (some (some (.inl 1), σ))))
  else
    (if i0 = 13 then
    (some (some (.inl (i1 * i2)), σ))
  else
    (if i0 = 14 then
    (if i2 ≤ i1 then
      (some (some (.inl 0), σ))
    else
      (some (some (.inl 1), σ)))
  else
    (if i0 = 15 then
    (if i1 = i2 then
      (some (some (.inl 1), σ))
    else
      (some (some (.inl 0), σ)))
  else
    (if i0 = 16 then
    (some (some (.inl (i1 + i2)), σ))
  else
    (if i0 = 17 then
    (some (some (.inl (i1 - i2)), σ))
  else
    (some (some (.inl (i1 * i2)), σ))))))))) := rfl
set_option maxRecDepth 100000 in
set_option maxHeartbeats 1000000 in
/-- IModel.says -/
theorem e152_0 (O : Nat → List xV → xS → Option xR) (k : Nat → xF) (h : Nat) (i1 : Int32) (σ : xS) : x_b O x_X0 x_TX (x_C 152) k 3000 (x_suf (x_C 152) 0) [some (.inr (.inr (some h))), some (.inl i1), none, none, none] [] σ =
  (x_ck σ h 10 <|
  (x_ck σ h 10 <|
  (x_der (x_Q σ h 11) fun a1 => x_ak σ a1 11 fun n2 => x_ix ((4 * (x_I σ h 13)) + i1) n2 <|
  k 16 [some (.inr (.inr (some h))), some (.inl i1), some (.inl 0), some (.inl (x_I σ a1 ((4 * (x_I σ h 13)) + i1).toNatClampNeg)), none] [] σ))) := rfl
set_option maxRecDepth 100000 in
set_option maxHeartbeats 1000000 in
/-- IModel.says -/
theorem e152_16 (O : Nat → List xV → xS → Option xR) (k : Nat → xF) (h : Nat) (i1 : Int32) (i2 : Int32) (i3 : Int32) (σ : xS) : x_b O x_X0 x_TX (x_C 152) k 3000 (x_suf (x_C 152) 16) [some (.inr (.inr (some h))), some (.inl i1), some (.inl i2), some (.inl i3), none] [] σ =
  (x_ck σ h 10 <|
  (x_ck σ h 10 <|
  (x_der (x_Q σ h 11) fun a1 => x_ak σ a1 11 fun n2 => x_ix (((4 * (x_I σ h 13)) + i1) + 1) n2 <|
  (if (x_I σ a1 (((4 * (x_I σ h 13)) + i1) + 1).toNatClampNeg) ≤ i3 then
    (x_ck σ h 10 <|
    (x_der (x_Q σ h 35) fun a3 => x_ak σ a3 11 fun n4 => x_ix 0 n4 <|
    (some (some (.inl (x_I σ a3 (0 : Int32).toNatClampNeg)), σ))))
  else
    (x_ck σ h 10 <|
    (x_ck σ h 10 <|
    (x_der (x_Q σ h 10) fun a5 => x_ak σ a5 11 fun n6 => x_ix ((200 * (x_I σ h 13)) + i3) n6 <|
    (if 100000 ≤ (x_I σ a5 ((200 * (x_I σ h 13)) + i3).toNatClampNeg) then
      k 66 [some (.inr (.inr (some h))), some (.inl i1), some (.inl i2), some (.inl i3), some (.inl (x_I σ a5 ((200 * (x_I σ h 13)) + i3).toNatClampNeg))] [] σ
    else
      (if 11 ≤ (x_I σ a5 ((200 * (x_I σ h 13)) + i3).toNatClampNeg) then
        (if (x_I σ a5 ((200 * (x_I σ h 13)) + i3).toNatClampNeg) = 13 then
          (x_ck σ h 10 <|
          (x_ck σ h 10 <|
          (x_der (x_Q σ h 35) fun a19 => x_ak σ a19 11 fun n20 => x_ix (i2 - 1) n20 <|
          (if (x_I σ a19 (i2 - 1).toNatClampNeg) = 0 then
            (x_der (x_Q σ h 35) fun a23 => x_ak σ a23 11 fun n24 => x_ix (i2 - 1) n24 <|
            k 16 [some (.inr (.inr (some h))), some (.inl i1), some (.inl i2), some (.inl (i3 + 1)), none] [] (x_si σ a23 (i2 - 1).toNatClampNeg 1))
          else
            (x_der (x_Q σ h 35) fun a21 => x_ak σ a21 11 fun n22 => x_ix (i2 - 1) n22 <|
            k 16 [some (.inr (.inr (some h))), some (.inl i1), some (.inl i2), some (.inl (i3 + 1)), none] [] (x_si σ a21 (i2 - 1).toNatClampNeg 0))))))
        else
          (if (x_I σ a5 ((200 * (x_I σ h 13)) + i3).toNatClampNeg) = 19 then
            (x_ck σ h 10 <|
            (x_ck σ h 10 <|
            (x_der (x_Q σ h 35) fun a15 => x_ak σ a15 11 fun n16 => x_ix (i2 - 1) n16 <|
            (x_der (x_Q σ h 35) fun a17 => x_ak σ a17 11 fun n18 => x_ix (i2 - 1) n18 <|
            k 16 [some (.inr (.inr (some h))), some (.inl i1), some (.inl i2), some (.inl (i3 + 1)), none] [] (x_si σ a17 (i2 - 1).toNatClampNeg (-(x_I σ a15 (i2 - 1).toNatClampNeg)))))))
          else
            (x_ck σ h 10 <|
            (x_ck σ h 10 <|
            (x_der (x_Q σ h 35) fun a7 => x_ak σ a7 11 fun n8 => x_ix ((i2 + (-1)) - 1) n8 <|
            (x_ck σ h 10 <|
            (x_der (x_Q σ h 35) fun a9 => x_ak σ a9 11 fun n10 => x_ix (i2 + (-1)) n10 <|
            (x_ci (O 151 [.inl (x_I σ a5 ((200 * (x_I σ h 13)) + i3).toNatClampNeg), .inl (x_I σ a7 ((i2 + (-1)) - 1).toNatClampNeg), .inl (x_I σ a9 (i2 + (-1)).toNatClampNeg)] σ) fun x12 σ11 =>
            (x_der (x_Q σ h 35) fun a13 => x_ak σ11 a13 11 fun n14 => x_ix ((i2 + (-1)) - 1) n14 <|
            k 16 [some (.inr (.inr (some h))), some (.inl i1), some (.inl (i2 + (-1))), some (.inl (i3 + 1)), none] [] (x_si σ11 a13 ((i2 + (-1)) - 1).toNatClampNeg x12))))))))))
      else
        k 66 [some (.inr (.inr (some h))), some (.inl i1), some (.inl i2), some (.inl i3), some (.inl (x_I σ a5 ((200 * (x_I σ h 13)) + i3).toNatClampNeg))] [] σ))))))))) := rfl
set_option maxRecDepth 100000 in
set_option maxHeartbeats 1000000 in
/-- IModel.says -/
theorem e152_66 (O : Nat → List xV → xS → Option xR) (k : Nat → xF) (h : Nat) (i1 : Int32) (i2 : Int32) (i3 : Int32) (i4 : Int32) (σ : xS) : x_b O x_X0 x_TX (x_C 152) k 3000 (x_suf (x_C 152) 66) [some (.inr (.inr (some h))), some (.inl i1), some (.inl i2), some (.inl i3), some (.inl i4)] [] σ =
  (x_ck σ h 10 <|
  (if 11 ≤ i4 then
    (x_der (x_Q σ h 35) fun a1 => x_ak σ a1 11 fun n2 => x_ix i2 n2 <|
    k 16 [some (.inr (.inr (some h))), some (.inl i1), some (.inl (i2 + 1)), some (.inl (i3 + 1)), none] [] (x_si σ a1 (i2).toNatClampNeg (i4 - 100000)))
  else
    (x_ck σ h 10 <|
    (x_der (x_Q σ h 36) fun a3 => x_ak σ a3 11 fun n4 => x_ix i4 n4 <|
    (x_der (x_Q σ h 35) fun a5 => x_ak σ a5 11 fun n6 => x_ix i2 n6 <|
    k 16 [some (.inr (.inr (some h))), some (.inl i1), some (.inl (i2 + 1)), some (.inl (i3 + 1)), none] [] (x_si σ a5 (i2).toNatClampNeg (x_I σ a3 (i4).toNatClampNeg))))))) := rfl
set_option maxRecDepth 100000 in
set_option maxHeartbeats 1000000 in
/-- IModel.force -/
theorem e153_0 (O : Nat → List xV → xS → Option xR) (k : Nat → xF) (h : Nat) (i1 : Int32) (σ : xS) : x_b O x_X0 x_TX (x_C 153) k 3000 (x_suf (x_C 153) 0) [some (.inr (.inr (some h))), some (.inl i1), none] [] σ =
  (x_ck σ h 10 <|
  (x_ci (O 133 [.inl i1, .inl 0, .inl ((x_I σ h 12) - 1)] σ) fun x2 σ1 =>
  (if x2 = 0 then
    (some (some (.inl (-2)), σ1))
  else
    (x_ck σ1 h 10 <|
    (x_ck σ1 h 10 <|
    (some (some (.inl (x_I σ1 h 13)), x_si σ1 h 13 i1))))))) := rfl
set_option maxRecDepth 100000 in
set_option maxHeartbeats 1000000 in
/-- IModel.asksOf -/
theorem e154_0 (O : Nat → List xV → xS → Option xR) (k : Nat → xF) (h : Nat) (i1 : Int32) (i2 : Int32) (i3 : Int32) (i4 : Int32) (i5 : Int32) (σ : xS) : x_b O x_X0 x_TX (x_C 154) k 3000 (x_suf (x_C 154) 0) [some (.inr (.inr (some h))), some (.inl i1), some (.inl i2), some (.inl i3), some (.inl i4), some (.inl i5)] [] σ =
  (x_ck σ h 10 <|
  (x_der (x_Q σ h 36) fun a1 => x_ak σ a1 11 fun n2 => x_ix 0 n2 <|
  (x_ck (x_si σ a1 (0 : Int32).toNatClampNeg i3) h 10 <|
  (if i4 ≤ 99 then
    k 26 [some (.inr (.inr (some h))), some (.inl i1), some (.inl i2), none, none, some (.inl i5)] [.inl i4, .inl 1, .inr (.inr (x_Q (x_si σ a1 (0 : Int32).toNatClampNeg i3) h 36))] (x_si σ a1 (0 : Int32).toNatClampNeg i3)
  else
    k 26 [some (.inr (.inr (some h))), some (.inl i1), some (.inl i2), none, none, some (.inl i5)] [.inl 99, .inl 1, .inr (.inr (x_Q (x_si σ a1 (0 : Int32).toNatClampNeg i3) h 36))] (x_si σ a1 (0 : Int32).toNatClampNeg i3))))) := rfl
set_option maxRecDepth 100000 in
set_option maxHeartbeats 1000000 in
/-- IModel.asksOf -/
theorem e154_26 (O : Nat → List xV → xS → Option xR) (k : Nat → xF) (h : Nat) (i1 : Int32) (i2 : Int32) (i5 : Int32) (s0 : Int32) (s1 : Int32) (s2 : Option Nat) (σ : xS) : x_b O x_X0 x_TX (x_C 154) k 3000 (x_suf (x_C 154) 26) [some (.inr (.inr (some h))), some (.inl i1), some (.inl i2), none, none, some (.inl i5)] [.inl s0, .inl s1, .inr (.inr s2)] σ =
  (x_der s2 fun a1 => x_ak σ a1 11 fun n2 => x_ix s1 n2 <|
  (x_ck (x_si σ a1 (s1).toNatClampNeg s0) h 10 <|
  (x_ck (x_si σ a1 (s1).toNatClampNeg s0) h 10 <|
  (x_der (x_Q (x_si σ a1 (s1).toNatClampNeg s0) h 2) fun a3 => x_ak (x_si σ a1 (s1).toNatClampNeg s0) a3 11 fun n4 => x_ix i2 n4 <|
  (x_der (x_Q (x_si σ a1 (s1).toNatClampNeg s0) h 36) fun a5 => x_ak (x_si σ a1 (s1).toNatClampNeg s0) a5 11 fun n6 => x_ix 2 n6 <|
  (x_ck (x_si (x_si σ a1 (s1).toNatClampNeg s0) a5 (2 : Int32).toNatClampNeg (x_I (x_si σ a1 (s1).toNatClampNeg s0) a3 (i2).toNatClampNeg)) h 10 <|
  (x_ck (x_si (x_si σ a1 (s1).toNatClampNeg s0) a5 (2 : Int32).toNatClampNeg (x_I (x_si σ a1 (s1).toNatClampNeg s0) a3 (i2).toNatClampNeg)) h 10 <|
  (x_der (x_Q (x_si (x_si σ a1 (s1).toNatClampNeg s0) a5 (2 : Int32).toNatClampNeg (x_I (x_si σ a1 (s1).toNatClampNeg s0) a3 (i2).toNatClampNeg)) h 3) fun a7 => x_ak (x_si (x_si σ a1 (s1).toNatClampNeg s0) a5 (2 : Int32).toNatClampNeg (x_I (x_si σ a1 (s1).toNatClampNeg s0) a3 (i2).toNatClampNeg)) a7 11 fun n8 => x_ix ((6 * i2) + 1) n8 <|
  (x_der (x_Q (x_si (x_si σ a1 (s1).toNatClampNeg s0) a5 (2 : Int32).toNatClampNeg (x_I (x_si σ a1 (s1).toNatClampNeg s0) a3 (i2).toNatClampNeg)) h 36) fun a9 => x_ak (x_si (x_si σ a1 (s1).toNatClampNeg s0) a5 (2 : Int32).toNatClampNeg (x_I (x_si σ a1 (s1).toNatClampNeg s0) a3 (i2).toNatClampNeg)) a9 11 fun n10 => x_ix 3 n10 <|
  (x_ck (x_si (x_si (x_si σ a1 (s1).toNatClampNeg s0) a5 (2 : Int32).toNatClampNeg (x_I (x_si σ a1 (s1).toNatClampNeg s0) a3 (i2).toNatClampNeg)) a9 (3 : Int32).toNatClampNeg (x_I (x_si (x_si σ a1 (s1).toNatClampNeg s0) a5 (2 : Int32).toNatClampNeg (x_I (x_si σ a1 (s1).toNatClampNeg s0) a3 (i2).toNatClampNeg)) a7 ((6 * i2) + 1).toNatClampNeg)) h 10 <|
  (x_ck (x_si (x_si (x_si σ a1 (s1).toNatClampNeg s0) a5 (2 : Int32).toNatClampNeg (x_I (x_si σ a1 (s1).toNatClampNeg s0) a3 (i2).toNatClampNeg)) a9 (3 : Int32).toNatClampNeg (x_I (x_si (x_si σ a1 (s1).toNatClampNeg s0) a5 (2 : Int32).toNatClampNeg (x_I (x_si σ a1 (s1).toNatClampNeg s0) a3 (i2).toNatClampNeg)) a7 ((6 * i2) + 1).toNatClampNeg)) h 10 <|
  (x_der (x_Q (x_si (x_si (x_si σ a1 (s1).toNatClampNeg s0) a5 (2 : Int32).toNatClampNeg (x_I (x_si σ a1 (s1).toNatClampNeg s0) a3 (i2).toNatClampNeg)) a9 (3 : Int32).toNatClampNeg (x_I (x_si (x_si σ a1 (s1).toNatClampNeg s0) a5 (2 : Int32).toNatClampNeg (x_I (x_si σ a1 (s1).toNatClampNeg s0) a3 (i2).toNatClampNeg)) a7 ((6 * i2) + 1).toNatClampNeg)) h 3) fun a11 => x_ak (x_si (x_si (x_si σ a1 (s1).toNatClampNeg s0) a5 (2 : Int32).toNatClampNeg (x_I (x_si σ a1 (s1).toNatClampNeg s0) a3 (i2).toNatClampNeg)) a9 (3 : Int32).toNatClampNeg (x_I (x_si (x_si σ a1 (s1).toNatClampNeg s0) a5 (2 : Int32).toNatClampNeg (x_I (x_si σ a1 (s1).toNatClampNeg s0) a3 (i2).toNatClampNeg)) a7 ((6 * i2) + 1).toNatClampNeg)) a11 11 fun n12 => x_ix ((6 * i2) + 2) n12 <|
  (x_der (x_Q (x_si (x_si (x_si σ a1 (s1).toNatClampNeg s0) a5 (2 : Int32).toNatClampNeg (x_I (x_si σ a1 (s1).toNatClampNeg s0) a3 (i2).toNatClampNeg)) a9 (3 : Int32).toNatClampNeg (x_I (x_si (x_si σ a1 (s1).toNatClampNeg s0) a5 (2 : Int32).toNatClampNeg (x_I (x_si σ a1 (s1).toNatClampNeg s0) a3 (i2).toNatClampNeg)) a7 ((6 * i2) + 1).toNatClampNeg)) h 36) fun a13 => x_ak (x_si (x_si (x_si σ a1 (s1).toNatClampNeg s0) a5 (2 : Int32).toNatClampNeg (x_I (x_si σ a1 (s1).toNatClampNeg s0) a3 (i2).toNatClampNeg)) a9 (3 : Int32).toNatClampNeg (x_I (x_si (x_si σ a1 (s1).toNatClampNeg s0) a5 (2 : Int32).toNatClampNeg (x_I (x_si σ a1 (s1).toNatClampNeg s0) a3 (i2).toNatClampNeg)) a7 ((6 * i2) + 1).toNatClampNeg)) a13 11 fun n14 => x_ix 4 n14 <|
  (x_ck (x_si (x_si (x_si (x_si σ a1 (s1).toNatClampNeg s0) a5 (2 : Int32).toNatClampNeg (x_I (x_si σ a1 (s1).toNatClampNeg s0) a3 (i2).toNatClampNeg)) a9 (3 : Int32).toNatClampNeg (x_I (x_si (x_si σ a1 (s1).toNatClampNeg s0) a5 (2 : Int32).toNatClampNeg (x_I (x_si σ a1 (s1).toNatClampNeg s0) a3 (i2).toNatClampNeg)) a7 ((6 * i2) + 1).toNatClampNeg)) a13 (4 : Int32).toNatClampNeg (x_I (x_si (x_si (x_si σ a1 (s1).toNatClampNeg s0) a5 (2 : Int32).toNatClampNeg (x_I (x_si σ a1 (s1).toNatClampNeg s0) a3 (i2).toNatClampNeg)) a9 (3 : Int32).toNatClampNeg (x_I (x_si (x_si σ a1 (s1).toNatClampNeg s0) a5 (2 : Int32).toNatClampNeg (x_I (x_si σ a1 (s1).toNatClampNeg s0) a3 (i2).toNatClampNeg)) a7 ((6 * i2) + 1).toNatClampNeg)) a11 ((6 * i2) + 2).toNatClampNeg)) h 10 <|
  (x_der (x_Q (x_si (x_si (x_si (x_si σ a1 (s1).toNatClampNeg s0) a5 (2 : Int32).toNatClampNeg (x_I (x_si σ a1 (s1).toNatClampNeg s0) a3 (i2).toNatClampNeg)) a9 (3 : Int32).toNatClampNeg (x_I (x_si (x_si σ a1 (s1).toNatClampNeg s0) a5 (2 : Int32).toNatClampNeg (x_I (x_si σ a1 (s1).toNatClampNeg s0) a3 (i2).toNatClampNeg)) a7 ((6 * i2) + 1).toNatClampNeg)) a13 (4 : Int32).toNatClampNeg (x_I (x_si (x_si (x_si σ a1 (s1).toNatClampNeg s0) a5 (2 : Int32).toNatClampNeg (x_I (x_si σ a1 (s1).toNatClampNeg s0) a3 (i2).toNatClampNeg)) a9 (3 : Int32).toNatClampNeg (x_I (x_si (x_si σ a1 (s1).toNatClampNeg s0) a5 (2 : Int32).toNatClampNeg (x_I (x_si σ a1 (s1).toNatClampNeg s0) a3 (i2).toNatClampNeg)) a7 ((6 * i2) + 1).toNatClampNeg)) a11 ((6 * i2) + 2).toNatClampNeg)) h 36) fun a15 => x_ak (x_si (x_si (x_si (x_si σ a1 (s1).toNatClampNeg s0) a5 (2 : Int32).toNatClampNeg (x_I (x_si σ a1 (s1).toNatClampNeg s0) a3 (i2).toNatClampNeg)) a9 (3 : Int32).toNatClampNeg (x_I (x_si (x_si σ a1 (s1).toNatClampNeg s0) a5 (2 : Int32).toNatClampNeg (x_I (x_si σ a1 (s1).toNatClampNeg s0) a3 (i2).toNatClampNeg)) a7 ((6 * i2) + 1).toNatClampNeg)) a13 (4 : Int32).toNatClampNeg (x_I (x_si (x_si (x_si σ a1 (s1).toNatClampNeg s0) a5 (2 : Int32).toNatClampNeg (x_I (x_si σ a1 (s1).toNatClampNeg s0) a3 (i2).toNatClampNeg)) a9 (3 : Int32).toNatClampNeg (x_I (x_si (x_si σ a1 (s1).toNatClampNeg s0) a5 (2 : Int32).toNatClampNeg (x_I (x_si σ a1 (s1).toNatClampNeg s0) a3 (i2).toNatClampNeg)) a7 ((6 * i2) + 1).toNatClampNeg)) a11 ((6 * i2) + 2).toNatClampNeg)) a15 11 fun n16 => x_ix 5 n16 <|
  (x_ck (x_si (x_si (x_si (x_si (x_si σ a1 (s1).toNatClampNeg s0) a5 (2 : Int32).toNatClampNeg (x_I (x_si σ a1 (s1).toNatClampNeg s0) a3 (i2).toNatClampNeg)) a9 (3 : Int32).toNatClampNeg (x_I (x_si (x_si σ a1 (s1).toNatClampNeg s0) a5 (2 : Int32).toNatClampNeg (x_I (x_si σ a1 (s1).toNatClampNeg s0) a3 (i2).toNatClampNeg)) a7 ((6 * i2) + 1).toNatClampNeg)) a13 (4 : Int32).toNatClampNeg (x_I (x_si (x_si (x_si σ a1 (s1).toNatClampNeg s0) a5 (2 : Int32).toNatClampNeg (x_I (x_si σ a1 (s1).toNatClampNeg s0) a3 (i2).toNatClampNeg)) a9 (3 : Int32).toNatClampNeg (x_I (x_si (x_si σ a1 (s1).toNatClampNeg s0) a5 (2 : Int32).toNatClampNeg (x_I (x_si σ a1 (s1).toNatClampNeg s0) a3 (i2).toNatClampNeg)) a7 ((6 * i2) + 1).toNatClampNeg)) a11 ((6 * i2) + 2).toNatClampNeg)) a15 (5 : Int32).toNatClampNeg i5) h 10 <|
  x_ci (O 152 [.inr (.inr (some h)), .inl i1] (x_si (x_si (x_si (x_si (x_si σ a1 (s1).toNatClampNeg s0) a5 (2 : Int32).toNatClampNeg (x_I (x_si σ a1 (s1).toNatClampNeg s0) a3 (i2).toNatClampNeg)) a9 (3 : Int32).toNatClampNeg (x_I (x_si (x_si σ a1 (s1).toNatClampNeg s0) a5 (2 : Int32).toNatClampNeg (x_I (x_si σ a1 (s1).toNatClampNeg s0) a3 (i2).toNatClampNeg)) a7 ((6 * i2) + 1).toNatClampNeg)) a13 (4 : Int32).toNatClampNeg (x_I (x_si (x_si (x_si σ a1 (s1).toNatClampNeg s0) a5 (2 : Int32).toNatClampNeg (x_I (x_si σ a1 (s1).toNatClampNeg s0) a3 (i2).toNatClampNeg)) a9 (3 : Int32).toNatClampNeg (x_I (x_si (x_si σ a1 (s1).toNatClampNeg s0) a5 (2 : Int32).toNatClampNeg (x_I (x_si σ a1 (s1).toNatClampNeg s0) a3 (i2).toNatClampNeg)) a7 ((6 * i2) + 1).toNatClampNeg)) a11 ((6 * i2) + 2).toNatClampNeg)) a15 (5 : Int32).toNatClampNeg i5)) fun x18 σ17 =>
  (if i1 = 1 then
    (x_ci (O 134 [.inl x18, .inl 0, .inl 999] σ17) fun x22 σ21 =>
    (some (some (.inl x22), σ21)))
  else
    (x_ci (O 134 [.inl x18, .inl 0, .inl 100] σ17) fun x20 σ19 =>
    (some (some (.inl x20), σ19)))))))))))))))))))) := rfl
set_option maxRecDepth 100000 in
set_option maxHeartbeats 1000000 in
/-- IModel.asks -/
theorem e155_0 (O : Nat → List xV → xS → Option xR) (k : Nat → xF) (h : Nat) (i1 : Int32) (i2 : Int32) (i3 : Int32) (i4 : Int32) (σ : xS) : x_b O x_X0 x_TX (x_C 155) k 3000 (x_suf (x_C 155) 0) [some (.inr (.inr (some h))), some (.inl i1), some (.inl i2), some (.inl i3), some (.inl i4), none] [] σ =
  (x_ci (O 133 [.inl i1, .inl 0, .inl 2] σ) fun x2 σ1 =>
  (if x2 = 0 then
    k 45 [some (.inr (.inr (some h))), some (.inl i1), some (.inl i2), some (.inl i3), some (.inl i4), none] [.inl 0] σ1
  else
    (x_ck σ1 h 10 <|
    x_ci (O 135 [.inr (.inr (some h)), .inl i2] σ1) fun x4 σ3 =>
    (if x4 = 0 then
      k 45 [some (.inr (.inr (some h))), some (.inl i1), some (.inl i2), some (.inl i3), some (.inl i4), none] [.inl 0] σ3
    else
      (x_ci (O 133 [.inl i3, .inl 0, .inl 9999] σ3) fun x6 σ5 =>
      (if x6 = 0 then
        k 45 [some (.inr (.inr (some h))), some (.inl i1), some (.inl i2), some (.inl i3), some (.inl i4), none] [.inl 0] σ5
      else
        (x_ci (O 133 [.inl i4, .inl 0, .inl 999] σ5) fun x8 σ7 =>
        (if x8 = 0 then
          k 45 [some (.inr (.inr (some h))), some (.inl i1), some (.inl i2), some (.inl i3), some (.inl i4), none] [.inl 0] σ7
        else
          k 45 [some (.inr (.inr (some h))), some (.inl i1), some (.inl i2), some (.inl i3), some (.inl i4), none] [.inl 1] σ7)))))))) := rfl
set_option maxRecDepth 100000 in
set_option maxHeartbeats 1000000 in
/-- IModel.asks -/
theorem e155_45 (O : Nat → List xV → xS → Option xR) (k : Nat → xF) (h : Nat) (i1 : Int32) (i2 : Int32) (i3 : Int32) (i4 : Int32) (s0 : Int32) (σ : xS) : x_b O x_X0 x_TX (x_C 155) k 3000 (x_suf (x_C 155) 45) [some (.inr (.inr (some h))), some (.inl i1), some (.inl i2), some (.inl i3), some (.inl i4), none] [.inl s0] σ =
  (if s0 = 0 then
    (some (some (.inl (-2)), σ))
  else
    (x_ck σ h 10 <|
    x_ci (O 154 [.inr (.inr (some h)), .inl i1, .inl i2, .inl (i3 / 100), .inl (i3 - i3 / 100 * 100), .inl i4] σ) fun x2 σ1 =>
    (some (some (.inl x2), σ1)))) := rfl
set_option maxRecDepth 100000 in
set_option maxHeartbeats 1000000 in
/-- IModel.life -/
theorem e156_0 (O : Nat → List xV → xS → Option xR) (k : Nat → xF) (h : Nat) (i1 : Int32) (i2 : Int32) (i3 : Int32) (σ : xS) : x_b O x_X0 x_TX (x_C 156) k 3000 (x_suf (x_C 156) 0) [some (.inr (.inr (some h))), some (.inl i1), some (.inl i2), some (.inl i3)] [] σ =
  (x_ci (O 133 [.inl i1, .inl 0, .inl 59] σ) fun x2 σ1 =>
  (if x2 = 0 then
    (some (some (.inl (-2)), σ1))
  else
    (x_ci (O 133 [.inl i2, .inl 0, .inl 99999] σ1) fun x4 σ3 =>
    (if x4 = 0 then
      (some (some (.inl (-2)), σ3))
    else
      (x_ci (O 133 [.inl i3, .inl 0, .inl 11] σ3) fun x6 σ5 =>
      (if x6 = 0 then
        (some (some (.inl (-2)), σ5))
      else
        (x_ck σ5 h 10 <|
        (if (x_I σ5 h 0) = 5 then
          (some (some (.inl (-4)), σ5))
        else
          (x_ck σ5 h 10 <|
          (x_ck σ5 h 10 <|
          (x_der (x_Q σ5 h 1) fun a7 => x_ak σ5 a7 11 fun n8 => x_ix (x_I σ5 h 0) n8 <|
          (x_ck (x_si σ5 a7 (x_I σ5 h 0).toNatClampNeg (i1 / 10)) h 10 <|
          (x_ck (x_si σ5 a7 (x_I σ5 h 0).toNatClampNeg (i1 / 10)) h 10 <|
          (x_der (x_Q (x_si σ5 a7 (x_I σ5 h 0).toNatClampNeg (i1 / 10)) h 2) fun a9 => x_ak (x_si σ5 a7 (x_I σ5 h 0).toNatClampNeg (i1 / 10)) a9 11 fun n10 => x_ix (x_I (x_si σ5 a7 (x_I σ5 h 0).toNatClampNeg (i1 / 10)) h 0) n10 <|
          (x_ck (x_si (x_si σ5 a7 (x_I σ5 h 0).toNatClampNeg (i1 / 10)) a9 (x_I (x_si σ5 a7 (x_I σ5 h 0).toNatClampNeg (i1 / 10)) h 0).toNatClampNeg (i1 - i1 / 10 * 10)) h 10 <|
          (x_ck (x_si (x_si σ5 a7 (x_I σ5 h 0).toNatClampNeg (i1 / 10)) a9 (x_I (x_si σ5 a7 (x_I σ5 h 0).toNatClampNeg (i1 / 10)) h 0).toNatClampNeg (i1 - i1 / 10 * 10)) h 10 <|
          (x_der (x_Q (x_si (x_si σ5 a7 (x_I σ5 h 0).toNatClampNeg (i1 / 10)) a9 (x_I (x_si σ5 a7 (x_I σ5 h 0).toNatClampNeg (i1 / 10)) h 0).toNatClampNeg (i1 - i1 / 10 * 10)) h 3) fun a11 => x_ak (x_si (x_si σ5 a7 (x_I σ5 h 0).toNatClampNeg (i1 / 10)) a9 (x_I (x_si σ5 a7 (x_I σ5 h 0).toNatClampNeg (i1 / 10)) h 0).toNatClampNeg (i1 - i1 / 10 * 10)) a11 11 fun n12 => x_ix (6 * (x_I (x_si (x_si σ5 a7 (x_I σ5 h 0).toNatClampNeg (i1 / 10)) a9 (x_I (x_si σ5 a7 (x_I σ5 h 0).toNatClampNeg (i1 / 10)) h 0).toNatClampNeg (i1 - i1 / 10 * 10)) h 0)) n12 <|
          (x_ck (x_si (x_si (x_si σ5 a7 (x_I σ5 h 0).toNatClampNeg (i1 / 10)) a9 (x_I (x_si σ5 a7 (x_I σ5 h 0).toNatClampNeg (i1 / 10)) h 0).toNatClampNeg (i1 - i1 / 10 * 10)) a11 (6 * (x_I (x_si (x_si σ5 a7 (x_I σ5 h 0).toNatClampNeg (i1 / 10)) a9 (x_I (x_si σ5 a7 (x_I σ5 h 0).toNatClampNeg (i1 / 10)) h 0).toNatClampNeg (i1 - i1 / 10 * 10)) h 0)).toNatClampNeg i2) h 10 <|
          (x_ck (x_si (x_si (x_si σ5 a7 (x_I σ5 h 0).toNatClampNeg (i1 / 10)) a9 (x_I (x_si σ5 a7 (x_I σ5 h 0).toNatClampNeg (i1 / 10)) h 0).toNatClampNeg (i1 - i1 / 10 * 10)) a11 (6 * (x_I (x_si (x_si σ5 a7 (x_I σ5 h 0).toNatClampNeg (i1 / 10)) a9 (x_I (x_si σ5 a7 (x_I σ5 h 0).toNatClampNeg (i1 / 10)) h 0).toNatClampNeg (i1 - i1 / 10 * 10)) h 0)).toNatClampNeg i2) h 10 <|
          (x_der (x_Q (x_si (x_si (x_si σ5 a7 (x_I σ5 h 0).toNatClampNeg (i1 / 10)) a9 (x_I (x_si σ5 a7 (x_I σ5 h 0).toNatClampNeg (i1 / 10)) h 0).toNatClampNeg (i1 - i1 / 10 * 10)) a11 (6 * (x_I (x_si (x_si σ5 a7 (x_I σ5 h 0).toNatClampNeg (i1 / 10)) a9 (x_I (x_si σ5 a7 (x_I σ5 h 0).toNatClampNeg (i1 / 10)) h 0).toNatClampNeg (i1 - i1 / 10 * 10)) h 0)).toNatClampNeg i2) h 3) fun a13 => x_ak (x_si (x_si (x_si σ5 a7 (x_I σ5 h 0).toNatClampNeg (i1 / 10)) a9 (x_I (x_si σ5 a7 (x_I σ5 h 0).toNatClampNeg (i1 / 10)) h 0).toNatClampNeg (i1 - i1 / 10 * 10)) a11 (6 * (x_I (x_si (x_si σ5 a7 (x_I σ5 h 0).toNatClampNeg (i1 / 10)) a9 (x_I (x_si σ5 a7 (x_I σ5 h 0).toNatClampNeg (i1 / 10)) h 0).toNatClampNeg (i1 - i1 / 10 * 10)) h 0)).toNatClampNeg i2) a13 11 fun n14 => x_ix ((6 * (x_I (x_si (x_si (x_si σ5 a7 (x_I σ5 h 0).toNatClampNeg (i1 / 10)) a9 (x_I (x_si σ5 a7 (x_I σ5 h 0).toNatClampNeg (i1 / 10)) h 0).toNatClampNeg (i1 - i1 / 10 * 10)) a11 (6 * (x_I (x_si (x_si σ5 a7 (x_I σ5 h 0).toNatClampNeg (i1 / 10)) a9 (x_I (x_si σ5 a7 (x_I σ5 h 0).toNatClampNeg (i1 / 10)) h 0).toNatClampNeg (i1 - i1 / 10 * 10)) h 0)).toNatClampNeg i2) h 0)) + 1) n14 <|
          (x_ck (x_si (x_si (x_si (x_si σ5 a7 (x_I σ5 h 0).toNatClampNeg (i1 / 10)) a9 (x_I (x_si σ5 a7 (x_I σ5 h 0).toNatClampNeg (i1 / 10)) h 0).toNatClampNeg (i1 - i1 / 10 * 10)) a11 (6 * (x_I (x_si (x_si σ5 a7 (x_I σ5 h 0).toNatClampNeg (i1 / 10)) a9 (x_I (x_si σ5 a7 (x_I σ5 h 0).toNatClampNeg (i1 / 10)) h 0).toNatClampNeg (i1 - i1 / 10 * 10)) h 0)).toNatClampNeg i2) a13 ((6 * (x_I (x_si (x_si (x_si σ5 a7 (x_I σ5 h 0).toNatClampNeg (i1 / 10)) a9 (x_I (x_si σ5 a7 (x_I σ5 h 0).toNatClampNeg (i1 / 10)) h 0).toNatClampNeg (i1 - i1 / 10 * 10)) a11 (6 * (x_I (x_si (x_si σ5 a7 (x_I σ5 h 0).toNatClampNeg (i1 / 10)) a9 (x_I (x_si σ5 a7 (x_I σ5 h 0).toNatClampNeg (i1 / 10)) h 0).toNatClampNeg (i1 - i1 / 10 * 10)) h 0)).toNatClampNeg i2) h 0)) + 1).toNatClampNeg 10) h 10 <|
          (x_ck (x_si (x_si (x_si (x_si σ5 a7 (x_I σ5 h 0).toNatClampNeg (i1 / 10)) a9 (x_I (x_si σ5 a7 (x_I σ5 h 0).toNatClampNeg (i1 / 10)) h 0).toNatClampNeg (i1 - i1 / 10 * 10)) a11 (6 * (x_I (x_si (x_si σ5 a7 (x_I σ5 h 0).toNatClampNeg (i1 / 10)) a9 (x_I (x_si σ5 a7 (x_I σ5 h 0).toNatClampNeg (i1 / 10)) h 0).toNatClampNeg (i1 - i1 / 10 * 10)) h 0)).toNatClampNeg i2) a13 ((6 * (x_I (x_si (x_si (x_si σ5 a7 (x_I σ5 h 0).toNatClampNeg (i1 / 10)) a9 (x_I (x_si σ5 a7 (x_I σ5 h 0).toNatClampNeg (i1 / 10)) h 0).toNatClampNeg (i1 - i1 / 10 * 10)) a11 (6 * (x_I (x_si (x_si σ5 a7 (x_I σ5 h 0).toNatClampNeg (i1 / 10)) a9 (x_I (x_si σ5 a7 (x_I σ5 h 0).toNatClampNeg (i1 / 10)) h 0).toNatClampNeg (i1 - i1 / 10 * 10)) h 0)).toNatClampNeg i2) h 0)) + 1).toNatClampNeg 10) h 10 <|
          (x_der (x_Q (x_si (x_si (x_si (x_si σ5 a7 (x_I σ5 h 0).toNatClampNeg (i1 / 10)) a9 (x_I (x_si σ5 a7 (x_I σ5 h 0).toNatClampNeg (i1 / 10)) h 0).toNatClampNeg (i1 - i1 / 10 * 10)) a11 (6 * (x_I (x_si (x_si σ5 a7 (x_I σ5 h 0).toNatClampNeg (i1 / 10)) a9 (x_I (x_si σ5 a7 (x_I σ5 h 0).toNatClampNeg (i1 / 10)) h 0).toNatClampNeg (i1 - i1 / 10 * 10)) h 0)).toNatClampNeg i2) a13 ((6 * (x_I (x_si (x_si (x_si σ5 a7 (x_I σ5 h 0).toNatClampNeg (i1 / 10)) a9 (x_I (x_si σ5 a7 (x_I σ5 h 0).toNatClampNeg (i1 / 10)) h 0).toNatClampNeg (i1 - i1 / 10 * 10)) a11 (6 * (x_I (x_si (x_si σ5 a7 (x_I σ5 h 0).toNatClampNeg (i1 / 10)) a9 (x_I (x_si σ5 a7 (x_I σ5 h 0).toNatClampNeg (i1 / 10)) h 0).toNatClampNeg (i1 - i1 / 10 * 10)) h 0)).toNatClampNeg i2) h 0)) + 1).toNatClampNeg 10) h 3) fun a15 => x_ak (x_si (x_si (x_si (x_si σ5 a7 (x_I σ5 h 0).toNatClampNeg (i1 / 10)) a9 (x_I (x_si σ5 a7 (x_I σ5 h 0).toNatClampNeg (i1 / 10)) h 0).toNatClampNeg (i1 - i1 / 10 * 10)) a11 (6 * (x_I (x_si (x_si σ5 a7 (x_I σ5 h 0).toNatClampNeg (i1 / 10)) a9 (x_I (x_si σ5 a7 (x_I σ5 h 0).toNatClampNeg (i1 / 10)) h 0).toNatClampNeg (i1 - i1 / 10 * 10)) h 0)).toNatClampNeg i2) a13 ((6 * (x_I (x_si (x_si (x_si σ5 a7 (x_I σ5 h 0).toNatClampNeg (i1 / 10)) a9 (x_I (x_si σ5 a7 (x_I σ5 h 0).toNatClampNeg (i1 / 10)) h 0).toNatClampNeg (i1 - i1 / 10 * 10)) a11 (6 * (x_I (x_si (x_si σ5 a7 (x_I σ5 h 0).toNatClampNeg (i1 / 10)) a9 (x_I (x_si σ5 a7 (x_I σ5 h 0).toNatClampNeg (i1 / 10)) h 0).toNatClampNeg (i1 - i1 / 10 * 10)) h 0)).toNatClampNeg i2) h 0)) + 1).toNatClampNeg 10) a15 11 fun n16 => x_ix ((6 * (x_I (x_si (x_si (x_si (x_si σ5 a7 (x_I σ5 h 0).toNatClampNeg (i1 / 10)) a9 (x_I (x_si σ5 a7 (x_I σ5 h 0).toNatClampNeg (i1 / 10)) h 0).toNatClampNeg (i1 - i1 / 10 * 10)) a11 (6 * (x_I (x_si (x_si σ5 a7 (x_I σ5 h 0).toNatClampNeg (i1 / 10)) a9 (x_I (x_si σ5 a7 (x_I σ5 h 0).toNatClampNeg (i1 / 10)) h 0).toNatClampNeg (i1 - i1 / 10 * 10)) h 0)).toNatClampNeg i2) a13 ((6 * (x_I (x_si (x_si (x_si σ5 a7 (x_I σ5 h 0).toNatClampNeg (i1 / 10)) a9 (x_I (x_si σ5 a7 (x_I σ5 h 0).toNatClampNeg (i1 / 10)) h 0).toNatClampNeg (i1 - i1 / 10 * 10)) a11 (6 * (x_I (x_si (x_si σ5 a7 (x_I σ5 h 0).toNatClampNeg (i1 / 10)) a9 (x_I (x_si σ5 a7 (x_I σ5 h 0).toNatClampNeg (i1 / 10)) h 0).toNatClampNeg (i1 - i1 / 10 * 10)) h 0)).toNatClampNeg i2) h 0)) + 1).toNatClampNeg 10) h 0)) + 2) n16 <|
          (x_ck (x_si (x_si (x_si (x_si (x_si σ5 a7 (x_I σ5 h 0).toNatClampNeg (i1 / 10)) a9 (x_I (x_si σ5 a7 (x_I σ5 h 0).toNatClampNeg (i1 / 10)) h 0).toNatClampNeg (i1 - i1 / 10 * 10)) a11 (6 * (x_I (x_si (x_si σ5 a7 (x_I σ5 h 0).toNatClampNeg (i1 / 10)) a9 (x_I (x_si σ5 a7 (x_I σ5 h 0).toNatClampNeg (i1 / 10)) h 0).toNatClampNeg (i1 - i1 / 10 * 10)) h 0)).toNatClampNeg i2) a13 ((6 * (x_I (x_si (x_si (x_si σ5 a7 (x_I σ5 h 0).toNatClampNeg (i1 / 10)) a9 (x_I (x_si σ5 a7 (x_I σ5 h 0).toNatClampNeg (i1 / 10)) h 0).toNatClampNeg (i1 - i1 / 10 * 10)) a11 (6 * (x_I (x_si (x_si σ5 a7 (x_I σ5 h 0).toNatClampNeg (i1 / 10)) a9 (x_I (x_si σ5 a7 (x_I σ5 h 0).toNatClampNeg (i1 / 10)) h 0).toNatClampNeg (i1 - i1 / 10 * 10)) h 0)).toNatClampNeg i2) h 0)) + 1).toNatClampNeg 10) a15 ((6 * (x_I (x_si (x_si (x_si (x_si σ5 a7 (x_I σ5 h 0).toNatClampNeg (i1 / 10)) a9 (x_I (x_si σ5 a7 (x_I σ5 h 0).toNatClampNeg (i1 / 10)) h 0).toNatClampNeg (i1 - i1 / 10 * 10)) a11 (6 * (x_I (x_si (x_si σ5 a7 (x_I σ5 h 0).toNatClampNeg (i1 / 10)) a9 (x_I (x_si σ5 a7 (x_I σ5 h 0).toNatClampNeg (i1 / 10)) h 0).toNatClampNeg (i1 - i1 / 10 * 10)) h 0)).toNatClampNeg i2) a13 ((6 * (x_I (x_si (x_si (x_si σ5 a7 (x_I σ5 h 0).toNatClampNeg (i1 / 10)) a9 (x_I (x_si σ5 a7 (x_I σ5 h 0).toNatClampNeg (i1 / 10)) h 0).toNatClampNeg (i1 - i1 / 10 * 10)) a11 (6 * (x_I (x_si (x_si σ5 a7 (x_I σ5 h 0).toNatClampNeg (i1 / 10)) a9 (x_I (x_si σ5 a7 (x_I σ5 h 0).toNatClampNeg (i1 / 10)) h 0).toNatClampNeg (i1 - i1 / 10 * 10)) h 0)).toNatClampNeg i2) h 0)) + 1).toNatClampNeg 10) h 0)) + 2).toNatClampNeg 50) h 10 <|
          (x_ck (x_si (x_si (x_si (x_si (x_si σ5 a7 (x_I σ5 h 0).toNatClampNeg (i1 / 10)) a9 (x_I (x_si σ5 a7 (x_I σ5 h 0).toNatClampNeg (i1 / 10)) h 0).toNatClampNeg (i1 - i1 / 10 * 10)) a11 (6 * (x_I (x_si (x_si σ5 a7 (x_I σ5 h 0).toNatClampNeg (i1 / 10)) a9 (x_I (x_si σ5 a7 (x_I σ5 h 0).toNatClampNeg (i1 / 10)) h 0).toNatClampNeg (i1 - i1 / 10 * 10)) h 0)).toNatClampNeg i2) a13 ((6 * (x_I (x_si (x_si (x_si σ5 a7 (x_I σ5 h 0).toNatClampNeg (i1 / 10)) a9 (x_I (x_si σ5 a7 (x_I σ5 h 0).toNatClampNeg (i1 / 10)) h 0).toNatClampNeg (i1 - i1 / 10 * 10)) a11 (6 * (x_I (x_si (x_si σ5 a7 (x_I σ5 h 0).toNatClampNeg (i1 / 10)) a9 (x_I (x_si σ5 a7 (x_I σ5 h 0).toNatClampNeg (i1 / 10)) h 0).toNatClampNeg (i1 - i1 / 10 * 10)) h 0)).toNatClampNeg i2) h 0)) + 1).toNatClampNeg 10) a15 ((6 * (x_I (x_si (x_si (x_si (x_si σ5 a7 (x_I σ5 h 0).toNatClampNeg (i1 / 10)) a9 (x_I (x_si σ5 a7 (x_I σ5 h 0).toNatClampNeg (i1 / 10)) h 0).toNatClampNeg (i1 - i1 / 10 * 10)) a11 (6 * (x_I (x_si (x_si σ5 a7 (x_I σ5 h 0).toNatClampNeg (i1 / 10)) a9 (x_I (x_si σ5 a7 (x_I σ5 h 0).toNatClampNeg (i1 / 10)) h 0).toNatClampNeg (i1 - i1 / 10 * 10)) h 0)).toNatClampNeg i2) a13 ((6 * (x_I (x_si (x_si (x_si σ5 a7 (x_I σ5 h 0).toNatClampNeg (i1 / 10)) a9 (x_I (x_si σ5 a7 (x_I σ5 h 0).toNatClampNeg (i1 / 10)) h 0).toNatClampNeg (i1 - i1 / 10 * 10)) a11 (6 * (x_I (x_si (x_si σ5 a7 (x_I σ5 h 0).toNatClampNeg (i1 / 10)) a9 (x_I (x_si σ5 a7 (x_I σ5 h 0).toNatClampNeg (i1 / 10)) h 0).toNatClampNeg (i1 - i1 / 10 * 10)) h 0)).toNatClampNeg i2) h 0)) + 1).toNatClampNeg 10) h 0)) + 2).toNatClampNeg 50) h 10 <|
          (x_der (x_Q (x_si (x_si (x_si (x_si (x_si σ5 a7 (x_I σ5 h 0).toNatClampNeg (i1 / 10)) a9 (x_I (x_si σ5 a7 (x_I σ5 h 0).toNatClampNeg (i1 / 10)) h 0).toNatClampNeg (i1 - i1 / 10 * 10)) a11 (6 * (x_I (x_si (x_si σ5 a7 (x_I σ5 h 0).toNatClampNeg (i1 / 10)) a9 (x_I (x_si σ5 a7 (x_I σ5 h 0).toNatClampNeg (i1 / 10)) h 0).toNatClampNeg (i1 - i1 / 10 * 10)) h 0)).toNatClampNeg i2) a13 ((6 * (x_I (x_si (x_si (x_si σ5 a7 (x_I σ5 h 0).toNatClampNeg (i1 / 10)) a9 (x_I (x_si σ5 a7 (x_I σ5 h 0).toNatClampNeg (i1 / 10)) h 0).toNatClampNeg (i1 - i1 / 10 * 10)) a11 (6 * (x_I (x_si (x_si σ5 a7 (x_I σ5 h 0).toNatClampNeg (i1 / 10)) a9 (x_I (x_si σ5 a7 (x_I σ5 h 0).toNatClampNeg (i1 / 10)) h 0).toNatClampNeg (i1 - i1 / 10 * 10)) h 0)).toNatClampNeg i2) h 0)) + 1).toNatClampNeg 10) a15 ((6 * (x_I (x_si (x_si (x_si (x_si σ5 a7 (x_I σ5 h 0).toNatClampNeg (i1 / 10)) a9 (x_I (x_si σ5 a7 (x_I σ5 h 0).toNatClampNeg (i1 / 10)) h 0).toNatClampNeg (i1 - i1 / 10 * 10)) a11 (6 * (x_I (x_si (x_si σ5 a7 (x_I σ5 h 0).toNatClampNeg (i1 / 10)) a9 (x_I (x_si σ5 a7 (x_I σ5 h 0).toNatClampNeg (i1 / 10)) h 0).toNatClampNeg (i1 - i1 / 10 * 10)) h 0)).toNatClampNeg i2) a13 ((6 * (x_I (x_si (x_si (x_si σ5 a7 (x_I σ5 h 0).toNatClampNeg (i1 / 10)) a9 (x_I (x_si σ5 a7 (x_I σ5 h 0).toNatClampNeg (i1 / 10)) h 0).toNatClampNeg (i1 - i1 / 10 * 10)) a11 (6 * (x_I (x_si (x_si σ5 a7 (x_I σ5 h 0).toNatClampNeg (i1 / 10)) a9 (x_I (x_si σ5 a7 (x_I σ5 h 0).toNatClampNeg (i1 / 10)) h 0).toNatClampNeg (i1 - i1 / 10 * 10)) h 0)).toNatClampNeg i2) h 0)) + 1).toNatClampNeg 10) h 0)) + 2).toNatClampNeg 50) h 3) fun a17 => x_ak (x_si (x_si (x_si (x_si (x_si σ5 a7 (x_I σ5 h 0).toNatClampNeg (i1 / 10)) a9 (x_I (x_si σ5 a7 (x_I σ5 h 0).toNatClampNeg (i1 / 10)) h 0).toNatClampNeg (i1 - i1 / 10 * 10)) a11 (6 * (x_I (x_si (x_si σ5 a7 (x_I σ5 h 0).toNatClampNeg (i1 / 10)) a9 (x_I (x_si σ5 a7 (x_I σ5 h 0).toNatClampNeg (i1 / 10)) h 0).toNatClampNeg (i1 - i1 / 10 * 10)) h 0)).toNatClampNeg i2) a13 ((6 * (x_I (x_si (x_si (x_si σ5 a7 (x_I σ5 h 0).toNatClampNeg (i1 / 10)) a9 (x_I (x_si σ5 a7 (x_I σ5 h 0).toNatClampNeg (i1 / 10)) h 0).toNatClampNeg (i1 - i1 / 10 * 10)) a11 (6 * (x_I (x_si (x_si σ5 a7 (x_I σ5 h 0).toNatClampNeg (i1 / 10)) a9 (x_I (x_si σ5 a7 (x_I σ5 h 0).toNatClampNeg (i1 / 10)) h 0).toNatClampNeg (i1 - i1 / 10 * 10)) h 0)).toNatClampNeg i2) h 0)) + 1).toNatClampNeg 10) a15 ((6 * (x_I (x_si (x_si (x_si (x_si σ5 a7 (x_I σ5 h 0).toNatClampNeg (i1 / 10)) a9 (x_I (x_si σ5 a7 (x_I σ5 h 0).toNatClampNeg (i1 / 10)) h 0).toNatClampNeg (i1 - i1 / 10 * 10)) a11 (6 * (x_I (x_si (x_si σ5 a7 (x_I σ5 h 0).toNatClampNeg (i1 / 10)) a9 (x_I (x_si σ5 a7 (x_I σ5 h 0).toNatClampNeg (i1 / 10)) h 0).toNatClampNeg (i1 - i1 / 10 * 10)) h 0)).toNatClampNeg i2) a13 ((6 * (x_I (x_si (x_si (x_si σ5 a7 (x_I σ5 h 0).toNatClampNeg (i1 / 10)) a9 (x_I (x_si σ5 a7 (x_I σ5 h 0).toNatClampNeg (i1 / 10)) h 0).toNatClampNeg (i1 - i1 / 10 * 10)) a11 (6 * (x_I (x_si (x_si σ5 a7 (x_I σ5 h 0).toNatClampNeg (i1 / 10)) a9 (x_I (x_si σ5 a7 (x_I σ5 h 0).toNatClampNeg (i1 / 10)) h 0).toNatClampNeg (i1 - i1 / 10 * 10)) h 0)).toNatClampNeg i2) h 0)) + 1).toNatClampNeg 10) h 0)) + 2).toNatClampNeg 50) a17 11 fun n18 => x_ix ((6 * (x_I (x_si (x_si (x_si (x_si (x_si σ5 a7 (x_I σ5 h 0).toNatClampNeg (i1 / 10)) a9 (x_I (x_si σ5 a7 (x_I σ5 h 0).toNatClampNeg (i1 / 10)) h 0).toNatClampNeg (i1 - i1 / 10 * 10)) a11 (6 * (x_I (x_si (x_si σ5 a7 (x_I σ5 h 0).toNatClampNeg (i1 / 10)) a9 (x_I (x_si σ5 a7 (x_I σ5 h 0).toNatClampNeg (i1 / 10)) h 0).toNatClampNeg (i1 - i1 / 10 * 10)) h 0)).toNatClampNeg i2) a13 ((6 * (x_I (x_si (x_si (x_si σ5 a7 (x_I σ5 h 0).toNatClampNeg (i1 / 10)) a9 (x_I (x_si σ5 a7 (x_I σ5 h 0).toNatClampNeg (i1 / 10)) h 0).toNatClampNeg (i1 - i1 / 10 * 10)) a11 (6 * (x_I (x_si (x_si σ5 a7 (x_I σ5 h 0).toNatClampNeg (i1 / 10)) a9 (x_I (x_si σ5 a7 (x_I σ5 h 0).toNatClampNeg (i1 / 10)) h 0).toNatClampNeg (i1 - i1 / 10 * 10)) h 0)).toNatClampNeg i2) h 0)) + 1).toNatClampNeg 10) a15 ((6 * (x_I (x_si (x_si (x_si (x_si σ5 a7 (x_I σ5 h 0).toNatClampNeg (i1 / 10)) a9 (x_I (x_si σ5 a7 (x_I σ5 h 0).toNatClampNeg (i1 / 10)) h 0).toNatClampNeg (i1 - i1 / 10 * 10)) a11 (6 * (x_I (x_si (x_si σ5 a7 (x_I σ5 h 0).toNatClampNeg (i1 / 10)) a9 (x_I (x_si σ5 a7 (x_I σ5 h 0).toNatClampNeg (i1 / 10)) h 0).toNatClampNeg (i1 - i1 / 10 * 10)) h 0)).toNatClampNeg i2) a13 ((6 * (x_I (x_si (x_si (x_si σ5 a7 (x_I σ5 h 0).toNatClampNeg (i1 / 10)) a9 (x_I (x_si σ5 a7 (x_I σ5 h 0).toNatClampNeg (i1 / 10)) h 0).toNatClampNeg (i1 - i1 / 10 * 10)) a11 (6 * (x_I (x_si (x_si σ5 a7 (x_I σ5 h 0).toNatClampNeg (i1 / 10)) a9 (x_I (x_si σ5 a7 (x_I σ5 h 0).toNatClampNeg (i1 / 10)) h 0).toNatClampNeg (i1 - i1 / 10 * 10)) h 0)).toNatClampNeg i2) h 0)) + 1).toNatClampNeg 10) h 0)) + 2).toNatClampNeg 50) h 0)) + 3) n18 <|
          (x_ck (x_si (x_si (x_si (x_si (x_si (x_si σ5 a7 (x_I σ5 h 0).toNatClampNeg (i1 / 10)) a9 (x_I (x_si σ5 a7 (x_I σ5 h 0).toNatClampNeg (i1 / 10)) h 0).toNatClampNeg (i1 - i1 / 10 * 10)) a11 (6 * (x_I (x_si (x_si σ5 a7 (x_I σ5 h 0).toNatClampNeg (i1 / 10)) a9 (x_I (x_si σ5 a7 (x_I σ5 h 0).toNatClampNeg (i1 / 10)) h 0).toNatClampNeg (i1 - i1 / 10 * 10)) h 0)).toNatClampNeg i2) a13 ((6 * (x_I (x_si (x_si (x_si σ5 a7 (x_I σ5 h 0).toNatClampNeg (i1 / 10)) a9 (x_I (x_si σ5 a7 (x_I σ5 h 0).toNatClampNeg (i1 / 10)) h 0).toNatClampNeg (i1 - i1 / 10 * 10)) a11 (6 * (x_I (x_si (x_si σ5 a7 (x_I σ5 h 0).toNatClampNeg (i1 / 10)) a9 (x_I (x_si σ5 a7 (x_I σ5 h 0).toNatClampNeg (i1 / 10)) h 0).toNatClampNeg (i1 - i1 / 10 * 10)) h 0)).toNatClampNeg i2) h 0)) + 1).toNatClampNeg 10) a15 ((6 * (x_I (x_si (x_si (x_si (x_si σ5 a7 (x_I σ5 h 0).toNatClampNeg (i1 / 10)) a9 (x_I (x_si σ5 a7 (x_I σ5 h 0).toNatClampNeg (i1 / 10)) h 0).toNatClampNeg (i1 - i1 / 10 * 10)) a11 (6 * (x_I (x_si (x_si σ5 a7 (x_I σ5 h 0).toNatClampNeg (i1 / 10)) a9 (x_I (x_si σ5 a7 (x_I σ5 h 0).toNatClampNeg (i1 / 10)) h 0).toNatClampNeg (i1 - i1 / 10 * 10)) h 0)).toNatClampNeg i2) a13 ((6 * (x_I (x_si (x_si (x_si σ5 a7 (x_I σ5 h 0).toNatClampNeg (i1 / 10)) a9 (x_I (x_si σ5 a7 (x_I σ5 h 0).toNatClampNeg (i1 / 10)) h 0).toNatClampNeg (i1 - i1 / 10 * 10)) a11 (6 * (x_I (x_si (x_si σ5 a7 (x_I σ5 h 0).toNatClampNeg (i1 / 10)) a9 (x_I (x_si σ5 a7 (x_I σ5 h 0).toNatClampNeg (i1 / 10)) h 0).toNatClampNeg (i1 - i1 / 10 * 10)) h 0)).toNatClampNeg i2) h 0)) + 1).toNatClampNeg 10) h 0)) + 2).toNatClampNeg 50) a17 ((6 * (x_I (x_si (x_si (x_si (x_si (x_si σ5 a7 (x_I σ5 h 0).toNatClampNeg (i1 / 10)) a9 (x_I (x_si σ5 a7 (x_I σ5 h 0).toNatClampNeg (i1 / 10)) h 0).toNatClampNeg (i1 - i1 / 10 * 10)) a11 (6 * (x_I (x_si (x_si σ5 a7 (x_I σ5 h 0).toNatClampNeg (i1 / 10)) a9 (x_I (x_si σ5 a7 (x_I σ5 h 0).toNatClampNeg (i1 / 10)) h 0).toNatClampNeg (i1 - i1 / 10 * 10)) h 0)).toNatClampNeg i2) a13 ((6 * (x_I (x_si (x_si (x_si σ5 a7 (x_I σ5 h 0).toNatClampNeg (i1 / 10)) a9 (x_I (x_si σ5 a7 (x_I σ5 h 0).toNatClampNeg (i1 / 10)) h 0).toNatClampNeg (i1 - i1 / 10 * 10)) a11 (6 * (x_I (x_si (x_si σ5 a7 (x_I σ5 h 0).toNatClampNeg (i1 / 10)) a9 (x_I (x_si σ5 a7 (x_I σ5 h 0).toNatClampNeg (i1 / 10)) h 0).toNatClampNeg (i1 - i1 / 10 * 10)) h 0)).toNatClampNeg i2) h 0)) + 1).toNatClampNeg 10) a15 ((6 * (x_I (x_si (x_si (x_si (x_si σ5 a7 (x_I σ5 h 0).toNatClampNeg (i1 / 10)) a9 (x_I (x_si σ5 a7 (x_I σ5 h 0).toNatClampNeg (i1 / 10)) h 0).toNatClampNeg (i1 - i1 / 10 * 10)) a11 (6 * (x_I (x_si (x_si σ5 a7 (x_I σ5 h 0).toNatClampNeg (i1 / 10)) a9 (x_I (x_si σ5 a7 (x_I σ5 h 0).toNatClampNeg (i1 / 10)) h 0).toNatClampNeg (i1 - i1 / 10 * 10)) h 0)).toNatClampNeg i2) a13 ((6 * (x_I (x_si (x_si (x_si σ5 a7 (x_I σ5 h 0).toNatClampNeg (i1 / 10)) a9 (x_I (x_si σ5 a7 (x_I σ5 h 0).toNatClampNeg (i1 / 10)) h 0).toNatClampNeg (i1 - i1 / 10 * 10)) a11 (6 * (x_I (x_si (x_si σ5 a7 (x_I σ5 h 0).toNatClampNeg (i1 / 10)) a9 (x_I (x_si σ5 a7 (x_I σ5 h 0).toNatClampNeg (i1 / 10)) h 0).toNatClampNeg (i1 - i1 / 10 * 10)) h 0)).toNatClampNeg i2) h 0)) + 1).toNatClampNeg 10) h 0)) + 2).toNatClampNeg 50) h 0)) + 3).toNatClampNeg i3) h 10 <|
          (x_ck (x_si (x_si (x_si (x_si (x_si (x_si σ5 a7 (x_I σ5 h 0).toNatClampNeg (i1 / 10)) a9 (x_I (x_si σ5 a7 (x_I σ5 h 0).toNatClampNeg (i1 / 10)) h 0).toNatClampNeg (i1 - i1 / 10 * 10)) a11 (6 * (x_I (x_si (x_si σ5 a7 (x_I σ5 h 0).toNatClampNeg (i1 / 10)) a9 (x_I (x_si σ5 a7 (x_I σ5 h 0).toNatClampNeg (i1 / 10)) h 0).toNatClampNeg (i1 - i1 / 10 * 10)) h 0)).toNatClampNeg i2) a13 ((6 * (x_I (x_si (x_si (x_si σ5 a7 (x_I σ5 h 0).toNatClampNeg (i1 / 10)) a9 (x_I (x_si σ5 a7 (x_I σ5 h 0).toNatClampNeg (i1 / 10)) h 0).toNatClampNeg (i1 - i1 / 10 * 10)) a11 (6 * (x_I (x_si (x_si σ5 a7 (x_I σ5 h 0).toNatClampNeg (i1 / 10)) a9 (x_I (x_si σ5 a7 (x_I σ5 h 0).toNatClampNeg (i1 / 10)) h 0).toNatClampNeg (i1 - i1 / 10 * 10)) h 0)).toNatClampNeg i2) h 0)) + 1).toNatClampNeg 10) a15 ((6 * (x_I (x_si (x_si (x_si (x_si σ5 a7 (x_I σ5 h 0).toNatClampNeg (i1 / 10)) a9 (x_I (x_si σ5 a7 (x_I σ5 h 0).toNatClampNeg (i1 / 10)) h 0).toNatClampNeg (i1 - i1 / 10 * 10)) a11 (6 * (x_I (x_si (x_si σ5 a7 (x_I σ5 h 0).toNatClampNeg (i1 / 10)) a9 (x_I (x_si σ5 a7 (x_I σ5 h 0).toNatClampNeg (i1 / 10)) h 0).toNatClampNeg (i1 - i1 / 10 * 10)) h 0)).toNatClampNeg i2) a13 ((6 * (x_I (x_si (x_si (x_si σ5 a7 (x_I σ5 h 0).toNatClampNeg (i1 / 10)) a9 (x_I (x_si σ5 a7 (x_I σ5 h 0).toNatClampNeg (i1 / 10)) h 0).toNatClampNeg (i1 - i1 / 10 * 10)) a11 (6 * (x_I (x_si (x_si σ5 a7 (x_I σ5 h 0).toNatClampNeg (i1 / 10)) a9 (x_I (x_si σ5 a7 (x_I σ5 h 0).toNatClampNeg (i1 / 10)) h 0).toNatClampNeg (i1 - i1 / 10 * 10)) h 0)).toNatClampNeg i2) h 0)) + 1).toNatClampNeg 10) h 0)) + 2).toNatClampNeg 50) a17 ((6 * (x_I (x_si (x_si (x_si (x_si (x_si σ5 a7 (x_I σ5 h 0).toNatClampNeg (i1 / 10)) a9 (x_I (x_si σ5 a7 (x_I σ5 h 0).toNatClampNeg (i1 / 10)) h 0).toNatClampNeg (i1 - i1 / 10 * 10)) a11 (6 * (x_I (x_si (x_si σ5 a7 (x_I σ5 h 0).toNatClampNeg (i1 / 10)) a9 (x_I (x_si σ5 a7 (x_I σ5 h 0).toNatClampNeg (i1 / 10)) h 0).toNatClampNeg (i1 - i1 / 10 * 10)) h 0)).toNatClampNeg i2) a13 ((6 * (x_I (x_si (x_si (x_si σ5 a7 (x_I σ5 h 0).toNatClampNeg (i1 / 10)) a9 (x_I (x_si σ5 a7 (x_I σ5 h 0).toNatClampNeg (i1 / 10)) h 0).toNatClampNeg (i1 - i1 / 10 * 10)) a11 (6 * (x_I (x_si (x_si σ5 a7 (x_I σ5 h 0).toNatClampNeg (i1 / 10)) a9 (x_I (x_si σ5 a7 (x_I σ5 h 0).toNatClampNeg (i1 / 10)) h 0).toNatClampNeg (i1 - i1 / 10 * 10)) h 0)).toNatClampNeg i2) h 0)) + 1).toNatClampNeg 10) a15 ((6 * (x_I (x_si (x_si (x_si (x_si σ5 a7 (x_I σ5 h 0).toNatClampNeg (i1 / 10)) a9 (x_I (x_si σ5 a7 (x_I σ5 h 0).toNatClampNeg (i1 / 10)) h 0).toNatClampNeg (i1 - i1 / 10 * 10)) a11 (6 * (x_I (x_si (x_si σ5 a7 (x_I σ5 h 0).toNatClampNeg (i1 / 10)) a9 (x_I (x_si σ5 a7 (x_I σ5 h 0).toNatClampNeg (i1 / 10)) h 0).toNatClampNeg (i1 - i1 / 10 * 10)) h 0)).toNatClampNeg i2) a13 ((6 * (x_I (x_si (x_si (x_si σ5 a7 (x_I σ5 h 0).toNatClampNeg (i1 / 10)) a9 (x_I (x_si σ5 a7 (x_I σ5 h 0).toNatClampNeg (i1 / 10)) h 0).toNatClampNeg (i1 - i1 / 10 * 10)) a11 (6 * (x_I (x_si (x_si σ5 a7 (x_I σ5 h 0).toNatClampNeg (i1 / 10)) a9 (x_I (x_si σ5 a7 (x_I σ5 h 0).toNatClampNeg (i1 / 10)) h 0).toNatClampNeg (i1 - i1 / 10 * 10)) h 0)).toNatClampNeg i2) h 0)) + 1).toNatClampNeg 10) h 0)) + 2).toNatClampNeg 50) h 0)) + 3).toNatClampNeg i3) h 10 <|
          (x_der (x_Q (x_si (x_si (x_si (x_si (x_si (x_si σ5 a7 (x_I σ5 h 0).toNatClampNeg (i1 / 10)) a9 (x_I (x_si σ5 a7 (x_I σ5 h 0).toNatClampNeg (i1 / 10)) h 0).toNatClampNeg (i1 - i1 / 10 * 10)) a11 (6 * (x_I (x_si (x_si σ5 a7 (x_I σ5 h 0).toNatClampNeg (i1 / 10)) a9 (x_I (x_si σ5 a7 (x_I σ5 h 0).toNatClampNeg (i1 / 10)) h 0).toNatClampNeg (i1 - i1 / 10 * 10)) h 0)).toNatClampNeg i2) a13 ((6 * (x_I (x_si (x_si (x_si σ5 a7 (x_I σ5 h 0).toNatClampNeg (i1 / 10)) a9 (x_I (x_si σ5 a7 (x_I σ5 h 0).toNatClampNeg (i1 / 10)) h 0).toNatClampNeg (i1 - i1 / 10 * 10)) a11 (6 * (x_I (x_si (x_si σ5 a7 (x_I σ5 h 0).toNatClampNeg (i1 / 10)) a9 (x_I (x_si σ5 a7 (x_I σ5 h 0).toNatClampNeg (i1 / 10)) h 0).toNatClampNeg (i1 - i1 / 10 * 10)) h 0)).toNatClampNeg i2) h 0)) + 1).toNatClampNeg 10) a15 ((6 * (x_I (x_si (x_si (x_si (x_si σ5 a7 (x_I σ5 h 0).toNatClampNeg (i1 / 10)) a9 (x_I (x_si σ5 a7 (x_I σ5 h 0).toNatClampNeg (i1 / 10)) h 0).toNatClampNeg (i1 - i1 / 10 * 10)) a11 (6 * (x_I (x_si (x_si σ5 a7 (x_I σ5 h 0).toNatClampNeg (i1 / 10)) a9 (x_I (x_si σ5 a7 (x_I σ5 h 0).toNatClampNeg (i1 / 10)) h 0).toNatClampNeg (i1 - i1 / 10 * 10)) h 0)).toNatClampNeg i2) a13 ((6 * (x_I (x_si (x_si (x_si σ5 a7 (x_I σ5 h 0).toNatClampNeg (i1 / 10)) a9 (x_I (x_si σ5 a7 (x_I σ5 h 0).toNatClampNeg (i1 / 10)) h 0).toNatClampNeg (i1 - i1 / 10 * 10)) a11 (6 * (x_I (x_si (x_si σ5 a7 (x_I σ5 h 0).toNatClampNeg (i1 / 10)) a9 (x_I (x_si σ5 a7 (x_I σ5 h 0).toNatClampNeg (i1 / 10)) h 0).toNatClampNeg (i1 - i1 / 10 * 10)) h 0)).toNatClampNeg i2) h 0)) + 1).toNatClampNeg 10) h 0)) + 2).toNatClampNeg 50) a17 ((6 * (x_I (x_si (x_si (x_si (x_si (x_si σ5 a7 (x_I σ5 h 0).toNatClampNeg (i1 / 10)) a9 (x_I (x_si σ5 a7 (x_I σ5 h 0).toNatClampNeg (i1 / 10)) h 0).toNatClampNeg (i1 - i1 / 10 * 10)) a11 (6 * (x_I (x_si (x_si σ5 a7 (x_I σ5 h 0).toNatClampNeg (i1 / 10)) a9 (x_I (x_si σ5 a7 (x_I σ5 h 0).toNatClampNeg (i1 / 10)) h 0).toNatClampNeg (i1 - i1 / 10 * 10)) h 0)).toNatClampNeg i2) a13 ((6 * (x_I (x_si (x_si (x_si σ5 a7 (x_I σ5 h 0).toNatClampNeg (i1 / 10)) a9 (x_I (x_si σ5 a7 (x_I σ5 h 0).toNatClampNeg (i1 / 10)) h 0).toNatClampNeg (i1 - i1 / 10 * 10)) a11 (6 * (x_I (x_si (x_si σ5 a7 (x_I σ5 h 0).toNatClampNeg (i1 / 10)) a9 (x_I (x_si σ5 a7 (x_I σ5 h 0).toNatClampNeg (i1 / 10)) h 0).toNatClampNeg (i1 - i1 / 10 * 10)) h 0)).toNatClampNeg i2) h 0)) + 1).toNatClampNeg 10) a15 ((6 * (x_I (x_si (x_si (x_si (x_si σ5 a7 (x_I σ5 h 0).toNatClampNeg (i1 / 10)) a9 (x_I (x_si σ5 a7 (x_I σ5 h 0).toNatClampNeg (i1 / 10)) h 0).toNatClampNeg (i1 - i1 / 10 * 10)) a11 (6 * (x_I (x_si (x_si σ5 a7 (x_I σ5 h 0).toNatClampNeg (i1 / 10)) a9 (x_I (x_si σ5 a7 (x_I σ5 h 0).toNatClampNeg (i1 / 10)) h 0).toNatClampNeg (i1 - i1 / 10 * 10)) h 0)).toNatClampNeg i2) a13 ((6 * (x_I (x_si (x_si (x_si σ5 a7 (x_I σ5 h 0).toNatClampNeg (i1 / 10)) a9 (x_I (x_si σ5 a7 (x_I σ5 h 0).toNatClampNeg (i1 / 10)) h 0).toNatClampNeg (i1 - i1 / 10 * 10)) a11 (6 * (x_I (x_si (x_si σ5 a7 (x_I σ5 h 0).toNatClampNeg (i1 / 10)) a9 (x_I (x_si σ5 a7 (x_I σ5 h 0).toNatClampNeg (i1 / 10)) h 0).toNatClampNeg (i1 - i1 / 10 * 10)) h 0)).toNatClampNeg i2) h 0)) + 1).toNatClampNeg 10) h 0)) + 2).toNatClampNeg 50) h 0)) + 3).toNatClampNeg i3) h 3) fun a19 => x_ak (x_si (x_si (x_si (x_si (x_si (x_si σ5 a7 (x_I σ5 h 0).toNatClampNeg (i1 / 10)) a9 (x_I (x_si σ5 a7 (x_I σ5 h 0).toNatClampNeg (i1 / 10)) h 0).toNatClampNeg (i1 - i1 / 10 * 10)) a11 (6 * (x_I (x_si (x_si σ5 a7 (x_I σ5 h 0).toNatClampNeg (i1 / 10)) a9 (x_I (x_si σ5 a7 (x_I σ5 h 0).toNatClampNeg (i1 / 10)) h 0).toNatClampNeg (i1 - i1 / 10 * 10)) h 0)).toNatClampNeg i2) a13 ((6 * (x_I (x_si (x_si (x_si σ5 a7 (x_I σ5 h 0).toNatClampNeg (i1 / 10)) a9 (x_I (x_si σ5 a7 (x_I σ5 h 0).toNatClampNeg (i1 / 10)) h 0).toNatClampNeg (i1 - i1 / 10 * 10)) a11 (6 * (x_I (x_si (x_si σ5 a7 (x_I σ5 h 0).toNatClampNeg (i1 / 10)) a9 (x_I (x_si σ5 a7 (x_I σ5 h 0).toNatClampNeg (i1 / 10)) h 0).toNatClampNeg (i1 - i1 / 10 * 10)) h 0)).toNatClampNeg i2) h 0)) + 1).toNatClampNeg 10) a15 ((6 * (x_I (x_si (x_si (x_si (x_si σ5 a7 (x_I σ5 h 0).toNatClampNeg (i1 / 10)) a9 (x_I (x_si σ5 a7 (x_I σ5 h 0).toNatClampNeg (i1 / 10)) h 0).toNatClampNeg (i1 - i1 / 10 * 10)) a11 (6 * (x_I (x_si (x_si σ5 a7 (x_I σ5 h 0).toNatClampNeg (i1 / 10)) a9 (x_I (x_si σ5 a7 (x_I σ5 h 0).toNatClampNeg (i1 / 10)) h 0).toNatClampNeg (i1 - i1 / 10 * 10)) h 0)).toNatClampNeg i2) a13 ((6 * (x_I (x_si (x_si (x_si σ5 a7 (x_I σ5 h 0).toNatClampNeg (i1 / 10)) a9 (x_I (x_si σ5 a7 (x_I σ5 h 0).toNatClampNeg (i1 / 10)) h 0).toNatClampNeg (i1 - i1 / 10 * 10)) a11 (6 * (x_I (x_si (x_si σ5 a7 (x_I σ5 h 0).toNatClampNeg (i1 / 10)) a9 (x_I (x_si σ5 a7 (x_I σ5 h 0).toNatClampNeg (i1 / 10)) h 0).toNatClampNeg (i1 - i1 / 10 * 10)) h 0)).toNatClampNeg i2) h 0)) + 1).toNatClampNeg 10) h 0)) + 2).toNatClampNeg 50) a17 ((6 * (x_I (x_si (x_si (x_si (x_si (x_si σ5 a7 (x_I σ5 h 0).toNatClampNeg (i1 / 10)) a9 (x_I (x_si σ5 a7 (x_I σ5 h 0).toNatClampNeg (i1 / 10)) h 0).toNatClampNeg (i1 - i1 / 10 * 10)) a11 (6 * (x_I (x_si (x_si σ5 a7 (x_I σ5 h 0).toNatClampNeg (i1 / 10)) a9 (x_I (x_si σ5 a7 (x_I σ5 h 0).toNatClampNeg (i1 / 10)) h 0).toNatClampNeg (i1 - i1 / 10 * 10)) h 0)).toNatClampNeg i2) a13 ((6 * (x_I (x_si (x_si (x_si σ5 a7 (x_I σ5 h 0).toNatClampNeg (i1 / 10)) a9 (x_I (x_si σ5 a7 (x_I σ5 h 0).toNatClampNeg (i1 / 10)) h 0).toNatClampNeg (i1 - i1 / 10 * 10)) a11 (6 * (x_I (x_si (x_si σ5 a7 (x_I σ5 h 0).toNatClampNeg (i1 / 10)) a9 (x_I (x_si σ5 a7 (x_I σ5 h 0).toNatClampNeg (i1 / 10)) h 0).toNatClampNeg (i1 - i1 / 10 * 10)) h 0)).toNatClampNeg i2) h 0)) + 1).toNatClampNeg 10) a15 ((6 * (x_I (x_si (x_si (x_si (x_si σ5 a7 (x_I σ5 h 0).toNatClampNeg (i1 / 10)) a9 (x_I (x_si σ5 a7 (x_I σ5 h 0).toNatClampNeg (i1 / 10)) h 0).toNatClampNeg (i1 - i1 / 10 * 10)) a11 (6 * (x_I (x_si (x_si σ5 a7 (x_I σ5 h 0).toNatClampNeg (i1 / 10)) a9 (x_I (x_si σ5 a7 (x_I σ5 h 0).toNatClampNeg (i1 / 10)) h 0).toNatClampNeg (i1 - i1 / 10 * 10)) h 0)).toNatClampNeg i2) a13 ((6 * (x_I (x_si (x_si (x_si σ5 a7 (x_I σ5 h 0).toNatClampNeg (i1 / 10)) a9 (x_I (x_si σ5 a7 (x_I σ5 h 0).toNatClampNeg (i1 / 10)) h 0).toNatClampNeg (i1 - i1 / 10 * 10)) a11 (6 * (x_I (x_si (x_si σ5 a7 (x_I σ5 h 0).toNatClampNeg (i1 / 10)) a9 (x_I (x_si σ5 a7 (x_I σ5 h 0).toNatClampNeg (i1 / 10)) h 0).toNatClampNeg (i1 - i1 / 10 * 10)) h 0)).toNatClampNeg i2) h 0)) + 1).toNatClampNeg 10) h 0)) + 2).toNatClampNeg 50) h 0)) + 3).toNatClampNeg i3) a19 11 fun n20 => x_ix ((6 * (x_I (x_si (x_si (x_si (x_si (x_si (x_si σ5 a7 (x_I σ5 h 0).toNatClampNeg (i1 / 10)) a9 (x_I (x_si σ5 a7 (x_I σ5 h 0).toNatClampNeg (i1 / 10)) h 0).toNatClampNeg (i1 - i1 / 10 * 10)) a11 (6 * (x_I (x_si (x_si σ5 a7 (x_I σ5 h 0).toNatClampNeg (i1 / 10)) a9 (x_I (x_si σ5 a7 (x_I σ5 h 0).toNatClampNeg (i1 / 10)) h 0).toNatClampNeg (i1 - i1 / 10 * 10)) h 0)).toNatClampNeg i2) a13 ((6 * (x_I (x_si (x_si (x_si σ5 a7 (x_I σ5 h 0).toNatClampNeg (i1 / 10)) a9 (x_I (x_si σ5 a7 (x_I σ5 h 0).toNatClampNeg (i1 / 10)) h 0).toNatClampNeg (i1 - i1 / 10 * 10)) a11 (6 * (x_I (x_si (x_si σ5 a7 (x_I σ5 h 0).toNatClampNeg (i1 / 10)) a9 (x_I (x_si σ5 a7 (x_I σ5 h 0).toNatClampNeg (i1 / 10)) h 0).toNatClampNeg (i1 - i1 / 10 * 10)) h 0)).toNatClampNeg i2) h 0)) + 1).toNatClampNeg 10) a15 ((6 * (x_I (x_si (x_si (x_si (x_si σ5 a7 (x_I σ5 h 0).toNatClampNeg (i1 / 10)) a9 (x_I (x_si σ5 a7 (x_I σ5 h 0).toNatClampNeg (i1 / 10)) h 0).toNatClampNeg (i1 - i1 / 10 * 10)) a11 (6 * (x_I (x_si (x_si σ5 a7 (x_I σ5 h 0).toNatClampNeg (i1 / 10)) a9 (x_I (x_si σ5 a7 (x_I σ5 h 0).toNatClampNeg (i1 / 10)) h 0).toNatClampNeg (i1 - i1 / 10 * 10)) h 0)).toNatClampNeg i2) a13 ((6 * (x_I (x_si (x_si (x_si σ5 a7 (x_I σ5 h 0).toNatClampNeg (i1 / 10)) a9 (x_I (x_si σ5 a7 (x_I σ5 h 0).toNatClampNeg (i1 / 10)) h 0).toNatClampNeg (i1 - i1 / 10 * 10)) a11 (6 * (x_I (x_si (x_si σ5 a7 (x_I σ5 h 0).toNatClampNeg (i1 / 10)) a9 (x_I (x_si σ5 a7 (x_I σ5 h 0).toNatClampNeg (i1 / 10)) h 0).toNatClampNeg (i1 - i1 / 10 * 10)) h 0)).toNatClampNeg i2) h 0)) + 1).toNatClampNeg 10) h 0)) + 2).toNatClampNeg 50) a17 ((6 * (x_I (x_si (x_si (x_si (x_si (x_si σ5 a7 (x_I σ5 h 0).toNatClampNeg (i1 / 10)) a9 (x_I (x_si σ5 a7 (x_I σ5 h 0).toNatClampNeg (i1 / 10)) h 0).toNatClampNeg (i1 - i1 / 10 * 10)) a11 (6 * (x_I (x_si (x_si σ5 a7 (x_I σ5 h 0).toNatClampNeg (i1 / 10)) a9 (x_I (x_si σ5 a7 (x_I σ5 h 0).toNatClampNeg (i1 / 10)) h 0).toNatClampNeg (i1 - i1 / 10 * 10)) h 0)).toNatClampNeg i2) a13 ((6 * (x_I (x_si (x_si (x_si σ5 a7 (x_I σ5 h 0).toNatClampNeg (i1 / 10)) a9 (x_I (x_si σ5 a7 (x_I σ5 h 0).toNatClampNeg (i1 / 10)) h 0).toNatClampNeg (i1 - i1 / 10 * 10)) a11 (6 * (x_I (x_si (x_si σ5 a7 (x_I σ5 h 0).toNatClampNeg (i1 / 10)) a9 (x_I (x_si σ5 a7 (x_I σ5 h 0).toNatClampNeg (i1 / 10)) h 0).toNatClampNeg (i1 - i1 / 10 * 10)) h 0)).toNatClampNeg i2) h 0)) + 1).toNatClampNeg 10) a15 ((6 * (x_I (x_si (x_si (x_si (x_si σ5 a7 (x_I σ5 h 0).toNatClampNeg (i1 / 10)) a9 (x_I (x_si σ5 a7 (x_I σ5 h 0).toNatClampNeg (i1 / 10)) h 0).toNatClampNeg (i1 - i1 / 10 * 10)) a11 (6 * (x_I (x_si (x_si σ5 a7 (x_I σ5 h 0).toNatClampNeg (i1 / 10)) a9 (x_I (x_si σ5 a7 (x_I σ5 h 0).toNatClampNeg (i1 / 10)) h 0).toNatClampNeg (i1 - i1 / 10 * 10)) h 0)).toNatClampNeg i2) a13 ((6 * (x_I (x_si (x_si (x_si σ5 a7 (x_I σ5 h 0).toNatClampNeg (i1 / 10)) a9 (x_I (x_si σ5 a7 (x_I σ5 h 0).toNatClampNeg (i1 / 10)) h 0).toNatClampNeg (i1 - i1 / 10 * 10)) a11 (6 * (x_I (x_si (x_si σ5 a7 (x_I σ5 h 0).toNatClampNeg (i1 / 10)) a9 (x_I (x_si σ5 a7 (x_I σ5 h 0).toNatClampNeg (i1 / 10)) h 0).toNatClampNeg (i1 - i1 / 10 * 10)) h 0)).toNatClampNeg i2) h 0)) + 1).toNatClampNeg 10) h 0)) + 2).toNatClampNeg 50) h 0)) + 3).toNatClampNeg i3) h 0)) + 4) n20 <|
          (x_ck (x_si (x_si (x_si (x_si (x_si (x_si (x_si σ5 a7 (x_I σ5 h 0).toNatClampNeg (i1 / 10)) a9 (x_I (x_si σ5 a7 (x_I σ5 h 0).toNatClampNeg (i1 / 10)) h 0).toNatClampNeg (i1 - i1 / 10 * 10)) a11 (6 * (x_I (x_si (x_si σ5 a7 (x_I σ5 h 0).toNatClampNeg (i1 / 10)) a9 (x_I (x_si σ5 a7 (x_I σ5 h 0).toNatClampNeg (i1 / 10)) h 0).toNatClampNeg (i1 - i1 / 10 * 10)) h 0)).toNatClampNeg i2) a13 ((6 * (x_I (x_si (x_si (x_si σ5 a7 (x_I σ5 h 0).toNatClampNeg (i1 / 10)) a9 (x_I (x_si σ5 a7 (x_I σ5 h 0).toNatClampNeg (i1 / 10)) h 0).toNatClampNeg (i1 - i1 / 10 * 10)) a11 (6 * (x_I (x_si (x_si σ5 a7 (x_I σ5 h 0).toNatClampNeg (i1 / 10)) a9 (x_I (x_si σ5 a7 (x_I σ5 h 0).toNatClampNeg (i1 / 10)) h 0).toNatClampNeg (i1 - i1 / 10 * 10)) h 0)).toNatClampNeg i2) h 0)) + 1).toNatClampNeg 10) a15 ((6 * (x_I (x_si (x_si (x_si (x_si σ5 a7 (x_I σ5 h 0).toNatClampNeg (i1 / 10)) a9 (x_I (x_si σ5 a7 (x_I σ5 h 0).toNatClampNeg (i1 / 10)) h 0).toNatClampNeg (i1 - i1 / 10 * 10)) a11 (6 * (x_I (x_si (x_si σ5 a7 (x_I σ5 h 0).toNatClampNeg (i1 / 10)) a9 (x_I (x_si σ5 a7 (x_I σ5 h 0).toNatClampNeg (i1 / 10)) h 0).toNatClampNeg (i1 - i1 / 10 * 10)) h 0)).toNatClampNeg i2) a13 ((6 * (x_I (x_si (x_si (x_si σ5 a7 (x_I σ5 h 0).toNatClampNeg (i1 / 10)) a9 (x_I (x_si σ5 a7 (x_I σ5 h 0).toNatClampNeg (i1 / 10)) h 0).toNatClampNeg (i1 - i1 / 10 * 10)) a11 (6 * (x_I (x_si (x_si σ5 a7 (x_I σ5 h 0).toNatClampNeg (i1 / 10)) a9 (x_I (x_si σ5 a7 (x_I σ5 h 0).toNatClampNeg (i1 / 10)) h 0).toNatClampNeg (i1 - i1 / 10 * 10)) h 0)).toNatClampNeg i2) h 0)) + 1).toNatClampNeg 10) h 0)) + 2).toNatClampNeg 50) a17 ((6 * (x_I (x_si (x_si (x_si (x_si (x_si σ5 a7 (x_I σ5 h 0).toNatClampNeg (i1 / 10)) a9 (x_I (x_si σ5 a7 (x_I σ5 h 0).toNatClampNeg (i1 / 10)) h 0).toNatClampNeg (i1 - i1 / 10 * 10)) a11 (6 * (x_I (x_si (x_si σ5 a7 (x_I σ5 h 0).toNatClampNeg (i1 / 10)) a9 (x_I (x_si σ5 a7 (x_I σ5 h 0).toNatClampNeg (i1 / 10)) h 0).toNatClampNeg (i1 - i1 / 10 * 10)) h 0)).toNatClampNeg i2) a13 ((6 * (x_I (x_si (x_si (x_si σ5 a7 (x_I σ5 h 0).toNatClampNeg (i1 / 10)) a9 (x_I (x_si σ5 a7 (x_I σ5 h 0).toNatClampNeg (i1 / 10)) h 0).toNatClampNeg (i1 - i1 / 10 * 10)) a11 (6 * (x_I (x_si (x_si σ5 a7 (x_I σ5 h 0).toNatClampNeg (i1 / 10)) a9 (x_I (x_si σ5 a7 (x_I σ5 h 0).toNatClampNeg (i1 / 10)) h 0).toNatClampNeg (i1 - i1 / 10 * 10)) h 0)).toNatClampNeg i2) h 0)) + 1).toNatClampNeg 10) a15 ((6 * (x_I (x_si (x_si (x_si (x_si σ5 a7 (x_I σ5 h 0).toNatClampNeg (i1 / 10)) a9 (x_I (x_si σ5 a7 (x_I σ5 h 0).toNatClampNeg (i1 / 10)) h 0).toNatClampNeg (i1 - i1 / 10 * 10)) a11 (6 * (x_I (x_si (x_si σ5 a7 (x_I σ5 h 0).toNatClampNeg (i1 / 10)) a9 (x_I (x_si σ5 a7 (x_I σ5 h 0).toNatClampNeg (i1 / 10)) h 0).toNatClampNeg (i1 - i1 / 10 * 10)) h 0)).toNatClampNeg i2) a13 ((6 * (x_I (x_si (x_si (x_si σ5 a7 (x_I σ5 h 0).toNatClampNeg (i1 / 10)) a9 (x_I (x_si σ5 a7 (x_I σ5 h 0).toNatClampNeg (i1 / 10)) h 0).toNatClampNeg (i1 - i1 / 10 * 10)) a11 (6 * (x_I (x_si (x_si σ5 a7 (x_I σ5 h 0).toNatClampNeg (i1 / 10)) a9 (x_I (x_si σ5 a7 (x_I σ5 h 0).toNatClampNeg (i1 / 10)) h 0).toNatClampNeg (i1 - i1 / 10 * 10)) h 0)).toNatClampNeg i2) h 0)) + 1).toNatClampNeg 10) h 0)) + 2).toNatClampNeg 50) h 0)) + 3).toNatClampNeg i3) a19 ((6 * (x_I (x_si (x_si (x_si (x_si (x_si (x_si σ5 a7 (x_I σ5 h 0).toNatClampNeg (i1 / 10)) a9 (x_I (x_si σ5 a7 (x_I σ5 h 0).toNatClampNeg (i1 / 10)) h 0).toNatClampNeg (i1 - i1 / 10 * 10)) a11 (6 * (x_I (x_si (x_si σ5 a7 (x_I σ5 h 0).toNatClampNeg (i1 / 10)) a9 (x_I (x_si σ5 a7 (x_I σ5 h 0).toNatClampNeg (i1 / 10)) h 0).toNatClampNeg (i1 - i1 / 10 * 10)) h 0)).toNatClampNeg i2) a13 ((6 * (x_I (x_si (x_si (x_si σ5 a7 (x_I σ5 h 0).toNatClampNeg (i1 / 10)) a9 (x_I (x_si σ5 a7 (x_I σ5 h 0).toNatClampNeg (i1 / 10)) h 0).toNatClampNeg (i1 - i1 / 10 * 10)) a11 (6 * (x_I (x_si (x_si σ5 a7 (x_I σ5 h 0).toNatClampNeg (i1 / 10)) a9 (x_I (x_si σ5 a7 (x_I σ5 h 0).toNatClampNeg (i1 / 10)) h 0).toNatClampNeg (i1 - i1 / 10 * 10)) h 0)).toNatClampNeg i2) h 0)) + 1).toNatClampNeg 10) a15 ((6 * (x_I (x_si (x_si (x_si (x_si σ5 a7 (x_I σ5 h 0).toNatClampNeg (i1 / 10)) a9 (x_I (x_si σ5 a7 (x_I σ5 h 0).toNatClampNeg (i1 / 10)) h 0).toNatClampNeg (i1 - i1 / 10 * 10)) a11 (6 * (x_I (x_si (x_si σ5 a7 (x_I σ5 h 0).toNatClampNeg (i1 / 10)) a9 (x_I (x_si σ5 a7 (x_I σ5 h 0).toNatClampNeg (i1 / 10)) h 0).toNatClampNeg (i1 - i1 / 10 * 10)) h 0)).toNatClampNeg i2) a13 ((6 * (x_I (x_si (x_si (x_si σ5 a7 (x_I σ5 h 0).toNatClampNeg (i1 / 10)) a9 (x_I (x_si σ5 a7 (x_I σ5 h 0).toNatClampNeg (i1 / 10)) h 0).toNatClampNeg (i1 - i1 / 10 * 10)) a11 (6 * (x_I (x_si (x_si σ5 a7 (x_I σ5 h 0).toNatClampNeg (i1 / 10)) a9 (x_I (x_si σ5 a7 (x_I σ5 h 0).toNatClampNeg (i1 / 10)) h 0).toNatClampNeg (i1 - i1 / 10 * 10)) h 0)).toNatClampNeg i2) h 0)) + 1).toNatClampNeg 10) h 0)) + 2).toNatClampNeg 50) a17 ((6 * (x_I (x_si (x_si (x_si (x_si (x_si σ5 a7 (x_I σ5 h 0).toNatClampNeg (i1 / 10)) a9 (x_I (x_si σ5 a7 (x_I σ5 h 0).toNatClampNeg (i1 / 10)) h 0).toNatClampNeg (i1 - i1 / 10 * 10)) a11 (6 * (x_I (x_si (x_si σ5 a7 (x_I σ5 h 0).toNatClampNeg (i1 / 10)) a9 (x_I (x_si σ5 a7 (x_I σ5 h 0).toNatClampNeg (i1 / 10)) h 0).toNatClampNeg (i1 - i1 / 10 * 10)) h 0)).toNatClampNeg i2) a13 ((6 * (x_I (x_si (x_si (x_si σ5 a7 (x_I σ5 h 0).toNatClampNeg (i1 / 10)) a9 (x_I (x_si σ5 a7 (x_I σ5 h 0).toNatClampNeg (i1 / 10)) h 0).toNatClampNeg (i1 - i1 / 10 * 10)) a11 (6 * (x_I (x_si (x_si σ5 a7 (x_I σ5 h 0).toNatClampNeg (i1 / 10)) a9 (x_I (x_si σ5 a7 (x_I σ5 h 0).toNatClampNeg (i1 / 10)) h 0).toNatClampNeg (i1 - i1 / 10 * 10)) h 0)).toNatClampNeg i2) h 0)) + 1).toNatClampNeg 10) a15 ((6 * (x_I (x_si (x_si (x_si (x_si σ5 a7 (x_I σ5 h 0).toNatClampNeg (i1 / 10)) a9 (x_I (x_si σ5 a7 (x_I σ5 h 0).toNatClampNeg (i1 / 10)) h 0).toNatClampNeg (i1 - i1 / 10 * 10)) a11 (6 * (x_I (x_si (x_si σ5 a7 (x_I σ5 h 0).toNatClampNeg (i1 / 10)) a9 (x_I (x_si σ5 a7 (x_I σ5 h 0).toNatClampNeg (i1 / 10)) h 0).toNatClampNeg (i1 - i1 / 10 * 10)) h 0)).toNatClampNeg i2) a13 ((6 * (x_I (x_si (x_si (x_si σ5 a7 (x_I σ5 h 0).toNatClampNeg (i1 / 10)) a9 (x_I (x_si σ5 a7 (x_I σ5 h 0).toNatClampNeg (i1 / 10)) h 0).toNatClampNeg (i1 - i1 / 10 * 10)) a11 (6 * (x_I (x_si (x_si σ5 a7 (x_I σ5 h 0).toNatClampNeg (i1 / 10)) a9 (x_I (x_si σ5 a7 (x_I σ5 h 0).toNatClampNeg (i1 / 10)) h 0).toNatClampNeg (i1 - i1 / 10 * 10)) h 0)).toNatClampNeg i2) h 0)) + 1).toNatClampNeg 10) h 0)) + 2).toNatClampNeg 50) h 0)) + 3).toNatClampNeg i3) h 0)) + 4).toNatClampNeg (-1)) h 10 <|
          (x_ck (x_si (x_si (x_si (x_si (x_si (x_si (x_si σ5 a7 (x_I σ5 h 0).toNatClampNeg (i1 / 10)) a9 (x_I (x_si σ5 a7 (x_I σ5 h 0).toNatClampNeg (i1 / 10)) h 0).toNatClampNeg (i1 - i1 / 10 * 10)) a11 (6 * (x_I (x_si (x_si σ5 a7 (x_I σ5 h 0).toNatClampNeg (i1 / 10)) a9 (x_I (x_si σ5 a7 (x_I σ5 h 0).toNatClampNeg (i1 / 10)) h 0).toNatClampNeg (i1 - i1 / 10 * 10)) h 0)).toNatClampNeg i2) a13 ((6 * (x_I (x_si (x_si (x_si σ5 a7 (x_I σ5 h 0).toNatClampNeg (i1 / 10)) a9 (x_I (x_si σ5 a7 (x_I σ5 h 0).toNatClampNeg (i1 / 10)) h 0).toNatClampNeg (i1 - i1 / 10 * 10)) a11 (6 * (x_I (x_si (x_si σ5 a7 (x_I σ5 h 0).toNatClampNeg (i1 / 10)) a9 (x_I (x_si σ5 a7 (x_I σ5 h 0).toNatClampNeg (i1 / 10)) h 0).toNatClampNeg (i1 - i1 / 10 * 10)) h 0)).toNatClampNeg i2) h 0)) + 1).toNatClampNeg 10) a15 ((6 * (x_I (x_si (x_si (x_si (x_si σ5 a7 (x_I σ5 h 0).toNatClampNeg (i1 / 10)) a9 (x_I (x_si σ5 a7 (x_I σ5 h 0).toNatClampNeg (i1 / 10)) h 0).toNatClampNeg (i1 - i1 / 10 * 10)) a11 (6 * (x_I (x_si (x_si σ5 a7 (x_I σ5 h 0).toNatClampNeg (i1 / 10)) a9 (x_I (x_si σ5 a7 (x_I σ5 h 0).toNatClampNeg (i1 / 10)) h 0).toNatClampNeg (i1 - i1 / 10 * 10)) h 0)).toNatClampNeg i2) a13 ((6 * (x_I (x_si (x_si (x_si σ5 a7 (x_I σ5 h 0).toNatClampNeg (i1 / 10)) a9 (x_I (x_si σ5 a7 (x_I σ5 h 0).toNatClampNeg (i1 / 10)) h 0).toNatClampNeg (i1 - i1 / 10 * 10)) a11 (6 * (x_I (x_si (x_si σ5 a7 (x_I σ5 h 0).toNatClampNeg (i1 / 10)) a9 (x_I (x_si σ5 a7 (x_I σ5 h 0).toNatClampNeg (i1 / 10)) h 0).toNatClampNeg (i1 - i1 / 10 * 10)) h 0)).toNatClampNeg i2) h 0)) + 1).toNatClampNeg 10) h 0)) + 2).toNatClampNeg 50) a17 ((6 * (x_I (x_si (x_si (x_si (x_si (x_si σ5 a7 (x_I σ5 h 0).toNatClampNeg (i1 / 10)) a9 (x_I (x_si σ5 a7 (x_I σ5 h 0).toNatClampNeg (i1 / 10)) h 0).toNatClampNeg (i1 - i1 / 10 * 10)) a11 (6 * (x_I (x_si (x_si σ5 a7 (x_I σ5 h 0).toNatClampNeg (i1 / 10)) a9 (x_I (x_si σ5 a7 (x_I σ5 h 0).toNatClampNeg (i1 / 10)) h 0).toNatClampNeg (i1 - i1 / 10 * 10)) h 0)).toNatClampNeg i2) a13 ((6 * (x_I (x_si (x_si (x_si σ5 a7 (x_I σ5 h 0).toNatClampNeg (i1 / 10)) a9 (x_I (x_si σ5 a7 (x_I σ5 h 0).toNatClampNeg (i1 / 10)) h 0).toNatClampNeg (i1 - i1 / 10 * 10)) a11 (6 * (x_I (x_si (x_si σ5 a7 (x_I σ5 h 0).toNatClampNeg (i1 / 10)) a9 (x_I (x_si σ5 a7 (x_I σ5 h 0).toNatClampNeg (i1 / 10)) h 0).toNatClampNeg (i1 - i1 / 10 * 10)) h 0)).toNatClampNeg i2) h 0)) + 1).toNatClampNeg 10) a15 ((6 * (x_I (x_si (x_si (x_si (x_si σ5 a7 (x_I σ5 h 0).toNatClampNeg (i1 / 10)) a9 (x_I (x_si σ5 a7 (x_I σ5 h 0).toNatClampNeg (i1 / 10)) h 0).toNatClampNeg (i1 - i1 / 10 * 10)) a11 (6 * (x_I (x_si (x_si σ5 a7 (x_I σ5 h 0).toNatClampNeg (i1 / 10)) a9 (x_I (x_si σ5 a7 (x_I σ5 h 0).toNatClampNeg (i1 / 10)) h 0).toNatClampNeg (i1 - i1 / 10 * 10)) h 0)).toNatClampNeg i2) a13 ((6 * (x_I (x_si (x_si (x_si σ5 a7 (x_I σ5 h 0).toNatClampNeg (i1 / 10)) a9 (x_I (x_si σ5 a7 (x_I σ5 h 0).toNatClampNeg (i1 / 10)) h 0).toNatClampNeg (i1 - i1 / 10 * 10)) a11 (6 * (x_I (x_si (x_si σ5 a7 (x_I σ5 h 0).toNatClampNeg (i1 / 10)) a9 (x_I (x_si σ5 a7 (x_I σ5 h 0).toNatClampNeg (i1 / 10)) h 0).toNatClampNeg (i1 - i1 / 10 * 10)) h 0)).toNatClampNeg i2) h 0)) + 1).toNatClampNeg 10) h 0)) + 2).toNatClampNeg 50) h 0)) + 3).toNatClampNeg i3) a19 ((6 * (x_I (x_si (x_si (x_si (x_si (x_si (x_si σ5 a7 (x_I σ5 h 0).toNatClampNeg (i1 / 10)) a9 (x_I (x_si σ5 a7 (x_I σ5 h 0).toNatClampNeg (i1 / 10)) h 0).toNatClampNeg (i1 - i1 / 10 * 10)) a11 (6 * (x_I (x_si (x_si σ5 a7 (x_I σ5 h 0).toNatClampNeg (i1 / 10)) a9 (x_I (x_si σ5 a7 (x_I σ5 h 0).toNatClampNeg (i1 / 10)) h 0).toNatClampNeg (i1 - i1 / 10 * 10)) h 0)).toNatClampNeg i2) a13 ((6 * (x_I (x_si (x_si (x_si σ5 a7 (x_I σ5 h 0).toNatClampNeg (i1 / 10)) a9 (x_I (x_si σ5 a7 (x_I σ5 h 0).toNatClampNeg (i1 / 10)) h 0).toNatClampNeg (i1 - i1 / 10 * 10)) a11 (6 * (x_I (x_si (x_si σ5 a7 (x_I σ5 h 0).toNatClampNeg (i1 / 10)) a9 (x_I (x_si σ5 a7 (x_I σ5 h 0).toNatClampNeg (i1 / 10)) h 0).toNatClampNeg (i1 - i1 / 10 * 10)) h 0)).toNatClampNeg i2) h 0)) + 1).toNatClampNeg 10) a15 ((6 * (x_I (x_si (x_si (x_si (x_si σ5 a7 (x_I σ5 h 0).toNatClampNeg (i1 / 10)) a9 (x_I (x_si σ5 a7 (x_I σ5 h 0).toNatClampNeg (i1 / 10)) h 0).toNatClampNeg (i1 - i1 / 10 * 10)) a11 (6 * (x_I (x_si (x_si σ5 a7 (x_I σ5 h 0).toNatClampNeg (i1 / 10)) a9 (x_I (x_si σ5 a7 (x_I σ5 h 0).toNatClampNeg (i1 / 10)) h 0).toNatClampNeg (i1 - i1 / 10 * 10)) h 0)).toNatClampNeg i2) a13 ((6 * (x_I (x_si (x_si (x_si σ5 a7 (x_I σ5 h 0).toNatClampNeg (i1 / 10)) a9 (x_I (x_si σ5 a7 (x_I σ5 h 0).toNatClampNeg (i1 / 10)) h 0).toNatClampNeg (i1 - i1 / 10 * 10)) a11 (6 * (x_I (x_si (x_si σ5 a7 (x_I σ5 h 0).toNatClampNeg (i1 / 10)) a9 (x_I (x_si σ5 a7 (x_I σ5 h 0).toNatClampNeg (i1 / 10)) h 0).toNatClampNeg (i1 - i1 / 10 * 10)) h 0)).toNatClampNeg i2) h 0)) + 1).toNatClampNeg 10) h 0)) + 2).toNatClampNeg 50) a17 ((6 * (x_I (x_si (x_si (x_si (x_si (x_si σ5 a7 (x_I σ5 h 0).toNatClampNeg (i1 / 10)) a9 (x_I (x_si σ5 a7 (x_I σ5 h 0).toNatClampNeg (i1 / 10)) h 0).toNatClampNeg (i1 - i1 / 10 * 10)) a11 (6 * (x_I (x_si (x_si σ5 a7 (x_I σ5 h 0).toNatClampNeg (i1 / 10)) a9 (x_I (x_si σ5 a7 (x_I σ5 h 0).toNatClampNeg (i1 / 10)) h 0).toNatClampNeg (i1 - i1 / 10 * 10)) h 0)).toNatClampNeg i2) a13 ((6 * (x_I (x_si (x_si (x_si σ5 a7 (x_I σ5 h 0).toNatClampNeg (i1 / 10)) a9 (x_I (x_si σ5 a7 (x_I σ5 h 0).toNatClampNeg (i1 / 10)) h 0).toNatClampNeg (i1 - i1 / 10 * 10)) a11 (6 * (x_I (x_si (x_si σ5 a7 (x_I σ5 h 0).toNatClampNeg (i1 / 10)) a9 (x_I (x_si σ5 a7 (x_I σ5 h 0).toNatClampNeg (i1 / 10)) h 0).toNatClampNeg (i1 - i1 / 10 * 10)) h 0)).toNatClampNeg i2) h 0)) + 1).toNatClampNeg 10) a15 ((6 * (x_I (x_si (x_si (x_si (x_si σ5 a7 (x_I σ5 h 0).toNatClampNeg (i1 / 10)) a9 (x_I (x_si σ5 a7 (x_I σ5 h 0).toNatClampNeg (i1 / 10)) h 0).toNatClampNeg (i1 - i1 / 10 * 10)) a11 (6 * (x_I (x_si (x_si σ5 a7 (x_I σ5 h 0).toNatClampNeg (i1 / 10)) a9 (x_I (x_si σ5 a7 (x_I σ5 h 0).toNatClampNeg (i1 / 10)) h 0).toNatClampNeg (i1 - i1 / 10 * 10)) h 0)).toNatClampNeg i2) a13 ((6 * (x_I (x_si (x_si (x_si σ5 a7 (x_I σ5 h 0).toNatClampNeg (i1 / 10)) a9 (x_I (x_si σ5 a7 (x_I σ5 h 0).toNatClampNeg (i1 / 10)) h 0).toNatClampNeg (i1 - i1 / 10 * 10)) a11 (6 * (x_I (x_si (x_si σ5 a7 (x_I σ5 h 0).toNatClampNeg (i1 / 10)) a9 (x_I (x_si σ5 a7 (x_I σ5 h 0).toNatClampNeg (i1 / 10)) h 0).toNatClampNeg (i1 - i1 / 10 * 10)) h 0)).toNatClampNeg i2) h 0)) + 1).toNatClampNeg 10) h 0)) + 2).toNatClampNeg 50) h 0)) + 3).toNatClampNeg i3) h 0)) + 4).toNatClampNeg (-1)) h 10 <|
          (x_der (x_Q (x_si (x_si (x_si (x_si (x_si (x_si (x_si σ5 a7 (x_I σ5 h 0).toNatClampNeg (i1 / 10)) a9 (x_I (x_si σ5 a7 (x_I σ5 h 0).toNatClampNeg (i1 / 10)) h 0).toNatClampNeg (i1 - i1 / 10 * 10)) a11 (6 * (x_I (x_si (x_si σ5 a7 (x_I σ5 h 0).toNatClampNeg (i1 / 10)) a9 (x_I (x_si σ5 a7 (x_I σ5 h 0).toNatClampNeg (i1 / 10)) h 0).toNatClampNeg (i1 - i1 / 10 * 10)) h 0)).toNatClampNeg i2) a13 ((6 * (x_I (x_si (x_si (x_si σ5 a7 (x_I σ5 h 0).toNatClampNeg (i1 / 10)) a9 (x_I (x_si σ5 a7 (x_I σ5 h 0).toNatClampNeg (i1 / 10)) h 0).toNatClampNeg (i1 - i1 / 10 * 10)) a11 (6 * (x_I (x_si (x_si σ5 a7 (x_I σ5 h 0).toNatClampNeg (i1 / 10)) a9 (x_I (x_si σ5 a7 (x_I σ5 h 0).toNatClampNeg (i1 / 10)) h 0).toNatClampNeg (i1 - i1 / 10 * 10)) h 0)).toNatClampNeg i2) h 0)) + 1).toNatClampNeg 10) a15 ((6 * (x_I (x_si (x_si (x_si (x_si σ5 a7 (x_I σ5 h 0).toNatClampNeg (i1 / 10)) a9 (x_I (x_si σ5 a7 (x_I σ5 h 0).toNatClampNeg (i1 / 10)) h 0).toNatClampNeg (i1 - i1 / 10 * 10)) a11 (6 * (x_I (x_si (x_si σ5 a7 (x_I σ5 h 0).toNatClampNeg (i1 / 10)) a9 (x_I (x_si σ5 a7 (x_I σ5 h 0).toNatClampNeg (i1 / 10)) h 0).toNatClampNeg (i1 - i1 / 10 * 10)) h 0)).toNatClampNeg i2) a13 ((6 * (x_I (x_si (x_si (x_si σ5 a7 (x_I σ5 h 0).toNatClampNeg (i1 / 10)) a9 (x_I (x_si σ5 a7 (x_I σ5 h 0).toNatClampNeg (i1 / 10)) h 0).toNatClampNeg (i1 - i1 / 10 * 10)) a11 (6 * (x_I (x_si (x_si σ5 a7 (x_I σ5 h 0).toNatClampNeg (i1 / 10)) a9 (x_I (x_si σ5 a7 (x_I σ5 h 0).toNatClampNeg (i1 / 10)) h 0).toNatClampNeg (i1 - i1 / 10 * 10)) h 0)).toNatClampNeg i2) h 0)) + 1).toNatClampNeg 10) h 0)) + 2).toNatClampNeg 50) a17 ((6 * (x_I (x_si (x_si (x_si (x_si (x_si σ5 a7 (x_I σ5 h 0).toNatClampNeg (i1 / 10)) a9 (x_I (x_si σ5 a7 (x_I σ5 h 0).toNatClampNeg (i1 / 10)) h 0).toNatClampNeg (i1 - i1 / 10 * 10)) a11 (6 * (x_I (x_si (x_si σ5 a7 (x_I σ5 h 0).toNatClampNeg (i1 / 10)) a9 (x_I (x_si σ5 a7 (x_I σ5 h 0).toNatClampNeg (i1 / 10)) h 0).toNatClampNeg (i1 - i1 / 10 * 10)) h 0)).toNatClampNeg i2) a13 ((6 * (x_I (x_si (x_si (x_si σ5 a7 (x_I σ5 h 0).toNatClampNeg (i1 / 10)) a9 (x_I (x_si σ5 a7 (x_I σ5 h 0).toNatClampNeg (i1 / 10)) h 0).toNatClampNeg (i1 - i1 / 10 * 10)) a11 (6 * (x_I (x_si (x_si σ5 a7 (x_I σ5 h 0).toNatClampNeg (i1 / 10)) a9 (x_I (x_si σ5 a7 (x_I σ5 h 0).toNatClampNeg (i1 / 10)) h 0).toNatClampNeg (i1 - i1 / 10 * 10)) h 0)).toNatClampNeg i2) h 0)) + 1).toNatClampNeg 10) a15 ((6 * (x_I (x_si (x_si (x_si (x_si σ5 a7 (x_I σ5 h 0).toNatClampNeg (i1 / 10)) a9 (x_I (x_si σ5 a7 (x_I σ5 h 0).toNatClampNeg (i1 / 10)) h 0).toNatClampNeg (i1 - i1 / 10 * 10)) a11 (6 * (x_I (x_si (x_si σ5 a7 (x_I σ5 h 0).toNatClampNeg (i1 / 10)) a9 (x_I (x_si σ5 a7 (x_I σ5 h 0).toNatClampNeg (i1 / 10)) h 0).toNatClampNeg (i1 - i1 / 10 * 10)) h 0)).toNatClampNeg i2) a13 ((6 * (x_I (x_si (x_si (x_si σ5 a7 (x_I σ5 h 0).toNatClampNeg (i1 / 10)) a9 (x_I (x_si σ5 a7 (x_I σ5 h 0).toNatClampNeg (i1 / 10)) h 0).toNatClampNeg (i1 - i1 / 10 * 10)) a11 (6 * (x_I (x_si (x_si σ5 a7 (x_I σ5 h 0).toNatClampNeg (i1 / 10)) a9 (x_I (x_si σ5 a7 (x_I σ5 h 0).toNatClampNeg (i1 / 10)) h 0).toNatClampNeg (i1 - i1 / 10 * 10)) h 0)).toNatClampNeg i2) h 0)) + 1).toNatClampNeg 10) h 0)) + 2).toNatClampNeg 50) h 0)) + 3).toNatClampNeg i3) a19 ((6 * (x_I (x_si (x_si (x_si (x_si (x_si (x_si σ5 a7 (x_I σ5 h 0).toNatClampNeg (i1 / 10)) a9 (x_I (x_si σ5 a7 (x_I σ5 h 0).toNatClampNeg (i1 / 10)) h 0).toNatClampNeg (i1 - i1 / 10 * 10)) a11 (6 * (x_I (x_si (x_si σ5 a7 (x_I σ5 h 0).toNatClampNeg (i1 / 10)) a9 (x_I (x_si σ5 a7 (x_I σ5 h 0).toNatClampNeg (i1 / 10)) h 0).toNatClampNeg (i1 - i1 / 10 * 10)) h 0)).toNatClampNeg i2) a13 ((6 * (x_I (x_si (x_si (x_si σ5 a7 (x_I σ5 h 0).toNatClampNeg (i1 / 10)) a9 (x_I (x_si σ5 a7 (x_I σ5 h 0).toNatClampNeg (i1 / 10)) h 0).toNatClampNeg (i1 - i1 / 10 * 10)) a11 (6 * (x_I (x_si (x_si σ5 a7 (x_I σ5 h 0).toNatClampNeg (i1 / 10)) a9 (x_I (x_si σ5 a7 (x_I σ5 h 0).toNatClampNeg (i1 / 10)) h 0).toNatClampNeg (i1 - i1 / 10 * 10)) h 0)).toNatClampNeg i2) h 0)) + 1).toNatClampNeg 10) a15 ((6 * (x_I (x_si (x_si (x_si (x_si σ5 a7 (x_I σ5 h 0).toNatClampNeg (i1 / 10)) a9 (x_I (x_si σ5 a7 (x_I σ5 h 0).toNatClampNeg (i1 / 10)) h 0).toNatClampNeg (i1 - i1 / 10 * 10)) a11 (6 * (x_I (x_si (x_si σ5 a7 (x_I σ5 h 0).toNatClampNeg (i1 / 10)) a9 (x_I (x_si σ5 a7 (x_I σ5 h 0).toNatClampNeg (i1 / 10)) h 0).toNatClampNeg (i1 - i1 / 10 * 10)) h 0)).toNatClampNeg i2) a13 ((6 * (x_I (x_si (x_si (x_si σ5 a7 (x_I σ5 h 0).toNatClampNeg (i1 / 10)) a9 (x_I (x_si σ5 a7 (x_I σ5 h 0).toNatClampNeg (i1 / 10)) h 0).toNatClampNeg (i1 - i1 / 10 * 10)) a11 (6 * (x_I (x_si (x_si σ5 a7 (x_I σ5 h 0).toNatClampNeg (i1 / 10)) a9 (x_I (x_si σ5 a7 (x_I σ5 h 0).toNatClampNeg (i1 / 10)) h 0).toNatClampNeg (i1 - i1 / 10 * 10)) h 0)).toNatClampNeg i2) h 0)) + 1).toNatClampNeg 10) h 0)) + 2).toNatClampNeg 50) a17 ((6 * (x_I (x_si (x_si (x_si (x_si (x_si σ5 a7 (x_I σ5 h 0).toNatClampNeg (i1 / 10)) a9 (x_I (x_si σ5 a7 (x_I σ5 h 0).toNatClampNeg (i1 / 10)) h 0).toNatClampNeg (i1 - i1 / 10 * 10)) a11 (6 * (x_I (x_si (x_si σ5 a7 (x_I σ5 h 0).toNatClampNeg (i1 / 10)) a9 (x_I (x_si σ5 a7 (x_I σ5 h 0).toNatClampNeg (i1 / 10)) h 0).toNatClampNeg (i1 - i1 / 10 * 10)) h 0)).toNatClampNeg i2) a13 ((6 * (x_I (x_si (x_si (x_si σ5 a7 (x_I σ5 h 0).toNatClampNeg (i1 / 10)) a9 (x_I (x_si σ5 a7 (x_I σ5 h 0).toNatClampNeg (i1 / 10)) h 0).toNatClampNeg (i1 - i1 / 10 * 10)) a11 (6 * (x_I (x_si (x_si σ5 a7 (x_I σ5 h 0).toNatClampNeg (i1 / 10)) a9 (x_I (x_si σ5 a7 (x_I σ5 h 0).toNatClampNeg (i1 / 10)) h 0).toNatClampNeg (i1 - i1 / 10 * 10)) h 0)).toNatClampNeg i2) h 0)) + 1).toNatClampNeg 10) a15 ((6 * (x_I (x_si (x_si (x_si (x_si σ5 a7 (x_I σ5 h 0).toNatClampNeg (i1 / 10)) a9 (x_I (x_si σ5 a7 (x_I σ5 h 0).toNatClampNeg (i1 / 10)) h 0).toNatClampNeg (i1 - i1 / 10 * 10)) a11 (6 * (x_I (x_si (x_si σ5 a7 (x_I σ5 h 0).toNatClampNeg (i1 / 10)) a9 (x_I (x_si σ5 a7 (x_I σ5 h 0).toNatClampNeg (i1 / 10)) h 0).toNatClampNeg (i1 - i1 / 10 * 10)) h 0)).toNatClampNeg i2) a13 ((6 * (x_I (x_si (x_si (x_si σ5 a7 (x_I σ5 h 0).toNatClampNeg (i1 / 10)) a9 (x_I (x_si σ5 a7 (x_I σ5 h 0).toNatClampNeg (i1 / 10)) h 0).toNatClampNeg (i1 - i1 / 10 * 10)) a11 (6 * (x_I (x_si (x_si σ5 a7 (x_I σ5 h 0).toNatClampNeg (i1 / 10)) a9 (x_I (x_si σ5 a7 (x_I σ5 h 0).toNatClampNeg (i1 / 10)) h 0).toNatClampNeg (i1 - i1 / 10 * 10)) h 0)).toNatClampNeg i2) h 0)) + 1).toNatClampNeg 10) h 0)) + 2).toNatClampNeg 50) h 0)) + 3).toNatClampNeg i3) h 0)) + 4).toNatClampNeg (-1)) h 3) fun a21 => x_ak (x_si (x_si (x_si (x_si (x_si (x_si (x_si σ5 a7 (x_I σ5 h 0).toNatClampNeg (i1 / 10)) a9 (x_I (x_si σ5 a7 (x_I σ5 h 0).toNatClampNeg (i1 / 10)) h 0).toNatClampNeg (i1 - i1 / 10 * 10)) a11 (6 * (x_I (x_si (x_si σ5 a7 (x_I σ5 h 0).toNatClampNeg (i1 / 10)) a9 (x_I (x_si σ5 a7 (x_I σ5 h 0).toNatClampNeg (i1 / 10)) h 0).toNatClampNeg (i1 - i1 / 10 * 10)) h 0)).toNatClampNeg i2) a13 ((6 * (x_I (x_si (x_si (x_si σ5 a7 (x_I σ5 h 0).toNatClampNeg (i1 / 10)) a9 (x_I (x_si σ5 a7 (x_I σ5 h 0).toNatClampNeg (i1 / 10)) h 0).toNatClampNeg (i1 - i1 / 10 * 10)) a11 (6 * (x_I (x_si (x_si σ5 a7 (x_I σ5 h 0).toNatClampNeg (i1 / 10)) a9 (x_I (x_si σ5 a7 (x_I σ5 h 0).toNatClampNeg (i1 / 10)) h 0).toNatClampNeg (i1 - i1 / 10 * 10)) h 0)).toNatClampNeg i2) h 0)) + 1).toNatClampNeg 10) a15 ((6 * (x_I (x_si (x_si (x_si (x_si σ5 a7 (x_I σ5 h 0).toNatClampNeg (i1 / 10)) a9 (x_I (x_si σ5 a7 (x_I σ5 h 0).toNatClampNeg (i1 / 10)) h 0).toNatClampNeg (i1 - i1 / 10 * 10)) a11 (6 * (x_I (x_si (x_si σ5 a7 (x_I σ5 h 0).toNatClampNeg (i1 / 10)) a9 (x_I (x_si σ5 a7 (x_I σ5 h 0).toNatClampNeg (i1 / 10)) h 0).toNatClampNeg (i1 - i1 / 10 * 10)) h 0)).toNatClampNeg i2) a13 ((6 * (x_I (x_si (x_si (x_si σ5 a7 (x_I σ5 h 0).toNatClampNeg (i1 / 10)) a9 (x_I (x_si σ5 a7 (x_I σ5 h 0).toNatClampNeg (i1 / 10)) h 0).toNatClampNeg (i1 - i1 / 10 * 10)) a11 (6 * (x_I (x_si (x_si σ5 a7 (x_I σ5 h 0).toNatClampNeg (i1 / 10)) a9 (x_I (x_si σ5 a7 (x_I σ5 h 0).toNatClampNeg (i1 / 10)) h 0).toNatClampNeg (i1 - i1 / 10 * 10)) h 0)).toNatClampNeg i2) h 0)) + 1).toNatClampNeg 10) h 0)) + 2).toNatClampNeg 50) a17 ((6 * (x_I (x_si (x_si (x_si (x_si (x_si σ5 a7 (x_I σ5 h 0).toNatClampNeg (i1 / 10)) a9 (x_I (x_si σ5 a7 (x_I σ5 h 0).toNatClampNeg (i1 / 10)) h 0).toNatClampNeg (i1 - i1 / 10 * 10)) a11 (6 * (x_I (x_si (x_si σ5 a7 (x_I σ5 h 0).toNatClampNeg (i1 / 10)) a9 (x_I (x_si σ5 a7 (x_I σ5 h 0).toNatClampNeg (i1 / 10)) h 0).toNatClampNeg (i1 - i1 / 10 * 10)) h 0)).toNatClampNeg i2) a13 ((6 * (x_I (x_si (x_si (x_si σ5 a7 (x_I σ5 h 0).toNatClampNeg (i1 / 10)) a9 (x_I (x_si σ5 a7 (x_I σ5 h 0).toNatClampNeg (i1 / 10)) h 0).toNatClampNeg (i1 - i1 / 10 * 10)) a11 (6 * (x_I (x_si (x_si σ5 a7 (x_I σ5 h 0).toNatClampNeg (i1 / 10)) a9 (x_I (x_si σ5 a7 (x_I σ5 h 0).toNatClampNeg (i1 / 10)) h 0).toNatClampNeg (i1 - i1 / 10 * 10)) h 0)).toNatClampNeg i2) h 0)) + 1).toNatClampNeg 10) a15 ((6 * (x_I (x_si (x_si (x_si (x_si σ5 a7 (x_I σ5 h 0).toNatClampNeg (i1 / 10)) a9 (x_I (x_si σ5 a7 (x_I σ5 h 0).toNatClampNeg (i1 / 10)) h 0).toNatClampNeg (i1 - i1 / 10 * 10)) a11 (6 * (x_I (x_si (x_si σ5 a7 (x_I σ5 h 0).toNatClampNeg (i1 / 10)) a9 (x_I (x_si σ5 a7 (x_I σ5 h 0).toNatClampNeg (i1 / 10)) h 0).toNatClampNeg (i1 - i1 / 10 * 10)) h 0)).toNatClampNeg i2) a13 ((6 * (x_I (x_si (x_si (x_si σ5 a7 (x_I σ5 h 0).toNatClampNeg (i1 / 10)) a9 (x_I (x_si σ5 a7 (x_I σ5 h 0).toNatClampNeg (i1 / 10)) h 0).toNatClampNeg (i1 - i1 / 10 * 10)) a11 (6 * (x_I (x_si (x_si σ5 a7 (x_I σ5 h 0).toNatClampNeg (i1 / 10)) a9 (x_I (x_si σ5 a7 (x_I σ5 h 0).toNatClampNeg (i1 / 10)) h 0).toNatClampNeg (i1 - i1 / 10 * 10)) h 0)).toNatClampNeg i2) h 0)) + 1).toNatClampNeg 10) h 0)) + 2).toNatClampNeg 50) h 0)) + 3).toNatClampNeg i3) a19 ((6 * (x_I (x_si (x_si (x_si (x_si (x_si (x_si σ5 a7 (x_I σ5 h 0).toNatClampNeg (i1 / 10)) a9 (x_I (x_si σ5 a7 (x_I σ5 h 0).toNatClampNeg (i1 / 10)) h 0).toNatClampNeg (i1 - i1 / 10 * 10)) a11 (6 * (x_I (x_si (x_si σ5 a7 (x_I σ5 h 0).toNatClampNeg (i1 / 10)) a9 (x_I (x_si σ5 a7 (x_I σ5 h 0).toNatClampNeg (i1 / 10)) h 0).toNatClampNeg (i1 - i1 / 10 * 10)) h 0)).toNatClampNeg i2) a13 ((6 * (x_I (x_si (x_si (x_si σ5 a7 (x_I σ5 h 0).toNatClampNeg (i1 / 10)) a9 (x_I (x_si σ5 a7 (x_I σ5 h 0).toNatClampNeg (i1 / 10)) h 0).toNatClampNeg (i1 - i1 / 10 * 10)) a11 (6 * (x_I (x_si (x_si σ5 a7 (x_I σ5 h 0).toNatClampNeg (i1 / 10)) a9 (x_I (x_si σ5 a7 (x_I σ5 h 0).toNatClampNeg (i1 / 10)) h 0).toNatClampNeg (i1 - i1 / 10 * 10)) h 0)).toNatClampNeg i2) h 0)) + 1).toNatClampNeg 10) a15 ((6 * (x_I (x_si (x_si (x_si (x_si σ5 a7 (x_I σ5 h 0).toNatClampNeg (i1 / 10)) a9 (x_I (x_si σ5 a7 (x_I σ5 h 0).toNatClampNeg (i1 / 10)) h 0).toNatClampNeg (i1 - i1 / 10 * 10)) a11 (6 * (x_I (x_si (x_si σ5 a7 (x_I σ5 h 0).toNatClampNeg (i1 / 10)) a9 (x_I (x_si σ5 a7 (x_I σ5 h 0).toNatClampNeg (i1 / 10)) h 0).toNatClampNeg (i1 - i1 / 10 * 10)) h 0)).toNatClampNeg i2) a13 ((6 * (x_I (x_si (x_si (x_si σ5 a7 (x_I σ5 h 0).toNatClampNeg (i1 / 10)) a9 (x_I (x_si σ5 a7 (x_I σ5 h 0).toNatClampNeg (i1 / 10)) h 0).toNatClampNeg (i1 - i1 / 10 * 10)) a11 (6 * (x_I (x_si (x_si σ5 a7 (x_I σ5 h 0).toNatClampNeg (i1 / 10)) a9 (x_I (x_si σ5 a7 (x_I σ5 h 0).toNatClampNeg (i1 / 10)) h 0).toNatClampNeg (i1 - i1 / 10 * 10)) h 0)).toNatClampNeg i2) h 0)) + 1).toNatClampNeg 10) h 0)) + 2).toNatClampNeg 50) a17 ((6 * (x_I (x_si (x_si (x_si (x_si (x_si σ5 a7 (x_I σ5 h 0).toNatClampNeg (i1 / 10)) a9 (x_I (x_si σ5 a7 (x_I σ5 h 0).toNatClampNeg (i1 / 10)) h 0).toNatClampNeg (i1 - i1 / 10 * 10)) a11 (6 * (x_I (x_si (x_si σ5 a7 (x_I σ5 h 0).toNatClampNeg (i1 / 10)) a9 (x_I (x_si σ5 a7 (x_I σ5 h 0).toNatClampNeg (i1 / 10)) h 0).toNatClampNeg (i1 - i1 / 10 * 10)) h 0)).toNatClampNeg i2) a13 ((6 * (x_I (x_si (x_si (x_si σ5 a7 (x_I σ5 h 0).toNatClampNeg (i1 / 10)) a9 (x_I (x_si σ5 a7 (x_I σ5 h 0).toNatClampNeg (i1 / 10)) h 0).toNatClampNeg (i1 - i1 / 10 * 10)) a11 (6 * (x_I (x_si (x_si σ5 a7 (x_I σ5 h 0).toNatClampNeg (i1 / 10)) a9 (x_I (x_si σ5 a7 (x_I σ5 h 0).toNatClampNeg (i1 / 10)) h 0).toNatClampNeg (i1 - i1 / 10 * 10)) h 0)).toNatClampNeg i2) h 0)) + 1).toNatClampNeg 10) a15 ((6 * (x_I (x_si (x_si (x_si (x_si σ5 a7 (x_I σ5 h 0).toNatClampNeg (i1 / 10)) a9 (x_I (x_si σ5 a7 (x_I σ5 h 0).toNatClampNeg (i1 / 10)) h 0).toNatClampNeg (i1 - i1 / 10 * 10)) a11 (6 * (x_I (x_si (x_si σ5 a7 (x_I σ5 h 0).toNatClampNeg (i1 / 10)) a9 (x_I (x_si σ5 a7 (x_I σ5 h 0).toNatClampNeg (i1 / 10)) h 0).toNatClampNeg (i1 - i1 / 10 * 10)) h 0)).toNatClampNeg i2) a13 ((6 * (x_I (x_si (x_si (x_si σ5 a7 (x_I σ5 h 0).toNatClampNeg (i1 / 10)) a9 (x_I (x_si σ5 a7 (x_I σ5 h 0).toNatClampNeg (i1 / 10)) h 0).toNatClampNeg (i1 - i1 / 10 * 10)) a11 (6 * (x_I (x_si (x_si σ5 a7 (x_I σ5 h 0).toNatClampNeg (i1 / 10)) a9 (x_I (x_si σ5 a7 (x_I σ5 h 0).toNatClampNeg (i1 / 10)) h 0).toNatClampNeg (i1 - i1 / 10 * 10)) h 0)).toNatClampNeg i2) h 0)) + 1).toNatClampNeg 10) h 0)) + 2).toNatClampNeg 50) h 0)) + 3).toNatClampNeg i3) h 0)) + 4).toNatClampNeg (-1)) a21 11 fun n22 => x_ix ((6 * (x_I (x_si (x_si (x_si (x_si (x_si (x_si (x_si σ5 a7 (x_I σ5 h 0).toNatClampNeg (i1 / 10)) a9 (x_I (x_si σ5 a7 (x_I σ5 h 0).toNatClampNeg (i1 / 10)) h 0).toNatClampNeg (i1 - i1 / 10 * 10)) a11 (6 * (x_I (x_si (x_si σ5 a7 (x_I σ5 h 0).toNatClampNeg (i1 / 10)) a9 (x_I (x_si σ5 a7 (x_I σ5 h 0).toNatClampNeg (i1 / 10)) h 0).toNatClampNeg (i1 - i1 / 10 * 10)) h 0)).toNatClampNeg i2) a13 ((6 * (x_I (x_si (x_si (x_si σ5 a7 (x_I σ5 h 0).toNatClampNeg (i1 / 10)) a9 (x_I (x_si σ5 a7 (x_I σ5 h 0).toNatClampNeg (i1 / 10)) h 0).toNatClampNeg (i1 - i1 / 10 * 10)) a11 (6 * (x_I (x_si (x_si σ5 a7 (x_I σ5 h 0).toNatClampNeg (i1 / 10)) a9 (x_I (x_si σ5 a7 (x_I σ5 h 0).toNatClampNeg (i1 / 10)) h 0).toNatClampNeg (i1 - i1 / 10 * 10)) h 0)).toNatClampNeg i2) h 0)) + 1).toNatClampNeg 10) a15 ((6 * (x_I (x_si (x_si (x_si (x_si σ5 a7 (x_I σ5 h 0).toNatClampNeg (i1 / 10)) a9 (x_I (x_si σ5 a7 (x_I σ5 h 0).toNatClampNeg (i1 / 10)) h 0).toNatClampNeg (i1 - i1 / 10 * 10)) a11 (6 * (x_I (x_si (x_si σ5 a7 (x_I σ5 h 0).toNatClampNeg (i1 / 10)) a9 (x_I (x_si σ5 a7 (x_I σ5 h 0).toNatClampNeg (i1 / 10)) h 0).toNatClampNeg (i1 - i1 / 10 * 10)) h 0)).toNatClampNeg i2) a13 ((6 * (x_I (x_si (x_si (x_si σ5 a7 (x_I σ5 h 0).toNatClampNeg (i1 / 10)) a9 (x_I (x_si σ5 a7 (x_I σ5 h 0).toNatClampNeg (i1 / 10)) h 0).toNatClampNeg (i1 - i1 / 10 * 10)) a11 (6 * (x_I (x_si (x_si σ5 a7 (x_I σ5 h 0).toNatClampNeg (i1 / 10)) a9 (x_I (x_si σ5 a7 (x_I σ5 h 0).toNatClampNeg (i1 / 10)) h 0).toNatClampNeg (i1 - i1 / 10 * 10)) h 0)).toNatClampNeg i2) h 0)) + 1).toNatClampNeg 10) h 0)) + 2).toNatClampNeg 50) a17 ((6 * (x_I (x_si (x_si (x_si (x_si (x_si σ5 a7 (x_I σ5 h 0).toNatClampNeg (i1 / 10)) a9 (x_I (x_si σ5 a7 (x_I σ5 h 0).toNatClampNeg (i1 / 10)) h 0).toNatClampNeg (i1 - i1 / 10 * 10)) a11 (6 * (x_I (x_si (x_si σ5 a7 (x_I σ5 h 0).toNatClampNeg (i1 / 10)) a9 (x_I (x_si σ5 a7 (x_I σ5 h 0).toNatClampNeg (i1 / 10)) h 0).toNatClampNeg (i1 - i1 / 10 * 10)) h 0)).toNatClampNeg i2) a13 ((6 * (x_I (x_si (x_si (x_si σ5 a7 (x_I σ5 h 0).toNatClampNeg (i1 / 10)) a9 (x_I (x_si σ5 a7 (x_I σ5 h 0).toNatClampNeg (i1 / 10)) h 0).toNatClampNeg (i1 - i1 / 10 * 10)) a11 (6 * (x_I (x_si (x_si σ5 a7 (x_I σ5 h 0).toNatClampNeg (i1 / 10)) a9 (x_I (x_si σ5 a7 (x_I σ5 h 0).toNatClampNeg (i1 / 10)) h 0).toNatClampNeg (i1 - i1 / 10 * 10)) h 0)).toNatClampNeg i2) h 0)) + 1).toNatClampNeg 10) a15 ((6 * (x_I (x_si (x_si (x_si (x_si σ5 a7 (x_I σ5 h 0).toNatClampNeg (i1 / 10)) a9 (x_I (x_si σ5 a7 (x_I σ5 h 0).toNatClampNeg (i1 / 10)) h 0).toNatClampNeg (i1 - i1 / 10 * 10)) a11 (6 * (x_I (x_si (x_si σ5 a7 (x_I σ5 h 0).toNatClampNeg (i1 / 10)) a9 (x_I (x_si σ5 a7 (x_I σ5 h 0).toNatClampNeg (i1 / 10)) h 0).toNatClampNeg (i1 - i1 / 10 * 10)) h 0)).toNatClampNeg i2) a13 ((6 * (x_I (x_si (x_si (x_si σ5 a7 (x_I σ5 h 0).toNatClampNeg (i1 / 10)) a9 (x_I (x_si σ5 a7 (x_I σ5 h 0).toNatClampNeg (i1 / 10)) h 0).toNatClampNeg (i1 - i1 / 10 * 10)) a11 (6 * (x_I (x_si (x_si σ5 a7 (x_I σ5 h 0).toNatClampNeg (i1 / 10)) a9 (x_I (x_si σ5 a7 (x_I σ5 h 0).toNatClampNeg (i1 / 10)) h 0).toNatClampNeg (i1 - i1 / 10 * 10)) h 0)).toNatClampNeg i2) h 0)) + 1).toNatClampNeg 10) h 0)) + 2).toNatClampNeg 50) h 0)) + 3).toNatClampNeg i3) a19 ((6 * (x_I (x_si (x_si (x_si (x_si (x_si (x_si σ5 a7 (x_I σ5 h 0).toNatClampNeg (i1 / 10)) a9 (x_I (x_si σ5 a7 (x_I σ5 h 0).toNatClampNeg (i1 / 10)) h 0).toNatClampNeg (i1 - i1 / 10 * 10)) a11 (6 * (x_I (x_si (x_si σ5 a7 (x_I σ5 h 0).toNatClampNeg (i1 / 10)) a9 (x_I (x_si σ5 a7 (x_I σ5 h 0).toNatClampNeg (i1 / 10)) h 0).toNatClampNeg (i1 - i1 / 10 * 10)) h 0)).toNatClampNeg i2) a13 ((6 * (x_I (x_si (x_si (x_si σ5 a7 (x_I σ5 h 0).toNatClampNeg (i1 / 10)) a9 (x_I (x_si σ5 a7 (x_I σ5 h 0).toNatClampNeg (i1 / 10)) h 0).toNatClampNeg (i1 - i1 / 10 * 10)) a11 (6 * (x_I (x_si (x_si σ5 a7 (x_I σ5 h 0).toNatClampNeg (i1 / 10)) a9 (x_I (x_si σ5 a7 (x_I σ5 h 0).toNatClampNeg (i1 / 10)) h 0).toNatClampNeg (i1 - i1 / 10 * 10)) h 0)).toNatClampNeg i2) h 0)) + 1).toNatClampNeg 10) a15 ((6 * (x_I (x_si (x_si (x_si (x_si σ5 a7 (x_I σ5 h 0).toNatClampNeg (i1 / 10)) a9 (x_I (x_si σ5 a7 (x_I σ5 h 0).toNatClampNeg (i1 / 10)) h 0).toNatClampNeg (i1 - i1 / 10 * 10)) a11 (6 * (x_I (x_si (x_si σ5 a7 (x_I σ5 h 0).toNatClampNeg (i1 / 10)) a9 (x_I (x_si σ5 a7 (x_I σ5 h 0).toNatClampNeg (i1 / 10)) h 0).toNatClampNeg (i1 - i1 / 10 * 10)) h 0)).toNatClampNeg i2) a13 ((6 * (x_I (x_si (x_si (x_si σ5 a7 (x_I σ5 h 0).toNatClampNeg (i1 / 10)) a9 (x_I (x_si σ5 a7 (x_I σ5 h 0).toNatClampNeg (i1 / 10)) h 0).toNatClampNeg (i1 - i1 / 10 * 10)) a11 (6 * (x_I (x_si (x_si σ5 a7 (x_I σ5 h 0).toNatClampNeg (i1 / 10)) a9 (x_I (x_si σ5 a7 (x_I σ5 h 0).toNatClampNeg (i1 / 10)) h 0).toNatClampNeg (i1 - i1 / 10 * 10)) h 0)).toNatClampNeg i2) h 0)) + 1).toNatClampNeg 10) h 0)) + 2).toNatClampNeg 50) a17 ((6 * (x_I (x_si (x_si (x_si (x_si (x_si σ5 a7 (x_I σ5 h 0).toNatClampNeg (i1 / 10)) a9 (x_I (x_si σ5 a7 (x_I σ5 h 0).toNatClampNeg (i1 / 10)) h 0).toNatClampNeg (i1 - i1 / 10 * 10)) a11 (6 * (x_I (x_si (x_si σ5 a7 (x_I σ5 h 0).toNatClampNeg (i1 / 10)) a9 (x_I (x_si σ5 a7 (x_I σ5 h 0).toNatClampNeg (i1 / 10)) h 0).toNatClampNeg (i1 - i1 / 10 * 10)) h 0)).toNatClampNeg i2) a13 ((6 * (x_I (x_si (x_si (x_si σ5 a7 (x_I σ5 h 0).toNatClampNeg (i1 / 10)) a9 (x_I (x_si σ5 a7 (x_I σ5 h 0).toNatClampNeg (i1 / 10)) h 0).toNatClampNeg (i1 - i1 / 10 * 10)) a11 (6 * (x_I (x_si (x_si σ5 a7 (x_I σ5 h 0).toNatClampNeg (i1 / 10)) a9 (x_I (x_si σ5 a7 (x_I σ5 h 0).toNatClampNeg (i1 / 10)) h 0).toNatClampNeg (i1 - i1 / 10 * 10)) h 0)).toNatClampNeg i2) h 0)) + 1).toNatClampNeg 10) a15 ((6 * (x_I (x_si (x_si (x_si (x_si σ5 a7 (x_I σ5 h 0).toNatClampNeg (i1 / 10)) a9 (x_I (x_si σ5 a7 (x_I σ5 h 0).toNatClampNeg (i1 / 10)) h 0).toNatClampNeg (i1 - i1 / 10 * 10)) a11 (6 * (x_I (x_si (x_si σ5 a7 (x_I σ5 h 0).toNatClampNeg (i1 / 10)) a9 (x_I (x_si σ5 a7 (x_I σ5 h 0).toNatClampNeg (i1 / 10)) h 0).toNatClampNeg (i1 - i1 / 10 * 10)) h 0)).toNatClampNeg i2) a13 ((6 * (x_I (x_si (x_si (x_si σ5 a7 (x_I σ5 h 0).toNatClampNeg (i1 / 10)) a9 (x_I (x_si σ5 a7 (x_I σ5 h 0).toNatClampNeg (i1 / 10)) h 0).toNatClampNeg (i1 - i1 / 10 * 10)) a11 (6 * (x_I (x_si (x_si σ5 a7 (x_I σ5 h 0).toNatClampNeg (i1 / 10)) a9 (x_I (x_si σ5 a7 (x_I σ5 h 0).toNatClampNeg (i1 / 10)) h 0).toNatClampNeg (i1 - i1 / 10 * 10)) h 0)).toNatClampNeg i2) h 0)) + 1).toNatClampNeg 10) h 0)) + 2).toNatClampNeg 50) h 0)) + 3).toNatClampNeg i3) h 0)) + 4).toNatClampNeg (-1)) h 0)) + 5) n22 <|
          (x_ck (x_si (x_si (x_si (x_si (x_si (x_si (x_si (x_si σ5 a7 (x_I σ5 h 0).toNatClampNeg (i1 / 10)) a9 (x_I (x_si σ5 a7 (x_I σ5 h 0).toNatClampNeg (i1 / 10)) h 0).toNatClampNeg (i1 - i1 / 10 * 10)) a11 (6 * (x_I (x_si (x_si σ5 a7 (x_I σ5 h 0).toNatClampNeg (i1 / 10)) a9 (x_I (x_si σ5 a7 (x_I σ5 h 0).toNatClampNeg (i1 / 10)) h 0).toNatClampNeg (i1 - i1 / 10 * 10)) h 0)).toNatClampNeg i2) a13 ((6 * (x_I (x_si (x_si (x_si σ5 a7 (x_I σ5 h 0).toNatClampNeg (i1 / 10)) a9 (x_I (x_si σ5 a7 (x_I σ5 h 0).toNatClampNeg (i1 / 10)) h 0).toNatClampNeg (i1 - i1 / 10 * 10)) a11 (6 * (x_I (x_si (x_si σ5 a7 (x_I σ5 h 0).toNatClampNeg (i1 / 10)) a9 (x_I (x_si σ5 a7 (x_I σ5 h 0).toNatClampNeg (i1 / 10)) h 0).toNatClampNeg (i1 - i1 / 10 * 10)) h 0)).toNatClampNeg i2) h 0)) + 1).toNatClampNeg 10) a15 ((6 * (x_I (x_si (x_si (x_si (x_si σ5 a7 (x_I σ5 h 0).toNatClampNeg (i1 / 10)) a9 (x_I (x_si σ5 a7 (x_I σ5 h 0).toNatClampNeg (i1 / 10)) h 0).toNatClampNeg (i1 - i1 / 10 * 10)) a11 (6 * (x_I (x_si (x_si σ5 a7 (x_I σ5 h 0).toNatClampNeg (i1 / 10)) a9 (x_I (x_si σ5 a7 (x_I σ5 h 0).toNatClampNeg (i1 / 10)) h 0).toNatClampNeg (i1 - i1 / 10 * 10)) h 0)).toNatClampNeg i2) a13 ((6 * (x_I (x_si (x_si (x_si σ5 a7 (x_I σ5 h 0).toNatClampNeg (i1 / 10)) a9 (x_I (x_si σ5 a7 (x_I σ5 h 0).toNatClampNeg (i1 / 10)) h 0).toNatClampNeg (i1 - i1 / 10 * 10)) a11 (6 * (x_I (x_si (x_si σ5 a7 (x_I σ5 h 0).toNatClampNeg (i1 / 10)) a9 (x_I (x_si σ5 a7 (x_I σ5 h 0).toNatClampNeg (i1 / 10)) h 0).toNatClampNeg (i1 - i1 / 10 * 10)) h 0)).toNatClampNeg i2) h 0)) + 1).toNatClampNeg 10) h 0)) + 2).toNatClampNeg 50) a17 ((6 * (x_I (x_si (x_si (x_si (x_si (x_si σ5 a7 (x_I σ5 h 0).toNatClampNeg (i1 / 10)) a9 (x_I (x_si σ5 a7 (x_I σ5 h 0).toNatClampNeg (i1 / 10)) h 0).toNatClampNeg (i1 - i1 / 10 * 10)) a11 (6 * (x_I (x_si (x_si σ5 a7 (x_I σ5 h 0).toNatClampNeg (i1 / 10)) a9 (x_I (x_si σ5 a7 (x_I σ5 h 0).toNatClampNeg (i1 / 10)) h 0).toNatClampNeg (i1 - i1 / 10 * 10)) h 0)).toNatClampNeg i2) a13 ((6 * (x_I (x_si (x_si (x_si σ5 a7 (x_I σ5 h 0).toNatClampNeg (i1 / 10)) a9 (x_I (x_si σ5 a7 (x_I σ5 h 0).toNatClampNeg (i1 / 10)) h 0).toNatClampNeg (i1 - i1 / 10 * 10)) a11 (6 * (x_I (x_si (x_si σ5 a7 (x_I σ5 h 0).toNatClampNeg (i1 / 10)) a9 (x_I (x_si σ5 a7 (x_I σ5 h 0).toNatClampNeg (i1 / 10)) h 0).toNatClampNeg (i1 - i1 / 10 * 10)) h 0)).toNatClampNeg i2) h 0)) + 1).toNatClampNeg 10) a15 ((6 * (x_I (x_si (x_si (x_si (x_si σ5 a7 (x_I σ5 h 0).toNatClampNeg (i1 / 10)) a9 (x_I (x_si σ5 a7 (x_I σ5 h 0).toNatClampNeg (i1 / 10)) h 0).toNatClampNeg (i1 - i1 / 10 * 10)) a11 (6 * (x_I (x_si (x_si σ5 a7 (x_I σ5 h 0).toNatClampNeg (i1 / 10)) a9 (x_I (x_si σ5 a7 (x_I σ5 h 0).toNatClampNeg (i1 / 10)) h 0).toNatClampNeg (i1 - i1 / 10 * 10)) h 0)).toNatClampNeg i2) a13 ((6 * (x_I (x_si (x_si (x_si σ5 a7 (x_I σ5 h 0).toNatClampNeg (i1 / 10)) a9 (x_I (x_si σ5 a7 (x_I σ5 h 0).toNatClampNeg (i1 / 10)) h 0).toNatClampNeg (i1 - i1 / 10 * 10)) a11 (6 * (x_I (x_si (x_si σ5 a7 (x_I σ5 h 0).toNatClampNeg (i1 / 10)) a9 (x_I (x_si σ5 a7 (x_I σ5 h 0).toNatClampNeg (i1 / 10)) h 0).toNatClampNeg (i1 - i1 / 10 * 10)) h 0)).toNatClampNeg i2) h 0)) + 1).toNatClampNeg 10) h 0)) + 2).toNatClampNeg 50) h 0)) + 3).toNatClampNeg i3) a19 ((6 * (x_I (x_si (x_si (x_si (x_si (x_si (x_si σ5 a7 (x_I σ5 h 0).toNatClampNeg (i1 / 10)) a9 (x_I (x_si σ5 a7 (x_I σ5 h 0).toNatClampNeg (i1 / 10)) h 0).toNatClampNeg (i1 - i1 / 10 * 10)) a11 (6 * (x_I (x_si (x_si σ5 a7 (x_I σ5 h 0).toNatClampNeg (i1 / 10)) a9 (x_I (x_si σ5 a7 (x_I σ5 h 0).toNatClampNeg (i1 / 10)) h 0).toNatClampNeg (i1 - i1 / 10 * 10)) h 0)).toNatClampNeg i2) a13 ((6 * (x_I (x_si (x_si (x_si σ5 a7 (x_I σ5 h 0).toNatClampNeg (i1 / 10)) a9 (x_I (x_si σ5 a7 (x_I σ5 h 0).toNatClampNeg (i1 / 10)) h 0).toNatClampNeg (i1 - i1 / 10 * 10)) a11 (6 * (x_I (x_si (x_si σ5 a7 (x_I σ5 h 0).toNatClampNeg (i1 / 10)) a9 (x_I (x_si σ5 a7 (x_I σ5 h 0).toNatClampNeg (i1 / 10)) h 0).toNatClampNeg (i1 - i1 / 10 * 10)) h 0)).toNatClampNeg i2) h 0)) + 1).toNatClampNeg 10) a15 ((6 * (x_I (x_si (x_si (x_si (x_si σ5 a7 (x_I σ5 h 0).toNatClampNeg (i1 / 10)) a9 (x_I (x_si σ5 a7 (x_I σ5 h 0).toNatClampNeg (i1 / 10)) h 0).toNatClampNeg (i1 - i1 / 10 * 10)) a11 (6 * (x_I (x_si (x_si σ5 a7 (x_I σ5 h 0).toNatClampNeg (i1 / 10)) a9 (x_I (x_si σ5 a7 (x_I σ5 h 0).toNatClampNeg (i1 / 10)) h 0).toNatClampNeg (i1 - i1 / 10 * 10)) h 0)).toNatClampNeg i2) a13 ((6 * (x_I (x_si (x_si (x_si σ5 a7 (x_I σ5 h 0).toNatClampNeg (i1 / 10)) a9 (x_I (x_si σ5 a7 (x_I σ5 h 0).toNatClampNeg (i1 / 10)) h 0).toNatClampNeg (i1 - i1 / 10 * 10)) a11 (6 * (x_I (x_si (x_si σ5 a7 (x_I σ5 h 0).toNatClampNeg (i1 / 10)) a9 (x_I (x_si σ5 a7 (x_I σ5 h 0).toNatClampNeg (i1 / 10)) h 0).toNatClampNeg (i1 - i1 / 10 * 10)) h 0)).toNatClampNeg i2) h 0)) + 1).toNatClampNeg 10) h 0)) + 2).toNatClampNeg 50) a17 ((6 * (x_I (x_si (x_si (x_si (x_si (x_si σ5 a7 (x_I σ5 h 0).toNatClampNeg (i1 / 10)) a9 (x_I (x_si σ5 a7 (x_I σ5 h 0).toNatClampNeg (i1 / 10)) h 0).toNatClampNeg (i1 - i1 / 10 * 10)) a11 (6 * (x_I (x_si (x_si σ5 a7 (x_I σ5 h 0).toNatClampNeg (i1 / 10)) a9 (x_I (x_si σ5 a7 (x_I σ5 h 0).toNatClampNeg (i1 / 10)) h 0).toNatClampNeg (i1 - i1 / 10 * 10)) h 0)).toNatClampNeg i2) a13 ((6 * (x_I (x_si (x_si (x_si σ5 a7 (x_I σ5 h 0).toNatClampNeg (i1 / 10)) a9 (x_I (x_si σ5 a7 (x_I σ5 h 0).toNatClampNeg (i1 / 10)) h 0).toNatClampNeg (i1 - i1 / 10 * 10)) a11 (6 * (x_I (x_si (x_si σ5 a7 (x_I σ5 h 0).toNatClampNeg (i1 / 10)) a9 (x_I (x_si σ5 a7 (x_I σ5 h 0).toNatClampNeg (i1 / 10)) h 0).toNatClampNeg (i1 - i1 / 10 * 10)) h 0)).toNatClampNeg i2) h 0)) + 1).toNatClampNeg 10) a15 ((6 * (x_I (x_si (x_si (x_si (x_si σ5 a7 (x_I σ5 h 0).toNatClampNeg (i1 / 10)) a9 (x_I (x_si σ5 a7 (x_I σ5 h 0).toNatClampNeg (i1 / 10)) h 0).toNatClampNeg (i1 - i1 / 10 * 10)) a11 (6 * (x_I (x_si (x_si σ5 a7 (x_I σ5 h 0).toNatClampNeg (i1 / 10)) a9 (x_I (x_si σ5 a7 (x_I σ5 h 0).toNatClampNeg (i1 / 10)) h 0).toNatClampNeg (i1 - i1 / 10 * 10)) h 0)).toNatClampNeg i2) a13 ((6 * (x_I (x_si (x_si (x_si σ5 a7 (x_I σ5 h 0).toNatClampNeg (i1 / 10)) a9 (x_I (x_si σ5 a7 (x_I σ5 h 0).toNatClampNeg (i1 / 10)) h 0).toNatClampNeg (i1 - i1 / 10 * 10)) a11 (6 * (x_I (x_si (x_si σ5 a7 (x_I σ5 h 0).toNatClampNeg (i1 / 10)) a9 (x_I (x_si σ5 a7 (x_I σ5 h 0).toNatClampNeg (i1 / 10)) h 0).toNatClampNeg (i1 - i1 / 10 * 10)) h 0)).toNatClampNeg i2) h 0)) + 1).toNatClampNeg 10) h 0)) + 2).toNatClampNeg 50) h 0)) + 3).toNatClampNeg i3) h 0)) + 4).toNatClampNeg (-1)) a21 ((6 * (x_I (x_si (x_si (x_si (x_si (x_si (x_si (x_si σ5 a7 (x_I σ5 h 0).toNatClampNeg (i1 / 10)) a9 (x_I (x_si σ5 a7 (x_I σ5 h 0).toNatClampNeg (i1 / 10)) h 0).toNatClampNeg (i1 - i1 / 10 * 10)) a11 (6 * (x_I (x_si (x_si σ5 a7 (x_I σ5 h 0).toNatClampNeg (i1 / 10)) a9 (x_I (x_si σ5 a7 (x_I σ5 h 0).toNatClampNeg (i1 / 10)) h 0).toNatClampNeg (i1 - i1 / 10 * 10)) h 0)).toNatClampNeg i2) a13 ((6 * (x_I (x_si (x_si (x_si σ5 a7 (x_I σ5 h 0).toNatClampNeg (i1 / 10)) a9 (x_I (x_si σ5 a7 (x_I σ5 h 0).toNatClampNeg (i1 / 10)) h 0).toNatClampNeg (i1 - i1 / 10 * 10)) a11 (6 * (x_I (x_si (x_si σ5 a7 (x_I σ5 h 0).toNatClampNeg (i1 / 10)) a9 (x_I (x_si σ5 a7 (x_I σ5 h 0).toNatClampNeg (i1 / 10)) h 0).toNatClampNeg (i1 - i1 / 10 * 10)) h 0)).toNatClampNeg i2) h 0)) + 1).toNatClampNeg 10) a15 ((6 * (x_I (x_si (x_si (x_si (x_si σ5 a7 (x_I σ5 h 0).toNatClampNeg (i1 / 10)) a9 (x_I (x_si σ5 a7 (x_I σ5 h 0).toNatClampNeg (i1 / 10)) h 0).toNatClampNeg (i1 - i1 / 10 * 10)) a11 (6 * (x_I (x_si (x_si σ5 a7 (x_I σ5 h 0).toNatClampNeg (i1 / 10)) a9 (x_I (x_si σ5 a7 (x_I σ5 h 0).toNatClampNeg (i1 / 10)) h 0).toNatClampNeg (i1 - i1 / 10 * 10)) h 0)).toNatClampNeg i2) a13 ((6 * (x_I (x_si (x_si (x_si σ5 a7 (x_I σ5 h 0).toNatClampNeg (i1 / 10)) a9 (x_I (x_si σ5 a7 (x_I σ5 h 0).toNatClampNeg (i1 / 10)) h 0).toNatClampNeg (i1 - i1 / 10 * 10)) a11 (6 * (x_I (x_si (x_si σ5 a7 (x_I σ5 h 0).toNatClampNeg (i1 / 10)) a9 (x_I (x_si σ5 a7 (x_I σ5 h 0).toNatClampNeg (i1 / 10)) h 0).toNatClampNeg (i1 - i1 / 10 * 10)) h 0)).toNatClampNeg i2) h 0)) + 1).toNatClampNeg 10) h 0)) + 2).toNatClampNeg 50) a17 ((6 * (x_I (x_si (x_si (x_si (x_si (x_si σ5 a7 (x_I σ5 h 0).toNatClampNeg (i1 / 10)) a9 (x_I (x_si σ5 a7 (x_I σ5 h 0).toNatClampNeg (i1 / 10)) h 0).toNatClampNeg (i1 - i1 / 10 * 10)) a11 (6 * (x_I (x_si (x_si σ5 a7 (x_I σ5 h 0).toNatClampNeg (i1 / 10)) a9 (x_I (x_si σ5 a7 (x_I σ5 h 0).toNatClampNeg (i1 / 10)) h 0).toNatClampNeg (i1 - i1 / 10 * 10)) h 0)).toNatClampNeg i2) a13 ((6 * (x_I (x_si (x_si (x_si σ5 a7 (x_I σ5 h 0).toNatClampNeg (i1 / 10)) a9 (x_I (x_si σ5 a7 (x_I σ5 h 0).toNatClampNeg (i1 / 10)) h 0).toNatClampNeg (i1 - i1 / 10 * 10)) a11 (6 * (x_I (x_si (x_si σ5 a7 (x_I σ5 h 0).toNatClampNeg (i1 / 10)) a9 (x_I (x_si σ5 a7 (x_I σ5 h 0).toNatClampNeg (i1 / 10)) h 0).toNatClampNeg (i1 - i1 / 10 * 10)) h 0)).toNatClampNeg i2) h 0)) + 1).toNatClampNeg 10) a15 ((6 * (x_I (x_si (x_si (x_si (x_si σ5 a7 (x_I σ5 h 0).toNatClampNeg (i1 / 10)) a9 (x_I (x_si σ5 a7 (x_I σ5 h 0).toNatClampNeg (i1 / 10)) h 0).toNatClampNeg (i1 - i1 / 10 * 10)) a11 (6 * (x_I (x_si (x_si σ5 a7 (x_I σ5 h 0).toNatClampNeg (i1 / 10)) a9 (x_I (x_si σ5 a7 (x_I σ5 h 0).toNatClampNeg (i1 / 10)) h 0).toNatClampNeg (i1 - i1 / 10 * 10)) h 0)).toNatClampNeg i2) a13 ((6 * (x_I (x_si (x_si (x_si σ5 a7 (x_I σ5 h 0).toNatClampNeg (i1 / 10)) a9 (x_I (x_si σ5 a7 (x_I σ5 h 0).toNatClampNeg (i1 / 10)) h 0).toNatClampNeg (i1 - i1 / 10 * 10)) a11 (6 * (x_I (x_si (x_si σ5 a7 (x_I σ5 h 0).toNatClampNeg (i1 / 10)) a9 (x_I (x_si σ5 a7 (x_I σ5 h 0).toNatClampNeg (i1 / 10)) h 0).toNatClampNeg (i1 - i1 / 10 * 10)) h 0)).toNatClampNeg i2) h 0)) + 1).toNatClampNeg 10) h 0)) + 2).toNatClampNeg 50) h 0)) + 3).toNatClampNeg i3) a19 ((6 * (x_I (x_si (x_si (x_si (x_si (x_si (x_si σ5 a7 (x_I σ5 h 0).toNatClampNeg (i1 / 10)) a9 (x_I (x_si σ5 a7 (x_I σ5 h 0).toNatClampNeg (i1 / 10)) h 0).toNatClampNeg (i1 - i1 / 10 * 10)) a11 (6 * (x_I (x_si (x_si σ5 a7 (x_I σ5 h 0).toNatClampNeg (i1 / 10)) a9 (x_I (x_si σ5 a7 (x_I σ5 h 0).toNatClampNeg (i1 / 10)) h 0).toNatClampNeg (i1 - i1 / 10 * 10)) h 0)).toNatClampNeg i2) a13 ((6 * (x_I (x_si (x_si (x_si σ5 a7 (x_I σ5 h 0).toNatClampNeg (i1 / 10)) a9 (x_I (x_si σ5 a7 (x_I σ5 h 0).toNatClampNeg (i1 / 10)) h 0).toNatClampNeg (i1 - i1 / 10 * 10)) a11 (6 * (x_I (x_si (x_si σ5 a7 (x_I σ5 h 0).toNatClampNeg (i1 / 10)) a9 (x_I (x_si σ5 a7 (x_I σ5 h 0).toNatClampNeg (i1 / 10)) h 0).toNatClampNeg (i1 - i1 / 10 * 10)) h 0)).toNatClampNeg i2) h 0)) + 1).toNatClampNeg 10) a15 ((6 * (x_I (x_si (x_si (x_si (x_si σ5 a7 (x_I σ5 h 0).toNatClampNeg (i1 / 10)) a9 (x_I (x_si σ5 a7 (x_I σ5 h 0).toNatClampNeg (i1 / 10)) h 0).toNatClampNeg (i1 - i1 / 10 * 10)) a11 (6 * (x_I (x_si (x_si σ5 a7 (x_I σ5 h 0).toNatClampNeg (i1 / 10)) a9 (x_I (x_si σ5 a7 (x_I σ5 h 0).toNatClampNeg (i1 / 10)) h 0).toNatClampNeg (i1 - i1 / 10 * 10)) h 0)).toNatClampNeg i2) a13 ((6 * (x_I (x_si (x_si (x_si σ5 a7 (x_I σ5 h 0).toNatClampNeg (i1 / 10)) a9 (x_I (x_si σ5 a7 (x_I σ5 h 0).toNatClampNeg (i1 / 10)) h 0).toNatClampNeg (i1 - i1 / 10 * 10)) a11 (6 * (x_I (x_si (x_si σ5 a7 (x_I σ5 h 0).toNatClampNeg (i1 / 10)) a9 (x_I (x_si σ5 a7 (x_I σ5 h 0).toNatClampNeg (i1 / 10)) h 0).toNatClampNeg (i1 - i1 / 10 * 10)) h 0)).toNatClampNeg i2) h 0)) + 1).toNatClampNeg 10) h 0)) + 2).toNatClampNeg 50) a17 ((6 * (x_I (x_si (x_si (x_si (x_si (x_si σ5 a7 (x_I σ5 h 0).toNatClampNeg (i1 / 10)) a9 (x_I (x_si σ5 a7 (x_I σ5 h 0).toNatClampNeg (i1 / 10)) h 0).toNatClampNeg (i1 - i1 / 10 * 10)) a11 (6 * (x_I (x_si (x_si σ5 a7 (x_I σ5 h 0).toNatClampNeg (i1 / 10)) a9 (x_I (x_si σ5 a7 (x_I σ5 h 0).toNatClampNeg (i1 / 10)) h 0).toNatClampNeg (i1 - i1 / 10 * 10)) h 0)).toNatClampNeg i2) a13 ((6 * (x_I (x_si (x_si (x_si σ5 a7 (x_I σ5 h 0).toNatClampNeg (i1 / 10)) a9 (x_I (x_si σ5 a7 (x_I σ5 h 0).toNatClampNeg (i1 / 10)) h 0).toNatClampNeg (i1 - i1 / 10 * 10)) a11 (6 * (x_I (x_si (x_si σ5 a7 (x_I σ5 h 0).toNatClampNeg (i1 / 10)) a9 (x_I (x_si σ5 a7 (x_I σ5 h 0).toNatClampNeg (i1 / 10)) h 0).toNatClampNeg (i1 - i1 / 10 * 10)) h 0)).toNatClampNeg i2) h 0)) + 1).toNatClampNeg 10) a15 ((6 * (x_I (x_si (x_si (x_si (x_si σ5 a7 (x_I σ5 h 0).toNatClampNeg (i1 / 10)) a9 (x_I (x_si σ5 a7 (x_I σ5 h 0).toNatClampNeg (i1 / 10)) h 0).toNatClampNeg (i1 - i1 / 10 * 10)) a11 (6 * (x_I (x_si (x_si σ5 a7 (x_I σ5 h 0).toNatClampNeg (i1 / 10)) a9 (x_I (x_si σ5 a7 (x_I σ5 h 0).toNatClampNeg (i1 / 10)) h 0).toNatClampNeg (i1 - i1 / 10 * 10)) h 0)).toNatClampNeg i2) a13 ((6 * (x_I (x_si (x_si (x_si σ5 a7 (x_I σ5 h 0).toNatClampNeg (i1 / 10)) a9 (x_I (x_si σ5 a7 (x_I σ5 h 0).toNatClampNeg (i1 / 10)) h 0).toNatClampNeg (i1 - i1 / 10 * 10)) a11 (6 * (x_I (x_si (x_si σ5 a7 (x_I σ5 h 0).toNatClampNeg (i1 / 10)) a9 (x_I (x_si σ5 a7 (x_I σ5 h 0).toNatClampNeg (i1 / 10)) h 0).toNatClampNeg (i1 - i1 / 10 * 10)) h 0)).toNatClampNeg i2) h 0)) + 1).toNatClampNeg 10) h 0)) + 2).toNatClampNeg 50) h 0)) + 3).toNatClampNeg i3) h 0)) + 4).toNatClampNeg (-1)) h 0)) + 5).toNatClampNeg 0) h 10 <|
          (x_ck (x_si (x_si (x_si (x_si (x_si (x_si (x_si (x_si σ5 a7 (x_I σ5 h 0).toNatClampNeg (i1 / 10)) a9 (x_I (x_si σ5 a7 (x_I σ5 h 0).toNatClampNeg (i1 / 10)) h 0).toNatClampNeg (i1 - i1 / 10 * 10)) a11 (6 * (x_I (x_si (x_si σ5 a7 (x_I σ5 h 0).toNatClampNeg (i1 / 10)) a9 (x_I (x_si σ5 a7 (x_I σ5 h 0).toNatClampNeg (i1 / 10)) h 0).toNatClampNeg (i1 - i1 / 10 * 10)) h 0)).toNatClampNeg i2) a13 ((6 * (x_I (x_si (x_si (x_si σ5 a7 (x_I σ5 h 0).toNatClampNeg (i1 / 10)) a9 (x_I (x_si σ5 a7 (x_I σ5 h 0).toNatClampNeg (i1 / 10)) h 0).toNatClampNeg (i1 - i1 / 10 * 10)) a11 (6 * (x_I (x_si (x_si σ5 a7 (x_I σ5 h 0).toNatClampNeg (i1 / 10)) a9 (x_I (x_si σ5 a7 (x_I σ5 h 0).toNatClampNeg (i1 / 10)) h 0).toNatClampNeg (i1 - i1 / 10 * 10)) h 0)).toNatClampNeg i2) h 0)) + 1).toNatClampNeg 10) a15 ((6 * (x_I (x_si (x_si (x_si (x_si σ5 a7 (x_I σ5 h 0).toNatClampNeg (i1 / 10)) a9 (x_I (x_si σ5 a7 (x_I σ5 h 0).toNatClampNeg (i1 / 10)) h 0).toNatClampNeg (i1 - i1 / 10 * 10)) a11 (6 * (x_I (x_si (x_si σ5 a7 (x_I σ5 h 0).toNatClampNeg (i1 / 10)) a9 (x_I (x_si σ5 a7 (x_I σ5 h 0).toNatClampNeg (i1 / 10)) h 0).toNatClampNeg (i1 - i1 / 10 * 10)) h 0)).toNatClampNeg i2) a13 ((6 * (x_I (x_si (x_si (x_si σ5 a7 (x_I σ5 h 0).toNatClampNeg (i1 / 10)) a9 (x_I (x_si σ5 a7 (x_I σ5 h 0).toNatClampNeg (i1 / 10)) h 0).toNatClampNeg (i1 - i1 / 10 * 10)) a11 (6 * (x_I (x_si (x_si σ5 a7 (x_I σ5 h 0).toNatClampNeg (i1 / 10)) a9 (x_I (x_si σ5 a7 (x_I σ5 h 0).toNatClampNeg (i1 / 10)) h 0).toNatClampNeg (i1 - i1 / 10 * 10)) h 0)).toNatClampNeg i2) h 0)) + 1).toNatClampNeg 10) h 0)) + 2).toNatClampNeg 50) a17 ((6 * (x_I (x_si (x_si (x_si (x_si (x_si σ5 a7 (x_I σ5 h 0).toNatClampNeg (i1 / 10)) a9 (x_I (x_si σ5 a7 (x_I σ5 h 0).toNatClampNeg (i1 / 10)) h 0).toNatClampNeg (i1 - i1 / 10 * 10)) a11 (6 * (x_I (x_si (x_si σ5 a7 (x_I σ5 h 0).toNatClampNeg (i1 / 10)) a9 (x_I (x_si σ5 a7 (x_I σ5 h 0).toNatClampNeg (i1 / 10)) h 0).toNatClampNeg (i1 - i1 / 10 * 10)) h 0)).toNatClampNeg i2) a13 ((6 * (x_I (x_si (x_si (x_si σ5 a7 (x_I σ5 h 0).toNatClampNeg (i1 / 10)) a9 (x_I (x_si σ5 a7 (x_I σ5 h 0).toNatClampNeg (i1 / 10)) h 0).toNatClampNeg (i1 - i1 / 10 * 10)) a11 (6 * (x_I (x_si (x_si σ5 a7 (x_I σ5 h 0).toNatClampNeg (i1 / 10)) a9 (x_I (x_si σ5 a7 (x_I σ5 h 0).toNatClampNeg (i1 / 10)) h 0).toNatClampNeg (i1 - i1 / 10 * 10)) h 0)).toNatClampNeg i2) h 0)) + 1).toNatClampNeg 10) a15 ((6 * (x_I (x_si (x_si (x_si (x_si σ5 a7 (x_I σ5 h 0).toNatClampNeg (i1 / 10)) a9 (x_I (x_si σ5 a7 (x_I σ5 h 0).toNatClampNeg (i1 / 10)) h 0).toNatClampNeg (i1 - i1 / 10 * 10)) a11 (6 * (x_I (x_si (x_si σ5 a7 (x_I σ5 h 0).toNatClampNeg (i1 / 10)) a9 (x_I (x_si σ5 a7 (x_I σ5 h 0).toNatClampNeg (i1 / 10)) h 0).toNatClampNeg (i1 - i1 / 10 * 10)) h 0)).toNatClampNeg i2) a13 ((6 * (x_I (x_si (x_si (x_si σ5 a7 (x_I σ5 h 0).toNatClampNeg (i1 / 10)) a9 (x_I (x_si σ5 a7 (x_I σ5 h 0).toNatClampNeg (i1 / 10)) h 0).toNatClampNeg (i1 - i1 / 10 * 10)) a11 (6 * (x_I (x_si (x_si σ5 a7 (x_I σ5 h 0).toNatClampNeg (i1 / 10)) a9 (x_I (x_si σ5 a7 (x_I σ5 h 0).toNatClampNeg (i1 / 10)) h 0).toNatClampNeg (i1 - i1 / 10 * 10)) h 0)).toNatClampNeg i2) h 0)) + 1).toNatClampNeg 10) h 0)) + 2).toNatClampNeg 50) h 0)) + 3).toNatClampNeg i3) a19 ((6 * (x_I (x_si (x_si (x_si (x_si (x_si (x_si σ5 a7 (x_I σ5 h 0).toNatClampNeg (i1 / 10)) a9 (x_I (x_si σ5 a7 (x_I σ5 h 0).toNatClampNeg (i1 / 10)) h 0).toNatClampNeg (i1 - i1 / 10 * 10)) a11 (6 * (x_I (x_si (x_si σ5 a7 (x_I σ5 h 0).toNatClampNeg (i1 / 10)) a9 (x_I (x_si σ5 a7 (x_I σ5 h 0).toNatClampNeg (i1 / 10)) h 0).toNatClampNeg (i1 - i1 / 10 * 10)) h 0)).toNatClampNeg i2) a13 ((6 * (x_I (x_si (x_si (x_si σ5 a7 (x_I σ5 h 0).toNatClampNeg (i1 / 10)) a9 (x_I (x_si σ5 a7 (x_I σ5 h 0).toNatClampNeg (i1 / 10)) h 0).toNatClampNeg (i1 - i1 / 10 * 10)) a11 (6 * (x_I (x_si (x_si σ5 a7 (x_I σ5 h 0).toNatClampNeg (i1 / 10)) a9 (x_I (x_si σ5 a7 (x_I σ5 h 0).toNatClampNeg (i1 / 10)) h 0).toNatClampNeg (i1 - i1 / 10 * 10)) h 0)).toNatClampNeg i2) h 0)) + 1).toNatClampNeg 10) a15 ((6 * (x_I (x_si (x_si (x_si (x_si σ5 a7 (x_I σ5 h 0).toNatClampNeg (i1 / 10)) a9 (x_I (x_si σ5 a7 (x_I σ5 h 0).toNatClampNeg (i1 / 10)) h 0).toNatClampNeg (i1 - i1 / 10 * 10)) a11 (6 * (x_I (x_si (x_si σ5 a7 (x_I σ5 h 0).toNatClampNeg (i1 / 10)) a9 (x_I (x_si σ5 a7 (x_I σ5 h 0).toNatClampNeg (i1 / 10)) h 0).toNatClampNeg (i1 - i1 / 10 * 10)) h 0)).toNatClampNeg i2) a13 ((6 * (x_I (x_si (x_si (x_si σ5 a7 (x_I σ5 h 0).toNatClampNeg (i1 / 10)) a9 (x_I (x_si σ5 a7 (x_I σ5 h 0).toNatClampNeg (i1 / 10)) h 0).toNatClampNeg (i1 - i1 / 10 * 10)) a11 (6 * (x_I (x_si (x_si σ5 a7 (x_I σ5 h 0).toNatClampNeg (i1 / 10)) a9 (x_I (x_si σ5 a7 (x_I σ5 h 0).toNatClampNeg (i1 / 10)) h 0).toNatClampNeg (i1 - i1 / 10 * 10)) h 0)).toNatClampNeg i2) h 0)) + 1).toNatClampNeg 10) h 0)) + 2).toNatClampNeg 50) a17 ((6 * (x_I (x_si (x_si (x_si (x_si (x_si σ5 a7 (x_I σ5 h 0).toNatClampNeg (i1 / 10)) a9 (x_I (x_si σ5 a7 (x_I σ5 h 0).toNatClampNeg (i1 / 10)) h 0).toNatClampNeg (i1 - i1 / 10 * 10)) a11 (6 * (x_I (x_si (x_si σ5 a7 (x_I σ5 h 0).toNatClampNeg (i1 / 10)) a9 (x_I (x_si σ5 a7 (x_I σ5 h 0).toNatClampNeg (i1 / 10)) h 0).toNatClampNeg (i1 - i1 / 10 * 10)) h 0)).toNatClampNeg i2) a13 ((6 * (x_I (x_si (x_si (x_si σ5 a7 (x_I σ5 h 0).toNatClampNeg (i1 / 10)) a9 (x_I (x_si σ5 a7 (x_I σ5 h 0).toNatClampNeg (i1 / 10)) h 0).toNatClampNeg (i1 - i1 / 10 * 10)) a11 (6 * (x_I (x_si (x_si σ5 a7 (x_I σ5 h 0).toNatClampNeg (i1 / 10)) a9 (x_I (x_si σ5 a7 (x_I σ5 h 0).toNatClampNeg (i1 / 10)) h 0).toNatClampNeg (i1 - i1 / 10 * 10)) h 0)).toNatClampNeg i2) h 0)) + 1).toNatClampNeg 10) a15 ((6 * (x_I (x_si (x_si (x_si (x_si σ5 a7 (x_I σ5 h 0).toNatClampNeg (i1 / 10)) a9 (x_I (x_si σ5 a7 (x_I σ5 h 0).toNatClampNeg (i1 / 10)) h 0).toNatClampNeg (i1 - i1 / 10 * 10)) a11 (6 * (x_I (x_si (x_si σ5 a7 (x_I σ5 h 0).toNatClampNeg (i1 / 10)) a9 (x_I (x_si σ5 a7 (x_I σ5 h 0).toNatClampNeg (i1 / 10)) h 0).toNatClampNeg (i1 - i1 / 10 * 10)) h 0)).toNatClampNeg i2) a13 ((6 * (x_I (x_si (x_si (x_si σ5 a7 (x_I σ5 h 0).toNatClampNeg (i1 / 10)) a9 (x_I (x_si σ5 a7 (x_I σ5 h 0).toNatClampNeg (i1 / 10)) h 0).toNatClampNeg (i1 - i1 / 10 * 10)) a11 (6 * (x_I (x_si (x_si σ5 a7 (x_I σ5 h 0).toNatClampNeg (i1 / 10)) a9 (x_I (x_si σ5 a7 (x_I σ5 h 0).toNatClampNeg (i1 / 10)) h 0).toNatClampNeg (i1 - i1 / 10 * 10)) h 0)).toNatClampNeg i2) h 0)) + 1).toNatClampNeg 10) h 0)) + 2).toNatClampNeg 50) h 0)) + 3).toNatClampNeg i3) h 0)) + 4).toNatClampNeg (-1)) a21 ((6 * (x_I (x_si (x_si (x_si (x_si (x_si (x_si (x_si σ5 a7 (x_I σ5 h 0).toNatClampNeg (i1 / 10)) a9 (x_I (x_si σ5 a7 (x_I σ5 h 0).toNatClampNeg (i1 / 10)) h 0).toNatClampNeg (i1 - i1 / 10 * 10)) a11 (6 * (x_I (x_si (x_si σ5 a7 (x_I σ5 h 0).toNatClampNeg (i1 / 10)) a9 (x_I (x_si σ5 a7 (x_I σ5 h 0).toNatClampNeg (i1 / 10)) h 0).toNatClampNeg (i1 - i1 / 10 * 10)) h 0)).toNatClampNeg i2) a13 ((6 * (x_I (x_si (x_si (x_si σ5 a7 (x_I σ5 h 0).toNatClampNeg (i1 / 10)) a9 (x_I (x_si σ5 a7 (x_I σ5 h 0).toNatClampNeg (i1 / 10)) h 0).toNatClampNeg (i1 - i1 / 10 * 10)) a11 (6 * (x_I (x_si (x_si σ5 a7 (x_I σ5 h 0).toNatClampNeg (i1 / 10)) a9 (x_I (x_si σ5 a7 (x_I σ5 h 0).toNatClampNeg (i1 / 10)) h 0).toNatClampNeg (i1 - i1 / 10 * 10)) h 0)).toNatClampNeg i2) h 0)) + 1).toNatClampNeg 10) a15 ((6 * (x_I (x_si (x_si (x_si (x_si σ5 a7 (x_I σ5 h 0).toNatClampNeg (i1 / 10)) a9 (x_I (x_si σ5 a7 (x_I σ5 h 0).toNatClampNeg (i1 / 10)) h 0).toNatClampNeg (i1 - i1 / 10 * 10)) a11 (6 * (x_I (x_si (x_si σ5 a7 (x_I σ5 h 0).toNatClampNeg (i1 / 10)) a9 (x_I (x_si σ5 a7 (x_I σ5 h 0).toNatClampNeg (i1 / 10)) h 0).toNatClampNeg (i1 - i1 / 10 * 10)) h 0)).toNatClampNeg i2) a13 ((6 * (x_I (x_si (x_si (x_si σ5 a7 (x_I σ5 h 0).toNatClampNeg (i1 / 10)) a9 (x_I (x_si σ5 a7 (x_I σ5 h 0).toNatClampNeg (i1 / 10)) h 0).toNatClampNeg (i1 - i1 / 10 * 10)) a11 (6 * (x_I (x_si (x_si σ5 a7 (x_I σ5 h 0).toNatClampNeg (i1 / 10)) a9 (x_I (x_si σ5 a7 (x_I σ5 h 0).toNatClampNeg (i1 / 10)) h 0).toNatClampNeg (i1 - i1 / 10 * 10)) h 0)).toNatClampNeg i2) h 0)) + 1).toNatClampNeg 10) h 0)) + 2).toNatClampNeg 50) a17 ((6 * (x_I (x_si (x_si (x_si (x_si (x_si σ5 a7 (x_I σ5 h 0).toNatClampNeg (i1 / 10)) a9 (x_I (x_si σ5 a7 (x_I σ5 h 0).toNatClampNeg (i1 / 10)) h 0).toNatClampNeg (i1 - i1 / 10 * 10)) a11 (6 * (x_I (x_si (x_si σ5 a7 (x_I σ5 h 0).toNatClampNeg (i1 / 10)) a9 (x_I (x_si σ5 a7 (x_I σ5 h 0).toNatClampNeg (i1 / 10)) h 0).toNatClampNeg (i1 - i1 / 10 * 10)) h 0)).toNatClampNeg i2) a13 ((6 * (x_I (x_si (x_si (x_si σ5 a7 (x_I σ5 h 0).toNatClampNeg (i1 / 10)) a9 (x_I (x_si σ5 a7 (x_I σ5 h 0).toNatClampNeg (i1 / 10)) h 0).toNatClampNeg (i1 - i1 / 10 * 10)) a11 (6 * (x_I (x_si (x_si σ5 a7 (x_I σ5 h 0).toNatClampNeg (i1 / 10)) a9 (x_I (x_si σ5 a7 (x_I σ5 h 0).toNatClampNeg (i1 / 10)) h 0).toNatClampNeg (i1 - i1 / 10 * 10)) h 0)).toNatClampNeg i2) h 0)) + 1).toNatClampNeg 10) a15 ((6 * (x_I (x_si (x_si (x_si (x_si σ5 a7 (x_I σ5 h 0).toNatClampNeg (i1 / 10)) a9 (x_I (x_si σ5 a7 (x_I σ5 h 0).toNatClampNeg (i1 / 10)) h 0).toNatClampNeg (i1 - i1 / 10 * 10)) a11 (6 * (x_I (x_si (x_si σ5 a7 (x_I σ5 h 0).toNatClampNeg (i1 / 10)) a9 (x_I (x_si σ5 a7 (x_I σ5 h 0).toNatClampNeg (i1 / 10)) h 0).toNatClampNeg (i1 - i1 / 10 * 10)) h 0)).toNatClampNeg i2) a13 ((6 * (x_I (x_si (x_si (x_si σ5 a7 (x_I σ5 h 0).toNatClampNeg (i1 / 10)) a9 (x_I (x_si σ5 a7 (x_I σ5 h 0).toNatClampNeg (i1 / 10)) h 0).toNatClampNeg (i1 - i1 / 10 * 10)) a11 (6 * (x_I (x_si (x_si σ5 a7 (x_I σ5 h 0).toNatClampNeg (i1 / 10)) a9 (x_I (x_si σ5 a7 (x_I σ5 h 0).toNatClampNeg (i1 / 10)) h 0).toNatClampNeg (i1 - i1 / 10 * 10)) h 0)).toNatClampNeg i2) h 0)) + 1).toNatClampNeg 10) h 0)) + 2).toNatClampNeg 50) h 0)) + 3).toNatClampNeg i3) a19 ((6 * (x_I (x_si (x_si (x_si (x_si (x_si (x_si σ5 a7 (x_I σ5 h 0).toNatClampNeg (i1 / 10)) a9 (x_I (x_si σ5 a7 (x_I σ5 h 0).toNatClampNeg (i1 / 10)) h 0).toNatClampNeg (i1 - i1 / 10 * 10)) a11 (6 * (x_I (x_si (x_si σ5 a7 (x_I σ5 h 0).toNatClampNeg (i1 / 10)) a9 (x_I (x_si σ5 a7 (x_I σ5 h 0).toNatClampNeg (i1 / 10)) h 0).toNatClampNeg (i1 - i1 / 10 * 10)) h 0)).toNatClampNeg i2) a13 ((6 * (x_I (x_si (x_si (x_si σ5 a7 (x_I σ5 h 0).toNatClampNeg (i1 / 10)) a9 (x_I (x_si σ5 a7 (x_I σ5 h 0).toNatClampNeg (i1 / 10)) h 0).toNatClampNeg (i1 - i1 / 10 * 10)) a11 (6 * (x_I (x_si (x_si σ5 a7 (x_I σ5 h 0).toNatClampNeg (i1 / 10)) a9 (x_I (x_si σ5 a7 (x_I σ5 h 0).toNatClampNeg (i1 / 10)) h 0).toNatClampNeg (i1 - i1 / 10 * 10)) h 0)).toNatClampNeg i2) h 0)) + 1).toNatClampNeg 10) a15 ((6 * (x_I (x_si (x_si (x_si (x_si σ5 a7 (x_I σ5 h 0).toNatClampNeg (i1 / 10)) a9 (x_I (x_si σ5 a7 (x_I σ5 h 0).toNatClampNeg (i1 / 10)) h 0).toNatClampNeg (i1 - i1 / 10 * 10)) a11 (6 * (x_I (x_si (x_si σ5 a7 (x_I σ5 h 0).toNatClampNeg (i1 / 10)) a9 (x_I (x_si σ5 a7 (x_I σ5 h 0).toNatClampNeg (i1 / 10)) h 0).toNatClampNeg (i1 - i1 / 10 * 10)) h 0)).toNatClampNeg i2) a13 ((6 * (x_I (x_si (x_si (x_si σ5 a7 (x_I σ5 h 0).toNatClampNeg (i1 / 10)) a9 (x_I (x_si σ5 a7 (x_I σ5 h 0).toNatClampNeg (i1 / 10)) h 0).toNatClampNeg (i1 - i1 / 10 * 10)) a11 (6 * (x_I (x_si (x_si σ5 a7 (x_I σ5 h 0).toNatClampNeg (i1 / 10)) a9 (x_I (x_si σ5 a7 (x_I σ5 h 0).toNatClampNeg (i1 / 10)) h 0).toNatClampNeg (i1 - i1 / 10 * 10)) h 0)).toNatClampNeg i2) h 0)) + 1).toNatClampNeg 10) h 0)) + 2).toNatClampNeg 50) a17 ((6 * (x_I (x_si (x_si (x_si (x_si (x_si σ5 a7 (x_I σ5 h 0).toNatClampNeg (i1 / 10)) a9 (x_I (x_si σ5 a7 (x_I σ5 h 0).toNatClampNeg (i1 / 10)) h 0).toNatClampNeg (i1 - i1 / 10 * 10)) a11 (6 * (x_I (x_si (x_si σ5 a7 (x_I σ5 h 0).toNatClampNeg (i1 / 10)) a9 (x_I (x_si σ5 a7 (x_I σ5 h 0).toNatClampNeg (i1 / 10)) h 0).toNatClampNeg (i1 - i1 / 10 * 10)) h 0)).toNatClampNeg i2) a13 ((6 * (x_I (x_si (x_si (x_si σ5 a7 (x_I σ5 h 0).toNatClampNeg (i1 / 10)) a9 (x_I (x_si σ5 a7 (x_I σ5 h 0).toNatClampNeg (i1 / 10)) h 0).toNatClampNeg (i1 - i1 / 10 * 10)) a11 (6 * (x_I (x_si (x_si σ5 a7 (x_I σ5 h 0).toNatClampNeg (i1 / 10)) a9 (x_I (x_si σ5 a7 (x_I σ5 h 0).toNatClampNeg (i1 / 10)) h 0).toNatClampNeg (i1 - i1 / 10 * 10)) h 0)).toNatClampNeg i2) h 0)) + 1).toNatClampNeg 10) a15 ((6 * (x_I (x_si (x_si (x_si (x_si σ5 a7 (x_I σ5 h 0).toNatClampNeg (i1 / 10)) a9 (x_I (x_si σ5 a7 (x_I σ5 h 0).toNatClampNeg (i1 / 10)) h 0).toNatClampNeg (i1 - i1 / 10 * 10)) a11 (6 * (x_I (x_si (x_si σ5 a7 (x_I σ5 h 0).toNatClampNeg (i1 / 10)) a9 (x_I (x_si σ5 a7 (x_I σ5 h 0).toNatClampNeg (i1 / 10)) h 0).toNatClampNeg (i1 - i1 / 10 * 10)) h 0)).toNatClampNeg i2) a13 ((6 * (x_I (x_si (x_si (x_si σ5 a7 (x_I σ5 h 0).toNatClampNeg (i1 / 10)) a9 (x_I (x_si σ5 a7 (x_I σ5 h 0).toNatClampNeg (i1 / 10)) h 0).toNatClampNeg (i1 - i1 / 10 * 10)) a11 (6 * (x_I (x_si (x_si σ5 a7 (x_I σ5 h 0).toNatClampNeg (i1 / 10)) a9 (x_I (x_si σ5 a7 (x_I σ5 h 0).toNatClampNeg (i1 / 10)) h 0).toNatClampNeg (i1 - i1 / 10 * 10)) h 0)).toNatClampNeg i2) h 0)) + 1).toNatClampNeg 10) h 0)) + 2).toNatClampNeg 50) h 0)) + 3).toNatClampNeg i3) h 0)) + 4).toNatClampNeg (-1)) h 0)) + 5).toNatClampNeg 0) h 10 <|
          (x_ck (x_si (x_si (x_si (x_si (x_si (x_si (x_si (x_si (x_si σ5 a7 (x_I σ5 h 0).toNatClampNeg (i1 / 10)) a9 (x_I (x_si σ5 a7 (x_I σ5 h 0).toNatClampNeg (i1 / 10)) h 0).toNatClampNeg (i1 - i1 / 10 * 10)) a11 (6 * (x_I (x_si (x_si σ5 a7 (x_I σ5 h 0).toNatClampNeg (i1 / 10)) a9 (x_I (x_si σ5 a7 (x_I σ5 h 0).toNatClampNeg (i1 / 10)) h 0).toNatClampNeg (i1 - i1 / 10 * 10)) h 0)).toNatClampNeg i2) a13 ((6 * (x_I (x_si (x_si (x_si σ5 a7 (x_I σ5 h 0).toNatClampNeg (i1 / 10)) a9 (x_I (x_si σ5 a7 (x_I σ5 h 0).toNatClampNeg (i1 / 10)) h 0).toNatClampNeg (i1 - i1 / 10 * 10)) a11 (6 * (x_I (x_si (x_si σ5 a7 (x_I σ5 h 0).toNatClampNeg (i1 / 10)) a9 (x_I (x_si σ5 a7 (x_I σ5 h 0).toNatClampNeg (i1 / 10)) h 0).toNatClampNeg (i1 - i1 / 10 * 10)) h 0)).toNatClampNeg i2) h 0)) + 1).toNatClampNeg 10) a15 ((6 * (x_I (x_si (x_si (x_si (x_si σ5 a7 (x_I σ5 h 0).toNatClampNeg (i1 / 10)) a9 (x_I (x_si σ5 a7 (x_I σ5 h 0).toNatClampNeg (i1 / 10)) h 0).toNatClampNeg (i1 - i1 / 10 * 10)) a11 (6 * (x_I (x_si (x_si σ5 a7 (x_I σ5 h 0).toNatClampNeg (i1 / 10)) a9 (x_I (x_si σ5 a7 (x_I σ5 h 0).toNatClampNeg (i1 / 10)) h 0).toNatClampNeg (i1 - i1 / 10 * 10)) h 0)).toNatClampNeg i2) a13 ((6 * (x_I (x_si (x_si (x_si σ5 a7 (x_I σ5 h 0).toNatClampNeg (i1 / 10)) a9 (x_I (x_si σ5 a7 (x_I σ5 h 0).toNatClampNeg (i1 / 10)) h 0).toNatClampNeg (i1 - i1 / 10 * 10)) a11 (6 * (x_I (x_si (x_si σ5 a7 (x_I σ5 h 0).toNatClampNeg (i1 / 10)) a9 (x_I (x_si σ5 a7 (x_I σ5 h 0).toNatClampNeg (i1 / 10)) h 0).toNatClampNeg (i1 - i1 / 10 * 10)) h 0)).toNatClampNeg i2) h 0)) + 1).toNatClampNeg 10) h 0)) + 2).toNatClampNeg 50) a17 ((6 * (x_I (x_si (x_si (x_si (x_si (x_si σ5 a7 (x_I σ5 h 0).toNatClampNeg (i1 / 10)) a9 (x_I (x_si σ5 a7 (x_I σ5 h 0).toNatClampNeg (i1 / 10)) h 0).toNatClampNeg (i1 - i1 / 10 * 10)) a11 (6 * (x_I (x_si (x_si σ5 a7 (x_I σ5 h 0).toNatClampNeg (i1 / 10)) a9 (x_I (x_si σ5 a7 (x_I σ5 h 0).toNatClampNeg (i1 / 10)) h 0).toNatClampNeg (i1 - i1 / 10 * 10)) h 0)).toNatClampNeg i2) a13 ((6 * (x_I (x_si (x_si (x_si σ5 a7 (x_I σ5 h 0).toNatClampNeg (i1 / 10)) a9 (x_I (x_si σ5 a7 (x_I σ5 h 0).toNatClampNeg (i1 / 10)) h 0).toNatClampNeg (i1 - i1 / 10 * 10)) a11 (6 * (x_I (x_si (x_si σ5 a7 (x_I σ5 h 0).toNatClampNeg (i1 / 10)) a9 (x_I (x_si σ5 a7 (x_I σ5 h 0).toNatClampNeg (i1 / 10)) h 0).toNatClampNeg (i1 - i1 / 10 * 10)) h 0)).toNatClampNeg i2) h 0)) + 1).toNatClampNeg 10) a15 ((6 * (x_I (x_si (x_si (x_si (x_si σ5 a7 (x_I σ5 h 0).toNatClampNeg (i1 / 10)) a9 (x_I (x_si σ5 a7 (x_I σ5 h 0).toNatClampNeg (i1 / 10)) h 0).toNatClampNeg (i1 - i1 / 10 * 10)) a11 (6 * (x_I (x_si (x_si σ5 a7 (x_I σ5 h 0).toNatClampNeg (i1 / 10)) a9 (x_I (x_si σ5 a7 (x_I σ5 h 0).toNatClampNeg (i1 / 10)) h 0).toNatClampNeg (i1 - i1 / 10 * 10)) h 0)).toNatClampNeg i2) a13 ((6 * (x_I (x_si (x_si (x_si σ5 a7 (x_I σ5 h 0).toNatClampNeg (i1 / 10)) a9 (x_I (x_si σ5 a7 (x_I σ5 h 0).toNatClampNeg (i1 / 10)) h 0).toNatClampNeg (i1 - i1 / 10 * 10)) a11 (6 * (x_I (x_si (x_si σ5 a7 (x_I σ5 h 0).toNatClampNeg (i1 / 10)) a9 (x_I (x_si σ5 a7 (x_I σ5 h 0).toNatClampNeg (i1 / 10)) h 0).toNatClampNeg (i1 - i1 / 10 * 10)) h 0)).toNatClampNeg i2) h 0)) + 1).toNatClampNeg 10) h 0)) + 2).toNatClampNeg 50) h 0)) + 3).toNatClampNeg i3) a19 ((6 * (x_I (x_si (x_si (x_si (x_si (x_si (x_si σ5 a7 (x_I σ5 h 0).toNatClampNeg (i1 / 10)) a9 (x_I (x_si σ5 a7 (x_I σ5 h 0).toNatClampNeg (i1 / 10)) h 0).toNatClampNeg (i1 - i1 / 10 * 10)) a11 (6 * (x_I (x_si (x_si σ5 a7 (x_I σ5 h 0).toNatClampNeg (i1 / 10)) a9 (x_I (x_si σ5 a7 (x_I σ5 h 0).toNatClampNeg (i1 / 10)) h 0).toNatClampNeg (i1 - i1 / 10 * 10)) h 0)).toNatClampNeg i2) a13 ((6 * (x_I (x_si (x_si (x_si σ5 a7 (x_I σ5 h 0).toNatClampNeg (i1 / 10)) a9 (x_I (x_si σ5 a7 (x_I σ5 h 0).toNatClampNeg (i1 / 10)) h 0).toNatClampNeg (i1 - i1 / 10 * 10)) a11 (6 * (x_I (x_si (x_si σ5 a7 (x_I σ5 h 0).toNatClampNeg (i1 / 10)) a9 (x_I (x_si σ5 a7 (x_I σ5 h 0).toNatClampNeg (i1 / 10)) h 0).toNatClampNeg (i1 - i1 / 10 * 10)) h 0)).toNatClampNeg i2) h 0)) + 1).toNatClampNeg 10) a15 ((6 * (x_I (x_si (x_si (x_si (x_si σ5 a7 (x_I σ5 h 0).toNatClampNeg (i1 / 10)) a9 (x_I (x_si σ5 a7 (x_I σ5 h 0).toNatClampNeg (i1 / 10)) h 0).toNatClampNeg (i1 - i1 / 10 * 10)) a11 (6 * (x_I (x_si (x_si σ5 a7 (x_I σ5 h 0).toNatClampNeg (i1 / 10)) a9 (x_I (x_si σ5 a7 (x_I σ5 h 0).toNatClampNeg (i1 / 10)) h 0).toNatClampNeg (i1 - i1 / 10 * 10)) h 0)).toNatClampNeg i2) a13 ((6 * (x_I (x_si (x_si (x_si σ5 a7 (x_I σ5 h 0).toNatClampNeg (i1 / 10)) a9 (x_I (x_si σ5 a7 (x_I σ5 h 0).toNatClampNeg (i1 / 10)) h 0).toNatClampNeg (i1 - i1 / 10 * 10)) a11 (6 * (x_I (x_si (x_si σ5 a7 (x_I σ5 h 0).toNatClampNeg (i1 / 10)) a9 (x_I (x_si σ5 a7 (x_I σ5 h 0).toNatClampNeg (i1 / 10)) h 0).toNatClampNeg (i1 - i1 / 10 * 10)) h 0)).toNatClampNeg i2) h 0)) + 1).toNatClampNeg 10) h 0)) + 2).toNatClampNeg 50) a17 ((6 * (x_I (x_si (x_si (x_si (x_si (x_si σ5 a7 (x_I σ5 h 0).toNatClampNeg (i1 / 10)) a9 (x_I (x_si σ5 a7 (x_I σ5 h 0).toNatClampNeg (i1 / 10)) h 0).toNatClampNeg (i1 - i1 / 10 * 10)) a11 (6 * (x_I (x_si (x_si σ5 a7 (x_I σ5 h 0).toNatClampNeg (i1 / 10)) a9 (x_I (x_si σ5 a7 (x_I σ5 h 0).toNatClampNeg (i1 / 10)) h 0).toNatClampNeg (i1 - i1 / 10 * 10)) h 0)).toNatClampNeg i2) a13 ((6 * (x_I (x_si (x_si (x_si σ5 a7 (x_I σ5 h 0).toNatClampNeg (i1 / 10)) a9 (x_I (x_si σ5 a7 (x_I σ5 h 0).toNatClampNeg (i1 / 10)) h 0).toNatClampNeg (i1 - i1 / 10 * 10)) a11 (6 * (x_I (x_si (x_si σ5 a7 (x_I σ5 h 0).toNatClampNeg (i1 / 10)) a9 (x_I (x_si σ5 a7 (x_I σ5 h 0).toNatClampNeg (i1 / 10)) h 0).toNatClampNeg (i1 - i1 / 10 * 10)) h 0)).toNatClampNeg i2) h 0)) + 1).toNatClampNeg 10) a15 ((6 * (x_I (x_si (x_si (x_si (x_si σ5 a7 (x_I σ5 h 0).toNatClampNeg (i1 / 10)) a9 (x_I (x_si σ5 a7 (x_I σ5 h 0).toNatClampNeg (i1 / 10)) h 0).toNatClampNeg (i1 - i1 / 10 * 10)) a11 (6 * (x_I (x_si (x_si σ5 a7 (x_I σ5 h 0).toNatClampNeg (i1 / 10)) a9 (x_I (x_si σ5 a7 (x_I σ5 h 0).toNatClampNeg (i1 / 10)) h 0).toNatClampNeg (i1 - i1 / 10 * 10)) h 0)).toNatClampNeg i2) a13 ((6 * (x_I (x_si (x_si (x_si σ5 a7 (x_I σ5 h 0).toNatClampNeg (i1 / 10)) a9 (x_I (x_si σ5 a7 (x_I σ5 h 0).toNatClampNeg (i1 / 10)) h 0).toNatClampNeg (i1 - i1 / 10 * 10)) a11 (6 * (x_I (x_si (x_si σ5 a7 (x_I σ5 h 0).toNatClampNeg (i1 / 10)) a9 (x_I (x_si σ5 a7 (x_I σ5 h 0).toNatClampNeg (i1 / 10)) h 0).toNatClampNeg (i1 - i1 / 10 * 10)) h 0)).toNatClampNeg i2) h 0)) + 1).toNatClampNeg 10) h 0)) + 2).toNatClampNeg 50) h 0)) + 3).toNatClampNeg i3) h 0)) + 4).toNatClampNeg (-1)) a21 ((6 * (x_I (x_si (x_si (x_si (x_si (x_si (x_si (x_si σ5 a7 (x_I σ5 h 0).toNatClampNeg (i1 / 10)) a9 (x_I (x_si σ5 a7 (x_I σ5 h 0).toNatClampNeg (i1 / 10)) h 0).toNatClampNeg (i1 - i1 / 10 * 10)) a11 (6 * (x_I (x_si (x_si σ5 a7 (x_I σ5 h 0).toNatClampNeg (i1 / 10)) a9 (x_I (x_si σ5 a7 (x_I σ5 h 0).toNatClampNeg (i1 / 10)) h 0).toNatClampNeg (i1 - i1 / 10 * 10)) h 0)).toNatClampNeg i2) a13 ((6 * (x_I (x_si (x_si (x_si σ5 a7 (x_I σ5 h 0).toNatClampNeg (i1 / 10)) a9 (x_I (x_si σ5 a7 (x_I σ5 h 0).toNatClampNeg (i1 / 10)) h 0).toNatClampNeg (i1 - i1 / 10 * 10)) a11 (6 * (x_I (x_si (x_si σ5 a7 (x_I σ5 h 0).toNatClampNeg (i1 / 10)) a9 (x_I (x_si σ5 a7 (x_I σ5 h 0).toNatClampNeg (i1 / 10)) h 0).toNatClampNeg (i1 - i1 / 10 * 10)) h 0)).toNatClampNeg i2) h 0)) + 1).toNatClampNeg 10) a15 ((6 * (x_I (x_si (x_si (x_si (x_si σ5 a7 (x_I σ5 h 0).toNatClampNeg (i1 / 10)) a9 (x_I (x_si σ5 a7 (x_I σ5 h 0).toNatClampNeg (i1 / 10)) h 0).toNatClampNeg (i1 - i1 / 10 * 10)) a11 (6 * (x_I (x_si (x_si σ5 a7 (x_I σ5 h 0).toNatClampNeg (i1 / 10)) a9 (x_I (x_si σ5 a7 (x_I σ5 h 0).toNatClampNeg (i1 / 10)) h 0).toNatClampNeg (i1 - i1 / 10 * 10)) h 0)).toNatClampNeg i2) a13 ((6 * (x_I (x_si (x_si (x_si σ5 a7 (x_I σ5 h 0).toNatClampNeg (i1 / 10)) a9 (x_I (x_si σ5 a7 (x_I σ5 h 0).toNatClampNeg (i1 / 10)) h 0).toNatClampNeg (i1 - i1 / 10 * 10)) a11 (6 * (x_I (x_si (x_si σ5 a7 (x_I σ5 h 0).toNatClampNeg (i1 / 10)) a9 (x_I (x_si σ5 a7 (x_I σ5 h 0).toNatClampNeg (i1 / 10)) h 0).toNatClampNeg (i1 - i1 / 10 * 10)) h 0)).toNatClampNeg i2) h 0)) + 1).toNatClampNeg 10) h 0)) + 2).toNatClampNeg 50) a17 ((6 * (x_I (x_si (x_si (x_si (x_si (x_si σ5 a7 (x_I σ5 h 0).toNatClampNeg (i1 / 10)) a9 (x_I (x_si σ5 a7 (x_I σ5 h 0).toNatClampNeg (i1 / 10)) h 0).toNatClampNeg (i1 - i1 / 10 * 10)) a11 (6 * (x_I (x_si (x_si σ5 a7 (x_I σ5 h 0).toNatClampNeg (i1 / 10)) a9 (x_I (x_si σ5 a7 (x_I σ5 h 0).toNatClampNeg (i1 / 10)) h 0).toNatClampNeg (i1 - i1 / 10 * 10)) h 0)).toNatClampNeg i2) a13 ((6 * (x_I (x_si (x_si (x_si σ5 a7 (x_I σ5 h 0).toNatClampNeg (i1 / 10)) a9 (x_I (x_si σ5 a7 (x_I σ5 h 0).toNatClampNeg (i1 / 10)) h 0).toNatClampNeg (i1 - i1 / 10 * 10)) a11 (6 * (x_I (x_si (x_si σ5 a7 (x_I σ5 h 0).toNatClampNeg (i1 / 10)) a9 (x_I (x_si σ5 a7 (x_I σ5 h 0).toNatClampNeg (i1 / 10)) h 0).toNatClampNeg (i1 - i1 / 10 * 10)) h 0)).toNatClampNeg i2) h 0)) + 1).toNatClampNeg 10) a15 ((6 * (x_I (x_si (x_si (x_si (x_si σ5 a7 (x_I σ5 h 0).toNatClampNeg (i1 / 10)) a9 (x_I (x_si σ5 a7 (x_I σ5 h 0).toNatClampNeg (i1 / 10)) h 0).toNatClampNeg (i1 - i1 / 10 * 10)) a11 (6 * (x_I (x_si (x_si σ5 a7 (x_I σ5 h 0).toNatClampNeg (i1 / 10)) a9 (x_I (x_si σ5 a7 (x_I σ5 h 0).toNatClampNeg (i1 / 10)) h 0).toNatClampNeg (i1 - i1 / 10 * 10)) h 0)).toNatClampNeg i2) a13 ((6 * (x_I (x_si (x_si (x_si σ5 a7 (x_I σ5 h 0).toNatClampNeg (i1 / 10)) a9 (x_I (x_si σ5 a7 (x_I σ5 h 0).toNatClampNeg (i1 / 10)) h 0).toNatClampNeg (i1 - i1 / 10 * 10)) a11 (6 * (x_I (x_si (x_si σ5 a7 (x_I σ5 h 0).toNatClampNeg (i1 / 10)) a9 (x_I (x_si σ5 a7 (x_I σ5 h 0).toNatClampNeg (i1 / 10)) h 0).toNatClampNeg (i1 - i1 / 10 * 10)) h 0)).toNatClampNeg i2) h 0)) + 1).toNatClampNeg 10) h 0)) + 2).toNatClampNeg 50) h 0)) + 3).toNatClampNeg i3) a19 ((6 * (x_I (x_si (x_si (x_si (x_si (x_si (x_si σ5 a7 (x_I σ5 h 0).toNatClampNeg (i1 / 10)) a9 (x_I (x_si σ5 a7 (x_I σ5 h 0).toNatClampNeg (i1 / 10)) h 0).toNatClampNeg (i1 - i1 / 10 * 10)) a11 (6 * (x_I (x_si (x_si σ5 a7 (x_I σ5 h 0).toNatClampNeg (i1 / 10)) a9 (x_I (x_si σ5 a7 (x_I σ5 h 0).toNatClampNeg (i1 / 10)) h 0).toNatClampNeg (i1 - i1 / 10 * 10)) h 0)).toNatClampNeg i2) a13 ((6 * (x_I (x_si (x_si (x_si σ5 a7 (x_I σ5 h 0).toNatClampNeg (i1 / 10)) a9 (x_I (x_si σ5 a7 (x_I σ5 h 0).toNatClampNeg (i1 / 10)) h 0).toNatClampNeg (i1 - i1 / 10 * 10)) a11 (6 * (x_I (x_si (x_si σ5 a7 (x_I σ5 h 0).toNatClampNeg (i1 / 10)) a9 (x_I (x_si σ5 a7 (x_I σ5 h 0).toNatClampNeg (i1 / 10)) h 0).toNatClampNeg (i1 - i1 / 10 * 10)) h 0)).toNatClampNeg i2) h 0)) + 1).toNatClampNeg 10) a15 ((6 * (x_I (x_si (x_si (x_si (x_si σ5 a7 (x_I σ5 h 0).toNatClampNeg (i1 / 10)) a9 (x_I (x_si σ5 a7 (x_I σ5 h 0).toNatClampNeg (i1 / 10)) h 0).toNatClampNeg (i1 - i1 / 10 * 10)) a11 (6 * (x_I (x_si (x_si σ5 a7 (x_I σ5 h 0).toNatClampNeg (i1 / 10)) a9 (x_I (x_si σ5 a7 (x_I σ5 h 0).toNatClampNeg (i1 / 10)) h 0).toNatClampNeg (i1 - i1 / 10 * 10)) h 0)).toNatClampNeg i2) a13 ((6 * (x_I (x_si (x_si (x_si σ5 a7 (x_I σ5 h 0).toNatClampNeg (i1 / 10)) a9 (x_I (x_si σ5 a7 (x_I σ5 h 0).toNatClampNeg (i1 / 10)) h 0).toNatClampNeg (i1 - i1 / 10 * 10)) a11 (6 * (x_I (x_si (x_si σ5 a7 (x_I σ5 h 0).toNatClampNeg (i1 / 10)) a9 (x_I (x_si σ5 a7 (x_I σ5 h 0).toNatClampNeg (i1 / 10)) h 0).toNatClampNeg (i1 - i1 / 10 * 10)) h 0)).toNatClampNeg i2) h 0)) + 1).toNatClampNeg 10) h 0)) + 2).toNatClampNeg 50) a17 ((6 * (x_I (x_si (x_si (x_si (x_si (x_si σ5 a7 (x_I σ5 h 0).toNatClampNeg (i1 / 10)) a9 (x_I (x_si σ5 a7 (x_I σ5 h 0).toNatClampNeg (i1 / 10)) h 0).toNatClampNeg (i1 - i1 / 10 * 10)) a11 (6 * (x_I (x_si (x_si σ5 a7 (x_I σ5 h 0).toNatClampNeg (i1 / 10)) a9 (x_I (x_si σ5 a7 (x_I σ5 h 0).toNatClampNeg (i1 / 10)) h 0).toNatClampNeg (i1 - i1 / 10 * 10)) h 0)).toNatClampNeg i2) a13 ((6 * (x_I (x_si (x_si (x_si σ5 a7 (x_I σ5 h 0).toNatClampNeg (i1 / 10)) a9 (x_I (x_si σ5 a7 (x_I σ5 h 0).toNatClampNeg (i1 / 10)) h 0).toNatClampNeg (i1 - i1 / 10 * 10)) a11 (6 * (x_I (x_si (x_si σ5 a7 (x_I σ5 h 0).toNatClampNeg (i1 / 10)) a9 (x_I (x_si σ5 a7 (x_I σ5 h 0).toNatClampNeg (i1 / 10)) h 0).toNatClampNeg (i1 - i1 / 10 * 10)) h 0)).toNatClampNeg i2) h 0)) + 1).toNatClampNeg 10) a15 ((6 * (x_I (x_si (x_si (x_si (x_si σ5 a7 (x_I σ5 h 0).toNatClampNeg (i1 / 10)) a9 (x_I (x_si σ5 a7 (x_I σ5 h 0).toNatClampNeg (i1 / 10)) h 0).toNatClampNeg (i1 - i1 / 10 * 10)) a11 (6 * (x_I (x_si (x_si σ5 a7 (x_I σ5 h 0).toNatClampNeg (i1 / 10)) a9 (x_I (x_si σ5 a7 (x_I σ5 h 0).toNatClampNeg (i1 / 10)) h 0).toNatClampNeg (i1 - i1 / 10 * 10)) h 0)).toNatClampNeg i2) a13 ((6 * (x_I (x_si (x_si (x_si σ5 a7 (x_I σ5 h 0).toNatClampNeg (i1 / 10)) a9 (x_I (x_si σ5 a7 (x_I σ5 h 0).toNatClampNeg (i1 / 10)) h 0).toNatClampNeg (i1 - i1 / 10 * 10)) a11 (6 * (x_I (x_si (x_si σ5 a7 (x_I σ5 h 0).toNatClampNeg (i1 / 10)) a9 (x_I (x_si σ5 a7 (x_I σ5 h 0).toNatClampNeg (i1 / 10)) h 0).toNatClampNeg (i1 - i1 / 10 * 10)) h 0)).toNatClampNeg i2) h 0)) + 1).toNatClampNeg 10) h 0)) + 2).toNatClampNeg 50) h 0)) + 3).toNatClampNeg i3) h 0)) + 4).toNatClampNeg (-1)) h 0)) + 5).toNatClampNeg 0) h 0 ((x_I (x_si (x_si (x_si (x_si (x_si (x_si (x_si (x_si σ5 a7 (x_I σ5 h 0).toNatClampNeg (i1 / 10)) a9 (x_I (x_si σ5 a7 (x_I σ5 h 0).toNatClampNeg (i1 / 10)) h 0).toNatClampNeg (i1 - i1 / 10 * 10)) a11 (6 * (x_I (x_si (x_si σ5 a7 (x_I σ5 h 0).toNatClampNeg (i1 / 10)) a9 (x_I (x_si σ5 a7 (x_I σ5 h 0).toNatClampNeg (i1 / 10)) h 0).toNatClampNeg (i1 - i1 / 10 * 10)) h 0)).toNatClampNeg i2) a13 ((6 * (x_I (x_si (x_si (x_si σ5 a7 (x_I σ5 h 0).toNatClampNeg (i1 / 10)) a9 (x_I (x_si σ5 a7 (x_I σ5 h 0).toNatClampNeg (i1 / 10)) h 0).toNatClampNeg (i1 - i1 / 10 * 10)) a11 (6 * (x_I (x_si (x_si σ5 a7 (x_I σ5 h 0).toNatClampNeg (i1 / 10)) a9 (x_I (x_si σ5 a7 (x_I σ5 h 0).toNatClampNeg (i1 / 10)) h 0).toNatClampNeg (i1 - i1 / 10 * 10)) h 0)).toNatClampNeg i2) h 0)) + 1).toNatClampNeg 10) a15 ((6 * (x_I (x_si (x_si (x_si (x_si σ5 a7 (x_I σ5 h 0).toNatClampNeg (i1 / 10)) a9 (x_I (x_si σ5 a7 (x_I σ5 h 0).toNatClampNeg (i1 / 10)) h 0).toNatClampNeg (i1 - i1 / 10 * 10)) a11 (6 * (x_I (x_si (x_si σ5 a7 (x_I σ5 h 0).toNatClampNeg (i1 / 10)) a9 (x_I (x_si σ5 a7 (x_I σ5 h 0).toNatClampNeg (i1 / 10)) h 0).toNatClampNeg (i1 - i1 / 10 * 10)) h 0)).toNatClampNeg i2) a13 ((6 * (x_I (x_si (x_si (x_si σ5 a7 (x_I σ5 h 0).toNatClampNeg (i1 / 10)) a9 (x_I (x_si σ5 a7 (x_I σ5 h 0).toNatClampNeg (i1 / 10)) h 0).toNatClampNeg (i1 - i1 / 10 * 10)) a11 (6 * (x_I (x_si (x_si σ5 a7 (x_I σ5 h 0).toNatClampNeg (i1 / 10)) a9 (x_I (x_si σ5 a7 (x_I σ5 h 0).toNatClampNeg (i1 / 10)) h 0).toNatClampNeg (i1 - i1 / 10 * 10)) h 0)).toNatClampNeg i2) h 0)) + 1).toNatClampNeg 10) h 0)) + 2).toNatClampNeg 50) a17 ((6 * (x_I (x_si (x_si (x_si (x_si (x_si σ5 a7 (x_I σ5 h 0).toNatClampNeg (i1 / 10)) a9 (x_I (x_si σ5 a7 (x_I σ5 h 0).toNatClampNeg (i1 / 10)) h 0).toNatClampNeg (i1 - i1 / 10 * 10)) a11 (6 * (x_I (x_si (x_si σ5 a7 (x_I σ5 h 0).toNatClampNeg (i1 / 10)) a9 (x_I (x_si σ5 a7 (x_I σ5 h 0).toNatClampNeg (i1 / 10)) h 0).toNatClampNeg (i1 - i1 / 10 * 10)) h 0)).toNatClampNeg i2) a13 ((6 * (x_I (x_si (x_si (x_si σ5 a7 (x_I σ5 h 0).toNatClampNeg (i1 / 10)) a9 (x_I (x_si σ5 a7 (x_I σ5 h 0).toNatClampNeg (i1 / 10)) h 0).toNatClampNeg (i1 - i1 / 10 * 10)) a11 (6 * (x_I (x_si (x_si σ5 a7 (x_I σ5 h 0).toNatClampNeg (i1 / 10)) a9 (x_I (x_si σ5 a7 (x_I σ5 h 0).toNatClampNeg (i1 / 10)) h 0).toNatClampNeg (i1 - i1 / 10 * 10)) h 0)).toNatClampNeg i2) h 0)) + 1).toNatClampNeg 10) a15 ((6 * (x_I (x_si (x_si (x_si (x_si σ5 a7 (x_I σ5 h 0).toNatClampNeg (i1 / 10)) a9 (x_I (x_si σ5 a7 (x_I σ5 h 0).toNatClampNeg (i1 / 10)) h 0).toNatClampNeg (i1 - i1 / 10 * 10)) a11 (6 * (x_I (x_si (x_si σ5 a7 (x_I σ5 h 0).toNatClampNeg (i1 / 10)) a9 (x_I (x_si σ5 a7 (x_I σ5 h 0).toNatClampNeg (i1 / 10)) h 0).toNatClampNeg (i1 - i1 / 10 * 10)) h 0)).toNatClampNeg i2) a13 ((6 * (x_I (x_si (x_si (x_si σ5 a7 (x_I σ5 h 0).toNatClampNeg (i1 / 10)) a9 (x_I (x_si σ5 a7 (x_I σ5 h 0).toNatClampNeg (i1 / 10)) h 0).toNatClampNeg (i1 - i1 / 10 * 10)) a11 (6 * (x_I (x_si (x_si σ5 a7 (x_I σ5 h 0).toNatClampNeg (i1 / 10)) a9 (x_I (x_si σ5 a7 (x_I σ5 h 0).toNatClampNeg (i1 / 10)) h 0).toNatClampNeg (i1 - i1 / 10 * 10)) h 0)).toNatClampNeg i2) h 0)) + 1).toNatClampNeg 10) h 0)) + 2).toNatClampNeg 50) h 0)) + 3).toNatClampNeg i3) a19 ((6 * (x_I (x_si (x_si (x_si (x_si (x_si (x_si σ5 a7 (x_I σ5 h 0).toNatClampNeg (i1 / 10)) a9 (x_I (x_si σ5 a7 (x_I σ5 h 0).toNatClampNeg (i1 / 10)) h 0).toNatClampNeg (i1 - i1 / 10 * 10)) a11 (6 * (x_I (x_si (x_si σ5 a7 (x_I σ5 h 0).toNatClampNeg (i1 / 10)) a9 (x_I (x_si σ5 a7 (x_I σ5 h 0).toNatClampNeg (i1 / 10)) h 0).toNatClampNeg (i1 - i1 / 10 * 10)) h 0)).toNatClampNeg i2) a13 ((6 * (x_I (x_si (x_si (x_si σ5 a7 (x_I σ5 h 0).toNatClampNeg (i1 / 10)) a9 (x_I (x_si σ5 a7 (x_I σ5 h 0).toNatClampNeg (i1 / 10)) h 0).toNatClampNeg (i1 - i1 / 10 * 10)) a11 (6 * (x_I (x_si (x_si σ5 a7 (x_I σ5 h 0).toNatClampNeg (i1 / 10)) a9 (x_I (x_si σ5 a7 (x_I σ5 h 0).toNatClampNeg (i1 / 10)) h 0).toNatClampNeg (i1 - i1 / 10 * 10)) h 0)).toNatClampNeg i2) h 0)) + 1).toNatClampNeg 10) a15 ((6 * (x_I (x_si (x_si (x_si (x_si σ5 a7 (x_I σ5 h 0).toNatClampNeg (i1 / 10)) a9 (x_I (x_si σ5 a7 (x_I σ5 h 0).toNatClampNeg (i1 / 10)) h 0).toNatClampNeg (i1 - i1 / 10 * 10)) a11 (6 * (x_I (x_si (x_si σ5 a7 (x_I σ5 h 0).toNatClampNeg (i1 / 10)) a9 (x_I (x_si σ5 a7 (x_I σ5 h 0).toNatClampNeg (i1 / 10)) h 0).toNatClampNeg (i1 - i1 / 10 * 10)) h 0)).toNatClampNeg i2) a13 ((6 * (x_I (x_si (x_si (x_si σ5 a7 (x_I σ5 h 0).toNatClampNeg (i1 / 10)) a9 (x_I (x_si σ5 a7 (x_I σ5 h 0).toNatClampNeg (i1 / 10)) h 0).toNatClampNeg (i1 - i1 / 10 * 10)) a11 (6 * (x_I (x_si (x_si σ5 a7 (x_I σ5 h 0).toNatClampNeg (i1 / 10)) a9 (x_I (x_si σ5 a7 (x_I σ5 h 0).toNatClampNeg (i1 / 10)) h 0).toNatClampNeg (i1 - i1 / 10 * 10)) h 0)).toNatClampNeg i2) h 0)) + 1).toNatClampNeg 10) h 0)) + 2).toNatClampNeg 50) a17 ((6 * (x_I (x_si (x_si (x_si (x_si (x_si σ5 a7 (x_I σ5 h 0).toNatClampNeg (i1 / 10)) a9 (x_I (x_si σ5 a7 (x_I σ5 h 0).toNatClampNeg (i1 / 10)) h 0).toNatClampNeg (i1 - i1 / 10 * 10)) a11 (6 * (x_I (x_si (x_si σ5 a7 (x_I σ5 h 0).toNatClampNeg (i1 / 10)) a9 (x_I (x_si σ5 a7 (x_I σ5 h 0).toNatClampNeg (i1 / 10)) h 0).toNatClampNeg (i1 - i1 / 10 * 10)) h 0)).toNatClampNeg i2) a13 ((6 * (x_I (x_si (x_si (x_si σ5 a7 (x_I σ5 h 0).toNatClampNeg (i1 / 10)) a9 (x_I (x_si σ5 a7 (x_I σ5 h 0).toNatClampNeg (i1 / 10)) h 0).toNatClampNeg (i1 - i1 / 10 * 10)) a11 (6 * (x_I (x_si (x_si σ5 a7 (x_I σ5 h 0).toNatClampNeg (i1 / 10)) a9 (x_I (x_si σ5 a7 (x_I σ5 h 0).toNatClampNeg (i1 / 10)) h 0).toNatClampNeg (i1 - i1 / 10 * 10)) h 0)).toNatClampNeg i2) h 0)) + 1).toNatClampNeg 10) a15 ((6 * (x_I (x_si (x_si (x_si (x_si σ5 a7 (x_I σ5 h 0).toNatClampNeg (i1 / 10)) a9 (x_I (x_si σ5 a7 (x_I σ5 h 0).toNatClampNeg (i1 / 10)) h 0).toNatClampNeg (i1 - i1 / 10 * 10)) a11 (6 * (x_I (x_si (x_si σ5 a7 (x_I σ5 h 0).toNatClampNeg (i1 / 10)) a9 (x_I (x_si σ5 a7 (x_I σ5 h 0).toNatClampNeg (i1 / 10)) h 0).toNatClampNeg (i1 - i1 / 10 * 10)) h 0)).toNatClampNeg i2) a13 ((6 * (x_I (x_si (x_si (x_si σ5 a7 (x_I σ5 h 0).toNatClampNeg (i1 / 10)) a9 (x_I (x_si σ5 a7 (x_I σ5 h 0).toNatClampNeg (i1 / 10)) h 0).toNatClampNeg (i1 - i1 / 10 * 10)) a11 (6 * (x_I (x_si (x_si σ5 a7 (x_I σ5 h 0).toNatClampNeg (i1 / 10)) a9 (x_I (x_si σ5 a7 (x_I σ5 h 0).toNatClampNeg (i1 / 10)) h 0).toNatClampNeg (i1 - i1 / 10 * 10)) h 0)).toNatClampNeg i2) h 0)) + 1).toNatClampNeg 10) h 0)) + 2).toNatClampNeg 50) h 0)) + 3).toNatClampNeg i3) h 0)) + 4).toNatClampNeg (-1)) a21 ((6 * (x_I (x_si (x_si (x_si (x_si (x_si (x_si (x_si σ5 a7 (x_I σ5 h 0).toNatClampNeg (i1 / 10)) a9 (x_I (x_si σ5 a7 (x_I σ5 h 0).toNatClampNeg (i1 / 10)) h 0).toNatClampNeg (i1 - i1 / 10 * 10)) a11 (6 * (x_I (x_si (x_si σ5 a7 (x_I σ5 h 0).toNatClampNeg (i1 / 10)) a9 (x_I (x_si σ5 a7 (x_I σ5 h 0).toNatClampNeg (i1 / 10)) h 0).toNatClampNeg (i1 - i1 / 10 * 10)) h 0)).toNatClampNeg i2) a13 ((6 * (x_I (x_si (x_si (x_si σ5 a7 (x_I σ5 h 0).toNatClampNeg (i1 / 10)) a9 (x_I (x_si σ5 a7 (x_I σ5 h 0).toNatClampNeg (i1 / 10)) h 0).toNatClampNeg (i1 - i1 / 10 * 10)) a11 (6 * (x_I (x_si (x_si σ5 a7 (x_I σ5 h 0).toNatClampNeg (i1 / 10)) a9 (x_I (x_si σ5 a7 (x_I σ5 h 0).toNatClampNeg (i1 / 10)) h 0).toNatClampNeg (i1 - i1 / 10 * 10)) h 0)).toNatClampNeg i2) h 0)) + 1).toNatClampNeg 10) a15 ((6 * (x_I (x_si (x_si (x_si (x_si σ5 a7 (x_I σ5 h 0).toNatClampNeg (i1 / 10)) a9 (x_I (x_si σ5 a7 (x_I σ5 h 0).toNatClampNeg (i1 / 10)) h 0).toNatClampNeg (i1 - i1 / 10 * 10)) a11 (6 * (x_I (x_si (x_si σ5 a7 (x_I σ5 h 0).toNatClampNeg (i1 / 10)) a9 (x_I (x_si σ5 a7 (x_I σ5 h 0).toNatClampNeg (i1 / 10)) h 0).toNatClampNeg (i1 - i1 / 10 * 10)) h 0)).toNatClampNeg i2) a13 ((6 * (x_I (x_si (x_si (x_si σ5 a7 (x_I σ5 h 0).toNatClampNeg (i1 / 10)) a9 (x_I (x_si σ5 a7 (x_I σ5 h 0).toNatClampNeg (i1 / 10)) h 0).toNatClampNeg (i1 - i1 / 10 * 10)) a11 (6 * (x_I (x_si (x_si σ5 a7 (x_I σ5 h 0).toNatClampNeg (i1 / 10)) a9 (x_I (x_si σ5 a7 (x_I σ5 h 0).toNatClampNeg (i1 / 10)) h 0).toNatClampNeg (i1 - i1 / 10 * 10)) h 0)).toNatClampNeg i2) h 0)) + 1).toNatClampNeg 10) h 0)) + 2).toNatClampNeg 50) a17 ((6 * (x_I (x_si (x_si (x_si (x_si (x_si σ5 a7 (x_I σ5 h 0).toNatClampNeg (i1 / 10)) a9 (x_I (x_si σ5 a7 (x_I σ5 h 0).toNatClampNeg (i1 / 10)) h 0).toNatClampNeg (i1 - i1 / 10 * 10)) a11 (6 * (x_I (x_si (x_si σ5 a7 (x_I σ5 h 0).toNatClampNeg (i1 / 10)) a9 (x_I (x_si σ5 a7 (x_I σ5 h 0).toNatClampNeg (i1 / 10)) h 0).toNatClampNeg (i1 - i1 / 10 * 10)) h 0)).toNatClampNeg i2) a13 ((6 * (x_I (x_si (x_si (x_si σ5 a7 (x_I σ5 h 0).toNatClampNeg (i1 / 10)) a9 (x_I (x_si σ5 a7 (x_I σ5 h 0).toNatClampNeg (i1 / 10)) h 0).toNatClampNeg (i1 - i1 / 10 * 10)) a11 (6 * (x_I (x_si (x_si σ5 a7 (x_I σ5 h 0).toNatClampNeg (i1 / 10)) a9 (x_I (x_si σ5 a7 (x_I σ5 h 0).toNatClampNeg (i1 / 10)) h 0).toNatClampNeg (i1 - i1 / 10 * 10)) h 0)).toNatClampNeg i2) h 0)) + 1).toNatClampNeg 10) a15 ((6 * (x_I (x_si (x_si (x_si (x_si σ5 a7 (x_I σ5 h 0).toNatClampNeg (i1 / 10)) a9 (x_I (x_si σ5 a7 (x_I σ5 h 0).toNatClampNeg (i1 / 10)) h 0).toNatClampNeg (i1 - i1 / 10 * 10)) a11 (6 * (x_I (x_si (x_si σ5 a7 (x_I σ5 h 0).toNatClampNeg (i1 / 10)) a9 (x_I (x_si σ5 a7 (x_I σ5 h 0).toNatClampNeg (i1 / 10)) h 0).toNatClampNeg (i1 - i1 / 10 * 10)) h 0)).toNatClampNeg i2) a13 ((6 * (x_I (x_si (x_si (x_si σ5 a7 (x_I σ5 h 0).toNatClampNeg (i1 / 10)) a9 (x_I (x_si σ5 a7 (x_I σ5 h 0).toNatClampNeg (i1 / 10)) h 0).toNatClampNeg (i1 - i1 / 10 * 10)) a11 (6 * (x_I (x_si (x_si σ5 a7 (x_I σ5 h 0).toNatClampNeg (i1 / 10)) a9 (x_I (x_si σ5 a7 (x_I σ5 h 0).toNatClampNeg (i1 / 10)) h 0).toNatClampNeg (i1 - i1 / 10 * 10)) h 0)).toNatClampNeg i2) h 0)) + 1).toNatClampNeg 10) h 0)) + 2).toNatClampNeg 50) h 0)) + 3).toNatClampNeg i3) a19 ((6 * (x_I (x_si (x_si (x_si (x_si (x_si (x_si σ5 a7 (x_I σ5 h 0).toNatClampNeg (i1 / 10)) a9 (x_I (x_si σ5 a7 (x_I σ5 h 0).toNatClampNeg (i1 / 10)) h 0).toNatClampNeg (i1 - i1 / 10 * 10)) a11 (6 * (x_I (x_si (x_si σ5 a7 (x_I σ5 h 0).toNatClampNeg (i1 / 10)) a9 (x_I (x_si σ5 a7 (x_I σ5 h 0).toNatClampNeg (i1 / 10)) h 0).toNatClampNeg (i1 - i1 / 10 * 10)) h 0)).toNatClampNeg i2) a13 ((6 * (x_I (x_si (x_si (x_si σ5 a7 (x_I σ5 h 0).toNatClampNeg (i1 / 10)) a9 (x_I (x_si σ5 a7 (x_I σ5 h 0).toNatClampNeg (i1 / 10)) h 0).toNatClampNeg (i1 - i1 / 10 * 10)) a11 (6 * (x_I (x_si (x_si σ5 a7 (x_I σ5 h 0).toNatClampNeg (i1 / 10)) a9 (x_I (x_si σ5 a7 (x_I σ5 h 0).toNatClampNeg (i1 / 10)) h 0).toNatClampNeg (i1 - i1 / 10 * 10)) h 0)).toNatClampNeg i2) h 0)) + 1).toNatClampNeg 10) a15 ((6 * (x_I (x_si (x_si (x_si (x_si σ5 a7 (x_I σ5 h 0).toNatClampNeg (i1 / 10)) a9 (x_I (x_si σ5 a7 (x_I σ5 h 0).toNatClampNeg (i1 / 10)) h 0).toNatClampNeg (i1 - i1 / 10 * 10)) a11 (6 * (x_I (x_si (x_si σ5 a7 (x_I σ5 h 0).toNatClampNeg (i1 / 10)) a9 (x_I (x_si σ5 a7 (x_I σ5 h 0).toNatClampNeg (i1 / 10)) h 0).toNatClampNeg (i1 - i1 / 10 * 10)) h 0)).toNatClampNeg i2) a13 ((6 * (x_I (x_si (x_si (x_si σ5 a7 (x_I σ5 h 0).toNatClampNeg (i1 / 10)) a9 (x_I (x_si σ5 a7 (x_I σ5 h 0).toNatClampNeg (i1 / 10)) h 0).toNatClampNeg (i1 - i1 / 10 * 10)) a11 (6 * (x_I (x_si (x_si σ5 a7 (x_I σ5 h 0).toNatClampNeg (i1 / 10)) a9 (x_I (x_si σ5 a7 (x_I σ5 h 0).toNatClampNeg (i1 / 10)) h 0).toNatClampNeg (i1 - i1 / 10 * 10)) h 0)).toNatClampNeg i2) h 0)) + 1).toNatClampNeg 10) h 0)) + 2).toNatClampNeg 50) a17 ((6 * (x_I (x_si (x_si (x_si (x_si (x_si σ5 a7 (x_I σ5 h 0).toNatClampNeg (i1 / 10)) a9 (x_I (x_si σ5 a7 (x_I σ5 h 0).toNatClampNeg (i1 / 10)) h 0).toNatClampNeg (i1 - i1 / 10 * 10)) a11 (6 * (x_I (x_si (x_si σ5 a7 (x_I σ5 h 0).toNatClampNeg (i1 / 10)) a9 (x_I (x_si σ5 a7 (x_I σ5 h 0).toNatClampNeg (i1 / 10)) h 0).toNatClampNeg (i1 - i1 / 10 * 10)) h 0)).toNatClampNeg i2) a13 ((6 * (x_I (x_si (x_si (x_si σ5 a7 (x_I σ5 h 0).toNatClampNeg (i1 / 10)) a9 (x_I (x_si σ5 a7 (x_I σ5 h 0).toNatClampNeg (i1 / 10)) h 0).toNatClampNeg (i1 - i1 / 10 * 10)) a11 (6 * (x_I (x_si (x_si σ5 a7 (x_I σ5 h 0).toNatClampNeg (i1 / 10)) a9 (x_I (x_si σ5 a7 (x_I σ5 h 0).toNatClampNeg (i1 / 10)) h 0).toNatClampNeg (i1 - i1 / 10 * 10)) h 0)).toNatClampNeg i2) h 0)) + 1).toNatClampNeg 10) a15 ((6 * (x_I (x_si (x_si (x_si (x_si σ5 a7 (x_I σ5 h 0).toNatClampNeg (i1 / 10)) a9 (x_I (x_si σ5 a7 (x_I σ5 h 0).toNatClampNeg (i1 / 10)) h 0).toNatClampNeg (i1 - i1 / 10 * 10)) a11 (6 * (x_I (x_si (x_si σ5 a7 (x_I σ5 h 0).toNatClampNeg (i1 / 10)) a9 (x_I (x_si σ5 a7 (x_I σ5 h 0).toNatClampNeg (i1 / 10)) h 0).toNatClampNeg (i1 - i1 / 10 * 10)) h 0)).toNatClampNeg i2) a13 ((6 * (x_I (x_si (x_si (x_si σ5 a7 (x_I σ5 h 0).toNatClampNeg (i1 / 10)) a9 (x_I (x_si σ5 a7 (x_I σ5 h 0).toNatClampNeg (i1 / 10)) h 0).toNatClampNeg (i1 - i1 / 10 * 10)) a11 (6 * (x_I (x_si (x_si σ5 a7 (x_I σ5 h 0).toNatClampNeg (i1 / 10)) a9 (x_I (x_si σ5 a7 (x_I σ5 h 0).toNatClampNeg (i1 / 10)) h 0).toNatClampNeg (i1 - i1 / 10 * 10)) h 0)).toNatClampNeg i2) h 0)) + 1).toNatClampNeg 10) h 0)) + 2).toNatClampNeg 50) h 0)) + 3).toNatClampNeg i3) h 0)) + 4).toNatClampNeg (-1)) h 0)) + 5).toNatClampNeg 0) h 0) + 1)) h 10 <|
          (some (some (.inl ((x_I (x_si (x_si (x_si (x_si (x_si (x_si (x_si (x_si (x_si σ5 a7 (x_I σ5 h 0).toNatClampNeg (i1 / 10)) a9 (x_I (x_si σ5 a7 (x_I σ5 h 0).toNatClampNeg (i1 / 10)) h 0).toNatClampNeg (i1 - i1 / 10 * 10)) a11 (6 * (x_I (x_si (x_si σ5 a7 (x_I σ5 h 0).toNatClampNeg (i1 / 10)) a9 (x_I (x_si σ5 a7 (x_I σ5 h 0).toNatClampNeg (i1 / 10)) h 0).toNatClampNeg (i1 - i1 / 10 * 10)) h 0)).toNatClampNeg i2) a13 ((6 * (x_I (x_si (x_si (x_si σ5 a7 (x_I σ5 h 0).toNatClampNeg (i1 / 10)) a9 (x_I (x_si σ5 a7 (x_I σ5 h 0).toNatClampNeg (i1 / 10)) h 0).toNatClampNeg (i1 - i1 / 10 * 10)) a11 (6 * (x_I (x_si (x_si σ5 a7 (x_I σ5 h 0).toNatClampNeg (i1 / 10)) a9 (x_I (x_si σ5 a7 (x_I σ5 h 0).toNatClampNeg (i1 / 10)) h 0).toNatClampNeg (i1 - i1 / 10 * 10)) h 0)).toNatClampNeg i2) h 0)) + 1).toNatClampNeg 10) a15 ((6 * (x_I (x_si (x_si (x_si (x_si σ5 a7 (x_I σ5 h 0).toNatClampNeg (i1 / 10)) a9 (x_I (x_si σ5 a7 (x_I σ5 h 0).toNatClampNeg (i1 / 10)) h 0).toNatClampNeg (i1 - i1 / 10 * 10)) a11 (6 * (x_I (x_si (x_si σ5 a7 (x_I σ5 h 0).toNatClampNeg (i1 / 10)) a9 (x_I (x_si σ5 a7 (x_I σ5 h 0).toNatClampNeg (i1 / 10)) h 0).toNatClampNeg (i1 - i1 / 10 * 10)) h 0)).toNatClampNeg i2) a13 ((6 * (x_I (x_si (x_si (x_si σ5 a7 (x_I σ5 h 0).toNatClampNeg (i1 / 10)) a9 (x_I (x_si σ5 a7 (x_I σ5 h 0).toNatClampNeg (i1 / 10)) h 0).toNatClampNeg (i1 - i1 / 10 * 10)) a11 (6 * (x_I (x_si (x_si σ5 a7 (x_I σ5 h 0).toNatClampNeg (i1 / 10)) a9 (x_I (x_si σ5 a7 (x_I σ5 h 0).toNatClampNeg (i1 / 10)) h 0).toNatClampNeg (i1 - i1 / 10 * 10)) h 0)).toNatClampNeg i2) h 0)) + 1).toNatClampNeg 10) h 0)) + 2).toNatClampNeg 50) a17 ((6 * (x_I (x_si (x_si (x_si (x_si (x_si σ5 a7 (x_I σ5 h 0).toNatClampNeg (i1 / 10)) a9 (x_I (x_si σ5 a7 (x_I σ5 h 0).toNatClampNeg (i1 / 10)) h 0).toNatClampNeg (i1 - i1 / 10 * 10)) a11 (6 * (x_I (x_si (x_si σ5 a7 (x_I σ5 h 0).toNatClampNeg (i1 / 10)) a9 (x_I (x_si σ5 a7 (x_I σ5 h 0).toNatClampNeg (i1 / 10)) h 0).toNatClampNeg (i1 - i1 / 10 * 10)) h 0)).toNatClampNeg i2) a13 ((6 * (x_I (x_si (x_si (x_si σ5 a7 (x_I σ5 h 0).toNatClampNeg (i1 / 10)) a9 (x_I (x_si σ5 a7 (x_I σ5 h 0).toNatClampNeg (i1 / 10)) h 0).toNatClampNeg (i1 - i1 / 10 * 10)) a11 (6 * (x_I (x_si (x_si σ5 a7 (x_I σ5 h 0).toNatClampNeg (i1 / 10)) a9 (x_I (x_si σ5 a7 (x_I σ5 h 0).toNatClampNeg (i1 / 10)) h 0).toNatClampNeg (i1 - i1 / 10 * 10)) h 0)).toNatClampNeg i2) h 0)) + 1).toNatClampNeg 10) a15 ((6 * (x_I (x_si (x_si (x_si (x_si σ5 a7 (x_I σ5 h 0).toNatClampNeg (i1 / 10)) a9 (x_I (x_si σ5 a7 (x_I σ5 h 0).toNatClampNeg (i1 / 10)) h 0).toNatClampNeg (i1 - i1 / 10 * 10)) a11 (6 * (x_I (x_si (x_si σ5 a7 (x_I σ5 h 0).toNatClampNeg (i1 / 10)) a9 (x_I (x_si σ5 a7 (x_I σ5 h 0).toNatClampNeg (i1 / 10)) h 0).toNatClampNeg (i1 - i1 / 10 * 10)) h 0)).toNatClampNeg i2) a13 ((6 * (x_I (x_si (x_si (x_si σ5 a7 (x_I σ5 h 0).toNatClampNeg (i1 / 10)) a9 (x_I (x_si σ5 a7 (x_I σ5 h 0).toNatClampNeg (i1 / 10)) h 0).toNatClampNeg (i1 - i1 / 10 * 10)) a11 (6 * (x_I (x_si (x_si σ5 a7 (x_I σ5 h 0).toNatClampNeg (i1 / 10)) a9 (x_I (x_si σ5 a7 (x_I σ5 h 0).toNatClampNeg (i1 / 10)) h 0).toNatClampNeg (i1 - i1 / 10 * 10)) h 0)).toNatClampNeg i2) h 0)) + 1).toNatClampNeg 10) h 0)) + 2).toNatClampNeg 50) h 0)) + 3).toNatClampNeg i3) a19 ((6 * (x_I (x_si (x_si (x_si (x_si (x_si (x_si σ5 a7 (x_I σ5 h 0).toNatClampNeg (i1 / 10)) a9 (x_I (x_si σ5 a7 (x_I σ5 h 0).toNatClampNeg (i1 / 10)) h 0).toNatClampNeg (i1 - i1 / 10 * 10)) a11 (6 * (x_I (x_si (x_si σ5 a7 (x_I σ5 h 0).toNatClampNeg (i1 / 10)) a9 (x_I (x_si σ5 a7 (x_I σ5 h 0).toNatClampNeg (i1 / 10)) h 0).toNatClampNeg (i1 - i1 / 10 * 10)) h 0)).toNatClampNeg i2) a13 ((6 * (x_I (x_si (x_si (x_si σ5 a7 (x_I σ5 h 0).toNatClampNeg (i1 / 10)) a9 (x_I (x_si σ5 a7 (x_I σ5 h 0).toNatClampNeg (i1 / 10)) h 0).toNatClampNeg (i1 - i1 / 10 * 10)) a11 (6 * (x_I (x_si (x_si σ5 a7 (x_I σ5 h 0).toNatClampNeg (i1 / 10)) a9 (x_I (x_si σ5 a7 (x_I σ5 h 0).toNatClampNeg (i1 / 10)) h 0).toNatClampNeg (i1 - i1 / 10 * 10)) h 0)).toNatClampNeg i2) h 0)) + 1).toNatClampNeg 10) a15 ((6 * (x_I (x_si (x_si (x_si (x_si σ5 a7 (x_I σ5 h 0).toNatClampNeg (i1 / 10)) a9 (x_I (x_si σ5 a7 (x_I σ5 h 0).toNatClampNeg (i1 / 10)) h 0).toNatClampNeg (i1 - i1 / 10 * 10)) a11 (6 * (x_I (x_si (x_si σ5 a7 (x_I σ5 h 0).toNatClampNeg (i1 / 10)) a9 (x_I (x_si σ5 a7 (x_I σ5 h 0).toNatClampNeg (i1 / 10)) h 0).toNatClampNeg (i1 - i1 / 10 * 10)) h 0)).toNatClampNeg i2) a13 ((6 * (x_I (x_si (x_si (x_si σ5 a7 (x_I σ5 h 0).toNatClampNeg (i1 / 10)) a9 (x_I (x_si σ5 a7 (x_I σ5 h 0).toNatClampNeg (i1 / 10)) h 0).toNatClampNeg (i1 - i1 / 10 * 10)) a11 (6 * (x_I (x_si (x_si σ5 a7 (x_I σ5 h 0).toNatClampNeg (i1 / 10)) a9 (x_I (x_si σ5 a7 (x_I σ5 h 0).toNatClampNeg (i1 / 10)) h 0).toNatClampNeg (i1 - i1 / 10 * 10)) h 0)).toNatClampNeg i2) h 0)) + 1).toNatClampNeg 10) h 0)) + 2).toNatClampNeg 50) a17 ((6 * (x_I (x_si (x_si (x_si (x_si (x_si σ5 a7 (x_I σ5 h 0).toNatClampNeg (i1 / 10)) a9 (x_I (x_si σ5 a7 (x_I σ5 h 0).toNatClampNeg (i1 / 10)) h 0).toNatClampNeg (i1 - i1 / 10 * 10)) a11 (6 * (x_I (x_si (x_si σ5 a7 (x_I σ5 h 0).toNatClampNeg (i1 / 10)) a9 (x_I (x_si σ5 a7 (x_I σ5 h 0).toNatClampNeg (i1 / 10)) h 0).toNatClampNeg (i1 - i1 / 10 * 10)) h 0)).toNatClampNeg i2) a13 ((6 * (x_I (x_si (x_si (x_si σ5 a7 (x_I σ5 h 0).toNatClampNeg (i1 / 10)) a9 (x_I (x_si σ5 a7 (x_I σ5 h 0).toNatClampNeg (i1 / 10)) h 0).toNatClampNeg (i1 - i1 / 10 * 10)) a11 (6 * (x_I (x_si (x_si σ5 a7 (x_I σ5 h 0).toNatClampNeg (i1 / 10)) a9 (x_I (x_si σ5 a7 (x_I σ5 h 0).toNatClampNeg (i1 / 10)) h 0).toNatClampNeg (i1 - i1 / 10 * 10)) h 0)).toNatClampNeg i2) h 0)) + 1).toNatClampNeg 10) a15 ((6 * (x_I (x_si (x_si (x_si (x_si σ5 a7 (x_I σ5 h 0).toNatClampNeg (i1 / 10)) a9 (x_I (x_si σ5 a7 (x_I σ5 h 0).toNatClampNeg (i1 / 10)) h 0).toNatClampNeg (i1 - i1 / 10 * 10)) a11 (6 * (x_I (x_si (x_si σ5 a7 (x_I σ5 h 0).toNatClampNeg (i1 / 10)) a9 (x_I (x_si σ5 a7 (x_I σ5 h 0).toNatClampNeg (i1 / 10)) h 0).toNatClampNeg (i1 - i1 / 10 * 10)) h 0)).toNatClampNeg i2) a13 ((6 * (x_I (x_si (x_si (x_si σ5 a7 (x_I σ5 h 0).toNatClampNeg (i1 / 10)) a9 (x_I (x_si σ5 a7 (x_I σ5 h 0).toNatClampNeg (i1 / 10)) h 0).toNatClampNeg (i1 - i1 / 10 * 10)) a11 (6 * (x_I (x_si (x_si σ5 a7 (x_I σ5 h 0).toNatClampNeg (i1 / 10)) a9 (x_I (x_si σ5 a7 (x_I σ5 h 0).toNatClampNeg (i1 / 10)) h 0).toNatClampNeg (i1 - i1 / 10 * 10)) h 0)).toNatClampNeg i2) h 0)) + 1).toNatClampNeg 10) h 0)) + 2).toNatClampNeg 50) h 0)) + 3).toNatClampNeg i3) h 0)) + 4).toNatClampNeg (-1)) a21 ((6 * (x_I (x_si (x_si (x_si (x_si (x_si (x_si (x_si σ5 a7 (x_I σ5 h 0).toNatClampNeg (i1 / 10)) a9 (x_I (x_si σ5 a7 (x_I σ5 h 0).toNatClampNeg (i1 / 10)) h 0).toNatClampNeg (i1 - i1 / 10 * 10)) a11 (6 * (x_I (x_si (x_si σ5 a7 (x_I σ5 h 0).toNatClampNeg (i1 / 10)) a9 (x_I (x_si σ5 a7 (x_I σ5 h 0).toNatClampNeg (i1 / 10)) h 0).toNatClampNeg (i1 - i1 / 10 * 10)) h 0)).toNatClampNeg i2) a13 ((6 * (x_I (x_si (x_si (x_si σ5 a7 (x_I σ5 h 0).toNatClampNeg (i1 / 10)) a9 (x_I (x_si σ5 a7 (x_I σ5 h 0).toNatClampNeg (i1 / 10)) h 0).toNatClampNeg (i1 - i1 / 10 * 10)) a11 (6 * (x_I (x_si (x_si σ5 a7 (x_I σ5 h 0).toNatClampNeg (i1 / 10)) a9 (x_I (x_si σ5 a7 (x_I σ5 h 0).toNatClampNeg (i1 / 10)) h 0).toNatClampNeg (i1 - i1 / 10 * 10)) h 0)).toNatClampNeg i2) h 0)) + 1).toNatClampNeg 10) a15 ((6 * (x_I (x_si (x_si (x_si (x_si σ5 a7 (x_I σ5 h 0).toNatClampNeg (i1 / 10)) a9 (x_I (x_si σ5 a7 (x_I σ5 h 0).toNatClampNeg (i1 / 10)) h 0).toNatClampNeg (i1 - i1 / 10 * 10)) a11 (6 * (x_I (x_si (x_si σ5 a7 (x_I σ5 h 0).toNatClampNeg (i1 / 10)) a9 (x_I (x_si σ5 a7 (x_I σ5 h 0).toNatClampNeg (i1 / 10)) h 0).toNatClampNeg (i1 - i1 / 10 * 10)) h 0)).toNatClampNeg i2) a13 ((6 * (x_I (x_si (x_si (x_si σ5 a7 (x_I σ5 h 0).toNatClampNeg (i1 / 10)) a9 (x_I (x_si σ5 a7 (x_I σ5 h 0).toNatClampNeg (i1 / 10)) h 0).toNatClampNeg (i1 - i1 / 10 * 10)) a11 (6 * (x_I (x_si (x_si σ5 a7 (x_I σ5 h 0).toNatClampNeg (i1 / 10)) a9 (x_I (x_si σ5 a7 (x_I σ5 h 0).toNatClampNeg (i1 / 10)) h 0).toNatClampNeg (i1 - i1 / 10 * 10)) h 0)).toNatClampNeg i2) h 0)) + 1).toNatClampNeg 10) h 0)) + 2).toNatClampNeg 50) a17 ((6 * (x_I (x_si (x_si (x_si (x_si (x_si σ5 a7 (x_I σ5 h 0).toNatClampNeg (i1 / 10)) a9 (x_I (x_si σ5 a7 (x_I σ5 h 0).toNatClampNeg (i1 / 10)) h 0).toNatClampNeg (i1 - i1 / 10 * 10)) a11 (6 * (x_I (x_si (x_si σ5 a7 (x_I σ5 h 0).toNatClampNeg (i1 / 10)) a9 (x_I (x_si σ5 a7 (x_I σ5 h 0).toNatClampNeg (i1 / 10)) h 0).toNatClampNeg (i1 - i1 / 10 * 10)) h 0)).toNatClampNeg i2) a13 ((6 * (x_I (x_si (x_si (x_si σ5 a7 (x_I σ5 h 0).toNatClampNeg (i1 / 10)) a9 (x_I (x_si σ5 a7 (x_I σ5 h 0).toNatClampNeg (i1 / 10)) h 0).toNatClampNeg (i1 - i1 / 10 * 10)) a11 (6 * (x_I (x_si (x_si σ5 a7 (x_I σ5 h 0).toNatClampNeg (i1 / 10)) a9 (x_I (x_si σ5 a7 (x_I σ5 h 0).toNatClampNeg (i1 / 10)) h 0).toNatClampNeg (i1 - i1 / 10 * 10)) h 0)).toNatClampNeg i2) h 0)) + 1).toNatClampNeg 10) a15 ((6 * (x_I (x_si (x_si (x_si (x_si σ5 a7 (x_I σ5 h 0).toNatClampNeg (i1 / 10)) a9 (x_I (x_si σ5 a7 (x_I σ5 h 0).toNatClampNeg (i1 / 10)) h 0).toNatClampNeg (i1 - i1 / 10 * 10)) a11 (6 * (x_I (x_si (x_si σ5 a7 (x_I σ5 h 0).toNatClampNeg (i1 / 10)) a9 (x_I (x_si σ5 a7 (x_I σ5 h 0).toNatClampNeg (i1 / 10)) h 0).toNatClampNeg (i1 - i1 / 10 * 10)) h 0)).toNatClampNeg i2) a13 ((6 * (x_I (x_si (x_si (x_si σ5 a7 (x_I σ5 h 0).toNatClampNeg (i1 / 10)) a9 (x_I (x_si σ5 a7 (x_I σ5 h 0).toNatClampNeg (i1 / 10)) h 0).toNatClampNeg (i1 - i1 / 10 * 10)) a11 (6 * (x_I (x_si (x_si σ5 a7 (x_I σ5 h 0).toNatClampNeg (i1 / 10)) a9 (x_I (x_si σ5 a7 (x_I σ5 h 0).toNatClampNeg (i1 / 10)) h 0).toNatClampNeg (i1 - i1 / 10 * 10)) h 0)).toNatClampNeg i2) h 0)) + 1).toNatClampNeg 10) h 0)) + 2).toNatClampNeg 50) h 0)) + 3).toNatClampNeg i3) a19 ((6 * (x_I (x_si (x_si (x_si (x_si (x_si (x_si σ5 a7 (x_I σ5 h 0).toNatClampNeg (i1 / 10)) a9 (x_I (x_si σ5 a7 (x_I σ5 h 0).toNatClampNeg (i1 / 10)) h 0).toNatClampNeg (i1 - i1 / 10 * 10)) a11 (6 * (x_I (x_si (x_si σ5 a7 (x_I σ5 h 0).toNatClampNeg (i1 / 10)) a9 (x_I (x_si σ5 a7 (x_I σ5 h 0).toNatClampNeg (i1 / 10)) h 0).toNatClampNeg (i1 - i1 / 10 * 10)) h 0)).toNatClampNeg i2) a13 ((6 * (x_I (x_si (x_si (x_si σ5 a7 (x_I σ5 h 0).toNatClampNeg (i1 / 10)) a9 (x_I (x_si σ5 a7 (x_I σ5 h 0).toNatClampNeg (i1 / 10)) h 0).toNatClampNeg (i1 - i1 / 10 * 10)) a11 (6 * (x_I (x_si (x_si σ5 a7 (x_I σ5 h 0).toNatClampNeg (i1 / 10)) a9 (x_I (x_si σ5 a7 (x_I σ5 h 0).toNatClampNeg (i1 / 10)) h 0).toNatClampNeg (i1 - i1 / 10 * 10)) h 0)).toNatClampNeg i2) h 0)) + 1).toNatClampNeg 10) a15 ((6 * (x_I (x_si (x_si (x_si (x_si σ5 a7 (x_I σ5 h 0).toNatClampNeg (i1 / 10)) a9 (x_I (x_si σ5 a7 (x_I σ5 h 0).toNatClampNeg (i1 / 10)) h 0).toNatClampNeg (i1 - i1 / 10 * 10)) a11 (6 * (x_I (x_si (x_si σ5 a7 (x_I σ5 h 0).toNatClampNeg (i1 / 10)) a9 (x_I (x_si σ5 a7 (x_I σ5 h 0).toNatClampNeg (i1 / 10)) h 0).toNatClampNeg (i1 - i1 / 10 * 10)) h 0)).toNatClampNeg i2) a13 ((6 * (x_I (x_si (x_si (x_si σ5 a7 (x_I σ5 h 0).toNatClampNeg (i1 / 10)) a9 (x_I (x_si σ5 a7 (x_I σ5 h 0).toNatClampNeg (i1 / 10)) h 0).toNatClampNeg (i1 - i1 / 10 * 10)) a11 (6 * (x_I (x_si (x_si σ5 a7 (x_I σ5 h 0).toNatClampNeg (i1 / 10)) a9 (x_I (x_si σ5 a7 (x_I σ5 h 0).toNatClampNeg (i1 / 10)) h 0).toNatClampNeg (i1 - i1 / 10 * 10)) h 0)).toNatClampNeg i2) h 0)) + 1).toNatClampNeg 10) h 0)) + 2).toNatClampNeg 50) a17 ((6 * (x_I (x_si (x_si (x_si (x_si (x_si σ5 a7 (x_I σ5 h 0).toNatClampNeg (i1 / 10)) a9 (x_I (x_si σ5 a7 (x_I σ5 h 0).toNatClampNeg (i1 / 10)) h 0).toNatClampNeg (i1 - i1 / 10 * 10)) a11 (6 * (x_I (x_si (x_si σ5 a7 (x_I σ5 h 0).toNatClampNeg (i1 / 10)) a9 (x_I (x_si σ5 a7 (x_I σ5 h 0).toNatClampNeg (i1 / 10)) h 0).toNatClampNeg (i1 - i1 / 10 * 10)) h 0)).toNatClampNeg i2) a13 ((6 * (x_I (x_si (x_si (x_si σ5 a7 (x_I σ5 h 0).toNatClampNeg (i1 / 10)) a9 (x_I (x_si σ5 a7 (x_I σ5 h 0).toNatClampNeg (i1 / 10)) h 0).toNatClampNeg (i1 - i1 / 10 * 10)) a11 (6 * (x_I (x_si (x_si σ5 a7 (x_I σ5 h 0).toNatClampNeg (i1 / 10)) a9 (x_I (x_si σ5 a7 (x_I σ5 h 0).toNatClampNeg (i1 / 10)) h 0).toNatClampNeg (i1 - i1 / 10 * 10)) h 0)).toNatClampNeg i2) h 0)) + 1).toNatClampNeg 10) a15 ((6 * (x_I (x_si (x_si (x_si (x_si σ5 a7 (x_I σ5 h 0).toNatClampNeg (i1 / 10)) a9 (x_I (x_si σ5 a7 (x_I σ5 h 0).toNatClampNeg (i1 / 10)) h 0).toNatClampNeg (i1 - i1 / 10 * 10)) a11 (6 * (x_I (x_si (x_si σ5 a7 (x_I σ5 h 0).toNatClampNeg (i1 / 10)) a9 (x_I (x_si σ5 a7 (x_I σ5 h 0).toNatClampNeg (i1 / 10)) h 0).toNatClampNeg (i1 - i1 / 10 * 10)) h 0)).toNatClampNeg i2) a13 ((6 * (x_I (x_si (x_si (x_si σ5 a7 (x_I σ5 h 0).toNatClampNeg (i1 / 10)) a9 (x_I (x_si σ5 a7 (x_I σ5 h 0).toNatClampNeg (i1 / 10)) h 0).toNatClampNeg (i1 - i1 / 10 * 10)) a11 (6 * (x_I (x_si (x_si σ5 a7 (x_I σ5 h 0).toNatClampNeg (i1 / 10)) a9 (x_I (x_si σ5 a7 (x_I σ5 h 0).toNatClampNeg (i1 / 10)) h 0).toNatClampNeg (i1 - i1 / 10 * 10)) h 0)).toNatClampNeg i2) h 0)) + 1).toNatClampNeg 10) h 0)) + 2).toNatClampNeg 50) h 0)) + 3).toNatClampNeg i3) h 0)) + 4).toNatClampNeg (-1)) h 0)) + 5).toNatClampNeg 0) h 0 ((x_I (x_si (x_si (x_si (x_si (x_si (x_si (x_si (x_si σ5 a7 (x_I σ5 h 0).toNatClampNeg (i1 / 10)) a9 (x_I (x_si σ5 a7 (x_I σ5 h 0).toNatClampNeg (i1 / 10)) h 0).toNatClampNeg (i1 - i1 / 10 * 10)) a11 (6 * (x_I (x_si (x_si σ5 a7 (x_I σ5 h 0).toNatClampNeg (i1 / 10)) a9 (x_I (x_si σ5 a7 (x_I σ5 h 0).toNatClampNeg (i1 / 10)) h 0).toNatClampNeg (i1 - i1 / 10 * 10)) h 0)).toNatClampNeg i2) a13 ((6 * (x_I (x_si (x_si (x_si σ5 a7 (x_I σ5 h 0).toNatClampNeg (i1 / 10)) a9 (x_I (x_si σ5 a7 (x_I σ5 h 0).toNatClampNeg (i1 / 10)) h 0).toNatClampNeg (i1 - i1 / 10 * 10)) a11 (6 * (x_I (x_si (x_si σ5 a7 (x_I σ5 h 0).toNatClampNeg (i1 / 10)) a9 (x_I (x_si σ5 a7 (x_I σ5 h 0).toNatClampNeg (i1 / 10)) h 0).toNatClampNeg (i1 - i1 / 10 * 10)) h 0)).toNatClampNeg i2) h 0)) + 1).toNatClampNeg 10) a15 ((6 * (x_I (x_si (x_si (x_si (x_si σ5 a7 (x_I σ5 h 0).toNatClampNeg (i1 / 10)) a9 (x_I (x_si σ5 a7 (x_I σ5 h 0).toNatClampNeg (i1 / 10)) h 0).toNatClampNeg (i1 - i1 / 10 * 10)) a11 (6 * (x_I (x_si (x_si σ5 a7 (x_I σ5 h 0).toNatClampNeg (i1 / 10)) a9 (x_I (x_si σ5 a7 (x_I σ5 h 0).toNatClampNeg (i1 / 10)) h 0).toNatClampNeg (i1 - i1 / 10 * 10)) h 0)).toNatClampNeg i2) a13 ((6 * (x_I (x_si (x_si (x_si σ5 a7 (x_I σ5 h 0).toNatClampNeg (i1 / 10)) a9 (x_I (x_si σ5 a7 (x_I σ5 h 0).toNatClampNeg (i1 / 10)) h 0).toNatClampNeg (i1 - i1 / 10 * 10)) a11 (6 * (x_I (x_si (x_si σ5 a7 (x_I σ5 h 0).toNatClampNeg (i1 / 10)) a9 (x_I (x_si σ5 a7 (x_I σ5 h 0).toNatClampNeg (i1 / 10)) h 0).toNatClampNeg (i1 - i1 / 10 * 10)) h 0)).toNatClampNeg i2) h 0)) + 1).toNatClampNeg 10) h 0)) + 2).toNatClampNeg 50) a17 ((6 * (x_I (x_si (x_si (x_si (x_si (x_si σ5 a7 (x_I σ5 h 0).toNatClampNeg (i1 / 10)) a9 (x_I (x_si σ5 a7 (x_I σ5 h 0).toNatClampNeg (i1 / 10)) h 0).toNatClampNeg (i1 - i1 / 10 * 10)) a11 (6 * (x_I (x_si (x_si σ5 a7 (x_I σ5 h 0).toNatClampNeg (i1 / 10)) a9 (x_I (x_si σ5 a7 (x_I σ5 h 0).toNatClampNeg (i1 / 10)) h 0).toNatClampNeg (i1 - i1 / 10 * 10)) h 0)).toNatClampNeg i2) a13 ((6 * (x_I (x_si (x_si (x_si σ5 a7 (x_I σ5 h 0).toNatClampNeg (i1 / 10)) a9 (x_I (x_si σ5 a7 (x_I σ5 h 0).toNatClampNeg (i1 / 10)) h 0).toNatClampNeg (i1 - i1 / 10 * 10)) a11 (6 * (x_I (x_si (x_si σ5 a7 (x_I σ5 h 0).toNatClampNeg (i1 / 10)) a9 (x_I (x_si σ5 a7 (x_I σ5 h 0).toNatClampNeg (i1 / 10)) h 0).toNatClampNeg (i1 - i1 / 10 * 10)) h 0)).toNatClampNeg i2) h 0)) + 1).toNatClampNeg 10) a15 ((6 * (x_I (x_si (x_si (x_si (x_si σ5 a7 (x_I σ5 h 0).toNatClampNeg (i1 / 10)) a9 (x_I (x_si σ5 a7 (x_I σ5 h 0).toNatClampNeg (i1 / 10)) h 0).toNatClampNeg (i1 - i1 / 10 * 10)) a11 (6 * (x_I (x_si (x_si σ5 a7 (x_I σ5 h 0).toNatClampNeg (i1 / 10)) a9 (x_I (x_si σ5 a7 (x_I σ5 h 0).toNatClampNeg (i1 / 10)) h 0).toNatClampNeg (i1 - i1 / 10 * 10)) h 0)).toNatClampNeg i2) a13 ((6 * (x_I (x_si (x_si (x_si σ5 a7 (x_I σ5 h 0).toNatClampNeg (i1 / 10)) a9 (x_I (x_si σ5 a7 (x_I σ5 h 0).toNatClampNeg (i1 / 10)) h 0).toNatClampNeg (i1 - i1 / 10 * 10)) a11 (6 * (x_I (x_si (x_si σ5 a7 (x_I σ5 h 0).toNatClampNeg (i1 / 10)) a9 (x_I (x_si σ5 a7 (x_I σ5 h 0).toNatClampNeg (i1 / 10)) h 0).toNatClampNeg (i1 - i1 / 10 * 10)) h 0)).toNatClampNeg i2) h 0)) + 1).toNatClampNeg 10) h 0)) + 2).toNatClampNeg 50) h 0)) + 3).toNatClampNeg i3) a19 ((6 * (x_I (x_si (x_si (x_si (x_si (x_si (x_si σ5 a7 (x_I σ5 h 0).toNatClampNeg (i1 / 10)) a9 (x_I (x_si σ5 a7 (x_I σ5 h 0).toNatClampNeg (i1 / 10)) h 0).toNatClampNeg (i1 - i1 / 10 * 10)) a11 (6 * (x_I (x_si (x_si σ5 a7 (x_I σ5 h 0).toNatClampNeg (i1 / 10)) a9 (x_I (x_si σ5 a7 (x_I σ5 h 0).toNatClampNeg (i1 / 10)) h 0).toNatClampNeg (i1 - i1 / 10 * 10)) h 0)).toNatClampNeg i2) a13 ((6 * (x_I (x_si (x_si (x_si σ5 a7 (x_I σ5 h 0).toNatClampNeg (i1 / 10)) a9 (x_I (x_si σ5 a7 (x_I σ5 h 0).toNatClampNeg (i1 / 10)) h 0).toNatClampNeg (i1 - i1 / 10 * 10)) a11 (6 * (x_I (x_si (x_si σ5 a7 (x_I σ5 h 0).toNatClampNeg (i1 / 10)) a9 (x_I (x_si σ5 a7 (x_I σ5 h 0).toNatClampNeg (i1 / 10)) h 0).toNatClampNeg (i1 - i1 / 10 * 10)) h 0)).toNatClampNeg i2) h 0)) + 1).toNatClampNeg 10) a15 ((6 * (x_I (x_si (x_si (x_si (x_si σ5 a7 (x_I σ5 h 0).toNatClampNeg (i1 / 10)) a9 (x_I (x_si σ5 a7 (x_I σ5 h 0).toNatClampNeg (i1 / 10)) h 0).toNatClampNeg (i1 - i1 / 10 * 10)) a11 (6 * (x_I (x_si (x_si σ5 a7 (x_I σ5 h 0).toNatClampNeg (i1 / 10)) a9 (x_I (x_si σ5 a7 (x_I σ5 h 0).toNatClampNeg (i1 / 10)) h 0).toNatClampNeg (i1 - i1 / 10 * 10)) h 0)).toNatClampNeg i2) a13 ((6 * (x_I (x_si (x_si (x_si σ5 a7 (x_I σ5 h 0).toNatClampNeg (i1 / 10)) a9 (x_I (x_si σ5 a7 (x_I σ5 h 0).toNatClampNeg (i1 / 10)) h 0).toNatClampNeg (i1 - i1 / 10 * 10)) a11 (6 * (x_I (x_si (x_si σ5 a7 (x_I σ5 h 0).toNatClampNeg (i1 / 10)) a9 (x_I (x_si σ5 a7 (x_I σ5 h 0).toNatClampNeg (i1 / 10)) h 0).toNatClampNeg (i1 - i1 / 10 * 10)) h 0)).toNatClampNeg i2) h 0)) + 1).toNatClampNeg 10) h 0)) + 2).toNatClampNeg 50) a17 ((6 * (x_I (x_si (x_si (x_si (x_si (x_si σ5 a7 (x_I σ5 h 0).toNatClampNeg (i1 / 10)) a9 (x_I (x_si σ5 a7 (x_I σ5 h 0).toNatClampNeg (i1 / 10)) h 0).toNatClampNeg (i1 - i1 / 10 * 10)) a11 (6 * (x_I (x_si (x_si σ5 a7 (x_I σ5 h 0).toNatClampNeg (i1 / 10)) a9 (x_I (x_si σ5 a7 (x_I σ5 h 0).toNatClampNeg (i1 / 10)) h 0).toNatClampNeg (i1 - i1 / 10 * 10)) h 0)).toNatClampNeg i2) a13 ((6 * (x_I (x_si (x_si (x_si σ5 a7 (x_I σ5 h 0).toNatClampNeg (i1 / 10)) a9 (x_I (x_si σ5 a7 (x_I σ5 h 0).toNatClampNeg (i1 / 10)) h 0).toNatClampNeg (i1 - i1 / 10 * 10)) a11 (6 * (x_I (x_si (x_si σ5 a7 (x_I σ5 h 0).toNatClampNeg (i1 / 10)) a9 (x_I (x_si σ5 a7 (x_I σ5 h 0).toNatClampNeg (i1 / 10)) h 0).toNatClampNeg (i1 - i1 / 10 * 10)) h 0)).toNatClampNeg i2) h 0)) + 1).toNatClampNeg 10) a15 ((6 * (x_I (x_si (x_si (x_si (x_si σ5 a7 (x_I σ5 h 0).toNatClampNeg (i1 / 10)) a9 (x_I (x_si σ5 a7 (x_I σ5 h 0).toNatClampNeg (i1 / 10)) h 0).toNatClampNeg (i1 - i1 / 10 * 10)) a11 (6 * (x_I (x_si (x_si σ5 a7 (x_I σ5 h 0).toNatClampNeg (i1 / 10)) a9 (x_I (x_si σ5 a7 (x_I σ5 h 0).toNatClampNeg (i1 / 10)) h 0).toNatClampNeg (i1 - i1 / 10 * 10)) h 0)).toNatClampNeg i2) a13 ((6 * (x_I (x_si (x_si (x_si σ5 a7 (x_I σ5 h 0).toNatClampNeg (i1 / 10)) a9 (x_I (x_si σ5 a7 (x_I σ5 h 0).toNatClampNeg (i1 / 10)) h 0).toNatClampNeg (i1 - i1 / 10 * 10)) a11 (6 * (x_I (x_si (x_si σ5 a7 (x_I σ5 h 0).toNatClampNeg (i1 / 10)) a9 (x_I (x_si σ5 a7 (x_I σ5 h 0).toNatClampNeg (i1 / 10)) h 0).toNatClampNeg (i1 - i1 / 10 * 10)) h 0)).toNatClampNeg i2) h 0)) + 1).toNatClampNeg 10) h 0)) + 2).toNatClampNeg 50) h 0)) + 3).toNatClampNeg i3) h 0)) + 4).toNatClampNeg (-1)) a21 ((6 * (x_I (x_si (x_si (x_si (x_si (x_si (x_si (x_si σ5 a7 (x_I σ5 h 0).toNatClampNeg (i1 / 10)) a9 (x_I (x_si σ5 a7 (x_I σ5 h 0).toNatClampNeg (i1 / 10)) h 0).toNatClampNeg (i1 - i1 / 10 * 10)) a11 (6 * (x_I (x_si (x_si σ5 a7 (x_I σ5 h 0).toNatClampNeg (i1 / 10)) a9 (x_I (x_si σ5 a7 (x_I σ5 h 0).toNatClampNeg (i1 / 10)) h 0).toNatClampNeg (i1 - i1 / 10 * 10)) h 0)).toNatClampNeg i2) a13 ((6 * (x_I (x_si (x_si (x_si σ5 a7 (x_I σ5 h 0).toNatClampNeg (i1 / 10)) a9 (x_I (x_si σ5 a7 (x_I σ5 h 0).toNatClampNeg (i1 / 10)) h 0).toNatClampNeg (i1 - i1 / 10 * 10)) a11 (6 * (x_I (x_si (x_si σ5 a7 (x_I σ5 h 0).toNatClampNeg (i1 / 10)) a9 (x_I (x_si σ5 a7 (x_I σ5 h 0).toNatClampNeg (i1 / 10)) h 0).toNatClampNeg (i1 - i1 / 10 * 10)) h 0)).toNatClampNeg i2) h 0)) + 1).toNatClampNeg 10) a15 ((6 * (x_I (x_si (x_si (x_si (x_si σ5 a7 (x_I σ5 h 0).toNatClampNeg (i1 / 10)) a9 (x_I (x_si σ5 a7 (x_I σ5 h 0).toNatClampNeg (i1 / 10)) h 0).toNatClampNeg (i1 - i1 / 10 * 10)) a11 (6 * (x_I (x_si (x_si σ5 a7 (x_I σ5 h 0).toNatClampNeg (i1 / 10)) a9 (x_I (x_si σ5 a7 (x_I σ5 h 0).toNatClampNeg (i1 / 10)) h 0).toNatClampNeg (i1 - i1 / 10 * 10)) h 0)).toNatClampNeg i2) a13 ((6 * (x_I (x_si (x_si (x_si σ5 a7 (x_I σ5 h 0).toNatClampNeg (i1 / 10)) a9 (x_I (x_si σ5 a7 (x_I σ5 h 0).toNatClampNeg (i1 / 10)) h 0).toNatClampNeg (i1 - i1 / 10 * 10)) a11 (6 * (x_I (x_si (x_si σ5 a7 (x_I σ5 h 0).toNatClampNeg (i1 / 10)) a9 (x_I (x_si σ5 a7 (x_I σ5 h 0).toNatClampNeg (i1 / 10)) h 0).toNatClampNeg (i1 - i1 / 10 * 10)) h 0)).toNatClampNeg i2) h 0)) + 1).toNatClampNeg 10) h 0)) + 2).toNatClampNeg 50) a17 ((6 * (x_I (x_si (x_si (x_si (x_si (x_si σ5 a7 (x_I σ5 h 0).toNatClampNeg (i1 / 10)) a9 (x_I (x_si σ5 a7 (x_I σ5 h 0).toNatClampNeg (i1 / 10)) h 0).toNatClampNeg (i1 - i1 / 10 * 10)) a11 (6 * (x_I (x_si (x_si σ5 a7 (x_I σ5 h 0).toNatClampNeg (i1 / 10)) a9 (x_I (x_si σ5 a7 (x_I σ5 h 0).toNatClampNeg (i1 / 10)) h 0).toNatClampNeg (i1 - i1 / 10 * 10)) h 0)).toNatClampNeg i2) a13 ((6 * (x_I (x_si (x_si (x_si σ5 a7 (x_I σ5 h 0).toNatClampNeg (i1 / 10)) a9 (x_I (x_si σ5 a7 (x_I σ5 h 0).toNatClampNeg (i1 / 10)) h 0).toNatClampNeg (i1 - i1 / 10 * 10)) a11 (6 * (x_I (x_si (x_si σ5 a7 (x_I σ5 h 0).toNatClampNeg (i1 / 10)) a9 (x_I (x_si σ5 a7 (x_I σ5 h 0).toNatClampNeg (i1 / 10)) h 0).toNatClampNeg (i1 - i1 / 10 * 10)) h 0)).toNatClampNeg i2) h 0)) + 1).toNatClampNeg 10) a15 ((6 * (x_I (x_si (x_si (x_si (x_si σ5 a7 (x_I σ5 h 0).toNatClampNeg (i1 / 10)) a9 (x_I (x_si σ5 a7 (x_I σ5 h 0).toNatClampNeg (i1 / 10)) h 0).toNatClampNeg (i1 - i1 / 10 * 10)) a11 (6 * (x_I (x_si (x_si σ5 a7 (x_I σ5 h 0).toNatClampNeg (i1 / 10)) a9 (x_I (x_si σ5 a7 (x_I σ5 h 0).toNatClampNeg (i1 / 10)) h 0).toNatClampNeg (i1 - i1 / 10 * 10)) h 0)).toNatClampNeg i2) a13 ((6 * (x_I (x_si (x_si (x_si σ5 a7 (x_I σ5 h 0).toNatClampNeg (i1 / 10)) a9 (x_I (x_si σ5 a7 (x_I σ5 h 0).toNatClampNeg (i1 / 10)) h 0).toNatClampNeg (i1 - i1 / 10 * 10)) a11 (6 * (x_I (x_si (x_si σ5 a7 (x_I σ5 h 0).toNatClampNeg (i1 / 10)) a9 (x_I (x_si σ5 a7 (x_I σ5 h 0).toNatClampNeg (i1 / 10)) h 0).toNatClampNeg (i1 - i1 / 10 * 10)) h 0)).toNatClampNeg i2) h 0)) + 1).toNatClampNeg 10) h 0)) + 2).toNatClampNeg 50) h 0)) + 3).toNatClampNeg i3) a19 ((6 * (x_I (x_si (x_si (x_si (x_si (x_si (x_si σ5 a7 (x_I σ5 h 0).toNatClampNeg (i1 / 10)) a9 (x_I (x_si σ5 a7 (x_I σ5 h 0).toNatClampNeg (i1 / 10)) h 0).toNatClampNeg (i1 - i1 / 10 * 10)) a11 (6 * (x_I (x_si (x_si σ5 a7 (x_I σ5 h 0).toNatClampNeg (i1 / 10)) a9 (x_I (x_si σ5 a7 (x_I σ5 h 0).toNatClampNeg (i1 / 10)) h 0).toNatClampNeg (i1 - i1 / 10 * 10)) h 0)).toNatClampNeg i2) a13 ((6 * (x_I (x_si (x_si (x_si σ5 a7 (x_I σ5 h 0).toNatClampNeg (i1 / 10)) a9 (x_I (x_si σ5 a7 (x_I σ5 h 0).toNatClampNeg (i1 / 10)) h 0).toNatClampNeg (i1 - i1 / 10 * 10)) a11 (6 * (x_I (x_si (x_si σ5 a7 (x_I σ5 h 0).toNatClampNeg (i1 / 10)) a9 (x_I (x_si σ5 a7 (x_I σ5 h 0).toNatClampNeg (i1 / 10)) h 0).toNatClampNeg (i1 - i1 / 10 * 10)) h 0)).toNatClampNeg i2) h 0)) + 1).toNatClampNeg 10) a15 ((6 * (x_I (x_si (x_si (x_si (x_si σ5 a7 (x_I σ5 h 0).toNatClampNeg (i1 / 10)) a9 (x_I (x_si σ5 a7 (x_I σ5 h 0).toNatClampNeg (i1 / 10)) h 0).toNatClampNeg (i1 - i1 / 10 * 10)) a11 (6 * (x_I (x_si (x_si σ5 a7 (x_I σ5 h 0).toNatClampNeg (i1 / 10)) a9 (x_I (x_si σ5 a7 (x_I σ5 h 0).toNatClampNeg (i1 / 10)) h 0).toNatClampNeg (i1 - i1 / 10 * 10)) h 0)).toNatClampNeg i2) a13 ((6 * (x_I (x_si (x_si (x_si σ5 a7 (x_I σ5 h 0).toNatClampNeg (i1 / 10)) a9 (x_I (x_si σ5 a7 (x_I σ5 h 0).toNatClampNeg (i1 / 10)) h 0).toNatClampNeg (i1 - i1 / 10 * 10)) a11 (6 * (x_I (x_si (x_si σ5 a7 (x_I σ5 h 0).toNatClampNeg (i1 / 10)) a9 (x_I (x_si σ5 a7 (x_I σ5 h 0).toNatClampNeg (i1 / 10)) h 0).toNatClampNeg (i1 - i1 / 10 * 10)) h 0)).toNatClampNeg i2) h 0)) + 1).toNatClampNeg 10) h 0)) + 2).toNatClampNeg 50) a17 ((6 * (x_I (x_si (x_si (x_si (x_si (x_si σ5 a7 (x_I σ5 h 0).toNatClampNeg (i1 / 10)) a9 (x_I (x_si σ5 a7 (x_I σ5 h 0).toNatClampNeg (i1 / 10)) h 0).toNatClampNeg (i1 - i1 / 10 * 10)) a11 (6 * (x_I (x_si (x_si σ5 a7 (x_I σ5 h 0).toNatClampNeg (i1 / 10)) a9 (x_I (x_si σ5 a7 (x_I σ5 h 0).toNatClampNeg (i1 / 10)) h 0).toNatClampNeg (i1 - i1 / 10 * 10)) h 0)).toNatClampNeg i2) a13 ((6 * (x_I (x_si (x_si (x_si σ5 a7 (x_I σ5 h 0).toNatClampNeg (i1 / 10)) a9 (x_I (x_si σ5 a7 (x_I σ5 h 0).toNatClampNeg (i1 / 10)) h 0).toNatClampNeg (i1 - i1 / 10 * 10)) a11 (6 * (x_I (x_si (x_si σ5 a7 (x_I σ5 h 0).toNatClampNeg (i1 / 10)) a9 (x_I (x_si σ5 a7 (x_I σ5 h 0).toNatClampNeg (i1 / 10)) h 0).toNatClampNeg (i1 - i1 / 10 * 10)) h 0)).toNatClampNeg i2) h 0)) + 1).toNatClampNeg 10) a15 ((6 * (x_I (x_si (x_si (x_si (x_si σ5 a7 (x_I σ5 h 0).toNatClampNeg (i1 / 10)) a9 (x_I (x_si σ5 a7 (x_I σ5 h 0).toNatClampNeg (i1 / 10)) h 0).toNatClampNeg (i1 - i1 / 10 * 10)) a11 (6 * (x_I (x_si (x_si σ5 a7 (x_I σ5 h 0).toNatClampNeg (i1 / 10)) a9 (x_I (x_si σ5 a7 (x_I σ5 h 0).toNatClampNeg (i1 / 10)) h 0).toNatClampNeg (i1 - i1 / 10 * 10)) h 0)).toNatClampNeg i2) a13 ((6 * (x_I (x_si (x_si (x_si σ5 a7 (x_I σ5 h 0).toNatClampNeg (i1 / 10)) a9 (x_I (x_si σ5 a7 (x_I σ5 h 0).toNatClampNeg (i1 / 10)) h 0).toNatClampNeg (i1 - i1 / 10 * 10)) a11 (6 * (x_I (x_si (x_si σ5 a7 (x_I σ5 h 0).toNatClampNeg (i1 / 10)) a9 (x_I (x_si σ5 a7 (x_I σ5 h 0).toNatClampNeg (i1 / 10)) h 0).toNatClampNeg (i1 - i1 / 10 * 10)) h 0)).toNatClampNeg i2) h 0)) + 1).toNatClampNeg 10) h 0)) + 2).toNatClampNeg 50) h 0)) + 3).toNatClampNeg i3) h 0)) + 4).toNatClampNeg (-1)) h 0)) + 5).toNatClampNeg 0) h 0) + 1)) h 0) - 1)), x_si (x_si (x_si (x_si (x_si (x_si (x_si (x_si (x_si σ5 a7 (x_I σ5 h 0).toNatClampNeg (i1 / 10)) a9 (x_I (x_si σ5 a7 (x_I σ5 h 0).toNatClampNeg (i1 / 10)) h 0).toNatClampNeg (i1 - i1 / 10 * 10)) a11 (6 * (x_I (x_si (x_si σ5 a7 (x_I σ5 h 0).toNatClampNeg (i1 / 10)) a9 (x_I (x_si σ5 a7 (x_I σ5 h 0).toNatClampNeg (i1 / 10)) h 0).toNatClampNeg (i1 - i1 / 10 * 10)) h 0)).toNatClampNeg i2) a13 ((6 * (x_I (x_si (x_si (x_si σ5 a7 (x_I σ5 h 0).toNatClampNeg (i1 / 10)) a9 (x_I (x_si σ5 a7 (x_I σ5 h 0).toNatClampNeg (i1 / 10)) h 0).toNatClampNeg (i1 - i1 / 10 * 10)) a11 (6 * (x_I (x_si (x_si σ5 a7 (x_I σ5 h 0).toNatClampNeg (i1 / 10)) a9 (x_I (x_si σ5 a7 (x_I σ5 h 0).toNatClampNeg (i1 / 10)) h 0).toNatClampNeg (i1 - i1 / 10 * 10)) h 0)).toNatClampNeg i2) h 0)) + 1).toNatClampNeg 10) a15 ((6 * (x_I (x_si (x_si (x_si (x_si σ5 a7 (x_I σ5 h 0).toNatClampNeg (i1 / 10)) a9 (x_I (x_si σ5 a7 (x_I σ5 h 0).toNatClampNeg (i1 / 10)) h 0).toNatClampNeg (i1 - i1 / 10 * 10)) a11 (6 * (x_I (x_si (x_si σ5 a7 (x_I σ5 h 0).toNatClampNeg (i1 / 10)) a9 (x_I (x_si σ5 a7 (x_I σ5 h 0).toNatClampNeg (i1 / 10)) h 0).toNatClampNeg (i1 - i1 / 10 * 10)) h 0)).toNatClampNeg i2) a13 ((6 * (x_I (x_si (x_si (x_si σ5 a7 (x_I σ5 h 0).toNatClampNeg (i1 / 10)) a9 (x_I (x_si σ5 a7 (x_I σ5 h 0).toNatClampNeg (i1 / 10)) h 0).toNatClampNeg (i1 - i1 / 10 * 10)) a11 (6 * (x_I (x_si (x_si σ5 a7 (x_I σ5 h 0).toNatClampNeg (i1 / 10)) a9 (x_I (x_si σ5 a7 (x_I σ5 h 0).toNatClampNeg (i1 / 10)) h 0).toNatClampNeg (i1 - i1 / 10 * 10)) h 0)).toNatClampNeg i2) h 0)) + 1).toNatClampNeg 10) h 0)) + 2).toNatClampNeg 50) a17 ((6 * (x_I (x_si (x_si (x_si (x_si (x_si σ5 a7 (x_I σ5 h 0).toNatClampNeg (i1 / 10)) a9 (x_I (x_si σ5 a7 (x_I σ5 h 0).toNatClampNeg (i1 / 10)) h 0).toNatClampNeg (i1 - i1 / 10 * 10)) a11 (6 * (x_I (x_si (x_si σ5 a7 (x_I σ5 h 0).toNatClampNeg (i1 / 10)) a9 (x_I (x_si σ5 a7 (x_I σ5 h 0).toNatClampNeg (i1 / 10)) h 0).toNatClampNeg (i1 - i1 / 10 * 10)) h 0)).toNatClampNeg i2) a13 ((6 * (x_I (x_si (x_si (x_si σ5 a7 (x_I σ5 h 0).toNatClampNeg (i1 / 10)) a9 (x_I (x_si σ5 a7 (x_I σ5 h 0).toNatClampNeg (i1 / 10)) h 0).toNatClampNeg (i1 - i1 / 10 * 10)) a11 (6 * (x_I (x_si (x_si σ5 a7 (x_I σ5 h 0).toNatClampNeg (i1 / 10)) a9 (x_I (x_si σ5 a7 (x_I σ5 h 0).toNatClampNeg (i1 / 10)) h 0).toNatClampNeg (i1 - i1 / 10 * 10)) h 0)).toNatClampNeg i2) h 0)) + 1).toNatClampNeg 10) a15 ((6 * (x_I (x_si (x_si (x_si (x_si σ5 a7 (x_I σ5 h 0).toNatClampNeg (i1 / 10)) a9 (x_I (x_si σ5 a7 (x_I σ5 h 0).toNatClampNeg (i1 / 10)) h 0).toNatClampNeg (i1 - i1 / 10 * 10)) a11 (6 * (x_I (x_si (x_si σ5 a7 (x_I σ5 h 0).toNatClampNeg (i1 / 10)) a9 (x_I (x_si σ5 a7 (x_I σ5 h 0).toNatClampNeg (i1 / 10)) h 0).toNatClampNeg (i1 - i1 / 10 * 10)) h 0)).toNatClampNeg i2) a13 ((6 * (x_I (x_si (x_si (x_si σ5 a7 (x_I σ5 h 0).toNatClampNeg (i1 / 10)) a9 (x_I (x_si σ5 a7 (x_I σ5 h 0).toNatClampNeg (i1 / 10)) h 0).toNatClampNeg (i1 - i1 / 10 * 10)) a11 (6 * (x_I (x_si (x_si σ5 a7 (x_I σ5 h 0).toNatClampNeg (i1 / 10)) a9 (x_I (x_si σ5 a7 (x_I σ5 h 0).toNatClampNeg (i1 / 10)) h 0).toNatClampNeg (i1 - i1 / 10 * 10)) h 0)).toNatClampNeg i2) h 0)) + 1).toNatClampNeg 10) h 0)) + 2).toNatClampNeg 50) h 0)) + 3).toNatClampNeg i3) a19 ((6 * (x_I (x_si (x_si (x_si (x_si (x_si (x_si σ5 a7 (x_I σ5 h 0).toNatClampNeg (i1 / 10)) a9 (x_I (x_si σ5 a7 (x_I σ5 h 0).toNatClampNeg (i1 / 10)) h 0).toNatClampNeg (i1 - i1 / 10 * 10)) a11 (6 * (x_I (x_si (x_si σ5 a7 (x_I σ5 h 0).toNatClampNeg (i1 / 10)) a9 (x_I (x_si σ5 a7 (x_I σ5 h 0).toNatClampNeg (i1 / 10)) h 0).toNatClampNeg (i1 - i1 / 10 * 10)) h 0)).toNatClampNeg i2) a13 ((6 * (x_I (x_si (x_si (x_si σ5 a7 (x_I σ5 h 0).toNatClampNeg (i1 / 10)) a9 (x_I (x_si σ5 a7 (x_I σ5 h 0).toNatClampNeg (i1 / 10)) h 0).toNatClampNeg (i1 - i1 / 10 * 10)) a11 (6 * (x_I (x_si (x_si σ5 a7 (x_I σ5 h 0).toNatClampNeg (i1 / 10)) a9 (x_I (x_si σ5 a7 (x_I σ5 h 0).toNatClampNeg (i1 / 10)) h 0).toNatClampNeg (i1 - i1 / 10 * 10)) h 0)).toNatClampNeg i2) h 0)) + 1).toNatClampNeg 10) a15 ((6 * (x_I (x_si (x_si (x_si (x_si σ5 a7 (x_I σ5 h 0).toNatClampNeg (i1 / 10)) a9 (x_I (x_si σ5 a7 (x_I σ5 h 0).toNatClampNeg (i1 / 10)) h 0).toNatClampNeg (i1 - i1 / 10 * 10)) a11 (6 * (x_I (x_si (x_si σ5 a7 (x_I σ5 h 0).toNatClampNeg (i1 / 10)) a9 (x_I (x_si σ5 a7 (x_I σ5 h 0).toNatClampNeg (i1 / 10)) h 0).toNatClampNeg (i1 - i1 / 10 * 10)) h 0)).toNatClampNeg i2) a13 ((6 * (x_I (x_si (x_si (x_si σ5 a7 (x_I σ5 h 0).toNatClampNeg (i1 / 10)) a9 (x_I (x_si σ5 a7 (x_I σ5 h 0).toNatClampNeg (i1 / 10)) h 0).toNatClampNeg (i1 - i1 / 10 * 10)) a11 (6 * (x_I (x_si (x_si σ5 a7 (x_I σ5 h 0).toNatClampNeg (i1 / 10)) a9 (x_I (x_si σ5 a7 (x_I σ5 h 0).toNatClampNeg (i1 / 10)) h 0).toNatClampNeg (i1 - i1 / 10 * 10)) h 0)).toNatClampNeg i2) h 0)) + 1).toNatClampNeg 10) h 0)) + 2).toNatClampNeg 50) a17 ((6 * (x_I (x_si (x_si (x_si (x_si (x_si σ5 a7 (x_I σ5 h 0).toNatClampNeg (i1 / 10)) a9 (x_I (x_si σ5 a7 (x_I σ5 h 0).toNatClampNeg (i1 / 10)) h 0).toNatClampNeg (i1 - i1 / 10 * 10)) a11 (6 * (x_I (x_si (x_si σ5 a7 (x_I σ5 h 0).toNatClampNeg (i1 / 10)) a9 (x_I (x_si σ5 a7 (x_I σ5 h 0).toNatClampNeg (i1 / 10)) h 0).toNatClampNeg (i1 - i1 / 10 * 10)) h 0)).toNatClampNeg i2) a13 ((6 * (x_I (x_si (x_si (x_si σ5 a7 (x_I σ5 h 0).toNatClampNeg (i1 / 10)) a9 (x_I (x_si σ5 a7 (x_I σ5 h 0).toNatClampNeg (i1 / 10)) h 0).toNatClampNeg (i1 - i1 / 10 * 10)) a11 (6 * (x_I (x_si (x_si σ5 a7 (x_I σ5 h 0).toNatClampNeg (i1 / 10)) a9 (x_I (x_si σ5 a7 (x_I σ5 h 0).toNatClampNeg (i1 / 10)) h 0).toNatClampNeg (i1 - i1 / 10 * 10)) h 0)).toNatClampNeg i2) h 0)) + 1).toNatClampNeg 10) a15 ((6 * (x_I (x_si (x_si (x_si (x_si σ5 a7 (x_I σ5 h 0).toNatClampNeg (i1 / 10)) a9 (x_I (x_si σ5 a7 (x_I σ5 h 0).toNatClampNeg (i1 / 10)) h 0).toNatClampNeg (i1 - i1 / 10 * 10)) a11 (6 * (x_I (x_si (x_si σ5 a7 (x_I σ5 h 0).toNatClampNeg (i1 / 10)) a9 (x_I (x_si σ5 a7 (x_I σ5 h 0).toNatClampNeg (i1 / 10)) h 0).toNatClampNeg (i1 - i1 / 10 * 10)) h 0)).toNatClampNeg i2) a13 ((6 * (x_I (x_si (x_si (x_si σ5 a7 (x_I σ5 h 0).toNatClampNeg (i1 / 10)) a9 (x_I (x_si σ5 a7 (x_I σ5 h 0).toNatClampNeg (i1 / 10)) h 0).toNatClampNeg (i1 - i1 / 10 * 10)) a11 (6 * (x_I (x_si (x_si σ5 a7 (x_I σ5 h 0).toNatClampNeg (i1 / 10)) a9 (x_I (x_si σ5 a7 (x_I σ5 h 0).toNatClampNeg (i1 / 10)) h 0).toNatClampNeg (i1 - i1 / 10 * 10)) h 0)).toNatClampNeg i2) h 0)) + 1).toNatClampNeg 10) h 0)) + 2).toNatClampNeg 50) h 0)) + 3).toNatClampNeg i3) h 0)) + 4).toNatClampNeg (-1)) a21 ((6 * (x_I (x_si (x_si (x_si (x_si (x_si (x_si (x_si σ5 a7 (x_I σ5 h 0).toNatClampNeg (i1 / 10)) a9 (x_I (x_si σ5 a7 (x_I σ5 h 0).toNatClampNeg (i1 / 10)) h 0).toNatClampNeg (i1 - i1 / 10 * 10)) a11 (6 * (x_I (x_si (x_si σ5 a7 (x_I σ5 h 0).toNatClampNeg (i1 / 10)) a9 (x_I (x_si σ5 a7 (x_I σ5 h 0).toNatClampNeg (i1 / 10)) h 0).toNatClampNeg (i1 - i1 / 10 * 10)) h 0)).toNatClampNeg i2) a13 ((6 * (x_I (x_si (x_si (x_si σ5 a7 (x_I σ5 h 0).toNatClampNeg (i1 / 10)) a9 (x_I (x_si σ5 a7 (x_I σ5 h 0).toNatClampNeg (i1 / 10)) h 0).toNatClampNeg (i1 - i1 / 10 * 10)) a11 (6 * (x_I (x_si (x_si σ5 a7 (x_I σ5 h 0).toNatClampNeg (i1 / 10)) a9 (x_I (x_si σ5 a7 (x_I σ5 h 0).toNatClampNeg (i1 / 10)) h 0).toNatClampNeg (i1 - i1 / 10 * 10)) h 0)).toNatClampNeg i2) h 0)) + 1).toNatClampNeg 10) a15 ((6 * (x_I (x_si (x_si (x_si (x_si σ5 a7 (x_I σ5 h 0).toNatClampNeg (i1 / 10)) a9 (x_I (x_si σ5 a7 (x_I σ5 h 0).toNatClampNeg (i1 / 10)) h 0).toNatClampNeg (i1 - i1 / 10 * 10)) a11 (6 * (x_I (x_si (x_si σ5 a7 (x_I σ5 h 0).toNatClampNeg (i1 / 10)) a9 (x_I (x_si σ5 a7 (x_I σ5 h 0).toNatClampNeg (i1 / 10)) h 0).toNatClampNeg (i1 - i1 / 10 * 10)) h 0)).toNatClampNeg i2) a13 ((6 * (x_I (x_si (x_si (x_si σ5 a7 (x_I σ5 h 0).toNatClampNeg (i1 / 10)) a9 (x_I (x_si σ5 a7 (x_I σ5 h 0).toNatClampNeg (i1 / 10)) h 0).toNatClampNeg (i1 - i1 / 10 * 10)) a11 (6 * (x_I (x_si (x_si σ5 a7 (x_I σ5 h 0).toNatClampNeg (i1 / 10)) a9 (x_I (x_si σ5 a7 (x_I σ5 h 0).toNatClampNeg (i1 / 10)) h 0).toNatClampNeg (i1 - i1 / 10 * 10)) h 0)).toNatClampNeg i2) h 0)) + 1).toNatClampNeg 10) h 0)) + 2).toNatClampNeg 50) a17 ((6 * (x_I (x_si (x_si (x_si (x_si (x_si σ5 a7 (x_I σ5 h 0).toNatClampNeg (i1 / 10)) a9 (x_I (x_si σ5 a7 (x_I σ5 h 0).toNatClampNeg (i1 / 10)) h 0).toNatClampNeg (i1 - i1 / 10 * 10)) a11 (6 * (x_I (x_si (x_si σ5 a7 (x_I σ5 h 0).toNatClampNeg (i1 / 10)) a9 (x_I (x_si σ5 a7 (x_I σ5 h 0).toNatClampNeg (i1 / 10)) h 0).toNatClampNeg (i1 - i1 / 10 * 10)) h 0)).toNatClampNeg i2) a13 ((6 * (x_I (x_si (x_si (x_si σ5 a7 (x_I σ5 h 0).toNatClampNeg (i1 / 10)) a9 (x_I (x_si σ5 a7 (x_I σ5 h 0).toNatClampNeg (i1 / 10)) h 0).toNatClampNeg (i1 - i1 / 10 * 10)) a11 (6 * (x_I (x_si (x_si σ5 a7 (x_I σ5 h 0).toNatClampNeg (i1 / 10)) a9 (x_I (x_si σ5 a7 (x_I σ5 h 0).toNatClampNeg (i1 / 10)) h 0).toNatClampNeg (i1 - i1 / 10 * 10)) h 0)).toNatClampNeg i2) h 0)) + 1).toNatClampNeg 10) a15 ((6 * (x_I (x_si (x_si (x_si (x_si σ5 a7 (x_I σ5 h 0).toNatClampNeg (i1 / 10)) a9 (x_I (x_si σ5 a7 (x_I σ5 h 0).toNatClampNeg (i1 / 10)) h 0).toNatClampNeg (i1 - i1 / 10 * 10)) a11 (6 * (x_I (x_si (x_si σ5 a7 (x_I σ5 h 0).toNatClampNeg (i1 / 10)) a9 (x_I (x_si σ5 a7 (x_I σ5 h 0).toNatClampNeg (i1 / 10)) h 0).toNatClampNeg (i1 - i1 / 10 * 10)) h 0)).toNatClampNeg i2) a13 ((6 * (x_I (x_si (x_si (x_si σ5 a7 (x_I σ5 h 0).toNatClampNeg (i1 / 10)) a9 (x_I (x_si σ5 a7 (x_I σ5 h 0).toNatClampNeg (i1 / 10)) h 0).toNatClampNeg (i1 - i1 / 10 * 10)) a11 (6 * (x_I (x_si (x_si σ5 a7 (x_I σ5 h 0).toNatClampNeg (i1 / 10)) a9 (x_I (x_si σ5 a7 (x_I σ5 h 0).toNatClampNeg (i1 / 10)) h 0).toNatClampNeg (i1 - i1 / 10 * 10)) h 0)).toNatClampNeg i2) h 0)) + 1).toNatClampNeg 10) h 0)) + 2).toNatClampNeg 50) h 0)) + 3).toNatClampNeg i3) a19 ((6 * (x_I (x_si (x_si (x_si (x_si (x_si (x_si σ5 a7 (x_I σ5 h 0).toNatClampNeg (i1 / 10)) a9 (x_I (x_si σ5 a7 (x_I σ5 h 0).toNatClampNeg (i1 / 10)) h 0).toNatClampNeg (i1 - i1 / 10 * 10)) a11 (6 * (x_I (x_si (x_si σ5 a7 (x_I σ5 h 0).toNatClampNeg (i1 / 10)) a9 (x_I (x_si σ5 a7 (x_I σ5 h 0).toNatClampNeg (i1 / 10)) h 0).toNatClampNeg (i1 - i1 / 10 * 10)) h 0)).toNatClampNeg i2) a13 ((6 * (x_I (x_si (x_si (x_si σ5 a7 (x_I σ5 h 0).toNatClampNeg (i1 / 10)) a9 (x_I (x_si σ5 a7 (x_I σ5 h 0).toNatClampNeg (i1 / 10)) h 0).toNatClampNeg (i1 - i1 / 10 * 10)) a11 (6 * (x_I (x_si (x_si σ5 a7 (x_I σ5 h 0).toNatClampNeg (i1 / 10)) a9 (x_I (x_si σ5 a7 (x_I σ5 h 0).toNatClampNeg (i1 / 10)) h 0).toNatClampNeg (i1 - i1 / 10 * 10)) h 0)).toNatClampNeg i2) h 0)) + 1).toNatClampNeg 10) a15 ((6 * (x_I (x_si (x_si (x_si (x_si σ5 a7 (x_I σ5 h 0).toNatClampNeg (i1 / 10)) a9 (x_I (x_si σ5 a7 (x_I σ5 h 0).toNatClampNeg (i1 / 10)) h 0).toNatClampNeg (i1 - i1 / 10 * 10)) a11 (6 * (x_I (x_si (x_si σ5 a7 (x_I σ5 h 0).toNatClampNeg (i1 / 10)) a9 (x_I (x_si σ5 a7 (x_I σ5 h 0).toNatClampNeg (i1 / 10)) h 0).toNatClampNeg (i1 - i1 / 10 * 10)) h 0)).toNatClampNeg i2) a13 ((6 * (x_I (x_si (x_si (x_si σ5 a7 (x_I σ5 h 0).toNatClampNeg (i1 / 10)) a9 (x_I (x_si σ5 a7 (x_I σ5 h 0).toNatClampNeg (i1 / 10)) h 0).toNatClampNeg (i1 - i1 / 10 * 10)) a11 (6 * (x_I (x_si (x_si σ5 a7 (x_I σ5 h 0).toNatClampNeg (i1 / 10)) a9 (x_I (x_si σ5 a7 (x_I σ5 h 0).toNatClampNeg (i1 / 10)) h 0).toNatClampNeg (i1 - i1 / 10 * 10)) h 0)).toNatClampNeg i2) h 0)) + 1).toNatClampNeg 10) h 0)) + 2).toNatClampNeg 50) a17 ((6 * (x_I (x_si (x_si (x_si (x_si (x_si σ5 a7 (x_I σ5 h 0).toNatClampNeg (i1 / 10)) a9 (x_I (x_si σ5 a7 (x_I σ5 h 0).toNatClampNeg (i1 / 10)) h 0).toNatClampNeg (i1 - i1 / 10 * 10)) a11 (6 * (x_I (x_si (x_si σ5 a7 (x_I σ5 h 0).toNatClampNeg (i1 / 10)) a9 (x_I (x_si σ5 a7 (x_I σ5 h 0).toNatClampNeg (i1 / 10)) h 0).toNatClampNeg (i1 - i1 / 10 * 10)) h 0)).toNatClampNeg i2) a13 ((6 * (x_I (x_si (x_si (x_si σ5 a7 (x_I σ5 h 0).toNatClampNeg (i1 / 10)) a9 (x_I (x_si σ5 a7 (x_I σ5 h 0).toNatClampNeg (i1 / 10)) h 0).toNatClampNeg (i1 - i1 / 10 * 10)) a11 (6 * (x_I (x_si (x_si σ5 a7 (x_I σ5 h 0).toNatClampNeg (i1 / 10)) a9 (x_I (x_si σ5 a7 (x_I σ5 h 0).toNatClampNeg (i1 / 10)) h 0).toNatClampNeg (i1 - i1 / 10 * 10)) h 0)).toNatClampNeg i2) h 0)) + 1).toNatClampNeg 10) a15 ((6 * (x_I (x_si (x_si (x_si (x_si σ5 a7 (x_I σ5 h 0).toNatClampNeg (i1 / 10)) a9 (x_I (x_si σ5 a7 (x_I σ5 h 0).toNatClampNeg (i1 / 10)) h 0).toNatClampNeg (i1 - i1 / 10 * 10)) a11 (6 * (x_I (x_si (x_si σ5 a7 (x_I σ5 h 0).toNatClampNeg (i1 / 10)) a9 (x_I (x_si σ5 a7 (x_I σ5 h 0).toNatClampNeg (i1 / 10)) h 0).toNatClampNeg (i1 - i1 / 10 * 10)) h 0)).toNatClampNeg i2) a13 ((6 * (x_I (x_si (x_si (x_si σ5 a7 (x_I σ5 h 0).toNatClampNeg (i1 / 10)) a9 (x_I (x_si σ5 a7 (x_I σ5 h 0).toNatClampNeg (i1 / 10)) h 0).toNatClampNeg (i1 - i1 / 10 * 10)) a11 (6 * (x_I (x_si (x_si σ5 a7 (x_I σ5 h 0).toNatClampNeg (i1 / 10)) a9 (x_I (x_si σ5 a7 (x_I σ5 h 0).toNatClampNeg (i1 / 10)) h 0).toNatClampNeg (i1 - i1 / 10 * 10)) h 0)).toNatClampNeg i2) h 0)) + 1).toNatClampNeg 10) h 0)) + 2).toNatClampNeg 50) h 0)) + 3).toNatClampNeg i3) h 0)) + 4).toNatClampNeg (-1)) h 0)) + 5).toNatClampNeg 0) h 0 ((x_I (x_si (x_si (x_si (x_si (x_si (x_si (x_si (x_si σ5 a7 (x_I σ5 h 0).toNatClampNeg (i1 / 10)) a9 (x_I (x_si σ5 a7 (x_I σ5 h 0).toNatClampNeg (i1 / 10)) h 0).toNatClampNeg (i1 - i1 / 10 * 10)) a11 (6 * (x_I (x_si (x_si σ5 a7 (x_I σ5 h 0).toNatClampNeg (i1 / 10)) a9 (x_I (x_si σ5 a7 (x_I σ5 h 0).toNatClampNeg (i1 / 10)) h 0).toNatClampNeg (i1 - i1 / 10 * 10)) h 0)).toNatClampNeg i2) a13 ((6 * (x_I (x_si (x_si (x_si σ5 a7 (x_I σ5 h 0).toNatClampNeg (i1 / 10)) a9 (x_I (x_si σ5 a7 (x_I σ5 h 0).toNatClampNeg (i1 / 10)) h 0).toNatClampNeg (i1 - i1 / 10 * 10)) a11 (6 * (x_I (x_si (x_si σ5 a7 (x_I σ5 h 0).toNatClampNeg (i1 / 10)) a9 (x_I (x_si σ5 a7 (x_I σ5 h 0).toNatClampNeg (i1 / 10)) h 0).toNatClampNeg (i1 - i1 / 10 * 10)) h 0)).toNatClampNeg i2) h 0)) + 1).toNatClampNeg 10) a15 ((6 * (x_I (x_si (x_si (x_si (x_si σ5 a7 (x_I σ5 h 0).toNatClampNeg (i1 / 10)) a9 (x_I (x_si σ5 a7 (x_I σ5 h 0).toNatClampNeg (i1 / 10)) h 0).toNatClampNeg (i1 - i1 / 10 * 10)) a11 (6 * (x_I (x_si (x_si σ5 a7 (x_I σ5 h 0).toNatClampNeg (i1 / 10)) a9 (x_I (x_si σ5 a7 (x_I σ5 h 0).toNatClampNeg (i1 / 10)) h 0).toNatClampNeg (i1 - i1 / 10 * 10)) h 0)).toNatClampNeg i2) a13 ((6 * (x_I (x_si (x_si (x_si σ5 a7 (x_I σ5 h 0).toNatClampNeg (i1 / 10)) a9 (x_I (x_si σ5 a7 (x_I σ5 h 0).toNatClampNeg (i1 / 10)) h 0).toNatClampNeg (i1 - i1 / 10 * 10)) a11 (6 * (x_I (x_si (x_si σ5 a7 (x_I σ5 h 0).toNatClampNeg (i1 / 10)) a9 (x_I (x_si σ5 a7 (x_I σ5 h 0).toNatClampNeg (i1 / 10)) h 0).toNatClampNeg (i1 - i1 / 10 * 10)) h 0)).toNatClampNeg i2) h 0)) + 1).toNatClampNeg 10) h 0)) + 2).toNatClampNeg 50) a17 ((6 * (x_I (x_si (x_si (x_si (x_si (x_si σ5 a7 (x_I σ5 h 0).toNatClampNeg (i1 / 10)) a9 (x_I (x_si σ5 a7 (x_I σ5 h 0).toNatClampNeg (i1 / 10)) h 0).toNatClampNeg (i1 - i1 / 10 * 10)) a11 (6 * (x_I (x_si (x_si σ5 a7 (x_I σ5 h 0).toNatClampNeg (i1 / 10)) a9 (x_I (x_si σ5 a7 (x_I σ5 h 0).toNatClampNeg (i1 / 10)) h 0).toNatClampNeg (i1 - i1 / 10 * 10)) h 0)).toNatClampNeg i2) a13 ((6 * (x_I (x_si (x_si (x_si σ5 a7 (x_I σ5 h 0).toNatClampNeg (i1 / 10)) a9 (x_I (x_si σ5 a7 (x_I σ5 h 0).toNatClampNeg (i1 / 10)) h 0).toNatClampNeg (i1 - i1 / 10 * 10)) a11 (6 * (x_I (x_si (x_si σ5 a7 (x_I σ5 h 0).toNatClampNeg (i1 / 10)) a9 (x_I (x_si σ5 a7 (x_I σ5 h 0).toNatClampNeg (i1 / 10)) h 0).toNatClampNeg (i1 - i1 / 10 * 10)) h 0)).toNatClampNeg i2) h 0)) + 1).toNatClampNeg 10) a15 ((6 * (x_I (x_si (x_si (x_si (x_si σ5 a7 (x_I σ5 h 0).toNatClampNeg (i1 / 10)) a9 (x_I (x_si σ5 a7 (x_I σ5 h 0).toNatClampNeg (i1 / 10)) h 0).toNatClampNeg (i1 - i1 / 10 * 10)) a11 (6 * (x_I (x_si (x_si σ5 a7 (x_I σ5 h 0).toNatClampNeg (i1 / 10)) a9 (x_I (x_si σ5 a7 (x_I σ5 h 0).toNatClampNeg (i1 / 10)) h 0).toNatClampNeg (i1 - i1 / 10 * 10)) h 0)).toNatClampNeg i2) a13 ((6 * (x_I (x_si (x_si (x_si σ5 a7 (x_I σ5 h 0).toNatClampNeg (i1 / 10)) a9 (x_I (x_si σ5 a7 (x_I σ5 h 0).toNatClampNeg (i1 / 10)) h 0).toNatClampNeg (i1 - i1 / 10 * 10)) a11 (6 * (x_I (x_si (x_si σ5 a7 (x_I σ5 h 0).toNatClampNeg (i1 / 10)) a9 (x_I (x_si σ5 a7 (x_I σ5 h 0).toNatClampNeg (i1 / 10)) h 0).toNatClampNeg (i1 - i1 / 10 * 10)) h 0)).toNatClampNeg i2) h 0)) + 1).toNatClampNeg 10) h 0)) + 2).toNatClampNeg 50) h 0)) + 3).toNatClampNeg i3) a19 ((6 * (x_I (x_si (x_si (x_si (x_si (x_si (x_si σ5 a7 (x_I σ5 h 0).toNatClampNeg (i1 / 10)) a9 (x_I (x_si σ5 a7 (x_I σ5 h 0).toNatClampNeg (i1 / 10)) h 0).toNatClampNeg (i1 - i1 / 10 * 10)) a11 (6 * (x_I (x_si (x_si σ5 a7 (x_I σ5 h 0).toNatClampNeg (i1 / 10)) a9 (x_I (x_si σ5 a7 (x_I σ5 h 0).toNatClampNeg (i1 / 10)) h 0).toNatClampNeg (i1 - i1 / 10 * 10)) h 0)).toNatClampNeg i2) a13 ((6 * (x_I (x_si (x_si (x_si σ5 a7 (x_I σ5 h 0).toNatClampNeg (i1 / 10)) a9 (x_I (x_si σ5 a7 (x_I σ5 h 0).toNatClampNeg (i1 / 10)) h 0).toNatClampNeg (i1 - i1 / 10 * 10)) a11 (6 * (x_I (x_si (x_si σ5 a7 (x_I σ5 h 0).toNatClampNeg (i1 / 10)) a9 (x_I (x_si σ5 a7 (x_I σ5 h 0).toNatClampNeg (i1 / 10)) h 0).toNatClampNeg (i1 - i1 / 10 * 10)) h 0)).toNatClampNeg i2) h 0)) + 1).toNatClampNeg 10) a15 ((6 * (x_I (x_si (x_si (x_si (x_si σ5 a7 (x_I σ5 h 0).toNatClampNeg (i1 / 10)) a9 (x_I (x_si σ5 a7 (x_I σ5 h 0).toNatClampNeg (i1 / 10)) h 0).toNatClampNeg (i1 - i1 / 10 * 10)) a11 (6 * (x_I (x_si (x_si σ5 a7 (x_I σ5 h 0).toNatClampNeg (i1 / 10)) a9 (x_I (x_si σ5 a7 (x_I σ5 h 0).toNatClampNeg (i1 / 10)) h 0).toNatClampNeg (i1 - i1 / 10 * 10)) h 0)).toNatClampNeg i2) a13 ((6 * (x_I (x_si (x_si (x_si σ5 a7 (x_I σ5 h 0).toNatClampNeg (i1 / 10)) a9 (x_I (x_si σ5 a7 (x_I σ5 h 0).toNatClampNeg (i1 / 10)) h 0).toNatClampNeg (i1 - i1 / 10 * 10)) a11 (6 * (x_I (x_si (x_si σ5 a7 (x_I σ5 h 0).toNatClampNeg (i1 / 10)) a9 (x_I (x_si σ5 a7 (x_I σ5 h 0).toNatClampNeg (i1 / 10)) h 0).toNatClampNeg (i1 - i1 / 10 * 10)) h 0)).toNatClampNeg i2) h 0)) + 1).toNatClampNeg 10) h 0)) + 2).toNatClampNeg 50) a17 ((6 * (x_I (x_si (x_si (x_si (x_si (x_si σ5 a7 (x_I σ5 h 0).toNatClampNeg (i1 / 10)) a9 (x_I (x_si σ5 a7 (x_I σ5 h 0).toNatClampNeg (i1 / 10)) h 0).toNatClampNeg (i1 - i1 / 10 * 10)) a11 (6 * (x_I (x_si (x_si σ5 a7 (x_I σ5 h 0).toNatClampNeg (i1 / 10)) a9 (x_I (x_si σ5 a7 (x_I σ5 h 0).toNatClampNeg (i1 / 10)) h 0).toNatClampNeg (i1 - i1 / 10 * 10)) h 0)).toNatClampNeg i2) a13 ((6 * (x_I (x_si (x_si (x_si σ5 a7 (x_I σ5 h 0).toNatClampNeg (i1 / 10)) a9 (x_I (x_si σ5 a7 (x_I σ5 h 0).toNatClampNeg (i1 / 10)) h 0).toNatClampNeg (i1 - i1 / 10 * 10)) a11 (6 * (x_I (x_si (x_si σ5 a7 (x_I σ5 h 0).toNatClampNeg (i1 / 10)) a9 (x_I (x_si σ5 a7 (x_I σ5 h 0).toNatClampNeg (i1 / 10)) h 0).toNatClampNeg (i1 - i1 / 10 * 10)) h 0)).toNatClampNeg i2) h 0)) + 1).toNatClampNeg 10) a15 ((6 * (x_I (x_si (x_si (x_si (x_si σ5 a7 (x_I σ5 h 0).toNatClampNeg (i1 / 10)) a9 (x_I (x_si σ5 a7 (x_I σ5 h 0).toNatClampNeg (i1 / 10)) h 0).toNatClampNeg (i1 - i1 / 10 * 10)) a11 (6 * (x_I (x_si (x_si σ5 a7 (x_I σ5 h 0).toNatClampNeg (i1 / 10)) a9 (x_I (x_si σ5 a7 (x_I σ5 h 0).toNatClampNeg (i1 / 10)) h 0).toNatClampNeg (i1 - i1 / 10 * 10)) h 0)).toNatClampNeg i2) a13 ((6 * (x_I (x_si (x_si (x_si σ5 a7 (x_I σ5 h 0).toNatClampNeg (i1 / 10)) a9 (x_I (x_si σ5 a7 (x_I σ5 h 0).toNatClampNeg (i1 / 10)) h 0).toNatClampNeg (i1 - i1 / 10 * 10)) a11 (6 * (x_I (x_si (x_si σ5 a7 (x_I σ5 h 0).toNatClampNeg (i1 / 10)) a9 (x_I (x_si σ5 a7 (x_I σ5 h 0).toNatClampNeg (i1 / 10)) h 0).toNatClampNeg (i1 - i1 / 10 * 10)) h 0)).toNatClampNeg i2) h 0)) + 1).toNatClampNeg 10) h 0)) + 2).toNatClampNeg 50) h 0)) + 3).toNatClampNeg i3) h 0)) + 4).toNatClampNeg (-1)) a21 ((6 * (x_I (x_si (x_si (x_si (x_si (x_si (x_si (x_si σ5 a7 (x_I σ5 h 0).toNatClampNeg (i1 / 10)) a9 (x_I (x_si σ5 a7 (x_I σ5 h 0).toNatClampNeg (i1 / 10)) h 0).toNatClampNeg (i1 - i1 / 10 * 10)) a11 (6 * (x_I (x_si (x_si σ5 a7 (x_I σ5 h 0).toNatClampNeg (i1 / 10)) a9 (x_I (x_si σ5 a7 (x_I σ5 h 0).toNatClampNeg (i1 / 10)) h 0).toNatClampNeg (i1 - i1 / 10 * 10)) h 0)).toNatClampNeg i2) a13 ((6 * (x_I (x_si (x_si (x_si σ5 a7 (x_I σ5 h 0).toNatClampNeg (i1 / 10)) a9 (x_I (x_si σ5 a7 (x_I σ5 h 0).toNatClampNeg (i1 / 10)) h 0).toNatClampNeg (i1 - i1 / 10 * 10)) a11 (6 * (x_I (x_si (x_si σ5 a7 (x_I σ5 h 0).toNatClampNeg (i1 / 10)) a9 (x_I (x_si σ5 a7 (x_I σ5 h 0).toNatClampNeg (i1 / 10)) h 0).toNatClampNeg (i1 - i1 / 10 * 10)) h 0)).toNatClampNeg i2) h 0)) + 1).toNatClampNeg 10) a15 ((6 * (x_I (x_si (x_si (x_si (x_si σ5 a7 (x_I σ5 h 0).toNatClampNeg (i1 / 10)) a9 (x_I (x_si σ5 a7 (x_I σ5 h 0).toNatClampNeg (i1 / 10)) h 0).toNatClampNeg (i1 - i1 / 10 * 10)) a11 (6 * (x_I (x_si (x_si σ5 a7 (x_I σ5 h 0).toNatClampNeg (i1 / 10)) a9 (x_I (x_si σ5 a7 (x_I σ5 h 0).toNatClampNeg (i1 / 10)) h 0).toNatClampNeg (i1 - i1 / 10 * 10)) h 0)).toNatClampNeg i2) a13 ((6 * (x_I (x_si (x_si (x_si σ5 a7 (x_I σ5 h 0).toNatClampNeg (i1 / 10)) a9 (x_I (x_si σ5 a7 (x_I σ5 h 0).toNatClampNeg (i1 / 10)) h 0).toNatClampNeg (i1 - i1 / 10 * 10)) a11 (6 * (x_I (x_si (x_si σ5 a7 (x_I σ5 h 0).toNatClampNeg (i1 / 10)) a9 (x_I (x_si σ5 a7 (x_I σ5 h 0).toNatClampNeg (i1 / 10)) h 0).toNatClampNeg (i1 - i1 / 10 * 10)) h 0)).toNatClampNeg i2) h 0)) + 1).toNatClampNeg 10) h 0)) + 2).toNatClampNeg 50) a17 ((6 * (x_I (x_si (x_si (x_si (x_si (x_si σ5 a7 (x_I σ5 h 0).toNatClampNeg (i1 / 10)) a9 (x_I (x_si σ5 a7 (x_I σ5 h 0).toNatClampNeg (i1 / 10)) h 0).toNatClampNeg (i1 - i1 / 10 * 10)) a11 (6 * (x_I (x_si (x_si σ5 a7 (x_I σ5 h 0).toNatClampNeg (i1 / 10)) a9 (x_I (x_si σ5 a7 (x_I σ5 h 0).toNatClampNeg (i1 / 10)) h 0).toNatClampNeg (i1 - i1 / 10 * 10)) h 0)).toNatClampNeg i2) a13 ((6 * (x_I (x_si (x_si (x_si σ5 a7 (x_I σ5 h 0).toNatClampNeg (i1 / 10)) a9 (x_I (x_si σ5 a7 (x_I σ5 h 0).toNatClampNeg (i1 / 10)) h 0).toNatClampNeg (i1 - i1 / 10 * 10)) a11 (6 * (x_I (x_si (x_si σ5 a7 (x_I σ5 h 0).toNatClampNeg (i1 / 10)) a9 (x_I (x_si σ5 a7 (x_I σ5 h 0).toNatClampNeg (i1 / 10)) h 0).toNatClampNeg (i1 - i1 / 10 * 10)) h 0)).toNatClampNeg i2) h 0)) + 1).toNatClampNeg 10) a15 ((6 * (x_I (x_si (x_si (x_si (x_si σ5 a7 (x_I σ5 h 0).toNatClampNeg (i1 / 10)) a9 (x_I (x_si σ5 a7 (x_I σ5 h 0).toNatClampNeg (i1 / 10)) h 0).toNatClampNeg (i1 - i1 / 10 * 10)) a11 (6 * (x_I (x_si (x_si σ5 a7 (x_I σ5 h 0).toNatClampNeg (i1 / 10)) a9 (x_I (x_si σ5 a7 (x_I σ5 h 0).toNatClampNeg (i1 / 10)) h 0).toNatClampNeg (i1 - i1 / 10 * 10)) h 0)).toNatClampNeg i2) a13 ((6 * (x_I (x_si (x_si (x_si σ5 a7 (x_I σ5 h 0).toNatClampNeg (i1 / 10)) a9 (x_I (x_si σ5 a7 (x_I σ5 h 0).toNatClampNeg (i1 / 10)) h 0).toNatClampNeg (i1 - i1 / 10 * 10)) a11 (6 * (x_I (x_si (x_si σ5 a7 (x_I σ5 h 0).toNatClampNeg (i1 / 10)) a9 (x_I (x_si σ5 a7 (x_I σ5 h 0).toNatClampNeg (i1 / 10)) h 0).toNatClampNeg (i1 - i1 / 10 * 10)) h 0)).toNatClampNeg i2) h 0)) + 1).toNatClampNeg 10) h 0)) + 2).toNatClampNeg 50) h 0)) + 3).toNatClampNeg i3) a19 ((6 * (x_I (x_si (x_si (x_si (x_si (x_si (x_si σ5 a7 (x_I σ5 h 0).toNatClampNeg (i1 / 10)) a9 (x_I (x_si σ5 a7 (x_I σ5 h 0).toNatClampNeg (i1 / 10)) h 0).toNatClampNeg (i1 - i1 / 10 * 10)) a11 (6 * (x_I (x_si (x_si σ5 a7 (x_I σ5 h 0).toNatClampNeg (i1 / 10)) a9 (x_I (x_si σ5 a7 (x_I σ5 h 0).toNatClampNeg (i1 / 10)) h 0).toNatClampNeg (i1 - i1 / 10 * 10)) h 0)).toNatClampNeg i2) a13 ((6 * (x_I (x_si (x_si (x_si σ5 a7 (x_I σ5 h 0).toNatClampNeg (i1 / 10)) a9 (x_I (x_si σ5 a7 (x_I σ5 h 0).toNatClampNeg (i1 / 10)) h 0).toNatClampNeg (i1 - i1 / 10 * 10)) a11 (6 * (x_I (x_si (x_si σ5 a7 (x_I σ5 h 0).toNatClampNeg (i1 / 10)) a9 (x_I (x_si σ5 a7 (x_I σ5 h 0).toNatClampNeg (i1 / 10)) h 0).toNatClampNeg (i1 - i1 / 10 * 10)) h 0)).toNatClampNeg i2) h 0)) + 1).toNatClampNeg 10) a15 ((6 * (x_I (x_si (x_si (x_si (x_si σ5 a7 (x_I σ5 h 0).toNatClampNeg (i1 / 10)) a9 (x_I (x_si σ5 a7 (x_I σ5 h 0).toNatClampNeg (i1 / 10)) h 0).toNatClampNeg (i1 - i1 / 10 * 10)) a11 (6 * (x_I (x_si (x_si σ5 a7 (x_I σ5 h 0).toNatClampNeg (i1 / 10)) a9 (x_I (x_si σ5 a7 (x_I σ5 h 0).toNatClampNeg (i1 / 10)) h 0).toNatClampNeg (i1 - i1 / 10 * 10)) h 0)).toNatClampNeg i2) a13 ((6 * (x_I (x_si (x_si (x_si σ5 a7 (x_I σ5 h 0).toNatClampNeg (i1 / 10)) a9 (x_I (x_si σ5 a7 (x_I σ5 h 0).toNatClampNeg (i1 / 10)) h 0).toNatClampNeg (i1 - i1 / 10 * 10)) a11 (6 * (x_I (x_si (x_si σ5 a7 (x_I σ5 h 0).toNatClampNeg (i1 / 10)) a9 (x_I (x_si σ5 a7 (x_I σ5 h 0).toNatClampNeg (i1 / 10)) h 0).toNatClampNeg (i1 - i1 / 10 * 10)) h 0)).toNatClampNeg i2) h 0)) + 1).toNatClampNeg 10) h 0)) + 2).toNatClampNeg 50) a17 ((6 * (x_I (x_si (x_si (x_si (x_si (x_si σ5 a7 (x_I σ5 h 0).toNatClampNeg (i1 / 10)) a9 (x_I (x_si σ5 a7 (x_I σ5 h 0).toNatClampNeg (i1 / 10)) h 0).toNatClampNeg (i1 - i1 / 10 * 10)) a11 (6 * (x_I (x_si (x_si σ5 a7 (x_I σ5 h 0).toNatClampNeg (i1 / 10)) a9 (x_I (x_si σ5 a7 (x_I σ5 h 0).toNatClampNeg (i1 / 10)) h 0).toNatClampNeg (i1 - i1 / 10 * 10)) h 0)).toNatClampNeg i2) a13 ((6 * (x_I (x_si (x_si (x_si σ5 a7 (x_I σ5 h 0).toNatClampNeg (i1 / 10)) a9 (x_I (x_si σ5 a7 (x_I σ5 h 0).toNatClampNeg (i1 / 10)) h 0).toNatClampNeg (i1 - i1 / 10 * 10)) a11 (6 * (x_I (x_si (x_si σ5 a7 (x_I σ5 h 0).toNatClampNeg (i1 / 10)) a9 (x_I (x_si σ5 a7 (x_I σ5 h 0).toNatClampNeg (i1 / 10)) h 0).toNatClampNeg (i1 - i1 / 10 * 10)) h 0)).toNatClampNeg i2) h 0)) + 1).toNatClampNeg 10) a15 ((6 * (x_I (x_si (x_si (x_si (x_si σ5 a7 (x_I σ5 h 0).toNatClampNeg (i1 / 10)) a9 (x_I (x_si σ5 a7 (x_I σ5 h 0).toNatClampNeg (i1 / 10)) h 0).toNatClampNeg (i1 - i1 / 10 * 10)) a11 (6 * (x_I (x_si (x_si σ5 a7 (x_I σ5 h 0).toNatClampNeg (i1 / 10)) a9 (x_I (x_si σ5 a7 (x_I σ5 h 0).toNatClampNeg (i1 / 10)) h 0).toNatClampNeg (i1 - i1 / 10 * 10)) h 0)).toNatClampNeg i2) a13 ((6 * (x_I (x_si (x_si (x_si σ5 a7 (x_I σ5 h 0).toNatClampNeg (i1 / 10)) a9 (x_I (x_si σ5 a7 (x_I σ5 h 0).toNatClampNeg (i1 / 10)) h 0).toNatClampNeg (i1 - i1 / 10 * 10)) a11 (6 * (x_I (x_si (x_si σ5 a7 (x_I σ5 h 0).toNatClampNeg (i1 / 10)) a9 (x_I (x_si σ5 a7 (x_I σ5 h 0).toNatClampNeg (i1 / 10)) h 0).toNatClampNeg (i1 - i1 / 10 * 10)) h 0)).toNatClampNeg i2) h 0)) + 1).toNatClampNeg 10) h 0)) + 2).toNatClampNeg 50) h 0)) + 3).toNatClampNeg i3) h 0)) + 4).toNatClampNeg (-1)) h 0)) + 5).toNatClampNeg 0) h 0) + 1)))))))))))))))))))))))))))))))))))))) := rfl
set_option maxRecDepth 100000 in
set_option maxHeartbeats 1000000 in
/-- IModel.isSo -/
theorem e157_0 (O : Nat → List xV → xS → Option xR) (k : Nat → xF) (h : Nat) (i1 : Int32) (i2 : Int32) (i3 : Int32) (σ : xS) : x_b O x_X0 x_TX (x_C 157) k 3000 (x_suf (x_C 157) 0) [some (.inr (.inr (some h))), some (.inl i1), some (.inl i2), some (.inl i3)] [] σ =
  (if i2 = 0 then
    (x_ci (O 133 [.inl i3, .inl 0, .inl 99999] σ) fun x12 σ11 =>
    (x_bl x12 <| some (some (.inl x12), σ11)))
  else
    (if i2 = 1 then
    (x_ci (O 133 [.inl i3, .inl 0, .inl 999] σ) fun x10 σ9 =>
    (x_bl x10 <| some (some (.inl x10), σ9)))
  else
    (if i2 = 2 then
    (x_ci (O 133 [.inl i3, .inl 0, .inl 100] σ) fun x8 σ7 =>
    (x_bl x8 <| some (some (.inl x8), σ7)))
  else
    (if i2 = 3 then
    (x_ci (O 133 [.inl i3, .inl 0, .inl 11] σ) fun x6 σ5 =>
    (x_bl x6 <| some (some (.inl x6), σ5)))
  else
    (if i2 = 4 then
    (x_ck σ h 10 <|
    (x_ci (O 133 [.inl i3, .inl (-1), .inl ((x_I σ h 0) - 1)] σ) fun x4 σ3 =>
    (if x4 = 0 then
      (some (some (.inl 0), σ3))
    else
      (if i3 = i1 then
        (some (some (.inl 0), σ3))
      else
        (some (some (.inl 1), σ3))))))
  else
    (if i2 = 5 then
      (x_ci (O 133 [.inl i3, .inl 0, .inl 99] σ) fun x2 σ1 =>
      (if x2 = 0 then
        (some (some (.inl 0), σ1))
      else
        (some (some (.inl 1), σ1))))
    else
      (some (some (.inl 0), σ)))))))) := rfl
set_option maxRecDepth 100000 in
set_option maxHeartbeats 1000000 in
/-- IModel.put -/
theorem e158_0 (O : Nat → List xV → xS → Option xR) (k : Nat → xF) (h : Nat) (i1 : Int32) (i2 : Int32) (i3 : Int32) (σ : xS) : x_b O x_X0 x_TX (x_C 158) k 3000 (x_suf (x_C 158) 0) [some (.inr (.inr (some h))), some (.inl i1), some (.inl i2), some (.inl i3), none] [] σ =
  (x_ck σ h 10 <|
  x_ci (O 135 [.inr (.inr (some h)), .inl i1] σ) fun x2 σ1 =>
  (if x2 = 0 then
    (some (some (.inl (-5)), σ1))
  else
    (x_ck σ1 h 10 <|
    x_ci (O 157 [.inr (.inr (some h)), .inl i1, .inl i2, .inl i3] σ1) fun x4 σ3 =>
    (if x4 = 0 then
      (some (some (.inl (-7)), σ3))
    else
      (x_ck σ3 h 10 <|
      (x_der (x_Q σ3 h 3) fun a5 => x_ak σ3 a5 11 fun n6 => x_ix ((6 * i1) + i2) n6 <|
      (x_ck σ3 h 10 <|
      (x_der (x_Q σ3 h 3) fun a7 => x_ak σ3 a7 11 fun n8 => x_ix ((6 * i1) + i2) n8 <|
      (some (some (.inl (x_I σ3 a5 ((6 * i1) + i2).toNatClampNeg)), x_si σ3 a7 ((6 * i1) + i2).toNatClampNeg i3)))))))))) := rfl
set_option maxRecDepth 100000 in
set_option maxHeartbeats 1000000 in
/-- IModel.told -/
theorem e159_0 (O : Nat → List xV → xS → Option xR) (k : Nat → xF) (h : Nat) (i1 : Int32) (i2 : Int32) (σ : xS) : x_b O x_X0 x_TX (x_C 159) k 3000 (x_suf (x_C 159) 0) [some (.inr (.inr (some h))), some (.inl i1), some (.inl i2)] [] σ =
  (x_ck σ h 10 <|
  x_ci (O 135 [.inr (.inr (some h)), .inl i1] σ) fun x2 σ1 =>
  (if x2 = 0 then
    (some (some (.inl (-5)), σ1))
  else
    (x_ci (O 133 [.inl i2, .inl 0, .inl 5] σ1) fun x4 σ3 =>
    (if x4 = 0 then
      (if i2 = 6 then
        (x_ck σ3 h 10 <|
        (x_der (x_Q σ3 h 1) fun a7 => x_ak σ3 a7 11 fun n8 => x_ix i1 n8 <|
        (some (some (.inl (x_I σ3 a7 (i1).toNatClampNeg)), σ3))))
      else
        (if i2 = 7 then
          (x_ck σ3 h 10 <|
          (x_der (x_Q σ3 h 2) fun a5 => x_ak σ3 a5 11 fun n6 => x_ix i1 n6 <|
          (some (some (.inl (x_I σ3 a5 (i1).toNatClampNeg)), σ3))))
        else
          (some (some (.inl (-7)), σ3))))
    else
      (x_ck σ3 h 10 <|
      (x_der (x_Q σ3 h 3) fun a9 => x_ak σ3 a9 11 fun n10 => x_ix ((6 * i1) + i2) n10 <|
      (some (some (.inl (x_I σ3 a9 ((6 * i1) + i2).toNatClampNeg)), σ3)))))))) := rfl
set_option maxRecDepth 100000 in
set_option maxHeartbeats 1000000 in
/-- IModel.oddsOf -/
theorem e160_0 (O : Nat → List xV → xS → Option xR) (k : Nat → xF) (h : Nat) (i1 : Int32) (i2 : Int32) (i3 : Int32) (σ : xS) : x_b O x_X0 x_TX (x_C 160) k 3000 (x_suf (x_C 160) 0) [some (.inr (.inr (some h))), some (.inl i1), some (.inl i2), some (.inl i3), none, none] [] σ =
  (x_ck σ h 10 <|
  x_ci (O 154 [.inr (.inr (some h)), .inl 0, .inl i1, .inl i2, .inl i3, .inl 0] σ) fun x2 σ1 =>
  (x_ck σ1 h 10 <|
  (x_der (x_Q σ1 h 2) fun a3 => x_ak σ1 a3 11 fun n4 => x_ix i1 n4 <|
  (x_ck σ1 h 10 <|
  (x_der (x_Q σ1 h 1) fun a5 => x_ak σ1 a5 11 fun n6 => x_ix i1 n6 <|
  (if (x_I σ1 a5 (i1).toNatClampNeg) = 1 then
    (x_ci (O 134 [.inl (x2 + (2 * (x_I σ1 a3 (i1).toNatClampNeg))), .inl 0, .inl 100] σ1) fun x20 σ19 =>
    (some (some (.inl x20), σ19)))
  else
    (if (x_I σ1 a5 (i1).toNatClampNeg) = 2 then
    (x_ci (O 134 [.inl (x2 / 2), .inl 0, .inl 100] σ1) fun x18 σ17 =>
    (some (some (.inl x18), σ17)))
  else
    (if (x_I σ1 a5 (i1).toNatClampNeg) = 3 then
    (x_ci (O 134 [.inl (x2 + (2 * (x_I σ1 a3 (i1).toNatClampNeg))), .inl 0, .inl 100] σ1) fun x16 σ15 =>
    (some (some (.inl x16), σ15)))
  else
    (if (x_I σ1 a5 (i1).toNatClampNeg) = 4 then
    (x_ci (O 134 [.inl (x2 / 2), .inl 0, .inl 100] σ1) fun x14 σ13 =>
    (some (some (.inl x14), σ13)))
  else
    (if (x_I σ1 a5 (i1).toNatClampNeg) = 5 then
    (if ((x_I σ1 a3 (i1).toNatClampNeg) + 2) = 0 then none else
    (if (i2 - i2 / ((x_I σ1 a3 (i1).toNatClampNeg) + 2) * ((x_I σ1 a3 (i1).toNatClampNeg) + 2)) = ((x_I σ1 a3 (i1).toNatClampNeg) + 1) then
      (x_ci (O 134 [.inl ((2 * x2) + 20), .inl 0, .inl 100] σ1) fun x12 σ11 =>
      (some (some (.inl x12), σ11)))
    else
      (x_ci (O 134 [.inl (x2 / 4), .inl 0, .inl 100] σ1) fun x10 σ9 =>
      (some (some (.inl x10), σ9)))))
  else
    (x_ci (O 134 [.inl x2, .inl 0, .inl 100] σ1) fun x8 σ7 =>
    (some (some (.inl x8), σ7))))))))))))) := rfl
set_option maxRecDepth 100000 in
set_option maxHeartbeats 1000000 in
/-- IModel.sizeOf -/
theorem e161_0 (O : Nat → List xV → xS → Option xR) (k : Nat → xF) (h : Nat) (i1 : Int32) (i2 : Int32) (i3 : Int32) (σ : xS) : x_b O x_X0 x_TX (x_C 161) k 3000 (x_suf (x_C 161) 0) [some (.inr (.inr (some h))), some (.inl i1), some (.inl i2), some (.inl i3), none] [] σ =
  (x_ck σ h 10 <|
  x_ci (O 154 [.inr (.inr (some h)), .inl 1, .inl i1, .inl i2, .inl i3, .inl 0] σ) fun x2 σ1 =>
  (x_ck σ1 h 10 <|
  (x_der (x_Q σ1 h 1) fun a3 => x_ak σ1 a3 11 fun n4 => x_ix i1 n4 <|
  (if (x_I σ1 a3 (i1).toNatClampNeg) = 1 then
    (x_ci (O 134 [.inl (x2 / 2), .inl 0, .inl 8991] σ1) fun x22 σ21 =>
    (some (some (.inl x22), σ21)))
  else
    (if (x_I σ1 a3 (i1).toNatClampNeg) = 2 then
    (x_ci (O 134 [.inl x2, .inl 0, .inl 8991] σ1) fun x20 σ19 =>
    (some (some (.inl x20), σ19)))
  else
    (if (x_I σ1 a3 (i1).toNatClampNeg) = 3 then
    (if i3 ≤ 2 then
      (x_ci (O 134 [.inl (x2 / 2), .inl 0, .inl 8991] σ1) fun x16 σ15 =>
      (some (some (.inl x16), σ15)))
    else
      (x_ci (O 134 [.inl ((x2 / 2) / 2), .inl 0, .inl 8991] σ1) fun x18 σ17 =>
      (some (some (.inl x18), σ17))))
  else
    (if (x_I σ1 a3 (i1).toNatClampNeg) = 4 then
    (x_ck σ1 h 10 <|
    (x_der (x_Q σ1 h 2) fun a11 => x_ak σ1 a11 11 fun n12 => x_ix i1 n12 <|
    (x_ci (O 134 [.inl (x2 - (10 * (x_I σ1 a11 (i1).toNatClampNeg))), .inl 0, .inl 8991] σ1) fun x14 σ13 =>
    (some (some (.inl x14), σ13)))))
  else
    (if (x_I σ1 a3 (i1).toNatClampNeg) = 5 then
    (if i3 = 0 then
      (x_ci (O 134 [.inl (3 * x2), .inl 0, .inl 8991] σ1) fun x10 σ9 =>
      (some (some (.inl x10), σ9)))
    else
      (x_ci (O 134 [.inl x2, .inl 0, .inl 8991] σ1) fun x8 σ7 =>
      (some (some (.inl x8), σ7))))
  else
    (x_ci (O 134 [.inl x2, .inl 0, .inl 8991] σ1) fun x6 σ5 =>
    (some (some (.inl x6), σ5))))))))))) := rfl
set_option maxRecDepth 100000 in
set_option maxHeartbeats 1000000 in
/-- IModel.seenOf -/
theorem e162_0 (O : Nat → List xV → xS → Option xR) (k : Nat → xF) (h : Nat) (i1 : Int32) (i2 : Int32) (σ : xS) : x_b O x_X0 x_TX (x_C 162) k 3000 (x_suf (x_C 162) 0) [some (.inr (.inr (some h))), some (.inl i1), some (.inl i2), none, none] [] σ =
  (x_ck σ h 10 <|
  (x_ck σ h 10 <|
  (x_der (x_Q σ h 3) fun a1 => x_ak σ a1 11 fun n2 => x_ix ((6 * i1) + 5) n2 <|
  (if i2 ≤ 999 then
    k 32 [some (.inr (.inr (some h))), some (.inl i1), none, none, none] [.inl i2, .inl (x_I σ a1 ((6 * i1) + 5).toNatClampNeg), .inl (x_I σ h 4), .inl i1, .inl 2, .inr (.inr (some h))] σ
  else
    k 32 [some (.inr (.inr (some h))), some (.inl i1), none, none, none] [.inl 999, .inl (x_I σ a1 ((6 * i1) + 5).toNatClampNeg), .inl (x_I σ h 4), .inl i1, .inl 2, .inr (.inr (some h))] σ)))) := rfl
set_option maxRecDepth 100000 in
set_option maxHeartbeats 1000000 in
/-- IModel.seenOf -/
theorem e162_32 (O : Nat → List xV → xS → Option xR) (k : Nat → xF) (h : Nat) (i1 : Int32) (s0 : Int32) (s1 : Int32) (s2 : Int32) (s3 : Int32) (s4 : Int32) (s5 : Option Nat) (σ : xS) : x_b O x_X0 x_TX (x_C 162) k 3000 (x_suf (x_C 162) 32) [some (.inr (.inr (some h))), some (.inl i1), none, none, none] [.inl s0, .inl s1, .inl s2, .inl s3, .inl s4, .inr (.inr s5)] σ =
  (x_der s5 fun a1 => x_ck σ a1 10 <|
  x_ci (O 154 [.inr (.inr s5), .inl s4, .inl s3, .inl s2, .inl s1, .inl s0] σ) fun x3 σ2 =>
  (x_ck σ2 h 10 <|
  (x_der (x_Q σ2 h 2) fun a4 => x_ak σ2 a4 11 fun n5 => x_ix i1 n5 <|
  (x_ck σ2 h 10 <|
  (x_der (x_Q σ2 h 1) fun a6 => x_ak σ2 a6 11 fun n7 => x_ix i1 n7 <|
  (if (x_I σ2 a6 (i1).toNatClampNeg) = 2 then
    (x_ci (O 134 [.inl (x3 - (3 * (x_I σ2 a4 (i1).toNatClampNeg))), .inl 0, .inl 100] σ2) fun x15 σ14 =>
    (some (some (.inl x15), σ14)))
  else
    (if (x_I σ2 a6 (i1).toNatClampNeg) = 3 then
    (x_ci (O 134 [.inl (100 - (x_I σ2 a4 (i1).toNatClampNeg)), .inl 0, .inl 100] σ2) fun x13 σ12 =>
    (some (some (.inl x13), σ12)))
  else
    (if (x_I σ2 a6 (i1).toNatClampNeg) = 4 then
    (x_ci (O 134 [.inl (x3 + (20 - (3 * (x_I σ2 a4 (i1).toNatClampNeg)))), .inl 0, .inl 100] σ2) fun x11 σ10 =>
    (some (some (.inl x11), σ10)))
  else
    (x_ci (O 134 [.inl x3, .inl 0, .inl 100] σ2) fun x9 σ8 =>
    (some (some (.inl x9), σ8))))))))))) := rfl
set_option maxRecDepth 100000 in
set_option maxHeartbeats 1000000 in
/-- IModel.takenOf -/
theorem e163_0 (O : Nat → List xV → xS → Option xR) (k : Nat → xF) (h : Nat) (i1 : Int32) (i2 : Int32) (σ : xS) : x_b O x_X0 x_TX (x_C 163) k 3000 (x_suf (x_C 163) 0) [some (.inr (.inr (some h))), some (.inl i1), some (.inl i2), none] [] σ =
  (x_ck σ h 10 <|
  (x_der (x_Q σ h 3) fun a1 => x_ak σ a1 11 fun n2 => x_ix ((6 * i1) + 1) n2 <|
  (if (i2 - (x_I σ a1 ((6 * i1) + 1).toNatClampNeg)) ≤ 0 then
    (some (some (.inl 0), σ))
  else
    (x_ck σ h 10 <|
    (x_der (x_Q σ h 3) fun a3 => x_ak σ a3 11 fun n4 => x_ix ((6 * i1) + 2) n4 <|
    (some (some (.inl (((i2 - (x_I σ a1 ((6 * i1) + 1).toNatClampNeg)) * (x_I σ a3 ((6 * i1) + 2).toNatClampNeg)) / 100)), σ))))))) := rfl
set_option maxRecDepth 100000 in
set_option maxHeartbeats 1000000 in
/-- IModel.sizeNow -/
theorem e164_0 (O : Nat → List xV → xS → Option xR) (k : Nat → xF) (h : Nat) (i1 : Int32) (σ : xS) : x_b O x_X0 x_TX (x_C 164) k 3000 (x_suf (x_C 164) 0) [some (.inr (.inr (some h))), some (.inl i1)] [] σ =
  (x_ck σ h 10 <|
  (x_ck σ h 10 <|
  (x_der (x_Q σ h 3) fun a1 => x_ak σ a1 11 fun n2 => x_ix ((6 * i1) + 5) n2 <|
  (x_ck σ h 10 <|
  x_ci (O 161 [.inr (.inr (some h)), .inl i1, .inl (x_I σ h 4), .inl (x_I σ a1 ((6 * i1) + 5).toNatClampNeg)] σ) fun x4 σ3 =>
  (some (some (.inl x4), σ3)))))) := rfl
set_option maxRecDepth 100000 in
set_option maxHeartbeats 1000000 in
/-- IModel.windfall -/
theorem e165_0 (O : Nat → List xV → xS → Option xR) (k : Nat → xF) (h : Nat) (i1 : Int32) (i2 : Int32) (σ : xS) : x_b O x_X0 x_TX (x_C 165) k 3000 (x_suf (x_C 165) 0) [some (.inr (.inr (some h))), some (.inl i1), some (.inl i2)] [] σ =
  (x_ck σ h 10 <|
  x_ci (O 135 [.inr (.inr (some h)), .inl i1] σ) fun x2 σ1 =>
  (if x2 = 0 then
    (some (some (.inl (-5)), σ1))
  else
    (if i2 = 0 then
      (x_ck σ1 h 10 <|
      (x_ck σ1 h 10 <|
      (x_der (x_Q σ1 h 3) fun a13 => x_ak σ1 a13 11 fun n14 => x_ix ((6 * i1) + 5) n14 <|
      (x_ck σ1 h 10 <|
      x_ci (O 160 [.inr (.inr (some h)), .inl i1, .inl (x_I σ1 h 4), .inl (x_I σ1 a13 ((6 * i1) + 5).toNatClampNeg)] σ1) fun x16 σ15 =>
      (some (some (.inl x16), σ15))))))
    else
      (if i2 = 1 then
      (x_ck σ1 h 10 <|
      x_ci (O 164 [.inr (.inr (some h)), .inl i1] σ1) fun x12 σ11 =>
      (some (some (.inl x12), σ11)))
    else
      (if i2 = 2 then
      (x_ck σ1 h 10 <|
      x_ci (O 164 [.inr (.inr (some h)), .inl i1] σ1) fun x8 σ7 =>
      (x_ck σ7 h 10 <|
      x_ci (O 163 [.inr (.inr (some h)), .inl i1, .inl x8] σ7) fun x10 σ9 =>
      (some (some (.inl x10), σ9))))
    else
      (if i2 = 3 then
      (x_ck σ1 h 10 <|
      x_ci (O 164 [.inr (.inr (some h)), .inl i1] σ1) fun x4 σ3 =>
      (x_ck σ3 h 10 <|
      x_ci (O 162 [.inr (.inr (some h)), .inl i1, .inl x4] σ3) fun x6 σ5 =>
      (some (some (.inl x6), σ5))))
    else
      (some (some (.inl (-7)), σ1)))))))) := rfl
set_option maxRecDepth 100000 in
set_option maxHeartbeats 1000000 in
/-- IModel.claim -/
theorem e166_0 (O : Nat → List xV → xS → Option xR) (k : Nat → xF) (h : Nat) (i1 : Int32) (i2 : Int32) (σ : xS) : x_b O x_X0 x_TX (x_C 166) k 3000 (x_suf (x_C 166) 0) [some (.inr (.inr (some h))), some (.inl i1), some (.inl i2)] [] σ =
  (x_ck σ h 10 <|
  x_ci (O 135 [.inr (.inr (some h)), .inl i1] σ) fun x2 σ1 =>
  (if x2 = 0 then
    (some (some (.inl (-5)), σ1))
  else
    (x_ci (O 133 [.inl i2, .inl 0, .inl 99999] σ1) fun x4 σ3 =>
    (if x4 = 0 then
      (some (some (.inl (-7)), σ3))
    else
      (x_ck σ3 h 10 <|
      x_ci (O 163 [.inr (.inr (some h)), .inl i1, .inl i2] σ3) fun x6 σ5 =>
      (some (some (.inl x6), σ5))))))) := rfl
set_option maxRecDepth 100000 in
set_option maxHeartbeats 1000000 in
/-- IModel.yearsOf -/
theorem e167_0 (O : Nat → List xV → xS → Option xR) (k : Nat → xF) (h : Nat) (i1 : Int32) (i2 : Int32) (σ : xS) : x_b O x_X0 x_TX (x_C 167) k 3000 (x_suf (x_C 167) 0) [some (.inr (.inr (some h))), some (.inl i1), some (.inl i2), none, none, none, none, none, none, none, none, none] [] σ =
  (x_ck σ h 10 <|
  (x_ck (x_sl σ h 38 1) h 10 <|
  (x_ck (x_sl (x_sl σ h 38 1) h 39 0) h 10 <|
  k 15 [some (.inr (.inr (some h))), some (.inl i1), some (.inl i2), none, none, none, none, none, none, none, none, none] [] (x_sl (x_sl (x_sl σ h 38 1) h 39 0) h 40 0)))) := rfl
set_option maxRecDepth 100000 in
set_option maxHeartbeats 1000000 in
/-- IModel.yearsOf -/
theorem e167_15 (O : Nat → List xV → xS → Option xR) (k : Nat → xF) (h : Nat) (i1 : Int32) (i2 : Int32) (σ : xS) : x_b O x_X0 x_TX (x_C 167) k 3000 (x_suf (x_C 167) 15) [some (.inr (.inr (some h))), some (.inl i1), some (.inl i2), none, none, none, none, none, none, none, none, none] [] σ =
  (x_ck σ h 10 <|
  k 22 [some (.inr (.inr (some h))), some (.inl i1), some (.inl i2), some (.inl 0), none, none, none, none, none, none, none, none] [] (x_sl σ h 41 0)) := rfl
set_option maxRecDepth 100000 in
set_option maxHeartbeats 1000000 in
/-- IModel.yearsOf -/
theorem e167_22 (O : Nat → List xV → xS → Option xR) (k : Nat → xF) (h : Nat) (i1 : Int32) (i2 : Int32) (i3 : Int32) (σ : xS) : x_b O x_X0 x_TX (x_C 167) k 3000 (x_suf (x_C 167) 22) [some (.inr (.inr (some h))), some (.inl i1), some (.inl i2), some (.inl i3), none, none, none, none, none, none, none, none] [] σ =
  (if 8 ≤ i3 then
    k 51 [some (.inr (.inr (some h))), some (.inl i1), some (.inl i2), some (.inl 0), none, none, none, none, none, none, none, none] [] σ
  else
    (x_ck σ h 10 <|
    (if i3 = 0 then
      (x_der (x_Q σ h 37) fun a3 => x_ak σ a3 12 fun n4 => x_ix i3 n4 <|
      k 22 [some (.inr (.inr (some h))), some (.inl i1), some (.inl i2), some (.inl (i3 + 1)), none, none, none, none, none, none, none, none] [] (x_sl σ a3 (i3).toNatClampNeg 1))
    else
      (x_der (x_Q σ h 37) fun a1 => x_ak σ a1 12 fun n2 => x_ix i3 n2 <|
      k 22 [some (.inr (.inr (some h))), some (.inl i1), some (.inl i2), some (.inl (i3 + 1)), none, none, none, none, none, none, none, none] [] (x_sl σ a1 (i3).toNatClampNeg 0))))) := rfl
set_option maxRecDepth 100000 in
set_option maxHeartbeats 1000000 in
/-- IModel.yearsOf -/
theorem e167_51 (O : Nat → List xV → xS → Option xR) (k : Nat → xF) (h : Nat) (i1 : Int32) (i2 : Int32) (i3 : Int32) (σ : xS) : x_b O x_X0 x_TX (x_C 167) k 3000 (x_suf (x_C 167) 51) [some (.inr (.inr (some h))), some (.inl i1), some (.inl i2), some (.inl i3), none, none, none, none, none, none, none, none] [] σ =
  (if i2 ≤ i3 then
    (some (none, σ))
  else
    (x_ck σ h 10 <|
    (x_ck σ h 10 <|
    k 68 [some (.inr (.inr (some h))), some (.inl i1), some (.inl i2), some (.inl i3), none, none, none, none, none, none, none, none] [] (x_sl σ h 38 ((x_J σ h 38) * 100))))) := rfl
set_option maxRecDepth 100000 in
set_option maxHeartbeats 1000000 in
/-- IModel.yearsOf -/
theorem e167_68 (O : Nat → List xV → xS → Option xR) (k : Nat → xF) (h : Nat) (i1 : Int32) (i2 : Int32) (i3 : Int32) (σ : xS) : x_b O x_X0 x_TX (x_C 167) k 3000 (x_suf (x_C 167) 68) [some (.inr (.inr (some h))), some (.inl i1), some (.inl i2), some (.inl i3), none, none, none, none, none, none, none, none] [] σ =
  (x_ck σ h 10 <|
  (x_ck σ h 10 <|
  (x_ck (x_sl σ h 39 ((x_J σ h 39) * 100)) h 10 <|
  (x_ck (x_sl σ h 39 ((x_J σ h 39) * 100)) h 10 <|
  (x_ck (x_sl (x_sl σ h 39 ((x_J σ h 39) * 100)) h 40 ((x_J (x_sl σ h 39 ((x_J σ h 39) * 100)) h 40) * 100)) h 10 <|
  (x_ck (x_sl (x_sl σ h 39 ((x_J σ h 39) * 100)) h 40 ((x_J (x_sl σ h 39 ((x_J σ h 39) * 100)) h 40) * 100)) h 10 <|
  k 104 [some (.inr (.inr (some h))), some (.inl i1), some (.inl i2), some (.inl i3), none, none, none, none, none, none, none, none] [] (x_sl (x_sl (x_sl σ h 39 ((x_J σ h 39) * 100)) h 40 ((x_J (x_sl σ h 39 ((x_J σ h 39) * 100)) h 40) * 100)) h 41 ((x_J (x_sl (x_sl σ h 39 ((x_J σ h 39) * 100)) h 40 ((x_J (x_sl σ h 39 ((x_J σ h 39) * 100)) h 40) * 100)) h 41) * 100)))))))) := rfl
set_option maxRecDepth 100000 in
set_option maxHeartbeats 1000000 in
/-- IModel.yearsOf -/
theorem e167_104 (O : Nat → List xV → xS → Option xR) (k : Nat → xF) (h : Nat) (i1 : Int32) (i2 : Int32) (i3 : Int32) (σ : xS) : x_b O x_X0 x_TX (x_C 167) k 3000 (x_suf (x_C 167) 104) [some (.inr (.inr (some h))), some (.inl i1), some (.inl i2), some (.inl i3), none, none, none, none, none, none, none, none] [] σ =
  k 107 [some (.inr (.inr (some h))), some (.inl i1), some (.inl i2), some (.inl i3), some (.inl i3), none, none, none, none, none, none, none] [] σ := rfl
set_option maxRecDepth 100000 in
set_option maxHeartbeats 1000000 in
/-- IModel.yearsOf -/
theorem e167_107 (O : Nat → List xV → xS → Option xR) (k : Nat → xF) (h : Nat) (i1 : Int32) (i2 : Int32) (i3 : Int32) (i4 : Int32) (σ : xS) : x_b O x_X0 x_TX (x_C 167) k 3000 (x_suf (x_C 167) 107) [some (.inr (.inr (some h))), some (.inl i1), some (.inl i2), some (.inl i3), some (.inl i4), none, none, none, none, none, none, none] [] σ =
  (if i4 < 0 then
    k 51 [some (.inr (.inr (some h))), some (.inl i1), some (.inl i2), some (.inl (i3 + 1)), none, none, none, none, none, none, none, none] [] σ
  else
    (x_ck σ h 10 <|
    (x_der (x_Q σ h 3) fun a1 => x_ak σ a1 11 fun n2 => x_ix ((6 * i1) + 5) n2 <|
    (x_ck σ h 10 <|
    (x_ck σ h 10 <|
    x_ci (O 160 [.inr (.inr (some h)), .inl i1, .inl ((x_I σ h 4) + i3), .inl ((x_I σ a1 ((6 * i1) + 5).toNatClampNeg) + i4)] σ) fun x4 σ3 =>
    (x_ck σ3 h 10 <|
    (x_ck σ3 h 10 <|
    x_ci (O 161 [.inr (.inr (some h)), .inl i1, .inl ((x_I σ3 h 4) + i3), .inl ((x_I σ a1 ((6 * i1) + 5).toNatClampNeg) + i4)] σ3) fun x6 σ5 =>
    (x_ck σ5 h 10 <|
    x_ci (O 163 [.inr (.inr (some h)), .inl i1, .inl x6] σ5) fun x8 σ7 =>
    (x_ck σ7 h 10 <|
    (x_der (x_Q σ7 h 37) fun a9 => x_ak σ7 a9 12 fun n10 => x_ix i4 n10 <|
    (x_ck σ7 h 10 <|
    (x_ck σ7 h 10 <|
    k 195 [some (.inr (.inr (some h))), some (.inl i1), some (.inl i2), some (.inl i3), some (.inl i4), none, some (.inr (.inl x4.toInt64)), none, some (.inl x6), some (.inl x8), some (.inr (.inl ((x_J σ7 a9 (i4).toNatClampNeg) * x4.toInt64))), none] [] (x_sl σ7 h 39 ((x_J σ7 h 39) + (((x_J σ7 a9 (i4).toNatClampNeg) * x4.toInt64) * x8.toInt64))))))))))))))) := rfl
set_option maxRecDepth 100000 in
set_option maxHeartbeats 1000000 in
/-- IModel.yearsOf -/
theorem e167_195 (O : Nat → List xV → xS → Option xR) (k : Nat → xF) (h : Nat) (i1 : Int32) (i2 : Int32) (i3 : Int32) (i4 : Int32) (j6 : Int64) (i8 : Int32) (i9 : Int32) (j10 : Int64) (σ : xS) : x_b O x_X0 x_TX (x_C 167) k 3000 (x_suf (x_C 167) 195) [some (.inr (.inr (some h))), some (.inl i1), some (.inl i2), some (.inl i3), some (.inl i4), none, some (.inr (.inl j6)), none, some (.inl i8), some (.inl i9), some (.inr (.inl j10)), none] [] σ =
  (x_ck σ h 10 <|
  (x_ck σ h 10 <|
  (x_ck (x_sl σ h 40 ((x_J σ h 40) + (j10 * ((i8 - i9).toInt64)))) h 10 <|
  (x_ck (x_sl σ h 40 ((x_J σ h 40) + (j10 * ((i8 - i9).toInt64)))) h 10 <|
  (x_ck (x_sl (x_sl σ h 40 ((x_J σ h 40) + (j10 * ((i8 - i9).toInt64)))) h 41 ((x_J (x_sl σ h 40 ((x_J σ h 40) + (j10 * ((i8 - i9).toInt64)))) h 41) + j10)) h 10 <|
  (x_der (x_Q (x_sl (x_sl σ h 40 ((x_J σ h 40) + (j10 * ((i8 - i9).toInt64)))) h 41 ((x_J (x_sl σ h 40 ((x_J σ h 40) + (j10 * ((i8 - i9).toInt64)))) h 41) + j10)) h 37) fun a1 => x_ak (x_sl (x_sl σ h 40 ((x_J σ h 40) + (j10 * ((i8 - i9).toInt64)))) h 41 ((x_J (x_sl σ h 40 ((x_J σ h 40) + (j10 * ((i8 - i9).toInt64)))) h 41) + j10)) a1 12 fun n2 => x_ix (i4 + 1) n2 <|
  (x_der (x_Q (x_sl (x_sl σ h 40 ((x_J σ h 40) + (j10 * ((i8 - i9).toInt64)))) h 41 ((x_J (x_sl σ h 40 ((x_J σ h 40) + (j10 * ((i8 - i9).toInt64)))) h 41) + j10)) h 37) fun a3 => x_ak (x_sl (x_sl σ h 40 ((x_J σ h 40) + (j10 * ((i8 - i9).toInt64)))) h 41 ((x_J (x_sl σ h 40 ((x_J σ h 40) + (j10 * ((i8 - i9).toInt64)))) h 41) + j10)) a3 12 fun n4 => x_ix (i4 + 1) n4 <|
  k 238 [some (.inr (.inr (some h))), some (.inl i1), some (.inl i2), some (.inl i3), some (.inl i4), none, some (.inr (.inl j6)), none, none, none, none, none] [] (x_sl (x_sl (x_sl σ h 40 ((x_J σ h 40) + (j10 * ((i8 - i9).toInt64)))) h 41 ((x_J (x_sl σ h 40 ((x_J σ h 40) + (j10 * ((i8 - i9).toInt64)))) h 41) + j10)) a3 (i4 + 1).toNatClampNeg ((x_J (x_sl (x_sl σ h 40 ((x_J σ h 40) + (j10 * ((i8 - i9).toInt64)))) h 41 ((x_J (x_sl σ h 40 ((x_J σ h 40) + (j10 * ((i8 - i9).toInt64)))) h 41) + j10)) a1 (i4 + 1).toNatClampNeg) + j10))))))))) := rfl
set_option maxRecDepth 100000 in
set_option maxHeartbeats 1000000 in
/-- IModel.yearsOf -/
theorem e167_238 (O : Nat → List xV → xS → Option xR) (k : Nat → xF) (h : Nat) (i1 : Int32) (i2 : Int32) (i3 : Int32) (i4 : Int32) (j6 : Int64) (σ : xS) : x_b O x_X0 x_TX (x_C 167) k 3000 (x_suf (x_C 167) 238) [some (.inr (.inr (some h))), some (.inl i1), some (.inl i2), some (.inl i3), some (.inl i4), none, some (.inr (.inl j6)), none, none, none, none, none] [] σ =
  (x_ck σ h 10 <|
  (x_ck σ h 10 <|
  (x_der (x_Q σ h 37) fun a1 => x_ak σ a1 12 fun n2 => x_ix i4 n2 <|
  (x_der (x_Q σ h 37) fun a3 => x_ak σ a3 12 fun n4 => x_ix i4 n4 <|
  k 107 [some (.inr (.inr (some h))), some (.inl i1), some (.inl i2), some (.inl i3), some (.inl (i4 + (-1))), none, none, none, none, none, none, none] [] (x_sl σ a3 (i4).toNatClampNeg ((x_J σ a1 (i4).toNatClampNeg) * (100 - j6))))))) := rfl
set_option maxRecDepth 100000 in
set_option maxHeartbeats 1000000 in
/-- IModel.lowest -/
theorem e168_0 (O : Nat → List xV → xS → Option xR) (k : Nat → xF) (j0 : Int64) (j2 : Int64) (i4 : Int32) (σ : xS) : x_b O x_X0 x_TX (x_C 168) k 3000 (x_suf (x_C 168) 0) [some (.inr (.inl j0)), none, some (.inr (.inl j2)), none, some (.inl i4), none, none, none, none, none, none] [] σ =
  (if (lg_cmp j0 0) = 0 then
    (some (some (.inr (.inl i4.toInt64)), σ))
  else
    k 16 [some (.inr (.inl j0)), none, some (.inr (.inl j2)), none, some (.inl i4), some (.inr (.inl j0)), none, some (.inr (.inl j2)), none, none, none] [] σ) := rfl
set_option maxRecDepth 100000 in
set_option maxHeartbeats 1000000 in
/-- IModel.lowest -/
theorem e168_16 (O : Nat → List xV → xS → Option xR) (k : Nat → xF) (j0 : Int64) (j2 : Int64) (i4 : Int32) (j5 : Int64) (j7 : Int64) (σ : xS) : x_b O x_X0 x_TX (x_C 168) k 3000 (x_suf (x_C 168) 16) [some (.inr (.inl j0)), none, some (.inr (.inl j2)), none, some (.inl i4), some (.inr (.inl j5)), none, some (.inr (.inl j7)), none, none, none] [] σ =
  (if (lg_cmp j7 0) = 0 then
    (if i4 = 0 then
      (if j5 = 0 then none else
      (some (some (.inr (.inl (j0 / j5))), σ)))
    else
      (if j5 = 0 then none else
      (some (some (.inr (.inl (j2 / j5))), σ))))
  else
    (if j7 = 0 then none else
    k 16 [some (.inr (.inl j0)), none, some (.inr (.inl j2)), none, some (.inl i4), some (.inr (.inl j7)), none, some (.inr (.inl (j5 - j5 / j7 * j7))), none, none, none] [] σ)) := rfl
set_option maxRecDepth 100000 in
set_option maxHeartbeats 1000000 in
/-- IModel.isAsked -/
theorem e169_0 (O : Nat → List xV → xS → Option xR) (k : Nat → xF) (h : Nat) (i1 : Int32) (i2 : Int32) (i3 : Int32) (σ : xS) : x_b O x_X0 x_TX (x_C 169) k 3000 (x_suf (x_C 169) 0) [some (.inr (.inr (some h))), some (.inl i1), some (.inl i2), some (.inl i3)] [] σ =
  (x_ck σ h 10 <|
  x_ci (O 135 [.inr (.inr (some h)), .inl i1] σ) fun x2 σ1 =>
  (if x2 = 0 then
    (some (some (.inl 0), σ1))
  else
    (x_ci (O 133 [.inl i2, .inl 0, .inl 6] σ1) fun x4 σ3 =>
    (if x4 = 0 then
      (some (some (.inl 0), σ3))
    else
      (x_ci (O 133 [.inl i3, .inl 0, .inl 1] σ3) fun x6 σ5 =>
      (if x6 = 0 then
        (some (some (.inl 0), σ5))
      else
        (some (some (.inl 1), σ5)))))))) := rfl
set_option maxRecDepth 100000 in
set_option maxHeartbeats 1000000 in
/-- IModel.mean -/
theorem e170_0 (O : Nat → List xV → xS → Option xR) (k : Nat → xF) (h : Nat) (i1 : Int32) (i2 : Int32) (i3 : Int32) (σ : xS) : x_b O x_X0 x_TX (x_C 170) k 3000 (x_suf (x_C 170) 0) [some (.inr (.inr (some h))), some (.inl i1), some (.inl i2), some (.inl i3)] [] σ =
  (x_ck σ h 10 <|
  x_ci (O 169 [.inr (.inr (some h)), .inl i1, .inl i2, .inl i3] σ) fun x2 σ1 =>
  (if x2 = 0 then
    (some (some (.inr (.inl (-4611686018427387904))), σ1))
  else
    (x_ck σ1 h 10 <|
    x_cv (O 167 [.inr (.inr (some h)), .inl i1, .inl i2] σ1) fun σ3 =>
    (x_ck σ3 h 10 <|
    (x_ck σ3 h 10 <|
    (x_cl (O 168 [.inr (.inl (x_J σ3 h 39)), .inr (.inl (x_J σ3 h 38)), .inl i3] σ3) fun y5 σ4 =>
    (some (some (.inr (.inl y5)), σ4)))))))) := rfl
set_option maxRecDepth 100000 in
set_option maxHeartbeats 1000000 in
/-- IModel.keeps -/
theorem e171_0 (O : Nat → List xV → xS → Option xR) (k : Nat → xF) (h : Nat) (i1 : Int32) (i2 : Int32) (i3 : Int32) (σ : xS) : x_b O x_X0 x_TX (x_C 171) k 3000 (x_suf (x_C 171) 0) [some (.inr (.inr (some h))), some (.inl i1), some (.inl i2), some (.inl i3)] [] σ =
  (x_ck σ h 10 <|
  x_ci (O 169 [.inr (.inr (some h)), .inl i1, .inl i2, .inl i3] σ) fun x2 σ1 =>
  (if x2 = 0 then
    (some (some (.inr (.inl (-4611686018427387904))), σ1))
  else
    (x_ck σ1 h 10 <|
    x_cv (O 167 [.inr (.inr (some h)), .inl i1, .inl i2] σ1) fun σ3 =>
    (x_ck σ3 h 10 <|
    (x_ck σ3 h 10 <|
    (x_cl (O 168 [.inr (.inl (x_J σ3 h 40)), .inr (.inl (x_J σ3 h 38)), .inl i3] σ3) fun y5 σ4 =>
    (some (some (.inr (.inl y5)), σ4)))))))) := rfl
set_option maxRecDepth 100000 in
set_option maxHeartbeats 1000000 in
/-- IModel.likely -/
theorem e172_0 (O : Nat → List xV → xS → Option xR) (k : Nat → xF) (h : Nat) (i1 : Int32) (i2 : Int32) (i3 : Int32) (i4 : Int32) (σ : xS) : x_b O x_X0 x_TX (x_C 172) k 3000 (x_suf (x_C 172) 0) [some (.inr (.inr (some h))), some (.inl i1), some (.inl i2), some (.inl i3), some (.inl i4)] [] σ =
  (x_ck σ h 10 <|
  x_ci (O 169 [.inr (.inr (some h)), .inl i1, .inl i2, .inl i4] σ) fun x2 σ1 =>
  (if x2 = 0 then
    (some (some (.inr (.inl (-4611686018427387904))), σ1))
  else
    (x_ci (O 133 [.inl i3, .inl 0, .inl 6] σ1) fun x4 σ3 =>
    (if x4 = 0 then
      (some (some (.inr (.inl (-4611686018427387904))), σ3))
    else
      (x_ck σ3 h 10 <|
      x_cv (O 167 [.inr (.inr (some h)), .inl i1, .inl i2] σ3) fun σ5 =>
      (x_ck σ5 h 10 <|
      (x_der (x_Q σ5 h 37) fun a6 => x_ak σ5 a6 12 fun n7 => x_ix i3 n7 <|
      (x_ck σ5 h 10 <|
      (x_cl (O 168 [.inr (.inl (x_J σ5 a6 (i3).toNatClampNeg)), .inr (.inl (x_J σ5 h 38)), .inl i4] σ5) fun y9 σ8 =>
      (some (some (.inr (.inl y9)), σ8))))))))))) := rfl
set_option maxRecDepth 100000 in
set_option maxHeartbeats 1000000 in
/-- IModel.fair -/
theorem e173_0 (O : Nat → List xV → xS → Option xR) (k : Nat → xF) (h : Nat) (i1 : Int32) (i2 : Int32) (σ : xS) : x_b O x_X0 x_TX (x_C 173) k 3000 (x_suf (x_C 173) 0) [some (.inr (.inr (some h))), some (.inl i1), some (.inl i2), none, none] [] σ =
  (x_ck σ h 10 <|
  x_ci (O 135 [.inr (.inr (some h)), .inl i1] σ) fun x2 σ1 =>
  (if x2 = 0 then
    (some (some (.inr (.inl (-4611686018427387904))), σ1))
  else
    (x_ci (O 133 [.inl i2, .inl 1, .inl 6] σ1) fun x4 σ3 =>
    (if x4 = 0 then
      (some (some (.inr (.inl (-4611686018427387904))), σ3))
    else
      (x_ck σ3 h 10 <|
      x_cv (O 167 [.inr (.inr (some h)), .inl i1, .inl i2] σ3) fun σ5 =>
      (x_ck σ5 h 10 <|
      (x_ck σ5 h 10 <|
      (if ((x_J σ5 h 38) * i2.toInt64) = 0 then none else
      (some (some (.inr (.inl ((((x_J σ5 h 39) + ((x_J σ5 h 38) * i2.toInt64)) - 1) / ((x_J σ5 h 38) * i2.toInt64)))), σ5)))))))))) := rfl
set_option maxRecDepth 100000 in
set_option maxHeartbeats 1000000 in
/-- IModel.excess -/
theorem e174_0 (O : Nat → List xV → xS → Option xR) (k : Nat → xF) (h : Nat) (i1 : Int32) (i2 : Int32) (i3 : Int32) (σ : xS) : x_b O x_X0 x_TX (x_C 174) k 3000 (x_suf (x_C 174) 0) [some (.inr (.inr (some h))), some (.inl i1), some (.inl i2), some (.inl i3), none, none, none, none, none, none, none] [] σ =
  (x_ck σ h 10 <|
  x_ci (O 135 [.inr (.inr (some h)), .inl i1] σ) fun x2 σ1 =>
  (if x2 = 0 then
    (some (some (.inl (-5)), σ1))
  else
    (x_ci (O 133 [.inl i2, .inl 1, .inl 6] σ1) fun x4 σ3 =>
    (if x4 = 0 then
      (some (some (.inl (-7)), σ3))
    else
      (x_ci (O 133 [.inl i3, .inl 0, .inl 1] σ3) fun x6 σ5 =>
      (if x6 = 0 then
        (some (some (.inl (-7)), σ5))
      else
        (x_ck σ5 h 10 <|
        (x_der (x_Q σ5 h 3) fun a7 => x_ak σ5 a7 11 fun n8 => x_ix ((6 * i1) + 1) n8 <|
        k 57 [some (.inr (.inr (some h))), some (.inl i1), some (.inl i2), some (.inl i3), some (.inl (x_I σ5 a7 ((6 * i1) + 1).toNatClampNeg)), some (.inl (-1)), some (.inr (.inl (-1))), none, some (.inl 0), none, none] [] σ5)))))))) := rfl
set_option maxRecDepth 100000 in
set_option maxHeartbeats 1000000 in
/-- IModel.excess -/
theorem e174_57 (O : Nat → List xV → xS → Option xR) (k : Nat → xF) (h : Nat) (i1 : Int32) (i2 : Int32) (i3 : Int32) (i4 : Int32) (i5 : Int32) (j6 : Int64) (i8 : Int32) (σ : xS) : x_b O x_X0 x_TX (x_C 174) k 3000 (x_suf (x_C 174) 57) [some (.inr (.inr (some h))), some (.inl i1), some (.inl i2), some (.inl i3), some (.inl i4), some (.inl i5), some (.inr (.inl j6)), none, some (.inl i8), none, none] [] σ =
  (if 1000 ≤ i8 then
    (x_ck σ h 10 <|
    (x_der (x_Q σ h 3) fun a1 => x_ak σ a1 11 fun n2 => x_ix ((6 * i1) + 1) n2 <|
    (some (some (.inl i5), x_si σ a1 ((6 * i1) + 1).toNatClampNeg i4))))
  else
    (x_ck σ h 10 <|
    (x_der (x_Q σ h 3) fun a3 => x_ak σ a3 11 fun n4 => x_ix ((6 * i1) + 1) n4 <|
    (x_ck (x_si σ a3 ((6 * i1) + 1).toNatClampNeg i8) h 10 <|
    x_cv (O 167 [.inr (.inr (some h)), .inl i1, .inl i2] (x_si σ a3 ((6 * i1) + 1).toNatClampNeg i8)) fun σ5 =>
    (if i3 = 0 then
      (x_ck σ5 h 10 <|
      (if (lg_cmp (x_J σ5 h 39) j6) ≤ 0 then
        k 116 [some (.inr (.inr (some h))), some (.inl i1), some (.inl i2), some (.inl i3), some (.inl i4), none, some (.inr (.inl j6)), none, some (.inl i8), some (.inr (.inl (x_J σ5 h 39))), none] [.inl i5] σ5
      else
        k 116 [some (.inr (.inr (some h))), some (.inl i1), some (.inl i2), some (.inl i3), some (.inl i4), none, some (.inr (.inl j6)), none, some (.inl i8), some (.inr (.inl (x_J σ5 h 39))), none] [.inl i8] σ5))
    else
      (x_ck σ5 h 10 <|
      (if (lg_cmp (x_J σ5 h 40) j6) ≤ 0 then
        k 116 [some (.inr (.inr (some h))), some (.inl i1), some (.inl i2), some (.inl i3), some (.inl i4), none, some (.inr (.inl j6)), none, some (.inl i8), some (.inr (.inl (x_J σ5 h 40))), none] [.inl i5] σ5
      else
        k 116 [some (.inr (.inr (some h))), some (.inl i1), some (.inl i2), some (.inl i3), some (.inl i4), none, some (.inr (.inl j6)), none, some (.inl i8), some (.inr (.inl (x_J σ5 h 40))), none] [.inl i8] σ5))))))) := rfl
set_option maxRecDepth 100000 in
set_option maxHeartbeats 1000000 in
/-- IModel.excess -/
theorem e174_116 (O : Nat → List xV → xS → Option xR) (k : Nat → xF) (h : Nat) (i1 : Int32) (i2 : Int32) (i3 : Int32) (i4 : Int32) (j6 : Int64) (i8 : Int32) (j9 : Int64) (s0 : Int32) (σ : xS) : x_b O x_X0 x_TX (x_C 174) k 3000 (x_suf (x_C 174) 116) [some (.inr (.inr (some h))), some (.inl i1), some (.inl i2), some (.inl i3), some (.inl i4), none, some (.inr (.inl j6)), none, some (.inl i8), some (.inr (.inl j9)), none] [.inl s0] σ =
  (if (lg_cmp j9 j6) ≤ 0 then
    k 57 [some (.inr (.inr (some h))), some (.inl i1), some (.inl i2), some (.inl i3), some (.inl i4), some (.inl s0), some (.inr (.inl j6)), none, some (.inl (i8 + 10)), none, none] [] σ
  else
    k 57 [some (.inr (.inr (some h))), some (.inl i1), some (.inl i2), some (.inl i3), some (.inl i4), some (.inl s0), some (.inr (.inl j9)), none, some (.inl (i8 + 10)), none, none] [] σ) := rfl
set_option maxRecDepth 100000 in
set_option maxHeartbeats 1000000 in
/-- IModel.who -/
theorem e175_0 (O : Nat → List xV → xS → Option xR) (k : Nat → xF) (h : Nat) (i1 : Int32) (i2 : Int32) (σ : xS) : x_b O x_X0 x_TX (x_C 175) k 3000 (x_suf (x_C 175) 0) [some (.inr (.inr (some h))), some (.inl i1), some (.inl i2), none, none, none, none, none, none] [] σ =
  (x_ci (O 133 [.inl i1, .inl 1, .inl 6] σ) fun x2 σ1 =>
  (if x2 = 0 then
    (some (some (.inl (-2)), σ1))
  else
    (x_ci (O 133 [.inl i2, .inl 0, .inl 1] σ1) fun x4 σ3 =>
    (if x4 = 0 then
      (some (some (.inl (-2)), σ3))
    else
      k 32 [some (.inr (.inr (some h))), some (.inl i1), some (.inl i2), some (.inl (-1)), some (.inr (.inl (-1))), none, some (.inl 0), none, none] [] σ3)))) := rfl
set_option maxRecDepth 100000 in
set_option maxHeartbeats 1000000 in
/-- IModel.who -/
theorem e175_32 (O : Nat → List xV → xS → Option xR) (k : Nat → xF) (h : Nat) (i1 : Int32) (i2 : Int32) (i3 : Int32) (j4 : Int64) (i6 : Int32) (σ : xS) : x_b O x_X0 x_TX (x_C 175) k 3000 (x_suf (x_C 175) 32) [some (.inr (.inr (some h))), some (.inl i1), some (.inl i2), some (.inl i3), some (.inr (.inl j4)), none, some (.inl i6), none, none] [] σ =
  (x_ck σ h 10 <|
  (if (x_I σ h 0) ≤ i6 then
    (some (some (.inl i3), σ))
  else
    (x_ck σ h 10 <|
    x_cv (O 167 [.inr (.inr (some h)), .inl i6, .inl i1] σ) fun σ1 =>
    (if i2 = 0 then
      (x_ck σ1 h 10 <|
      (if (lg_cmp (x_J σ1 h 39) j4) ≤ 0 then
        k 79 [some (.inr (.inr (some h))), some (.inl i1), some (.inl i2), none, some (.inr (.inl j4)), none, some (.inl i6), some (.inr (.inl (x_J σ1 h 39))), none] [.inl i3] σ1
      else
        k 79 [some (.inr (.inr (some h))), some (.inl i1), some (.inl i2), none, some (.inr (.inl j4)), none, some (.inl i6), some (.inr (.inl (x_J σ1 h 39))), none] [.inl i6] σ1))
    else
      (x_ck σ1 h 10 <|
      (if (lg_cmp (x_J σ1 h 41) j4) ≤ 0 then
        k 79 [some (.inr (.inr (some h))), some (.inl i1), some (.inl i2), none, some (.inr (.inl j4)), none, some (.inl i6), some (.inr (.inl (x_J σ1 h 41))), none] [.inl i3] σ1
      else
        k 79 [some (.inr (.inr (some h))), some (.inl i1), some (.inl i2), none, some (.inr (.inl j4)), none, some (.inl i6), some (.inr (.inl (x_J σ1 h 41))), none] [.inl i6] σ1)))))) := rfl
set_option maxRecDepth 100000 in
set_option maxHeartbeats 1000000 in
/-- IModel.who -/
theorem e175_79 (O : Nat → List xV → xS → Option xR) (k : Nat → xF) (h : Nat) (i1 : Int32) (i2 : Int32) (j4 : Int64) (i6 : Int32) (j7 : Int64) (s0 : Int32) (σ : xS) : x_b O x_X0 x_TX (x_C 175) k 3000 (x_suf (x_C 175) 79) [some (.inr (.inr (some h))), some (.inl i1), some (.inl i2), none, some (.inr (.inl j4)), none, some (.inl i6), some (.inr (.inl j7)), none] [.inl s0] σ =
  (if (lg_cmp j7 j4) ≤ 0 then
    k 32 [some (.inr (.inr (some h))), some (.inl i1), some (.inl i2), some (.inl s0), some (.inr (.inl j4)), none, some (.inl (i6 + 1)), none, none] [] σ
  else
    k 32 [some (.inr (.inr (some h))), some (.inl i1), some (.inl i2), some (.inl s0), some (.inr (.inl j7)), none, some (.inl (i6 + 1)), none, none] [] σ) := rfl
set_option maxRecDepth 100000 in
set_option maxHeartbeats 1000000 in
/-- IModel.partOf -/
theorem e176_0 (O : Nat → List xV → xS → Option xR) (k : Nat → xF) (i0 : Int32) (i1 : Int32) (i2 : Int32) (σ : xS) : x_b O x_X0 x_TX (x_C 176) k 3000 (x_suf (x_C 176) 0) [some (.inl i0), some (.inl i1), some (.inl i2)] [] σ =
  (if i1 = 0 then none else
  (if i1 = 0 then none else
  (if (i0 - i0 / i1 * i1) ≤ i2 then
    (some (some (.inl ((i0 / i1) + 0)), σ))
  else
    (some (some (.inl ((i0 / i1) + 1)), σ))))) := rfl
set_option maxRecDepth 100000 in
set_option maxHeartbeats 1000000 in
/-- IModel.meansOf -/
theorem e177_0 (O : Nat → List xV → xS → Option xR) (k : Nat → xF) (h : Nat) (i1 : Int32) (i2 : Int32) (i3 : Int32) (σ : xS) : x_b O x_X0 x_TX (x_C 177) k 3000 (x_suf (x_C 177) 0) [some (.inr (.inr (some h))), some (.inl i1), some (.inl i2), some (.inl i3), none, none, none, none] [] σ =
  k 6 [some (.inr (.inr (some h))), some (.inl i1), some (.inl i2), some (.inl i3), some (.inr (.inl 0)), none, some (.inl 0), none] [] σ := rfl
set_option maxRecDepth 100000 in
set_option maxHeartbeats 1000000 in
/-- IModel.meansOf -/
theorem e177_6 (O : Nat → List xV → xS → Option xR) (k : Nat → xF) (h : Nat) (i1 : Int32) (i2 : Int32) (i3 : Int32) (j4 : Int64) (i6 : Int32) (σ : xS) : x_b O x_X0 x_TX (x_C 177) k 3000 (x_suf (x_C 177) 6) [some (.inr (.inr (some h))), some (.inl i1), some (.inl i2), some (.inl i3), some (.inr (.inl j4)), none, some (.inl i6), none] [] σ =
  (if i3 ≤ i6 then
    (some (some (.inr (.inl j4)), σ))
  else
    (x_ci (O 176 [.inl i2, .inl i3, .inl i6] σ) fun x2 σ1 =>
    (x_ck σ1 h 10 <|
    x_ci (O 162 [.inr (.inr (some h)), .inl i1, .inl x2] σ1) fun x4 σ3 =>
    (x_ck σ3 h 10 <|
    x_ci (O 163 [.inr (.inr (some h)), .inl i1, .inl x2] σ3) fun x6 σ5 =>
    k 6 [some (.inr (.inr (some h))), some (.inl i1), some (.inl i2), some (.inl i3), some (.inr (.inl (j4 + (x4.toInt64 * x6.toInt64)))), none, some (.inl (i6 + 1)), none] [] σ5)))) := rfl
set_option maxRecDepth 100000 in
set_option maxHeartbeats 1000000 in
/-- IModel.hide -/
theorem e178_0 (O : Nat → List xV → xS → Option xR) (k : Nat → xF) (h : Nat) (i1 : Int32) (i2 : Int32) (i3 : Int32) (σ : xS) : x_b O x_X0 x_TX (x_C 178) k 3000 (x_suf (x_C 178) 0) [some (.inr (.inr (some h))), some (.inl i1), some (.inl i2), some (.inl i3), none, none, none, none, none, none, none] [] σ =
  (x_ck σ h 10 <|
  x_ci (O 135 [.inr (.inr (some h)), .inl i1] σ) fun x2 σ1 =>
  (if x2 = 0 then
    (some (some (.inr (.inl (-5))), σ1))
  else
    (x_ci (O 133 [.inl i2, .inl 0, .inl 99999] σ1) fun x4 σ3 =>
    (if x4 = 0 then
      (some (some (.inr (.inl (-7))), σ3))
    else
      (x_ci (O 133 [.inl i3, .inl 0, .inl 1] σ3) fun x6 σ5 =>
      (if x6 = 0 then
        (some (some (.inr (.inl (-7))), σ5))
      else
        k 44 [some (.inr (.inr (some h))), some (.inl i1), some (.inl i2), some (.inl i3), some (.inl (-1)), some (.inr (.inl 0)), none, some (.inl 1), none, none, none] [] σ5)))))) := rfl
set_option maxRecDepth 100000 in
set_option maxHeartbeats 1000000 in
/-- IModel.hide -/
theorem e178_44 (O : Nat → List xV → xS → Option xR) (k : Nat → xF) (h : Nat) (i1 : Int32) (i2 : Int32) (i3 : Int32) (i4 : Int32) (j5 : Int64) (i7 : Int32) (σ : xS) : x_b O x_X0 x_TX (x_C 178) k 3000 (x_suf (x_C 178) 44) [some (.inr (.inr (some h))), some (.inl i1), some (.inl i2), some (.inl i3), some (.inl i4), some (.inr (.inl j5)), none, some (.inl i7), none, none, none] [] σ =
  (if 10 ≤ i7 then
    (if i3 = 0 then
      (some (some (.inr (.inl i4.toInt64)), σ))
    else
      (some (some (.inr (.inl j5)), σ)))
  else
    (x_ck σ h 10 <|
    x_cl (O 177 [.inr (.inr (some h)), .inl i1, .inl i2, .inl i7] σ) fun y2 σ1 =>
    (if i4 = (-1) then
      k 80 [some (.inr (.inr (some h))), some (.inl i1), some (.inl i2), some (.inl i3), some (.inl i4), some (.inr (.inl j5)), none, some (.inl i7), some (.inr (.inl y2)), none, none] [.inl 1] σ1
    else
      (if 0 ≤ (lg_cmp y2 j5) then
        k 80 [some (.inr (.inr (some h))), some (.inl i1), some (.inl i2), some (.inl i3), some (.inl i4), some (.inr (.inl j5)), none, some (.inl i7), some (.inr (.inl y2)), none, none] [.inl 0] σ1
      else
        k 80 [some (.inr (.inr (some h))), some (.inl i1), some (.inl i2), some (.inl i3), some (.inl i4), some (.inr (.inl j5)), none, some (.inl i7), some (.inr (.inl y2)), none, none] [.inl 1] σ1)))) := rfl
set_option maxRecDepth 100000 in
set_option maxHeartbeats 1000000 in
/-- IModel.hide -/
theorem e178_80 (O : Nat → List xV → xS → Option xR) (k : Nat → xF) (h : Nat) (i1 : Int32) (i2 : Int32) (i3 : Int32) (i4 : Int32) (j5 : Int64) (i7 : Int32) (j8 : Int64) (s0 : Int32) (σ : xS) : x_b O x_X0 x_TX (x_C 178) k 3000 (x_suf (x_C 178) 80) [some (.inr (.inr (some h))), some (.inl i1), some (.inl i2), some (.inl i3), some (.inl i4), some (.inr (.inl j5)), none, some (.inl i7), some (.inr (.inl j8)), none, none] [.inl s0] σ =
  (if s0 = 0 then
    (if s0 = 0 then
      k 44 [some (.inr (.inr (some h))), some (.inl i1), some (.inl i2), some (.inl i3), some (.inl i4), some (.inr (.inl j5)), none, some (.inl (i7 + 1)), none, none, none] [] σ
    else
      k 44 [some (.inr (.inr (some h))), some (.inl i1), some (.inl i2), some (.inl i3), some (.inl i4), some (.inr (.inl j8)), none, some (.inl (i7 + 1)), none, none, none] [] σ)
  else
    (if s0 = 0 then
      k 44 [some (.inr (.inr (some h))), some (.inl i1), some (.inl i2), some (.inl i3), some (.inl i7), some (.inr (.inl j5)), none, some (.inl (i7 + 1)), none, none, none] [] σ
    else
      k 44 [some (.inr (.inr (some h))), some (.inl i1), some (.inl i2), some (.inl i3), some (.inl i7), some (.inr (.inl j8)), none, some (.inl (i7 + 1)), none, none, none] [] σ)) := rfl
set_option maxRecDepth 100000 in
set_option maxHeartbeats 1000000 in
/-- IModel.none -/
theorem e179_0 (O : Nat → List xV → xS → Option xR) (k : Nat → xF) (h : Nat) (i1 : Int32) (i2 : Int32) (σ : xS) : x_b O x_X0 x_TX (x_C 179) k 3000 (x_suf (x_C 179) 0) [some (.inr (.inr (some h))), some (.inl i1), some (.inl i2), none] [] σ =
  (x_ck σ h 10 <|
  x_ci (O 135 [.inr (.inr (some h)), .inl i1] σ) fun x2 σ1 =>
  (if x2 = 0 then
    (some (some (.inl (-5)), σ1))
  else
    (x_ci (O 133 [.inl i2, .inl 0, .inl 99999] σ1) fun x4 σ3 =>
    (if x4 = 0 then
      (some (some (.inl (-7)), σ3))
    else
      k 26 [some (.inr (.inr (some h))), some (.inl i1), some (.inl i2), some (.inl 1)] [] σ3)))) := rfl
set_option maxRecDepth 100000 in
set_option maxHeartbeats 1000000 in
/-- IModel.none -/
theorem e179_26 (O : Nat → List xV → xS → Option xR) (k : Nat → xF) (h : Nat) (i1 : Int32) (i2 : Int32) (i3 : Int32) (σ : xS) : x_b O x_X0 x_TX (x_C 179) k 3000 (x_suf (x_C 179) 26) [some (.inr (.inr (some h))), some (.inl i1), some (.inl i2), some (.inl i3)] [] σ =
  (if 10 ≤ i3 then
    (some (some (.inl (-1)), σ))
  else
    (x_ci (O 176 [.inl i2, .inl i3, .inl 0] σ) fun x2 σ1 =>
    (x_ck σ1 h 10 <|
    (x_der (x_Q σ1 h 3) fun a3 => x_ak σ1 a3 11 fun n4 => x_ix ((6 * i1) + 1) n4 <|
    (if (x_I σ1 a3 ((6 * i1) + 1).toNatClampNeg) < x2 then
      k 26 [some (.inr (.inr (some h))), some (.inl i1), some (.inl i2), some (.inl (i3 + 1))] [] σ1
    else
      (some (some (.inl i3), σ1))))))) := rfl
set_option maxRecDepth 100000 in
set_option maxHeartbeats 1000000 in
/-- IModel.unseen -/
theorem e180_0 (O : Nat → List xV → xS → Option xR) (k : Nat → xF) (h : Nat) (i1 : Int32) (i2 : Int32) (i3 : Int32) (i4 : Int32) (σ : xS) : x_b O x_X0 x_TX (x_C 180) k 3000 (x_suf (x_C 180) 0) [some (.inr (.inr (some h))), some (.inl i1), some (.inl i2), some (.inl i3), some (.inl i4), none, none, none, none, none] [] σ =
  (x_ck σ h 10 <|
  x_ci (O 135 [.inr (.inr (some h)), .inl i1] σ) fun x2 σ1 =>
  (if x2 = 0 then
    (some (some (.inr (.inl (-4611686018427387904))), σ1))
  else
    (x_ci (O 133 [.inl i2, .inl 0, .inl 99999] σ1) fun x4 σ3 =>
    (if x4 = 0 then
      (some (some (.inr (.inl (-4611686018427387904))), σ3))
    else
      (x_ci (O 133 [.inl i3, .inl 1, .inl 9] σ3) fun x6 σ5 =>
      (if x6 = 0 then
        (some (some (.inr (.inl (-4611686018427387904))), σ5))
      else
        (x_ci (O 133 [.inl i4, .inl 0, .inl 1] σ5) fun x8 σ7 =>
        (if x8 = 0 then
          (some (some (.inr (.inl (-4611686018427387904))), σ7))
        else
          k 51 [some (.inr (.inr (some h))), some (.inl i1), some (.inl i2), some (.inl i3), some (.inl i4), some (.inr (.inl 1)), none, some (.inr (.inl 1)), none, some (.inl 0)] [] σ7)))))))) := rfl
set_option maxRecDepth 100000 in
set_option maxHeartbeats 1000000 in
/-- IModel.unseen -/
theorem e180_51 (O : Nat → List xV → xS → Option xR) (k : Nat → xF) (h : Nat) (i1 : Int32) (i2 : Int32) (i3 : Int32) (i4 : Int32) (j5 : Int64) (j7 : Int64) (i9 : Int32) (σ : xS) : x_b O x_X0 x_TX (x_C 180) k 3000 (x_suf (x_C 180) 51) [some (.inr (.inr (some h))), some (.inl i1), some (.inl i2), some (.inl i3), some (.inl i4), some (.inr (.inl j5)), none, some (.inr (.inl j7)), none, some (.inl i9)] [] σ =
  (if i3 ≤ i9 then
    (x_cl (O 168 [.inr (.inl j5), .inr (.inl j7), .inl i4] σ) fun y2 σ1 =>
    (some (some (.inr (.inl y2)), σ1)))
  else
    (x_ci (O 176 [.inl i2, .inl i3, .inl i9] σ) fun x4 σ3 =>
    (x_ck σ3 h 10 <|
    x_ci (O 162 [.inr (.inr (some h)), .inl i1, .inl x4] σ3) fun x6 σ5 =>
    k 51 [some (.inr (.inr (some h))), some (.inl i1), some (.inl i2), some (.inl i3), some (.inl i4), some (.inr (.inl (j5 * ((100 - x6).toInt64)))), none, some (.inr (.inl (j7 * 100))), none, some (.inl (i9 + 1))] [] σ5))) := rfl
set_option maxRecDepth 100000 in
set_option maxHeartbeats 1000000 in
/-- IModel.far -/
theorem e181_0 (O : Nat → List xV → xS → Option xR) (k : Nat → xF) (i0 : Int32) (i1 : Int32) (σ : xS) : x_b O x_X0 x_TX (x_C 181) k 3000 (x_suf (x_C 181) 0) [some (.inl i0), some (.inl i1), none] [] σ =
  (if i1 ≤ i0 then
    (if (i0 - i1) ≤ 6 then
      (some (some (.inl (i0 - i1)), σ))
    else
      (some (some (.inl (12 - (i0 - i1))), σ)))
  else
    (if (i1 - i0) ≤ 6 then
      (some (some (.inl (i1 - i0)), σ))
    else
      (some (some (.inl (12 - (i1 - i0))), σ)))) := rfl
set_option maxRecDepth 100000 in
set_option maxHeartbeats 1000000 in
/-- IModel.tells -/
theorem e182_0 (O : Nat → List xV → xS → Option xR) (k : Nat → xF) (h : Nat) (i1 : Int32) (σ : xS) : x_b O x_X0 x_TX (x_C 182) k 3000 (x_suf (x_C 182) 0) [some (.inr (.inr (some h))), some (.inl i1), none, none, none] [] σ =
  (x_ck σ h 10 <|
  k 12 [some (.inr (.inr (some h))), none, some (.inl i1), some (.inl 0), some (.inl ((x_I σ h 0) - 1))] [] σ) := rfl
set_option maxRecDepth 100000 in
set_option maxHeartbeats 1000000 in
/-- IModel.tells -/
theorem e182_12 (O : Nat → List xV → xS → Option xR) (k : Nat → xF) (h : Nat) (i2 : Int32) (i3 : Int32) (i4 : Int32) (σ : xS) : x_b O x_X0 x_TX (x_C 182) k 3000 (x_suf (x_C 182) 12) [some (.inr (.inr (some h))), none, some (.inl i2), some (.inl i3), some (.inl i4)] [] σ =
  (if i4 < 0 then
    (x_ck σ h 10 <|
    (if i3 = ((1 <<< ((x_I σ h 0) &&& 31)) - 1) then
      (some (some (.inl 1), σ))
    else
      (some (some (.inl 0), σ))))
  else
    (x_ck σ h 10 <|
    (x_ck σ h 10 <|
    (x_ci (O 134 [.inl (x_I σ h 0), .inl 1, .inl 5] σ) fun x2 σ1 =>
    (if x2 = 0 then none else
    (x_der (x_Q σ h 42) fun a3 => x_ak σ1 a3 11 fun n4 => x_ix i4 n4 <|
    (x_ck (x_si σ1 a3 (i4).toNatClampNeg (i2 - i2 / x2 * x2)) h 10 <|
    (x_ci (O 134 [.inl (x_I (x_si σ1 a3 (i4).toNatClampNeg (i2 - i2 / x2 * x2)) h 0), .inl 1, .inl 5] (x_si σ1 a3 (i4).toNatClampNeg (i2 - i2 / x2 * x2))) fun x6 σ5 =>
    (if x6 = 0 then none else
    (x_ck σ5 h 10 <|
    (x_der (x_Q σ5 h 42) fun a7 => x_ak σ5 a7 11 fun n8 => x_ix i4 n8 <|
    k 12 [some (.inr (.inr (some h))), none, some (.inl (i2 / x6)), some (.inl (i3 ||| (1 <<< ((x_I σ5 a7 (i4).toNatClampNeg) &&& 31)))), some (.inl (i4 + (-1)))] [] σ5))))))))))) := rfl
set_option maxRecDepth 100000 in
set_option maxHeartbeats 1000000 in
/-- IModel.numbersAll -/
theorem e183_0 (O : Nat → List xV → xS → Option xR) (k : Nat → xF) (h : Nat) (σ : xS) : x_b O x_X0 x_TX (x_C 183) k 3000 (x_suf (x_C 183) 0) [some (.inr (.inr (some h))), none, none] [] σ =
  k 4 [some (.inr (.inr (some h))), some (.inl 1), some (.inl 0)] [] σ := rfl
set_option maxRecDepth 100000 in
set_option maxHeartbeats 1000000 in
/-- IModel.numbersAll -/
theorem e183_4 (O : Nat → List xV → xS → Option xR) (k : Nat → xF) (h : Nat) (i1 : Int32) (i2 : Int32) (σ : xS) : x_b O x_X0 x_TX (x_C 183) k 3000 (x_suf (x_C 183) 4) [some (.inr (.inr (some h))), some (.inl i1), some (.inl i2)] [] σ =
  (x_ck σ h 10 <|
  (if (x_I σ h 0) ≤ i2 then
    (some (some (.inl i1), σ))
  else
    (x_ck σ h 10 <|
    k 4 [some (.inr (.inr (some h))), some (.inl (i1 * (x_I σ h 0))), some (.inl (i2 + 1))] [] σ))) := rfl
set_option maxRecDepth 100000 in
set_option maxHeartbeats 1000000 in
/-- IModel.wayOf -/
theorem e184_0 (O : Nat → List xV → xS → Option xR) (k : Nat → xF) (h : Nat) (i1 : Int32) (i2 : Int32) (σ : xS) : x_b O x_X0 x_TX (x_C 184) k 3000 (x_suf (x_C 184) 0) [some (.inr (.inr (some h))), some (.inl i1), some (.inl i2), none, none, none, none, none] [] σ =
  k 11 [some (.inr (.inr (some h))), none, some (.inl i2), some (.inl 0), some (.inl 0), some (.inl i1), some (.inl 0), none] [] σ := rfl
set_option maxRecDepth 100000 in
set_option maxHeartbeats 1000000 in
/-- IModel.wayOf -/
theorem e184_11 (O : Nat → List xV → xS → Option xR) (k : Nat → xF) (h : Nat) (i2 : Int32) (i3 : Int32) (i4 : Int32) (i5 : Int32) (i6 : Int32) (σ : xS) : x_b O x_X0 x_TX (x_C 184) k 3000 (x_suf (x_C 184) 11) [some (.inr (.inr (some h))), none, some (.inl i2), some (.inl i3), some (.inl i4), some (.inl i5), some (.inl i6), none] [] σ =
  (x_ck σ h 10 <|
  (if (x_I σ h 0) ≤ i6 then
    (if i2 = 0 then
      (some (some (.inl i3), σ))
    else
      (some (some (.inl i4), σ)))
  else
    (x_ck σ h 10 <|
    (x_der (x_Q σ h 42) fun a1 => x_ak σ a1 11 fun n2 => x_ix i6 n2 <|
    (x_ck σ h 10 <|
    (x_der (x_Q σ h 3) fun a3 => x_ak σ a3 11 fun n4 => x_ix ((6 * (x_I σ a1 (i6).toNatClampNeg)) + 3) n4 <|
    (x_ci (O 181 [.inl i5, .inl (x_I σ a3 ((6 * (x_I σ a1 (i6).toNatClampNeg)) + 3).toNatClampNeg)] σ) fun x6 σ5 =>
    (x_ck σ5 h 10 <|
    (x_der (x_Q σ5 h 3) fun a7 => x_ak σ5 a7 11 fun n8 => x_ix ((6 * (x_I σ a1 (i6).toNatClampNeg)) + 3) n8 <|
    (if i2 = 0 then
      k 11 [some (.inr (.inr (some h))), none, some (.inl i2), some (.inl (i3 + x6)), some (.inl (i4 + 0)), some (.inl (x_I σ5 a7 ((6 * (x_I σ a1 (i6).toNatClampNeg)) + 3).toNatClampNeg)), some (.inl (i6 + 1)), none] [] σ5
    else
      (x_ck σ5 h 10 <|
      x_ci (O 164 [.inr (.inr (some h)), .inl (x_I σ a1 (i6).toNatClampNeg)] σ5) fun x10 σ9 =>
      (x_ck σ9 h 10 <|
      x_ci (O 163 [.inr (.inr (some h)), .inl (x_I σ a1 (i6).toNatClampNeg), .inl x10] σ9) fun x12 σ11 =>
      k 11 [some (.inr (.inr (some h))), none, some (.inl i2), some (.inl (i3 + x6)), some (.inl (i4 + (x12 * (i3 + x6)))), some (.inl (x_I σ5 a7 ((6 * (x_I σ a1 (i6).toNatClampNeg)) + 3).toNatClampNeg)), some (.inl (i6 + 1)), none] [] σ11)))))))))))) := rfl
set_option maxRecDepth 100000 in
set_option maxHeartbeats 1000000 in
/-- IModel.bestWay -/
theorem e185_0 (O : Nat → List xV → xS → Option xR) (k : Nat → xF) (h : Nat) (i1 : Int32) (i2 : Int32) (σ : xS) : x_b O x_X0 x_TX (x_C 185) k 3000 (x_suf (x_C 185) 0) [some (.inr (.inr (some h))), some (.inl i1), some (.inl i2), none, none, none, none] [] σ =
  (x_ck σ h 10 <|
  k 10 [some (.inr (.inr (some h))), some (.inl i1), some (.inl i2), some (.inl (-1)), some (.inl 0), none, none] [] (x_si σ h 43 0)) := rfl
set_option maxRecDepth 100000 in
set_option maxHeartbeats 1000000 in
/-- IModel.bestWay -/
theorem e185_10 (O : Nat → List xV → xS → Option xR) (k : Nat → xF) (h : Nat) (i1 : Int32) (i2 : Int32) (i3 : Int32) (i4 : Int32) (σ : xS) : x_b O x_X0 x_TX (x_C 185) k 3000 (x_suf (x_C 185) 10) [some (.inr (.inr (some h))), some (.inl i1), some (.inl i2), some (.inl i3), some (.inl i4), none, none] [] σ =
  (x_ck σ h 10 <|
  x_ci (O 183 [.inr (.inr (some h))] σ) fun x2 σ1 =>
  (if x2 ≤ i4 then
    (some (some (.inl i3), σ1))
  else
    (x_ck σ1 h 10 <|
    x_ci (O 182 [.inr (.inr (some h)), .inl i4] σ1) fun x4 σ3 =>
    (if x4 = 0 then
      k 10 [some (.inr (.inr (some h))), some (.inl i1), some (.inl i2), some (.inl i3), some (.inl (i4 + 1)), none, none] [] σ3
    else
      (x_ck σ3 h 10 <|
      x_ci (O 184 [.inr (.inr (some h)), .inl i1, .inl i2] σ3) fun x6 σ5 =>
      (if i3 = (-1) then
        (x_ck σ5 h 10 <|
        k 58 [some (.inr (.inr (some h))), some (.inl i1), some (.inl i2), some (.inl x6), some (.inl i4), none, some (.inl 0)] [] (x_si σ5 h 43 0))
      else
        (if i3 ≤ x6 then
          k 10 [some (.inr (.inr (some h))), some (.inl i1), some (.inl i2), some (.inl i3), some (.inl (i4 + 1)), none, none] [] σ5
        else
          (x_ck σ5 h 10 <|
          k 58 [some (.inr (.inr (some h))), some (.inl i1), some (.inl i2), some (.inl x6), some (.inl i4), none, some (.inl 0)] [] (x_si σ5 h 43 0))))))))) := rfl
set_option maxRecDepth 100000 in
set_option maxHeartbeats 1000000 in
/-- IModel.bestWay -/
theorem e185_58 (O : Nat → List xV → xS → Option xR) (k : Nat → xF) (h : Nat) (i1 : Int32) (i2 : Int32) (i3 : Int32) (i4 : Int32) (i6 : Int32) (σ : xS) : x_b O x_X0 x_TX (x_C 185) k 3000 (x_suf (x_C 185) 58) [some (.inr (.inr (some h))), some (.inl i1), some (.inl i2), some (.inl i3), some (.inl i4), none, some (.inl i6)] [] σ =
  (x_ck σ h 10 <|
  (if (x_I σ h 0) ≤ i6 then
    k 10 [some (.inr (.inr (some h))), some (.inl i1), some (.inl i2), some (.inl i3), some (.inl (i4 + 1)), none, none] [] σ
  else
    (x_ck σ h 10 <|
    (x_ck σ h 10 <|
    (x_der (x_Q σ h 42) fun a1 => x_ak σ a1 11 fun n2 => x_ix i6 n2 <|
    (x_ck σ h 10 <|
    k 58 [some (.inr (.inr (some h))), some (.inl i1), some (.inl i2), some (.inl i3), some (.inl i4), none, some (.inl (i6 + 1))] [] (x_si σ h 43 (((10 * (x_I σ h 43)) + (x_I σ a1 (i6).toNatClampNeg)) + 1)))))))) := rfl
set_option maxRecDepth 100000 in
set_option maxHeartbeats 1000000 in
/-- IModel.round -/
theorem e186_0 (O : Nat → List xV → xS → Option xR) (k : Nat → xF) (h : Nat) (i1 : Int32) (i2 : Int32) (i3 : Int32) (σ : xS) : x_b O x_X0 x_TX (x_C 186) k 3000 (x_suf (x_C 186) 0) [some (.inr (.inr (some h))), some (.inl i1), some (.inl i2), some (.inl i3), none] [] σ =
  (x_ci (O 133 [.inl i1, .inl 0, .inl 11] σ) fun x2 σ1 =>
  (if x2 = 0 then
    (some (some (.inl (-2)), σ1))
  else
    (x_ci (O 133 [.inl i2, .inl 0, .inl 1] σ1) fun x4 σ3 =>
    (if x4 = 0 then
      (some (some (.inl (-2)), σ3))
    else
      (x_ci (O 133 [.inl i3, .inl 0, .inl 1] σ3) fun x6 σ5 =>
      (if x6 = 0 then
        (some (some (.inl (-2)), σ5))
      else
        (x_ck σ5 h 10 <|
        x_ci (O 185 [.inr (.inr (some h)), .inl i1, .inl i2] σ5) fun x8 σ7 =>
        (if i3 = 0 then
          (some (some (.inl x8), σ7))
        else
          (x_ck σ7 h 10 <|
          (some (some (.inl (x_I σ7 h 43)), σ7))))))))))) := rfl
set_option maxRecDepth 100000 in
set_option maxHeartbeats 1000000 in
/-- IModel.office -/
theorem e187_0 (O : Nat → List xV → xS → Option xR) (k : Nat → xF) (h : Nat) (i1 : Int32) (σ : xS) : x_b O x_X0 x_TX (x_C 187) k 3000 (x_suf (x_C 187) 0) [some (.inr (.inr (some h))), some (.inl i1), none, none, none, none, none] [] σ =
  (x_ci (O 133 [.inl i1, .inl 0, .inl 1] σ) fun x2 σ1 =>
  (if x2 = 0 then
    (some (some (.inl (-2)), σ1))
  else
    k 19 [some (.inr (.inr (some h))), some (.inl i1), some (.inl (-1)), some (.inl 0), some (.inl 0), none, none] [] σ1)) := rfl
set_option maxRecDepth 100000 in
set_option maxHeartbeats 1000000 in
/-- IModel.office -/
theorem e187_19 (O : Nat → List xV → xS → Option xR) (k : Nat → xF) (h : Nat) (i1 : Int32) (i2 : Int32) (i3 : Int32) (i4 : Int32) (σ : xS) : x_b O x_X0 x_TX (x_C 187) k 3000 (x_suf (x_C 187) 19) [some (.inr (.inr (some h))), some (.inl i1), some (.inl i2), some (.inl i3), some (.inl i4), none, none] [] σ =
  (if 12 ≤ i4 then
    (if i1 = 0 then
      (some (some (.inl i2), σ))
    else
      (some (some (.inl i3), σ)))
  else
    (x_ck σ h 10 <|
    x_ci (O 185 [.inr (.inr (some h)), .inl i4, .inl 0] σ) fun x2 σ1 =>
    (if i2 = (-1) then
      k 51 [some (.inr (.inr (some h))), some (.inl i1), some (.inl i2), some (.inl i3), some (.inl i4), some (.inl x2), none] [.inl 1] σ1
    else
      (if i3 ≤ x2 then
        k 51 [some (.inr (.inr (some h))), some (.inl i1), some (.inl i2), some (.inl i3), some (.inl i4), some (.inl x2), none] [.inl 0] σ1
      else
        k 51 [some (.inr (.inr (some h))), some (.inl i1), some (.inl i2), some (.inl i3), some (.inl i4), some (.inl x2), none] [.inl 1] σ1)))) := rfl
set_option maxRecDepth 100000 in
set_option maxHeartbeats 1000000 in
/-- IModel.office -/
theorem e187_51 (O : Nat → List xV → xS → Option xR) (k : Nat → xF) (h : Nat) (i1 : Int32) (i2 : Int32) (i3 : Int32) (i4 : Int32) (i5 : Int32) (s0 : Int32) (σ : xS) : x_b O x_X0 x_TX (x_C 187) k 3000 (x_suf (x_C 187) 51) [some (.inr (.inr (some h))), some (.inl i1), some (.inl i2), some (.inl i3), some (.inl i4), some (.inl i5), none] [.inl s0] σ =
  (if s0 = 0 then
    (if s0 = 0 then
      k 19 [some (.inr (.inr (some h))), some (.inl i1), some (.inl i2), some (.inl i3), some (.inl (i4 + 1)), none, none] [] σ
    else
      k 19 [some (.inr (.inr (some h))), some (.inl i1), some (.inl i2), some (.inl i5), some (.inl (i4 + 1)), none, none] [] σ)
  else
    (if s0 = 0 then
      k 19 [some (.inr (.inr (some h))), some (.inl i1), some (.inl i4), some (.inl i3), some (.inl (i4 + 1)), none, none] [] σ
    else
      k 19 [some (.inr (.inr (some h))), some (.inl i1), some (.inl i4), some (.inl i5), some (.inl (i4 + 1)), none, none] [] σ)) := rfl
set_option maxRecDepth 100000 in
set_option maxHeartbeats 1000000 in
/-- IModel.ruinStep -/
theorem e188_0 (O : Nat → List xV → xS → Option xR) (k : Nat → xF) (h : Nat) (i1 : Int32) (σ : xS) : x_b O x_X0 x_TX (x_C 188) k 3000 (x_suf (x_C 188) 0) [some (.inr (.inr (some h))), some (.inl i1), none, none, none, none, none] [] σ =
  k 4 [some (.inr (.inr (some h))), some (.inl i1), some (.inl i1), some (.inl 0), none, none, none] [] σ := rfl
set_option maxRecDepth 100000 in
set_option maxHeartbeats 1000000 in
/-- IModel.ruinStep -/
theorem e188_4 (O : Nat → List xV → xS → Option xR) (k : Nat → xF) (h : Nat) (i1 : Int32) (i2 : Int32) (i3 : Int32) (σ : xS) : x_b O x_X0 x_TX (x_C 188) k 3000 (x_suf (x_C 188) 4) [some (.inr (.inr (some h))), some (.inl i1), some (.inl i2), some (.inl i3), none, none, none] [] σ =
  (x_ck σ h 10 <|
  (if (x_I σ h 0) ≤ i3 then
    (some (some (.inl i2), σ))
  else
    (x_ck σ h 10 <|
    (x_der (x_Q σ h 3) fun a1 => x_ak σ a1 11 fun n2 => x_ix ((6 * i3) + 4) n2 <|
    (if (x_I σ a1 ((6 * i3) + 4).toNatClampNeg) = (-1) then
      k 51 [some (.inr (.inr (some h))), some (.inl i1), some (.inl i2), some (.inl i3), some (.inl (x_I σ a1 ((6 * i3) + 4).toNatClampNeg)), none, none] [.inl 0] σ
    else
      (x_ci (O 134 [.inl (x_I σ a1 ((6 * i3) + 4).toNatClampNeg), .inl 0, .inl 4] σ) fun x4 σ3 =>
      (if ((i1 >>> (x4 &&& 31)) &&& 1) = 1 then
        k 51 [some (.inr (.inr (some h))), some (.inl i1), some (.inl i2), some (.inl i3), some (.inl (x_I σ a1 ((6 * i3) + 4).toNatClampNeg)), none, none] [.inl 1] σ3
      else
        k 51 [some (.inr (.inr (some h))), some (.inl i1), some (.inl i2), some (.inl i3), some (.inl (x_I σ a1 ((6 * i3) + 4).toNatClampNeg)), none, none] [.inl 0] σ3))))))) := rfl
set_option maxRecDepth 100000 in
set_option maxHeartbeats 1000000 in
/-- IModel.ruinStep -/
theorem e188_51 (O : Nat → List xV → xS → Option xR) (k : Nat → xF) (h : Nat) (i1 : Int32) (i2 : Int32) (i3 : Int32) (i4 : Int32) (s0 : Int32) (σ : xS) : x_b O x_X0 x_TX (x_C 188) k 3000 (x_suf (x_C 188) 51) [some (.inr (.inr (some h))), some (.inl i1), some (.inl i2), some (.inl i3), some (.inl i4), none, none] [.inl s0] σ =
  (x_ck σ h 10 <|
  (x_der (x_Q σ h 3) fun a1 => x_ak σ a1 11 fun n2 => x_ix (6 * i3) n2 <|
  (if s0 = 0 then
    k 88 [some (.inr (.inr (some h))), some (.inl i1), some (.inl i2), some (.inl i3), none, none, none] [.inl 0, .inl (x_I σ a1 (6 * i3).toNatClampNeg)] σ
  else
    (x_ck σ h 10 <|
    (x_ci (O 134 [.inl i4, .inl 0, .inl 4] σ) fun x4 σ3 =>
    (x_der (x_Q σ h 3) fun a5 => x_ak σ3 a5 11 fun n6 => x_ix ((6 * x4) + 1) n6 <|
    k 88 [some (.inr (.inr (some h))), some (.inl i1), some (.inl i2), some (.inl i3), none, none, none] [.inl (x_I σ3 a5 ((6 * x4) + 1).toNatClampNeg), .inl (x_I σ a1 (6 * i3).toNatClampNeg)] σ3)))))) := rfl
set_option maxRecDepth 100000 in
set_option maxHeartbeats 1000000 in
/-- IModel.ruinStep -/
theorem e188_88 (O : Nat → List xV → xS → Option xR) (k : Nat → xF) (h : Nat) (i1 : Int32) (i2 : Int32) (i3 : Int32) (s0 : Int32) (s1 : Int32) (σ : xS) : x_b O x_X0 x_TX (x_C 188) k 3000 (x_suf (x_C 188) 88) [some (.inr (.inr (some h))), some (.inl i1), some (.inl i2), some (.inl i3), none, none, none] [.inl s0, .inl s1] σ =
  (x_ck σ h 10 <|
  (if (x_I σ h 7) ≤ (s1 - s0) then
    k 4 [some (.inr (.inr (some h))), some (.inl i1), some (.inl (i2 ||| 0)), some (.inl (i3 + 1)), none, none, none] [] σ
  else
    k 4 [some (.inr (.inr (some h))), some (.inl i1), some (.inl (i2 ||| (1 <<< (i3 &&& 31)))), some (.inl (i3 + 1)), none, none, none] [] σ)) := rfl
set_option maxRecDepth 100000 in
set_option maxHeartbeats 1000000 in
/-- IModel.ruined -/
theorem e189_0 (O : Nat → List xV → xS → Option xR) (k : Nat → xF) (h : Nat) (i1 : Int32) (σ : xS) : x_b O x_X0 x_TX (x_C 189) k 3000 (x_suf (x_C 189) 0) [some (.inr (.inr (some h))), some (.inl i1), none, none] [] σ =
  (x_ck σ h 10 <|
  x_ci (O 188 [.inr (.inr (some h)), .inl i1] σ) fun x2 σ1 =>
  (x_ck σ1 h 10 <|
  k 13 [some (.inr (.inr (some h))), none, some (.inl i1), some (.inl x2)] [] (x_si σ1 h 44 0))) := rfl
set_option maxRecDepth 100000 in
set_option maxHeartbeats 1000000 in
/-- IModel.ruined -/
theorem e189_13 (O : Nat → List xV → xS → Option xR) (k : Nat → xF) (h : Nat) (i2 : Int32) (i3 : Int32) (σ : xS) : x_b O x_X0 x_TX (x_C 189) k 3000 (x_suf (x_C 189) 13) [some (.inr (.inr (some h))), none, some (.inl i2), some (.inl i3)] [] σ =
  (if i3 = i2 then
    (some (some (.inl i2), σ))
  else
    (x_ck σ h 10 <|
    (x_ck σ h 10 <|
    (x_ck (x_si σ h 44 ((x_I σ h 44) + 1)) h 10 <|
    x_ci (O 188 [.inr (.inr (some h)), .inl i3] (x_si σ h 44 ((x_I σ h 44) + 1))) fun x2 σ1 =>
    k 13 [some (.inr (.inr (some h))), none, some (.inl i3), some (.inl x2)] [] σ1)))) := rfl
set_option maxRecDepth 100000 in
set_option maxHeartbeats 1000000 in
/-- IModel.ruin -/
theorem e190_0 (O : Nat → List xV → xS → Option xR) (k : Nat → xF) (h : Nat) (i1 : Int32) (i2 : Int32) (σ : xS) : x_b O x_X0 x_TX (x_C 190) k 3000 (x_suf (x_C 190) 0) [some (.inr (.inr (some h))), some (.inl i1), some (.inl i2), none] [] σ =
  (x_ck σ h 10 <|
  (x_ci (O 133 [.inl i1, .inl 0, .inl ((1 <<< ((x_I σ h 0) &&& 31)) - 1)] σ) fun x2 σ1 =>
  (if x2 = 0 then
    (some (some (.inl (-2)), σ1))
  else
    (x_ci (O 133 [.inl i2, .inl 0, .inl 1] σ1) fun x4 σ3 =>
    (if x4 = 0 then
      (some (some (.inl (-2)), σ3))
    else
      (x_ck σ3 h 10 <|
      x_ci (O 189 [.inr (.inr (some h)), .inl i1] σ3) fun x6 σ5 =>
      (if i2 = 0 then
        (some (some (.inl x6), σ5))
      else
        (x_ck σ5 h 10 <|
        (some (some (.inl (x_I σ5 h 44)), σ5)))))))))) := rfl
set_option maxRecDepth 100000 in
set_option maxHeartbeats 1000000 in
/-- IModel.ones -/
theorem e191_0 (O : Nat → List xV → xS → Option xR) (k : Nat → xF) (i0 : Int32) (σ : xS) : x_b O x_X0 x_TX (x_C 191) k 3000 (x_suf (x_C 191) 0) [some (.inl i0), none, none] [] σ =
  k 4 [some (.inl i0), some (.inl 0), some (.inl 0)] [] σ := rfl
set_option maxRecDepth 100000 in
set_option maxHeartbeats 1000000 in
/-- IModel.ones -/
theorem e191_4 (O : Nat → List xV → xS → Option xR) (k : Nat → xF) (i0 : Int32) (i1 : Int32) (i2 : Int32) (σ : xS) : x_b O x_X0 x_TX (x_C 191) k 3000 (x_suf (x_C 191) 4) [some (.inl i0), some (.inl i1), some (.inl i2)] [] σ =
  (if 5 ≤ i2 then
    (some (some (.inl i1), σ))
  else
    k 4 [some (.inl i0), some (.inl (i1 + ((i0 >>> (i2 &&& 31)) &&& 1))), some (.inl (i2 + 1))] [] σ) := rfl
set_option maxRecDepth 100000 in
set_option maxHeartbeats 1000000 in
/-- IModel.worst -/
theorem e192_0 (O : Nat → List xV → xS → Option xR) (k : Nat → xF) (h : Nat) (i1 : Int32) (σ : xS) : x_b O x_X0 x_TX (x_C 192) k 3000 (x_suf (x_C 192) 0) [some (.inr (.inr (some h))), some (.inl i1), none, none, none, none] [] σ =
  (x_ci (O 133 [.inl i1, .inl 0, .inl 1] σ) fun x2 σ1 =>
  (if x2 = 0 then
    (some (some (.inl (-2)), σ1))
  else
    k 19 [some (.inr (.inr (some h))), some (.inl i1), some (.inl (-1)), some (.inl (-1)), some (.inl 0), none] [] σ1)) := rfl
set_option maxRecDepth 100000 in
set_option maxHeartbeats 1000000 in
/-- IModel.worst -/
theorem e192_19 (O : Nat → List xV → xS → Option xR) (k : Nat → xF) (h : Nat) (i1 : Int32) (i2 : Int32) (i3 : Int32) (i4 : Int32) (σ : xS) : x_b O x_X0 x_TX (x_C 192) k 3000 (x_suf (x_C 192) 19) [some (.inr (.inr (some h))), some (.inl i1), some (.inl i2), some (.inl i3), some (.inl i4), none] [] σ =
  (x_ck σ h 10 <|
  (if (x_I σ h 0) ≤ i4 then
    (if i1 = 0 then
      (some (some (.inl i2), σ))
    else
      (some (some (.inl i3), σ)))
  else
    (x_ck σ h 10 <|
    x_ci (O 189 [.inr (.inr (some h)), .inl (1 <<< (i4 &&& 31))] σ) fun x2 σ1 =>
    (x_ci (O 191 [.inl x2] σ1) fun x4 σ3 =>
    (if x4 ≤ i3 then
      k 53 [some (.inr (.inr (some h))), some (.inl i1), none, some (.inl i3), some (.inl i4), some (.inl x4)] [.inl i2] σ3
    else
      k 53 [some (.inr (.inr (some h))), some (.inl i1), none, some (.inl i3), some (.inl i4), some (.inl x4)] [.inl i4] σ3))))) := rfl
set_option maxRecDepth 100000 in
set_option maxHeartbeats 1000000 in
/-- IModel.worst -/
theorem e192_53 (O : Nat → List xV → xS → Option xR) (k : Nat → xF) (h : Nat) (i1 : Int32) (i3 : Int32) (i4 : Int32) (i5 : Int32) (s0 : Int32) (σ : xS) : x_b O x_X0 x_TX (x_C 192) k 3000 (x_suf (x_C 192) 53) [some (.inr (.inr (some h))), some (.inl i1), none, some (.inl i3), some (.inl i4), some (.inl i5)] [.inl s0] σ =
  (if i5 ≤ i3 then
    k 19 [some (.inr (.inr (some h))), some (.inl i1), some (.inl s0), some (.inl i3), some (.inl (i4 + 1)), none] [] σ
  else
    k 19 [some (.inr (.inr (some h))), some (.inl i1), some (.inl s0), some (.inl i5), some (.inl (i4 + 1)), none] [] σ) := rfl
set_option maxRecDepth 100000 in
set_option maxHeartbeats 1000000 in
/-- IModel.chainOf -/
theorem e193_0 (O : Nat → List xV → xS → Option xR) (k : Nat → xF) (h : Nat) (i1 : Int32) (σ : xS) : x_b O x_X0 x_TX (x_C 193) k 3000 (x_suf (x_C 193) 0) [some (.inr (.inr (some h))), some (.inl i1), none, none, none] [] σ =
  (x_ck σ h 10 <|
  (x_der (x_Q σ h 3) fun a1 => x_ak σ a1 11 fun n2 => x_ix ((6 * i1) + 4) n2 <|
  k 19 [some (.inr (.inr (some h))), some (.inl i1), some (.inl (1 <<< (i1 &&& 31))), some (.inl (x_I σ a1 ((6 * i1) + 4).toNatClampNeg)), some (.inl 0)] [] σ)) := rfl
set_option maxRecDepth 100000 in
set_option maxHeartbeats 1000000 in
/-- IModel.chainOf -/
theorem e193_19 (O : Nat → List xV → xS → Option xR) (k : Nat → xF) (h : Nat) (i1 : Int32) (i2 : Int32) (i3 : Int32) (i4 : Int32) (σ : xS) : x_b O x_X0 x_TX (x_C 193) k 3000 (x_suf (x_C 193) 19) [some (.inr (.inr (some h))), some (.inl i1), some (.inl i2), some (.inl i3), some (.inl i4)] [] σ =
  (if i3 = (-1) then
    (if i3 = i1 then
      (x_ck σ h 10 <|
      (some (some (.inl i4), x_si σ h 45 1)))
    else
      (x_ck σ h 10 <|
      (some (some (.inl i4), x_si σ h 45 0))))
  else
    (x_ci (O 134 [.inl i3, .inl 0, .inl 4] σ) fun x2 σ1 =>
    (if ((i2 >>> (x2 &&& 31)) &&& 1) = 0 then
      (x_ck σ1 h 10 <|
      (x_der (x_Q σ1 h 3) fun a3 => x_ak σ1 a3 11 fun n4 => x_ix ((6 * i3) + 4) n4 <|
      k 19 [some (.inr (.inr (some h))), some (.inl i1), some (.inl (i2 ||| (1 <<< (i3 &&& 31)))), some (.inl (x_I σ1 a3 ((6 * i3) + 4).toNatClampNeg)), some (.inl (i4 + 1))] [] σ1))
    else
      (if i3 = i1 then
        (x_ck σ1 h 10 <|
        (some (some (.inl i4), x_si σ1 h 45 1)))
      else
        (x_ck σ1 h 10 <|
        (some (some (.inl i4), x_si σ1 h 45 0))))))) := rfl
set_option maxRecDepth 100000 in
set_option maxHeartbeats 1000000 in
/-- IModel.chain -/
theorem e194_0 (O : Nat → List xV → xS → Option xR) (k : Nat → xF) (h : Nat) (i1 : Int32) (σ : xS) : x_b O x_X0 x_TX (x_C 194) k 3000 (x_suf (x_C 194) 0) [some (.inr (.inr (some h))), some (.inl i1)] [] σ =
  (x_ck σ h 10 <|
  x_ci (O 135 [.inr (.inr (some h)), .inl i1] σ) fun x2 σ1 =>
  (if x2 = 0 then
    (some (some (.inl (-5)), σ1))
  else
    (x_ck σ1 h 10 <|
    x_ci (O 193 [.inr (.inr (some h)), .inl i1] σ1) fun x4 σ3 =>
    (some (some (.inl x4), σ3))))) := rfl
set_option maxRecDepth 100000 in
set_option maxHeartbeats 1000000 in
/-- IModel.rings -/
theorem e195_0 (O : Nat → List xV → xS → Option xR) (k : Nat → xF) (h : Nat) (σ : xS) : x_b O x_X0 x_TX (x_C 195) k 3000 (x_suf (x_C 195) 0) [some (.inr (.inr (some h))), none, none] [] σ =
  k 4 [some (.inr (.inr (some h))), some (.inl 0), some (.inl 0)] [] σ := rfl
set_option maxRecDepth 100000 in
set_option maxHeartbeats 1000000 in
/-- IModel.rings -/
theorem e195_4 (O : Nat → List xV → xS → Option xR) (k : Nat → xF) (h : Nat) (i1 : Int32) (i2 : Int32) (σ : xS) : x_b O x_X0 x_TX (x_C 195) k 3000 (x_suf (x_C 195) 4) [some (.inr (.inr (some h))), some (.inl i1), some (.inl i2)] [] σ =
  (x_ck σ h 10 <|
  (if (x_I σ h 0) ≤ i2 then
    (some (some (.inl i1), σ))
  else
    (x_ck σ h 10 <|
    x_ci (O 193 [.inr (.inr (some h)), .inl i2] σ) fun x2 σ1 =>
    (x_ck σ1 h 10 <|
    (if (x_I σ1 h 45) = 0 then
      k 4 [some (.inr (.inr (some h))), some (.inl (i1 ||| 0)), some (.inl (i2 + 1))] [] σ1
    else
      k 4 [some (.inr (.inr (some h))), some (.inl (i1 ||| (1 <<< (i2 &&& 31)))), some (.inl (i2 + 1))] [] σ1))))) := rfl
set_option maxRecDepth 100000 in
set_option maxHeartbeats 1000000 in
/-- IModel.yearByLots -/
theorem e196_0 (O : Nat → List xV → xS → Option xR) (k : Nat → xF) (h : Nat) (σ : xS) : x_b O x_X0 x_TX (x_C 196) k 3000 (x_suf (x_C 196) 0) [some (.inr (.inr (some h))), none, none, none, none, none] [] σ =
  (x_ck σ h 10 <|
  k 9 [some (.inr (.inr (some h))), some (.inl 0), some (.inl 0), none, none, none] [] (x_si σ h 47 0)) := rfl
set_option maxRecDepth 100000 in
set_option maxHeartbeats 1000000 in
/-- IModel.yearByLots -/
theorem e196_9 (O : Nat → List xV → xS → Option xR) (k : Nat → xF) (h : Nat) (i1 : Int32) (i2 : Int32) (σ : xS) : x_b O x_X0 x_TX (x_C 196) k 3000 (x_suf (x_C 196) 9) [some (.inr (.inr (some h))), some (.inl i1), some (.inl i2), none, none, none] [] σ =
  (x_ck σ h 10 <|
  (if (x_I σ h 0) ≤ i2 then
    (x_ck σ h 10 <|
    (x_ck σ h 10 <|
    (some (some (.inl i1), x_si σ h 4 ((x_I σ h 4) + 1)))))
  else
    (x_ck σ h 10 <|
    (x_ck σ h 10 <|
    (x_ck (x_sl σ h 46 (((x_J σ h 46) * 48271) - ((x_J σ h 46) * 48271) / 2147483647 * 2147483647)) h 10 <|
    (x_der (x_Q (x_sl σ h 46 (((x_J σ h 46) * 48271) - ((x_J σ h 46) * 48271) / 2147483647 * 2147483647)) h 3) fun a1 => x_ak (x_sl σ h 46 (((x_J σ h 46) * 48271) - ((x_J σ h 46) * 48271) / 2147483647 * 2147483647)) a1 11 fun n2 => x_ix ((6 * i2) + 5) n2 <|
    (x_ck (x_sl σ h 46 (((x_J σ h 46) * 48271) - ((x_J σ h 46) * 48271) / 2147483647 * 2147483647)) h 10 <|
    (x_ck (x_sl σ h 46 (((x_J σ h 46) * 48271) - ((x_J σ h 46) * 48271) / 2147483647 * 2147483647)) h 10 <|
    (x_ck (x_sl σ h 46 (((x_J σ h 46) * 48271) - ((x_J σ h 46) * 48271) / 2147483647 * 2147483647)) h 10 <|
    x_ci (O 160 [.inr (.inr (some h)), .inl i2, .inl (x_I (x_sl σ h 46 (((x_J σ h 46) * 48271) - ((x_J σ h 46) * 48271) / 2147483647 * 2147483647)) h 4), .inl (x_I (x_sl σ h 46 (((x_J σ h 46) * 48271) - ((x_J σ h 46) * 48271) / 2147483647 * 2147483647)) a1 ((6 * i2) + 5).toNatClampNeg)] (x_sl σ h 46 (((x_J σ h 46) * 48271) - ((x_J σ h 46) * 48271) / 2147483647 * 2147483647))) fun x4 σ3 =>
    (if 0 ≤ (lg_cmp ((x_J (x_sl σ h 46 (((x_J σ h 46) * 48271) - ((x_J σ h 46) * 48271) / 2147483647 * 2147483647)) h 46) - (x_J (x_sl σ h 46 (((x_J σ h 46) * 48271) - ((x_J σ h 46) * 48271) / 2147483647 * 2147483647)) h 46) / 100 * 100) x4.toInt64) then
      k 9 [some (.inr (.inr (some h))), some (.inl i1), some (.inl (i2 + 1)), none, none, none] [] σ3
    else
      (x_ck σ3 h 10 <|
      (x_ck σ3 h 10 <|
      x_ci (O 161 [.inr (.inr (some h)), .inl i2, .inl (x_I σ3 h 4), .inl (x_I (x_sl σ h 46 (((x_J σ h 46) * 48271) - ((x_J σ h 46) * 48271) / 2147483647 * 2147483647)) a1 ((6 * i2) + 5).toNatClampNeg)] σ3) fun x6 σ5 =>
      (x_ck σ5 h 10 <|
      x_ci (O 163 [.inr (.inr (some h)), .inl i2, .inl x6] σ5) fun x8 σ7 =>
      (x_ck σ7 h 10 <|
      (x_ck σ7 h 10 <|
      (x_der (x_Q σ7 h 3) fun a9 => x_ak σ7 a9 11 fun n10 => x_ix (6 * i2) n10 <|
      (x_ci (O 134 [.inl (((x_I σ7 a9 (6 * i2).toNatClampNeg) + x6) - x8), .inl 0, .inl 99999] σ7) fun x12 σ11 =>
      (x_der (x_Q σ7 h 3) fun a13 => x_ak σ11 a13 11 fun n14 => x_ix (6 * i2) n14 <|
      (x_ck (x_si σ11 a13 (6 * i2).toNatClampNeg x12) h 10 <|
      (x_ci (O 134 [.inl ((x_I (x_sl σ h 46 (((x_J σ h 46) * 48271) - ((x_J σ h 46) * 48271) / 2147483647 * 2147483647)) a1 ((6 * i2) + 5).toNatClampNeg) + 1), .inl 0, .inl 99] (x_si σ11 a13 (6 * i2).toNatClampNeg x12)) fun x16 σ15 =>
      (x_der (x_Q (x_si σ11 a13 (6 * i2).toNatClampNeg x12) h 3) fun a17 => x_ak σ15 a17 11 fun n18 => x_ix ((6 * i2) + 5) n18 <|
      (x_ck (x_si σ15 a17 ((6 * i2) + 5).toNatClampNeg x16) h 10 <|
      (x_ck (x_si σ15 a17 ((6 * i2) + 5).toNatClampNeg x16) h 10 <|
      k 9 [some (.inr (.inr (some h))), some (.inl (i1 + x8)), some (.inl (i2 + 1)), none, none, none] [] (x_si (x_si σ15 a17 ((6 * i2) + 5).toNatClampNeg x16) h 47 ((x_I (x_si σ15 a17 ((6 * i2) + 5).toNatClampNeg x16) h 47) ||| (1 <<< (i2 &&& 31))))))))))))))))))))))))))) := rfl
set_option maxRecDepth 100000 in
set_option maxHeartbeats 1000000 in
/-- IModel.live -/
theorem e197_0 (O : Nat → List xV → xS → Option xR) (k : Nat → xF) (h : Nat) (i1 : Int32) (σ : xS) : x_b O x_X0 x_TX (x_C 197) k 3000 (x_suf (x_C 197) 0) [some (.inr (.inr (some h))), some (.inl i1)] [] σ =
  (x_ci (O 133 [.inl i1, .inl 0, .inl 99999] σ) fun x2 σ1 =>
  (if x2 = 0 then
    (some (some (.inl (-2)), σ1))
  else
    (x_ck σ1 h 10 <|
    (if (x_I σ1 h 4) = 99 then
      (some (some (.inl (-4)), σ1))
    else
      (x_ck σ1 h 10 <|
      (x_ck (x_sl σ1 h 46 (i1.toInt64 + 1)) h 10 <|
      (x_ck (x_sl σ1 h 46 (i1.toInt64 + 1)) h 10 <|
      x_ci (O 196 [.inr (.inr (some h))] (x_sl σ1 h 46 (i1.toInt64 + 1))) fun x4 σ3 =>
      (x_ci (O 134 [.inl ((x_I (x_sl σ1 h 46 (i1.toInt64 + 1)) h 5) + x4), .inl 0, .inl 99999] σ3) fun x6 σ5 =>
      (x_ck σ5 h 10 <|
      (x_ck (x_si σ5 h 5 x6) h 10 <|
      (some (some (.inl (x_I (x_si σ5 h 5 x6) h 47)), x_si σ5 h 5 x6)))))))))))) := rfl
set_option maxRecDepth 100000 in
set_option maxHeartbeats 1000000 in
/-- IModel.runsBy -/
theorem e198_0 (O : Nat → List xV → xS → Option xR) (k : Nat → xF) (h : Nat) (i1 : Int32) (i2 : Int32) (σ : xS) : x_b O x_X0 x_TX (x_C 198) k 3000 (x_suf (x_C 198) 0) [some (.inr (.inr (some h))), some (.inl i1), some (.inl i2), none, none, none, none, none] [] σ =
  (x_ck σ h 10 <|
  k 11 [some (.inr (.inr (some h))), some (.inl i1), some (.inl i2), some (.inl (x_I σ h 4)), some (.inl 0), some (.inl 0), none, none] [] σ) := rfl
set_option maxRecDepth 100000 in
set_option maxHeartbeats 1000000 in
/-- IModel.runsBy -/
theorem e198_11 (O : Nat → List xV → xS → Option xR) (k : Nat → xF) (h : Nat) (i1 : Int32) (i2 : Int32) (i3 : Int32) (i4 : Int32) (i5 : Int32) (σ : xS) : x_b O x_X0 x_TX (x_C 198) k 3000 (x_suf (x_C 198) 11) [some (.inr (.inr (some h))), some (.inl i1), some (.inl i2), some (.inl i3), some (.inl i4), some (.inl i5), none, none] [] σ =
  (if 30 ≤ i5 then
    (x_ck σ h 10 <|
    (x_ck (x_sl σ h 46 (i1.toInt64 + 1)) h 10 <|
    (x_ck (x_si (x_sl σ h 46 (i1.toInt64 + 1)) h 50 (-1)) h 10 <|
    k 59 [some (.inr (.inr (some h))), none, some (.inl i2), some (.inl i3), some (.inl i4), some (.inl 0), none, none] [] (x_si (x_si (x_sl σ h 46 (i1.toInt64 + 1)) h 50 (-1)) h 51 (-1)))))
  else
    (x_ck σ h 10 <|
    (x_ck σ h 10 <|
    (x_der (x_Q σ h 3) fun a1 => x_ak σ a1 11 fun n2 => x_ix i5 n2 <|
    (x_der (x_Q σ h 48) fun a3 => x_ak σ a3 11 fun n4 => x_ix i5 n4 <|
    k 11 [some (.inr (.inr (some h))), some (.inl i1), some (.inl i2), some (.inl i3), some (.inl i4), some (.inl (i5 + 1)), none, none] [] (x_si σ a3 (i5).toNatClampNeg (x_I σ a1 (i5).toNatClampNeg))))))) := rfl
set_option maxRecDepth 100000 in
set_option maxHeartbeats 1000000 in
/-- IModel.runsBy -/
theorem e198_59 (O : Nat → List xV → xS → Option xR) (k : Nat → xF) (h : Nat) (i2 : Int32) (i3 : Int32) (i4 : Int32) (i5 : Int32) (σ : xS) : x_b O x_X0 x_TX (x_C 198) k 3000 (x_suf (x_C 198) 59) [some (.inr (.inr (some h))), none, some (.inl i2), some (.inl i3), some (.inl i4), some (.inl i5), none, none] [] σ =
  (if i2 ≤ i5 then
    k 169 [some (.inr (.inr (some h))), none, none, some (.inl i3), some (.inl i4), some (.inl 0), none, none] [] σ
  else
    (x_ck σ h 10 <|
    x_ci (O 196 [.inr (.inr (some h))] σ) fun x2 σ1 =>
    k 77 [some (.inr (.inr (some h))), none, some (.inl i2), some (.inl i3), some (.inl (i4 + x2)), some (.inl i5), some (.inl 0), none] [] σ1)) := rfl
set_option maxRecDepth 100000 in
set_option maxHeartbeats 1000000 in
/-- IModel.runsBy -/
theorem e198_77 (O : Nat → List xV → xS → Option xR) (k : Nat → xF) (h : Nat) (i2 : Int32) (i3 : Int32) (i4 : Int32) (i5 : Int32) (i6 : Int32) (σ : xS) : x_b O x_X0 x_TX (x_C 198) k 3000 (x_suf (x_C 198) 77) [some (.inr (.inr (some h))), none, some (.inl i2), some (.inl i3), some (.inl i4), some (.inl i5), some (.inl i6), none] [] σ =
  (x_ck σ h 10 <|
  (if (x_I σ h 0) ≤ i6 then
    k 59 [some (.inr (.inr (some h))), none, some (.inl i2), some (.inl i3), some (.inl i4), some (.inl (i5 + 1)), none, none] [] σ
  else
    (x_ck σ h 10 <|
    (if (x_I σ h 50) = (-1) then
      (x_ck σ h 10 <|
      (x_der (x_Q σ h 3) fun a1 => x_ak σ a1 11 fun n2 => x_ix (6 * i6) n2 <|
      (x_ck σ h 10 <|
      (if (x_I σ a1 (6 * i6).toNatClampNeg) < (x_I σ h 6) then
        (if (0 : Int32) = 0 then
          (x_ck σ h 10 <|
          k 133 [some (.inr (.inr (some h))), none, some (.inl i2), some (.inl i3), some (.inl i4), some (.inl i5), some (.inl i6), some (.inl 0)] [.inl (x_I σ h 51), .inr (.inr (some h))] σ)
        else
          k 133 [some (.inr (.inr (some h))), none, some (.inl i2), some (.inl i3), some (.inl i4), some (.inl i5), some (.inl i6), some (.inl 0)] [.inl i5, .inr (.inr (some h))] σ)
      else
        (if (1 : Int32) = 0 then
          (x_ck σ h 10 <|
          k 133 [some (.inr (.inr (some h))), none, some (.inl i2), some (.inl i3), some (.inl i4), some (.inl i5), some (.inl i6), some (.inl 1)] [.inl (x_I σ h 51), .inr (.inr (some h))] σ)
        else
          k 133 [some (.inr (.inr (some h))), none, some (.inl i2), some (.inl i3), some (.inl i4), some (.inl i5), some (.inl i6), some (.inl 1)] [.inl i5, .inr (.inr (some h))] σ)))))
    else
      (if (0 : Int32) = 0 then
        (x_ck σ h 10 <|
        k 133 [some (.inr (.inr (some h))), none, some (.inl i2), some (.inl i3), some (.inl i4), some (.inl i5), some (.inl i6), some (.inl 0)] [.inl (x_I σ h 51), .inr (.inr (some h))] σ)
      else
        k 133 [some (.inr (.inr (some h))), none, some (.inl i2), some (.inl i3), some (.inl i4), some (.inl i5), some (.inl i6), some (.inl 0)] [.inl i5, .inr (.inr (some h))] σ))))) := rfl
set_option maxRecDepth 100000 in
set_option maxHeartbeats 1000000 in
/-- IModel.runsBy -/
theorem e198_133 (O : Nat → List xV → xS → Option xR) (k : Nat → xF) (h : Nat) (i2 : Int32) (i3 : Int32) (i4 : Int32) (i5 : Int32) (i6 : Int32) (i7 : Int32) (s0 : Int32) (s1 : Option Nat) (σ : xS) : x_b O x_X0 x_TX (x_C 198) k 3000 (x_suf (x_C 198) 133) [some (.inr (.inr (some h))), none, some (.inl i2), some (.inl i3), some (.inl i4), some (.inl i5), some (.inl i6), some (.inl i7)] [.inl s0, .inr (.inr s1)] σ =
  (x_der s1 fun a1 => x_ck σ a1 10 <|
  (if i7 = 0 then
    (x_ck (x_si σ a1 51 s0) h 10 <|
    (x_ck (x_si σ a1 51 s0) h 10 <|
    k 77 [some (.inr (.inr (some h))), none, some (.inl i2), some (.inl i3), some (.inl i4), some (.inl i5), some (.inl (i6 + 1)), none] [] (x_si (x_si σ a1 51 s0) h 50 (x_I (x_si σ a1 51 s0) h 50))))
  else
    (x_ck (x_si σ a1 51 s0) h 10 <|
    k 77 [some (.inr (.inr (some h))), none, some (.inl i2), some (.inl i3), some (.inl i4), some (.inl i5), some (.inl (i6 + 1)), none] [] (x_si (x_si σ a1 51 s0) h 50 i6)))) := rfl
set_option maxRecDepth 100000 in
set_option maxHeartbeats 1000000 in
/-- IModel.runsBy -/
theorem e198_169 (O : Nat → List xV → xS → Option xR) (k : Nat → xF) (h : Nat) (i3 : Int32) (i4 : Int32) (i5 : Int32) (σ : xS) : x_b O x_X0 x_TX (x_C 198) k 3000 (x_suf (x_C 198) 169) [some (.inr (.inr (some h))), none, none, some (.inl i3), some (.inl i4), some (.inl i5), none, none] [] σ =
  (x_ck σ h 10 <|
  (if (x_I σ h 0) ≤ i5 then
    k 204 [some (.inr (.inr (some h))), none, none, some (.inl i3), some (.inl i4), some (.inl 0), none, none] [] σ
  else
    (x_ck σ h 10 <|
    (x_ck σ h 10 <|
    (x_der (x_Q σ h 3) fun a1 => x_ak σ a1 11 fun n2 => x_ix (6 * i5) n2 <|
    (x_der (x_Q σ h 49) fun a3 => x_ak σ a3 11 fun n4 => x_ix i5 n4 <|
    k 169 [some (.inr (.inr (some h))), none, none, some (.inl i3), some (.inl i4), some (.inl (i5 + 1)), none, none] [] (x_si σ a3 (i5).toNatClampNeg (x_I σ a1 (6 * i5).toNatClampNeg)))))))) := rfl
set_option maxRecDepth 100000 in
set_option maxHeartbeats 1000000 in
/-- IModel.runsBy -/
theorem e198_204 (O : Nat → List xV → xS → Option xR) (k : Nat → xF) (h : Nat) (i3 : Int32) (i4 : Int32) (i5 : Int32) (σ : xS) : x_b O x_X0 x_TX (x_C 198) k 3000 (x_suf (x_C 198) 204) [some (.inr (.inr (some h))), none, none, some (.inl i3), some (.inl i4), some (.inl i5), none, none] [] σ =
  (if 30 ≤ i5 then
    (x_ck σ h 10 <|
    (some (some (.inl i4), x_si σ h 4 i3)))
  else
    (x_ck σ h 10 <|
    (x_ck σ h 10 <|
    (x_der (x_Q σ h 48) fun a1 => x_ak σ a1 11 fun n2 => x_ix i5 n2 <|
    (x_der (x_Q σ h 3) fun a3 => x_ak σ a3 11 fun n4 => x_ix i5 n4 <|
    k 204 [some (.inr (.inr (some h))), none, none, some (.inl i3), some (.inl i4), some (.inl (i5 + 1)), none, none] [] (x_si σ a3 (i5).toNatClampNeg (x_I σ a1 (i5).toNatClampNeg))))))) := rfl
set_option maxRecDepth 100000 in
set_option maxHeartbeats 1000000 in
/-- IModel.run -/
theorem e199_0 (O : Nat → List xV → xS → Option xR) (k : Nat → xF) (h : Nat) (i1 : Int32) (i2 : Int32) (i3 : Int32) (σ : xS) : x_b O x_X0 x_TX (x_C 199) k 3000 (x_suf (x_C 199) 0) [some (.inr (.inr (some h))), some (.inl i1), some (.inl i2), some (.inl i3), none] [] σ =
  (x_ci (O 133 [.inl i1, .inl 0, .inl 99999] σ) fun x2 σ1 =>
  (if x2 = 0 then
    (some (some (.inl (-2)), σ1))
  else
    (x_ci (O 133 [.inl i2, .inl 0, .inl 40] σ1) fun x4 σ3 =>
    (if x4 = 0 then
      (some (some (.inl (-2)), σ3))
    else
      (x_ci (O 133 [.inl i3, .inl 0, .inl 2] σ3) fun x6 σ5 =>
      (if x6 = 0 then
        (x_ck σ5 h 10 <|
        (x_ci (O 133 [.inl i3, .inl 10, .inl (9 + (x_I σ5 h 0))] σ5) fun x8 σ7 =>
        (if x8 = 0 then
          (some (some (.inl (-7)), σ7))
        else
          k 51 [some (.inr (.inr (some h))), some (.inl i1), some (.inl i2), some (.inl i3), none] [] σ7)))
      else
        k 51 [some (.inr (.inr (some h))), some (.inl i1), some (.inl i2), some (.inl i3), none] [] σ5)))))) := rfl
set_option maxRecDepth 100000 in
set_option maxHeartbeats 1000000 in
/-- IModel.run -/
theorem e199_51 (O : Nat → List xV → xS → Option xR) (k : Nat → xF) (h : Nat) (i1 : Int32) (i2 : Int32) (i3 : Int32) (σ : xS) : x_b O x_X0 x_TX (x_C 199) k 3000 (x_suf (x_C 199) 51) [some (.inr (.inr (some h))), some (.inl i1), some (.inl i2), some (.inl i3), none] [] σ =
  (x_ck σ h 10 <|
  x_ci (O 198 [.inr (.inr (some h)), .inl i1, .inl i2] σ) fun x2 σ1 =>
  (if i3 = 0 then
    (some (some (.inl x2), σ1))
  else
    (if i3 = 1 then
      (x_ck σ1 h 10 <|
      (some (some (.inl (x_I σ1 h 50)), σ1)))
    else
      (if i3 = 2 then
        (x_ck σ1 h 10 <|
        (some (some (.inl (x_I σ1 h 51)), σ1)))
      else
        (x_ck σ1 h 10 <|
        (x_der (x_Q σ1 h 49) fun a3 => x_ak σ1 a3 11 fun n4 => x_ix (i3 - 10) n4 <|
        (some (some (.inl (x_I σ1 a3 (i3 - 10).toNatClampNeg)), σ1)))))))) := rfl
set_option maxRecDepth 100000 in
set_option maxHeartbeats 1000000 in
/-- IModel.odds -/
theorem e200_0 (O : Nat → List xV → xS → Option xR) (k : Nat → xF) (h : Nat) (i1 : Int32) (i2 : Int32) (i3 : Int32) (σ : xS) : x_b O x_X0 x_TX (x_C 200) k 3000 (x_suf (x_C 200) 0) [some (.inr (.inr (some h))), some (.inl i1), some (.inl i2), some (.inl i3), none, none, none, none] [] σ =
  (x_ci (O 133 [.inl i1, .inl 0, .inl 99999] σ) fun x2 σ1 =>
  (if x2 = 0 then
    (if (0 : Int32) = 0 then
      (some (some (.inr (.inl (-4611686018427387904))), σ1))
    else
      k 65 [some (.inr (.inr (some h))), some (.inl i1), some (.inl i2), some (.inl i3), none, some (.inr (.inl 0)), none, some (.inl 0)] [] σ1)
  else
    (x_ci (O 133 [.inl i2, .inl 0, .inl 4050] σ1) fun x4 σ3 =>
    (if x4 = 0 then
      (if (0 : Int32) = 0 then
        (some (some (.inr (.inl (-4611686018427387904))), σ3))
      else
        k 65 [some (.inr (.inr (some h))), some (.inl i1), some (.inl i2), some (.inl i3), none, some (.inr (.inl 0)), none, some (.inl 0)] [] σ3)
    else
      (x_ci (O 133 [.inl (i2 - i2 / 100 * 100), .inl 1, .inl 50] σ3) fun x6 σ5 =>
      (if x6 = 0 then
        (if (0 : Int32) = 0 then
          (some (some (.inr (.inl (-4611686018427387904))), σ5))
        else
          k 65 [some (.inr (.inr (some h))), some (.inl i1), some (.inl i2), some (.inl i3), none, some (.inr (.inl 0)), none, some (.inl 0)] [] σ5)
      else
        (x_ci (O 133 [.inl i3, .inl 0, .inl 1] σ5) fun x8 σ7 =>
        (if x8 = 0 then
          (if (0 : Int32) = 0 then
            (some (some (.inr (.inl (-4611686018427387904))), σ7))
          else
            k 65 [some (.inr (.inr (some h))), some (.inl i1), some (.inl i2), some (.inl i3), none, some (.inr (.inl 0)), none, some (.inl 0)] [] σ7)
        else
          (if (1 : Int32) = 0 then
            (some (some (.inr (.inl (-4611686018427387904))), σ7))
          else
            k 65 [some (.inr (.inr (some h))), some (.inl i1), some (.inl i2), some (.inl i3), none, some (.inr (.inl 0)), none, some (.inl 0)] [] σ7))))))))) := rfl
set_option maxRecDepth 100000 in
set_option maxHeartbeats 1000000 in
/-- IModel.odds -/
theorem e200_65 (O : Nat → List xV → xS → Option xR) (k : Nat → xF) (h : Nat) (i1 : Int32) (i2 : Int32) (i3 : Int32) (j5 : Int64) (i7 : Int32) (σ : xS) : x_b O x_X0 x_TX (x_C 200) k 3000 (x_suf (x_C 200) 65) [some (.inr (.inr (some h))), some (.inl i1), some (.inl i2), some (.inl i3), none, some (.inr (.inl j5)), none, some (.inl i7)] [] σ =
  (if (i2 - i2 / 100 * 100) ≤ i7 then
    (x_cl (O 168 [.inr (.inl j5), .inr (.inl ((i2 - i2 / 100 * 100).toInt64)), .inl i3] σ) fun y2 σ1 =>
    (some (some (.inr (.inl y2)), σ1)))
  else
    (x_ck σ h 10 <|
    x_ci (O 198 [.inr (.inr (some h)), .inl (i1 + i7), .inl (i2 / 100)] σ) fun x4 σ3 =>
    (x_ck σ3 h 10 <|
    (if (x_I σ3 h 50) = (-1) then
      k 65 [some (.inr (.inr (some h))), some (.inl i1), some (.inl i2), some (.inl i3), none, some (.inr (.inl (j5 + 0))), none, some (.inl (i7 + 1))] [] σ3
    else
      k 65 [some (.inr (.inr (some h))), some (.inl i1), some (.inl i2), some (.inl i3), none, some (.inr (.inl (j5 + 1))), none, some (.inl (i7 + 1))] [] σ3)))) := rfl
set_option maxRecDepth 100000 in
set_option maxHeartbeats 1000000 in
/-- IModel.sheetWrong -/
theorem e201_0 (O : Nat → List xV → xS → Option xR) (k : Nat → xF) (h : Nat) (i1 : Int32) (σ : xS) : x_b O x_X0 x_TX (x_C 201) k 3000 (x_suf (x_C 201) 0) [some (.inr (.inr (some h))), some (.inl i1)] [] σ =
  (x_ci (O 133 [.inl i1, .inl 0, .inl 3] σ) fun x2 σ1 =>
  (if x2 = 0 then
    (some (some (.inl (-2)), σ1))
  else
    (x_ck σ1 h 10 <|
    (x_der (x_Q σ1 h 22) fun a3 => x_ak σ1 a3 11 fun n4 => x_ix i1 n4 <|
    (if (x_I σ1 a3 (i1).toNatClampNeg) = (-1) then
      (some (some (.inl (-11)), σ1))
    else
      (x_ck σ1 h 10 <|
      (x_der (x_Q σ1 h 23) fun a5 => x_ak σ1 a5 11 fun n6 => x_ix i1 n6 <|
      (if (x_I σ1 a5 (i1).toNatClampNeg) ≤ 20 then
        (some (some (.inl 0), σ1))
      else
        (some (some (.inl (-2)), σ1)))))))))) := rfl
set_option maxRecDepth 100000 in
set_option maxHeartbeats 1000000 in
/-- IModel.toldWrong -/
theorem e202_0 (O : Nat → List xV → xS → Option xR) (k : Nat → xF) (h : Nat) (i1 : Int32) (i2 : Int32) (σ : xS) : x_b O x_X0 x_TX (x_C 202) k 3000 (x_suf (x_C 202) 0) [some (.inr (.inr (some h))), some (.inl i1), some (.inl i2), none] [] σ =
  (x_ck σ h 10 <|
  x_ci (O 201 [.inr (.inr (some h)), .inl i1] σ) fun x2 σ1 =>
  (if x2 = 0 then
    (x_ck σ1 h 10 <|
    x_ci (O 135 [.inr (.inr (some h)), .inl i2] σ1) fun x4 σ3 =>
    (if x4 = 0 then
      (some (some (.inl (-5)), σ3))
    else
      (some (some (.inl 0), σ3))))
  else
    (some (some (.inl x2), σ1)))) := rfl
set_option maxRecDepth 100000 in
set_option maxHeartbeats 1000000 in
/-- IModel.partOfYear -/
theorem e203_0 (O : Nat → List xV → xS → Option xR) (k : Nat → xF) (h : Nat) (i1 : Int32) (i2 : Int32) (i3 : Int32) (i4 : Int32) (σ : xS) : x_b O x_X0 x_TX (x_C 203) k 3000 (x_suf (x_C 203) 0) [some (.inr (.inr (some h))), some (.inl i1), some (.inl i2), some (.inl i3), some (.inl i4), none] [] σ =
  (x_ck σ h 10 <|
  (x_ck σ h 10 <|
  x_ci (O 160 [.inr (.inr (some h)), .inl i1, .inl ((x_I σ h 4) + i2), .inl i3] σ) fun x2 σ1 =>
  (if i4 = 0 then
    (some (some (.inl (100 - x2)), σ1))
  else
    (x_ck σ1 h 10 <|
    (x_ck σ1 h 10 <|
    x_ci (O 161 [.inr (.inr (some h)), .inl i1, .inl ((x_I σ1 h 4) + i2), .inl i3] σ1) fun x4 σ3 =>
    (if x4 = i4 then
      (some (some (.inl x2), σ3))
    else
      (some (some (.inl 0), σ3)))))))) := rfl
set_option maxRecDepth 100000 in
set_option maxHeartbeats 1000000 in
/-- IModel.unlikely -/
theorem e204_0 (O : Nat → List xV → xS → Option xR) (k : Nat → xF) (h : Nat) (i1 : Int32) (i2 : Int32) (σ : xS) : x_b O x_X0 x_TX (x_C 204) k 3000 (x_suf (x_C 204) 0) [some (.inr (.inr (some h))), some (.inl i1), some (.inl i2), none, none, none] [] σ =
  (x_ck σ h 10 <|
  (x_der (x_Q σ h 3) fun a1 => x_ak σ a1 11 fun n2 => x_ix ((6 * i2) + 5) n2 <|
  k 15 [some (.inr (.inr (some h))), some (.inl i1), some (.inl i2), some (.inl (x_I σ a1 ((6 * i2) + 5).toNatClampNeg)), some (.inl 0), none] [] σ)) := rfl
set_option maxRecDepth 100000 in
set_option maxHeartbeats 1000000 in
/-- IModel.unlikely -/
theorem e204_15 (O : Nat → List xV → xS → Option xR) (k : Nat → xF) (h : Nat) (i1 : Int32) (i2 : Int32) (i3 : Int32) (i4 : Int32) (σ : xS) : x_b O x_X0 x_TX (x_C 204) k 3000 (x_suf (x_C 204) 15) [some (.inr (.inr (some h))), some (.inl i1), some (.inl i2), some (.inl i3), some (.inl i4), none] [] σ =
  (x_ck σ h 10 <|
  (x_der (x_Q σ h 23) fun a1 => x_ak σ a1 11 fun n2 => x_ix i1 n2 <|
  (if (x_I σ a1 (i1).toNatClampNeg) ≤ i4 then
    (some (some (.inl (-1)), σ))
  else
    (x_ck σ h 10 <|
    (x_der (x_Q σ h 24) fun a3 => x_ak σ a3 11 fun n4 => x_ix ((40 * i1) + i4) n4 <|
    (x_ck σ h 10 <|
    x_ci (O 203 [.inr (.inr (some h)), .inl i2, .inl i4, .inl i3, .inl (x_I σ a3 ((40 * i1) + i4).toNatClampNeg)] σ) fun x6 σ5 =>
    (if x6 = 0 then
      (some (some (.inl i4), σ5))
    else
      (if (x_I σ a3 ((40 * i1) + i4).toNatClampNeg) = 0 then
        k 15 [some (.inr (.inr (some h))), some (.inl i1), some (.inl i2), some (.inl (i3 + 0)), some (.inl (i4 + 1)), none] [] σ5
      else
        k 15 [some (.inr (.inr (some h))), some (.inl i1), some (.inl i2), some (.inl (i3 + 1)), some (.inl (i4 + 1)), none] [] σ5)))))))) := rfl
set_option maxRecDepth 100000 in
set_option maxHeartbeats 1000000 in
/-- IModel.judge -/
theorem e205_0 (O : Nat → List xV → xS → Option xR) (k : Nat → xF) (h : Nat) (i1 : Int32) (i2 : Int32) (σ : xS) : x_b O x_X0 x_TX (x_C 205) k 3000 (x_suf (x_C 205) 0) [some (.inr (.inr (some h))), some (.inl i1), some (.inl i2), none] [] σ =
  (x_ck σ h 10 <|
  x_ci (O 202 [.inr (.inr (some h)), .inl i1, .inl i2] σ) fun x2 σ1 =>
  (if x2 = 0 then
    (x_ck σ1 h 10 <|
    x_ci (O 204 [.inr (.inr (some h)), .inl i1, .inl i2] σ1) fun x4 σ3 =>
    (some (some (.inl x4), σ3)))
  else
    (some (some (.inl x2), σ1)))) := rfl
set_option maxRecDepth 100000 in
set_option maxHeartbeats 1000000 in
/-- IModel.partsOf -/
theorem e206_0 (O : Nat → List xV → xS → Option xR) (k : Nat → xF) (h : Nat) (i1 : Int32) (i2 : Int32) (σ : xS) : x_b O x_X0 x_TX (x_C 206) k 3000 (x_suf (x_C 206) 0) [some (.inr (.inr (some h))), some (.inl i1), some (.inl i2), none, none, none, none, none] [] σ =
  (x_ck σ h 10 <|
  (x_der (x_Q σ h 3) fun a1 => x_ak σ a1 11 fun n2 => x_ix ((6 * i2) + 5) n2 <|
  k 20 [some (.inr (.inr (some h))), some (.inl i1), some (.inl i2), some (.inl (x_I σ a1 ((6 * i2) + 5).toNatClampNeg)), some (.inr (.inl 1000000000)), none, some (.inl 0), none] [] σ)) := rfl
set_option maxRecDepth 100000 in
set_option maxHeartbeats 1000000 in
/-- IModel.partsOf -/
theorem e206_20 (O : Nat → List xV → xS → Option xR) (k : Nat → xF) (h : Nat) (i1 : Int32) (i2 : Int32) (i3 : Int32) (j4 : Int64) (i6 : Int32) (σ : xS) : x_b O x_X0 x_TX (x_C 206) k 3000 (x_suf (x_C 206) 20) [some (.inr (.inr (some h))), some (.inl i1), some (.inl i2), some (.inl i3), some (.inr (.inl j4)), none, some (.inl i6), none] [] σ =
  (x_ck σ h 10 <|
  (x_der (x_Q σ h 23) fun a1 => x_ak σ a1 11 fun n2 => x_ix i1 n2 <|
  (if (x_I σ a1 (i1).toNatClampNeg) ≤ i6 then
    (some (some (.inr (.inl j4)), σ))
  else
    (x_ck σ h 10 <|
    (x_der (x_Q σ h 24) fun a3 => x_ak σ a3 11 fun n4 => x_ix ((40 * i1) + i6) n4 <|
    (x_ck σ h 10 <|
    x_ci (O 203 [.inr (.inr (some h)), .inl i2, .inl i6, .inl i3, .inl (x_I σ a3 ((40 * i1) + i6).toNatClampNeg)] σ) fun x6 σ5 =>
    (if (x_I σ a3 ((40 * i1) + i6).toNatClampNeg) = 0 then
      k 20 [some (.inr (.inr (some h))), some (.inl i1), some (.inl i2), some (.inl (i3 + 0)), some (.inr (.inl ((j4 * x6.toInt64) / 100))), none, some (.inl (i6 + 1)), none] [] σ5
    else
      k 20 [some (.inr (.inr (some h))), some (.inl i1), some (.inl i2), some (.inl (i3 + 1)), some (.inr (.inl ((j4 * x6.toInt64) / 100))), none, some (.inl (i6 + 1)), none] [] σ5))))))) := rfl
set_option maxRecDepth 100000 in
set_option maxHeartbeats 1000000 in
/-- IModel.parts -/
theorem e207_0 (O : Nat → List xV → xS → Option xR) (k : Nat → xF) (h : Nat) (i1 : Int32) (i2 : Int32) (σ : xS) : x_b O x_X0 x_TX (x_C 207) k 3000 (x_suf (x_C 207) 0) [some (.inr (.inr (some h))), some (.inl i1), some (.inl i2)] [] σ =
  (x_ck σ h 10 <|
  x_ci (O 202 [.inr (.inr (some h)), .inl i1, .inl i2] σ) fun x2 σ1 =>
  (if x2 = 0 then
    (x_ck σ1 h 10 <|
    x_cl (O 206 [.inr (.inr (some h)), .inl i1, .inl i2] σ1) fun y4 σ3 =>
    (some (some (.inr (.inl y4)), σ3)))
  else
    (some (some (.inr (.inl (-4611686018427387904))), σ1)))) := rfl
set_option maxRecDepth 100000 in
set_option maxHeartbeats 1000000 in
/-- IModel.fits -/
theorem e208_0 (O : Nat → List xV → xS → Option xR) (k : Nat → xF) (h : Nat) (i1 : Int32) (i2 : Int32) (i3 : Int32) (σ : xS) : x_b O x_X0 x_TX (x_C 208) k 3000 (x_suf (x_C 208) 0) [some (.inr (.inr (some h))), some (.inl i1), some (.inl i2), some (.inl i3), none, none, none, none, none, none, none, none, none, none] [] σ =
  (x_ck σ h 10 <|
  x_ci (O 202 [.inr (.inr (some h)), .inl i1, .inl i2] σ) fun x2 σ1 =>
  (if x2 = 0 then
    (x_ci (O 133 [.inl i3, .inl 0, .inl 21] σ1) fun x4 σ3 =>
    (if x4 = 0 then
      (some (some (.inr (.inl (-4611686018427387904))), σ3))
    else
      (if (i3 - i3 / 10 * 10) ≤ 1 then
        (x_ck σ3 h 10 <|
        (x_der (x_Q σ3 h 1) fun a5 => x_ak σ3 a5 11 fun n6 => x_ix i2 n6 <|
        (x_ck σ3 h 10 <|
        (x_der (x_Q σ3 h 2) fun a7 => x_ak σ3 a7 11 fun n8 => x_ix i2 n8 <|
        (x_ck σ3 h 10 <|
        (x_der (x_Q σ3 h 3) fun a9 => x_ak σ3 a9 11 fun n10 => x_ix ((6 * i2) + 5) n10 <|
        k 77 [some (.inr (.inr (some h))), some (.inl i1), some (.inl i2), some (.inl i3), some (.inl (i3 / 10)), some (.inl (x_I σ3 a5 (i2).toNatClampNeg)), some (.inl (x_I σ3 a7 (i2).toNatClampNeg)), some (.inl (x_I σ3 a9 ((6 * i2) + 5).toNatClampNeg)), some (.inl (-1)), some (.inr (.inl (-1))), none, some (.inl 0), none, none] [] σ3))))))
      else
        (some (some (.inr (.inl (-4611686018427387904))), σ3)))))
  else
    (some (some (.inr (.inl (-4611686018427387904))), σ1)))) := rfl
set_option maxRecDepth 100000 in
set_option maxHeartbeats 1000000 in
/-- IModel.fits -/
theorem e208_77 (O : Nat → List xV → xS → Option xR) (k : Nat → xF) (h : Nat) (i1 : Int32) (i2 : Int32) (i3 : Int32) (i4 : Int32) (i5 : Int32) (i6 : Int32) (i7 : Int32) (i8 : Int32) (j9 : Int64) (i11 : Int32) (σ : xS) : x_b O x_X0 x_TX (x_C 208) k 3000 (x_suf (x_C 208) 77) [some (.inr (.inr (some h))), some (.inl i1), some (.inl i2), some (.inl i3), some (.inl i4), some (.inl i5), some (.inl i6), some (.inl i7), some (.inl i8), some (.inr (.inl j9)), none, some (.inl i11), none, none] [] σ =
  (if i4 = 0 then
    k 102 [some (.inr (.inr (some h))), some (.inl i1), some (.inl i2), some (.inl i3), some (.inl i4), some (.inl i5), some (.inl i6), some (.inl i7), some (.inl i8), some (.inr (.inl j9)), none, some (.inl i11), none, none] [.inl 6, .inl i11] σ
  else
    (if i4 = 1 then
      k 102 [some (.inr (.inr (some h))), some (.inl i1), some (.inl i2), some (.inl i3), some (.inl i4), some (.inl i5), some (.inl i6), some (.inl i7), some (.inl i8), some (.inr (.inl j9)), none, some (.inl i11), none, none] [.inl 10, .inl i11] σ
    else
      k 102 [some (.inr (.inr (some h))), some (.inl i1), some (.inl i2), some (.inl i3), some (.inl i4), some (.inl i5), some (.inl i6), some (.inl i7), some (.inl i8), some (.inr (.inl j9)), none, some (.inl i11), none, none] [.inl 21, .inl i11] σ)) := rfl
set_option maxRecDepth 100000 in
set_option maxHeartbeats 1000000 in
/-- IModel.fits -/
theorem e208_102 (O : Nat → List xV → xS → Option xR) (k : Nat → xF) (h : Nat) (i1 : Int32) (i2 : Int32) (i3 : Int32) (i4 : Int32) (i5 : Int32) (i6 : Int32) (i7 : Int32) (i8 : Int32) (j9 : Int64) (i11 : Int32) (s0 : Int32) (s1 : Int32) (σ : xS) : x_b O x_X0 x_TX (x_C 208) k 3000 (x_suf (x_C 208) 102) [some (.inr (.inr (some h))), some (.inl i1), some (.inl i2), some (.inl i3), some (.inl i4), some (.inl i5), some (.inl i6), some (.inl i7), some (.inl i8), some (.inr (.inl j9)), none, some (.inl i11), none, none] [.inl s0, .inl s1] σ =
  (if s0 ≤ s1 then
    (x_ck σ h 10 <|
    (x_der (x_Q σ h 1) fun a1 => x_ak σ a1 11 fun n2 => x_ix i2 n2 <|
    (x_ck (x_si σ a1 (i2).toNatClampNeg i5) h 10 <|
    (x_der (x_Q (x_si σ a1 (i2).toNatClampNeg i5) h 2) fun a3 => x_ak (x_si σ a1 (i2).toNatClampNeg i5) a3 11 fun n4 => x_ix i2 n4 <|
    (x_ck (x_si (x_si σ a1 (i2).toNatClampNeg i5) a3 (i2).toNatClampNeg i6) h 10 <|
    (x_der (x_Q (x_si (x_si σ a1 (i2).toNatClampNeg i5) a3 (i2).toNatClampNeg i6) h 3) fun a5 => x_ak (x_si (x_si σ a1 (i2).toNatClampNeg i5) a3 (i2).toNatClampNeg i6) a5 11 fun n6 => x_ix ((6 * i2) + 5) n6 <|
    (if (i3 - i3 / 10 * 10) = 0 then
      (some (some (.inr (.inl i8.toInt64)), x_si (x_si (x_si σ a1 (i2).toNatClampNeg i5) a3 (i2).toNatClampNeg i6) a5 ((6 * i2) + 5).toNatClampNeg i7))
    else
      (some (some (.inr (.inl j9)), x_si (x_si (x_si σ a1 (i2).toNatClampNeg i5) a3 (i2).toNatClampNeg i6) a5 ((6 * i2) + 5).toNatClampNeg i7)))))))))
  else
    (x_ck σ h 10 <|
    (if i4 = 0 then
      (x_der (x_Q σ h 1) fun a9 => x_ak σ a9 11 fun n10 => x_ix i2 n10 <|
      (x_ck (x_si σ a9 (i2).toNatClampNeg i11) h 10 <|
      (if i4 = 1 then
        k 141 [some (.inr (.inr (some h))), some (.inl i1), some (.inl i2), some (.inl i3), some (.inl i4), some (.inl i5), some (.inl i6), some (.inl i7), some (.inl i8), some (.inr (.inl j9)), none, some (.inl i11), none, none] [.inl i11, .inl i2, .inr (.inr (x_Q (x_si σ a9 (i2).toNatClampNeg i11) h 2))] (x_si σ a9 (i2).toNatClampNeg i11)
      else
        k 141 [some (.inr (.inr (some h))), some (.inl i1), some (.inl i2), some (.inl i3), some (.inl i4), some (.inl i5), some (.inl i6), some (.inl i7), some (.inl i8), some (.inr (.inl j9)), none, some (.inl i11), none, none] [.inl i6, .inl i2, .inr (.inr (x_Q (x_si σ a9 (i2).toNatClampNeg i11) h 2))] (x_si σ a9 (i2).toNatClampNeg i11))))
    else
      (x_der (x_Q σ h 1) fun a7 => x_ak σ a7 11 fun n8 => x_ix i2 n8 <|
      (x_ck (x_si σ a7 (i2).toNatClampNeg i5) h 10 <|
      (if i4 = 1 then
        k 141 [some (.inr (.inr (some h))), some (.inl i1), some (.inl i2), some (.inl i3), some (.inl i4), some (.inl i5), some (.inl i6), some (.inl i7), some (.inl i8), some (.inr (.inl j9)), none, some (.inl i11), none, none] [.inl i11, .inl i2, .inr (.inr (x_Q (x_si σ a7 (i2).toNatClampNeg i5) h 2))] (x_si σ a7 (i2).toNatClampNeg i5)
      else
        k 141 [some (.inr (.inr (some h))), some (.inl i1), some (.inl i2), some (.inl i3), some (.inl i4), some (.inl i5), some (.inl i6), some (.inl i7), some (.inl i8), some (.inr (.inl j9)), none, some (.inl i11), none, none] [.inl i6, .inl i2, .inr (.inr (x_Q (x_si σ a7 (i2).toNatClampNeg i5) h 2))] (x_si σ a7 (i2).toNatClampNeg i5))))))) := rfl
set_option maxRecDepth 100000 in
set_option maxHeartbeats 1000000 in
/-- IModel.fits -/
theorem e208_141 (O : Nat → List xV → xS → Option xR) (k : Nat → xF) (h : Nat) (i1 : Int32) (i2 : Int32) (i3 : Int32) (i4 : Int32) (i5 : Int32) (i6 : Int32) (i7 : Int32) (i8 : Int32) (j9 : Int64) (i11 : Int32) (s0 : Int32) (s1 : Int32) (s2 : Option Nat) (σ : xS) : x_b O x_X0 x_TX (x_C 208) k 3000 (x_suf (x_C 208) 141) [some (.inr (.inr (some h))), some (.inl i1), some (.inl i2), some (.inl i3), some (.inl i4), some (.inl i5), some (.inl i6), some (.inl i7), some (.inl i8), some (.inr (.inl j9)), none, some (.inl i11), none, none] [.inl s0, .inl s1, .inr (.inr s2)] σ =
  (x_der s2 fun a1 => x_ak σ a1 11 fun n2 => x_ix s1 n2 <|
  (x_ck (x_si σ a1 (s1).toNatClampNeg s0) h 10 <|
  (if i4 = 2 then
    k 165 [some (.inr (.inr (some h))), some (.inl i1), some (.inl i2), some (.inl i3), some (.inl i4), some (.inl i5), some (.inl i6), some (.inl i7), some (.inl i8), some (.inr (.inl j9)), none, some (.inl i11), none, none] [.inl i11, .inl ((6 * i2) + 5), .inr (.inr (x_Q (x_si σ a1 (s1).toNatClampNeg s0) h 3))] (x_si σ a1 (s1).toNatClampNeg s0)
  else
    k 165 [some (.inr (.inr (some h))), some (.inl i1), some (.inl i2), some (.inl i3), some (.inl i4), some (.inl i5), some (.inl i6), some (.inl i7), some (.inl i8), some (.inr (.inl j9)), none, some (.inl i11), none, none] [.inl i7, .inl ((6 * i2) + 5), .inr (.inr (x_Q (x_si σ a1 (s1).toNatClampNeg s0) h 3))] (x_si σ a1 (s1).toNatClampNeg s0)))) := rfl
set_option maxRecDepth 100000 in
set_option maxHeartbeats 1000000 in
/-- IModel.fits -/
theorem e208_165 (O : Nat → List xV → xS → Option xR) (k : Nat → xF) (h : Nat) (i1 : Int32) (i2 : Int32) (i3 : Int32) (i4 : Int32) (i5 : Int32) (i6 : Int32) (i7 : Int32) (i8 : Int32) (j9 : Int64) (i11 : Int32) (s0 : Int32) (s1 : Int32) (s2 : Option Nat) (σ : xS) : x_b O x_X0 x_TX (x_C 208) k 3000 (x_suf (x_C 208) 165) [some (.inr (.inr (some h))), some (.inl i1), some (.inl i2), some (.inl i3), some (.inl i4), some (.inl i5), some (.inl i6), some (.inl i7), some (.inl i8), some (.inr (.inl j9)), none, some (.inl i11), none, none] [.inl s0, .inl s1, .inr (.inr s2)] σ =
  (x_der s2 fun a1 => x_ak σ a1 11 fun n2 => x_ix s1 n2 <|
  (x_ck (x_si σ a1 (s1).toNatClampNeg s0) h 10 <|
  x_cl (O 206 [.inr (.inr (some h)), .inl i1, .inl i2] (x_si σ a1 (s1).toNatClampNeg s0)) fun y4 σ3 =>
  (if (lg_cmp y4 j9) ≤ 0 then
    k 189 [some (.inr (.inr (some h))), some (.inl i1), some (.inl i2), some (.inl i3), some (.inl i4), some (.inl i5), some (.inl i6), some (.inl i7), none, some (.inr (.inl j9)), none, some (.inl i11), some (.inr (.inl y4)), none] [.inl i8] σ3
  else
    k 189 [some (.inr (.inr (some h))), some (.inl i1), some (.inl i2), some (.inl i3), some (.inl i4), some (.inl i5), some (.inl i6), some (.inl i7), none, some (.inr (.inl j9)), none, some (.inl i11), some (.inr (.inl y4)), none] [.inl i11] σ3))) := rfl
set_option maxRecDepth 100000 in
set_option maxHeartbeats 1000000 in
/-- IModel.fits -/
theorem e208_189 (O : Nat → List xV → xS → Option xR) (k : Nat → xF) (h : Nat) (i1 : Int32) (i2 : Int32) (i3 : Int32) (i4 : Int32) (i5 : Int32) (i6 : Int32) (i7 : Int32) (j9 : Int64) (i11 : Int32) (j12 : Int64) (s0 : Int32) (σ : xS) : x_b O x_X0 x_TX (x_C 208) k 3000 (x_suf (x_C 208) 189) [some (.inr (.inr (some h))), some (.inl i1), some (.inl i2), some (.inl i3), some (.inl i4), some (.inl i5), some (.inl i6), some (.inl i7), none, some (.inr (.inl j9)), none, some (.inl i11), some (.inr (.inl j12)), none] [.inl s0] σ =
  (if (lg_cmp j12 j9) ≤ 0 then
    k 77 [some (.inr (.inr (some h))), some (.inl i1), some (.inl i2), some (.inl i3), some (.inl i4), some (.inl i5), some (.inl i6), some (.inl i7), some (.inl s0), some (.inr (.inl j9)), none, some (.inl (i11 + 1)), none, none] [] σ
  else
    k 77 [some (.inr (.inr (some h))), some (.inl i1), some (.inl i2), some (.inl i3), some (.inl i4), some (.inl i5), some (.inl i6), some (.inl i7), some (.inl s0), some (.inr (.inl j12)), none, some (.inl (i11 + 1)), none, none] [] σ) := rfl
set_option maxRecDepth 100000 in
set_option maxHeartbeats 1000000 in
/-- IModel.whose -/
theorem e209_0 (O : Nat → List xV → xS → Option xR) (k : Nat → xF) (h : Nat) (i1 : Int32) (i2 : Int32) (σ : xS) : x_b O x_X0 x_TX (x_C 209) k 3000 (x_suf (x_C 209) 0) [some (.inr (.inr (some h))), some (.inl i1), some (.inl i2), none, none, none, none, none, none] [] σ =
  (x_ck σ h 10 <|
  x_ci (O 201 [.inr (.inr (some h)), .inl i1] σ) fun x2 σ1 =>
  (if x2 = 0 then
    (x_ci (O 133 [.inl i2, .inl 0, .inl 1] σ1) fun x4 σ3 =>
    (if x4 = 0 then
      (some (some (.inr (.inl (-4611686018427387904))), σ3))
    else
      k 31 [some (.inr (.inr (some h))), some (.inl i1), some (.inl i2), some (.inl (-1)), some (.inr (.inl (-1))), none, some (.inl 0), none, none] [] σ3))
  else
    (some (some (.inr (.inl (-4611686018427387904))), σ1)))) := rfl
set_option maxRecDepth 100000 in
set_option maxHeartbeats 1000000 in
/-- IModel.whose -/
theorem e209_31 (O : Nat → List xV → xS → Option xR) (k : Nat → xF) (h : Nat) (i1 : Int32) (i2 : Int32) (i3 : Int32) (j4 : Int64) (i6 : Int32) (σ : xS) : x_b O x_X0 x_TX (x_C 209) k 3000 (x_suf (x_C 209) 31) [some (.inr (.inr (some h))), some (.inl i1), some (.inl i2), some (.inl i3), some (.inr (.inl j4)), none, some (.inl i6), none, none] [] σ =
  (x_ck σ h 10 <|
  (if (x_I σ h 0) ≤ i6 then
    (if i2 = 0 then
      (some (some (.inr (.inl i3.toInt64)), σ))
    else
      (some (some (.inr (.inl j4)), σ)))
  else
    (x_ck σ h 10 <|
    x_cl (O 206 [.inr (.inr (some h)), .inl i1, .inl i6] σ) fun y2 σ1 =>
    (if (lg_cmp y2 j4) ≤ 0 then
      k 63 [some (.inr (.inr (some h))), some (.inl i1), some (.inl i2), none, some (.inr (.inl j4)), none, some (.inl i6), some (.inr (.inl y2)), none] [.inl i3] σ1
    else
      k 63 [some (.inr (.inr (some h))), some (.inl i1), some (.inl i2), none, some (.inr (.inl j4)), none, some (.inl i6), some (.inr (.inl y2)), none] [.inl i6] σ1)))) := rfl
set_option maxRecDepth 100000 in
set_option maxHeartbeats 1000000 in
/-- IModel.whose -/
theorem e209_63 (O : Nat → List xV → xS → Option xR) (k : Nat → xF) (h : Nat) (i1 : Int32) (i2 : Int32) (j4 : Int64) (i6 : Int32) (j7 : Int64) (s0 : Int32) (σ : xS) : x_b O x_X0 x_TX (x_C 209) k 3000 (x_suf (x_C 209) 63) [some (.inr (.inr (some h))), some (.inl i1), some (.inl i2), none, some (.inr (.inl j4)), none, some (.inl i6), some (.inr (.inl j7)), none] [.inl s0] σ =
  (if (lg_cmp j7 j4) ≤ 0 then
    k 31 [some (.inr (.inr (some h))), some (.inl i1), some (.inl i2), some (.inl s0), some (.inr (.inl j4)), none, some (.inl (i6 + 1)), none, none] [] σ
  else
    k 31 [some (.inr (.inr (some h))), some (.inl i1), some (.inl i2), some (.inl s0), some (.inr (.inl j7)), none, some (.inl (i6 + 1)), none, none] [] σ) := rfl
set_option maxRecDepth 100000 in
set_option maxHeartbeats 1000000 in
/-- IModel.rule -/
theorem e210_0 (O : Nat → List xV → xS → Option xR) (k : Nat → xF) (h : Nat) (i1 : Int32) (i2 : Int32) (i3 : Int32) (σ : xS) : x_b O x_X0 x_TX (x_C 210) k 3000 (x_suf (x_C 210) 0) [some (.inr (.inr (some h))), some (.inl i1), some (.inl i2), some (.inl i3), none, none, none, none, none, none, none] [] σ =
  (x_ck σ h 10 <|
  x_ci (O 202 [.inr (.inr (some h)), .inl i1, .inl i2] σ) fun x2 σ1 =>
  (if x2 = 0 then
    (x_ci (O 133 [.inl i3, .inl 0, .inl 1] σ1) fun x4 σ3 =>
    (if x4 = 0 then
      (some (some (.inr (.inl (-4611686018427387904))), σ3))
    else
      (x_ck σ3 h 10 <|
      k 39 [some (.inr (.inr (some h))), some (.inl i1), some (.inl i2), some (.inl i3), some (.inl (x_I σ3 h 13)), some (.inl (-1)), some (.inr (.inl (-1))), none, some (.inl 0), none, none] [] σ3)))
  else
    (some (some (.inr (.inl (-4611686018427387904))), σ1)))) := rfl
set_option maxRecDepth 100000 in
set_option maxHeartbeats 1000000 in
/-- IModel.rule -/
theorem e210_39 (O : Nat → List xV → xS → Option xR) (k : Nat → xF) (h : Nat) (i1 : Int32) (i2 : Int32) (i3 : Int32) (i4 : Int32) (i5 : Int32) (j6 : Int64) (i8 : Int32) (σ : xS) : x_b O x_X0 x_TX (x_C 210) k 3000 (x_suf (x_C 210) 39) [some (.inr (.inr (some h))), some (.inl i1), some (.inl i2), some (.inl i3), some (.inl i4), some (.inl i5), some (.inr (.inl j6)), none, some (.inl i8), none, none] [] σ =
  (x_ck σ h 10 <|
  (if (x_I σ h 12) ≤ i8 then
    (x_ck σ h 10 <|
    (if i3 = 0 then
      (some (some (.inr (.inl i5.toInt64)), x_si σ h 13 i4))
    else
      (some (some (.inr (.inl j6)), x_si σ h 13 i4))))
  else
    (x_ck σ h 10 <|
    (x_ck (x_si σ h 13 i8) h 10 <|
    x_cl (O 206 [.inr (.inr (some h)), .inl i1, .inl i2] (x_si σ h 13 i8)) fun y2 σ1 =>
    (if (lg_cmp y2 j6) ≤ 0 then
      k 77 [some (.inr (.inr (some h))), some (.inl i1), some (.inl i2), some (.inl i3), some (.inl i4), none, some (.inr (.inl j6)), none, some (.inl i8), some (.inr (.inl y2)), none] [.inl i5] σ1
    else
      k 77 [some (.inr (.inr (some h))), some (.inl i1), some (.inl i2), some (.inl i3), some (.inl i4), none, some (.inr (.inl j6)), none, some (.inl i8), some (.inr (.inl y2)), none] [.inl i8] σ1))))) := rfl
set_option maxRecDepth 100000 in
set_option maxHeartbeats 1000000 in
/-- IModel.rule -/
theorem e210_77 (O : Nat → List xV → xS → Option xR) (k : Nat → xF) (h : Nat) (i1 : Int32) (i2 : Int32) (i3 : Int32) (i4 : Int32) (j6 : Int64) (i8 : Int32) (j9 : Int64) (s0 : Int32) (σ : xS) : x_b O x_X0 x_TX (x_C 210) k 3000 (x_suf (x_C 210) 77) [some (.inr (.inr (some h))), some (.inl i1), some (.inl i2), some (.inl i3), some (.inl i4), none, some (.inr (.inl j6)), none, some (.inl i8), some (.inr (.inl j9)), none] [.inl s0] σ =
  (if (lg_cmp j9 j6) ≤ 0 then
    k 39 [some (.inr (.inr (some h))), some (.inl i1), some (.inl i2), some (.inl i3), some (.inl i4), some (.inl s0), some (.inr (.inl j6)), none, some (.inl (i8 + 1)), none, none] [] σ
  else
    k 39 [some (.inr (.inr (some h))), some (.inl i1), some (.inl i2), some (.inl i3), some (.inl i4), some (.inl s0), some (.inr (.inl j9)), none, some (.inl (i8 + 1)), none, none] [] σ) := rfl
set_option maxRecDepth 100000 in
set_option maxHeartbeats 1000000 in
/-- IModel.lawOf -/
theorem e211_0 (O : Nat → List xV → xS → Option xR) (k : Nat → xF) (h : Nat) (i1 : Int32) (i2 : Int32) (σ : xS) : x_b O x_X0 x_TX (x_C 211) k 3000 (x_suf (x_C 211) 0) [some (.inr (.inr (some h))), some (.inl i1), some (.inl i2), none, none, none, none, none] [] σ =
  (x_ck σ h 10 <|
  k 16 [some (.inr (.inr (some h))), some (.inl i1), some (.inl i2), some (.inl (x_I σ h 13)), some (.inl (-1)), some (.inr (.inl (-1))), none, some (.inl 0)] [] σ) := rfl
set_option maxRecDepth 100000 in
set_option maxHeartbeats 1000000 in
/-- IModel.lawOf -/
theorem e211_16 (O : Nat → List xV → xS → Option xR) (k : Nat → xF) (h : Nat) (i1 : Int32) (i2 : Int32) (i3 : Int32) (i4 : Int32) (j5 : Int64) (i7 : Int32) (σ : xS) : x_b O x_X0 x_TX (x_C 211) k 3000 (x_suf (x_C 211) 16) [some (.inr (.inr (some h))), some (.inl i1), some (.inl i2), some (.inl i3), some (.inl i4), some (.inr (.inl j5)), none, some (.inl i7)] [] σ =
  (x_ck σ h 10 <|
  (if (x_I σ h 12) ≤ i7 then
    (x_ck σ h 10 <|
    (some (some (.inl i4), x_si σ h 13 i3)))
  else
    (x_ck σ h 10 <|
    (x_ck (x_si σ h 13 i7) h 10 <|
    x_cv (O 167 [.inr (.inr (some h)), .inl i1, .inl i2] (x_si σ h 13 i7)) fun σ1 =>
    (x_ck σ1 h 10 <|
    (if (lg_cmp (x_J σ1 h 39) j5) ≤ 0 then
      k 54 [some (.inr (.inr (some h))), some (.inl i1), some (.inl i2), some (.inl i3), none, some (.inr (.inl j5)), none, some (.inl i7)] [.inl i4] σ1
    else
      k 54 [some (.inr (.inr (some h))), some (.inl i1), some (.inl i2), some (.inl i3), none, some (.inr (.inl j5)), none, some (.inl i7)] [.inl i7] σ1)))))) := rfl
set_option maxRecDepth 100000 in
set_option maxHeartbeats 1000000 in
/-- IModel.lawOf -/
theorem e211_54 (O : Nat → List xV → xS → Option xR) (k : Nat → xF) (h : Nat) (i1 : Int32) (i2 : Int32) (i3 : Int32) (j5 : Int64) (i7 : Int32) (s0 : Int32) (σ : xS) : x_b O x_X0 x_TX (x_C 211) k 3000 (x_suf (x_C 211) 54) [some (.inr (.inr (some h))), some (.inl i1), some (.inl i2), some (.inl i3), none, some (.inr (.inl j5)), none, some (.inl i7)] [.inl s0] σ =
  (x_ck σ h 10 <|
  (if (lg_cmp (x_J σ h 39) j5) ≤ 0 then
    k 16 [some (.inr (.inr (some h))), some (.inl i1), some (.inl i2), some (.inl i3), some (.inl s0), some (.inr (.inl j5)), none, some (.inl (i7 + 1))] [] σ
  else
    (x_ck σ h 10 <|
    k 16 [some (.inr (.inr (some h))), some (.inl i1), some (.inl i2), some (.inl i3), some (.inl s0), some (.inr (.inl (x_J σ h 39))), none, some (.inl (i7 + 1))] [] σ))) := rfl
set_option maxRecDepth 100000 in
set_option maxHeartbeats 1000000 in
/-- IModel.law -/
theorem e212_0 (O : Nat → List xV → xS → Option xR) (k : Nat → xF) (h : Nat) (i1 : Int32) (i2 : Int32) (σ : xS) : x_b O x_X0 x_TX (x_C 212) k 3000 (x_suf (x_C 212) 0) [some (.inr (.inr (some h))), some (.inl i1), some (.inl i2)] [] σ =
  (x_ck σ h 10 <|
  x_ci (O 135 [.inr (.inr (some h)), .inl i1] σ) fun x2 σ1 =>
  (if x2 = 0 then
    (some (some (.inl (-5)), σ1))
  else
    (x_ci (O 133 [.inl i2, .inl 1, .inl 6] σ1) fun x4 σ3 =>
    (if x4 = 0 then
      (some (some (.inl (-7)), σ3))
    else
      (x_ck σ3 h 10 <|
      x_ci (O 211 [.inr (.inr (some h)), .inl i1, .inl i2] σ3) fun x6 σ5 =>
      (some (some (.inl x6), σ5))))))) := rfl
set_option maxRecDepth 100000 in
set_option maxHeartbeats 1000000 in
/-- IModel.film -/
theorem e213_0 (O : Nat → List xV → xS → Option xR) (k : Nat → xF) (h : Nat) (i1 : Int32) (i2 : Int32) (i3 : Int32) (i4 : Int32) (σ : xS) : x_b O x_X0 x_TX (x_C 213) k 3000 (x_suf (x_C 213) 0) [some (.inr (.inr (some h))), some (.inl i1), some (.inl i2), some (.inl i3), some (.inl i4), none, none, none] [] σ =
  (x_ci (O 133 [.inl i1, .inl 0, .inl 3] σ) fun x2 σ1 =>
  (if x2 = 0 then
    (some (some (.inl (-2)), σ1))
  else
    (x_ck σ1 h 10 <|
    x_ci (O 135 [.inr (.inr (some h)), .inl i2] σ1) fun x4 σ3 =>
    (if x4 = 0 then
      (some (some (.inl (-5)), σ3))
    else
      (x_ci (O 133 [.inl i4, .inl 0, .inl 20] σ3) fun x6 σ5 =>
      (if x6 = 0 then
        (some (some (.inl (-7)), σ5))
      else
        (x_ci (O 133 [.inl i3, .inl 0, .inl ((1 <<< (i4 &&& 31)) - 1)] σ5) fun x8 σ7 =>
        (if x8 = 0 then
          (some (some (.inl (-7)), σ7))
        else
          (x_ck σ7 h 10 <|
          (x_der (x_Q σ7 h 3) fun a9 => x_ak σ7 a9 11 fun n10 => x_ix ((6 * i2) + 5) n10 <|
          (x_ck σ7 h 10 <|
          (x_der (x_Q σ7 h 22) fun a11 => x_ak σ7 a11 11 fun n12 => x_ix i1 n12 <|
          (x_ck (x_si σ7 a11 (i1).toNatClampNeg 2) h 10 <|
          (x_der (x_Q (x_si σ7 a11 (i1).toNatClampNeg 2) h 23) fun a13 => x_ak (x_si σ7 a11 (i1).toNatClampNeg 2) a13 11 fun n14 => x_ix i1 n14 <|
          k 82 [some (.inr (.inr (some h))), some (.inl i1), some (.inl i2), some (.inl i3), some (.inl i4), some (.inl (x_I σ7 a9 ((6 * i2) + 5).toNatClampNeg)), some (.inl 0), none] [] (x_si (x_si σ7 a11 (i1).toNatClampNeg 2) a13 (i1).toNatClampNeg i4))))))))))))))) := rfl
set_option maxRecDepth 100000 in
set_option maxHeartbeats 1000000 in
/-- IModel.film -/
theorem e213_82 (O : Nat → List xV → xS → Option xR) (k : Nat → xF) (h : Nat) (i1 : Int32) (i2 : Int32) (i3 : Int32) (i4 : Int32) (i5 : Int32) (i6 : Int32) (σ : xS) : x_b O x_X0 x_TX (x_C 213) k 3000 (x_suf (x_C 213) 82) [some (.inr (.inr (some h))), some (.inl i1), some (.inl i2), some (.inl i3), some (.inl i4), some (.inl i5), some (.inl i6), none] [] σ =
  (if 40 ≤ i6 then
    (some (some (.inl i4), σ))
  else
    (if i4 ≤ i6 then
      k 117 [some (.inr (.inr (some h))), some (.inl i1), some (.inl i2), some (.inl i3), some (.inl i4), some (.inl i5), some (.inl i6), none] [.inl 0] σ
    else
      (x_ci (O 134 [.inl i6, .inl 0, .inl 20] σ) fun x2 σ1 =>
      (if ((i3 >>> (x2 &&& 31)) &&& 1) = 1 then
        k 117 [some (.inr (.inr (some h))), some (.inl i1), some (.inl i2), some (.inl i3), some (.inl i4), some (.inl i5), some (.inl i6), none] [.inl 1] σ1
      else
        k 117 [some (.inr (.inr (some h))), some (.inl i1), some (.inl i2), some (.inl i3), some (.inl i4), some (.inl i5), some (.inl i6), none] [.inl 0] σ1)))) := rfl
set_option maxRecDepth 100000 in
set_option maxHeartbeats 1000000 in
/-- IModel.film -/
theorem e213_117 (O : Nat → List xV → xS → Option xR) (k : Nat → xF) (h : Nat) (i1 : Int32) (i2 : Int32) (i3 : Int32) (i4 : Int32) (i5 : Int32) (i6 : Int32) (s0 : Int32) (σ : xS) : x_b O x_X0 x_TX (x_C 213) k 3000 (x_suf (x_C 213) 117) [some (.inr (.inr (some h))), some (.inl i1), some (.inl i2), some (.inl i3), some (.inl i4), some (.inl i5), some (.inl i6), none] [.inl s0] σ =
  (x_ck σ h 10 <|
  (if s0 = 0 then
    k 153 [some (.inr (.inr (some h))), some (.inl i1), some (.inl i2), some (.inl i3), some (.inl i4), some (.inl i5), some (.inl i6), some (.inl s0)] [.inl 0, .inl ((40 * i1) + i6), .inr (.inr (x_Q σ h 24))] σ
  else
    (x_ck σ h 10 <|
    (x_ck σ h 10 <|
    x_ci (O 161 [.inr (.inr (some h)), .inl i2, .inl ((x_I σ h 4) + i6), .inl i5] σ) fun x2 σ1 =>
    k 153 [some (.inr (.inr (some h))), some (.inl i1), some (.inl i2), some (.inl i3), some (.inl i4), some (.inl i5), some (.inl i6), some (.inl s0)] [.inl x2, .inl ((40 * i1) + i6), .inr (.inr (x_Q σ h 24))] σ1)))) := rfl
set_option maxRecDepth 100000 in
set_option maxHeartbeats 1000000 in
/-- IModel.film -/
theorem e213_153 (O : Nat → List xV → xS → Option xR) (k : Nat → xF) (h : Nat) (i1 : Int32) (i2 : Int32) (i3 : Int32) (i4 : Int32) (i5 : Int32) (i6 : Int32) (i7 : Int32) (s0 : Int32) (s1 : Int32) (s2 : Option Nat) (σ : xS) : x_b O x_X0 x_TX (x_C 213) k 3000 (x_suf (x_C 213) 153) [some (.inr (.inr (some h))), some (.inl i1), some (.inl i2), some (.inl i3), some (.inl i4), some (.inl i5), some (.inl i6), some (.inl i7)] [.inl s0, .inl s1, .inr (.inr s2)] σ =
  (x_der s2 fun a1 => x_ak σ a1 11 fun n2 => x_ix s1 n2 <|
  (if i7 = 0 then
    k 82 [some (.inr (.inr (some h))), some (.inl i1), some (.inl i2), some (.inl i3), some (.inl i4), some (.inl (i5 + 0)), some (.inl (i6 + 1)), none] [] (x_si σ a1 (s1).toNatClampNeg s0)
  else
    k 82 [some (.inr (.inr (some h))), some (.inl i1), some (.inl i2), some (.inl i3), some (.inl i4), some (.inl (i5 + 1)), some (.inl (i6 + 1)), none] [] (x_si σ a1 (s1).toNatClampNeg s0))) := rfl
set_option maxRecDepth 100000 in
set_option maxHeartbeats 1000000 in
/-- IModel.image -/
theorem e214_0 (O : Nat → List xV → xS → Option xR) (k : Nat → xF) (h : Nat) (σ : xS) : x_b O x_X0 x_TX (x_C 214) k 3000 (x_suf (x_C 214) 0) [some (.inr (.inr (some h))), none] [] σ =
  (x_ck σ h 10 <|
  (x_ck (x_si σ h 14 1) h 10 <|
  (x_ck (x_si σ h 14 1) h 10 <|
  (x_ck (x_si (x_si σ h 14 1) h 15 (x_I (x_si σ h 14 1) h 0)) h 10 <|
  (x_ck (x_si (x_si σ h 14 1) h 15 (x_I (x_si σ h 14 1) h 0)) h 10 <|
  (x_ck (x_si (x_si (x_si σ h 14 1) h 15 (x_I (x_si σ h 14 1) h 0)) h 16 (x_I (x_si (x_si σ h 14 1) h 15 (x_I (x_si σ h 14 1) h 0)) h 4)) h 10 <|
  (x_ck (x_si (x_si (x_si σ h 14 1) h 15 (x_I (x_si σ h 14 1) h 0)) h 16 (x_I (x_si (x_si σ h 14 1) h 15 (x_I (x_si σ h 14 1) h 0)) h 4)) h 10 <|
  (x_ck (x_si (x_si (x_si (x_si σ h 14 1) h 15 (x_I (x_si σ h 14 1) h 0)) h 16 (x_I (x_si (x_si σ h 14 1) h 15 (x_I (x_si σ h 14 1) h 0)) h 4)) h 17 (x_I (x_si (x_si (x_si σ h 14 1) h 15 (x_I (x_si σ h 14 1) h 0)) h 16 (x_I (x_si (x_si σ h 14 1) h 15 (x_I (x_si σ h 14 1) h 0)) h 4)) h 5)) h 10 <|
  (x_ck (x_si (x_si (x_si (x_si σ h 14 1) h 15 (x_I (x_si σ h 14 1) h 0)) h 16 (x_I (x_si (x_si σ h 14 1) h 15 (x_I (x_si σ h 14 1) h 0)) h 4)) h 17 (x_I (x_si (x_si (x_si σ h 14 1) h 15 (x_I (x_si σ h 14 1) h 0)) h 16 (x_I (x_si (x_si σ h 14 1) h 15 (x_I (x_si σ h 14 1) h 0)) h 4)) h 5)) h 10 <|
  (x_ck (x_si (x_si (x_si (x_si (x_si σ h 14 1) h 15 (x_I (x_si σ h 14 1) h 0)) h 16 (x_I (x_si (x_si σ h 14 1) h 15 (x_I (x_si σ h 14 1) h 0)) h 4)) h 17 (x_I (x_si (x_si (x_si σ h 14 1) h 15 (x_I (x_si σ h 14 1) h 0)) h 16 (x_I (x_si (x_si σ h 14 1) h 15 (x_I (x_si σ h 14 1) h 0)) h 4)) h 5)) h 18 (x_I (x_si (x_si (x_si (x_si σ h 14 1) h 15 (x_I (x_si σ h 14 1) h 0)) h 16 (x_I (x_si (x_si σ h 14 1) h 15 (x_I (x_si σ h 14 1) h 0)) h 4)) h 17 (x_I (x_si (x_si (x_si σ h 14 1) h 15 (x_I (x_si σ h 14 1) h 0)) h 16 (x_I (x_si (x_si σ h 14 1) h 15 (x_I (x_si σ h 14 1) h 0)) h 4)) h 5)) h 6)) h 10 <|
  (x_ck (x_si (x_si (x_si (x_si (x_si σ h 14 1) h 15 (x_I (x_si σ h 14 1) h 0)) h 16 (x_I (x_si (x_si σ h 14 1) h 15 (x_I (x_si σ h 14 1) h 0)) h 4)) h 17 (x_I (x_si (x_si (x_si σ h 14 1) h 15 (x_I (x_si σ h 14 1) h 0)) h 16 (x_I (x_si (x_si σ h 14 1) h 15 (x_I (x_si σ h 14 1) h 0)) h 4)) h 5)) h 18 (x_I (x_si (x_si (x_si (x_si σ h 14 1) h 15 (x_I (x_si σ h 14 1) h 0)) h 16 (x_I (x_si (x_si σ h 14 1) h 15 (x_I (x_si σ h 14 1) h 0)) h 4)) h 17 (x_I (x_si (x_si (x_si σ h 14 1) h 15 (x_I (x_si σ h 14 1) h 0)) h 16 (x_I (x_si (x_si σ h 14 1) h 15 (x_I (x_si σ h 14 1) h 0)) h 4)) h 5)) h 6)) h 10 <|
  (x_ck (x_si (x_si (x_si (x_si (x_si (x_si σ h 14 1) h 15 (x_I (x_si σ h 14 1) h 0)) h 16 (x_I (x_si (x_si σ h 14 1) h 15 (x_I (x_si σ h 14 1) h 0)) h 4)) h 17 (x_I (x_si (x_si (x_si σ h 14 1) h 15 (x_I (x_si σ h 14 1) h 0)) h 16 (x_I (x_si (x_si σ h 14 1) h 15 (x_I (x_si σ h 14 1) h 0)) h 4)) h 5)) h 18 (x_I (x_si (x_si (x_si (x_si σ h 14 1) h 15 (x_I (x_si σ h 14 1) h 0)) h 16 (x_I (x_si (x_si σ h 14 1) h 15 (x_I (x_si σ h 14 1) h 0)) h 4)) h 17 (x_I (x_si (x_si (x_si σ h 14 1) h 15 (x_I (x_si σ h 14 1) h 0)) h 16 (x_I (x_si (x_si σ h 14 1) h 15 (x_I (x_si σ h 14 1) h 0)) h 4)) h 5)) h 6)) h 19 (x_I (x_si (x_si (x_si (x_si (x_si σ h 14 1) h 15 (x_I (x_si σ h 14 1) h 0)) h 16 (x_I (x_si (x_si σ h 14 1) h 15 (x_I (x_si σ h 14 1) h 0)) h 4)) h 17 (x_I (x_si (x_si (x_si σ h 14 1) h 15 (x_I (x_si σ h 14 1) h 0)) h 16 (x_I (x_si (x_si σ h 14 1) h 15 (x_I (x_si σ h 14 1) h 0)) h 4)) h 5)) h 18 (x_I (x_si (x_si (x_si (x_si σ h 14 1) h 15 (x_I (x_si σ h 14 1) h 0)) h 16 (x_I (x_si (x_si σ h 14 1) h 15 (x_I (x_si σ h 14 1) h 0)) h 4)) h 17 (x_I (x_si (x_si (x_si σ h 14 1) h 15 (x_I (x_si σ h 14 1) h 0)) h 16 (x_I (x_si (x_si σ h 14 1) h 15 (x_I (x_si σ h 14 1) h 0)) h 4)) h 5)) h 6)) h 7)) h 10 <|
  (x_ck (x_si (x_si (x_si (x_si (x_si (x_si σ h 14 1) h 15 (x_I (x_si σ h 14 1) h 0)) h 16 (x_I (x_si (x_si σ h 14 1) h 15 (x_I (x_si σ h 14 1) h 0)) h 4)) h 17 (x_I (x_si (x_si (x_si σ h 14 1) h 15 (x_I (x_si σ h 14 1) h 0)) h 16 (x_I (x_si (x_si σ h 14 1) h 15 (x_I (x_si σ h 14 1) h 0)) h 4)) h 5)) h 18 (x_I (x_si (x_si (x_si (x_si σ h 14 1) h 15 (x_I (x_si σ h 14 1) h 0)) h 16 (x_I (x_si (x_si σ h 14 1) h 15 (x_I (x_si σ h 14 1) h 0)) h 4)) h 17 (x_I (x_si (x_si (x_si σ h 14 1) h 15 (x_I (x_si σ h 14 1) h 0)) h 16 (x_I (x_si (x_si σ h 14 1) h 15 (x_I (x_si σ h 14 1) h 0)) h 4)) h 5)) h 6)) h 19 (x_I (x_si (x_si (x_si (x_si (x_si σ h 14 1) h 15 (x_I (x_si σ h 14 1) h 0)) h 16 (x_I (x_si (x_si σ h 14 1) h 15 (x_I (x_si σ h 14 1) h 0)) h 4)) h 17 (x_I (x_si (x_si (x_si σ h 14 1) h 15 (x_I (x_si σ h 14 1) h 0)) h 16 (x_I (x_si (x_si σ h 14 1) h 15 (x_I (x_si σ h 14 1) h 0)) h 4)) h 5)) h 18 (x_I (x_si (x_si (x_si (x_si σ h 14 1) h 15 (x_I (x_si σ h 14 1) h 0)) h 16 (x_I (x_si (x_si σ h 14 1) h 15 (x_I (x_si σ h 14 1) h 0)) h 4)) h 17 (x_I (x_si (x_si (x_si σ h 14 1) h 15 (x_I (x_si σ h 14 1) h 0)) h 16 (x_I (x_si (x_si σ h 14 1) h 15 (x_I (x_si σ h 14 1) h 0)) h 4)) h 5)) h 6)) h 7)) h 10 <|
  k 55 [some (.inr (.inr (some h))), some (.inl 0)] [] (x_si (x_si (x_si (x_si (x_si (x_si (x_si σ h 14 1) h 15 (x_I (x_si σ h 14 1) h 0)) h 16 (x_I (x_si (x_si σ h 14 1) h 15 (x_I (x_si σ h 14 1) h 0)) h 4)) h 17 (x_I (x_si (x_si (x_si σ h 14 1) h 15 (x_I (x_si σ h 14 1) h 0)) h 16 (x_I (x_si (x_si σ h 14 1) h 15 (x_I (x_si σ h 14 1) h 0)) h 4)) h 5)) h 18 (x_I (x_si (x_si (x_si (x_si σ h 14 1) h 15 (x_I (x_si σ h 14 1) h 0)) h 16 (x_I (x_si (x_si σ h 14 1) h 15 (x_I (x_si σ h 14 1) h 0)) h 4)) h 17 (x_I (x_si (x_si (x_si σ h 14 1) h 15 (x_I (x_si σ h 14 1) h 0)) h 16 (x_I (x_si (x_si σ h 14 1) h 15 (x_I (x_si σ h 14 1) h 0)) h 4)) h 5)) h 6)) h 19 (x_I (x_si (x_si (x_si (x_si (x_si σ h 14 1) h 15 (x_I (x_si σ h 14 1) h 0)) h 16 (x_I (x_si (x_si σ h 14 1) h 15 (x_I (x_si σ h 14 1) h 0)) h 4)) h 17 (x_I (x_si (x_si (x_si σ h 14 1) h 15 (x_I (x_si σ h 14 1) h 0)) h 16 (x_I (x_si (x_si σ h 14 1) h 15 (x_I (x_si σ h 14 1) h 0)) h 4)) h 5)) h 18 (x_I (x_si (x_si (x_si (x_si σ h 14 1) h 15 (x_I (x_si σ h 14 1) h 0)) h 16 (x_I (x_si (x_si σ h 14 1) h 15 (x_I (x_si σ h 14 1) h 0)) h 4)) h 17 (x_I (x_si (x_si (x_si σ h 14 1) h 15 (x_I (x_si σ h 14 1) h 0)) h 16 (x_I (x_si (x_si σ h 14 1) h 15 (x_I (x_si σ h 14 1) h 0)) h 4)) h 5)) h 6)) h 7)) h 20 (x_I (x_si (x_si (x_si (x_si (x_si (x_si σ h 14 1) h 15 (x_I (x_si σ h 14 1) h 0)) h 16 (x_I (x_si (x_si σ h 14 1) h 15 (x_I (x_si σ h 14 1) h 0)) h 4)) h 17 (x_I (x_si (x_si (x_si σ h 14 1) h 15 (x_I (x_si σ h 14 1) h 0)) h 16 (x_I (x_si (x_si σ h 14 1) h 15 (x_I (x_si σ h 14 1) h 0)) h 4)) h 5)) h 18 (x_I (x_si (x_si (x_si (x_si σ h 14 1) h 15 (x_I (x_si σ h 14 1) h 0)) h 16 (x_I (x_si (x_si σ h 14 1) h 15 (x_I (x_si σ h 14 1) h 0)) h 4)) h 17 (x_I (x_si (x_si (x_si σ h 14 1) h 15 (x_I (x_si σ h 14 1) h 0)) h 16 (x_I (x_si (x_si σ h 14 1) h 15 (x_I (x_si σ h 14 1) h 0)) h 4)) h 5)) h 6)) h 19 (x_I (x_si (x_si (x_si (x_si (x_si σ h 14 1) h 15 (x_I (x_si σ h 14 1) h 0)) h 16 (x_I (x_si (x_si σ h 14 1) h 15 (x_I (x_si σ h 14 1) h 0)) h 4)) h 17 (x_I (x_si (x_si (x_si σ h 14 1) h 15 (x_I (x_si σ h 14 1) h 0)) h 16 (x_I (x_si (x_si σ h 14 1) h 15 (x_I (x_si σ h 14 1) h 0)) h 4)) h 5)) h 18 (x_I (x_si (x_si (x_si (x_si σ h 14 1) h 15 (x_I (x_si σ h 14 1) h 0)) h 16 (x_I (x_si (x_si σ h 14 1) h 15 (x_I (x_si σ h 14 1) h 0)) h 4)) h 17 (x_I (x_si (x_si (x_si σ h 14 1) h 15 (x_I (x_si σ h 14 1) h 0)) h 16 (x_I (x_si (x_si σ h 14 1) h 15 (x_I (x_si σ h 14 1) h 0)) h 4)) h 5)) h 6)) h 7)) h 13))))))))))))))) := rfl
set_option maxRecDepth 100000 in
set_option maxHeartbeats 1000000 in
/-- IModel.image -/
theorem e214_55 (O : Nat → List xV → xS → Option xR) (k : Nat → xF) (h : Nat) (i1 : Int32) (σ : xS) : x_b O x_X0 x_TX (x_C 214) k 3000 (x_suf (x_C 214) 55) [some (.inr (.inr (some h))), some (.inl i1)] [] σ =
  (if 30 ≤ i1 then
    (x_ck σ h 10 <|
    (some (some (.inl (x_I σ h 0)), σ)))
  else
    (x_ck σ h 10 <|
    (x_ck σ h 10 <|
    (x_der (x_Q σ h 3) fun a1 => x_ak σ a1 11 fun n2 => x_ix i1 n2 <|
    (x_der (x_Q σ h 21) fun a3 => x_ak σ a3 11 fun n4 => x_ix i1 n4 <|
    k 55 [some (.inr (.inr (some h))), some (.inl (i1 + 1))] [] (x_si σ a3 (i1).toNatClampNeg (x_I σ a1 (i1).toNatClampNeg))))))) := rfl
set_option maxRecDepth 100000 in
set_option maxHeartbeats 1000000 in
/-- IModel.back -/
theorem e215_0 (O : Nat → List xV → xS → Option xR) (k : Nat → xF) (h : Nat) (σ : xS) : x_b O x_X0 x_TX (x_C 215) k 3000 (x_suf (x_C 215) 0) [some (.inr (.inr (some h))), none] [] σ =
  (x_ck σ h 10 <|
  (if (x_I σ h 14) = 0 then
    (some (some (.inl (-3)), σ))
  else
    (x_ck σ h 10 <|
    (x_ck σ h 10 <|
    (x_ck (x_si σ h 0 (x_I σ h 15)) h 10 <|
    (x_ck (x_si σ h 0 (x_I σ h 15)) h 10 <|
    (x_ck (x_si (x_si σ h 0 (x_I σ h 15)) h 4 (x_I (x_si σ h 0 (x_I σ h 15)) h 16)) h 10 <|
    (x_ck (x_si (x_si σ h 0 (x_I σ h 15)) h 4 (x_I (x_si σ h 0 (x_I σ h 15)) h 16)) h 10 <|
    (x_ck (x_si (x_si (x_si σ h 0 (x_I σ h 15)) h 4 (x_I (x_si σ h 0 (x_I σ h 15)) h 16)) h 5 (x_I (x_si (x_si σ h 0 (x_I σ h 15)) h 4 (x_I (x_si σ h 0 (x_I σ h 15)) h 16)) h 17)) h 10 <|
    (x_ck (x_si (x_si (x_si σ h 0 (x_I σ h 15)) h 4 (x_I (x_si σ h 0 (x_I σ h 15)) h 16)) h 5 (x_I (x_si (x_si σ h 0 (x_I σ h 15)) h 4 (x_I (x_si σ h 0 (x_I σ h 15)) h 16)) h 17)) h 10 <|
    (x_ck (x_si (x_si (x_si (x_si σ h 0 (x_I σ h 15)) h 4 (x_I (x_si σ h 0 (x_I σ h 15)) h 16)) h 5 (x_I (x_si (x_si σ h 0 (x_I σ h 15)) h 4 (x_I (x_si σ h 0 (x_I σ h 15)) h 16)) h 17)) h 6 (x_I (x_si (x_si (x_si σ h 0 (x_I σ h 15)) h 4 (x_I (x_si σ h 0 (x_I σ h 15)) h 16)) h 5 (x_I (x_si (x_si σ h 0 (x_I σ h 15)) h 4 (x_I (x_si σ h 0 (x_I σ h 15)) h 16)) h 17)) h 18)) h 10 <|
    (x_ck (x_si (x_si (x_si (x_si σ h 0 (x_I σ h 15)) h 4 (x_I (x_si σ h 0 (x_I σ h 15)) h 16)) h 5 (x_I (x_si (x_si σ h 0 (x_I σ h 15)) h 4 (x_I (x_si σ h 0 (x_I σ h 15)) h 16)) h 17)) h 6 (x_I (x_si (x_si (x_si σ h 0 (x_I σ h 15)) h 4 (x_I (x_si σ h 0 (x_I σ h 15)) h 16)) h 5 (x_I (x_si (x_si σ h 0 (x_I σ h 15)) h 4 (x_I (x_si σ h 0 (x_I σ h 15)) h 16)) h 17)) h 18)) h 10 <|
    (x_ck (x_si (x_si (x_si (x_si (x_si σ h 0 (x_I σ h 15)) h 4 (x_I (x_si σ h 0 (x_I σ h 15)) h 16)) h 5 (x_I (x_si (x_si σ h 0 (x_I σ h 15)) h 4 (x_I (x_si σ h 0 (x_I σ h 15)) h 16)) h 17)) h 6 (x_I (x_si (x_si (x_si σ h 0 (x_I σ h 15)) h 4 (x_I (x_si σ h 0 (x_I σ h 15)) h 16)) h 5 (x_I (x_si (x_si σ h 0 (x_I σ h 15)) h 4 (x_I (x_si σ h 0 (x_I σ h 15)) h 16)) h 17)) h 18)) h 7 (x_I (x_si (x_si (x_si (x_si σ h 0 (x_I σ h 15)) h 4 (x_I (x_si σ h 0 (x_I σ h 15)) h 16)) h 5 (x_I (x_si (x_si σ h 0 (x_I σ h 15)) h 4 (x_I (x_si σ h 0 (x_I σ h 15)) h 16)) h 17)) h 6 (x_I (x_si (x_si (x_si σ h 0 (x_I σ h 15)) h 4 (x_I (x_si σ h 0 (x_I σ h 15)) h 16)) h 5 (x_I (x_si (x_si σ h 0 (x_I σ h 15)) h 4 (x_I (x_si σ h 0 (x_I σ h 15)) h 16)) h 17)) h 18)) h 19)) h 10 <|
    (x_ck (x_si (x_si (x_si (x_si (x_si σ h 0 (x_I σ h 15)) h 4 (x_I (x_si σ h 0 (x_I σ h 15)) h 16)) h 5 (x_I (x_si (x_si σ h 0 (x_I σ h 15)) h 4 (x_I (x_si σ h 0 (x_I σ h 15)) h 16)) h 17)) h 6 (x_I (x_si (x_si (x_si σ h 0 (x_I σ h 15)) h 4 (x_I (x_si σ h 0 (x_I σ h 15)) h 16)) h 5 (x_I (x_si (x_si σ h 0 (x_I σ h 15)) h 4 (x_I (x_si σ h 0 (x_I σ h 15)) h 16)) h 17)) h 18)) h 7 (x_I (x_si (x_si (x_si (x_si σ h 0 (x_I σ h 15)) h 4 (x_I (x_si σ h 0 (x_I σ h 15)) h 16)) h 5 (x_I (x_si (x_si σ h 0 (x_I σ h 15)) h 4 (x_I (x_si σ h 0 (x_I σ h 15)) h 16)) h 17)) h 6 (x_I (x_si (x_si (x_si σ h 0 (x_I σ h 15)) h 4 (x_I (x_si σ h 0 (x_I σ h 15)) h 16)) h 5 (x_I (x_si (x_si σ h 0 (x_I σ h 15)) h 4 (x_I (x_si σ h 0 (x_I σ h 15)) h 16)) h 17)) h 18)) h 19)) h 10 <|
    k 60 [some (.inr (.inr (some h))), some (.inl 0)] [] (x_si (x_si (x_si (x_si (x_si (x_si σ h 0 (x_I σ h 15)) h 4 (x_I (x_si σ h 0 (x_I σ h 15)) h 16)) h 5 (x_I (x_si (x_si σ h 0 (x_I σ h 15)) h 4 (x_I (x_si σ h 0 (x_I σ h 15)) h 16)) h 17)) h 6 (x_I (x_si (x_si (x_si σ h 0 (x_I σ h 15)) h 4 (x_I (x_si σ h 0 (x_I σ h 15)) h 16)) h 5 (x_I (x_si (x_si σ h 0 (x_I σ h 15)) h 4 (x_I (x_si σ h 0 (x_I σ h 15)) h 16)) h 17)) h 18)) h 7 (x_I (x_si (x_si (x_si (x_si σ h 0 (x_I σ h 15)) h 4 (x_I (x_si σ h 0 (x_I σ h 15)) h 16)) h 5 (x_I (x_si (x_si σ h 0 (x_I σ h 15)) h 4 (x_I (x_si σ h 0 (x_I σ h 15)) h 16)) h 17)) h 6 (x_I (x_si (x_si (x_si σ h 0 (x_I σ h 15)) h 4 (x_I (x_si σ h 0 (x_I σ h 15)) h 16)) h 5 (x_I (x_si (x_si σ h 0 (x_I σ h 15)) h 4 (x_I (x_si σ h 0 (x_I σ h 15)) h 16)) h 17)) h 18)) h 19)) h 13 (x_I (x_si (x_si (x_si (x_si (x_si σ h 0 (x_I σ h 15)) h 4 (x_I (x_si σ h 0 (x_I σ h 15)) h 16)) h 5 (x_I (x_si (x_si σ h 0 (x_I σ h 15)) h 4 (x_I (x_si σ h 0 (x_I σ h 15)) h 16)) h 17)) h 6 (x_I (x_si (x_si (x_si σ h 0 (x_I σ h 15)) h 4 (x_I (x_si σ h 0 (x_I σ h 15)) h 16)) h 5 (x_I (x_si (x_si σ h 0 (x_I σ h 15)) h 4 (x_I (x_si σ h 0 (x_I σ h 15)) h 16)) h 17)) h 18)) h 7 (x_I (x_si (x_si (x_si (x_si σ h 0 (x_I σ h 15)) h 4 (x_I (x_si σ h 0 (x_I σ h 15)) h 16)) h 5 (x_I (x_si (x_si σ h 0 (x_I σ h 15)) h 4 (x_I (x_si σ h 0 (x_I σ h 15)) h 16)) h 17)) h 6 (x_I (x_si (x_si (x_si σ h 0 (x_I σ h 15)) h 4 (x_I (x_si σ h 0 (x_I σ h 15)) h 16)) h 5 (x_I (x_si (x_si σ h 0 (x_I σ h 15)) h 4 (x_I (x_si σ h 0 (x_I σ h 15)) h 16)) h 17)) h 18)) h 19)) h 20)))))))))))))))) := rfl
set_option maxRecDepth 100000 in
set_option maxHeartbeats 1000000 in
/-- IModel.back -/
theorem e215_60 (O : Nat → List xV → xS → Option xR) (k : Nat → xF) (h : Nat) (i1 : Int32) (σ : xS) : x_b O x_X0 x_TX (x_C 215) k 3000 (x_suf (x_C 215) 60) [some (.inr (.inr (some h))), some (.inl i1)] [] σ =
  (if 30 ≤ i1 then
    (x_ck σ h 10 <|
    (some (some (.inl (x_I σ h 0)), σ)))
  else
    (x_ck σ h 10 <|
    (x_ck σ h 10 <|
    (x_der (x_Q σ h 21) fun a1 => x_ak σ a1 11 fun n2 => x_ix i1 n2 <|
    (x_der (x_Q σ h 3) fun a3 => x_ak σ a3 11 fun n4 => x_ix i1 n4 <|
    k 60 [some (.inr (.inr (some h))), some (.inl (i1 + 1))] [] (x_si σ a3 (i1).toNatClampNeg (x_I σ a1 (i1).toNatClampNeg))))))) := rfl
set_option maxRecDepth 100000 in
set_option maxHeartbeats 1000000 in
/-- IModel.sheet -/
theorem e216_0 (O : Nat → List xV → xS → Option xR) (k : Nat → xF) (h : Nat) (i1 : Int32) (i2 : Int32) (i3 : Int32) (σ : xS) : x_b O x_X0 x_TX (x_C 216) k 3000 (x_suf (x_C 216) 0) [some (.inr (.inr (some h))), some (.inl i1), some (.inl i2), some (.inl i3), none] [] σ =
  (x_ci (O 133 [.inl i1, .inl 0, .inl 3] σ) fun x2 σ1 =>
  (if x2 = 0 then
    (some (some (.inl (-2)), σ1))
  else
    (x_ci (O 133 [.inl i2, .inl (-1), .inl 2] σ1) fun x4 σ3 =>
    (if x4 = 0 then
      (some (some (.inl (-2)), σ3))
    else
      (if i2 = (-1) then
        (if i2 = (-1) then
          k 44 [some (.inr (.inr (some h))), some (.inl i1), some (.inl i2), some (.inl i3), none] [] σ3
        else
          (if 0 ≤ i3 then
            k 44 [some (.inr (.inr (some h))), some (.inl i1), some (.inl i2), some (.inl i3), none] [] σ3
          else
            (some (some (.inl (-14)), σ3))))
      else
        (if i3 ≤ 40 then
          (if i2 = (-1) then
            k 44 [some (.inr (.inr (some h))), some (.inl i1), some (.inl i2), some (.inl i3), none] [] σ3
          else
            (if 0 ≤ i3 then
              k 44 [some (.inr (.inr (some h))), some (.inl i1), some (.inl i2), some (.inl i3), none] [] σ3
            else
              (some (some (.inl (-14)), σ3))))
        else
          (some (some (.inl (-2)), σ3)))))))) := rfl
set_option maxRecDepth 100000 in
set_option maxHeartbeats 1000000 in
/-- IModel.sheet -/
theorem e216_44 (O : Nat → List xV → xS → Option xR) (k : Nat → xF) (h : Nat) (i1 : Int32) (i2 : Int32) (i3 : Int32) (σ : xS) : x_b O x_X0 x_TX (x_C 216) k 3000 (x_suf (x_C 216) 44) [some (.inr (.inr (some h))), some (.inl i1), some (.inl i2), some (.inl i3), none] [] σ =
  (x_ck σ h 10 <|
  (x_der (x_Q σ h 22) fun a1 => x_ak σ a1 11 fun n2 => x_ix i1 n2 <|
  (x_ck (x_si σ a1 (i1).toNatClampNeg i2) h 10 <|
  (if i2 = (-1) then
    (x_der (x_Q (x_si σ a1 (i1).toNatClampNeg i2) h 23) fun a5 => x_ak (x_si σ a1 (i1).toNatClampNeg i2) a5 11 fun n6 => x_ix i1 n6 <|
    k 70 [some (.inr (.inr (some h))), some (.inl i1), none, none, some (.inl 0)] [] (x_si (x_si σ a1 (i1).toNatClampNeg i2) a5 (i1).toNatClampNeg 0))
  else
    (x_der (x_Q (x_si σ a1 (i1).toNatClampNeg i2) h 23) fun a3 => x_ak (x_si σ a1 (i1).toNatClampNeg i2) a3 11 fun n4 => x_ix i1 n4 <|
    k 70 [some (.inr (.inr (some h))), some (.inl i1), none, none, some (.inl 0)] [] (x_si (x_si σ a1 (i1).toNatClampNeg i2) a3 (i1).toNatClampNeg i3)))))) := rfl
set_option maxRecDepth 100000 in
set_option maxHeartbeats 1000000 in
/-- IModel.sheet -/
theorem e216_70 (O : Nat → List xV → xS → Option xR) (k : Nat → xF) (h : Nat) (i1 : Int32) (i4 : Int32) (σ : xS) : x_b O x_X0 x_TX (x_C 216) k 3000 (x_suf (x_C 216) 70) [some (.inr (.inr (some h))), some (.inl i1), none, none, some (.inl i4)] [] σ =
  (if 40 ≤ i4 then
    (some (some (.inl 1), σ))
  else
    (x_ck σ h 10 <|
    (x_der (x_Q σ h 24) fun a1 => x_ak σ a1 11 fun n2 => x_ix ((40 * i1) + i4) n2 <|
    k 70 [some (.inr (.inr (some h))), some (.inl i1), none, none, some (.inl (i4 + 1))] [] (x_si σ a1 ((40 * i1) + i4).toNatClampNeg 0)))) := rfl
set_option maxRecDepth 100000 in
set_option maxHeartbeats 1000000 in
/-- IModel.cell -/
theorem e217_0 (O : Nat → List xV → xS → Option xR) (k : Nat → xF) (h : Nat) (i1 : Int32) (i2 : Int32) (i3 : Int32) (σ : xS) : x_b O x_X0 x_TX (x_C 217) k 3000 (x_suf (x_C 217) 0) [some (.inr (.inr (some h))), some (.inl i1), some (.inl i2), some (.inl i3)] [] σ =
  (x_ci (O 133 [.inl i1, .inl 0, .inl 3] σ) fun x2 σ1 =>
  (if x2 = 0 then
    (some (some (.inl (-2)), σ1))
  else
    (x_ck σ1 h 10 <|
    (x_der (x_Q σ1 h 22) fun a3 => x_ak σ1 a3 11 fun n4 => x_ix i1 n4 <|
    (if (x_I σ1 a3 (i1).toNatClampNeg) = (-1) then
      (some (some (.inl (-11)), σ1))
    else
      (x_ck σ1 h 10 <|
      (x_der (x_Q σ1 h 23) fun a5 => x_ak σ1 a5 11 fun n6 => x_ix i1 n6 <|
      (x_ci (O 133 [.inl i2, .inl 0, .inl ((x_I σ1 a5 (i1).toNatClampNeg) - 1)] σ1) fun x8 σ7 =>
      (if x8 = 0 then
        (some (some (.inl (-12)), σ7))
      else
        (x_ck σ7 h 10 <|
        (x_ck σ7 h 10 <|
        (x_der (x_Q σ7 h 22) fun a9 => x_ak σ7 a9 11 fun n10 => x_ix i1 n10 <|
        (if (x_I σ7 a9 (i1).toNatClampNeg) = 0 then
          (x_der (x_Q σ7 h 24) fun a17 => x_ak σ7 a17 11 fun n18 => x_ix ((40 * i1) + i2) n18 <|
          (some (some (.inl 1), x_si σ7 a17 ((40 * i1) + i2).toNatClampNeg i3.toInt8.toInt32)))
        else
          (x_ck σ7 h 10 <|
          (x_der (x_Q σ7 h 22) fun a11 => x_ak σ7 a11 11 fun n12 => x_ix i1 n12 <|
          (if (x_I σ7 a11 (i1).toNatClampNeg) = 1 then
            (x_der (x_Q σ7 h 24) fun a15 => x_ak σ7 a15 11 fun n16 => x_ix ((40 * i1) + i2) n16 <|
            (some (some (.inl 1), x_si σ7 a15 ((40 * i1) + i2).toNatClampNeg i3.toInt16.toInt32)))
          else
            (x_der (x_Q σ7 h 24) fun a13 => x_ak σ7 a13 11 fun n14 => x_ix ((40 * i1) + i2) n14 <|
            (some (some (.inl 1), x_si σ7 a13 ((40 * i1) + i2).toNatClampNeg i3))))))))))))))))))) := rfl
set_option maxRecDepth 100000 in
set_option maxHeartbeats 1000000 in
/-- IModel.copy -/
theorem e218_0 (O : Nat → List xV → xS → Option xR) (k : Nat → xF) (h : Nat) (i1 : Int32) (i2 : Int32) (i3 : Int32) (i4 : Int32) (i5 : Int32) (σ : xS) : x_b O x_X0 x_TX (x_C 218) k 3000 (x_suf (x_C 218) 0) [some (.inr (.inr (some h))), some (.inl i1), some (.inl i2), some (.inl i3), some (.inl i4), some (.inl i5), none, none, none, none] [] σ =
  (x_ci (O 133 [.inl i1, .inl 0, .inl 3] σ) fun x2 σ1 =>
  (if x2 = 0 then
    (some (some (.inl (-2)), σ1))
  else
    (x_ci (O 133 [.inl i3, .inl 0, .inl 3] σ1) fun x4 σ3 =>
    (if x4 = 0 then
      (some (some (.inl (-2)), σ3))
    else
      (x_ck σ3 h 10 <|
      (x_der (x_Q σ3 h 22) fun a5 => x_ak σ3 a5 11 fun n6 => x_ix i1 n6 <|
      (if (x_I σ3 a5 (i1).toNatClampNeg) = (-1) then
        (some (some (.inl (-11)), σ3))
      else
        (x_ck σ3 h 10 <|
        (x_der (x_Q σ3 h 22) fun a7 => x_ak σ3 a7 11 fun n8 => x_ix i3 n8 <|
        (if (x_I σ3 a7 (i3).toNatClampNeg) = (-1) then
          (some (some (.inl (-11)), σ3))
        else
          (x_ck σ3 h 10 <|
          (x_der (x_Q σ3 h 22) fun a9 => x_ak σ3 a9 11 fun n10 => x_ix i1 n10 <|
          (x_ck σ3 h 10 <|
          (x_der (x_Q σ3 h 22) fun a11 => x_ak σ3 a11 11 fun n12 => x_ix i3 n12 <|
          (if (x_I σ3 a9 (i1).toNatClampNeg) = (x_I σ3 a11 (i3).toNatClampNeg) then
            (if i5 < 0 then
              (some (some (.inl (-12)), σ3))
            else
              (if i2 < 0 then
                (some (some (.inl (-12)), σ3))
              else
                (if i4 < 0 then
                  (some (some (.inl (-12)), σ3))
                else
                  (x_ck σ3 h 10 <|
                  (x_der (x_Q σ3 h 23) fun a13 => x_ak σ3 a13 11 fun n14 => x_ix i1 n14 <|
                  (if (x_I σ3 a13 (i1).toNatClampNeg) < i2 then
                    (some (some (.inl (-12)), σ3))
                  else
                    (x_ck σ3 h 10 <|
                    (x_der (x_Q σ3 h 23) fun a15 => x_ak σ3 a15 11 fun n16 => x_ix i3 n16 <|
                    (if (x_I σ3 a15 (i3).toNatClampNeg) < i4 then
                      (some (some (.inl (-12)), σ3))
                    else
                      (x_ck σ3 h 10 <|
                      (x_der (x_Q σ3 h 23) fun a17 => x_ak σ3 a17 11 fun n18 => x_ix i1 n18 <|
                      (if ((x_I σ3 a17 (i1).toNatClampNeg) - i2) < i5 then
                        (some (some (.inl (-12)), σ3))
                      else
                        (x_ck σ3 h 10 <|
                        (x_der (x_Q σ3 h 23) fun a19 => x_ak σ3 a19 11 fun n20 => x_ix i3 n20 <|
                        (if i5 ≤ ((x_I σ3 a19 (i3).toNatClampNeg) - i4) then
                          k 147 [some (.inr (.inr (some h))), none, none, none, none, some (.inl i5), some (.inl ((40 * i1) + i2)), some (.inl ((40 * i3) + i4)), some (.inl 0), none] [] σ3
                        else
                          (some (some (.inl (-12)), σ3)))))))))))))))))
          else
            (some (some (.inl (-13)), σ3))))))))))))))))) := rfl
set_option maxRecDepth 100000 in
set_option maxHeartbeats 1000000 in
/-- IModel.copy -/
theorem e218_147 (O : Nat → List xV → xS → Option xR) (k : Nat → xF) (h : Nat) (i5 : Int32) (i6 : Int32) (i7 : Int32) (i8 : Int32) (σ : xS) : x_b O x_X0 x_TX (x_C 218) k 3000 (x_suf (x_C 218) 147) [some (.inr (.inr (some h))), none, none, none, none, some (.inl i5), some (.inl i6), some (.inl i7), some (.inl i8), none] [] σ =
  (if i5 ≤ i8 then
    (some (some (.inl i5), σ))
  else
    (if i7 ≤ i6 then
      k 173 [some (.inr (.inr (some h))), none, none, none, none, some (.inl i5), some (.inl i6), some (.inl i7), some (.inl i8), none] [.inl i8] σ
    else
      k 173 [some (.inr (.inr (some h))), none, none, none, none, some (.inl i5), some (.inl i6), some (.inl i7), some (.inl i8), none] [.inl ((i5 - 1) - i8)] σ)) := rfl
set_option maxRecDepth 100000 in
set_option maxHeartbeats 1000000 in
/-- IModel.copy -/
theorem e218_173 (O : Nat → List xV → xS → Option xR) (k : Nat → xF) (h : Nat) (i5 : Int32) (i6 : Int32) (i7 : Int32) (i8 : Int32) (s0 : Int32) (σ : xS) : x_b O x_X0 x_TX (x_C 218) k 3000 (x_suf (x_C 218) 173) [some (.inr (.inr (some h))), none, none, none, none, some (.inl i5), some (.inl i6), some (.inl i7), some (.inl i8), none] [.inl s0] σ =
  (x_ck σ h 10 <|
  (x_ck σ h 10 <|
  (x_der (x_Q σ h 24) fun a1 => x_ak σ a1 11 fun n2 => x_ix (i6 + s0) n2 <|
  (x_der (x_Q σ h 24) fun a3 => x_ak σ a3 11 fun n4 => x_ix (i7 + s0) n4 <|
  k 147 [some (.inr (.inr (some h))), none, none, none, none, some (.inl i5), some (.inl i6), some (.inl i7), some (.inl (i8 + 1)), none] [] (x_si σ a3 (i7 + s0).toNatClampNeg (x_I σ a1 (i6 + s0).toNatClampNeg)))))) := rfl
set_option maxRecDepth 100000 in
set_option maxHeartbeats 1000000 in
/-- IModel.livesBy -/
theorem e219_0 (O : Nat → List xV → xS → Option xR) (k : Nat → xF) (h : Nat) (i1 : Int32) (i2 : Int32) (i3 : Int32) (i4 : Int32) (σ : xS) : x_b O x_X0 x_TX (x_C 219) k 3000 (x_suf (x_C 219) 0) [some (.inr (.inr (some h))), some (.inl i1), some (.inl i2), some (.inl i3), some (.inl i4), none, none, none, none] [] σ =
  (x_ci (O 133 [.inl i1, .inl 0, .inl 3] σ) fun x2 σ1 =>
  (if x2 = 0 then
    (some (some (.inl (-2)), σ1))
  else
    (x_ci (O 133 [.inl i2, .inl 0, .inl 2] σ1) fun x4 σ3 =>
    (if x4 = 0 then
      (some (some (.inl (-2)), σ3))
    else
      (x_ci (O 133 [.inl i4, .inl 0, .inl 5] σ3) fun x6 σ5 =>
      (if x6 = 0 then
        (some (some (.inl (-2)), σ5))
      else
        (x_ck σ5 h 10 <|
        (x_der (x_Q σ5 h 22) fun a7 => x_ak σ5 a7 11 fun n8 => x_ix i1 n8 <|
        (if (x_I σ5 a7 (i1).toNatClampNeg) = (-1) then
          (some (some (.inl (-11)), σ5))
        else
          (x_ck σ5 h 10 <|
          (x_der (x_Q σ5 h 22) fun a9 => x_ak σ5 a9 11 fun n10 => x_ix i1 n10 <|
          (if (x_I σ5 a9 (i1).toNatClampNeg) = i2 then
            k 63 [some (.inr (.inr (some h))), some (.inl i1), none, some (.inl i3), some (.inl i4), some (.inl 0), some (.inl 0), none, none] [] σ5
          else
            (some (some (.inl (-13)), σ5)))))))))))))) := rfl
set_option maxRecDepth 100000 in
set_option maxHeartbeats 1000000 in
/-- IModel.livesBy -/
theorem e219_63 (O : Nat → List xV → xS → Option xR) (k : Nat → xF) (h : Nat) (i1 : Int32) (i3 : Int32) (i4 : Int32) (i5 : Int32) (i6 : Int32) (σ : xS) : x_b O x_X0 x_TX (x_C 219) k 3000 (x_suf (x_C 219) 63) [some (.inr (.inr (some h))), some (.inl i1), none, some (.inl i3), some (.inl i4), some (.inl i5), some (.inl i6), none, none] [] σ =
  (if i4 ≤ i6 then
    (some (some (.inl i5), σ))
  else
    (if i3 < 0 then
      (some (some (.inl (-12)), σ))
    else
      (if (i3 + (3 * i6)) < i3 then
        (some (some (.inl (-12)), σ))
      else
        (x_ck σ h 10 <|
        (x_der (x_Q σ h 23) fun a1 => x_ak σ a1 11 fun n2 => x_ix i1 n2 <|
        (if (i3 + (3 * i6)) ≤ ((x_I σ a1 (i1).toNatClampNeg) - 3) then
          (x_ck σ h 10 <|
          (x_der (x_Q σ h 24) fun a3 => x_ak σ a3 11 fun n4 => x_ix ((40 * i1) + (i3 + (3 * i6))) n4 <|
          (x_ck σ h 10 <|
          (x_der (x_Q σ h 24) fun a5 => x_ak σ a5 11 fun n6 => x_ix (((40 * i1) + (i3 + (3 * i6))) + 1) n6 <|
          (x_ck σ h 10 <|
          (x_der (x_Q σ h 24) fun a7 => x_ak σ a7 11 fun n8 => x_ix (((40 * i1) + (i3 + (3 * i6))) + 2) n8 <|
          (x_ck σ h 10 <|
          x_ci (O 156 [.inr (.inr (some h)), .inl (x_I σ a3 ((40 * i1) + (i3 + (3 * i6))).toNatClampNeg), .inl (x_I σ a5 (((40 * i1) + (i3 + (3 * i6))) + 1).toNatClampNeg), .inl (x_I σ a7 (((40 * i1) + (i3 + (3 * i6))) + 2).toNatClampNeg)] σ) fun x10 σ9 =>
          (if x10 < 0 then
            k 63 [some (.inr (.inr (some h))), some (.inl i1), none, some (.inl i3), some (.inl i4), some (.inl (i5 + 0)), some (.inl (i6 + 1)), none, none] [] σ9
          else
            k 63 [some (.inr (.inr (some h))), some (.inl i1), none, some (.inl i3), some (.inl i4), some (.inl (i5 + 1)), some (.inl (i6 + 1)), none, none] [] σ9))))))))
        else
          (some (some (.inl (-12)), σ)))))))) := rfl
set_option maxRecDepth 100000 in
set_option maxHeartbeats 1000000 in
/-- IModel.isUnder -/
theorem e220_0 (O : Nat → List xV → xS → Option xR) (k : Nat → xF) (i0 : Int32) (i1 : Int32) (σ : xS) : x_b O x_X0 x_TX (x_C 220) k 3000 (x_suf (x_C 220) 0) [some (.inl i0), some (.inl i1)] [] σ =
  (if i1 = 0 then
    (some (some (.inl 1), σ))
  else
    (if i0 = i1 then
      (some (some (.inl 1), σ))
    else
      (if i1 = 1 then
        (if i0 = 3 then
          (some (some (.inl 1), σ))
        else
          (if i1 = 2 then
            (if i0 = 4 then
              (some (some (.inl 1), σ))
            else
              (some (some (.inl 0), σ)))
          else
            (some (some (.inl 0), σ))))
      else
        (if i1 = 2 then
          (if i0 = 4 then
            (some (some (.inl 1), σ))
          else
            (some (some (.inl 0), σ)))
        else
          (some (some (.inl 0), σ)))))) := rfl
set_option maxRecDepth 100000 in
set_option maxHeartbeats 1000000 in
/-- IModel.livesIn -/
theorem e221_0 (O : Nat → List xV → xS → Option xR) (k : Nat → xF) (h : Nat) (i1 : Int32) (σ : xS) : x_b O x_X0 x_TX (x_C 221) k 3000 (x_suf (x_C 221) 0) [some (.inr (.inr (some h))), some (.inl i1), none] [] σ =
  k 2 [some (.inr (.inr (some h))), some (.inl i1), some (.inl 0)] [] σ := rfl
set_option maxRecDepth 100000 in
set_option maxHeartbeats 1000000 in
/-- IModel.livesIn -/
theorem e221_2 (O : Nat → List xV → xS → Option xR) (k : Nat → xF) (h : Nat) (i1 : Int32) (i2 : Int32) (σ : xS) : x_b O x_X0 x_TX (x_C 221) k 3000 (x_suf (x_C 221) 2) [some (.inr (.inr (some h))), some (.inl i1), some (.inl i2)] [] σ =
  (x_ck σ h 10 <|
  (if (x_I σ h 0) ≤ i2 then
    (some (some (.inl 0), σ))
  else
    (x_ck σ h 10 <|
    (x_der (x_Q σ h 3) fun a1 => x_ak σ a1 11 fun n2 => x_ix ((6 * i2) + 3) n2 <|
    (if (x_I σ a1 ((6 * i2) + 3).toNatClampNeg) = i1 then
      (some (some (.inl 1), σ))
    else
      k 2 [some (.inr (.inr (some h))), some (.inl i1), some (.inl (i2 + 1))] [] σ))))) := rfl
set_option maxRecDepth 100000 in
set_option maxHeartbeats 1000000 in
/-- IModel.taken -/
theorem e222_0 (O : Nat → List xV → xS → Option xR) (k : Nat → xF) (h : Nat) (i1 : Int32) (i2 : Int32) (σ : xS) : x_b O x_X0 x_TX (x_C 222) k 3000 (x_suf (x_C 222) 0) [some (.inr (.inr (some h))), some (.inl i1), some (.inl i2)] [] σ =
  (x_ci (O 133 [.inl i2, .inl 0, .inl 6] σ) fun x2 σ1 =>
  (if x2 = 0 then
    (some (some (.inl (-2)), σ1))
  else
    (x_ci (O 133 [.inl i1, .inl 0, .inl 16] σ1) fun x4 σ3 =>
    (if x4 = 0 then
      (some (some (.inl (-12)), σ3))
    else
      (if i1 < 5 then
        (x_ck σ3 h 10 <|
        (if i1 < (x_I σ3 h 0) then
          (if 6 ≤ i2 then
            (some (some (.inl (-13)), σ3))
          else
            (x_ck σ3 h 10 <|
            (x_der (x_Q σ3 h 1) fun a5 => x_ak σ3 a5 11 fun n6 => x_ix i1 n6 <|
            (x_ci (O 220 [.inl (x_I σ3 a5 (i1).toNatClampNeg), .inl i2] σ3) fun x8 σ7 =>
            (if x8 = 0 then
              (some (some (.inl (-13)), σ7))
            else
              (some (some (.inl i1), σ7)))))))
        else
          (some (some (.inl (-11)), σ3))))
      else
        (if i2 = 6 then
          (x_ck σ3 h 10 <|
          x_ci (O 221 [.inr (.inr (some h)), .inl (i1 - 5)] σ3) fun x10 σ9 =>
          (some (some (.inl x10), σ9)))
        else
          (some (some (.inl (-13)), σ3)))))))) := rfl
theorem r132 (d : Nat) (h : Nat) (σ : xS) : x_run (d + 1) 132 [.inr (.inr (some h))] σ = x_b (x_run d) x_X0 x_TX (x_C 132) (x_f d 132) 3000 (x_suf (x_C 132) 0) [some (.inr (.inr (some h))), none] [] σ := x_feq d 132 0 [some (.inr (.inr (some h))), none] [] σ
theorem r133 (d : Nat) (i0 : Int32) (i1 : Int32) (i2 : Int32) (σ : xS) : x_run (d + 1) 133 [.inl i0, .inl i1, .inl i2] σ = x_b (x_run d) x_X0 x_TX (x_C 133) (x_f d 133) 3000 (x_suf (x_C 133) 0) [some (.inl i0), some (.inl i1), some (.inl i2)] [] σ := x_feq d 133 0 [some (.inl i0), some (.inl i1), some (.inl i2)] [] σ
theorem r134 (d : Nat) (i0 : Int32) (i1 : Int32) (i2 : Int32) (σ : xS) : x_run (d + 1) 134 [.inl i0, .inl i1, .inl i2] σ = x_b (x_run d) x_X0 x_TX (x_C 134) (x_f d 134) 3000 (x_suf (x_C 134) 0) [some (.inl i0), some (.inl i1), some (.inl i2)] [] σ := x_feq d 134 0 [some (.inl i0), some (.inl i1), some (.inl i2)] [] σ
theorem r135 (d : Nat) (h : Nat) (i1 : Int32) (σ : xS) : x_run (d + 1) 135 [.inr (.inr (some h)), .inl i1] σ = x_b (x_run d) x_X0 x_TX (x_C 135) (x_f d 135) 3000 (x_suf (x_C 135) 0) [some (.inr (.inr (some h))), some (.inl i1)] [] σ := x_feq d 135 0 [some (.inr (.inr (some h))), some (.inl i1)] [] σ
theorem r136 (d : Nat) (h : Nat) (i1 : Int32) (σ : xS) : x_run (d + 1) 136 [.inr (.inr (some h)), .inl i1] σ = x_b (x_run d) x_X0 x_TX (x_C 136) (x_f d 136) 3000 (x_suf (x_C 136) 0) [some (.inr (.inr (some h))), some (.inl i1)] [] σ := x_feq d 136 0 [some (.inr (.inr (some h))), some (.inl i1)] [] σ
theorem r137 (d : Nat) (h : Nat) (i1 : Int32) (i2 : Int32) (σ : xS) : x_run (d + 1) 137 [.inr (.inr (some h)), .inl i1, .inl i2] σ = x_b (x_run d) x_X0 x_TX (x_C 137) (x_f d 137) 3000 (x_suf (x_C 137) 0) [some (.inr (.inr (some h))), some (.inl i1), some (.inl i2), none] [] σ := x_feq d 137 0 [some (.inr (.inr (some h))), some (.inl i1), some (.inl i2), none] [] σ
theorem r138 (d : Nat) (i0 : Int32) (σ : xS) : x_run (d + 1) 138 [.inl i0] σ = x_b (x_run d) x_X0 x_TX (x_C 138) (x_f d 138) 3000 (x_suf (x_C 138) 0) [some (.inl i0)] [] σ := x_feq d 138 0 [some (.inl i0)] [] σ
theorem r139 (d : Nat) (h : Nat) (i1 : Int32) (i2 : Int32) (i3 : Int32) (i4 : Int32) (i5 : Int32) (i6 : Int32) (σ : xS) : x_run (d + 1) 139 [.inr (.inr (some h)), .inl i1, .inl i2, .inl i3, .inl i4, .inl i5, .inl i6] σ = x_b (x_run d) x_X0 x_TX (x_C 139) (x_f d 139) 3000 (x_suf (x_C 139) 0) [some (.inr (.inr (some h))), some (.inl i1), some (.inl i2), some (.inl i3), some (.inl i4), some (.inl i5), some (.inl i6), none] [] σ := x_feq d 139 0 [some (.inr (.inr (some h))), some (.inl i1), some (.inl i2), some (.inl i3), some (.inl i4), some (.inl i5), some (.inl i6), none] [] σ
theorem r140 (d : Nat) (h : Nat) (i1 : Int32) (i2 : Int32) (σ : xS) : x_run (d + 1) 140 [.inr (.inr (some h)), .inl i1, .inl i2] σ = x_b (x_run d) x_X0 x_TX (x_C 140) (x_f d 140) 3000 (x_suf (x_C 140) 0) [some (.inr (.inr (some h))), some (.inl i1), some (.inl i2), none, none, none] [] σ := x_feq d 140 0 [some (.inr (.inr (some h))), some (.inl i1), some (.inl i2), none, none, none] [] σ
theorem r141 (d : Nat) (h : Nat) (σ : xS) : x_run (d + 1) 141 [.inr (.inr (some h))] σ = x_b (x_run d) x_X0 x_TX (x_C 141) (x_f d 141) 3000 (x_suf (x_C 141) 0) [some (.inr (.inr (some h))), none, none] [] σ := x_feq d 141 0 [some (.inr (.inr (some h))), none, none] [] σ
theorem r142 (d : Nat) (i0 : Int32) (σ : xS) : x_run (d + 1) 142 [.inl i0] σ = x_b (x_run d) x_X0 x_TX (x_C 142) (x_f d 142) 3000 (x_suf (x_C 142) 0) [some (.inl i0)] [] σ := x_feq d 142 0 [some (.inl i0)] [] σ
theorem r143 (d : Nat) (h : Nat) (i1 : Int32) (σ : xS) : x_run (d + 1) 143 [.inr (.inr (some h)), .inl i1] σ = x_b (x_run d) x_X0 x_TX (x_C 143) (x_f d 143) 3000 (x_suf (x_C 143) 0) [some (.inr (.inr (some h))), some (.inl i1)] [] σ := x_feq d 143 0 [some (.inr (.inr (some h))), some (.inl i1)] [] σ
theorem r144 (d : Nat) (h : Nat) (i1 : Int32) (σ : xS) : x_run (d + 1) 144 [.inr (.inr (some h)), .inl i1] σ = x_b (x_run d) x_X0 x_TX (x_C 144) (x_f d 144) 3000 (x_suf (x_C 144) 0) [some (.inr (.inr (some h))), some (.inl i1), none] [] σ := x_feq d 144 0 [some (.inr (.inr (some h))), some (.inl i1), none] [] σ
theorem r145 (d : Nat) (h : Nat) (i1 : Int32) (σ : xS) : x_run (d + 1) 145 [.inr (.inr (some h)), .inl i1] σ = x_b (x_run d) x_X0 x_TX (x_C 145) (x_f d 145) 3000 (x_suf (x_C 145) 0) [some (.inr (.inr (some h))), some (.inl i1)] [] σ := x_feq d 145 0 [some (.inr (.inr (some h))), some (.inl i1)] [] σ
theorem r146 (d : Nat) (h : Nat) (i1 : Int32) (σ : xS) : x_run (d + 1) 146 [.inr (.inr (some h)), .inl i1] σ = x_b (x_run d) x_X0 x_TX (x_C 146) (x_f d 146) 3000 (x_suf (x_C 146) 0) [some (.inr (.inr (some h))), some (.inl i1)] [] σ := x_feq d 146 0 [some (.inr (.inr (some h))), some (.inl i1)] [] σ
theorem r147 (d : Nat) (h : Nat) (i1 : Int32) (σ : xS) : x_run (d + 1) 147 [.inr (.inr (some h)), .inl i1] σ = x_b (x_run d) x_X0 x_TX (x_C 147) (x_f d 147) 3000 (x_suf (x_C 147) 0) [some (.inr (.inr (some h))), some (.inl i1)] [] σ := x_feq d 147 0 [some (.inr (.inr (some h))), some (.inl i1)] [] σ
theorem r148 (d : Nat) (h : Nat) (σ : xS) : x_run (d + 1) 148 [.inr (.inr (some h))] σ = x_b (x_run d) x_X0 x_TX (x_C 148) (x_f d 148) 3000 (x_suf (x_C 148) 0) [some (.inr (.inr (some h)))] [] σ := x_feq d 148 0 [some (.inr (.inr (some h)))] [] σ
theorem r149 (d : Nat) (h : Nat) (σ : xS) : x_run (d + 1) 149 [.inr (.inr (some h))] σ = x_b (x_run d) x_X0 x_TX (x_C 149) (x_f d 149) 3000 (x_suf (x_C 149) 0) [some (.inr (.inr (some h))), none, none, none] [] σ := x_feq d 149 0 [some (.inr (.inr (some h))), none, none, none] [] σ
theorem r150 (d : Nat) (h : Nat) (σ : xS) : x_run (d + 1) 150 [.inr (.inr (some h))] σ = x_b (x_run d) x_X0 x_TX (x_C 150) (x_f d 150) 3000 (x_suf (x_C 150) 0) [some (.inr (.inr (some h))), none, none] [] σ := x_feq d 150 0 [some (.inr (.inr (some h))), none, none] [] σ
theorem r151 (d : Nat) (i0 : Int32) (i1 : Int32) (i2 : Int32) (σ : xS) : x_run (d + 1) 151 [.inl i0, .inl i1, .inl i2] σ = x_b (x_run d) x_X0 x_TX (x_C 151) (x_f d 151) 3000 (x_suf (x_C 151) 0) [some (.inl i0), some (.inl i1), some (.inl i2)] [] σ := x_feq d 151 0 [some (.inl i0), some (.inl i1), some (.inl i2)] [] σ
theorem r152 (d : Nat) (h : Nat) (i1 : Int32) (σ : xS) : x_run (d + 1) 152 [.inr (.inr (some h)), .inl i1] σ = x_b (x_run d) x_X0 x_TX (x_C 152) (x_f d 152) 3000 (x_suf (x_C 152) 0) [some (.inr (.inr (some h))), some (.inl i1), none, none, none] [] σ := x_feq d 152 0 [some (.inr (.inr (some h))), some (.inl i1), none, none, none] [] σ
theorem r153 (d : Nat) (h : Nat) (i1 : Int32) (σ : xS) : x_run (d + 1) 153 [.inr (.inr (some h)), .inl i1] σ = x_b (x_run d) x_X0 x_TX (x_C 153) (x_f d 153) 3000 (x_suf (x_C 153) 0) [some (.inr (.inr (some h))), some (.inl i1), none] [] σ := x_feq d 153 0 [some (.inr (.inr (some h))), some (.inl i1), none] [] σ
theorem r154 (d : Nat) (h : Nat) (i1 : Int32) (i2 : Int32) (i3 : Int32) (i4 : Int32) (i5 : Int32) (σ : xS) : x_run (d + 1) 154 [.inr (.inr (some h)), .inl i1, .inl i2, .inl i3, .inl i4, .inl i5] σ = x_b (x_run d) x_X0 x_TX (x_C 154) (x_f d 154) 3000 (x_suf (x_C 154) 0) [some (.inr (.inr (some h))), some (.inl i1), some (.inl i2), some (.inl i3), some (.inl i4), some (.inl i5)] [] σ := x_feq d 154 0 [some (.inr (.inr (some h))), some (.inl i1), some (.inl i2), some (.inl i3), some (.inl i4), some (.inl i5)] [] σ
theorem r155 (d : Nat) (h : Nat) (i1 : Int32) (i2 : Int32) (i3 : Int32) (i4 : Int32) (σ : xS) : x_run (d + 1) 155 [.inr (.inr (some h)), .inl i1, .inl i2, .inl i3, .inl i4] σ = x_b (x_run d) x_X0 x_TX (x_C 155) (x_f d 155) 3000 (x_suf (x_C 155) 0) [some (.inr (.inr (some h))), some (.inl i1), some (.inl i2), some (.inl i3), some (.inl i4), none] [] σ := x_feq d 155 0 [some (.inr (.inr (some h))), some (.inl i1), some (.inl i2), some (.inl i3), some (.inl i4), none] [] σ
theorem r156 (d : Nat) (h : Nat) (i1 : Int32) (i2 : Int32) (i3 : Int32) (σ : xS) : x_run (d + 1) 156 [.inr (.inr (some h)), .inl i1, .inl i2, .inl i3] σ = x_b (x_run d) x_X0 x_TX (x_C 156) (x_f d 156) 3000 (x_suf (x_C 156) 0) [some (.inr (.inr (some h))), some (.inl i1), some (.inl i2), some (.inl i3)] [] σ := x_feq d 156 0 [some (.inr (.inr (some h))), some (.inl i1), some (.inl i2), some (.inl i3)] [] σ
theorem r157 (d : Nat) (h : Nat) (i1 : Int32) (i2 : Int32) (i3 : Int32) (σ : xS) : x_run (d + 1) 157 [.inr (.inr (some h)), .inl i1, .inl i2, .inl i3] σ = x_b (x_run d) x_X0 x_TX (x_C 157) (x_f d 157) 3000 (x_suf (x_C 157) 0) [some (.inr (.inr (some h))), some (.inl i1), some (.inl i2), some (.inl i3)] [] σ := x_feq d 157 0 [some (.inr (.inr (some h))), some (.inl i1), some (.inl i2), some (.inl i3)] [] σ
theorem r158 (d : Nat) (h : Nat) (i1 : Int32) (i2 : Int32) (i3 : Int32) (σ : xS) : x_run (d + 1) 158 [.inr (.inr (some h)), .inl i1, .inl i2, .inl i3] σ = x_b (x_run d) x_X0 x_TX (x_C 158) (x_f d 158) 3000 (x_suf (x_C 158) 0) [some (.inr (.inr (some h))), some (.inl i1), some (.inl i2), some (.inl i3), none] [] σ := x_feq d 158 0 [some (.inr (.inr (some h))), some (.inl i1), some (.inl i2), some (.inl i3), none] [] σ
theorem r159 (d : Nat) (h : Nat) (i1 : Int32) (i2 : Int32) (σ : xS) : x_run (d + 1) 159 [.inr (.inr (some h)), .inl i1, .inl i2] σ = x_b (x_run d) x_X0 x_TX (x_C 159) (x_f d 159) 3000 (x_suf (x_C 159) 0) [some (.inr (.inr (some h))), some (.inl i1), some (.inl i2)] [] σ := x_feq d 159 0 [some (.inr (.inr (some h))), some (.inl i1), some (.inl i2)] [] σ
theorem r160 (d : Nat) (h : Nat) (i1 : Int32) (i2 : Int32) (i3 : Int32) (σ : xS) : x_run (d + 1) 160 [.inr (.inr (some h)), .inl i1, .inl i2, .inl i3] σ = x_b (x_run d) x_X0 x_TX (x_C 160) (x_f d 160) 3000 (x_suf (x_C 160) 0) [some (.inr (.inr (some h))), some (.inl i1), some (.inl i2), some (.inl i3), none, none] [] σ := x_feq d 160 0 [some (.inr (.inr (some h))), some (.inl i1), some (.inl i2), some (.inl i3), none, none] [] σ
theorem r161 (d : Nat) (h : Nat) (i1 : Int32) (i2 : Int32) (i3 : Int32) (σ : xS) : x_run (d + 1) 161 [.inr (.inr (some h)), .inl i1, .inl i2, .inl i3] σ = x_b (x_run d) x_X0 x_TX (x_C 161) (x_f d 161) 3000 (x_suf (x_C 161) 0) [some (.inr (.inr (some h))), some (.inl i1), some (.inl i2), some (.inl i3), none] [] σ := x_feq d 161 0 [some (.inr (.inr (some h))), some (.inl i1), some (.inl i2), some (.inl i3), none] [] σ
theorem r162 (d : Nat) (h : Nat) (i1 : Int32) (i2 : Int32) (σ : xS) : x_run (d + 1) 162 [.inr (.inr (some h)), .inl i1, .inl i2] σ = x_b (x_run d) x_X0 x_TX (x_C 162) (x_f d 162) 3000 (x_suf (x_C 162) 0) [some (.inr (.inr (some h))), some (.inl i1), some (.inl i2), none, none] [] σ := x_feq d 162 0 [some (.inr (.inr (some h))), some (.inl i1), some (.inl i2), none, none] [] σ
theorem r163 (d : Nat) (h : Nat) (i1 : Int32) (i2 : Int32) (σ : xS) : x_run (d + 1) 163 [.inr (.inr (some h)), .inl i1, .inl i2] σ = x_b (x_run d) x_X0 x_TX (x_C 163) (x_f d 163) 3000 (x_suf (x_C 163) 0) [some (.inr (.inr (some h))), some (.inl i1), some (.inl i2), none] [] σ := x_feq d 163 0 [some (.inr (.inr (some h))), some (.inl i1), some (.inl i2), none] [] σ
theorem r164 (d : Nat) (h : Nat) (i1 : Int32) (σ : xS) : x_run (d + 1) 164 [.inr (.inr (some h)), .inl i1] σ = x_b (x_run d) x_X0 x_TX (x_C 164) (x_f d 164) 3000 (x_suf (x_C 164) 0) [some (.inr (.inr (some h))), some (.inl i1)] [] σ := x_feq d 164 0 [some (.inr (.inr (some h))), some (.inl i1)] [] σ
theorem r165 (d : Nat) (h : Nat) (i1 : Int32) (i2 : Int32) (σ : xS) : x_run (d + 1) 165 [.inr (.inr (some h)), .inl i1, .inl i2] σ = x_b (x_run d) x_X0 x_TX (x_C 165) (x_f d 165) 3000 (x_suf (x_C 165) 0) [some (.inr (.inr (some h))), some (.inl i1), some (.inl i2)] [] σ := x_feq d 165 0 [some (.inr (.inr (some h))), some (.inl i1), some (.inl i2)] [] σ
theorem r166 (d : Nat) (h : Nat) (i1 : Int32) (i2 : Int32) (σ : xS) : x_run (d + 1) 166 [.inr (.inr (some h)), .inl i1, .inl i2] σ = x_b (x_run d) x_X0 x_TX (x_C 166) (x_f d 166) 3000 (x_suf (x_C 166) 0) [some (.inr (.inr (some h))), some (.inl i1), some (.inl i2)] [] σ := x_feq d 166 0 [some (.inr (.inr (some h))), some (.inl i1), some (.inl i2)] [] σ
theorem r167 (d : Nat) (h : Nat) (i1 : Int32) (i2 : Int32) (σ : xS) : x_run (d + 1) 167 [.inr (.inr (some h)), .inl i1, .inl i2] σ = x_b (x_run d) x_X0 x_TX (x_C 167) (x_f d 167) 3000 (x_suf (x_C 167) 0) [some (.inr (.inr (some h))), some (.inl i1), some (.inl i2), none, none, none, none, none, none, none, none, none] [] σ := x_feq d 167 0 [some (.inr (.inr (some h))), some (.inl i1), some (.inl i2), none, none, none, none, none, none, none, none, none] [] σ
theorem r168 (d : Nat) (j0 : Int64) (j2 : Int64) (i4 : Int32) (σ : xS) : x_run (d + 1) 168 [.inr (.inl j0), .inr (.inl j2), .inl i4] σ = x_b (x_run d) x_X0 x_TX (x_C 168) (x_f d 168) 3000 (x_suf (x_C 168) 0) [some (.inr (.inl j0)), none, some (.inr (.inl j2)), none, some (.inl i4), none, none, none, none, none, none] [] σ := x_feq d 168 0 [some (.inr (.inl j0)), none, some (.inr (.inl j2)), none, some (.inl i4), none, none, none, none, none, none] [] σ
theorem r169 (d : Nat) (h : Nat) (i1 : Int32) (i2 : Int32) (i3 : Int32) (σ : xS) : x_run (d + 1) 169 [.inr (.inr (some h)), .inl i1, .inl i2, .inl i3] σ = x_b (x_run d) x_X0 x_TX (x_C 169) (x_f d 169) 3000 (x_suf (x_C 169) 0) [some (.inr (.inr (some h))), some (.inl i1), some (.inl i2), some (.inl i3)] [] σ := x_feq d 169 0 [some (.inr (.inr (some h))), some (.inl i1), some (.inl i2), some (.inl i3)] [] σ
theorem r170 (d : Nat) (h : Nat) (i1 : Int32) (i2 : Int32) (i3 : Int32) (σ : xS) : x_run (d + 1) 170 [.inr (.inr (some h)), .inl i1, .inl i2, .inl i3] σ = x_b (x_run d) x_X0 x_TX (x_C 170) (x_f d 170) 3000 (x_suf (x_C 170) 0) [some (.inr (.inr (some h))), some (.inl i1), some (.inl i2), some (.inl i3)] [] σ := x_feq d 170 0 [some (.inr (.inr (some h))), some (.inl i1), some (.inl i2), some (.inl i3)] [] σ
theorem r171 (d : Nat) (h : Nat) (i1 : Int32) (i2 : Int32) (i3 : Int32) (σ : xS) : x_run (d + 1) 171 [.inr (.inr (some h)), .inl i1, .inl i2, .inl i3] σ = x_b (x_run d) x_X0 x_TX (x_C 171) (x_f d 171) 3000 (x_suf (x_C 171) 0) [some (.inr (.inr (some h))), some (.inl i1), some (.inl i2), some (.inl i3)] [] σ := x_feq d 171 0 [some (.inr (.inr (some h))), some (.inl i1), some (.inl i2), some (.inl i3)] [] σ
theorem r172 (d : Nat) (h : Nat) (i1 : Int32) (i2 : Int32) (i3 : Int32) (i4 : Int32) (σ : xS) : x_run (d + 1) 172 [.inr (.inr (some h)), .inl i1, .inl i2, .inl i3, .inl i4] σ = x_b (x_run d) x_X0 x_TX (x_C 172) (x_f d 172) 3000 (x_suf (x_C 172) 0) [some (.inr (.inr (some h))), some (.inl i1), some (.inl i2), some (.inl i3), some (.inl i4)] [] σ := x_feq d 172 0 [some (.inr (.inr (some h))), some (.inl i1), some (.inl i2), some (.inl i3), some (.inl i4)] [] σ
theorem r173 (d : Nat) (h : Nat) (i1 : Int32) (i2 : Int32) (σ : xS) : x_run (d + 1) 173 [.inr (.inr (some h)), .inl i1, .inl i2] σ = x_b (x_run d) x_X0 x_TX (x_C 173) (x_f d 173) 3000 (x_suf (x_C 173) 0) [some (.inr (.inr (some h))), some (.inl i1), some (.inl i2), none, none] [] σ := x_feq d 173 0 [some (.inr (.inr (some h))), some (.inl i1), some (.inl i2), none, none] [] σ
theorem r174 (d : Nat) (h : Nat) (i1 : Int32) (i2 : Int32) (i3 : Int32) (σ : xS) : x_run (d + 1) 174 [.inr (.inr (some h)), .inl i1, .inl i2, .inl i3] σ = x_b (x_run d) x_X0 x_TX (x_C 174) (x_f d 174) 3000 (x_suf (x_C 174) 0) [some (.inr (.inr (some h))), some (.inl i1), some (.inl i2), some (.inl i3), none, none, none, none, none, none, none] [] σ := x_feq d 174 0 [some (.inr (.inr (some h))), some (.inl i1), some (.inl i2), some (.inl i3), none, none, none, none, none, none, none] [] σ
theorem r175 (d : Nat) (h : Nat) (i1 : Int32) (i2 : Int32) (σ : xS) : x_run (d + 1) 175 [.inr (.inr (some h)), .inl i1, .inl i2] σ = x_b (x_run d) x_X0 x_TX (x_C 175) (x_f d 175) 3000 (x_suf (x_C 175) 0) [some (.inr (.inr (some h))), some (.inl i1), some (.inl i2), none, none, none, none, none, none] [] σ := x_feq d 175 0 [some (.inr (.inr (some h))), some (.inl i1), some (.inl i2), none, none, none, none, none, none] [] σ
theorem r176 (d : Nat) (i0 : Int32) (i1 : Int32) (i2 : Int32) (σ : xS) : x_run (d + 1) 176 [.inl i0, .inl i1, .inl i2] σ = x_b (x_run d) x_X0 x_TX (x_C 176) (x_f d 176) 3000 (x_suf (x_C 176) 0) [some (.inl i0), some (.inl i1), some (.inl i2)] [] σ := x_feq d 176 0 [some (.inl i0), some (.inl i1), some (.inl i2)] [] σ
theorem r177 (d : Nat) (h : Nat) (i1 : Int32) (i2 : Int32) (i3 : Int32) (σ : xS) : x_run (d + 1) 177 [.inr (.inr (some h)), .inl i1, .inl i2, .inl i3] σ = x_b (x_run d) x_X0 x_TX (x_C 177) (x_f d 177) 3000 (x_suf (x_C 177) 0) [some (.inr (.inr (some h))), some (.inl i1), some (.inl i2), some (.inl i3), none, none, none, none] [] σ := x_feq d 177 0 [some (.inr (.inr (some h))), some (.inl i1), some (.inl i2), some (.inl i3), none, none, none, none] [] σ
theorem r178 (d : Nat) (h : Nat) (i1 : Int32) (i2 : Int32) (i3 : Int32) (σ : xS) : x_run (d + 1) 178 [.inr (.inr (some h)), .inl i1, .inl i2, .inl i3] σ = x_b (x_run d) x_X0 x_TX (x_C 178) (x_f d 178) 3000 (x_suf (x_C 178) 0) [some (.inr (.inr (some h))), some (.inl i1), some (.inl i2), some (.inl i3), none, none, none, none, none, none, none] [] σ := x_feq d 178 0 [some (.inr (.inr (some h))), some (.inl i1), some (.inl i2), some (.inl i3), none, none, none, none, none, none, none] [] σ
theorem r179 (d : Nat) (h : Nat) (i1 : Int32) (i2 : Int32) (σ : xS) : x_run (d + 1) 179 [.inr (.inr (some h)), .inl i1, .inl i2] σ = x_b (x_run d) x_X0 x_TX (x_C 179) (x_f d 179) 3000 (x_suf (x_C 179) 0) [some (.inr (.inr (some h))), some (.inl i1), some (.inl i2), none] [] σ := x_feq d 179 0 [some (.inr (.inr (some h))), some (.inl i1), some (.inl i2), none] [] σ
theorem r180 (d : Nat) (h : Nat) (i1 : Int32) (i2 : Int32) (i3 : Int32) (i4 : Int32) (σ : xS) : x_run (d + 1) 180 [.inr (.inr (some h)), .inl i1, .inl i2, .inl i3, .inl i4] σ = x_b (x_run d) x_X0 x_TX (x_C 180) (x_f d 180) 3000 (x_suf (x_C 180) 0) [some (.inr (.inr (some h))), some (.inl i1), some (.inl i2), some (.inl i3), some (.inl i4), none, none, none, none, none] [] σ := x_feq d 180 0 [some (.inr (.inr (some h))), some (.inl i1), some (.inl i2), some (.inl i3), some (.inl i4), none, none, none, none, none] [] σ
theorem r181 (d : Nat) (i0 : Int32) (i1 : Int32) (σ : xS) : x_run (d + 1) 181 [.inl i0, .inl i1] σ = x_b (x_run d) x_X0 x_TX (x_C 181) (x_f d 181) 3000 (x_suf (x_C 181) 0) [some (.inl i0), some (.inl i1), none] [] σ := x_feq d 181 0 [some (.inl i0), some (.inl i1), none] [] σ
theorem r182 (d : Nat) (h : Nat) (i1 : Int32) (σ : xS) : x_run (d + 1) 182 [.inr (.inr (some h)), .inl i1] σ = x_b (x_run d) x_X0 x_TX (x_C 182) (x_f d 182) 3000 (x_suf (x_C 182) 0) [some (.inr (.inr (some h))), some (.inl i1), none, none, none] [] σ := x_feq d 182 0 [some (.inr (.inr (some h))), some (.inl i1), none, none, none] [] σ
theorem r183 (d : Nat) (h : Nat) (σ : xS) : x_run (d + 1) 183 [.inr (.inr (some h))] σ = x_b (x_run d) x_X0 x_TX (x_C 183) (x_f d 183) 3000 (x_suf (x_C 183) 0) [some (.inr (.inr (some h))), none, none] [] σ := x_feq d 183 0 [some (.inr (.inr (some h))), none, none] [] σ
theorem r184 (d : Nat) (h : Nat) (i1 : Int32) (i2 : Int32) (σ : xS) : x_run (d + 1) 184 [.inr (.inr (some h)), .inl i1, .inl i2] σ = x_b (x_run d) x_X0 x_TX (x_C 184) (x_f d 184) 3000 (x_suf (x_C 184) 0) [some (.inr (.inr (some h))), some (.inl i1), some (.inl i2), none, none, none, none, none] [] σ := x_feq d 184 0 [some (.inr (.inr (some h))), some (.inl i1), some (.inl i2), none, none, none, none, none] [] σ
theorem r185 (d : Nat) (h : Nat) (i1 : Int32) (i2 : Int32) (σ : xS) : x_run (d + 1) 185 [.inr (.inr (some h)), .inl i1, .inl i2] σ = x_b (x_run d) x_X0 x_TX (x_C 185) (x_f d 185) 3000 (x_suf (x_C 185) 0) [some (.inr (.inr (some h))), some (.inl i1), some (.inl i2), none, none, none, none] [] σ := x_feq d 185 0 [some (.inr (.inr (some h))), some (.inl i1), some (.inl i2), none, none, none, none] [] σ
theorem r186 (d : Nat) (h : Nat) (i1 : Int32) (i2 : Int32) (i3 : Int32) (σ : xS) : x_run (d + 1) 186 [.inr (.inr (some h)), .inl i1, .inl i2, .inl i3] σ = x_b (x_run d) x_X0 x_TX (x_C 186) (x_f d 186) 3000 (x_suf (x_C 186) 0) [some (.inr (.inr (some h))), some (.inl i1), some (.inl i2), some (.inl i3), none] [] σ := x_feq d 186 0 [some (.inr (.inr (some h))), some (.inl i1), some (.inl i2), some (.inl i3), none] [] σ
theorem r187 (d : Nat) (h : Nat) (i1 : Int32) (σ : xS) : x_run (d + 1) 187 [.inr (.inr (some h)), .inl i1] σ = x_b (x_run d) x_X0 x_TX (x_C 187) (x_f d 187) 3000 (x_suf (x_C 187) 0) [some (.inr (.inr (some h))), some (.inl i1), none, none, none, none, none] [] σ := x_feq d 187 0 [some (.inr (.inr (some h))), some (.inl i1), none, none, none, none, none] [] σ
theorem r188 (d : Nat) (h : Nat) (i1 : Int32) (σ : xS) : x_run (d + 1) 188 [.inr (.inr (some h)), .inl i1] σ = x_b (x_run d) x_X0 x_TX (x_C 188) (x_f d 188) 3000 (x_suf (x_C 188) 0) [some (.inr (.inr (some h))), some (.inl i1), none, none, none, none, none] [] σ := x_feq d 188 0 [some (.inr (.inr (some h))), some (.inl i1), none, none, none, none, none] [] σ
theorem r189 (d : Nat) (h : Nat) (i1 : Int32) (σ : xS) : x_run (d + 1) 189 [.inr (.inr (some h)), .inl i1] σ = x_b (x_run d) x_X0 x_TX (x_C 189) (x_f d 189) 3000 (x_suf (x_C 189) 0) [some (.inr (.inr (some h))), some (.inl i1), none, none] [] σ := x_feq d 189 0 [some (.inr (.inr (some h))), some (.inl i1), none, none] [] σ
theorem r190 (d : Nat) (h : Nat) (i1 : Int32) (i2 : Int32) (σ : xS) : x_run (d + 1) 190 [.inr (.inr (some h)), .inl i1, .inl i2] σ = x_b (x_run d) x_X0 x_TX (x_C 190) (x_f d 190) 3000 (x_suf (x_C 190) 0) [some (.inr (.inr (some h))), some (.inl i1), some (.inl i2), none] [] σ := x_feq d 190 0 [some (.inr (.inr (some h))), some (.inl i1), some (.inl i2), none] [] σ
theorem r191 (d : Nat) (i0 : Int32) (σ : xS) : x_run (d + 1) 191 [.inl i0] σ = x_b (x_run d) x_X0 x_TX (x_C 191) (x_f d 191) 3000 (x_suf (x_C 191) 0) [some (.inl i0), none, none] [] σ := x_feq d 191 0 [some (.inl i0), none, none] [] σ
theorem r192 (d : Nat) (h : Nat) (i1 : Int32) (σ : xS) : x_run (d + 1) 192 [.inr (.inr (some h)), .inl i1] σ = x_b (x_run d) x_X0 x_TX (x_C 192) (x_f d 192) 3000 (x_suf (x_C 192) 0) [some (.inr (.inr (some h))), some (.inl i1), none, none, none, none] [] σ := x_feq d 192 0 [some (.inr (.inr (some h))), some (.inl i1), none, none, none, none] [] σ
theorem r193 (d : Nat) (h : Nat) (i1 : Int32) (σ : xS) : x_run (d + 1) 193 [.inr (.inr (some h)), .inl i1] σ = x_b (x_run d) x_X0 x_TX (x_C 193) (x_f d 193) 3000 (x_suf (x_C 193) 0) [some (.inr (.inr (some h))), some (.inl i1), none, none, none] [] σ := x_feq d 193 0 [some (.inr (.inr (some h))), some (.inl i1), none, none, none] [] σ
theorem r194 (d : Nat) (h : Nat) (i1 : Int32) (σ : xS) : x_run (d + 1) 194 [.inr (.inr (some h)), .inl i1] σ = x_b (x_run d) x_X0 x_TX (x_C 194) (x_f d 194) 3000 (x_suf (x_C 194) 0) [some (.inr (.inr (some h))), some (.inl i1)] [] σ := x_feq d 194 0 [some (.inr (.inr (some h))), some (.inl i1)] [] σ
theorem r195 (d : Nat) (h : Nat) (σ : xS) : x_run (d + 1) 195 [.inr (.inr (some h))] σ = x_b (x_run d) x_X0 x_TX (x_C 195) (x_f d 195) 3000 (x_suf (x_C 195) 0) [some (.inr (.inr (some h))), none, none] [] σ := x_feq d 195 0 [some (.inr (.inr (some h))), none, none] [] σ
theorem r196 (d : Nat) (h : Nat) (σ : xS) : x_run (d + 1) 196 [.inr (.inr (some h))] σ = x_b (x_run d) x_X0 x_TX (x_C 196) (x_f d 196) 3000 (x_suf (x_C 196) 0) [some (.inr (.inr (some h))), none, none, none, none, none] [] σ := x_feq d 196 0 [some (.inr (.inr (some h))), none, none, none, none, none] [] σ
theorem r197 (d : Nat) (h : Nat) (i1 : Int32) (σ : xS) : x_run (d + 1) 197 [.inr (.inr (some h)), .inl i1] σ = x_b (x_run d) x_X0 x_TX (x_C 197) (x_f d 197) 3000 (x_suf (x_C 197) 0) [some (.inr (.inr (some h))), some (.inl i1)] [] σ := x_feq d 197 0 [some (.inr (.inr (some h))), some (.inl i1)] [] σ
theorem r198 (d : Nat) (h : Nat) (i1 : Int32) (i2 : Int32) (σ : xS) : x_run (d + 1) 198 [.inr (.inr (some h)), .inl i1, .inl i2] σ = x_b (x_run d) x_X0 x_TX (x_C 198) (x_f d 198) 3000 (x_suf (x_C 198) 0) [some (.inr (.inr (some h))), some (.inl i1), some (.inl i2), none, none, none, none, none] [] σ := x_feq d 198 0 [some (.inr (.inr (some h))), some (.inl i1), some (.inl i2), none, none, none, none, none] [] σ
theorem r199 (d : Nat) (h : Nat) (i1 : Int32) (i2 : Int32) (i3 : Int32) (σ : xS) : x_run (d + 1) 199 [.inr (.inr (some h)), .inl i1, .inl i2, .inl i3] σ = x_b (x_run d) x_X0 x_TX (x_C 199) (x_f d 199) 3000 (x_suf (x_C 199) 0) [some (.inr (.inr (some h))), some (.inl i1), some (.inl i2), some (.inl i3), none] [] σ := x_feq d 199 0 [some (.inr (.inr (some h))), some (.inl i1), some (.inl i2), some (.inl i3), none] [] σ
theorem r200 (d : Nat) (h : Nat) (i1 : Int32) (i2 : Int32) (i3 : Int32) (σ : xS) : x_run (d + 1) 200 [.inr (.inr (some h)), .inl i1, .inl i2, .inl i3] σ = x_b (x_run d) x_X0 x_TX (x_C 200) (x_f d 200) 3000 (x_suf (x_C 200) 0) [some (.inr (.inr (some h))), some (.inl i1), some (.inl i2), some (.inl i3), none, none, none, none] [] σ := x_feq d 200 0 [some (.inr (.inr (some h))), some (.inl i1), some (.inl i2), some (.inl i3), none, none, none, none] [] σ
theorem r201 (d : Nat) (h : Nat) (i1 : Int32) (σ : xS) : x_run (d + 1) 201 [.inr (.inr (some h)), .inl i1] σ = x_b (x_run d) x_X0 x_TX (x_C 201) (x_f d 201) 3000 (x_suf (x_C 201) 0) [some (.inr (.inr (some h))), some (.inl i1)] [] σ := x_feq d 201 0 [some (.inr (.inr (some h))), some (.inl i1)] [] σ
theorem r202 (d : Nat) (h : Nat) (i1 : Int32) (i2 : Int32) (σ : xS) : x_run (d + 1) 202 [.inr (.inr (some h)), .inl i1, .inl i2] σ = x_b (x_run d) x_X0 x_TX (x_C 202) (x_f d 202) 3000 (x_suf (x_C 202) 0) [some (.inr (.inr (some h))), some (.inl i1), some (.inl i2), none] [] σ := x_feq d 202 0 [some (.inr (.inr (some h))), some (.inl i1), some (.inl i2), none] [] σ
theorem r203 (d : Nat) (h : Nat) (i1 : Int32) (i2 : Int32) (i3 : Int32) (i4 : Int32) (σ : xS) : x_run (d + 1) 203 [.inr (.inr (some h)), .inl i1, .inl i2, .inl i3, .inl i4] σ = x_b (x_run d) x_X0 x_TX (x_C 203) (x_f d 203) 3000 (x_suf (x_C 203) 0) [some (.inr (.inr (some h))), some (.inl i1), some (.inl i2), some (.inl i3), some (.inl i4), none] [] σ := x_feq d 203 0 [some (.inr (.inr (some h))), some (.inl i1), some (.inl i2), some (.inl i3), some (.inl i4), none] [] σ
theorem r204 (d : Nat) (h : Nat) (i1 : Int32) (i2 : Int32) (σ : xS) : x_run (d + 1) 204 [.inr (.inr (some h)), .inl i1, .inl i2] σ = x_b (x_run d) x_X0 x_TX (x_C 204) (x_f d 204) 3000 (x_suf (x_C 204) 0) [some (.inr (.inr (some h))), some (.inl i1), some (.inl i2), none, none, none] [] σ := x_feq d 204 0 [some (.inr (.inr (some h))), some (.inl i1), some (.inl i2), none, none, none] [] σ
theorem r205 (d : Nat) (h : Nat) (i1 : Int32) (i2 : Int32) (σ : xS) : x_run (d + 1) 205 [.inr (.inr (some h)), .inl i1, .inl i2] σ = x_b (x_run d) x_X0 x_TX (x_C 205) (x_f d 205) 3000 (x_suf (x_C 205) 0) [some (.inr (.inr (some h))), some (.inl i1), some (.inl i2), none] [] σ := x_feq d 205 0 [some (.inr (.inr (some h))), some (.inl i1), some (.inl i2), none] [] σ
theorem r206 (d : Nat) (h : Nat) (i1 : Int32) (i2 : Int32) (σ : xS) : x_run (d + 1) 206 [.inr (.inr (some h)), .inl i1, .inl i2] σ = x_b (x_run d) x_X0 x_TX (x_C 206) (x_f d 206) 3000 (x_suf (x_C 206) 0) [some (.inr (.inr (some h))), some (.inl i1), some (.inl i2), none, none, none, none, none] [] σ := x_feq d 206 0 [some (.inr (.inr (some h))), some (.inl i1), some (.inl i2), none, none, none, none, none] [] σ
theorem r207 (d : Nat) (h : Nat) (i1 : Int32) (i2 : Int32) (σ : xS) : x_run (d + 1) 207 [.inr (.inr (some h)), .inl i1, .inl i2] σ = x_b (x_run d) x_X0 x_TX (x_C 207) (x_f d 207) 3000 (x_suf (x_C 207) 0) [some (.inr (.inr (some h))), some (.inl i1), some (.inl i2)] [] σ := x_feq d 207 0 [some (.inr (.inr (some h))), some (.inl i1), some (.inl i2)] [] σ
theorem r208 (d : Nat) (h : Nat) (i1 : Int32) (i2 : Int32) (i3 : Int32) (σ : xS) : x_run (d + 1) 208 [.inr (.inr (some h)), .inl i1, .inl i2, .inl i3] σ = x_b (x_run d) x_X0 x_TX (x_C 208) (x_f d 208) 3000 (x_suf (x_C 208) 0) [some (.inr (.inr (some h))), some (.inl i1), some (.inl i2), some (.inl i3), none, none, none, none, none, none, none, none, none, none] [] σ := x_feq d 208 0 [some (.inr (.inr (some h))), some (.inl i1), some (.inl i2), some (.inl i3), none, none, none, none, none, none, none, none, none, none] [] σ
theorem r209 (d : Nat) (h : Nat) (i1 : Int32) (i2 : Int32) (σ : xS) : x_run (d + 1) 209 [.inr (.inr (some h)), .inl i1, .inl i2] σ = x_b (x_run d) x_X0 x_TX (x_C 209) (x_f d 209) 3000 (x_suf (x_C 209) 0) [some (.inr (.inr (some h))), some (.inl i1), some (.inl i2), none, none, none, none, none, none] [] σ := x_feq d 209 0 [some (.inr (.inr (some h))), some (.inl i1), some (.inl i2), none, none, none, none, none, none] [] σ
theorem r210 (d : Nat) (h : Nat) (i1 : Int32) (i2 : Int32) (i3 : Int32) (σ : xS) : x_run (d + 1) 210 [.inr (.inr (some h)), .inl i1, .inl i2, .inl i3] σ = x_b (x_run d) x_X0 x_TX (x_C 210) (x_f d 210) 3000 (x_suf (x_C 210) 0) [some (.inr (.inr (some h))), some (.inl i1), some (.inl i2), some (.inl i3), none, none, none, none, none, none, none] [] σ := x_feq d 210 0 [some (.inr (.inr (some h))), some (.inl i1), some (.inl i2), some (.inl i3), none, none, none, none, none, none, none] [] σ
theorem r211 (d : Nat) (h : Nat) (i1 : Int32) (i2 : Int32) (σ : xS) : x_run (d + 1) 211 [.inr (.inr (some h)), .inl i1, .inl i2] σ = x_b (x_run d) x_X0 x_TX (x_C 211) (x_f d 211) 3000 (x_suf (x_C 211) 0) [some (.inr (.inr (some h))), some (.inl i1), some (.inl i2), none, none, none, none, none] [] σ := x_feq d 211 0 [some (.inr (.inr (some h))), some (.inl i1), some (.inl i2), none, none, none, none, none] [] σ
theorem r212 (d : Nat) (h : Nat) (i1 : Int32) (i2 : Int32) (σ : xS) : x_run (d + 1) 212 [.inr (.inr (some h)), .inl i1, .inl i2] σ = x_b (x_run d) x_X0 x_TX (x_C 212) (x_f d 212) 3000 (x_suf (x_C 212) 0) [some (.inr (.inr (some h))), some (.inl i1), some (.inl i2)] [] σ := x_feq d 212 0 [some (.inr (.inr (some h))), some (.inl i1), some (.inl i2)] [] σ
theorem r213 (d : Nat) (h : Nat) (i1 : Int32) (i2 : Int32) (i3 : Int32) (i4 : Int32) (σ : xS) : x_run (d + 1) 213 [.inr (.inr (some h)), .inl i1, .inl i2, .inl i3, .inl i4] σ = x_b (x_run d) x_X0 x_TX (x_C 213) (x_f d 213) 3000 (x_suf (x_C 213) 0) [some (.inr (.inr (some h))), some (.inl i1), some (.inl i2), some (.inl i3), some (.inl i4), none, none, none] [] σ := x_feq d 213 0 [some (.inr (.inr (some h))), some (.inl i1), some (.inl i2), some (.inl i3), some (.inl i4), none, none, none] [] σ
theorem r214 (d : Nat) (h : Nat) (σ : xS) : x_run (d + 1) 214 [.inr (.inr (some h))] σ = x_b (x_run d) x_X0 x_TX (x_C 214) (x_f d 214) 3000 (x_suf (x_C 214) 0) [some (.inr (.inr (some h))), none] [] σ := x_feq d 214 0 [some (.inr (.inr (some h))), none] [] σ
theorem r215 (d : Nat) (h : Nat) (σ : xS) : x_run (d + 1) 215 [.inr (.inr (some h))] σ = x_b (x_run d) x_X0 x_TX (x_C 215) (x_f d 215) 3000 (x_suf (x_C 215) 0) [some (.inr (.inr (some h))), none] [] σ := x_feq d 215 0 [some (.inr (.inr (some h))), none] [] σ
theorem r216 (d : Nat) (h : Nat) (i1 : Int32) (i2 : Int32) (i3 : Int32) (σ : xS) : x_run (d + 1) 216 [.inr (.inr (some h)), .inl i1, .inl i2, .inl i3] σ = x_b (x_run d) x_X0 x_TX (x_C 216) (x_f d 216) 3000 (x_suf (x_C 216) 0) [some (.inr (.inr (some h))), some (.inl i1), some (.inl i2), some (.inl i3), none] [] σ := x_feq d 216 0 [some (.inr (.inr (some h))), some (.inl i1), some (.inl i2), some (.inl i3), none] [] σ
theorem r217 (d : Nat) (h : Nat) (i1 : Int32) (i2 : Int32) (i3 : Int32) (σ : xS) : x_run (d + 1) 217 [.inr (.inr (some h)), .inl i1, .inl i2, .inl i3] σ = x_b (x_run d) x_X0 x_TX (x_C 217) (x_f d 217) 3000 (x_suf (x_C 217) 0) [some (.inr (.inr (some h))), some (.inl i1), some (.inl i2), some (.inl i3)] [] σ := x_feq d 217 0 [some (.inr (.inr (some h))), some (.inl i1), some (.inl i2), some (.inl i3)] [] σ
theorem r218 (d : Nat) (h : Nat) (i1 : Int32) (i2 : Int32) (i3 : Int32) (i4 : Int32) (i5 : Int32) (σ : xS) : x_run (d + 1) 218 [.inr (.inr (some h)), .inl i1, .inl i2, .inl i3, .inl i4, .inl i5] σ = x_b (x_run d) x_X0 x_TX (x_C 218) (x_f d 218) 3000 (x_suf (x_C 218) 0) [some (.inr (.inr (some h))), some (.inl i1), some (.inl i2), some (.inl i3), some (.inl i4), some (.inl i5), none, none, none, none] [] σ := x_feq d 218 0 [some (.inr (.inr (some h))), some (.inl i1), some (.inl i2), some (.inl i3), some (.inl i4), some (.inl i5), none, none, none, none] [] σ
theorem r219 (d : Nat) (h : Nat) (i1 : Int32) (i2 : Int32) (i3 : Int32) (i4 : Int32) (σ : xS) : x_run (d + 1) 219 [.inr (.inr (some h)), .inl i1, .inl i2, .inl i3, .inl i4] σ = x_b (x_run d) x_X0 x_TX (x_C 219) (x_f d 219) 3000 (x_suf (x_C 219) 0) [some (.inr (.inr (some h))), some (.inl i1), some (.inl i2), some (.inl i3), some (.inl i4), none, none, none, none] [] σ := x_feq d 219 0 [some (.inr (.inr (some h))), some (.inl i1), some (.inl i2), some (.inl i3), some (.inl i4), none, none, none, none] [] σ
theorem r220 (d : Nat) (i0 : Int32) (i1 : Int32) (σ : xS) : x_run (d + 1) 220 [.inl i0, .inl i1] σ = x_b (x_run d) x_X0 x_TX (x_C 220) (x_f d 220) 3000 (x_suf (x_C 220) 0) [some (.inl i0), some (.inl i1)] [] σ := x_feq d 220 0 [some (.inl i0), some (.inl i1)] [] σ
theorem r221 (d : Nat) (h : Nat) (i1 : Int32) (σ : xS) : x_run (d + 1) 221 [.inr (.inr (some h)), .inl i1] σ = x_b (x_run d) x_X0 x_TX (x_C 221) (x_f d 221) 3000 (x_suf (x_C 221) 0) [some (.inr (.inr (some h))), some (.inl i1), none] [] σ := x_feq d 221 0 [some (.inr (.inr (some h))), some (.inl i1), none] [] σ
theorem r222 (d : Nat) (h : Nat) (i1 : Int32) (i2 : Int32) (σ : xS) : x_run (d + 1) 222 [.inr (.inr (some h)), .inl i1, .inl i2] σ = x_b (x_run d) x_X0 x_TX (x_C 222) (x_f d 222) 3000 (x_suf (x_C 222) 0) [some (.inr (.inr (some h))), some (.inl i1), some (.inl i2)] [] σ := x_feq d 222 0 [some (.inr (.inr (some h))), some (.inl i1), some (.inl i2)] [] σ
end
