/-! the rows of methods 0 to 79 pass the check -/
theorem x_jc_0 : ∀ j, j < 0 → x_jchk j = true := fun j h => absurd h (by omega)
set_option maxRecDepth 1000000 in
theorem x_jc_1 : ∀ j, j < 1 → x_jchk j = true := x_lt_step x_jc_0 (show x_jchk 0 = true by decide +kernel)
set_option maxRecDepth 1000000 in
theorem x_jc_2 : ∀ j, j < 2 → x_jchk j = true := x_lt_step x_jc_1 (show x_jchk 1 = true by decide +kernel)
set_option maxRecDepth 1000000 in
theorem x_jc_3 : ∀ j, j < 3 → x_jchk j = true := x_lt_step x_jc_2 (show x_jchk 2 = true by decide +kernel)
set_option maxRecDepth 1000000 in
theorem x_jc_4 : ∀ j, j < 4 → x_jchk j = true := x_lt_step x_jc_3 (show x_jchk 3 = true by decide +kernel)
set_option maxRecDepth 1000000 in
theorem x_jc_5 : ∀ j, j < 5 → x_jchk j = true := x_lt_step x_jc_4 (show x_jchk 4 = true by decide +kernel)
set_option maxRecDepth 1000000 in
theorem x_jc_6 : ∀ j, j < 6 → x_jchk j = true := x_lt_step x_jc_5 (show x_jchk 5 = true by decide +kernel)
set_option maxRecDepth 1000000 in
theorem x_jc_7 : ∀ j, j < 7 → x_jchk j = true := x_lt_step x_jc_6 (show x_jchk 6 = true by decide +kernel)
set_option maxRecDepth 1000000 in
theorem x_jc_8 : ∀ j, j < 8 → x_jchk j = true := x_lt_step x_jc_7 (show x_jchk 7 = true by decide +kernel)
set_option maxRecDepth 1000000 in
theorem x_jc_9 : ∀ j, j < 9 → x_jchk j = true := x_lt_step x_jc_8 (show x_jchk 8 = true by decide +kernel)
set_option maxRecDepth 1000000 in
theorem x_jc_10 : ∀ j, j < 10 → x_jchk j = true := x_lt_step x_jc_9 (show x_jchk 9 = true by decide +kernel)
set_option maxRecDepth 1000000 in
theorem x_jc_11 : ∀ j, j < 11 → x_jchk j = true := x_lt_step x_jc_10 (show x_jchk 10 = true by decide +kernel)
set_option maxRecDepth 1000000 in
theorem x_jc_12 : ∀ j, j < 12 → x_jchk j = true := x_lt_step x_jc_11 (show x_jchk 11 = true by decide +kernel)
set_option maxRecDepth 1000000 in
theorem x_jc_13 : ∀ j, j < 13 → x_jchk j = true := x_lt_step x_jc_12 (show x_jchk 12 = true by decide +kernel)
set_option maxRecDepth 1000000 in
theorem x_jc_14 : ∀ j, j < 14 → x_jchk j = true := x_lt_step x_jc_13 (show x_jchk 13 = true by decide +kernel)
set_option maxRecDepth 1000000 in
theorem x_jc_15 : ∀ j, j < 15 → x_jchk j = true := x_lt_step x_jc_14 (show x_jchk 14 = true by decide +kernel)
set_option maxRecDepth 1000000 in
theorem x_jc_16 : ∀ j, j < 16 → x_jchk j = true := x_lt_step x_jc_15 (show x_jchk 15 = true by decide +kernel)
set_option maxRecDepth 1000000 in
theorem x_jc_17 : ∀ j, j < 17 → x_jchk j = true := x_lt_step x_jc_16 (show x_jchk 16 = true by decide +kernel)
set_option maxRecDepth 1000000 in
theorem x_jc_18 : ∀ j, j < 18 → x_jchk j = true := x_lt_step x_jc_17 (show x_jchk 17 = true by decide +kernel)
set_option maxRecDepth 1000000 in
theorem x_jc_19 : ∀ j, j < 19 → x_jchk j = true := x_lt_step x_jc_18 (show x_jchk 18 = true by decide +kernel)
set_option maxRecDepth 1000000 in
theorem x_jc_20 : ∀ j, j < 20 → x_jchk j = true := x_lt_step x_jc_19 (show x_jchk 19 = true by decide +kernel)
set_option maxRecDepth 1000000 in
theorem x_jc_21 : ∀ j, j < 21 → x_jchk j = true := x_lt_step x_jc_20 (show x_jchk 20 = true by decide +kernel)
set_option maxRecDepth 1000000 in
theorem x_jc_22 : ∀ j, j < 22 → x_jchk j = true := x_lt_step x_jc_21 (show x_jchk 21 = true by decide +kernel)
set_option maxRecDepth 1000000 in
theorem x_jc_23 : ∀ j, j < 23 → x_jchk j = true := x_lt_step x_jc_22 (show x_jchk 22 = true by decide +kernel)
set_option maxRecDepth 1000000 in
theorem x_jc_24 : ∀ j, j < 24 → x_jchk j = true := x_lt_step x_jc_23 (show x_jchk 23 = true by decide +kernel)
set_option maxRecDepth 1000000 in
theorem x_jc_25 : ∀ j, j < 25 → x_jchk j = true := x_lt_step x_jc_24 (show x_jchk 24 = true by decide +kernel)
set_option maxRecDepth 1000000 in
theorem x_jc_26 : ∀ j, j < 26 → x_jchk j = true := x_lt_step x_jc_25 (show x_jchk 25 = true by decide +kernel)
set_option maxRecDepth 1000000 in
theorem x_jc_27 : ∀ j, j < 27 → x_jchk j = true := x_lt_step x_jc_26 (show x_jchk 26 = true by decide +kernel)
set_option maxRecDepth 1000000 in
theorem x_jc_28 : ∀ j, j < 28 → x_jchk j = true := x_lt_step x_jc_27 (show x_jchk 27 = true by decide +kernel)
set_option maxRecDepth 1000000 in
theorem x_jc_29 : ∀ j, j < 29 → x_jchk j = true := x_lt_step x_jc_28 (show x_jchk 28 = true by decide +kernel)
set_option maxRecDepth 1000000 in
theorem x_jc_30 : ∀ j, j < 30 → x_jchk j = true := x_lt_step x_jc_29 (show x_jchk 29 = true by decide +kernel)
set_option maxRecDepth 1000000 in
theorem x_jc_31 : ∀ j, j < 31 → x_jchk j = true := x_lt_step x_jc_30 (show x_jchk 30 = true by decide +kernel)
set_option maxRecDepth 1000000 in
theorem x_jc_32 : ∀ j, j < 32 → x_jchk j = true := x_lt_step x_jc_31 (show x_jchk 31 = true by decide +kernel)
set_option maxRecDepth 1000000 in
theorem x_jc_33 : ∀ j, j < 33 → x_jchk j = true := x_lt_step x_jc_32 (show x_jchk 32 = true by decide +kernel)
set_option maxRecDepth 1000000 in
theorem x_jc_34 : ∀ j, j < 34 → x_jchk j = true := x_lt_step x_jc_33 (show x_jchk 33 = true by decide +kernel)
set_option maxRecDepth 1000000 in
theorem x_jc_35 : ∀ j, j < 35 → x_jchk j = true := x_lt_step x_jc_34 (show x_jchk 34 = true by decide +kernel)
set_option maxRecDepth 1000000 in
theorem x_jc_36 : ∀ j, j < 36 → x_jchk j = true := x_lt_step x_jc_35 (show x_jchk 35 = true by decide +kernel)
set_option maxRecDepth 1000000 in
theorem x_jc_37 : ∀ j, j < 37 → x_jchk j = true := x_lt_step x_jc_36 (show x_jchk 36 = true by decide +kernel)
set_option maxRecDepth 1000000 in
theorem x_jc_38 : ∀ j, j < 38 → x_jchk j = true := x_lt_step x_jc_37 (show x_jchk 37 = true by decide +kernel)
set_option maxRecDepth 1000000 in
theorem x_jc_39 : ∀ j, j < 39 → x_jchk j = true := x_lt_step x_jc_38 (show x_jchk 38 = true by decide +kernel)
set_option maxRecDepth 1000000 in
theorem x_jc_40 : ∀ j, j < 40 → x_jchk j = true := x_lt_step x_jc_39 (show x_jchk 39 = true by decide +kernel)
set_option maxRecDepth 1000000 in
theorem x_jc_41 : ∀ j, j < 41 → x_jchk j = true := x_lt_step x_jc_40 (show x_jchk 40 = true by decide +kernel)
set_option maxRecDepth 1000000 in
theorem x_jc_42 : ∀ j, j < 42 → x_jchk j = true := x_lt_step x_jc_41 (show x_jchk 41 = true by decide +kernel)
set_option maxRecDepth 1000000 in
theorem x_jc_43 : ∀ j, j < 43 → x_jchk j = true := x_lt_step x_jc_42 (show x_jchk 42 = true by decide +kernel)
set_option maxRecDepth 1000000 in
theorem x_jc_44 : ∀ j, j < 44 → x_jchk j = true := x_lt_step x_jc_43 (show x_jchk 43 = true by decide +kernel)
set_option maxRecDepth 1000000 in
theorem x_jc_45 : ∀ j, j < 45 → x_jchk j = true := x_lt_step x_jc_44 (show x_jchk 44 = true by decide +kernel)
set_option maxRecDepth 1000000 in
theorem x_jc_46 : ∀ j, j < 46 → x_jchk j = true := x_lt_step x_jc_45 (show x_jchk 45 = true by decide +kernel)
set_option maxRecDepth 1000000 in
theorem x_jc_47 : ∀ j, j < 47 → x_jchk j = true := x_lt_step x_jc_46 (show x_jchk 46 = true by decide +kernel)
set_option maxRecDepth 1000000 in
theorem x_jc_48 : ∀ j, j < 48 → x_jchk j = true := x_lt_step x_jc_47 (show x_jchk 47 = true by decide +kernel)
set_option maxRecDepth 1000000 in
theorem x_jc_49 : ∀ j, j < 49 → x_jchk j = true := x_lt_step x_jc_48 (show x_jchk 48 = true by decide +kernel)
set_option maxRecDepth 1000000 in
theorem x_jc_50 : ∀ j, j < 50 → x_jchk j = true := x_lt_step x_jc_49 (show x_jchk 49 = true by decide +kernel)
set_option maxRecDepth 1000000 in
theorem x_jc_51 : ∀ j, j < 51 → x_jchk j = true := x_lt_step x_jc_50 (show x_jchk 50 = true by decide +kernel)
set_option maxRecDepth 1000000 in
theorem x_jc_52 : ∀ j, j < 52 → x_jchk j = true := x_lt_step x_jc_51 (show x_jchk 51 = true by decide +kernel)
set_option maxRecDepth 1000000 in
theorem x_jc_53 : ∀ j, j < 53 → x_jchk j = true := x_lt_step x_jc_52 (show x_jchk 52 = true by decide +kernel)
set_option maxRecDepth 1000000 in
theorem x_jc_54 : ∀ j, j < 54 → x_jchk j = true := x_lt_step x_jc_53 (show x_jchk 53 = true by decide +kernel)
set_option maxRecDepth 1000000 in
theorem x_jc_55 : ∀ j, j < 55 → x_jchk j = true := x_lt_step x_jc_54 (show x_jchk 54 = true by decide +kernel)
set_option maxRecDepth 1000000 in
theorem x_jc_56 : ∀ j, j < 56 → x_jchk j = true := x_lt_step x_jc_55 (show x_jchk 55 = true by decide +kernel)
set_option maxRecDepth 1000000 in
theorem x_jc_57 : ∀ j, j < 57 → x_jchk j = true := x_lt_step x_jc_56 (show x_jchk 56 = true by decide +kernel)
set_option maxRecDepth 1000000 in
theorem x_jc_58 : ∀ j, j < 58 → x_jchk j = true := x_lt_step x_jc_57 (show x_jchk 57 = true by decide +kernel)
set_option maxRecDepth 1000000 in
theorem x_jc_59 : ∀ j, j < 59 → x_jchk j = true := x_lt_step x_jc_58 (show x_jchk 58 = true by decide +kernel)
set_option maxRecDepth 1000000 in
theorem x_jc_60 : ∀ j, j < 60 → x_jchk j = true := x_lt_step x_jc_59 (show x_jchk 59 = true by decide +kernel)
set_option maxRecDepth 1000000 in
theorem x_jc_61 : ∀ j, j < 61 → x_jchk j = true := x_lt_step x_jc_60 (show x_jchk 60 = true by decide +kernel)
set_option maxRecDepth 1000000 in
theorem x_jc_62 : ∀ j, j < 62 → x_jchk j = true := x_lt_step x_jc_61 (show x_jchk 61 = true by decide +kernel)
set_option maxRecDepth 1000000 in
theorem x_jc_63 : ∀ j, j < 63 → x_jchk j = true := x_lt_step x_jc_62 (show x_jchk 62 = true by decide +kernel)
set_option maxRecDepth 1000000 in
theorem x_jc_64 : ∀ j, j < 64 → x_jchk j = true := x_lt_step x_jc_63 (show x_jchk 63 = true by decide +kernel)
set_option maxRecDepth 1000000 in
theorem x_jc_65 : ∀ j, j < 65 → x_jchk j = true := x_lt_step x_jc_64 (show x_jchk 64 = true by decide +kernel)
set_option maxRecDepth 1000000 in
theorem x_jc_66 : ∀ j, j < 66 → x_jchk j = true := x_lt_step x_jc_65 (show x_jchk 65 = true by decide +kernel)
set_option maxRecDepth 1000000 in
theorem x_jc_67 : ∀ j, j < 67 → x_jchk j = true := x_lt_step x_jc_66 (show x_jchk 66 = true by decide +kernel)
set_option maxRecDepth 1000000 in
theorem x_jc_68 : ∀ j, j < 68 → x_jchk j = true := x_lt_step x_jc_67 (show x_jchk 67 = true by decide +kernel)
set_option maxRecDepth 1000000 in
theorem x_jc_69 : ∀ j, j < 69 → x_jchk j = true := x_lt_step x_jc_68 (show x_jchk 68 = true by decide +kernel)
set_option maxRecDepth 1000000 in
theorem x_jc_70 : ∀ j, j < 70 → x_jchk j = true := x_lt_step x_jc_69 (show x_jchk 69 = true by decide +kernel)
set_option maxRecDepth 1000000 in
theorem x_jc_71 : ∀ j, j < 71 → x_jchk j = true := x_lt_step x_jc_70 (show x_jchk 70 = true by decide +kernel)
set_option maxRecDepth 1000000 in
theorem x_jc_72 : ∀ j, j < 72 → x_jchk j = true := x_lt_step x_jc_71 (show x_jchk 71 = true by decide +kernel)
set_option maxRecDepth 1000000 in
theorem x_jc_73 : ∀ j, j < 73 → x_jchk j = true := x_lt_step x_jc_72 (show x_jchk 72 = true by decide +kernel)
set_option maxRecDepth 1000000 in
theorem x_jc_74 : ∀ j, j < 74 → x_jchk j = true := x_lt_step x_jc_73 (show x_jchk 73 = true by decide +kernel)
set_option maxRecDepth 1000000 in
theorem x_jc_75 : ∀ j, j < 75 → x_jchk j = true := x_lt_step x_jc_74 (show x_jchk 74 = true by decide +kernel)
set_option maxRecDepth 1000000 in
theorem x_jc_76 : ∀ j, j < 76 → x_jchk j = true := x_lt_step x_jc_75 (show x_jchk 75 = true by decide +kernel)
set_option maxRecDepth 1000000 in
theorem x_jc_77 : ∀ j, j < 77 → x_jchk j = true := x_lt_step x_jc_76 (show x_jchk 76 = true by decide +kernel)
set_option maxRecDepth 1000000 in
theorem x_jc_78 : ∀ j, j < 78 → x_jchk j = true := x_lt_step x_jc_77 (show x_jchk 77 = true by decide +kernel)
set_option maxRecDepth 1000000 in
theorem x_jc_79 : ∀ j, j < 79 → x_jchk j = true := x_lt_step x_jc_78 (show x_jchk 78 = true by decide +kernel)
set_option maxRecDepth 1000000 in
theorem x_jc_80 : ∀ j, j < 80 → x_jchk j = true := x_lt_step x_jc_79 (show x_jchk 79 = true by decide +kernel)
