/-! the rows of methods 80 to 119 pass the check -/
set_option maxRecDepth 1000000 in
theorem x_jc_81 : ∀ j, j < 81 → x_jchk j = true := x_lt_step x_jc_80 (show x_jchk 80 = true by decide +kernel)
set_option maxRecDepth 1000000 in
theorem x_jc_82 : ∀ j, j < 82 → x_jchk j = true := x_lt_step x_jc_81 (show x_jchk 81 = true by decide +kernel)
set_option maxRecDepth 1000000 in
theorem x_jc_83 : ∀ j, j < 83 → x_jchk j = true := x_lt_step x_jc_82 (show x_jchk 82 = true by decide +kernel)
set_option maxRecDepth 1000000 in
theorem x_jc_84 : ∀ j, j < 84 → x_jchk j = true := x_lt_step x_jc_83 (show x_jchk 83 = true by decide +kernel)
set_option maxRecDepth 1000000 in
theorem x_jc_85 : ∀ j, j < 85 → x_jchk j = true := x_lt_step x_jc_84 (show x_jchk 84 = true by decide +kernel)
set_option maxRecDepth 1000000 in
theorem x_jc_86 : ∀ j, j < 86 → x_jchk j = true := x_lt_step x_jc_85 (show x_jchk 85 = true by decide +kernel)
set_option maxRecDepth 1000000 in
theorem x_jc_87 : ∀ j, j < 87 → x_jchk j = true := x_lt_step x_jc_86 (show x_jchk 86 = true by decide +kernel)
set_option maxRecDepth 1000000 in
theorem x_jc_88 : ∀ j, j < 88 → x_jchk j = true := x_lt_step x_jc_87 (show x_jchk 87 = true by decide +kernel)
set_option maxRecDepth 1000000 in
theorem x_jc_89 : ∀ j, j < 89 → x_jchk j = true := x_lt_step x_jc_88 (show x_jchk 88 = true by decide +kernel)
set_option maxRecDepth 1000000 in
theorem x_jc_90 : ∀ j, j < 90 → x_jchk j = true := x_lt_step x_jc_89 (show x_jchk 89 = true by decide +kernel)
set_option maxRecDepth 1000000 in
theorem x_jc_91 : ∀ j, j < 91 → x_jchk j = true := x_lt_step x_jc_90 (show x_jchk 90 = true by decide +kernel)
set_option maxRecDepth 1000000 in
theorem x_jc_92 : ∀ j, j < 92 → x_jchk j = true := x_lt_step x_jc_91 (show x_jchk 91 = true by decide +kernel)
set_option maxRecDepth 1000000 in
theorem x_jc_93 : ∀ j, j < 93 → x_jchk j = true := x_lt_step x_jc_92 (show x_jchk 92 = true by decide +kernel)
set_option maxRecDepth 1000000 in
theorem x_jc_94 : ∀ j, j < 94 → x_jchk j = true := x_lt_step x_jc_93 (show x_jchk 93 = true by decide +kernel)
set_option maxRecDepth 1000000 in
theorem x_jc_95 : ∀ j, j < 95 → x_jchk j = true := x_lt_step x_jc_94 (show x_jchk 94 = true by decide +kernel)
set_option maxRecDepth 1000000 in
theorem x_jc_96 : ∀ j, j < 96 → x_jchk j = true := x_lt_step x_jc_95 (show x_jchk 95 = true by decide +kernel)
set_option maxRecDepth 1000000 in
theorem x_jc_97 : ∀ j, j < 97 → x_jchk j = true := x_lt_step x_jc_96 (show x_jchk 96 = true by decide +kernel)
set_option maxRecDepth 1000000 in
theorem x_jc_98 : ∀ j, j < 98 → x_jchk j = true := x_lt_step x_jc_97 (show x_jchk 97 = true by decide +kernel)
set_option maxRecDepth 1000000 in
theorem x_jc_99 : ∀ j, j < 99 → x_jchk j = true := x_lt_step x_jc_98 (show x_jchk 98 = true by decide +kernel)
set_option maxRecDepth 1000000 in
theorem x_jc_100 : ∀ j, j < 100 → x_jchk j = true := x_lt_step x_jc_99 (show x_jchk 99 = true by decide +kernel)
set_option maxRecDepth 1000000 in
theorem x_jc_101 : ∀ j, j < 101 → x_jchk j = true := x_lt_step x_jc_100 (show x_jchk 100 = true by decide +kernel)
set_option maxRecDepth 1000000 in
theorem x_jc_102 : ∀ j, j < 102 → x_jchk j = true := x_lt_step x_jc_101 (show x_jchk 101 = true by decide +kernel)
set_option maxRecDepth 1000000 in
theorem x_jc_103 : ∀ j, j < 103 → x_jchk j = true := x_lt_step x_jc_102 (show x_jchk 102 = true by decide +kernel)
set_option maxRecDepth 1000000 in
theorem x_jc_104 : ∀ j, j < 104 → x_jchk j = true := x_lt_step x_jc_103 (show x_jchk 103 = true by decide +kernel)
set_option maxRecDepth 1000000 in
theorem x_jc_105 : ∀ j, j < 105 → x_jchk j = true := x_lt_step x_jc_104 (show x_jchk 104 = true by decide +kernel)
set_option maxRecDepth 1000000 in
theorem x_jc_106 : ∀ j, j < 106 → x_jchk j = true := x_lt_step x_jc_105 (show x_jchk 105 = true by decide +kernel)
set_option maxRecDepth 1000000 in
theorem x_jc_107 : ∀ j, j < 107 → x_jchk j = true := x_lt_step x_jc_106 (show x_jchk 106 = true by decide +kernel)
set_option maxRecDepth 1000000 in
theorem x_jc_108 : ∀ j, j < 108 → x_jchk j = true := x_lt_step x_jc_107 (show x_jchk 107 = true by decide +kernel)
set_option maxRecDepth 1000000 in
theorem x_jc_109 : ∀ j, j < 109 → x_jchk j = true := x_lt_step x_jc_108 (show x_jchk 108 = true by decide +kernel)
set_option maxRecDepth 1000000 in
theorem x_jc_110 : ∀ j, j < 110 → x_jchk j = true := x_lt_step x_jc_109 (show x_jchk 109 = true by decide +kernel)
set_option maxRecDepth 1000000 in
theorem x_jc_111 : ∀ j, j < 111 → x_jchk j = true := x_lt_step x_jc_110 (show x_jchk 110 = true by decide +kernel)
set_option maxRecDepth 1000000 in
theorem x_jc_112 : ∀ j, j < 112 → x_jchk j = true := x_lt_step x_jc_111 (show x_jchk 111 = true by decide +kernel)
set_option maxRecDepth 1000000 in
theorem x_jc_113 : ∀ j, j < 113 → x_jchk j = true := x_lt_step x_jc_112 (show x_jchk 112 = true by decide +kernel)
set_option maxRecDepth 1000000 in
theorem x_jc_114 : ∀ j, j < 114 → x_jchk j = true := x_lt_step x_jc_113 (show x_jchk 113 = true by decide +kernel)
set_option maxRecDepth 1000000 in
theorem x_jc_115 : ∀ j, j < 115 → x_jchk j = true := x_lt_step x_jc_114 (show x_jchk 114 = true by decide +kernel)
set_option maxRecDepth 1000000 in
theorem x_jc_116 : ∀ j, j < 116 → x_jchk j = true := x_lt_step x_jc_115 (show x_jchk 115 = true by decide +kernel)
set_option maxRecDepth 1000000 in
theorem x_jc_117 : ∀ j, j < 117 → x_jchk j = true := x_lt_step x_jc_116 (show x_jchk 116 = true by decide +kernel)
set_option maxRecDepth 1000000 in
theorem x_jc_118 : ∀ j, j < 118 → x_jchk j = true := x_lt_step x_jc_117 (show x_jchk 117 = true by decide +kernel)
set_option maxRecDepth 1000000 in
theorem x_jc_119 : ∀ j, j < 119 → x_jchk j = true := x_lt_step x_jc_118 (show x_jchk 118 = true by decide +kernel)
set_option maxRecDepth 1000000 in
theorem x_jc_120 : ∀ j, j < 120 → x_jchk j = true := x_lt_step x_jc_119 (show x_jchk 119 = true by decide +kernel)
