/-! the rows of methods 120 to 159 pass the check -/
set_option maxRecDepth 1000000 in
theorem x_jc_121 : ∀ j, j < 121 → x_jchk j = true := x_lt_step x_jc_120 (show x_jchk 120 = true by decide +kernel)
set_option maxRecDepth 1000000 in
theorem x_jc_122 : ∀ j, j < 122 → x_jchk j = true := x_lt_step x_jc_121 (show x_jchk 121 = true by decide +kernel)
set_option maxRecDepth 1000000 in
theorem x_jc_123 : ∀ j, j < 123 → x_jchk j = true := x_lt_step x_jc_122 (show x_jchk 122 = true by decide +kernel)
set_option maxRecDepth 1000000 in
theorem x_jc_124 : ∀ j, j < 124 → x_jchk j = true := x_lt_step x_jc_123 (show x_jchk 123 = true by decide +kernel)
set_option maxRecDepth 1000000 in
theorem x_jc_125 : ∀ j, j < 125 → x_jchk j = true := x_lt_step x_jc_124 (show x_jchk 124 = true by decide +kernel)
set_option maxRecDepth 1000000 in
theorem x_jc_126 : ∀ j, j < 126 → x_jchk j = true := x_lt_step x_jc_125 (show x_jchk 125 = true by decide +kernel)
set_option maxRecDepth 1000000 in
theorem x_jc_127 : ∀ j, j < 127 → x_jchk j = true := x_lt_step x_jc_126 (show x_jchk 126 = true by decide +kernel)
set_option maxRecDepth 1000000 in
theorem x_jc_128 : ∀ j, j < 128 → x_jchk j = true := x_lt_step x_jc_127 (show x_jchk 127 = true by decide +kernel)
set_option maxRecDepth 1000000 in
theorem x_jc_129 : ∀ j, j < 129 → x_jchk j = true := x_lt_step x_jc_128 (show x_jchk 128 = true by decide +kernel)
set_option maxRecDepth 1000000 in
theorem x_jc_130 : ∀ j, j < 130 → x_jchk j = true := x_lt_step x_jc_129 (show x_jchk 129 = true by decide +kernel)
set_option maxRecDepth 1000000 in
theorem x_jc_131 : ∀ j, j < 131 → x_jchk j = true := x_lt_step x_jc_130 (show x_jchk 130 = true by decide +kernel)
set_option maxRecDepth 1000000 in
theorem x_jc_132 : ∀ j, j < 132 → x_jchk j = true := x_lt_step x_jc_131 (show x_jchk 131 = true by decide +kernel)
set_option maxRecDepth 1000000 in
theorem x_jp_132_0 : ((x_C 132).take 100).all (x_rj 132) = true := by decide +kernel
set_option maxRecDepth 1000000 in
theorem x_jp_132_1 : (((x_C 132).drop 100).take 100).all (x_rj 132) = true := by decide +kernel
set_option maxRecDepth 1000000 in
theorem x_jp_132_2 : (((x_C 132).drop 200).take 100).all (x_rj 132) = true := by decide +kernel
set_option maxRecDepth 1000000 in
theorem x_jp_132_3 : (((x_C 132).drop 300).take 100).all (x_rj 132) = true := by decide +kernel
set_option maxRecDepth 1000000 in
theorem x_jp_132_4 : (((x_C 132).drop 400).take 100).all (x_rj 132) = true := by decide +kernel
set_option maxRecDepth 1000000 in
theorem x_jp_132_5 : (((x_C 132).drop 500).take 100).all (x_rj 132) = true := by decide +kernel
set_option maxRecDepth 1000000 in
theorem x_jp_132_6 : (((x_C 132).drop 600).take 100).all (x_rj 132) = true := by decide +kernel
set_option maxRecDepth 1000000 in
theorem x_jp_132_7 : (((x_C 132).drop 700)).all (x_rj 132) = true := by decide +kernel
set_option maxRecDepth 1000000 in
theorem x_jd_132 : x_chc (x_C 132) = true := by decide +kernel
theorem x_ja_132 : (x_C 132).all (x_rj 132) = true := (x_all_cut (x_rj 132) 100 (x_C 132) x_jp_132_0 (show ((x_C 132).drop 100).all (x_rj 132) = true by exact (x_all_cut (x_rj 132) 100 ((x_C 132).drop 100) x_jp_132_1 (show (((x_C 132).drop 100).drop 100).all (x_rj 132) = true by rw [List.drop_drop]; exact (x_all_cut (x_rj 132) 100 ((x_C 132).drop 200) x_jp_132_2 (show (((x_C 132).drop 200).drop 100).all (x_rj 132) = true by rw [List.drop_drop]; exact (x_all_cut (x_rj 132) 100 ((x_C 132).drop 300) x_jp_132_3 (show (((x_C 132).drop 300).drop 100).all (x_rj 132) = true by rw [List.drop_drop]; exact (x_all_cut (x_rj 132) 100 ((x_C 132).drop 400) x_jp_132_4 (show (((x_C 132).drop 400).drop 100).all (x_rj 132) = true by rw [List.drop_drop]; exact (x_all_cut (x_rj 132) 100 ((x_C 132).drop 500) x_jp_132_5 (show (((x_C 132).drop 500).drop 100).all (x_rj 132) = true by rw [List.drop_drop]; exact (x_all_cut (x_rj 132) 100 ((x_C 132).drop 600) x_jp_132_6 (show (((x_C 132).drop 600).drop 100).all (x_rj 132) = true by rw [List.drop_drop]; exact x_jp_132_7))))))))))))))
theorem x_jc_133 : ∀ j, j < 133 → x_jchk j = true := x_lt_step x_jc_132 (by show ((x_C 132).all (x_rj 132) && x_chc (x_C 132)) = true; rw [x_ja_132, x_jd_132]; rfl)
set_option maxRecDepth 1000000 in
theorem x_jc_134 : ∀ j, j < 134 → x_jchk j = true := x_lt_step x_jc_133 (show x_jchk 133 = true by decide +kernel)
set_option maxRecDepth 1000000 in
theorem x_jc_135 : ∀ j, j < 135 → x_jchk j = true := x_lt_step x_jc_134 (show x_jchk 134 = true by decide +kernel)
set_option maxRecDepth 1000000 in
theorem x_jc_136 : ∀ j, j < 136 → x_jchk j = true := x_lt_step x_jc_135 (show x_jchk 135 = true by decide +kernel)
set_option maxRecDepth 1000000 in
theorem x_jc_137 : ∀ j, j < 137 → x_jchk j = true := x_lt_step x_jc_136 (show x_jchk 136 = true by decide +kernel)
set_option maxRecDepth 1000000 in
theorem x_jc_138 : ∀ j, j < 138 → x_jchk j = true := x_lt_step x_jc_137 (show x_jchk 137 = true by decide +kernel)
set_option maxRecDepth 1000000 in
theorem x_jc_139 : ∀ j, j < 139 → x_jchk j = true := x_lt_step x_jc_138 (show x_jchk 138 = true by decide +kernel)
set_option maxRecDepth 1000000 in
theorem x_jc_140 : ∀ j, j < 140 → x_jchk j = true := x_lt_step x_jc_139 (show x_jchk 139 = true by decide +kernel)
set_option maxRecDepth 1000000 in
theorem x_jc_141 : ∀ j, j < 141 → x_jchk j = true := x_lt_step x_jc_140 (show x_jchk 140 = true by decide +kernel)
set_option maxRecDepth 1000000 in
theorem x_jp_141_0 : ((x_C 141).take 100).all (x_rj 141) = true := by decide +kernel
set_option maxRecDepth 1000000 in
theorem x_jp_141_1 : (((x_C 141).drop 100).take 100).all (x_rj 141) = true := by decide +kernel
set_option maxRecDepth 1000000 in
theorem x_jp_141_2 : (((x_C 141).drop 200)).all (x_rj 141) = true := by decide +kernel
set_option maxRecDepth 1000000 in
theorem x_jd_141 : x_chc (x_C 141) = true := by decide +kernel
theorem x_ja_141 : (x_C 141).all (x_rj 141) = true := (x_all_cut (x_rj 141) 100 (x_C 141) x_jp_141_0 (show ((x_C 141).drop 100).all (x_rj 141) = true by exact (x_all_cut (x_rj 141) 100 ((x_C 141).drop 100) x_jp_141_1 (show (((x_C 141).drop 100).drop 100).all (x_rj 141) = true by rw [List.drop_drop]; exact x_jp_141_2))))
theorem x_jc_142 : ∀ j, j < 142 → x_jchk j = true := x_lt_step x_jc_141 (by show ((x_C 141).all (x_rj 141) && x_chc (x_C 141)) = true; rw [x_ja_141, x_jd_141]; rfl)
set_option maxRecDepth 1000000 in
theorem x_jc_143 : ∀ j, j < 143 → x_jchk j = true := x_lt_step x_jc_142 (show x_jchk 142 = true by decide +kernel)
set_option maxRecDepth 1000000 in
theorem x_jc_144 : ∀ j, j < 144 → x_jchk j = true := x_lt_step x_jc_143 (show x_jchk 143 = true by decide +kernel)
set_option maxRecDepth 1000000 in
theorem x_jc_145 : ∀ j, j < 145 → x_jchk j = true := x_lt_step x_jc_144 (show x_jchk 144 = true by decide +kernel)
set_option maxRecDepth 1000000 in
theorem x_jc_146 : ∀ j, j < 146 → x_jchk j = true := x_lt_step x_jc_145 (show x_jchk 145 = true by decide +kernel)
set_option maxRecDepth 1000000 in
theorem x_jc_147 : ∀ j, j < 147 → x_jchk j = true := x_lt_step x_jc_146 (show x_jchk 146 = true by decide +kernel)
set_option maxRecDepth 1000000 in
theorem x_jc_148 : ∀ j, j < 148 → x_jchk j = true := x_lt_step x_jc_147 (show x_jchk 147 = true by decide +kernel)
set_option maxRecDepth 1000000 in
theorem x_jc_149 : ∀ j, j < 149 → x_jchk j = true := x_lt_step x_jc_148 (show x_jchk 148 = true by decide +kernel)
set_option maxRecDepth 1000000 in
theorem x_jc_150 : ∀ j, j < 150 → x_jchk j = true := x_lt_step x_jc_149 (show x_jchk 149 = true by decide +kernel)
set_option maxRecDepth 1000000 in
theorem x_jc_151 : ∀ j, j < 151 → x_jchk j = true := x_lt_step x_jc_150 (show x_jchk 150 = true by decide +kernel)
set_option maxRecDepth 1000000 in
theorem x_jc_152 : ∀ j, j < 152 → x_jchk j = true := x_lt_step x_jc_151 (show x_jchk 151 = true by decide +kernel)
set_option maxRecDepth 1000000 in
theorem x_jc_153 : ∀ j, j < 153 → x_jchk j = true := x_lt_step x_jc_152 (show x_jchk 152 = true by decide +kernel)
set_option maxRecDepth 1000000 in
theorem x_jc_154 : ∀ j, j < 154 → x_jchk j = true := x_lt_step x_jc_153 (show x_jchk 153 = true by decide +kernel)
set_option maxRecDepth 1000000 in
theorem x_jc_155 : ∀ j, j < 155 → x_jchk j = true := x_lt_step x_jc_154 (show x_jchk 154 = true by decide +kernel)
set_option maxRecDepth 1000000 in
theorem x_jc_156 : ∀ j, j < 156 → x_jchk j = true := x_lt_step x_jc_155 (show x_jchk 155 = true by decide +kernel)
set_option maxRecDepth 1000000 in
theorem x_jc_157 : ∀ j, j < 157 → x_jchk j = true := x_lt_step x_jc_156 (show x_jchk 156 = true by decide +kernel)
set_option maxRecDepth 1000000 in
theorem x_jc_158 : ∀ j, j < 158 → x_jchk j = true := x_lt_step x_jc_157 (show x_jchk 157 = true by decide +kernel)
set_option maxRecDepth 1000000 in
theorem x_jc_159 : ∀ j, j < 159 → x_jchk j = true := x_lt_step x_jc_158 (show x_jchk 158 = true by decide +kernel)
set_option maxRecDepth 1000000 in
theorem x_jc_160 : ∀ j, j < 160 → x_jchk j = true := x_lt_step x_jc_159 (show x_jchk 159 = true by decide +kernel)
