theorem ox_102 {a0 : Int} (h0 : ¬ ((3 : Int) ≤ a0)) (h1 : 0 ≤ a0 ∧ a0 ≤ 3) : 0 ≤ a0 ∧ a0 < 3 := by omega
theorem ox_103 {a0 : Int} (h0 : -2147483648 ≤ a0 ∧ a0 < 2147483648) (h1 : ¬ ((3 : Int) ≤ a0)) (h2 : 0 ≤ a0 ∧ a0 ≤ 3) : -2147483648 ≤ a0 + 1 ∧ a0 + 1 < 2147483648 := by omega
theorem ox_104 {a0 a1 : Int} (h0 : ¬ ((3 : Int) ≤ a1)) (h1 : a0 = a1 + 1) (h2 : 0 ≤ a1 ∧ a1 ≤ 3) : 0 ≤ a0 ∧ a0 ≤ 3 := by omega
theorem ox_105 {a0 a1 : Int} (h0 : ¬ ((3 : Int) ≤ a1)) (h1 : a0 = a1 + 1) (h2 : 0 ≤ a1 ∧ a1 ≤ 3) : (4 - a0).toNat < (4 - a1).toNat := by omega
theorem ox_106 {a0 : Int} (h0 : ¬ ((9 : Int) ≤ a0)) (h1 : 0 ≤ a0 ∧ a0 ≤ 9) : 0 ≤ a0 ∧ a0 < 9 := by omega
theorem ox_107 {a0 : Int} (h0 : ¬ ((10 : Int) ≤ a0)) (h1 : 0 ≤ a0 ∧ a0 ≤ 10) : 0 ≤ a0 ∧ a0 < 10 := by omega
theorem ox_108 {a0 : Int} (h0 : -2147483648 ≤ a0 ∧ a0 < 2147483648) (h1 : ¬ ((10 : Int) ≤ a0)) (h2 : 0 ≤ a0 ∧ a0 ≤ 10) : -2147483648 ≤ a0 + 1 ∧ a0 + 1 < 2147483648 := by omega
theorem ox_109 {a0 a1 : Int} (h0 : ¬ ((10 : Int) ≤ a1)) (h1 : a0 = a1 + 1) (h2 : 0 ≤ a1 ∧ a1 ≤ 10) : 0 ≤ a0 ∧ a0 ≤ 10 := by omega
theorem ox_110 {a0 a1 : Int} (h0 : ¬ ((10 : Int) ≤ a1)) (h1 : a0 = a1 + 1) (h2 : 0 ≤ a1 ∧ a1 ≤ 10) : (11 - a0).toNat < (11 - a1).toNat := by omega
theorem ox_111 {a0 : Int} (h0 : ¬ ((27 : Int) ≤ a0)) (h1 : 0 ≤ a0 ∧ a0 ≤ 27) : 0 ≤ a0 ∧ a0 < 27 := by omega
theorem ox_112 {a0 : Int} (h0 : -2147483648 ≤ a0 ∧ a0 < 2147483648) (h1 : ¬ ((27 : Int) ≤ a0)) (h2 : 0 ≤ a0 ∧ a0 ≤ 27) : -2147483648 ≤ a0 + 1 ∧ a0 + 1 < 2147483648 := by omega
theorem ox_113 {a0 a1 : Int} (h0 : ¬ ((27 : Int) ≤ a1)) (h1 : a0 = a1 + 1) (h2 : 0 ≤ a1 ∧ a1 ≤ 27) : 0 ≤ a0 ∧ a0 ≤ 27 := by omega
theorem ox_114 {a0 a1 : Int} (h0 : ¬ ((27 : Int) ≤ a1)) (h1 : a0 = a1 + 1) (h2 : 0 ≤ a1 ∧ a1 ≤ 27) : (28 - a0).toNat < (28 - a1).toNat := by omega
theorem ox_115 {a0 : Int} (h0 : ¬ ((256 : Int) ≤ a0)) (h1 : 0 ≤ a0 ∧ a0 ≤ 256) : 0 ≤ a0 ∧ a0 < 256 := by omega
theorem ox_116 {a0 : Int} (h0 : -2147483648 ≤ a0 ∧ a0 < 2147483648) (h1 : ¬ ((256 : Int) ≤ a0)) (h2 : 0 ≤ a0 ∧ a0 ≤ 256) : -2147483648 ≤ a0 + 1 ∧ a0 + 1 < 2147483648 := by omega
theorem ox_117 {a0 a1 : Int} (h0 : ¬ ((256 : Int) ≤ a1)) (h1 : a0 = a1 + 1) (h2 : 0 ≤ a1 ∧ a1 ≤ 256) : 0 ≤ a0 ∧ a0 ≤ 256 := by omega
theorem ox_118 {a0 a1 : Int} (h0 : ¬ ((256 : Int) ≤ a1)) (h1 : a0 = a1 + 1) (h2 : 0 ≤ a1 ∧ a1 ≤ 256) : (257 - a0).toNat < (257 - a1).toNat := by omega
theorem ox_119 {a0 : Int} (h0 : ¬ ((6561 : Int) ≤ a0)) (h1 : 0 ≤ a0 ∧ a0 ≤ 6561) : 0 ≤ a0 ∧ a0 < 6561 := by omega
theorem ox_120 {a0 : Int} (h0 : -2147483648 ≤ a0 ∧ a0 < 2147483648) (h1 : ¬ ((6561 : Int) ≤ a0)) (h2 : 0 ≤ a0 ∧ a0 ≤ 6561) : -2147483648 ≤ a0 + 1 ∧ a0 + 1 < 2147483648 := by omega
theorem ox_121 {a0 a1 : Int} (h0 : ¬ ((6561 : Int) ≤ a1)) (h1 : a0 = a1 + 1) (h2 : 0 ≤ a1 ∧ a1 ≤ 6561) : 0 ≤ a0 ∧ a0 ≤ 6561 := by omega
theorem ox_122 {a0 a1 : Int} (h0 : ¬ ((6561 : Int) ≤ a1)) (h1 : a0 = a1 + 1) (h2 : 0 ≤ a1 ∧ a1 ≤ 6561) : (6562 - a0).toNat < (6562 - a1).toNat := by omega
theorem ox_123 {a0 : Int} (h0 : 0 ≤ a0 ∧ a0 ≤ 9) : 0 ≤ a0 ∧ a0 < 10 := by omega
theorem ox_124 {a0 : Int} (h0 : -2147483648 ≤ a0 ∧ a0 < 2147483648) (h1 : 0 ≤ a0 ∧ a0 ≤ 9) : -2147483648 ≤ (2 : Int) * a0 ∧ (2 : Int) * a0 < 2147483648 := by omega
theorem ox_125 {a0 a1 : Int} (h0 : 1 ≤ a0 ∧ a0 ≤ 8) (h1 : 0 ≤ a1 ∧ a1 ≤ 9) (h2 : a0 < a1) : 0 ≤ a0 ∧ a0 < 9 := by omega
theorem ox_126 {a0 a1 : Int} (h0 : 1 ≤ a0 ∧ a0 ≤ 8) (h1 : 0 ≤ a1 ∧ a1 ≤ 9) (h2 : a0 < a1) : (1 : Int) ≤ a0 ∧ (a0 : Int) < a1 := by omega
theorem ox_127 {a0 : Int} (h0 : 1 ≤ a0 ∧ a0 ≤ 9) : 0 ≤ a0 ∧ a0 ≤ 9 := by omega
theorem ox_128 {a0 a1 : Int} (h0 : 1 ≤ a1 ∧ a1 ≤ 8) (h1 : 0 ≤ a0 ∧ a0 ≤ 9) (h2 : a1 < a0) : 0 ≤ a0 ∧ a0 ≤ 9 := by omega
theorem ox_129 {a0 a1 a2 : Int} (h0 : ¬ (a0 ≤ (0 : Int))) (h1 : 0 ≤ a1 ∧ a1 ≤ 8) (h2 : 0 ≤ a2 ∧ a2 ≤ 9) (h3 : a1 < a2) (h4 : 0 ≤ a0 ∧ a0 ≤ 8) (h5 : a0 < a2) : 0 ≤ a0 ∧ a0 < 9 := by omega
theorem ox_130 {a0 a1 a2 : Int} (h0 : ¬ (a0 ≤ (0 : Int))) (h1 : 0 ≤ a1 ∧ a1 ≤ 8) (h2 : 0 ≤ a2 ∧ a2 ≤ 9) (h3 : a1 < a2) (h4 : 0 ≤ a0 ∧ a0 ≤ 8) (h5 : a0 < a2) : 1 ≤ a0 ∧ a0 ≤ 8 := by omega
theorem ox_131 {a0 a1 a2 : Int} (h0 : ¬ (a1 ≤ (0 : Int))) (h1 : 0 ≤ a2 ∧ a2 ≤ 8) (h2 : 0 ≤ a0 ∧ a0 ≤ 9) (h3 : a2 < a0) (h4 : 0 ≤ a1 ∧ a1 ≤ 8) (h5 : a1 < a0) : 0 ≤ a0 ∧ a0 ≤ 9 := by omega
theorem ox_132 {a0 a1 a2 : Int} (h0 : ¬ (a0 ≤ (0 : Int))) (h1 : 0 ≤ a2 ∧ a2 ≤ 8) (h2 : 0 ≤ a1 ∧ a1 ≤ 9) (h3 : a2 < a1) (h4 : 0 ≤ a0 ∧ a0 ≤ 8) (h5 : a0 < a1) : a0 < a1 := by omega
theorem ox_133 {a0 a1 a2 : Int} (h0 : ¬ (a0 ≤ (0 : Int))) (h1 : 0 ≤ a2 ∧ a2 ≤ 8) (h2 : 0 ≤ a1 ∧ a1 ≤ 9) (h3 : a2 < a1) (h4 : 0 ≤ a0 ∧ a0 ≤ 8) (h5 : a0 < a1) : (1 : Int) ≤ a0 ∧ (a0 : Int) < a1 := by omega
theorem ox_134 {a0 a1 a2 a3 : Int} (h0 : ¬ (a1 ≤ (0 : Int))) (h1 : a0 < a1) (h2 : 0 ≤ a2 ∧ a2 ≤ 8) (h3 : 0 ≤ a3 ∧ a3 ≤ 9) (h4 : a2 < a3) (h5 : 0 ≤ a1 ∧ a1 ≤ 8) (h6 : 0 ≤ a0 ∧ a0 ≤ 8) (h7 : a1 < a3) : 0 ≤ a0 ∧ a0 ≤ 8 := by omega
theorem ox_135 {a0 a1 a2 a3 : Int} (h0 : ¬ (a2 ≤ (0 : Int))) (h1 : a0 < a2) (h2 : 0 ≤ a3 ∧ a3 ≤ 8) (h3 : 0 ≤ a1 ∧ a1 ≤ 9) (h4 : a3 < a1) (h5 : 0 ≤ a2 ∧ a2 ≤ 8) (h6 : 0 ≤ a0 ∧ a0 ≤ 8) (h7 : a2 < a1) : a0 < a1 := by omega
theorem ox_136 {a0 a1 : Int} (h0 : 0 ≤ a0 ∧ a0 ≤ 8) (h1 : 0 ≤ a1 ∧ a1 ≤ 9) (h2 : a0 < a1) : 0 ≤ a0 ∧ a0 ≤ 8 := by omega
theorem ox_137 {a0 a1 : Int} (h0 : 0 ≤ a0 ∧ a0 ≤ 8) (h1 : 0 ≤ a1 ∧ a1 ≤ 9) (h2 : a0 < a1) : a0 < a1 := by omega
theorem ox_138 {a0 a1 : Int} (h0 : a0 = a1 / 2) (h1 : 0 ≤ a1 ∧ a1 ≤ 5) : 0 ≤ a0 ∧ a0 < 3 := by omega
theorem ox_139 {a0 a1 a2 : Int} (h0 : -2147483648 ≤ a1 ∧ a1 < 2147483648) (h1 : -2147483648 ≤ a2 ∧ a2 < 2147483648) (h2 : -2147483648 ≤ a0 ∧ a0 < 2147483648) (h3 : ¬ ((3 : Int) ≤ a1)) (h4 : a0 = (3 : Int) * a2) (h5 : 0 ≤ a2 ∧ a2 ≤ 17) (h6 : 0 ≤ a1 ∧ a1 ≤ 3) : -2147483648 ≤ a0 + a1 ∧ a0 + a1 < 2147483648 := by omega
theorem ox_140 {a0 a1 a2 a3 : Int} (h0 : ¬ ((3 : Int) ≤ a0)) (h1 : a1 = (3 : Int) * a2) (h2 : a3 = a1 + a0) (h3 : 0 ≤ a2 ∧ a2 ≤ 17) (h4 : 0 ≤ a0 ∧ a0 ≤ 3) : 0 ≤ a0 ∧ a0 < 3 := by omega
theorem ox_141 {a0 a1 a2 a3 : Int} (h0 : ¬ ((3 : Int) ≤ a1)) (h1 : a2 = (3 : Int) * a3) (h2 : a0 = a2 + a1) (h3 : 0 ≤ a3 ∧ a3 ≤ 17) (h4 : 0 ≤ a1 ∧ a1 ≤ 3) : 0 ≤ a0 ∧ a0 < 54 := by omega
theorem ox_142 {a0 a1 a2 a3 : Int} (h0 : -2147483648 ≤ a1 ∧ a1 < 2147483648) (h1 : -2147483648 ≤ a0 ∧ a0 < 2147483648) (h2 : -2147483648 ≤ a2 ∧ a2 < 2147483648) (h3 : -2147483648 ≤ a3 ∧ a3 < 2147483648) (h4 : ¬ ((3 : Int) ≤ a1)) (h5 : a2 = (3 : Int) * a0) (h6 : a3 = a2 + a1) (h7 : 0 ≤ a0 ∧ a0 ≤ 17) (h8 : 0 ≤ a1 ∧ a1 ≤ 3) : -2147483648 ≤ (3 : Int) * a0 ∧ (3 : Int) * a0 < 2147483648 := by omega
theorem ox_143 {a0 a1 a2 a3 a4 : Int} (h0 : -2147483648 ≤ a1 ∧ a1 < 2147483648) (h1 : -2147483648 ≤ a2 ∧ a2 < 2147483648) (h2 : -2147483648 ≤ a3 ∧ a3 < 2147483648) (h3 : -2147483648 ≤ a4 ∧ a4 < 2147483648) (h4 : -2147483648 ≤ a0 ∧ a0 < 2147483648) (h5 : ¬ ((3 : Int) ≤ a1)) (h6 : a3 = (3 : Int) * a2) (h7 : a4 = a3 + a1) (h8 : a0 = (3 : Int) * a2) (h9 : 0 ≤ a2 ∧ a2 ≤ 17) (h10 : 0 ≤ a1 ∧ a1 ≤ 3) : -2147483648 ≤ a0 + a1 ∧ a0 + a1 < 2147483648 := by omega
theorem ox_144 {a0 a1 a2 a3 a4 a5 : Int} (h0 : ¬ ((3 : Int) ≤ a0)) (h1 : a1 = (3 : Int) * a2) (h2 : a3 = a1 + a0) (h3 : a4 = (3 : Int) * a2) (h4 : a5 = a4 + a0) (h5 : 0 ≤ a2 ∧ a2 ≤ 17) (h6 : 0 ≤ a0 ∧ a0 ≤ 3) : 0 ≤ a0 ∧ a0 < 3 := by omega
theorem ox_145 {a0 a1 a2 a3 a4 a5 : Int} (h0 : ¬ ((3 : Int) ≤ a1)) (h1 : a2 = (3 : Int) * a3) (h2 : a4 = a2 + a1) (h3 : a5 = (3 : Int) * a3) (h4 : a0 = a5 + a1) (h5 : 0 ≤ a3 ∧ a3 ≤ 17) (h6 : 0 ≤ a1 ∧ a1 ≤ 3) : 0 ≤ a0 ∧ a0 < 54 := by omega
theorem ox_146 {a0 a1 a2 a3 a4 a5 : Int} (h0 : -2147483648 ≤ a0 ∧ a0 < 2147483648) (h1 : -2147483648 ≤ a1 ∧ a1 < 2147483648) (h2 : -2147483648 ≤ a2 ∧ a2 < 2147483648) (h3 : -2147483648 ≤ a3 ∧ a3 < 2147483648) (h4 : -2147483648 ≤ a4 ∧ a4 < 2147483648) (h5 : -2147483648 ≤ a5 ∧ a5 < 2147483648) (h6 : ¬ ((3 : Int) ≤ a0)) (h7 : a2 = (3 : Int) * a1) (h8 : a3 = a2 + a0) (h9 : a4 = (3 : Int) * a1) (h10 : a5 = a4 + a0) (h11 : 0 ≤ a1 ∧ a1 ≤ 17) (h12 : 0 ≤ a0 ∧ a0 ≤ 3) : -2147483648 ≤ a0 + 1 ∧ a0 + 1 < 2147483648 := by omega
theorem ox_147 {a0 a1 a2 a3 a4 a5 a6 : Int} (h0 : ¬ ((3 : Int) ≤ a1)) (h1 : a2 = (3 : Int) * a3) (h2 : a4 = a2 + a1) (h3 : a5 = (3 : Int) * a3) (h4 : a6 = a5 + a1) (h5 : a0 = a1 + 1) (h6 : 0 ≤ a3 ∧ a3 ≤ 17) (h7 : 0 ≤ a1 ∧ a1 ≤ 3) : 0 ≤ a0 ∧ a0 ≤ 3 := by omega
theorem ox_148 {a0 a1 a2 a3 a4 a5 a6 : Int} (h0 : ¬ ((3 : Int) ≤ a1)) (h1 : a2 = (3 : Int) * a3) (h2 : a4 = a2 + a1) (h3 : a5 = (3 : Int) * a3) (h4 : a6 = a5 + a1) (h5 : a0 = a1 + 1) (h6 : 0 ≤ a3 ∧ a3 ≤ 17) (h7 : 0 ≤ a1 ∧ a1 ≤ 3) : (4 - a0).toNat < (4 - a1).toNat := by omega
theorem ox_149 {a0 : Int} (h0 : -2147483648 ≤ a0 ∧ a0 < 2147483648) (h1 : 0 ≤ a0 ∧ a0 ≤ 8) : -2147483648 ≤ (3 : Int) * a0 ∧ (3 : Int) * a0 < 2147483648 := by omega
theorem ox_150 {a0 a1 : Int} (h0 : a0 = (3 : Int) * a1) (h1 : 0 ≤ a1 ∧ a1 ≤ 8) : (0 : Int) ≤ a0 := by omega
theorem ox_151 {a0 a1 : Int} (h0 : a0 = (3 : Int) * a1) (h1 : 0 ≤ a1 ∧ a1 ≤ 8) : (0 : Int) ≤ a0 ∧ (0 : Int) ≤ (3 : Int) ∧ (a0 : Int) + (3 : Int) ≤ 27 := by omega
theorem ox_152 {a0 a1 : Int} (h0 : a1 = (3 : Int) * a0) (h1 : 0 ≤ a0 ∧ a0 ≤ 8) : 0 ≤ a0 ∧ a0 ≤ 8 := by omega
theorem ox_153 {a0 a1 : Int} (h0 : a1 = (3 : Int) * a0) (h1 : 0 ≤ a0 ∧ a0 ≤ 8) : 0 ≤ a0 ∧ a0 < 9 := by omega
theorem ox_154 {a0 a1 : Int} (h0 : 1 ≤ a0 ∧ a0 ≤ 8) (h1 : a0 < a1) (h2 : 0 ≤ a1 ∧ a1 ≤ 9) : 0 ≤ a0 ∧ a0 < 9 := by omega
theorem ox_155 {a0 a1 : Int} (h0 : 1 ≤ a0 ∧ a0 ≤ 8) (h1 : a0 < a1) (h2 : 0 ≤ a1 ∧ a1 ≤ 9) : (1 : Int) ≤ a0 ∧ (a0 : Int) < a1 := by omega
theorem ox_156 {a0 a1 a2 : Int} (h0 : a1 < a0) (h1 : 1 ≤ a0 ∧ a0 ≤ 8) (h2 : a0 < a2) (h3 : 0 ≤ a2 ∧ a2 ≤ 9) (h4 : 0 ≤ a1 ∧ a1 ≤ 8) : 0 ≤ a0 ∧ a0 < 9 := by omega
theorem ox_157 {a0 a1 a2 : Int} (h0 : a0 < a1) (h1 : 1 ≤ a1 ∧ a1 ≤ 8) (h2 : a1 < a2) (h3 : 0 ≤ a2 ∧ a2 ≤ 9) (h4 : 0 ≤ a0 ∧ a0 ≤ 8) : 0 ≤ a0 ∧ a0 ≤ 8 := by omega
theorem ox_158 {a0 a1 a2 : Int} (h0 : a0 < a1) (h1 : 1 ≤ a1 ∧ a1 ≤ 8) (h2 : a1 < a2) (h3 : 0 ≤ a2 ∧ a2 ≤ 9) (h4 : 0 ≤ a0 ∧ a0 ≤ 8) : 0 ≤ a0 ∧ a0 < 18 := by omega
theorem ox_159 {a0 a1 a2 : Int} (h0 : a1 < a0) (h1 : 1 ≤ a0 ∧ a0 ≤ 8) (h2 : a0 < a2) (h3 : 0 ≤ a2 ∧ a2 ≤ 9) (h4 : 0 ≤ a1 ∧ a1 ≤ 8) : 0 ≤ a0 ∧ a0 < 18 := by omega
theorem ox_160 {a0 a1 a2 : Int} (h0 : a1 < a0) (h1 : 1 ≤ a0 ∧ a0 ≤ 8) (h2 : a0 < a2) (h3 : 0 ≤ a2 ∧ a2 ≤ 9) (h4 : 0 ≤ a1 ∧ a1 ≤ 8) : 0 ≤ a0 ∧ a0 ≤ 17 := by omega
theorem ox_161 {a0 a1 a2 : Int} (h0 : -2147483648 ≤ a0 ∧ a0 < 2147483648) (h1 : -2147483648 ≤ a1 ∧ a1 < 2147483648) (h2 : -2147483648 ≤ a2 ∧ a2 < 2147483648) (h3 : a2 < a0) (h4 : 1 ≤ a0 ∧ a0 ≤ 8) (h5 : a0 < a1) (h6 : 0 ≤ a1 ∧ a1 ≤ 9) (h7 : 0 ≤ a2 ∧ a2 ≤ 8) : -2147483648 ≤ (3 : Int) * a0 ∧ (3 : Int) * a0 < 2147483648 := by omega
theorem ox_162 {a0 a1 a2 a3 : Int} (h0 : a0 = (3 : Int) * a1) (h1 : a2 < a1) (h2 : 1 ≤ a1 ∧ a1 ≤ 8) (h3 : a1 < a3) (h4 : 0 ≤ a3 ∧ a3 ≤ 9) (h5 : 0 ≤ a2 ∧ a2 ≤ 8) : (0 : Int) ≤ a0 := by omega
theorem ox_163 {a0 a1 a2 a3 : Int} (h0 : a0 = (3 : Int) * a1) (h1 : a2 < a1) (h2 : 1 ≤ a1 ∧ a1 ≤ 8) (h3 : a1 < a3) (h4 : 0 ≤ a3 ∧ a3 ≤ 9) (h5 : 0 ≤ a2 ∧ a2 ≤ 8) : (0 : Int) ≤ a0 ∧ (0 : Int) ≤ (3 : Int) ∧ (a0 : Int) + (3 : Int) ≤ 27 := by omega
theorem ox_164 {a0 a1 a2 : Int} (h0 : a0 < a1) (h1 : 1 ≤ a1 ∧ a1 ≤ 8) (h2 : a1 < a2) (h3 : 0 ≤ a2 ∧ a2 ≤ 9) (h4 : 0 ≤ a0 ∧ a0 ≤ 8) : 0 ≤ a0 ∧ a0 < 9 := by omega
theorem ox_165 {a0 a1 a2 : Int} (h0 : a1 < a0) (h1 : 1 ≤ a0 ∧ a0 ≤ 8) (h2 : a0 < a2) (h3 : 0 ≤ a2 ∧ a2 ≤ 9) (h4 : 0 ≤ a1 ∧ a1 ≤ 8) : 1 ≤ a0 ∧ a0 ≤ 8 := by omega
theorem ox_166 {a0 a1 a2 : Int} (h0 : a1 < a2) (h1 : 1 ≤ a2 ∧ a2 ≤ 8) (h2 : a2 < a0) (h3 : 0 ≤ a0 ∧ a0 ≤ 9) (h4 : 0 ≤ a1 ∧ a1 ≤ 8) : 0 ≤ a0 ∧ a0 ≤ 9 := by omega
theorem ox_167 {a0 a1 a2 : Int} (h0 : a2 < a0) (h1 : 1 ≤ a0 ∧ a0 ≤ 8) (h2 : a0 < a1) (h3 : 0 ≤ a1 ∧ a1 ≤ 9) (h4 : 0 ≤ a2 ∧ a2 ≤ 8) : a0 < a1 := by omega
theorem ox_168 {a0 a1 : Int} (h0 : ¬ (a1 ≤ a0)) (h1 : 0 ≤ a1 ∧ a1 ≤ 9) (h2 : 1 ≤ a0 ∧ a0 ≤ 9) : 1 ≤ a0 ∧ a0 ≤ 8 := by omega
theorem ox_169 {a0 a1 : Int} (h0 : ¬ (a1 ≤ a0)) (h1 : 0 ≤ a1 ∧ a1 ≤ 9) (h2 : 1 ≤ a0 ∧ a0 ≤ 9) : a0 < a1 := by omega
theorem ox_170 {a0 a1 : Int} (h0 : -2147483648 ≤ a0 ∧ a0 < 2147483648) (h1 : -2147483648 ≤ a1 ∧ a1 < 2147483648) (h2 : ¬ (a1 ≤ a0)) (h3 : 0 ≤ a1 ∧ a1 ≤ 9) (h4 : 1 ≤ a0 ∧ a0 ≤ 9) : -2147483648 ≤ a0 + 1 ∧ a0 + 1 < 2147483648 := by omega
theorem ox_171 {a0 a1 : Int} (h0 : ¬ (a1 ≤ a0)) (h1 : 0 ≤ a1 ∧ a1 ≤ 9) (h2 : 1 ≤ a0 ∧ a0 ≤ 9) : (1 : Int) ≤ a0 ∧ (a0 : Int) < a1 := by omega
theorem ox_172 {a0 a1 a2 : Int} (h0 : ¬ (a1 ≤ a0)) (h1 : a2 < a0) (h2 : 0 ≤ a1 ∧ a1 ≤ 9) (h3 : 1 ≤ a0 ∧ a0 ≤ 9) (h4 : 0 ≤ a2 ∧ a2 ≤ 8) : 0 ≤ a0 ∧ a0 < 9 := by omega
theorem ox_173 {a0 a1 a2 : Int} (h0 : ¬ (a1 ≤ a0)) (h1 : a2 < a0) (h2 : 0 ≤ a1 ∧ a1 ≤ 9) (h3 : 1 ≤ a0 ∧ a0 ≤ 9) (h4 : 0 ≤ a2 ∧ a2 ≤ 8) : 0 ≤ a0 ∧ a0 ≤ 8 := by omega
theorem ox_174 {a0 a1 a2 : Int} (h0 : ¬ (a0 ≤ a1)) (h1 : a2 < a1) (h2 : 0 ≤ a0 ∧ a0 ≤ 9) (h3 : 1 ≤ a1 ∧ a1 ≤ 9) (h4 : 0 ≤ a2 ∧ a2 ≤ 8) : 0 ≤ a0 ∧ a0 ≤ 9 := by omega
theorem ox_175 {a0 a1 a2 : Int} (h0 : -2147483648 ≤ a0 ∧ a0 < 2147483648) (h1 : -2147483648 ≤ a1 ∧ a1 < 2147483648) (h2 : -2147483648 ≤ a2 ∧ a2 < 2147483648) (h3 : ¬ (a1 ≤ a0)) (h4 : a2 < a0) (h5 : 0 ≤ a1 ∧ a1 ≤ 9) (h6 : 1 ≤ a0 ∧ a0 ≤ 9) (h7 : 0 ≤ a2 ∧ a2 ≤ 8) : -2147483648 ≤ a0 + (8 : Int) ∧ a0 + (8 : Int) < 2147483648 := by omega
theorem ox_176 {a0 a1 a2 a3 : Int} (h0 : ¬ (a1 ≤ a2)) (h1 : a0 < a2) (h2 : a3 = a2 + (8 : Int)) (h3 : 0 ≤ a1 ∧ a1 ≤ 9) (h4 : 1 ≤ a2 ∧ a2 ≤ 9) (h5 : 0 ≤ a0 ∧ a0 ≤ 8) : 0 ≤ a0 ∧ a0 ≤ 8 := by omega
theorem ox_177 {a0 a1 a2 a3 : Int} (h0 : ¬ (a1 ≤ a0)) (h1 : a2 < a0) (h2 : a3 = a0 + (8 : Int)) (h3 : 0 ≤ a1 ∧ a1 ≤ 9) (h4 : 1 ≤ a0 ∧ a0 ≤ 9) (h5 : 0 ≤ a2 ∧ a2 ≤ 8) : 0 ≤ a0 ∧ a0 < 9 := by omega
theorem ox_178 {a0 a1 a2 a3 : Int} (h0 : ¬ (a1 ≤ a0)) (h1 : a2 < a0) (h2 : a3 = a0 + (8 : Int)) (h3 : 0 ≤ a1 ∧ a1 ≤ 9) (h4 : 1 ≤ a0 ∧ a0 ≤ 9) (h5 : 0 ≤ a2 ∧ a2 ≤ 8) : 1 ≤ a0 ∧ a0 ≤ 8 := by omega
theorem ox_179 {a0 a1 a2 a3 : Int} (h0 : ¬ (a0 ≤ a1)) (h1 : a2 < a1) (h2 : a3 = a1 + (8 : Int)) (h3 : 0 ≤ a0 ∧ a0 ≤ 9) (h4 : 1 ≤ a1 ∧ a1 ≤ 9) (h5 : 0 ≤ a2 ∧ a2 ≤ 8) : 0 ≤ a0 ∧ a0 ≤ 9 := by omega
theorem ox_180 {a0 a1 a2 a3 : Int} (h0 : ¬ (a1 ≤ a0)) (h1 : a2 < a0) (h2 : a3 = a0 + (8 : Int)) (h3 : 0 ≤ a1 ∧ a1 ≤ 9) (h4 : 1 ≤ a0 ∧ a0 ≤ 9) (h5 : 0 ≤ a2 ∧ a2 ≤ 8) : a0 < a1 := by omega
theorem ox_181 {a0 a1 a2 a3 : Int} (h0 : ¬ (a1 ≤ a2)) (h1 : a3 < a2) (h2 : a0 = a2 + (8 : Int)) (h3 : 0 ≤ a1 ∧ a1 ≤ 9) (h4 : 1 ≤ a2 ∧ a2 ≤ 9) (h5 : 0 ≤ a3 ∧ a3 ≤ 8) : 0 ≤ a0 ∧ a0 ≤ 17 := by omega
theorem ox_182 {a0 a1 a2 a3 : Int} (h0 : -2147483648 ≤ a0 ∧ a0 < 2147483648) (h1 : -2147483648 ≤ a1 ∧ a1 < 2147483648) (h2 : -2147483648 ≤ a2 ∧ a2 < 2147483648) (h3 : -2147483648 ≤ a3 ∧ a3 < 2147483648) (h4 : ¬ (a1 ≤ a0)) (h5 : a2 < a0) (h6 : a3 = a0 + (8 : Int)) (h7 : 0 ≤ a1 ∧ a1 ≤ 9) (h8 : 1 ≤ a0 ∧ a0 ≤ 9) (h9 : 0 ≤ a2 ∧ a2 ≤ 8) : -2147483648 ≤ a0 + 1 ∧ a0 + 1 < 2147483648 := by omega
theorem ox_183 {a0 a1 a2 a3 a4 : Int} (h0 : ¬ (a1 ≤ a2)) (h1 : a3 < a2) (h2 : a4 = a2 + (8 : Int)) (h3 : a0 = a2 + 1) (h4 : 0 ≤ a1 ∧ a1 ≤ 9) (h5 : 1 ≤ a2 ∧ a2 ≤ 9) (h6 : 0 ≤ a3 ∧ a3 ≤ 8) : 1 ≤ a0 ∧ a0 ≤ 9 := by omega
theorem ox_184 {a0 a1 a2 a3 a4 : Int} (h0 : ¬ (a2 ≤ a1)) (h1 : a3 < a1) (h2 : a4 = a1 + (8 : Int)) (h3 : a0 = a1 + 1) (h4 : 0 ≤ a2 ∧ a2 ≤ 9) (h5 : 1 ≤ a1 ∧ a1 ≤ 9) (h6 : 0 ≤ a3 ∧ a3 ≤ 8) : (10 - a0).toNat < (10 - a1).toNat := by omega
theorem ox_185 {a0 : Int} (h0 : 0 ≤ a0 ∧ a0 ≤ 2) : 0 ≤ a0 ∧ a0 < 54 := by omega
theorem ox_186 {a0 a1 : Int} (h0 : ¬ (a1 ≤ a0)) (h1 : 0 ≤ a1 ∧ a1 ≤ 9) (h2 : 1 ≤ a0 ∧ a0 ≤ 9) : 0 ≤ a0 ∧ a0 ≤ 17 := by omega
theorem ox_187 {a0 : Int} (h0 : 0 ≤ a0 ∧ a0 ≤ 2) : 0 ≤ a0 ∧ a0 ≤ 2 := by omega
theorem ox_188 {a0 : Int} (h0 : -2147483648 ≤ a0 ∧ a0 < 2147483648) (h1 : ¬ ((17 : Int) ≤ a0)) (h2 : 0 ≤ a0 ∧ a0 ≤ 17) : -2147483648 ≤ a0 + 1 ∧ a0 + 1 < 2147483648 := by omega
theorem ox_189 {a0 a1 : Int} (h0 : ¬ ((17 : Int) ≤ a1)) (h1 : a0 = a1 + 1) (h2 : 0 ≤ a1 ∧ a1 ≤ 17) : 0 ≤ a0 ∧ a0 ≤ 17 := by omega
theorem ox_190 {a0 a1 : Int} (h0 : ¬ ((17 : Int) ≤ a1)) (h1 : a0 = a1 + 1) (h2 : 0 ≤ a1 ∧ a1 ≤ 17) : (18 - a0).toNat < (18 - a1).toNat := by omega
theorem ox_191 {a0 : Int} (h0 : ¬ ((17 : Int) ≤ a0)) (h1 : 0 ≤ a0 ∧ a0 ≤ 17) : 0 ≤ a0 ∧ a0 ≤ 17 := by omega
theorem ox_192 {a0 : Int} (h0 : 0 ≤ a0 ∧ a0 ≤ 8) : 0 ≤ a0 ∧ a0 ≤ 17 := by omega
theorem ox_193 {a0 : Int} (h0 : ¬ ((3 : Int) ≤ a0)) (h1 : 0 ≤ a0 ∧ a0 ≤ 3) : 0 ≤ a0 ∧ a0 ≤ 2 := by omega
theorem ox_194 {a0 : Int} (h0 : -2147483648 ≤ a0 ∧ a0 < 2147483648) (h1 : ¬ ((17 : Int) ≤ a0)) (h2 : 0 ≤ a0 ∧ a0 ≤ 17) : -2147483648 ≤ a0 + (1 : Int) ∧ a0 + (1 : Int) < 2147483648 := by omega
theorem ox_195 {a0 a1 : Int} (h0 : -2147483648 ≤ a0 ∧ a0 < 2147483648) (h1 : -2147483648 ≤ a1 ∧ a1 < 2147483648) (h2 : ¬ ((17 : Int) ≤ a0)) (h3 : a1 = a0 + (1 : Int)) (h4 : 0 ≤ a0 ∧ a0 ≤ 17) : -2147483648 ≤ a0 + 1 ∧ a0 + 1 < 2147483648 := by omega
theorem ox_196 {a0 a1 a2 : Int} (h0 : ¬ ((17 : Int) ≤ a1)) (h1 : a2 = a1 + (1 : Int)) (h2 : a0 = a1 + 1) (h3 : 0 ≤ a1 ∧ a1 ≤ 17) : 0 ≤ a0 ∧ a0 ≤ 17 := by omega
theorem ox_197 {a0 a1 a2 : Int} (h0 : ¬ ((17 : Int) ≤ a1)) (h1 : a2 = a1 + (1 : Int)) (h2 : a0 = a1 + 1) (h3 : 0 ≤ a1 ∧ a1 ≤ 17) : (18 - a0).toNat < (18 - a1).toNat := by omega
theorem ox_198 {a0 : Int} (h0 : -2147483648 ≤ a0 ∧ a0 < 2147483648) (h1 : ¬ ((17 : Int) ≤ a0)) (h2 : 1 ≤ a0 ∧ a0 ≤ 17) : -2147483648 ≤ a0 + 1 ∧ a0 + 1 < 2147483648 := by omega
theorem ox_199 {a0 a1 : Int} (h0 : ¬ ((17 : Int) ≤ a1)) (h1 : a0 = a1 + 1) (h2 : 1 ≤ a1 ∧ a1 ≤ 17) : 1 ≤ a0 ∧ a0 ≤ 17 := by omega
theorem ox_200 {a0 a1 : Int} (h0 : ¬ ((17 : Int) ≤ a1)) (h1 : a0 = a1 + 1) (h2 : 1 ≤ a1 ∧ a1 ≤ 17) : (18 - a0).toNat < (18 - a1).toNat := by omega
theorem ox_201 {a0 a1 : Int} (h0 : ¬ ((17 : Int) ≤ a0)) (h1 : a1 = a0 + (1 : Int)) (h2 : 0 ≤ a0 ∧ a0 ≤ 17) : 0 ≤ a0 ∧ a0 ≤ 17 := by omega
theorem ox_202 {a0 : Int} (h0 : ¬ ((17 : Int) ≤ a0)) (h1 : 1 ≤ a0 ∧ a0 ≤ 17) : 0 ≤ a0 ∧ a0 ≤ 17 := by omega
theorem ox_203 {a0 a1 : Int} (h0 : -2147483648 ≤ a0 ∧ a0 < 2147483648) (h1 : -2147483648 ≤ a1 ∧ a1 < 2147483648) (h2 : ¬ ((17 : Int) ≤ a0)) (h3 : a1 = a0 + (1 : Int)) (h4 : 0 ≤ a0 ∧ a0 ≤ 17) : -2147483648 ≤ a0 * (18 : Int) ∧ a0 * (18 : Int) < 2147483648 := by omega
theorem ox_204 {a0 a1 a2 a3 : Int} (h0 : -2147483648 ≤ a2 ∧ a2 < 2147483648) (h1 : -2147483648 ≤ a1 ∧ a1 < 2147483648) (h2 : -2147483648 ≤ a3 ∧ a3 < 2147483648) (h3 : -2147483648 ≤ a0 ∧ a0 < 2147483648) (h4 : ¬ ((17 : Int) ≤ a2)) (h5 : ¬ ((17 : Int) ≤ a1)) (h6 : a3 = a2 + (1 : Int)) (h7 : a0 = a2 * (18 : Int)) (h8 : 0 ≤ a2 ∧ a2 ≤ 17) (h9 : 1 ≤ a1 ∧ a1 ≤ 17) : -2147483648 ≤ a0 + a1 ∧ a0 + a1 < 2147483648 := by omega
theorem ox_205 {a0 a1 : Int} (h0 : ¬ ((17 : Int) ≤ a1)) (h1 : a0 = a1 + (1 : Int)) (h2 : 0 ≤ a1 ∧ a1 ≤ 17) : 1 ≤ a0 ∧ a0 ≤ 17 := by omega
theorem ox_206 {a0 : Int} (h0 : 1 ≤ a0 ∧ a0 ≤ 8) : 0 ≤ a0 ∧ a0 < 9 := by omega
theorem ox_207 {a0 : Int} (h0 : 1 ≤ a0 ∧ a0 ≤ 8) : 0 ≤ a0 ∧ a0 ≤ 8 := by omega
theorem ox_208 {a0 : Int} (h0 : 0 ≤ a0 ∧ a0 ≤ 8) : 0 ≤ a0 ∧ a0 < 18 := by omega
theorem ox_209 {a0 : Int} (h0 : 1 ≤ a0 ∧ a0 ≤ 8) : 1 ≤ a0 ∧ a0 ≤ 8 := by omega
theorem ox_210 {a0 : Int} (h0 : -2147483648 ≤ a0 ∧ a0 < 2147483648) (h1 : 0 ≤ a0 ∧ a0 ≤ 2147483647) : 0 ≤ a0 ∧ a0 ≤ 2147483647 := by omega
theorem ox_211 {a0 a1 : Int} (h0 : ¬ (a1 ≤ a0)) (h1 : 0 ≤ a1 ∧ a1 ≤ 9) (h2 : 0 ≤ a0 ∧ a0 ≤ 9) : 0 ≤ a0 ∧ a0 ≤ 17 := by omega
theorem ox_212 {a0 a1 : Int} (h0 : -2147483648 ≤ a0 ∧ a0 < 2147483648) (h1 : -2147483648 ≤ a1 ∧ a1 < 2147483648) (h2 : ¬ (a1 ≤ a0)) (h3 : 0 ≤ a1 ∧ a1 ≤ 9) (h4 : 0 ≤ a0 ∧ a0 ≤ 9) : -2147483648 ≤ a0 + 1 ∧ a0 + 1 < 2147483648 := by omega
theorem ox_213 {a0 a1 a2 : Int} (h0 : ¬ (a1 ≤ a2)) (h1 : a0 = a2 + 1) (h2 : 0 ≤ a1 ∧ a1 ≤ 9) (h3 : 0 ≤ a2 ∧ a2 ≤ 9) : 0 ≤ a0 ∧ a0 ≤ 9 := by omega
theorem ox_214 {a0 a1 a2 : Int} (h0 : ¬ (a2 ≤ a1)) (h1 : a0 = a1 + 1) (h2 : 0 ≤ a2 ∧ a2 ≤ 9) (h3 : 0 ≤ a1 ∧ a1 ≤ 9) : (10 - a0).toNat < (10 - a1).toNat := by omega
theorem ox_215 {a0 a1 : Int} (h0 : ¬ (a1 ≤ a0)) (h1 : 0 ≤ a1 ∧ a1 ≤ 9) (h2 : 0 ≤ a0 ∧ a0 ≤ 9) : 0 ≤ a0 ∧ a0 ≤ 8 := by omega
theorem ox_216 {a0 a1 : Int} (h0 : -2147483648 ≤ a0 ∧ a0 < 2147483648) (h1 : -2147483648 ≤ a1 ∧ a1 < 2147483648) (h2 : 1 ≤ a1 ∧ a1 ≤ 256) (h3 : 0 ≤ a0 ∧ a0 ≤ 2147483647) : (0 : Int) ≤ a0 ∧ (a0 : Int) < 2147483648 ∧ (0 : Int) ≤ a1 ∧ (a1 : Int) < 2147483648 := by omega
theorem ox_217 {a0 : Int} (h0 : -2147483648 ≤ a0 ∧ a0 < 2147483648) (h1 : 0 ≤ a0 ∧ a0 < 2147483648) : 0 ≤ a0 ∧ a0 ≤ 2147483647 := by omega
theorem ox_218 {a0 : Int} (h0 : 0 ≤ a0 ∧ a0 ≤ 99) : 0 ≤ a0 ∧ a0 ≤ 99 := by omega
theorem ox_219 {a0 a1 a2 a3 : Int} (h0 : a1 ≥ (0 : Int) ∧ a1 ≥ a2 ∧ (a1 = (0 : Int) ∨ a1 = a2)) (h1 : a0 ≤ a3 ∧ a0 ≤ a1 ∧ (a0 = a3 ∨ a0 = a1)) (h2 : 0 ≤ a3 ∧ a3 ≤ 99) : 0 ≤ a0 ∧ a0 ≤ 99 := by omega
theorem ox_220 {a0 a1 : Int} (h0 : a0 = a1 / 2) (h1 : 0 ≤ a1 ∧ a1 ≤ 5) : 0 ≤ a0 ∧ a0 ≤ 2 := by omega
theorem dJ7_fill_53178_0 : decode cJ7_fill_53178 0 = .ok (.iconst 0, 1) := by decide +kernel
theorem dJ7_fill_53178_1 : decode cJ7_fill_53178 1 = .ok (.istore_n 2, 1) := by decide +kernel
theorem dJ7_fill_53178_2 : decode cJ7_fill_53178 2 = .ok (.aload_n 0, 1) := by decide +kernel
theorem dJ7_fill_53178_3 : decode cJ7_fill_53178 3 = .ok (.arraylength, 1) := by decide +kernel
theorem dJ7_fill_53178_4 : decode cJ7_fill_53178 4 = .ok (.istore_n 3, 1) := by decide +kernel
theorem dJ7_fill_53178_5 : decode cJ7_fill_53178 5 = .ok (.iload_n 2, 1) := by decide +kernel
theorem dJ7_fill_53178_6 : decode cJ7_fill_53178 6 = .ok (.iload_n 3, 1) := by decide +kernel
theorem dJ7_fill_53178_7 : decode cJ7_fill_53178 7 = .ok (.if_icmp .ge 13, 3) := by decide +kernel
theorem dJ7_fill_53178_20 : decode cJ7_fill_53178 20 = .ok (.return_, 1) := by decide +kernel
theorem dJ7_fill_53178_10 : decode cJ7_fill_53178 10 = .ok (.aload_n 0, 1) := by decide +kernel
theorem dJ7_fill_53178_11 : decode cJ7_fill_53178 11 = .ok (.iload_n 2, 1) := by decide +kernel
theorem dJ7_fill_53178_12 : decode cJ7_fill_53178 12 = .ok (.iload_n 1, 1) := by decide +kernel
theorem dJ7_fill_53178_13 : decode cJ7_fill_53178 13 = .ok (.iastore, 1) := by decide +kernel
theorem dJ7_fill_53178_14 : decode cJ7_fill_53178 14 = .ok (.iinc 2 1, 3) := by decide +kernel
theorem dJ7_fill_53178_17 : decode cJ7_fill_53178 17 = .ok (.goto (-12), 3) := by decide +kernel
abbrev rm_kJ7_fill_53178_3 : Room := { frames := 0, cells := 0, slots := 0, locals := 0 }
set_option maxHeartbeats 4000000 in
set_option maxRecDepth 100000 in
theorem kJ7_fill_53178_3 (l : Launch) (g : zL) (y1 : Nat) (x2 : Int32) (f_y1 : Nat → Int32) : zCv l g yJ7_fill_53178 cJ7_fill_53178 4 none rm_kJ7_fill_53178_3 [.ref y1, .int x2] [(y1, .inl (g.2.1.1, 3, .inl f_y1))] (fun (u : (Nat → Int32)) => True) (fun (u : (Nat → Int32)) => [(y1, .inl (g.2.1.1, 3, .inl u))]) := by
  refine zCv.mk2 (by decide) (Nat.le_of_ble_eq_true rfl) ?_
  intro p e s m below meth c A args Q hE hret hP hD hS ls hl
  obtain ⟨hx, hb, hr, hml, hown, hG, hlocks, hnm, hX, hA⟩ := hE
  have hown : s.vm.findClass RJ7 = some m.cls := hown
  have hl : lv_has ls 4 [(0, .ref y1), (1, .int x2)] := hl
  refine lv_iconst (v := 0) hx hb dJ7_fill_53178_0 (by decide) ?_
  refine lv_istore_n (lv' := [(2, .int 0), (0, .ref y1), (1, .int x2)]) hx hb dJ7_fill_53178_1 rfl hl (by decide) rfl (fun ls hl => ?_)
  refine lv_aload_n hx hb dJ7_fill_53178_2 rfl (lv_at hl 1 rfl) ?_
  refine va_alen (v := 3) hx hb hX.1 hP 0 0 rfl rfl rfl dJ7_fill_53178_3 ?_
  refine lv_istore_n (lv' := [(3, .int 3), (2, .int 0), (0, .ref y1), (1, .int x2)]) hx hb dJ7_fill_53178_4 rfl hl (by decide) rfl (fun ls hl => ?_)
  have L40 : ∀ (n : Nat) (v31 : Int32) (fn32 : Nat → Int32) (H : Heap) (locs : List Loc) (ls : Array Slot), 0 ≤ v31.toInt ∧ v31.toInt ≤ 3 → (4 - v31.toInt).toNat < n → va_P g.1 vwCl [(y1, .inl (g.2.1.1, 3, .inl fn32))] H → va_D A [(y1, .inl (g.2.1.1, 3, .inl fn32))] → va_S A s.heap H locs → lv_has ls 4 [(0, .ref y1), (1, .int x2), (2, .int v31), (3, .int 3)] → W p l e rm_kJ7_fill_53178_3 s m args below meth c H locs 0 0 Q (F0 m 5 ls []) := by
    intro n41
    induction n41 with
    | zero => intro v31 fn32 H locs ls i43 hm44; exact absurd hm44 (Nat.not_lt_zero _)
    | succ n41 ih42 =>
      intro v31 fn32 H locs ls i43 hm44 hP hD hS hl
      refine lv_iload_n hx hb dJ7_fill_53178_5 rfl (lv_at hl 2 rfl) ?_
      refine lv_iload_n hx hb dJ7_fill_53178_6 rfl (lv_at hl 3 rfl) ?_
      refine lv_icmp_ge (tgt := 20) hx hb dJ7_fill_53178_7 (by decide) (fun c45 => ?_) (fun c45 => ?_)
      · skip
        have c45i : (3 : Int) ≤ v31.toInt := (zc_le (show (3 : Int32).toInt = (3 : Int) from by decide) (rfl : v31.toInt = _)).mp c45
        exact hret fn32 (Nat.le_of_ble_eq_true rfl) (Nat.le_of_ble_eq_true rfl) trivial hP hD hS dJ7_fill_53178_20
      · skip
        have c45i : ¬ ((3 : Int) ≤ v31.toInt) := fun q => c45 ((zc_le (show (3 : Int32).toInt = (3 : Int) from by decide) (rfl : v31.toInt = _)).mpr q)
        refine lv_aload_n hx hb dJ7_fill_53178_10 rfl (lv_at hl 0 rfl) ?_
        refine lv_iload_n hx hb dJ7_fill_53178_11 rfl (lv_at hl 2 rfl) ?_
        refine lv_iload_n hx hb dJ7_fill_53178_12 rfl (lv_at hl 1 rfl) ?_
        refine va_iast hx hb hX.1 hP hD hS 0 0 rfl rfl (zin (rfl : v31.toInt = _) (ox_102 c45i i43)) dJ7_fill_53178_13 (fun H locs hP hD hS => ?_)
        obtain ⟨f46, e47⟩ : ∃ z9 : Nat → Int32, z9 = upd fn32 v31.toNatClampNeg x2 := ⟨_, rfl⟩
        rw [← e47] at hP hD
        have hP : va_P g.1 vwCl [(y1, .inl (g.2.1.1, 3, .inl f46))] H := hP
        have hD : va_D A [(y1, .inl (g.2.1.1, 3, .inl f46))] := hD
        obtain ⟨z48, e49⟩ : ∃ y9 : Int32, y9 = v31 + 1 := ⟨_, rfl⟩
        have f50 : z48.toInt = v31.toInt + 1 := za e49 (rfl : v31.toInt = _) (show (1 : Int32).toInt = (1 : Int) from by decide) (ox_103 (zr v31) c45i i43)
        refine lv_iinc (v := z48) (lv' := [(2, .int z48), (0, .ref y1), (1, .int x2), (3, .int 3)]) hx hb dJ7_fill_53178_14 hl (k := 2) rfl (by rw [e49]; rfl) (by decide) rfl (fun ls hl => ?_)
        refine lv_goto (tgt := 5) hx hb dJ7_fill_53178_17 (by decide) ?_
        exact ih42 z48 f46 H locs ls (ox_104 c45i f50 i43) (zdec hm44 (ox_105 c45i f50 i43)) hP hD hS (lv_sub hl [1, 2, 0, 3] rfl)
  exact L40 _ (0 : Int32) f_y1 _ _ ls ((show 0 ≤ (0 : Int) ∧ (0 : Int) ≤ 3 from by decide)) (Nat.lt_succ_self _) hP hD hS (lv_sub hl [2, 3, 1, 0] rfl)
abbrev rm_kJ7_fill_53178_9 : Room := { frames := 0, cells := 0, slots := 0, locals := 0 }
set_option maxHeartbeats 4000000 in
set_option maxRecDepth 100000 in
theorem kJ7_fill_53178_9 (l : Launch) (g : zL) (y1 : Nat) (x2 : Int32) (f_y1 : Nat → Int32) : zCv l g yJ7_fill_53178 cJ7_fill_53178 4 none rm_kJ7_fill_53178_9 [.ref y1, .int x2] [(y1, .inl (g.2.1.1, 9, .inl f_y1))] (fun (u : (Nat → Int32)) => True) (fun (u : (Nat → Int32)) => [(y1, .inl (g.2.1.1, 9, .inl u))]) := by
  refine zCv.mk2 (by decide) (Nat.le_of_ble_eq_true rfl) ?_
  intro p e s m below meth c A args Q hE hret hP hD hS ls hl
  obtain ⟨hx, hb, hr, hml, hown, hG, hlocks, hnm, hX, hA⟩ := hE
  have hown : s.vm.findClass RJ7 = some m.cls := hown
  have hl : lv_has ls 4 [(0, .ref y1), (1, .int x2)] := hl
  refine lv_iconst (v := 0) hx hb dJ7_fill_53178_0 (by decide) ?_
  refine lv_istore_n (lv' := [(2, .int 0), (0, .ref y1), (1, .int x2)]) hx hb dJ7_fill_53178_1 rfl hl (by decide) rfl (fun ls hl => ?_)
  refine lv_aload_n hx hb dJ7_fill_53178_2 rfl (lv_at hl 1 rfl) ?_
  refine va_alen (v := 9) hx hb hX.1 hP 0 0 rfl rfl rfl dJ7_fill_53178_3 ?_
  refine lv_istore_n (lv' := [(3, .int 9), (2, .int 0), (0, .ref y1), (1, .int x2)]) hx hb dJ7_fill_53178_4 rfl hl (by decide) rfl (fun ls hl => ?_)
  have L67 : ∀ (n : Nat) (v58 : Int32) (fn59 : Nat → Int32) (H : Heap) (locs : List Loc) (ls : Array Slot), 0 ≤ v58.toInt ∧ v58.toInt ≤ 9 → (10 - v58.toInt).toNat < n → va_P g.1 vwCl [(y1, .inl (g.2.1.1, 9, .inl fn59))] H → va_D A [(y1, .inl (g.2.1.1, 9, .inl fn59))] → va_S A s.heap H locs → lv_has ls 4 [(0, .ref y1), (1, .int x2), (2, .int v58), (3, .int 9)] → W p l e rm_kJ7_fill_53178_9 s m args below meth c H locs 0 0 Q (F0 m 5 ls []) := by
    intro n68
    induction n68 with
    | zero => intro v58 fn59 H locs ls i70 hm71; exact absurd hm71 (Nat.not_lt_zero _)
    | succ n68 ih69 =>
      intro v58 fn59 H locs ls i70 hm71 hP hD hS hl
      refine lv_iload_n hx hb dJ7_fill_53178_5 rfl (lv_at hl 2 rfl) ?_
      refine lv_iload_n hx hb dJ7_fill_53178_6 rfl (lv_at hl 3 rfl) ?_
      refine lv_icmp_ge (tgt := 20) hx hb dJ7_fill_53178_7 (by decide) (fun c72 => ?_) (fun c72 => ?_)
      · skip
        have c72i : (9 : Int) ≤ v58.toInt := (zc_le (show (9 : Int32).toInt = (9 : Int) from by decide) (rfl : v58.toInt = _)).mp c72
        exact hret fn59 (Nat.le_of_ble_eq_true rfl) (Nat.le_of_ble_eq_true rfl) trivial hP hD hS dJ7_fill_53178_20
      · skip
        have c72i : ¬ ((9 : Int) ≤ v58.toInt) := fun q => c72 ((zc_le (show (9 : Int32).toInt = (9 : Int) from by decide) (rfl : v58.toInt = _)).mpr q)
        refine lv_aload_n hx hb dJ7_fill_53178_10 rfl (lv_at hl 0 rfl) ?_
        refine lv_iload_n hx hb dJ7_fill_53178_11 rfl (lv_at hl 2 rfl) ?_
        refine lv_iload_n hx hb dJ7_fill_53178_12 rfl (lv_at hl 1 rfl) ?_
        refine va_iast hx hb hX.1 hP hD hS 0 0 rfl rfl (zin (rfl : v58.toInt = _) (ox_106 c72i i70)) dJ7_fill_53178_13 (fun H locs hP hD hS => ?_)
        obtain ⟨f73, e74⟩ : ∃ z9 : Nat → Int32, z9 = upd fn59 v58.toNatClampNeg x2 := ⟨_, rfl⟩
        rw [← e74] at hP hD
        have hP : va_P g.1 vwCl [(y1, .inl (g.2.1.1, 9, .inl f73))] H := hP
        have hD : va_D A [(y1, .inl (g.2.1.1, 9, .inl f73))] := hD
        obtain ⟨z75, e76⟩ : ∃ y9 : Int32, y9 = v58 + 1 := ⟨_, rfl⟩
        have f77 : z75.toInt = v58.toInt + 1 := za e76 (rfl : v58.toInt = _) (show (1 : Int32).toInt = (1 : Int) from by decide) (ox_11 (zr v58) c72i i70)
        refine lv_iinc (v := z75) (lv' := [(2, .int z75), (0, .ref y1), (1, .int x2), (3, .int 9)]) hx hb dJ7_fill_53178_14 hl (k := 2) rfl (by rw [e76]; rfl) (by decide) rfl (fun ls hl => ?_)
        refine lv_goto (tgt := 5) hx hb dJ7_fill_53178_17 (by decide) ?_
        exact ih69 z75 f73 H locs ls (ox_12 c72i f77 i70) (zdec hm71 (ox_13 c72i f77 i70)) hP hD hS (lv_sub hl [1, 2, 0, 3] rfl)
  exact L67 _ (0 : Int32) f_y1 _ _ ls ((show 0 ≤ (0 : Int) ∧ (0 : Int) ≤ 9 from by decide)) (Nat.lt_succ_self _) hP hD hS (lv_sub hl [2, 3, 1, 0] rfl)
abbrev rm_kJ7_fill_53178_10 : Room := { frames := 0, cells := 0, slots := 0, locals := 0 }
set_option maxHeartbeats 4000000 in
set_option maxRecDepth 100000 in
theorem kJ7_fill_53178_10 (l : Launch) (g : zL) (y1 : Nat) (x2 : Int32) (f_y1 : Nat → Int32) : zCv l g yJ7_fill_53178 cJ7_fill_53178 4 none rm_kJ7_fill_53178_10 [.ref y1, .int x2] [(y1, .inl (g.2.1.1, 10, .inl f_y1))] (fun (u : (Nat → Int32)) => True) (fun (u : (Nat → Int32)) => [(y1, .inl (g.2.1.1, 10, .inl u))]) := by
  refine zCv.mk2 (by decide) (Nat.le_of_ble_eq_true rfl) ?_
  intro p e s m below meth c A args Q hE hret hP hD hS ls hl
  obtain ⟨hx, hb, hr, hml, hown, hG, hlocks, hnm, hX, hA⟩ := hE
  have hown : s.vm.findClass RJ7 = some m.cls := hown
  have hl : lv_has ls 4 [(0, .ref y1), (1, .int x2)] := hl
  refine lv_iconst (v := 0) hx hb dJ7_fill_53178_0 (by decide) ?_
  refine lv_istore_n (lv' := [(2, .int 0), (0, .ref y1), (1, .int x2)]) hx hb dJ7_fill_53178_1 rfl hl (by decide) rfl (fun ls hl => ?_)
  refine lv_aload_n hx hb dJ7_fill_53178_2 rfl (lv_at hl 1 rfl) ?_
  refine va_alen (v := 10) hx hb hX.1 hP 0 0 rfl rfl rfl dJ7_fill_53178_3 ?_
  refine lv_istore_n (lv' := [(3, .int 10), (2, .int 0), (0, .ref y1), (1, .int x2)]) hx hb dJ7_fill_53178_4 rfl hl (by decide) rfl (fun ls hl => ?_)
  have L67 : ∀ (n : Nat) (v58 : Int32) (fn59 : Nat → Int32) (H : Heap) (locs : List Loc) (ls : Array Slot), 0 ≤ v58.toInt ∧ v58.toInt ≤ 10 → (11 - v58.toInt).toNat < n → va_P g.1 vwCl [(y1, .inl (g.2.1.1, 10, .inl fn59))] H → va_D A [(y1, .inl (g.2.1.1, 10, .inl fn59))] → va_S A s.heap H locs → lv_has ls 4 [(0, .ref y1), (1, .int x2), (2, .int v58), (3, .int 10)] → W p l e rm_kJ7_fill_53178_10 s m args below meth c H locs 0 0 Q (F0 m 5 ls []) := by
    intro n68
    induction n68 with
    | zero => intro v58 fn59 H locs ls i70 hm71; exact absurd hm71 (Nat.not_lt_zero _)
    | succ n68 ih69 =>
      intro v58 fn59 H locs ls i70 hm71 hP hD hS hl
      refine lv_iload_n hx hb dJ7_fill_53178_5 rfl (lv_at hl 2 rfl) ?_
      refine lv_iload_n hx hb dJ7_fill_53178_6 rfl (lv_at hl 3 rfl) ?_
      refine lv_icmp_ge (tgt := 20) hx hb dJ7_fill_53178_7 (by decide) (fun c72 => ?_) (fun c72 => ?_)
      · skip
        have c72i : (10 : Int) ≤ v58.toInt := (zc_le (show (10 : Int32).toInt = (10 : Int) from by decide) (rfl : v58.toInt = _)).mp c72
        exact hret fn59 (Nat.le_of_ble_eq_true rfl) (Nat.le_of_ble_eq_true rfl) trivial hP hD hS dJ7_fill_53178_20
      · skip
        have c72i : ¬ ((10 : Int) ≤ v58.toInt) := fun q => c72 ((zc_le (show (10 : Int32).toInt = (10 : Int) from by decide) (rfl : v58.toInt = _)).mpr q)
        refine lv_aload_n hx hb dJ7_fill_53178_10 rfl (lv_at hl 0 rfl) ?_
        refine lv_iload_n hx hb dJ7_fill_53178_11 rfl (lv_at hl 2 rfl) ?_
        refine lv_iload_n hx hb dJ7_fill_53178_12 rfl (lv_at hl 1 rfl) ?_
        refine va_iast hx hb hX.1 hP hD hS 0 0 rfl rfl (zin (rfl : v58.toInt = _) (ox_107 c72i i70)) dJ7_fill_53178_13 (fun H locs hP hD hS => ?_)
        obtain ⟨f73, e74⟩ : ∃ z9 : Nat → Int32, z9 = upd fn59 v58.toNatClampNeg x2 := ⟨_, rfl⟩
        rw [← e74] at hP hD
        have hP : va_P g.1 vwCl [(y1, .inl (g.2.1.1, 10, .inl f73))] H := hP
        have hD : va_D A [(y1, .inl (g.2.1.1, 10, .inl f73))] := hD
        obtain ⟨z75, e76⟩ : ∃ y9 : Int32, y9 = v58 + 1 := ⟨_, rfl⟩
        have f77 : z75.toInt = v58.toInt + 1 := za e76 (rfl : v58.toInt = _) (show (1 : Int32).toInt = (1 : Int) from by decide) (ox_108 (zr v58) c72i i70)
        refine lv_iinc (v := z75) (lv' := [(2, .int z75), (0, .ref y1), (1, .int x2), (3, .int 10)]) hx hb dJ7_fill_53178_14 hl (k := 2) rfl (by rw [e76]; rfl) (by decide) rfl (fun ls hl => ?_)
        refine lv_goto (tgt := 5) hx hb dJ7_fill_53178_17 (by decide) ?_
        exact ih69 z75 f73 H locs ls (ox_109 c72i f77 i70) (zdec hm71 (ox_110 c72i f77 i70)) hP hD hS (lv_sub hl [1, 2, 0, 3] rfl)
  exact L67 _ (0 : Int32) f_y1 _ _ ls ((show 0 ≤ (0 : Int) ∧ (0 : Int) ≤ 10 from by decide)) (Nat.lt_succ_self _) hP hD hS (lv_sub hl [2, 3, 1, 0] rfl)
abbrev rm_kJ7_fill_53178_27 : Room := { frames := 0, cells := 0, slots := 0, locals := 0 }
set_option maxHeartbeats 4000000 in
set_option maxRecDepth 100000 in
theorem kJ7_fill_53178_27 (l : Launch) (g : zL) (y1 : Nat) (x2 : Int32) (f_y1 : Nat → Int32) : zCv l g yJ7_fill_53178 cJ7_fill_53178 4 none rm_kJ7_fill_53178_27 [.ref y1, .int x2] [(y1, .inl (g.2.1.1, 27, .inl f_y1))] (fun (u : (Nat → Int32)) => True) (fun (u : (Nat → Int32)) => [(y1, .inl (g.2.1.1, 27, .inl u))]) := by
  refine zCv.mk2 (by decide) (Nat.le_of_ble_eq_true rfl) ?_
  intro p e s m below meth c A args Q hE hret hP hD hS ls hl
  obtain ⟨hx, hb, hr, hml, hown, hG, hlocks, hnm, hX, hA⟩ := hE
  have hown : s.vm.findClass RJ7 = some m.cls := hown
  have hl : lv_has ls 4 [(0, .ref y1), (1, .int x2)] := hl
  refine lv_iconst (v := 0) hx hb dJ7_fill_53178_0 (by decide) ?_
  refine lv_istore_n (lv' := [(2, .int 0), (0, .ref y1), (1, .int x2)]) hx hb dJ7_fill_53178_1 rfl hl (by decide) rfl (fun ls hl => ?_)
  refine lv_aload_n hx hb dJ7_fill_53178_2 rfl (lv_at hl 1 rfl) ?_
  refine va_alen (v := 27) hx hb hX.1 hP 0 0 rfl rfl rfl dJ7_fill_53178_3 ?_
  refine lv_istore_n (lv' := [(3, .int 27), (2, .int 0), (0, .ref y1), (1, .int x2)]) hx hb dJ7_fill_53178_4 rfl hl (by decide) rfl (fun ls hl => ?_)
  have L67 : ∀ (n : Nat) (v58 : Int32) (fn59 : Nat → Int32) (H : Heap) (locs : List Loc) (ls : Array Slot), 0 ≤ v58.toInt ∧ v58.toInt ≤ 27 → (28 - v58.toInt).toNat < n → va_P g.1 vwCl [(y1, .inl (g.2.1.1, 27, .inl fn59))] H → va_D A [(y1, .inl (g.2.1.1, 27, .inl fn59))] → va_S A s.heap H locs → lv_has ls 4 [(0, .ref y1), (1, .int x2), (2, .int v58), (3, .int 27)] → W p l e rm_kJ7_fill_53178_27 s m args below meth c H locs 0 0 Q (F0 m 5 ls []) := by
    intro n68
    induction n68 with
    | zero => intro v58 fn59 H locs ls i70 hm71; exact absurd hm71 (Nat.not_lt_zero _)
    | succ n68 ih69 =>
      intro v58 fn59 H locs ls i70 hm71 hP hD hS hl
      refine lv_iload_n hx hb dJ7_fill_53178_5 rfl (lv_at hl 2 rfl) ?_
      refine lv_iload_n hx hb dJ7_fill_53178_6 rfl (lv_at hl 3 rfl) ?_
      refine lv_icmp_ge (tgt := 20) hx hb dJ7_fill_53178_7 (by decide) (fun c72 => ?_) (fun c72 => ?_)
      · skip
        have c72i : (27 : Int) ≤ v58.toInt := (zc_le (show (27 : Int32).toInt = (27 : Int) from by decide) (rfl : v58.toInt = _)).mp c72
        exact hret fn59 (Nat.le_of_ble_eq_true rfl) (Nat.le_of_ble_eq_true rfl) trivial hP hD hS dJ7_fill_53178_20
      · skip
        have c72i : ¬ ((27 : Int) ≤ v58.toInt) := fun q => c72 ((zc_le (show (27 : Int32).toInt = (27 : Int) from by decide) (rfl : v58.toInt = _)).mpr q)
        refine lv_aload_n hx hb dJ7_fill_53178_10 rfl (lv_at hl 0 rfl) ?_
        refine lv_iload_n hx hb dJ7_fill_53178_11 rfl (lv_at hl 2 rfl) ?_
        refine lv_iload_n hx hb dJ7_fill_53178_12 rfl (lv_at hl 1 rfl) ?_
        refine va_iast hx hb hX.1 hP hD hS 0 0 rfl rfl (zin (rfl : v58.toInt = _) (ox_111 c72i i70)) dJ7_fill_53178_13 (fun H locs hP hD hS => ?_)
        obtain ⟨f73, e74⟩ : ∃ z9 : Nat → Int32, z9 = upd fn59 v58.toNatClampNeg x2 := ⟨_, rfl⟩
        rw [← e74] at hP hD
        have hP : va_P g.1 vwCl [(y1, .inl (g.2.1.1, 27, .inl f73))] H := hP
        have hD : va_D A [(y1, .inl (g.2.1.1, 27, .inl f73))] := hD
        obtain ⟨z75, e76⟩ : ∃ y9 : Int32, y9 = v58 + 1 := ⟨_, rfl⟩
        have f77 : z75.toInt = v58.toInt + 1 := za e76 (rfl : v58.toInt = _) (show (1 : Int32).toInt = (1 : Int) from by decide) (ox_112 (zr v58) c72i i70)
        refine lv_iinc (v := z75) (lv' := [(2, .int z75), (0, .ref y1), (1, .int x2), (3, .int 27)]) hx hb dJ7_fill_53178_14 hl (k := 2) rfl (by rw [e76]; rfl) (by decide) rfl (fun ls hl => ?_)
        refine lv_goto (tgt := 5) hx hb dJ7_fill_53178_17 (by decide) ?_
        exact ih69 z75 f73 H locs ls (ox_113 c72i f77 i70) (zdec hm71 (ox_114 c72i f77 i70)) hP hD hS (lv_sub hl [1, 2, 0, 3] rfl)
  exact L67 _ (0 : Int32) f_y1 _ _ ls ((show 0 ≤ (0 : Int) ∧ (0 : Int) ≤ 27 from by decide)) (Nat.lt_succ_self _) hP hD hS (lv_sub hl [2, 3, 1, 0] rfl)
abbrev rm_kJ7_fill_53178_256 : Room := { frames := 0, cells := 0, slots := 0, locals := 0 }
set_option maxHeartbeats 4000000 in
set_option maxRecDepth 100000 in
theorem kJ7_fill_53178_256 (l : Launch) (g : zL) (y1 : Nat) (x2 : Int32) (f_y1 : Nat → Int32) : zCv l g yJ7_fill_53178 cJ7_fill_53178 4 none rm_kJ7_fill_53178_256 [.ref y1, .int x2] [(y1, .inl (g.2.1.1, 256, .inl f_y1))] (fun (u : (Nat → Int32)) => True) (fun (u : (Nat → Int32)) => [(y1, .inl (g.2.1.1, 256, .inl u))]) := by
  refine zCv.mk2 (by decide) (Nat.le_of_ble_eq_true rfl) ?_
  intro p e s m below meth c A args Q hE hret hP hD hS ls hl
  obtain ⟨hx, hb, hr, hml, hown, hG, hlocks, hnm, hX, hA⟩ := hE
  have hown : s.vm.findClass RJ7 = some m.cls := hown
  have hl : lv_has ls 4 [(0, .ref y1), (1, .int x2)] := hl
  refine lv_iconst (v := 0) hx hb dJ7_fill_53178_0 (by decide) ?_
  refine lv_istore_n (lv' := [(2, .int 0), (0, .ref y1), (1, .int x2)]) hx hb dJ7_fill_53178_1 rfl hl (by decide) rfl (fun ls hl => ?_)
  refine lv_aload_n hx hb dJ7_fill_53178_2 rfl (lv_at hl 1 rfl) ?_
  refine va_alen (v := 256) hx hb hX.1 hP 0 0 rfl rfl rfl dJ7_fill_53178_3 ?_
  refine lv_istore_n (lv' := [(3, .int 256), (2, .int 0), (0, .ref y1), (1, .int x2)]) hx hb dJ7_fill_53178_4 rfl hl (by decide) rfl (fun ls hl => ?_)
  have L67 : ∀ (n : Nat) (v58 : Int32) (fn59 : Nat → Int32) (H : Heap) (locs : List Loc) (ls : Array Slot), 0 ≤ v58.toInt ∧ v58.toInt ≤ 256 → (257 - v58.toInt).toNat < n → va_P g.1 vwCl [(y1, .inl (g.2.1.1, 256, .inl fn59))] H → va_D A [(y1, .inl (g.2.1.1, 256, .inl fn59))] → va_S A s.heap H locs → lv_has ls 4 [(0, .ref y1), (1, .int x2), (2, .int v58), (3, .int 256)] → W p l e rm_kJ7_fill_53178_256 s m args below meth c H locs 0 0 Q (F0 m 5 ls []) := by
    intro n68
    induction n68 with
    | zero => intro v58 fn59 H locs ls i70 hm71; exact absurd hm71 (Nat.not_lt_zero _)
    | succ n68 ih69 =>
      intro v58 fn59 H locs ls i70 hm71 hP hD hS hl
      refine lv_iload_n hx hb dJ7_fill_53178_5 rfl (lv_at hl 2 rfl) ?_
      refine lv_iload_n hx hb dJ7_fill_53178_6 rfl (lv_at hl 3 rfl) ?_
      refine lv_icmp_ge (tgt := 20) hx hb dJ7_fill_53178_7 (by decide) (fun c72 => ?_) (fun c72 => ?_)
      · skip
        have c72i : (256 : Int) ≤ v58.toInt := (zc_le (show (256 : Int32).toInt = (256 : Int) from by decide) (rfl : v58.toInt = _)).mp c72
        exact hret fn59 (Nat.le_of_ble_eq_true rfl) (Nat.le_of_ble_eq_true rfl) trivial hP hD hS dJ7_fill_53178_20
      · skip
        have c72i : ¬ ((256 : Int) ≤ v58.toInt) := fun q => c72 ((zc_le (show (256 : Int32).toInt = (256 : Int) from by decide) (rfl : v58.toInt = _)).mpr q)
        refine lv_aload_n hx hb dJ7_fill_53178_10 rfl (lv_at hl 0 rfl) ?_
        refine lv_iload_n hx hb dJ7_fill_53178_11 rfl (lv_at hl 2 rfl) ?_
        refine lv_iload_n hx hb dJ7_fill_53178_12 rfl (lv_at hl 1 rfl) ?_
        refine va_iast hx hb hX.1 hP hD hS 0 0 rfl rfl (zin (rfl : v58.toInt = _) (ox_115 c72i i70)) dJ7_fill_53178_13 (fun H locs hP hD hS => ?_)
        obtain ⟨f73, e74⟩ : ∃ z9 : Nat → Int32, z9 = upd fn59 v58.toNatClampNeg x2 := ⟨_, rfl⟩
        rw [← e74] at hP hD
        have hP : va_P g.1 vwCl [(y1, .inl (g.2.1.1, 256, .inl f73))] H := hP
        have hD : va_D A [(y1, .inl (g.2.1.1, 256, .inl f73))] := hD
        obtain ⟨z75, e76⟩ : ∃ y9 : Int32, y9 = v58 + 1 := ⟨_, rfl⟩
        have f77 : z75.toInt = v58.toInt + 1 := za e76 (rfl : v58.toInt = _) (show (1 : Int32).toInt = (1 : Int) from by decide) (ox_116 (zr v58) c72i i70)
        refine lv_iinc (v := z75) (lv' := [(2, .int z75), (0, .ref y1), (1, .int x2), (3, .int 256)]) hx hb dJ7_fill_53178_14 hl (k := 2) rfl (by rw [e76]; rfl) (by decide) rfl (fun ls hl => ?_)
        refine lv_goto (tgt := 5) hx hb dJ7_fill_53178_17 (by decide) ?_
        exact ih69 z75 f73 H locs ls (ox_117 c72i f77 i70) (zdec hm71 (ox_118 c72i f77 i70)) hP hD hS (lv_sub hl [1, 2, 0, 3] rfl)
  exact L67 _ (0 : Int32) f_y1 _ _ ls ((show 0 ≤ (0 : Int) ∧ (0 : Int) ≤ 256 from by decide)) (Nat.lt_succ_self _) hP hD hS (lv_sub hl [2, 3, 1, 0] rfl)
theorem dJ7_fill_031fb_0 : decode cJ7_fill_031fb 0 = .ok (.iconst 0, 1) := by decide +kernel
theorem dJ7_fill_031fb_1 : decode cJ7_fill_031fb 1 = .ok (.istore_n 2, 1) := by decide +kernel
theorem dJ7_fill_031fb_2 : decode cJ7_fill_031fb 2 = .ok (.aload_n 0, 1) := by decide +kernel
theorem dJ7_fill_031fb_3 : decode cJ7_fill_031fb 3 = .ok (.arraylength, 1) := by decide +kernel
theorem dJ7_fill_031fb_4 : decode cJ7_fill_031fb 4 = .ok (.istore_n 3, 1) := by decide +kernel
theorem dJ7_fill_031fb_5 : decode cJ7_fill_031fb 5 = .ok (.iload_n 2, 1) := by decide +kernel
theorem dJ7_fill_031fb_6 : decode cJ7_fill_031fb 6 = .ok (.iload_n 3, 1) := by decide +kernel
theorem dJ7_fill_031fb_7 : decode cJ7_fill_031fb 7 = .ok (.if_icmp .ge 13, 3) := by decide +kernel
theorem dJ7_fill_031fb_20 : decode cJ7_fill_031fb 20 = .ok (.return_, 1) := by decide +kernel
theorem dJ7_fill_031fb_10 : decode cJ7_fill_031fb 10 = .ok (.aload_n 0, 1) := by decide +kernel
theorem dJ7_fill_031fb_11 : decode cJ7_fill_031fb 11 = .ok (.iload_n 2, 1) := by decide +kernel
theorem dJ7_fill_031fb_12 : decode cJ7_fill_031fb 12 = .ok (.iload_n 1, 1) := by decide +kernel
theorem dJ7_fill_031fb_13 : decode cJ7_fill_031fb 13 = .ok (.bastore, 1) := by decide +kernel
theorem dJ7_fill_031fb_14 : decode cJ7_fill_031fb 14 = .ok (.iinc 2 1, 3) := by decide +kernel
theorem dJ7_fill_031fb_17 : decode cJ7_fill_031fb 17 = .ok (.goto (-12), 3) := by decide +kernel
abbrev rm_kJ7_fill_031fb_256 : Room := { frames := 0, cells := 0, slots := 0, locals := 0 }
set_option maxHeartbeats 4000000 in
set_option maxRecDepth 100000 in
theorem kJ7_fill_031fb_256 (l : Launch) (g : zL) (y1 : Nat) (x2 : Int32) (f_y1 : Nat → Int32) : zCv l g yJ7_fill_031fb cJ7_fill_031fb 4 none rm_kJ7_fill_031fb_256 [.ref y1, .int x2] [(y1, .inl (g.2.1.2.1, 256, .inl f_y1))] (fun (u : (Nat → Int32)) => True) (fun (u : (Nat → Int32)) => [(y1, .inl (g.2.1.2.1, 256, .inl u))]) := by
  refine zCv.mk2 (by decide) (Nat.le_of_ble_eq_true rfl) ?_
  intro p e s m below meth c A args Q hE hret hP hD hS ls hl
  obtain ⟨hx, hb, hr, hml, hown, hG, hlocks, hnm, hX, hA⟩ := hE
  have hown : s.vm.findClass RJ7 = some m.cls := hown
  have hl : lv_has ls 4 [(0, .ref y1), (1, .int x2)] := hl
  refine lv_iconst (v := 0) hx hb dJ7_fill_031fb_0 (by decide) ?_
  refine lv_istore_n (lv' := [(2, .int 0), (0, .ref y1), (1, .int x2)]) hx hb dJ7_fill_031fb_1 rfl hl (by decide) rfl (fun ls hl => ?_)
  refine lv_aload_n hx hb dJ7_fill_031fb_2 rfl (lv_at hl 1 rfl) ?_
  refine va_alen (v := 256) hx hb hX.1 hP 0 1 rfl rfl rfl dJ7_fill_031fb_3 ?_
  refine lv_istore_n (lv' := [(3, .int 256), (2, .int 0), (0, .ref y1), (1, .int x2)]) hx hb dJ7_fill_031fb_4 rfl hl (by decide) rfl (fun ls hl => ?_)
  have L67 : ∀ (n : Nat) (v58 : Int32) (fn59 : Nat → Int32) (H : Heap) (locs : List Loc) (ls : Array Slot), 0 ≤ v58.toInt ∧ v58.toInt ≤ 256 → (257 - v58.toInt).toNat < n → va_P g.1 vwCl [(y1, .inl (g.2.1.2.1, 256, .inl fn59))] H → va_D A [(y1, .inl (g.2.1.2.1, 256, .inl fn59))] → va_S A s.heap H locs → lv_has ls 4 [(0, .ref y1), (1, .int x2), (2, .int v58), (3, .int 256)] → W p l e rm_kJ7_fill_031fb_256 s m args below meth c H locs 0 0 Q (F0 m 5 ls []) := by
    intro n68
    induction n68 with
    | zero => intro v58 fn59 H locs ls i70 hm71; exact absurd hm71 (Nat.not_lt_zero _)
    | succ n68 ih69 =>
      intro v58 fn59 H locs ls i70 hm71 hP hD hS hl
      refine lv_iload_n hx hb dJ7_fill_031fb_5 rfl (lv_at hl 2 rfl) ?_
      refine lv_iload_n hx hb dJ7_fill_031fb_6 rfl (lv_at hl 3 rfl) ?_
      refine lv_icmp_ge (tgt := 20) hx hb dJ7_fill_031fb_7 (by decide) (fun c72 => ?_) (fun c72 => ?_)
      · skip
        have c72i : (256 : Int) ≤ v58.toInt := (zc_le (show (256 : Int32).toInt = (256 : Int) from by decide) (rfl : v58.toInt = _)).mp c72
        exact hret fn59 (Nat.le_of_ble_eq_true rfl) (Nat.le_of_ble_eq_true rfl) trivial hP hD hS dJ7_fill_031fb_20
      · skip
        have c72i : ¬ ((256 : Int) ≤ v58.toInt) := fun q => c72 ((zc_le (show (256 : Int32).toInt = (256 : Int) from by decide) (rfl : v58.toInt = _)).mpr q)
        refine lv_aload_n hx hb dJ7_fill_031fb_10 rfl (lv_at hl 0 rfl) ?_
        refine lv_iload_n hx hb dJ7_fill_031fb_11 rfl (lv_at hl 2 rfl) ?_
        refine lv_iload_n hx hb dJ7_fill_031fb_12 rfl (lv_at hl 1 rfl) ?_
        refine va_bast hx hb hX.1 hP hD hS 0 1 rfl rfl (zin (rfl : v58.toInt = _) (ox_115 c72i i70)) dJ7_fill_031fb_13 (fun H locs hP hD hS => ?_)
        obtain ⟨f73, e74⟩ : ∃ z9 : Nat → Int32, z9 = upd fn59 v58.toNatClampNeg (vp_nar .byte x2) := ⟨_, rfl⟩
        rw [← e74] at hP hD
        have hP : va_P g.1 vwCl [(y1, .inl (g.2.1.2.1, 256, .inl f73))] H := hP
        have hD : va_D A [(y1, .inl (g.2.1.2.1, 256, .inl f73))] := hD
        obtain ⟨z75, e76⟩ : ∃ y9 : Int32, y9 = v58 + 1 := ⟨_, rfl⟩
        have f77 : z75.toInt = v58.toInt + 1 := za e76 (rfl : v58.toInt = _) (show (1 : Int32).toInt = (1 : Int) from by decide) (ox_116 (zr v58) c72i i70)
        refine lv_iinc (v := z75) (lv' := [(2, .int z75), (0, .ref y1), (1, .int x2), (3, .int 256)]) hx hb dJ7_fill_031fb_14 hl (k := 2) rfl (by rw [e76]; rfl) (by decide) rfl (fun ls hl => ?_)
        refine lv_goto (tgt := 5) hx hb dJ7_fill_031fb_17 (by decide) ?_
        exact ih69 z75 f73 H locs ls (ox_117 c72i f77 i70) (zdec hm71 (ox_118 c72i f77 i70)) hP hD hS (lv_sub hl [1, 2, 0, 3] rfl)
  exact L67 _ (0 : Int32) f_y1 _ _ ls ((show 0 ≤ (0 : Int) ∧ (0 : Int) ≤ 256 from by decide)) (Nat.lt_succ_self _) hP hD hS (lv_sub hl [2, 3, 1, 0] rfl)
abbrev rm_kJ7_fill_031fb_6561 : Room := { frames := 0, cells := 0, slots := 0, locals := 0 }
set_option maxHeartbeats 4000000 in
set_option maxRecDepth 100000 in
theorem kJ7_fill_031fb_6561 (l : Launch) (g : zL) (y1 : Nat) (x2 : Int32) (f_y1 : Nat → Int32) : zCv l g yJ7_fill_031fb cJ7_fill_031fb 4 none rm_kJ7_fill_031fb_6561 [.ref y1, .int x2] [(y1, .inl (g.2.1.2.1, 6561, .inl f_y1))] (fun (u : (Nat → Int32)) => True) (fun (u : (Nat → Int32)) => [(y1, .inl (g.2.1.2.1, 6561, .inl u))]) := by
  refine zCv.mk2 (by decide) (Nat.le_of_ble_eq_true rfl) ?_
  intro p e s m below meth c A args Q hE hret hP hD hS ls hl
  obtain ⟨hx, hb, hr, hml, hown, hG, hlocks, hnm, hX, hA⟩ := hE
  have hown : s.vm.findClass RJ7 = some m.cls := hown
  have hl : lv_has ls 4 [(0, .ref y1), (1, .int x2)] := hl
  refine lv_iconst (v := 0) hx hb dJ7_fill_031fb_0 (by decide) ?_
  refine lv_istore_n (lv' := [(2, .int 0), (0, .ref y1), (1, .int x2)]) hx hb dJ7_fill_031fb_1 rfl hl (by decide) rfl (fun ls hl => ?_)
  refine lv_aload_n hx hb dJ7_fill_031fb_2 rfl (lv_at hl 1 rfl) ?_
  refine va_alen (v := 6561) hx hb hX.1 hP 0 1 rfl rfl rfl dJ7_fill_031fb_3 ?_
  refine lv_istore_n (lv' := [(3, .int 6561), (2, .int 0), (0, .ref y1), (1, .int x2)]) hx hb dJ7_fill_031fb_4 rfl hl (by decide) rfl (fun ls hl => ?_)
  have L67 : ∀ (n : Nat) (v58 : Int32) (fn59 : Nat → Int32) (H : Heap) (locs : List Loc) (ls : Array Slot), 0 ≤ v58.toInt ∧ v58.toInt ≤ 6561 → (6562 - v58.toInt).toNat < n → va_P g.1 vwCl [(y1, .inl (g.2.1.2.1, 6561, .inl fn59))] H → va_D A [(y1, .inl (g.2.1.2.1, 6561, .inl fn59))] → va_S A s.heap H locs → lv_has ls 4 [(0, .ref y1), (1, .int x2), (2, .int v58), (3, .int 6561)] → W p l e rm_kJ7_fill_031fb_6561 s m args below meth c H locs 0 0 Q (F0 m 5 ls []) := by
    intro n68
    induction n68 with
    | zero => intro v58 fn59 H locs ls i70 hm71; exact absurd hm71 (Nat.not_lt_zero _)
    | succ n68 ih69 =>
      intro v58 fn59 H locs ls i70 hm71 hP hD hS hl
      refine lv_iload_n hx hb dJ7_fill_031fb_5 rfl (lv_at hl 2 rfl) ?_
      refine lv_iload_n hx hb dJ7_fill_031fb_6 rfl (lv_at hl 3 rfl) ?_
      refine lv_icmp_ge (tgt := 20) hx hb dJ7_fill_031fb_7 (by decide) (fun c72 => ?_) (fun c72 => ?_)
      · skip
        have c72i : (6561 : Int) ≤ v58.toInt := (zc_le (show (6561 : Int32).toInt = (6561 : Int) from by decide) (rfl : v58.toInt = _)).mp c72
        exact hret fn59 (Nat.le_of_ble_eq_true rfl) (Nat.le_of_ble_eq_true rfl) trivial hP hD hS dJ7_fill_031fb_20
      · skip
        have c72i : ¬ ((6561 : Int) ≤ v58.toInt) := fun q => c72 ((zc_le (show (6561 : Int32).toInt = (6561 : Int) from by decide) (rfl : v58.toInt = _)).mpr q)
        refine lv_aload_n hx hb dJ7_fill_031fb_10 rfl (lv_at hl 0 rfl) ?_
        refine lv_iload_n hx hb dJ7_fill_031fb_11 rfl (lv_at hl 2 rfl) ?_
        refine lv_iload_n hx hb dJ7_fill_031fb_12 rfl (lv_at hl 1 rfl) ?_
        refine va_bast hx hb hX.1 hP hD hS 0 1 rfl rfl (zin (rfl : v58.toInt = _) (ox_119 c72i i70)) dJ7_fill_031fb_13 (fun H locs hP hD hS => ?_)
        obtain ⟨f73, e74⟩ : ∃ z9 : Nat → Int32, z9 = upd fn59 v58.toNatClampNeg (vp_nar .byte x2) := ⟨_, rfl⟩
        rw [← e74] at hP hD
        have hP : va_P g.1 vwCl [(y1, .inl (g.2.1.2.1, 6561, .inl f73))] H := hP
        have hD : va_D A [(y1, .inl (g.2.1.2.1, 6561, .inl f73))] := hD
        obtain ⟨z75, e76⟩ : ∃ y9 : Int32, y9 = v58 + 1 := ⟨_, rfl⟩
        have f77 : z75.toInt = v58.toInt + 1 := za e76 (rfl : v58.toInt = _) (show (1 : Int32).toInt = (1 : Int) from by decide) (ox_120 (zr v58) c72i i70)
        refine lv_iinc (v := z75) (lv' := [(2, .int z75), (0, .ref y1), (1, .int x2), (3, .int 6561)]) hx hb dJ7_fill_031fb_14 hl (k := 2) rfl (by rw [e76]; rfl) (by decide) rfl (fun ls hl => ?_)
        refine lv_goto (tgt := 5) hx hb dJ7_fill_031fb_17 (by decide) ?_
        exact ih69 z75 f73 H locs ls (ox_121 c72i f77 i70) (zdec hm71 (ox_122 c72i f77 i70)) hP hD hS (lv_sub hl [1, 2, 0, 3] rfl)
  exact L67 _ (0 : Int32) f_y1 _ _ ls ((show 0 ≤ (0 : Int) ∧ (0 : Int) ≤ 6561 from by decide)) (Nat.lt_succ_self _) hP hD hS (lv_sub hl [2, 3, 1, 0] rfl)
theorem dX4_allowanceOf_0 : decode cX4_allowanceOf 0 = .ok (.aload_n 0, 1) := by decide +kernel
theorem dX4_allowanceOf_1 : decode cX4_allowanceOf 1 = .ok (.getfield 15, 3) := by decide +kernel
theorem dX4_allowanceOf_4 : decode cX4_allowanceOf 4 = .ok (.iload_n 1, 1) := by decide +kernel
theorem dX4_allowanceOf_5 : decode cX4_allowanceOf 5 = .ok (.iaload, 1) := by decide +kernel
theorem dX4_allowanceOf_6 : decode cX4_allowanceOf 6 = .ok (.iconst (-1), 1) := by decide +kernel
theorem dX4_allowanceOf_7 : decode cX4_allowanceOf 7 = .ok (.if_icmp .ne 20, 3) := by decide +kernel
theorem dX4_allowanceOf_27 : decode cX4_allowanceOf 27 = .ok (.aload_n 0, 1) := by decide +kernel
theorem dX4_allowanceOf_28 : decode cX4_allowanceOf 28 = .ok (.getfield 15, 3) := by decide +kernel
theorem dX4_allowanceOf_31 : decode cX4_allowanceOf 31 = .ok (.iload_n 1, 1) := by decide +kernel
theorem dX4_allowanceOf_32 : decode cX4_allowanceOf 32 = .ok (.iaload, 1) := by decide +kernel
theorem dX4_allowanceOf_33 : decode cX4_allowanceOf 33 = .ok (.ireturn, 1) := by decide +kernel
theorem dX4_allowanceOf_10 : decode cX4_allowanceOf 10 = .ok (.bipush 11, 2) := by decide +kernel
theorem dX4_allowanceOf_12 : decode cX4_allowanceOf 12 = .ok (.iconst 2, 1) := by decide +kernel
theorem dX4_allowanceOf_13 : decode cX4_allowanceOf 13 = .ok (.iload_n 1, 1) := by decide +kernel
theorem dX4_allowanceOf_14 : decode cX4_allowanceOf 14 = .ok (.imul, 1) := by decide +kernel
theorem dX4_allowanceOf_15 : decode cX4_allowanceOf 15 = .ok (.aload_n 0, 1) := by decide +kernel
theorem dX4_allowanceOf_16 : decode cX4_allowanceOf 16 = .ok (.getfield 79, 3) := by decide +kernel
theorem dX4_allowanceOf_19 : decode cX4_allowanceOf 19 = .ok (.iadd, 1) := by decide +kernel
theorem dX4_allowanceOf_20 : decode cX4_allowanceOf 20 = .ok (.imul, 1) := by decide +kernel
theorem dX4_allowanceOf_21 : decode cX4_allowanceOf 21 = .ok (.bipush 14, 2) := by decide +kernel
theorem dX4_allowanceOf_23 : decode cX4_allowanceOf 23 = .ok (.idiv, 1) := by decide +kernel
theorem dX4_allowanceOf_24 : decode cX4_allowanceOf 24 = .ok (.goto 9, 3) := by decide +kernel
abbrev rm_kX4_allowanceOf : Room := { frames := 0, cells := 0, slots := 0, locals := 0 }
set_option maxHeartbeats 4000000 in
set_option maxRecDepth 100000 in
theorem kX4_allowanceOf (l : Launch) (g : zL) (h0 : Nat) (x1 : Int32) (h0_count : Int32) (h0_statements : Int32) (h0_thick : Int32) (h0_punch : Int32) (h0_ups : Int32) (h0_toolCount : Int32) (h0_toolWidth : Nat) (h0_told : Nat) (h0_name : Nat) (h0_parent : Nat) (h0_side : Nat) (h0_from : Nat) (h0_width : Nat) (h0_height : Nat) (h0_radius : Nat) (h0_toolSet : Nat) (f_h0_told : Nat → Int32) (hy0 : 0 ≤ x1.toInt ∧ x1.toInt ≤ 9) (hy1 : 0 ≤ h0_count.toInt ∧ h0_count.toInt ≤ 9) (hy2 : 0 ≤ h0_toolCount.toInt ∧ h0_toolCount.toInt ≤ 8) : zCi l g yX4_allowanceOf cX4_allowanceOf 2 (some .int) rm_kX4_allowanceOf [.ref h0, .int x1] [(h0, .inr (4, [.int h0_count, .int h0_statements, .int h0_thick, .int h0_punch, .int h0_ups, .int h0_toolCount, .ref h0_toolWidth, .ref h0_told, .ref h0_name, .ref h0_parent, .ref h0_side, .ref h0_from, .ref h0_width, .ref h0_height, .ref h0_radius, .ref h0_toolSet])), (h0_told, .inl (g.2.1.1, 10, .inl f_h0_told))] (fun (r : Int32) (u : Unit) => True) (fun (u : Unit) => [(h0, .inr (4, [.int h0_count, .int h0_statements, .int h0_thick, .int h0_punch, .int h0_ups, .int h0_toolCount, .ref h0_toolWidth, .ref h0_told, .ref h0_name, .ref h0_parent, .ref h0_side, .ref h0_from, .ref h0_width, .ref h0_height, .ref h0_radius, .ref h0_toolSet])), (h0_told, .inl (g.2.1.1, 10, .inl f_h0_told))]) := by
  refine zCi.mk2 (by decide) (Nat.le_of_ble_eq_true rfl) ?_
  intro p e s m below meth c A args Q hE hret hP hD hS ls hl
  obtain ⟨hx, hb, hr, hml, hown, hG, hlocks, hnm, hX, hA⟩ := hE
  have hown : s.vm.findClass RX4 = some m.cls := hown
  have hl : lv_has ls 2 [(0, .ref h0), (1, .int x1)] := hl
  refine lv_aload_n hx hb dX4_allowanceOf_0 rfl (lv_at hl 0 rfl) ?_
  refine va_get (D := g.1) (ci := 4) (v := .ref h0_told) (C := RX4) (T := TX4) (N := 16) hx hb hG iX4 hown hX.1 hP 0 rfl rfl 7 (by decide) (hG _ wf_X4_15) (fun _ h9 => h9) rfl dX4_allowanceOf_1 ?_
  refine lv_iload_n hx hb dX4_allowanceOf_4 rfl (lv_at hl 1 rfl) ?_
  refine va_iald hx hb hX.1 hP 1 0 rfl rfl (zin (rfl : x1.toInt = _) (ox_123 hy0)) dX4_allowanceOf_5 ?_
  refine lv_topi (fun z1 e2 => ?_)
  refine lv_iconst (v := (-1)) hx hb dX4_allowanceOf_6 (by decide) ?_
  refine lv_icmp_ne (tgt := 27) hx hb dX4_allowanceOf_7 (by decide) (fun c3 => ?_) (fun c3 => ?_)
  · skip
    have c3i : ¬ (z1.toInt = (-1 : Int)) := fun q => c3 ((zc_eq (rfl : z1.toInt = _) (show (-1 : Int32).toInt = (-1 : Int) from by decide)).mpr q)
    refine lv_aload_n hx hb dX4_allowanceOf_27 rfl (lv_at hl 0 rfl) ?_
    refine va_get (D := g.1) (ci := 4) (v := .ref h0_told) (C := RX4) (T := TX4) (N := 16) hx hb hG iX4 hown hX.1 hP 0 rfl rfl 7 (by decide) (hG _ wf_X4_15) (fun _ h9 => h9) rfl dX4_allowanceOf_28 ?_
    refine lv_iload_n hx hb dX4_allowanceOf_31 rfl (lv_at hl 1 rfl) ?_
    refine va_iald hx hb hX.1 hP 1 0 rfl rfl (zin (rfl : x1.toInt = _) (ox_123 hy0)) dX4_allowanceOf_32 ?_
    refine lv_topi (fun z4 e5 => ?_)
    exact hret z4 () (Nat.le_of_ble_eq_true rfl) (Nat.le_of_ble_eq_true rfl) rfl trivial hP hD hS dX4_allowanceOf_33
  · skip
    have c3i : z1.toInt = (-1 : Int) := (zc_eq (rfl : z1.toInt = _) (show (-1 : Int32).toInt = (-1 : Int) from by decide)).mp c3
    refine lv_bipush (v := 11) hx hb dX4_allowanceOf_10 (by decide) ?_
    refine lv_iconst (v := 2) hx hb dX4_allowanceOf_12 (by decide) ?_
    refine lv_iload_n hx hb dX4_allowanceOf_13 rfl (lv_at hl 1 rfl) ?_
    refine lv_imul hx hb dX4_allowanceOf_14 ?_
    refine lv_topi (fun z6 e7 => ?_)
    have f8 : z6.toInt = (2 : Int) * x1.toInt := zm e7 (show (2 : Int32).toInt = (2 : Int) from by decide) (rfl : x1.toInt = _) (ox_124 (zr x1) hy0)
    refine lv_aload_n hx hb dX4_allowanceOf_15 rfl (lv_at hl 0 rfl) ?_
    refine va_get (D := g.1) (ci := 4) (v := .int h0_thick) (C := RX4) (T := TX4) (N := 16) hx hb hG iX4 hown hX.1 hP 0 rfl rfl 2 (by decide) (hG _ wf_X4_79) (fun _ h9 => h9) rfl dX4_allowanceOf_16 ?_
    refine lv_iadd hx hb dX4_allowanceOf_19 ?_
    refine lv_topi (fun z9 e10 => ?_)
    refine lv_imul hx hb dX4_allowanceOf_20 ?_
    refine lv_topi (fun z11 e12 => ?_)
    refine lv_bipush (v := 14) hx hb dX4_allowanceOf_21 (by decide) ?_
    refine lv_idiv hx hb dX4_allowanceOf_23 (zne0 (show (14 : Int32).toInt = (14 : Int) from by decide) ((show ¬ (14 : Int) = 0 from by decide))) ?_
    refine lv_topi (fun z13 e14 => ?_)
    refine lv_goto (tgt := 33) hx hb dX4_allowanceOf_24 (by decide) ?_
    exact hret z13 () (Nat.le_of_ble_eq_true rfl) (Nat.le_of_ble_eq_true rfl) rfl trivial hP hD hS dX4_allowanceOf_33
theorem dX4_zoneOf_0 : decode cX4_zoneOf 0 = .ok (.aload_n 0, 1) := by decide +kernel
theorem dX4_zoneOf_1 : decode cX4_zoneOf 1 = .ok (.aload_n 0, 1) := by decide +kernel
theorem dX4_zoneOf_2 : decode cX4_zoneOf 2 = .ok (.getfield 36, 3) := by decide +kernel
theorem dX4_zoneOf_5 : decode cX4_zoneOf 5 = .ok (.iload_n 1, 1) := by decide +kernel
theorem dX4_zoneOf_6 : decode cX4_zoneOf 6 = .ok (.iaload, 1) := by decide +kernel
theorem dX4_zoneOf_7 : decode cX4_zoneOf 7 = .ok (.invokevirtual 82, 3) := by decide +kernel
theorem dX4_zoneOf_10 : decode cX4_zoneOf 10 = .ok (.ireturn, 1) := by decide +kernel
abbrev rm_kX4_zoneOf : Room := { frames := 1, cells := 0, slots := 0, locals := 21 }
set_option maxHeartbeats 4000000 in
set_option maxRecDepth 100000 in
theorem kX4_zoneOf (l : Launch) (g : zL) (h0 : Nat) (x1 : Int32) (h0_count : Int32) (h0_statements : Int32) (h0_thick : Int32) (h0_punch : Int32) (h0_ups : Int32) (h0_toolCount : Int32) (h0_toolWidth : Nat) (h0_told : Nat) (h0_name : Nat) (h0_parent : Nat) (h0_side : Nat) (h0_from : Nat) (h0_width : Nat) (h0_height : Nat) (h0_radius : Nat) (h0_toolSet : Nat) (f_h0_parent : Nat → Int32) (f_h0_radius : Nat → Int32) (f_h0_told : Nat → Int32) (hy0 : 1 ≤ x1.toInt ∧ x1.toInt ≤ 8) (hy1 : 0 ≤ h0_count.toInt ∧ h0_count.toInt ≤ 9) (hy2 : 0 ≤ h0_toolCount.toInt ∧ h0_toolCount.toInt ≤ 8) (hy3 : aI 0 8 f_h0_parent) (hy4 : True) (hy5 : pOK h0_count f_h0_parent f_h0_radius) (hy6 : x1.toInt < h0_count.toInt) : zCi l g yX4_zoneOf cX4_zoneOf 2 (some .int) rm_kX4_zoneOf [.ref h0, .int x1] [(h0, .inr (4, [.int h0_count, .int h0_statements, .int h0_thick, .int h0_punch, .int h0_ups, .int h0_toolCount, .ref h0_toolWidth, .ref h0_told, .ref h0_name, .ref h0_parent, .ref h0_side, .ref h0_from, .ref h0_width, .ref h0_height, .ref h0_radius, .ref h0_toolSet])), (h0_parent, .inl (g.2.1.1, 9, .inl f_h0_parent)), (h0_radius, .inl (g.2.1.1, 9, .inl f_h0_radius)), (h0_told, .inl (g.2.1.1, 10, .inl f_h0_told))] (fun (r : Int32) (u : Unit) => True) (fun (u : Unit) => [(h0, .inr (4, [.int h0_count, .int h0_statements, .int h0_thick, .int h0_punch, .int h0_ups, .int h0_toolCount, .ref h0_toolWidth, .ref h0_told, .ref h0_name, .ref h0_parent, .ref h0_side, .ref h0_from, .ref h0_width, .ref h0_height, .ref h0_radius, .ref h0_toolSet])), (h0_parent, .inl (g.2.1.1, 9, .inl f_h0_parent)), (h0_radius, .inl (g.2.1.1, 9, .inl f_h0_radius)), (h0_told, .inl (g.2.1.1, 10, .inl f_h0_told))]) := by
  refine zCi.mk2 (by decide) (Nat.le_of_ble_eq_true rfl) ?_
  intro p e s m below meth c A args Q hE hret hP hD hS ls hl
  obtain ⟨hx, hb, hr, hml, hown, hG, hlocks, hnm, hX, hA⟩ := hE
  have hown : s.vm.findClass RX4 = some m.cls := hown
  have hl : lv_has ls 2 [(0, .ref h0), (1, .int x1)] := hl
  refine lv_aload_n hx hb dX4_zoneOf_0 rfl (lv_at hl 0 rfl) ?_
  refine lv_aload_n hx hb dX4_zoneOf_1 rfl (lv_at hl 0 rfl) ?_
  refine va_get (D := g.1) (ci := 4) (v := .ref h0_radius) (C := RX4) (T := TX4) (N := 16) hx hb hG iX4 hown hX.1 hP 0 rfl rfl 14 (by decide) (hG _ wf_X4_36) (fun _ h9 => h9) rfl dX4_zoneOf_2 ?_
  refine lv_iload_n hx hb dX4_zoneOf_5 rfl (lv_at hl 1 rfl) ?_
  refine va_iald hx hb hX.1 hP 2 0 rfl rfl (zin (rfl : x1.toInt = _) (ox_125 hy0 hy1 hy6)) dX4_zoneOf_6 ?_
  refine lv_topi (fun z1 e2 => ?_)
  have f3 : 1 ≤ z1.toInt ∧ z1.toInt ≤ 9 := by rw [e2]; exact (hy5.at (rfl : x1.toInt = _) (rfl : h0_count.toInt = _) (ox_126 hy0 hy1 hy6)).2.2
  refine zfi (wr := [(h0_parent, .inl (g.2.1.1, 9, .inl f_h0_parent)), (h0_radius, .inl (g.2.1.1, 9, .inl f_h0_radius))]) (va_runV (As := [.int z1]) (rest := []) ⟨hx, hb, hml, hown, hG⟩ (kX4_allowanceOf l g h0 z1 h0_count h0_statements h0_thick h0_punch h0_ups h0_toolCount h0_toolWidth h0_told h0_name h0_parent h0_side h0_from h0_width h0_height h0_radius h0_toolSet f_h0_told (ox_127 f3) (ox_128 hy0 hy1 hy6) (ox_1 hy2) _) ⟨callB_of 1 hG (zGood wc_X4_allowanceOf) rfl rfl rfl (hG _ wini_X4) (hG _ wm_X4_82) hX4_allowanceOf ⟨Nat.le_of_ble_eq_true rfl, Nat.le_of_ble_eq_true rfl⟩, hG _ wi_X4_allowanceOf, hG _ wse_X4_X4_allowanceOf⟩ (zpreV (va_recv hX.1 hP (ci := 4) (q0 := 0) rfl rfl) hX hP hD hS hA [0, 3] rfl (by decide)) rfl rfl hl.1 rfl (lv_room (Nat.le_of_ble_eq_true rfl)) dX4_zoneOf_7 ⟨Nat.le_of_ble_eq_true rfl, Nat.le_of_ble_eq_true rfl⟩) hP hD hS hA [0, 3] [1, 2] rfl rfl (by decide) (by decide) (fun r4 _ H locs hp hP hD hS => ?_)
  refine W.cs (cells' := 0) (slots' := 0) rfl rfl ?_
  have hP : va_P g.1 vwCl [(h0_parent, .inl (g.2.1.1, 9, .inl f_h0_parent)), (h0_radius, .inl (g.2.1.1, 9, .inl f_h0_radius)), (h0, .inr (4, [.int h0_count, .int h0_statements, .int h0_thick, .int h0_punch, .int h0_ups, .int h0_toolCount, .ref h0_toolWidth, .ref h0_told, .ref h0_name, .ref h0_parent, .ref h0_side, .ref h0_from, .ref h0_width, .ref h0_height, .ref h0_radius, .ref h0_toolSet])), (h0_told, .inl (g.2.1.1, 10, .inl f_h0_told))] H := hP
  have hD : va_D A [(h0_parent, .inl (g.2.1.1, 9, .inl f_h0_parent)), (h0_radius, .inl (g.2.1.1, 9, .inl f_h0_radius)), (h0, .inr (4, [.int h0_count, .int h0_statements, .int h0_thick, .int h0_punch, .int h0_ups, .int h0_toolCount, .ref h0_toolWidth, .ref h0_told, .ref h0_name, .ref h0_parent, .ref h0_side, .ref h0_from, .ref h0_width, .ref h0_height, .ref h0_radius, .ref h0_toolSet])), (h0_told, .inl (g.2.1.1, 10, .inl f_h0_told))] := hD
  exact hret r4 () (Nat.le_of_ble_eq_true rfl) (Nat.le_of_ble_eq_true rfl) rfl trivial (hP.sub [2, 0, 1, 3] rfl) (hD.sub [2, 0, 1, 3] (by decide) rfl) hS dX4_zoneOf_10
theorem dX4_lengthOf_0 : decode cX4_lengthOf 0 = .ok (.iconst 0, 1) := by decide +kernel
theorem dX4_lengthOf_1 : decode cX4_lengthOf 1 = .ok (.istore_n 2, 1) := by decide +kernel
theorem dX4_lengthOf_2 : decode cX4_lengthOf 2 = .ok (.iload_n 1, 1) := by decide +kernel
theorem dX4_lengthOf_3 : decode cX4_lengthOf 3 = .ok (.istore_n 3, 1) := by decide +kernel
theorem dX4_lengthOf_4 : decode cX4_lengthOf 4 = .ok (.iconst 0, 1) := by decide +kernel
theorem dX4_lengthOf_5 : decode cX4_lengthOf 5 = .ok (.istore 4, 2) := by decide +kernel
theorem dX4_lengthOf_7 : decode cX4_lengthOf 7 = .ok (.iload_n 3, 1) := by decide +kernel
theorem dX4_lengthOf_8 : decode cX4_lengthOf 8 = .ok (.ifCond .le 38, 3) := by decide +kernel
theorem dX4_lengthOf_46 : decode cX4_lengthOf 46 = .ok (.iload_n 2, 1) := by decide +kernel
theorem dX4_lengthOf_47 : decode cX4_lengthOf 47 = .ok (.ireturn, 1) := by decide +kernel
theorem dX4_lengthOf_11 : decode cX4_lengthOf 11 = .ok (.iload 4, 2) := by decide +kernel
theorem dX4_lengthOf_13 : decode cX4_lengthOf 13 = .ok (.bipush 9, 2) := by decide +kernel
theorem dX4_lengthOf_15 : decode cX4_lengthOf 15 = .ok (.if_icmp .ge 31, 3) := by decide +kernel
theorem dX4_lengthOf_18 : decode cX4_lengthOf 18 = .ok (.iload_n 2, 1) := by decide +kernel
theorem dX4_lengthOf_19 : decode cX4_lengthOf 19 = .ok (.aload_n 0, 1) := by decide +kernel
theorem dX4_lengthOf_20 : decode cX4_lengthOf 20 = .ok (.getfield 33, 3) := by decide +kernel
theorem dX4_lengthOf_23 : decode cX4_lengthOf 23 = .ok (.iload_n 3, 1) := by decide +kernel
theorem dX4_lengthOf_24 : decode cX4_lengthOf 24 = .ok (.iaload, 1) := by decide +kernel
theorem dX4_lengthOf_25 : decode cX4_lengthOf 25 = .ok (.aload_n 0, 1) := by decide +kernel
theorem dX4_lengthOf_26 : decode cX4_lengthOf 26 = .ok (.iload_n 3, 1) := by decide +kernel
theorem dX4_lengthOf_27 : decode cX4_lengthOf 27 = .ok (.invokevirtual 99, 3) := by decide +kernel
theorem dX4_lengthOf_30 : decode cX4_lengthOf 30 = .ok (.iadd, 1) := by decide +kernel
theorem dX4_lengthOf_31 : decode cX4_lengthOf 31 = .ok (.iadd, 1) := by decide +kernel
theorem dX4_lengthOf_32 : decode cX4_lengthOf 32 = .ok (.istore_n 2, 1) := by decide +kernel
theorem dX4_lengthOf_33 : decode cX4_lengthOf 33 = .ok (.aload_n 0, 1) := by decide +kernel
theorem dX4_lengthOf_34 : decode cX4_lengthOf 34 = .ok (.getfield 21, 3) := by decide +kernel
theorem dX4_lengthOf_37 : decode cX4_lengthOf 37 = .ok (.iload_n 3, 1) := by decide +kernel
theorem dX4_lengthOf_38 : decode cX4_lengthOf 38 = .ok (.iaload, 1) := by decide +kernel
theorem dX4_lengthOf_39 : decode cX4_lengthOf 39 = .ok (.istore_n 3, 1) := by decide +kernel
theorem dX4_lengthOf_40 : decode cX4_lengthOf 40 = .ok (.iinc 4 1, 3) := by decide +kernel
theorem dX4_lengthOf_43 : decode cX4_lengthOf 43 = .ok (.goto (-36), 3) := by decide +kernel
abbrev rm_kX4_lengthOf : Room := { frames := 2, cells := 0, slots := 0, locals := 42 }
set_option maxHeartbeats 4000000 in
set_option maxRecDepth 100000 in
theorem kX4_lengthOf (l : Launch) (g : zL) (h0 : Nat) (x1 : Int32) (h0_count : Int32) (h0_statements : Int32) (h0_thick : Int32) (h0_punch : Int32) (h0_ups : Int32) (h0_toolCount : Int32) (h0_toolWidth : Nat) (h0_told : Nat) (h0_name : Nat) (h0_parent : Nat) (h0_side : Nat) (h0_from : Nat) (h0_width : Nat) (h0_height : Nat) (h0_radius : Nat) (h0_toolSet : Nat) (f_h0_parent : Nat → Int32) (f_h0_radius : Nat → Int32) (f_h0_height : Nat → Int32) (f_h0_told : Nat → Int32) (hy0 : 0 ≤ x1.toInt ∧ x1.toInt ≤ 8) (hy1 : 0 ≤ h0_count.toInt ∧ h0_count.toInt ≤ 9) (hy2 : 0 ≤ h0_toolCount.toInt ∧ h0_toolCount.toInt ≤ 8) (hy3 : aI 0 8 f_h0_parent) (hy4 : True) (hy5 : pOK h0_count f_h0_parent f_h0_radius) (hy6 : x1.toInt < h0_count.toInt) : zCi l g yX4_lengthOf cX4_lengthOf 5 (some .int) rm_kX4_lengthOf [.ref h0, .int x1] [(h0, .inr (4, [.int h0_count, .int h0_statements, .int h0_thick, .int h0_punch, .int h0_ups, .int h0_toolCount, .ref h0_toolWidth, .ref h0_told, .ref h0_name, .ref h0_parent, .ref h0_side, .ref h0_from, .ref h0_width, .ref h0_height, .ref h0_radius, .ref h0_toolSet])), (h0_parent, .inl (g.2.1.1, 9, .inl f_h0_parent)), (h0_radius, .inl (g.2.1.1, 9, .inl f_h0_radius)), (h0_height, .inl (g.2.1.1, 9, .inl f_h0_height)), (h0_told, .inl (g.2.1.1, 10, .inl f_h0_told))] (fun (r : Int32) (u : Unit) => True) (fun (u : Unit) => [(h0, .inr (4, [.int h0_count, .int h0_statements, .int h0_thick, .int h0_punch, .int h0_ups, .int h0_toolCount, .ref h0_toolWidth, .ref h0_told, .ref h0_name, .ref h0_parent, .ref h0_side, .ref h0_from, .ref h0_width, .ref h0_height, .ref h0_radius, .ref h0_toolSet])), (h0_parent, .inl (g.2.1.1, 9, .inl f_h0_parent)), (h0_radius, .inl (g.2.1.1, 9, .inl f_h0_radius)), (h0_height, .inl (g.2.1.1, 9, .inl f_h0_height)), (h0_told, .inl (g.2.1.1, 10, .inl f_h0_told))]) := by
  refine zCi.mk2 (by decide) (Nat.le_of_ble_eq_true rfl) ?_
  intro p e s m below meth c A args Q hE hret hP hD hS ls hl
  obtain ⟨hx, hb, hr, hml, hown, hG, hlocks, hnm, hX, hA⟩ := hE
  have hown : s.vm.findClass RX4 = some m.cls := hown
  have hl : lv_has ls 5 [(0, .ref h0), (1, .int x1)] := hl
  refine lv_iconst (v := 0) hx hb dX4_lengthOf_0 (by decide) ?_
  refine lv_istore_n (lv' := [(2, .int 0), (0, .ref h0), (1, .int x1)]) hx hb dX4_lengthOf_1 rfl hl (by decide) rfl (fun ls hl => ?_)
  refine lv_iload_n hx hb dX4_lengthOf_2 rfl (lv_at hl 2 rfl) ?_
  refine lv_istore_n (lv' := [(3, .int x1), (2, .int 0), (0, .ref h0), (1, .int x1)]) hx hb dX4_lengthOf_3 rfl hl (by decide) rfl (fun ls hl => ?_)
  refine lv_iconst (v := 0) hx hb dX4_lengthOf_4 (by decide) ?_
  refine lv_istore (lv' := [(4, .int 0), (3, .int x1), (2, .int 0), (0, .ref h0), (1, .int x1)]) hx hb dX4_lengthOf_5 hl (by decide) rfl (fun ls hl => ?_)
  have L162 : ∀ (n : Nat) (v141 : Int32) (v142 : Int32) (v143 : Int32) (H : Heap) (locs : List Loc) (ls : Array Slot), 0 ≤ v142.toInt ∧ v142.toInt ≤ 8 → 0 ≤ v143.toInt ∧ v143.toInt ≤ 9 → v142.toInt < h0_count.toInt → (10 - v143.toInt).toNat < n → va_P g.1 vwCl [(h0, .inr (4, [.int h0_count, .int h0_statements, .int h0_thick, .int h0_punch, .int h0_ups, .int h0_toolCount, .ref h0_toolWidth, .ref h0_told, .ref h0_name, .ref h0_parent, .ref h0_side, .ref h0_from, .ref h0_width, .ref h0_height, .ref h0_radius, .ref h0_toolSet])), (h0_parent, .inl (g.2.1.1, 9, .inl f_h0_parent)), (h0_radius, .inl (g.2.1.1, 9, .inl f_h0_radius)), (h0_height, .inl (g.2.1.1, 9, .inl f_h0_height)), (h0_told, .inl (g.2.1.1, 10, .inl f_h0_told))] H → va_D A [(h0, .inr (4, [.int h0_count, .int h0_statements, .int h0_thick, .int h0_punch, .int h0_ups, .int h0_toolCount, .ref h0_toolWidth, .ref h0_told, .ref h0_name, .ref h0_parent, .ref h0_side, .ref h0_from, .ref h0_width, .ref h0_height, .ref h0_radius, .ref h0_toolSet])), (h0_parent, .inl (g.2.1.1, 9, .inl f_h0_parent)), (h0_radius, .inl (g.2.1.1, 9, .inl f_h0_radius)), (h0_height, .inl (g.2.1.1, 9, .inl f_h0_height)), (h0_told, .inl (g.2.1.1, 10, .inl f_h0_told))] → va_S A s.heap H locs → lv_has ls 5 [(0, .ref h0), (1, .int x1), (2, .int v141), (3, .int v142), (4, .int v143)] → W p l e rm_kX4_lengthOf s m args below meth c H locs 0 0 Q (F0 m 7 ls []) := by
    intro n163
    induction n163 with
    | zero => intro v141 v142 v143 H locs ls i165 i166 v167 hm168; exact absurd hm168 (Nat.not_lt_zero _)
    | succ n163 ih164 =>
      intro v141 v142 v143 H locs ls i165 i166 v167 hm168 hP hD hS hl
      refine lv_iload_n hx hb dX4_lengthOf_7 rfl (lv_at hl 3 rfl) ?_
      refine lv_if_le (tgt := 46) hx hb dX4_lengthOf_8 (by decide) (fun c169 => ?_) (fun c169 => ?_)
      · skip
        have c169i : v142.toInt ≤ (0 : Int) := (zc_le (rfl : v142.toInt = _) (show (0 : Int32).toInt = (0 : Int) from by decide)).mp c169
        refine lv_iload_n hx hb dX4_lengthOf_46 rfl (lv_at hl 2 rfl) ?_
        exact hret v141 () (Nat.le_of_ble_eq_true rfl) (Nat.le_of_ble_eq_true rfl) rfl trivial hP hD hS dX4_lengthOf_47
      · skip
        have c169i : ¬ (v142.toInt ≤ (0 : Int)) := fun q => c169 ((zc_le (rfl : v142.toInt = _) (show (0 : Int32).toInt = (0 : Int) from by decide)).mpr q)
        refine lv_iload hx hb dX4_lengthOf_11 (lv_at hl 4 rfl) ?_
        refine lv_bipush (v := 9) hx hb dX4_lengthOf_13 (by decide) ?_
        refine lv_icmp_ge (tgt := 46) hx hb dX4_lengthOf_15 (by decide) (fun c170 => ?_) (fun c170 => ?_)
        · skip
          have c170i : (9 : Int) ≤ v143.toInt := (zc_le (show (9 : Int32).toInt = (9 : Int) from by decide) (rfl : v143.toInt = _)).mp c170
          refine lv_iload_n hx hb dX4_lengthOf_46 rfl (lv_at hl 2 rfl) ?_
          exact hret v141 () (Nat.le_of_ble_eq_true rfl) (Nat.le_of_ble_eq_true rfl) rfl trivial hP hD hS dX4_lengthOf_47
        · skip
          have c170i : ¬ ((9 : Int) ≤ v143.toInt) := fun q => c170 ((zc_le (show (9 : Int32).toInt = (9 : Int) from by decide) (rfl : v143.toInt = _)).mpr q)
          refine lv_iload_n hx hb dX4_lengthOf_18 rfl (lv_at hl 2 rfl) ?_
          refine lv_aload_n hx hb dX4_lengthOf_19 rfl (lv_at hl 0 rfl) ?_
          refine va_get (D := g.1) (ci := 4) (v := .ref h0_height) (C := RX4) (T := TX4) (N := 16) hx hb hG iX4 hown hX.1 hP 0 rfl rfl 13 (by decide) (hG _ wf_X4_33) (fun _ h9 => h9) rfl dX4_lengthOf_20 ?_
          refine lv_iload_n hx hb dX4_lengthOf_23 rfl (lv_at hl 3 rfl) ?_
          refine va_iald hx hb hX.1 hP 3 0 rfl rfl (zin (rfl : v142.toInt = _) (ox_129 c169i hy0 hy1 hy6 i165 v167)) dX4_lengthOf_24 ?_
          refine lv_topi (fun z171 e172 => ?_)
          refine lv_aload_n hx hb dX4_lengthOf_25 rfl (lv_at hl 0 rfl) ?_
          refine lv_iload_n hx hb dX4_lengthOf_26 rfl (lv_at hl 3 rfl) ?_
          refine zfi (wr := [(h0_height, .inl (g.2.1.1, 9, .inl f_h0_height))]) (va_runV (As := [.int v142]) (rest := [.int z171, .int v141]) ⟨hx, hb, hml, hown, hG⟩ (kX4_zoneOf l g h0 v142 h0_count h0_statements h0_thick h0_punch h0_ups h0_toolCount h0_toolWidth h0_told h0_name h0_parent h0_side h0_from h0_width h0_height h0_radius h0_toolSet f_h0_parent f_h0_radius f_h0_told (ox_130 c169i hy0 hy1 hy6 i165 v167) (ox_131 c169i hy0 hy1 hy6 i165 v167) (ox_1 hy2) hy3 trivial hy5 (ox_132 c169i hy0 hy1 hy6 i165 v167) _) ⟨callB_of 1 hG (zGood wc_X4_zoneOf) rfl rfl rfl (hG _ wini_X4) (hG _ wm_X4_99) hX4_zoneOf ⟨Nat.le_of_ble_eq_true rfl, Nat.le_of_ble_eq_true rfl⟩, hG _ wi_X4_zoneOf, hG _ wse_X4_X4_zoneOf⟩ (zpreV (va_recv hX.1 hP (ci := 4) (q0 := 0) rfl rfl) hX hP hD hS hA [0, 1, 2, 4] rfl (by decide)) rfl rfl hl.1 rfl (lv_room (Nat.le_of_ble_eq_true rfl)) dX4_lengthOf_27 ⟨Nat.le_of_ble_eq_true rfl, Nat.le_of_ble_eq_true rfl⟩) hP hD hS hA [0, 1, 2, 4] [3] rfl rfl (by decide) (by decide) (fun r173 _ H locs hp hP hD hS => ?_)
          refine W.cs (cells' := 0) (slots' := 0) rfl rfl ?_
          have hP : va_P g.1 vwCl [(h0_height, .inl (g.2.1.1, 9, .inl f_h0_height)), (h0, .inr (4, [.int h0_count, .int h0_statements, .int h0_thick, .int h0_punch, .int h0_ups, .int h0_toolCount, .ref h0_toolWidth, .ref h0_told, .ref h0_name, .ref h0_parent, .ref h0_side, .ref h0_from, .ref h0_width, .ref h0_height, .ref h0_radius, .ref h0_toolSet])), (h0_parent, .inl (g.2.1.1, 9, .inl f_h0_parent)), (h0_radius, .inl (g.2.1.1, 9, .inl f_h0_radius)), (h0_told, .inl (g.2.1.1, 10, .inl f_h0_told))] H := hP
          have hD : va_D A [(h0_height, .inl (g.2.1.1, 9, .inl f_h0_height)), (h0, .inr (4, [.int h0_count, .int h0_statements, .int h0_thick, .int h0_punch, .int h0_ups, .int h0_toolCount, .ref h0_toolWidth, .ref h0_told, .ref h0_name, .ref h0_parent, .ref h0_side, .ref h0_from, .ref h0_width, .ref h0_height, .ref h0_radius, .ref h0_toolSet])), (h0_parent, .inl (g.2.1.1, 9, .inl f_h0_parent)), (h0_radius, .inl (g.2.1.1, 9, .inl f_h0_radius)), (h0_told, .inl (g.2.1.1, 10, .inl f_h0_told))] := hD
          refine lv_iadd hx hb dX4_lengthOf_30 ?_
          refine lv_topi (fun z174 e175 => ?_)
          refine lv_iadd hx hb dX4_lengthOf_31 ?_
          refine lv_topi (fun z176 e177 => ?_)
          refine lv_istore_n (lv' := [(2, .int z176), (0, .ref h0), (1, .int x1), (3, .int v142), (4, .int v143)]) hx hb dX4_lengthOf_32 rfl hl (by decide) rfl (fun ls hl => ?_)
          refine lv_aload_n hx hb dX4_lengthOf_33 rfl (lv_at hl 1 rfl) ?_
          refine va_get (D := g.1) (ci := 4) (v := .ref h0_parent) (C := RX4) (T := TX4) (N := 16) hx hb hG iX4 hown hX.1 hP 1 rfl rfl 9 (by decide) (hG _ wf_X4_21) (fun _ h9 => h9) rfl dX4_lengthOf_34 ?_
          refine lv_iload_n hx hb dX4_lengthOf_37 rfl (lv_at hl 3 rfl) ?_
          refine va_iald hx hb hX.1 hP 2 0 rfl rfl (zin (rfl : v142.toInt = _) (ox_129 c169i hy0 hy1 hy6 i165 v167)) dX4_lengthOf_38 ?_
          refine lv_topi (fun z178 e179 => ?_)
          have i180 : 0 ≤ z178.toInt ∧ z178.toInt ≤ 8 := hy3.at e179
          have f181 : z178.toInt < v142.toInt := by rw [e179]; exact (hy5.at (rfl : v142.toInt = _) (rfl : h0_count.toInt = _) (ox_133 c169i hy0 hy1 hy6 i165 v167)).2.1
          refine lv_istore_n (lv' := [(3, .int z178), (2, .int z176), (0, .ref h0), (1, .int x1), (4, .int v143)]) hx hb dX4_lengthOf_39 rfl hl (by decide) rfl (fun ls hl => ?_)
          obtain ⟨z182, e183⟩ : ∃ y9 : Int32, y9 = v143 + 1 := ⟨_, rfl⟩
          have f184 : z182.toInt = v143.toInt + 1 := za e183 (rfl : v143.toInt = _) (show (1 : Int32).toInt = (1 : Int) from by decide) (ox_11 (zr v143) c170i i166)
          refine lv_iinc (v := z182) (lv' := [(4, .int z182), (3, .int z178), (2, .int z176), (0, .ref h0), (1, .int x1)]) hx hb dX4_lengthOf_40 hl (k := 4) rfl (by rw [e183]; rfl) (by decide) rfl (fun ls hl => ?_)
          refine lv_goto (tgt := 7) hx hb dX4_lengthOf_43 (by decide) ?_
          exact ih164 z176 z178 z182 H locs ls (ox_134 c169i f181 hy0 hy1 hy6 i165 i180 v167) (ox_12 c170i f184 i166) (ox_135 c169i f181 hy0 hy1 hy6 i165 i180 v167) (zdec hm168 (ox_13 c170i f184 i166)) (hP.sub [1, 2, 3, 0, 4] rfl) (hD.sub [1, 2, 3, 0, 4] (by decide) rfl) hS (lv_sub hl [3, 4, 2, 1, 0] rfl)
  exact L162 _ (0 : Int32) x1 (0 : Int32) _ _ ls (ox_136 hy0 hy1 hy6) ((show 0 ≤ (0 : Int) ∧ (0 : Int) ≤ 9 from by decide)) (ox_137 hy0 hy1 hy6) (Nat.lt_succ_self _) hP hD hS (lv_sub hl [3, 4, 2, 1, 0] rfl)
theorem dX4_clear_0 : decode cX4_clear 0 = .ok (.aload_n 0, 1) := by decide +kernel
theorem dX4_clear_1 : decode cX4_clear 1 = .ok (.iconst 0, 1) := by decide +kernel
theorem dX4_clear_2 : decode cX4_clear 2 = .ok (.putfield 42, 3) := by decide +kernel
theorem dX4_clear_5 : decode cX4_clear 5 = .ok (.aload_n 0, 1) := by decide +kernel
theorem dX4_clear_6 : decode cX4_clear 6 = .ok (.iconst 0, 1) := by decide +kernel
theorem dX4_clear_7 : decode cX4_clear 7 = .ok (.putfield 46, 3) := by decide +kernel
theorem dX4_clear_10 : decode cX4_clear 10 = .ok (.aload_n 0, 1) := by decide +kernel
theorem dX4_clear_11 : decode cX4_clear 11 = .ok (.iconst 0, 1) := by decide +kernel
theorem dX4_clear_12 : decode cX4_clear 12 = .ok (.putfield 49, 3) := by decide +kernel
theorem dX4_clear_15 : decode cX4_clear 15 = .ok (.aload_n 0, 1) := by decide +kernel
theorem dX4_clear_16 : decode cX4_clear 16 = .ok (.iconst 0, 1) := by decide +kernel
theorem dX4_clear_17 : decode cX4_clear 17 = .ok (.putfield 52, 3) := by decide +kernel
theorem dX4_clear_20 : decode cX4_clear 20 = .ok (.aload_n 0, 1) := by decide +kernel
theorem dX4_clear_21 : decode cX4_clear 21 = .ok (.bipush 30, 2) := by decide +kernel
theorem dX4_clear_23 : decode cX4_clear 23 = .ok (.putfield 55, 3) := by decide +kernel
theorem dX4_clear_26 : decode cX4_clear 26 = .ok (.aload_n 0, 1) := by decide +kernel
theorem dX4_clear_27 : decode cX4_clear 27 = .ok (.getfield 15, 3) := by decide +kernel
theorem dX4_clear_30 : decode cX4_clear 30 = .ok (.iconst (-1), 1) := by decide +kernel
theorem dX4_clear_31 : decode cX4_clear 31 = .ok (.invokestatic 58, 3) := by decide +kernel
theorem dX4_clear_34 : decode cX4_clear 34 = .ok (.return_, 1) := by decide +kernel
abbrev rm_kX4_clear : Room := { frames := 1, cells := 0, slots := 0, locals := 23 }
set_option maxHeartbeats 4000000 in
set_option maxRecDepth 100000 in
theorem kX4_clear (l : Launch) (g : zL) (h0 : Nat) (h0_count : Int32) (h0_statements : Int32) (h0_thick : Int32) (h0_punch : Int32) (h0_ups : Int32) (h0_toolCount : Int32) (h0_toolWidth : Nat) (h0_told : Nat) (h0_name : Nat) (h0_parent : Nat) (h0_side : Nat) (h0_from : Nat) (h0_width : Nat) (h0_height : Nat) (h0_radius : Nat) (h0_toolSet : Nat) (f_h0_told : Nat → Int32) (hy0 : 0 ≤ h0_count.toInt ∧ h0_count.toInt ≤ 9) (hy1 : 0 ≤ h0_toolCount.toInt ∧ h0_toolCount.toInt ≤ 8) : zCv l g yX4_clear cX4_clear 1 none rm_kX4_clear [.ref h0] [(h0, .inr (4, [.int h0_count, .int h0_statements, .int h0_thick, .int h0_punch, .int h0_ups, .int h0_toolCount, .ref h0_toolWidth, .ref h0_told, .ref h0_name, .ref h0_parent, .ref h0_side, .ref h0_from, .ref h0_width, .ref h0_height, .ref h0_radius, .ref h0_toolSet])), (h0_told, .inl (g.2.1.1, 10, .inl f_h0_told))] (fun (u : (Nat → Int32)) => True) (fun (u : (Nat → Int32)) => [(h0, .inr (4, [.int 0, .int 0, .int h0_thick, .int 30, .int 0, .int 0, .ref h0_toolWidth, .ref h0_told, .ref h0_name, .ref h0_parent, .ref h0_side, .ref h0_from, .ref h0_width, .ref h0_height, .ref h0_radius, .ref h0_toolSet])), (h0_told, .inl (g.2.1.1, 10, .inl u))]) := by
  refine zCv.mk2 (by decide) (Nat.le_of_ble_eq_true rfl) ?_
  intro p e s m below meth c A args Q hE hret hP hD hS ls hl
  obtain ⟨hx, hb, hr, hml, hown, hG, hlocks, hnm, hX, hA⟩ := hE
  have hown : s.vm.findClass RX4 = some m.cls := hown
  have hl : lv_has ls 1 [(0, .ref h0)] := hl
  refine lv_aload_n hx hb dX4_clear_0 rfl (lv_at hl 0 rfl) ?_
  refine lv_iconst (v := 0) hx hb dX4_clear_1 (by decide) ?_
  refine va_put (D := g.1) (ci := 4) (v := .int 0) (ty := .int) (C := RX4) (T := TX4) (N := 16) hx hb hG iX4 tyX4 tyX4_ok nmX4 hown hX.1 hP hD hS 0 rfl rfl 0 (by decide) (hG _ wf_X4_42) (fun _ h9 => h9) rfl (by decide +kernel) rfl rfl (Nat.le_of_ble_eq_true rfl) dX4_clear_2 (fun H locs hP hD hS => ?_)
  have hP : va_P g.1 vwCl [(h0, .inr (4, [.int 0, .int h0_statements, .int h0_thick, .int h0_punch, .int h0_ups, .int h0_toolCount, .ref h0_toolWidth, .ref h0_told, .ref h0_name, .ref h0_parent, .ref h0_side, .ref h0_from, .ref h0_width, .ref h0_height, .ref h0_radius, .ref h0_toolSet])), (h0_told, .inl (g.2.1.1, 10, .inl f_h0_told))] H := hP
  have hD : va_D A [(h0, .inr (4, [.int 0, .int h0_statements, .int h0_thick, .int h0_punch, .int h0_ups, .int h0_toolCount, .ref h0_toolWidth, .ref h0_told, .ref h0_name, .ref h0_parent, .ref h0_side, .ref h0_from, .ref h0_width, .ref h0_height, .ref h0_radius, .ref h0_toolSet])), (h0_told, .inl (g.2.1.1, 10, .inl f_h0_told))] := hD
  refine lv_aload_n hx hb dX4_clear_5 rfl (lv_at hl 0 rfl) ?_
  refine lv_iconst (v := 0) hx hb dX4_clear_6 (by decide) ?_
  refine va_put (D := g.1) (ci := 4) (v := .int 0) (ty := .int) (C := RX4) (T := TX4) (N := 16) hx hb hG iX4 tyX4 tyX4_ok nmX4 hown hX.1 hP hD hS 0 rfl rfl 1 (by decide) (hG _ wf_X4_46) (fun _ h9 => h9) rfl (by decide +kernel) rfl rfl (Nat.le_of_ble_eq_true rfl) dX4_clear_7 (fun H locs hP hD hS => ?_)
  have hP : va_P g.1 vwCl [(h0, .inr (4, [.int 0, .int 0, .int h0_thick, .int h0_punch, .int h0_ups, .int h0_toolCount, .ref h0_toolWidth, .ref h0_told, .ref h0_name, .ref h0_parent, .ref h0_side, .ref h0_from, .ref h0_width, .ref h0_height, .ref h0_radius, .ref h0_toolSet])), (h0_told, .inl (g.2.1.1, 10, .inl f_h0_told))] H := hP
  have hD : va_D A [(h0, .inr (4, [.int 0, .int 0, .int h0_thick, .int h0_punch, .int h0_ups, .int h0_toolCount, .ref h0_toolWidth, .ref h0_told, .ref h0_name, .ref h0_parent, .ref h0_side, .ref h0_from, .ref h0_width, .ref h0_height, .ref h0_radius, .ref h0_toolSet])), (h0_told, .inl (g.2.1.1, 10, .inl f_h0_told))] := hD
  refine lv_aload_n hx hb dX4_clear_10 rfl (lv_at hl 0 rfl) ?_
  refine lv_iconst (v := 0) hx hb dX4_clear_11 (by decide) ?_
  refine va_put (D := g.1) (ci := 4) (v := .int 0) (ty := .int) (C := RX4) (T := TX4) (N := 16) hx hb hG iX4 tyX4 tyX4_ok nmX4 hown hX.1 hP hD hS 0 rfl rfl 4 (by decide) (hG _ wf_X4_49) (fun _ h9 => h9) rfl (by decide +kernel) rfl rfl (Nat.le_of_ble_eq_true rfl) dX4_clear_12 (fun H locs hP hD hS => ?_)
  have hP : va_P g.1 vwCl [(h0, .inr (4, [.int 0, .int 0, .int h0_thick, .int h0_punch, .int 0, .int h0_toolCount, .ref h0_toolWidth, .ref h0_told, .ref h0_name, .ref h0_parent, .ref h0_side, .ref h0_from, .ref h0_width, .ref h0_height, .ref h0_radius, .ref h0_toolSet])), (h0_told, .inl (g.2.1.1, 10, .inl f_h0_told))] H := hP
  have hD : va_D A [(h0, .inr (4, [.int 0, .int 0, .int h0_thick, .int h0_punch, .int 0, .int h0_toolCount, .ref h0_toolWidth, .ref h0_told, .ref h0_name, .ref h0_parent, .ref h0_side, .ref h0_from, .ref h0_width, .ref h0_height, .ref h0_radius, .ref h0_toolSet])), (h0_told, .inl (g.2.1.1, 10, .inl f_h0_told))] := hD
  refine lv_aload_n hx hb dX4_clear_15 rfl (lv_at hl 0 rfl) ?_
  refine lv_iconst (v := 0) hx hb dX4_clear_16 (by decide) ?_
  refine va_put (D := g.1) (ci := 4) (v := .int 0) (ty := .int) (C := RX4) (T := TX4) (N := 16) hx hb hG iX4 tyX4 tyX4_ok nmX4 hown hX.1 hP hD hS 0 rfl rfl 5 (by decide) (hG _ wf_X4_52) (fun _ h9 => h9) rfl (by decide +kernel) rfl rfl (Nat.le_of_ble_eq_true rfl) dX4_clear_17 (fun H locs hP hD hS => ?_)
  have hP : va_P g.1 vwCl [(h0, .inr (4, [.int 0, .int 0, .int h0_thick, .int h0_punch, .int 0, .int 0, .ref h0_toolWidth, .ref h0_told, .ref h0_name, .ref h0_parent, .ref h0_side, .ref h0_from, .ref h0_width, .ref h0_height, .ref h0_radius, .ref h0_toolSet])), (h0_told, .inl (g.2.1.1, 10, .inl f_h0_told))] H := hP
  have hD : va_D A [(h0, .inr (4, [.int 0, .int 0, .int h0_thick, .int h0_punch, .int 0, .int 0, .ref h0_toolWidth, .ref h0_told, .ref h0_name, .ref h0_parent, .ref h0_side, .ref h0_from, .ref h0_width, .ref h0_height, .ref h0_radius, .ref h0_toolSet])), (h0_told, .inl (g.2.1.1, 10, .inl f_h0_told))] := hD
  refine lv_aload_n hx hb dX4_clear_20 rfl (lv_at hl 0 rfl) ?_
  refine lv_bipush (v := 30) hx hb dX4_clear_21 (by decide) ?_
  refine va_put (D := g.1) (ci := 4) (v := .int 30) (ty := .int) (C := RX4) (T := TX4) (N := 16) hx hb hG iX4 tyX4 tyX4_ok nmX4 hown hX.1 hP hD hS 0 rfl rfl 3 (by decide) (hG _ wf_X4_55) (fun _ h9 => h9) rfl (by decide +kernel) rfl rfl (Nat.le_of_ble_eq_true rfl) dX4_clear_23 (fun H locs hP hD hS => ?_)
  have hP : va_P g.1 vwCl [(h0, .inr (4, [.int 0, .int 0, .int h0_thick, .int 30, .int 0, .int 0, .ref h0_toolWidth, .ref h0_told, .ref h0_name, .ref h0_parent, .ref h0_side, .ref h0_from, .ref h0_width, .ref h0_height, .ref h0_radius, .ref h0_toolSet])), (h0_told, .inl (g.2.1.1, 10, .inl f_h0_told))] H := hP
  have hD : va_D A [(h0, .inr (4, [.int 0, .int 0, .int h0_thick, .int 30, .int 0, .int 0, .ref h0_toolWidth, .ref h0_told, .ref h0_name, .ref h0_parent, .ref h0_side, .ref h0_from, .ref h0_width, .ref h0_height, .ref h0_radius, .ref h0_toolSet])), (h0_told, .inl (g.2.1.1, 10, .inl f_h0_told))] := hD
  refine lv_aload_n hx hb dX4_clear_26 rfl (lv_at hl 0 rfl) ?_
  refine va_get (D := g.1) (ci := 4) (v := .ref h0_told) (C := RX4) (T := TX4) (N := 16) hx hb hG iX4 hown hX.1 hP 0 rfl rfl 7 (by decide) (hG _ wf_X4_15) (fun _ h9 => h9) rfl dX4_clear_27 ?_
  refine lv_iconst (v := (-1)) hx hb dX4_clear_30 (by decide) ?_
  refine zfv (wr := [(h0, .inr (4, [.int 0, .int 0, .int h0_thick, .int 30, .int 0, .int 0, .ref h0_toolWidth, .ref h0_told, .ref h0_name, .ref h0_parent, .ref h0_side, .ref h0_from, .ref h0_width, .ref h0_height, .ref h0_radius, .ref h0_toolSet]))]) (va_runS (As := [.ref h0_told, .int (-1)]) (rest := []) ⟨hx, hb, hml, hown, hG⟩ (kJ7_fill_53178_10 l g h0_told (-1 : Int32) f_h0_told _) ⟨callB_of 2 hG (zGood wc_J7_fill_53178) rfl rfl rfl (hG _ wini_J7) (hG _ wm_X4_58) hJ7_fill_53178 ⟨Nat.le_of_ble_eq_true rfl, Nat.le_of_ble_eq_true rfl⟩, hG _ ws_J7_fill_53178⟩ (zpreS hX hP hD hS hA [1] rfl (by decide)) rfl rfl hl.1 rfl (lv_room (Nat.le_of_ble_eq_true rfl)) dX4_clear_31 ⟨Nat.le_of_ble_eq_true rfl, Nat.le_of_ble_eq_true rfl⟩) hP hD hS hA [1] [0] rfl rfl (by decide) (by decide) (fun u2 H locs hp hP hD hS => ?_)
  refine W.cs (cells' := 0) (slots' := 0) rfl rfl ?_
  obtain ⟨f3, rfl⟩ : ∃ z9, z9 = u2 := ⟨_, rfl⟩
  have hP : va_P g.1 vwCl [(h0, .inr (4, [.int 0, .int 0, .int h0_thick, .int 30, .int 0, .int 0, .ref h0_toolWidth, .ref h0_told, .ref h0_name, .ref h0_parent, .ref h0_side, .ref h0_from, .ref h0_width, .ref h0_height, .ref h0_radius, .ref h0_toolSet])), (h0_told, .inl (g.2.1.1, 10, .inl f3))] H := hP
  have hD : va_D A [(h0, .inr (4, [.int 0, .int 0, .int h0_thick, .int 30, .int 0, .int 0, .ref h0_toolWidth, .ref h0_told, .ref h0_name, .ref h0_parent, .ref h0_side, .ref h0_from, .ref h0_width, .ref h0_height, .ref h0_radius, .ref h0_toolSet])), (h0_told, .inl (g.2.1.1, 10, .inl f3))] := hD
  exact hret f3 (Nat.le_of_ble_eq_true rfl) (Nat.le_of_ble_eq_true rfl) trivial hP hD hS dX4_clear_34
theorem dX5_move_0 : decode cX5_move 0 = .ok (.aload_n 0, 1) := by decide +kernel
theorem dX5_move_1 : decode cX5_move 1 = .ok (.iload_n 1, 1) := by decide +kernel
theorem dX5_move_2 : decode cX5_move 2 = .ok (.iconst 1, 1) := by decide +kernel
theorem dX5_move_3 : decode cX5_move 3 = .ok (.ishr, 1) := by decide +kernel
theorem dX5_move_4 : decode cX5_move 4 = .ok (.dup2, 1) := by decide +kernel
theorem dX5_move_5 : decode cX5_move 5 = .ok (.iaload, 1) := by decide +kernel
theorem dX5_move_6 : decode cX5_move 6 = .ok (.iload_n 1, 1) := by decide +kernel
theorem dX5_move_7 : decode cX5_move 7 = .ok (.iconst 1, 1) := by decide +kernel
theorem dX5_move_8 : decode cX5_move 8 = .ok (.iand, 1) := by decide +kernel
theorem dX5_move_9 : decode cX5_move 9 = .ok (.ifCond .ne 7, 3) := by decide +kernel
theorem dX5_move_16 : decode cX5_move 16 = .ok (.iload_n 2, 1) := by decide +kernel
theorem dX5_move_17 : decode cX5_move 17 = .ok (.ineg, 1) := by decide +kernel
theorem dX5_move_18 : decode cX5_move 18 = .ok (.iadd, 1) := by decide +kernel
theorem dX5_move_19 : decode cX5_move 19 = .ok (.iastore, 1) := by decide +kernel
theorem dX5_move_20 : decode cX5_move 20 = .ok (.return_, 1) := by decide +kernel
theorem dX5_move_12 : decode cX5_move 12 = .ok (.iload_n 2, 1) := by decide +kernel
theorem dX5_move_13 : decode cX5_move 13 = .ok (.goto 5, 3) := by decide +kernel
abbrev rm_kX5_move : Room := { frames := 0, cells := 0, slots := 0, locals := 0 }
set_option maxHeartbeats 4000000 in
set_option maxRecDepth 100000 in
theorem kX5_move (l : Launch) (g : zL) (y1 : Nat) (x2 : Int32) (x3 : Int32) (f_y1 : Nat → Int32) (hy0 : 0 ≤ x2.toInt ∧ x2.toInt ≤ 5) : zCv l g yX5_move cX5_move 3 none rm_kX5_move [.ref y1, .int x2, .int x3] [(y1, .inl (g.2.1.1, 3, .inl f_y1))] (fun (u : (Nat → Int32)) => True) (fun (u : (Nat → Int32)) => [(y1, .inl (g.2.1.1, 3, .inl u))]) := by
  refine zCv.mk2 (by decide) (Nat.le_of_ble_eq_true rfl) ?_
  intro p e s m below meth c A args Q hE hret hP hD hS ls hl
  obtain ⟨hx, hb, hr, hml, hown, hG, hlocks, hnm, hX, hA⟩ := hE
  have hown : s.vm.findClass RX5 = some m.cls := hown
  have hl : lv_has ls 3 [(0, .ref y1), (1, .int x2), (2, .int x3)] := hl
  refine lv_aload_n hx hb dX5_move_0 rfl (lv_at hl 0 rfl) ?_
  refine lv_iload_n hx hb dX5_move_1 rfl (lv_at hl 1 rfl) ?_
  refine lv_iconst (v := 1) hx hb dX5_move_2 (by decide) ?_
  refine lv_ishr hx hb dX5_move_3 ?_
  refine lv_topi (fun z1 e2 => ?_)
  have f3 : z1.toInt = x2.toInt / 2 := zshr 1 e2 (by decide) (rfl : x2.toInt = _)
  refine lv_dup2_11 hx hb dX5_move_4 rfl rfl ?_
  refine va_iald hx hb hX.1 hP 0 0 rfl rfl (zin (rfl : z1.toInt = _) (ox_138 f3 hy0)) dX5_move_5 ?_
  refine lv_topi (fun z4 e5 => ?_)
  refine lv_iload_n hx hb dX5_move_6 rfl (lv_at hl 1 rfl) ?_
  refine lv_iconst (v := 1) hx hb dX5_move_7 (by decide) ?_
  refine lv_iand hx hb dX5_move_8 ?_
  refine lv_topi (fun z6 e7 => ?_)
  have f8 : 0 ≤ z6.toInt ∧ z6.toInt ≤ (1 : Int) := zand e7 (show (1 : Int32).toInt = (1 : Int) from by decide) ((show 0 ≤ (1 : Int) from by decide))
  refine lv_if_ne (tgt := 16) hx hb dX5_move_9 (by decide) (fun c9 => ?_) (fun c9 => ?_)
  · skip
    have c9i : ¬ (z6.toInt = (0 : Int)) := fun q => c9 ((zc_eq (rfl : z6.toInt = _) (show (0 : Int32).toInt = (0 : Int) from by decide)).mpr q)
    refine lv_iload_n hx hb dX5_move_16 rfl (lv_at hl 2 rfl) ?_
    refine lv_ineg hx hb dX5_move_17 ?_
    refine lv_topi (fun z10 e11 => ?_)
    refine lv_iadd hx hb dX5_move_18 ?_
    refine lv_topi (fun z12 e13 => ?_)
    refine va_iast hx hb hX.1 hP hD hS 0 0 rfl rfl (zin (rfl : z1.toInt = _) (ox_138 f3 hy0)) dX5_move_19 (fun H locs hP hD hS => ?_)
    obtain ⟨f14, e15⟩ : ∃ z9 : Nat → Int32, z9 = upd f_y1 z1.toNatClampNeg z12 := ⟨_, rfl⟩
    rw [← e15] at hP hD
    have hP : va_P g.1 vwCl [(y1, .inl (g.2.1.1, 3, .inl f14))] H := hP
    have hD : va_D A [(y1, .inl (g.2.1.1, 3, .inl f14))] := hD
    exact hret f14 (Nat.le_of_ble_eq_true rfl) (Nat.le_of_ble_eq_true rfl) trivial hP hD hS dX5_move_20
  · skip
    have c9i : z6.toInt = (0 : Int) := (zc_eq (rfl : z6.toInt = _) (show (0 : Int32).toInt = (0 : Int) from by decide)).mp c9
    refine lv_iload_n hx hb dX5_move_12 rfl (lv_at hl 2 rfl) ?_
    refine lv_goto (tgt := 18) hx hb dX5_move_13 (by decide) ?_
    refine lv_iadd hx hb dX5_move_18 ?_
    refine lv_topi (fun z16 e17 => ?_)
    refine va_iast hx hb hX.1 hP hD hS 0 0 rfl rfl (zin (rfl : z1.toInt = _) (ox_138 f3 hy0)) dX5_move_19 (fun H locs hP hD hS => ?_)
    obtain ⟨f18, e19⟩ : ∃ z9 : Nat → Int32, z9 = upd f_y1 z1.toNatClampNeg z16 := ⟨_, rfl⟩
    rw [← e19] at hP hD
    have hP : va_P g.1 vwCl [(y1, .inl (g.2.1.1, 3, .inl f18))] H := hP
    have hD : va_D A [(y1, .inl (g.2.1.1, 3, .inl f18))] := hD
    exact hret f18 (Nat.le_of_ble_eq_true rfl) (Nat.le_of_ble_eq_true rfl) trivial hP hD hS dX5_move_20
theorem dX5_setBox_0 : decode cX5_setBox 0 = .ok (.aload_n 0, 1) := by decide +kernel
theorem dX5_setBox_1 : decode cX5_setBox 1 = .ok (.getfield 30, 3) := by decide +kernel
theorem dX5_setBox_4 : decode cX5_setBox 4 = .ok (.iconst 0, 1) := by decide +kernel
theorem dX5_setBox_5 : decode cX5_setBox 5 = .ok (.aload_n 0, 1) := by decide +kernel
theorem dX5_setBox_6 : decode cX5_setBox 6 = .ok (.getfield 33, 3) := by decide +kernel
theorem dX5_setBox_9 : decode cX5_setBox 9 = .ok (.iconst 0, 1) := by decide +kernel
theorem dX5_setBox_10 : decode cX5_setBox 10 = .ok (.iconst 3, 1) := by decide +kernel
theorem dX5_setBox_11 : decode cX5_setBox 11 = .ok (.invokestatic 106, 3) := by decide +kernel
theorem dX5_setBox_14 : decode cX5_setBox 14 = .ok (.aload_n 0, 1) := by decide +kernel
theorem dX5_setBox_15 : decode cX5_setBox 15 = .ok (.getfield 33, 3) := by decide +kernel
theorem dX5_setBox_18 : decode cX5_setBox 18 = .ok (.iload_n 2, 1) := by decide +kernel
theorem dX5_setBox_19 : decode cX5_setBox 19 = .ok (.iload_n 3, 1) := by decide +kernel
theorem dX5_setBox_20 : decode cX5_setBox 20 = .ok (.invokestatic 98, 3) := by decide +kernel
theorem dX5_setBox_23 : decode cX5_setBox 23 = .ok (.aload_n 0, 1) := by decide +kernel
theorem dX5_setBox_24 : decode cX5_setBox 24 = .ok (.getfield 33, 3) := by decide +kernel
theorem dX5_setBox_27 : decode cX5_setBox 27 = .ok (.iload 4, 2) := by decide +kernel
theorem dX5_setBox_29 : decode cX5_setBox 29 = .ok (.iload 5, 2) := by decide +kernel
theorem dX5_setBox_31 : decode cX5_setBox 31 = .ok (.invokestatic 98, 3) := by decide +kernel
theorem dX5_setBox_34 : decode cX5_setBox 34 = .ok (.iconst 0, 1) := by decide +kernel
theorem dX5_setBox_35 : decode cX5_setBox 35 = .ok (.istore 6, 2) := by decide +kernel
theorem dX5_setBox_37 : decode cX5_setBox 37 = .ok (.iload 6, 2) := by decide +kernel
theorem dX5_setBox_39 : decode cX5_setBox 39 = .ok (.iconst 3, 1) := by decide +kernel
theorem dX5_setBox_40 : decode cX5_setBox 40 = .ok (.if_icmp .ge 65, 3) := by decide +kernel
theorem dX5_setBox_105 : decode cX5_setBox 105 = .ok (.return_, 1) := by decide +kernel
theorem dX5_setBox_43 : decode cX5_setBox 43 = .ok (.aload_n 0, 1) := by decide +kernel
theorem dX5_setBox_44 : decode cX5_setBox 44 = .ok (.getfield 11, 3) := by decide +kernel
theorem dX5_setBox_47 : decode cX5_setBox 47 = .ok (.iconst 3, 1) := by decide +kernel
theorem dX5_setBox_48 : decode cX5_setBox 48 = .ok (.iload_n 1, 1) := by decide +kernel
theorem dX5_setBox_49 : decode cX5_setBox 49 = .ok (.imul, 1) := by decide +kernel
theorem dX5_setBox_50 : decode cX5_setBox 50 = .ok (.iload 6, 2) := by decide +kernel
theorem dX5_setBox_52 : decode cX5_setBox 52 = .ok (.iadd, 1) := by decide +kernel
theorem dX5_setBox_53 : decode cX5_setBox 53 = .ok (.aload_n 0, 1) := by decide +kernel
theorem dX5_setBox_54 : decode cX5_setBox 54 = .ok (.getfield 30, 3) := by decide +kernel
theorem dX5_setBox_57 : decode cX5_setBox 57 = .ok (.iload 6, 2) := by decide +kernel
theorem dX5_setBox_59 : decode cX5_setBox 59 = .ok (.iaload, 1) := by decide +kernel
theorem dX5_setBox_60 : decode cX5_setBox 60 = .ok (.aload_n 0, 1) := by decide +kernel
theorem dX5_setBox_61 : decode cX5_setBox 61 = .ok (.getfield 33, 3) := by decide +kernel
theorem dX5_setBox_64 : decode cX5_setBox 64 = .ok (.iload 6, 2) := by decide +kernel
theorem dX5_setBox_66 : decode cX5_setBox 66 = .ok (.iaload, 1) := by decide +kernel
theorem dX5_setBox_67 : decode cX5_setBox 67 = .ok (.invokestatic 121, 3) := by decide +kernel
theorem dX5_setBox_70 : decode cX5_setBox 70 = .ok (.iastore, 1) := by decide +kernel
theorem dX5_setBox_71 : decode cX5_setBox 71 = .ok (.aload_n 0, 1) := by decide +kernel
theorem dX5_setBox_72 : decode cX5_setBox 72 = .ok (.getfield 15, 3) := by decide +kernel
theorem dX5_setBox_75 : decode cX5_setBox 75 = .ok (.iconst 3, 1) := by decide +kernel
theorem dX5_setBox_76 : decode cX5_setBox 76 = .ok (.iload_n 1, 1) := by decide +kernel
theorem dX5_setBox_77 : decode cX5_setBox 77 = .ok (.imul, 1) := by decide +kernel
theorem dX5_setBox_78 : decode cX5_setBox 78 = .ok (.iload 6, 2) := by decide +kernel
theorem dX5_setBox_80 : decode cX5_setBox 80 = .ok (.iadd, 1) := by decide +kernel
theorem dX5_setBox_81 : decode cX5_setBox 81 = .ok (.aload_n 0, 1) := by decide +kernel
theorem dX5_setBox_82 : decode cX5_setBox 82 = .ok (.getfield 30, 3) := by decide +kernel
theorem dX5_setBox_85 : decode cX5_setBox 85 = .ok (.iload 6, 2) := by decide +kernel
theorem dX5_setBox_87 : decode cX5_setBox 87 = .ok (.iaload, 1) := by decide +kernel
theorem dX5_setBox_88 : decode cX5_setBox 88 = .ok (.aload_n 0, 1) := by decide +kernel
theorem dX5_setBox_89 : decode cX5_setBox 89 = .ok (.getfield 33, 3) := by decide +kernel
theorem dX5_setBox_92 : decode cX5_setBox 92 = .ok (.iload 6, 2) := by decide +kernel
theorem dX5_setBox_94 : decode cX5_setBox 94 = .ok (.iaload, 1) := by decide +kernel
theorem dX5_setBox_95 : decode cX5_setBox 95 = .ok (.invokestatic 126, 3) := by decide +kernel
theorem dX5_setBox_98 : decode cX5_setBox 98 = .ok (.iastore, 1) := by decide +kernel
theorem dX5_setBox_99 : decode cX5_setBox 99 = .ok (.iinc 6 1, 3) := by decide +kernel
theorem dX5_setBox_102 : decode cX5_setBox 102 = .ok (.goto (-65), 3) := by decide +kernel
abbrev rm_kX5_setBox : Room := { frames := 1, cells := 0, slots := 0, locals := 22 }
set_option maxHeartbeats 4000000 in
set_option maxRecDepth 100000 in
theorem kX5_setBox (l : Launch) (g : zL) (h0 : Nat) (x1 : Int32) (x2 : Int32) (x3 : Int32) (x4 : Int32) (x5 : Int32) (h0_low : Nat) (h0_high : Nat) (h0_normal : Nat) (h0_corner : Nat) (h0_east : Nat) (h0_north : Nat) (h0_start : Nat) (h0_far : Nat) (f_h0_start : Nat → Int32) (f_h0_far : Nat → Int32) (f_h0_low : Nat → Int32) (f_h0_high : Nat → Int32) (hy0 : 0 ≤ x1.toInt ∧ x1.toInt ≤ 17) (hy1 : 0 ≤ x2.toInt ∧ x2.toInt ≤ 5) (hy2 : 0 ≤ x4.toInt ∧ x4.toInt ≤ 5) : zCv l g yX5_setBox cX5_setBox 7 none rm_kX5_setBox [.ref h0, .int x1, .int x2, .int x3, .int x4, .int x5] [(h0, .inr (5, [.ref h0_low, .ref h0_high, .ref h0_normal, .ref h0_corner, .ref h0_east, .ref h0_north, .ref h0_start, .ref h0_far])), (h0_start, .inl (g.2.1.1, 3, .inl f_h0_start)), (h0_far, .inl (g.2.1.1, 3, .inl f_h0_far)), (h0_low, .inl (g.2.1.1, 54, .inl f_h0_low)), (h0_high, .inl (g.2.1.1, 54, .inl f_h0_high))] (fun (u : (Nat → Int32) × (Nat → Int32) × (Nat → Int32)) => True) (fun (u : (Nat → Int32) × (Nat → Int32) × (Nat → Int32)) => [(h0, .inr (5, [.ref h0_low, .ref h0_high, .ref h0_normal, .ref h0_corner, .ref h0_east, .ref h0_north, .ref h0_start, .ref h0_far])), (h0_start, .inl (g.2.1.1, 3, .inl f_h0_start)), (h0_far, .inl (g.2.1.1, 3, .inl u.1)), (h0_low, .inl (g.2.1.1, 54, .inl u.2.1)), (h0_high, .inl (g.2.1.1, 54, .inl u.2.2))]) := by
  refine zCv.mk2 (by decide) (Nat.le_of_ble_eq_true rfl) ?_
  intro p e s m below meth c A args Q hE hret hP hD hS ls hl
  obtain ⟨hx, hb, hr, hml, hown, hG, hlocks, hnm, hX, hA⟩ := hE
  have hown : s.vm.findClass RX5 = some m.cls := hown
  have hl : lv_has ls 7 [(0, .ref h0), (1, .int x1), (2, .int x2), (3, .int x3), (4, .int x4), (5, .int x5)] := hl
  refine lv_aload_n hx hb dX5_setBox_0 rfl (lv_at hl 0 rfl) ?_
  refine va_get (D := g.1) (ci := 5) (v := .ref h0_start) (C := RX5) (T := TX5) (N := 8) hx hb hG iX5 hown hX.1 hP 0 rfl rfl 6 (by decide) (hG _ wf_X5_30) (fun _ h9 => h9) rfl dX5_setBox_1 ?_
  refine lv_iconst (v := 0) hx hb dX5_setBox_4 (by decide) ?_
  refine lv_aload_n hx hb dX5_setBox_5 rfl (lv_at hl 0 rfl) ?_
  refine va_get (D := g.1) (ci := 5) (v := .ref h0_far) (C := RX5) (T := TX5) (N := 8) hx hb hG iX5 hown hX.1 hP 0 rfl rfl 7 (by decide) (hG _ wf_X5_33) (fun _ h9 => h9) rfl dX5_setBox_6 ?_
  refine lv_iconst (v := 0) hx hb dX5_setBox_9 (by decide) ?_
  refine lv_iconst (v := 3) hx hb dX5_setBox_10 (by decide) ?_
  refine va_copyi (ty := .int) hx hb (by rw [hml]; exact hl.1.symm) hown (hG _ wm_X5_106) (hG _ wn_java_lang_System_arraycopy__Ljava_lang_Object_ILjava_lang_Object_II_V) (hG _ ws_java_lang_System_arraycopy__Ljava_lang_Object_ILjava_lang_Object_II_V) (hG _ wini_J10) hX.1 hP hD hS 1 2 0 0 rfl rfl rfl rfl rfl (znl (show (0 : Int32).toInt = (0 : Int) from by decide) ((show (0 : Int) ≤ (0 : Int) from by decide))) (znl (show (0 : Int32).toInt = (0 : Int) from by decide) ((show (0 : Int) ≤ (0 : Int) from by decide))) (znl (show (3 : Int32).toInt = (3 : Int) from by decide) ((show (0 : Int) ≤ (3 : Int) from by decide))) (zcp (show (0 : Int32).toInt = (0 : Int) from by decide) (show (3 : Int32).toInt = (3 : Int) from by decide) ((show (0 : Int) ≤ (0 : Int) ∧ (0 : Int) ≤ (3 : Int) ∧ ((0 : Int) : Int) + (3 : Int) ≤ 3 from by decide))) (zcp (show (0 : Int32).toInt = (0 : Int) from by decide) (show (3 : Int32).toInt = (3 : Int) from by decide) ((show (0 : Int) ≤ (0 : Int) ∧ (0 : Int) ≤ (3 : Int) ∧ ((0 : Int) : Int) + (3 : Int) ≤ 3 from by decide))) (fun _ _ => rfl) (Nat.le_of_ble_eq_true rfl) (Nat.le_of_ble_eq_true rfl) dX5_setBox_11 (fun H locs hP hD hS => ?_)
  obtain ⟨f1, e2⟩ : ∃ z9 : Nat → Int32, z9 = va_cpy f_h0_start f_h0_far (0 : Int32).toNatClampNeg (0 : Int32).toNatClampNeg (3 : Int32).toNatClampNeg := ⟨_, rfl⟩
  rw [← e2] at hP hD
  have hP : va_P g.1 vwCl [(h0, .inr (5, [.ref h0_low, .ref h0_high, .ref h0_normal, .ref h0_corner, .ref h0_east, .ref h0_north, .ref h0_start, .ref h0_far])), (h0_start, .inl (g.2.1.1, 3, .inl f_h0_start)), (h0_far, .inl (g.2.1.1, 3, .inl f1)), (h0_low, .inl (g.2.1.1, 54, .inl f_h0_low)), (h0_high, .inl (g.2.1.1, 54, .inl f_h0_high))] H := hP
  have hD : va_D A [(h0, .inr (5, [.ref h0_low, .ref h0_high, .ref h0_normal, .ref h0_corner, .ref h0_east, .ref h0_north, .ref h0_start, .ref h0_far])), (h0_start, .inl (g.2.1.1, 3, .inl f_h0_start)), (h0_far, .inl (g.2.1.1, 3, .inl f1)), (h0_low, .inl (g.2.1.1, 54, .inl f_h0_low)), (h0_high, .inl (g.2.1.1, 54, .inl f_h0_high))] := hD
  refine lv_aload_n hx hb dX5_setBox_14 rfl (lv_at hl 0 rfl) ?_
  refine va_get (D := g.1) (ci := 5) (v := .ref h0_far) (C := RX5) (T := TX5) (N := 8) hx hb hG iX5 hown hX.1 hP 0 rfl rfl 7 (by decide) (hG _ wf_X5_33) (fun _ h9 => h9) rfl dX5_setBox_15 ?_
  refine lv_iload_n hx hb dX5_setBox_18 rfl (lv_at hl 2 rfl) ?_
  refine lv_iload_n hx hb dX5_setBox_19 rfl (lv_at hl 3 rfl) ?_
  refine zfv (wr := [(h0, .inr (5, [.ref h0_low, .ref h0_high, .ref h0_normal, .ref h0_corner, .ref h0_east, .ref h0_north, .ref h0_start, .ref h0_far])), (h0_start, .inl (g.2.1.1, 3, .inl f_h0_start)), (h0_low, .inl (g.2.1.1, 54, .inl f_h0_low)), (h0_high, .inl (g.2.1.1, 54, .inl f_h0_high))]) (va_runS (As := [.ref h0_far, .int x2, .int x3]) (rest := []) ⟨hx, hb, hml, hown, hG⟩ (kX5_move l g h0_far x2 x3 f1 (ox_48 hy1) _) ⟨callB_of 3 hG (zGood wc_X5_move) rfl rfl rfl (hG _ wini_X5) (hG _ wm_X5_98) hX5_move ⟨Nat.le_of_ble_eq_true rfl, Nat.le_of_ble_eq_true rfl⟩, hG _ ws_X5_move⟩ (zpreS hX hP hD hS hA [2] rfl (by decide)) rfl rfl hl.1 rfl (lv_room (Nat.le_of_ble_eq_true rfl)) dX5_setBox_20 ⟨Nat.le_of_ble_eq_true rfl, Nat.le_of_ble_eq_true rfl⟩) hP hD hS hA [2] [0, 1, 3, 4] rfl rfl (by decide) (by decide) (fun u4 H locs hp hP hD hS => ?_)
  refine W.cs (cells' := 0) (slots' := 0) rfl rfl ?_
  obtain ⟨f5, rfl⟩ : ∃ z9, z9 = u4 := ⟨_, rfl⟩
  have hP : va_P g.1 vwCl [(h0, .inr (5, [.ref h0_low, .ref h0_high, .ref h0_normal, .ref h0_corner, .ref h0_east, .ref h0_north, .ref h0_start, .ref h0_far])), (h0_start, .inl (g.2.1.1, 3, .inl f_h0_start)), (h0_low, .inl (g.2.1.1, 54, .inl f_h0_low)), (h0_high, .inl (g.2.1.1, 54, .inl f_h0_high)), (h0_far, .inl (g.2.1.1, 3, .inl f5))] H := hP
  have hD : va_D A [(h0, .inr (5, [.ref h0_low, .ref h0_high, .ref h0_normal, .ref h0_corner, .ref h0_east, .ref h0_north, .ref h0_start, .ref h0_far])), (h0_start, .inl (g.2.1.1, 3, .inl f_h0_start)), (h0_low, .inl (g.2.1.1, 54, .inl f_h0_low)), (h0_high, .inl (g.2.1.1, 54, .inl f_h0_high)), (h0_far, .inl (g.2.1.1, 3, .inl f5))] := hD
  refine lv_aload_n hx hb dX5_setBox_23 rfl (lv_at hl 0 rfl) ?_
  refine va_get (D := g.1) (ci := 5) (v := .ref h0_far) (C := RX5) (T := TX5) (N := 8) hx hb hG iX5 hown hX.1 hP 0 rfl rfl 7 (by decide) (hG _ wf_X5_33) (fun _ h9 => h9) rfl dX5_setBox_24 ?_
  refine lv_iload hx hb dX5_setBox_27 (lv_at hl 4 rfl) ?_
  refine lv_iload hx hb dX5_setBox_29 (lv_at hl 5 rfl) ?_
  refine zfv (wr := [(h0, .inr (5, [.ref h0_low, .ref h0_high, .ref h0_normal, .ref h0_corner, .ref h0_east, .ref h0_north, .ref h0_start, .ref h0_far])), (h0_start, .inl (g.2.1.1, 3, .inl f_h0_start)), (h0_low, .inl (g.2.1.1, 54, .inl f_h0_low)), (h0_high, .inl (g.2.1.1, 54, .inl f_h0_high))]) (va_runS (As := [.ref h0_far, .int x4, .int x5]) (rest := []) ⟨hx, hb, hml, hown, hG⟩ (kX5_move l g h0_far x4 x5 f5 (ox_48 hy2) _) ⟨callB_of 3 hG (zGood wc_X5_move) rfl rfl rfl (hG _ wini_X5) (hG _ wm_X5_98) hX5_move ⟨Nat.le_of_ble_eq_true rfl, Nat.le_of_ble_eq_true rfl⟩, hG _ ws_X5_move⟩ (zpreS hX hP hD hS hA [4] rfl (by decide)) rfl rfl hl.1 rfl (lv_room (Nat.le_of_ble_eq_true rfl)) dX5_setBox_31 ⟨Nat.le_of_ble_eq_true rfl, Nat.le_of_ble_eq_true rfl⟩) hP hD hS hA [4] [0, 1, 2, 3] rfl rfl (by decide) (by decide) (fun u7 H locs hp hP hD hS => ?_)
  refine W.cs (cells' := 0) (slots' := 0) rfl rfl ?_
  obtain ⟨f8, rfl⟩ : ∃ z9, z9 = u7 := ⟨_, rfl⟩
  have hP : va_P g.1 vwCl [(h0, .inr (5, [.ref h0_low, .ref h0_high, .ref h0_normal, .ref h0_corner, .ref h0_east, .ref h0_north, .ref h0_start, .ref h0_far])), (h0_start, .inl (g.2.1.1, 3, .inl f_h0_start)), (h0_low, .inl (g.2.1.1, 54, .inl f_h0_low)), (h0_high, .inl (g.2.1.1, 54, .inl f_h0_high)), (h0_far, .inl (g.2.1.1, 3, .inl f8))] H := hP
  have hD : va_D A [(h0, .inr (5, [.ref h0_low, .ref h0_high, .ref h0_normal, .ref h0_corner, .ref h0_east, .ref h0_north, .ref h0_start, .ref h0_far])), (h0_start, .inl (g.2.1.1, 3, .inl f_h0_start)), (h0_low, .inl (g.2.1.1, 54, .inl f_h0_low)), (h0_high, .inl (g.2.1.1, 54, .inl f_h0_high)), (h0_far, .inl (g.2.1.1, 3, .inl f8))] := hD
  refine lv_iconst (v := 0) hx hb dX5_setBox_34 (by decide) ?_
  refine lv_istore (lv' := [(6, .int 0), (0, .ref h0), (1, .int x1), (2, .int x2), (3, .int x3), (4, .int x4), (5, .int x5)]) hx hb dX5_setBox_35 hl (by decide) rfl (fun ls hl => ?_)
  have L192 : ∀ (n : Nat) (v154 : Int32) (fn155 : Nat → Int32) (fn156 : Nat → Int32) (H : Heap) (locs : List Loc) (ls : Array Slot), 0 ≤ v154.toInt ∧ v154.toInt ≤ 3 → (4 - v154.toInt).toNat < n → va_P g.1 vwCl [(h0, .inr (5, [.ref h0_low, .ref h0_high, .ref h0_normal, .ref h0_corner, .ref h0_east, .ref h0_north, .ref h0_start, .ref h0_far])), (h0_start, .inl (g.2.1.1, 3, .inl f_h0_start)), (h0_low, .inl (g.2.1.1, 54, .inl fn155)), (h0_high, .inl (g.2.1.1, 54, .inl fn156)), (h0_far, .inl (g.2.1.1, 3, .inl f8))] H → va_D A [(h0, .inr (5, [.ref h0_low, .ref h0_high, .ref h0_normal, .ref h0_corner, .ref h0_east, .ref h0_north, .ref h0_start, .ref h0_far])), (h0_start, .inl (g.2.1.1, 3, .inl f_h0_start)), (h0_low, .inl (g.2.1.1, 54, .inl fn155)), (h0_high, .inl (g.2.1.1, 54, .inl fn156)), (h0_far, .inl (g.2.1.1, 3, .inl f8))] → va_S A s.heap H locs → lv_has ls 7 [(0, .ref h0), (1, .int x1), (2, .int x2), (3, .int x3), (4, .int x4), (5, .int x5), (6, .int v154)] → W p l e rm_kX5_setBox s m args below meth c H locs 0 0 Q (F0 m 37 ls []) := by
    intro n193
    induction n193 with
    | zero => intro v154 fn155 fn156 H locs ls i195 hm196; exact absurd hm196 (Nat.not_lt_zero _)
    | succ n193 ih194 =>
      intro v154 fn155 fn156 H locs ls i195 hm196 hP hD hS hl
      refine lv_iload hx hb dX5_setBox_37 (lv_at hl 6 rfl) ?_
      refine lv_iconst (v := 3) hx hb dX5_setBox_39 (by decide) ?_
      refine lv_icmp_ge (tgt := 105) hx hb dX5_setBox_40 (by decide) (fun c197 => ?_) (fun c197 => ?_)
      · skip
        have c197i : (3 : Int) ≤ v154.toInt := (zc_le (show (3 : Int32).toInt = (3 : Int) from by decide) (rfl : v154.toInt = _)).mp c197
        exact hret (f8, fn155, fn156) (Nat.le_of_ble_eq_true rfl) (Nat.le_of_ble_eq_true rfl) trivial (hP.sub [0, 1, 4, 2, 3] rfl) (hD.sub [0, 1, 4, 2, 3] (by decide) rfl) hS dX5_setBox_105
      · skip
        have c197i : ¬ ((3 : Int) ≤ v154.toInt) := fun q => c197 ((zc_le (show (3 : Int32).toInt = (3 : Int) from by decide) (rfl : v154.toInt = _)).mpr q)
        refine lv_aload_n hx hb dX5_setBox_43 rfl (lv_at hl 0 rfl) ?_
        refine va_get (D := g.1) (ci := 5) (v := .ref h0_low) (C := RX5) (T := TX5) (N := 8) hx hb hG iX5 hown hX.1 hP 0 rfl rfl 0 (by decide) (hG _ wf_X5_11) (fun _ h9 => h9) rfl dX5_setBox_44 ?_
        refine lv_iconst (v := 3) hx hb dX5_setBox_47 (by decide) ?_
        refine lv_iload_n hx hb dX5_setBox_48 rfl (lv_at hl 1 rfl) ?_
        refine lv_imul hx hb dX5_setBox_49 ?_
        refine lv_topi (fun z198 e199 => ?_)
        have f200 : z198.toInt = (3 : Int) * x1.toInt := zm e199 (show (3 : Int32).toInt = (3 : Int) from by decide) (rfl : x1.toInt = _) (ox_49 (zr x1) hy0)
        refine lv_iload hx hb dX5_setBox_50 (lv_at hl 6 rfl) ?_
        refine lv_iadd hx hb dX5_setBox_52 ?_
        refine lv_topi (fun z201 e202 => ?_)
        have f203 : z201.toInt = z198.toInt + v154.toInt := za e202 (rfl : z198.toInt = _) (rfl : v154.toInt = _) (ox_139 (zr v154) (zr x1) (zr z198) c197i f200 hy0 i195)
        refine lv_aload_n hx hb dX5_setBox_53 rfl (lv_at hl 0 rfl) ?_
        refine va_get (D := g.1) (ci := 5) (v := .ref h0_start) (C := RX5) (T := TX5) (N := 8) hx hb hG iX5 hown hX.1 hP 0 rfl rfl 6 (by decide) (hG _ wf_X5_30) (fun _ h9 => h9) rfl dX5_setBox_54 ?_
        refine lv_iload hx hb dX5_setBox_57 (lv_at hl 6 rfl) ?_
        refine va_iald hx hb hX.1 hP 1 0 rfl rfl (zin (rfl : v154.toInt = _) (ox_140 c197i f200 f203 hy0 i195)) dX5_setBox_59 ?_
        refine lv_topi (fun z204 e205 => ?_)
        refine lv_aload_n hx hb dX5_setBox_60 rfl (lv_at hl 0 rfl) ?_
        refine va_get (D := g.1) (ci := 5) (v := .ref h0_far) (C := RX5) (T := TX5) (N := 8) hx hb hG iX5 hown hX.1 hP 0 rfl rfl 7 (by decide) (hG _ wf_X5_33) (fun _ h9 => h9) rfl dX5_setBox_61 ?_
        refine lv_iload hx hb dX5_setBox_64 (lv_at hl 6 rfl) ?_
        refine va_iald hx hb hX.1 hP 4 0 rfl rfl (zin (rfl : v154.toInt = _) (ox_140 c197i f200 f203 hy0 i195)) dX5_setBox_66 ?_
        refine lv_topi (fun z206 e207 => ?_)
        refine va_mmin hx hb (by rw [hml]; exact hl.1.symm) hown (hG _ wm_X5_121) (hG _ ws_J9_min_7cf53) (hG _ wini_J9) (hG _ wc_J9_min_7cf53) (Nat.le_of_ble_eq_true rfl) (Nat.le_of_ble_eq_true rfl) (Nat.le_of_ble_eq_true rfl) (Nat.le_of_ble_eq_true rfl) dX5_setBox_67 ?_
        refine lv_topi (fun z208 e209 => ?_)
        have f210 : z208.toInt ≤ z204.toInt ∧ z208.toInt ≤ z206.toInt ∧ (z208.toInt = z204.toInt ∨ z208.toInt = z206.toInt) := zmn e209 (rfl : z204.toInt = _) (rfl : z206.toInt = _)
        refine va_iast hx hb hX.1 hP hD hS 2 0 rfl rfl (zin (rfl : z201.toInt = _) (ox_141 c197i f200 f203 hy0 i195)) dX5_setBox_70 (fun H locs hP hD hS => ?_)
        obtain ⟨f211, e212⟩ : ∃ z9 : Nat → Int32, z9 = upd fn155 z201.toNatClampNeg z208 := ⟨_, rfl⟩
        rw [← e212] at hP hD
        have hP : va_P g.1 vwCl [(h0, .inr (5, [.ref h0_low, .ref h0_high, .ref h0_normal, .ref h0_corner, .ref h0_east, .ref h0_north, .ref h0_start, .ref h0_far])), (h0_start, .inl (g.2.1.1, 3, .inl f_h0_start)), (h0_low, .inl (g.2.1.1, 54, .inl f211)), (h0_high, .inl (g.2.1.1, 54, .inl fn156)), (h0_far, .inl (g.2.1.1, 3, .inl f8))] H := hP
        have hD : va_D A [(h0, .inr (5, [.ref h0_low, .ref h0_high, .ref h0_normal, .ref h0_corner, .ref h0_east, .ref h0_north, .ref h0_start, .ref h0_far])), (h0_start, .inl (g.2.1.1, 3, .inl f_h0_start)), (h0_low, .inl (g.2.1.1, 54, .inl f211)), (h0_high, .inl (g.2.1.1, 54, .inl fn156)), (h0_far, .inl (g.2.1.1, 3, .inl f8))] := hD
        refine lv_aload_n hx hb dX5_setBox_71 rfl (lv_at hl 0 rfl) ?_
        refine va_get (D := g.1) (ci := 5) (v := .ref h0_high) (C := RX5) (T := TX5) (N := 8) hx hb hG iX5 hown hX.1 hP 0 rfl rfl 1 (by decide) (hG _ wf_X5_15) (fun _ h9 => h9) rfl dX5_setBox_72 ?_
        refine lv_iconst (v := 3) hx hb dX5_setBox_75 (by decide) ?_
        refine lv_iload_n hx hb dX5_setBox_76 rfl (lv_at hl 1 rfl) ?_
        refine lv_imul hx hb dX5_setBox_77 ?_
        refine lv_topi (fun z213 e214 => ?_)
        have f215 : z213.toInt = (3 : Int) * x1.toInt := zm e214 (show (3 : Int32).toInt = (3 : Int) from by decide) (rfl : x1.toInt = _) (ox_142 (zr v154) (zr x1) (zr z198) (zr z201) c197i f200 f203 hy0 i195)
        refine lv_iload hx hb dX5_setBox_78 (lv_at hl 6 rfl) ?_
        refine lv_iadd hx hb dX5_setBox_80 ?_
        refine lv_topi (fun z216 e217 => ?_)
        have f218 : z216.toInt = z213.toInt + v154.toInt := za e217 (rfl : z213.toInt = _) (rfl : v154.toInt = _) (ox_143 (zr v154) (zr x1) (zr z198) (zr z201) (zr z213) c197i f200 f203 f215 hy0 i195)
        refine lv_aload_n hx hb dX5_setBox_81 rfl (lv_at hl 0 rfl) ?_
        refine va_get (D := g.1) (ci := 5) (v := .ref h0_start) (C := RX5) (T := TX5) (N := 8) hx hb hG iX5 hown hX.1 hP 0 rfl rfl 6 (by decide) (hG _ wf_X5_30) (fun _ h9 => h9) rfl dX5_setBox_82 ?_
        refine lv_iload hx hb dX5_setBox_85 (lv_at hl 6 rfl) ?_
        refine va_iald hx hb hX.1 hP 1 0 rfl rfl (zin (rfl : v154.toInt = _) (ox_144 c197i f200 f203 f215 f218 hy0 i195)) dX5_setBox_87 ?_
        refine lv_topi (fun z219 e220 => ?_)
        refine lv_aload_n hx hb dX5_setBox_88 rfl (lv_at hl 0 rfl) ?_
        refine va_get (D := g.1) (ci := 5) (v := .ref h0_far) (C := RX5) (T := TX5) (N := 8) hx hb hG iX5 hown hX.1 hP 0 rfl rfl 7 (by decide) (hG _ wf_X5_33) (fun _ h9 => h9) rfl dX5_setBox_89 ?_
        refine lv_iload hx hb dX5_setBox_92 (lv_at hl 6 rfl) ?_
        refine va_iald hx hb hX.1 hP 4 0 rfl rfl (zin (rfl : v154.toInt = _) (ox_144 c197i f200 f203 f215 f218 hy0 i195)) dX5_setBox_94 ?_
        refine lv_topi (fun z221 e222 => ?_)
        refine va_mmax hx hb (by rw [hml]; exact hl.1.symm) hown (hG _ wm_X5_126) (hG _ ws_J9_max_7cf53) (hG _ wini_J9) (hG _ wc_J9_max_7cf53) (Nat.le_of_ble_eq_true rfl) (Nat.le_of_ble_eq_true rfl) (Nat.le_of_ble_eq_true rfl) (Nat.le_of_ble_eq_true rfl) dX5_setBox_95 ?_
        refine lv_topi (fun z223 e224 => ?_)
        have f225 : z223.toInt ≥ z219.toInt ∧ z223.toInt ≥ z221.toInt ∧ (z223.toInt = z219.toInt ∨ z223.toInt = z221.toInt) := zmx e224 (rfl : z219.toInt = _) (rfl : z221.toInt = _)
        refine va_iast hx hb hX.1 hP hD hS 3 0 rfl rfl (zin (rfl : z216.toInt = _) (ox_145 c197i f200 f203 f215 f218 hy0 i195)) dX5_setBox_98 (fun H locs hP hD hS => ?_)
        obtain ⟨f226, e227⟩ : ∃ z9 : Nat → Int32, z9 = upd fn156 z216.toNatClampNeg z223 := ⟨_, rfl⟩
        rw [← e227] at hP hD
        have hP : va_P g.1 vwCl [(h0, .inr (5, [.ref h0_low, .ref h0_high, .ref h0_normal, .ref h0_corner, .ref h0_east, .ref h0_north, .ref h0_start, .ref h0_far])), (h0_start, .inl (g.2.1.1, 3, .inl f_h0_start)), (h0_low, .inl (g.2.1.1, 54, .inl f211)), (h0_high, .inl (g.2.1.1, 54, .inl f226)), (h0_far, .inl (g.2.1.1, 3, .inl f8))] H := hP
        have hD : va_D A [(h0, .inr (5, [.ref h0_low, .ref h0_high, .ref h0_normal, .ref h0_corner, .ref h0_east, .ref h0_north, .ref h0_start, .ref h0_far])), (h0_start, .inl (g.2.1.1, 3, .inl f_h0_start)), (h0_low, .inl (g.2.1.1, 54, .inl f211)), (h0_high, .inl (g.2.1.1, 54, .inl f226)), (h0_far, .inl (g.2.1.1, 3, .inl f8))] := hD
        obtain ⟨z228, e229⟩ : ∃ y9 : Int32, y9 = v154 + 1 := ⟨_, rfl⟩
        have f230 : z228.toInt = v154.toInt + 1 := za e229 (rfl : v154.toInt = _) (show (1 : Int32).toInt = (1 : Int) from by decide) (ox_146 (zr v154) (zr x1) (zr z198) (zr z201) (zr z213) (zr z216) c197i f200 f203 f215 f218 hy0 i195)
        refine lv_iinc (v := z228) (lv' := [(6, .int z228), (0, .ref h0), (1, .int x1), (2, .int x2), (3, .int x3), (4, .int x4), (5, .int x5)]) hx hb dX5_setBox_99 hl (k := 6) rfl (by rw [e229]; rfl) (by decide) rfl (fun ls hl => ?_)
        refine lv_goto (tgt := 37) hx hb dX5_setBox_102 (by decide) ?_
        exact ih194 z228 f211 f226 H locs ls (ox_147 c197i f200 f203 f215 f218 f230 hy0 i195) (zdec hm196 (ox_148 c197i f200 f203 f215 f218 f230 hy0 i195)) hP hD hS (lv_sub hl [1, 2, 3, 4, 5, 6, 0] rfl)
  exact L192 _ (0 : Int32) f_h0_low f_h0_high H locs ls ((show 0 ≤ (0 : Int) ∧ (0 : Int) ≤ 3 from by decide)) (Nat.lt_succ_self _) hP hD hS (lv_sub hl [1, 2, 3, 4, 5, 6, 0] rfl)
theorem dX5_goToSide_0 : decode cX5_goToSide 0 = .ok (.aload_n 1, 1) := by decide +kernel
theorem dX5_goToSide_1 : decode cX5_goToSide 1 = .ok (.getfield 62, 3) := by decide +kernel
theorem dX5_goToSide_4 : decode cX5_goToSide 4 = .ok (.iload_n 2, 1) := by decide +kernel
theorem dX5_goToSide_5 : decode cX5_goToSide 5 = .ok (.iaload, 1) := by decide +kernel
theorem dX5_goToSide_6 : decode cX5_goToSide 6 = .ok (.istore_n 3, 1) := by decide +kernel
theorem dX5_goToSide_7 : decode cX5_goToSide 7 = .ok (.aload_n 1, 1) := by decide +kernel
theorem dX5_goToSide_8 : decode cX5_goToSide 8 = .ok (.getfield 65, 3) := by decide +kernel
theorem dX5_goToSide_11 : decode cX5_goToSide 11 = .ok (.iload_n 2, 1) := by decide +kernel
theorem dX5_goToSide_12 : decode cX5_goToSide 12 = .ok (.iaload, 1) := by decide +kernel
theorem dX5_goToSide_13 : decode cX5_goToSide 13 = .ok (.istore 4, 2) := by decide +kernel
theorem dX5_goToSide_15 : decode cX5_goToSide 15 = .ok (.aload_n 0, 1) := by decide +kernel
theorem dX5_goToSide_16 : decode cX5_goToSide 16 = .ok (.getfield 21, 3) := by decide +kernel
theorem dX5_goToSide_19 : decode cX5_goToSide 19 = .ok (.iconst 3, 1) := by decide +kernel
theorem dX5_goToSide_20 : decode cX5_goToSide 20 = .ok (.iload_n 3, 1) := by decide +kernel
theorem dX5_goToSide_21 : decode cX5_goToSide 21 = .ok (.imul, 1) := by decide +kernel
theorem dX5_goToSide_22 : decode cX5_goToSide 22 = .ok (.aload_n 0, 1) := by decide +kernel
theorem dX5_goToSide_23 : decode cX5_goToSide 23 = .ok (.getfield 30, 3) := by decide +kernel
theorem dX5_goToSide_26 : decode cX5_goToSide 26 = .ok (.iconst 0, 1) := by decide +kernel
theorem dX5_goToSide_27 : decode cX5_goToSide 27 = .ok (.iconst 3, 1) := by decide +kernel
theorem dX5_goToSide_28 : decode cX5_goToSide 28 = .ok (.invokestatic 106, 3) := by decide +kernel
theorem dX5_goToSide_31 : decode cX5_goToSide 31 = .ok (.aload_n 0, 1) := by decide +kernel
theorem dX5_goToSide_32 : decode cX5_goToSide 32 = .ok (.getfield 30, 3) := by decide +kernel
theorem dX5_goToSide_35 : decode cX5_goToSide 35 = .ok (.aload_n 0, 1) := by decide +kernel
theorem dX5_goToSide_36 : decode cX5_goToSide 36 = .ok (.iload_n 3, 1) := by decide +kernel
theorem dX5_goToSide_37 : decode cX5_goToSide 37 = .ok (.iload 4, 2) := by decide +kernel
theorem dX5_goToSide_39 : decode cX5_goToSide 39 = .ok (.invokevirtual 68, 3) := by decide +kernel
theorem dX5_goToSide_42 : decode cX5_goToSide 42 = .ok (.aload_n 1, 1) := by decide +kernel
theorem dX5_goToSide_43 : decode cX5_goToSide 43 = .ok (.getfield 112, 3) := by decide +kernel
theorem dX5_goToSide_46 : decode cX5_goToSide 46 = .ok (.iload_n 2, 1) := by decide +kernel
theorem dX5_goToSide_47 : decode cX5_goToSide 47 = .ok (.iaload, 1) := by decide +kernel
theorem dX5_goToSide_48 : decode cX5_goToSide 48 = .ok (.invokestatic 98, 3) := by decide +kernel
theorem dX5_goToSide_51 : decode cX5_goToSide 51 = .ok (.iload 4, 2) := by decide +kernel
theorem dX5_goToSide_53 : decode cX5_goToSide 53 = .ok (.ifCond .ne 24, 3) := by decide +kernel
theorem dX5_goToSide_77 : decode cX5_goToSide 77 = .ok (.iload 4, 2) := by decide +kernel
theorem dX5_goToSide_79 : decode cX5_goToSide 79 = .ok (.iconst 1, 1) := by decide +kernel
theorem dX5_goToSide_80 : decode cX5_goToSide 80 = .ok (.if_icmp .ne 21, 3) := by decide +kernel
theorem dX5_goToSide_101 : decode cX5_goToSide 101 = .ok (.return_, 1) := by decide +kernel
theorem dX5_goToSide_83 : decode cX5_goToSide 83 = .ok (.aload_n 0, 1) := by decide +kernel
theorem dX5_goToSide_84 : decode cX5_goToSide 84 = .ok (.getfield 30, 3) := by decide +kernel
theorem dX5_goToSide_87 : decode cX5_goToSide 87 = .ok (.aload_n 0, 1) := by decide +kernel
theorem dX5_goToSide_88 : decode cX5_goToSide 88 = .ok (.getfield 24, 3) := by decide +kernel
theorem dX5_goToSide_91 : decode cX5_goToSide 91 = .ok (.iload_n 3, 1) := by decide +kernel
theorem dX5_goToSide_92 : decode cX5_goToSide 92 = .ok (.iaload, 1) := by decide +kernel
theorem dX5_goToSide_93 : decode cX5_goToSide 93 = .ok (.aload_n 1, 1) := by decide +kernel
theorem dX5_goToSide_94 : decode cX5_goToSide 94 = .ok (.iload_n 3, 1) := by decide +kernel
theorem dX5_goToSide_95 : decode cX5_goToSide 95 = .ok (.invokevirtual 118, 3) := by decide +kernel
theorem dX5_goToSide_98 : decode cX5_goToSide 98 = .ok (.invokestatic 98, 3) := by decide +kernel
theorem dX5_goToSide_56 : decode cX5_goToSide 56 = .ok (.aload_n 0, 1) := by decide +kernel
theorem dX5_goToSide_57 : decode cX5_goToSide 57 = .ok (.getfield 30, 3) := by decide +kernel
theorem dX5_goToSide_60 : decode cX5_goToSide 60 = .ok (.aload_n 0, 1) := by decide +kernel
theorem dX5_goToSide_61 : decode cX5_goToSide 61 = .ok (.getfield 27, 3) := by decide +kernel
theorem dX5_goToSide_64 : decode cX5_goToSide 64 = .ok (.iload_n 3, 1) := by decide +kernel
theorem dX5_goToSide_65 : decode cX5_goToSide 65 = .ok (.iaload, 1) := by decide +kernel
theorem dX5_goToSide_66 : decode cX5_goToSide 66 = .ok (.aload_n 1, 1) := by decide +kernel
theorem dX5_goToSide_67 : decode cX5_goToSide 67 = .ok (.iload_n 3, 1) := by decide +kernel
theorem dX5_goToSide_68 : decode cX5_goToSide 68 = .ok (.invokevirtual 115, 3) := by decide +kernel
theorem dX5_goToSide_71 : decode cX5_goToSide 71 = .ok (.invokestatic 98, 3) := by decide +kernel
theorem dX5_goToSide_74 : decode cX5_goToSide 74 = .ok (.goto 27, 3) := by decide +kernel
abbrev rm_kX5_goToSide : Room := { frames := 2, cells := 0, slots := 0, locals := 42 }
set_option maxHeartbeats 4000000 in
set_option maxRecDepth 100000 in
theorem kX5_goToSide (l : Launch) (g : zL) (h0 : Nat) (y1 : Nat) (x2 : Int32) (y1_count : Int32) (y1_statements : Int32) (y1_thick : Int32) (y1_punch : Int32) (y1_ups : Int32) (y1_toolCount : Int32) (y1_toolWidth : Nat) (y1_told : Nat) (y1_name : Nat) (y1_parent : Nat) (y1_side : Nat) (y1_from : Nat) (y1_width : Nat) (y1_height : Nat) (y1_radius : Nat) (y1_toolSet : Nat) (f_y1_parent : Nat → Int32) (f_y1_side : Nat → Int32) (h0_low : Nat) (h0_high : Nat) (h0_normal : Nat) (h0_corner : Nat) (h0_east : Nat) (h0_north : Nat) (h0_start : Nat) (h0_far : Nat) (f_h0_corner : Nat → Int32) (f_h0_start : Nat → Int32) (f_h0_north : Nat → Int32) (f_h0_east : Nat → Int32) (f_y1_from : Nat → Int32) (f_y1_height : Nat → Int32) (f_y1_width : Nat → Int32) (hy0 : 0 ≤ x2.toInt ∧ x2.toInt ≤ 8) (hy1 : 0 ≤ y1_count.toInt ∧ y1_count.toInt ≤ 9) (hy2 : 0 ≤ y1_toolCount.toInt ∧ y1_toolCount.toInt ≤ 8) (hy3 : aI 0 8 f_y1_parent) (hy4 : aI 0 3 f_y1_side) (hy5 : aI 0 5 f_h0_north) (hy6 : aI 0 5 f_h0_east) : zCv l g yX5_goToSide cX5_goToSide 5 none rm_kX5_goToSide [.ref h0, .ref y1, .int x2] [(y1, .inr (4, [.int y1_count, .int y1_statements, .int y1_thick, .int y1_punch, .int y1_ups, .int y1_toolCount, .ref y1_toolWidth, .ref y1_told, .ref y1_name, .ref y1_parent, .ref y1_side, .ref y1_from, .ref y1_width, .ref y1_height, .ref y1_radius, .ref y1_toolSet])), (y1_parent, .inl (g.2.1.1, 9, .inl f_y1_parent)), (y1_side, .inl (g.2.1.1, 9, .inl f_y1_side)), (h0, .inr (5, [.ref h0_low, .ref h0_high, .ref h0_normal, .ref h0_corner, .ref h0_east, .ref h0_north, .ref h0_start, .ref h0_far])), (h0_corner, .inl (g.2.1.1, 27, .inl f_h0_corner)), (h0_start, .inl (g.2.1.1, 3, .inl f_h0_start)), (h0_north, .inl (g.2.1.1, 9, .inl f_h0_north)), (h0_east, .inl (g.2.1.1, 9, .inl f_h0_east)), (y1_from, .inl (g.2.1.1, 9, .inl f_y1_from)), (y1_height, .inl (g.2.1.1, 9, .inl f_y1_height)), (y1_width, .inl (g.2.1.1, 9, .inl f_y1_width))] (fun (u : (Nat → Int32)) => True) (fun (u : (Nat → Int32)) => [(y1, .inr (4, [.int y1_count, .int y1_statements, .int y1_thick, .int y1_punch, .int y1_ups, .int y1_toolCount, .ref y1_toolWidth, .ref y1_told, .ref y1_name, .ref y1_parent, .ref y1_side, .ref y1_from, .ref y1_width, .ref y1_height, .ref y1_radius, .ref y1_toolSet])), (y1_parent, .inl (g.2.1.1, 9, .inl f_y1_parent)), (y1_side, .inl (g.2.1.1, 9, .inl f_y1_side)), (h0, .inr (5, [.ref h0_low, .ref h0_high, .ref h0_normal, .ref h0_corner, .ref h0_east, .ref h0_north, .ref h0_start, .ref h0_far])), (h0_corner, .inl (g.2.1.1, 27, .inl f_h0_corner)), (h0_start, .inl (g.2.1.1, 3, .inl u)), (h0_north, .inl (g.2.1.1, 9, .inl f_h0_north)), (h0_east, .inl (g.2.1.1, 9, .inl f_h0_east)), (y1_from, .inl (g.2.1.1, 9, .inl f_y1_from)), (y1_height, .inl (g.2.1.1, 9, .inl f_y1_height)), (y1_width, .inl (g.2.1.1, 9, .inl f_y1_width))]) := by
  refine zCv.mk2 (by decide) (Nat.le_of_ble_eq_true rfl) ?_
  intro p e s m below meth c A args Q hE hret hP hD hS ls hl
  obtain ⟨hx, hb, hr, hml, hown, hG, hlocks, hnm, hX, hA⟩ := hE
  have hown : s.vm.findClass RX5 = some m.cls := hown
  have hl : lv_has ls 5 [(0, .ref h0), (1, .ref y1), (2, .int x2)] := hl
  refine lv_aload_n hx hb dX5_goToSide_0 rfl (lv_at hl 1 rfl) ?_
  refine va_getN (D := g.1) (ci := 4) (v := .ref y1_parent) (C := RX4) (T := TX4) (N := 16) hx hb hG iX4 hown hX.1 hP 0 rfl rfl 9 (by decide) (hX.2.1.fl wfn_X5_62) (fun _ h9 => h9) rfl dX5_goToSide_1 ?_
  refine lv_iload_n hx hb dX5_goToSide_4 rfl (lv_at hl 2 rfl) ?_
  refine va_iald hx hb hX.1 hP 1 0 rfl rfl (zin (rfl : x2.toInt = _) (ox_6 hy0)) dX5_goToSide_5 ?_
  refine lv_topi (fun z1 e2 => ?_)
  have i3 : 0 ≤ z1.toInt ∧ z1.toInt ≤ 8 := hy3.at e2
  refine lv_istore_n (lv' := [(3, .int z1), (0, .ref h0), (1, .ref y1), (2, .int x2)]) hx hb dX5_goToSide_6 rfl hl (by decide) rfl (fun ls hl => ?_)
  refine lv_aload_n hx hb dX5_goToSide_7 rfl (lv_at hl 2 rfl) ?_
  refine va_getN (D := g.1) (ci := 4) (v := .ref y1_side) (C := RX4) (T := TX4) (N := 16) hx hb hG iX4 hown hX.1 hP 0 rfl rfl 10 (by decide) (hX.2.1.fl wfn_X5_65) (fun _ h9 => h9) rfl dX5_goToSide_8 ?_
  refine lv_iload_n hx hb dX5_goToSide_11 rfl (lv_at hl 3 rfl) ?_
  refine va_iald hx hb hX.1 hP 2 0 rfl rfl (zin (rfl : x2.toInt = _) (ox_6 hy0)) dX5_goToSide_12 ?_
  refine lv_topi (fun z4 e5 => ?_)
  have i6 : 0 ≤ z4.toInt ∧ z4.toInt ≤ 3 := hy4.at e5
  refine lv_istore (lv' := [(4, .int z4), (3, .int z1), (0, .ref h0), (1, .ref y1), (2, .int x2)]) hx hb dX5_goToSide_13 hl (by decide) rfl (fun ls hl => ?_)
  refine lv_aload_n hx hb dX5_goToSide_15 rfl (lv_at hl 2 rfl) ?_
  refine va_get (D := g.1) (ci := 5) (v := .ref h0_corner) (C := RX5) (T := TX5) (N := 8) hx hb hG iX5 hown hX.1 hP 3 rfl rfl 3 (by decide) (hG _ wf_X5_21) (fun _ h9 => h9) rfl dX5_goToSide_16 ?_
  refine lv_iconst (v := 3) hx hb dX5_goToSide_19 (by decide) ?_
  refine lv_iload_n hx hb dX5_goToSide_20 rfl (lv_at hl 1 rfl) ?_
  refine lv_imul hx hb dX5_goToSide_21 ?_
  refine lv_topi (fun z7 e8 => ?_)
  have f9 : z7.toInt = (3 : Int) * z1.toInt := zm e8 (show (3 : Int32).toInt = (3 : Int) from by decide) (rfl : z1.toInt = _) (ox_149 (zr z1) i3)
  refine lv_aload_n hx hb dX5_goToSide_22 rfl (lv_at hl 2 rfl) ?_
  refine va_get (D := g.1) (ci := 5) (v := .ref h0_start) (C := RX5) (T := TX5) (N := 8) hx hb hG iX5 hown hX.1 hP 3 rfl rfl 6 (by decide) (hG _ wf_X5_30) (fun _ h9 => h9) rfl dX5_goToSide_23 ?_
  refine lv_iconst (v := 0) hx hb dX5_goToSide_26 (by decide) ?_
  refine lv_iconst (v := 3) hx hb dX5_goToSide_27 (by decide) ?_
  refine va_copyi (ty := .int) hx hb (by rw [hml]; exact hl.1.symm) hown (hG _ wm_X5_106) (hG _ wn_java_lang_System_arraycopy__Ljava_lang_Object_ILjava_lang_Object_II_V) (hG _ ws_java_lang_System_arraycopy__Ljava_lang_Object_ILjava_lang_Object_II_V) (hG _ wini_J10) hX.1 hP hD hS 4 5 0 0 rfl rfl rfl rfl rfl (znl (rfl : z7.toInt = _) (ox_150 f9 i3)) (znl (show (0 : Int32).toInt = (0 : Int) from by decide) ((show (0 : Int) ≤ (0 : Int) from by decide))) (znl (show (3 : Int32).toInt = (3 : Int) from by decide) ((show (0 : Int) ≤ (3 : Int) from by decide))) (zcp (rfl : z7.toInt = _) (show (3 : Int32).toInt = (3 : Int) from by decide) (ox_151 f9 i3)) (zcp (show (0 : Int32).toInt = (0 : Int) from by decide) (show (3 : Int32).toInt = (3 : Int) from by decide) ((show (0 : Int) ≤ (0 : Int) ∧ (0 : Int) ≤ (3 : Int) ∧ ((0 : Int) : Int) + (3 : Int) ≤ 3 from by decide))) (fun _ _ => rfl) (Nat.le_of_ble_eq_true rfl) (Nat.le_of_ble_eq_true rfl) dX5_goToSide_28 (fun H locs hP hD hS => ?_)
  obtain ⟨f10, e11⟩ : ∃ z9 : Nat → Int32, z9 = va_cpy f_h0_corner f_h0_start z7.toNatClampNeg (0 : Int32).toNatClampNeg (3 : Int32).toNatClampNeg := ⟨_, rfl⟩
  rw [← e11] at hP hD
  have hP : va_P g.1 vwCl [(y1, .inr (4, [.int y1_count, .int y1_statements, .int y1_thick, .int y1_punch, .int y1_ups, .int y1_toolCount, .ref y1_toolWidth, .ref y1_told, .ref y1_name, .ref y1_parent, .ref y1_side, .ref y1_from, .ref y1_width, .ref y1_height, .ref y1_radius, .ref y1_toolSet])), (y1_parent, .inl (g.2.1.1, 9, .inl f_y1_parent)), (y1_side, .inl (g.2.1.1, 9, .inl f_y1_side)), (h0, .inr (5, [.ref h0_low, .ref h0_high, .ref h0_normal, .ref h0_corner, .ref h0_east, .ref h0_north, .ref h0_start, .ref h0_far])), (h0_corner, .inl (g.2.1.1, 27, .inl f_h0_corner)), (h0_start, .inl (g.2.1.1, 3, .inl f10)), (h0_north, .inl (g.2.1.1, 9, .inl f_h0_north)), (h0_east, .inl (g.2.1.1, 9, .inl f_h0_east)), (y1_from, .inl (g.2.1.1, 9, .inl f_y1_from)), (y1_height, .inl (g.2.1.1, 9, .inl f_y1_height)), (y1_width, .inl (g.2.1.1, 9, .inl f_y1_width))] H := hP
  have hD : va_D A [(y1, .inr (4, [.int y1_count, .int y1_statements, .int y1_thick, .int y1_punch, .int y1_ups, .int y1_toolCount, .ref y1_toolWidth, .ref y1_told, .ref y1_name, .ref y1_parent, .ref y1_side, .ref y1_from, .ref y1_width, .ref y1_height, .ref y1_radius, .ref y1_toolSet])), (y1_parent, .inl (g.2.1.1, 9, .inl f_y1_parent)), (y1_side, .inl (g.2.1.1, 9, .inl f_y1_side)), (h0, .inr (5, [.ref h0_low, .ref h0_high, .ref h0_normal, .ref h0_corner, .ref h0_east, .ref h0_north, .ref h0_start, .ref h0_far])), (h0_corner, .inl (g.2.1.1, 27, .inl f_h0_corner)), (h0_start, .inl (g.2.1.1, 3, .inl f10)), (h0_north, .inl (g.2.1.1, 9, .inl f_h0_north)), (h0_east, .inl (g.2.1.1, 9, .inl f_h0_east)), (y1_from, .inl (g.2.1.1, 9, .inl f_y1_from)), (y1_height, .inl (g.2.1.1, 9, .inl f_y1_height)), (y1_width, .inl (g.2.1.1, 9, .inl f_y1_width))] := hD
  refine lv_aload_n hx hb dX5_goToSide_31 rfl (lv_at hl 2 rfl) ?_
  refine va_get (D := g.1) (ci := 5) (v := .ref h0_start) (C := RX5) (T := TX5) (N := 8) hx hb hG iX5 hown hX.1 hP 3 rfl rfl 6 (by decide) (hG _ wf_X5_30) (fun _ h9 => h9) rfl dX5_goToSide_32 ?_
  refine lv_aload_n hx hb dX5_goToSide_35 rfl (lv_at hl 2 rfl) ?_
  refine lv_iload_n hx hb dX5_goToSide_36 rfl (lv_at hl 1 rfl) ?_
  refine lv_iload hx hb dX5_goToSide_37 (lv_at hl 0 rfl) ?_
  refine zfi (wr := [(y1, .inr (4, [.int y1_count, .int y1_statements, .int y1_thick, .int y1_punch, .int y1_ups, .int y1_toolCount, .ref y1_toolWidth, .ref y1_told, .ref y1_name, .ref y1_parent, .ref y1_side, .ref y1_from, .ref y1_width, .ref y1_height, .ref y1_radius, .ref y1_toolSet])), (y1_parent, .inl (g.2.1.1, 9, .inl f_y1_parent)), (y1_side, .inl (g.2.1.1, 9, .inl f_y1_side)), (h0_corner, .inl (g.2.1.1, 27, .inl f_h0_corner)), (h0_start, .inl (g.2.1.1, 3, .inl f10)), (y1_from, .inl (g.2.1.1, 9, .inl f_y1_from)), (y1_height, .inl (g.2.1.1, 9, .inl f_y1_height)), (y1_width, .inl (g.2.1.1, 9, .inl f_y1_width))]) (va_runV (As := [.int z1, .int z4]) (rest := [.ref h0_start]) ⟨hx, hb, hml, hown, hG⟩ (kX5_alongSide l g h0 z1 z4 h0_low h0_high h0_normal h0_corner h0_east h0_north h0_start h0_far f_h0_north f_h0_east (ox_152 f9 i3) hy5 hy6 _) ⟨callB_of 2 hG (zGood wc_X5_alongSide) rfl rfl rfl (hG _ wini_X5) (hG _ wm_X5_68) hX5_alongSide ⟨Nat.le_of_ble_eq_true rfl, Nat.le_of_ble_eq_true rfl⟩, hG _ wi_X5_alongSide, hG _ wse_X5_X5_alongSide⟩ (zpreV (va_recv hX.1 hP (ci := 5) (q0 := 3) rfl rfl) hX hP hD hS hA [3, 6, 7] rfl (by decide)) rfl rfl hl.1 rfl (lv_room (Nat.le_of_ble_eq_true rfl)) dX5_goToSide_39 ⟨Nat.le_of_ble_eq_true rfl, Nat.le_of_ble_eq_true rfl⟩) hP hD hS hA [3, 6, 7] [0, 1, 2, 4, 5, 8, 9, 10] rfl rfl (by decide) (by decide) (fun r12 _ H locs hp hP hD hS => ?_)
  refine W.cs (cells' := 0) (slots' := 0) rfl rfl ?_
  have hq13 : 0 ≤ r12.toInt ∧ r12.toInt ≤ 5 := hp
  have hP : va_P g.1 vwCl [(y1, .inr (4, [.int y1_count, .int y1_statements, .int y1_thick, .int y1_punch, .int y1_ups, .int y1_toolCount, .ref y1_toolWidth, .ref y1_told, .ref y1_name, .ref y1_parent, .ref y1_side, .ref y1_from, .ref y1_width, .ref y1_height, .ref y1_radius, .ref y1_toolSet])), (y1_parent, .inl (g.2.1.1, 9, .inl f_y1_parent)), (y1_side, .inl (g.2.1.1, 9, .inl f_y1_side)), (h0_corner, .inl (g.2.1.1, 27, .inl f_h0_corner)), (h0_start, .inl (g.2.1.1, 3, .inl f10)), (y1_from, .inl (g.2.1.1, 9, .inl f_y1_from)), (y1_height, .inl (g.2.1.1, 9, .inl f_y1_height)), (y1_width, .inl (g.2.1.1, 9, .inl f_y1_width)), (h0, .inr (5, [.ref h0_low, .ref h0_high, .ref h0_normal, .ref h0_corner, .ref h0_east, .ref h0_north, .ref h0_start, .ref h0_far])), (h0_north, .inl (g.2.1.1, 9, .inl f_h0_north)), (h0_east, .inl (g.2.1.1, 9, .inl f_h0_east))] H := hP
  have hD : va_D A [(y1, .inr (4, [.int y1_count, .int y1_statements, .int y1_thick, .int y1_punch, .int y1_ups, .int y1_toolCount, .ref y1_toolWidth, .ref y1_told, .ref y1_name, .ref y1_parent, .ref y1_side, .ref y1_from, .ref y1_width, .ref y1_height, .ref y1_radius, .ref y1_toolSet])), (y1_parent, .inl (g.2.1.1, 9, .inl f_y1_parent)), (y1_side, .inl (g.2.1.1, 9, .inl f_y1_side)), (h0_corner, .inl (g.2.1.1, 27, .inl f_h0_corner)), (h0_start, .inl (g.2.1.1, 3, .inl f10)), (y1_from, .inl (g.2.1.1, 9, .inl f_y1_from)), (y1_height, .inl (g.2.1.1, 9, .inl f_y1_height)), (y1_width, .inl (g.2.1.1, 9, .inl f_y1_width)), (h0, .inr (5, [.ref h0_low, .ref h0_high, .ref h0_normal, .ref h0_corner, .ref h0_east, .ref h0_north, .ref h0_start, .ref h0_far])), (h0_north, .inl (g.2.1.1, 9, .inl f_h0_north)), (h0_east, .inl (g.2.1.1, 9, .inl f_h0_east))] := hD
  refine lv_aload_n hx hb dX5_goToSide_42 rfl (lv_at hl 3 rfl) ?_
  refine va_getN (D := g.1) (ci := 4) (v := .ref y1_from) (C := RX4) (T := TX4) (N := 16) hx hb hG iX4 hown hX.1 hP 0 rfl rfl 11 (by decide) (hX.2.1.fl wfn_X5_112) (fun _ h9 => h9) rfl dX5_goToSide_43 ?_
  refine lv_iload_n hx hb dX5_goToSide_46 rfl (lv_at hl 4 rfl) ?_
  refine va_iald hx hb hX.1 hP 5 0 rfl rfl (zin (rfl : x2.toInt = _) (ox_6 hy0)) dX5_goToSide_47 ?_
  refine lv_topi (fun z14 e15 => ?_)
  refine zfv (wr := [(y1, .inr (4, [.int y1_count, .int y1_statements, .int y1_thick, .int y1_punch, .int y1_ups, .int y1_toolCount, .ref y1_toolWidth, .ref y1_told, .ref y1_name, .ref y1_parent, .ref y1_side, .ref y1_from, .ref y1_width, .ref y1_height, .ref y1_radius, .ref y1_toolSet])), (y1_parent, .inl (g.2.1.1, 9, .inl f_y1_parent)), (y1_side, .inl (g.2.1.1, 9, .inl f_y1_side)), (h0_corner, .inl (g.2.1.1, 27, .inl f_h0_corner)), (y1_from, .inl (g.2.1.1, 9, .inl f_y1_from)), (y1_height, .inl (g.2.1.1, 9, .inl f_y1_height)), (y1_width, .inl (g.2.1.1, 9, .inl f_y1_width)), (h0, .inr (5, [.ref h0_low, .ref h0_high, .ref h0_normal, .ref h0_corner, .ref h0_east, .ref h0_north, .ref h0_start, .ref h0_far])), (h0_north, .inl (g.2.1.1, 9, .inl f_h0_north)), (h0_east, .inl (g.2.1.1, 9, .inl f_h0_east))]) (va_runS (As := [.ref h0_start, .int r12, .int z14]) (rest := []) ⟨hx, hb, hml, hown, hG⟩ (kX5_move l g h0_start r12 z14 f10 (ox_48 hq13) _) ⟨callB_of 3 hG (zGood wc_X5_move) rfl rfl rfl (hG _ wini_X5) (hG _ wm_X5_98) hX5_move ⟨Nat.le_of_ble_eq_true rfl, Nat.le_of_ble_eq_true rfl⟩, hG _ ws_X5_move⟩ (zpreS hX hP hD hS hA [4] rfl (by decide)) rfl rfl hl.1 rfl (lv_room (Nat.le_of_ble_eq_true rfl)) dX5_goToSide_48 ⟨Nat.le_of_ble_eq_true rfl, Nat.le_of_ble_eq_true rfl⟩) hP hD hS hA [4] [0, 1, 2, 3, 5, 6, 7, 8, 9, 10] rfl rfl (by decide) (by decide) (fun u17 H locs hp hP hD hS => ?_)
  refine W.cs (cells' := 0) (slots' := 0) rfl rfl ?_
  obtain ⟨f18, rfl⟩ : ∃ z9, z9 = u17 := ⟨_, rfl⟩
  have hP : va_P g.1 vwCl [(y1, .inr (4, [.int y1_count, .int y1_statements, .int y1_thick, .int y1_punch, .int y1_ups, .int y1_toolCount, .ref y1_toolWidth, .ref y1_told, .ref y1_name, .ref y1_parent, .ref y1_side, .ref y1_from, .ref y1_width, .ref y1_height, .ref y1_radius, .ref y1_toolSet])), (y1_parent, .inl (g.2.1.1, 9, .inl f_y1_parent)), (y1_side, .inl (g.2.1.1, 9, .inl f_y1_side)), (h0_corner, .inl (g.2.1.1, 27, .inl f_h0_corner)), (y1_from, .inl (g.2.1.1, 9, .inl f_y1_from)), (y1_height, .inl (g.2.1.1, 9, .inl f_y1_height)), (y1_width, .inl (g.2.1.1, 9, .inl f_y1_width)), (h0, .inr (5, [.ref h0_low, .ref h0_high, .ref h0_normal, .ref h0_corner, .ref h0_east, .ref h0_north, .ref h0_start, .ref h0_far])), (h0_north, .inl (g.2.1.1, 9, .inl f_h0_north)), (h0_east, .inl (g.2.1.1, 9, .inl f_h0_east)), (h0_start, .inl (g.2.1.1, 3, .inl f18))] H := hP
  have hD : va_D A [(y1, .inr (4, [.int y1_count, .int y1_statements, .int y1_thick, .int y1_punch, .int y1_ups, .int y1_toolCount, .ref y1_toolWidth, .ref y1_told, .ref y1_name, .ref y1_parent, .ref y1_side, .ref y1_from, .ref y1_width, .ref y1_height, .ref y1_radius, .ref y1_toolSet])), (y1_parent, .inl (g.2.1.1, 9, .inl f_y1_parent)), (y1_side, .inl (g.2.1.1, 9, .inl f_y1_side)), (h0_corner, .inl (g.2.1.1, 27, .inl f_h0_corner)), (y1_from, .inl (g.2.1.1, 9, .inl f_y1_from)), (y1_height, .inl (g.2.1.1, 9, .inl f_y1_height)), (y1_width, .inl (g.2.1.1, 9, .inl f_y1_width)), (h0, .inr (5, [.ref h0_low, .ref h0_high, .ref h0_normal, .ref h0_corner, .ref h0_east, .ref h0_north, .ref h0_start, .ref h0_far])), (h0_north, .inl (g.2.1.1, 9, .inl f_h0_north)), (h0_east, .inl (g.2.1.1, 9, .inl f_h0_east)), (h0_start, .inl (g.2.1.1, 3, .inl f18))] := hD
  refine lv_iload hx hb dX5_goToSide_51 (lv_at hl 0 rfl) ?_
  refine lv_if_ne (tgt := 77) hx hb dX5_goToSide_53 (by decide) (fun c19 => ?_) (fun c19 => ?_)
  · skip
    have c19i : ¬ (z4.toInt = (0 : Int)) := fun q => c19 ((zc_eq (rfl : z4.toInt = _) (show (0 : Int32).toInt = (0 : Int) from by decide)).mpr q)
    refine lv_iload hx hb dX5_goToSide_77 (lv_at hl 0 rfl) ?_
    refine lv_iconst (v := 1) hx hb dX5_goToSide_79 (by decide) ?_
    refine lv_icmp_ne (tgt := 101) hx hb dX5_goToSide_80 (by decide) (fun c20 => ?_) (fun c20 => ?_)
    · skip
      have c20i : ¬ (z4.toInt = (1 : Int)) := fun q => c20 ((zc_eq (rfl : z4.toInt = _) (show (1 : Int32).toInt = (1 : Int) from by decide)).mpr q)
      exact hret f18 (Nat.le_of_ble_eq_true rfl) (Nat.le_of_ble_eq_true rfl) trivial (hP.sub [0, 1, 2, 7, 3, 10, 8, 9, 4, 5, 6] rfl) (hD.sub [0, 1, 2, 7, 3, 10, 8, 9, 4, 5, 6] (by decide) rfl) hS dX5_goToSide_101
    · skip
      have c20i : z4.toInt = (1 : Int) := (zc_eq (rfl : z4.toInt = _) (show (1 : Int32).toInt = (1 : Int) from by decide)).mp c20
      refine lv_aload_n hx hb dX5_goToSide_83 rfl (lv_at hl 2 rfl) ?_
      refine va_get (D := g.1) (ci := 5) (v := .ref h0_start) (C := RX5) (T := TX5) (N := 8) hx hb hG iX5 hown hX.1 hP 7 rfl rfl 6 (by decide) (hG _ wf_X5_30) (fun _ h9 => h9) rfl dX5_goToSide_84 ?_
      refine lv_aload_n hx hb dX5_goToSide_87 rfl (lv_at hl 2 rfl) ?_
      refine va_get (D := g.1) (ci := 5) (v := .ref h0_east) (C := RX5) (T := TX5) (N := 8) hx hb hG iX5 hown hX.1 hP 7 rfl rfl 4 (by decide) (hG _ wf_X5_24) (fun _ h9 => h9) rfl dX5_goToSide_88 ?_
      refine lv_iload_n hx hb dX5_goToSide_91 rfl (lv_at hl 1 rfl) ?_
      refine va_iald hx hb hX.1 hP 9 0 rfl rfl (zin (rfl : z1.toInt = _) (ox_153 f9 i3)) dX5_goToSide_92 ?_
      refine lv_topi (fun z21 e22 => ?_)
      have i23 : 0 ≤ z21.toInt ∧ z21.toInt ≤ 5 := hy6.at e22
      refine lv_aload_n hx hb dX5_goToSide_93 rfl (lv_at hl 3 rfl) ?_
      refine lv_iload_n hx hb dX5_goToSide_94 rfl (lv_at hl 1 rfl) ?_
      refine zfi (wr := [(y1_parent, .inl (g.2.1.1, 9, .inl f_y1_parent)), (h0_corner, .inl (g.2.1.1, 27, .inl f_h0_corner)), (y1_from, .inl (g.2.1.1, 9, .inl f_y1_from)), (h0, .inr (5, [.ref h0_low, .ref h0_high, .ref h0_normal, .ref h0_corner, .ref h0_east, .ref h0_north, .ref h0_start, .ref h0_far])), (h0_north, .inl (g.2.1.1, 9, .inl f_h0_north)), (h0_east, .inl (g.2.1.1, 9, .inl f_h0_east)), (h0_start, .inl (g.2.1.1, 3, .inl f18))]) (va_runVN (As := [.int z1]) (rest := [.int z21, .ref h0_start]) ⟨hx, hb, hml, hown, hG⟩ (kX4_sizeX l g y1 z1 y1_count y1_statements y1_thick y1_punch y1_ups y1_toolCount y1_toolWidth y1_told y1_name y1_parent y1_side y1_from y1_width y1_height y1_radius y1_toolSet f_y1_side f_y1_height f_y1_width (ox_152 f9 i3) (ox_0 hy1) (ox_1 hy2) hy4 _) ⟨va_cnB 1 hG (zGood wc_X4_sizeX) rfl rfl rfl (hX.2.1.ml wmn_X5_118) (hG _ wini_X4) hX4_sizeX ⟨Nat.le_of_ble_eq_true rfl, Nat.le_of_ble_eq_true rfl⟩, hG _ wi_X4_sizeX, hG _ wse_X4_X4_sizeX⟩ (zpreV (va_recv hX.1 hP (ci := 4) (q0 := 0) rfl rfl) hX hP hD hS hA [0, 2, 5, 6] rfl (by decide)) rfl rfl hl.1 rfl (lv_room (Nat.le_of_ble_eq_true rfl)) dX5_goToSide_95 ⟨Nat.le_of_ble_eq_true rfl, Nat.le_of_ble_eq_true rfl⟩) hP hD hS hA [0, 2, 5, 6] [1, 3, 4, 7, 8, 9, 10] rfl rfl (by decide) (by decide) (fun r24 _ H locs hp hP hD hS => ?_)
      refine W.cs (cells' := 0) (slots' := 0) rfl rfl ?_
      have hP : va_P g.1 vwCl [(y1_parent, .inl (g.2.1.1, 9, .inl f_y1_parent)), (h0_corner, .inl (g.2.1.1, 27, .inl f_h0_corner)), (y1_from, .inl (g.2.1.1, 9, .inl f_y1_from)), (h0, .inr (5, [.ref h0_low, .ref h0_high, .ref h0_normal, .ref h0_corner, .ref h0_east, .ref h0_north, .ref h0_start, .ref h0_far])), (h0_north, .inl (g.2.1.1, 9, .inl f_h0_north)), (h0_east, .inl (g.2.1.1, 9, .inl f_h0_east)), (h0_start, .inl (g.2.1.1, 3, .inl f18)), (y1, .inr (4, [.int y1_count, .int y1_statements, .int y1_thick, .int y1_punch, .int y1_ups, .int y1_toolCount, .ref y1_toolWidth, .ref y1_told, .ref y1_name, .ref y1_parent, .ref y1_side, .ref y1_from, .ref y1_width, .ref y1_height, .ref y1_radius, .ref y1_toolSet])), (y1_side, .inl (g.2.1.1, 9, .inl f_y1_side)), (y1_height, .inl (g.2.1.1, 9, .inl f_y1_height)), (y1_width, .inl (g.2.1.1, 9, .inl f_y1_width))] H := hP
      have hD : va_D A [(y1_parent, .inl (g.2.1.1, 9, .inl f_y1_parent)), (h0_corner, .inl (g.2.1.1, 27, .inl f_h0_corner)), (y1_from, .inl (g.2.1.1, 9, .inl f_y1_from)), (h0, .inr (5, [.ref h0_low, .ref h0_high, .ref h0_normal, .ref h0_corner, .ref h0_east, .ref h0_north, .ref h0_start, .ref h0_far])), (h0_north, .inl (g.2.1.1, 9, .inl f_h0_north)), (h0_east, .inl (g.2.1.1, 9, .inl f_h0_east)), (h0_start, .inl (g.2.1.1, 3, .inl f18)), (y1, .inr (4, [.int y1_count, .int y1_statements, .int y1_thick, .int y1_punch, .int y1_ups, .int y1_toolCount, .ref y1_toolWidth, .ref y1_told, .ref y1_name, .ref y1_parent, .ref y1_side, .ref y1_from, .ref y1_width, .ref y1_height, .ref y1_radius, .ref y1_toolSet])), (y1_side, .inl (g.2.1.1, 9, .inl f_y1_side)), (y1_height, .inl (g.2.1.1, 9, .inl f_y1_height)), (y1_width, .inl (g.2.1.1, 9, .inl f_y1_width))] := hD
      refine zfv (wr := [(y1_parent, .inl (g.2.1.1, 9, .inl f_y1_parent)), (h0_corner, .inl (g.2.1.1, 27, .inl f_h0_corner)), (y1_from, .inl (g.2.1.1, 9, .inl f_y1_from)), (h0, .inr (5, [.ref h0_low, .ref h0_high, .ref h0_normal, .ref h0_corner, .ref h0_east, .ref h0_north, .ref h0_start, .ref h0_far])), (h0_north, .inl (g.2.1.1, 9, .inl f_h0_north)), (h0_east, .inl (g.2.1.1, 9, .inl f_h0_east)), (y1, .inr (4, [.int y1_count, .int y1_statements, .int y1_thick, .int y1_punch, .int y1_ups, .int y1_toolCount, .ref y1_toolWidth, .ref y1_told, .ref y1_name, .ref y1_parent, .ref y1_side, .ref y1_from, .ref y1_width, .ref y1_height, .ref y1_radius, .ref y1_toolSet])), (y1_side, .inl (g.2.1.1, 9, .inl f_y1_side)), (y1_height, .inl (g.2.1.1, 9, .inl f_y1_height)), (y1_width, .inl (g.2.1.1, 9, .inl f_y1_width))]) (va_runS (As := [.ref h0_start, .int z21, .int r24]) (rest := []) ⟨hx, hb, hml, hown, hG⟩ (kX5_move l g h0_start z21 r24 f18 (ox_48 i23) _) ⟨callB_of 3 hG (zGood wc_X5_move) rfl rfl rfl (hG _ wini_X5) (hG _ wm_X5_98) hX5_move ⟨Nat.le_of_ble_eq_true rfl, Nat.le_of_ble_eq_true rfl⟩, hG _ ws_X5_move⟩ (zpreS hX hP hD hS hA [6] rfl (by decide)) rfl rfl hl.1 rfl (lv_room (Nat.le_of_ble_eq_true rfl)) dX5_goToSide_98 ⟨Nat.le_of_ble_eq_true rfl, Nat.le_of_ble_eq_true rfl⟩) hP hD hS hA [6] [0, 1, 2, 3, 4, 5, 7, 8, 9, 10] rfl rfl (by decide) (by decide) (fun u26 H locs hp hP hD hS => ?_)
      refine W.cs (cells' := 0) (slots' := 0) rfl rfl ?_
      obtain ⟨f27, rfl⟩ : ∃ z9, z9 = u26 := ⟨_, rfl⟩
      have hP : va_P g.1 vwCl [(y1_parent, .inl (g.2.1.1, 9, .inl f_y1_parent)), (h0_corner, .inl (g.2.1.1, 27, .inl f_h0_corner)), (y1_from, .inl (g.2.1.1, 9, .inl f_y1_from)), (h0, .inr (5, [.ref h0_low, .ref h0_high, .ref h0_normal, .ref h0_corner, .ref h0_east, .ref h0_north, .ref h0_start, .ref h0_far])), (h0_north, .inl (g.2.1.1, 9, .inl f_h0_north)), (h0_east, .inl (g.2.1.1, 9, .inl f_h0_east)), (y1, .inr (4, [.int y1_count, .int y1_statements, .int y1_thick, .int y1_punch, .int y1_ups, .int y1_toolCount, .ref y1_toolWidth, .ref y1_told, .ref y1_name, .ref y1_parent, .ref y1_side, .ref y1_from, .ref y1_width, .ref y1_height, .ref y1_radius, .ref y1_toolSet])), (y1_side, .inl (g.2.1.1, 9, .inl f_y1_side)), (y1_height, .inl (g.2.1.1, 9, .inl f_y1_height)), (y1_width, .inl (g.2.1.1, 9, .inl f_y1_width)), (h0_start, .inl (g.2.1.1, 3, .inl f27))] H := hP
      have hD : va_D A [(y1_parent, .inl (g.2.1.1, 9, .inl f_y1_parent)), (h0_corner, .inl (g.2.1.1, 27, .inl f_h0_corner)), (y1_from, .inl (g.2.1.1, 9, .inl f_y1_from)), (h0, .inr (5, [.ref h0_low, .ref h0_high, .ref h0_normal, .ref h0_corner, .ref h0_east, .ref h0_north, .ref h0_start, .ref h0_far])), (h0_north, .inl (g.2.1.1, 9, .inl f_h0_north)), (h0_east, .inl (g.2.1.1, 9, .inl f_h0_east)), (y1, .inr (4, [.int y1_count, .int y1_statements, .int y1_thick, .int y1_punch, .int y1_ups, .int y1_toolCount, .ref y1_toolWidth, .ref y1_told, .ref y1_name, .ref y1_parent, .ref y1_side, .ref y1_from, .ref y1_width, .ref y1_height, .ref y1_radius, .ref y1_toolSet])), (y1_side, .inl (g.2.1.1, 9, .inl f_y1_side)), (y1_height, .inl (g.2.1.1, 9, .inl f_y1_height)), (y1_width, .inl (g.2.1.1, 9, .inl f_y1_width)), (h0_start, .inl (g.2.1.1, 3, .inl f27))] := hD
      exact hret f27 (Nat.le_of_ble_eq_true rfl) (Nat.le_of_ble_eq_true rfl) trivial (hP.sub [6, 0, 7, 3, 1, 10, 4, 5, 2, 8, 9] rfl) (hD.sub [6, 0, 7, 3, 1, 10, 4, 5, 2, 8, 9] (by decide) rfl) hS dX5_goToSide_101
  · skip
    have c19i : z4.toInt = (0 : Int) := (zc_eq (rfl : z4.toInt = _) (show (0 : Int32).toInt = (0 : Int) from by decide)).mp c19
    refine lv_aload_n hx hb dX5_goToSide_56 rfl (lv_at hl 2 rfl) ?_
    refine va_get (D := g.1) (ci := 5) (v := .ref h0_start) (C := RX5) (T := TX5) (N := 8) hx hb hG iX5 hown hX.1 hP 7 rfl rfl 6 (by decide) (hG _ wf_X5_30) (fun _ h9 => h9) rfl dX5_goToSide_57 ?_
    refine lv_aload_n hx hb dX5_goToSide_60 rfl (lv_at hl 2 rfl) ?_
    refine va_get (D := g.1) (ci := 5) (v := .ref h0_north) (C := RX5) (T := TX5) (N := 8) hx hb hG iX5 hown hX.1 hP 7 rfl rfl 5 (by decide) (hG _ wf_X5_27) (fun _ h9 => h9) rfl dX5_goToSide_61 ?_
    refine lv_iload_n hx hb dX5_goToSide_64 rfl (lv_at hl 1 rfl) ?_
    refine va_iald hx hb hX.1 hP 8 0 rfl rfl (zin (rfl : z1.toInt = _) (ox_153 f9 i3)) dX5_goToSide_65 ?_
    refine lv_topi (fun z28 e29 => ?_)
    have i30 : 0 ≤ z28.toInt ∧ z28.toInt ≤ 5 := hy5.at e29
    refine lv_aload_n hx hb dX5_goToSide_66 rfl (lv_at hl 3 rfl) ?_
    refine lv_iload_n hx hb dX5_goToSide_67 rfl (lv_at hl 1 rfl) ?_
    refine zfi (wr := [(y1_parent, .inl (g.2.1.1, 9, .inl f_y1_parent)), (h0_corner, .inl (g.2.1.1, 27, .inl f_h0_corner)), (y1_from, .inl (g.2.1.1, 9, .inl f_y1_from)), (h0, .inr (5, [.ref h0_low, .ref h0_high, .ref h0_normal, .ref h0_corner, .ref h0_east, .ref h0_north, .ref h0_start, .ref h0_far])), (h0_north, .inl (g.2.1.1, 9, .inl f_h0_north)), (h0_east, .inl (g.2.1.1, 9, .inl f_h0_east)), (h0_start, .inl (g.2.1.1, 3, .inl f18))]) (va_runVN (As := [.int z1]) (rest := [.int z28, .ref h0_start]) ⟨hx, hb, hml, hown, hG⟩ (kX4_sizeY l g y1 z1 y1_count y1_statements y1_thick y1_punch y1_ups y1_toolCount y1_toolWidth y1_told y1_name y1_parent y1_side y1_from y1_width y1_height y1_radius y1_toolSet f_y1_side f_y1_width f_y1_height (ox_152 f9 i3) (ox_0 hy1) (ox_1 hy2) hy4 _) ⟨va_cnB 1 hG (zGood wc_X4_sizeY) rfl rfl rfl (hX.2.1.ml wmn_X5_115) (hG _ wini_X4) hX4_sizeY ⟨Nat.le_of_ble_eq_true rfl, Nat.le_of_ble_eq_true rfl⟩, hG _ wi_X4_sizeY, hG _ wse_X4_X4_sizeY⟩ (zpreV (va_recv hX.1 hP (ci := 4) (q0 := 0) rfl rfl) hX hP hD hS hA [0, 2, 6, 5] rfl (by decide)) rfl rfl hl.1 rfl (lv_room (Nat.le_of_ble_eq_true rfl)) dX5_goToSide_68 ⟨Nat.le_of_ble_eq_true rfl, Nat.le_of_ble_eq_true rfl⟩) hP hD hS hA [0, 2, 6, 5] [1, 3, 4, 7, 8, 9, 10] rfl rfl (by decide) (by decide) (fun r31 _ H locs hp hP hD hS => ?_)
    refine W.cs (cells' := 0) (slots' := 0) rfl rfl ?_
    have hP : va_P g.1 vwCl [(y1_parent, .inl (g.2.1.1, 9, .inl f_y1_parent)), (h0_corner, .inl (g.2.1.1, 27, .inl f_h0_corner)), (y1_from, .inl (g.2.1.1, 9, .inl f_y1_from)), (h0, .inr (5, [.ref h0_low, .ref h0_high, .ref h0_normal, .ref h0_corner, .ref h0_east, .ref h0_north, .ref h0_start, .ref h0_far])), (h0_north, .inl (g.2.1.1, 9, .inl f_h0_north)), (h0_east, .inl (g.2.1.1, 9, .inl f_h0_east)), (h0_start, .inl (g.2.1.1, 3, .inl f18)), (y1, .inr (4, [.int y1_count, .int y1_statements, .int y1_thick, .int y1_punch, .int y1_ups, .int y1_toolCount, .ref y1_toolWidth, .ref y1_told, .ref y1_name, .ref y1_parent, .ref y1_side, .ref y1_from, .ref y1_width, .ref y1_height, .ref y1_radius, .ref y1_toolSet])), (y1_side, .inl (g.2.1.1, 9, .inl f_y1_side)), (y1_width, .inl (g.2.1.1, 9, .inl f_y1_width)), (y1_height, .inl (g.2.1.1, 9, .inl f_y1_height))] H := hP
    have hD : va_D A [(y1_parent, .inl (g.2.1.1, 9, .inl f_y1_parent)), (h0_corner, .inl (g.2.1.1, 27, .inl f_h0_corner)), (y1_from, .inl (g.2.1.1, 9, .inl f_y1_from)), (h0, .inr (5, [.ref h0_low, .ref h0_high, .ref h0_normal, .ref h0_corner, .ref h0_east, .ref h0_north, .ref h0_start, .ref h0_far])), (h0_north, .inl (g.2.1.1, 9, .inl f_h0_north)), (h0_east, .inl (g.2.1.1, 9, .inl f_h0_east)), (h0_start, .inl (g.2.1.1, 3, .inl f18)), (y1, .inr (4, [.int y1_count, .int y1_statements, .int y1_thick, .int y1_punch, .int y1_ups, .int y1_toolCount, .ref y1_toolWidth, .ref y1_told, .ref y1_name, .ref y1_parent, .ref y1_side, .ref y1_from, .ref y1_width, .ref y1_height, .ref y1_radius, .ref y1_toolSet])), (y1_side, .inl (g.2.1.1, 9, .inl f_y1_side)), (y1_width, .inl (g.2.1.1, 9, .inl f_y1_width)), (y1_height, .inl (g.2.1.1, 9, .inl f_y1_height))] := hD
    refine zfv (wr := [(y1_parent, .inl (g.2.1.1, 9, .inl f_y1_parent)), (h0_corner, .inl (g.2.1.1, 27, .inl f_h0_corner)), (y1_from, .inl (g.2.1.1, 9, .inl f_y1_from)), (h0, .inr (5, [.ref h0_low, .ref h0_high, .ref h0_normal, .ref h0_corner, .ref h0_east, .ref h0_north, .ref h0_start, .ref h0_far])), (h0_north, .inl (g.2.1.1, 9, .inl f_h0_north)), (h0_east, .inl (g.2.1.1, 9, .inl f_h0_east)), (y1, .inr (4, [.int y1_count, .int y1_statements, .int y1_thick, .int y1_punch, .int y1_ups, .int y1_toolCount, .ref y1_toolWidth, .ref y1_told, .ref y1_name, .ref y1_parent, .ref y1_side, .ref y1_from, .ref y1_width, .ref y1_height, .ref y1_radius, .ref y1_toolSet])), (y1_side, .inl (g.2.1.1, 9, .inl f_y1_side)), (y1_width, .inl (g.2.1.1, 9, .inl f_y1_width)), (y1_height, .inl (g.2.1.1, 9, .inl f_y1_height))]) (va_runS (As := [.ref h0_start, .int z28, .int r31]) (rest := []) ⟨hx, hb, hml, hown, hG⟩ (kX5_move l g h0_start z28 r31 f18 (ox_48 i30) _) ⟨callB_of 3 hG (zGood wc_X5_move) rfl rfl rfl (hG _ wini_X5) (hG _ wm_X5_98) hX5_move ⟨Nat.le_of_ble_eq_true rfl, Nat.le_of_ble_eq_true rfl⟩, hG _ ws_X5_move⟩ (zpreS hX hP hD hS hA [6] rfl (by decide)) rfl rfl hl.1 rfl (lv_room (Nat.le_of_ble_eq_true rfl)) dX5_goToSide_71 ⟨Nat.le_of_ble_eq_true rfl, Nat.le_of_ble_eq_true rfl⟩) hP hD hS hA [6] [0, 1, 2, 3, 4, 5, 7, 8, 9, 10] rfl rfl (by decide) (by decide) (fun u33 H locs hp hP hD hS => ?_)
    refine W.cs (cells' := 0) (slots' := 0) rfl rfl ?_
    obtain ⟨f34, rfl⟩ : ∃ z9, z9 = u33 := ⟨_, rfl⟩
    have hP : va_P g.1 vwCl [(y1_parent, .inl (g.2.1.1, 9, .inl f_y1_parent)), (h0_corner, .inl (g.2.1.1, 27, .inl f_h0_corner)), (y1_from, .inl (g.2.1.1, 9, .inl f_y1_from)), (h0, .inr (5, [.ref h0_low, .ref h0_high, .ref h0_normal, .ref h0_corner, .ref h0_east, .ref h0_north, .ref h0_start, .ref h0_far])), (h0_north, .inl (g.2.1.1, 9, .inl f_h0_north)), (h0_east, .inl (g.2.1.1, 9, .inl f_h0_east)), (y1, .inr (4, [.int y1_count, .int y1_statements, .int y1_thick, .int y1_punch, .int y1_ups, .int y1_toolCount, .ref y1_toolWidth, .ref y1_told, .ref y1_name, .ref y1_parent, .ref y1_side, .ref y1_from, .ref y1_width, .ref y1_height, .ref y1_radius, .ref y1_toolSet])), (y1_side, .inl (g.2.1.1, 9, .inl f_y1_side)), (y1_width, .inl (g.2.1.1, 9, .inl f_y1_width)), (y1_height, .inl (g.2.1.1, 9, .inl f_y1_height)), (h0_start, .inl (g.2.1.1, 3, .inl f34))] H := hP
    have hD : va_D A [(y1_parent, .inl (g.2.1.1, 9, .inl f_y1_parent)), (h0_corner, .inl (g.2.1.1, 27, .inl f_h0_corner)), (y1_from, .inl (g.2.1.1, 9, .inl f_y1_from)), (h0, .inr (5, [.ref h0_low, .ref h0_high, .ref h0_normal, .ref h0_corner, .ref h0_east, .ref h0_north, .ref h0_start, .ref h0_far])), (h0_north, .inl (g.2.1.1, 9, .inl f_h0_north)), (h0_east, .inl (g.2.1.1, 9, .inl f_h0_east)), (y1, .inr (4, [.int y1_count, .int y1_statements, .int y1_thick, .int y1_punch, .int y1_ups, .int y1_toolCount, .ref y1_toolWidth, .ref y1_told, .ref y1_name, .ref y1_parent, .ref y1_side, .ref y1_from, .ref y1_width, .ref y1_height, .ref y1_radius, .ref y1_toolSet])), (y1_side, .inl (g.2.1.1, 9, .inl f_y1_side)), (y1_width, .inl (g.2.1.1, 9, .inl f_y1_width)), (y1_height, .inl (g.2.1.1, 9, .inl f_y1_height)), (h0_start, .inl (g.2.1.1, 3, .inl f34))] := hD
    refine lv_goto (tgt := 101) hx hb dX5_goToSide_74 (by decide) ?_
    exact hret f34 (Nat.le_of_ble_eq_true rfl) (Nat.le_of_ble_eq_true rfl) trivial (hP.sub [6, 0, 7, 3, 1, 10, 4, 5, 2, 9, 8] rfl) (hD.sub [6, 0, 7, 3, 1, 10, 4, 5, 2, 9, 8] (by decide) rfl) hS dX5_goToSide_101
theorem dX5_placeBase_0 : decode cX5_placeBase 0 = .ok (.aload_n 0, 1) := by decide +kernel
theorem dX5_placeBase_1 : decode cX5_placeBase 1 = .ok (.getfield 30, 3) := by decide +kernel
theorem dX5_placeBase_4 : decode cX5_placeBase 4 = .ok (.iconst 0, 1) := by decide +kernel
theorem dX5_placeBase_5 : decode cX5_placeBase 5 = .ok (.invokestatic 86, 3) := by decide +kernel
theorem dX5_placeBase_8 : decode cX5_placeBase 8 = .ok (.aload_n 0, 1) := by decide +kernel
theorem dX5_placeBase_9 : decode cX5_placeBase 9 = .ok (.getfield 21, 3) := by decide +kernel
theorem dX5_placeBase_12 : decode cX5_placeBase 12 = .ok (.iconst 0, 1) := by decide +kernel
theorem dX5_placeBase_13 : decode cX5_placeBase 13 = .ok (.invokestatic 86, 3) := by decide +kernel
theorem dX5_placeBase_16 : decode cX5_placeBase 16 = .ok (.aload_n 0, 1) := by decide +kernel
theorem dX5_placeBase_17 : decode cX5_placeBase 17 = .ok (.getfield 24, 3) := by decide +kernel
theorem dX5_placeBase_20 : decode cX5_placeBase 20 = .ok (.iconst 0, 1) := by decide +kernel
theorem dX5_placeBase_21 : decode cX5_placeBase 21 = .ok (.iconst 0, 1) := by decide +kernel
theorem dX5_placeBase_22 : decode cX5_placeBase 22 = .ok (.iastore, 1) := by decide +kernel
theorem dX5_placeBase_23 : decode cX5_placeBase 23 = .ok (.aload_n 0, 1) := by decide +kernel
theorem dX5_placeBase_24 : decode cX5_placeBase 24 = .ok (.getfield 27, 3) := by decide +kernel
theorem dX5_placeBase_27 : decode cX5_placeBase 27 = .ok (.iconst 0, 1) := by decide +kernel
theorem dX5_placeBase_28 : decode cX5_placeBase 28 = .ok (.iconst 2, 1) := by decide +kernel
theorem dX5_placeBase_29 : decode cX5_placeBase 29 = .ok (.iastore, 1) := by decide +kernel
theorem dX5_placeBase_30 : decode cX5_placeBase 30 = .ok (.aload_n 0, 1) := by decide +kernel
theorem dX5_placeBase_31 : decode cX5_placeBase 31 = .ok (.getfield 18, 3) := by decide +kernel
theorem dX5_placeBase_34 : decode cX5_placeBase 34 = .ok (.iconst 0, 1) := by decide +kernel
theorem dX5_placeBase_35 : decode cX5_placeBase 35 = .ok (.iconst 4, 1) := by decide +kernel
theorem dX5_placeBase_36 : decode cX5_placeBase 36 = .ok (.iastore, 1) := by decide +kernel
theorem dX5_placeBase_37 : decode cX5_placeBase 37 = .ok (.aload_n 0, 1) := by decide +kernel
theorem dX5_placeBase_38 : decode cX5_placeBase 38 = .ok (.iconst 0, 1) := by decide +kernel
theorem dX5_placeBase_39 : decode cX5_placeBase 39 = .ok (.aload_n 0, 1) := by decide +kernel
theorem dX5_placeBase_40 : decode cX5_placeBase 40 = .ok (.getfield 24, 3) := by decide +kernel
theorem dX5_placeBase_43 : decode cX5_placeBase 43 = .ok (.iconst 0, 1) := by decide +kernel
theorem dX5_placeBase_44 : decode cX5_placeBase 44 = .ok (.iaload, 1) := by decide +kernel
theorem dX5_placeBase_45 : decode cX5_placeBase 45 = .ok (.aload_n 1, 1) := by decide +kernel
theorem dX5_placeBase_46 : decode cX5_placeBase 46 = .ok (.getfield 72, 3) := by decide +kernel
theorem dX5_placeBase_49 : decode cX5_placeBase 49 = .ok (.iconst 0, 1) := by decide +kernel
theorem dX5_placeBase_50 : decode cX5_placeBase 50 = .ok (.iaload, 1) := by decide +kernel
theorem dX5_placeBase_51 : decode cX5_placeBase 51 = .ok (.aload_n 0, 1) := by decide +kernel
theorem dX5_placeBase_52 : decode cX5_placeBase 52 = .ok (.getfield 27, 3) := by decide +kernel
theorem dX5_placeBase_55 : decode cX5_placeBase 55 = .ok (.iconst 0, 1) := by decide +kernel
theorem dX5_placeBase_56 : decode cX5_placeBase 56 = .ok (.iaload, 1) := by decide +kernel
theorem dX5_placeBase_57 : decode cX5_placeBase 57 = .ok (.aload_n 1, 1) := by decide +kernel
theorem dX5_placeBase_58 : decode cX5_placeBase 58 = .ok (.getfield 92, 3) := by decide +kernel
theorem dX5_placeBase_61 : decode cX5_placeBase 61 = .ok (.iconst 0, 1) := by decide +kernel
theorem dX5_placeBase_62 : decode cX5_placeBase 62 = .ok (.iaload, 1) := by decide +kernel
theorem dX5_placeBase_63 : decode cX5_placeBase 63 = .ok (.invokevirtual 82, 3) := by decide +kernel
theorem dX5_placeBase_66 : decode cX5_placeBase 66 = .ok (.return_, 1) := by decide +kernel
abbrev rm_kX5_placeBase : Room := { frames := 2, cells := 0, slots := 0, locals := 48 }
set_option maxHeartbeats 4000000 in
set_option maxRecDepth 100000 in
theorem kX5_placeBase (l : Launch) (g : zL) (h0 : Nat) (y1 : Nat) (h0_low : Nat) (h0_high : Nat) (h0_normal : Nat) (h0_corner : Nat) (h0_east : Nat) (h0_north : Nat) (h0_start : Nat) (h0_far : Nat) (f_h0_start : Nat → Int32) (f_h0_corner : Nat → Int32) (f_h0_east : Nat → Int32) (f_h0_north : Nat → Int32) (f_h0_normal : Nat → Int32) (y1_count : Int32) (y1_statements : Int32) (y1_thick : Int32) (y1_punch : Int32) (y1_ups : Int32) (y1_toolCount : Int32) (y1_toolWidth : Nat) (y1_told : Nat) (y1_name : Nat) (y1_parent : Nat) (y1_side : Nat) (y1_from : Nat) (y1_width : Nat) (y1_height : Nat) (y1_radius : Nat) (y1_toolSet : Nat) (f_y1_width : Nat → Int32) (f_y1_height : Nat → Int32) (f_h0_far : Nat → Int32) (f_h0_low : Nat → Int32) (f_h0_high : Nat → Int32) (hy0 : aI 0 5 f_h0_east) (hy1 : aI 0 5 f_h0_north) (hy2 : aI 0 5 f_h0_normal) (hy3 : 0 ≤ y1_count.toInt ∧ y1_count.toInt ≤ 9) (hy4 : 0 ≤ y1_toolCount.toInt ∧ y1_toolCount.toInt ≤ 8) : zCv l g yX5_placeBase cX5_placeBase 2 none rm_kX5_placeBase [.ref h0, .ref y1] [(h0, .inr (5, [.ref h0_low, .ref h0_high, .ref h0_normal, .ref h0_corner, .ref h0_east, .ref h0_north, .ref h0_start, .ref h0_far])), (h0_start, .inl (g.2.1.1, 3, .inl f_h0_start)), (h0_corner, .inl (g.2.1.1, 27, .inl f_h0_corner)), (h0_east, .inl (g.2.1.1, 9, .inl f_h0_east)), (h0_north, .inl (g.2.1.1, 9, .inl f_h0_north)), (h0_normal, .inl (g.2.1.1, 18, .inl f_h0_normal)), (y1, .inr (4, [.int y1_count, .int y1_statements, .int y1_thick, .int y1_punch, .int y1_ups, .int y1_toolCount, .ref y1_toolWidth, .ref y1_told, .ref y1_name, .ref y1_parent, .ref y1_side, .ref y1_from, .ref y1_width, .ref y1_height, .ref y1_radius, .ref y1_toolSet])), (y1_width, .inl (g.2.1.1, 9, .inl f_y1_width)), (y1_height, .inl (g.2.1.1, 9, .inl f_y1_height)), (h0_far, .inl (g.2.1.1, 3, .inl f_h0_far)), (h0_low, .inl (g.2.1.1, 54, .inl f_h0_low)), (h0_high, .inl (g.2.1.1, 54, .inl f_h0_high))] (fun (u : (Nat → Int32) × (Nat → Int32) × (Nat → Int32) × (Nat → Int32) × (Nat → Int32) × (Nat → Int32) × (Nat → Int32) × (Nat → Int32)) => (aI 0 5 u.2.2.1) ∧ (aI 0 5 u.2.2.2.1) ∧ (aI 0 5 u.2.2.2.2.1)) (fun (u : (Nat → Int32) × (Nat → Int32) × (Nat → Int32) × (Nat → Int32) × (Nat → Int32) × (Nat → Int32) × (Nat → Int32) × (Nat → Int32)) => [(h0, .inr (5, [.ref h0_low, .ref h0_high, .ref h0_normal, .ref h0_corner, .ref h0_east, .ref h0_north, .ref h0_start, .ref h0_far])), (h0_start, .inl (g.2.1.1, 3, .inl u.1)), (h0_corner, .inl (g.2.1.1, 27, .inl u.2.1)), (h0_east, .inl (g.2.1.1, 9, .inl u.2.2.1)), (h0_north, .inl (g.2.1.1, 9, .inl u.2.2.2.1)), (h0_normal, .inl (g.2.1.1, 18, .inl u.2.2.2.2.1)), (y1, .inr (4, [.int y1_count, .int y1_statements, .int y1_thick, .int y1_punch, .int y1_ups, .int y1_toolCount, .ref y1_toolWidth, .ref y1_told, .ref y1_name, .ref y1_parent, .ref y1_side, .ref y1_from, .ref y1_width, .ref y1_height, .ref y1_radius, .ref y1_toolSet])), (y1_width, .inl (g.2.1.1, 9, .inl f_y1_width)), (y1_height, .inl (g.2.1.1, 9, .inl f_y1_height)), (h0_far, .inl (g.2.1.1, 3, .inl u.2.2.2.2.2.1)), (h0_low, .inl (g.2.1.1, 54, .inl u.2.2.2.2.2.2.1)), (h0_high, .inl (g.2.1.1, 54, .inl u.2.2.2.2.2.2.2))]) := by
  refine zCv.mk2 (by decide) (Nat.le_of_ble_eq_true rfl) ?_
  intro p e s m below meth c A args Q hE hret hP hD hS ls hl
  obtain ⟨hx, hb, hr, hml, hown, hG, hlocks, hnm, hX, hA⟩ := hE
  have hown : s.vm.findClass RX5 = some m.cls := hown
  have hl : lv_has ls 2 [(0, .ref h0), (1, .ref y1)] := hl
  refine lv_aload_n hx hb dX5_placeBase_0 rfl (lv_at hl 0 rfl) ?_
  refine va_get (D := g.1) (ci := 5) (v := .ref h0_start) (C := RX5) (T := TX5) (N := 8) hx hb hG iX5 hown hX.1 hP 0 rfl rfl 6 (by decide) (hG _ wf_X5_30) (fun _ h9 => h9) rfl dX5_placeBase_1 ?_
  refine lv_iconst (v := 0) hx hb dX5_placeBase_4 (by decide) ?_
  refine zfv (wr := [(h0, .inr (5, [.ref h0_low, .ref h0_high, .ref h0_normal, .ref h0_corner, .ref h0_east, .ref h0_north, .ref h0_start, .ref h0_far])), (h0_corner, .inl (g.2.1.1, 27, .inl f_h0_corner)), (h0_east, .inl (g.2.1.1, 9, .inl f_h0_east)), (h0_north, .inl (g.2.1.1, 9, .inl f_h0_north)), (h0_normal, .inl (g.2.1.1, 18, .inl f_h0_normal)), (y1, .inr (4, [.int y1_count, .int y1_statements, .int y1_thick, .int y1_punch, .int y1_ups, .int y1_toolCount, .ref y1_toolWidth, .ref y1_told, .ref y1_name, .ref y1_parent, .ref y1_side, .ref y1_from, .ref y1_width, .ref y1_height, .ref y1_radius, .ref y1_toolSet])), (y1_width, .inl (g.2.1.1, 9, .inl f_y1_width)), (y1_height, .inl (g.2.1.1, 9, .inl f_y1_height)), (h0_far, .inl (g.2.1.1, 3, .inl f_h0_far)), (h0_low, .inl (g.2.1.1, 54, .inl f_h0_low)), (h0_high, .inl (g.2.1.1, 54, .inl f_h0_high))]) (va_runS (As := [.ref h0_start, .int 0]) (rest := []) ⟨hx, hb, hml, hown, hG⟩ (kJ7_fill_53178_3 l g h0_start (0 : Int32) f_h0_start _) ⟨callB_of 2 hG (zGood wc_J7_fill_53178) rfl rfl rfl (hG _ wini_J7) (hG _ wm_X5_86) hJ7_fill_53178 ⟨Nat.le_of_ble_eq_true rfl, Nat.le_of_ble_eq_true rfl⟩, hG _ ws_J7_fill_53178⟩ (zpreS hX hP hD hS hA [1] rfl (by decide)) rfl rfl hl.1 rfl (lv_room (Nat.le_of_ble_eq_true rfl)) dX5_placeBase_5 ⟨Nat.le_of_ble_eq_true rfl, Nat.le_of_ble_eq_true rfl⟩) hP hD hS hA [1] [0, 2, 3, 4, 5, 6, 7, 8, 9, 10, 11] rfl rfl (by decide) (by decide) (fun u2 H locs hp hP hD hS => ?_)
  refine W.cs (cells' := 0) (slots' := 0) rfl rfl ?_
  obtain ⟨f3, rfl⟩ : ∃ z9, z9 = u2 := ⟨_, rfl⟩
  have hP : va_P g.1 vwCl [(h0, .inr (5, [.ref h0_low, .ref h0_high, .ref h0_normal, .ref h0_corner, .ref h0_east, .ref h0_north, .ref h0_start, .ref h0_far])), (h0_corner, .inl (g.2.1.1, 27, .inl f_h0_corner)), (h0_east, .inl (g.2.1.1, 9, .inl f_h0_east)), (h0_north, .inl (g.2.1.1, 9, .inl f_h0_north)), (h0_normal, .inl (g.2.1.1, 18, .inl f_h0_normal)), (y1, .inr (4, [.int y1_count, .int y1_statements, .int y1_thick, .int y1_punch, .int y1_ups, .int y1_toolCount, .ref y1_toolWidth, .ref y1_told, .ref y1_name, .ref y1_parent, .ref y1_side, .ref y1_from, .ref y1_width, .ref y1_height, .ref y1_radius, .ref y1_toolSet])), (y1_width, .inl (g.2.1.1, 9, .inl f_y1_width)), (y1_height, .inl (g.2.1.1, 9, .inl f_y1_height)), (h0_far, .inl (g.2.1.1, 3, .inl f_h0_far)), (h0_low, .inl (g.2.1.1, 54, .inl f_h0_low)), (h0_high, .inl (g.2.1.1, 54, .inl f_h0_high)), (h0_start, .inl (g.2.1.1, 3, .inl f3))] H := hP
  have hD : va_D A [(h0, .inr (5, [.ref h0_low, .ref h0_high, .ref h0_normal, .ref h0_corner, .ref h0_east, .ref h0_north, .ref h0_start, .ref h0_far])), (h0_corner, .inl (g.2.1.1, 27, .inl f_h0_corner)), (h0_east, .inl (g.2.1.1, 9, .inl f_h0_east)), (h0_north, .inl (g.2.1.1, 9, .inl f_h0_north)), (h0_normal, .inl (g.2.1.1, 18, .inl f_h0_normal)), (y1, .inr (4, [.int y1_count, .int y1_statements, .int y1_thick, .int y1_punch, .int y1_ups, .int y1_toolCount, .ref y1_toolWidth, .ref y1_told, .ref y1_name, .ref y1_parent, .ref y1_side, .ref y1_from, .ref y1_width, .ref y1_height, .ref y1_radius, .ref y1_toolSet])), (y1_width, .inl (g.2.1.1, 9, .inl f_y1_width)), (y1_height, .inl (g.2.1.1, 9, .inl f_y1_height)), (h0_far, .inl (g.2.1.1, 3, .inl f_h0_far)), (h0_low, .inl (g.2.1.1, 54, .inl f_h0_low)), (h0_high, .inl (g.2.1.1, 54, .inl f_h0_high)), (h0_start, .inl (g.2.1.1, 3, .inl f3))] := hD
  refine lv_aload_n hx hb dX5_placeBase_8 rfl (lv_at hl 0 rfl) ?_
  refine va_get (D := g.1) (ci := 5) (v := .ref h0_corner) (C := RX5) (T := TX5) (N := 8) hx hb hG iX5 hown hX.1 hP 0 rfl rfl 3 (by decide) (hG _ wf_X5_21) (fun _ h9 => h9) rfl dX5_placeBase_9 ?_
  refine lv_iconst (v := 0) hx hb dX5_placeBase_12 (by decide) ?_
  refine zfv (wr := [(h0, .inr (5, [.ref h0_low, .ref h0_high, .ref h0_normal, .ref h0_corner, .ref h0_east, .ref h0_north, .ref h0_start, .ref h0_far])), (h0_east, .inl (g.2.1.1, 9, .inl f_h0_east)), (h0_north, .inl (g.2.1.1, 9, .inl f_h0_north)), (h0_normal, .inl (g.2.1.1, 18, .inl f_h0_normal)), (y1, .inr (4, [.int y1_count, .int y1_statements, .int y1_thick, .int y1_punch, .int y1_ups, .int y1_toolCount, .ref y1_toolWidth, .ref y1_told, .ref y1_name, .ref y1_parent, .ref y1_side, .ref y1_from, .ref y1_width, .ref y1_height, .ref y1_radius, .ref y1_toolSet])), (y1_width, .inl (g.2.1.1, 9, .inl f_y1_width)), (y1_height, .inl (g.2.1.1, 9, .inl f_y1_height)), (h0_far, .inl (g.2.1.1, 3, .inl f_h0_far)), (h0_low, .inl (g.2.1.1, 54, .inl f_h0_low)), (h0_high, .inl (g.2.1.1, 54, .inl f_h0_high)), (h0_start, .inl (g.2.1.1, 3, .inl f3))]) (va_runS (As := [.ref h0_corner, .int 0]) (rest := []) ⟨hx, hb, hml, hown, hG⟩ (kJ7_fill_53178_27 l g h0_corner (0 : Int32) f_h0_corner _) ⟨callB_of 2 hG (zGood wc_J7_fill_53178) rfl rfl rfl (hG _ wini_J7) (hG _ wm_X5_86) hJ7_fill_53178 ⟨Nat.le_of_ble_eq_true rfl, Nat.le_of_ble_eq_true rfl⟩, hG _ ws_J7_fill_53178⟩ (zpreS hX hP hD hS hA [1] rfl (by decide)) rfl rfl hl.1 rfl (lv_room (Nat.le_of_ble_eq_true rfl)) dX5_placeBase_13 ⟨Nat.le_of_ble_eq_true rfl, Nat.le_of_ble_eq_true rfl⟩) hP hD hS hA [1] [0, 2, 3, 4, 5, 6, 7, 8, 9, 10, 11] rfl rfl (by decide) (by decide) (fun u5 H locs hp hP hD hS => ?_)
  refine W.cs (cells' := 0) (slots' := 0) rfl rfl ?_
  obtain ⟨f6, rfl⟩ : ∃ z9, z9 = u5 := ⟨_, rfl⟩
  have hP : va_P g.1 vwCl [(h0, .inr (5, [.ref h0_low, .ref h0_high, .ref h0_normal, .ref h0_corner, .ref h0_east, .ref h0_north, .ref h0_start, .ref h0_far])), (h0_east, .inl (g.2.1.1, 9, .inl f_h0_east)), (h0_north, .inl (g.2.1.1, 9, .inl f_h0_north)), (h0_normal, .inl (g.2.1.1, 18, .inl f_h0_normal)), (y1, .inr (4, [.int y1_count, .int y1_statements, .int y1_thick, .int y1_punch, .int y1_ups, .int y1_toolCount, .ref y1_toolWidth, .ref y1_told, .ref y1_name, .ref y1_parent, .ref y1_side, .ref y1_from, .ref y1_width, .ref y1_height, .ref y1_radius, .ref y1_toolSet])), (y1_width, .inl (g.2.1.1, 9, .inl f_y1_width)), (y1_height, .inl (g.2.1.1, 9, .inl f_y1_height)), (h0_far, .inl (g.2.1.1, 3, .inl f_h0_far)), (h0_low, .inl (g.2.1.1, 54, .inl f_h0_low)), (h0_high, .inl (g.2.1.1, 54, .inl f_h0_high)), (h0_start, .inl (g.2.1.1, 3, .inl f3)), (h0_corner, .inl (g.2.1.1, 27, .inl f6))] H := hP
  have hD : va_D A [(h0, .inr (5, [.ref h0_low, .ref h0_high, .ref h0_normal, .ref h0_corner, .ref h0_east, .ref h0_north, .ref h0_start, .ref h0_far])), (h0_east, .inl (g.2.1.1, 9, .inl f_h0_east)), (h0_north, .inl (g.2.1.1, 9, .inl f_h0_north)), (h0_normal, .inl (g.2.1.1, 18, .inl f_h0_normal)), (y1, .inr (4, [.int y1_count, .int y1_statements, .int y1_thick, .int y1_punch, .int y1_ups, .int y1_toolCount, .ref y1_toolWidth, .ref y1_told, .ref y1_name, .ref y1_parent, .ref y1_side, .ref y1_from, .ref y1_width, .ref y1_height, .ref y1_radius, .ref y1_toolSet])), (y1_width, .inl (g.2.1.1, 9, .inl f_y1_width)), (y1_height, .inl (g.2.1.1, 9, .inl f_y1_height)), (h0_far, .inl (g.2.1.1, 3, .inl f_h0_far)), (h0_low, .inl (g.2.1.1, 54, .inl f_h0_low)), (h0_high, .inl (g.2.1.1, 54, .inl f_h0_high)), (h0_start, .inl (g.2.1.1, 3, .inl f3)), (h0_corner, .inl (g.2.1.1, 27, .inl f6))] := hD
  refine lv_aload_n hx hb dX5_placeBase_16 rfl (lv_at hl 0 rfl) ?_
  refine va_get (D := g.1) (ci := 5) (v := .ref h0_east) (C := RX5) (T := TX5) (N := 8) hx hb hG iX5 hown hX.1 hP 0 rfl rfl 4 (by decide) (hG _ wf_X5_24) (fun _ h9 => h9) rfl dX5_placeBase_17 ?_
  refine lv_iconst (v := 0) hx hb dX5_placeBase_20 (by decide) ?_
  refine lv_iconst (v := 0) hx hb dX5_placeBase_21 (by decide) ?_
  refine va_iast hx hb hX.1 hP hD hS 1 0 rfl rfl (zin (show (0 : Int32).toInt = (0 : Int) from by decide) ((show 0 ≤ (0 : Int) ∧ (0 : Int) < 9 from by decide))) dX5_placeBase_22 (fun H locs hP hD hS => ?_)
  obtain ⟨f7, e8⟩ : ∃ z9 : Nat → Int32, z9 = upd f_h0_east (0 : Int32).toNatClampNeg (0 : Int32) := ⟨_, rfl⟩
  rw [← e8] at hP hD
  have hf9 : aI 0 5 f7 := hy0.up e8 (show (0 : Int32).toInt = (0 : Int) from by decide) ((show 0 ≤ (0 : Int) ∧ (0 : Int) ≤ 5 from by decide))
  have hP : va_P g.1 vwCl [(h0, .inr (5, [.ref h0_low, .ref h0_high, .ref h0_normal, .ref h0_corner, .ref h0_east, .ref h0_north, .ref h0_start, .ref h0_far])), (h0_east, .inl (g.2.1.1, 9, .inl f7)), (h0_north, .inl (g.2.1.1, 9, .inl f_h0_north)), (h0_normal, .inl (g.2.1.1, 18, .inl f_h0_normal)), (y1, .inr (4, [.int y1_count, .int y1_statements, .int y1_thick, .int y1_punch, .int y1_ups, .int y1_toolCount, .ref y1_toolWidth, .ref y1_told, .ref y1_name, .ref y1_parent, .ref y1_side, .ref y1_from, .ref y1_width, .ref y1_height, .ref y1_radius, .ref y1_toolSet])), (y1_width, .inl (g.2.1.1, 9, .inl f_y1_width)), (y1_height, .inl (g.2.1.1, 9, .inl f_y1_height)), (h0_far, .inl (g.2.1.1, 3, .inl f_h0_far)), (h0_low, .inl (g.2.1.1, 54, .inl f_h0_low)), (h0_high, .inl (g.2.1.1, 54, .inl f_h0_high)), (h0_start, .inl (g.2.1.1, 3, .inl f3)), (h0_corner, .inl (g.2.1.1, 27, .inl f6))] H := hP
  have hD : va_D A [(h0, .inr (5, [.ref h0_low, .ref h0_high, .ref h0_normal, .ref h0_corner, .ref h0_east, .ref h0_north, .ref h0_start, .ref h0_far])), (h0_east, .inl (g.2.1.1, 9, .inl f7)), (h0_north, .inl (g.2.1.1, 9, .inl f_h0_north)), (h0_normal, .inl (g.2.1.1, 18, .inl f_h0_normal)), (y1, .inr (4, [.int y1_count, .int y1_statements, .int y1_thick, .int y1_punch, .int y1_ups, .int y1_toolCount, .ref y1_toolWidth, .ref y1_told, .ref y1_name, .ref y1_parent, .ref y1_side, .ref y1_from, .ref y1_width, .ref y1_height, .ref y1_radius, .ref y1_toolSet])), (y1_width, .inl (g.2.1.1, 9, .inl f_y1_width)), (y1_height, .inl (g.2.1.1, 9, .inl f_y1_height)), (h0_far, .inl (g.2.1.1, 3, .inl f_h0_far)), (h0_low, .inl (g.2.1.1, 54, .inl f_h0_low)), (h0_high, .inl (g.2.1.1, 54, .inl f_h0_high)), (h0_start, .inl (g.2.1.1, 3, .inl f3)), (h0_corner, .inl (g.2.1.1, 27, .inl f6))] := hD
  refine lv_aload_n hx hb dX5_placeBase_23 rfl (lv_at hl 0 rfl) ?_
  refine va_get (D := g.1) (ci := 5) (v := .ref h0_north) (C := RX5) (T := TX5) (N := 8) hx hb hG iX5 hown hX.1 hP 0 rfl rfl 5 (by decide) (hG _ wf_X5_27) (fun _ h9 => h9) rfl dX5_placeBase_24 ?_
  refine lv_iconst (v := 0) hx hb dX5_placeBase_27 (by decide) ?_
  refine lv_iconst (v := 2) hx hb dX5_placeBase_28 (by decide) ?_
  refine va_iast hx hb hX.1 hP hD hS 2 0 rfl rfl (zin (show (0 : Int32).toInt = (0 : Int) from by decide) ((show 0 ≤ (0 : Int) ∧ (0 : Int) < 9 from by decide))) dX5_placeBase_29 (fun H locs hP hD hS => ?_)
  obtain ⟨f10, e11⟩ : ∃ z9 : Nat → Int32, z9 = upd f_h0_north (0 : Int32).toNatClampNeg (2 : Int32) := ⟨_, rfl⟩
  rw [← e11] at hP hD
  have hf12 : aI 0 5 f10 := hy1.up e11 (show (2 : Int32).toInt = (2 : Int) from by decide) ((show 0 ≤ (2 : Int) ∧ (2 : Int) ≤ 5 from by decide))
  have hP : va_P g.1 vwCl [(h0, .inr (5, [.ref h0_low, .ref h0_high, .ref h0_normal, .ref h0_corner, .ref h0_east, .ref h0_north, .ref h0_start, .ref h0_far])), (h0_east, .inl (g.2.1.1, 9, .inl f7)), (h0_north, .inl (g.2.1.1, 9, .inl f10)), (h0_normal, .inl (g.2.1.1, 18, .inl f_h0_normal)), (y1, .inr (4, [.int y1_count, .int y1_statements, .int y1_thick, .int y1_punch, .int y1_ups, .int y1_toolCount, .ref y1_toolWidth, .ref y1_told, .ref y1_name, .ref y1_parent, .ref y1_side, .ref y1_from, .ref y1_width, .ref y1_height, .ref y1_radius, .ref y1_toolSet])), (y1_width, .inl (g.2.1.1, 9, .inl f_y1_width)), (y1_height, .inl (g.2.1.1, 9, .inl f_y1_height)), (h0_far, .inl (g.2.1.1, 3, .inl f_h0_far)), (h0_low, .inl (g.2.1.1, 54, .inl f_h0_low)), (h0_high, .inl (g.2.1.1, 54, .inl f_h0_high)), (h0_start, .inl (g.2.1.1, 3, .inl f3)), (h0_corner, .inl (g.2.1.1, 27, .inl f6))] H := hP
  have hD : va_D A [(h0, .inr (5, [.ref h0_low, .ref h0_high, .ref h0_normal, .ref h0_corner, .ref h0_east, .ref h0_north, .ref h0_start, .ref h0_far])), (h0_east, .inl (g.2.1.1, 9, .inl f7)), (h0_north, .inl (g.2.1.1, 9, .inl f10)), (h0_normal, .inl (g.2.1.1, 18, .inl f_h0_normal)), (y1, .inr (4, [.int y1_count, .int y1_statements, .int y1_thick, .int y1_punch, .int y1_ups, .int y1_toolCount, .ref y1_toolWidth, .ref y1_told, .ref y1_name, .ref y1_parent, .ref y1_side, .ref y1_from, .ref y1_width, .ref y1_height, .ref y1_radius, .ref y1_toolSet])), (y1_width, .inl (g.2.1.1, 9, .inl f_y1_width)), (y1_height, .inl (g.2.1.1, 9, .inl f_y1_height)), (h0_far, .inl (g.2.1.1, 3, .inl f_h0_far)), (h0_low, .inl (g.2.1.1, 54, .inl f_h0_low)), (h0_high, .inl (g.2.1.1, 54, .inl f_h0_high)), (h0_start, .inl (g.2.1.1, 3, .inl f3)), (h0_corner, .inl (g.2.1.1, 27, .inl f6))] := hD
  refine lv_aload_n hx hb dX5_placeBase_30 rfl (lv_at hl 0 rfl) ?_
  refine va_get (D := g.1) (ci := 5) (v := .ref h0_normal) (C := RX5) (T := TX5) (N := 8) hx hb hG iX5 hown hX.1 hP 0 rfl rfl 2 (by decide) (hG _ wf_X5_18) (fun _ h9 => h9) rfl dX5_placeBase_31 ?_
  refine lv_iconst (v := 0) hx hb dX5_placeBase_34 (by decide) ?_
  refine lv_iconst (v := 4) hx hb dX5_placeBase_35 (by decide) ?_
  refine va_iast hx hb hX.1 hP hD hS 3 0 rfl rfl (zin (show (0 : Int32).toInt = (0 : Int) from by decide) ((show 0 ≤ (0 : Int) ∧ (0 : Int) < 18 from by decide))) dX5_placeBase_36 (fun H locs hP hD hS => ?_)
  obtain ⟨f13, e14⟩ : ∃ z9 : Nat → Int32, z9 = upd f_h0_normal (0 : Int32).toNatClampNeg (4 : Int32) := ⟨_, rfl⟩
  rw [← e14] at hP hD
  have hf15 : aI 0 5 f13 := hy2.up e14 (show (4 : Int32).toInt = (4 : Int) from by decide) ((show 0 ≤ (4 : Int) ∧ (4 : Int) ≤ 5 from by decide))
  have hP : va_P g.1 vwCl [(h0, .inr (5, [.ref h0_low, .ref h0_high, .ref h0_normal, .ref h0_corner, .ref h0_east, .ref h0_north, .ref h0_start, .ref h0_far])), (h0_east, .inl (g.2.1.1, 9, .inl f7)), (h0_north, .inl (g.2.1.1, 9, .inl f10)), (h0_normal, .inl (g.2.1.1, 18, .inl f13)), (y1, .inr (4, [.int y1_count, .int y1_statements, .int y1_thick, .int y1_punch, .int y1_ups, .int y1_toolCount, .ref y1_toolWidth, .ref y1_told, .ref y1_name, .ref y1_parent, .ref y1_side, .ref y1_from, .ref y1_width, .ref y1_height, .ref y1_radius, .ref y1_toolSet])), (y1_width, .inl (g.2.1.1, 9, .inl f_y1_width)), (y1_height, .inl (g.2.1.1, 9, .inl f_y1_height)), (h0_far, .inl (g.2.1.1, 3, .inl f_h0_far)), (h0_low, .inl (g.2.1.1, 54, .inl f_h0_low)), (h0_high, .inl (g.2.1.1, 54, .inl f_h0_high)), (h0_start, .inl (g.2.1.1, 3, .inl f3)), (h0_corner, .inl (g.2.1.1, 27, .inl f6))] H := hP
  have hD : va_D A [(h0, .inr (5, [.ref h0_low, .ref h0_high, .ref h0_normal, .ref h0_corner, .ref h0_east, .ref h0_north, .ref h0_start, .ref h0_far])), (h0_east, .inl (g.2.1.1, 9, .inl f7)), (h0_north, .inl (g.2.1.1, 9, .inl f10)), (h0_normal, .inl (g.2.1.1, 18, .inl f13)), (y1, .inr (4, [.int y1_count, .int y1_statements, .int y1_thick, .int y1_punch, .int y1_ups, .int y1_toolCount, .ref y1_toolWidth, .ref y1_told, .ref y1_name, .ref y1_parent, .ref y1_side, .ref y1_from, .ref y1_width, .ref y1_height, .ref y1_radius, .ref y1_toolSet])), (y1_width, .inl (g.2.1.1, 9, .inl f_y1_width)), (y1_height, .inl (g.2.1.1, 9, .inl f_y1_height)), (h0_far, .inl (g.2.1.1, 3, .inl f_h0_far)), (h0_low, .inl (g.2.1.1, 54, .inl f_h0_low)), (h0_high, .inl (g.2.1.1, 54, .inl f_h0_high)), (h0_start, .inl (g.2.1.1, 3, .inl f3)), (h0_corner, .inl (g.2.1.1, 27, .inl f6))] := hD
  refine lv_aload_n hx hb dX5_placeBase_37 rfl (lv_at hl 0 rfl) ?_
  refine lv_iconst (v := 0) hx hb dX5_placeBase_38 (by decide) ?_
  refine lv_aload_n hx hb dX5_placeBase_39 rfl (lv_at hl 0 rfl) ?_
  refine va_get (D := g.1) (ci := 5) (v := .ref h0_east) (C := RX5) (T := TX5) (N := 8) hx hb hG iX5 hown hX.1 hP 0 rfl rfl 4 (by decide) (hG _ wf_X5_24) (fun _ h9 => h9) rfl dX5_placeBase_40 ?_
  refine lv_iconst (v := 0) hx hb dX5_placeBase_43 (by decide) ?_
  refine va_iald hx hb hX.1 hP 1 0 rfl rfl (zin (show (0 : Int32).toInt = (0 : Int) from by decide) ((show 0 ≤ (0 : Int) ∧ (0 : Int) < 9 from by decide))) dX5_placeBase_44 ?_
  refine lv_topi (fun z16 e17 => ?_)
  have i18 : 0 ≤ z16.toInt ∧ z16.toInt ≤ 5 := hf9.at e17
  refine lv_aload_n hx hb dX5_placeBase_45 rfl (lv_at hl 1 rfl) ?_
  refine va_getN (D := g.1) (ci := 4) (v := .ref y1_width) (C := RX4) (T := TX4) (N := 16) hx hb hG iX4 hown hX.1 hP 4 rfl rfl 12 (by decide) (hX.2.1.fl wfn_X5_72) (fun _ h9 => h9) rfl dX5_placeBase_46 ?_
  refine lv_iconst (v := 0) hx hb dX5_placeBase_49 (by decide) ?_
  refine va_iald hx hb hX.1 hP 5 0 rfl rfl (zin (show (0 : Int32).toInt = (0 : Int) from by decide) ((show 0 ≤ (0 : Int) ∧ (0 : Int) < 9 from by decide))) dX5_placeBase_50 ?_
  refine lv_topi (fun z19 e20 => ?_)
  refine lv_aload_n hx hb dX5_placeBase_51 rfl (lv_at hl 0 rfl) ?_
  refine va_get (D := g.1) (ci := 5) (v := .ref h0_north) (C := RX5) (T := TX5) (N := 8) hx hb hG iX5 hown hX.1 hP 0 rfl rfl 5 (by decide) (hG _ wf_X5_27) (fun _ h9 => h9) rfl dX5_placeBase_52 ?_
  refine lv_iconst (v := 0) hx hb dX5_placeBase_55 (by decide) ?_
  refine va_iald hx hb hX.1 hP 2 0 rfl rfl (zin (show (0 : Int32).toInt = (0 : Int) from by decide) ((show 0 ≤ (0 : Int) ∧ (0 : Int) < 9 from by decide))) dX5_placeBase_56 ?_
  refine lv_topi (fun z21 e22 => ?_)
  have i23 : 0 ≤ z21.toInt ∧ z21.toInt ≤ 5 := hf12.at e22
  refine lv_aload_n hx hb dX5_placeBase_57 rfl (lv_at hl 1 rfl) ?_
  refine va_getN (D := g.1) (ci := 4) (v := .ref y1_height) (C := RX4) (T := TX4) (N := 16) hx hb hG iX4 hown hX.1 hP 4 rfl rfl 13 (by decide) (hX.2.1.fl wfn_X5_92) (fun _ h9 => h9) rfl dX5_placeBase_58 ?_
  refine lv_iconst (v := 0) hx hb dX5_placeBase_61 (by decide) ?_
  refine va_iald hx hb hX.1 hP 6 0 rfl rfl (zin (show (0 : Int32).toInt = (0 : Int) from by decide) ((show 0 ≤ (0 : Int) ∧ (0 : Int) < 9 from by decide))) dX5_placeBase_62 ?_
  refine lv_topi (fun z24 e25 => ?_)
  refine zfv (wr := [(h0_east, .inl (g.2.1.1, 9, .inl f7)), (h0_north, .inl (g.2.1.1, 9, .inl f10)), (h0_normal, .inl (g.2.1.1, 18, .inl f13)), (y1, .inr (4, [.int y1_count, .int y1_statements, .int y1_thick, .int y1_punch, .int y1_ups, .int y1_toolCount, .ref y1_toolWidth, .ref y1_told, .ref y1_name, .ref y1_parent, .ref y1_side, .ref y1_from, .ref y1_width, .ref y1_height, .ref y1_radius, .ref y1_toolSet])), (y1_width, .inl (g.2.1.1, 9, .inl f_y1_width)), (y1_height, .inl (g.2.1.1, 9, .inl f_y1_height)), (h0_corner, .inl (g.2.1.1, 27, .inl f6))]) (va_runV (As := [.int 0, .int z16, .int z19, .int z21, .int z24]) (rest := []) ⟨hx, hb, hml, hown, hG⟩ (kX5_setBox l g h0 (0 : Int32) z16 z19 z21 z24 h0_low h0_high h0_normal h0_corner h0_east h0_north h0_start h0_far f3 f_h0_far f_h0_low f_h0_high ((show 0 ≤ (0 : Int) ∧ (0 : Int) ≤ 17 from by decide)) (ox_48 i18) (ox_48 i23) _) ⟨callB_of 5 hG (zGood wc_X5_setBox) rfl rfl rfl (hG _ wini_X5) (hG _ wm_X5_82) hX5_setBox ⟨Nat.le_of_ble_eq_true rfl, Nat.le_of_ble_eq_true rfl⟩, hG _ wi_X5_setBox, hG _ wse_X5_X5_setBox⟩ (zpreV (va_recv hX.1 hP (ci := 5) (q0 := 0) rfl rfl) hX hP hD hS hA [0, 10, 7, 8, 9] rfl (by decide)) rfl rfl hl.1 rfl (lv_room (Nat.le_of_ble_eq_true rfl)) dX5_placeBase_63 ⟨Nat.le_of_ble_eq_true rfl, Nat.le_of_ble_eq_true rfl⟩) hP hD hS hA [0, 10, 7, 8, 9] [1, 2, 3, 4, 5, 6, 11] rfl rfl (by decide) (by decide) (fun u27 H locs hp hP hD hS => ?_)
  refine W.cs (cells' := 0) (slots' := 0) rfl rfl ?_
  obtain ⟨f28, f29, f30⟩ := u27
  have hP : va_P g.1 vwCl [(h0_east, .inl (g.2.1.1, 9, .inl f7)), (h0_north, .inl (g.2.1.1, 9, .inl f10)), (h0_normal, .inl (g.2.1.1, 18, .inl f13)), (y1, .inr (4, [.int y1_count, .int y1_statements, .int y1_thick, .int y1_punch, .int y1_ups, .int y1_toolCount, .ref y1_toolWidth, .ref y1_told, .ref y1_name, .ref y1_parent, .ref y1_side, .ref y1_from, .ref y1_width, .ref y1_height, .ref y1_radius, .ref y1_toolSet])), (y1_width, .inl (g.2.1.1, 9, .inl f_y1_width)), (y1_height, .inl (g.2.1.1, 9, .inl f_y1_height)), (h0_corner, .inl (g.2.1.1, 27, .inl f6)), (h0, .inr (5, [.ref h0_low, .ref h0_high, .ref h0_normal, .ref h0_corner, .ref h0_east, .ref h0_north, .ref h0_start, .ref h0_far])), (h0_start, .inl (g.2.1.1, 3, .inl f3)), (h0_far, .inl (g.2.1.1, 3, .inl f28)), (h0_low, .inl (g.2.1.1, 54, .inl f29)), (h0_high, .inl (g.2.1.1, 54, .inl f30))] H := hP
  have hD : va_D A [(h0_east, .inl (g.2.1.1, 9, .inl f7)), (h0_north, .inl (g.2.1.1, 9, .inl f10)), (h0_normal, .inl (g.2.1.1, 18, .inl f13)), (y1, .inr (4, [.int y1_count, .int y1_statements, .int y1_thick, .int y1_punch, .int y1_ups, .int y1_toolCount, .ref y1_toolWidth, .ref y1_told, .ref y1_name, .ref y1_parent, .ref y1_side, .ref y1_from, .ref y1_width, .ref y1_height, .ref y1_radius, .ref y1_toolSet])), (y1_width, .inl (g.2.1.1, 9, .inl f_y1_width)), (y1_height, .inl (g.2.1.1, 9, .inl f_y1_height)), (h0_corner, .inl (g.2.1.1, 27, .inl f6)), (h0, .inr (5, [.ref h0_low, .ref h0_high, .ref h0_normal, .ref h0_corner, .ref h0_east, .ref h0_north, .ref h0_start, .ref h0_far])), (h0_start, .inl (g.2.1.1, 3, .inl f3)), (h0_far, .inl (g.2.1.1, 3, .inl f28)), (h0_low, .inl (g.2.1.1, 54, .inl f29)), (h0_high, .inl (g.2.1.1, 54, .inl f30))] := hD
  exact hret (f3, f6, f7, f10, f13, f28, f29, f30) (Nat.le_of_ble_eq_true rfl) (Nat.le_of_ble_eq_true rfl) ⟨hf9, hf12, hf15⟩ (hP.sub [7, 8, 6, 0, 1, 2, 3, 4, 5, 9, 10, 11] rfl) (hD.sub [7, 8, 6, 0, 1, 2, 3, 4, 5, 9, 10, 11] (by decide) rfl) hS dX5_placeBase_66
theorem dX5_placeFlange_0 : decode cX5_placeFlange 0 = .ok (.aload_n 1, 1) := by decide +kernel
theorem dX5_placeFlange_1 : decode cX5_placeFlange 1 = .ok (.getfield 62, 3) := by decide +kernel
theorem dX5_placeFlange_4 : decode cX5_placeFlange 4 = .ok (.iload_n 2, 1) := by decide +kernel
theorem dX5_placeFlange_5 : decode cX5_placeFlange 5 = .ok (.iaload, 1) := by decide +kernel
theorem dX5_placeFlange_6 : decode cX5_placeFlange 6 = .ok (.istore 5, 2) := by decide +kernel
theorem dX5_placeFlange_8 : decode cX5_placeFlange 8 = .ok (.aload_n 1, 1) := by decide +kernel
theorem dX5_placeFlange_9 : decode cX5_placeFlange 9 = .ok (.getfield 65, 3) := by decide +kernel
theorem dX5_placeFlange_12 : decode cX5_placeFlange 12 = .ok (.iload_n 2, 1) := by decide +kernel
theorem dX5_placeFlange_13 : decode cX5_placeFlange 13 = .ok (.iaload, 1) := by decide +kernel
theorem dX5_placeFlange_14 : decode cX5_placeFlange 14 = .ok (.istore 6, 2) := by decide +kernel
theorem dX5_placeFlange_16 : decode cX5_placeFlange 16 = .ok (.aload_n 0, 1) := by decide +kernel
theorem dX5_placeFlange_17 : decode cX5_placeFlange 17 = .ok (.iload 5, 2) := by decide +kernel
theorem dX5_placeFlange_19 : decode cX5_placeFlange 19 = .ok (.iload 6, 2) := by decide +kernel
theorem dX5_placeFlange_21 : decode cX5_placeFlange 21 = .ok (.invokevirtual 75, 3) := by decide +kernel
theorem dX5_placeFlange_24 : decode cX5_placeFlange 24 = .ok (.istore 7, 2) := by decide +kernel
theorem dX5_placeFlange_26 : decode cX5_placeFlange 26 = .ok (.iload 7, 2) := by decide +kernel
theorem dX5_placeFlange_28 : decode cX5_placeFlange 28 = .ok (.istore 8, 2) := by decide +kernel
theorem dX5_placeFlange_30 : decode cX5_placeFlange 30 = .ok (.aload_n 0, 1) := by decide +kernel
theorem dX5_placeFlange_31 : decode cX5_placeFlange 31 = .ok (.getfield 18, 3) := by decide +kernel
theorem dX5_placeFlange_34 : decode cX5_placeFlange 34 = .ok (.iload_n 2, 1) := by decide +kernel
theorem dX5_placeFlange_35 : decode cX5_placeFlange 35 = .ok (.aload_n 0, 1) := by decide +kernel
theorem dX5_placeFlange_36 : decode cX5_placeFlange 36 = .ok (.getfield 18, 3) := by decide +kernel
theorem dX5_placeFlange_39 : decode cX5_placeFlange 39 = .ok (.iload 5, 2) := by decide +kernel
theorem dX5_placeFlange_41 : decode cX5_placeFlange 41 = .ok (.iaload, 1) := by decide +kernel
theorem dX5_placeFlange_42 : decode cX5_placeFlange 42 = .ok (.iastore, 1) := by decide +kernel
theorem dX5_placeFlange_43 : decode cX5_placeFlange 43 = .ok (.iload_n 3, 1) := by decide +kernel
theorem dX5_placeFlange_112 : decode cX5_placeFlange 112 = .ok (.aload_n 0, 1) := by decide +kernel
theorem dX5_placeFlange_113 : decode cX5_placeFlange 113 = .ok (.iload_n 2, 1) := by decide +kernel
theorem dX5_placeFlange_114 : decode cX5_placeFlange 114 = .ok (.aload_n 0, 1) := by decide +kernel
theorem dX5_placeFlange_115 : decode cX5_placeFlange 115 = .ok (.iload 5, 2) := by decide +kernel
theorem dX5_placeFlange_117 : decode cX5_placeFlange 117 = .ok (.iload 6, 2) := by decide +kernel
theorem dX5_placeFlange_119 : decode cX5_placeFlange 119 = .ok (.invokevirtual 68, 3) := by decide +kernel
theorem dX5_placeFlange_122 : decode cX5_placeFlange 122 = .ok (.aload_n 1, 1) := by decide +kernel
theorem dX5_placeFlange_123 : decode cX5_placeFlange 123 = .ok (.getfield 72, 3) := by decide +kernel
theorem dX5_placeFlange_126 : decode cX5_placeFlange 126 = .ok (.iload_n 2, 1) := by decide +kernel
theorem dX5_placeFlange_127 : decode cX5_placeFlange 127 = .ok (.iaload, 1) := by decide +kernel
theorem dX5_placeFlange_128 : decode cX5_placeFlange 128 = .ok (.iload 8, 2) := by decide +kernel
theorem dX5_placeFlange_130 : decode cX5_placeFlange 130 = .ok (.aload_n 1, 1) := by decide +kernel
theorem dX5_placeFlange_131 : decode cX5_placeFlange 131 = .ok (.getfield 92, 3) := by decide +kernel
theorem dX5_placeFlange_134 : decode cX5_placeFlange 134 = .ok (.iload_n 2, 1) := by decide +kernel
theorem dX5_placeFlange_135 : decode cX5_placeFlange 135 = .ok (.iaload, 1) := by decide +kernel
theorem dX5_placeFlange_136 : decode cX5_placeFlange 136 = .ok (.invokevirtual 82, 3) := by decide +kernel
theorem dX5_placeFlange_139 : decode cX5_placeFlange 139 = .ok (.iload 6, 2) := by decide +kernel
theorem dX5_placeFlange_141 : decode cX5_placeFlange 141 = .ok (.iconst 2, 1) := by decide +kernel
theorem dX5_placeFlange_156 : decode cX5_placeFlange 156 = .ok (.istore 9, 2) := by decide +kernel
theorem dX5_placeFlange_158 : decode cX5_placeFlange 158 = .ok (.iload 9, 2) := by decide +kernel
theorem dX5_placeFlange_173 : decode cX5_placeFlange 173 = .ok (.istore 10, 2) := by decide +kernel
theorem dX5_placeFlange_175 : decode cX5_placeFlange 175 = .ok (.aload_n 0, 1) := by decide +kernel
theorem dX5_placeFlange_176 : decode cX5_placeFlange 176 = .ok (.getfield 24, 3) := by decide +kernel
theorem dX5_placeFlange_179 : decode cX5_placeFlange 179 = .ok (.iload_n 2, 1) := by decide +kernel
theorem dX5_placeFlange_180 : decode cX5_placeFlange 180 = .ok (.iload 6, 2) := by decide +kernel
theorem dX5_placeFlange_182 : decode cX5_placeFlange 182 = .ok (.invokestatic 102, 3) := by decide +kernel
theorem dX5_placeFlange_200 : decode cX5_placeFlange 200 = .ok (.iastore, 1) := by decide +kernel
theorem dX5_placeFlange_201 : decode cX5_placeFlange 201 = .ok (.aload_n 0, 1) := by decide +kernel
theorem dX5_placeFlange_202 : decode cX5_placeFlange 202 = .ok (.getfield 27, 3) := by decide +kernel
theorem dX5_placeFlange_205 : decode cX5_placeFlange 205 = .ok (.iload_n 2, 1) := by decide +kernel
theorem dX5_placeFlange_206 : decode cX5_placeFlange 206 = .ok (.iload 6, 2) := by decide +kernel
theorem dX5_placeFlange_208 : decode cX5_placeFlange 208 = .ok (.invokestatic 102, 3) := by decide +kernel
theorem dX5_placeFlange_226 : decode cX5_placeFlange 226 = .ok (.iastore, 1) := by decide +kernel
theorem dX5_placeFlange_227 : decode cX5_placeFlange 227 = .ok (.iload 9, 2) := by decide +kernel
theorem dX5_placeFlange_247 : decode cX5_placeFlange 247 = .ok (.aload_n 0, 1) := by decide +kernel
theorem dX5_placeFlange_248 : decode cX5_placeFlange 248 = .ok (.getfield 30, 3) := by decide +kernel
theorem dX5_placeFlange_251 : decode cX5_placeFlange 251 = .ok (.iconst 0, 1) := by decide +kernel
theorem dX5_placeFlange_252 : decode cX5_placeFlange 252 = .ok (.aload_n 0, 1) := by decide +kernel
theorem dX5_placeFlange_253 : decode cX5_placeFlange 253 = .ok (.getfield 21, 3) := by decide +kernel
theorem dX5_placeFlange_256 : decode cX5_placeFlange 256 = .ok (.iconst 3, 1) := by decide +kernel
theorem dX5_placeFlange_257 : decode cX5_placeFlange 257 = .ok (.iload_n 2, 1) := by decide +kernel
theorem dX5_placeFlange_258 : decode cX5_placeFlange 258 = .ok (.imul, 1) := by decide +kernel
theorem dX5_placeFlange_259 : decode cX5_placeFlange 259 = .ok (.iconst 3, 1) := by decide +kernel
theorem dX5_placeFlange_260 : decode cX5_placeFlange 260 = .ok (.invokestatic 106, 3) := by decide +kernel
theorem dX5_placeFlange_263 : decode cX5_placeFlange 263 = .ok (.return_, 1) := by decide +kernel
theorem dX5_placeFlange_229 : decode cX5_placeFlange 229 = .ok (.ifCond .eq 18, 3) := by decide +kernel
theorem dX5_placeFlange_232 : decode cX5_placeFlange 232 = .ok (.aload_n 0, 1) := by decide +kernel
theorem dX5_placeFlange_233 : decode cX5_placeFlange 233 = .ok (.getfield 30, 3) := by decide +kernel
theorem dX5_placeFlange_236 : decode cX5_placeFlange 236 = .ok (.iload 8, 2) := by decide +kernel
theorem dX5_placeFlange_238 : decode cX5_placeFlange 238 = .ok (.aload_n 1, 1) := by decide +kernel
theorem dX5_placeFlange_239 : decode cX5_placeFlange 239 = .ok (.getfield 92, 3) := by decide +kernel
theorem dX5_placeFlange_242 : decode cX5_placeFlange 242 = .ok (.iload_n 2, 1) := by decide +kernel
theorem dX5_placeFlange_243 : decode cX5_placeFlange 243 = .ok (.iaload, 1) := by decide +kernel
theorem dX5_placeFlange_244 : decode cX5_placeFlange 244 = .ok (.invokestatic 98, 3) := by decide +kernel
theorem dX5_placeFlange_211 : decode cX5_placeFlange 211 = .ok (.ifCond .eq 8, 3) := by decide +kernel
theorem dX5_placeFlange_219 : decode cX5_placeFlange 219 = .ok (.aload_n 0, 1) := by decide +kernel
theorem dX5_placeFlange_220 : decode cX5_placeFlange 220 = .ok (.getfield 27, 3) := by decide +kernel
theorem dX5_placeFlange_223 : decode cX5_placeFlange 223 = .ok (.iload 5, 2) := by decide +kernel
theorem dX5_placeFlange_225 : decode cX5_placeFlange 225 = .ok (.iaload, 1) := by decide +kernel
theorem dX5_placeFlange_214 : decode cX5_placeFlange 214 = .ok (.iload 10, 2) := by decide +kernel
theorem dX5_placeFlange_216 : decode cX5_placeFlange 216 = .ok (.goto 10, 3) := by decide +kernel
theorem dX5_placeFlange_185 : decode cX5_placeFlange 185 = .ok (.ifCond .eq 13, 3) := by decide +kernel
theorem dX5_placeFlange_198 : decode cX5_placeFlange 198 = .ok (.iload 10, 2) := by decide +kernel
theorem dX5_placeFlange_188 : decode cX5_placeFlange 188 = .ok (.aload_n 0, 1) := by decide +kernel
theorem dX5_placeFlange_189 : decode cX5_placeFlange 189 = .ok (.getfield 24, 3) := by decide +kernel
theorem dX5_placeFlange_192 : decode cX5_placeFlange 192 = .ok (.iload 5, 2) := by decide +kernel
theorem dX5_placeFlange_194 : decode cX5_placeFlange 194 = .ok (.iaload, 1) := by decide +kernel
theorem dX5_placeFlange_195 : decode cX5_placeFlange 195 = .ok (.goto 5, 3) := by decide +kernel
theorem dX5_placeFlange_160 : decode cX5_placeFlange 160 = .ok (.ifCond .eq 11, 3) := by decide +kernel
theorem dX5_placeFlange_171 : decode cX5_placeFlange 171 = .ok (.iload 8, 2) := by decide +kernel
theorem dX5_placeFlange_163 : decode cX5_placeFlange 163 = .ok (.iload 8, 2) := by decide +kernel
theorem dX5_placeFlange_165 : decode cX5_placeFlange 165 = .ok (.invokestatic 95, 3) := by decide +kernel
theorem dX5_placeFlange_168 : decode cX5_placeFlange 168 = .ok (.goto 5, 3) := by decide +kernel
theorem dX5_placeFlange_151 : decode cX5_placeFlange 151 = .ok (.iconst 1, 1) := by decide +kernel
theorem dX5_placeFlange_152 : decode cX5_placeFlange 152 = .ok (.goto 4, 3) := by decide +kernel
theorem dX5_placeFlange_142 : decode cX5_placeFlange 142 = .ok (.if_icmp .eq 9, 3) := by decide +kernel
theorem dX5_placeFlange_145 : decode cX5_placeFlange 145 = .ok (.iload 6, 2) := by decide +kernel
theorem dX5_placeFlange_147 : decode cX5_placeFlange 147 = .ok (.iconst 3, 1) := by decide +kernel
theorem dX5_placeFlange_148 : decode cX5_placeFlange 148 = .ok (.if_icmp .ne 7, 3) := by decide +kernel
theorem dX5_placeFlange_155 : decode cX5_placeFlange 155 = .ok (.iconst 0, 1) := by decide +kernel
theorem dX5_placeFlange_44 : decode cX5_placeFlange 44 = .ok (.ifCond .eq 54, 3) := by decide +kernel
theorem dX5_placeFlange_98 : decode cX5_placeFlange 98 = .ok (.aload_n 0, 1) := by decide +kernel
theorem dX5_placeFlange_99 : decode cX5_placeFlange 99 = .ok (.getfield 30, 3) := by decide +kernel
theorem dX5_placeFlange_102 : decode cX5_placeFlange 102 = .ok (.iload 7, 2) := by decide +kernel
theorem dX5_placeFlange_104 : decode cX5_placeFlange 104 = .ok (.aload_n 1, 1) := by decide +kernel
theorem dX5_placeFlange_105 : decode cX5_placeFlange 105 = .ok (.iload_n 2, 1) := by decide +kernel
theorem dX5_placeFlange_106 : decode cX5_placeFlange 106 = .ok (.invokevirtual 78, 3) := by decide +kernel
theorem dX5_placeFlange_109 : decode cX5_placeFlange 109 = .ok (.invokestatic 98, 3) := by decide +kernel
theorem dX5_placeFlange_47 : decode cX5_placeFlange 47 = .ok (.iload 4, 2) := by decide +kernel
theorem dX5_placeFlange_72 : decode cX5_placeFlange 72 = .ok (.istore 8, 2) := by decide +kernel
theorem dX5_placeFlange_74 : decode cX5_placeFlange 74 = .ok (.aload_n 0, 1) := by decide +kernel
theorem dX5_placeFlange_75 : decode cX5_placeFlange 75 = .ok (.getfield 18, 3) := by decide +kernel
theorem dX5_placeFlange_78 : decode cX5_placeFlange 78 = .ok (.iload_n 2, 1) := by decide +kernel
theorem dX5_placeFlange_79 : decode cX5_placeFlange 79 = .ok (.iload 4, 2) := by decide +kernel
theorem dX5_placeFlange_94 : decode cX5_placeFlange 94 = .ok (.iastore, 1) := by decide +kernel
theorem dX5_placeFlange_95 : decode cX5_placeFlange 95 = .ok (.goto 17, 3) := by decide +kernel
theorem dX5_placeFlange_81 : decode cX5_placeFlange 81 = .ok (.ifCond .eq 11, 3) := by decide +kernel
theorem dX5_placeFlange_92 : decode cX5_placeFlange 92 = .ok (.iload 7, 2) := by decide +kernel
theorem dX5_placeFlange_84 : decode cX5_placeFlange 84 = .ok (.iload 7, 2) := by decide +kernel
theorem dX5_placeFlange_86 : decode cX5_placeFlange 86 = .ok (.invokestatic 95, 3) := by decide +kernel
theorem dX5_placeFlange_89 : decode cX5_placeFlange 89 = .ok (.goto 5, 3) := by decide +kernel
theorem dX5_placeFlange_49 : decode cX5_placeFlange 49 = .ok (.ifCond .eq 13, 3) := by decide +kernel
theorem dX5_placeFlange_62 : decode cX5_placeFlange 62 = .ok (.aload_n 0, 1) := by decide +kernel
theorem dX5_placeFlange_63 : decode cX5_placeFlange 63 = .ok (.getfield 18, 3) := by decide +kernel
theorem dX5_placeFlange_66 : decode cX5_placeFlange 66 = .ok (.iload 5, 2) := by decide +kernel
theorem dX5_placeFlange_68 : decode cX5_placeFlange 68 = .ok (.iaload, 1) := by decide +kernel
theorem dX5_placeFlange_69 : decode cX5_placeFlange 69 = .ok (.invokestatic 95, 3) := by decide +kernel
theorem dX5_placeFlange_52 : decode cX5_placeFlange 52 = .ok (.aload_n 0, 1) := by decide +kernel
theorem dX5_placeFlange_53 : decode cX5_placeFlange 53 = .ok (.getfield 18, 3) := by decide +kernel
theorem dX5_placeFlange_56 : decode cX5_placeFlange 56 = .ok (.iload 5, 2) := by decide +kernel
theorem dX5_placeFlange_58 : decode cX5_placeFlange 58 = .ok (.iaload, 1) := by decide +kernel
theorem dX5_placeFlange_59 : decode cX5_placeFlange 59 = .ok (.goto 13, 3) := by decide +kernel
abbrev rm_kX5_placeFlange : Room := { frames := 2, cells := 0, slots := 0, locals := 48 }
set_option maxHeartbeats 4000000 in
set_option maxRecDepth 100000 in
theorem kX5_placeFlange (l : Launch) (g : zL) (h0 : Nat) (y1 : Nat) (x2 : Int32) (x3 : Int32) (x4 : Int32) (y1_count : Int32) (y1_statements : Int32) (y1_thick : Int32) (y1_punch : Int32) (y1_ups : Int32) (y1_toolCount : Int32) (y1_toolWidth : Nat) (y1_told : Nat) (y1_name : Nat) (y1_parent : Nat) (y1_side : Nat) (y1_from : Nat) (y1_width : Nat) (y1_height : Nat) (y1_radius : Nat) (y1_toolSet : Nat) (f_y1_parent : Nat → Int32) (f_y1_radius : Nat → Int32) (f_y1_side : Nat → Int32) (h0_low : Nat) (h0_high : Nat) (h0_normal : Nat) (h0_corner : Nat) (h0_east : Nat) (h0_north : Nat) (h0_start : Nat) (h0_far : Nat) (f_h0_east : Nat → Int32) (f_h0_north : Nat → Int32) (f_h0_normal : Nat → Int32) (f_y1_told : Nat → Int32) (f_h0_start : Nat → Int32) (f_y1_width : Nat → Int32) (f_y1_height : Nat → Int32) (f_h0_far : Nat → Int32) (f_h0_low : Nat → Int32) (f_h0_high : Nat → Int32) (f_h0_corner : Nat → Int32) (hy0 : 1 ≤ x2.toInt ∧ x2.toInt ≤ 8) (hy1 : 0 ≤ x3.toInt ∧ x3.toInt ≤ 1) (hy2 : 0 ≤ x4.toInt ∧ x4.toInt ≤ 1) (hy3 : 0 ≤ y1_count.toInt ∧ y1_count.toInt ≤ 9) (hy4 : 0 ≤ y1_toolCount.toInt ∧ y1_toolCount.toInt ≤ 8) (hy5 : aI 0 8 f_y1_parent) (hy6 : True) (hy7 : aI 0 3 f_y1_side) (hy8 : aI 0 5 f_h0_east) (hy9 : aI 0 5 f_h0_north) (hy10 : aI 0 5 f_h0_normal) (hy11 : pOK y1_count f_y1_parent f_y1_radius) (hy12 : x2.toInt < y1_count.toInt) : zCv l g yX5_placeFlange cX5_placeFlange 11 none rm_kX5_placeFlange [.ref h0, .ref y1, .int x2, .int x3, .int x4] [(y1, .inr (4, [.int y1_count, .int y1_statements, .int y1_thick, .int y1_punch, .int y1_ups, .int y1_toolCount, .ref y1_toolWidth, .ref y1_told, .ref y1_name, .ref y1_parent, .ref y1_side, .ref y1_from, .ref y1_width, .ref y1_height, .ref y1_radius, .ref y1_toolSet])), (y1_parent, .inl (g.2.1.1, 9, .inl f_y1_parent)), (y1_radius, .inl (g.2.1.1, 9, .inl f_y1_radius)), (y1_side, .inl (g.2.1.1, 9, .inl f_y1_side)), (h0, .inr (5, [.ref h0_low, .ref h0_high, .ref h0_normal, .ref h0_corner, .ref h0_east, .ref h0_north, .ref h0_start, .ref h0_far])), (h0_east, .inl (g.2.1.1, 9, .inl f_h0_east)), (h0_north, .inl (g.2.1.1, 9, .inl f_h0_north)), (h0_normal, .inl (g.2.1.1, 18, .inl f_h0_normal)), (y1_told, .inl (g.2.1.1, 10, .inl f_y1_told)), (h0_start, .inl (g.2.1.1, 3, .inl f_h0_start)), (y1_width, .inl (g.2.1.1, 9, .inl f_y1_width)), (y1_height, .inl (g.2.1.1, 9, .inl f_y1_height)), (h0_far, .inl (g.2.1.1, 3, .inl f_h0_far)), (h0_low, .inl (g.2.1.1, 54, .inl f_h0_low)), (h0_high, .inl (g.2.1.1, 54, .inl f_h0_high)), (h0_corner, .inl (g.2.1.1, 27, .inl f_h0_corner))] (fun (u : (Nat → Int32) × (Nat → Int32) × (Nat → Int32) × (Nat → Int32) × (Nat → Int32) × (Nat → Int32) × (Nat → Int32) × (Nat → Int32)) => (aI 0 5 u.1) ∧ (aI 0 5 u.2.1) ∧ (aI 0 5 u.2.2.1)) (fun (u : (Nat → Int32) × (Nat → Int32) × (Nat → Int32) × (Nat → Int32) × (Nat → Int32) × (Nat → Int32) × (Nat → Int32) × (Nat → Int32)) => [(y1, .inr (4, [.int y1_count, .int y1_statements, .int y1_thick, .int y1_punch, .int y1_ups, .int y1_toolCount, .ref y1_toolWidth, .ref y1_told, .ref y1_name, .ref y1_parent, .ref y1_side, .ref y1_from, .ref y1_width, .ref y1_height, .ref y1_radius, .ref y1_toolSet])), (y1_parent, .inl (g.2.1.1, 9, .inl f_y1_parent)), (y1_radius, .inl (g.2.1.1, 9, .inl f_y1_radius)), (y1_side, .inl (g.2.1.1, 9, .inl f_y1_side)), (h0, .inr (5, [.ref h0_low, .ref h0_high, .ref h0_normal, .ref h0_corner, .ref h0_east, .ref h0_north, .ref h0_start, .ref h0_far])), (h0_east, .inl (g.2.1.1, 9, .inl u.1)), (h0_north, .inl (g.2.1.1, 9, .inl u.2.1)), (h0_normal, .inl (g.2.1.1, 18, .inl u.2.2.1)), (y1_told, .inl (g.2.1.1, 10, .inl f_y1_told)), (h0_start, .inl (g.2.1.1, 3, .inl u.2.2.2.1)), (y1_width, .inl (g.2.1.1, 9, .inl f_y1_width)), (y1_height, .inl (g.2.1.1, 9, .inl f_y1_height)), (h0_far, .inl (g.2.1.1, 3, .inl u.2.2.2.2.1)), (h0_low, .inl (g.2.1.1, 54, .inl u.2.2.2.2.2.1)), (h0_high, .inl (g.2.1.1, 54, .inl u.2.2.2.2.2.2.1)), (h0_corner, .inl (g.2.1.1, 27, .inl u.2.2.2.2.2.2.2))]) := by
  refine zCv.mk2 (by decide) (Nat.le_of_ble_eq_true rfl) ?_
  intro p e s m below meth c A args Q hE hret hP hD hS ls hl
  obtain ⟨hx, hb, hr, hml, hown, hG, hlocks, hnm, hX, hA⟩ := hE
  have hown : s.vm.findClass RX5 = some m.cls := hown
  have hl : lv_has ls 11 [(0, .ref h0), (1, .ref y1), (2, .int x2), (3, .int x3), (4, .int x4)] := hl
  refine lv_aload_n hx hb dX5_placeFlange_0 rfl (lv_at hl 1 rfl) ?_
  refine va_getN (D := g.1) (ci := 4) (v := .ref y1_parent) (C := RX4) (T := TX4) (N := 16) hx hb hG iX4 hown hX.1 hP 0 rfl rfl 9 (by decide) (hX.2.1.fl wfn_X5_62) (fun _ h9 => h9) rfl dX5_placeFlange_1 ?_
  refine lv_iload_n hx hb dX5_placeFlange_4 rfl (lv_at hl 2 rfl) ?_
  refine va_iald hx hb hX.1 hP 1 0 rfl rfl (zin (rfl : x2.toInt = _) (ox_154 hy0 hy12 hy3)) dX5_placeFlange_5 ?_
  refine lv_topi (fun z1 e2 => ?_)
  have i3 : 0 ≤ z1.toInt ∧ z1.toInt ≤ 8 := hy5.at e2
  have f4 : z1.toInt < x2.toInt := by rw [e2]; exact (hy11.at (rfl : x2.toInt = _) (rfl : y1_count.toInt = _) (ox_155 hy0 hy12 hy3)).2.1
  refine lv_istore (lv' := [(5, .int z1), (0, .ref h0), (1, .ref y1), (2, .int x2), (3, .int x3), (4, .int x4)]) hx hb dX5_placeFlange_6 hl (by decide) rfl (fun ls hl => ?_)
  refine lv_aload_n hx hb dX5_placeFlange_8 rfl (lv_at hl 2 rfl) ?_
  refine va_getN (D := g.1) (ci := 4) (v := .ref y1_side) (C := RX4) (T := TX4) (N := 16) hx hb hG iX4 hown hX.1 hP 0 rfl rfl 10 (by decide) (hX.2.1.fl wfn_X5_65) (fun _ h9 => h9) rfl dX5_placeFlange_9 ?_
  refine lv_iload_n hx hb dX5_placeFlange_12 rfl (lv_at hl 3 rfl) ?_
  refine va_iald hx hb hX.1 hP 3 0 rfl rfl (zin (rfl : x2.toInt = _) (ox_156 f4 hy0 hy12 hy3 i3)) dX5_placeFlange_13 ?_
  refine lv_topi (fun z5 e6 => ?_)
  have i7 : 0 ≤ z5.toInt ∧ z5.toInt ≤ 3 := hy7.at e6
  refine lv_istore (lv' := [(6, .int z5), (5, .int z1), (0, .ref h0), (1, .ref y1), (2, .int x2), (3, .int x3), (4, .int x4)]) hx hb dX5_placeFlange_14 hl (by decide) rfl (fun ls hl => ?_)
  refine lv_aload_n hx hb dX5_placeFlange_16 rfl (lv_at hl 2 rfl) ?_
  refine lv_iload hx hb dX5_placeFlange_17 (lv_at hl 1 rfl) ?_
  refine lv_iload hx hb dX5_placeFlange_19 (lv_at hl 0 rfl) ?_
  refine zfi (wr := [(y1, .inr (4, [.int y1_count, .int y1_statements, .int y1_thick, .int y1_punch, .int y1_ups, .int y1_toolCount, .ref y1_toolWidth, .ref y1_told, .ref y1_name, .ref y1_parent, .ref y1_side, .ref y1_from, .ref y1_width, .ref y1_height, .ref y1_radius, .ref y1_toolSet])), (y1_parent, .inl (g.2.1.1, 9, .inl f_y1_parent)), (y1_radius, .inl (g.2.1.1, 9, .inl f_y1_radius)), (y1_side, .inl (g.2.1.1, 9, .inl f_y1_side)), (h0_normal, .inl (g.2.1.1, 18, .inl f_h0_normal)), (y1_told, .inl (g.2.1.1, 10, .inl f_y1_told)), (h0_start, .inl (g.2.1.1, 3, .inl f_h0_start)), (y1_width, .inl (g.2.1.1, 9, .inl f_y1_width)), (y1_height, .inl (g.2.1.1, 9, .inl f_y1_height)), (h0_far, .inl (g.2.1.1, 3, .inl f_h0_far)), (h0_low, .inl (g.2.1.1, 54, .inl f_h0_low)), (h0_high, .inl (g.2.1.1, 54, .inl f_h0_high)), (h0_corner, .inl (g.2.1.1, 27, .inl f_h0_corner))]) (va_runV (As := [.int z1, .int z5]) (rest := []) ⟨hx, hb, hml, hown, hG⟩ (kX5_outward l g h0 z1 z5 h0_low h0_high h0_normal h0_corner h0_east h0_north h0_start h0_far f_h0_east f_h0_north (ox_157 f4 hy0 hy12 hy3 i3) hy8 hy9 _) ⟨callB_of 2 hG (zGood wc_X5_outward) rfl rfl rfl (hG _ wini_X5) (hG _ wm_X5_75) hX5_outward ⟨Nat.le_of_ble_eq_true rfl, Nat.le_of_ble_eq_true rfl⟩, hG _ wi_X5_outward, hG _ wse_X5_X5_outward⟩ (zpreV (va_recv hX.1 hP (ci := 5) (q0 := 4) rfl rfl) hX hP hD hS hA [4, 5, 6] rfl (by decide)) rfl rfl hl.1 rfl (lv_room (Nat.le_of_ble_eq_true rfl)) dX5_placeFlange_21 ⟨Nat.le_of_ble_eq_true rfl, Nat.le_of_ble_eq_true rfl⟩) hP hD hS hA [4, 5, 6] [0, 1, 2, 3, 7, 8, 9, 10, 11, 12, 13, 14, 15] rfl rfl (by decide) (by decide) (fun r8 _ H locs hp hP hD hS => ?_)
  refine W.cs (cells' := 0) (slots' := 0) rfl rfl ?_
  have hq9 : 0 ≤ r8.toInt ∧ r8.toInt ≤ 5 := hp
  have hP : va_P g.1 vwCl [(y1, .inr (4, [.int y1_count, .int y1_statements, .int y1_thick, .int y1_punch, .int y1_ups, .int y1_toolCount, .ref y1_toolWidth, .ref y1_told, .ref y1_name, .ref y1_parent, .ref y1_side, .ref y1_from, .ref y1_width, .ref y1_height, .ref y1_radius, .ref y1_toolSet])), (y1_parent, .inl (g.2.1.1, 9, .inl f_y1_parent)), (y1_radius, .inl (g.2.1.1, 9, .inl f_y1_radius)), (y1_side, .inl (g.2.1.1, 9, .inl f_y1_side)), (h0_normal, .inl (g.2.1.1, 18, .inl f_h0_normal)), (y1_told, .inl (g.2.1.1, 10, .inl f_y1_told)), (h0_start, .inl (g.2.1.1, 3, .inl f_h0_start)), (y1_width, .inl (g.2.1.1, 9, .inl f_y1_width)), (y1_height, .inl (g.2.1.1, 9, .inl f_y1_height)), (h0_far, .inl (g.2.1.1, 3, .inl f_h0_far)), (h0_low, .inl (g.2.1.1, 54, .inl f_h0_low)), (h0_high, .inl (g.2.1.1, 54, .inl f_h0_high)), (h0_corner, .inl (g.2.1.1, 27, .inl f_h0_corner)), (h0, .inr (5, [.ref h0_low, .ref h0_high, .ref h0_normal, .ref h0_corner, .ref h0_east, .ref h0_north, .ref h0_start, .ref h0_far])), (h0_east, .inl (g.2.1.1, 9, .inl f_h0_east)), (h0_north, .inl (g.2.1.1, 9, .inl f_h0_north))] H := hP
  have hD : va_D A [(y1, .inr (4, [.int y1_count, .int y1_statements, .int y1_thick, .int y1_punch, .int y1_ups, .int y1_toolCount, .ref y1_toolWidth, .ref y1_told, .ref y1_name, .ref y1_parent, .ref y1_side, .ref y1_from, .ref y1_width, .ref y1_height, .ref y1_radius, .ref y1_toolSet])), (y1_parent, .inl (g.2.1.1, 9, .inl f_y1_parent)), (y1_radius, .inl (g.2.1.1, 9, .inl f_y1_radius)), (y1_side, .inl (g.2.1.1, 9, .inl f_y1_side)), (h0_normal, .inl (g.2.1.1, 18, .inl f_h0_normal)), (y1_told, .inl (g.2.1.1, 10, .inl f_y1_told)), (h0_start, .inl (g.2.1.1, 3, .inl f_h0_start)), (y1_width, .inl (g.2.1.1, 9, .inl f_y1_width)), (y1_height, .inl (g.2.1.1, 9, .inl f_y1_height)), (h0_far, .inl (g.2.1.1, 3, .inl f_h0_far)), (h0_low, .inl (g.2.1.1, 54, .inl f_h0_low)), (h0_high, .inl (g.2.1.1, 54, .inl f_h0_high)), (h0_corner, .inl (g.2.1.1, 27, .inl f_h0_corner)), (h0, .inr (5, [.ref h0_low, .ref h0_high, .ref h0_normal, .ref h0_corner, .ref h0_east, .ref h0_north, .ref h0_start, .ref h0_far])), (h0_east, .inl (g.2.1.1, 9, .inl f_h0_east)), (h0_north, .inl (g.2.1.1, 9, .inl f_h0_north))] := hD
  refine lv_istore (lv' := [(7, .int r8), (6, .int z5), (5, .int z1), (0, .ref h0), (1, .ref y1), (2, .int x2), (3, .int x3), (4, .int x4)]) hx hb dX5_placeFlange_24 hl (by decide) rfl (fun ls hl => ?_)
  refine lv_iload hx hb dX5_placeFlange_26 (lv_at hl 0 rfl) ?_
  refine lv_istore (lv' := [(8, .int r8), (7, .int r8), (6, .int z5), (5, .int z1), (0, .ref h0), (1, .ref y1), (2, .int x2), (3, .int x3), (4, .int x4)]) hx hb dX5_placeFlange_28 hl (by decide) rfl (fun ls hl => ?_)
  refine lv_aload_n hx hb dX5_placeFlange_30 rfl (lv_at hl 4 rfl) ?_
  refine va_get (D := g.1) (ci := 5) (v := .ref h0_normal) (C := RX5) (T := TX5) (N := 8) hx hb hG iX5 hown hX.1 hP 13 rfl rfl 2 (by decide) (hG _ wf_X5_18) (fun _ h9 => h9) rfl dX5_placeFlange_31 ?_
  refine lv_iload_n hx hb dX5_placeFlange_34 rfl (lv_at hl 6 rfl) ?_
  refine lv_aload_n hx hb dX5_placeFlange_35 rfl (lv_at hl 4 rfl) ?_
  refine va_get (D := g.1) (ci := 5) (v := .ref h0_normal) (C := RX5) (T := TX5) (N := 8) hx hb hG iX5 hown hX.1 hP 13 rfl rfl 2 (by decide) (hG _ wf_X5_18) (fun _ h9 => h9) rfl dX5_placeFlange_36 ?_
  refine lv_iload hx hb dX5_placeFlange_39 (lv_at hl 3 rfl) ?_
  refine va_iald hx hb hX.1 hP 4 0 rfl rfl (zin (rfl : z1.toInt = _) (ox_158 f4 hy0 hy12 hy3 i3)) dX5_placeFlange_41 ?_
  refine lv_topi (fun z10 e11 => ?_)
  have i12 : 0 ≤ z10.toInt ∧ z10.toInt ≤ 5 := hy10.at e11
  refine va_iast hx hb hX.1 hP hD hS 4 0 rfl rfl (zin (rfl : x2.toInt = _) (ox_159 f4 hy0 hy12 hy3 i3)) dX5_placeFlange_42 (fun H locs hP hD hS => ?_)
  obtain ⟨f13, e14⟩ : ∃ z9 : Nat → Int32, z9 = upd f_h0_normal x2.toNatClampNeg z10 := ⟨_, rfl⟩
  rw [← e14] at hP hD
  have hf15 : aI 0 5 f13 := hy10.up e14 (rfl : z10.toInt = _) (ox_48 i12)
  have hP : va_P g.1 vwCl [(y1, .inr (4, [.int y1_count, .int y1_statements, .int y1_thick, .int y1_punch, .int y1_ups, .int y1_toolCount, .ref y1_toolWidth, .ref y1_told, .ref y1_name, .ref y1_parent, .ref y1_side, .ref y1_from, .ref y1_width, .ref y1_height, .ref y1_radius, .ref y1_toolSet])), (y1_parent, .inl (g.2.1.1, 9, .inl f_y1_parent)), (y1_radius, .inl (g.2.1.1, 9, .inl f_y1_radius)), (y1_side, .inl (g.2.1.1, 9, .inl f_y1_side)), (h0_normal, .inl (g.2.1.1, 18, .inl f13)), (y1_told, .inl (g.2.1.1, 10, .inl f_y1_told)), (h0_start, .inl (g.2.1.1, 3, .inl f_h0_start)), (y1_width, .inl (g.2.1.1, 9, .inl f_y1_width)), (y1_height, .inl (g.2.1.1, 9, .inl f_y1_height)), (h0_far, .inl (g.2.1.1, 3, .inl f_h0_far)), (h0_low, .inl (g.2.1.1, 54, .inl f_h0_low)), (h0_high, .inl (g.2.1.1, 54, .inl f_h0_high)), (h0_corner, .inl (g.2.1.1, 27, .inl f_h0_corner)), (h0, .inr (5, [.ref h0_low, .ref h0_high, .ref h0_normal, .ref h0_corner, .ref h0_east, .ref h0_north, .ref h0_start, .ref h0_far])), (h0_east, .inl (g.2.1.1, 9, .inl f_h0_east)), (h0_north, .inl (g.2.1.1, 9, .inl f_h0_north))] H := hP
  have hD : va_D A [(y1, .inr (4, [.int y1_count, .int y1_statements, .int y1_thick, .int y1_punch, .int y1_ups, .int y1_toolCount, .ref y1_toolWidth, .ref y1_told, .ref y1_name, .ref y1_parent, .ref y1_side, .ref y1_from, .ref y1_width, .ref y1_height, .ref y1_radius, .ref y1_toolSet])), (y1_parent, .inl (g.2.1.1, 9, .inl f_y1_parent)), (y1_radius, .inl (g.2.1.1, 9, .inl f_y1_radius)), (y1_side, .inl (g.2.1.1, 9, .inl f_y1_side)), (h0_normal, .inl (g.2.1.1, 18, .inl f13)), (y1_told, .inl (g.2.1.1, 10, .inl f_y1_told)), (h0_start, .inl (g.2.1.1, 3, .inl f_h0_start)), (y1_width, .inl (g.2.1.1, 9, .inl f_y1_width)), (y1_height, .inl (g.2.1.1, 9, .inl f_y1_height)), (h0_far, .inl (g.2.1.1, 3, .inl f_h0_far)), (h0_low, .inl (g.2.1.1, 54, .inl f_h0_low)), (h0_high, .inl (g.2.1.1, 54, .inl f_h0_high)), (h0_corner, .inl (g.2.1.1, 27, .inl f_h0_corner)), (h0, .inr (5, [.ref h0_low, .ref h0_high, .ref h0_normal, .ref h0_corner, .ref h0_east, .ref h0_north, .ref h0_start, .ref h0_far])), (h0_east, .inl (g.2.1.1, 9, .inl f_h0_east)), (h0_north, .inl (g.2.1.1, 9, .inl f_h0_north))] := hD
  refine lv_iload_n hx hb dX5_placeFlange_43 rfl (lv_at hl 7 rfl) ?_
  have J55 : ∀  (v52 : Int32) (fn53 : Nat → Int32) (fn54 : Nat → Int32) (H : Heap) (locs : List Loc) (ls : Array Slot), 0 ≤ v52.toInt ∧ v52.toInt ≤ 5 → aI 0 5 fn53 → va_P g.1 vwCl [(y1_side, .inl (g.2.1.1, 9, .inl f_y1_side)), (h0_normal, .inl (g.2.1.1, 18, .inl fn53)), (y1_width, .inl (g.2.1.1, 9, .inl f_y1_width)), (y1_height, .inl (g.2.1.1, 9, .inl f_y1_height)), (h0_far, .inl (g.2.1.1, 3, .inl f_h0_far)), (h0_low, .inl (g.2.1.1, 54, .inl f_h0_low)), (h0_high, .inl (g.2.1.1, 54, .inl f_h0_high)), (h0_corner, .inl (g.2.1.1, 27, .inl f_h0_corner)), (h0, .inr (5, [.ref h0_low, .ref h0_high, .ref h0_normal, .ref h0_corner, .ref h0_east, .ref h0_north, .ref h0_start, .ref h0_far])), (h0_east, .inl (g.2.1.1, 9, .inl f_h0_east)), (h0_north, .inl (g.2.1.1, 9, .inl f_h0_north)), (y1, .inr (4, [.int y1_count, .int y1_statements, .int y1_thick, .int y1_punch, .int y1_ups, .int y1_toolCount, .ref y1_toolWidth, .ref y1_told, .ref y1_name, .ref y1_parent, .ref y1_side, .ref y1_from, .ref y1_width, .ref y1_height, .ref y1_radius, .ref y1_toolSet])), (y1_parent, .inl (g.2.1.1, 9, .inl f_y1_parent)), (y1_radius, .inl (g.2.1.1, 9, .inl f_y1_radius)), (y1_told, .inl (g.2.1.1, 10, .inl f_y1_told)), (h0_start, .inl (g.2.1.1, 3, .inl fn54))] H → va_D A [(y1_side, .inl (g.2.1.1, 9, .inl f_y1_side)), (h0_normal, .inl (g.2.1.1, 18, .inl fn53)), (y1_width, .inl (g.2.1.1, 9, .inl f_y1_width)), (y1_height, .inl (g.2.1.1, 9, .inl f_y1_height)), (h0_far, .inl (g.2.1.1, 3, .inl f_h0_far)), (h0_low, .inl (g.2.1.1, 54, .inl f_h0_low)), (h0_high, .inl (g.2.1.1, 54, .inl f_h0_high)), (h0_corner, .inl (g.2.1.1, 27, .inl f_h0_corner)), (h0, .inr (5, [.ref h0_low, .ref h0_high, .ref h0_normal, .ref h0_corner, .ref h0_east, .ref h0_north, .ref h0_start, .ref h0_far])), (h0_east, .inl (g.2.1.1, 9, .inl f_h0_east)), (h0_north, .inl (g.2.1.1, 9, .inl f_h0_north)), (y1, .inr (4, [.int y1_count, .int y1_statements, .int y1_thick, .int y1_punch, .int y1_ups, .int y1_toolCount, .ref y1_toolWidth, .ref y1_told, .ref y1_name, .ref y1_parent, .ref y1_side, .ref y1_from, .ref y1_width, .ref y1_height, .ref y1_radius, .ref y1_toolSet])), (y1_parent, .inl (g.2.1.1, 9, .inl f_y1_parent)), (y1_radius, .inl (g.2.1.1, 9, .inl f_y1_radius)), (y1_told, .inl (g.2.1.1, 10, .inl f_y1_told)), (h0_start, .inl (g.2.1.1, 3, .inl fn54))] → va_S A s.heap H locs → lv_has ls 11 [(0, .ref h0), (1, .ref y1), (2, .int x2), (3, .int x3), (4, .int x4), (5, .int z1), (6, .int z5), (7, .int r8), (8, .int v52)] → W p l e rm_kX5_placeFlange s m args below meth c H locs 0 0 Q (F0 m 112 ls []) := by
    intro v52 fn53 fn54 H locs ls i56 hf57 hP hD hS hl
    refine lv_aload_n hx hb dX5_placeFlange_112 rfl (lv_at hl 0 rfl) ?_
    refine lv_iload_n hx hb dX5_placeFlange_113 rfl (lv_at hl 2 rfl) ?_
    refine lv_aload_n hx hb dX5_placeFlange_114 rfl (lv_at hl 0 rfl) ?_
    refine lv_iload hx hb dX5_placeFlange_115 (lv_at hl 5 rfl) ?_
    refine lv_iload hx hb dX5_placeFlange_117 (lv_at hl 6 rfl) ?_
    refine zfi (wr := [(y1_side, .inl (g.2.1.1, 9, .inl f_y1_side)), (h0_normal, .inl (g.2.1.1, 18, .inl fn53)), (y1_width, .inl (g.2.1.1, 9, .inl f_y1_width)), (y1_height, .inl (g.2.1.1, 9, .inl f_y1_height)), (h0_far, .inl (g.2.1.1, 3, .inl f_h0_far)), (h0_low, .inl (g.2.1.1, 54, .inl f_h0_low)), (h0_high, .inl (g.2.1.1, 54, .inl f_h0_high)), (h0_corner, .inl (g.2.1.1, 27, .inl f_h0_corner)), (y1, .inr (4, [.int y1_count, .int y1_statements, .int y1_thick, .int y1_punch, .int y1_ups, .int y1_toolCount, .ref y1_toolWidth, .ref y1_told, .ref y1_name, .ref y1_parent, .ref y1_side, .ref y1_from, .ref y1_width, .ref y1_height, .ref y1_radius, .ref y1_toolSet])), (y1_parent, .inl (g.2.1.1, 9, .inl f_y1_parent)), (y1_radius, .inl (g.2.1.1, 9, .inl f_y1_radius)), (y1_told, .inl (g.2.1.1, 10, .inl f_y1_told)), (h0_start, .inl (g.2.1.1, 3, .inl fn54))]) (va_runV (As := [.int z1, .int z5]) (rest := [.int x2, .ref h0]) ⟨hx, hb, hml, hown, hG⟩ (kX5_alongSide l g h0 z1 z5 h0_low h0_high h0_normal h0_corner h0_east h0_north h0_start h0_far f_h0_north f_h0_east (ox_157 f4 hy0 hy12 hy3 i3) hy9 hy8 _) ⟨callB_of 2 hG (zGood wc_X5_alongSide) rfl rfl rfl (hG _ wini_X5) (hG _ wm_X5_68) hX5_alongSide ⟨Nat.le_of_ble_eq_true rfl, Nat.le_of_ble_eq_true rfl⟩, hG _ wi_X5_alongSide, hG _ wse_X5_X5_alongSide⟩ (zpreV (va_recv hX.1 hP (ci := 5) (q0 := 8) rfl rfl) hX hP hD hS hA [8, 10, 9] rfl (by decide)) rfl rfl hl.1 rfl (lv_room (Nat.le_of_ble_eq_true rfl)) dX5_placeFlange_119 ⟨Nat.le_of_ble_eq_true rfl, Nat.le_of_ble_eq_true rfl⟩) hP hD hS hA [8, 10, 9] [0, 1, 2, 3, 4, 5, 6, 7, 11, 12, 13, 14, 15] rfl rfl (by decide) (by decide) (fun r58 _ H locs hp hP hD hS => ?_)
    refine W.cs (cells' := 0) (slots' := 0) rfl rfl ?_
    have hq59 : 0 ≤ r58.toInt ∧ r58.toInt ≤ 5 := hp
    have hP : va_P g.1 vwCl [(y1_side, .inl (g.2.1.1, 9, .inl f_y1_side)), (h0_normal, .inl (g.2.1.1, 18, .inl fn53)), (y1_width, .inl (g.2.1.1, 9, .inl f_y1_width)), (y1_height, .inl (g.2.1.1, 9, .inl f_y1_height)), (h0_far, .inl (g.2.1.1, 3, .inl f_h0_far)), (h0_low, .inl (g.2.1.1, 54, .inl f_h0_low)), (h0_high, .inl (g.2.1.1, 54, .inl f_h0_high)), (h0_corner, .inl (g.2.1.1, 27, .inl f_h0_corner)), (y1, .inr (4, [.int y1_count, .int y1_statements, .int y1_thick, .int y1_punch, .int y1_ups, .int y1_toolCount, .ref y1_toolWidth, .ref y1_told, .ref y1_name, .ref y1_parent, .ref y1_side, .ref y1_from, .ref y1_width, .ref y1_height, .ref y1_radius, .ref y1_toolSet])), (y1_parent, .inl (g.2.1.1, 9, .inl f_y1_parent)), (y1_radius, .inl (g.2.1.1, 9, .inl f_y1_radius)), (y1_told, .inl (g.2.1.1, 10, .inl f_y1_told)), (h0_start, .inl (g.2.1.1, 3, .inl fn54)), (h0, .inr (5, [.ref h0_low, .ref h0_high, .ref h0_normal, .ref h0_corner, .ref h0_east, .ref h0_north, .ref h0_start, .ref h0_far])), (h0_north, .inl (g.2.1.1, 9, .inl f_h0_north)), (h0_east, .inl (g.2.1.1, 9, .inl f_h0_east))] H := hP
    have hD : va_D A [(y1_side, .inl (g.2.1.1, 9, .inl f_y1_side)), (h0_normal, .inl (g.2.1.1, 18, .inl fn53)), (y1_width, .inl (g.2.1.1, 9, .inl f_y1_width)), (y1_height, .inl (g.2.1.1, 9, .inl f_y1_height)), (h0_far, .inl (g.2.1.1, 3, .inl f_h0_far)), (h0_low, .inl (g.2.1.1, 54, .inl f_h0_low)), (h0_high, .inl (g.2.1.1, 54, .inl f_h0_high)), (h0_corner, .inl (g.2.1.1, 27, .inl f_h0_corner)), (y1, .inr (4, [.int y1_count, .int y1_statements, .int y1_thick, .int y1_punch, .int y1_ups, .int y1_toolCount, .ref y1_toolWidth, .ref y1_told, .ref y1_name, .ref y1_parent, .ref y1_side, .ref y1_from, .ref y1_width, .ref y1_height, .ref y1_radius, .ref y1_toolSet])), (y1_parent, .inl (g.2.1.1, 9, .inl f_y1_parent)), (y1_radius, .inl (g.2.1.1, 9, .inl f_y1_radius)), (y1_told, .inl (g.2.1.1, 10, .inl f_y1_told)), (h0_start, .inl (g.2.1.1, 3, .inl fn54)), (h0, .inr (5, [.ref h0_low, .ref h0_high, .ref h0_normal, .ref h0_corner, .ref h0_east, .ref h0_north, .ref h0_start, .ref h0_far])), (h0_north, .inl (g.2.1.1, 9, .inl f_h0_north)), (h0_east, .inl (g.2.1.1, 9, .inl f_h0_east))] := hD
    refine lv_aload_n hx hb dX5_placeFlange_122 rfl (lv_at hl 1 rfl) ?_
    refine va_getN (D := g.1) (ci := 4) (v := .ref y1_width) (C := RX4) (T := TX4) (N := 16) hx hb hG iX4 hown hX.1 hP 8 rfl rfl 12 (by decide) (hX.2.1.fl wfn_X5_72) (fun _ h9 => h9) rfl dX5_placeFlange_123 ?_
    refine lv_iload_n hx hb dX5_placeFlange_126 rfl (lv_at hl 2 rfl) ?_
    refine va_iald hx hb hX.1 hP 2 0 rfl rfl (zin (rfl : x2.toInt = _) (ox_156 f4 hy0 hy12 hy3 i3)) dX5_placeFlange_127 ?_
    refine lv_topi (fun z60 e61 => ?_)
    refine lv_iload hx hb dX5_placeFlange_128 (lv_at hl 8 rfl) ?_
    refine lv_aload_n hx hb dX5_placeFlange_130 rfl (lv_at hl 1 rfl) ?_
    refine va_getN (D := g.1) (ci := 4) (v := .ref y1_height) (C := RX4) (T := TX4) (N := 16) hx hb hG iX4 hown hX.1 hP 8 rfl rfl 13 (by decide) (hX.2.1.fl wfn_X5_92) (fun _ h9 => h9) rfl dX5_placeFlange_131 ?_
    refine lv_iload_n hx hb dX5_placeFlange_134 rfl (lv_at hl 2 rfl) ?_
    refine va_iald hx hb hX.1 hP 3 0 rfl rfl (zin (rfl : x2.toInt = _) (ox_156 f4 hy0 hy12 hy3 i3)) dX5_placeFlange_135 ?_
    refine lv_topi (fun z62 e63 => ?_)
    refine zfv (wr := [(y1_side, .inl (g.2.1.1, 9, .inl f_y1_side)), (h0_normal, .inl (g.2.1.1, 18, .inl fn53)), (y1_width, .inl (g.2.1.1, 9, .inl f_y1_width)), (y1_height, .inl (g.2.1.1, 9, .inl f_y1_height)), (h0_corner, .inl (g.2.1.1, 27, .inl f_h0_corner)), (y1, .inr (4, [.int y1_count, .int y1_statements, .int y1_thick, .int y1_punch, .int y1_ups, .int y1_toolCount, .ref y1_toolWidth, .ref y1_told, .ref y1_name, .ref y1_parent, .ref y1_side, .ref y1_from, .ref y1_width, .ref y1_height, .ref y1_radius, .ref y1_toolSet])), (y1_parent, .inl (g.2.1.1, 9, .inl f_y1_parent)), (y1_radius, .inl (g.2.1.1, 9, .inl f_y1_radius)), (y1_told, .inl (g.2.1.1, 10, .inl f_y1_told)), (h0_north, .inl (g.2.1.1, 9, .inl f_h0_north)), (h0_east, .inl (g.2.1.1, 9, .inl f_h0_east))]) (va_runV (As := [.int x2, .int r58, .int z60, .int v52, .int z62]) (rest := []) ⟨hx, hb, hml, hown, hG⟩ (kX5_setBox l g h0 x2 r58 z60 v52 z62 h0_low h0_high h0_normal h0_corner h0_east h0_north h0_start h0_far fn54 f_h0_far f_h0_low f_h0_high (ox_160 f4 hy0 hy12 hy3 i3) (ox_48 hq59) (ox_48 i56) _) ⟨callB_of 5 hG (zGood wc_X5_setBox) rfl rfl rfl (hG _ wini_X5) (hG _ wm_X5_82) hX5_setBox ⟨Nat.le_of_ble_eq_true rfl, Nat.le_of_ble_eq_true rfl⟩, hG _ wi_X5_setBox, hG _ wse_X5_X5_setBox⟩ (zpreV (va_recv hX.1 hP (ci := 5) (q0 := 13) rfl rfl) hX hP hD hS hA [13, 12, 4, 5, 6] rfl (by decide)) rfl rfl hl.1 rfl (lv_room (Nat.le_of_ble_eq_true rfl)) dX5_placeFlange_136 ⟨Nat.le_of_ble_eq_true rfl, Nat.le_of_ble_eq_true rfl⟩) hP hD hS hA [13, 12, 4, 5, 6] [0, 1, 2, 3, 7, 8, 9, 10, 11, 14, 15] rfl rfl (by decide) (by decide) (fun u65 H locs hp hP hD hS => ?_)
    refine W.cs (cells' := 0) (slots' := 0) rfl rfl ?_
    obtain ⟨f66, f67, f68⟩ := u65
    have hP : va_P g.1 vwCl [(y1_side, .inl (g.2.1.1, 9, .inl f_y1_side)), (h0_normal, .inl (g.2.1.1, 18, .inl fn53)), (y1_width, .inl (g.2.1.1, 9, .inl f_y1_width)), (y1_height, .inl (g.2.1.1, 9, .inl f_y1_height)), (h0_corner, .inl (g.2.1.1, 27, .inl f_h0_corner)), (y1, .inr (4, [.int y1_count, .int y1_statements, .int y1_thick, .int y1_punch, .int y1_ups, .int y1_toolCount, .ref y1_toolWidth, .ref y1_told, .ref y1_name, .ref y1_parent, .ref y1_side, .ref y1_from, .ref y1_width, .ref y1_height, .ref y1_radius, .ref y1_toolSet])), (y1_parent, .inl (g.2.1.1, 9, .inl f_y1_parent)), (y1_radius, .inl (g.2.1.1, 9, .inl f_y1_radius)), (y1_told, .inl (g.2.1.1, 10, .inl f_y1_told)), (h0_north, .inl (g.2.1.1, 9, .inl f_h0_north)), (h0_east, .inl (g.2.1.1, 9, .inl f_h0_east)), (h0, .inr (5, [.ref h0_low, .ref h0_high, .ref h0_normal, .ref h0_corner, .ref h0_east, .ref h0_north, .ref h0_start, .ref h0_far])), (h0_start, .inl (g.2.1.1, 3, .inl fn54)), (h0_far, .inl (g.2.1.1, 3, .inl f66)), (h0_low, .inl (g.2.1.1, 54, .inl f67)), (h0_high, .inl (g.2.1.1, 54, .inl f68))] H := hP
    have hD : va_D A [(y1_side, .inl (g.2.1.1, 9, .inl f_y1_side)), (h0_normal, .inl (g.2.1.1, 18, .inl fn53)), (y1_width, .inl (g.2.1.1, 9, .inl f_y1_width)), (y1_height, .inl (g.2.1.1, 9, .inl f_y1_height)), (h0_corner, .inl (g.2.1.1, 27, .inl f_h0_corner)), (y1, .inr (4, [.int y1_count, .int y1_statements, .int y1_thick, .int y1_punch, .int y1_ups, .int y1_toolCount, .ref y1_toolWidth, .ref y1_told, .ref y1_name, .ref y1_parent, .ref y1_side, .ref y1_from, .ref y1_width, .ref y1_height, .ref y1_radius, .ref y1_toolSet])), (y1_parent, .inl (g.2.1.1, 9, .inl f_y1_parent)), (y1_radius, .inl (g.2.1.1, 9, .inl f_y1_radius)), (y1_told, .inl (g.2.1.1, 10, .inl f_y1_told)), (h0_north, .inl (g.2.1.1, 9, .inl f_h0_north)), (h0_east, .inl (g.2.1.1, 9, .inl f_h0_east)), (h0, .inr (5, [.ref h0_low, .ref h0_high, .ref h0_normal, .ref h0_corner, .ref h0_east, .ref h0_north, .ref h0_start, .ref h0_far])), (h0_start, .inl (g.2.1.1, 3, .inl fn54)), (h0_far, .inl (g.2.1.1, 3, .inl f66)), (h0_low, .inl (g.2.1.1, 54, .inl f67)), (h0_high, .inl (g.2.1.1, 54, .inl f68))] := hD
    refine lv_iload hx hb dX5_placeFlange_139 (lv_at hl 6 rfl) ?_
    refine lv_iconst (v := 2) hx hb dX5_placeFlange_141 (by decide) ?_
    have J72 : ∀  (v71 : Int32) (H : Heap) (locs : List Loc) (ls : Array Slot), 0 ≤ v71.toInt ∧ v71.toInt ≤ 1 → va_P g.1 vwCl [(y1_side, .inl (g.2.1.1, 9, .inl f_y1_side)), (h0_normal, .inl (g.2.1.1, 18, .inl fn53)), (y1_width, .inl (g.2.1.1, 9, .inl f_y1_width)), (y1_height, .inl (g.2.1.1, 9, .inl f_y1_height)), (h0_corner, .inl (g.2.1.1, 27, .inl f_h0_corner)), (y1, .inr (4, [.int y1_count, .int y1_statements, .int y1_thick, .int y1_punch, .int y1_ups, .int y1_toolCount, .ref y1_toolWidth, .ref y1_told, .ref y1_name, .ref y1_parent, .ref y1_side, .ref y1_from, .ref y1_width, .ref y1_height, .ref y1_radius, .ref y1_toolSet])), (y1_parent, .inl (g.2.1.1, 9, .inl f_y1_parent)), (y1_radius, .inl (g.2.1.1, 9, .inl f_y1_radius)), (y1_told, .inl (g.2.1.1, 10, .inl f_y1_told)), (h0_north, .inl (g.2.1.1, 9, .inl f_h0_north)), (h0_east, .inl (g.2.1.1, 9, .inl f_h0_east)), (h0, .inr (5, [.ref h0_low, .ref h0_high, .ref h0_normal, .ref h0_corner, .ref h0_east, .ref h0_north, .ref h0_start, .ref h0_far])), (h0_start, .inl (g.2.1.1, 3, .inl fn54)), (h0_far, .inl (g.2.1.1, 3, .inl f66)), (h0_low, .inl (g.2.1.1, 54, .inl f67)), (h0_high, .inl (g.2.1.1, 54, .inl f68))] H → va_D A [(y1_side, .inl (g.2.1.1, 9, .inl f_y1_side)), (h0_normal, .inl (g.2.1.1, 18, .inl fn53)), (y1_width, .inl (g.2.1.1, 9, .inl f_y1_width)), (y1_height, .inl (g.2.1.1, 9, .inl f_y1_height)), (h0_corner, .inl (g.2.1.1, 27, .inl f_h0_corner)), (y1, .inr (4, [.int y1_count, .int y1_statements, .int y1_thick, .int y1_punch, .int y1_ups, .int y1_toolCount, .ref y1_toolWidth, .ref y1_told, .ref y1_name, .ref y1_parent, .ref y1_side, .ref y1_from, .ref y1_width, .ref y1_height, .ref y1_radius, .ref y1_toolSet])), (y1_parent, .inl (g.2.1.1, 9, .inl f_y1_parent)), (y1_radius, .inl (g.2.1.1, 9, .inl f_y1_radius)), (y1_told, .inl (g.2.1.1, 10, .inl f_y1_told)), (h0_north, .inl (g.2.1.1, 9, .inl f_h0_north)), (h0_east, .inl (g.2.1.1, 9, .inl f_h0_east)), (h0, .inr (5, [.ref h0_low, .ref h0_high, .ref h0_normal, .ref h0_corner, .ref h0_east, .ref h0_north, .ref h0_start, .ref h0_far])), (h0_start, .inl (g.2.1.1, 3, .inl fn54)), (h0_far, .inl (g.2.1.1, 3, .inl f66)), (h0_low, .inl (g.2.1.1, 54, .inl f67)), (h0_high, .inl (g.2.1.1, 54, .inl f68))] → va_S A s.heap H locs → lv_has ls 11 [(0, .ref h0), (1, .ref y1), (2, .int x2), (3, .int x3), (4, .int x4), (5, .int z1), (6, .int z5), (7, .int r8), (8, .int v52)] → W p l e rm_kX5_placeFlange s m args below meth c H locs 0 0 Q (F0 m 156 ls [.int v71]) := by
      intro v71 H locs ls i73 hP hD hS hl
      refine lv_istore (lv' := [(9, .int v71), (0, .ref h0), (1, .ref y1), (2, .int x2), (3, .int x3), (4, .int x4), (5, .int z1), (6, .int z5), (7, .int r8), (8, .int v52)]) hx hb dX5_placeFlange_156 hl (by decide) rfl (fun ls hl => ?_)
      refine lv_iload hx hb dX5_placeFlange_158 (lv_at hl 0 rfl) ?_
      have J78 : ∀  (v77 : Int32) (H : Heap) (locs : List Loc) (ls : Array Slot), 0 ≤ v77.toInt ∧ v77.toInt ≤ 5 → va_P g.1 vwCl [(y1_side, .inl (g.2.1.1, 9, .inl f_y1_side)), (h0_normal, .inl (g.2.1.1, 18, .inl fn53)), (y1_width, .inl (g.2.1.1, 9, .inl f_y1_width)), (y1_height, .inl (g.2.1.1, 9, .inl f_y1_height)), (h0_corner, .inl (g.2.1.1, 27, .inl f_h0_corner)), (y1, .inr (4, [.int y1_count, .int y1_statements, .int y1_thick, .int y1_punch, .int y1_ups, .int y1_toolCount, .ref y1_toolWidth, .ref y1_told, .ref y1_name, .ref y1_parent, .ref y1_side, .ref y1_from, .ref y1_width, .ref y1_height, .ref y1_radius, .ref y1_toolSet])), (y1_parent, .inl (g.2.1.1, 9, .inl f_y1_parent)), (y1_radius, .inl (g.2.1.1, 9, .inl f_y1_radius)), (y1_told, .inl (g.2.1.1, 10, .inl f_y1_told)), (h0_north, .inl (g.2.1.1, 9, .inl f_h0_north)), (h0_east, .inl (g.2.1.1, 9, .inl f_h0_east)), (h0, .inr (5, [.ref h0_low, .ref h0_high, .ref h0_normal, .ref h0_corner, .ref h0_east, .ref h0_north, .ref h0_start, .ref h0_far])), (h0_start, .inl (g.2.1.1, 3, .inl fn54)), (h0_far, .inl (g.2.1.1, 3, .inl f66)), (h0_low, .inl (g.2.1.1, 54, .inl f67)), (h0_high, .inl (g.2.1.1, 54, .inl f68))] H → va_D A [(y1_side, .inl (g.2.1.1, 9, .inl f_y1_side)), (h0_normal, .inl (g.2.1.1, 18, .inl fn53)), (y1_width, .inl (g.2.1.1, 9, .inl f_y1_width)), (y1_height, .inl (g.2.1.1, 9, .inl f_y1_height)), (h0_corner, .inl (g.2.1.1, 27, .inl f_h0_corner)), (y1, .inr (4, [.int y1_count, .int y1_statements, .int y1_thick, .int y1_punch, .int y1_ups, .int y1_toolCount, .ref y1_toolWidth, .ref y1_told, .ref y1_name, .ref y1_parent, .ref y1_side, .ref y1_from, .ref y1_width, .ref y1_height, .ref y1_radius, .ref y1_toolSet])), (y1_parent, .inl (g.2.1.1, 9, .inl f_y1_parent)), (y1_radius, .inl (g.2.1.1, 9, .inl f_y1_radius)), (y1_told, .inl (g.2.1.1, 10, .inl f_y1_told)), (h0_north, .inl (g.2.1.1, 9, .inl f_h0_north)), (h0_east, .inl (g.2.1.1, 9, .inl f_h0_east)), (h0, .inr (5, [.ref h0_low, .ref h0_high, .ref h0_normal, .ref h0_corner, .ref h0_east, .ref h0_north, .ref h0_start, .ref h0_far])), (h0_start, .inl (g.2.1.1, 3, .inl fn54)), (h0_far, .inl (g.2.1.1, 3, .inl f66)), (h0_low, .inl (g.2.1.1, 54, .inl f67)), (h0_high, .inl (g.2.1.1, 54, .inl f68))] → va_S A s.heap H locs → lv_has ls 11 [(0, .ref h0), (1, .ref y1), (2, .int x2), (3, .int x3), (4, .int x4), (5, .int z1), (6, .int z5), (7, .int r8), (8, .int v52), (9, .int v71)] → W p l e rm_kX5_placeFlange s m args below meth c H locs 0 0 Q (F0 m 173 ls [.int v77]) := by
        intro v77 H locs ls i79 hP hD hS hl
        refine lv_istore (lv' := [(10, .int v77), (0, .ref h0), (1, .ref y1), (2, .int x2), (3, .int x3), (4, .int x4), (5, .int z1), (6, .int z5), (7, .int r8), (8, .int v52), (9, .int v71)]) hx hb dX5_placeFlange_173 hl (by decide) rfl (fun ls hl => ?_)
        refine lv_aload_n hx hb dX5_placeFlange_175 rfl (lv_at hl 1 rfl) ?_
        refine va_get (D := g.1) (ci := 5) (v := .ref h0_east) (C := RX5) (T := TX5) (N := 8) hx hb hG iX5 hown hX.1 hP 11 rfl rfl 4 (by decide) (hG _ wf_X5_24) (fun _ h9 => h9) rfl dX5_placeFlange_176 ?_
        refine lv_iload_n hx hb dX5_placeFlange_179 rfl (lv_at hl 3 rfl) ?_
        refine lv_iload hx hb dX5_placeFlange_180 (lv_at hl 7 rfl) ?_
        refine zfi (wr := [(y1_side, .inl (g.2.1.1, 9, .inl f_y1_side)), (h0_normal, .inl (g.2.1.1, 18, .inl fn53)), (y1_width, .inl (g.2.1.1, 9, .inl f_y1_width)), (y1_height, .inl (g.2.1.1, 9, .inl f_y1_height)), (h0_corner, .inl (g.2.1.1, 27, .inl f_h0_corner)), (y1, .inr (4, [.int y1_count, .int y1_statements, .int y1_thick, .int y1_punch, .int y1_ups, .int y1_toolCount, .ref y1_toolWidth, .ref y1_told, .ref y1_name, .ref y1_parent, .ref y1_side, .ref y1_from, .ref y1_width, .ref y1_height, .ref y1_radius, .ref y1_toolSet])), (y1_parent, .inl (g.2.1.1, 9, .inl f_y1_parent)), (y1_radius, .inl (g.2.1.1, 9, .inl f_y1_radius)), (y1_told, .inl (g.2.1.1, 10, .inl f_y1_told)), (h0_north, .inl (g.2.1.1, 9, .inl f_h0_north)), (h0_east, .inl (g.2.1.1, 9, .inl f_h0_east)), (h0, .inr (5, [.ref h0_low, .ref h0_high, .ref h0_normal, .ref h0_corner, .ref h0_east, .ref h0_north, .ref h0_start, .ref h0_far])), (h0_start, .inl (g.2.1.1, 3, .inl fn54)), (h0_far, .inl (g.2.1.1, 3, .inl f66)), (h0_low, .inl (g.2.1.1, 54, .inl f67)), (h0_high, .inl (g.2.1.1, 54, .inl f68))]) (va_runSN (As := [.int z5]) (rest := [.int x2, .ref h0_east]) ⟨hx, hb, hml, hown, hG⟩ (kX4_runsAlongX l g z5 _) ⟨va_cnB 1 hG (zGood wc_X4_runsAlongX) rfl rfl rfl (hX.2.1.ml wmn_X5_102) (hG _ wini_X4) hX4_runsAlongX ⟨Nat.le_of_ble_eq_true rfl, Nat.le_of_ble_eq_true rfl⟩, hG _ ws_X4_runsAlongX, trivial⟩ (zpreS hX hP hD hS hA [] rfl (by decide)) rfl rfl hl.1 rfl (lv_room (Nat.le_of_ble_eq_true rfl)) dX5_placeFlange_182 ⟨Nat.le_of_ble_eq_true rfl, Nat.le_of_ble_eq_true rfl⟩) hP hD hS hA [] [0, 1, 2, 3, 4, 5, 6, 7, 8, 9, 10, 11, 12, 13, 14, 15] rfl rfl (by decide) (by decide) (fun r80 _ H locs hp hP hD hS => ?_)
        refine W.cs (cells' := 0) (slots' := 0) rfl rfl ?_
        have hq81 : 0 ≤ r80.toInt ∧ r80.toInt ≤ 1 := hp
        have hP : va_P g.1 vwCl [(y1_side, .inl (g.2.1.1, 9, .inl f_y1_side)), (h0_normal, .inl (g.2.1.1, 18, .inl fn53)), (y1_width, .inl (g.2.1.1, 9, .inl f_y1_width)), (y1_height, .inl (g.2.1.1, 9, .inl f_y1_height)), (h0_corner, .inl (g.2.1.1, 27, .inl f_h0_corner)), (y1, .inr (4, [.int y1_count, .int y1_statements, .int y1_thick, .int y1_punch, .int y1_ups, .int y1_toolCount, .ref y1_toolWidth, .ref y1_told, .ref y1_name, .ref y1_parent, .ref y1_side, .ref y1_from, .ref y1_width, .ref y1_height, .ref y1_radius, .ref y1_toolSet])), (y1_parent, .inl (g.2.1.1, 9, .inl f_y1_parent)), (y1_radius, .inl (g.2.1.1, 9, .inl f_y1_radius)), (y1_told, .inl (g.2.1.1, 10, .inl f_y1_told)), (h0_north, .inl (g.2.1.1, 9, .inl f_h0_north)), (h0_east, .inl (g.2.1.1, 9, .inl f_h0_east)), (h0, .inr (5, [.ref h0_low, .ref h0_high, .ref h0_normal, .ref h0_corner, .ref h0_east, .ref h0_north, .ref h0_start, .ref h0_far])), (h0_start, .inl (g.2.1.1, 3, .inl fn54)), (h0_far, .inl (g.2.1.1, 3, .inl f66)), (h0_low, .inl (g.2.1.1, 54, .inl f67)), (h0_high, .inl (g.2.1.1, 54, .inl f68))] H := hP
        have hD : va_D A [(y1_side, .inl (g.2.1.1, 9, .inl f_y1_side)), (h0_normal, .inl (g.2.1.1, 18, .inl fn53)), (y1_width, .inl (g.2.1.1, 9, .inl f_y1_width)), (y1_height, .inl (g.2.1.1, 9, .inl f_y1_height)), (h0_corner, .inl (g.2.1.1, 27, .inl f_h0_corner)), (y1, .inr (4, [.int y1_count, .int y1_statements, .int y1_thick, .int y1_punch, .int y1_ups, .int y1_toolCount, .ref y1_toolWidth, .ref y1_told, .ref y1_name, .ref y1_parent, .ref y1_side, .ref y1_from, .ref y1_width, .ref y1_height, .ref y1_radius, .ref y1_toolSet])), (y1_parent, .inl (g.2.1.1, 9, .inl f_y1_parent)), (y1_radius, .inl (g.2.1.1, 9, .inl f_y1_radius)), (y1_told, .inl (g.2.1.1, 10, .inl f_y1_told)), (h0_north, .inl (g.2.1.1, 9, .inl f_h0_north)), (h0_east, .inl (g.2.1.1, 9, .inl f_h0_east)), (h0, .inr (5, [.ref h0_low, .ref h0_high, .ref h0_normal, .ref h0_corner, .ref h0_east, .ref h0_north, .ref h0_start, .ref h0_far])), (h0_start, .inl (g.2.1.1, 3, .inl fn54)), (h0_far, .inl (g.2.1.1, 3, .inl f66)), (h0_low, .inl (g.2.1.1, 54, .inl f67)), (h0_high, .inl (g.2.1.1, 54, .inl f68))] := hD
        have J87 : ∀  (v86 : Int32) (H : Heap) (locs : List Loc) (ls : Array Slot), 0 ≤ v86.toInt ∧ v86.toInt ≤ 5 → va_P g.1 vwCl [(y1_side, .inl (g.2.1.1, 9, .inl f_y1_side)), (h0_normal, .inl (g.2.1.1, 18, .inl fn53)), (y1_width, .inl (g.2.1.1, 9, .inl f_y1_width)), (y1_height, .inl (g.2.1.1, 9, .inl f_y1_height)), (h0_corner, .inl (g.2.1.1, 27, .inl f_h0_corner)), (y1, .inr (4, [.int y1_count, .int y1_statements, .int y1_thick, .int y1_punch, .int y1_ups, .int y1_toolCount, .ref y1_toolWidth, .ref y1_told, .ref y1_name, .ref y1_parent, .ref y1_side, .ref y1_from, .ref y1_width, .ref y1_height, .ref y1_radius, .ref y1_toolSet])), (y1_parent, .inl (g.2.1.1, 9, .inl f_y1_parent)), (y1_radius, .inl (g.2.1.1, 9, .inl f_y1_radius)), (y1_told, .inl (g.2.1.1, 10, .inl f_y1_told)), (h0_north, .inl (g.2.1.1, 9, .inl f_h0_north)), (h0_east, .inl (g.2.1.1, 9, .inl f_h0_east)), (h0, .inr (5, [.ref h0_low, .ref h0_high, .ref h0_normal, .ref h0_corner, .ref h0_east, .ref h0_north, .ref h0_start, .ref h0_far])), (h0_start, .inl (g.2.1.1, 3, .inl fn54)), (h0_far, .inl (g.2.1.1, 3, .inl f66)), (h0_low, .inl (g.2.1.1, 54, .inl f67)), (h0_high, .inl (g.2.1.1, 54, .inl f68))] H → va_D A [(y1_side, .inl (g.2.1.1, 9, .inl f_y1_side)), (h0_normal, .inl (g.2.1.1, 18, .inl fn53)), (y1_width, .inl (g.2.1.1, 9, .inl f_y1_width)), (y1_height, .inl (g.2.1.1, 9, .inl f_y1_height)), (h0_corner, .inl (g.2.1.1, 27, .inl f_h0_corner)), (y1, .inr (4, [.int y1_count, .int y1_statements, .int y1_thick, .int y1_punch, .int y1_ups, .int y1_toolCount, .ref y1_toolWidth, .ref y1_told, .ref y1_name, .ref y1_parent, .ref y1_side, .ref y1_from, .ref y1_width, .ref y1_height, .ref y1_radius, .ref y1_toolSet])), (y1_parent, .inl (g.2.1.1, 9, .inl f_y1_parent)), (y1_radius, .inl (g.2.1.1, 9, .inl f_y1_radius)), (y1_told, .inl (g.2.1.1, 10, .inl f_y1_told)), (h0_north, .inl (g.2.1.1, 9, .inl f_h0_north)), (h0_east, .inl (g.2.1.1, 9, .inl f_h0_east)), (h0, .inr (5, [.ref h0_low, .ref h0_high, .ref h0_normal, .ref h0_corner, .ref h0_east, .ref h0_north, .ref h0_start, .ref h0_far])), (h0_start, .inl (g.2.1.1, 3, .inl fn54)), (h0_far, .inl (g.2.1.1, 3, .inl f66)), (h0_low, .inl (g.2.1.1, 54, .inl f67)), (h0_high, .inl (g.2.1.1, 54, .inl f68))] → va_S A s.heap H locs → lv_has ls 11 [(0, .ref h0), (1, .ref y1), (2, .int x2), (3, .int x3), (4, .int x4), (5, .int z1), (6, .int z5), (7, .int r8), (8, .int v52), (9, .int v71), (10, .int v77)] → W p l e rm_kX5_placeFlange s m args below meth c H locs 0 0 Q (F0 m 200 ls [.int v86, .int x2, .ref h0_east]) := by
          intro v86 H locs ls i88 hP hD hS hl
          refine va_iast hx hb hX.1 hP hD hS 10 0 rfl rfl (zin (rfl : x2.toInt = _) (ox_156 f4 hy0 hy12 hy3 i3)) dX5_placeFlange_200 (fun H locs hP hD hS => ?_)
          obtain ⟨f89, e90⟩ : ∃ z9 : Nat → Int32, z9 = upd f_h0_east x2.toNatClampNeg v86 := ⟨_, rfl⟩
          rw [← e90] at hP hD
          have hf91 : aI 0 5 f89 := hy8.up e90 (rfl : v86.toInt = _) (ox_48 i88)
          have hP : va_P g.1 vwCl [(y1_side, .inl (g.2.1.1, 9, .inl f_y1_side)), (h0_normal, .inl (g.2.1.1, 18, .inl fn53)), (y1_width, .inl (g.2.1.1, 9, .inl f_y1_width)), (y1_height, .inl (g.2.1.1, 9, .inl f_y1_height)), (h0_corner, .inl (g.2.1.1, 27, .inl f_h0_corner)), (y1, .inr (4, [.int y1_count, .int y1_statements, .int y1_thick, .int y1_punch, .int y1_ups, .int y1_toolCount, .ref y1_toolWidth, .ref y1_told, .ref y1_name, .ref y1_parent, .ref y1_side, .ref y1_from, .ref y1_width, .ref y1_height, .ref y1_radius, .ref y1_toolSet])), (y1_parent, .inl (g.2.1.1, 9, .inl f_y1_parent)), (y1_radius, .inl (g.2.1.1, 9, .inl f_y1_radius)), (y1_told, .inl (g.2.1.1, 10, .inl f_y1_told)), (h0_north, .inl (g.2.1.1, 9, .inl f_h0_north)), (h0_east, .inl (g.2.1.1, 9, .inl f89)), (h0, .inr (5, [.ref h0_low, .ref h0_high, .ref h0_normal, .ref h0_corner, .ref h0_east, .ref h0_north, .ref h0_start, .ref h0_far])), (h0_start, .inl (g.2.1.1, 3, .inl fn54)), (h0_far, .inl (g.2.1.1, 3, .inl f66)), (h0_low, .inl (g.2.1.1, 54, .inl f67)), (h0_high, .inl (g.2.1.1, 54, .inl f68))] H := hP
          have hD : va_D A [(y1_side, .inl (g.2.1.1, 9, .inl f_y1_side)), (h0_normal, .inl (g.2.1.1, 18, .inl fn53)), (y1_width, .inl (g.2.1.1, 9, .inl f_y1_width)), (y1_height, .inl (g.2.1.1, 9, .inl f_y1_height)), (h0_corner, .inl (g.2.1.1, 27, .inl f_h0_corner)), (y1, .inr (4, [.int y1_count, .int y1_statements, .int y1_thick, .int y1_punch, .int y1_ups, .int y1_toolCount, .ref y1_toolWidth, .ref y1_told, .ref y1_name, .ref y1_parent, .ref y1_side, .ref y1_from, .ref y1_width, .ref y1_height, .ref y1_radius, .ref y1_toolSet])), (y1_parent, .inl (g.2.1.1, 9, .inl f_y1_parent)), (y1_radius, .inl (g.2.1.1, 9, .inl f_y1_radius)), (y1_told, .inl (g.2.1.1, 10, .inl f_y1_told)), (h0_north, .inl (g.2.1.1, 9, .inl f_h0_north)), (h0_east, .inl (g.2.1.1, 9, .inl f89)), (h0, .inr (5, [.ref h0_low, .ref h0_high, .ref h0_normal, .ref h0_corner, .ref h0_east, .ref h0_north, .ref h0_start, .ref h0_far])), (h0_start, .inl (g.2.1.1, 3, .inl fn54)), (h0_far, .inl (g.2.1.1, 3, .inl f66)), (h0_low, .inl (g.2.1.1, 54, .inl f67)), (h0_high, .inl (g.2.1.1, 54, .inl f68))] := hD
          refine lv_aload_n hx hb dX5_placeFlange_201 rfl (lv_at hl 0 rfl) ?_
          refine va_get (D := g.1) (ci := 5) (v := .ref h0_north) (C := RX5) (T := TX5) (N := 8) hx hb hG iX5 hown hX.1 hP 11 rfl rfl 5 (by decide) (hG _ wf_X5_27) (fun _ h9 => h9) rfl dX5_placeFlange_202 ?_
          refine lv_iload_n hx hb dX5_placeFlange_205 rfl (lv_at hl 2 rfl) ?_
          refine lv_iload hx hb dX5_placeFlange_206 (lv_at hl 6 rfl) ?_
          refine zfi (wr := [(y1_side, .inl (g.2.1.1, 9, .inl f_y1_side)), (h0_normal, .inl (g.2.1.1, 18, .inl fn53)), (y1_width, .inl (g.2.1.1, 9, .inl f_y1_width)), (y1_height, .inl (g.2.1.1, 9, .inl f_y1_height)), (h0_corner, .inl (g.2.1.1, 27, .inl f_h0_corner)), (y1, .inr (4, [.int y1_count, .int y1_statements, .int y1_thick, .int y1_punch, .int y1_ups, .int y1_toolCount, .ref y1_toolWidth, .ref y1_told, .ref y1_name, .ref y1_parent, .ref y1_side, .ref y1_from, .ref y1_width, .ref y1_height, .ref y1_radius, .ref y1_toolSet])), (y1_parent, .inl (g.2.1.1, 9, .inl f_y1_parent)), (y1_radius, .inl (g.2.1.1, 9, .inl f_y1_radius)), (y1_told, .inl (g.2.1.1, 10, .inl f_y1_told)), (h0_north, .inl (g.2.1.1, 9, .inl f_h0_north)), (h0_east, .inl (g.2.1.1, 9, .inl f89)), (h0, .inr (5, [.ref h0_low, .ref h0_high, .ref h0_normal, .ref h0_corner, .ref h0_east, .ref h0_north, .ref h0_start, .ref h0_far])), (h0_start, .inl (g.2.1.1, 3, .inl fn54)), (h0_far, .inl (g.2.1.1, 3, .inl f66)), (h0_low, .inl (g.2.1.1, 54, .inl f67)), (h0_high, .inl (g.2.1.1, 54, .inl f68))]) (va_runSN (As := [.int z5]) (rest := [.int x2, .ref h0_north]) ⟨hx, hb, hml, hown, hG⟩ (kX4_runsAlongX l g z5 _) ⟨va_cnB 1 hG (zGood wc_X4_runsAlongX) rfl rfl rfl (hX.2.1.ml wmn_X5_102) (hG _ wini_X4) hX4_runsAlongX ⟨Nat.le_of_ble_eq_true rfl, Nat.le_of_ble_eq_true rfl⟩, hG _ ws_X4_runsAlongX, trivial⟩ (zpreS hX hP hD hS hA [] rfl (by decide)) rfl rfl hl.1 rfl (lv_room (Nat.le_of_ble_eq_true rfl)) dX5_placeFlange_208 ⟨Nat.le_of_ble_eq_true rfl, Nat.le_of_ble_eq_true rfl⟩) hP hD hS hA [] [0, 1, 2, 3, 4, 5, 6, 7, 8, 9, 10, 11, 12, 13, 14, 15] rfl rfl (by decide) (by decide) (fun r92 _ H locs hp hP hD hS => ?_)
          refine W.cs (cells' := 0) (slots' := 0) rfl rfl ?_
          have hq93 : 0 ≤ r92.toInt ∧ r92.toInt ≤ 1 := hp
          have hP : va_P g.1 vwCl [(y1_side, .inl (g.2.1.1, 9, .inl f_y1_side)), (h0_normal, .inl (g.2.1.1, 18, .inl fn53)), (y1_width, .inl (g.2.1.1, 9, .inl f_y1_width)), (y1_height, .inl (g.2.1.1, 9, .inl f_y1_height)), (h0_corner, .inl (g.2.1.1, 27, .inl f_h0_corner)), (y1, .inr (4, [.int y1_count, .int y1_statements, .int y1_thick, .int y1_punch, .int y1_ups, .int y1_toolCount, .ref y1_toolWidth, .ref y1_told, .ref y1_name, .ref y1_parent, .ref y1_side, .ref y1_from, .ref y1_width, .ref y1_height, .ref y1_radius, .ref y1_toolSet])), (y1_parent, .inl (g.2.1.1, 9, .inl f_y1_parent)), (y1_radius, .inl (g.2.1.1, 9, .inl f_y1_radius)), (y1_told, .inl (g.2.1.1, 10, .inl f_y1_told)), (h0_north, .inl (g.2.1.1, 9, .inl f_h0_north)), (h0_east, .inl (g.2.1.1, 9, .inl f89)), (h0, .inr (5, [.ref h0_low, .ref h0_high, .ref h0_normal, .ref h0_corner, .ref h0_east, .ref h0_north, .ref h0_start, .ref h0_far])), (h0_start, .inl (g.2.1.1, 3, .inl fn54)), (h0_far, .inl (g.2.1.1, 3, .inl f66)), (h0_low, .inl (g.2.1.1, 54, .inl f67)), (h0_high, .inl (g.2.1.1, 54, .inl f68))] H := hP
          have hD : va_D A [(y1_side, .inl (g.2.1.1, 9, .inl f_y1_side)), (h0_normal, .inl (g.2.1.1, 18, .inl fn53)), (y1_width, .inl (g.2.1.1, 9, .inl f_y1_width)), (y1_height, .inl (g.2.1.1, 9, .inl f_y1_height)), (h0_corner, .inl (g.2.1.1, 27, .inl f_h0_corner)), (y1, .inr (4, [.int y1_count, .int y1_statements, .int y1_thick, .int y1_punch, .int y1_ups, .int y1_toolCount, .ref y1_toolWidth, .ref y1_told, .ref y1_name, .ref y1_parent, .ref y1_side, .ref y1_from, .ref y1_width, .ref y1_height, .ref y1_radius, .ref y1_toolSet])), (y1_parent, .inl (g.2.1.1, 9, .inl f_y1_parent)), (y1_radius, .inl (g.2.1.1, 9, .inl f_y1_radius)), (y1_told, .inl (g.2.1.1, 10, .inl f_y1_told)), (h0_north, .inl (g.2.1.1, 9, .inl f_h0_north)), (h0_east, .inl (g.2.1.1, 9, .inl f89)), (h0, .inr (5, [.ref h0_low, .ref h0_high, .ref h0_normal, .ref h0_corner, .ref h0_east, .ref h0_north, .ref h0_start, .ref h0_far])), (h0_start, .inl (g.2.1.1, 3, .inl fn54)), (h0_far, .inl (g.2.1.1, 3, .inl f66)), (h0_low, .inl (g.2.1.1, 54, .inl f67)), (h0_high, .inl (g.2.1.1, 54, .inl f68))] := hD
          have J99 : ∀  (v98 : Int32) (H : Heap) (locs : List Loc) (ls : Array Slot), 0 ≤ v98.toInt ∧ v98.toInt ≤ 5 → va_P g.1 vwCl [(y1_side, .inl (g.2.1.1, 9, .inl f_y1_side)), (h0_normal, .inl (g.2.1.1, 18, .inl fn53)), (y1_width, .inl (g.2.1.1, 9, .inl f_y1_width)), (y1_height, .inl (g.2.1.1, 9, .inl f_y1_height)), (h0_corner, .inl (g.2.1.1, 27, .inl f_h0_corner)), (y1, .inr (4, [.int y1_count, .int y1_statements, .int y1_thick, .int y1_punch, .int y1_ups, .int y1_toolCount, .ref y1_toolWidth, .ref y1_told, .ref y1_name, .ref y1_parent, .ref y1_side, .ref y1_from, .ref y1_width, .ref y1_height, .ref y1_radius, .ref y1_toolSet])), (y1_parent, .inl (g.2.1.1, 9, .inl f_y1_parent)), (y1_radius, .inl (g.2.1.1, 9, .inl f_y1_radius)), (y1_told, .inl (g.2.1.1, 10, .inl f_y1_told)), (h0_north, .inl (g.2.1.1, 9, .inl f_h0_north)), (h0_east, .inl (g.2.1.1, 9, .inl f89)), (h0, .inr (5, [.ref h0_low, .ref h0_high, .ref h0_normal, .ref h0_corner, .ref h0_east, .ref h0_north, .ref h0_start, .ref h0_far])), (h0_start, .inl (g.2.1.1, 3, .inl fn54)), (h0_far, .inl (g.2.1.1, 3, .inl f66)), (h0_low, .inl (g.2.1.1, 54, .inl f67)), (h0_high, .inl (g.2.1.1, 54, .inl f68))] H → va_D A [(y1_side, .inl (g.2.1.1, 9, .inl f_y1_side)), (h0_normal, .inl (g.2.1.1, 18, .inl fn53)), (y1_width, .inl (g.2.1.1, 9, .inl f_y1_width)), (y1_height, .inl (g.2.1.1, 9, .inl f_y1_height)), (h0_corner, .inl (g.2.1.1, 27, .inl f_h0_corner)), (y1, .inr (4, [.int y1_count, .int y1_statements, .int y1_thick, .int y1_punch, .int y1_ups, .int y1_toolCount, .ref y1_toolWidth, .ref y1_told, .ref y1_name, .ref y1_parent, .ref y1_side, .ref y1_from, .ref y1_width, .ref y1_height, .ref y1_radius, .ref y1_toolSet])), (y1_parent, .inl (g.2.1.1, 9, .inl f_y1_parent)), (y1_radius, .inl (g.2.1.1, 9, .inl f_y1_radius)), (y1_told, .inl (g.2.1.1, 10, .inl f_y1_told)), (h0_north, .inl (g.2.1.1, 9, .inl f_h0_north)), (h0_east, .inl (g.2.1.1, 9, .inl f89)), (h0, .inr (5, [.ref h0_low, .ref h0_high, .ref h0_normal, .ref h0_corner, .ref h0_east, .ref h0_north, .ref h0_start, .ref h0_far])), (h0_start, .inl (g.2.1.1, 3, .inl fn54)), (h0_far, .inl (g.2.1.1, 3, .inl f66)), (h0_low, .inl (g.2.1.1, 54, .inl f67)), (h0_high, .inl (g.2.1.1, 54, .inl f68))] → va_S A s.heap H locs → lv_has ls 11 [(0, .ref h0), (1, .ref y1), (2, .int x2), (3, .int x3), (4, .int x4), (5, .int z1), (6, .int z5), (7, .int r8), (8, .int v52), (9, .int v71), (10, .int v77)] → W p l e rm_kX5_placeFlange s m args below meth c H locs 0 0 Q (F0 m 226 ls [.int v98, .int x2, .ref h0_north]) := by
            intro v98 H locs ls i100 hP hD hS hl
            refine va_iast hx hb hX.1 hP hD hS 9 0 rfl rfl (zin (rfl : x2.toInt = _) (ox_156 f4 hy0 hy12 hy3 i3)) dX5_placeFlange_226 (fun H locs hP hD hS => ?_)
            obtain ⟨f101, e102⟩ : ∃ z9 : Nat → Int32, z9 = upd f_h0_north x2.toNatClampNeg v98 := ⟨_, rfl⟩
            rw [← e102] at hP hD
            have hf103 : aI 0 5 f101 := hy9.up e102 (rfl : v98.toInt = _) (ox_48 i100)
            have hP : va_P g.1 vwCl [(y1_side, .inl (g.2.1.1, 9, .inl f_y1_side)), (h0_normal, .inl (g.2.1.1, 18, .inl fn53)), (y1_width, .inl (g.2.1.1, 9, .inl f_y1_width)), (y1_height, .inl (g.2.1.1, 9, .inl f_y1_height)), (h0_corner, .inl (g.2.1.1, 27, .inl f_h0_corner)), (y1, .inr (4, [.int y1_count, .int y1_statements, .int y1_thick, .int y1_punch, .int y1_ups, .int y1_toolCount, .ref y1_toolWidth, .ref y1_told, .ref y1_name, .ref y1_parent, .ref y1_side, .ref y1_from, .ref y1_width, .ref y1_height, .ref y1_radius, .ref y1_toolSet])), (y1_parent, .inl (g.2.1.1, 9, .inl f_y1_parent)), (y1_radius, .inl (g.2.1.1, 9, .inl f_y1_radius)), (y1_told, .inl (g.2.1.1, 10, .inl f_y1_told)), (h0_north, .inl (g.2.1.1, 9, .inl f101)), (h0_east, .inl (g.2.1.1, 9, .inl f89)), (h0, .inr (5, [.ref h0_low, .ref h0_high, .ref h0_normal, .ref h0_corner, .ref h0_east, .ref h0_north, .ref h0_start, .ref h0_far])), (h0_start, .inl (g.2.1.1, 3, .inl fn54)), (h0_far, .inl (g.2.1.1, 3, .inl f66)), (h0_low, .inl (g.2.1.1, 54, .inl f67)), (h0_high, .inl (g.2.1.1, 54, .inl f68))] H := hP
            have hD : va_D A [(y1_side, .inl (g.2.1.1, 9, .inl f_y1_side)), (h0_normal, .inl (g.2.1.1, 18, .inl fn53)), (y1_width, .inl (g.2.1.1, 9, .inl f_y1_width)), (y1_height, .inl (g.2.1.1, 9, .inl f_y1_height)), (h0_corner, .inl (g.2.1.1, 27, .inl f_h0_corner)), (y1, .inr (4, [.int y1_count, .int y1_statements, .int y1_thick, .int y1_punch, .int y1_ups, .int y1_toolCount, .ref y1_toolWidth, .ref y1_told, .ref y1_name, .ref y1_parent, .ref y1_side, .ref y1_from, .ref y1_width, .ref y1_height, .ref y1_radius, .ref y1_toolSet])), (y1_parent, .inl (g.2.1.1, 9, .inl f_y1_parent)), (y1_radius, .inl (g.2.1.1, 9, .inl f_y1_radius)), (y1_told, .inl (g.2.1.1, 10, .inl f_y1_told)), (h0_north, .inl (g.2.1.1, 9, .inl f101)), (h0_east, .inl (g.2.1.1, 9, .inl f89)), (h0, .inr (5, [.ref h0_low, .ref h0_high, .ref h0_normal, .ref h0_corner, .ref h0_east, .ref h0_north, .ref h0_start, .ref h0_far])), (h0_start, .inl (g.2.1.1, 3, .inl fn54)), (h0_far, .inl (g.2.1.1, 3, .inl f66)), (h0_low, .inl (g.2.1.1, 54, .inl f67)), (h0_high, .inl (g.2.1.1, 54, .inl f68))] := hD
            refine lv_iload hx hb dX5_placeFlange_227 (lv_at hl 9 rfl) ?_
            have J111 : ∀  (fn110 : Nat → Int32) (H : Heap) (locs : List Loc) (ls : Array Slot), va_P g.1 vwCl [(y1_side, .inl (g.2.1.1, 9, .inl f_y1_side)), (h0_normal, .inl (g.2.1.1, 18, .inl fn53)), (y1_width, .inl (g.2.1.1, 9, .inl f_y1_width)), (y1_height, .inl (g.2.1.1, 9, .inl f_y1_height)), (h0_corner, .inl (g.2.1.1, 27, .inl f_h0_corner)), (y1, .inr (4, [.int y1_count, .int y1_statements, .int y1_thick, .int y1_punch, .int y1_ups, .int y1_toolCount, .ref y1_toolWidth, .ref y1_told, .ref y1_name, .ref y1_parent, .ref y1_side, .ref y1_from, .ref y1_width, .ref y1_height, .ref y1_radius, .ref y1_toolSet])), (y1_parent, .inl (g.2.1.1, 9, .inl f_y1_parent)), (y1_radius, .inl (g.2.1.1, 9, .inl f_y1_radius)), (y1_told, .inl (g.2.1.1, 10, .inl f_y1_told)), (h0_north, .inl (g.2.1.1, 9, .inl f101)), (h0_east, .inl (g.2.1.1, 9, .inl f89)), (h0, .inr (5, [.ref h0_low, .ref h0_high, .ref h0_normal, .ref h0_corner, .ref h0_east, .ref h0_north, .ref h0_start, .ref h0_far])), (h0_start, .inl (g.2.1.1, 3, .inl fn110)), (h0_far, .inl (g.2.1.1, 3, .inl f66)), (h0_low, .inl (g.2.1.1, 54, .inl f67)), (h0_high, .inl (g.2.1.1, 54, .inl f68))] H → va_D A [(y1_side, .inl (g.2.1.1, 9, .inl f_y1_side)), (h0_normal, .inl (g.2.1.1, 18, .inl fn53)), (y1_width, .inl (g.2.1.1, 9, .inl f_y1_width)), (y1_height, .inl (g.2.1.1, 9, .inl f_y1_height)), (h0_corner, .inl (g.2.1.1, 27, .inl f_h0_corner)), (y1, .inr (4, [.int y1_count, .int y1_statements, .int y1_thick, .int y1_punch, .int y1_ups, .int y1_toolCount, .ref y1_toolWidth, .ref y1_told, .ref y1_name, .ref y1_parent, .ref y1_side, .ref y1_from, .ref y1_width, .ref y1_height, .ref y1_radius, .ref y1_toolSet])), (y1_parent, .inl (g.2.1.1, 9, .inl f_y1_parent)), (y1_radius, .inl (g.2.1.1, 9, .inl f_y1_radius)), (y1_told, .inl (g.2.1.1, 10, .inl f_y1_told)), (h0_north, .inl (g.2.1.1, 9, .inl f101)), (h0_east, .inl (g.2.1.1, 9, .inl f89)), (h0, .inr (5, [.ref h0_low, .ref h0_high, .ref h0_normal, .ref h0_corner, .ref h0_east, .ref h0_north, .ref h0_start, .ref h0_far])), (h0_start, .inl (g.2.1.1, 3, .inl fn110)), (h0_far, .inl (g.2.1.1, 3, .inl f66)), (h0_low, .inl (g.2.1.1, 54, .inl f67)), (h0_high, .inl (g.2.1.1, 54, .inl f68))] → va_S A s.heap H locs → lv_has ls 11 [(0, .ref h0), (1, .ref y1), (2, .int x2), (3, .int x3), (4, .int x4), (5, .int z1), (6, .int z5), (7, .int r8), (8, .int v52), (9, .int v71), (10, .int v77)] → W p l e rm_kX5_placeFlange s m args below meth c H locs 0 0 Q (F0 m 247 ls []) := by
              intro fn110 H locs ls  hP hD hS hl
              refine lv_aload_n hx hb dX5_placeFlange_247 rfl (lv_at hl 0 rfl) ?_
              refine va_get (D := g.1) (ci := 5) (v := .ref h0_start) (C := RX5) (T := TX5) (N := 8) hx hb hG iX5 hown hX.1 hP 11 rfl rfl 6 (by decide) (hG _ wf_X5_30) (fun _ h9 => h9) rfl dX5_placeFlange_248 ?_
              refine lv_iconst (v := 0) hx hb dX5_placeFlange_251 (by decide) ?_
              refine lv_aload_n hx hb dX5_placeFlange_252 rfl (lv_at hl 0 rfl) ?_
              refine va_get (D := g.1) (ci := 5) (v := .ref h0_corner) (C := RX5) (T := TX5) (N := 8) hx hb hG iX5 hown hX.1 hP 11 rfl rfl 3 (by decide) (hG _ wf_X5_21) (fun _ h9 => h9) rfl dX5_placeFlange_253 ?_
              refine lv_iconst (v := 3) hx hb dX5_placeFlange_256 (by decide) ?_
              refine lv_iload_n hx hb dX5_placeFlange_257 rfl (lv_at hl 2 rfl) ?_
              refine lv_imul hx hb dX5_placeFlange_258 ?_
              refine lv_topi (fun z112 e113 => ?_)
              have f114 : z112.toInt = (3 : Int) * x2.toInt := zm e113 (show (3 : Int32).toInt = (3 : Int) from by decide) (rfl : x2.toInt = _) (ox_161 (zr x2) (zr y1_count) (zr z1) f4 hy0 hy12 hy3 i3)
              refine lv_iconst (v := 3) hx hb dX5_placeFlange_259 (by decide) ?_
              refine va_copyi (ty := .int) hx hb (by rw [hml]; exact hl.1.symm) hown (hG _ wm_X5_106) (hG _ wn_java_lang_System_arraycopy__Ljava_lang_Object_ILjava_lang_Object_II_V) (hG _ ws_java_lang_System_arraycopy__Ljava_lang_Object_ILjava_lang_Object_II_V) (hG _ wini_J10) hX.1 hP hD hS 12 4 0 0 rfl rfl rfl rfl rfl (znl (show (0 : Int32).toInt = (0 : Int) from by decide) ((show (0 : Int) ≤ (0 : Int) from by decide))) (znl (rfl : z112.toInt = _) (ox_162 f114 f4 hy0 hy12 hy3 i3)) (znl (show (3 : Int32).toInt = (3 : Int) from by decide) ((show (0 : Int) ≤ (3 : Int) from by decide))) (zcp (show (0 : Int32).toInt = (0 : Int) from by decide) (show (3 : Int32).toInt = (3 : Int) from by decide) ((show (0 : Int) ≤ (0 : Int) ∧ (0 : Int) ≤ (3 : Int) ∧ ((0 : Int) : Int) + (3 : Int) ≤ 3 from by decide))) (zcp (rfl : z112.toInt = _) (show (3 : Int32).toInt = (3 : Int) from by decide) (ox_163 f114 f4 hy0 hy12 hy3 i3)) (fun _ _ => rfl) (Nat.le_of_ble_eq_true rfl) (Nat.le_of_ble_eq_true rfl) dX5_placeFlange_260 (fun H locs hP hD hS => ?_)
              obtain ⟨f115, e116⟩ : ∃ z9 : Nat → Int32, z9 = va_cpy fn110 f_h0_corner (0 : Int32).toNatClampNeg z112.toNatClampNeg (3 : Int32).toNatClampNeg := ⟨_, rfl⟩
              rw [← e116] at hP hD
              have hP : va_P g.1 vwCl [(y1_side, .inl (g.2.1.1, 9, .inl f_y1_side)), (h0_normal, .inl (g.2.1.1, 18, .inl fn53)), (y1_width, .inl (g.2.1.1, 9, .inl f_y1_width)), (y1_height, .inl (g.2.1.1, 9, .inl f_y1_height)), (h0_corner, .inl (g.2.1.1, 27, .inl f115)), (y1, .inr (4, [.int y1_count, .int y1_statements, .int y1_thick, .int y1_punch, .int y1_ups, .int y1_toolCount, .ref y1_toolWidth, .ref y1_told, .ref y1_name, .ref y1_parent, .ref y1_side, .ref y1_from, .ref y1_width, .ref y1_height, .ref y1_radius, .ref y1_toolSet])), (y1_parent, .inl (g.2.1.1, 9, .inl f_y1_parent)), (y1_radius, .inl (g.2.1.1, 9, .inl f_y1_radius)), (y1_told, .inl (g.2.1.1, 10, .inl f_y1_told)), (h0_north, .inl (g.2.1.1, 9, .inl f101)), (h0_east, .inl (g.2.1.1, 9, .inl f89)), (h0, .inr (5, [.ref h0_low, .ref h0_high, .ref h0_normal, .ref h0_corner, .ref h0_east, .ref h0_north, .ref h0_start, .ref h0_far])), (h0_start, .inl (g.2.1.1, 3, .inl fn110)), (h0_far, .inl (g.2.1.1, 3, .inl f66)), (h0_low, .inl (g.2.1.1, 54, .inl f67)), (h0_high, .inl (g.2.1.1, 54, .inl f68))] H := hP
              have hD : va_D A [(y1_side, .inl (g.2.1.1, 9, .inl f_y1_side)), (h0_normal, .inl (g.2.1.1, 18, .inl fn53)), (y1_width, .inl (g.2.1.1, 9, .inl f_y1_width)), (y1_height, .inl (g.2.1.1, 9, .inl f_y1_height)), (h0_corner, .inl (g.2.1.1, 27, .inl f115)), (y1, .inr (4, [.int y1_count, .int y1_statements, .int y1_thick, .int y1_punch, .int y1_ups, .int y1_toolCount, .ref y1_toolWidth, .ref y1_told, .ref y1_name, .ref y1_parent, .ref y1_side, .ref y1_from, .ref y1_width, .ref y1_height, .ref y1_radius, .ref y1_toolSet])), (y1_parent, .inl (g.2.1.1, 9, .inl f_y1_parent)), (y1_radius, .inl (g.2.1.1, 9, .inl f_y1_radius)), (y1_told, .inl (g.2.1.1, 10, .inl f_y1_told)), (h0_north, .inl (g.2.1.1, 9, .inl f101)), (h0_east, .inl (g.2.1.1, 9, .inl f89)), (h0, .inr (5, [.ref h0_low, .ref h0_high, .ref h0_normal, .ref h0_corner, .ref h0_east, .ref h0_north, .ref h0_start, .ref h0_far])), (h0_start, .inl (g.2.1.1, 3, .inl fn110)), (h0_far, .inl (g.2.1.1, 3, .inl f66)), (h0_low, .inl (g.2.1.1, 54, .inl f67)), (h0_high, .inl (g.2.1.1, 54, .inl f68))] := hD
              exact hret (f89, f101, fn53, fn110, f66, f67, f68, f115) (Nat.le_of_ble_eq_true rfl) (Nat.le_of_ble_eq_true rfl) ⟨hf91, hf103, hf57⟩ (hP.sub [5, 6, 7, 0, 11, 10, 9, 1, 8, 12, 2, 3, 13, 14, 15, 4] rfl) (hD.sub [5, 6, 7, 0, 11, 10, 9, 1, 8, 12, 2, 3, 13, 14, 15, 4] (by decide) rfl) hS dX5_placeFlange_263
            refine lv_if_eq (tgt := 247) hx hb dX5_placeFlange_229 (by decide) (fun c117 => ?_) (fun c117 => ?_)
            · skip
              have c117i : v71.toInt = (0 : Int) := (zc_eq (rfl : v71.toInt = _) (show (0 : Int32).toInt = (0 : Int) from by decide)).mp c117
              exact J111 fn54 H locs ls  hP hD hS (lv_sub hl [0, 1, 2, 3, 4, 5, 6, 7, 8, 9, 10] rfl)
            · skip
              have c117i : ¬ (v71.toInt = (0 : Int)) := fun q => c117 ((zc_eq (rfl : v71.toInt = _) (show (0 : Int32).toInt = (0 : Int) from by decide)).mpr q)
              refine lv_aload_n hx hb dX5_placeFlange_232 rfl (lv_at hl 0 rfl) ?_
              refine va_get (D := g.1) (ci := 5) (v := .ref h0_start) (C := RX5) (T := TX5) (N := 8) hx hb hG iX5 hown hX.1 hP 11 rfl rfl 6 (by decide) (hG _ wf_X5_30) (fun _ h9 => h9) rfl dX5_placeFlange_233 ?_
              refine lv_iload hx hb dX5_placeFlange_236 (lv_at hl 8 rfl) ?_
              refine lv_aload_n hx hb dX5_placeFlange_238 rfl (lv_at hl 1 rfl) ?_
              refine va_getN (D := g.1) (ci := 4) (v := .ref y1_height) (C := RX4) (T := TX4) (N := 16) hx hb hG iX4 hown hX.1 hP 5 rfl rfl 13 (by decide) (hX.2.1.fl wfn_X5_92) (fun _ h9 => h9) rfl dX5_placeFlange_239 ?_
              refine lv_iload_n hx hb dX5_placeFlange_242 rfl (lv_at hl 2 rfl) ?_
              refine va_iald hx hb hX.1 hP 3 0 rfl rfl (zin (rfl : x2.toInt = _) (ox_156 f4 hy0 hy12 hy3 i3)) dX5_placeFlange_243 ?_
              refine lv_topi (fun z118 e119 => ?_)
              refine zfv (wr := [(y1_side, .inl (g.2.1.1, 9, .inl f_y1_side)), (h0_normal, .inl (g.2.1.1, 18, .inl fn53)), (y1_width, .inl (g.2.1.1, 9, .inl f_y1_width)), (y1_height, .inl (g.2.1.1, 9, .inl f_y1_height)), (h0_corner, .inl (g.2.1.1, 27, .inl f_h0_corner)), (y1, .inr (4, [.int y1_count, .int y1_statements, .int y1_thick, .int y1_punch, .int y1_ups, .int y1_toolCount, .ref y1_toolWidth, .ref y1_told, .ref y1_name, .ref y1_parent, .ref y1_side, .ref y1_from, .ref y1_width, .ref y1_height, .ref y1_radius, .ref y1_toolSet])), (y1_parent, .inl (g.2.1.1, 9, .inl f_y1_parent)), (y1_radius, .inl (g.2.1.1, 9, .inl f_y1_radius)), (y1_told, .inl (g.2.1.1, 10, .inl f_y1_told)), (h0_north, .inl (g.2.1.1, 9, .inl f101)), (h0_east, .inl (g.2.1.1, 9, .inl f89)), (h0, .inr (5, [.ref h0_low, .ref h0_high, .ref h0_normal, .ref h0_corner, .ref h0_east, .ref h0_north, .ref h0_start, .ref h0_far])), (h0_far, .inl (g.2.1.1, 3, .inl f66)), (h0_low, .inl (g.2.1.1, 54, .inl f67)), (h0_high, .inl (g.2.1.1, 54, .inl f68))]) (va_runS (As := [.ref h0_start, .int v52, .int z118]) (rest := []) ⟨hx, hb, hml, hown, hG⟩ (kX5_move l g h0_start v52 z118 fn54 (ox_48 i56) _) ⟨callB_of 3 hG (zGood wc_X5_move) rfl rfl rfl (hG _ wini_X5) (hG _ wm_X5_98) hX5_move ⟨Nat.le_of_ble_eq_true rfl, Nat.le_of_ble_eq_true rfl⟩, hG _ ws_X5_move⟩ (zpreS hX hP hD hS hA [12] rfl (by decide)) rfl rfl hl.1 rfl (lv_room (Nat.le_of_ble_eq_true rfl)) dX5_placeFlange_244 ⟨Nat.le_of_ble_eq_true rfl, Nat.le_of_ble_eq_true rfl⟩) hP hD hS hA [12] [0, 1, 2, 3, 4, 5, 6, 7, 8, 9, 10, 11, 13, 14, 15] rfl rfl (by decide) (by decide) (fun u121 H locs hp hP hD hS => ?_)
              refine W.cs (cells' := 0) (slots' := 0) rfl rfl ?_
              obtain ⟨f122, rfl⟩ : ∃ z9, z9 = u121 := ⟨_, rfl⟩
              have hP : va_P g.1 vwCl [(y1_side, .inl (g.2.1.1, 9, .inl f_y1_side)), (h0_normal, .inl (g.2.1.1, 18, .inl fn53)), (y1_width, .inl (g.2.1.1, 9, .inl f_y1_width)), (y1_height, .inl (g.2.1.1, 9, .inl f_y1_height)), (h0_corner, .inl (g.2.1.1, 27, .inl f_h0_corner)), (y1, .inr (4, [.int y1_count, .int y1_statements, .int y1_thick, .int y1_punch, .int y1_ups, .int y1_toolCount, .ref y1_toolWidth, .ref y1_told, .ref y1_name, .ref y1_parent, .ref y1_side, .ref y1_from, .ref y1_width, .ref y1_height, .ref y1_radius, .ref y1_toolSet])), (y1_parent, .inl (g.2.1.1, 9, .inl f_y1_parent)), (y1_radius, .inl (g.2.1.1, 9, .inl f_y1_radius)), (y1_told, .inl (g.2.1.1, 10, .inl f_y1_told)), (h0_north, .inl (g.2.1.1, 9, .inl f101)), (h0_east, .inl (g.2.1.1, 9, .inl f89)), (h0, .inr (5, [.ref h0_low, .ref h0_high, .ref h0_normal, .ref h0_corner, .ref h0_east, .ref h0_north, .ref h0_start, .ref h0_far])), (h0_far, .inl (g.2.1.1, 3, .inl f66)), (h0_low, .inl (g.2.1.1, 54, .inl f67)), (h0_high, .inl (g.2.1.1, 54, .inl f68)), (h0_start, .inl (g.2.1.1, 3, .inl f122))] H := hP
              have hD : va_D A [(y1_side, .inl (g.2.1.1, 9, .inl f_y1_side)), (h0_normal, .inl (g.2.1.1, 18, .inl fn53)), (y1_width, .inl (g.2.1.1, 9, .inl f_y1_width)), (y1_height, .inl (g.2.1.1, 9, .inl f_y1_height)), (h0_corner, .inl (g.2.1.1, 27, .inl f_h0_corner)), (y1, .inr (4, [.int y1_count, .int y1_statements, .int y1_thick, .int y1_punch, .int y1_ups, .int y1_toolCount, .ref y1_toolWidth, .ref y1_told, .ref y1_name, .ref y1_parent, .ref y1_side, .ref y1_from, .ref y1_width, .ref y1_height, .ref y1_radius, .ref y1_toolSet])), (y1_parent, .inl (g.2.1.1, 9, .inl f_y1_parent)), (y1_radius, .inl (g.2.1.1, 9, .inl f_y1_radius)), (y1_told, .inl (g.2.1.1, 10, .inl f_y1_told)), (h0_north, .inl (g.2.1.1, 9, .inl f101)), (h0_east, .inl (g.2.1.1, 9, .inl f89)), (h0, .inr (5, [.ref h0_low, .ref h0_high, .ref h0_normal, .ref h0_corner, .ref h0_east, .ref h0_north, .ref h0_start, .ref h0_far])), (h0_far, .inl (g.2.1.1, 3, .inl f66)), (h0_low, .inl (g.2.1.1, 54, .inl f67)), (h0_high, .inl (g.2.1.1, 54, .inl f68)), (h0_start, .inl (g.2.1.1, 3, .inl f122))] := hD
              exact J111 f122 H locs ls  (hP.sub [0, 1, 2, 3, 4, 5, 6, 7, 8, 9, 10, 11, 15, 12, 13, 14] rfl) (hD.sub [0, 1, 2, 3, 4, 5, 6, 7, 8, 9, 10, 11, 15, 12, 13, 14] (by decide) rfl) hS (lv_sub hl [0, 1, 2, 3, 4, 5, 6, 7, 8, 9, 10] rfl)
          refine lv_if_eq (tgt := 219) hx hb dX5_placeFlange_211 (by decide) (fun c123 => ?_) (fun c123 => ?_)
          · skip
            have c123i : r92.toInt = (0 : Int) := (zc_eq (rfl : r92.toInt = _) (show (0 : Int32).toInt = (0 : Int) from by decide)).mp c123
            refine lv_aload_n hx hb dX5_placeFlange_219 rfl (lv_at hl 0 rfl) ?_
            refine va_get (D := g.1) (ci := 5) (v := .ref h0_north) (C := RX5) (T := TX5) (N := 8) hx hb hG iX5 hown hX.1 hP 11 rfl rfl 5 (by decide) (hG _ wf_X5_27) (fun _ h9 => h9) rfl dX5_placeFlange_220 ?_
            refine lv_iload hx hb dX5_placeFlange_223 (lv_at hl 5 rfl) ?_
            refine va_iald hx hb hX.1 hP 9 0 rfl rfl (zin (rfl : z1.toInt = _) (ox_164 f4 hy0 hy12 hy3 i3)) dX5_placeFlange_225 ?_
            refine lv_topi (fun z124 e125 => ?_)
            have i126 : 0 ≤ z124.toInt ∧ z124.toInt ≤ 5 := hy9.at e125
            exact J99 z124 H locs ls (ox_48 i126) hP hD hS (lv_sub hl [0, 1, 2, 3, 4, 5, 6, 7, 8, 9, 10] rfl)
          · skip
            have c123i : ¬ (r92.toInt = (0 : Int)) := fun q => c123 ((zc_eq (rfl : r92.toInt = _) (show (0 : Int32).toInt = (0 : Int) from by decide)).mpr q)
            refine lv_iload hx hb dX5_placeFlange_214 (lv_at hl 10 rfl) ?_
            refine lv_goto (tgt := 226) hx hb dX5_placeFlange_216 (by decide) ?_
            exact J99 v77 H locs ls (ox_48 i79) hP hD hS (lv_sub hl [0, 1, 2, 3, 4, 5, 6, 7, 8, 9, 10] rfl)
        refine lv_if_eq (tgt := 198) hx hb dX5_placeFlange_185 (by decide) (fun c127 => ?_) (fun c127 => ?_)
        · skip
          have c127i : r80.toInt = (0 : Int) := (zc_eq (rfl : r80.toInt = _) (show (0 : Int32).toInt = (0 : Int) from by decide)).mp c127
          refine lv_iload hx hb dX5_placeFlange_198 (lv_at hl 0 rfl) ?_
          exact J87 v77 H locs ls (ox_48 i79) hP hD hS (lv_sub hl [1, 2, 3, 4, 5, 6, 7, 8, 9, 10, 0] rfl)
        · skip
          have c127i : ¬ (r80.toInt = (0 : Int)) := fun q => c127 ((zc_eq (rfl : r80.toInt = _) (show (0 : Int32).toInt = (0 : Int) from by decide)).mpr q)
          refine lv_aload_n hx hb dX5_placeFlange_188 rfl (lv_at hl 1 rfl) ?_
          refine va_get (D := g.1) (ci := 5) (v := .ref h0_east) (C := RX5) (T := TX5) (N := 8) hx hb hG iX5 hown hX.1 hP 11 rfl rfl 4 (by decide) (hG _ wf_X5_24) (fun _ h9 => h9) rfl dX5_placeFlange_189 ?_
          refine lv_iload hx hb dX5_placeFlange_192 (lv_at hl 6 rfl) ?_
          refine va_iald hx hb hX.1 hP 10 0 rfl rfl (zin (rfl : z1.toInt = _) (ox_164 f4 hy0 hy12 hy3 i3)) dX5_placeFlange_194 ?_
          refine lv_topi (fun z128 e129 => ?_)
          have i130 : 0 ≤ z128.toInt ∧ z128.toInt ≤ 5 := hy8.at e129
          refine lv_goto (tgt := 200) hx hb dX5_placeFlange_195 (by decide) ?_
          exact J87 z128 H locs ls (ox_48 i130) hP hD hS (lv_sub hl [1, 2, 3, 4, 5, 6, 7, 8, 9, 10, 0] rfl)
      refine lv_if_eq (tgt := 171) hx hb dX5_placeFlange_160 (by decide) (fun c131 => ?_) (fun c131 => ?_)
      · skip
        have c131i : v71.toInt = (0 : Int) := (zc_eq (rfl : v71.toInt = _) (show (0 : Int32).toInt = (0 : Int) from by decide)).mp c131
        refine lv_iload hx hb dX5_placeFlange_171 (lv_at hl 9 rfl) ?_
        exact J78 v52 H locs ls (ox_48 i56) hP hD hS (lv_sub hl [1, 2, 3, 4, 5, 6, 7, 8, 9, 0] rfl)
      · skip
        have c131i : ¬ (v71.toInt = (0 : Int)) := fun q => c131 ((zc_eq (rfl : v71.toInt = _) (show (0 : Int32).toInt = (0 : Int) from by decide)).mpr q)
        refine lv_iload hx hb dX5_placeFlange_163 (lv_at hl 9 rfl) ?_
        refine zfi (wr := [(y1_side, .inl (g.2.1.1, 9, .inl f_y1_side)), (h0_normal, .inl (g.2.1.1, 18, .inl fn53)), (y1_width, .inl (g.2.1.1, 9, .inl f_y1_width)), (y1_height, .inl (g.2.1.1, 9, .inl f_y1_height)), (h0_corner, .inl (g.2.1.1, 27, .inl f_h0_corner)), (y1, .inr (4, [.int y1_count, .int y1_statements, .int y1_thick, .int y1_punch, .int y1_ups, .int y1_toolCount, .ref y1_toolWidth, .ref y1_told, .ref y1_name, .ref y1_parent, .ref y1_side, .ref y1_from, .ref y1_width, .ref y1_height, .ref y1_radius, .ref y1_toolSet])), (y1_parent, .inl (g.2.1.1, 9, .inl f_y1_parent)), (y1_radius, .inl (g.2.1.1, 9, .inl f_y1_radius)), (y1_told, .inl (g.2.1.1, 10, .inl f_y1_told)), (h0_north, .inl (g.2.1.1, 9, .inl f_h0_north)), (h0_east, .inl (g.2.1.1, 9, .inl f_h0_east)), (h0, .inr (5, [.ref h0_low, .ref h0_high, .ref h0_normal, .ref h0_corner, .ref h0_east, .ref h0_north, .ref h0_start, .ref h0_far])), (h0_start, .inl (g.2.1.1, 3, .inl fn54)), (h0_far, .inl (g.2.1.1, 3, .inl f66)), (h0_low, .inl (g.2.1.1, 54, .inl f67)), (h0_high, .inl (g.2.1.1, 54, .inl f68))]) (va_runS (As := [.int v52]) (rest := []) ⟨hx, hb, hml, hown, hG⟩ (kX5_against l g v52 (ox_48 i56) _) ⟨callB_of 1 hG (zGood wc_X5_against) rfl rfl rfl (hG _ wini_X5) (hG _ wm_X5_95) hX5_against ⟨Nat.le_of_ble_eq_true rfl, Nat.le_of_ble_eq_true rfl⟩, hG _ ws_X5_against⟩ (zpreS hX hP hD hS hA [] rfl (by decide)) rfl rfl hl.1 rfl (lv_room (Nat.le_of_ble_eq_true rfl)) dX5_placeFlange_165 ⟨Nat.le_of_ble_eq_true rfl, Nat.le_of_ble_eq_true rfl⟩) hP hD hS hA [] [0, 1, 2, 3, 4, 5, 6, 7, 8, 9, 10, 11, 12, 13, 14, 15] rfl rfl (by decide) (by decide) (fun r132 _ H locs hp hP hD hS => ?_)
        refine W.cs (cells' := 0) (slots' := 0) rfl rfl ?_
        have hq133 : 0 ≤ r132.toInt ∧ r132.toInt ≤ 5 := hp
        have hP : va_P g.1 vwCl [(y1_side, .inl (g.2.1.1, 9, .inl f_y1_side)), (h0_normal, .inl (g.2.1.1, 18, .inl fn53)), (y1_width, .inl (g.2.1.1, 9, .inl f_y1_width)), (y1_height, .inl (g.2.1.1, 9, .inl f_y1_height)), (h0_corner, .inl (g.2.1.1, 27, .inl f_h0_corner)), (y1, .inr (4, [.int y1_count, .int y1_statements, .int y1_thick, .int y1_punch, .int y1_ups, .int y1_toolCount, .ref y1_toolWidth, .ref y1_told, .ref y1_name, .ref y1_parent, .ref y1_side, .ref y1_from, .ref y1_width, .ref y1_height, .ref y1_radius, .ref y1_toolSet])), (y1_parent, .inl (g.2.1.1, 9, .inl f_y1_parent)), (y1_radius, .inl (g.2.1.1, 9, .inl f_y1_radius)), (y1_told, .inl (g.2.1.1, 10, .inl f_y1_told)), (h0_north, .inl (g.2.1.1, 9, .inl f_h0_north)), (h0_east, .inl (g.2.1.1, 9, .inl f_h0_east)), (h0, .inr (5, [.ref h0_low, .ref h0_high, .ref h0_normal, .ref h0_corner, .ref h0_east, .ref h0_north, .ref h0_start, .ref h0_far])), (h0_start, .inl (g.2.1.1, 3, .inl fn54)), (h0_far, .inl (g.2.1.1, 3, .inl f66)), (h0_low, .inl (g.2.1.1, 54, .inl f67)), (h0_high, .inl (g.2.1.1, 54, .inl f68))] H := hP
        have hD : va_D A [(y1_side, .inl (g.2.1.1, 9, .inl f_y1_side)), (h0_normal, .inl (g.2.1.1, 18, .inl fn53)), (y1_width, .inl (g.2.1.1, 9, .inl f_y1_width)), (y1_height, .inl (g.2.1.1, 9, .inl f_y1_height)), (h0_corner, .inl (g.2.1.1, 27, .inl f_h0_corner)), (y1, .inr (4, [.int y1_count, .int y1_statements, .int y1_thick, .int y1_punch, .int y1_ups, .int y1_toolCount, .ref y1_toolWidth, .ref y1_told, .ref y1_name, .ref y1_parent, .ref y1_side, .ref y1_from, .ref y1_width, .ref y1_height, .ref y1_radius, .ref y1_toolSet])), (y1_parent, .inl (g.2.1.1, 9, .inl f_y1_parent)), (y1_radius, .inl (g.2.1.1, 9, .inl f_y1_radius)), (y1_told, .inl (g.2.1.1, 10, .inl f_y1_told)), (h0_north, .inl (g.2.1.1, 9, .inl f_h0_north)), (h0_east, .inl (g.2.1.1, 9, .inl f_h0_east)), (h0, .inr (5, [.ref h0_low, .ref h0_high, .ref h0_normal, .ref h0_corner, .ref h0_east, .ref h0_north, .ref h0_start, .ref h0_far])), (h0_start, .inl (g.2.1.1, 3, .inl fn54)), (h0_far, .inl (g.2.1.1, 3, .inl f66)), (h0_low, .inl (g.2.1.1, 54, .inl f67)), (h0_high, .inl (g.2.1.1, 54, .inl f68))] := hD
        refine lv_goto (tgt := 173) hx hb dX5_placeFlange_168 (by decide) ?_
        exact J78 r132 H locs ls (ox_48 hq133) hP hD hS (lv_sub hl [1, 2, 3, 4, 5, 6, 7, 8, 9, 0] rfl)
    have J136 : ∀  (H : Heap) (locs : List Loc) (ls : Array Slot), va_P g.1 vwCl [(y1_side, .inl (g.2.1.1, 9, .inl f_y1_side)), (h0_normal, .inl (g.2.1.1, 18, .inl fn53)), (y1_width, .inl (g.2.1.1, 9, .inl f_y1_width)), (y1_height, .inl (g.2.1.1, 9, .inl f_y1_height)), (h0_corner, .inl (g.2.1.1, 27, .inl f_h0_corner)), (y1, .inr (4, [.int y1_count, .int y1_statements, .int y1_thick, .int y1_punch, .int y1_ups, .int y1_toolCount, .ref y1_toolWidth, .ref y1_told, .ref y1_name, .ref y1_parent, .ref y1_side, .ref y1_from, .ref y1_width, .ref y1_height, .ref y1_radius, .ref y1_toolSet])), (y1_parent, .inl (g.2.1.1, 9, .inl f_y1_parent)), (y1_radius, .inl (g.2.1.1, 9, .inl f_y1_radius)), (y1_told, .inl (g.2.1.1, 10, .inl f_y1_told)), (h0_north, .inl (g.2.1.1, 9, .inl f_h0_north)), (h0_east, .inl (g.2.1.1, 9, .inl f_h0_east)), (h0, .inr (5, [.ref h0_low, .ref h0_high, .ref h0_normal, .ref h0_corner, .ref h0_east, .ref h0_north, .ref h0_start, .ref h0_far])), (h0_start, .inl (g.2.1.1, 3, .inl fn54)), (h0_far, .inl (g.2.1.1, 3, .inl f66)), (h0_low, .inl (g.2.1.1, 54, .inl f67)), (h0_high, .inl (g.2.1.1, 54, .inl f68))] H → va_D A [(y1_side, .inl (g.2.1.1, 9, .inl f_y1_side)), (h0_normal, .inl (g.2.1.1, 18, .inl fn53)), (y1_width, .inl (g.2.1.1, 9, .inl f_y1_width)), (y1_height, .inl (g.2.1.1, 9, .inl f_y1_height)), (h0_corner, .inl (g.2.1.1, 27, .inl f_h0_corner)), (y1, .inr (4, [.int y1_count, .int y1_statements, .int y1_thick, .int y1_punch, .int y1_ups, .int y1_toolCount, .ref y1_toolWidth, .ref y1_told, .ref y1_name, .ref y1_parent, .ref y1_side, .ref y1_from, .ref y1_width, .ref y1_height, .ref y1_radius, .ref y1_toolSet])), (y1_parent, .inl (g.2.1.1, 9, .inl f_y1_parent)), (y1_radius, .inl (g.2.1.1, 9, .inl f_y1_radius)), (y1_told, .inl (g.2.1.1, 10, .inl f_y1_told)), (h0_north, .inl (g.2.1.1, 9, .inl f_h0_north)), (h0_east, .inl (g.2.1.1, 9, .inl f_h0_east)), (h0, .inr (5, [.ref h0_low, .ref h0_high, .ref h0_normal, .ref h0_corner, .ref h0_east, .ref h0_north, .ref h0_start, .ref h0_far])), (h0_start, .inl (g.2.1.1, 3, .inl fn54)), (h0_far, .inl (g.2.1.1, 3, .inl f66)), (h0_low, .inl (g.2.1.1, 54, .inl f67)), (h0_high, .inl (g.2.1.1, 54, .inl f68))] → va_S A s.heap H locs → lv_has ls 11 [(0, .ref h0), (1, .ref y1), (2, .int x2), (3, .int x3), (4, .int x4), (5, .int z1), (6, .int z5), (7, .int r8), (8, .int v52)] → W p l e rm_kX5_placeFlange s m args below meth c H locs 0 0 Q (F0 m 151 ls []) := by
      intro  H locs ls  hP hD hS hl
      refine lv_iconst (v := 1) hx hb dX5_placeFlange_151 (by decide) ?_
      refine lv_goto (tgt := 156) hx hb dX5_placeFlange_152 (by decide) ?_
      exact J72 (1 : Int32) H locs ls ((show 0 ≤ (1 : Int) ∧ (1 : Int) ≤ 1 from by decide)) hP hD hS (lv_sub hl [0, 1, 2, 3, 4, 5, 6, 7, 8] rfl)
    refine lv_icmp_eq (tgt := 151) hx hb dX5_placeFlange_142 (by decide) (fun c137 => ?_) (fun c137 => ?_)
    · skip
      have c137i : z5.toInt = (2 : Int) := (zc_eq (rfl : z5.toInt = _) (show (2 : Int32).toInt = (2 : Int) from by decide)).mp c137
      exact J136 H locs ls  hP hD hS (lv_sub hl [0, 1, 2, 3, 4, 5, 6, 7, 8] rfl)
    · skip
      have c137i : ¬ (z5.toInt = (2 : Int)) := fun q => c137 ((zc_eq (rfl : z5.toInt = _) (show (2 : Int32).toInt = (2 : Int) from by decide)).mpr q)
      refine lv_iload hx hb dX5_placeFlange_145 (lv_at hl 6 rfl) ?_
      refine lv_iconst (v := 3) hx hb dX5_placeFlange_147 (by decide) ?_
      refine lv_icmp_ne (tgt := 155) hx hb dX5_placeFlange_148 (by decide) (fun c138 => ?_) (fun c138 => ?_)
      · skip
        have c138i : ¬ (z5.toInt = (3 : Int)) := fun q => c138 ((zc_eq (rfl : z5.toInt = _) (show (3 : Int32).toInt = (3 : Int) from by decide)).mpr q)
        refine lv_iconst (v := 0) hx hb dX5_placeFlange_155 (by decide) ?_
        exact J72 (0 : Int32) H locs ls ((show 0 ≤ (0 : Int) ∧ (0 : Int) ≤ 1 from by decide)) hP hD hS (lv_sub hl [0, 1, 2, 3, 4, 5, 6, 7, 8] rfl)
      · skip
        have c138i : z5.toInt = (3 : Int) := (zc_eq (rfl : z5.toInt = _) (show (3 : Int32).toInt = (3 : Int) from by decide)).mp c138
        exact J136 H locs ls  hP hD hS (lv_sub hl [0, 1, 2, 3, 4, 5, 6, 7, 8] rfl)
  refine lv_if_eq (tgt := 98) hx hb dX5_placeFlange_44 (by decide) (fun c139 => ?_) (fun c139 => ?_)
  · skip
    have c139i : x3.toInt = (0 : Int) := (zc_eq (rfl : x3.toInt = _) (show (0 : Int32).toInt = (0 : Int) from by decide)).mp c139
    refine lv_aload_n hx hb dX5_placeFlange_98 rfl (lv_at hl 4 rfl) ?_
    refine va_get (D := g.1) (ci := 5) (v := .ref h0_start) (C := RX5) (T := TX5) (N := 8) hx hb hG iX5 hown hX.1 hP 13 rfl rfl 6 (by decide) (hG _ wf_X5_30) (fun _ h9 => h9) rfl dX5_placeFlange_99 ?_
    refine lv_iload hx hb dX5_placeFlange_102 (lv_at hl 1 rfl) ?_
    refine lv_aload_n hx hb dX5_placeFlange_104 rfl (lv_at hl 5 rfl) ?_
    refine lv_iload_n hx hb dX5_placeFlange_105 rfl (lv_at hl 6 rfl) ?_
    refine zfi (wr := [(y1_side, .inl (g.2.1.1, 9, .inl f_y1_side)), (h0_normal, .inl (g.2.1.1, 18, .inl f13)), (h0_start, .inl (g.2.1.1, 3, .inl f_h0_start)), (y1_width, .inl (g.2.1.1, 9, .inl f_y1_width)), (y1_height, .inl (g.2.1.1, 9, .inl f_y1_height)), (h0_far, .inl (g.2.1.1, 3, .inl f_h0_far)), (h0_low, .inl (g.2.1.1, 54, .inl f_h0_low)), (h0_high, .inl (g.2.1.1, 54, .inl f_h0_high)), (h0_corner, .inl (g.2.1.1, 27, .inl f_h0_corner)), (h0, .inr (5, [.ref h0_low, .ref h0_high, .ref h0_normal, .ref h0_corner, .ref h0_east, .ref h0_north, .ref h0_start, .ref h0_far])), (h0_east, .inl (g.2.1.1, 9, .inl f_h0_east)), (h0_north, .inl (g.2.1.1, 9, .inl f_h0_north))]) (va_runVN (As := [.int x2]) (rest := [.int r8, .ref h0_start]) ⟨hx, hb, hml, hown, hG⟩ (kX4_zoneOf l g y1 x2 y1_count y1_statements y1_thick y1_punch y1_ups y1_toolCount y1_toolWidth y1_told y1_name y1_parent y1_side y1_from y1_width y1_height y1_radius y1_toolSet f_y1_parent f_y1_radius f_y1_told (ox_165 f4 hy0 hy12 hy3 i3) (ox_166 f4 hy0 hy12 hy3 i3) (ox_1 hy4) hy5 trivial hy11 (ox_167 f4 hy0 hy12 hy3 i3) _) ⟨va_cnB 1 hG (zGood wc_X4_zoneOf) rfl rfl rfl (hX.2.1.ml wmn_X5_78) (hG _ wini_X4) hX4_zoneOf ⟨Nat.le_of_ble_eq_true rfl, Nat.le_of_ble_eq_true rfl⟩, hG _ wi_X4_zoneOf, hG _ wse_X4_X4_zoneOf⟩ (zpreV (va_recv hX.1 hP (ci := 4) (q0 := 0) rfl rfl) hX hP hD hS hA [0, 1, 2, 5] rfl (by decide)) rfl rfl hl.1 rfl (lv_room (Nat.le_of_ble_eq_true rfl)) dX5_placeFlange_106 ⟨Nat.le_of_ble_eq_true rfl, Nat.le_of_ble_eq_true rfl⟩) hP hD hS hA [0, 1, 2, 5] [3, 4, 6, 7, 8, 9, 10, 11, 12, 13, 14, 15] rfl rfl (by decide) (by decide) (fun r140 _ H locs hp hP hD hS => ?_)
    refine W.cs (cells' := 0) (slots' := 0) rfl rfl ?_
    have hP : va_P g.1 vwCl [(y1_side, .inl (g.2.1.1, 9, .inl f_y1_side)), (h0_normal, .inl (g.2.1.1, 18, .inl f13)), (h0_start, .inl (g.2.1.1, 3, .inl f_h0_start)), (y1_width, .inl (g.2.1.1, 9, .inl f_y1_width)), (y1_height, .inl (g.2.1.1, 9, .inl f_y1_height)), (h0_far, .inl (g.2.1.1, 3, .inl f_h0_far)), (h0_low, .inl (g.2.1.1, 54, .inl f_h0_low)), (h0_high, .inl (g.2.1.1, 54, .inl f_h0_high)), (h0_corner, .inl (g.2.1.1, 27, .inl f_h0_corner)), (h0, .inr (5, [.ref h0_low, .ref h0_high, .ref h0_normal, .ref h0_corner, .ref h0_east, .ref h0_north, .ref h0_start, .ref h0_far])), (h0_east, .inl (g.2.1.1, 9, .inl f_h0_east)), (h0_north, .inl (g.2.1.1, 9, .inl f_h0_north)), (y1, .inr (4, [.int y1_count, .int y1_statements, .int y1_thick, .int y1_punch, .int y1_ups, .int y1_toolCount, .ref y1_toolWidth, .ref y1_told, .ref y1_name, .ref y1_parent, .ref y1_side, .ref y1_from, .ref y1_width, .ref y1_height, .ref y1_radius, .ref y1_toolSet])), (y1_parent, .inl (g.2.1.1, 9, .inl f_y1_parent)), (y1_radius, .inl (g.2.1.1, 9, .inl f_y1_radius)), (y1_told, .inl (g.2.1.1, 10, .inl f_y1_told))] H := hP
    have hD : va_D A [(y1_side, .inl (g.2.1.1, 9, .inl f_y1_side)), (h0_normal, .inl (g.2.1.1, 18, .inl f13)), (h0_start, .inl (g.2.1.1, 3, .inl f_h0_start)), (y1_width, .inl (g.2.1.1, 9, .inl f_y1_width)), (y1_height, .inl (g.2.1.1, 9, .inl f_y1_height)), (h0_far, .inl (g.2.1.1, 3, .inl f_h0_far)), (h0_low, .inl (g.2.1.1, 54, .inl f_h0_low)), (h0_high, .inl (g.2.1.1, 54, .inl f_h0_high)), (h0_corner, .inl (g.2.1.1, 27, .inl f_h0_corner)), (h0, .inr (5, [.ref h0_low, .ref h0_high, .ref h0_normal, .ref h0_corner, .ref h0_east, .ref h0_north, .ref h0_start, .ref h0_far])), (h0_east, .inl (g.2.1.1, 9, .inl f_h0_east)), (h0_north, .inl (g.2.1.1, 9, .inl f_h0_north)), (y1, .inr (4, [.int y1_count, .int y1_statements, .int y1_thick, .int y1_punch, .int y1_ups, .int y1_toolCount, .ref y1_toolWidth, .ref y1_told, .ref y1_name, .ref y1_parent, .ref y1_side, .ref y1_from, .ref y1_width, .ref y1_height, .ref y1_radius, .ref y1_toolSet])), (y1_parent, .inl (g.2.1.1, 9, .inl f_y1_parent)), (y1_radius, .inl (g.2.1.1, 9, .inl f_y1_radius)), (y1_told, .inl (g.2.1.1, 10, .inl f_y1_told))] := hD
    refine zfv (wr := [(y1_side, .inl (g.2.1.1, 9, .inl f_y1_side)), (h0_normal, .inl (g.2.1.1, 18, .inl f13)), (y1_width, .inl (g.2.1.1, 9, .inl f_y1_width)), (y1_height, .inl (g.2.1.1, 9, .inl f_y1_height)), (h0_far, .inl (g.2.1.1, 3, .inl f_h0_far)), (h0_low, .inl (g.2.1.1, 54, .inl f_h0_low)), (h0_high, .inl (g.2.1.1, 54, .inl f_h0_high)), (h0_corner, .inl (g.2.1.1, 27, .inl f_h0_corner)), (h0, .inr (5, [.ref h0_low, .ref h0_high, .ref h0_normal, .ref h0_corner, .ref h0_east, .ref h0_north, .ref h0_start, .ref h0_far])), (h0_east, .inl (g.2.1.1, 9, .inl f_h0_east)), (h0_north, .inl (g.2.1.1, 9, .inl f_h0_north)), (y1, .inr (4, [.int y1_count, .int y1_statements, .int y1_thick, .int y1_punch, .int y1_ups, .int y1_toolCount, .ref y1_toolWidth, .ref y1_told, .ref y1_name, .ref y1_parent, .ref y1_side, .ref y1_from, .ref y1_width, .ref y1_height, .ref y1_radius, .ref y1_toolSet])), (y1_parent, .inl (g.2.1.1, 9, .inl f_y1_parent)), (y1_radius, .inl (g.2.1.1, 9, .inl f_y1_radius)), (y1_told, .inl (g.2.1.1, 10, .inl f_y1_told))]) (va_runS (As := [.ref h0_start, .int r8, .int r140]) (rest := []) ⟨hx, hb, hml, hown, hG⟩ (kX5_move l g h0_start r8 r140 f_h0_start (ox_48 hq9) _) ⟨callB_of 3 hG (zGood wc_X5_move) rfl rfl rfl (hG _ wini_X5) (hG _ wm_X5_98) hX5_move ⟨Nat.le_of_ble_eq_true rfl, Nat.le_of_ble_eq_true rfl⟩, hG _ ws_X5_move⟩ (zpreS hX hP hD hS hA [2] rfl (by decide)) rfl rfl hl.1 rfl (lv_room (Nat.le_of_ble_eq_true rfl)) dX5_placeFlange_109 ⟨Nat.le_of_ble_eq_true rfl, Nat.le_of_ble_eq_true rfl⟩) hP hD hS hA [2] [0, 1, 3, 4, 5, 6, 7, 8, 9, 10, 11, 12, 13, 14, 15] rfl rfl (by decide) (by decide) (fun u142 H locs hp hP hD hS => ?_)
    refine W.cs (cells' := 0) (slots' := 0) rfl rfl ?_
    obtain ⟨f143, rfl⟩ : ∃ z9, z9 = u142 := ⟨_, rfl⟩
    have hP : va_P g.1 vwCl [(y1_side, .inl (g.2.1.1, 9, .inl f_y1_side)), (h0_normal, .inl (g.2.1.1, 18, .inl f13)), (y1_width, .inl (g.2.1.1, 9, .inl f_y1_width)), (y1_height, .inl (g.2.1.1, 9, .inl f_y1_height)), (h0_far, .inl (g.2.1.1, 3, .inl f_h0_far)), (h0_low, .inl (g.2.1.1, 54, .inl f_h0_low)), (h0_high, .inl (g.2.1.1, 54, .inl f_h0_high)), (h0_corner, .inl (g.2.1.1, 27, .inl f_h0_corner)), (h0, .inr (5, [.ref h0_low, .ref h0_high, .ref h0_normal, .ref h0_corner, .ref h0_east, .ref h0_north, .ref h0_start, .ref h0_far])), (h0_east, .inl (g.2.1.1, 9, .inl f_h0_east)), (h0_north, .inl (g.2.1.1, 9, .inl f_h0_north)), (y1, .inr (4, [.int y1_count, .int y1_statements, .int y1_thick, .int y1_punch, .int y1_ups, .int y1_toolCount, .ref y1_toolWidth, .ref y1_told, .ref y1_name, .ref y1_parent, .ref y1_side, .ref y1_from, .ref y1_width, .ref y1_height, .ref y1_radius, .ref y1_toolSet])), (y1_parent, .inl (g.2.1.1, 9, .inl f_y1_parent)), (y1_radius, .inl (g.2.1.1, 9, .inl f_y1_radius)), (y1_told, .inl (g.2.1.1, 10, .inl f_y1_told)), (h0_start, .inl (g.2.1.1, 3, .inl f143))] H := hP
    have hD : va_D A [(y1_side, .inl (g.2.1.1, 9, .inl f_y1_side)), (h0_normal, .inl (g.2.1.1, 18, .inl f13)), (y1_width, .inl (g.2.1.1, 9, .inl f_y1_width)), (y1_height, .inl (g.2.1.1, 9, .inl f_y1_height)), (h0_far, .inl (g.2.1.1, 3, .inl f_h0_far)), (h0_low, .inl (g.2.1.1, 54, .inl f_h0_low)), (h0_high, .inl (g.2.1.1, 54, .inl f_h0_high)), (h0_corner, .inl (g.2.1.1, 27, .inl f_h0_corner)), (h0, .inr (5, [.ref h0_low, .ref h0_high, .ref h0_normal, .ref h0_corner, .ref h0_east, .ref h0_north, .ref h0_start, .ref h0_far])), (h0_east, .inl (g.2.1.1, 9, .inl f_h0_east)), (h0_north, .inl (g.2.1.1, 9, .inl f_h0_north)), (y1, .inr (4, [.int y1_count, .int y1_statements, .int y1_thick, .int y1_punch, .int y1_ups, .int y1_toolCount, .ref y1_toolWidth, .ref y1_told, .ref y1_name, .ref y1_parent, .ref y1_side, .ref y1_from, .ref y1_width, .ref y1_height, .ref y1_radius, .ref y1_toolSet])), (y1_parent, .inl (g.2.1.1, 9, .inl f_y1_parent)), (y1_radius, .inl (g.2.1.1, 9, .inl f_y1_radius)), (y1_told, .inl (g.2.1.1, 10, .inl f_y1_told)), (h0_start, .inl (g.2.1.1, 3, .inl f143))] := hD
    exact J55 r8 f13 f143 H locs ls (ox_48 hq9) hf15 hP hD hS (lv_sub hl [4, 5, 6, 7, 8, 3, 2, 1, 0] rfl)
  · skip
    have c139i : ¬ (x3.toInt = (0 : Int)) := fun q => c139 ((zc_eq (rfl : x3.toInt = _) (show (0 : Int32).toInt = (0 : Int) from by decide)).mpr q)
    refine lv_iload hx hb dX5_placeFlange_47 (lv_at hl 8 rfl) ?_
    have J154 : ∀  (v153 : Int32) (H : Heap) (locs : List Loc) (ls : Array Slot), 0 ≤ v153.toInt ∧ v153.toInt ≤ 5 → va_P g.1 vwCl [(y1, .inr (4, [.int y1_count, .int y1_statements, .int y1_thick, .int y1_punch, .int y1_ups, .int y1_toolCount, .ref y1_toolWidth, .ref y1_told, .ref y1_name, .ref y1_parent, .ref y1_side, .ref y1_from, .ref y1_width, .ref y1_height, .ref y1_radius, .ref y1_toolSet])), (y1_parent, .inl (g.2.1.1, 9, .inl f_y1_parent)), (y1_radius, .inl (g.2.1.1, 9, .inl f_y1_radius)), (y1_side, .inl (g.2.1.1, 9, .inl f_y1_side)), (h0_normal, .inl (g.2.1.1, 18, .inl f13)), (y1_told, .inl (g.2.1.1, 10, .inl f_y1_told)), (h0_start, .inl (g.2.1.1, 3, .inl f_h0_start)), (y1_width, .inl (g.2.1.1, 9, .inl f_y1_width)), (y1_height, .inl (g.2.1.1, 9, .inl f_y1_height)), (h0_far, .inl (g.2.1.1, 3, .inl f_h0_far)), (h0_low, .inl (g.2.1.1, 54, .inl f_h0_low)), (h0_high, .inl (g.2.1.1, 54, .inl f_h0_high)), (h0_corner, .inl (g.2.1.1, 27, .inl f_h0_corner)), (h0, .inr (5, [.ref h0_low, .ref h0_high, .ref h0_normal, .ref h0_corner, .ref h0_east, .ref h0_north, .ref h0_start, .ref h0_far])), (h0_east, .inl (g.2.1.1, 9, .inl f_h0_east)), (h0_north, .inl (g.2.1.1, 9, .inl f_h0_north))] H → va_D A [(y1, .inr (4, [.int y1_count, .int y1_statements, .int y1_thick, .int y1_punch, .int y1_ups, .int y1_toolCount, .ref y1_toolWidth, .ref y1_told, .ref y1_name, .ref y1_parent, .ref y1_side, .ref y1_from, .ref y1_width, .ref y1_height, .ref y1_radius, .ref y1_toolSet])), (y1_parent, .inl (g.2.1.1, 9, .inl f_y1_parent)), (y1_radius, .inl (g.2.1.1, 9, .inl f_y1_radius)), (y1_side, .inl (g.2.1.1, 9, .inl f_y1_side)), (h0_normal, .inl (g.2.1.1, 18, .inl f13)), (y1_told, .inl (g.2.1.1, 10, .inl f_y1_told)), (h0_start, .inl (g.2.1.1, 3, .inl f_h0_start)), (y1_width, .inl (g.2.1.1, 9, .inl f_y1_width)), (y1_height, .inl (g.2.1.1, 9, .inl f_y1_height)), (h0_far, .inl (g.2.1.1, 3, .inl f_h0_far)), (h0_low, .inl (g.2.1.1, 54, .inl f_h0_low)), (h0_high, .inl (g.2.1.1, 54, .inl f_h0_high)), (h0_corner, .inl (g.2.1.1, 27, .inl f_h0_corner)), (h0, .inr (5, [.ref h0_low, .ref h0_high, .ref h0_normal, .ref h0_corner, .ref h0_east, .ref h0_north, .ref h0_start, .ref h0_far])), (h0_east, .inl (g.2.1.1, 9, .inl f_h0_east)), (h0_north, .inl (g.2.1.1, 9, .inl f_h0_north))] → va_S A s.heap H locs → lv_has ls 11 [(0, .ref h0), (1, .ref y1), (2, .int x2), (3, .int x3), (4, .int x4), (5, .int z1), (6, .int z5), (7, .int r8), (8, .int r8)] → W p l e rm_kX5_placeFlange s m args below meth c H locs 0 0 Q (F0 m 72 ls [.int v153]) := by
      intro v153 H locs ls i155 hP hD hS hl
      refine lv_istore (lv' := [(8, .int v153), (0, .ref h0), (1, .ref y1), (2, .int x2), (3, .int x3), (4, .int x4), (5, .int z1), (6, .int z5), (7, .int r8)]) hx hb dX5_placeFlange_72 hl (by decide) rfl (fun ls hl => ?_)
      refine lv_aload_n hx hb dX5_placeFlange_74 rfl (lv_at hl 1 rfl) ?_
      refine va_get (D := g.1) (ci := 5) (v := .ref h0_normal) (C := RX5) (T := TX5) (N := 8) hx hb hG iX5 hown hX.1 hP 13 rfl rfl 2 (by decide) (hG _ wf_X5_18) (fun _ h9 => h9) rfl dX5_placeFlange_75 ?_
      refine lv_iload_n hx hb dX5_placeFlange_78 rfl (lv_at hl 3 rfl) ?_
      refine lv_iload hx hb dX5_placeFlange_79 (lv_at hl 5 rfl) ?_
      have J160 : ∀  (v159 : Int32) (H : Heap) (locs : List Loc) (ls : Array Slot), 0 ≤ v159.toInt ∧ v159.toInt ≤ 5 → va_P g.1 vwCl [(y1, .inr (4, [.int y1_count, .int y1_statements, .int y1_thick, .int y1_punch, .int y1_ups, .int y1_toolCount, .ref y1_toolWidth, .ref y1_told, .ref y1_name, .ref y1_parent, .ref y1_side, .ref y1_from, .ref y1_width, .ref y1_height, .ref y1_radius, .ref y1_toolSet])), (y1_parent, .inl (g.2.1.1, 9, .inl f_y1_parent)), (y1_radius, .inl (g.2.1.1, 9, .inl f_y1_radius)), (y1_side, .inl (g.2.1.1, 9, .inl f_y1_side)), (h0_normal, .inl (g.2.1.1, 18, .inl f13)), (y1_told, .inl (g.2.1.1, 10, .inl f_y1_told)), (h0_start, .inl (g.2.1.1, 3, .inl f_h0_start)), (y1_width, .inl (g.2.1.1, 9, .inl f_y1_width)), (y1_height, .inl (g.2.1.1, 9, .inl f_y1_height)), (h0_far, .inl (g.2.1.1, 3, .inl f_h0_far)), (h0_low, .inl (g.2.1.1, 54, .inl f_h0_low)), (h0_high, .inl (g.2.1.1, 54, .inl f_h0_high)), (h0_corner, .inl (g.2.1.1, 27, .inl f_h0_corner)), (h0, .inr (5, [.ref h0_low, .ref h0_high, .ref h0_normal, .ref h0_corner, .ref h0_east, .ref h0_north, .ref h0_start, .ref h0_far])), (h0_east, .inl (g.2.1.1, 9, .inl f_h0_east)), (h0_north, .inl (g.2.1.1, 9, .inl f_h0_north))] H → va_D A [(y1, .inr (4, [.int y1_count, .int y1_statements, .int y1_thick, .int y1_punch, .int y1_ups, .int y1_toolCount, .ref y1_toolWidth, .ref y1_told, .ref y1_name, .ref y1_parent, .ref y1_side, .ref y1_from, .ref y1_width, .ref y1_height, .ref y1_radius, .ref y1_toolSet])), (y1_parent, .inl (g.2.1.1, 9, .inl f_y1_parent)), (y1_radius, .inl (g.2.1.1, 9, .inl f_y1_radius)), (y1_side, .inl (g.2.1.1, 9, .inl f_y1_side)), (h0_normal, .inl (g.2.1.1, 18, .inl f13)), (y1_told, .inl (g.2.1.1, 10, .inl f_y1_told)), (h0_start, .inl (g.2.1.1, 3, .inl f_h0_start)), (y1_width, .inl (g.2.1.1, 9, .inl f_y1_width)), (y1_height, .inl (g.2.1.1, 9, .inl f_y1_height)), (h0_far, .inl (g.2.1.1, 3, .inl f_h0_far)), (h0_low, .inl (g.2.1.1, 54, .inl f_h0_low)), (h0_high, .inl (g.2.1.1, 54, .inl f_h0_high)), (h0_corner, .inl (g.2.1.1, 27, .inl f_h0_corner)), (h0, .inr (5, [.ref h0_low, .ref h0_high, .ref h0_normal, .ref h0_corner, .ref h0_east, .ref h0_north, .ref h0_start, .ref h0_far])), (h0_east, .inl (g.2.1.1, 9, .inl f_h0_east)), (h0_north, .inl (g.2.1.1, 9, .inl f_h0_north))] → va_S A s.heap H locs → lv_has ls 11 [(0, .ref h0), (1, .ref y1), (2, .int x2), (3, .int x3), (4, .int x4), (5, .int z1), (6, .int z5), (7, .int r8), (8, .int v153)] → W p l e rm_kX5_placeFlange s m args below meth c H locs 0 0 Q (F0 m 94 ls [.int v159, .int x2, .ref h0_normal]) := by
        intro v159 H locs ls i161 hP hD hS hl
        refine va_iast hx hb hX.1 hP hD hS 4 0 rfl rfl (zin (rfl : x2.toInt = _) (ox_159 f4 hy0 hy12 hy3 i3)) dX5_placeFlange_94 (fun H locs hP hD hS => ?_)
        obtain ⟨f162, e163⟩ : ∃ z9 : Nat → Int32, z9 = upd f13 x2.toNatClampNeg v159 := ⟨_, rfl⟩
        rw [← e163] at hP hD
        have hf164 : aI 0 5 f162 := hf15.up e163 (rfl : v159.toInt = _) (ox_48 i161)
        have hP : va_P g.1 vwCl [(y1, .inr (4, [.int y1_count, .int y1_statements, .int y1_thick, .int y1_punch, .int y1_ups, .int y1_toolCount, .ref y1_toolWidth, .ref y1_told, .ref y1_name, .ref y1_parent, .ref y1_side, .ref y1_from, .ref y1_width, .ref y1_height, .ref y1_radius, .ref y1_toolSet])), (y1_parent, .inl (g.2.1.1, 9, .inl f_y1_parent)), (y1_radius, .inl (g.2.1.1, 9, .inl f_y1_radius)), (y1_side, .inl (g.2.1.1, 9, .inl f_y1_side)), (h0_normal, .inl (g.2.1.1, 18, .inl f162)), (y1_told, .inl (g.2.1.1, 10, .inl f_y1_told)), (h0_start, .inl (g.2.1.1, 3, .inl f_h0_start)), (y1_width, .inl (g.2.1.1, 9, .inl f_y1_width)), (y1_height, .inl (g.2.1.1, 9, .inl f_y1_height)), (h0_far, .inl (g.2.1.1, 3, .inl f_h0_far)), (h0_low, .inl (g.2.1.1, 54, .inl f_h0_low)), (h0_high, .inl (g.2.1.1, 54, .inl f_h0_high)), (h0_corner, .inl (g.2.1.1, 27, .inl f_h0_corner)), (h0, .inr (5, [.ref h0_low, .ref h0_high, .ref h0_normal, .ref h0_corner, .ref h0_east, .ref h0_north, .ref h0_start, .ref h0_far])), (h0_east, .inl (g.2.1.1, 9, .inl f_h0_east)), (h0_north, .inl (g.2.1.1, 9, .inl f_h0_north))] H := hP
        have hD : va_D A [(y1, .inr (4, [.int y1_count, .int y1_statements, .int y1_thick, .int y1_punch, .int y1_ups, .int y1_toolCount, .ref y1_toolWidth, .ref y1_told, .ref y1_name, .ref y1_parent, .ref y1_side, .ref y1_from, .ref y1_width, .ref y1_height, .ref y1_radius, .ref y1_toolSet])), (y1_parent, .inl (g.2.1.1, 9, .inl f_y1_parent)), (y1_radius, .inl (g.2.1.1, 9, .inl f_y1_radius)), (y1_side, .inl (g.2.1.1, 9, .inl f_y1_side)), (h0_normal, .inl (g.2.1.1, 18, .inl f162)), (y1_told, .inl (g.2.1.1, 10, .inl f_y1_told)), (h0_start, .inl (g.2.1.1, 3, .inl f_h0_start)), (y1_width, .inl (g.2.1.1, 9, .inl f_y1_width)), (y1_height, .inl (g.2.1.1, 9, .inl f_y1_height)), (h0_far, .inl (g.2.1.1, 3, .inl f_h0_far)), (h0_low, .inl (g.2.1.1, 54, .inl f_h0_low)), (h0_high, .inl (g.2.1.1, 54, .inl f_h0_high)), (h0_corner, .inl (g.2.1.1, 27, .inl f_h0_corner)), (h0, .inr (5, [.ref h0_low, .ref h0_high, .ref h0_normal, .ref h0_corner, .ref h0_east, .ref h0_north, .ref h0_start, .ref h0_far])), (h0_east, .inl (g.2.1.1, 9, .inl f_h0_east)), (h0_north, .inl (g.2.1.1, 9, .inl f_h0_north))] := hD
        refine lv_goto (tgt := 112) hx hb dX5_placeFlange_95 (by decide) ?_
        exact J55 v153 f162 f_h0_start H locs ls (ox_48 i155) hf164 (hP.sub [3, 4, 7, 8, 9, 10, 11, 12, 13, 14, 15, 0, 1, 2, 5, 6] rfl) (hD.sub [3, 4, 7, 8, 9, 10, 11, 12, 13, 14, 15, 0, 1, 2, 5, 6] (by decide) rfl) hS (lv_sub hl [0, 1, 2, 3, 4, 5, 6, 7, 8] rfl)
      refine lv_if_eq (tgt := 92) hx hb dX5_placeFlange_81 (by decide) (fun c165 => ?_) (fun c165 => ?_)
      · skip
        have c165i : x4.toInt = (0 : Int) := (zc_eq (rfl : x4.toInt = _) (show (0 : Int32).toInt = (0 : Int) from by decide)).mp c165
        refine lv_iload hx hb dX5_placeFlange_92 (lv_at hl 8 rfl) ?_
        exact J160 r8 H locs ls (ox_48 hq9) hP hD hS (lv_sub hl [1, 2, 3, 4, 5, 6, 7, 8, 0] rfl)
      · skip
        have c165i : ¬ (x4.toInt = (0 : Int)) := fun q => c165 ((zc_eq (rfl : x4.toInt = _) (show (0 : Int32).toInt = (0 : Int) from by decide)).mpr q)
        refine lv_iload hx hb dX5_placeFlange_84 (lv_at hl 8 rfl) ?_
        refine zfi (wr := [(y1, .inr (4, [.int y1_count, .int y1_statements, .int y1_thick, .int y1_punch, .int y1_ups, .int y1_toolCount, .ref y1_toolWidth, .ref y1_told, .ref y1_name, .ref y1_parent, .ref y1_side, .ref y1_from, .ref y1_width, .ref y1_height, .ref y1_radius, .ref y1_toolSet])), (y1_parent, .inl (g.2.1.1, 9, .inl f_y1_parent)), (y1_radius, .inl (g.2.1.1, 9, .inl f_y1_radius)), (y1_side, .inl (g.2.1.1, 9, .inl f_y1_side)), (h0_normal, .inl (g.2.1.1, 18, .inl f13)), (y1_told, .inl (g.2.1.1, 10, .inl f_y1_told)), (h0_start, .inl (g.2.1.1, 3, .inl f_h0_start)), (y1_width, .inl (g.2.1.1, 9, .inl f_y1_width)), (y1_height, .inl (g.2.1.1, 9, .inl f_y1_height)), (h0_far, .inl (g.2.1.1, 3, .inl f_h0_far)), (h0_low, .inl (g.2.1.1, 54, .inl f_h0_low)), (h0_high, .inl (g.2.1.1, 54, .inl f_h0_high)), (h0_corner, .inl (g.2.1.1, 27, .inl f_h0_corner)), (h0, .inr (5, [.ref h0_low, .ref h0_high, .ref h0_normal, .ref h0_corner, .ref h0_east, .ref h0_north, .ref h0_start, .ref h0_far])), (h0_east, .inl (g.2.1.1, 9, .inl f_h0_east)), (h0_north, .inl (g.2.1.1, 9, .inl f_h0_north))]) (va_runS (As := [.int r8]) (rest := [.int x2, .ref h0_normal]) ⟨hx, hb, hml, hown, hG⟩ (kX5_against l g r8 (ox_48 hq9) _) ⟨callB_of 1 hG (zGood wc_X5_against) rfl rfl rfl (hG _ wini_X5) (hG _ wm_X5_95) hX5_against ⟨Nat.le_of_ble_eq_true rfl, Nat.le_of_ble_eq_true rfl⟩, hG _ ws_X5_against⟩ (zpreS hX hP hD hS hA [] rfl (by decide)) rfl rfl hl.1 rfl (lv_room (Nat.le_of_ble_eq_true rfl)) dX5_placeFlange_86 ⟨Nat.le_of_ble_eq_true rfl, Nat.le_of_ble_eq_true rfl⟩) hP hD hS hA [] [0, 1, 2, 3, 4, 5, 6, 7, 8, 9, 10, 11, 12, 13, 14, 15] rfl rfl (by decide) (by decide) (fun r166 _ H locs hp hP hD hS => ?_)
        refine W.cs (cells' := 0) (slots' := 0) rfl rfl ?_
        have hq167 : 0 ≤ r166.toInt ∧ r166.toInt ≤ 5 := hp
        have hP : va_P g.1 vwCl [(y1, .inr (4, [.int y1_count, .int y1_statements, .int y1_thick, .int y1_punch, .int y1_ups, .int y1_toolCount, .ref y1_toolWidth, .ref y1_told, .ref y1_name, .ref y1_parent, .ref y1_side, .ref y1_from, .ref y1_width, .ref y1_height, .ref y1_radius, .ref y1_toolSet])), (y1_parent, .inl (g.2.1.1, 9, .inl f_y1_parent)), (y1_radius, .inl (g.2.1.1, 9, .inl f_y1_radius)), (y1_side, .inl (g.2.1.1, 9, .inl f_y1_side)), (h0_normal, .inl (g.2.1.1, 18, .inl f13)), (y1_told, .inl (g.2.1.1, 10, .inl f_y1_told)), (h0_start, .inl (g.2.1.1, 3, .inl f_h0_start)), (y1_width, .inl (g.2.1.1, 9, .inl f_y1_width)), (y1_height, .inl (g.2.1.1, 9, .inl f_y1_height)), (h0_far, .inl (g.2.1.1, 3, .inl f_h0_far)), (h0_low, .inl (g.2.1.1, 54, .inl f_h0_low)), (h0_high, .inl (g.2.1.1, 54, .inl f_h0_high)), (h0_corner, .inl (g.2.1.1, 27, .inl f_h0_corner)), (h0, .inr (5, [.ref h0_low, .ref h0_high, .ref h0_normal, .ref h0_corner, .ref h0_east, .ref h0_north, .ref h0_start, .ref h0_far])), (h0_east, .inl (g.2.1.1, 9, .inl f_h0_east)), (h0_north, .inl (g.2.1.1, 9, .inl f_h0_north))] H := hP
        have hD : va_D A [(y1, .inr (4, [.int y1_count, .int y1_statements, .int y1_thick, .int y1_punch, .int y1_ups, .int y1_toolCount, .ref y1_toolWidth, .ref y1_told, .ref y1_name, .ref y1_parent, .ref y1_side, .ref y1_from, .ref y1_width, .ref y1_height, .ref y1_radius, .ref y1_toolSet])), (y1_parent, .inl (g.2.1.1, 9, .inl f_y1_parent)), (y1_radius, .inl (g.2.1.1, 9, .inl f_y1_radius)), (y1_side, .inl (g.2.1.1, 9, .inl f_y1_side)), (h0_normal, .inl (g.2.1.1, 18, .inl f13)), (y1_told, .inl (g.2.1.1, 10, .inl f_y1_told)), (h0_start, .inl (g.2.1.1, 3, .inl f_h0_start)), (y1_width, .inl (g.2.1.1, 9, .inl f_y1_width)), (y1_height, .inl (g.2.1.1, 9, .inl f_y1_height)), (h0_far, .inl (g.2.1.1, 3, .inl f_h0_far)), (h0_low, .inl (g.2.1.1, 54, .inl f_h0_low)), (h0_high, .inl (g.2.1.1, 54, .inl f_h0_high)), (h0_corner, .inl (g.2.1.1, 27, .inl f_h0_corner)), (h0, .inr (5, [.ref h0_low, .ref h0_high, .ref h0_normal, .ref h0_corner, .ref h0_east, .ref h0_north, .ref h0_start, .ref h0_far])), (h0_east, .inl (g.2.1.1, 9, .inl f_h0_east)), (h0_north, .inl (g.2.1.1, 9, .inl f_h0_north))] := hD
        refine lv_goto (tgt := 94) hx hb dX5_placeFlange_89 (by decide) ?_
        exact J160 r166 H locs ls (ox_48 hq167) hP hD hS (lv_sub hl [1, 2, 3, 4, 5, 6, 7, 8, 0] rfl)
    refine lv_if_eq (tgt := 62) hx hb dX5_placeFlange_49 (by decide) (fun c168 => ?_) (fun c168 => ?_)
    · skip
      have c168i : x4.toInt = (0 : Int) := (zc_eq (rfl : x4.toInt = _) (show (0 : Int32).toInt = (0 : Int) from by decide)).mp c168
      refine lv_aload_n hx hb dX5_placeFlange_62 rfl (lv_at hl 4 rfl) ?_
      refine va_get (D := g.1) (ci := 5) (v := .ref h0_normal) (C := RX5) (T := TX5) (N := 8) hx hb hG iX5 hown hX.1 hP 13 rfl rfl 2 (by decide) (hG _ wf_X5_18) (fun _ h9 => h9) rfl dX5_placeFlange_63 ?_
      refine lv_iload hx hb dX5_placeFlange_66 (lv_at hl 3 rfl) ?_
      refine va_iald hx hb hX.1 hP 4 0 rfl rfl (zin (rfl : z1.toInt = _) (ox_158 f4 hy0 hy12 hy3 i3)) dX5_placeFlange_68 ?_
      refine lv_topi (fun z169 e170 => ?_)
      have i171 : 0 ≤ z169.toInt ∧ z169.toInt ≤ 5 := hf15.at e170
      refine zfi (wr := [(y1, .inr (4, [.int y1_count, .int y1_statements, .int y1_thick, .int y1_punch, .int y1_ups, .int y1_toolCount, .ref y1_toolWidth, .ref y1_told, .ref y1_name, .ref y1_parent, .ref y1_side, .ref y1_from, .ref y1_width, .ref y1_height, .ref y1_radius, .ref y1_toolSet])), (y1_parent, .inl (g.2.1.1, 9, .inl f_y1_parent)), (y1_radius, .inl (g.2.1.1, 9, .inl f_y1_radius)), (y1_side, .inl (g.2.1.1, 9, .inl f_y1_side)), (h0_normal, .inl (g.2.1.1, 18, .inl f13)), (y1_told, .inl (g.2.1.1, 10, .inl f_y1_told)), (h0_start, .inl (g.2.1.1, 3, .inl f_h0_start)), (y1_width, .inl (g.2.1.1, 9, .inl f_y1_width)), (y1_height, .inl (g.2.1.1, 9, .inl f_y1_height)), (h0_far, .inl (g.2.1.1, 3, .inl f_h0_far)), (h0_low, .inl (g.2.1.1, 54, .inl f_h0_low)), (h0_high, .inl (g.2.1.1, 54, .inl f_h0_high)), (h0_corner, .inl (g.2.1.1, 27, .inl f_h0_corner)), (h0, .inr (5, [.ref h0_low, .ref h0_high, .ref h0_normal, .ref h0_corner, .ref h0_east, .ref h0_north, .ref h0_start, .ref h0_far])), (h0_east, .inl (g.2.1.1, 9, .inl f_h0_east)), (h0_north, .inl (g.2.1.1, 9, .inl f_h0_north))]) (va_runS (As := [.int z169]) (rest := []) ⟨hx, hb, hml, hown, hG⟩ (kX5_against l g z169 (ox_48 i171) _) ⟨callB_of 1 hG (zGood wc_X5_against) rfl rfl rfl (hG _ wini_X5) (hG _ wm_X5_95) hX5_against ⟨Nat.le_of_ble_eq_true rfl, Nat.le_of_ble_eq_true rfl⟩, hG _ ws_X5_against⟩ (zpreS hX hP hD hS hA [] rfl (by decide)) rfl rfl hl.1 rfl (lv_room (Nat.le_of_ble_eq_true rfl)) dX5_placeFlange_69 ⟨Nat.le_of_ble_eq_true rfl, Nat.le_of_ble_eq_true rfl⟩) hP hD hS hA [] [0, 1, 2, 3, 4, 5, 6, 7, 8, 9, 10, 11, 12, 13, 14, 15] rfl rfl (by decide) (by decide) (fun r172 _ H locs hp hP hD hS => ?_)
      refine W.cs (cells' := 0) (slots' := 0) rfl rfl ?_
      have hq173 : 0 ≤ r172.toInt ∧ r172.toInt ≤ 5 := hp
      have hP : va_P g.1 vwCl [(y1, .inr (4, [.int y1_count, .int y1_statements, .int y1_thick, .int y1_punch, .int y1_ups, .int y1_toolCount, .ref y1_toolWidth, .ref y1_told, .ref y1_name, .ref y1_parent, .ref y1_side, .ref y1_from, .ref y1_width, .ref y1_height, .ref y1_radius, .ref y1_toolSet])), (y1_parent, .inl (g.2.1.1, 9, .inl f_y1_parent)), (y1_radius, .inl (g.2.1.1, 9, .inl f_y1_radius)), (y1_side, .inl (g.2.1.1, 9, .inl f_y1_side)), (h0_normal, .inl (g.2.1.1, 18, .inl f13)), (y1_told, .inl (g.2.1.1, 10, .inl f_y1_told)), (h0_start, .inl (g.2.1.1, 3, .inl f_h0_start)), (y1_width, .inl (g.2.1.1, 9, .inl f_y1_width)), (y1_height, .inl (g.2.1.1, 9, .inl f_y1_height)), (h0_far, .inl (g.2.1.1, 3, .inl f_h0_far)), (h0_low, .inl (g.2.1.1, 54, .inl f_h0_low)), (h0_high, .inl (g.2.1.1, 54, .inl f_h0_high)), (h0_corner, .inl (g.2.1.1, 27, .inl f_h0_corner)), (h0, .inr (5, [.ref h0_low, .ref h0_high, .ref h0_normal, .ref h0_corner, .ref h0_east, .ref h0_north, .ref h0_start, .ref h0_far])), (h0_east, .inl (g.2.1.1, 9, .inl f_h0_east)), (h0_north, .inl (g.2.1.1, 9, .inl f_h0_north))] H := hP
      have hD : va_D A [(y1, .inr (4, [.int y1_count, .int y1_statements, .int y1_thick, .int y1_punch, .int y1_ups, .int y1_toolCount, .ref y1_toolWidth, .ref y1_told, .ref y1_name, .ref y1_parent, .ref y1_side, .ref y1_from, .ref y1_width, .ref y1_height, .ref y1_radius, .ref y1_toolSet])), (y1_parent, .inl (g.2.1.1, 9, .inl f_y1_parent)), (y1_radius, .inl (g.2.1.1, 9, .inl f_y1_radius)), (y1_side, .inl (g.2.1.1, 9, .inl f_y1_side)), (h0_normal, .inl (g.2.1.1, 18, .inl f13)), (y1_told, .inl (g.2.1.1, 10, .inl f_y1_told)), (h0_start, .inl (g.2.1.1, 3, .inl f_h0_start)), (y1_width, .inl (g.2.1.1, 9, .inl f_y1_width)), (y1_height, .inl (g.2.1.1, 9, .inl f_y1_height)), (h0_far, .inl (g.2.1.1, 3, .inl f_h0_far)), (h0_low, .inl (g.2.1.1, 54, .inl f_h0_low)), (h0_high, .inl (g.2.1.1, 54, .inl f_h0_high)), (h0_corner, .inl (g.2.1.1, 27, .inl f_h0_corner)), (h0, .inr (5, [.ref h0_low, .ref h0_high, .ref h0_normal, .ref h0_corner, .ref h0_east, .ref h0_north, .ref h0_start, .ref h0_far])), (h0_east, .inl (g.2.1.1, 9, .inl f_h0_east)), (h0_north, .inl (g.2.1.1, 9, .inl f_h0_north))] := hD
      exact J154 r172 H locs ls (ox_48 hq173) hP hD hS (lv_sub hl [4, 5, 6, 7, 8, 3, 2, 1, 0] rfl)
    · skip
      have c168i : ¬ (x4.toInt = (0 : Int)) := fun q => c168 ((zc_eq (rfl : x4.toInt = _) (show (0 : Int32).toInt = (0 : Int) from by decide)).mpr q)
      refine lv_aload_n hx hb dX5_placeFlange_52 rfl (lv_at hl 4 rfl) ?_
      refine va_get (D := g.1) (ci := 5) (v := .ref h0_normal) (C := RX5) (T := TX5) (N := 8) hx hb hG iX5 hown hX.1 hP 13 rfl rfl 2 (by decide) (hG _ wf_X5_18) (fun _ h9 => h9) rfl dX5_placeFlange_53 ?_
      refine lv_iload hx hb dX5_placeFlange_56 (lv_at hl 3 rfl) ?_
      refine va_iald hx hb hX.1 hP 4 0 rfl rfl (zin (rfl : z1.toInt = _) (ox_158 f4 hy0 hy12 hy3 i3)) dX5_placeFlange_58 ?_
      refine lv_topi (fun z174 e175 => ?_)
      have i176 : 0 ≤ z174.toInt ∧ z174.toInt ≤ 5 := hf15.at e175
      refine lv_goto (tgt := 72) hx hb dX5_placeFlange_59 (by decide) ?_
      exact J154 z174 H locs ls (ox_48 i176) hP hD hS (lv_sub hl [4, 5, 6, 7, 8, 3, 2, 1, 0] rfl)
theorem dX5_place_0 : decode cX5_place 0 = .ok (.aload_n 0, 1) := by decide +kernel
theorem dX5_place_1 : decode cX5_place 1 = .ok (.aload_n 1, 1) := by decide +kernel
theorem dX5_place_2 : decode cX5_place 2 = .ok (.invokevirtual 36, 3) := by decide +kernel
theorem dX5_place_5 : decode cX5_place 5 = .ok (.iconst 1, 1) := by decide +kernel
theorem dX5_place_6 : decode cX5_place 6 = .ok (.istore 4, 2) := by decide +kernel
theorem dX5_place_8 : decode cX5_place 8 = .ok (.iload 4, 2) := by decide +kernel
theorem dX5_place_10 : decode cX5_place 10 = .ok (.aload_n 1, 1) := by decide +kernel
theorem dX5_place_11 : decode cX5_place 11 = .ok (.getfield 40, 3) := by decide +kernel
theorem dX5_place_14 : decode cX5_place 14 = .ok (.if_icmp .ge 35, 3) := by decide +kernel
theorem dX5_place_49 : decode cX5_place 49 = .ok (.return_, 1) := by decide +kernel
theorem dX5_place_17 : decode cX5_place 17 = .ok (.aload_n 0, 1) := by decide +kernel
theorem dX5_place_18 : decode cX5_place 18 = .ok (.aload_n 1, 1) := by decide +kernel
theorem dX5_place_19 : decode cX5_place 19 = .ok (.iload 4, 2) := by decide +kernel
theorem dX5_place_21 : decode cX5_place 21 = .ok (.invokevirtual 46, 3) := by decide +kernel
theorem dX5_place_24 : decode cX5_place 24 = .ok (.aload_n 0, 1) := by decide +kernel
theorem dX5_place_25 : decode cX5_place 25 = .ok (.aload_n 1, 1) := by decide +kernel
theorem dX5_place_26 : decode cX5_place 26 = .ok (.iload 4, 2) := by decide +kernel
theorem dX5_place_28 : decode cX5_place 28 = .ok (.iload 4, 2) := by decide +kernel
theorem dX5_place_30 : decode cX5_place 30 = .ok (.iload_n 2, 1) := by decide +kernel
theorem dX5_place_31 : decode cX5_place 31 = .ok (.invokestatic 50, 3) := by decide +kernel
theorem dX5_place_34 : decode cX5_place 34 = .ok (.iload 4, 2) := by decide +kernel
theorem dX5_place_36 : decode cX5_place 36 = .ok (.iload_n 3, 1) := by decide +kernel
theorem dX5_place_37 : decode cX5_place 37 = .ok (.invokestatic 50, 3) := by decide +kernel
theorem dX5_place_40 : decode cX5_place 40 = .ok (.invokevirtual 54, 3) := by decide +kernel
theorem dX5_place_43 : decode cX5_place 43 = .ok (.iinc 4 1, 3) := by decide +kernel
theorem dX5_place_46 : decode cX5_place 46 = .ok (.goto (-38), 3) := by decide +kernel
abbrev rm_kX5_place : Room := { frames := 3, cells := 0, slots := 0, locals := 78 }
set_option maxHeartbeats 4000000 in
set_option maxRecDepth 100000 in
theorem kX5_place (l : Launch) (g : zL) (h0 : Nat) (y1 : Nat) (x2 : Int32) (x3 : Int32) (y1_count : Int32) (y1_statements : Int32) (y1_thick : Int32) (y1_punch : Int32) (y1_ups : Int32) (y1_toolCount : Int32) (y1_toolWidth : Nat) (y1_told : Nat) (y1_name : Nat) (y1_parent : Nat) (y1_side : Nat) (y1_from : Nat) (y1_width : Nat) (y1_height : Nat) (y1_radius : Nat) (y1_toolSet : Nat) (f_y1_parent : Nat → Int32) (f_y1_radius : Nat → Int32) (h0_low : Nat) (h0_high : Nat) (h0_normal : Nat) (h0_corner : Nat) (h0_east : Nat) (h0_north : Nat) (h0_start : Nat) (h0_far : Nat) (f_h0_start : Nat → Int32) (f_h0_corner : Nat → Int32) (f_h0_east : Nat → Int32) (f_h0_north : Nat → Int32) (f_h0_normal : Nat → Int32) (f_y1_width : Nat → Int32) (f_y1_height : Nat → Int32) (f_h0_far : Nat → Int32) (f_h0_low : Nat → Int32) (f_h0_high : Nat → Int32) (f_y1_side : Nat → Int32) (f_y1_from : Nat → Int32) (f_y1_told : Nat → Int32) (hy0 : 0 ≤ y1_count.toInt ∧ y1_count.toInt ≤ 9) (hy1 : 0 ≤ y1_toolCount.toInt ∧ y1_toolCount.toInt ≤ 8) (hy2 : aI 0 8 f_y1_parent) (hy3 : True) (hy4 : aI 0 5 f_h0_east) (hy5 : aI 0 5 f_h0_north) (hy6 : aI 0 5 f_h0_normal) (hy7 : aI 0 3 f_y1_side) (hy8 : pOK y1_count f_y1_parent f_y1_radius) : zCv l g yX5_place cX5_place 5 none rm_kX5_place [.ref h0, .ref y1, .int x2, .int x3] [(y1, .inr (4, [.int y1_count, .int y1_statements, .int y1_thick, .int y1_punch, .int y1_ups, .int y1_toolCount, .ref y1_toolWidth, .ref y1_told, .ref y1_name, .ref y1_parent, .ref y1_side, .ref y1_from, .ref y1_width, .ref y1_height, .ref y1_radius, .ref y1_toolSet])), (y1_parent, .inl (g.2.1.1, 9, .inl f_y1_parent)), (y1_radius, .inl (g.2.1.1, 9, .inl f_y1_radius)), (h0, .inr (5, [.ref h0_low, .ref h0_high, .ref h0_normal, .ref h0_corner, .ref h0_east, .ref h0_north, .ref h0_start, .ref h0_far])), (h0_start, .inl (g.2.1.1, 3, .inl f_h0_start)), (h0_corner, .inl (g.2.1.1, 27, .inl f_h0_corner)), (h0_east, .inl (g.2.1.1, 9, .inl f_h0_east)), (h0_north, .inl (g.2.1.1, 9, .inl f_h0_north)), (h0_normal, .inl (g.2.1.1, 18, .inl f_h0_normal)), (y1_width, .inl (g.2.1.1, 9, .inl f_y1_width)), (y1_height, .inl (g.2.1.1, 9, .inl f_y1_height)), (h0_far, .inl (g.2.1.1, 3, .inl f_h0_far)), (h0_low, .inl (g.2.1.1, 54, .inl f_h0_low)), (h0_high, .inl (g.2.1.1, 54, .inl f_h0_high)), (y1_side, .inl (g.2.1.1, 9, .inl f_y1_side)), (y1_from, .inl (g.2.1.1, 9, .inl f_y1_from)), (y1_told, .inl (g.2.1.1, 10, .inl f_y1_told))] (fun (u : (Nat → Int32) × (Nat → Int32) × (Nat → Int32) × (Nat → Int32) × (Nat → Int32) × (Nat → Int32) × (Nat → Int32) × (Nat → Int32)) => (aI 0 5 u.2.2.1) ∧ (aI 0 5 u.2.2.2.1) ∧ (aI 0 5 u.2.2.2.2.1)) (fun (u : (Nat → Int32) × (Nat → Int32) × (Nat → Int32) × (Nat → Int32) × (Nat → Int32) × (Nat → Int32) × (Nat → Int32) × (Nat → Int32)) => [(y1, .inr (4, [.int y1_count, .int y1_statements, .int y1_thick, .int y1_punch, .int y1_ups, .int y1_toolCount, .ref y1_toolWidth, .ref y1_told, .ref y1_name, .ref y1_parent, .ref y1_side, .ref y1_from, .ref y1_width, .ref y1_height, .ref y1_radius, .ref y1_toolSet])), (y1_parent, .inl (g.2.1.1, 9, .inl f_y1_parent)), (y1_radius, .inl (g.2.1.1, 9, .inl f_y1_radius)), (h0, .inr (5, [.ref h0_low, .ref h0_high, .ref h0_normal, .ref h0_corner, .ref h0_east, .ref h0_north, .ref h0_start, .ref h0_far])), (h0_start, .inl (g.2.1.1, 3, .inl u.1)), (h0_corner, .inl (g.2.1.1, 27, .inl u.2.1)), (h0_east, .inl (g.2.1.1, 9, .inl u.2.2.1)), (h0_north, .inl (g.2.1.1, 9, .inl u.2.2.2.1)), (h0_normal, .inl (g.2.1.1, 18, .inl u.2.2.2.2.1)), (y1_width, .inl (g.2.1.1, 9, .inl f_y1_width)), (y1_height, .inl (g.2.1.1, 9, .inl f_y1_height)), (h0_far, .inl (g.2.1.1, 3, .inl u.2.2.2.2.2.1)), (h0_low, .inl (g.2.1.1, 54, .inl u.2.2.2.2.2.2.1)), (h0_high, .inl (g.2.1.1, 54, .inl u.2.2.2.2.2.2.2)), (y1_side, .inl (g.2.1.1, 9, .inl f_y1_side)), (y1_from, .inl (g.2.1.1, 9, .inl f_y1_from)), (y1_told, .inl (g.2.1.1, 10, .inl f_y1_told))]) := by
  refine zCv.mk2 (by decide) (Nat.le_of_ble_eq_true rfl) ?_
  intro p e s m below meth c A args Q hE hret hP hD hS ls hl
  obtain ⟨hx, hb, hr, hml, hown, hG, hlocks, hnm, hX, hA⟩ := hE
  have hown : s.vm.findClass RX5 = some m.cls := hown
  have hl : lv_has ls 5 [(0, .ref h0), (1, .ref y1), (2, .int x2), (3, .int x3)] := hl
  refine lv_aload_n hx hb dX5_place_0 rfl (lv_at hl 0 rfl) ?_
  refine lv_aload_n hx hb dX5_place_1 rfl (lv_at hl 1 rfl) ?_
  refine zfv (wr := [(y1_parent, .inl (g.2.1.1, 9, .inl f_y1_parent)), (y1_radius, .inl (g.2.1.1, 9, .inl f_y1_radius)), (y1_side, .inl (g.2.1.1, 9, .inl f_y1_side)), (y1_from, .inl (g.2.1.1, 9, .inl f_y1_from)), (y1_told, .inl (g.2.1.1, 10, .inl f_y1_told))]) (va_runV (As := [.ref y1]) (rest := []) ⟨hx, hb, hml, hown, hG⟩ (kX5_placeBase l g h0 y1 h0_low h0_high h0_normal h0_corner h0_east h0_north h0_start h0_far f_h0_start f_h0_corner f_h0_east f_h0_north f_h0_normal y1_count y1_statements y1_thick y1_punch y1_ups y1_toolCount y1_toolWidth y1_told y1_name y1_parent y1_side y1_from y1_width y1_height y1_radius y1_toolSet f_y1_width f_y1_height f_h0_far f_h0_low f_h0_high hy4 hy5 hy6 (ox_0 hy0) (ox_1 hy1) _) ⟨callB_of 1 hG (zGood wc_X5_placeBase) rfl rfl rfl (hG _ wini_X5) (hG _ wm_X5_36) hX5_placeBase ⟨Nat.le_of_ble_eq_true rfl, Nat.le_of_ble_eq_true rfl⟩, hG _ wi_X5_placeBase, hG _ wse_X5_X5_placeBase⟩ (zpreV (va_recv hX.1 hP (ci := 5) (q0 := 3) rfl rfl) hX hP hD hS hA [3, 4, 5, 6, 7, 8, 0, 9, 10, 11, 12, 13] rfl (by decide)) rfl rfl hl.1 rfl (lv_room (Nat.le_of_ble_eq_true rfl)) dX5_place_2 ⟨Nat.le_of_ble_eq_true rfl, Nat.le_of_ble_eq_true rfl⟩) hP hD hS hA [3, 4, 5, 6, 7, 8, 0, 9, 10, 11, 12, 13] [1, 2, 14, 15, 16] rfl rfl (by decide) (by decide) (fun u2 H locs hp hP hD hS => ?_)
  refine W.cs (cells' := 0) (slots' := 0) rfl rfl ?_
  obtain ⟨f3, f4, f5, f6, f7, f8, f9, f10⟩ := u2
  obtain ⟨hq11, hq12, hq13⟩ : (aI 0 5 f5) ∧ (aI 0 5 f6) ∧ (aI 0 5 f7) := hp
  have hP : va_P g.1 vwCl [(y1_parent, .inl (g.2.1.1, 9, .inl f_y1_parent)), (y1_radius, .inl (g.2.1.1, 9, .inl f_y1_radius)), (y1_side, .inl (g.2.1.1, 9, .inl f_y1_side)), (y1_from, .inl (g.2.1.1, 9, .inl f_y1_from)), (y1_told, .inl (g.2.1.1, 10, .inl f_y1_told)), (h0, .inr (5, [.ref h0_low, .ref h0_high, .ref h0_normal, .ref h0_corner, .ref h0_east, .ref h0_north, .ref h0_start, .ref h0_far])), (h0_start, .inl (g.2.1.1, 3, .inl f3)), (h0_corner, .inl (g.2.1.1, 27, .inl f4)), (h0_east, .inl (g.2.1.1, 9, .inl f5)), (h0_north, .inl (g.2.1.1, 9, .inl f6)), (h0_normal, .inl (g.2.1.1, 18, .inl f7)), (y1, .inr (4, [.int y1_count, .int y1_statements, .int y1_thick, .int y1_punch, .int y1_ups, .int y1_toolCount, .ref y1_toolWidth, .ref y1_told, .ref y1_name, .ref y1_parent, .ref y1_side, .ref y1_from, .ref y1_width, .ref y1_height, .ref y1_radius, .ref y1_toolSet])), (y1_width, .inl (g.2.1.1, 9, .inl f_y1_width)), (y1_height, .inl (g.2.1.1, 9, .inl f_y1_height)), (h0_far, .inl (g.2.1.1, 3, .inl f8)), (h0_low, .inl (g.2.1.1, 54, .inl f9)), (h0_high, .inl (g.2.1.1, 54, .inl f10))] H := hP
  have hD : va_D A [(y1_parent, .inl (g.2.1.1, 9, .inl f_y1_parent)), (y1_radius, .inl (g.2.1.1, 9, .inl f_y1_radius)), (y1_side, .inl (g.2.1.1, 9, .inl f_y1_side)), (y1_from, .inl (g.2.1.1, 9, .inl f_y1_from)), (y1_told, .inl (g.2.1.1, 10, .inl f_y1_told)), (h0, .inr (5, [.ref h0_low, .ref h0_high, .ref h0_normal, .ref h0_corner, .ref h0_east, .ref h0_north, .ref h0_start, .ref h0_far])), (h0_start, .inl (g.2.1.1, 3, .inl f3)), (h0_corner, .inl (g.2.1.1, 27, .inl f4)), (h0_east, .inl (g.2.1.1, 9, .inl f5)), (h0_north, .inl (g.2.1.1, 9, .inl f6)), (h0_normal, .inl (g.2.1.1, 18, .inl f7)), (y1, .inr (4, [.int y1_count, .int y1_statements, .int y1_thick, .int y1_punch, .int y1_ups, .int y1_toolCount, .ref y1_toolWidth, .ref y1_told, .ref y1_name, .ref y1_parent, .ref y1_side, .ref y1_from, .ref y1_width, .ref y1_height, .ref y1_radius, .ref y1_toolSet])), (y1_width, .inl (g.2.1.1, 9, .inl f_y1_width)), (y1_height, .inl (g.2.1.1, 9, .inl f_y1_height)), (h0_far, .inl (g.2.1.1, 3, .inl f8)), (h0_low, .inl (g.2.1.1, 54, .inl f9)), (h0_high, .inl (g.2.1.1, 54, .inl f10))] := hD
  refine lv_iconst (v := 1) hx hb dX5_place_5 (by decide) ?_
  refine lv_istore (lv' := [(4, .int 1), (0, .ref h0), (1, .ref y1), (2, .int x2), (3, .int x3)]) hx hb dX5_place_6 hl (by decide) rfl (fun ls hl => ?_)
  have L294 : ∀ (n : Nat) (v257 : Int32) (fn258 : Nat → Int32) (fn259 : Nat → Int32) (fn260 : Nat → Int32) (fn261 : Nat → Int32) (fn262 : Nat → Int32) (fn263 : Nat → Int32) (fn264 : Nat → Int32) (fn265 : Nat → Int32) (H : Heap) (locs : List Loc) (ls : Array Slot), 1 ≤ v257.toInt ∧ v257.toInt ≤ 9 → aI 0 5 fn260 → aI 0 5 fn261 → aI 0 5 fn262 → (10 - v257.toInt).toNat < n → va_P g.1 vwCl [(y1_parent, .inl (g.2.1.1, 9, .inl f_y1_parent)), (y1_radius, .inl (g.2.1.1, 9, .inl f_y1_radius)), (y1_side, .inl (g.2.1.1, 9, .inl f_y1_side)), (y1_from, .inl (g.2.1.1, 9, .inl f_y1_from)), (y1_told, .inl (g.2.1.1, 10, .inl f_y1_told)), (h0, .inr (5, [.ref h0_low, .ref h0_high, .ref h0_normal, .ref h0_corner, .ref h0_east, .ref h0_north, .ref h0_start, .ref h0_far])), (h0_start, .inl (g.2.1.1, 3, .inl fn258)), (h0_corner, .inl (g.2.1.1, 27, .inl fn259)), (h0_east, .inl (g.2.1.1, 9, .inl fn260)), (h0_north, .inl (g.2.1.1, 9, .inl fn261)), (h0_normal, .inl (g.2.1.1, 18, .inl fn262)), (y1, .inr (4, [.int y1_count, .int y1_statements, .int y1_thick, .int y1_punch, .int y1_ups, .int y1_toolCount, .ref y1_toolWidth, .ref y1_told, .ref y1_name, .ref y1_parent, .ref y1_side, .ref y1_from, .ref y1_width, .ref y1_height, .ref y1_radius, .ref y1_toolSet])), (y1_width, .inl (g.2.1.1, 9, .inl f_y1_width)), (y1_height, .inl (g.2.1.1, 9, .inl f_y1_height)), (h0_far, .inl (g.2.1.1, 3, .inl fn263)), (h0_low, .inl (g.2.1.1, 54, .inl fn264)), (h0_high, .inl (g.2.1.1, 54, .inl fn265))] H → va_D A [(y1_parent, .inl (g.2.1.1, 9, .inl f_y1_parent)), (y1_radius, .inl (g.2.1.1, 9, .inl f_y1_radius)), (y1_side, .inl (g.2.1.1, 9, .inl f_y1_side)), (y1_from, .inl (g.2.1.1, 9, .inl f_y1_from)), (y1_told, .inl (g.2.1.1, 10, .inl f_y1_told)), (h0, .inr (5, [.ref h0_low, .ref h0_high, .ref h0_normal, .ref h0_corner, .ref h0_east, .ref h0_north, .ref h0_start, .ref h0_far])), (h0_start, .inl (g.2.1.1, 3, .inl fn258)), (h0_corner, .inl (g.2.1.1, 27, .inl fn259)), (h0_east, .inl (g.2.1.1, 9, .inl fn260)), (h0_north, .inl (g.2.1.1, 9, .inl fn261)), (h0_normal, .inl (g.2.1.1, 18, .inl fn262)), (y1, .inr (4, [.int y1_count, .int y1_statements, .int y1_thick, .int y1_punch, .int y1_ups, .int y1_toolCount, .ref y1_toolWidth, .ref y1_told, .ref y1_name, .ref y1_parent, .ref y1_side, .ref y1_from, .ref y1_width, .ref y1_height, .ref y1_radius, .ref y1_toolSet])), (y1_width, .inl (g.2.1.1, 9, .inl f_y1_width)), (y1_height, .inl (g.2.1.1, 9, .inl f_y1_height)), (h0_far, .inl (g.2.1.1, 3, .inl fn263)), (h0_low, .inl (g.2.1.1, 54, .inl fn264)), (h0_high, .inl (g.2.1.1, 54, .inl fn265))] → va_S A s.heap H locs → lv_has ls 5 [(0, .ref h0), (1, .ref y1), (2, .int x2), (3, .int x3), (4, .int v257)] → W p l e rm_kX5_place s m args below meth c H locs 0 0 Q (F0 m 8 ls []) := by
    intro n295
    induction n295 with
    | zero => intro v257 fn258 fn259 fn260 fn261 fn262 fn263 fn264 fn265 H locs ls i297 hf298 hf299 hf300 hm301; exact absurd hm301 (Nat.not_lt_zero _)
    | succ n295 ih296 =>
      intro v257 fn258 fn259 fn260 fn261 fn262 fn263 fn264 fn265 H locs ls i297 hf298 hf299 hf300 hm301 hP hD hS hl
      refine lv_iload hx hb dX5_place_8 (lv_at hl 4 rfl) ?_
      refine lv_aload_n hx hb dX5_place_10 rfl (lv_at hl 1 rfl) ?_
      refine va_getN (D := g.1) (ci := 4) (v := .int y1_count) (C := RX4) (T := TX4) (N := 16) hx hb hG iX4 hown hX.1 hP 11 rfl rfl 0 (by decide) (hX.2.1.fl wfn_X5_40) (fun _ h9 => h9) rfl dX5_place_11 ?_
      refine lv_icmp_ge (tgt := 49) hx hb dX5_place_14 (by decide) (fun c302 => ?_) (fun c302 => ?_)
      · skip
        have c302i : y1_count.toInt ≤ v257.toInt := (zc_le (rfl : y1_count.toInt = _) (rfl : v257.toInt = _)).mp c302
        exact hret (fn258, fn259, fn260, fn261, fn262, fn263, fn264, fn265) (Nat.le_of_ble_eq_true rfl) (Nat.le_of_ble_eq_true rfl) ⟨hf298, hf299, hf300⟩ (hP.sub [11, 0, 1, 5, 6, 7, 8, 9, 10, 12, 13, 14, 15, 16, 2, 3, 4] rfl) (hD.sub [11, 0, 1, 5, 6, 7, 8, 9, 10, 12, 13, 14, 15, 16, 2, 3, 4] (by decide) rfl) hS dX5_place_49
      · skip
        have c302i : ¬ (y1_count.toInt ≤ v257.toInt) := fun q => c302 ((zc_le (rfl : y1_count.toInt = _) (rfl : v257.toInt = _)).mpr q)
        refine lv_aload_n hx hb dX5_place_17 rfl (lv_at hl 0 rfl) ?_
        refine lv_aload_n hx hb dX5_place_18 rfl (lv_at hl 1 rfl) ?_
        refine lv_iload hx hb dX5_place_19 (lv_at hl 4 rfl) ?_
        refine zfv (wr := [(y1_radius, .inl (g.2.1.1, 9, .inl f_y1_radius)), (y1_told, .inl (g.2.1.1, 10, .inl f_y1_told)), (h0_normal, .inl (g.2.1.1, 18, .inl fn262)), (h0_far, .inl (g.2.1.1, 3, .inl fn263)), (h0_low, .inl (g.2.1.1, 54, .inl fn264)), (h0_high, .inl (g.2.1.1, 54, .inl fn265))]) (va_runV (As := [.ref y1, .int v257]) (rest := []) ⟨hx, hb, hml, hown, hG⟩ (kX5_goToSide l g h0 y1 v257 y1_count y1_statements y1_thick y1_punch y1_ups y1_toolCount y1_toolWidth y1_told y1_name y1_parent y1_side y1_from y1_width y1_height y1_radius y1_toolSet f_y1_parent f_y1_side h0_low h0_high h0_normal h0_corner h0_east h0_north h0_start h0_far fn259 fn258 fn261 fn260 f_y1_from f_y1_height f_y1_width (ox_15 c302i hy0 i297) (ox_16 c302i hy0 i297) (ox_1 hy1) hy2 hy7 hf299 hf298 _) ⟨callB_of 2 hG (zGood wc_X5_goToSide) rfl rfl rfl (hG _ wini_X5) (hG _ wm_X5_46) hX5_goToSide ⟨Nat.le_of_ble_eq_true rfl, Nat.le_of_ble_eq_true rfl⟩, hG _ wi_X5_goToSide, hG _ wse_X5_X5_goToSide⟩ (zpreV (va_recv hX.1 hP (ci := 5) (q0 := 5) rfl rfl) hX hP hD hS hA [11, 0, 2, 5, 7, 6, 9, 8, 3, 13, 12] rfl (by decide)) rfl rfl hl.1 rfl (lv_room (Nat.le_of_ble_eq_true rfl)) dX5_place_21 ⟨Nat.le_of_ble_eq_true rfl, Nat.le_of_ble_eq_true rfl⟩) hP hD hS hA [11, 0, 2, 5, 7, 6, 9, 8, 3, 13, 12] [1, 4, 10, 14, 15, 16] rfl rfl (by decide) (by decide) (fun u304 H locs hp hP hD hS => ?_)
        refine W.cs (cells' := 0) (slots' := 0) rfl rfl ?_
        obtain ⟨f305, rfl⟩ : ∃ z9, z9 = u304 := ⟨_, rfl⟩
        have hP : va_P g.1 vwCl [(y1_radius, .inl (g.2.1.1, 9, .inl f_y1_radius)), (y1_told, .inl (g.2.1.1, 10, .inl f_y1_told)), (h0_normal, .inl (g.2.1.1, 18, .inl fn262)), (h0_far, .inl (g.2.1.1, 3, .inl fn263)), (h0_low, .inl (g.2.1.1, 54, .inl fn264)), (h0_high, .inl (g.2.1.1, 54, .inl fn265)), (y1, .inr (4, [.int y1_count, .int y1_statements, .int y1_thick, .int y1_punch, .int y1_ups, .int y1_toolCount, .ref y1_toolWidth, .ref y1_told, .ref y1_name, .ref y1_parent, .ref y1_side, .ref y1_from, .ref y1_width, .ref y1_height, .ref y1_radius, .ref y1_toolSet])), (y1_parent, .inl (g.2.1.1, 9, .inl f_y1_parent)), (y1_side, .inl (g.2.1.1, 9, .inl f_y1_side)), (h0, .inr (5, [.ref h0_low, .ref h0_high, .ref h0_normal, .ref h0_corner, .ref h0_east, .ref h0_north, .ref h0_start, .ref h0_far])), (h0_corner, .inl (g.2.1.1, 27, .inl fn259)), (h0_start, .inl (g.2.1.1, 3, .inl f305)), (h0_north, .inl (g.2.1.1, 9, .inl fn261)), (h0_east, .inl (g.2.1.1, 9, .inl fn260)), (y1_from, .inl (g.2.1.1, 9, .inl f_y1_from)), (y1_height, .inl (g.2.1.1, 9, .inl f_y1_height)), (y1_width, .inl (g.2.1.1, 9, .inl f_y1_width))] H := hP
        have hD : va_D A [(y1_radius, .inl (g.2.1.1, 9, .inl f_y1_radius)), (y1_told, .inl (g.2.1.1, 10, .inl f_y1_told)), (h0_normal, .inl (g.2.1.1, 18, .inl fn262)), (h0_far, .inl (g.2.1.1, 3, .inl fn263)), (h0_low, .inl (g.2.1.1, 54, .inl fn264)), (h0_high, .inl (g.2.1.1, 54, .inl fn265)), (y1, .inr (4, [.int y1_count, .int y1_statements, .int y1_thick, .int y1_punch, .int y1_ups, .int y1_toolCount, .ref y1_toolWidth, .ref y1_told, .ref y1_name, .ref y1_parent, .ref y1_side, .ref y1_from, .ref y1_width, .ref y1_height, .ref y1_radius, .ref y1_toolSet])), (y1_parent, .inl (g.2.1.1, 9, .inl f_y1_parent)), (y1_side, .inl (g.2.1.1, 9, .inl f_y1_side)), (h0, .inr (5, [.ref h0_low, .ref h0_high, .ref h0_normal, .ref h0_corner, .ref h0_east, .ref h0_north, .ref h0_start, .ref h0_far])), (h0_corner, .inl (g.2.1.1, 27, .inl fn259)), (h0_start, .inl (g.2.1.1, 3, .inl f305)), (h0_north, .inl (g.2.1.1, 9, .inl fn261)), (h0_east, .inl (g.2.1.1, 9, .inl fn260)), (y1_from, .inl (g.2.1.1, 9, .inl f_y1_from)), (y1_height, .inl (g.2.1.1, 9, .inl f_y1_height)), (y1_width, .inl (g.2.1.1, 9, .inl f_y1_width))] := hD
        refine lv_aload_n hx hb dX5_place_24 rfl (lv_at hl 0 rfl) ?_
        refine lv_aload_n hx hb dX5_place_25 rfl (lv_at hl 1 rfl) ?_
        refine lv_iload hx hb dX5_place_26 (lv_at hl 4 rfl) ?_
        refine lv_iload hx hb dX5_place_28 (lv_at hl 4 rfl) ?_
        refine lv_iload_n hx hb dX5_place_30 rfl (lv_at hl 2 rfl) ?_
        refine zfi (wr := [(y1_radius, .inl (g.2.1.1, 9, .inl f_y1_radius)), (y1_told, .inl (g.2.1.1, 10, .inl f_y1_told)), (h0_normal, .inl (g.2.1.1, 18, .inl fn262)), (h0_far, .inl (g.2.1.1, 3, .inl fn263)), (h0_low, .inl (g.2.1.1, 54, .inl fn264)), (h0_high, .inl (g.2.1.1, 54, .inl fn265)), (y1, .inr (4, [.int y1_count, .int y1_statements, .int y1_thick, .int y1_punch, .int y1_ups, .int y1_toolCount, .ref y1_toolWidth, .ref y1_told, .ref y1_name, .ref y1_parent, .ref y1_side, .ref y1_from, .ref y1_width, .ref y1_height, .ref y1_radius, .ref y1_toolSet])), (y1_parent, .inl (g.2.1.1, 9, .inl f_y1_parent)), (y1_side, .inl (g.2.1.1, 9, .inl f_y1_side)), (h0, .inr (5, [.ref h0_low, .ref h0_high, .ref h0_normal, .ref h0_corner, .ref h0_east, .ref h0_north, .ref h0_start, .ref h0_far])), (h0_corner, .inl (g.2.1.1, 27, .inl fn259)), (h0_start, .inl (g.2.1.1, 3, .inl f305)), (h0_north, .inl (g.2.1.1, 9, .inl fn261)), (h0_east, .inl (g.2.1.1, 9, .inl fn260)), (y1_from, .inl (g.2.1.1, 9, .inl f_y1_from)), (y1_height, .inl (g.2.1.1, 9, .inl f_y1_height)), (y1_width, .inl (g.2.1.1, 9, .inl f_y1_width))]) (va_runSN (As := [.int v257, .int x2]) (rest := [.int v257, .ref y1, .ref h0]) ⟨hx, hb, hml, hown, hG⟩ (kX8_isIn l g v257 x2 _) ⟨va_cnB 2 hG (zGood wc_X8_isIn) rfl rfl rfl (hX.2.1.ml wmn_X5_50) (hG _ wini_X8) hX8_isIn ⟨Nat.le_of_ble_eq_true rfl, Nat.le_of_ble_eq_true rfl⟩, hG _ ws_X8_isIn, trivial⟩ (zpreS hX hP hD hS hA [] rfl (by decide)) rfl rfl hl.1 rfl (lv_room (Nat.le_of_ble_eq_true rfl)) dX5_place_31 ⟨Nat.le_of_ble_eq_true rfl, Nat.le_of_ble_eq_true rfl⟩) hP hD hS hA [] [0, 1, 2, 3, 4, 5, 6, 7, 8, 9, 10, 11, 12, 13, 14, 15, 16] rfl rfl (by decide) (by decide) (fun r306 _ H locs hp hP hD hS => ?_)
        refine W.cs (cells' := 0) (slots' := 0) rfl rfl ?_
        have hq307 : 0 ≤ r306.toInt ∧ r306.toInt ≤ 1 := hp
        have hP : va_P g.1 vwCl [(y1_radius, .inl (g.2.1.1, 9, .inl f_y1_radius)), (y1_told, .inl (g.2.1.1, 10, .inl f_y1_told)), (h0_normal, .inl (g.2.1.1, 18, .inl fn262)), (h0_far, .inl (g.2.1.1, 3, .inl fn263)), (h0_low, .inl (g.2.1.1, 54, .inl fn264)), (h0_high, .inl (g.2.1.1, 54, .inl fn265)), (y1, .inr (4, [.int y1_count, .int y1_statements, .int y1_thick, .int y1_punch, .int y1_ups, .int y1_toolCount, .ref y1_toolWidth, .ref y1_told, .ref y1_name, .ref y1_parent, .ref y1_side, .ref y1_from, .ref y1_width, .ref y1_height, .ref y1_radius, .ref y1_toolSet])), (y1_parent, .inl (g.2.1.1, 9, .inl f_y1_parent)), (y1_side, .inl (g.2.1.1, 9, .inl f_y1_side)), (h0, .inr (5, [.ref h0_low, .ref h0_high, .ref h0_normal, .ref h0_corner, .ref h0_east, .ref h0_north, .ref h0_start, .ref h0_far])), (h0_corner, .inl (g.2.1.1, 27, .inl fn259)), (h0_start, .inl (g.2.1.1, 3, .inl f305)), (h0_north, .inl (g.2.1.1, 9, .inl fn261)), (h0_east, .inl (g.2.1.1, 9, .inl fn260)), (y1_from, .inl (g.2.1.1, 9, .inl f_y1_from)), (y1_height, .inl (g.2.1.1, 9, .inl f_y1_height)), (y1_width, .inl (g.2.1.1, 9, .inl f_y1_width))] H := hP
        have hD : va_D A [(y1_radius, .inl (g.2.1.1, 9, .inl f_y1_radius)), (y1_told, .inl (g.2.1.1, 10, .inl f_y1_told)), (h0_normal, .inl (g.2.1.1, 18, .inl fn262)), (h0_far, .inl (g.2.1.1, 3, .inl fn263)), (h0_low, .inl (g.2.1.1, 54, .inl fn264)), (h0_high, .inl (g.2.1.1, 54, .inl fn265)), (y1, .inr (4, [.int y1_count, .int y1_statements, .int y1_thick, .int y1_punch, .int y1_ups, .int y1_toolCount, .ref y1_toolWidth, .ref y1_told, .ref y1_name, .ref y1_parent, .ref y1_side, .ref y1_from, .ref y1_width, .ref y1_height, .ref y1_radius, .ref y1_toolSet])), (y1_parent, .inl (g.2.1.1, 9, .inl f_y1_parent)), (y1_side, .inl (g.2.1.1, 9, .inl f_y1_side)), (h0, .inr (5, [.ref h0_low, .ref h0_high, .ref h0_normal, .ref h0_corner, .ref h0_east, .ref h0_north, .ref h0_start, .ref h0_far])), (h0_corner, .inl (g.2.1.1, 27, .inl fn259)), (h0_start, .inl (g.2.1.1, 3, .inl f305)), (h0_north, .inl (g.2.1.1, 9, .inl fn261)), (h0_east, .inl (g.2.1.1, 9, .inl fn260)), (y1_from, .inl (g.2.1.1, 9, .inl f_y1_from)), (y1_height, .inl (g.2.1.1, 9, .inl f_y1_height)), (y1_width, .inl (g.2.1.1, 9, .inl f_y1_width))] := hD
        refine lv_iload hx hb dX5_place_34 (lv_at hl 4 rfl) ?_
        refine lv_iload_n hx hb dX5_place_36 rfl (lv_at hl 3 rfl) ?_
        refine zfi (wr := [(y1_radius, .inl (g.2.1.1, 9, .inl f_y1_radius)), (y1_told, .inl (g.2.1.1, 10, .inl f_y1_told)), (h0_normal, .inl (g.2.1.1, 18, .inl fn262)), (h0_far, .inl (g.2.1.1, 3, .inl fn263)), (h0_low, .inl (g.2.1.1, 54, .inl fn264)), (h0_high, .inl (g.2.1.1, 54, .inl fn265)), (y1, .inr (4, [.int y1_count, .int y1_statements, .int y1_thick, .int y1_punch, .int y1_ups, .int y1_toolCount, .ref y1_toolWidth, .ref y1_told, .ref y1_name, .ref y1_parent, .ref y1_side, .ref y1_from, .ref y1_width, .ref y1_height, .ref y1_radius, .ref y1_toolSet])), (y1_parent, .inl (g.2.1.1, 9, .inl f_y1_parent)), (y1_side, .inl (g.2.1.1, 9, .inl f_y1_side)), (h0, .inr (5, [.ref h0_low, .ref h0_high, .ref h0_normal, .ref h0_corner, .ref h0_east, .ref h0_north, .ref h0_start, .ref h0_far])), (h0_corner, .inl (g.2.1.1, 27, .inl fn259)), (h0_start, .inl (g.2.1.1, 3, .inl f305)), (h0_north, .inl (g.2.1.1, 9, .inl fn261)), (h0_east, .inl (g.2.1.1, 9, .inl fn260)), (y1_from, .inl (g.2.1.1, 9, .inl f_y1_from)), (y1_height, .inl (g.2.1.1, 9, .inl f_y1_height)), (y1_width, .inl (g.2.1.1, 9, .inl f_y1_width))]) (va_runSN (As := [.int v257, .int x3]) (rest := [.int r306, .int v257, .ref y1, .ref h0]) ⟨hx, hb, hml, hown, hG⟩ (kX8_isIn l g v257 x3 _) ⟨va_cnB 2 hG (zGood wc_X8_isIn) rfl rfl rfl (hX.2.1.ml wmn_X5_50) (hG _ wini_X8) hX8_isIn ⟨Nat.le_of_ble_eq_true rfl, Nat.le_of_ble_eq_true rfl⟩, hG _ ws_X8_isIn, trivial⟩ (zpreS hX hP hD hS hA [] rfl (by decide)) rfl rfl hl.1 rfl (lv_room (Nat.le_of_ble_eq_true rfl)) dX5_place_37 ⟨Nat.le_of_ble_eq_true rfl, Nat.le_of_ble_eq_true rfl⟩) hP hD hS hA [] [0, 1, 2, 3, 4, 5, 6, 7, 8, 9, 10, 11, 12, 13, 14, 15, 16] rfl rfl (by decide) (by decide) (fun r308 _ H locs hp hP hD hS => ?_)
        refine W.cs (cells' := 0) (slots' := 0) rfl rfl ?_
        have hq309 : 0 ≤ r308.toInt ∧ r308.toInt ≤ 1 := hp
        have hP : va_P g.1 vwCl [(y1_radius, .inl (g.2.1.1, 9, .inl f_y1_radius)), (y1_told, .inl (g.2.1.1, 10, .inl f_y1_told)), (h0_normal, .inl (g.2.1.1, 18, .inl fn262)), (h0_far, .inl (g.2.1.1, 3, .inl fn263)), (h0_low, .inl (g.2.1.1, 54, .inl fn264)), (h0_high, .inl (g.2.1.1, 54, .inl fn265)), (y1, .inr (4, [.int y1_count, .int y1_statements, .int y1_thick, .int y1_punch, .int y1_ups, .int y1_toolCount, .ref y1_toolWidth, .ref y1_told, .ref y1_name, .ref y1_parent, .ref y1_side, .ref y1_from, .ref y1_width, .ref y1_height, .ref y1_radius, .ref y1_toolSet])), (y1_parent, .inl (g.2.1.1, 9, .inl f_y1_parent)), (y1_side, .inl (g.2.1.1, 9, .inl f_y1_side)), (h0, .inr (5, [.ref h0_low, .ref h0_high, .ref h0_normal, .ref h0_corner, .ref h0_east, .ref h0_north, .ref h0_start, .ref h0_far])), (h0_corner, .inl (g.2.1.1, 27, .inl fn259)), (h0_start, .inl (g.2.1.1, 3, .inl f305)), (h0_north, .inl (g.2.1.1, 9, .inl fn261)), (h0_east, .inl (g.2.1.1, 9, .inl fn260)), (y1_from, .inl (g.2.1.1, 9, .inl f_y1_from)), (y1_height, .inl (g.2.1.1, 9, .inl f_y1_height)), (y1_width, .inl (g.2.1.1, 9, .inl f_y1_width))] H := hP
        have hD : va_D A [(y1_radius, .inl (g.2.1.1, 9, .inl f_y1_radius)), (y1_told, .inl (g.2.1.1, 10, .inl f_y1_told)), (h0_normal, .inl (g.2.1.1, 18, .inl fn262)), (h0_far, .inl (g.2.1.1, 3, .inl fn263)), (h0_low, .inl (g.2.1.1, 54, .inl fn264)), (h0_high, .inl (g.2.1.1, 54, .inl fn265)), (y1, .inr (4, [.int y1_count, .int y1_statements, .int y1_thick, .int y1_punch, .int y1_ups, .int y1_toolCount, .ref y1_toolWidth, .ref y1_told, .ref y1_name, .ref y1_parent, .ref y1_side, .ref y1_from, .ref y1_width, .ref y1_height, .ref y1_radius, .ref y1_toolSet])), (y1_parent, .inl (g.2.1.1, 9, .inl f_y1_parent)), (y1_side, .inl (g.2.1.1, 9, .inl f_y1_side)), (h0, .inr (5, [.ref h0_low, .ref h0_high, .ref h0_normal, .ref h0_corner, .ref h0_east, .ref h0_north, .ref h0_start, .ref h0_far])), (h0_corner, .inl (g.2.1.1, 27, .inl fn259)), (h0_start, .inl (g.2.1.1, 3, .inl f305)), (h0_north, .inl (g.2.1.1, 9, .inl fn261)), (h0_east, .inl (g.2.1.1, 9, .inl fn260)), (y1_from, .inl (g.2.1.1, 9, .inl f_y1_from)), (y1_height, .inl (g.2.1.1, 9, .inl f_y1_height)), (y1_width, .inl (g.2.1.1, 9, .inl f_y1_width))] := hD
        refine zfv (wr := [(y1_from, .inl (g.2.1.1, 9, .inl f_y1_from))]) (va_runV (As := [.ref y1, .int v257, .int r306, .int r308]) (rest := []) ⟨hx, hb, hml, hown, hG⟩ (kX5_placeFlange l g h0 y1 v257 r306 r308 y1_count y1_statements y1_thick y1_punch y1_ups y1_toolCount y1_toolWidth y1_told y1_name y1_parent y1_side y1_from y1_width y1_height y1_radius y1_toolSet f_y1_parent f_y1_radius f_y1_side h0_low h0_high h0_normal h0_corner h0_east h0_north h0_start h0_far fn260 fn261 fn262 f_y1_told f305 f_y1_width f_y1_height fn263 fn264 fn265 fn259 (ox_168 c302i hy0 i297) (ox_33 hq307) (ox_33 hq309) (ox_16 c302i hy0 i297) (ox_1 hy1) hy2 trivial hy7 hf298 hf299 hf300 hy8 (ox_169 c302i hy0 i297) _) ⟨callB_of 4 hG (zGood wc_X5_placeFlange) rfl rfl rfl (hG _ wini_X5) (hG _ wm_X5_54) hX5_placeFlange ⟨Nat.le_of_ble_eq_true rfl, Nat.le_of_ble_eq_true rfl⟩, hG _ wi_X5_placeFlange, hG _ wse_X5_X5_placeFlange⟩ (zpreV (va_recv hX.1 hP (ci := 5) (q0 := 9) rfl rfl) hX hP hD hS hA [6, 7, 0, 8, 9, 13, 12, 2, 1, 11, 16, 15, 3, 4, 5, 10] rfl (by decide)) rfl rfl hl.1 rfl (lv_room (Nat.le_of_ble_eq_true rfl)) dX5_place_40 ⟨Nat.le_of_ble_eq_true rfl, Nat.le_of_ble_eq_true rfl⟩) hP hD hS hA [6, 7, 0, 8, 9, 13, 12, 2, 1, 11, 16, 15, 3, 4, 5, 10] [14] rfl rfl (by decide) (by decide) (fun u311 H locs hp hP hD hS => ?_)
        refine W.cs (cells' := 0) (slots' := 0) rfl rfl ?_
        obtain ⟨f312, f313, f314, f315, f316, f317, f318, f319⟩ := u311
        obtain ⟨hq320, hq321, hq322⟩ : (aI 0 5 f312) ∧ (aI 0 5 f313) ∧ (aI 0 5 f314) := hp
        have hP : va_P g.1 vwCl [(y1_from, .inl (g.2.1.1, 9, .inl f_y1_from)), (y1, .inr (4, [.int y1_count, .int y1_statements, .int y1_thick, .int y1_punch, .int y1_ups, .int y1_toolCount, .ref y1_toolWidth, .ref y1_told, .ref y1_name, .ref y1_parent, .ref y1_side, .ref y1_from, .ref y1_width, .ref y1_height, .ref y1_radius, .ref y1_toolSet])), (y1_parent, .inl (g.2.1.1, 9, .inl f_y1_parent)), (y1_radius, .inl (g.2.1.1, 9, .inl f_y1_radius)), (y1_side, .inl (g.2.1.1, 9, .inl f_y1_side)), (h0, .inr (5, [.ref h0_low, .ref h0_high, .ref h0_normal, .ref h0_corner, .ref h0_east, .ref h0_north, .ref h0_start, .ref h0_far])), (h0_east, .inl (g.2.1.1, 9, .inl f312)), (h0_north, .inl (g.2.1.1, 9, .inl f313)), (h0_normal, .inl (g.2.1.1, 18, .inl f314)), (y1_told, .inl (g.2.1.1, 10, .inl f_y1_told)), (h0_start, .inl (g.2.1.1, 3, .inl f315)), (y1_width, .inl (g.2.1.1, 9, .inl f_y1_width)), (y1_height, .inl (g.2.1.1, 9, .inl f_y1_height)), (h0_far, .inl (g.2.1.1, 3, .inl f316)), (h0_low, .inl (g.2.1.1, 54, .inl f317)), (h0_high, .inl (g.2.1.1, 54, .inl f318)), (h0_corner, .inl (g.2.1.1, 27, .inl f319))] H := hP
        have hD : va_D A [(y1_from, .inl (g.2.1.1, 9, .inl f_y1_from)), (y1, .inr (4, [.int y1_count, .int y1_statements, .int y1_thick, .int y1_punch, .int y1_ups, .int y1_toolCount, .ref y1_toolWidth, .ref y1_told, .ref y1_name, .ref y1_parent, .ref y1_side, .ref y1_from, .ref y1_width, .ref y1_height, .ref y1_radius, .ref y1_toolSet])), (y1_parent, .inl (g.2.1.1, 9, .inl f_y1_parent)), (y1_radius, .inl (g.2.1.1, 9, .inl f_y1_radius)), (y1_side, .inl (g.2.1.1, 9, .inl f_y1_side)), (h0, .inr (5, [.ref h0_low, .ref h0_high, .ref h0_normal, .ref h0_corner, .ref h0_east, .ref h0_north, .ref h0_start, .ref h0_far])), (h0_east, .inl (g.2.1.1, 9, .inl f312)), (h0_north, .inl (g.2.1.1, 9, .inl f313)), (h0_normal, .inl (g.2.1.1, 18, .inl f314)), (y1_told, .inl (g.2.1.1, 10, .inl f_y1_told)), (h0_start, .inl (g.2.1.1, 3, .inl f315)), (y1_width, .inl (g.2.1.1, 9, .inl f_y1_width)), (y1_height, .inl (g.2.1.1, 9, .inl f_y1_height)), (h0_far, .inl (g.2.1.1, 3, .inl f316)), (h0_low, .inl (g.2.1.1, 54, .inl f317)), (h0_high, .inl (g.2.1.1, 54, .inl f318)), (h0_corner, .inl (g.2.1.1, 27, .inl f319))] := hD
        obtain ⟨z323, e324⟩ : ∃ y9 : Int32, y9 = v257 + 1 := ⟨_, rfl⟩
        have f325 : z323.toInt = v257.toInt + 1 := za e324 (rfl : v257.toInt = _) (show (1 : Int32).toInt = (1 : Int) from by decide) (ox_170 (zr v257) (zr y1_count) c302i hy0 i297)
        refine lv_iinc (v := z323) (lv' := [(4, .int z323), (0, .ref h0), (1, .ref y1), (2, .int x2), (3, .int x3)]) hx hb dX5_place_43 hl (k := 4) rfl (by rw [e324]; rfl) (by decide) rfl (fun ls hl => ?_)
        refine lv_goto (tgt := 8) hx hb dX5_place_46 (by decide) ?_
        exact ih296 z323 f315 f319 f312 f313 f314 f316 f317 f318 H locs ls (ox_18 c302i f325 hy0 i297) hq320 hq321 hq322 (zdec hm301 (ox_19 c302i f325 hy0 i297)) (hP.sub [2, 3, 4, 0, 9, 5, 10, 16, 6, 7, 8, 1, 11, 12, 13, 14, 15] rfl) (hD.sub [2, 3, 4, 0, 9, 5, 10, 16, 6, 7, 8, 1, 11, 12, 13, 14, 15] (by decide) rfl) hS (lv_sub hl [1, 2, 3, 4, 0] rfl)
  exact L294 _ (1 : Int32) f3 f4 f5 f6 f7 f8 f9 f10 H locs ls ((show 1 ≤ (1 : Int) ∧ (1 : Int) ≤ 9 from by decide)) hq11 hq12 hq13 (Nat.lt_succ_self _) hP hD hS (lv_sub hl [1, 2, 3, 4, 0] rfl)
theorem dX5_placeFlat_0 : decode cX5_placeFlat 0 = .ok (.aload_n 0, 1) := by decide +kernel
theorem dX5_placeFlat_1 : decode cX5_placeFlat 1 = .ok (.aload_n 1, 1) := by decide +kernel
theorem dX5_placeFlat_2 : decode cX5_placeFlat 2 = .ok (.iconst 0, 1) := by decide +kernel
theorem dX5_placeFlat_3 : decode cX5_placeFlat 3 = .ok (.iconst 0, 1) := by decide +kernel
theorem dX5_placeFlat_4 : decode cX5_placeFlat 4 = .ok (.invokevirtual 58, 3) := by decide +kernel
theorem dX5_placeFlat_7 : decode cX5_placeFlat 7 = .ok (.iconst 1, 1) := by decide +kernel
theorem dX5_placeFlat_8 : decode cX5_placeFlat 8 = .ok (.istore_n 2, 1) := by decide +kernel
theorem dX5_placeFlat_9 : decode cX5_placeFlat 9 = .ok (.iload_n 2, 1) := by decide +kernel
theorem dX5_placeFlat_10 : decode cX5_placeFlat 10 = .ok (.aload_n 1, 1) := by decide +kernel
theorem dX5_placeFlat_11 : decode cX5_placeFlat 11 = .ok (.getfield 40, 3) := by decide +kernel
theorem dX5_placeFlat_14 : decode cX5_placeFlat 14 = .ok (.if_icmp .ge 63, 3) := by decide +kernel
theorem dX5_placeFlat_77 : decode cX5_placeFlat 77 = .ok (.return_, 1) := by decide +kernel
theorem dX5_placeFlat_17 : decode cX5_placeFlat 17 = .ok (.aload_n 1, 1) := by decide +kernel
theorem dX5_placeFlat_18 : decode cX5_placeFlat 18 = .ok (.getfield 62, 3) := by decide +kernel
theorem dX5_placeFlat_21 : decode cX5_placeFlat 21 = .ok (.iload_n 2, 1) := by decide +kernel
theorem dX5_placeFlat_22 : decode cX5_placeFlat 22 = .ok (.iaload, 1) := by decide +kernel
theorem dX5_placeFlat_23 : decode cX5_placeFlat 23 = .ok (.istore_n 3, 1) := by decide +kernel
theorem dX5_placeFlat_24 : decode cX5_placeFlat 24 = .ok (.aload_n 1, 1) := by decide +kernel
theorem dX5_placeFlat_25 : decode cX5_placeFlat 25 = .ok (.getfield 65, 3) := by decide +kernel
theorem dX5_placeFlat_28 : decode cX5_placeFlat 28 = .ok (.iload_n 2, 1) := by decide +kernel
theorem dX5_placeFlat_29 : decode cX5_placeFlat 29 = .ok (.iaload, 1) := by decide +kernel
theorem dX5_placeFlat_30 : decode cX5_placeFlat 30 = .ok (.istore 4, 2) := by decide +kernel
theorem dX5_placeFlat_32 : decode cX5_placeFlat 32 = .ok (.aload_n 0, 1) := by decide +kernel
theorem dX5_placeFlat_33 : decode cX5_placeFlat 33 = .ok (.aload_n 1, 1) := by decide +kernel
theorem dX5_placeFlat_34 : decode cX5_placeFlat 34 = .ok (.iload_n 2, 1) := by decide +kernel
theorem dX5_placeFlat_35 : decode cX5_placeFlat 35 = .ok (.invokevirtual 46, 3) := by decide +kernel
theorem dX5_placeFlat_38 : decode cX5_placeFlat 38 = .ok (.aload_n 0, 1) := by decide +kernel
theorem dX5_placeFlat_39 : decode cX5_placeFlat 39 = .ok (.iload_n 2, 1) := by decide +kernel
theorem dX5_placeFlat_40 : decode cX5_placeFlat 40 = .ok (.bipush 8, 2) := by decide +kernel
theorem dX5_placeFlat_42 : decode cX5_placeFlat 42 = .ok (.iadd, 1) := by decide +kernel
theorem dX5_placeFlat_43 : decode cX5_placeFlat 43 = .ok (.aload_n 0, 1) := by decide +kernel
theorem dX5_placeFlat_44 : decode cX5_placeFlat 44 = .ok (.iload_n 3, 1) := by decide +kernel
theorem dX5_placeFlat_45 : decode cX5_placeFlat 45 = .ok (.iload 4, 2) := by decide +kernel
theorem dX5_placeFlat_47 : decode cX5_placeFlat 47 = .ok (.invokevirtual 68, 3) := by decide +kernel
theorem dX5_placeFlat_50 : decode cX5_placeFlat 50 = .ok (.aload_n 1, 1) := by decide +kernel
theorem dX5_placeFlat_51 : decode cX5_placeFlat 51 = .ok (.getfield 72, 3) := by decide +kernel
theorem dX5_placeFlat_54 : decode cX5_placeFlat 54 = .ok (.iload_n 2, 1) := by decide +kernel
theorem dX5_placeFlat_55 : decode cX5_placeFlat 55 = .ok (.iaload, 1) := by decide +kernel
theorem dX5_placeFlat_56 : decode cX5_placeFlat 56 = .ok (.aload_n 0, 1) := by decide +kernel
theorem dX5_placeFlat_57 : decode cX5_placeFlat 57 = .ok (.iload_n 3, 1) := by decide +kernel
theorem dX5_placeFlat_58 : decode cX5_placeFlat 58 = .ok (.iload 4, 2) := by decide +kernel
theorem dX5_placeFlat_60 : decode cX5_placeFlat 60 = .ok (.invokevirtual 75, 3) := by decide +kernel
theorem dX5_placeFlat_63 : decode cX5_placeFlat 63 = .ok (.aload_n 1, 1) := by decide +kernel
theorem dX5_placeFlat_64 : decode cX5_placeFlat 64 = .ok (.iload_n 2, 1) := by decide +kernel
theorem dX5_placeFlat_65 : decode cX5_placeFlat 65 = .ok (.invokevirtual 78, 3) := by decide +kernel
theorem dX5_placeFlat_68 : decode cX5_placeFlat 68 = .ok (.invokevirtual 82, 3) := by decide +kernel
theorem dX5_placeFlat_71 : decode cX5_placeFlat 71 = .ok (.iinc 2 1, 3) := by decide +kernel
theorem dX5_placeFlat_74 : decode cX5_placeFlat 74 = .ok (.goto (-65), 3) := by decide +kernel
abbrev rm_kX5_placeFlat : Room := { frames := 4, cells := 0, slots := 0, locals := 102 }
set_option maxHeartbeats 4000000 in
set_option maxRecDepth 100000 in
theorem kX5_placeFlat (l : Launch) (g : zL) (h0 : Nat) (y1 : Nat) (y1_count : Int32) (y1_statements : Int32) (y1_thick : Int32) (y1_punch : Int32) (y1_ups : Int32) (y1_toolCount : Int32) (y1_toolWidth : Nat) (y1_told : Nat) (y1_name : Nat) (y1_parent : Nat) (y1_side : Nat) (y1_from : Nat) (y1_width : Nat) (y1_height : Nat) (y1_radius : Nat) (y1_toolSet : Nat) (f_y1_parent : Nat → Int32) (f_y1_radius : Nat → Int32) (h0_low : Nat) (h0_high : Nat) (h0_normal : Nat) (h0_corner : Nat) (h0_east : Nat) (h0_north : Nat) (h0_start : Nat) (h0_far : Nat) (f_h0_start : Nat → Int32) (f_h0_corner : Nat → Int32) (f_h0_east : Nat → Int32) (f_h0_north : Nat → Int32) (f_h0_normal : Nat → Int32) (f_y1_width : Nat → Int32) (f_y1_height : Nat → Int32) (f_h0_far : Nat → Int32) (f_h0_low : Nat → Int32) (f_h0_high : Nat → Int32) (f_y1_side : Nat → Int32) (f_y1_from : Nat → Int32) (f_y1_told : Nat → Int32) (hy0 : 0 ≤ y1_count.toInt ∧ y1_count.toInt ≤ 9) (hy1 : 0 ≤ y1_toolCount.toInt ∧ y1_toolCount.toInt ≤ 8) (hy2 : aI 0 8 f_y1_parent) (hy3 : True) (hy4 : aI 0 5 f_h0_east) (hy5 : aI 0 5 f_h0_north) (hy6 : aI 0 5 f_h0_normal) (hy7 : aI 0 3 f_y1_side) (hy8 : pOK y1_count f_y1_parent f_y1_radius) : zCv l g yX5_placeFlat cX5_placeFlat 5 none rm_kX5_placeFlat [.ref h0, .ref y1] [(y1, .inr (4, [.int y1_count, .int y1_statements, .int y1_thick, .int y1_punch, .int y1_ups, .int y1_toolCount, .ref y1_toolWidth, .ref y1_told, .ref y1_name, .ref y1_parent, .ref y1_side, .ref y1_from, .ref y1_width, .ref y1_height, .ref y1_radius, .ref y1_toolSet])), (y1_parent, .inl (g.2.1.1, 9, .inl f_y1_parent)), (y1_radius, .inl (g.2.1.1, 9, .inl f_y1_radius)), (h0, .inr (5, [.ref h0_low, .ref h0_high, .ref h0_normal, .ref h0_corner, .ref h0_east, .ref h0_north, .ref h0_start, .ref h0_far])), (h0_start, .inl (g.2.1.1, 3, .inl f_h0_start)), (h0_corner, .inl (g.2.1.1, 27, .inl f_h0_corner)), (h0_east, .inl (g.2.1.1, 9, .inl f_h0_east)), (h0_north, .inl (g.2.1.1, 9, .inl f_h0_north)), (h0_normal, .inl (g.2.1.1, 18, .inl f_h0_normal)), (y1_width, .inl (g.2.1.1, 9, .inl f_y1_width)), (y1_height, .inl (g.2.1.1, 9, .inl f_y1_height)), (h0_far, .inl (g.2.1.1, 3, .inl f_h0_far)), (h0_low, .inl (g.2.1.1, 54, .inl f_h0_low)), (h0_high, .inl (g.2.1.1, 54, .inl f_h0_high)), (y1_side, .inl (g.2.1.1, 9, .inl f_y1_side)), (y1_from, .inl (g.2.1.1, 9, .inl f_y1_from)), (y1_told, .inl (g.2.1.1, 10, .inl f_y1_told))] (fun (u : (Nat → Int32) × (Nat → Int32) × (Nat → Int32) × (Nat → Int32) × (Nat → Int32) × (Nat → Int32) × (Nat → Int32) × (Nat → Int32)) => (aI 0 5 u.2.2.1) ∧ (aI 0 5 u.2.2.2.1) ∧ (aI 0 5 u.2.2.2.2.1)) (fun (u : (Nat → Int32) × (Nat → Int32) × (Nat → Int32) × (Nat → Int32) × (Nat → Int32) × (Nat → Int32) × (Nat → Int32) × (Nat → Int32)) => [(y1, .inr (4, [.int y1_count, .int y1_statements, .int y1_thick, .int y1_punch, .int y1_ups, .int y1_toolCount, .ref y1_toolWidth, .ref y1_told, .ref y1_name, .ref y1_parent, .ref y1_side, .ref y1_from, .ref y1_width, .ref y1_height, .ref y1_radius, .ref y1_toolSet])), (y1_parent, .inl (g.2.1.1, 9, .inl f_y1_parent)), (y1_radius, .inl (g.2.1.1, 9, .inl f_y1_radius)), (h0, .inr (5, [.ref h0_low, .ref h0_high, .ref h0_normal, .ref h0_corner, .ref h0_east, .ref h0_north, .ref h0_start, .ref h0_far])), (h0_start, .inl (g.2.1.1, 3, .inl u.1)), (h0_corner, .inl (g.2.1.1, 27, .inl u.2.1)), (h0_east, .inl (g.2.1.1, 9, .inl u.2.2.1)), (h0_north, .inl (g.2.1.1, 9, .inl u.2.2.2.1)), (h0_normal, .inl (g.2.1.1, 18, .inl u.2.2.2.2.1)), (y1_width, .inl (g.2.1.1, 9, .inl f_y1_width)), (y1_height, .inl (g.2.1.1, 9, .inl f_y1_height)), (h0_far, .inl (g.2.1.1, 3, .inl u.2.2.2.2.2.1)), (h0_low, .inl (g.2.1.1, 54, .inl u.2.2.2.2.2.2.1)), (h0_high, .inl (g.2.1.1, 54, .inl u.2.2.2.2.2.2.2)), (y1_side, .inl (g.2.1.1, 9, .inl f_y1_side)), (y1_from, .inl (g.2.1.1, 9, .inl f_y1_from)), (y1_told, .inl (g.2.1.1, 10, .inl f_y1_told))]) := by
  refine zCv.mk2 (by decide) (Nat.le_of_ble_eq_true rfl) ?_
  intro p e s m below meth c A args Q hE hret hP hD hS ls hl
  obtain ⟨hx, hb, hr, hml, hown, hG, hlocks, hnm, hX, hA⟩ := hE
  have hown : s.vm.findClass RX5 = some m.cls := hown
  have hl : lv_has ls 5 [(0, .ref h0), (1, .ref y1)] := hl
  refine lv_aload_n hx hb dX5_placeFlat_0 rfl (lv_at hl 0 rfl) ?_
  refine lv_aload_n hx hb dX5_placeFlat_1 rfl (lv_at hl 1 rfl) ?_
  refine lv_iconst (v := 0) hx hb dX5_placeFlat_2 (by decide) ?_
  refine lv_iconst (v := 0) hx hb dX5_placeFlat_3 (by decide) ?_
  refine zfv (wr := []) (va_runV (As := [.ref y1, .int 0, .int 0]) (rest := []) ⟨hx, hb, hml, hown, hG⟩ (kX5_place l g h0 y1 (0 : Int32) (0 : Int32) y1_count y1_statements y1_thick y1_punch y1_ups y1_toolCount y1_toolWidth y1_told y1_name y1_parent y1_side y1_from y1_width y1_height y1_radius y1_toolSet f_y1_parent f_y1_radius h0_low h0_high h0_normal h0_corner h0_east h0_north h0_start h0_far f_h0_start f_h0_corner f_h0_east f_h0_north f_h0_normal f_y1_width f_y1_height f_h0_far f_h0_low f_h0_high f_y1_side f_y1_from f_y1_told (ox_0 hy0) (ox_1 hy1) hy2 trivial hy4 hy5 hy6 hy7 hy8 _) ⟨callB_of 3 hG (zGood wc_X5_place) rfl rfl rfl (hG _ wini_X5) (hG _ wm_X5_58) hX5_place ⟨Nat.le_of_ble_eq_true rfl, Nat.le_of_ble_eq_true rfl⟩, hG _ wi_X5_place, hG _ wse_X5_X5_place⟩ (zpreV (va_recv hX.1 hP (ci := 5) (q0 := 3) rfl rfl) hX hP hD hS hA [0, 1, 2, 3, 4, 5, 6, 7, 8, 9, 10, 11, 12, 13, 14, 15, 16] rfl (by decide)) rfl rfl hl.1 rfl (lv_room (Nat.le_of_ble_eq_true rfl)) dX5_placeFlat_4 ⟨Nat.le_of_ble_eq_true rfl, Nat.le_of_ble_eq_true rfl⟩) hP hD hS hA [0, 1, 2, 3, 4, 5, 6, 7, 8, 9, 10, 11, 12, 13, 14, 15, 16] [] rfl rfl (by decide) (by decide) (fun u2 H locs hp hP hD hS => ?_)
  refine W.cs (cells' := 0) (slots' := 0) rfl rfl ?_
  obtain ⟨f3, f4, f5, f6, f7, f8, f9, f10⟩ := u2
  obtain ⟨hq11, hq12, hq13⟩ : (aI 0 5 f5) ∧ (aI 0 5 f6) ∧ (aI 0 5 f7) := hp
  have hP : va_P g.1 vwCl [(y1, .inr (4, [.int y1_count, .int y1_statements, .int y1_thick, .int y1_punch, .int y1_ups, .int y1_toolCount, .ref y1_toolWidth, .ref y1_told, .ref y1_name, .ref y1_parent, .ref y1_side, .ref y1_from, .ref y1_width, .ref y1_height, .ref y1_radius, .ref y1_toolSet])), (y1_parent, .inl (g.2.1.1, 9, .inl f_y1_parent)), (y1_radius, .inl (g.2.1.1, 9, .inl f_y1_radius)), (h0, .inr (5, [.ref h0_low, .ref h0_high, .ref h0_normal, .ref h0_corner, .ref h0_east, .ref h0_north, .ref h0_start, .ref h0_far])), (h0_start, .inl (g.2.1.1, 3, .inl f3)), (h0_corner, .inl (g.2.1.1, 27, .inl f4)), (h0_east, .inl (g.2.1.1, 9, .inl f5)), (h0_north, .inl (g.2.1.1, 9, .inl f6)), (h0_normal, .inl (g.2.1.1, 18, .inl f7)), (y1_width, .inl (g.2.1.1, 9, .inl f_y1_width)), (y1_height, .inl (g.2.1.1, 9, .inl f_y1_height)), (h0_far, .inl (g.2.1.1, 3, .inl f8)), (h0_low, .inl (g.2.1.1, 54, .inl f9)), (h0_high, .inl (g.2.1.1, 54, .inl f10)), (y1_side, .inl (g.2.1.1, 9, .inl f_y1_side)), (y1_from, .inl (g.2.1.1, 9, .inl f_y1_from)), (y1_told, .inl (g.2.1.1, 10, .inl f_y1_told))] H := hP
  have hD : va_D A [(y1, .inr (4, [.int y1_count, .int y1_statements, .int y1_thick, .int y1_punch, .int y1_ups, .int y1_toolCount, .ref y1_toolWidth, .ref y1_told, .ref y1_name, .ref y1_parent, .ref y1_side, .ref y1_from, .ref y1_width, .ref y1_height, .ref y1_radius, .ref y1_toolSet])), (y1_parent, .inl (g.2.1.1, 9, .inl f_y1_parent)), (y1_radius, .inl (g.2.1.1, 9, .inl f_y1_radius)), (h0, .inr (5, [.ref h0_low, .ref h0_high, .ref h0_normal, .ref h0_corner, .ref h0_east, .ref h0_north, .ref h0_start, .ref h0_far])), (h0_start, .inl (g.2.1.1, 3, .inl f3)), (h0_corner, .inl (g.2.1.1, 27, .inl f4)), (h0_east, .inl (g.2.1.1, 9, .inl f5)), (h0_north, .inl (g.2.1.1, 9, .inl f6)), (h0_normal, .inl (g.2.1.1, 18, .inl f7)), (y1_width, .inl (g.2.1.1, 9, .inl f_y1_width)), (y1_height, .inl (g.2.1.1, 9, .inl f_y1_height)), (h0_far, .inl (g.2.1.1, 3, .inl f8)), (h0_low, .inl (g.2.1.1, 54, .inl f9)), (h0_high, .inl (g.2.1.1, 54, .inl f10)), (y1_side, .inl (g.2.1.1, 9, .inl f_y1_side)), (y1_from, .inl (g.2.1.1, 9, .inl f_y1_from)), (y1_told, .inl (g.2.1.1, 10, .inl f_y1_told))] := hD
  refine lv_iconst (v := 1) hx hb dX5_placeFlat_7 (by decide) ?_
  refine lv_istore_n (lv' := [(2, .int 1), (0, .ref h0), (1, .ref y1)]) hx hb dX5_placeFlat_8 rfl hl (by decide) rfl (fun ls hl => ?_)
  have L282 : ∀ (n : Nat) (v247 : Int32) (fn248 : Nat → Int32) (fn249 : Nat → Int32) (fn250 : Nat → Int32) (fn251 : Nat → Int32) (H : Heap) (locs : List Loc) (ls : Array Slot), 1 ≤ v247.toInt ∧ v247.toInt ≤ 9 → (10 - v247.toInt).toNat < n → va_P g.1 vwCl [(y1, .inr (4, [.int y1_count, .int y1_statements, .int y1_thick, .int y1_punch, .int y1_ups, .int y1_toolCount, .ref y1_toolWidth, .ref y1_told, .ref y1_name, .ref y1_parent, .ref y1_side, .ref y1_from, .ref y1_width, .ref y1_height, .ref y1_radius, .ref y1_toolSet])), (y1_parent, .inl (g.2.1.1, 9, .inl f_y1_parent)), (y1_radius, .inl (g.2.1.1, 9, .inl f_y1_radius)), (h0, .inr (5, [.ref h0_low, .ref h0_high, .ref h0_normal, .ref h0_corner, .ref h0_east, .ref h0_north, .ref h0_start, .ref h0_far])), (h0_start, .inl (g.2.1.1, 3, .inl fn248)), (h0_corner, .inl (g.2.1.1, 27, .inl f4)), (h0_east, .inl (g.2.1.1, 9, .inl f5)), (h0_north, .inl (g.2.1.1, 9, .inl f6)), (h0_normal, .inl (g.2.1.1, 18, .inl f7)), (y1_width, .inl (g.2.1.1, 9, .inl f_y1_width)), (y1_height, .inl (g.2.1.1, 9, .inl f_y1_height)), (h0_far, .inl (g.2.1.1, 3, .inl fn249)), (h0_low, .inl (g.2.1.1, 54, .inl fn250)), (h0_high, .inl (g.2.1.1, 54, .inl fn251)), (y1_side, .inl (g.2.1.1, 9, .inl f_y1_side)), (y1_from, .inl (g.2.1.1, 9, .inl f_y1_from)), (y1_told, .inl (g.2.1.1, 10, .inl f_y1_told))] H → va_D A [(y1, .inr (4, [.int y1_count, .int y1_statements, .int y1_thick, .int y1_punch, .int y1_ups, .int y1_toolCount, .ref y1_toolWidth, .ref y1_told, .ref y1_name, .ref y1_parent, .ref y1_side, .ref y1_from, .ref y1_width, .ref y1_height, .ref y1_radius, .ref y1_toolSet])), (y1_parent, .inl (g.2.1.1, 9, .inl f_y1_parent)), (y1_radius, .inl (g.2.1.1, 9, .inl f_y1_radius)), (h0, .inr (5, [.ref h0_low, .ref h0_high, .ref h0_normal, .ref h0_corner, .ref h0_east, .ref h0_north, .ref h0_start, .ref h0_far])), (h0_start, .inl (g.2.1.1, 3, .inl fn248)), (h0_corner, .inl (g.2.1.1, 27, .inl f4)), (h0_east, .inl (g.2.1.1, 9, .inl f5)), (h0_north, .inl (g.2.1.1, 9, .inl f6)), (h0_normal, .inl (g.2.1.1, 18, .inl f7)), (y1_width, .inl (g.2.1.1, 9, .inl f_y1_width)), (y1_height, .inl (g.2.1.1, 9, .inl f_y1_height)), (h0_far, .inl (g.2.1.1, 3, .inl fn249)), (h0_low, .inl (g.2.1.1, 54, .inl fn250)), (h0_high, .inl (g.2.1.1, 54, .inl fn251)), (y1_side, .inl (g.2.1.1, 9, .inl f_y1_side)), (y1_from, .inl (g.2.1.1, 9, .inl f_y1_from)), (y1_told, .inl (g.2.1.1, 10, .inl f_y1_told))] → va_S A s.heap H locs → lv_has ls 5 [(0, .ref h0), (1, .ref y1), (2, .int v247)] → W p l e rm_kX5_placeFlat s m args below meth c H locs 0 0 Q (F0 m 9 ls []) := by
    intro n283
    induction n283 with
    | zero => intro v247 fn248 fn249 fn250 fn251 H locs ls i285 hm286; exact absurd hm286 (Nat.not_lt_zero _)
    | succ n283 ih284 =>
      intro v247 fn248 fn249 fn250 fn251 H locs ls i285 hm286 hP hD hS hl
      refine lv_iload_n hx hb dX5_placeFlat_9 rfl (lv_at hl 2 rfl) ?_
      refine lv_aload_n hx hb dX5_placeFlat_10 rfl (lv_at hl 1 rfl) ?_
      refine va_getN (D := g.1) (ci := 4) (v := .int y1_count) (C := RX4) (T := TX4) (N := 16) hx hb hG iX4 hown hX.1 hP 0 rfl rfl 0 (by decide) (hX.2.1.fl wfn_X5_40) (fun _ h9 => h9) rfl dX5_placeFlat_11 ?_
      refine lv_icmp_ge (tgt := 77) hx hb dX5_placeFlat_14 (by decide) (fun c287 => ?_) (fun c287 => ?_)
      · skip
        have c287i : y1_count.toInt ≤ v247.toInt := (zc_le (rfl : y1_count.toInt = _) (rfl : v247.toInt = _)).mp c287
        exact hret (fn248, f4, f5, f6, f7, fn249, fn250, fn251) (Nat.le_of_ble_eq_true rfl) (Nat.le_of_ble_eq_true rfl) ⟨hq11, hq12, hq13⟩ hP hD hS dX5_placeFlat_77
      · skip
        have c287i : ¬ (y1_count.toInt ≤ v247.toInt) := fun q => c287 ((zc_le (rfl : y1_count.toInt = _) (rfl : v247.toInt = _)).mpr q)
        refine lv_aload_n hx hb dX5_placeFlat_17 rfl (lv_at hl 1 rfl) ?_
        refine va_getN (D := g.1) (ci := 4) (v := .ref y1_parent) (C := RX4) (T := TX4) (N := 16) hx hb hG iX4 hown hX.1 hP 0 rfl rfl 9 (by decide) (hX.2.1.fl wfn_X5_62) (fun _ h9 => h9) rfl dX5_placeFlat_18 ?_
        refine lv_iload_n hx hb dX5_placeFlat_21 rfl (lv_at hl 2 rfl) ?_
        refine va_iald hx hb hX.1 hP 1 0 rfl rfl (zin (rfl : v247.toInt = _) (ox_34 c287i hy0 i285)) dX5_placeFlat_22 ?_
        refine lv_topi (fun z288 e289 => ?_)
        have i290 : 0 ≤ z288.toInt ∧ z288.toInt ≤ 8 := hy2.at e289
        have f291 : z288.toInt < v247.toInt := by rw [e289]; exact (hy8.at (rfl : v247.toInt = _) (rfl : y1_count.toInt = _) (ox_171 c287i hy0 i285)).2.1
        refine lv_istore_n (lv' := [(3, .int z288), (0, .ref h0), (1, .ref y1), (2, .int v247)]) hx hb dX5_placeFlat_23 rfl hl (by decide) rfl (fun ls hl => ?_)
        refine lv_aload_n hx hb dX5_placeFlat_24 rfl (lv_at hl 2 rfl) ?_
        refine va_getN (D := g.1) (ci := 4) (v := .ref y1_side) (C := RX4) (T := TX4) (N := 16) hx hb hG iX4 hown hX.1 hP 0 rfl rfl 10 (by decide) (hX.2.1.fl wfn_X5_65) (fun _ h9 => h9) rfl dX5_placeFlat_25 ?_
        refine lv_iload_n hx hb dX5_placeFlat_28 rfl (lv_at hl 3 rfl) ?_
        refine va_iald hx hb hX.1 hP 14 0 rfl rfl (zin (rfl : v247.toInt = _) (ox_172 c287i f291 hy0 i285 i290)) dX5_placeFlat_29 ?_
        refine lv_topi (fun z292 e293 => ?_)
        have i294 : 0 ≤ z292.toInt ∧ z292.toInt ≤ 3 := hy7.at e293
        refine lv_istore (lv' := [(4, .int z292), (3, .int z288), (0, .ref h0), (1, .ref y1), (2, .int v247)]) hx hb dX5_placeFlat_30 hl (by decide) rfl (fun ls hl => ?_)
        refine lv_aload_n hx hb dX5_placeFlat_32 rfl (lv_at hl 2 rfl) ?_
        refine lv_aload_n hx hb dX5_placeFlat_33 rfl (lv_at hl 3 rfl) ?_
        refine lv_iload_n hx hb dX5_placeFlat_34 rfl (lv_at hl 4 rfl) ?_
        refine zfv (wr := [(y1_radius, .inl (g.2.1.1, 9, .inl f_y1_radius)), (h0_normal, .inl (g.2.1.1, 18, .inl f7)), (h0_far, .inl (g.2.1.1, 3, .inl fn249)), (h0_low, .inl (g.2.1.1, 54, .inl fn250)), (h0_high, .inl (g.2.1.1, 54, .inl fn251)), (y1_told, .inl (g.2.1.1, 10, .inl f_y1_told))]) (va_runV (As := [.ref y1, .int v247]) (rest := []) ⟨hx, hb, hml, hown, hG⟩ (kX5_goToSide l g h0 y1 v247 y1_count y1_statements y1_thick y1_punch y1_ups y1_toolCount y1_toolWidth y1_told y1_name y1_parent y1_side y1_from y1_width y1_height y1_radius y1_toolSet f_y1_parent f_y1_side h0_low h0_high h0_normal h0_corner h0_east h0_north h0_start h0_far f4 fn248 f6 f5 f_y1_from f_y1_height f_y1_width (ox_173 c287i f291 hy0 i285 i290) (ox_174 c287i f291 hy0 i285 i290) (ox_1 hy1) hy2 hy7 hq12 hq11 _) ⟨callB_of 2 hG (zGood wc_X5_goToSide) rfl rfl rfl (hG _ wini_X5) (hG _ wm_X5_46) hX5_goToSide ⟨Nat.le_of_ble_eq_true rfl, Nat.le_of_ble_eq_true rfl⟩, hG _ wi_X5_goToSide, hG _ wse_X5_X5_goToSide⟩ (zpreV (va_recv hX.1 hP (ci := 5) (q0 := 3) rfl rfl) hX hP hD hS hA [0, 1, 14, 3, 5, 4, 7, 6, 15, 10, 9] rfl (by decide)) rfl rfl hl.1 rfl (lv_room (Nat.le_of_ble_eq_true rfl)) dX5_placeFlat_35 ⟨Nat.le_of_ble_eq_true rfl, Nat.le_of_ble_eq_true rfl⟩) hP hD hS hA [0, 1, 14, 3, 5, 4, 7, 6, 15, 10, 9] [2, 8, 11, 12, 13, 16] rfl rfl (by decide) (by decide) (fun u296 H locs hp hP hD hS => ?_)
        refine W.cs (cells' := 0) (slots' := 0) rfl rfl ?_
        obtain ⟨f297, rfl⟩ : ∃ z9, z9 = u296 := ⟨_, rfl⟩
        have hP : va_P g.1 vwCl [(y1_radius, .inl (g.2.1.1, 9, .inl f_y1_radius)), (h0_normal, .inl (g.2.1.1, 18, .inl f7)), (h0_far, .inl (g.2.1.1, 3, .inl fn249)), (h0_low, .inl (g.2.1.1, 54, .inl fn250)), (h0_high, .inl (g.2.1.1, 54, .inl fn251)), (y1_told, .inl (g.2.1.1, 10, .inl f_y1_told)), (y1, .inr (4, [.int y1_count, .int y1_statements, .int y1_thick, .int y1_punch, .int y1_ups, .int y1_toolCount, .ref y1_toolWidth, .ref y1_told, .ref y1_name, .ref y1_parent, .ref y1_side, .ref y1_from, .ref y1_width, .ref y1_height, .ref y1_radius, .ref y1_toolSet])), (y1_parent, .inl (g.2.1.1, 9, .inl f_y1_parent)), (y1_side, .inl (g.2.1.1, 9, .inl f_y1_side)), (h0, .inr (5, [.ref h0_low, .ref h0_high, .ref h0_normal, .ref h0_corner, .ref h0_east, .ref h0_north, .ref h0_start, .ref h0_far])), (h0_corner, .inl (g.2.1.1, 27, .inl f4)), (h0_start, .inl (g.2.1.1, 3, .inl f297)), (h0_north, .inl (g.2.1.1, 9, .inl f6)), (h0_east, .inl (g.2.1.1, 9, .inl f5)), (y1_from, .inl (g.2.1.1, 9, .inl f_y1_from)), (y1_height, .inl (g.2.1.1, 9, .inl f_y1_height)), (y1_width, .inl (g.2.1.1, 9, .inl f_y1_width))] H := hP
        have hD : va_D A [(y1_radius, .inl (g.2.1.1, 9, .inl f_y1_radius)), (h0_normal, .inl (g.2.1.1, 18, .inl f7)), (h0_far, .inl (g.2.1.1, 3, .inl fn249)), (h0_low, .inl (g.2.1.1, 54, .inl fn250)), (h0_high, .inl (g.2.1.1, 54, .inl fn251)), (y1_told, .inl (g.2.1.1, 10, .inl f_y1_told)), (y1, .inr (4, [.int y1_count, .int y1_statements, .int y1_thick, .int y1_punch, .int y1_ups, .int y1_toolCount, .ref y1_toolWidth, .ref y1_told, .ref y1_name, .ref y1_parent, .ref y1_side, .ref y1_from, .ref y1_width, .ref y1_height, .ref y1_radius, .ref y1_toolSet])), (y1_parent, .inl (g.2.1.1, 9, .inl f_y1_parent)), (y1_side, .inl (g.2.1.1, 9, .inl f_y1_side)), (h0, .inr (5, [.ref h0_low, .ref h0_high, .ref h0_normal, .ref h0_corner, .ref h0_east, .ref h0_north, .ref h0_start, .ref h0_far])), (h0_corner, .inl (g.2.1.1, 27, .inl f4)), (h0_start, .inl (g.2.1.1, 3, .inl f297)), (h0_north, .inl (g.2.1.1, 9, .inl f6)), (h0_east, .inl (g.2.1.1, 9, .inl f5)), (y1_from, .inl (g.2.1.1, 9, .inl f_y1_from)), (y1_height, .inl (g.2.1.1, 9, .inl f_y1_height)), (y1_width, .inl (g.2.1.1, 9, .inl f_y1_width))] := hD
        refine lv_aload_n hx hb dX5_placeFlat_38 rfl (lv_at hl 2 rfl) ?_
        refine lv_iload_n hx hb dX5_placeFlat_39 rfl (lv_at hl 4 rfl) ?_
        refine lv_bipush (v := 8) hx hb dX5_placeFlat_40 (by decide) ?_
        refine lv_iadd hx hb dX5_placeFlat_42 ?_
        refine lv_topi (fun z298 e299 => ?_)
        have f300 : z298.toInt = v247.toInt + (8 : Int) := za e299 (rfl : v247.toInt = _) (show (8 : Int32).toInt = (8 : Int) from by decide) (ox_175 (zr v247) (zr y1_count) (zr z288) c287i f291 hy0 i285 i290)
        refine lv_aload_n hx hb dX5_placeFlat_43 rfl (lv_at hl 2 rfl) ?_
        refine lv_iload_n hx hb dX5_placeFlat_44 rfl (lv_at hl 1 rfl) ?_
        refine lv_iload hx hb dX5_placeFlat_45 (lv_at hl 0 rfl) ?_
        refine zfi (wr := [(y1_radius, .inl (g.2.1.1, 9, .inl f_y1_radius)), (h0_normal, .inl (g.2.1.1, 18, .inl f7)), (h0_far, .inl (g.2.1.1, 3, .inl fn249)), (h0_low, .inl (g.2.1.1, 54, .inl fn250)), (h0_high, .inl (g.2.1.1, 54, .inl fn251)), (y1_told, .inl (g.2.1.1, 10, .inl f_y1_told)), (y1, .inr (4, [.int y1_count, .int y1_statements, .int y1_thick, .int y1_punch, .int y1_ups, .int y1_toolCount, .ref y1_toolWidth, .ref y1_told, .ref y1_name, .ref y1_parent, .ref y1_side, .ref y1_from, .ref y1_width, .ref y1_height, .ref y1_radius, .ref y1_toolSet])), (y1_parent, .inl (g.2.1.1, 9, .inl f_y1_parent)), (y1_side, .inl (g.2.1.1, 9, .inl f_y1_side)), (h0_corner, .inl (g.2.1.1, 27, .inl f4)), (h0_start, .inl (g.2.1.1, 3, .inl f297)), (y1_from, .inl (g.2.1.1, 9, .inl f_y1_from)), (y1_height, .inl (g.2.1.1, 9, .inl f_y1_height)), (y1_width, .inl (g.2.1.1, 9, .inl f_y1_width))]) (va_runV (As := [.int z288, .int z292]) (rest := [.int z298, .ref h0]) ⟨hx, hb, hml, hown, hG⟩ (kX5_alongSide l g h0 z288 z292 h0_low h0_high h0_normal h0_corner h0_east h0_north h0_start h0_far f6 f5 (ox_176 c287i f291 f300 hy0 i285 i290) hq12 hq11 _) ⟨callB_of 2 hG (zGood wc_X5_alongSide) rfl rfl rfl (hG _ wini_X5) (hG _ wm_X5_68) hX5_alongSide ⟨Nat.le_of_ble_eq_true rfl, Nat.le_of_ble_eq_true rfl⟩, hG _ wi_X5_alongSide, hG _ wse_X5_X5_alongSide⟩ (zpreV (va_recv hX.1 hP (ci := 5) (q0 := 9) rfl rfl) hX hP hD hS hA [9, 12, 13] rfl (by decide)) rfl rfl hl.1 rfl (lv_room (Nat.le_of_ble_eq_true rfl)) dX5_placeFlat_47 ⟨Nat.le_of_ble_eq_true rfl, Nat.le_of_ble_eq_true rfl⟩) hP hD hS hA [9, 12, 13] [0, 1, 2, 3, 4, 5, 6, 7, 8, 10, 11, 14, 15, 16] rfl rfl (by decide) (by decide) (fun r301 _ H locs hp hP hD hS => ?_)
        refine W.cs (cells' := 0) (slots' := 0) rfl rfl ?_
        have hq302 : 0 ≤ r301.toInt ∧ r301.toInt ≤ 5 := hp
        have hP : va_P g.1 vwCl [(y1_radius, .inl (g.2.1.1, 9, .inl f_y1_radius)), (h0_normal, .inl (g.2.1.1, 18, .inl f7)), (h0_far, .inl (g.2.1.1, 3, .inl fn249)), (h0_low, .inl (g.2.1.1, 54, .inl fn250)), (h0_high, .inl (g.2.1.1, 54, .inl fn251)), (y1_told, .inl (g.2.1.1, 10, .inl f_y1_told)), (y1, .inr (4, [.int y1_count, .int y1_statements, .int y1_thick, .int y1_punch, .int y1_ups, .int y1_toolCount, .ref y1_toolWidth, .ref y1_told, .ref y1_name, .ref y1_parent, .ref y1_side, .ref y1_from, .ref y1_width, .ref y1_height, .ref y1_radius, .ref y1_toolSet])), (y1_parent, .inl (g.2.1.1, 9, .inl f_y1_parent)), (y1_side, .inl (g.2.1.1, 9, .inl f_y1_side)), (h0_corner, .inl (g.2.1.1, 27, .inl f4)), (h0_start, .inl (g.2.1.1, 3, .inl f297)), (y1_from, .inl (g.2.1.1, 9, .inl f_y1_from)), (y1_height, .inl (g.2.1.1, 9, .inl f_y1_height)), (y1_width, .inl (g.2.1.1, 9, .inl f_y1_width)), (h0, .inr (5, [.ref h0_low, .ref h0_high, .ref h0_normal, .ref h0_corner, .ref h0_east, .ref h0_north, .ref h0_start, .ref h0_far])), (h0_north, .inl (g.2.1.1, 9, .inl f6)), (h0_east, .inl (g.2.1.1, 9, .inl f5))] H := hP
        have hD : va_D A [(y1_radius, .inl (g.2.1.1, 9, .inl f_y1_radius)), (h0_normal, .inl (g.2.1.1, 18, .inl f7)), (h0_far, .inl (g.2.1.1, 3, .inl fn249)), (h0_low, .inl (g.2.1.1, 54, .inl fn250)), (h0_high, .inl (g.2.1.1, 54, .inl fn251)), (y1_told, .inl (g.2.1.1, 10, .inl f_y1_told)), (y1, .inr (4, [.int y1_count, .int y1_statements, .int y1_thick, .int y1_punch, .int y1_ups, .int y1_toolCount, .ref y1_toolWidth, .ref y1_told, .ref y1_name, .ref y1_parent, .ref y1_side, .ref y1_from, .ref y1_width, .ref y1_height, .ref y1_radius, .ref y1_toolSet])), (y1_parent, .inl (g.2.1.1, 9, .inl f_y1_parent)), (y1_side, .inl (g.2.1.1, 9, .inl f_y1_side)), (h0_corner, .inl (g.2.1.1, 27, .inl f4)), (h0_start, .inl (g.2.1.1, 3, .inl f297)), (y1_from, .inl (g.2.1.1, 9, .inl f_y1_from)), (y1_height, .inl (g.2.1.1, 9, .inl f_y1_height)), (y1_width, .inl (g.2.1.1, 9, .inl f_y1_width)), (h0, .inr (5, [.ref h0_low, .ref h0_high, .ref h0_normal, .ref h0_corner, .ref h0_east, .ref h0_north, .ref h0_start, .ref h0_far])), (h0_north, .inl (g.2.1.1, 9, .inl f6)), (h0_east, .inl (g.2.1.1, 9, .inl f5))] := hD
        refine lv_aload_n hx hb dX5_placeFlat_50 rfl (lv_at hl 3 rfl) ?_
        refine va_getN (D := g.1) (ci := 4) (v := .ref y1_width) (C := RX4) (T := TX4) (N := 16) hx hb hG iX4 hown hX.1 hP 6 rfl rfl 12 (by decide) (hX.2.1.fl wfn_X5_72) (fun _ h9 => h9) rfl dX5_placeFlat_51 ?_
        refine lv_iload_n hx hb dX5_placeFlat_54 rfl (lv_at hl 4 rfl) ?_
        refine va_iald hx hb hX.1 hP 13 0 rfl rfl (zin (rfl : v247.toInt = _) (ox_177 c287i f291 f300 hy0 i285 i290)) dX5_placeFlat_55 ?_
        refine lv_topi (fun z303 e304 => ?_)
        refine lv_aload_n hx hb dX5_placeFlat_56 rfl (lv_at hl 2 rfl) ?_
        refine lv_iload_n hx hb dX5_placeFlat_57 rfl (lv_at hl 1 rfl) ?_
        refine lv_iload hx hb dX5_placeFlat_58 (lv_at hl 0 rfl) ?_
        refine zfi (wr := [(y1_radius, .inl (g.2.1.1, 9, .inl f_y1_radius)), (h0_normal, .inl (g.2.1.1, 18, .inl f7)), (h0_far, .inl (g.2.1.1, 3, .inl fn249)), (h0_low, .inl (g.2.1.1, 54, .inl fn250)), (h0_high, .inl (g.2.1.1, 54, .inl fn251)), (y1_told, .inl (g.2.1.1, 10, .inl f_y1_told)), (y1, .inr (4, [.int y1_count, .int y1_statements, .int y1_thick, .int y1_punch, .int y1_ups, .int y1_toolCount, .ref y1_toolWidth, .ref y1_told, .ref y1_name, .ref y1_parent, .ref y1_side, .ref y1_from, .ref y1_width, .ref y1_height, .ref y1_radius, .ref y1_toolSet])), (y1_parent, .inl (g.2.1.1, 9, .inl f_y1_parent)), (y1_side, .inl (g.2.1.1, 9, .inl f_y1_side)), (h0_corner, .inl (g.2.1.1, 27, .inl f4)), (h0_start, .inl (g.2.1.1, 3, .inl f297)), (y1_from, .inl (g.2.1.1, 9, .inl f_y1_from)), (y1_height, .inl (g.2.1.1, 9, .inl f_y1_height)), (y1_width, .inl (g.2.1.1, 9, .inl f_y1_width))]) (va_runV (As := [.int z288, .int z292]) (rest := [.int z303, .int r301, .int z298, .ref h0]) ⟨hx, hb, hml, hown, hG⟩ (kX5_outward l g h0 z288 z292 h0_low h0_high h0_normal h0_corner h0_east h0_north h0_start h0_far f5 f6 (ox_176 c287i f291 f300 hy0 i285 i290) hq11 hq12 _) ⟨callB_of 2 hG (zGood wc_X5_outward) rfl rfl rfl (hG _ wini_X5) (hG _ wm_X5_75) hX5_outward ⟨Nat.le_of_ble_eq_true rfl, Nat.le_of_ble_eq_true rfl⟩, hG _ wi_X5_outward, hG _ wse_X5_X5_outward⟩ (zpreV (va_recv hX.1 hP (ci := 5) (q0 := 14) rfl rfl) hX hP hD hS hA [14, 16, 15] rfl (by decide)) rfl rfl hl.1 rfl (lv_room (Nat.le_of_ble_eq_true rfl)) dX5_placeFlat_60 ⟨Nat.le_of_ble_eq_true rfl, Nat.le_of_ble_eq_true rfl⟩) hP hD hS hA [14, 16, 15] [0, 1, 2, 3, 4, 5, 6, 7, 8, 9, 10, 11, 12, 13] rfl rfl (by decide) (by decide) (fun r305 _ H locs hp hP hD hS => ?_)
        refine W.cs (cells' := 0) (slots' := 0) rfl rfl ?_
        have hq306 : 0 ≤ r305.toInt ∧ r305.toInt ≤ 5 := hp
        have hP : va_P g.1 vwCl [(y1_radius, .inl (g.2.1.1, 9, .inl f_y1_radius)), (h0_normal, .inl (g.2.1.1, 18, .inl f7)), (h0_far, .inl (g.2.1.1, 3, .inl fn249)), (h0_low, .inl (g.2.1.1, 54, .inl fn250)), (h0_high, .inl (g.2.1.1, 54, .inl fn251)), (y1_told, .inl (g.2.1.1, 10, .inl f_y1_told)), (y1, .inr (4, [.int y1_count, .int y1_statements, .int y1_thick, .int y1_punch, .int y1_ups, .int y1_toolCount, .ref y1_toolWidth, .ref y1_told, .ref y1_name, .ref y1_parent, .ref y1_side, .ref y1_from, .ref y1_width, .ref y1_height, .ref y1_radius, .ref y1_toolSet])), (y1_parent, .inl (g.2.1.1, 9, .inl f_y1_parent)), (y1_side, .inl (g.2.1.1, 9, .inl f_y1_side)), (h0_corner, .inl (g.2.1.1, 27, .inl f4)), (h0_start, .inl (g.2.1.1, 3, .inl f297)), (y1_from, .inl (g.2.1.1, 9, .inl f_y1_from)), (y1_height, .inl (g.2.1.1, 9, .inl f_y1_height)), (y1_width, .inl (g.2.1.1, 9, .inl f_y1_width)), (h0, .inr (5, [.ref h0_low, .ref h0_high, .ref h0_normal, .ref h0_corner, .ref h0_east, .ref h0_north, .ref h0_start, .ref h0_far])), (h0_east, .inl (g.2.1.1, 9, .inl f5)), (h0_north, .inl (g.2.1.1, 9, .inl f6))] H := hP
        have hD : va_D A [(y1_radius, .inl (g.2.1.1, 9, .inl f_y1_radius)), (h0_normal, .inl (g.2.1.1, 18, .inl f7)), (h0_far, .inl (g.2.1.1, 3, .inl fn249)), (h0_low, .inl (g.2.1.1, 54, .inl fn250)), (h0_high, .inl (g.2.1.1, 54, .inl fn251)), (y1_told, .inl (g.2.1.1, 10, .inl f_y1_told)), (y1, .inr (4, [.int y1_count, .int y1_statements, .int y1_thick, .int y1_punch, .int y1_ups, .int y1_toolCount, .ref y1_toolWidth, .ref y1_told, .ref y1_name, .ref y1_parent, .ref y1_side, .ref y1_from, .ref y1_width, .ref y1_height, .ref y1_radius, .ref y1_toolSet])), (y1_parent, .inl (g.2.1.1, 9, .inl f_y1_parent)), (y1_side, .inl (g.2.1.1, 9, .inl f_y1_side)), (h0_corner, .inl (g.2.1.1, 27, .inl f4)), (h0_start, .inl (g.2.1.1, 3, .inl f297)), (y1_from, .inl (g.2.1.1, 9, .inl f_y1_from)), (y1_height, .inl (g.2.1.1, 9, .inl f_y1_height)), (y1_width, .inl (g.2.1.1, 9, .inl f_y1_width)), (h0, .inr (5, [.ref h0_low, .ref h0_high, .ref h0_normal, .ref h0_corner, .ref h0_east, .ref h0_north, .ref h0_start, .ref h0_far])), (h0_east, .inl (g.2.1.1, 9, .inl f5)), (h0_north, .inl (g.2.1.1, 9, .inl f6))] := hD
        refine lv_aload_n hx hb dX5_placeFlat_63 rfl (lv_at hl 3 rfl) ?_
        refine lv_iload_n hx hb dX5_placeFlat_64 rfl (lv_at hl 4 rfl) ?_
        refine zfi (wr := [(h0_normal, .inl (g.2.1.1, 18, .inl f7)), (h0_far, .inl (g.2.1.1, 3, .inl fn249)), (h0_low, .inl (g.2.1.1, 54, .inl fn250)), (h0_high, .inl (g.2.1.1, 54, .inl fn251)), (y1_side, .inl (g.2.1.1, 9, .inl f_y1_side)), (h0_corner, .inl (g.2.1.1, 27, .inl f4)), (h0_start, .inl (g.2.1.1, 3, .inl f297)), (y1_from, .inl (g.2.1.1, 9, .inl f_y1_from)), (y1_height, .inl (g.2.1.1, 9, .inl f_y1_height)), (y1_width, .inl (g.2.1.1, 9, .inl f_y1_width)), (h0, .inr (5, [.ref h0_low, .ref h0_high, .ref h0_normal, .ref h0_corner, .ref h0_east, .ref h0_north, .ref h0_start, .ref h0_far])), (h0_east, .inl (g.2.1.1, 9, .inl f5)), (h0_north, .inl (g.2.1.1, 9, .inl f6))]) (va_runVN (As := [.int v247]) (rest := [.int r305, .int z303, .int r301, .int z298, .ref h0]) ⟨hx, hb, hml, hown, hG⟩ (kX4_zoneOf l g y1 v247 y1_count y1_statements y1_thick y1_punch y1_ups y1_toolCount y1_toolWidth y1_told y1_name y1_parent y1_side y1_from y1_width y1_height y1_radius y1_toolSet f_y1_parent f_y1_radius f_y1_told (ox_178 c287i f291 f300 hy0 i285 i290) (ox_179 c287i f291 f300 hy0 i285 i290) (ox_1 hy1) hy2 trivial hy8 (ox_180 c287i f291 f300 hy0 i285 i290) _) ⟨va_cnB 1 hG (zGood wc_X4_zoneOf) rfl rfl rfl (hX.2.1.ml wmn_X5_78) (hG _ wini_X4) hX4_zoneOf ⟨Nat.le_of_ble_eq_true rfl, Nat.le_of_ble_eq_true rfl⟩, hG _ wi_X4_zoneOf, hG _ wse_X4_X4_zoneOf⟩ (zpreV (va_recv hX.1 hP (ci := 4) (q0 := 6) rfl rfl) hX hP hD hS hA [6, 7, 0, 5] rfl (by decide)) rfl rfl hl.1 rfl (lv_room (Nat.le_of_ble_eq_true rfl)) dX5_placeFlat_65 ⟨Nat.le_of_ble_eq_true rfl, Nat.le_of_ble_eq_true rfl⟩) hP hD hS hA [6, 7, 0, 5] [1, 2, 3, 4, 8, 9, 10, 11, 12, 13, 14, 15, 16] rfl rfl (by decide) (by decide) (fun r307 _ H locs hp hP hD hS => ?_)
        refine W.cs (cells' := 0) (slots' := 0) rfl rfl ?_
        have hP : va_P g.1 vwCl [(h0_normal, .inl (g.2.1.1, 18, .inl f7)), (h0_far, .inl (g.2.1.1, 3, .inl fn249)), (h0_low, .inl (g.2.1.1, 54, .inl fn250)), (h0_high, .inl (g.2.1.1, 54, .inl fn251)), (y1_side, .inl (g.2.1.1, 9, .inl f_y1_side)), (h0_corner, .inl (g.2.1.1, 27, .inl f4)), (h0_start, .inl (g.2.1.1, 3, .inl f297)), (y1_from, .inl (g.2.1.1, 9, .inl f_y1_from)), (y1_height, .inl (g.2.1.1, 9, .inl f_y1_height)), (y1_width, .inl (g.2.1.1, 9, .inl f_y1_width)), (h0, .inr (5, [.ref h0_low, .ref h0_high, .ref h0_normal, .ref h0_corner, .ref h0_east, .ref h0_north, .ref h0_start, .ref h0_far])), (h0_east, .inl (g.2.1.1, 9, .inl f5)), (h0_north, .inl (g.2.1.1, 9, .inl f6)), (y1, .inr (4, [.int y1_count, .int y1_statements, .int y1_thick, .int y1_punch, .int y1_ups, .int y1_toolCount, .ref y1_toolWidth, .ref y1_told, .ref y1_name, .ref y1_parent, .ref y1_side, .ref y1_from, .ref y1_width, .ref y1_height, .ref y1_radius, .ref y1_toolSet])), (y1_parent, .inl (g.2.1.1, 9, .inl f_y1_parent)), (y1_radius, .inl (g.2.1.1, 9, .inl f_y1_radius)), (y1_told, .inl (g.2.1.1, 10, .inl f_y1_told))] H := hP
        have hD : va_D A [(h0_normal, .inl (g.2.1.1, 18, .inl f7)), (h0_far, .inl (g.2.1.1, 3, .inl fn249)), (h0_low, .inl (g.2.1.1, 54, .inl fn250)), (h0_high, .inl (g.2.1.1, 54, .inl fn251)), (y1_side, .inl (g.2.1.1, 9, .inl f_y1_side)), (h0_corner, .inl (g.2.1.1, 27, .inl f4)), (h0_start, .inl (g.2.1.1, 3, .inl f297)), (y1_from, .inl (g.2.1.1, 9, .inl f_y1_from)), (y1_height, .inl (g.2.1.1, 9, .inl f_y1_height)), (y1_width, .inl (g.2.1.1, 9, .inl f_y1_width)), (h0, .inr (5, [.ref h0_low, .ref h0_high, .ref h0_normal, .ref h0_corner, .ref h0_east, .ref h0_north, .ref h0_start, .ref h0_far])), (h0_east, .inl (g.2.1.1, 9, .inl f5)), (h0_north, .inl (g.2.1.1, 9, .inl f6)), (y1, .inr (4, [.int y1_count, .int y1_statements, .int y1_thick, .int y1_punch, .int y1_ups, .int y1_toolCount, .ref y1_toolWidth, .ref y1_told, .ref y1_name, .ref y1_parent, .ref y1_side, .ref y1_from, .ref y1_width, .ref y1_height, .ref y1_radius, .ref y1_toolSet])), (y1_parent, .inl (g.2.1.1, 9, .inl f_y1_parent)), (y1_radius, .inl (g.2.1.1, 9, .inl f_y1_radius)), (y1_told, .inl (g.2.1.1, 10, .inl f_y1_told))] := hD
        refine zfv (wr := [(h0_normal, .inl (g.2.1.1, 18, .inl f7)), (y1_side, .inl (g.2.1.1, 9, .inl f_y1_side)), (h0_corner, .inl (g.2.1.1, 27, .inl f4)), (y1_from, .inl (g.2.1.1, 9, .inl f_y1_from)), (y1_height, .inl (g.2.1.1, 9, .inl f_y1_height)), (y1_width, .inl (g.2.1.1, 9, .inl f_y1_width)), (h0_east, .inl (g.2.1.1, 9, .inl f5)), (h0_north, .inl (g.2.1.1, 9, .inl f6)), (y1, .inr (4, [.int y1_count, .int y1_statements, .int y1_thick, .int y1_punch, .int y1_ups, .int y1_toolCount, .ref y1_toolWidth, .ref y1_told, .ref y1_name, .ref y1_parent, .ref y1_side, .ref y1_from, .ref y1_width, .ref y1_height, .ref y1_radius, .ref y1_toolSet])), (y1_parent, .inl (g.2.1.1, 9, .inl f_y1_parent)), (y1_radius, .inl (g.2.1.1, 9, .inl f_y1_radius)), (y1_told, .inl (g.2.1.1, 10, .inl f_y1_told))]) (va_runV (As := [.int z298, .int r301, .int z303, .int r305, .int r307]) (rest := []) ⟨hx, hb, hml, hown, hG⟩ (kX5_setBox l g h0 z298 r301 z303 r305 r307 h0_low h0_high h0_normal h0_corner h0_east h0_north h0_start h0_far f297 fn249 fn250 fn251 (ox_181 c287i f291 f300 hy0 i285 i290) (ox_48 hq302) (ox_48 hq306) _) ⟨callB_of 5 hG (zGood wc_X5_setBox) rfl rfl rfl (hG _ wini_X5) (hG _ wm_X5_82) hX5_setBox ⟨Nat.le_of_ble_eq_true rfl, Nat.le_of_ble_eq_true rfl⟩, hG _ wi_X5_setBox, hG _ wse_X5_X5_setBox⟩ (zpreV (va_recv hX.1 hP (ci := 5) (q0 := 10) rfl rfl) hX hP hD hS hA [10, 6, 1, 2, 3] rfl (by decide)) rfl rfl hl.1 rfl (lv_room (Nat.le_of_ble_eq_true rfl)) dX5_placeFlat_68 ⟨Nat.le_of_ble_eq_true rfl, Nat.le_of_ble_eq_true rfl⟩) hP hD hS hA [10, 6, 1, 2, 3] [0, 4, 5, 7, 8, 9, 11, 12, 13, 14, 15, 16] rfl rfl (by decide) (by decide) (fun u309 H locs hp hP hD hS => ?_)
        refine W.cs (cells' := 0) (slots' := 0) rfl rfl ?_
        obtain ⟨f310, f311, f312⟩ := u309
        have hP : va_P g.1 vwCl [(h0_normal, .inl (g.2.1.1, 18, .inl f7)), (y1_side, .inl (g.2.1.1, 9, .inl f_y1_side)), (h0_corner, .inl (g.2.1.1, 27, .inl f4)), (y1_from, .inl (g.2.1.1, 9, .inl f_y1_from)), (y1_height, .inl (g.2.1.1, 9, .inl f_y1_height)), (y1_width, .inl (g.2.1.1, 9, .inl f_y1_width)), (h0_east, .inl (g.2.1.1, 9, .inl f5)), (h0_north, .inl (g.2.1.1, 9, .inl f6)), (y1, .inr (4, [.int y1_count, .int y1_statements, .int y1_thick, .int y1_punch, .int y1_ups, .int y1_toolCount, .ref y1_toolWidth, .ref y1_told, .ref y1_name, .ref y1_parent, .ref y1_side, .ref y1_from, .ref y1_width, .ref y1_height, .ref y1_radius, .ref y1_toolSet])), (y1_parent, .inl (g.2.1.1, 9, .inl f_y1_parent)), (y1_radius, .inl (g.2.1.1, 9, .inl f_y1_radius)), (y1_told, .inl (g.2.1.1, 10, .inl f_y1_told)), (h0, .inr (5, [.ref h0_low, .ref h0_high, .ref h0_normal, .ref h0_corner, .ref h0_east, .ref h0_north, .ref h0_start, .ref h0_far])), (h0_start, .inl (g.2.1.1, 3, .inl f297)), (h0_far, .inl (g.2.1.1, 3, .inl f310)), (h0_low, .inl (g.2.1.1, 54, .inl f311)), (h0_high, .inl (g.2.1.1, 54, .inl f312))] H := hP
        have hD : va_D A [(h0_normal, .inl (g.2.1.1, 18, .inl f7)), (y1_side, .inl (g.2.1.1, 9, .inl f_y1_side)), (h0_corner, .inl (g.2.1.1, 27, .inl f4)), (y1_from, .inl (g.2.1.1, 9, .inl f_y1_from)), (y1_height, .inl (g.2.1.1, 9, .inl f_y1_height)), (y1_width, .inl (g.2.1.1, 9, .inl f_y1_width)), (h0_east, .inl (g.2.1.1, 9, .inl f5)), (h0_north, .inl (g.2.1.1, 9, .inl f6)), (y1, .inr (4, [.int y1_count, .int y1_statements, .int y1_thick, .int y1_punch, .int y1_ups, .int y1_toolCount, .ref y1_toolWidth, .ref y1_told, .ref y1_name, .ref y1_parent, .ref y1_side, .ref y1_from, .ref y1_width, .ref y1_height, .ref y1_radius, .ref y1_toolSet])), (y1_parent, .inl (g.2.1.1, 9, .inl f_y1_parent)), (y1_radius, .inl (g.2.1.1, 9, .inl f_y1_radius)), (y1_told, .inl (g.2.1.1, 10, .inl f_y1_told)), (h0, .inr (5, [.ref h0_low, .ref h0_high, .ref h0_normal, .ref h0_corner, .ref h0_east, .ref h0_north, .ref h0_start, .ref h0_far])), (h0_start, .inl (g.2.1.1, 3, .inl f297)), (h0_far, .inl (g.2.1.1, 3, .inl f310)), (h0_low, .inl (g.2.1.1, 54, .inl f311)), (h0_high, .inl (g.2.1.1, 54, .inl f312))] := hD
        obtain ⟨z313, e314⟩ : ∃ y9 : Int32, y9 = v247 + 1 := ⟨_, rfl⟩
        have f315 : z313.toInt = v247.toInt + 1 := za e314 (rfl : v247.toInt = _) (show (1 : Int32).toInt = (1 : Int) from by decide) (ox_182 (zr v247) (zr y1_count) (zr z288) (zr z298) c287i f291 f300 hy0 i285 i290)
        refine lv_iinc (v := z313) (lv' := [(2, .int z313), (4, .int z292), (3, .int z288), (0, .ref h0), (1, .ref y1)]) hx hb dX5_placeFlat_71 hl (k := 4) rfl (by rw [e314]; rfl) (by decide) rfl (fun ls hl => ?_)
        refine lv_goto (tgt := 9) hx hb dX5_placeFlat_74 (by decide) ?_
        exact ih284 z313 f297 f310 f311 f312 H locs ls (ox_183 c287i f291 f300 f315 hy0 i285 i290) (zdec hm286 (ox_184 c287i f291 f300 f315 hy0 i285 i290)) (hP.sub [8, 9, 10, 12, 13, 2, 6, 7, 0, 5, 4, 14, 15, 16, 1, 3, 11] rfl) (hD.sub [8, 9, 10, 12, 13, 2, 6, 7, 0, 5, 4, 14, 15, 16, 1, 3, 11] (by decide) rfl) hS (lv_sub hl [3, 4, 0] rfl)
  exact L282 _ (1 : Int32) f3 f8 f9 f10 H locs ls ((show 1 ≤ (1 : Int) ∧ (1 : Int) ≤ 9 from by decide)) (Nat.lt_succ_self _) hP hD hS (lv_sub hl [1, 2, 0] rfl)
theorem dX5_leastLow_0 : decode cX5_leastLow 0 = .ok (.aload_n 0, 1) := by decide +kernel
theorem dX5_leastLow_1 : decode cX5_leastLow 1 = .ok (.getfield 11, 3) := by decide +kernel
theorem dX5_leastLow_4 : decode cX5_leastLow 4 = .ok (.iload_n 2, 1) := by decide +kernel
theorem dX5_leastLow_5 : decode cX5_leastLow 5 = .ok (.iaload, 1) := by decide +kernel
theorem dX5_leastLow_6 : decode cX5_leastLow 6 = .ok (.istore_n 3, 1) := by decide +kernel
theorem dX5_leastLow_7 : decode cX5_leastLow 7 = .ok (.iconst 1, 1) := by decide +kernel
theorem dX5_leastLow_8 : decode cX5_leastLow 8 = .ok (.istore 4, 2) := by decide +kernel
theorem dX5_leastLow_10 : decode cX5_leastLow 10 = .ok (.iload 4, 2) := by decide +kernel
theorem dX5_leastLow_12 : decode cX5_leastLow 12 = .ok (.iload_n 1, 1) := by decide +kernel
theorem dX5_leastLow_13 : decode cX5_leastLow 13 = .ok (.if_icmp .ge 21, 3) := by decide +kernel
theorem dX5_leastLow_34 : decode cX5_leastLow 34 = .ok (.iload_n 3, 1) := by decide +kernel
theorem dX5_leastLow_35 : decode cX5_leastLow 35 = .ok (.ireturn, 1) := by decide +kernel
theorem dX5_leastLow_16 : decode cX5_leastLow 16 = .ok (.iload_n 3, 1) := by decide +kernel
theorem dX5_leastLow_17 : decode cX5_leastLow 17 = .ok (.aload_n 0, 1) := by decide +kernel
theorem dX5_leastLow_18 : decode cX5_leastLow 18 = .ok (.iload 4, 2) := by decide +kernel
theorem dX5_leastLow_20 : decode cX5_leastLow 20 = .ok (.iload_n 2, 1) := by decide +kernel
theorem dX5_leastLow_21 : decode cX5_leastLow 21 = .ok (.invokevirtual 129, 3) := by decide +kernel
theorem dX5_leastLow_24 : decode cX5_leastLow 24 = .ok (.invokestatic 121, 3) := by decide +kernel
theorem dX5_leastLow_27 : decode cX5_leastLow 27 = .ok (.istore_n 3, 1) := by decide +kernel
theorem dX5_leastLow_28 : decode cX5_leastLow 28 = .ok (.iinc 4 1, 3) := by decide +kernel
theorem dX5_leastLow_31 : decode cX5_leastLow 31 = .ok (.goto (-21), 3) := by decide +kernel
abbrev rm_kX5_leastLow : Room := { frames := 1, cells := 0, slots := 0, locals := 22 }
set_option maxHeartbeats 4000000 in
set_option maxRecDepth 100000 in
theorem kX5_leastLow (l : Launch) (g : zL) (h0 : Nat) (x1 : Int32) (x2 : Int32) (h0_low : Nat) (h0_high : Nat) (h0_normal : Nat) (h0_corner : Nat) (h0_east : Nat) (h0_north : Nat) (h0_start : Nat) (h0_far : Nat) (f_h0_low : Nat → Int32) (hy0 : 0 ≤ x1.toInt ∧ x1.toInt ≤ 9) (hy1 : 0 ≤ x2.toInt ∧ x2.toInt ≤ 2) : zCi l g yX5_leastLow cX5_leastLow 5 (some .int) rm_kX5_leastLow [.ref h0, .int x1, .int x2] [(h0, .inr (5, [.ref h0_low, .ref h0_high, .ref h0_normal, .ref h0_corner, .ref h0_east, .ref h0_north, .ref h0_start, .ref h0_far])), (h0_low, .inl (g.2.1.1, 54, .inl f_h0_low))] (fun (r : Int32) (u : Unit) => True) (fun (u : Unit) => [(h0, .inr (5, [.ref h0_low, .ref h0_high, .ref h0_normal, .ref h0_corner, .ref h0_east, .ref h0_north, .ref h0_start, .ref h0_far])), (h0_low, .inl (g.2.1.1, 54, .inl f_h0_low))]) := by
  refine zCi.mk2 (by decide) (Nat.le_of_ble_eq_true rfl) ?_
  intro p e s m below meth c A args Q hE hret hP hD hS ls hl
  obtain ⟨hx, hb, hr, hml, hown, hG, hlocks, hnm, hX, hA⟩ := hE
  have hown : s.vm.findClass RX5 = some m.cls := hown
  have hl : lv_has ls 5 [(0, .ref h0), (1, .int x1), (2, .int x2)] := hl
  refine lv_aload_n hx hb dX5_leastLow_0 rfl (lv_at hl 0 rfl) ?_
  refine va_get (D := g.1) (ci := 5) (v := .ref h0_low) (C := RX5) (T := TX5) (N := 8) hx hb hG iX5 hown hX.1 hP 0 rfl rfl 0 (by decide) (hG _ wf_X5_11) (fun _ h9 => h9) rfl dX5_leastLow_1 ?_
  refine lv_iload_n hx hb dX5_leastLow_4 rfl (lv_at hl 2 rfl) ?_
  refine va_iald hx hb hX.1 hP 1 0 rfl rfl (zin (rfl : x2.toInt = _) (ox_185 hy1)) dX5_leastLow_5 ?_
  refine lv_topi (fun z1 e2 => ?_)
  refine lv_istore_n (lv' := [(3, .int z1), (0, .ref h0), (1, .int x1), (2, .int x2)]) hx hb dX5_leastLow_6 rfl hl (by decide) rfl (fun ls hl => ?_)
  refine lv_iconst (v := 1) hx hb dX5_leastLow_7 (by decide) ?_
  refine lv_istore (lv' := [(4, .int 1), (3, .int z1), (0, .ref h0), (1, .int x1), (2, .int x2)]) hx hb dX5_leastLow_8 hl (by decide) rfl (fun ls hl => ?_)
  have L85 : ∀ (n : Nat) (v74 : Int32) (v75 : Int32) (H : Heap) (locs : List Loc) (ls : Array Slot), 1 ≤ v75.toInt ∧ v75.toInt ≤ 9 → (10 - v75.toInt).toNat < n → va_P g.1 vwCl [(h0, .inr (5, [.ref h0_low, .ref h0_high, .ref h0_normal, .ref h0_corner, .ref h0_east, .ref h0_north, .ref h0_start, .ref h0_far])), (h0_low, .inl (g.2.1.1, 54, .inl f_h0_low))] H → va_D A [(h0, .inr (5, [.ref h0_low, .ref h0_high, .ref h0_normal, .ref h0_corner, .ref h0_east, .ref h0_north, .ref h0_start, .ref h0_far])), (h0_low, .inl (g.2.1.1, 54, .inl f_h0_low))] → va_S A s.heap H locs → lv_has ls 5 [(0, .ref h0), (1, .int x1), (2, .int x2), (3, .int v74), (4, .int v75)] → W p l e rm_kX5_leastLow s m args below meth c H locs 0 0 Q (F0 m 10 ls []) := by
    intro n86
    induction n86 with
    | zero => intro v74 v75 H locs ls i88 hm89; exact absurd hm89 (Nat.not_lt_zero _)
    | succ n86 ih87 =>
      intro v74 v75 H locs ls i88 hm89 hP hD hS hl
      refine lv_iload hx hb dX5_leastLow_10 (lv_at hl 4 rfl) ?_
      refine lv_iload_n hx hb dX5_leastLow_12 rfl (lv_at hl 1 rfl) ?_
      refine lv_icmp_ge (tgt := 34) hx hb dX5_leastLow_13 (by decide) (fun c90 => ?_) (fun c90 => ?_)
      · skip
        have c90i : x1.toInt ≤ v75.toInt := (zc_le (rfl : x1.toInt = _) (rfl : v75.toInt = _)).mp c90
        refine lv_iload_n hx hb dX5_leastLow_34 rfl (lv_at hl 3 rfl) ?_
        exact hret v74 () (Nat.le_of_ble_eq_true rfl) (Nat.le_of_ble_eq_true rfl) rfl trivial hP hD hS dX5_leastLow_35
      · skip
        have c90i : ¬ (x1.toInt ≤ v75.toInt) := fun q => c90 ((zc_le (rfl : x1.toInt = _) (rfl : v75.toInt = _)).mpr q)
        refine lv_iload_n hx hb dX5_leastLow_16 rfl (lv_at hl 3 rfl) ?_
        refine lv_aload_n hx hb dX5_leastLow_17 rfl (lv_at hl 0 rfl) ?_
        refine lv_iload hx hb dX5_leastLow_18 (lv_at hl 4 rfl) ?_
        refine lv_iload_n hx hb dX5_leastLow_20 rfl (lv_at hl 2 rfl) ?_
        refine zfi (wr := []) (va_runV (As := [.int v75, .int x2]) (rest := [.int v74]) ⟨hx, hb, hml, hown, hG⟩ (kX5_lowOf l g h0 v75 x2 h0_low h0_high h0_normal h0_corner h0_east h0_north h0_start h0_far f_h0_low (ox_186 c90i hy0 i88) (ox_187 hy1) _) ⟨callB_of 2 hG (zGood wc_X5_lowOf) rfl rfl rfl (hG _ wini_X5) (hG _ wm_X5_129) hX5_lowOf ⟨Nat.le_of_ble_eq_true rfl, Nat.le_of_ble_eq_true rfl⟩, hG _ wi_X5_lowOf, hG _ wse_X5_X5_lowOf⟩ (zpreV (va_recv hX.1 hP (ci := 5) (q0 := 0) rfl rfl) hX hP hD hS hA [0, 1] rfl (by decide)) rfl rfl hl.1 rfl (lv_room (Nat.le_of_ble_eq_true rfl)) dX5_leastLow_21 ⟨Nat.le_of_ble_eq_true rfl, Nat.le_of_ble_eq_true rfl⟩) hP hD hS hA [0, 1] [] rfl rfl (by decide) (by decide) (fun r91 _ H locs hp hP hD hS => ?_)
        refine W.cs (cells' := 0) (slots' := 0) rfl rfl ?_
        have hP : va_P g.1 vwCl [(h0, .inr (5, [.ref h0_low, .ref h0_high, .ref h0_normal, .ref h0_corner, .ref h0_east, .ref h0_north, .ref h0_start, .ref h0_far])), (h0_low, .inl (g.2.1.1, 54, .inl f_h0_low))] H := hP
        have hD : va_D A [(h0, .inr (5, [.ref h0_low, .ref h0_high, .ref h0_normal, .ref h0_corner, .ref h0_east, .ref h0_north, .ref h0_start, .ref h0_far])), (h0_low, .inl (g.2.1.1, 54, .inl f_h0_low))] := hD
        refine va_mmin hx hb (by rw [hml]; exact hl.1.symm) hown (hG _ wm_X5_121) (hG _ ws_J9_min_7cf53) (hG _ wini_J9) (hG _ wc_J9_min_7cf53) (Nat.le_of_ble_eq_true rfl) (Nat.le_of_ble_eq_true rfl) (Nat.le_of_ble_eq_true rfl) (Nat.le_of_ble_eq_true rfl) dX5_leastLow_24 ?_
        refine lv_topi (fun z92 e93 => ?_)
        have f94 : z92.toInt ≤ v74.toInt ∧ z92.toInt ≤ r91.toInt ∧ (z92.toInt = v74.toInt ∨ z92.toInt = r91.toInt) := zmn e93 (rfl : v74.toInt = _) (rfl : r91.toInt = _)
        refine lv_istore_n (lv' := [(3, .int z92), (0, .ref h0), (1, .int x1), (2, .int x2), (4, .int v75)]) hx hb dX5_leastLow_27 rfl hl (by decide) rfl (fun ls hl => ?_)
        obtain ⟨z95, e96⟩ : ∃ y9 : Int32, y9 = v75 + 1 := ⟨_, rfl⟩
        have f97 : z95.toInt = v75.toInt + 1 := za e96 (rfl : v75.toInt = _) (show (1 : Int32).toInt = (1 : Int) from by decide) (ox_170 (zr v75) (zr x1) c90i hy0 i88)
        refine lv_iinc (v := z95) (lv' := [(4, .int z95), (3, .int z92), (0, .ref h0), (1, .int x1), (2, .int x2)]) hx hb dX5_leastLow_28 hl (k := 4) rfl (by rw [e96]; rfl) (by decide) rfl (fun ls hl => ?_)
        refine lv_goto (tgt := 10) hx hb dX5_leastLow_31 (by decide) ?_
        exact ih87 z92 z95 H locs ls (ox_18 c90i f97 hy0 i88) (zdec hm89 (ox_19 c90i f97 hy0 i88)) hP hD hS (lv_sub hl [2, 3, 4, 1, 0] rfl)
  exact L85 _ z1 (1 : Int32) _ _ ls ((show 1 ≤ (1 : Int) ∧ (1 : Int) ≤ 9 from by decide)) (Nat.lt_succ_self _) hP hD hS (lv_sub hl [2, 3, 4, 1, 0] rfl)
theorem dX5_mostHigh_0 : decode cX5_mostHigh 0 = .ok (.aload_n 0, 1) := by decide +kernel
theorem dX5_mostHigh_1 : decode cX5_mostHigh 1 = .ok (.getfield 15, 3) := by decide +kernel
theorem dX5_mostHigh_4 : decode cX5_mostHigh 4 = .ok (.iload_n 2, 1) := by decide +kernel
theorem dX5_mostHigh_5 : decode cX5_mostHigh 5 = .ok (.iaload, 1) := by decide +kernel
theorem dX5_mostHigh_6 : decode cX5_mostHigh 6 = .ok (.istore_n 3, 1) := by decide +kernel
theorem dX5_mostHigh_7 : decode cX5_mostHigh 7 = .ok (.iconst 1, 1) := by decide +kernel
theorem dX5_mostHigh_8 : decode cX5_mostHigh 8 = .ok (.istore 4, 2) := by decide +kernel
theorem dX5_mostHigh_10 : decode cX5_mostHigh 10 = .ok (.iload 4, 2) := by decide +kernel
theorem dX5_mostHigh_12 : decode cX5_mostHigh 12 = .ok (.iload_n 1, 1) := by decide +kernel
theorem dX5_mostHigh_13 : decode cX5_mostHigh 13 = .ok (.if_icmp .ge 21, 3) := by decide +kernel
theorem dX5_mostHigh_34 : decode cX5_mostHigh 34 = .ok (.iload_n 3, 1) := by decide +kernel
theorem dX5_mostHigh_35 : decode cX5_mostHigh 35 = .ok (.ireturn, 1) := by decide +kernel
theorem dX5_mostHigh_16 : decode cX5_mostHigh 16 = .ok (.iload_n 3, 1) := by decide +kernel
theorem dX5_mostHigh_17 : decode cX5_mostHigh 17 = .ok (.aload_n 0, 1) := by decide +kernel
theorem dX5_mostHigh_18 : decode cX5_mostHigh 18 = .ok (.iload 4, 2) := by decide +kernel
theorem dX5_mostHigh_20 : decode cX5_mostHigh 20 = .ok (.iload_n 2, 1) := by decide +kernel
theorem dX5_mostHigh_21 : decode cX5_mostHigh 21 = .ok (.invokevirtual 132, 3) := by decide +kernel
theorem dX5_mostHigh_24 : decode cX5_mostHigh 24 = .ok (.invokestatic 126, 3) := by decide +kernel
theorem dX5_mostHigh_27 : decode cX5_mostHigh 27 = .ok (.istore_n 3, 1) := by decide +kernel
theorem dX5_mostHigh_28 : decode cX5_mostHigh 28 = .ok (.iinc 4 1, 3) := by decide +kernel
theorem dX5_mostHigh_31 : decode cX5_mostHigh 31 = .ok (.goto (-21), 3) := by decide +kernel
abbrev rm_kX5_mostHigh : Room := { frames := 1, cells := 0, slots := 0, locals := 22 }
set_option maxHeartbeats 4000000 in
set_option maxRecDepth 100000 in
theorem kX5_mostHigh (l : Launch) (g : zL) (h0 : Nat) (x1 : Int32) (x2 : Int32) (h0_low : Nat) (h0_high : Nat) (h0_normal : Nat) (h0_corner : Nat) (h0_east : Nat) (h0_north : Nat) (h0_start : Nat) (h0_far : Nat) (f_h0_high : Nat → Int32) (hy0 : 0 ≤ x1.toInt ∧ x1.toInt ≤ 9) (hy1 : 0 ≤ x2.toInt ∧ x2.toInt ≤ 2) : zCi l g yX5_mostHigh cX5_mostHigh 5 (some .int) rm_kX5_mostHigh [.ref h0, .int x1, .int x2] [(h0, .inr (5, [.ref h0_low, .ref h0_high, .ref h0_normal, .ref h0_corner, .ref h0_east, .ref h0_north, .ref h0_start, .ref h0_far])), (h0_high, .inl (g.2.1.1, 54, .inl f_h0_high))] (fun (r : Int32) (u : Unit) => True) (fun (u : Unit) => [(h0, .inr (5, [.ref h0_low, .ref h0_high, .ref h0_normal, .ref h0_corner, .ref h0_east, .ref h0_north, .ref h0_start, .ref h0_far])), (h0_high, .inl (g.2.1.1, 54, .inl f_h0_high))]) := by
  refine zCi.mk2 (by decide) (Nat.le_of_ble_eq_true rfl) ?_
  intro p e s m below meth c A args Q hE hret hP hD hS ls hl
  obtain ⟨hx, hb, hr, hml, hown, hG, hlocks, hnm, hX, hA⟩ := hE
  have hown : s.vm.findClass RX5 = some m.cls := hown
  have hl : lv_has ls 5 [(0, .ref h0), (1, .int x1), (2, .int x2)] := hl
  refine lv_aload_n hx hb dX5_mostHigh_0 rfl (lv_at hl 0 rfl) ?_
  refine va_get (D := g.1) (ci := 5) (v := .ref h0_high) (C := RX5) (T := TX5) (N := 8) hx hb hG iX5 hown hX.1 hP 0 rfl rfl 1 (by decide) (hG _ wf_X5_15) (fun _ h9 => h9) rfl dX5_mostHigh_1 ?_
  refine lv_iload_n hx hb dX5_mostHigh_4 rfl (lv_at hl 2 rfl) ?_
  refine va_iald hx hb hX.1 hP 1 0 rfl rfl (zin (rfl : x2.toInt = _) (ox_185 hy1)) dX5_mostHigh_5 ?_
  refine lv_topi (fun z1 e2 => ?_)
  refine lv_istore_n (lv' := [(3, .int z1), (0, .ref h0), (1, .int x1), (2, .int x2)]) hx hb dX5_mostHigh_6 rfl hl (by decide) rfl (fun ls hl => ?_)
  refine lv_iconst (v := 1) hx hb dX5_mostHigh_7 (by decide) ?_
  refine lv_istore (lv' := [(4, .int 1), (3, .int z1), (0, .ref h0), (1, .int x1), (2, .int x2)]) hx hb dX5_mostHigh_8 hl (by decide) rfl (fun ls hl => ?_)
  have L85 : ∀ (n : Nat) (v74 : Int32) (v75 : Int32) (H : Heap) (locs : List Loc) (ls : Array Slot), 1 ≤ v75.toInt ∧ v75.toInt ≤ 9 → (10 - v75.toInt).toNat < n → va_P g.1 vwCl [(h0, .inr (5, [.ref h0_low, .ref h0_high, .ref h0_normal, .ref h0_corner, .ref h0_east, .ref h0_north, .ref h0_start, .ref h0_far])), (h0_high, .inl (g.2.1.1, 54, .inl f_h0_high))] H → va_D A [(h0, .inr (5, [.ref h0_low, .ref h0_high, .ref h0_normal, .ref h0_corner, .ref h0_east, .ref h0_north, .ref h0_start, .ref h0_far])), (h0_high, .inl (g.2.1.1, 54, .inl f_h0_high))] → va_S A s.heap H locs → lv_has ls 5 [(0, .ref h0), (1, .int x1), (2, .int x2), (3, .int v74), (4, .int v75)] → W p l e rm_kX5_mostHigh s m args below meth c H locs 0 0 Q (F0 m 10 ls []) := by
    intro n86
    induction n86 with
    | zero => intro v74 v75 H locs ls i88 hm89; exact absurd hm89 (Nat.not_lt_zero _)
    | succ n86 ih87 =>
      intro v74 v75 H locs ls i88 hm89 hP hD hS hl
      refine lv_iload hx hb dX5_mostHigh_10 (lv_at hl 4 rfl) ?_
      refine lv_iload_n hx hb dX5_mostHigh_12 rfl (lv_at hl 1 rfl) ?_
      refine lv_icmp_ge (tgt := 34) hx hb dX5_mostHigh_13 (by decide) (fun c90 => ?_) (fun c90 => ?_)
      · skip
        have c90i : x1.toInt ≤ v75.toInt := (zc_le (rfl : x1.toInt = _) (rfl : v75.toInt = _)).mp c90
        refine lv_iload_n hx hb dX5_mostHigh_34 rfl (lv_at hl 3 rfl) ?_
        exact hret v74 () (Nat.le_of_ble_eq_true rfl) (Nat.le_of_ble_eq_true rfl) rfl trivial hP hD hS dX5_mostHigh_35
      · skip
        have c90i : ¬ (x1.toInt ≤ v75.toInt) := fun q => c90 ((zc_le (rfl : x1.toInt = _) (rfl : v75.toInt = _)).mpr q)
        refine lv_iload_n hx hb dX5_mostHigh_16 rfl (lv_at hl 3 rfl) ?_
        refine lv_aload_n hx hb dX5_mostHigh_17 rfl (lv_at hl 0 rfl) ?_
        refine lv_iload hx hb dX5_mostHigh_18 (lv_at hl 4 rfl) ?_
        refine lv_iload_n hx hb dX5_mostHigh_20 rfl (lv_at hl 2 rfl) ?_
        refine zfi (wr := []) (va_runV (As := [.int v75, .int x2]) (rest := [.int v74]) ⟨hx, hb, hml, hown, hG⟩ (kX5_highOf l g h0 v75 x2 h0_low h0_high h0_normal h0_corner h0_east h0_north h0_start h0_far f_h0_high (ox_186 c90i hy0 i88) (ox_187 hy1) _) ⟨callB_of 2 hG (zGood wc_X5_highOf) rfl rfl rfl (hG _ wini_X5) (hG _ wm_X5_132) hX5_highOf ⟨Nat.le_of_ble_eq_true rfl, Nat.le_of_ble_eq_true rfl⟩, hG _ wi_X5_highOf, hG _ wse_X5_X5_highOf⟩ (zpreV (va_recv hX.1 hP (ci := 5) (q0 := 0) rfl rfl) hX hP hD hS hA [0, 1] rfl (by decide)) rfl rfl hl.1 rfl (lv_room (Nat.le_of_ble_eq_true rfl)) dX5_mostHigh_21 ⟨Nat.le_of_ble_eq_true rfl, Nat.le_of_ble_eq_true rfl⟩) hP hD hS hA [0, 1] [] rfl rfl (by decide) (by decide) (fun r91 _ H locs hp hP hD hS => ?_)
        refine W.cs (cells' := 0) (slots' := 0) rfl rfl ?_
        have hP : va_P g.1 vwCl [(h0, .inr (5, [.ref h0_low, .ref h0_high, .ref h0_normal, .ref h0_corner, .ref h0_east, .ref h0_north, .ref h0_start, .ref h0_far])), (h0_high, .inl (g.2.1.1, 54, .inl f_h0_high))] H := hP
        have hD : va_D A [(h0, .inr (5, [.ref h0_low, .ref h0_high, .ref h0_normal, .ref h0_corner, .ref h0_east, .ref h0_north, .ref h0_start, .ref h0_far])), (h0_high, .inl (g.2.1.1, 54, .inl f_h0_high))] := hD
        refine va_mmax hx hb (by rw [hml]; exact hl.1.symm) hown (hG _ wm_X5_126) (hG _ ws_J9_max_7cf53) (hG _ wini_J9) (hG _ wc_J9_max_7cf53) (Nat.le_of_ble_eq_true rfl) (Nat.le_of_ble_eq_true rfl) (Nat.le_of_ble_eq_true rfl) (Nat.le_of_ble_eq_true rfl) dX5_mostHigh_24 ?_
        refine lv_topi (fun z92 e93 => ?_)
        have f94 : z92.toInt ≥ v74.toInt ∧ z92.toInt ≥ r91.toInt ∧ (z92.toInt = v74.toInt ∨ z92.toInt = r91.toInt) := zmx e93 (rfl : v74.toInt = _) (rfl : r91.toInt = _)
        refine lv_istore_n (lv' := [(3, .int z92), (0, .ref h0), (1, .int x1), (2, .int x2), (4, .int v75)]) hx hb dX5_mostHigh_27 rfl hl (by decide) rfl (fun ls hl => ?_)
        obtain ⟨z95, e96⟩ : ∃ y9 : Int32, y9 = v75 + 1 := ⟨_, rfl⟩
        have f97 : z95.toInt = v75.toInt + 1 := za e96 (rfl : v75.toInt = _) (show (1 : Int32).toInt = (1 : Int) from by decide) (ox_170 (zr v75) (zr x1) c90i hy0 i88)
        refine lv_iinc (v := z95) (lv' := [(4, .int z95), (3, .int z92), (0, .ref h0), (1, .int x1), (2, .int x2)]) hx hb dX5_mostHigh_28 hl (k := 4) rfl (by rw [e96]; rfl) (by decide) rfl (fun ls hl => ?_)
        refine lv_goto (tgt := 10) hx hb dX5_mostHigh_31 (by decide) ?_
        exact ih87 z92 z95 H locs ls (ox_18 c90i f97 hy0 i88) (zdec hm89 (ox_19 c90i f97 hy0 i88)) hP hD hS (lv_sub hl [2, 3, 4, 1, 0] rfl)
  exact L85 _ z1 (1 : Int32) _ _ ls ((show 1 ≤ (1 : Int) ∧ (1 : Int) ≤ 9 from by decide)) (Nat.lt_succ_self _) hP hD hS (lv_sub hl [2, 3, 4, 1, 0] rfl)
theorem dX5_extent_0 : decode cX5_extent 0 = .ok (.aload_n 0, 1) := by decide +kernel
theorem dX5_extent_1 : decode cX5_extent 1 = .ok (.iload_n 1, 1) := by decide +kernel
theorem dX5_extent_2 : decode cX5_extent 2 = .ok (.iload_n 2, 1) := by decide +kernel
theorem dX5_extent_3 : decode cX5_extent 3 = .ok (.invokevirtual 135, 3) := by decide +kernel
theorem dX5_extent_6 : decode cX5_extent 6 = .ok (.aload_n 0, 1) := by decide +kernel
theorem dX5_extent_7 : decode cX5_extent 7 = .ok (.iload_n 1, 1) := by decide +kernel
theorem dX5_extent_8 : decode cX5_extent 8 = .ok (.iload_n 2, 1) := by decide +kernel
theorem dX5_extent_9 : decode cX5_extent 9 = .ok (.invokevirtual 138, 3) := by decide +kernel
theorem dX5_extent_12 : decode cX5_extent 12 = .ok (.isub, 1) := by decide +kernel
theorem dX5_extent_13 : decode cX5_extent 13 = .ok (.ireturn, 1) := by decide +kernel
abbrev rm_kX5_extent : Room := { frames := 2, cells := 0, slots := 0, locals := 46 }
set_option maxHeartbeats 4000000 in
set_option maxRecDepth 100000 in
theorem kX5_extent (l : Launch) (g : zL) (h0 : Nat) (x1 : Int32) (x2 : Int32) (h0_low : Nat) (h0_high : Nat) (h0_normal : Nat) (h0_corner : Nat) (h0_east : Nat) (h0_north : Nat) (h0_start : Nat) (h0_far : Nat) (f_h0_high : Nat → Int32) (f_h0_low : Nat → Int32) (hy0 : 0 ≤ x1.toInt ∧ x1.toInt ≤ 9) (hy1 : 0 ≤ x2.toInt ∧ x2.toInt ≤ 2) : zCi l g yX5_extent cX5_extent 3 (some .int) rm_kX5_extent [.ref h0, .int x1, .int x2] [(h0, .inr (5, [.ref h0_low, .ref h0_high, .ref h0_normal, .ref h0_corner, .ref h0_east, .ref h0_north, .ref h0_start, .ref h0_far])), (h0_high, .inl (g.2.1.1, 54, .inl f_h0_high)), (h0_low, .inl (g.2.1.1, 54, .inl f_h0_low))] (fun (r : Int32) (u : Unit) => True) (fun (u : Unit) => [(h0, .inr (5, [.ref h0_low, .ref h0_high, .ref h0_normal, .ref h0_corner, .ref h0_east, .ref h0_north, .ref h0_start, .ref h0_far])), (h0_high, .inl (g.2.1.1, 54, .inl f_h0_high)), (h0_low, .inl (g.2.1.1, 54, .inl f_h0_low))]) := by
  refine zCi.mk2 (by decide) (Nat.le_of_ble_eq_true rfl) ?_
  intro p e s m below meth c A args Q hE hret hP hD hS ls hl
  obtain ⟨hx, hb, hr, hml, hown, hG, hlocks, hnm, hX, hA⟩ := hE
  have hown : s.vm.findClass RX5 = some m.cls := hown
  have hl : lv_has ls 3 [(0, .ref h0), (1, .int x1), (2, .int x2)] := hl
  refine lv_aload_n hx hb dX5_extent_0 rfl (lv_at hl 0 rfl) ?_
  refine lv_iload_n hx hb dX5_extent_1 rfl (lv_at hl 1 rfl) ?_
  refine lv_iload_n hx hb dX5_extent_2 rfl (lv_at hl 2 rfl) ?_
  refine zfi (wr := [(h0_low, .inl (g.2.1.1, 54, .inl f_h0_low))]) (va_runV (As := [.int x1, .int x2]) (rest := []) ⟨hx, hb, hml, hown, hG⟩ (kX5_mostHigh l g h0 x1 x2 h0_low h0_high h0_normal h0_corner h0_east h0_north h0_start h0_far f_h0_high (ox_0 hy0) (ox_187 hy1) _) ⟨callB_of 2 hG (zGood wc_X5_mostHigh) rfl rfl rfl (hG _ wini_X5) (hG _ wm_X5_135) hX5_mostHigh ⟨Nat.le_of_ble_eq_true rfl, Nat.le_of_ble_eq_true rfl⟩, hG _ wi_X5_mostHigh, hG _ wse_X5_X5_mostHigh⟩ (zpreV (va_recv hX.1 hP (ci := 5) (q0 := 0) rfl rfl) hX hP hD hS hA [0, 1] rfl (by decide)) rfl rfl hl.1 rfl (lv_room (Nat.le_of_ble_eq_true rfl)) dX5_extent_3 ⟨Nat.le_of_ble_eq_true rfl, Nat.le_of_ble_eq_true rfl⟩) hP hD hS hA [0, 1] [2] rfl rfl (by decide) (by decide) (fun r1 _ H locs hp hP hD hS => ?_)
  refine W.cs (cells' := 0) (slots' := 0) rfl rfl ?_
  have hP : va_P g.1 vwCl [(h0_low, .inl (g.2.1.1, 54, .inl f_h0_low)), (h0, .inr (5, [.ref h0_low, .ref h0_high, .ref h0_normal, .ref h0_corner, .ref h0_east, .ref h0_north, .ref h0_start, .ref h0_far])), (h0_high, .inl (g.2.1.1, 54, .inl f_h0_high))] H := hP
  have hD : va_D A [(h0_low, .inl (g.2.1.1, 54, .inl f_h0_low)), (h0, .inr (5, [.ref h0_low, .ref h0_high, .ref h0_normal, .ref h0_corner, .ref h0_east, .ref h0_north, .ref h0_start, .ref h0_far])), (h0_high, .inl (g.2.1.1, 54, .inl f_h0_high))] := hD
  refine lv_aload_n hx hb dX5_extent_6 rfl (lv_at hl 0 rfl) ?_
  refine lv_iload_n hx hb dX5_extent_7 rfl (lv_at hl 1 rfl) ?_
  refine lv_iload_n hx hb dX5_extent_8 rfl (lv_at hl 2 rfl) ?_
  refine zfi (wr := [(h0_high, .inl (g.2.1.1, 54, .inl f_h0_high))]) (va_runV (As := [.int x1, .int x2]) (rest := [.int r1]) ⟨hx, hb, hml, hown, hG⟩ (kX5_leastLow l g h0 x1 x2 h0_low h0_high h0_normal h0_corner h0_east h0_north h0_start h0_far f_h0_low (ox_0 hy0) (ox_187 hy1) _) ⟨callB_of 2 hG (zGood wc_X5_leastLow) rfl rfl rfl (hG _ wini_X5) (hG _ wm_X5_138) hX5_leastLow ⟨Nat.le_of_ble_eq_true rfl, Nat.le_of_ble_eq_true rfl⟩, hG _ wi_X5_leastLow, hG _ wse_X5_X5_leastLow⟩ (zpreV (va_recv hX.1 hP (ci := 5) (q0 := 1) rfl rfl) hX hP hD hS hA [1, 0] rfl (by decide)) rfl rfl hl.1 rfl (lv_room (Nat.le_of_ble_eq_true rfl)) dX5_extent_9 ⟨Nat.le_of_ble_eq_true rfl, Nat.le_of_ble_eq_true rfl⟩) hP hD hS hA [1, 0] [2] rfl rfl (by decide) (by decide) (fun r2 _ H locs hp hP hD hS => ?_)
  refine W.cs (cells' := 0) (slots' := 0) rfl rfl ?_
  have hP : va_P g.1 vwCl [(h0_high, .inl (g.2.1.1, 54, .inl f_h0_high)), (h0, .inr (5, [.ref h0_low, .ref h0_high, .ref h0_normal, .ref h0_corner, .ref h0_east, .ref h0_north, .ref h0_start, .ref h0_far])), (h0_low, .inl (g.2.1.1, 54, .inl f_h0_low))] H := hP
  have hD : va_D A [(h0_high, .inl (g.2.1.1, 54, .inl f_h0_high)), (h0, .inr (5, [.ref h0_low, .ref h0_high, .ref h0_normal, .ref h0_corner, .ref h0_east, .ref h0_north, .ref h0_start, .ref h0_far])), (h0_low, .inl (g.2.1.1, 54, .inl f_h0_low))] := hD
  refine lv_isub hx hb dX5_extent_12 ?_
  refine lv_topi (fun z3 e4 => ?_)
  exact hret z3 () (Nat.le_of_ble_eq_true rfl) (Nat.le_of_ble_eq_true rfl) rfl trivial (hP.sub [1, 0, 2] rfl) (hD.sub [1, 0, 2] (by decide) rfl) hS dX5_extent_13
theorem dX5_size_0 : decode cX5_size 0 = .ok (.aload_n 0, 1) := by decide +kernel
theorem dX5_size_1 : decode cX5_size 1 = .ok (.iload_n 1, 1) := by decide +kernel
theorem dX5_size_2 : decode cX5_size 2 = .ok (.iconst 0, 1) := by decide +kernel
theorem dX5_size_3 : decode cX5_size 3 = .ok (.invokevirtual 141, 3) := by decide +kernel
theorem dX5_size_6 : decode cX5_size 6 = .ok (.aload_n 0, 1) := by decide +kernel
theorem dX5_size_7 : decode cX5_size 7 = .ok (.iload_n 1, 1) := by decide +kernel
theorem dX5_size_8 : decode cX5_size 8 = .ok (.iconst 1, 1) := by decide +kernel
theorem dX5_size_9 : decode cX5_size 9 = .ok (.invokevirtual 141, 3) := by decide +kernel
theorem dX5_size_12 : decode cX5_size 12 = .ok (.iadd, 1) := by decide +kernel
theorem dX5_size_13 : decode cX5_size 13 = .ok (.aload_n 0, 1) := by decide +kernel
theorem dX5_size_14 : decode cX5_size 14 = .ok (.iload_n 1, 1) := by decide +kernel
theorem dX5_size_15 : decode cX5_size 15 = .ok (.iconst 2, 1) := by decide +kernel
theorem dX5_size_16 : decode cX5_size 16 = .ok (.invokevirtual 141, 3) := by decide +kernel
theorem dX5_size_19 : decode cX5_size 19 = .ok (.iadd, 1) := by decide +kernel
theorem dX5_size_20 : decode cX5_size 20 = .ok (.ireturn, 1) := by decide +kernel
abbrev rm_kX5_size : Room := { frames := 3, cells := 0, slots := 0, locals := 68 }
set_option maxHeartbeats 4000000 in
set_option maxRecDepth 100000 in
theorem kX5_size (l : Launch) (g : zL) (h0 : Nat) (x1 : Int32) (h0_low : Nat) (h0_high : Nat) (h0_normal : Nat) (h0_corner : Nat) (h0_east : Nat) (h0_north : Nat) (h0_start : Nat) (h0_far : Nat) (f_h0_high : Nat → Int32) (f_h0_low : Nat → Int32) (hy0 : 0 ≤ x1.toInt ∧ x1.toInt ≤ 9) : zCi l g yX5_size cX5_size 2 (some .int) rm_kX5_size [.ref h0, .int x1] [(h0, .inr (5, [.ref h0_low, .ref h0_high, .ref h0_normal, .ref h0_corner, .ref h0_east, .ref h0_north, .ref h0_start, .ref h0_far])), (h0_high, .inl (g.2.1.1, 54, .inl f_h0_high)), (h0_low, .inl (g.2.1.1, 54, .inl f_h0_low))] (fun (r : Int32) (u : Unit) => True) (fun (u : Unit) => [(h0, .inr (5, [.ref h0_low, .ref h0_high, .ref h0_normal, .ref h0_corner, .ref h0_east, .ref h0_north, .ref h0_start, .ref h0_far])), (h0_high, .inl (g.2.1.1, 54, .inl f_h0_high)), (h0_low, .inl (g.2.1.1, 54, .inl f_h0_low))]) := by
  refine zCi.mk2 (by decide) (Nat.le_of_ble_eq_true rfl) ?_
  intro p e s m below meth c A args Q hE hret hP hD hS ls hl
  obtain ⟨hx, hb, hr, hml, hown, hG, hlocks, hnm, hX, hA⟩ := hE
  have hown : s.vm.findClass RX5 = some m.cls := hown
  have hl : lv_has ls 2 [(0, .ref h0), (1, .int x1)] := hl
  refine lv_aload_n hx hb dX5_size_0 rfl (lv_at hl 0 rfl) ?_
  refine lv_iload_n hx hb dX5_size_1 rfl (lv_at hl 1 rfl) ?_
  refine lv_iconst (v := 0) hx hb dX5_size_2 (by decide) ?_
  refine zfi (wr := []) (va_runV (As := [.int x1, .int 0]) (rest := []) ⟨hx, hb, hml, hown, hG⟩ (kX5_extent l g h0 x1 (0 : Int32) h0_low h0_high h0_normal h0_corner h0_east h0_north h0_start h0_far f_h0_high f_h0_low (ox_0 hy0) ((show 0 ≤ (0 : Int) ∧ (0 : Int) ≤ 2 from by decide)) _) ⟨callB_of 2 hG (zGood wc_X5_extent) rfl rfl rfl (hG _ wini_X5) (hG _ wm_X5_141) hX5_extent ⟨Nat.le_of_ble_eq_true rfl, Nat.le_of_ble_eq_true rfl⟩, hG _ wi_X5_extent, hG _ wse_X5_X5_extent⟩ (zpreV (va_recv hX.1 hP (ci := 5) (q0 := 0) rfl rfl) hX hP hD hS hA [0, 1, 2] rfl (by decide)) rfl rfl hl.1 rfl (lv_room (Nat.le_of_ble_eq_true rfl)) dX5_size_3 ⟨Nat.le_of_ble_eq_true rfl, Nat.le_of_ble_eq_true rfl⟩) hP hD hS hA [0, 1, 2] [] rfl rfl (by decide) (by decide) (fun r1 _ H locs hp hP hD hS => ?_)
  refine W.cs (cells' := 0) (slots' := 0) rfl rfl ?_
  have hP : va_P g.1 vwCl [(h0, .inr (5, [.ref h0_low, .ref h0_high, .ref h0_normal, .ref h0_corner, .ref h0_east, .ref h0_north, .ref h0_start, .ref h0_far])), (h0_high, .inl (g.2.1.1, 54, .inl f_h0_high)), (h0_low, .inl (g.2.1.1, 54, .inl f_h0_low))] H := hP
  have hD : va_D A [(h0, .inr (5, [.ref h0_low, .ref h0_high, .ref h0_normal, .ref h0_corner, .ref h0_east, .ref h0_north, .ref h0_start, .ref h0_far])), (h0_high, .inl (g.2.1.1, 54, .inl f_h0_high)), (h0_low, .inl (g.2.1.1, 54, .inl f_h0_low))] := hD
  refine lv_aload_n hx hb dX5_size_6 rfl (lv_at hl 0 rfl) ?_
  refine lv_iload_n hx hb dX5_size_7 rfl (lv_at hl 1 rfl) ?_
  refine lv_iconst (v := 1) hx hb dX5_size_8 (by decide) ?_
  refine zfi (wr := []) (va_runV (As := [.int x1, .int 1]) (rest := [.int r1]) ⟨hx, hb, hml, hown, hG⟩ (kX5_extent l g h0 x1 (1 : Int32) h0_low h0_high h0_normal h0_corner h0_east h0_north h0_start h0_far f_h0_high f_h0_low (ox_0 hy0) ((show 0 ≤ (1 : Int) ∧ (1 : Int) ≤ 2 from by decide)) _) ⟨callB_of 2 hG (zGood wc_X5_extent) rfl rfl rfl (hG _ wini_X5) (hG _ wm_X5_141) hX5_extent ⟨Nat.le_of_ble_eq_true rfl, Nat.le_of_ble_eq_true rfl⟩, hG _ wi_X5_extent, hG _ wse_X5_X5_extent⟩ (zpreV (va_recv hX.1 hP (ci := 5) (q0 := 0) rfl rfl) hX hP hD hS hA [0, 1, 2] rfl (by decide)) rfl rfl hl.1 rfl (lv_room (Nat.le_of_ble_eq_true rfl)) dX5_size_9 ⟨Nat.le_of_ble_eq_true rfl, Nat.le_of_ble_eq_true rfl⟩) hP hD hS hA [0, 1, 2] [] rfl rfl (by decide) (by decide) (fun r2 _ H locs hp hP hD hS => ?_)
  refine W.cs (cells' := 0) (slots' := 0) rfl rfl ?_
  have hP : va_P g.1 vwCl [(h0, .inr (5, [.ref h0_low, .ref h0_high, .ref h0_normal, .ref h0_corner, .ref h0_east, .ref h0_north, .ref h0_start, .ref h0_far])), (h0_high, .inl (g.2.1.1, 54, .inl f_h0_high)), (h0_low, .inl (g.2.1.1, 54, .inl f_h0_low))] H := hP
  have hD : va_D A [(h0, .inr (5, [.ref h0_low, .ref h0_high, .ref h0_normal, .ref h0_corner, .ref h0_east, .ref h0_north, .ref h0_start, .ref h0_far])), (h0_high, .inl (g.2.1.1, 54, .inl f_h0_high)), (h0_low, .inl (g.2.1.1, 54, .inl f_h0_low))] := hD
  refine lv_iadd hx hb dX5_size_12 ?_
  refine lv_topi (fun z3 e4 => ?_)
  refine lv_aload_n hx hb dX5_size_13 rfl (lv_at hl 0 rfl) ?_
  refine lv_iload_n hx hb dX5_size_14 rfl (lv_at hl 1 rfl) ?_
  refine lv_iconst (v := 2) hx hb dX5_size_15 (by decide) ?_
  refine zfi (wr := []) (va_runV (As := [.int x1, .int 2]) (rest := [.int z3]) ⟨hx, hb, hml, hown, hG⟩ (kX5_extent l g h0 x1 (2 : Int32) h0_low h0_high h0_normal h0_corner h0_east h0_north h0_start h0_far f_h0_high f_h0_low (ox_0 hy0) ((show 0 ≤ (2 : Int) ∧ (2 : Int) ≤ 2 from by decide)) _) ⟨callB_of 2 hG (zGood wc_X5_extent) rfl rfl rfl (hG _ wini_X5) (hG _ wm_X5_141) hX5_extent ⟨Nat.le_of_ble_eq_true rfl, Nat.le_of_ble_eq_true rfl⟩, hG _ wi_X5_extent, hG _ wse_X5_X5_extent⟩ (zpreV (va_recv hX.1 hP (ci := 5) (q0 := 0) rfl rfl) hX hP hD hS hA [0, 1, 2] rfl (by decide)) rfl rfl hl.1 rfl (lv_room (Nat.le_of_ble_eq_true rfl)) dX5_size_16 ⟨Nat.le_of_ble_eq_true rfl, Nat.le_of_ble_eq_true rfl⟩) hP hD hS hA [0, 1, 2] [] rfl rfl (by decide) (by decide) (fun r5 _ H locs hp hP hD hS => ?_)
  refine W.cs (cells' := 0) (slots' := 0) rfl rfl ?_
  have hP : va_P g.1 vwCl [(h0, .inr (5, [.ref h0_low, .ref h0_high, .ref h0_normal, .ref h0_corner, .ref h0_east, .ref h0_north, .ref h0_start, .ref h0_far])), (h0_high, .inl (g.2.1.1, 54, .inl f_h0_high)), (h0_low, .inl (g.2.1.1, 54, .inl f_h0_low))] H := hP
  have hD : va_D A [(h0, .inr (5, [.ref h0_low, .ref h0_high, .ref h0_normal, .ref h0_corner, .ref h0_east, .ref h0_north, .ref h0_start, .ref h0_far])), (h0_high, .inl (g.2.1.1, 54, .inl f_h0_high)), (h0_low, .inl (g.2.1.1, 54, .inl f_h0_low))] := hD
  refine lv_iadd hx hb dX5_size_19 ?_
  refine lv_topi (fun z6 e7 => ?_)
  exact hret z6 () (Nat.le_of_ble_eq_true rfl) (Nat.le_of_ble_eq_true rfl) rfl trivial hP hD hS dX5_size_20
theorem dX5_area_0 : decode cX5_area 0 = .ok (.iconst 0, 1) := by decide +kernel
theorem dX5_area_1 : decode cX5_area 1 = .ok (.istore_n 2, 1) := by decide +kernel
theorem dX5_area_2 : decode cX5_area 2 = .ok (.iconst 0, 1) := by decide +kernel
theorem dX5_area_3 : decode cX5_area 3 = .ok (.istore_n 3, 1) := by decide +kernel
theorem dX5_area_4 : decode cX5_area 4 = .ok (.iload_n 3, 1) := by decide +kernel
theorem dX5_area_5 : decode cX5_area 5 = .ok (.bipush 17, 2) := by decide +kernel
theorem dX5_area_7 : decode cX5_area 7 = .ok (.if_icmp .ge 47, 3) := by decide +kernel
theorem dX5_area_54 : decode cX5_area 54 = .ok (.iload_n 2, 1) := by decide +kernel
theorem dX5_area_55 : decode cX5_area 55 = .ok (.ireturn, 1) := by decide +kernel
theorem dX5_area_10 : decode cX5_area 10 = .ok (.aload_n 1, 1) := by decide +kernel
theorem dX5_area_11 : decode cX5_area 11 = .ok (.iload_n 3, 1) := by decide +kernel
theorem dX5_area_12 : decode cX5_area 12 = .ok (.invokevirtual 144, 3) := by decide +kernel
theorem dX5_area_48 : decode cX5_area 48 = .ok (.iinc 3 1, 3) := by decide +kernel
theorem dX5_area_51 : decode cX5_area 51 = .ok (.goto (-47), 3) := by decide +kernel
theorem dX5_area_15 : decode cX5_area 15 = .ok (.ifCond .eq 33, 3) := by decide +kernel
theorem dX5_area_18 : decode cX5_area 18 = .ok (.iload_n 2, 1) := by decide +kernel
theorem dX5_area_19 : decode cX5_area 19 = .ok (.aload_n 0, 1) := by decide +kernel
theorem dX5_area_20 : decode cX5_area 20 = .ok (.iload_n 3, 1) := by decide +kernel
theorem dX5_area_21 : decode cX5_area 21 = .ok (.iconst 0, 1) := by decide +kernel
theorem dX5_area_22 : decode cX5_area 22 = .ok (.invokevirtual 132, 3) := by decide +kernel
theorem dX5_area_25 : decode cX5_area 25 = .ok (.aload_n 0, 1) := by decide +kernel
theorem dX5_area_26 : decode cX5_area 26 = .ok (.iload_n 3, 1) := by decide +kernel
theorem dX5_area_27 : decode cX5_area 27 = .ok (.iconst 0, 1) := by decide +kernel
theorem dX5_area_28 : decode cX5_area 28 = .ok (.invokevirtual 129, 3) := by decide +kernel
theorem dX5_area_31 : decode cX5_area 31 = .ok (.isub, 1) := by decide +kernel
theorem dX5_area_32 : decode cX5_area 32 = .ok (.aload_n 0, 1) := by decide +kernel
theorem dX5_area_33 : decode cX5_area 33 = .ok (.iload_n 3, 1) := by decide +kernel
theorem dX5_area_34 : decode cX5_area 34 = .ok (.iconst 1, 1) := by decide +kernel
theorem dX5_area_35 : decode cX5_area 35 = .ok (.invokevirtual 132, 3) := by decide +kernel
theorem dX5_area_38 : decode cX5_area 38 = .ok (.aload_n 0, 1) := by decide +kernel
theorem dX5_area_39 : decode cX5_area 39 = .ok (.iload_n 3, 1) := by decide +kernel
theorem dX5_area_40 : decode cX5_area 40 = .ok (.iconst 1, 1) := by decide +kernel
theorem dX5_area_41 : decode cX5_area 41 = .ok (.invokevirtual 129, 3) := by decide +kernel
theorem dX5_area_44 : decode cX5_area 44 = .ok (.isub, 1) := by decide +kernel
theorem dX5_area_45 : decode cX5_area 45 = .ok (.imul, 1) := by decide +kernel
theorem dX5_area_46 : decode cX5_area 46 = .ok (.iadd, 1) := by decide +kernel
theorem dX5_area_47 : decode cX5_area 47 = .ok (.istore_n 2, 1) := by decide +kernel
abbrev rm_kX5_area : Room := { frames := 2, cells := 0, slots := 0, locals := 42 }
set_option maxHeartbeats 4000000 in
set_option maxRecDepth 100000 in
theorem kX5_area (l : Launch) (g : zL) (h0 : Nat) (y1 : Nat) (y1_count : Int32) (y1_statements : Int32) (y1_thick : Int32) (y1_punch : Int32) (y1_ups : Int32) (y1_toolCount : Int32) (y1_toolWidth : Nat) (y1_told : Nat) (y1_name : Nat) (y1_parent : Nat) (y1_side : Nat) (y1_from : Nat) (y1_width : Nat) (y1_height : Nat) (y1_radius : Nat) (y1_toolSet : Nat) (h0_low : Nat) (h0_high : Nat) (h0_normal : Nat) (h0_corner : Nat) (h0_east : Nat) (h0_north : Nat) (h0_start : Nat) (h0_far : Nat) (f_h0_high : Nat → Int32) (f_h0_low : Nat → Int32) (hy0 : 0 ≤ y1_count.toInt ∧ y1_count.toInt ≤ 9) (hy1 : 0 ≤ y1_toolCount.toInt ∧ y1_toolCount.toInt ≤ 8) : zCi l g yX5_area cX5_area 4 (some .int) rm_kX5_area [.ref h0, .ref y1] [(y1, .inr (4, [.int y1_count, .int y1_statements, .int y1_thick, .int y1_punch, .int y1_ups, .int y1_toolCount, .ref y1_toolWidth, .ref y1_told, .ref y1_name, .ref y1_parent, .ref y1_side, .ref y1_from, .ref y1_width, .ref y1_height, .ref y1_radius, .ref y1_toolSet])), (h0, .inr (5, [.ref h0_low, .ref h0_high, .ref h0_normal, .ref h0_corner, .ref h0_east, .ref h0_north, .ref h0_start, .ref h0_far])), (h0_high, .inl (g.2.1.1, 54, .inl f_h0_high)), (h0_low, .inl (g.2.1.1, 54, .inl f_h0_low))] (fun (r : Int32) (u : Unit) => True) (fun (u : Unit) => [(y1, .inr (4, [.int y1_count, .int y1_statements, .int y1_thick, .int y1_punch, .int y1_ups, .int y1_toolCount, .ref y1_toolWidth, .ref y1_told, .ref y1_name, .ref y1_parent, .ref y1_side, .ref y1_from, .ref y1_width, .ref y1_height, .ref y1_radius, .ref y1_toolSet])), (h0, .inr (5, [.ref h0_low, .ref h0_high, .ref h0_normal, .ref h0_corner, .ref h0_east, .ref h0_north, .ref h0_start, .ref h0_far])), (h0_high, .inl (g.2.1.1, 54, .inl f_h0_high)), (h0_low, .inl (g.2.1.1, 54, .inl f_h0_low))]) := by
  refine zCi.mk2 (by decide) (Nat.le_of_ble_eq_true rfl) ?_
  intro p e s m below meth c A args Q hE hret hP hD hS ls hl
  obtain ⟨hx, hb, hr, hml, hown, hG, hlocks, hnm, hX, hA⟩ := hE
  have hown : s.vm.findClass RX5 = some m.cls := hown
  have hl : lv_has ls 4 [(0, .ref h0), (1, .ref y1)] := hl
  refine lv_iconst (v := 0) hx hb dX5_area_0 (by decide) ?_
  refine lv_istore_n (lv' := [(2, .int 0), (0, .ref h0), (1, .ref y1)]) hx hb dX5_area_1 rfl hl (by decide) rfl (fun ls hl => ?_)
  refine lv_iconst (v := 0) hx hb dX5_area_2 (by decide) ?_
  refine lv_istore_n (lv' := [(3, .int 0), (2, .int 0), (0, .ref h0), (1, .ref y1)]) hx hb dX5_area_3 rfl hl (by decide) rfl (fun ls hl => ?_)
  have L285 : ∀ (n : Nat) (v249 : Int32) (v250 : Int32) (H : Heap) (locs : List Loc) (ls : Array Slot), 0 ≤ v250.toInt ∧ v250.toInt ≤ 17 → (18 - v250.toInt).toNat < n → va_P g.1 vwCl [(y1, .inr (4, [.int y1_count, .int y1_statements, .int y1_thick, .int y1_punch, .int y1_ups, .int y1_toolCount, .ref y1_toolWidth, .ref y1_told, .ref y1_name, .ref y1_parent, .ref y1_side, .ref y1_from, .ref y1_width, .ref y1_height, .ref y1_radius, .ref y1_toolSet])), (h0, .inr (5, [.ref h0_low, .ref h0_high, .ref h0_normal, .ref h0_corner, .ref h0_east, .ref h0_north, .ref h0_start, .ref h0_far])), (h0_high, .inl (g.2.1.1, 54, .inl f_h0_high)), (h0_low, .inl (g.2.1.1, 54, .inl f_h0_low))] H → va_D A [(y1, .inr (4, [.int y1_count, .int y1_statements, .int y1_thick, .int y1_punch, .int y1_ups, .int y1_toolCount, .ref y1_toolWidth, .ref y1_told, .ref y1_name, .ref y1_parent, .ref y1_side, .ref y1_from, .ref y1_width, .ref y1_height, .ref y1_radius, .ref y1_toolSet])), (h0, .inr (5, [.ref h0_low, .ref h0_high, .ref h0_normal, .ref h0_corner, .ref h0_east, .ref h0_north, .ref h0_start, .ref h0_far])), (h0_high, .inl (g.2.1.1, 54, .inl f_h0_high)), (h0_low, .inl (g.2.1.1, 54, .inl f_h0_low))] → va_S A s.heap H locs → lv_has ls 4 [(0, .ref h0), (1, .ref y1), (2, .int v249), (3, .int v250)] → W p l e rm_kX5_area s m args below meth c H locs 0 0 Q (F0 m 4 ls []) := by
    intro n286
    induction n286 with
    | zero => intro v249 v250 H locs ls i288 hm289; exact absurd hm289 (Nat.not_lt_zero _)
    | succ n286 ih287 =>
      intro v249 v250 H locs ls i288 hm289 hP hD hS hl
      refine lv_iload_n hx hb dX5_area_4 rfl (lv_at hl 3 rfl) ?_
      refine lv_bipush (v := 17) hx hb dX5_area_5 (by decide) ?_
      refine lv_icmp_ge (tgt := 54) hx hb dX5_area_7 (by decide) (fun c290 => ?_) (fun c290 => ?_)
      · skip
        have c290i : (17 : Int) ≤ v250.toInt := (zc_le (show (17 : Int32).toInt = (17 : Int) from by decide) (rfl : v250.toInt = _)).mp c290
        refine lv_iload_n hx hb dX5_area_54 rfl (lv_at hl 2 rfl) ?_
        exact hret v249 () (Nat.le_of_ble_eq_true rfl) (Nat.le_of_ble_eq_true rfl) rfl trivial hP hD hS dX5_area_55
      · skip
        have c290i : ¬ ((17 : Int) ≤ v250.toInt) := fun q => c290 ((zc_le (show (17 : Int32).toInt = (17 : Int) from by decide) (rfl : v250.toInt = _)).mpr q)
        refine lv_aload_n hx hb dX5_area_10 rfl (lv_at hl 1 rfl) ?_
        refine lv_iload_n hx hb dX5_area_11 rfl (lv_at hl 3 rfl) ?_
        refine zfi (wr := [(h0, .inr (5, [.ref h0_low, .ref h0_high, .ref h0_normal, .ref h0_corner, .ref h0_east, .ref h0_north, .ref h0_start, .ref h0_far])), (h0_high, .inl (g.2.1.1, 54, .inl f_h0_high)), (h0_low, .inl (g.2.1.1, 54, .inl f_h0_low))]) (va_runVN (As := [.int v250]) (rest := []) ⟨hx, hb, hml, hown, hG⟩ (kX4_isPiece l g y1 v250 y1_count y1_statements y1_thick y1_punch y1_ups y1_toolCount y1_toolWidth y1_told y1_name y1_parent y1_side y1_from y1_width y1_height y1_radius y1_toolSet (ox_0 hy0) (ox_1 hy1) _) ⟨va_cnB 1 hG (zGood wc_X4_isPiece) rfl rfl rfl (hX.2.1.ml wmn_X5_144) (hG _ wini_X4) hX4_isPiece ⟨Nat.le_of_ble_eq_true rfl, Nat.le_of_ble_eq_true rfl⟩, hG _ wi_X4_isPiece, hG _ wse_X4_X4_isPiece⟩ (zpreV (va_recv hX.1 hP (ci := 4) (q0 := 0) rfl rfl) hX hP hD hS hA [0] rfl (by decide)) rfl rfl hl.1 rfl (lv_room (Nat.le_of_ble_eq_true rfl)) dX5_area_12 ⟨Nat.le_of_ble_eq_true rfl, Nat.le_of_ble_eq_true rfl⟩) hP hD hS hA [0] [1, 2, 3] rfl rfl (by decide) (by decide) (fun r291 _ H locs hp hP hD hS => ?_)
        refine W.cs (cells' := 0) (slots' := 0) rfl rfl ?_
        have hq292 : 0 ≤ r291.toInt ∧ r291.toInt ≤ 1 := hp
        have hP : va_P g.1 vwCl [(h0, .inr (5, [.ref h0_low, .ref h0_high, .ref h0_normal, .ref h0_corner, .ref h0_east, .ref h0_north, .ref h0_start, .ref h0_far])), (h0_high, .inl (g.2.1.1, 54, .inl f_h0_high)), (h0_low, .inl (g.2.1.1, 54, .inl f_h0_low)), (y1, .inr (4, [.int y1_count, .int y1_statements, .int y1_thick, .int y1_punch, .int y1_ups, .int y1_toolCount, .ref y1_toolWidth, .ref y1_told, .ref y1_name, .ref y1_parent, .ref y1_side, .ref y1_from, .ref y1_width, .ref y1_height, .ref y1_radius, .ref y1_toolSet]))] H := hP
        have hD : va_D A [(h0, .inr (5, [.ref h0_low, .ref h0_high, .ref h0_normal, .ref h0_corner, .ref h0_east, .ref h0_north, .ref h0_start, .ref h0_far])), (h0_high, .inl (g.2.1.1, 54, .inl f_h0_high)), (h0_low, .inl (g.2.1.1, 54, .inl f_h0_low)), (y1, .inr (4, [.int y1_count, .int y1_statements, .int y1_thick, .int y1_punch, .int y1_ups, .int y1_toolCount, .ref y1_toolWidth, .ref y1_told, .ref y1_name, .ref y1_parent, .ref y1_side, .ref y1_from, .ref y1_width, .ref y1_height, .ref y1_radius, .ref y1_toolSet]))] := hD
        have J307 : ∀  (v306 : Int32) (H : Heap) (locs : List Loc) (ls : Array Slot), va_P g.1 vwCl [(h0, .inr (5, [.ref h0_low, .ref h0_high, .ref h0_normal, .ref h0_corner, .ref h0_east, .ref h0_north, .ref h0_start, .ref h0_far])), (h0_high, .inl (g.2.1.1, 54, .inl f_h0_high)), (h0_low, .inl (g.2.1.1, 54, .inl f_h0_low)), (y1, .inr (4, [.int y1_count, .int y1_statements, .int y1_thick, .int y1_punch, .int y1_ups, .int y1_toolCount, .ref y1_toolWidth, .ref y1_told, .ref y1_name, .ref y1_parent, .ref y1_side, .ref y1_from, .ref y1_width, .ref y1_height, .ref y1_radius, .ref y1_toolSet]))] H → va_D A [(h0, .inr (5, [.ref h0_low, .ref h0_high, .ref h0_normal, .ref h0_corner, .ref h0_east, .ref h0_north, .ref h0_start, .ref h0_far])), (h0_high, .inl (g.2.1.1, 54, .inl f_h0_high)), (h0_low, .inl (g.2.1.1, 54, .inl f_h0_low)), (y1, .inr (4, [.int y1_count, .int y1_statements, .int y1_thick, .int y1_punch, .int y1_ups, .int y1_toolCount, .ref y1_toolWidth, .ref y1_told, .ref y1_name, .ref y1_parent, .ref y1_side, .ref y1_from, .ref y1_width, .ref y1_height, .ref y1_radius, .ref y1_toolSet]))] → va_S A s.heap H locs → lv_has ls 4 [(0, .ref h0), (1, .ref y1), (2, .int v306), (3, .int v250)] → W p l e rm_kX5_area s m args below meth c H locs 0 0 Q (F0 m 48 ls []) := by
          intro v306 H locs ls  hP hD hS hl
          obtain ⟨z308, e309⟩ : ∃ y9 : Int32, y9 = v250 + 1 := ⟨_, rfl⟩
          have f310 : z308.toInt = v250.toInt + 1 := za e309 (rfl : v250.toInt = _) (show (1 : Int32).toInt = (1 : Int) from by decide) (ox_188 (zr v250) c290i i288)
          refine lv_iinc (v := z308) (lv' := [(3, .int z308), (0, .ref h0), (1, .ref y1), (2, .int v306)]) hx hb dX5_area_48 hl (k := 3) rfl (by rw [e309]; rfl) (by decide) rfl (fun ls hl => ?_)
          refine lv_goto (tgt := 4) hx hb dX5_area_51 (by decide) ?_
          exact ih287 v306 z308 H locs ls (ox_189 c290i f310 i288) (zdec hm289 (ox_190 c290i f310 i288)) (hP.sub [3, 0, 1, 2] rfl) (hD.sub [3, 0, 1, 2] (by decide) rfl) hS (lv_sub hl [1, 2, 3, 0] rfl)
        refine lv_if_eq (tgt := 48) hx hb dX5_area_15 (by decide) (fun c311 => ?_) (fun c311 => ?_)
        · skip
          have c311i : r291.toInt = (0 : Int) := (zc_eq (rfl : r291.toInt = _) (show (0 : Int32).toInt = (0 : Int) from by decide)).mp c311
          exact J307 v249 H locs ls  hP hD hS (lv_sub hl [0, 1, 2, 3] rfl)
        · skip
          have c311i : ¬ (r291.toInt = (0 : Int)) := fun q => c311 ((zc_eq (rfl : r291.toInt = _) (show (0 : Int32).toInt = (0 : Int) from by decide)).mpr q)
          refine lv_iload_n hx hb dX5_area_18 rfl (lv_at hl 2 rfl) ?_
          refine lv_aload_n hx hb dX5_area_19 rfl (lv_at hl 0 rfl) ?_
          refine lv_iload_n hx hb dX5_area_20 rfl (lv_at hl 3 rfl) ?_
          refine lv_iconst (v := 0) hx hb dX5_area_21 (by decide) ?_
          refine zfi (wr := [(h0_low, .inl (g.2.1.1, 54, .inl f_h0_low)), (y1, .inr (4, [.int y1_count, .int y1_statements, .int y1_thick, .int y1_punch, .int y1_ups, .int y1_toolCount, .ref y1_toolWidth, .ref y1_told, .ref y1_name, .ref y1_parent, .ref y1_side, .ref y1_from, .ref y1_width, .ref y1_height, .ref y1_radius, .ref y1_toolSet]))]) (va_runV (As := [.int v250, .int 0]) (rest := [.int v249]) ⟨hx, hb, hml, hown, hG⟩ (kX5_highOf l g h0 v250 (0 : Int32) h0_low h0_high h0_normal h0_corner h0_east h0_north h0_start h0_far f_h0_high (ox_191 c290i i288) ((show 0 ≤ (0 : Int) ∧ (0 : Int) ≤ 2 from by decide)) _) ⟨callB_of 2 hG (zGood wc_X5_highOf) rfl rfl rfl (hG _ wini_X5) (hG _ wm_X5_132) hX5_highOf ⟨Nat.le_of_ble_eq_true rfl, Nat.le_of_ble_eq_true rfl⟩, hG _ wi_X5_highOf, hG _ wse_X5_X5_highOf⟩ (zpreV (va_recv hX.1 hP (ci := 5) (q0 := 0) rfl rfl) hX hP hD hS hA [0, 1] rfl (by decide)) rfl rfl hl.1 rfl (lv_room (Nat.le_of_ble_eq_true rfl)) dX5_area_22 ⟨Nat.le_of_ble_eq_true rfl, Nat.le_of_ble_eq_true rfl⟩) hP hD hS hA [0, 1] [2, 3] rfl rfl (by decide) (by decide) (fun r312 _ H locs hp hP hD hS => ?_)
          refine W.cs (cells' := 0) (slots' := 0) rfl rfl ?_
          have hP : va_P g.1 vwCl [(h0_low, .inl (g.2.1.1, 54, .inl f_h0_low)), (y1, .inr (4, [.int y1_count, .int y1_statements, .int y1_thick, .int y1_punch, .int y1_ups, .int y1_toolCount, .ref y1_toolWidth, .ref y1_told, .ref y1_name, .ref y1_parent, .ref y1_side, .ref y1_from, .ref y1_width, .ref y1_height, .ref y1_radius, .ref y1_toolSet])), (h0, .inr (5, [.ref h0_low, .ref h0_high, .ref h0_normal, .ref h0_corner, .ref h0_east, .ref h0_north, .ref h0_start, .ref h0_far])), (h0_high, .inl (g.2.1.1, 54, .inl f_h0_high))] H := hP
          have hD : va_D A [(h0_low, .inl (g.2.1.1, 54, .inl f_h0_low)), (y1, .inr (4, [.int y1_count, .int y1_statements, .int y1_thick, .int y1_punch, .int y1_ups, .int y1_toolCount, .ref y1_toolWidth, .ref y1_told, .ref y1_name, .ref y1_parent, .ref y1_side, .ref y1_from, .ref y1_width, .ref y1_height, .ref y1_radius, .ref y1_toolSet])), (h0, .inr (5, [.ref h0_low, .ref h0_high, .ref h0_normal, .ref h0_corner, .ref h0_east, .ref h0_north, .ref h0_start, .ref h0_far])), (h0_high, .inl (g.2.1.1, 54, .inl f_h0_high))] := hD
          refine lv_aload_n hx hb dX5_area_25 rfl (lv_at hl 0 rfl) ?_
          refine lv_iload_n hx hb dX5_area_26 rfl (lv_at hl 3 rfl) ?_
          refine lv_iconst (v := 0) hx hb dX5_area_27 (by decide) ?_
          refine zfi (wr := [(y1, .inr (4, [.int y1_count, .int y1_statements, .int y1_thick, .int y1_punch, .int y1_ups, .int y1_toolCount, .ref y1_toolWidth, .ref y1_told, .ref y1_name, .ref y1_parent, .ref y1_side, .ref y1_from, .ref y1_width, .ref y1_height, .ref y1_radius, .ref y1_toolSet])), (h0_high, .inl (g.2.1.1, 54, .inl f_h0_high))]) (va_runV (As := [.int v250, .int 0]) (rest := [.int r312, .int v249]) ⟨hx, hb, hml, hown, hG⟩ (kX5_lowOf l g h0 v250 (0 : Int32) h0_low h0_high h0_normal h0_corner h0_east h0_north h0_start h0_far f_h0_low (ox_191 c290i i288) ((show 0 ≤ (0 : Int) ∧ (0 : Int) ≤ 2 from by decide)) _) ⟨callB_of 2 hG (zGood wc_X5_lowOf) rfl rfl rfl (hG _ wini_X5) (hG _ wm_X5_129) hX5_lowOf ⟨Nat.le_of_ble_eq_true rfl, Nat.le_of_ble_eq_true rfl⟩, hG _ wi_X5_lowOf, hG _ wse_X5_X5_lowOf⟩ (zpreV (va_recv hX.1 hP (ci := 5) (q0 := 2) rfl rfl) hX hP hD hS hA [2, 0] rfl (by decide)) rfl rfl hl.1 rfl (lv_room (Nat.le_of_ble_eq_true rfl)) dX5_area_28 ⟨Nat.le_of_ble_eq_true rfl, Nat.le_of_ble_eq_true rfl⟩) hP hD hS hA [2, 0] [1, 3] rfl rfl (by decide) (by decide) (fun r313 _ H locs hp hP hD hS => ?_)
          refine W.cs (cells' := 0) (slots' := 0) rfl rfl ?_
          have hP : va_P g.1 vwCl [(y1, .inr (4, [.int y1_count, .int y1_statements, .int y1_thick, .int y1_punch, .int y1_ups, .int y1_toolCount, .ref y1_toolWidth, .ref y1_told, .ref y1_name, .ref y1_parent, .ref y1_side, .ref y1_from, .ref y1_width, .ref y1_height, .ref y1_radius, .ref y1_toolSet])), (h0_high, .inl (g.2.1.1, 54, .inl f_h0_high)), (h0, .inr (5, [.ref h0_low, .ref h0_high, .ref h0_normal, .ref h0_corner, .ref h0_east, .ref h0_north, .ref h0_start, .ref h0_far])), (h0_low, .inl (g.2.1.1, 54, .inl f_h0_low))] H := hP
          have hD : va_D A [(y1, .inr (4, [.int y1_count, .int y1_statements, .int y1_thick, .int y1_punch, .int y1_ups, .int y1_toolCount, .ref y1_toolWidth, .ref y1_told, .ref y1_name, .ref y1_parent, .ref y1_side, .ref y1_from, .ref y1_width, .ref y1_height, .ref y1_radius, .ref y1_toolSet])), (h0_high, .inl (g.2.1.1, 54, .inl f_h0_high)), (h0, .inr (5, [.ref h0_low, .ref h0_high, .ref h0_normal, .ref h0_corner, .ref h0_east, .ref h0_north, .ref h0_start, .ref h0_far])), (h0_low, .inl (g.2.1.1, 54, .inl f_h0_low))] := hD
          refine lv_isub hx hb dX5_area_31 ?_
          refine lv_topi (fun z314 e315 => ?_)
          refine lv_aload_n hx hb dX5_area_32 rfl (lv_at hl 0 rfl) ?_
          refine lv_iload_n hx hb dX5_area_33 rfl (lv_at hl 3 rfl) ?_
          refine lv_iconst (v := 1) hx hb dX5_area_34 (by decide) ?_
          refine zfi (wr := [(y1, .inr (4, [.int y1_count, .int y1_statements, .int y1_thick, .int y1_punch, .int y1_ups, .int y1_toolCount, .ref y1_toolWidth, .ref y1_told, .ref y1_name, .ref y1_parent, .ref y1_side, .ref y1_from, .ref y1_width, .ref y1_height, .ref y1_radius, .ref y1_toolSet])), (h0_low, .inl (g.2.1.1, 54, .inl f_h0_low))]) (va_runV (As := [.int v250, .int 1]) (rest := [.int z314, .int v249]) ⟨hx, hb, hml, hown, hG⟩ (kX5_highOf l g h0 v250 (1 : Int32) h0_low h0_high h0_normal h0_corner h0_east h0_north h0_start h0_far f_h0_high (ox_191 c290i i288) ((show 0 ≤ (1 : Int) ∧ (1 : Int) ≤ 2 from by decide)) _) ⟨callB_of 2 hG (zGood wc_X5_highOf) rfl rfl rfl (hG _ wini_X5) (hG _ wm_X5_132) hX5_highOf ⟨Nat.le_of_ble_eq_true rfl, Nat.le_of_ble_eq_true rfl⟩, hG _ wi_X5_highOf, hG _ wse_X5_X5_highOf⟩ (zpreV (va_recv hX.1 hP (ci := 5) (q0 := 2) rfl rfl) hX hP hD hS hA [2, 1] rfl (by decide)) rfl rfl hl.1 rfl (lv_room (Nat.le_of_ble_eq_true rfl)) dX5_area_35 ⟨Nat.le_of_ble_eq_true rfl, Nat.le_of_ble_eq_true rfl⟩) hP hD hS hA [2, 1] [0, 3] rfl rfl (by decide) (by decide) (fun r316 _ H locs hp hP hD hS => ?_)
          refine W.cs (cells' := 0) (slots' := 0) rfl rfl ?_
          have hP : va_P g.1 vwCl [(y1, .inr (4, [.int y1_count, .int y1_statements, .int y1_thick, .int y1_punch, .int y1_ups, .int y1_toolCount, .ref y1_toolWidth, .ref y1_told, .ref y1_name, .ref y1_parent, .ref y1_side, .ref y1_from, .ref y1_width, .ref y1_height, .ref y1_radius, .ref y1_toolSet])), (h0_low, .inl (g.2.1.1, 54, .inl f_h0_low)), (h0, .inr (5, [.ref h0_low, .ref h0_high, .ref h0_normal, .ref h0_corner, .ref h0_east, .ref h0_north, .ref h0_start, .ref h0_far])), (h0_high, .inl (g.2.1.1, 54, .inl f_h0_high))] H := hP
          have hD : va_D A [(y1, .inr (4, [.int y1_count, .int y1_statements, .int y1_thick, .int y1_punch, .int y1_ups, .int y1_toolCount, .ref y1_toolWidth, .ref y1_told, .ref y1_name, .ref y1_parent, .ref y1_side, .ref y1_from, .ref y1_width, .ref y1_height, .ref y1_radius, .ref y1_toolSet])), (h0_low, .inl (g.2.1.1, 54, .inl f_h0_low)), (h0, .inr (5, [.ref h0_low, .ref h0_high, .ref h0_normal, .ref h0_corner, .ref h0_east, .ref h0_north, .ref h0_start, .ref h0_far])), (h0_high, .inl (g.2.1.1, 54, .inl f_h0_high))] := hD
          refine lv_aload_n hx hb dX5_area_38 rfl (lv_at hl 0 rfl) ?_
          refine lv_iload_n hx hb dX5_area_39 rfl (lv_at hl 3 rfl) ?_
          refine lv_iconst (v := 1) hx hb dX5_area_40 (by decide) ?_
          refine zfi (wr := [(y1, .inr (4, [.int y1_count, .int y1_statements, .int y1_thick, .int y1_punch, .int y1_ups, .int y1_toolCount, .ref y1_toolWidth, .ref y1_told, .ref y1_name, .ref y1_parent, .ref y1_side, .ref y1_from, .ref y1_width, .ref y1_height, .ref y1_radius, .ref y1_toolSet])), (h0_high, .inl (g.2.1.1, 54, .inl f_h0_high))]) (va_runV (As := [.int v250, .int 1]) (rest := [.int r316, .int z314, .int v249]) ⟨hx, hb, hml, hown, hG⟩ (kX5_lowOf l g h0 v250 (1 : Int32) h0_low h0_high h0_normal h0_corner h0_east h0_north h0_start h0_far f_h0_low (ox_191 c290i i288) ((show 0 ≤ (1 : Int) ∧ (1 : Int) ≤ 2 from by decide)) _) ⟨callB_of 2 hG (zGood wc_X5_lowOf) rfl rfl rfl (hG _ wini_X5) (hG _ wm_X5_129) hX5_lowOf ⟨Nat.le_of_ble_eq_true rfl, Nat.le_of_ble_eq_true rfl⟩, hG _ wi_X5_lowOf, hG _ wse_X5_X5_lowOf⟩ (zpreV (va_recv hX.1 hP (ci := 5) (q0 := 2) rfl rfl) hX hP hD hS hA [2, 1] rfl (by decide)) rfl rfl hl.1 rfl (lv_room (Nat.le_of_ble_eq_true rfl)) dX5_area_41 ⟨Nat.le_of_ble_eq_true rfl, Nat.le_of_ble_eq_true rfl⟩) hP hD hS hA [2, 1] [0, 3] rfl rfl (by decide) (by decide) (fun r317 _ H locs hp hP hD hS => ?_)
          refine W.cs (cells' := 0) (slots' := 0) rfl rfl ?_
          have hP : va_P g.1 vwCl [(y1, .inr (4, [.int y1_count, .int y1_statements, .int y1_thick, .int y1_punch, .int y1_ups, .int y1_toolCount, .ref y1_toolWidth, .ref y1_told, .ref y1_name, .ref y1_parent, .ref y1_side, .ref y1_from, .ref y1_width, .ref y1_height, .ref y1_radius, .ref y1_toolSet])), (h0_high, .inl (g.2.1.1, 54, .inl f_h0_high)), (h0, .inr (5, [.ref h0_low, .ref h0_high, .ref h0_normal, .ref h0_corner, .ref h0_east, .ref h0_north, .ref h0_start, .ref h0_far])), (h0_low, .inl (g.2.1.1, 54, .inl f_h0_low))] H := hP
          have hD : va_D A [(y1, .inr (4, [.int y1_count, .int y1_statements, .int y1_thick, .int y1_punch, .int y1_ups, .int y1_toolCount, .ref y1_toolWidth, .ref y1_told, .ref y1_name, .ref y1_parent, .ref y1_side, .ref y1_from, .ref y1_width, .ref y1_height, .ref y1_radius, .ref y1_toolSet])), (h0_high, .inl (g.2.1.1, 54, .inl f_h0_high)), (h0, .inr (5, [.ref h0_low, .ref h0_high, .ref h0_normal, .ref h0_corner, .ref h0_east, .ref h0_north, .ref h0_start, .ref h0_far])), (h0_low, .inl (g.2.1.1, 54, .inl f_h0_low))] := hD
          refine lv_isub hx hb dX5_area_44 ?_
          refine lv_topi (fun z318 e319 => ?_)
          refine lv_imul hx hb dX5_area_45 ?_
          refine lv_topi (fun z320 e321 => ?_)
          refine lv_iadd hx hb dX5_area_46 ?_
          refine lv_topi (fun z322 e323 => ?_)
          refine lv_istore_n (lv' := [(2, .int z322), (0, .ref h0), (1, .ref y1), (3, .int v250)]) hx hb dX5_area_47 rfl hl (by decide) rfl (fun ls hl => ?_)
          exact J307 z322 H locs ls  (hP.sub [2, 1, 3, 0] rfl) (hD.sub [2, 1, 3, 0] (by decide) rfl) hS (lv_sub hl [1, 2, 0, 3] rfl)
  exact L285 _ (0 : Int32) (0 : Int32) _ _ ls ((show 0 ≤ (0 : Int) ∧ (0 : Int) ≤ 17 from by decide)) (Nat.lt_succ_self _) hP hD hS (lv_sub hl [2, 3, 1, 0] rfl)
theorem dX5_gapOf_0 : decode cX5_gapOf 0 = .ok (.iconst 0, 1) := by decide +kernel
theorem dX5_gapOf_1 : decode cX5_gapOf 1 = .ok (.istore_n 3, 1) := by decide +kernel
theorem dX5_gapOf_2 : decode cX5_gapOf 2 = .ok (.iconst 0, 1) := by decide +kernel
theorem dX5_gapOf_3 : decode cX5_gapOf 3 = .ok (.istore 4, 2) := by decide +kernel
theorem dX5_gapOf_5 : decode cX5_gapOf 5 = .ok (.iload 4, 2) := by decide +kernel
theorem dX5_gapOf_7 : decode cX5_gapOf 7 = .ok (.iconst 3, 1) := by decide +kernel
theorem dX5_gapOf_8 : decode cX5_gapOf 8 = .ok (.if_icmp .ge 59, 3) := by decide +kernel
theorem dX5_gapOf_67 : decode cX5_gapOf 67 = .ok (.iload_n 3, 1) := by decide +kernel
theorem dX5_gapOf_68 : decode cX5_gapOf 68 = .ok (.ireturn, 1) := by decide +kernel
theorem dX5_gapOf_11 : decode cX5_gapOf 11 = .ok (.aload_n 0, 1) := by decide +kernel
theorem dX5_gapOf_12 : decode cX5_gapOf 12 = .ok (.iload_n 1, 1) := by decide +kernel
theorem dX5_gapOf_13 : decode cX5_gapOf 13 = .ok (.iload 4, 2) := by decide +kernel
theorem dX5_gapOf_15 : decode cX5_gapOf 15 = .ok (.invokevirtual 129, 3) := by decide +kernel
theorem dX5_gapOf_18 : decode cX5_gapOf 18 = .ok (.aload_n 0, 1) := by decide +kernel
theorem dX5_gapOf_19 : decode cX5_gapOf 19 = .ok (.iload_n 2, 1) := by decide +kernel
theorem dX5_gapOf_20 : decode cX5_gapOf 20 = .ok (.iload 4, 2) := by decide +kernel
theorem dX5_gapOf_22 : decode cX5_gapOf 22 = .ok (.invokevirtual 129, 3) := by decide +kernel
theorem dX5_gapOf_25 : decode cX5_gapOf 25 = .ok (.invokestatic 126, 3) := by decide +kernel
theorem dX5_gapOf_28 : decode cX5_gapOf 28 = .ok (.istore 5, 2) := by decide +kernel
theorem dX5_gapOf_30 : decode cX5_gapOf 30 = .ok (.aload_n 0, 1) := by decide +kernel
theorem dX5_gapOf_31 : decode cX5_gapOf 31 = .ok (.iload_n 1, 1) := by decide +kernel
theorem dX5_gapOf_32 : decode cX5_gapOf 32 = .ok (.iload 4, 2) := by decide +kernel
theorem dX5_gapOf_34 : decode cX5_gapOf 34 = .ok (.invokevirtual 132, 3) := by decide +kernel
theorem dX5_gapOf_37 : decode cX5_gapOf 37 = .ok (.aload_n 0, 1) := by decide +kernel
theorem dX5_gapOf_38 : decode cX5_gapOf 38 = .ok (.iload_n 2, 1) := by decide +kernel
theorem dX5_gapOf_39 : decode cX5_gapOf 39 = .ok (.iload 4, 2) := by decide +kernel
theorem dX5_gapOf_41 : decode cX5_gapOf 41 = .ok (.invokevirtual 132, 3) := by decide +kernel
theorem dX5_gapOf_44 : decode cX5_gapOf 44 = .ok (.invokestatic 121, 3) := by decide +kernel
theorem dX5_gapOf_47 : decode cX5_gapOf 47 = .ok (.istore 6, 2) := by decide +kernel
theorem dX5_gapOf_49 : decode cX5_gapOf 49 = .ok (.iload_n 3, 1) := by decide +kernel
theorem dX5_gapOf_50 : decode cX5_gapOf 50 = .ok (.iconst 0, 1) := by decide +kernel
theorem dX5_gapOf_51 : decode cX5_gapOf 51 = .ok (.iload 5, 2) := by decide +kernel
theorem dX5_gapOf_53 : decode cX5_gapOf 53 = .ok (.iload 6, 2) := by decide +kernel
theorem dX5_gapOf_55 : decode cX5_gapOf 55 = .ok (.isub, 1) := by decide +kernel
theorem dX5_gapOf_56 : decode cX5_gapOf 56 = .ok (.invokestatic 126, 3) := by decide +kernel
theorem dX5_gapOf_59 : decode cX5_gapOf 59 = .ok (.iadd, 1) := by decide +kernel
theorem dX5_gapOf_60 : decode cX5_gapOf 60 = .ok (.istore_n 3, 1) := by decide +kernel
theorem dX5_gapOf_61 : decode cX5_gapOf 61 = .ok (.iinc 4 1, 3) := by decide +kernel
theorem dX5_gapOf_64 : decode cX5_gapOf 64 = .ok (.goto (-59), 3) := by decide +kernel
abbrev rm_kX5_gapOf : Room := { frames := 1, cells := 0, slots := 0, locals := 22 }
set_option maxHeartbeats 4000000 in
set_option maxRecDepth 100000 in
theorem kX5_gapOf (l : Launch) (g : zL) (h0 : Nat) (x1 : Int32) (x2 : Int32) (h0_low : Nat) (h0_high : Nat) (h0_normal : Nat) (h0_corner : Nat) (h0_east : Nat) (h0_north : Nat) (h0_start : Nat) (h0_far : Nat) (f_h0_low : Nat → Int32) (f_h0_high : Nat → Int32) (hy0 : 0 ≤ x1.toInt ∧ x1.toInt ≤ 8) (hy1 : 0 ≤ x2.toInt ∧ x2.toInt ≤ 8) : zCi l g yX5_gapOf cX5_gapOf 7 (some .int) rm_kX5_gapOf [.ref h0, .int x1, .int x2] [(h0, .inr (5, [.ref h0_low, .ref h0_high, .ref h0_normal, .ref h0_corner, .ref h0_east, .ref h0_north, .ref h0_start, .ref h0_far])), (h0_low, .inl (g.2.1.1, 54, .inl f_h0_low)), (h0_high, .inl (g.2.1.1, 54, .inl f_h0_high))] (fun (r : Int32) (u : Unit) => True) (fun (u : Unit) => [(h0, .inr (5, [.ref h0_low, .ref h0_high, .ref h0_normal, .ref h0_corner, .ref h0_east, .ref h0_north, .ref h0_start, .ref h0_far])), (h0_low, .inl (g.2.1.1, 54, .inl f_h0_low)), (h0_high, .inl (g.2.1.1, 54, .inl f_h0_high))]) := by
  refine zCi.mk2 (by decide) (Nat.le_of_ble_eq_true rfl) ?_
  intro p e s m below meth c A args Q hE hret hP hD hS ls hl
  obtain ⟨hx, hb, hr, hml, hown, hG, hlocks, hnm, hX, hA⟩ := hE
  have hown : s.vm.findClass RX5 = some m.cls := hown
  have hl : lv_has ls 7 [(0, .ref h0), (1, .int x1), (2, .int x2)] := hl
  refine lv_iconst (v := 0) hx hb dX5_gapOf_0 (by decide) ?_
  refine lv_istore_n (lv' := [(3, .int 0), (0, .ref h0), (1, .int x1), (2, .int x2)]) hx hb dX5_gapOf_1 rfl hl (by decide) rfl (fun ls hl => ?_)
  refine lv_iconst (v := 0) hx hb dX5_gapOf_2 (by decide) ?_
  refine lv_istore (lv' := [(4, .int 0), (3, .int 0), (0, .ref h0), (1, .int x1), (2, .int x2)]) hx hb dX5_gapOf_3 hl (by decide) rfl (fun ls hl => ?_)
  have L117 : ∀ (n : Nat) (v93 : Int32) (v94 : Int32) (H : Heap) (locs : List Loc) (ls : Array Slot), 0 ≤ v94.toInt ∧ v94.toInt ≤ 3 → (4 - v94.toInt).toNat < n → va_P g.1 vwCl [(h0, .inr (5, [.ref h0_low, .ref h0_high, .ref h0_normal, .ref h0_corner, .ref h0_east, .ref h0_north, .ref h0_start, .ref h0_far])), (h0_low, .inl (g.2.1.1, 54, .inl f_h0_low)), (h0_high, .inl (g.2.1.1, 54, .inl f_h0_high))] H → va_D A [(h0, .inr (5, [.ref h0_low, .ref h0_high, .ref h0_normal, .ref h0_corner, .ref h0_east, .ref h0_north, .ref h0_start, .ref h0_far])), (h0_low, .inl (g.2.1.1, 54, .inl f_h0_low)), (h0_high, .inl (g.2.1.1, 54, .inl f_h0_high))] → va_S A s.heap H locs → lv_has ls 7 [(0, .ref h0), (1, .int x1), (2, .int x2), (3, .int v93), (4, .int v94)] → W p l e rm_kX5_gapOf s m args below meth c H locs 0 0 Q (F0 m 5 ls []) := by
    intro n118
    induction n118 with
    | zero => intro v93 v94 H locs ls i120 hm121; exact absurd hm121 (Nat.not_lt_zero _)
    | succ n118 ih119 =>
      intro v93 v94 H locs ls i120 hm121 hP hD hS hl
      refine lv_iload hx hb dX5_gapOf_5 (lv_at hl 4 rfl) ?_
      refine lv_iconst (v := 3) hx hb dX5_gapOf_7 (by decide) ?_
      refine lv_icmp_ge (tgt := 67) hx hb dX5_gapOf_8 (by decide) (fun c122 => ?_) (fun c122 => ?_)
      · skip
        have c122i : (3 : Int) ≤ v94.toInt := (zc_le (show (3 : Int32).toInt = (3 : Int) from by decide) (rfl : v94.toInt = _)).mp c122
        refine lv_iload_n hx hb dX5_gapOf_67 rfl (lv_at hl 3 rfl) ?_
        exact hret v93 () (Nat.le_of_ble_eq_true rfl) (Nat.le_of_ble_eq_true rfl) rfl trivial hP hD hS dX5_gapOf_68
      · skip
        have c122i : ¬ ((3 : Int) ≤ v94.toInt) := fun q => c122 ((zc_le (show (3 : Int32).toInt = (3 : Int) from by decide) (rfl : v94.toInt = _)).mpr q)
        refine lv_aload_n hx hb dX5_gapOf_11 rfl (lv_at hl 0 rfl) ?_
        refine lv_iload_n hx hb dX5_gapOf_12 rfl (lv_at hl 1 rfl) ?_
        refine lv_iload hx hb dX5_gapOf_13 (lv_at hl 4 rfl) ?_
        refine zfi (wr := [(h0_high, .inl (g.2.1.1, 54, .inl f_h0_high))]) (va_runV (As := [.int x1, .int v94]) (rest := []) ⟨hx, hb, hml, hown, hG⟩ (kX5_lowOf l g h0 x1 v94 h0_low h0_high h0_normal h0_corner h0_east h0_north h0_start h0_far f_h0_low (ox_192 hy0) (ox_193 c122i i120) _) ⟨callB_of 2 hG (zGood wc_X5_lowOf) rfl rfl rfl (hG _ wini_X5) (hG _ wm_X5_129) hX5_lowOf ⟨Nat.le_of_ble_eq_true rfl, Nat.le_of_ble_eq_true rfl⟩, hG _ wi_X5_lowOf, hG _ wse_X5_X5_lowOf⟩ (zpreV (va_recv hX.1 hP (ci := 5) (q0 := 0) rfl rfl) hX hP hD hS hA [0, 1] rfl (by decide)) rfl rfl hl.1 rfl (lv_room (Nat.le_of_ble_eq_true rfl)) dX5_gapOf_15 ⟨Nat.le_of_ble_eq_true rfl, Nat.le_of_ble_eq_true rfl⟩) hP hD hS hA [0, 1] [2] rfl rfl (by decide) (by decide) (fun r123 _ H locs hp hP hD hS => ?_)
        refine W.cs (cells' := 0) (slots' := 0) rfl rfl ?_
        have hP : va_P g.1 vwCl [(h0_high, .inl (g.2.1.1, 54, .inl f_h0_high)), (h0, .inr (5, [.ref h0_low, .ref h0_high, .ref h0_normal, .ref h0_corner, .ref h0_east, .ref h0_north, .ref h0_start, .ref h0_far])), (h0_low, .inl (g.2.1.1, 54, .inl f_h0_low))] H := hP
        have hD : va_D A [(h0_high, .inl (g.2.1.1, 54, .inl f_h0_high)), (h0, .inr (5, [.ref h0_low, .ref h0_high, .ref h0_normal, .ref h0_corner, .ref h0_east, .ref h0_north, .ref h0_start, .ref h0_far])), (h0_low, .inl (g.2.1.1, 54, .inl f_h0_low))] := hD
        refine lv_aload_n hx hb dX5_gapOf_18 rfl (lv_at hl 0 rfl) ?_
        refine lv_iload_n hx hb dX5_gapOf_19 rfl (lv_at hl 2 rfl) ?_
        refine lv_iload hx hb dX5_gapOf_20 (lv_at hl 4 rfl) ?_
        refine zfi (wr := [(h0_high, .inl (g.2.1.1, 54, .inl f_h0_high))]) (va_runV (As := [.int x2, .int v94]) (rest := [.int r123]) ⟨hx, hb, hml, hown, hG⟩ (kX5_lowOf l g h0 x2 v94 h0_low h0_high h0_normal h0_corner h0_east h0_north h0_start h0_far f_h0_low (ox_192 hy1) (ox_193 c122i i120) _) ⟨callB_of 2 hG (zGood wc_X5_lowOf) rfl rfl rfl (hG _ wini_X5) (hG _ wm_X5_129) hX5_lowOf ⟨Nat.le_of_ble_eq_true rfl, Nat.le_of_ble_eq_true rfl⟩, hG _ wi_X5_lowOf, hG _ wse_X5_X5_lowOf⟩ (zpreV (va_recv hX.1 hP (ci := 5) (q0 := 1) rfl rfl) hX hP hD hS hA [1, 2] rfl (by decide)) rfl rfl hl.1 rfl (lv_room (Nat.le_of_ble_eq_true rfl)) dX5_gapOf_22 ⟨Nat.le_of_ble_eq_true rfl, Nat.le_of_ble_eq_true rfl⟩) hP hD hS hA [1, 2] [0] rfl rfl (by decide) (by decide) (fun r124 _ H locs hp hP hD hS => ?_)
        refine W.cs (cells' := 0) (slots' := 0) rfl rfl ?_
        have hP : va_P g.1 vwCl [(h0_high, .inl (g.2.1.1, 54, .inl f_h0_high)), (h0, .inr (5, [.ref h0_low, .ref h0_high, .ref h0_normal, .ref h0_corner, .ref h0_east, .ref h0_north, .ref h0_start, .ref h0_far])), (h0_low, .inl (g.2.1.1, 54, .inl f_h0_low))] H := hP
        have hD : va_D A [(h0_high, .inl (g.2.1.1, 54, .inl f_h0_high)), (h0, .inr (5, [.ref h0_low, .ref h0_high, .ref h0_normal, .ref h0_corner, .ref h0_east, .ref h0_north, .ref h0_start, .ref h0_far])), (h0_low, .inl (g.2.1.1, 54, .inl f_h0_low))] := hD
        refine va_mmax hx hb (by rw [hml]; exact hl.1.symm) hown (hG _ wm_X5_126) (hG _ ws_J9_max_7cf53) (hG _ wini_J9) (hG _ wc_J9_max_7cf53) (Nat.le_of_ble_eq_true rfl) (Nat.le_of_ble_eq_true rfl) (Nat.le_of_ble_eq_true rfl) (Nat.le_of_ble_eq_true rfl) dX5_gapOf_25 ?_
        refine lv_topi (fun z125 e126 => ?_)
        have f127 : z125.toInt ≥ r123.toInt ∧ z125.toInt ≥ r124.toInt ∧ (z125.toInt = r123.toInt ∨ z125.toInt = r124.toInt) := zmx e126 (rfl : r123.toInt = _) (rfl : r124.toInt = _)
        refine lv_istore (lv' := [(5, .int z125), (0, .ref h0), (1, .int x1), (2, .int x2), (3, .int v93), (4, .int v94)]) hx hb dX5_gapOf_28 hl (by decide) rfl (fun ls hl => ?_)
        refine lv_aload_n hx hb dX5_gapOf_30 rfl (lv_at hl 1 rfl) ?_
        refine lv_iload_n hx hb dX5_gapOf_31 rfl (lv_at hl 2 rfl) ?_
        refine lv_iload hx hb dX5_gapOf_32 (lv_at hl 5 rfl) ?_
        refine zfi (wr := [(h0_low, .inl (g.2.1.1, 54, .inl f_h0_low))]) (va_runV (As := [.int x1, .int v94]) (rest := []) ⟨hx, hb, hml, hown, hG⟩ (kX5_highOf l g h0 x1 v94 h0_low h0_high h0_normal h0_corner h0_east h0_north h0_start h0_far f_h0_high (ox_192 hy0) (ox_193 c122i i120) _) ⟨callB_of 2 hG (zGood wc_X5_highOf) rfl rfl rfl (hG _ wini_X5) (hG _ wm_X5_132) hX5_highOf ⟨Nat.le_of_ble_eq_true rfl, Nat.le_of_ble_eq_true rfl⟩, hG _ wi_X5_highOf, hG _ wse_X5_X5_highOf⟩ (zpreV (va_recv hX.1 hP (ci := 5) (q0 := 1) rfl rfl) hX hP hD hS hA [1, 0] rfl (by decide)) rfl rfl hl.1 rfl (lv_room (Nat.le_of_ble_eq_true rfl)) dX5_gapOf_34 ⟨Nat.le_of_ble_eq_true rfl, Nat.le_of_ble_eq_true rfl⟩) hP hD hS hA [1, 0] [2] rfl rfl (by decide) (by decide) (fun r128 _ H locs hp hP hD hS => ?_)
        refine W.cs (cells' := 0) (slots' := 0) rfl rfl ?_
        have hP : va_P g.1 vwCl [(h0_low, .inl (g.2.1.1, 54, .inl f_h0_low)), (h0, .inr (5, [.ref h0_low, .ref h0_high, .ref h0_normal, .ref h0_corner, .ref h0_east, .ref h0_north, .ref h0_start, .ref h0_far])), (h0_high, .inl (g.2.1.1, 54, .inl f_h0_high))] H := hP
        have hD : va_D A [(h0_low, .inl (g.2.1.1, 54, .inl f_h0_low)), (h0, .inr (5, [.ref h0_low, .ref h0_high, .ref h0_normal, .ref h0_corner, .ref h0_east, .ref h0_north, .ref h0_start, .ref h0_far])), (h0_high, .inl (g.2.1.1, 54, .inl f_h0_high))] := hD
        refine lv_aload_n hx hb dX5_gapOf_37 rfl (lv_at hl 1 rfl) ?_
        refine lv_iload_n hx hb dX5_gapOf_38 rfl (lv_at hl 3 rfl) ?_
        refine lv_iload hx hb dX5_gapOf_39 (lv_at hl 5 rfl) ?_
        refine zfi (wr := [(h0_low, .inl (g.2.1.1, 54, .inl f_h0_low))]) (va_runV (As := [.int x2, .int v94]) (rest := [.int r128]) ⟨hx, hb, hml, hown, hG⟩ (kX5_highOf l g h0 x2 v94 h0_low h0_high h0_normal h0_corner h0_east h0_north h0_start h0_far f_h0_high (ox_192 hy1) (ox_193 c122i i120) _) ⟨callB_of 2 hG (zGood wc_X5_highOf) rfl rfl rfl (hG _ wini_X5) (hG _ wm_X5_132) hX5_highOf ⟨Nat.le_of_ble_eq_true rfl, Nat.le_of_ble_eq_true rfl⟩, hG _ wi_X5_highOf, hG _ wse_X5_X5_highOf⟩ (zpreV (va_recv hX.1 hP (ci := 5) (q0 := 1) rfl rfl) hX hP hD hS hA [1, 2] rfl (by decide)) rfl rfl hl.1 rfl (lv_room (Nat.le_of_ble_eq_true rfl)) dX5_gapOf_41 ⟨Nat.le_of_ble_eq_true rfl, Nat.le_of_ble_eq_true rfl⟩) hP hD hS hA [1, 2] [0] rfl rfl (by decide) (by decide) (fun r129 _ H locs hp hP hD hS => ?_)
        refine W.cs (cells' := 0) (slots' := 0) rfl rfl ?_
        have hP : va_P g.1 vwCl [(h0_low, .inl (g.2.1.1, 54, .inl f_h0_low)), (h0, .inr (5, [.ref h0_low, .ref h0_high, .ref h0_normal, .ref h0_corner, .ref h0_east, .ref h0_north, .ref h0_start, .ref h0_far])), (h0_high, .inl (g.2.1.1, 54, .inl f_h0_high))] H := hP
        have hD : va_D A [(h0_low, .inl (g.2.1.1, 54, .inl f_h0_low)), (h0, .inr (5, [.ref h0_low, .ref h0_high, .ref h0_normal, .ref h0_corner, .ref h0_east, .ref h0_north, .ref h0_start, .ref h0_far])), (h0_high, .inl (g.2.1.1, 54, .inl f_h0_high))] := hD
        refine va_mmin hx hb (by rw [hml]; exact hl.1.symm) hown (hG _ wm_X5_121) (hG _ ws_J9_min_7cf53) (hG _ wini_J9) (hG _ wc_J9_min_7cf53) (Nat.le_of_ble_eq_true rfl) (Nat.le_of_ble_eq_true rfl) (Nat.le_of_ble_eq_true rfl) (Nat.le_of_ble_eq_true rfl) dX5_gapOf_44 ?_
        refine lv_topi (fun z130 e131 => ?_)
        have f132 : z130.toInt ≤ r128.toInt ∧ z130.toInt ≤ r129.toInt ∧ (z130.toInt = r128.toInt ∨ z130.toInt = r129.toInt) := zmn e131 (rfl : r128.toInt = _) (rfl : r129.toInt = _)
        refine lv_istore (lv' := [(6, .int z130), (5, .int z125), (0, .ref h0), (1, .int x1), (2, .int x2), (3, .int v93), (4, .int v94)]) hx hb dX5_gapOf_47 hl (by decide) rfl (fun ls hl => ?_)
        refine lv_iload_n hx hb dX5_gapOf_49 rfl (lv_at hl 5 rfl) ?_
        refine lv_iconst (v := 0) hx hb dX5_gapOf_50 (by decide) ?_
        refine lv_iload hx hb dX5_gapOf_51 (lv_at hl 1 rfl) ?_
        refine lv_iload hx hb dX5_gapOf_53 (lv_at hl 0 rfl) ?_
        refine lv_isub hx hb dX5_gapOf_55 ?_
        refine lv_topi (fun z133 e134 => ?_)
        refine va_mmax hx hb (by rw [hml]; exact hl.1.symm) hown (hG _ wm_X5_126) (hG _ ws_J9_max_7cf53) (hG _ wini_J9) (hG _ wc_J9_max_7cf53) (Nat.le_of_ble_eq_true rfl) (Nat.le_of_ble_eq_true rfl) (Nat.le_of_ble_eq_true rfl) (Nat.le_of_ble_eq_true rfl) dX5_gapOf_56 ?_
        refine lv_topi (fun z135 e136 => ?_)
        have f137 : z135.toInt ≥ (0 : Int) ∧ z135.toInt ≥ z133.toInt ∧ (z135.toInt = (0 : Int) ∨ z135.toInt = z133.toInt) := zmx e136 (show (0 : Int32).toInt = (0 : Int) from by decide) (rfl : z133.toInt = _)
        refine lv_iadd hx hb dX5_gapOf_59 ?_
        refine lv_topi (fun z138 e139 => ?_)
        refine lv_istore_n (lv' := [(3, .int z138), (6, .int z130), (5, .int z125), (0, .ref h0), (1, .int x1), (2, .int x2), (4, .int v94)]) hx hb dX5_gapOf_60 rfl hl (by decide) rfl (fun ls hl => ?_)
        obtain ⟨z140, e141⟩ : ∃ y9 : Int32, y9 = v94 + 1 := ⟨_, rfl⟩
        have f142 : z140.toInt = v94.toInt + 1 := za e141 (rfl : v94.toInt = _) (show (1 : Int32).toInt = (1 : Int) from by decide) (ox_103 (zr v94) c122i i120)
        refine lv_iinc (v := z140) (lv' := [(4, .int z140), (3, .int z138), (6, .int z130), (5, .int z125), (0, .ref h0), (1, .int x1), (2, .int x2)]) hx hb dX5_gapOf_61 hl (k := 6) rfl (by rw [e141]; rfl) (by decide) rfl (fun ls hl => ?_)
        refine lv_goto (tgt := 5) hx hb dX5_gapOf_64 (by decide) ?_
        exact ih119 z138 z140 H locs ls (ox_104 c122i f142 i120) (zdec hm121 (ox_105 c122i f142 i120)) (hP.sub [1, 0, 2] rfl) (hD.sub [1, 0, 2] (by decide) rfl) hS (lv_sub hl [4, 5, 6, 1, 0] rfl)
  exact L117 _ (0 : Int32) (0 : Int32) _ _ ls ((show 0 ≤ (0 : Int) ∧ (0 : Int) ≤ 3 from by decide)) (Nat.lt_succ_self _) hP hD hS (lv_sub hl [2, 3, 4, 1, 0] rfl)
theorem dX5_overlaps_0 : decode cX5_overlaps 0 = .ok (.iconst 0, 1) := by decide +kernel
theorem dX5_overlaps_1 : decode cX5_overlaps 1 = .ok (.istore_n 3, 1) := by decide +kernel
theorem dX5_overlaps_2 : decode cX5_overlaps 2 = .ok (.iconst 0, 1) := by decide +kernel
theorem dX5_overlaps_3 : decode cX5_overlaps 3 = .ok (.istore 4, 2) := by decide +kernel
theorem dX5_overlaps_5 : decode cX5_overlaps 5 = .ok (.iload 4, 2) := by decide +kernel
theorem dX5_overlaps_7 : decode cX5_overlaps 7 = .ok (.bipush 17, 2) := by decide +kernel
theorem dX5_overlaps_9 : decode cX5_overlaps 9 = .ok (.if_icmp .ge 99, 3) := by decide +kernel
theorem dX5_overlaps_108 : decode cX5_overlaps 108 = .ok (.iload_n 2, 1) := by decide +kernel
theorem dX5_overlaps_109 : decode cX5_overlaps 109 = .ok (.iconst (-1), 1) := by decide +kernel
theorem dX5_overlaps_110 : decode cX5_overlaps 110 = .ok (.if_icmp .ne 7, 3) := by decide +kernel
theorem dX5_overlaps_117 : decode cX5_overlaps 117 = .ok (.iconst (-1), 1) := by decide +kernel
theorem dX5_overlaps_118 : decode cX5_overlaps 118 = .ok (.ireturn, 1) := by decide +kernel
theorem dX5_overlaps_113 : decode cX5_overlaps 113 = .ok (.iload_n 3, 1) := by decide +kernel
theorem dX5_overlaps_114 : decode cX5_overlaps 114 = .ok (.goto 4, 3) := by decide +kernel
theorem dX5_overlaps_12 : decode cX5_overlaps 12 = .ok (.iload 4, 2) := by decide +kernel
theorem dX5_overlaps_14 : decode cX5_overlaps 14 = .ok (.iconst 1, 1) := by decide +kernel
theorem dX5_overlaps_15 : decode cX5_overlaps 15 = .ok (.iadd, 1) := by decide +kernel
theorem dX5_overlaps_16 : decode cX5_overlaps 16 = .ok (.istore 5, 2) := by decide +kernel
theorem dX5_overlaps_18 : decode cX5_overlaps 18 = .ok (.iload 5, 2) := by decide +kernel
theorem dX5_overlaps_20 : decode cX5_overlaps 20 = .ok (.bipush 17, 2) := by decide +kernel
theorem dX5_overlaps_22 : decode cX5_overlaps 22 = .ok (.if_icmp .ge 80, 3) := by decide +kernel
theorem dX5_overlaps_102 : decode cX5_overlaps 102 = .ok (.iinc 4 1, 3) := by decide +kernel
theorem dX5_overlaps_105 : decode cX5_overlaps 105 = .ok (.goto (-100), 3) := by decide +kernel
theorem dX5_overlaps_25 : decode cX5_overlaps 25 = .ok (.aload_n 1, 1) := by decide +kernel
theorem dX5_overlaps_26 : decode cX5_overlaps 26 = .ok (.iload 4, 2) := by decide +kernel
theorem dX5_overlaps_28 : decode cX5_overlaps 28 = .ok (.invokevirtual 144, 3) := by decide +kernel
theorem dX5_overlaps_48 : decode cX5_overlaps 48 = .ok (.istore 6, 2) := by decide +kernel
theorem dX5_overlaps_50 : decode cX5_overlaps 50 = .ok (.iload 6, 2) := by decide +kernel
theorem dX5_overlaps_96 : decode cX5_overlaps 96 = .ok (.iinc 5 1, 3) := by decide +kernel
theorem dX5_overlaps_99 : decode cX5_overlaps 99 = .ok (.goto (-81), 3) := by decide +kernel
theorem dX5_overlaps_52 : decode cX5_overlaps 52 = .ok (.ifCond .eq 44, 3) := by decide +kernel
theorem dX5_overlaps_55 : decode cX5_overlaps 55 = .ok (.aload_n 0, 1) := by decide +kernel
theorem dX5_overlaps_56 : decode cX5_overlaps 56 = .ok (.iload 4, 2) := by decide +kernel
theorem dX5_overlaps_58 : decode cX5_overlaps 58 = .ok (.iload 5, 2) := by decide +kernel
theorem dX5_overlaps_60 : decode cX5_overlaps 60 = .ok (.iconst 0, 1) := by decide +kernel
theorem dX5_overlaps_61 : decode cX5_overlaps 61 = .ok (.invokevirtual 147, 3) := by decide +kernel
theorem dX5_overlaps_64 : decode cX5_overlaps 64 = .ok (.ifCond .eq 32, 3) := by decide +kernel
theorem dX5_overlaps_67 : decode cX5_overlaps 67 = .ok (.aload_n 0, 1) := by decide +kernel
theorem dX5_overlaps_68 : decode cX5_overlaps 68 = .ok (.iload 4, 2) := by decide +kernel
theorem dX5_overlaps_70 : decode cX5_overlaps 70 = .ok (.iload 5, 2) := by decide +kernel
theorem dX5_overlaps_72 : decode cX5_overlaps 72 = .ok (.iconst 1, 1) := by decide +kernel
theorem dX5_overlaps_73 : decode cX5_overlaps 73 = .ok (.invokevirtual 147, 3) := by decide +kernel
theorem dX5_overlaps_76 : decode cX5_overlaps 76 = .ok (.ifCond .eq 20, 3) := by decide +kernel
theorem dX5_overlaps_79 : decode cX5_overlaps 79 = .ok (.iload_n 3, 1) := by decide +kernel
theorem dX5_overlaps_80 : decode cX5_overlaps 80 = .ok (.iload_n 2, 1) := by decide +kernel
theorem dX5_overlaps_81 : decode cX5_overlaps 81 = .ok (.if_icmp .ne 12, 3) := by decide +kernel
theorem dX5_overlaps_93 : decode cX5_overlaps 93 = .ok (.iinc 3 1, 3) := by decide +kernel
theorem dX5_overlaps_84 : decode cX5_overlaps 84 = .ok (.iload 4, 2) := by decide +kernel
theorem dX5_overlaps_86 : decode cX5_overlaps 86 = .ok (.bipush 18, 2) := by decide +kernel
theorem dX5_overlaps_88 : decode cX5_overlaps 88 = .ok (.imul, 1) := by decide +kernel
theorem dX5_overlaps_89 : decode cX5_overlaps 89 = .ok (.iload 5, 2) := by decide +kernel
theorem dX5_overlaps_91 : decode cX5_overlaps 91 = .ok (.iadd, 1) := by decide +kernel
theorem dX5_overlaps_92 : decode cX5_overlaps 92 = .ok (.ireturn, 1) := by decide +kernel
theorem dX5_overlaps_47 : decode cX5_overlaps 47 = .ok (.iconst 0, 1) := by decide +kernel
theorem dX5_overlaps_31 : decode cX5_overlaps 31 = .ok (.ifCond .eq 16, 3) := by decide +kernel
theorem dX5_overlaps_34 : decode cX5_overlaps 34 = .ok (.aload_n 1, 1) := by decide +kernel
theorem dX5_overlaps_35 : decode cX5_overlaps 35 = .ok (.iload 5, 2) := by decide +kernel
theorem dX5_overlaps_37 : decode cX5_overlaps 37 = .ok (.invokevirtual 144, 3) := by decide +kernel
theorem dX5_overlaps_40 : decode cX5_overlaps 40 = .ok (.ifCond .eq 7, 3) := by decide +kernel
theorem dX5_overlaps_43 : decode cX5_overlaps 43 = .ok (.iconst 1, 1) := by decide +kernel
theorem dX5_overlaps_44 : decode cX5_overlaps 44 = .ok (.goto 4, 3) := by decide +kernel
abbrev rm_kX5_overlaps : Room := { frames := 2, cells := 0, slots := 0, locals := 42 }
set_option maxHeartbeats 4000000 in
set_option maxRecDepth 100000 in
theorem kX5_overlaps (l : Launch) (g : zL) (h0 : Nat) (y1 : Nat) (x2 : Int32) (y1_count : Int32) (y1_statements : Int32) (y1_thick : Int32) (y1_punch : Int32) (y1_ups : Int32) (y1_toolCount : Int32) (y1_toolWidth : Nat) (y1_told : Nat) (y1_name : Nat) (y1_parent : Nat) (y1_side : Nat) (y1_from : Nat) (y1_width : Nat) (y1_height : Nat) (y1_radius : Nat) (y1_toolSet : Nat) (h0_low : Nat) (h0_high : Nat) (h0_normal : Nat) (h0_corner : Nat) (h0_east : Nat) (h0_north : Nat) (h0_start : Nat) (h0_far : Nat) (f_h0_low : Nat → Int32) (f_h0_high : Nat → Int32) (hy0 : 0 ≤ y1_count.toInt ∧ y1_count.toInt ≤ 9) (hy1 : 0 ≤ y1_toolCount.toInt ∧ y1_toolCount.toInt ≤ 8) : zCi l g yX5_overlaps cX5_overlaps 7 (some .int) rm_kX5_overlaps [.ref h0, .ref y1, .int x2] [(y1, .inr (4, [.int y1_count, .int y1_statements, .int y1_thick, .int y1_punch, .int y1_ups, .int y1_toolCount, .ref y1_toolWidth, .ref y1_told, .ref y1_name, .ref y1_parent, .ref y1_side, .ref y1_from, .ref y1_width, .ref y1_height, .ref y1_radius, .ref y1_toolSet])), (h0, .inr (5, [.ref h0_low, .ref h0_high, .ref h0_normal, .ref h0_corner, .ref h0_east, .ref h0_north, .ref h0_start, .ref h0_far])), (h0_low, .inl (g.2.1.1, 54, .inl f_h0_low)), (h0_high, .inl (g.2.1.1, 54, .inl f_h0_high))] (fun (r : Int32) (u : Unit) => True) (fun (u : Unit) => [(y1, .inr (4, [.int y1_count, .int y1_statements, .int y1_thick, .int y1_punch, .int y1_ups, .int y1_toolCount, .ref y1_toolWidth, .ref y1_told, .ref y1_name, .ref y1_parent, .ref y1_side, .ref y1_from, .ref y1_width, .ref y1_height, .ref y1_radius, .ref y1_toolSet])), (h0, .inr (5, [.ref h0_low, .ref h0_high, .ref h0_normal, .ref h0_corner, .ref h0_east, .ref h0_north, .ref h0_start, .ref h0_far])), (h0_low, .inl (g.2.1.1, 54, .inl f_h0_low)), (h0_high, .inl (g.2.1.1, 54, .inl f_h0_high))]) := by
  refine zCi.mk2 (by decide) (Nat.le_of_ble_eq_true rfl) ?_
  intro p e s m below meth c A args Q hE hret hP hD hS ls hl
  obtain ⟨hx, hb, hr, hml, hown, hG, hlocks, hnm, hX, hA⟩ := hE
  have hown : s.vm.findClass RX5 = some m.cls := hown
  have hl : lv_has ls 7 [(0, .ref h0), (1, .ref y1), (2, .int x2)] := hl
  refine lv_iconst (v := 0) hx hb dX5_overlaps_0 (by decide) ?_
  refine lv_istore_n (lv' := [(3, .int 0), (0, .ref h0), (1, .ref y1), (2, .int x2)]) hx hb dX5_overlaps_1 rfl hl (by decide) rfl (fun ls hl => ?_)
  refine lv_iconst (v := 0) hx hb dX5_overlaps_2 (by decide) ?_
  refine lv_istore (lv' := [(4, .int 0), (3, .int 0), (0, .ref h0), (1, .ref y1), (2, .int x2)]) hx hb dX5_overlaps_3 hl (by decide) rfl (fun ls hl => ?_)
  have L3291 : ∀ (n : Nat) (v3052 : Int32) (v3053 : Int32) (H : Heap) (locs : List Loc) (ls : Array Slot), 0 ≤ v3053.toInt ∧ v3053.toInt ≤ 17 → (18 - v3053.toInt).toNat < n → va_P g.1 vwCl [(y1, .inr (4, [.int y1_count, .int y1_statements, .int y1_thick, .int y1_punch, .int y1_ups, .int y1_toolCount, .ref y1_toolWidth, .ref y1_told, .ref y1_name, .ref y1_parent, .ref y1_side, .ref y1_from, .ref y1_width, .ref y1_height, .ref y1_radius, .ref y1_toolSet])), (h0, .inr (5, [.ref h0_low, .ref h0_high, .ref h0_normal, .ref h0_corner, .ref h0_east, .ref h0_north, .ref h0_start, .ref h0_far])), (h0_low, .inl (g.2.1.1, 54, .inl f_h0_low)), (h0_high, .inl (g.2.1.1, 54, .inl f_h0_high))] H → va_D A [(y1, .inr (4, [.int y1_count, .int y1_statements, .int y1_thick, .int y1_punch, .int y1_ups, .int y1_toolCount, .ref y1_toolWidth, .ref y1_told, .ref y1_name, .ref y1_parent, .ref y1_side, .ref y1_from, .ref y1_width, .ref y1_height, .ref y1_radius, .ref y1_toolSet])), (h0, .inr (5, [.ref h0_low, .ref h0_high, .ref h0_normal, .ref h0_corner, .ref h0_east, .ref h0_north, .ref h0_start, .ref h0_far])), (h0_low, .inl (g.2.1.1, 54, .inl f_h0_low)), (h0_high, .inl (g.2.1.1, 54, .inl f_h0_high))] → va_S A s.heap H locs → lv_has ls 7 [(0, .ref h0), (1, .ref y1), (2, .int x2), (3, .int v3052), (4, .int v3053)] → W p l e rm_kX5_overlaps s m args below meth c H locs 0 0 Q (F0 m 5 ls []) := by
    intro n3292
    induction n3292 with
    | zero => intro v3052 v3053 H locs ls i3294 hm3295; exact absurd hm3295 (Nat.not_lt_zero _)
    | succ n3292 ih3293 =>
      intro v3052 v3053 H locs ls i3294 hm3295 hP hD hS hl
      refine lv_iload hx hb dX5_overlaps_5 (lv_at hl 4 rfl) ?_
      refine lv_bipush (v := 17) hx hb dX5_overlaps_7 (by decide) ?_
      refine lv_icmp_ge (tgt := 108) hx hb dX5_overlaps_9 (by decide) (fun c3296 => ?_) (fun c3296 => ?_)
      · skip
        have c3296i : (17 : Int) ≤ v3053.toInt := (zc_le (show (17 : Int32).toInt = (17 : Int) from by decide) (rfl : v3053.toInt = _)).mp c3296
        refine lv_iload_n hx hb dX5_overlaps_108 rfl (lv_at hl 2 rfl) ?_
        refine lv_iconst (v := (-1)) hx hb dX5_overlaps_109 (by decide) ?_
        refine lv_icmp_ne (tgt := 117) hx hb dX5_overlaps_110 (by decide) (fun c3297 => ?_) (fun c3297 => ?_)
        · skip
          have c3297i : ¬ (x2.toInt = (-1 : Int)) := fun q => c3297 ((zc_eq (rfl : x2.toInt = _) (show (-1 : Int32).toInt = (-1 : Int) from by decide)).mpr q)
          refine lv_iconst (v := (-1)) hx hb dX5_overlaps_117 (by decide) ?_
          exact hret (-1 : Int32) () (Nat.le_of_ble_eq_true rfl) (Nat.le_of_ble_eq_true rfl) rfl trivial hP hD hS dX5_overlaps_118
        · skip
          have c3297i : x2.toInt = (-1 : Int) := (zc_eq (rfl : x2.toInt = _) (show (-1 : Int32).toInt = (-1 : Int) from by decide)).mp c3297
          refine lv_iload_n hx hb dX5_overlaps_113 rfl (lv_at hl 3 rfl) ?_
          refine lv_goto (tgt := 118) hx hb dX5_overlaps_114 (by decide) ?_
          exact hret v3052 () (Nat.le_of_ble_eq_true rfl) (Nat.le_of_ble_eq_true rfl) rfl trivial hP hD hS dX5_overlaps_118
      · skip
        have c3296i : ¬ ((17 : Int) ≤ v3053.toInt) := fun q => c3296 ((zc_le (show (17 : Int32).toInt = (17 : Int) from by decide) (rfl : v3053.toInt = _)).mpr q)
        refine lv_iload hx hb dX5_overlaps_12 (lv_at hl 4 rfl) ?_
        refine lv_iconst (v := 1) hx hb dX5_overlaps_14 (by decide) ?_
        refine lv_iadd hx hb dX5_overlaps_15 ?_
        refine lv_topi (fun z3298 e3299 => ?_)
        have f3300 : z3298.toInt = v3053.toInt + (1 : Int) := za e3299 (rfl : v3053.toInt = _) (show (1 : Int32).toInt = (1 : Int) from by decide) (ox_194 (zr v3053) c3296i i3294)
        refine lv_istore (lv' := [(5, .int z3298), (0, .ref h0), (1, .ref y1), (2, .int x2), (3, .int v3052), (4, .int v3053)]) hx hb dX5_overlaps_16 hl (by decide) rfl (fun ls hl => ?_)
        have L3475 : ∀ (n : Nat) (v3416 : Int32) (v3417 : Int32) (H : Heap) (locs : List Loc) (ls : Array Slot), 1 ≤ v3417.toInt ∧ v3417.toInt ≤ 17 → (18 - v3417.toInt).toNat < n → va_P g.1 vwCl [(y1, .inr (4, [.int y1_count, .int y1_statements, .int y1_thick, .int y1_punch, .int y1_ups, .int y1_toolCount, .ref y1_toolWidth, .ref y1_told, .ref y1_name, .ref y1_parent, .ref y1_side, .ref y1_from, .ref y1_width, .ref y1_height, .ref y1_radius, .ref y1_toolSet])), (h0, .inr (5, [.ref h0_low, .ref h0_high, .ref h0_normal, .ref h0_corner, .ref h0_east, .ref h0_north, .ref h0_start, .ref h0_far])), (h0_low, .inl (g.2.1.1, 54, .inl f_h0_low)), (h0_high, .inl (g.2.1.1, 54, .inl f_h0_high))] H → va_D A [(y1, .inr (4, [.int y1_count, .int y1_statements, .int y1_thick, .int y1_punch, .int y1_ups, .int y1_toolCount, .ref y1_toolWidth, .ref y1_told, .ref y1_name, .ref y1_parent, .ref y1_side, .ref y1_from, .ref y1_width, .ref y1_height, .ref y1_radius, .ref y1_toolSet])), (h0, .inr (5, [.ref h0_low, .ref h0_high, .ref h0_normal, .ref h0_corner, .ref h0_east, .ref h0_north, .ref h0_start, .ref h0_far])), (h0_low, .inl (g.2.1.1, 54, .inl f_h0_low)), (h0_high, .inl (g.2.1.1, 54, .inl f_h0_high))] → va_S A s.heap H locs → lv_has ls 7 [(0, .ref h0), (1, .ref y1), (2, .int x2), (3, .int v3416), (4, .int v3053), (5, .int v3417)] → W p l e rm_kX5_overlaps s m args below meth c H locs 0 0 Q (F0 m 18 ls []) := by
          intro n3476
          induction n3476 with
          | zero => intro v3416 v3417 H locs ls i3478 hm3479; exact absurd hm3479 (Nat.not_lt_zero _)
          | succ n3476 ih3477 =>
            intro v3416 v3417 H locs ls i3478 hm3479 hP hD hS hl
            refine lv_iload hx hb dX5_overlaps_18 (lv_at hl 5 rfl) ?_
            refine lv_bipush (v := 17) hx hb dX5_overlaps_20 (by decide) ?_
            refine lv_icmp_ge (tgt := 102) hx hb dX5_overlaps_22 (by decide) (fun c3480 => ?_) (fun c3480 => ?_)
            · skip
              have c3480i : (17 : Int) ≤ v3417.toInt := (zc_le (show (17 : Int32).toInt = (17 : Int) from by decide) (rfl : v3417.toInt = _)).mp c3480
              obtain ⟨z3481, e3482⟩ : ∃ y9 : Int32, y9 = v3053 + 1 := ⟨_, rfl⟩
              have f3483 : z3481.toInt = v3053.toInt + 1 := za e3482 (rfl : v3053.toInt = _) (show (1 : Int32).toInt = (1 : Int) from by decide) (ox_195 (zr v3053) (zr z3298) c3296i f3300 i3294)
              refine lv_iinc (v := z3481) (lv' := [(4, .int z3481), (0, .ref h0), (1, .ref y1), (2, .int x2), (3, .int v3416), (5, .int v3417)]) hx hb dX5_overlaps_102 hl (k := 4) rfl (by rw [e3482]; rfl) (by decide) rfl (fun ls hl => ?_)
              refine lv_goto (tgt := 5) hx hb dX5_overlaps_105 (by decide) ?_
              exact ih3293 v3416 z3481 H locs ls (ox_196 c3296i f3300 f3483 i3294) (zdec hm3295 (ox_197 c3296i f3300 f3483 i3294)) hP hD hS (lv_sub hl [1, 2, 3, 4, 0] rfl)
            · skip
              have c3480i : ¬ ((17 : Int) ≤ v3417.toInt) := fun q => c3480 ((zc_le (show (17 : Int32).toInt = (17 : Int) from by decide) (rfl : v3417.toInt = _)).mpr q)
              refine lv_aload_n hx hb dX5_overlaps_25 rfl (lv_at hl 1 rfl) ?_
              refine lv_iload hx hb dX5_overlaps_26 (lv_at hl 4 rfl) ?_
              refine zfi (wr := [(h0, .inr (5, [.ref h0_low, .ref h0_high, .ref h0_normal, .ref h0_corner, .ref h0_east, .ref h0_north, .ref h0_start, .ref h0_far])), (h0_low, .inl (g.2.1.1, 54, .inl f_h0_low)), (h0_high, .inl (g.2.1.1, 54, .inl f_h0_high))]) (va_runVN (As := [.int v3053]) (rest := []) ⟨hx, hb, hml, hown, hG⟩ (kX4_isPiece l g y1 v3053 y1_count y1_statements y1_thick y1_punch y1_ups y1_toolCount y1_toolWidth y1_told y1_name y1_parent y1_side y1_from y1_width y1_height y1_radius y1_toolSet (ox_0 hy0) (ox_1 hy1) _) ⟨va_cnB 1 hG (zGood wc_X4_isPiece) rfl rfl rfl (hX.2.1.ml wmn_X5_144) (hG _ wini_X4) hX4_isPiece ⟨Nat.le_of_ble_eq_true rfl, Nat.le_of_ble_eq_true rfl⟩, hG _ wi_X4_isPiece, hG _ wse_X4_X4_isPiece⟩ (zpreV (va_recv hX.1 hP (ci := 4) (q0 := 0) rfl rfl) hX hP hD hS hA [0] rfl (by decide)) rfl rfl hl.1 rfl (lv_room (Nat.le_of_ble_eq_true rfl)) dX5_overlaps_28 ⟨Nat.le_of_ble_eq_true rfl, Nat.le_of_ble_eq_true rfl⟩) hP hD hS hA [0] [1, 2, 3] rfl rfl (by decide) (by decide) (fun r3484 _ H locs hp hP hD hS => ?_)
              refine W.cs (cells' := 0) (slots' := 0) rfl rfl ?_
              have hq3485 : 0 ≤ r3484.toInt ∧ r3484.toInt ≤ 1 := hp
              have hP : va_P g.1 vwCl [(h0, .inr (5, [.ref h0_low, .ref h0_high, .ref h0_normal, .ref h0_corner, .ref h0_east, .ref h0_north, .ref h0_start, .ref h0_far])), (h0_low, .inl (g.2.1.1, 54, .inl f_h0_low)), (h0_high, .inl (g.2.1.1, 54, .inl f_h0_high)), (y1, .inr (4, [.int y1_count, .int y1_statements, .int y1_thick, .int y1_punch, .int y1_ups, .int y1_toolCount, .ref y1_toolWidth, .ref y1_told, .ref y1_name, .ref y1_parent, .ref y1_side, .ref y1_from, .ref y1_width, .ref y1_height, .ref y1_radius, .ref y1_toolSet]))] H := hP
              have hD : va_D A [(h0, .inr (5, [.ref h0_low, .ref h0_high, .ref h0_normal, .ref h0_corner, .ref h0_east, .ref h0_north, .ref h0_start, .ref h0_far])), (h0_low, .inl (g.2.1.1, 54, .inl f_h0_low)), (h0_high, .inl (g.2.1.1, 54, .inl f_h0_high)), (y1, .inr (4, [.int y1_count, .int y1_statements, .int y1_thick, .int y1_punch, .int y1_ups, .int y1_toolCount, .ref y1_toolWidth, .ref y1_told, .ref y1_name, .ref y1_parent, .ref y1_side, .ref y1_from, .ref y1_width, .ref y1_height, .ref y1_radius, .ref y1_toolSet]))] := hD
              have J3491 : ∀  (v3490 : Int32) (H : Heap) (locs : List Loc) (ls : Array Slot), 0 ≤ v3490.toInt ∧ v3490.toInt ≤ 1 → va_P g.1 vwCl [(h0, .inr (5, [.ref h0_low, .ref h0_high, .ref h0_normal, .ref h0_corner, .ref h0_east, .ref h0_north, .ref h0_start, .ref h0_far])), (h0_low, .inl (g.2.1.1, 54, .inl f_h0_low)), (h0_high, .inl (g.2.1.1, 54, .inl f_h0_high)), (y1, .inr (4, [.int y1_count, .int y1_statements, .int y1_thick, .int y1_punch, .int y1_ups, .int y1_toolCount, .ref y1_toolWidth, .ref y1_told, .ref y1_name, .ref y1_parent, .ref y1_side, .ref y1_from, .ref y1_width, .ref y1_height, .ref y1_radius, .ref y1_toolSet]))] H → va_D A [(h0, .inr (5, [.ref h0_low, .ref h0_high, .ref h0_normal, .ref h0_corner, .ref h0_east, .ref h0_north, .ref h0_start, .ref h0_far])), (h0_low, .inl (g.2.1.1, 54, .inl f_h0_low)), (h0_high, .inl (g.2.1.1, 54, .inl f_h0_high)), (y1, .inr (4, [.int y1_count, .int y1_statements, .int y1_thick, .int y1_punch, .int y1_ups, .int y1_toolCount, .ref y1_toolWidth, .ref y1_told, .ref y1_name, .ref y1_parent, .ref y1_side, .ref y1_from, .ref y1_width, .ref y1_height, .ref y1_radius, .ref y1_toolSet]))] → va_S A s.heap H locs → lv_has ls 7 [(0, .ref h0), (1, .ref y1), (2, .int x2), (3, .int v3416), (4, .int v3053), (5, .int v3417)] → W p l e rm_kX5_overlaps s m args below meth c H locs 0 0 Q (F0 m 48 ls [.int v3490]) := by
                intro v3490 H locs ls i3492 hP hD hS hl
                refine lv_istore (lv' := [(6, .int v3490), (0, .ref h0), (1, .ref y1), (2, .int x2), (3, .int v3416), (4, .int v3053), (5, .int v3417)]) hx hb dX5_overlaps_48 hl (by decide) rfl (fun ls hl => ?_)
                refine lv_iload hx hb dX5_overlaps_50 (lv_at hl 0 rfl) ?_
                have J3510 : ∀  (v3509 : Int32) (H : Heap) (locs : List Loc) (ls : Array Slot), va_P g.1 vwCl [(h0, .inr (5, [.ref h0_low, .ref h0_high, .ref h0_normal, .ref h0_corner, .ref h0_east, .ref h0_north, .ref h0_start, .ref h0_far])), (h0_low, .inl (g.2.1.1, 54, .inl f_h0_low)), (h0_high, .inl (g.2.1.1, 54, .inl f_h0_high)), (y1, .inr (4, [.int y1_count, .int y1_statements, .int y1_thick, .int y1_punch, .int y1_ups, .int y1_toolCount, .ref y1_toolWidth, .ref y1_told, .ref y1_name, .ref y1_parent, .ref y1_side, .ref y1_from, .ref y1_width, .ref y1_height, .ref y1_radius, .ref y1_toolSet]))] H → va_D A [(h0, .inr (5, [.ref h0_low, .ref h0_high, .ref h0_normal, .ref h0_corner, .ref h0_east, .ref h0_north, .ref h0_start, .ref h0_far])), (h0_low, .inl (g.2.1.1, 54, .inl f_h0_low)), (h0_high, .inl (g.2.1.1, 54, .inl f_h0_high)), (y1, .inr (4, [.int y1_count, .int y1_statements, .int y1_thick, .int y1_punch, .int y1_ups, .int y1_toolCount, .ref y1_toolWidth, .ref y1_told, .ref y1_name, .ref y1_parent, .ref y1_side, .ref y1_from, .ref y1_width, .ref y1_height, .ref y1_radius, .ref y1_toolSet]))] → va_S A s.heap H locs → lv_has ls 7 [(0, .ref h0), (1, .ref y1), (2, .int x2), (3, .int v3509), (4, .int v3053), (5, .int v3417), (6, .int v3490)] → W p l e rm_kX5_overlaps s m args below meth c H locs 0 0 Q (F0 m 96 ls []) := by
                  intro v3509 H locs ls  hP hD hS hl
                  obtain ⟨z3511, e3512⟩ : ∃ y9 : Int32, y9 = v3417 + 1 := ⟨_, rfl⟩
                  have f3513 : z3511.toInt = v3417.toInt + 1 := za e3512 (rfl : v3417.toInt = _) (show (1 : Int32).toInt = (1 : Int) from by decide) (ox_198 (zr v3417) c3480i i3478)
                  refine lv_iinc (v := z3511) (lv' := [(5, .int z3511), (0, .ref h0), (1, .ref y1), (2, .int x2), (3, .int v3509), (4, .int v3053), (6, .int v3490)]) hx hb dX5_overlaps_96 hl (k := 5) rfl (by rw [e3512]; rfl) (by decide) rfl (fun ls hl => ?_)
                  refine lv_goto (tgt := 18) hx hb dX5_overlaps_99 (by decide) ?_
                  exact ih3477 v3509 z3511 H locs ls (ox_199 c3480i f3513 i3478) (zdec hm3479 (ox_200 c3480i f3513 i3478)) (hP.sub [3, 0, 1, 2] rfl) (hD.sub [3, 0, 1, 2] (by decide) rfl) hS (lv_sub hl [1, 2, 3, 4, 5, 0] rfl)
                refine lv_if_eq (tgt := 96) hx hb dX5_overlaps_52 (by decide) (fun c3514 => ?_) (fun c3514 => ?_)
                · skip
                  have c3514i : v3490.toInt = (0 : Int) := (zc_eq (rfl : v3490.toInt = _) (show (0 : Int32).toInt = (0 : Int) from by decide)).mp c3514
                  exact J3510 v3416 H locs ls  hP hD hS (lv_sub hl [1, 2, 3, 4, 5, 6, 0] rfl)
                · skip
                  have c3514i : ¬ (v3490.toInt = (0 : Int)) := fun q => c3514 ((zc_eq (rfl : v3490.toInt = _) (show (0 : Int32).toInt = (0 : Int) from by decide)).mpr q)
                  refine lv_aload_n hx hb dX5_overlaps_55 rfl (lv_at hl 1 rfl) ?_
                  refine lv_iload hx hb dX5_overlaps_56 (lv_at hl 5 rfl) ?_
                  refine lv_iload hx hb dX5_overlaps_58 (lv_at hl 6 rfl) ?_
                  refine lv_iconst (v := 0) hx hb dX5_overlaps_60 (by decide) ?_
                  refine zfi (wr := [(y1, .inr (4, [.int y1_count, .int y1_statements, .int y1_thick, .int y1_punch, .int y1_ups, .int y1_toolCount, .ref y1_toolWidth, .ref y1_told, .ref y1_name, .ref y1_parent, .ref y1_side, .ref y1_from, .ref y1_width, .ref y1_height, .ref y1_radius, .ref y1_toolSet]))]) (va_runV (As := [.int v3053, .int v3417, .int 0]) (rest := []) ⟨hx, hb, hml, hown, hG⟩ (kX5_share l g h0 v3053 v3417 (0 : Int32) h0_low h0_high h0_normal h0_corner h0_east h0_north h0_start h0_far f_h0_low f_h0_high (ox_201 c3296i f3300 i3294) (ox_202 c3480i i3478) ((show 0 ≤ (0 : Int) ∧ (0 : Int) ≤ 2 from by decide)) _) ⟨callB_of 3 hG (zGood wc_X5_share) rfl rfl rfl (hG _ wini_X5) (hG _ wm_X5_147) hX5_share ⟨Nat.le_of_ble_eq_true rfl, Nat.le_of_ble_eq_true rfl⟩, hG _ wi_X5_share, hG _ wse_X5_X5_share⟩ (zpreV (va_recv hX.1 hP (ci := 5) (q0 := 0) rfl rfl) hX hP hD hS hA [0, 1, 2] rfl (by decide)) rfl rfl hl.1 rfl (lv_room (Nat.le_of_ble_eq_true rfl)) dX5_overlaps_61 ⟨Nat.le_of_ble_eq_true rfl, Nat.le_of_ble_eq_true rfl⟩) hP hD hS hA [0, 1, 2] [3] rfl rfl (by decide) (by decide) (fun r3515 _ H locs hp hP hD hS => ?_)
                  refine W.cs (cells' := 0) (slots' := 0) rfl rfl ?_
                  have hq3516 : 0 ≤ r3515.toInt ∧ r3515.toInt ≤ 1 := hp
                  have hP : va_P g.1 vwCl [(y1, .inr (4, [.int y1_count, .int y1_statements, .int y1_thick, .int y1_punch, .int y1_ups, .int y1_toolCount, .ref y1_toolWidth, .ref y1_told, .ref y1_name, .ref y1_parent, .ref y1_side, .ref y1_from, .ref y1_width, .ref y1_height, .ref y1_radius, .ref y1_toolSet])), (h0, .inr (5, [.ref h0_low, .ref h0_high, .ref h0_normal, .ref h0_corner, .ref h0_east, .ref h0_north, .ref h0_start, .ref h0_far])), (h0_low, .inl (g.2.1.1, 54, .inl f_h0_low)), (h0_high, .inl (g.2.1.1, 54, .inl f_h0_high))] H := hP
                  have hD : va_D A [(y1, .inr (4, [.int y1_count, .int y1_statements, .int y1_thick, .int y1_punch, .int y1_ups, .int y1_toolCount, .ref y1_toolWidth, .ref y1_told, .ref y1_name, .ref y1_parent, .ref y1_side, .ref y1_from, .ref y1_width, .ref y1_height, .ref y1_radius, .ref y1_toolSet])), (h0, .inr (5, [.ref h0_low, .ref h0_high, .ref h0_normal, .ref h0_corner, .ref h0_east, .ref h0_north, .ref h0_start, .ref h0_far])), (h0_low, .inl (g.2.1.1, 54, .inl f_h0_low)), (h0_high, .inl (g.2.1.1, 54, .inl f_h0_high))] := hD
                  refine lv_if_eq (tgt := 96) hx hb dX5_overlaps_64 (by decide) (fun c3517 => ?_) (fun c3517 => ?_)
                  · skip
                    have c3517i : r3515.toInt = (0 : Int) := (zc_eq (rfl : r3515.toInt = _) (show (0 : Int32).toInt = (0 : Int) from by decide)).mp c3517
                    exact J3510 v3416 H locs ls  (hP.sub [1, 2, 3, 0] rfl) (hD.sub [1, 2, 3, 0] (by decide) rfl) hS (lv_sub hl [1, 2, 3, 4, 5, 6, 0] rfl)
                  · skip
                    have c3517i : ¬ (r3515.toInt = (0 : Int)) := fun q => c3517 ((zc_eq (rfl : r3515.toInt = _) (show (0 : Int32).toInt = (0 : Int) from by decide)).mpr q)
                    refine lv_aload_n hx hb dX5_overlaps_67 rfl (lv_at hl 1 rfl) ?_
                    refine lv_iload hx hb dX5_overlaps_68 (lv_at hl 5 rfl) ?_
                    refine lv_iload hx hb dX5_overlaps_70 (lv_at hl 6 rfl) ?_
                    refine lv_iconst (v := 1) hx hb dX5_overlaps_72 (by decide) ?_
                    refine zfi (wr := [(y1, .inr (4, [.int y1_count, .int y1_statements, .int y1_thick, .int y1_punch, .int y1_ups, .int y1_toolCount, .ref y1_toolWidth, .ref y1_told, .ref y1_name, .ref y1_parent, .ref y1_side, .ref y1_from, .ref y1_width, .ref y1_height, .ref y1_radius, .ref y1_toolSet]))]) (va_runV (As := [.int v3053, .int v3417, .int 1]) (rest := []) ⟨hx, hb, hml, hown, hG⟩ (kX5_share l g h0 v3053 v3417 (1 : Int32) h0_low h0_high h0_normal h0_corner h0_east h0_north h0_start h0_far f_h0_low f_h0_high (ox_201 c3296i f3300 i3294) (ox_202 c3480i i3478) ((show 0 ≤ (1 : Int) ∧ (1 : Int) ≤ 2 from by decide)) _) ⟨callB_of 3 hG (zGood wc_X5_share) rfl rfl rfl (hG _ wini_X5) (hG _ wm_X5_147) hX5_share ⟨Nat.le_of_ble_eq_true rfl, Nat.le_of_ble_eq_true rfl⟩, hG _ wi_X5_share, hG _ wse_X5_X5_share⟩ (zpreV (va_recv hX.1 hP (ci := 5) (q0 := 1) rfl rfl) hX hP hD hS hA [1, 2, 3] rfl (by decide)) rfl rfl hl.1 rfl (lv_room (Nat.le_of_ble_eq_true rfl)) dX5_overlaps_73 ⟨Nat.le_of_ble_eq_true rfl, Nat.le_of_ble_eq_true rfl⟩) hP hD hS hA [1, 2, 3] [0] rfl rfl (by decide) (by decide) (fun r3518 _ H locs hp hP hD hS => ?_)
                    refine W.cs (cells' := 0) (slots' := 0) rfl rfl ?_
                    have hq3519 : 0 ≤ r3518.toInt ∧ r3518.toInt ≤ 1 := hp
                    have hP : va_P g.1 vwCl [(y1, .inr (4, [.int y1_count, .int y1_statements, .int y1_thick, .int y1_punch, .int y1_ups, .int y1_toolCount, .ref y1_toolWidth, .ref y1_told, .ref y1_name, .ref y1_parent, .ref y1_side, .ref y1_from, .ref y1_width, .ref y1_height, .ref y1_radius, .ref y1_toolSet])), (h0, .inr (5, [.ref h0_low, .ref h0_high, .ref h0_normal, .ref h0_corner, .ref h0_east, .ref h0_north, .ref h0_start, .ref h0_far])), (h0_low, .inl (g.2.1.1, 54, .inl f_h0_low)), (h0_high, .inl (g.2.1.1, 54, .inl f_h0_high))] H := hP
                    have hD : va_D A [(y1, .inr (4, [.int y1_count, .int y1_statements, .int y1_thick, .int y1_punch, .int y1_ups, .int y1_toolCount, .ref y1_toolWidth, .ref y1_told, .ref y1_name, .ref y1_parent, .ref y1_side, .ref y1_from, .ref y1_width, .ref y1_height, .ref y1_radius, .ref y1_toolSet])), (h0, .inr (5, [.ref h0_low, .ref h0_high, .ref h0_normal, .ref h0_corner, .ref h0_east, .ref h0_north, .ref h0_start, .ref h0_far])), (h0_low, .inl (g.2.1.1, 54, .inl f_h0_low)), (h0_high, .inl (g.2.1.1, 54, .inl f_h0_high))] := hD
                    refine lv_if_eq (tgt := 96) hx hb dX5_overlaps_76 (by decide) (fun c3520 => ?_) (fun c3520 => ?_)
                    · skip
                      have c3520i : r3518.toInt = (0 : Int) := (zc_eq (rfl : r3518.toInt = _) (show (0 : Int32).toInt = (0 : Int) from by decide)).mp c3520
                      exact J3510 v3416 H locs ls  (hP.sub [1, 2, 3, 0] rfl) (hD.sub [1, 2, 3, 0] (by decide) rfl) hS (lv_sub hl [1, 2, 3, 4, 5, 6, 0] rfl)
                    · skip
                      have c3520i : ¬ (r3518.toInt = (0 : Int)) := fun q => c3520 ((zc_eq (rfl : r3518.toInt = _) (show (0 : Int32).toInt = (0 : Int) from by decide)).mpr q)
                      refine lv_iload_n hx hb dX5_overlaps_79 rfl (lv_at hl 4 rfl) ?_
                      refine lv_iload_n hx hb dX5_overlaps_80 rfl (lv_at hl 3 rfl) ?_
                      refine lv_icmp_ne (tgt := 93) hx hb dX5_overlaps_81 (by decide) (fun c3521 => ?_) (fun c3521 => ?_)
                      · skip
                        have c3521i : ¬ (v3416.toInt = x2.toInt) := fun q => c3521 ((zc_eq (rfl : v3416.toInt = _) (rfl : x2.toInt = _)).mpr q)
                        obtain ⟨z3522, e3523⟩ : ∃ y9 : Int32, y9 = v3416 + 1 := ⟨_, rfl⟩
                        refine lv_iinc (v := z3522) (lv' := [(3, .int z3522), (6, .int v3490), (0, .ref h0), (1, .ref y1), (2, .int x2), (4, .int v3053), (5, .int v3417)]) hx hb dX5_overlaps_93 hl (k := 4) rfl (by rw [e3523]; rfl) (by decide) rfl (fun ls hl => ?_)
                        exact J3510 z3522 H locs ls  (hP.sub [1, 2, 3, 0] rfl) (hD.sub [1, 2, 3, 0] (by decide) rfl) hS (lv_sub hl [2, 3, 4, 0, 5, 6, 1] rfl)
                      · skip
                        have c3521i : v3416.toInt = x2.toInt := (zc_eq (rfl : v3416.toInt = _) (rfl : x2.toInt = _)).mp c3521
                        refine lv_iload hx hb dX5_overlaps_84 (lv_at hl 5 rfl) ?_
                        refine lv_bipush (v := 18) hx hb dX5_overlaps_86 (by decide) ?_
                        refine lv_imul hx hb dX5_overlaps_88 ?_
                        refine lv_topi (fun z3524 e3525 => ?_)
                        have f3526 : z3524.toInt = v3053.toInt * (18 : Int) := zm e3525 (rfl : v3053.toInt = _) (show (18 : Int32).toInt = (18 : Int) from by decide) (ox_203 (zr v3053) (zr z3298) c3296i f3300 i3294)
                        refine lv_iload hx hb dX5_overlaps_89 (lv_at hl 6 rfl) ?_
                        refine lv_iadd hx hb dX5_overlaps_91 ?_
                        refine lv_topi (fun z3527 e3528 => ?_)
                        have f3529 : z3527.toInt = z3524.toInt + v3417.toInt := za e3528 (rfl : z3524.toInt = _) (rfl : v3417.toInt = _) (ox_204 (zr v3053) (zr v3417) (zr z3298) (zr z3524) c3296i c3480i f3300 f3526 i3294 i3478)
                        exact hret z3527 () (Nat.le_of_ble_eq_true rfl) (Nat.le_of_ble_eq_true rfl) rfl trivial hP hD hS dX5_overlaps_92
              have J3534 : ∀  (H : Heap) (locs : List Loc) (ls : Array Slot), va_P g.1 vwCl [(h0, .inr (5, [.ref h0_low, .ref h0_high, .ref h0_normal, .ref h0_corner, .ref h0_east, .ref h0_north, .ref h0_start, .ref h0_far])), (h0_low, .inl (g.2.1.1, 54, .inl f_h0_low)), (h0_high, .inl (g.2.1.1, 54, .inl f_h0_high)), (y1, .inr (4, [.int y1_count, .int y1_statements, .int y1_thick, .int y1_punch, .int y1_ups, .int y1_toolCount, .ref y1_toolWidth, .ref y1_told, .ref y1_name, .ref y1_parent, .ref y1_side, .ref y1_from, .ref y1_width, .ref y1_height, .ref y1_radius, .ref y1_toolSet]))] H → va_D A [(h0, .inr (5, [.ref h0_low, .ref h0_high, .ref h0_normal, .ref h0_corner, .ref h0_east, .ref h0_north, .ref h0_start, .ref h0_far])), (h0_low, .inl (g.2.1.1, 54, .inl f_h0_low)), (h0_high, .inl (g.2.1.1, 54, .inl f_h0_high)), (y1, .inr (4, [.int y1_count, .int y1_statements, .int y1_thick, .int y1_punch, .int y1_ups, .int y1_toolCount, .ref y1_toolWidth, .ref y1_told, .ref y1_name, .ref y1_parent, .ref y1_side, .ref y1_from, .ref y1_width, .ref y1_height, .ref y1_radius, .ref y1_toolSet]))] → va_S A s.heap H locs → lv_has ls 7 [(0, .ref h0), (1, .ref y1), (2, .int x2), (3, .int v3416), (4, .int v3053), (5, .int v3417)] → W p l e rm_kX5_overlaps s m args below meth c H locs 0 0 Q (F0 m 47 ls []) := by
                intro  H locs ls  hP hD hS hl
                refine lv_iconst (v := 0) hx hb dX5_overlaps_47 (by decide) ?_
                exact J3491 (0 : Int32) H locs ls ((show 0 ≤ (0 : Int) ∧ (0 : Int) ≤ 1 from by decide)) hP hD hS (lv_sub hl [0, 1, 2, 3, 4, 5] rfl)
              refine lv_if_eq (tgt := 47) hx hb dX5_overlaps_31 (by decide) (fun c3535 => ?_) (fun c3535 => ?_)
              · skip
                have c3535i : r3484.toInt = (0 : Int) := (zc_eq (rfl : r3484.toInt = _) (show (0 : Int32).toInt = (0 : Int) from by decide)).mp c3535
                exact J3534 H locs ls  hP hD hS (lv_sub hl [0, 1, 2, 3, 4, 5] rfl)
              · skip
                have c3535i : ¬ (r3484.toInt = (0 : Int)) := fun q => c3535 ((zc_eq (rfl : r3484.toInt = _) (show (0 : Int32).toInt = (0 : Int) from by decide)).mpr q)
                refine lv_aload_n hx hb dX5_overlaps_34 rfl (lv_at hl 1 rfl) ?_
                refine lv_iload hx hb dX5_overlaps_35 (lv_at hl 5 rfl) ?_
                refine zfi (wr := [(h0, .inr (5, [.ref h0_low, .ref h0_high, .ref h0_normal, .ref h0_corner, .ref h0_east, .ref h0_north, .ref h0_start, .ref h0_far])), (h0_low, .inl (g.2.1.1, 54, .inl f_h0_low)), (h0_high, .inl (g.2.1.1, 54, .inl f_h0_high))]) (va_runVN (As := [.int v3417]) (rest := []) ⟨hx, hb, hml, hown, hG⟩ (kX4_isPiece l g y1 v3417 y1_count y1_statements y1_thick y1_punch y1_ups y1_toolCount y1_toolWidth y1_told y1_name y1_parent y1_side y1_from y1_width y1_height y1_radius y1_toolSet (ox_0 hy0) (ox_1 hy1) _) ⟨va_cnB 1 hG (zGood wc_X4_isPiece) rfl rfl rfl (hX.2.1.ml wmn_X5_144) (hG _ wini_X4) hX4_isPiece ⟨Nat.le_of_ble_eq_true rfl, Nat.le_of_ble_eq_true rfl⟩, hG _ wi_X4_isPiece, hG _ wse_X4_X4_isPiece⟩ (zpreV (va_recv hX.1 hP (ci := 4) (q0 := 3) rfl rfl) hX hP hD hS hA [3] rfl (by decide)) rfl rfl hl.1 rfl (lv_room (Nat.le_of_ble_eq_true rfl)) dX5_overlaps_37 ⟨Nat.le_of_ble_eq_true rfl, Nat.le_of_ble_eq_true rfl⟩) hP hD hS hA [3] [0, 1, 2] rfl rfl (by decide) (by decide) (fun r3536 _ H locs hp hP hD hS => ?_)
                refine W.cs (cells' := 0) (slots' := 0) rfl rfl ?_
                have hq3537 : 0 ≤ r3536.toInt ∧ r3536.toInt ≤ 1 := hp
                have hP : va_P g.1 vwCl [(h0, .inr (5, [.ref h0_low, .ref h0_high, .ref h0_normal, .ref h0_corner, .ref h0_east, .ref h0_north, .ref h0_start, .ref h0_far])), (h0_low, .inl (g.2.1.1, 54, .inl f_h0_low)), (h0_high, .inl (g.2.1.1, 54, .inl f_h0_high)), (y1, .inr (4, [.int y1_count, .int y1_statements, .int y1_thick, .int y1_punch, .int y1_ups, .int y1_toolCount, .ref y1_toolWidth, .ref y1_told, .ref y1_name, .ref y1_parent, .ref y1_side, .ref y1_from, .ref y1_width, .ref y1_height, .ref y1_radius, .ref y1_toolSet]))] H := hP
                have hD : va_D A [(h0, .inr (5, [.ref h0_low, .ref h0_high, .ref h0_normal, .ref h0_corner, .ref h0_east, .ref h0_north, .ref h0_start, .ref h0_far])), (h0_low, .inl (g.2.1.1, 54, .inl f_h0_low)), (h0_high, .inl (g.2.1.1, 54, .inl f_h0_high)), (y1, .inr (4, [.int y1_count, .int y1_statements, .int y1_thick, .int y1_punch, .int y1_ups, .int y1_toolCount, .ref y1_toolWidth, .ref y1_told, .ref y1_name, .ref y1_parent, .ref y1_side, .ref y1_from, .ref y1_width, .ref y1_height, .ref y1_radius, .ref y1_toolSet]))] := hD
                refine lv_if_eq (tgt := 47) hx hb dX5_overlaps_40 (by decide) (fun c3538 => ?_) (fun c3538 => ?_)
                · skip
                  have c3538i : r3536.toInt = (0 : Int) := (zc_eq (rfl : r3536.toInt = _) (show (0 : Int32).toInt = (0 : Int) from by decide)).mp c3538
                  exact J3534 H locs ls  hP hD hS (lv_sub hl [0, 1, 2, 3, 4, 5] rfl)
                · skip
                  have c3538i : ¬ (r3536.toInt = (0 : Int)) := fun q => c3538 ((zc_eq (rfl : r3536.toInt = _) (show (0 : Int32).toInt = (0 : Int) from by decide)).mpr q)
                  refine lv_iconst (v := 1) hx hb dX5_overlaps_43 (by decide) ?_
                  refine lv_goto (tgt := 48) hx hb dX5_overlaps_44 (by decide) ?_
                  exact J3491 (1 : Int32) H locs ls ((show 0 ≤ (1 : Int) ∧ (1 : Int) ≤ 1 from by decide)) hP hD hS (lv_sub hl [0, 1, 2, 3, 4, 5] rfl)
        exact L3475 _ v3052 z3298 H locs ls (ox_205 c3296i f3300 i3294) (Nat.lt_succ_self _) hP hD hS (lv_sub hl [1, 2, 3, 4, 5, 0] rfl)
  exact L3291 _ (0 : Int32) (0 : Int32) _ _ ls ((show 0 ≤ (0 : Int) ∧ (0 : Int) ≤ 17 from by decide)) (Nat.lt_succ_self _) hP hD hS (lv_sub hl [2, 3, 4, 1, 0] rfl)
theorem dX5_standPunch_0 : decode cX5_standPunch 0 = .ok (.aload_n 1, 1) := by decide +kernel
theorem dX5_standPunch_1 : decode cX5_standPunch 1 = .ok (.getfield 62, 3) := by decide +kernel
theorem dX5_standPunch_4 : decode cX5_standPunch 4 = .ok (.iload_n 2, 1) := by decide +kernel
theorem dX5_standPunch_5 : decode cX5_standPunch 5 = .ok (.iaload, 1) := by decide +kernel
theorem dX5_standPunch_6 : decode cX5_standPunch 6 = .ok (.istore 5, 2) := by decide +kernel
theorem dX5_standPunch_8 : decode cX5_standPunch 8 = .ok (.aload_n 1, 1) := by decide +kernel
theorem dX5_standPunch_9 : decode cX5_standPunch 9 = .ok (.getfield 65, 3) := by decide +kernel
theorem dX5_standPunch_12 : decode cX5_standPunch 12 = .ok (.iload_n 2, 1) := by decide +kernel
theorem dX5_standPunch_13 : decode cX5_standPunch 13 = .ok (.iaload, 1) := by decide +kernel
theorem dX5_standPunch_14 : decode cX5_standPunch 14 = .ok (.istore 6, 2) := by decide +kernel
theorem dX5_standPunch_16 : decode cX5_standPunch 16 = .ok (.iload_n 3, 1) := by decide +kernel
theorem dX5_standPunch_40 : decode cX5_standPunch 40 = .ok (.istore 7, 2) := by decide +kernel
theorem dX5_standPunch_42 : decode cX5_standPunch 42 = .ok (.aload_n 0, 1) := by decide +kernel
theorem dX5_standPunch_43 : decode cX5_standPunch 43 = .ok (.aload_n 1, 1) := by decide +kernel
theorem dX5_standPunch_44 : decode cX5_standPunch 44 = .ok (.iload_n 2, 1) := by decide +kernel
theorem dX5_standPunch_45 : decode cX5_standPunch 45 = .ok (.invokevirtual 46, 3) := by decide +kernel
theorem dX5_standPunch_48 : decode cX5_standPunch 48 = .ok (.aload_n 0, 1) := by decide +kernel
theorem dX5_standPunch_49 : decode cX5_standPunch 49 = .ok (.bipush 17, 2) := by decide +kernel
theorem dX5_standPunch_51 : decode cX5_standPunch 51 = .ok (.aload_n 0, 1) := by decide +kernel
theorem dX5_standPunch_52 : decode cX5_standPunch 52 = .ok (.iload 5, 2) := by decide +kernel
theorem dX5_standPunch_54 : decode cX5_standPunch 54 = .ok (.iload 6, 2) := by decide +kernel
theorem dX5_standPunch_56 : decode cX5_standPunch 56 = .ok (.invokevirtual 68, 3) := by decide +kernel
theorem dX5_standPunch_59 : decode cX5_standPunch 59 = .ok (.aload_n 1, 1) := by decide +kernel
theorem dX5_standPunch_60 : decode cX5_standPunch 60 = .ok (.getfield 72, 3) := by decide +kernel
theorem dX5_standPunch_63 : decode cX5_standPunch 63 = .ok (.iload_n 2, 1) := by decide +kernel
theorem dX5_standPunch_64 : decode cX5_standPunch 64 = .ok (.iaload, 1) := by decide +kernel
theorem dX5_standPunch_65 : decode cX5_standPunch 65 = .ok (.iload 7, 2) := by decide +kernel
theorem dX5_standPunch_67 : decode cX5_standPunch 67 = .ok (.iload 4, 2) := by decide +kernel
theorem dX5_standPunch_69 : decode cX5_standPunch 69 = .ok (.invokevirtual 82, 3) := by decide +kernel
theorem dX5_standPunch_72 : decode cX5_standPunch 72 = .ok (.aload_n 0, 1) := by decide +kernel
theorem dX5_standPunch_73 : decode cX5_standPunch 73 = .ok (.getfield 18, 3) := by decide +kernel
theorem dX5_standPunch_76 : decode cX5_standPunch 76 = .ok (.bipush 17, 2) := by decide +kernel
theorem dX5_standPunch_78 : decode cX5_standPunch 78 = .ok (.aload_n 0, 1) := by decide +kernel
theorem dX5_standPunch_79 : decode cX5_standPunch 79 = .ok (.iload 5, 2) := by decide +kernel
theorem dX5_standPunch_81 : decode cX5_standPunch 81 = .ok (.iload 6, 2) := by decide +kernel
theorem dX5_standPunch_83 : decode cX5_standPunch 83 = .ok (.invokevirtual 75, 3) := by decide +kernel
theorem dX5_standPunch_86 : decode cX5_standPunch 86 = .ok (.iastore, 1) := by decide +kernel
theorem dX5_standPunch_87 : decode cX5_standPunch 87 = .ok (.iload 7, 2) := by decide +kernel
theorem dX5_standPunch_89 : decode cX5_standPunch 89 = .ok (.ireturn, 1) := by decide +kernel
theorem dX5_standPunch_17 : decode cX5_standPunch 17 = .ok (.ifCond .eq 13, 3) := by decide +kernel
theorem dX5_standPunch_30 : decode cX5_standPunch 30 = .ok (.aload_n 0, 1) := by decide +kernel
theorem dX5_standPunch_31 : decode cX5_standPunch 31 = .ok (.getfield 18, 3) := by decide +kernel
theorem dX5_standPunch_34 : decode cX5_standPunch 34 = .ok (.iload 5, 2) := by decide +kernel
theorem dX5_standPunch_36 : decode cX5_standPunch 36 = .ok (.iaload, 1) := by decide +kernel
theorem dX5_standPunch_37 : decode cX5_standPunch 37 = .ok (.invokestatic 95, 3) := by decide +kernel
theorem dX5_standPunch_20 : decode cX5_standPunch 20 = .ok (.aload_n 0, 1) := by decide +kernel
theorem dX5_standPunch_21 : decode cX5_standPunch 21 = .ok (.getfield 18, 3) := by decide +kernel
theorem dX5_standPunch_24 : decode cX5_standPunch 24 = .ok (.iload 5, 2) := by decide +kernel
theorem dX5_standPunch_26 : decode cX5_standPunch 26 = .ok (.iaload, 1) := by decide +kernel
theorem dX5_standPunch_27 : decode cX5_standPunch 27 = .ok (.goto 13, 3) := by decide +kernel
abbrev rm_kX5_standPunch : Room := { frames := 3, cells := 0, slots := 0, locals := 66 }
set_option maxHeartbeats 4000000 in
set_option maxRecDepth 100000 in
theorem kX5_standPunch (l : Launch) (g : zL) (h0 : Nat) (y1 : Nat) (x2 : Int32) (x3 : Int32) (x4 : Int32) (y1_count : Int32) (y1_statements : Int32) (y1_thick : Int32) (y1_punch : Int32) (y1_ups : Int32) (y1_toolCount : Int32) (y1_toolWidth : Nat) (y1_told : Nat) (y1_name : Nat) (y1_parent : Nat) (y1_side : Nat) (y1_from : Nat) (y1_width : Nat) (y1_height : Nat) (y1_radius : Nat) (y1_toolSet : Nat) (f_y1_parent : Nat → Int32) (f_y1_side : Nat → Int32) (h0_low : Nat) (h0_high : Nat) (h0_normal : Nat) (h0_corner : Nat) (h0_east : Nat) (h0_north : Nat) (h0_start : Nat) (h0_far : Nat) (f_h0_normal : Nat → Int32) (f_h0_corner : Nat → Int32) (f_h0_start : Nat → Int32) (f_h0_north : Nat → Int32) (f_h0_east : Nat → Int32) (f_y1_from : Nat → Int32) (f_y1_height : Nat → Int32) (f_y1_width : Nat → Int32) (f_h0_far : Nat → Int32) (f_h0_low : Nat → Int32) (f_h0_high : Nat → Int32) (hy0 : 1 ≤ x2.toInt ∧ x2.toInt ≤ 8) (hy1 : 0 ≤ x3.toInt ∧ x3.toInt ≤ 1) (hy2 : 0 ≤ y1_count.toInt ∧ y1_count.toInt ≤ 9) (hy3 : 0 ≤ y1_toolCount.toInt ∧ y1_toolCount.toInt ≤ 8) (hy4 : aI 0 8 f_y1_parent) (hy5 : aI 0 3 f_y1_side) (hy6 : aI 0 5 f_h0_normal) (hy7 : aI 0 5 f_h0_north) (hy8 : aI 0 5 f_h0_east) : zCi l g yX5_standPunch cX5_standPunch 8 (some .int) rm_kX5_standPunch [.ref h0, .ref y1, .int x2, .int x3, .int x4] [(y1, .inr (4, [.int y1_count, .int y1_statements, .int y1_thick, .int y1_punch, .int y1_ups, .int y1_toolCount, .ref y1_toolWidth, .ref y1_told, .ref y1_name, .ref y1_parent, .ref y1_side, .ref y1_from, .ref y1_width, .ref y1_height, .ref y1_radius, .ref y1_toolSet])), (y1_parent, .inl (g.2.1.1, 9, .inl f_y1_parent)), (y1_side, .inl (g.2.1.1, 9, .inl f_y1_side)), (h0, .inr (5, [.ref h0_low, .ref h0_high, .ref h0_normal, .ref h0_corner, .ref h0_east, .ref h0_north, .ref h0_start, .ref h0_far])), (h0_normal, .inl (g.2.1.1, 18, .inl f_h0_normal)), (h0_corner, .inl (g.2.1.1, 27, .inl f_h0_corner)), (h0_start, .inl (g.2.1.1, 3, .inl f_h0_start)), (h0_north, .inl (g.2.1.1, 9, .inl f_h0_north)), (h0_east, .inl (g.2.1.1, 9, .inl f_h0_east)), (y1_from, .inl (g.2.1.1, 9, .inl f_y1_from)), (y1_height, .inl (g.2.1.1, 9, .inl f_y1_height)), (y1_width, .inl (g.2.1.1, 9, .inl f_y1_width)), (h0_far, .inl (g.2.1.1, 3, .inl f_h0_far)), (h0_low, .inl (g.2.1.1, 54, .inl f_h0_low)), (h0_high, .inl (g.2.1.1, 54, .inl f_h0_high))] (fun (r : Int32) (u : (Nat → Int32) × (Nat → Int32) × (Nat → Int32) × (Nat → Int32) × (Nat → Int32)) => (aI 0 5 u.1) ∧ (0 ≤ r.toInt ∧ r.toInt ≤ 5)) (fun (u : (Nat → Int32) × (Nat → Int32) × (Nat → Int32) × (Nat → Int32) × (Nat → Int32)) => [(y1, .inr (4, [.int y1_count, .int y1_statements, .int y1_thick, .int y1_punch, .int y1_ups, .int y1_toolCount, .ref y1_toolWidth, .ref y1_told, .ref y1_name, .ref y1_parent, .ref y1_side, .ref y1_from, .ref y1_width, .ref y1_height, .ref y1_radius, .ref y1_toolSet])), (y1_parent, .inl (g.2.1.1, 9, .inl f_y1_parent)), (y1_side, .inl (g.2.1.1, 9, .inl f_y1_side)), (h0, .inr (5, [.ref h0_low, .ref h0_high, .ref h0_normal, .ref h0_corner, .ref h0_east, .ref h0_north, .ref h0_start, .ref h0_far])), (h0_normal, .inl (g.2.1.1, 18, .inl u.1)), (h0_corner, .inl (g.2.1.1, 27, .inl f_h0_corner)), (h0_start, .inl (g.2.1.1, 3, .inl u.2.1)), (h0_north, .inl (g.2.1.1, 9, .inl f_h0_north)), (h0_east, .inl (g.2.1.1, 9, .inl f_h0_east)), (y1_from, .inl (g.2.1.1, 9, .inl f_y1_from)), (y1_height, .inl (g.2.1.1, 9, .inl f_y1_height)), (y1_width, .inl (g.2.1.1, 9, .inl f_y1_width)), (h0_far, .inl (g.2.1.1, 3, .inl u.2.2.1)), (h0_low, .inl (g.2.1.1, 54, .inl u.2.2.2.1)), (h0_high, .inl (g.2.1.1, 54, .inl u.2.2.2.2))]) := by
  refine zCi.mk2 (by decide) (Nat.le_of_ble_eq_true rfl) ?_
  intro p e s m below meth c A args Q hE hret hP hD hS ls hl
  obtain ⟨hx, hb, hr, hml, hown, hG, hlocks, hnm, hX, hA⟩ := hE
  have hown : s.vm.findClass RX5 = some m.cls := hown
  have hl : lv_has ls 8 [(0, .ref h0), (1, .ref y1), (2, .int x2), (3, .int x3), (4, .int x4)] := hl
  refine lv_aload_n hx hb dX5_standPunch_0 rfl (lv_at hl 1 rfl) ?_
  refine va_getN (D := g.1) (ci := 4) (v := .ref y1_parent) (C := RX4) (T := TX4) (N := 16) hx hb hG iX4 hown hX.1 hP 0 rfl rfl 9 (by decide) (hX.2.1.fl wfn_X5_62) (fun _ h9 => h9) rfl dX5_standPunch_1 ?_
  refine lv_iload_n hx hb dX5_standPunch_4 rfl (lv_at hl 2 rfl) ?_
  refine va_iald hx hb hX.1 hP 1 0 rfl rfl (zin (rfl : x2.toInt = _) (ox_206 hy0)) dX5_standPunch_5 ?_
  refine lv_topi (fun z1 e2 => ?_)
  have i3 : 0 ≤ z1.toInt ∧ z1.toInt ≤ 8 := hy4.at e2
  refine lv_istore (lv' := [(5, .int z1), (0, .ref h0), (1, .ref y1), (2, .int x2), (3, .int x3), (4, .int x4)]) hx hb dX5_standPunch_6 hl (by decide) rfl (fun ls hl => ?_)
  refine lv_aload_n hx hb dX5_standPunch_8 rfl (lv_at hl 2 rfl) ?_
  refine va_getN (D := g.1) (ci := 4) (v := .ref y1_side) (C := RX4) (T := TX4) (N := 16) hx hb hG iX4 hown hX.1 hP 0 rfl rfl 10 (by decide) (hX.2.1.fl wfn_X5_65) (fun _ h9 => h9) rfl dX5_standPunch_9 ?_
  refine lv_iload_n hx hb dX5_standPunch_12 rfl (lv_at hl 3 rfl) ?_
  refine va_iald hx hb hX.1 hP 2 0 rfl rfl (zin (rfl : x2.toInt = _) (ox_206 hy0)) dX5_standPunch_13 ?_
  refine lv_topi (fun z4 e5 => ?_)
  have i6 : 0 ≤ z4.toInt ∧ z4.toInt ≤ 3 := hy5.at e5
  refine lv_istore (lv' := [(6, .int z4), (5, .int z1), (0, .ref h0), (1, .ref y1), (2, .int x2), (3, .int x3), (4, .int x4)]) hx hb dX5_standPunch_14 hl (by decide) rfl (fun ls hl => ?_)
  refine lv_iload_n hx hb dX5_standPunch_16 rfl (lv_at hl 5 rfl) ?_
  have J17 : ∀  (v16 : Int32) (H : Heap) (locs : List Loc) (ls : Array Slot), 0 ≤ v16.toInt ∧ v16.toInt ≤ 5 → va_P g.1 vwCl [(y1, .inr (4, [.int y1_count, .int y1_statements, .int y1_thick, .int y1_punch, .int y1_ups, .int y1_toolCount, .ref y1_toolWidth, .ref y1_told, .ref y1_name, .ref y1_parent, .ref y1_side, .ref y1_from, .ref y1_width, .ref y1_height, .ref y1_radius, .ref y1_toolSet])), (y1_parent, .inl (g.2.1.1, 9, .inl f_y1_parent)), (y1_side, .inl (g.2.1.1, 9, .inl f_y1_side)), (h0, .inr (5, [.ref h0_low, .ref h0_high, .ref h0_normal, .ref h0_corner, .ref h0_east, .ref h0_north, .ref h0_start, .ref h0_far])), (h0_normal, .inl (g.2.1.1, 18, .inl f_h0_normal)), (h0_corner, .inl (g.2.1.1, 27, .inl f_h0_corner)), (h0_start, .inl (g.2.1.1, 3, .inl f_h0_start)), (h0_north, .inl (g.2.1.1, 9, .inl f_h0_north)), (h0_east, .inl (g.2.1.1, 9, .inl f_h0_east)), (y1_from, .inl (g.2.1.1, 9, .inl f_y1_from)), (y1_height, .inl (g.2.1.1, 9, .inl f_y1_height)), (y1_width, .inl (g.2.1.1, 9, .inl f_y1_width)), (h0_far, .inl (g.2.1.1, 3, .inl f_h0_far)), (h0_low, .inl (g.2.1.1, 54, .inl f_h0_low)), (h0_high, .inl (g.2.1.1, 54, .inl f_h0_high))] H → va_D A [(y1, .inr (4, [.int y1_count, .int y1_statements, .int y1_thick, .int y1_punch, .int y1_ups, .int y1_toolCount, .ref y1_toolWidth, .ref y1_told, .ref y1_name, .ref y1_parent, .ref y1_side, .ref y1_from, .ref y1_width, .ref y1_height, .ref y1_radius, .ref y1_toolSet])), (y1_parent, .inl (g.2.1.1, 9, .inl f_y1_parent)), (y1_side, .inl (g.2.1.1, 9, .inl f_y1_side)), (h0, .inr (5, [.ref h0_low, .ref h0_high, .ref h0_normal, .ref h0_corner, .ref h0_east, .ref h0_north, .ref h0_start, .ref h0_far])), (h0_normal, .inl (g.2.1.1, 18, .inl f_h0_normal)), (h0_corner, .inl (g.2.1.1, 27, .inl f_h0_corner)), (h0_start, .inl (g.2.1.1, 3, .inl f_h0_start)), (h0_north, .inl (g.2.1.1, 9, .inl f_h0_north)), (h0_east, .inl (g.2.1.1, 9, .inl f_h0_east)), (y1_from, .inl (g.2.1.1, 9, .inl f_y1_from)), (y1_height, .inl (g.2.1.1, 9, .inl f_y1_height)), (y1_width, .inl (g.2.1.1, 9, .inl f_y1_width)), (h0_far, .inl (g.2.1.1, 3, .inl f_h0_far)), (h0_low, .inl (g.2.1.1, 54, .inl f_h0_low)), (h0_high, .inl (g.2.1.1, 54, .inl f_h0_high))] → va_S A s.heap H locs → lv_has ls 8 [(0, .ref h0), (1, .ref y1), (2, .int x2), (3, .int x3), (4, .int x4), (5, .int z1), (6, .int z4)] → W p l e rm_kX5_standPunch s m args below meth c H locs 0 0 Q (F0 m 40 ls [.int v16]) := by
    intro v16 H locs ls i18 hP hD hS hl
    refine lv_istore (lv' := [(7, .int v16), (0, .ref h0), (1, .ref y1), (2, .int x2), (3, .int x3), (4, .int x4), (5, .int z1), (6, .int z4)]) hx hb dX5_standPunch_40 hl (by decide) rfl (fun ls hl => ?_)
    refine lv_aload_n hx hb dX5_standPunch_42 rfl (lv_at hl 1 rfl) ?_
    refine lv_aload_n hx hb dX5_standPunch_43 rfl (lv_at hl 2 rfl) ?_
    refine lv_iload_n hx hb dX5_standPunch_44 rfl (lv_at hl 3 rfl) ?_
    refine zfv (wr := [(h0_normal, .inl (g.2.1.1, 18, .inl f_h0_normal)), (h0_far, .inl (g.2.1.1, 3, .inl f_h0_far)), (h0_low, .inl (g.2.1.1, 54, .inl f_h0_low)), (h0_high, .inl (g.2.1.1, 54, .inl f_h0_high))]) (va_runV (As := [.ref y1, .int x2]) (rest := []) ⟨hx, hb, hml, hown, hG⟩ (kX5_goToSide l g h0 y1 x2 y1_count y1_statements y1_thick y1_punch y1_ups y1_toolCount y1_toolWidth y1_told y1_name y1_parent y1_side y1_from y1_width y1_height y1_radius y1_toolSet f_y1_parent f_y1_side h0_low h0_high h0_normal h0_corner h0_east h0_north h0_start h0_far f_h0_corner f_h0_start f_h0_north f_h0_east f_y1_from f_y1_height f_y1_width (ox_207 hy0) (ox_0 hy2) (ox_1 hy3) hy4 hy5 hy7 hy8 _) ⟨callB_of 2 hG (zGood wc_X5_goToSide) rfl rfl rfl (hG _ wini_X5) (hG _ wm_X5_46) hX5_goToSide ⟨Nat.le_of_ble_eq_true rfl, Nat.le_of_ble_eq_true rfl⟩, hG _ wi_X5_goToSide, hG _ wse_X5_X5_goToSide⟩ (zpreV (va_recv hX.1 hP (ci := 5) (q0 := 3) rfl rfl) hX hP hD hS hA [0, 1, 2, 3, 5, 6, 7, 8, 9, 10, 11] rfl (by decide)) rfl rfl hl.1 rfl (lv_room (Nat.le_of_ble_eq_true rfl)) dX5_standPunch_45 ⟨Nat.le_of_ble_eq_true rfl, Nat.le_of_ble_eq_true rfl⟩) hP hD hS hA [0, 1, 2, 3, 5, 6, 7, 8, 9, 10, 11] [4, 12, 13, 14] rfl rfl (by decide) (by decide) (fun u20 H locs hp hP hD hS => ?_)
    refine W.cs (cells' := 0) (slots' := 0) rfl rfl ?_
    obtain ⟨f21, rfl⟩ : ∃ z9, z9 = u20 := ⟨_, rfl⟩
    have hP : va_P g.1 vwCl [(h0_normal, .inl (g.2.1.1, 18, .inl f_h0_normal)), (h0_far, .inl (g.2.1.1, 3, .inl f_h0_far)), (h0_low, .inl (g.2.1.1, 54, .inl f_h0_low)), (h0_high, .inl (g.2.1.1, 54, .inl f_h0_high)), (y1, .inr (4, [.int y1_count, .int y1_statements, .int y1_thick, .int y1_punch, .int y1_ups, .int y1_toolCount, .ref y1_toolWidth, .ref y1_told, .ref y1_name, .ref y1_parent, .ref y1_side, .ref y1_from, .ref y1_width, .ref y1_height, .ref y1_radius, .ref y1_toolSet])), (y1_parent, .inl (g.2.1.1, 9, .inl f_y1_parent)), (y1_side, .inl (g.2.1.1, 9, .inl f_y1_side)), (h0, .inr (5, [.ref h0_low, .ref h0_high, .ref h0_normal, .ref h0_corner, .ref h0_east, .ref h0_north, .ref h0_start, .ref h0_far])), (h0_corner, .inl (g.2.1.1, 27, .inl f_h0_corner)), (h0_start, .inl (g.2.1.1, 3, .inl f21)), (h0_north, .inl (g.2.1.1, 9, .inl f_h0_north)), (h0_east, .inl (g.2.1.1, 9, .inl f_h0_east)), (y1_from, .inl (g.2.1.1, 9, .inl f_y1_from)), (y1_height, .inl (g.2.1.1, 9, .inl f_y1_height)), (y1_width, .inl (g.2.1.1, 9, .inl f_y1_width))] H := hP
    have hD : va_D A [(h0_normal, .inl (g.2.1.1, 18, .inl f_h0_normal)), (h0_far, .inl (g.2.1.1, 3, .inl f_h0_far)), (h0_low, .inl (g.2.1.1, 54, .inl f_h0_low)), (h0_high, .inl (g.2.1.1, 54, .inl f_h0_high)), (y1, .inr (4, [.int y1_count, .int y1_statements, .int y1_thick, .int y1_punch, .int y1_ups, .int y1_toolCount, .ref y1_toolWidth, .ref y1_told, .ref y1_name, .ref y1_parent, .ref y1_side, .ref y1_from, .ref y1_width, .ref y1_height, .ref y1_radius, .ref y1_toolSet])), (y1_parent, .inl (g.2.1.1, 9, .inl f_y1_parent)), (y1_side, .inl (g.2.1.1, 9, .inl f_y1_side)), (h0, .inr (5, [.ref h0_low, .ref h0_high, .ref h0_normal, .ref h0_corner, .ref h0_east, .ref h0_north, .ref h0_start, .ref h0_far])), (h0_corner, .inl (g.2.1.1, 27, .inl f_h0_corner)), (h0_start, .inl (g.2.1.1, 3, .inl f21)), (h0_north, .inl (g.2.1.1, 9, .inl f_h0_north)), (h0_east, .inl (g.2.1.1, 9, .inl f_h0_east)), (y1_from, .inl (g.2.1.1, 9, .inl f_y1_from)), (y1_height, .inl (g.2.1.1, 9, .inl f_y1_height)), (y1_width, .inl (g.2.1.1, 9, .inl f_y1_width))] := hD
    refine lv_aload_n hx hb dX5_standPunch_48 rfl (lv_at hl 1 rfl) ?_
    refine lv_bipush (v := 17) hx hb dX5_standPunch_49 (by decide) ?_
    refine lv_aload_n hx hb dX5_standPunch_51 rfl (lv_at hl 1 rfl) ?_
    refine lv_iload hx hb dX5_standPunch_52 (lv_at hl 6 rfl) ?_
    refine lv_iload hx hb dX5_standPunch_54 (lv_at hl 7 rfl) ?_
    refine zfi (wr := [(h0_normal, .inl (g.2.1.1, 18, .inl f_h0_normal)), (h0_far, .inl (g.2.1.1, 3, .inl f_h0_far)), (h0_low, .inl (g.2.1.1, 54, .inl f_h0_low)), (h0_high, .inl (g.2.1.1, 54, .inl f_h0_high)), (y1, .inr (4, [.int y1_count, .int y1_statements, .int y1_thick, .int y1_punch, .int y1_ups, .int y1_toolCount, .ref y1_toolWidth, .ref y1_told, .ref y1_name, .ref y1_parent, .ref y1_side, .ref y1_from, .ref y1_width, .ref y1_height, .ref y1_radius, .ref y1_toolSet])), (y1_parent, .inl (g.2.1.1, 9, .inl f_y1_parent)), (y1_side, .inl (g.2.1.1, 9, .inl f_y1_side)), (h0_corner, .inl (g.2.1.1, 27, .inl f_h0_corner)), (h0_start, .inl (g.2.1.1, 3, .inl f21)), (y1_from, .inl (g.2.1.1, 9, .inl f_y1_from)), (y1_height, .inl (g.2.1.1, 9, .inl f_y1_height)), (y1_width, .inl (g.2.1.1, 9, .inl f_y1_width))]) (va_runV (As := [.int z1, .int z4]) (rest := [.int 17, .ref h0]) ⟨hx, hb, hml, hown, hG⟩ (kX5_alongSide l g h0 z1 z4 h0_low h0_high h0_normal h0_corner h0_east h0_north h0_start h0_far f_h0_north f_h0_east (ox_1 i3) hy7 hy8 _) ⟨callB_of 2 hG (zGood wc_X5_alongSide) rfl rfl rfl (hG _ wini_X5) (hG _ wm_X5_68) hX5_alongSide ⟨Nat.le_of_ble_eq_true rfl, Nat.le_of_ble_eq_true rfl⟩, hG _ wi_X5_alongSide, hG _ wse_X5_X5_alongSide⟩ (zpreV (va_recv hX.1 hP (ci := 5) (q0 := 7) rfl rfl) hX hP hD hS hA [7, 10, 11] rfl (by decide)) rfl rfl hl.1 rfl (lv_room (Nat.le_of_ble_eq_true rfl)) dX5_standPunch_56 ⟨Nat.le_of_ble_eq_true rfl, Nat.le_of_ble_eq_true rfl⟩) hP hD hS hA [7, 10, 11] [0, 1, 2, 3, 4, 5, 6, 8, 9, 12, 13, 14] rfl rfl (by decide) (by decide) (fun r22 _ H locs hp hP hD hS => ?_)
    refine W.cs (cells' := 0) (slots' := 0) rfl rfl ?_
    have hq23 : 0 ≤ r22.toInt ∧ r22.toInt ≤ 5 := hp
    have hP : va_P g.1 vwCl [(h0_normal, .inl (g.2.1.1, 18, .inl f_h0_normal)), (h0_far, .inl (g.2.1.1, 3, .inl f_h0_far)), (h0_low, .inl (g.2.1.1, 54, .inl f_h0_low)), (h0_high, .inl (g.2.1.1, 54, .inl f_h0_high)), (y1, .inr (4, [.int y1_count, .int y1_statements, .int y1_thick, .int y1_punch, .int y1_ups, .int y1_toolCount, .ref y1_toolWidth, .ref y1_told, .ref y1_name, .ref y1_parent, .ref y1_side, .ref y1_from, .ref y1_width, .ref y1_height, .ref y1_radius, .ref y1_toolSet])), (y1_parent, .inl (g.2.1.1, 9, .inl f_y1_parent)), (y1_side, .inl (g.2.1.1, 9, .inl f_y1_side)), (h0_corner, .inl (g.2.1.1, 27, .inl f_h0_corner)), (h0_start, .inl (g.2.1.1, 3, .inl f21)), (y1_from, .inl (g.2.1.1, 9, .inl f_y1_from)), (y1_height, .inl (g.2.1.1, 9, .inl f_y1_height)), (y1_width, .inl (g.2.1.1, 9, .inl f_y1_width)), (h0, .inr (5, [.ref h0_low, .ref h0_high, .ref h0_normal, .ref h0_corner, .ref h0_east, .ref h0_north, .ref h0_start, .ref h0_far])), (h0_north, .inl (g.2.1.1, 9, .inl f_h0_north)), (h0_east, .inl (g.2.1.1, 9, .inl f_h0_east))] H := hP
    have hD : va_D A [(h0_normal, .inl (g.2.1.1, 18, .inl f_h0_normal)), (h0_far, .inl (g.2.1.1, 3, .inl f_h0_far)), (h0_low, .inl (g.2.1.1, 54, .inl f_h0_low)), (h0_high, .inl (g.2.1.1, 54, .inl f_h0_high)), (y1, .inr (4, [.int y1_count, .int y1_statements, .int y1_thick, .int y1_punch, .int y1_ups, .int y1_toolCount, .ref y1_toolWidth, .ref y1_told, .ref y1_name, .ref y1_parent, .ref y1_side, .ref y1_from, .ref y1_width, .ref y1_height, .ref y1_radius, .ref y1_toolSet])), (y1_parent, .inl (g.2.1.1, 9, .inl f_y1_parent)), (y1_side, .inl (g.2.1.1, 9, .inl f_y1_side)), (h0_corner, .inl (g.2.1.1, 27, .inl f_h0_corner)), (h0_start, .inl (g.2.1.1, 3, .inl f21)), (y1_from, .inl (g.2.1.1, 9, .inl f_y1_from)), (y1_height, .inl (g.2.1.1, 9, .inl f_y1_height)), (y1_width, .inl (g.2.1.1, 9, .inl f_y1_width)), (h0, .inr (5, [.ref h0_low, .ref h0_high, .ref h0_normal, .ref h0_corner, .ref h0_east, .ref h0_north, .ref h0_start, .ref h0_far])), (h0_north, .inl (g.2.1.1, 9, .inl f_h0_north)), (h0_east, .inl (g.2.1.1, 9, .inl f_h0_east))] := hD
    refine lv_aload_n hx hb dX5_standPunch_59 rfl (lv_at hl 2 rfl) ?_
    refine va_getN (D := g.1) (ci := 4) (v := .ref y1_width) (C := RX4) (T := TX4) (N := 16) hx hb hG iX4 hown hX.1 hP 4 rfl rfl 12 (by decide) (hX.2.1.fl wfn_X5_72) (fun _ h9 => h9) rfl dX5_standPunch_60 ?_
    refine lv_iload_n hx hb dX5_standPunch_63 rfl (lv_at hl 3 rfl) ?_
    refine va_iald hx hb hX.1 hP 11 0 rfl rfl (zin (rfl : x2.toInt = _) (ox_206 hy0)) dX5_standPunch_64 ?_
    refine lv_topi (fun z24 e25 => ?_)
    refine lv_iload hx hb dX5_standPunch_65 (lv_at hl 0 rfl) ?_
    refine lv_iload hx hb dX5_standPunch_67 (lv_at hl 5 rfl) ?_
    refine zfv (wr := [(h0_normal, .inl (g.2.1.1, 18, .inl f_h0_normal)), (y1, .inr (4, [.int y1_count, .int y1_statements, .int y1_thick, .int y1_punch, .int y1_ups, .int y1_toolCount, .ref y1_toolWidth, .ref y1_told, .ref y1_name, .ref y1_parent, .ref y1_side, .ref y1_from, .ref y1_width, .ref y1_height, .ref y1_radius, .ref y1_toolSet])), (y1_parent, .inl (g.2.1.1, 9, .inl f_y1_parent)), (y1_side, .inl (g.2.1.1, 9, .inl f_y1_side)), (h0_corner, .inl (g.2.1.1, 27, .inl f_h0_corner)), (y1_from, .inl (g.2.1.1, 9, .inl f_y1_from)), (y1_height, .inl (g.2.1.1, 9, .inl f_y1_height)), (y1_width, .inl (g.2.1.1, 9, .inl f_y1_width)), (h0_north, .inl (g.2.1.1, 9, .inl f_h0_north)), (h0_east, .inl (g.2.1.1, 9, .inl f_h0_east))]) (va_runV (As := [.int 17, .int r22, .int z24, .int v16, .int x4]) (rest := []) ⟨hx, hb, hml, hown, hG⟩ (kX5_setBox l g h0 (17 : Int32) r22 z24 v16 x4 h0_low h0_high h0_normal h0_corner h0_east h0_north h0_start h0_far f21 f_h0_far f_h0_low f_h0_high ((show 0 ≤ (17 : Int) ∧ (17 : Int) ≤ 17 from by decide)) (ox_48 hq23) (ox_48 i18) _) ⟨callB_of 5 hG (zGood wc_X5_setBox) rfl rfl rfl (hG _ wini_X5) (hG _ wm_X5_82) hX5_setBox ⟨Nat.le_of_ble_eq_true rfl, Nat.le_of_ble_eq_true rfl⟩, hG _ wi_X5_setBox, hG _ wse_X5_X5_setBox⟩ (zpreV (va_recv hX.1 hP (ci := 5) (q0 := 12) rfl rfl) hX hP hD hS hA [12, 8, 1, 2, 3] rfl (by decide)) rfl rfl hl.1 rfl (lv_room (Nat.le_of_ble_eq_true rfl)) dX5_standPunch_69 ⟨Nat.le_of_ble_eq_true rfl, Nat.le_of_ble_eq_true rfl⟩) hP hD hS hA [12, 8, 1, 2, 3] [0, 4, 5, 6, 7, 9, 10, 11, 13, 14] rfl rfl (by decide) (by decide) (fun u27 H locs hp hP hD hS => ?_)
    refine W.cs (cells' := 0) (slots' := 0) rfl rfl ?_
    obtain ⟨f28, f29, f30⟩ := u27
    have hP : va_P g.1 vwCl [(h0_normal, .inl (g.2.1.1, 18, .inl f_h0_normal)), (y1, .inr (4, [.int y1_count, .int y1_statements, .int y1_thick, .int y1_punch, .int y1_ups, .int y1_toolCount, .ref y1_toolWidth, .ref y1_told, .ref y1_name, .ref y1_parent, .ref y1_side, .ref y1_from, .ref y1_width, .ref y1_height, .ref y1_radius, .ref y1_toolSet])), (y1_parent, .inl (g.2.1.1, 9, .inl f_y1_parent)), (y1_side, .inl (g.2.1.1, 9, .inl f_y1_side)), (h0_corner, .inl (g.2.1.1, 27, .inl f_h0_corner)), (y1_from, .inl (g.2.1.1, 9, .inl f_y1_from)), (y1_height, .inl (g.2.1.1, 9, .inl f_y1_height)), (y1_width, .inl (g.2.1.1, 9, .inl f_y1_width)), (h0_north, .inl (g.2.1.1, 9, .inl f_h0_north)), (h0_east, .inl (g.2.1.1, 9, .inl f_h0_east)), (h0, .inr (5, [.ref h0_low, .ref h0_high, .ref h0_normal, .ref h0_corner, .ref h0_east, .ref h0_north, .ref h0_start, .ref h0_far])), (h0_start, .inl (g.2.1.1, 3, .inl f21)), (h0_far, .inl (g.2.1.1, 3, .inl f28)), (h0_low, .inl (g.2.1.1, 54, .inl f29)), (h0_high, .inl (g.2.1.1, 54, .inl f30))] H := hP
    have hD : va_D A [(h0_normal, .inl (g.2.1.1, 18, .inl f_h0_normal)), (y1, .inr (4, [.int y1_count, .int y1_statements, .int y1_thick, .int y1_punch, .int y1_ups, .int y1_toolCount, .ref y1_toolWidth, .ref y1_told, .ref y1_name, .ref y1_parent, .ref y1_side, .ref y1_from, .ref y1_width, .ref y1_height, .ref y1_radius, .ref y1_toolSet])), (y1_parent, .inl (g.2.1.1, 9, .inl f_y1_parent)), (y1_side, .inl (g.2.1.1, 9, .inl f_y1_side)), (h0_corner, .inl (g.2.1.1, 27, .inl f_h0_corner)), (y1_from, .inl (g.2.1.1, 9, .inl f_y1_from)), (y1_height, .inl (g.2.1.1, 9, .inl f_y1_height)), (y1_width, .inl (g.2.1.1, 9, .inl f_y1_width)), (h0_north, .inl (g.2.1.1, 9, .inl f_h0_north)), (h0_east, .inl (g.2.1.1, 9, .inl f_h0_east)), (h0, .inr (5, [.ref h0_low, .ref h0_high, .ref h0_normal, .ref h0_corner, .ref h0_east, .ref h0_north, .ref h0_start, .ref h0_far])), (h0_start, .inl (g.2.1.1, 3, .inl f21)), (h0_far, .inl (g.2.1.1, 3, .inl f28)), (h0_low, .inl (g.2.1.1, 54, .inl f29)), (h0_high, .inl (g.2.1.1, 54, .inl f30))] := hD
    refine lv_aload_n hx hb dX5_standPunch_72 rfl (lv_at hl 1 rfl) ?_
    refine va_get (D := g.1) (ci := 5) (v := .ref h0_normal) (C := RX5) (T := TX5) (N := 8) hx hb hG iX5 hown hX.1 hP 10 rfl rfl 2 (by decide) (hG _ wf_X5_18) (fun _ h9 => h9) rfl dX5_standPunch_73 ?_
    refine lv_bipush (v := 17) hx hb dX5_standPunch_76 (by decide) ?_
    refine lv_aload_n hx hb dX5_standPunch_78 rfl (lv_at hl 1 rfl) ?_
    refine lv_iload hx hb dX5_standPunch_79 (lv_at hl 6 rfl) ?_
    refine lv_iload hx hb dX5_standPunch_81 (lv_at hl 7 rfl) ?_
    refine zfi (wr := [(h0_normal, .inl (g.2.1.1, 18, .inl f_h0_normal)), (y1, .inr (4, [.int y1_count, .int y1_statements, .int y1_thick, .int y1_punch, .int y1_ups, .int y1_toolCount, .ref y1_toolWidth, .ref y1_told, .ref y1_name, .ref y1_parent, .ref y1_side, .ref y1_from, .ref y1_width, .ref y1_height, .ref y1_radius, .ref y1_toolSet])), (y1_parent, .inl (g.2.1.1, 9, .inl f_y1_parent)), (y1_side, .inl (g.2.1.1, 9, .inl f_y1_side)), (h0_corner, .inl (g.2.1.1, 27, .inl f_h0_corner)), (y1_from, .inl (g.2.1.1, 9, .inl f_y1_from)), (y1_height, .inl (g.2.1.1, 9, .inl f_y1_height)), (y1_width, .inl (g.2.1.1, 9, .inl f_y1_width)), (h0_start, .inl (g.2.1.1, 3, .inl f21)), (h0_far, .inl (g.2.1.1, 3, .inl f28)), (h0_low, .inl (g.2.1.1, 54, .inl f29)), (h0_high, .inl (g.2.1.1, 54, .inl f30))]) (va_runV (As := [.int z1, .int z4]) (rest := [.int 17, .ref h0_normal]) ⟨hx, hb, hml, hown, hG⟩ (kX5_outward l g h0 z1 z4 h0_low h0_high h0_normal h0_corner h0_east h0_north h0_start h0_far f_h0_east f_h0_north (ox_1 i3) hy8 hy7 _) ⟨callB_of 2 hG (zGood wc_X5_outward) rfl rfl rfl (hG _ wini_X5) (hG _ wm_X5_75) hX5_outward ⟨Nat.le_of_ble_eq_true rfl, Nat.le_of_ble_eq_true rfl⟩, hG _ wi_X5_outward, hG _ wse_X5_X5_outward⟩ (zpreV (va_recv hX.1 hP (ci := 5) (q0 := 10) rfl rfl) hX hP hD hS hA [10, 9, 8] rfl (by decide)) rfl rfl hl.1 rfl (lv_room (Nat.le_of_ble_eq_true rfl)) dX5_standPunch_83 ⟨Nat.le_of_ble_eq_true rfl, Nat.le_of_ble_eq_true rfl⟩) hP hD hS hA [10, 9, 8] [0, 1, 2, 3, 4, 5, 6, 7, 11, 12, 13, 14] rfl rfl (by decide) (by decide) (fun r31 _ H locs hp hP hD hS => ?_)
    refine W.cs (cells' := 0) (slots' := 0) rfl rfl ?_
    have hq32 : 0 ≤ r31.toInt ∧ r31.toInt ≤ 5 := hp
    have hP : va_P g.1 vwCl [(h0_normal, .inl (g.2.1.1, 18, .inl f_h0_normal)), (y1, .inr (4, [.int y1_count, .int y1_statements, .int y1_thick, .int y1_punch, .int y1_ups, .int y1_toolCount, .ref y1_toolWidth, .ref y1_told, .ref y1_name, .ref y1_parent, .ref y1_side, .ref y1_from, .ref y1_width, .ref y1_height, .ref y1_radius, .ref y1_toolSet])), (y1_parent, .inl (g.2.1.1, 9, .inl f_y1_parent)), (y1_side, .inl (g.2.1.1, 9, .inl f_y1_side)), (h0_corner, .inl (g.2.1.1, 27, .inl f_h0_corner)), (y1_from, .inl (g.2.1.1, 9, .inl f_y1_from)), (y1_height, .inl (g.2.1.1, 9, .inl f_y1_height)), (y1_width, .inl (g.2.1.1, 9, .inl f_y1_width)), (h0_start, .inl (g.2.1.1, 3, .inl f21)), (h0_far, .inl (g.2.1.1, 3, .inl f28)), (h0_low, .inl (g.2.1.1, 54, .inl f29)), (h0_high, .inl (g.2.1.1, 54, .inl f30)), (h0, .inr (5, [.ref h0_low, .ref h0_high, .ref h0_normal, .ref h0_corner, .ref h0_east, .ref h0_north, .ref h0_start, .ref h0_far])), (h0_east, .inl (g.2.1.1, 9, .inl f_h0_east)), (h0_north, .inl (g.2.1.1, 9, .inl f_h0_north))] H := hP
    have hD : va_D A [(h0_normal, .inl (g.2.1.1, 18, .inl f_h0_normal)), (y1, .inr (4, [.int y1_count, .int y1_statements, .int y1_thick, .int y1_punch, .int y1_ups, .int y1_toolCount, .ref y1_toolWidth, .ref y1_told, .ref y1_name, .ref y1_parent, .ref y1_side, .ref y1_from, .ref y1_width, .ref y1_height, .ref y1_radius, .ref y1_toolSet])), (y1_parent, .inl (g.2.1.1, 9, .inl f_y1_parent)), (y1_side, .inl (g.2.1.1, 9, .inl f_y1_side)), (h0_corner, .inl (g.2.1.1, 27, .inl f_h0_corner)), (y1_from, .inl (g.2.1.1, 9, .inl f_y1_from)), (y1_height, .inl (g.2.1.1, 9, .inl f_y1_height)), (y1_width, .inl (g.2.1.1, 9, .inl f_y1_width)), (h0_start, .inl (g.2.1.1, 3, .inl f21)), (h0_far, .inl (g.2.1.1, 3, .inl f28)), (h0_low, .inl (g.2.1.1, 54, .inl f29)), (h0_high, .inl (g.2.1.1, 54, .inl f30)), (h0, .inr (5, [.ref h0_low, .ref h0_high, .ref h0_normal, .ref h0_corner, .ref h0_east, .ref h0_north, .ref h0_start, .ref h0_far])), (h0_east, .inl (g.2.1.1, 9, .inl f_h0_east)), (h0_north, .inl (g.2.1.1, 9, .inl f_h0_north))] := hD
    refine va_iast hx hb hX.1 hP hD hS 0 0 rfl rfl (zin (show (17 : Int32).toInt = (17 : Int) from by decide) ((show 0 ≤ (17 : Int) ∧ (17 : Int) < 18 from by decide))) dX5_standPunch_86 (fun H locs hP hD hS => ?_)
    obtain ⟨f33, e34⟩ : ∃ z9 : Nat → Int32, z9 = upd f_h0_normal (17 : Int32).toNatClampNeg r31 := ⟨_, rfl⟩
    rw [← e34] at hP hD
    have hf35 : aI 0 5 f33 := hy6.up e34 (rfl : r31.toInt = _) (ox_48 hq32)
    have hP : va_P g.1 vwCl [(h0_normal, .inl (g.2.1.1, 18, .inl f33)), (y1, .inr (4, [.int y1_count, .int y1_statements, .int y1_thick, .int y1_punch, .int y1_ups, .int y1_toolCount, .ref y1_toolWidth, .ref y1_told, .ref y1_name, .ref y1_parent, .ref y1_side, .ref y1_from, .ref y1_width, .ref y1_height, .ref y1_radius, .ref y1_toolSet])), (y1_parent, .inl (g.2.1.1, 9, .inl f_y1_parent)), (y1_side, .inl (g.2.1.1, 9, .inl f_y1_side)), (h0_corner, .inl (g.2.1.1, 27, .inl f_h0_corner)), (y1_from, .inl (g.2.1.1, 9, .inl f_y1_from)), (y1_height, .inl (g.2.1.1, 9, .inl f_y1_height)), (y1_width, .inl (g.2.1.1, 9, .inl f_y1_width)), (h0_start, .inl (g.2.1.1, 3, .inl f21)), (h0_far, .inl (g.2.1.1, 3, .inl f28)), (h0_low, .inl (g.2.1.1, 54, .inl f29)), (h0_high, .inl (g.2.1.1, 54, .inl f30)), (h0, .inr (5, [.ref h0_low, .ref h0_high, .ref h0_normal, .ref h0_corner, .ref h0_east, .ref h0_north, .ref h0_start, .ref h0_far])), (h0_east, .inl (g.2.1.1, 9, .inl f_h0_east)), (h0_north, .inl (g.2.1.1, 9, .inl f_h0_north))] H := hP
    have hD : va_D A [(h0_normal, .inl (g.2.1.1, 18, .inl f33)), (y1, .inr (4, [.int y1_count, .int y1_statements, .int y1_thick, .int y1_punch, .int y1_ups, .int y1_toolCount, .ref y1_toolWidth, .ref y1_told, .ref y1_name, .ref y1_parent, .ref y1_side, .ref y1_from, .ref y1_width, .ref y1_height, .ref y1_radius, .ref y1_toolSet])), (y1_parent, .inl (g.2.1.1, 9, .inl f_y1_parent)), (y1_side, .inl (g.2.1.1, 9, .inl f_y1_side)), (h0_corner, .inl (g.2.1.1, 27, .inl f_h0_corner)), (y1_from, .inl (g.2.1.1, 9, .inl f_y1_from)), (y1_height, .inl (g.2.1.1, 9, .inl f_y1_height)), (y1_width, .inl (g.2.1.1, 9, .inl f_y1_width)), (h0_start, .inl (g.2.1.1, 3, .inl f21)), (h0_far, .inl (g.2.1.1, 3, .inl f28)), (h0_low, .inl (g.2.1.1, 54, .inl f29)), (h0_high, .inl (g.2.1.1, 54, .inl f30)), (h0, .inr (5, [.ref h0_low, .ref h0_high, .ref h0_normal, .ref h0_corner, .ref h0_east, .ref h0_north, .ref h0_start, .ref h0_far])), (h0_east, .inl (g.2.1.1, 9, .inl f_h0_east)), (h0_north, .inl (g.2.1.1, 9, .inl f_h0_north))] := hD
    refine lv_iload hx hb dX5_standPunch_87 (lv_at hl 0 rfl) ?_
    exact hret v16 (f33, f21, f28, f29, f30) (Nat.le_of_ble_eq_true rfl) (Nat.le_of_ble_eq_true rfl) rfl ⟨hf35, ox_48 i18⟩ (hP.sub [1, 2, 3, 12, 0, 4, 8, 14, 13, 5, 6, 7, 9, 10, 11] rfl) (hD.sub [1, 2, 3, 12, 0, 4, 8, 14, 13, 5, 6, 7, 9, 10, 11] (by decide) rfl) hS dX5_standPunch_89
  refine lv_if_eq (tgt := 30) hx hb dX5_standPunch_17 (by decide) (fun c36 => ?_) (fun c36 => ?_)
  · skip
    have c36i : x3.toInt = (0 : Int) := (zc_eq (rfl : x3.toInt = _) (show (0 : Int32).toInt = (0 : Int) from by decide)).mp c36
    refine lv_aload_n hx hb dX5_standPunch_30 rfl (lv_at hl 2 rfl) ?_
    refine va_get (D := g.1) (ci := 5) (v := .ref h0_normal) (C := RX5) (T := TX5) (N := 8) hx hb hG iX5 hown hX.1 hP 3 rfl rfl 2 (by decide) (hG _ wf_X5_18) (fun _ h9 => h9) rfl dX5_standPunch_31 ?_
    refine lv_iload hx hb dX5_standPunch_34 (lv_at hl 1 rfl) ?_
    refine va_iald hx hb hX.1 hP 4 0 rfl rfl (zin (rfl : z1.toInt = _) (ox_208 i3)) dX5_standPunch_36 ?_
    refine lv_topi (fun z37 e38 => ?_)
    have i39 : 0 ≤ z37.toInt ∧ z37.toInt ≤ 5 := hy6.at e38
    refine zfi (wr := [(y1, .inr (4, [.int y1_count, .int y1_statements, .int y1_thick, .int y1_punch, .int y1_ups, .int y1_toolCount, .ref y1_toolWidth, .ref y1_told, .ref y1_name, .ref y1_parent, .ref y1_side, .ref y1_from, .ref y1_width, .ref y1_height, .ref y1_radius, .ref y1_toolSet])), (y1_parent, .inl (g.2.1.1, 9, .inl f_y1_parent)), (y1_side, .inl (g.2.1.1, 9, .inl f_y1_side)), (h0, .inr (5, [.ref h0_low, .ref h0_high, .ref h0_normal, .ref h0_corner, .ref h0_east, .ref h0_north, .ref h0_start, .ref h0_far])), (h0_normal, .inl (g.2.1.1, 18, .inl f_h0_normal)), (h0_corner, .inl (g.2.1.1, 27, .inl f_h0_corner)), (h0_start, .inl (g.2.1.1, 3, .inl f_h0_start)), (h0_north, .inl (g.2.1.1, 9, .inl f_h0_north)), (h0_east, .inl (g.2.1.1, 9, .inl f_h0_east)), (y1_from, .inl (g.2.1.1, 9, .inl f_y1_from)), (y1_height, .inl (g.2.1.1, 9, .inl f_y1_height)), (y1_width, .inl (g.2.1.1, 9, .inl f_y1_width)), (h0_far, .inl (g.2.1.1, 3, .inl f_h0_far)), (h0_low, .inl (g.2.1.1, 54, .inl f_h0_low)), (h0_high, .inl (g.2.1.1, 54, .inl f_h0_high))]) (va_runS (As := [.int z37]) (rest := []) ⟨hx, hb, hml, hown, hG⟩ (kX5_against l g z37 (ox_48 i39) _) ⟨callB_of 1 hG (zGood wc_X5_against) rfl rfl rfl (hG _ wini_X5) (hG _ wm_X5_95) hX5_against ⟨Nat.le_of_ble_eq_true rfl, Nat.le_of_ble_eq_true rfl⟩, hG _ ws_X5_against⟩ (zpreS hX hP hD hS hA [] rfl (by decide)) rfl rfl hl.1 rfl (lv_room (Nat.le_of_ble_eq_true rfl)) dX5_standPunch_37 ⟨Nat.le_of_ble_eq_true rfl, Nat.le_of_ble_eq_true rfl⟩) hP hD hS hA [] [0, 1, 2, 3, 4, 5, 6, 7, 8, 9, 10, 11, 12, 13, 14] rfl rfl (by decide) (by decide) (fun r40 _ H locs hp hP hD hS => ?_)
    refine W.cs (cells' := 0) (slots' := 0) rfl rfl ?_
    have hq41 : 0 ≤ r40.toInt ∧ r40.toInt ≤ 5 := hp
    have hP : va_P g.1 vwCl [(y1, .inr (4, [.int y1_count, .int y1_statements, .int y1_thick, .int y1_punch, .int y1_ups, .int y1_toolCount, .ref y1_toolWidth, .ref y1_told, .ref y1_name, .ref y1_parent, .ref y1_side, .ref y1_from, .ref y1_width, .ref y1_height, .ref y1_radius, .ref y1_toolSet])), (y1_parent, .inl (g.2.1.1, 9, .inl f_y1_parent)), (y1_side, .inl (g.2.1.1, 9, .inl f_y1_side)), (h0, .inr (5, [.ref h0_low, .ref h0_high, .ref h0_normal, .ref h0_corner, .ref h0_east, .ref h0_north, .ref h0_start, .ref h0_far])), (h0_normal, .inl (g.2.1.1, 18, .inl f_h0_normal)), (h0_corner, .inl (g.2.1.1, 27, .inl f_h0_corner)), (h0_start, .inl (g.2.1.1, 3, .inl f_h0_start)), (h0_north, .inl (g.2.1.1, 9, .inl f_h0_north)), (h0_east, .inl (g.2.1.1, 9, .inl f_h0_east)), (y1_from, .inl (g.2.1.1, 9, .inl f_y1_from)), (y1_height, .inl (g.2.1.1, 9, .inl f_y1_height)), (y1_width, .inl (g.2.1.1, 9, .inl f_y1_width)), (h0_far, .inl (g.2.1.1, 3, .inl f_h0_far)), (h0_low, .inl (g.2.1.1, 54, .inl f_h0_low)), (h0_high, .inl (g.2.1.1, 54, .inl f_h0_high))] H := hP
    have hD : va_D A [(y1, .inr (4, [.int y1_count, .int y1_statements, .int y1_thick, .int y1_punch, .int y1_ups, .int y1_toolCount, .ref y1_toolWidth, .ref y1_told, .ref y1_name, .ref y1_parent, .ref y1_side, .ref y1_from, .ref y1_width, .ref y1_height, .ref y1_radius, .ref y1_toolSet])), (y1_parent, .inl (g.2.1.1, 9, .inl f_y1_parent)), (y1_side, .inl (g.2.1.1, 9, .inl f_y1_side)), (h0, .inr (5, [.ref h0_low, .ref h0_high, .ref h0_normal, .ref h0_corner, .ref h0_east, .ref h0_north, .ref h0_start, .ref h0_far])), (h0_normal, .inl (g.2.1.1, 18, .inl f_h0_normal)), (h0_corner, .inl (g.2.1.1, 27, .inl f_h0_corner)), (h0_start, .inl (g.2.1.1, 3, .inl f_h0_start)), (h0_north, .inl (g.2.1.1, 9, .inl f_h0_north)), (h0_east, .inl (g.2.1.1, 9, .inl f_h0_east)), (y1_from, .inl (g.2.1.1, 9, .inl f_y1_from)), (y1_height, .inl (g.2.1.1, 9, .inl f_y1_height)), (y1_width, .inl (g.2.1.1, 9, .inl f_y1_width)), (h0_far, .inl (g.2.1.1, 3, .inl f_h0_far)), (h0_low, .inl (g.2.1.1, 54, .inl f_h0_low)), (h0_high, .inl (g.2.1.1, 54, .inl f_h0_high))] := hD
    exact J17 r40 H locs ls (ox_48 hq41) hP hD hS (lv_sub hl [2, 3, 4, 5, 6, 1, 0] rfl)
  · skip
    have c36i : ¬ (x3.toInt = (0 : Int)) := fun q => c36 ((zc_eq (rfl : x3.toInt = _) (show (0 : Int32).toInt = (0 : Int) from by decide)).mpr q)
    refine lv_aload_n hx hb dX5_standPunch_20 rfl (lv_at hl 2 rfl) ?_
    refine va_get (D := g.1) (ci := 5) (v := .ref h0_normal) (C := RX5) (T := TX5) (N := 8) hx hb hG iX5 hown hX.1 hP 3 rfl rfl 2 (by decide) (hG _ wf_X5_18) (fun _ h9 => h9) rfl dX5_standPunch_21 ?_
    refine lv_iload hx hb dX5_standPunch_24 (lv_at hl 1 rfl) ?_
    refine va_iald hx hb hX.1 hP 4 0 rfl rfl (zin (rfl : z1.toInt = _) (ox_208 i3)) dX5_standPunch_26 ?_
    refine lv_topi (fun z42 e43 => ?_)
    have i44 : 0 ≤ z42.toInt ∧ z42.toInt ≤ 5 := hy6.at e43
    refine lv_goto (tgt := 40) hx hb dX5_standPunch_27 (by decide) ?_
    exact J17 z42 _ _ ls (ox_48 i44) hP hD hS (lv_sub hl [2, 3, 4, 5, 6, 1, 0] rfl)
theorem dX5_metByPunch_0 : decode cX5_metByPunch 0 = .ok (.aload_n 0, 1) := by decide +kernel
theorem dX5_metByPunch_1 : decode cX5_metByPunch 1 = .ok (.aload_n 1, 1) := by decide +kernel
theorem dX5_metByPunch_2 : decode cX5_metByPunch 2 = .ok (.iload_n 2, 1) := by decide +kernel
theorem dX5_metByPunch_3 : decode cX5_metByPunch 3 = .ok (.iload_n 2, 1) := by decide +kernel
theorem dX5_metByPunch_4 : decode cX5_metByPunch 4 = .ok (.aload_n 1, 1) := by decide +kernel
theorem dX5_metByPunch_5 : decode cX5_metByPunch 5 = .ok (.getfield 157, 3) := by decide +kernel
theorem dX5_metByPunch_8 : decode cX5_metByPunch 8 = .ok (.invokestatic 50, 3) := by decide +kernel
theorem dX5_metByPunch_11 : decode cX5_metByPunch 11 = .ok (.aload_n 1, 1) := by decide +kernel
theorem dX5_metByPunch_12 : decode cX5_metByPunch 12 = .ok (.getfield 160, 3) := by decide +kernel
theorem dX5_metByPunch_15 : decode cX5_metByPunch 15 = .ok (.invokevirtual 163, 3) := by decide +kernel
theorem dX5_metByPunch_18 : decode cX5_metByPunch 18 = .ok (.pop, 1) := by decide +kernel
theorem dX5_metByPunch_19 : decode cX5_metByPunch 19 = .ok (.iconst 0, 1) := by decide +kernel
theorem dX5_metByPunch_20 : decode cX5_metByPunch 20 = .ok (.istore_n 3, 1) := by decide +kernel
theorem dX5_metByPunch_21 : decode cX5_metByPunch 21 = .ok (.iconst 0, 1) := by decide +kernel
theorem dX5_metByPunch_22 : decode cX5_metByPunch 22 = .ok (.istore 4, 2) := by decide +kernel
theorem dX5_metByPunch_24 : decode cX5_metByPunch 24 = .ok (.iload 4, 2) := by decide +kernel
theorem dX5_metByPunch_26 : decode cX5_metByPunch 26 = .ok (.aload_n 1, 1) := by decide +kernel
theorem dX5_metByPunch_27 : decode cX5_metByPunch 27 = .ok (.getfield 40, 3) := by decide +kernel
theorem dX5_metByPunch_30 : decode cX5_metByPunch 30 = .ok (.if_icmp .ge 27, 3) := by decide +kernel
theorem dX5_metByPunch_57 : decode cX5_metByPunch 57 = .ok (.iload_n 3, 1) := by decide +kernel
theorem dX5_metByPunch_58 : decode cX5_metByPunch 58 = .ok (.ireturn, 1) := by decide +kernel
theorem dX5_metByPunch_33 : decode cX5_metByPunch 33 = .ok (.aload_n 0, 1) := by decide +kernel
theorem dX5_metByPunch_34 : decode cX5_metByPunch 34 = .ok (.bipush 17, 2) := by decide +kernel
theorem dX5_metByPunch_36 : decode cX5_metByPunch 36 = .ok (.iload 4, 2) := by decide +kernel
theorem dX5_metByPunch_38 : decode cX5_metByPunch 38 = .ok (.invokevirtual 151, 3) := by decide +kernel
theorem dX5_metByPunch_51 : decode cX5_metByPunch 51 = .ok (.iinc 4 1, 3) := by decide +kernel
theorem dX5_metByPunch_54 : decode cX5_metByPunch 54 = .ok (.goto (-30), 3) := by decide +kernel
theorem dX5_metByPunch_41 : decode cX5_metByPunch 41 = .ok (.ifCond .eq 10, 3) := by decide +kernel
theorem dX5_metByPunch_44 : decode cX5_metByPunch 44 = .ok (.iload_n 3, 1) := by decide +kernel
theorem dX5_metByPunch_45 : decode cX5_metByPunch 45 = .ok (.iconst 1, 1) := by decide +kernel
theorem dX5_metByPunch_46 : decode cX5_metByPunch 46 = .ok (.iload 4, 2) := by decide +kernel
theorem dX5_metByPunch_48 : decode cX5_metByPunch 48 = .ok (.ishl, 1) := by decide +kernel
theorem dX5_metByPunch_49 : decode cX5_metByPunch 49 = .ok (.ior, 1) := by decide +kernel
theorem dX5_metByPunch_50 : decode cX5_metByPunch 50 = .ok (.istore_n 3, 1) := by decide +kernel
abbrev rm_kX5_metByPunch : Room := { frames := 4, cells := 0, slots := 0, locals := 93 }
set_option maxHeartbeats 4000000 in
set_option maxRecDepth 100000 in
theorem kX5_metByPunch (l : Launch) (g : zL) (h0 : Nat) (y1 : Nat) (x2 : Int32) (y1_count : Int32) (y1_statements : Int32) (y1_thick : Int32) (y1_punch : Int32) (y1_ups : Int32) (y1_toolCount : Int32) (y1_toolWidth : Nat) (y1_told : Nat) (y1_name : Nat) (y1_parent : Nat) (y1_side : Nat) (y1_from : Nat) (y1_width : Nat) (y1_height : Nat) (y1_radius : Nat) (y1_toolSet : Nat) (f_y1_parent : Nat → Int32) (f_y1_side : Nat → Int32) (h0_low : Nat) (h0_high : Nat) (h0_normal : Nat) (h0_corner : Nat) (h0_east : Nat) (h0_north : Nat) (h0_start : Nat) (h0_far : Nat) (f_h0_normal : Nat → Int32) (f_h0_corner : Nat → Int32) (f_h0_start : Nat → Int32) (f_h0_north : Nat → Int32) (f_h0_east : Nat → Int32) (f_y1_from : Nat → Int32) (f_y1_height : Nat → Int32) (f_y1_width : Nat → Int32) (f_h0_far : Nat → Int32) (f_h0_low : Nat → Int32) (f_h0_high : Nat → Int32) (hy0 : 1 ≤ x2.toInt ∧ x2.toInt ≤ 8) (hy1 : 0 ≤ y1_count.toInt ∧ y1_count.toInt ≤ 9) (hy2 : 0 ≤ y1_toolCount.toInt ∧ y1_toolCount.toInt ≤ 8) (hy3 : aI 0 8 f_y1_parent) (hy4 : aI 0 3 f_y1_side) (hy5 : aI 0 5 f_h0_normal) (hy6 : aI 0 5 f_h0_north) (hy7 : aI 0 5 f_h0_east) : zCi l g yX5_metByPunch cX5_metByPunch 5 (some .int) rm_kX5_metByPunch [.ref h0, .ref y1, .int x2] [(y1, .inr (4, [.int y1_count, .int y1_statements, .int y1_thick, .int y1_punch, .int y1_ups, .int y1_toolCount, .ref y1_toolWidth, .ref y1_told, .ref y1_name, .ref y1_parent, .ref y1_side, .ref y1_from, .ref y1_width, .ref y1_height, .ref y1_radius, .ref y1_toolSet])), (y1_parent, .inl (g.2.1.1, 9, .inl f_y1_parent)), (y1_side, .inl (g.2.1.1, 9, .inl f_y1_side)), (h0, .inr (5, [.ref h0_low, .ref h0_high, .ref h0_normal, .ref h0_corner, .ref h0_east, .ref h0_north, .ref h0_start, .ref h0_far])), (h0_normal, .inl (g.2.1.1, 18, .inl f_h0_normal)), (h0_corner, .inl (g.2.1.1, 27, .inl f_h0_corner)), (h0_start, .inl (g.2.1.1, 3, .inl f_h0_start)), (h0_north, .inl (g.2.1.1, 9, .inl f_h0_north)), (h0_east, .inl (g.2.1.1, 9, .inl f_h0_east)), (y1_from, .inl (g.2.1.1, 9, .inl f_y1_from)), (y1_height, .inl (g.2.1.1, 9, .inl f_y1_height)), (y1_width, .inl (g.2.1.1, 9, .inl f_y1_width)), (h0_far, .inl (g.2.1.1, 3, .inl f_h0_far)), (h0_low, .inl (g.2.1.1, 54, .inl f_h0_low)), (h0_high, .inl (g.2.1.1, 54, .inl f_h0_high))] (fun (r : Int32) (u : (Nat → Int32) × (Nat → Int32) × (Nat → Int32) × (Nat → Int32) × (Nat → Int32)) => (aI 0 5 u.1) ∧ (0 ≤ r.toInt ∧ r.toInt ≤ 2147483647)) (fun (u : (Nat → Int32) × (Nat → Int32) × (Nat → Int32) × (Nat → Int32) × (Nat → Int32)) => [(y1, .inr (4, [.int y1_count, .int y1_statements, .int y1_thick, .int y1_punch, .int y1_ups, .int y1_toolCount, .ref y1_toolWidth, .ref y1_told, .ref y1_name, .ref y1_parent, .ref y1_side, .ref y1_from, .ref y1_width, .ref y1_height, .ref y1_radius, .ref y1_toolSet])), (y1_parent, .inl (g.2.1.1, 9, .inl f_y1_parent)), (y1_side, .inl (g.2.1.1, 9, .inl f_y1_side)), (h0, .inr (5, [.ref h0_low, .ref h0_high, .ref h0_normal, .ref h0_corner, .ref h0_east, .ref h0_north, .ref h0_start, .ref h0_far])), (h0_normal, .inl (g.2.1.1, 18, .inl u.1)), (h0_corner, .inl (g.2.1.1, 27, .inl f_h0_corner)), (h0_start, .inl (g.2.1.1, 3, .inl u.2.1)), (h0_north, .inl (g.2.1.1, 9, .inl f_h0_north)), (h0_east, .inl (g.2.1.1, 9, .inl f_h0_east)), (y1_from, .inl (g.2.1.1, 9, .inl f_y1_from)), (y1_height, .inl (g.2.1.1, 9, .inl f_y1_height)), (y1_width, .inl (g.2.1.1, 9, .inl f_y1_width)), (h0_far, .inl (g.2.1.1, 3, .inl u.2.2.1)), (h0_low, .inl (g.2.1.1, 54, .inl u.2.2.2.1)), (h0_high, .inl (g.2.1.1, 54, .inl u.2.2.2.2))]) := by
  refine zCi.mk2 (by decide) (Nat.le_of_ble_eq_true rfl) ?_
  intro p e s m below meth c A args Q hE hret hP hD hS ls hl
  obtain ⟨hx, hb, hr, hml, hown, hG, hlocks, hnm, hX, hA⟩ := hE
  have hown : s.vm.findClass RX5 = some m.cls := hown
  have hl : lv_has ls 5 [(0, .ref h0), (1, .ref y1), (2, .int x2)] := hl
  refine lv_aload_n hx hb dX5_metByPunch_0 rfl (lv_at hl 0 rfl) ?_
  refine lv_aload_n hx hb dX5_metByPunch_1 rfl (lv_at hl 1 rfl) ?_
  refine lv_iload_n hx hb dX5_metByPunch_2 rfl (lv_at hl 2 rfl) ?_
  refine lv_iload_n hx hb dX5_metByPunch_3 rfl (lv_at hl 2 rfl) ?_
  refine lv_aload_n hx hb dX5_metByPunch_4 rfl (lv_at hl 1 rfl) ?_
  refine va_getN (D := g.1) (ci := 4) (v := .int y1_ups) (C := RX4) (T := TX4) (N := 16) hx hb hG iX4 hown hX.1 hP 0 rfl rfl 4 (by decide) (hX.2.1.fl wfn_X5_157) (fun _ h9 => h9) rfl dX5_metByPunch_5 ?_
  refine zfi (wr := [(y1, .inr (4, [.int y1_count, .int y1_statements, .int y1_thick, .int y1_punch, .int y1_ups, .int y1_toolCount, .ref y1_toolWidth, .ref y1_told, .ref y1_name, .ref y1_parent, .ref y1_side, .ref y1_from, .ref y1_width, .ref y1_height, .ref y1_radius, .ref y1_toolSet])), (y1_parent, .inl (g.2.1.1, 9, .inl f_y1_parent)), (y1_side, .inl (g.2.1.1, 9, .inl f_y1_side)), (h0, .inr (5, [.ref h0_low, .ref h0_high, .ref h0_normal, .ref h0_corner, .ref h0_east, .ref h0_north, .ref h0_start, .ref h0_far])), (h0_normal, .inl (g.2.1.1, 18, .inl f_h0_normal)), (h0_corner, .inl (g.2.1.1, 27, .inl f_h0_corner)), (h0_start, .inl (g.2.1.1, 3, .inl f_h0_start)), (h0_north, .inl (g.2.1.1, 9, .inl f_h0_north)), (h0_east, .inl (g.2.1.1, 9, .inl f_h0_east)), (y1_from, .inl (g.2.1.1, 9, .inl f_y1_from)), (y1_height, .inl (g.2.1.1, 9, .inl f_y1_height)), (y1_width, .inl (g.2.1.1, 9, .inl f_y1_width)), (h0_far, .inl (g.2.1.1, 3, .inl f_h0_far)), (h0_low, .inl (g.2.1.1, 54, .inl f_h0_low)), (h0_high, .inl (g.2.1.1, 54, .inl f_h0_high))]) (va_runSN (As := [.int x2, .int y1_ups]) (rest := [.int x2, .ref y1, .ref h0]) ⟨hx, hb, hml, hown, hG⟩ (kX8_isIn l g x2 y1_ups _) ⟨va_cnB 2 hG (zGood wc_X8_isIn) rfl rfl rfl (hX.2.1.ml wmn_X5_50) (hG _ wini_X8) hX8_isIn ⟨Nat.le_of_ble_eq_true rfl, Nat.le_of_ble_eq_true rfl⟩, hG _ ws_X8_isIn, trivial⟩ (zpreS hX hP hD hS hA [] rfl (by decide)) rfl rfl hl.1 rfl (lv_room (Nat.le_of_ble_eq_true rfl)) dX5_metByPunch_8 ⟨Nat.le_of_ble_eq_true rfl, Nat.le_of_ble_eq_true rfl⟩) hP hD hS hA [] [0, 1, 2, 3, 4, 5, 6, 7, 8, 9, 10, 11, 12, 13, 14] rfl rfl (by decide) (by decide) (fun r1 _ H locs hp hP hD hS => ?_)
  refine W.cs (cells' := 0) (slots' := 0) rfl rfl ?_
  have hq2 : 0 ≤ r1.toInt ∧ r1.toInt ≤ 1 := hp
  have hP : va_P g.1 vwCl [(y1, .inr (4, [.int y1_count, .int y1_statements, .int y1_thick, .int y1_punch, .int y1_ups, .int y1_toolCount, .ref y1_toolWidth, .ref y1_told, .ref y1_name, .ref y1_parent, .ref y1_side, .ref y1_from, .ref y1_width, .ref y1_height, .ref y1_radius, .ref y1_toolSet])), (y1_parent, .inl (g.2.1.1, 9, .inl f_y1_parent)), (y1_side, .inl (g.2.1.1, 9, .inl f_y1_side)), (h0, .inr (5, [.ref h0_low, .ref h0_high, .ref h0_normal, .ref h0_corner, .ref h0_east, .ref h0_north, .ref h0_start, .ref h0_far])), (h0_normal, .inl (g.2.1.1, 18, .inl f_h0_normal)), (h0_corner, .inl (g.2.1.1, 27, .inl f_h0_corner)), (h0_start, .inl (g.2.1.1, 3, .inl f_h0_start)), (h0_north, .inl (g.2.1.1, 9, .inl f_h0_north)), (h0_east, .inl (g.2.1.1, 9, .inl f_h0_east)), (y1_from, .inl (g.2.1.1, 9, .inl f_y1_from)), (y1_height, .inl (g.2.1.1, 9, .inl f_y1_height)), (y1_width, .inl (g.2.1.1, 9, .inl f_y1_width)), (h0_far, .inl (g.2.1.1, 3, .inl f_h0_far)), (h0_low, .inl (g.2.1.1, 54, .inl f_h0_low)), (h0_high, .inl (g.2.1.1, 54, .inl f_h0_high))] H := hP
  have hD : va_D A [(y1, .inr (4, [.int y1_count, .int y1_statements, .int y1_thick, .int y1_punch, .int y1_ups, .int y1_toolCount, .ref y1_toolWidth, .ref y1_told, .ref y1_name, .ref y1_parent, .ref y1_side, .ref y1_from, .ref y1_width, .ref y1_height, .ref y1_radius, .ref y1_toolSet])), (y1_parent, .inl (g.2.1.1, 9, .inl f_y1_parent)), (y1_side, .inl (g.2.1.1, 9, .inl f_y1_side)), (h0, .inr (5, [.ref h0_low, .ref h0_high, .ref h0_normal, .ref h0_corner, .ref h0_east, .ref h0_north, .ref h0_start, .ref h0_far])), (h0_normal, .inl (g.2.1.1, 18, .inl f_h0_normal)), (h0_corner, .inl (g.2.1.1, 27, .inl f_h0_corner)), (h0_start, .inl (g.2.1.1, 3, .inl f_h0_start)), (h0_north, .inl (g.2.1.1, 9, .inl f_h0_north)), (h0_east, .inl (g.2.1.1, 9, .inl f_h0_east)), (y1_from, .inl (g.2.1.1, 9, .inl f_y1_from)), (y1_height, .inl (g.2.1.1, 9, .inl f_y1_height)), (y1_width, .inl (g.2.1.1, 9, .inl f_y1_width)), (h0_far, .inl (g.2.1.1, 3, .inl f_h0_far)), (h0_low, .inl (g.2.1.1, 54, .inl f_h0_low)), (h0_high, .inl (g.2.1.1, 54, .inl f_h0_high))] := hD
  refine lv_aload_n hx hb dX5_metByPunch_11 rfl (lv_at hl 1 rfl) ?_
  refine va_getN (D := g.1) (ci := 4) (v := .int y1_punch) (C := RX4) (T := TX4) (N := 16) hx hb hG iX4 hown hX.1 hP 0 rfl rfl 3 (by decide) (hX.2.1.fl wfn_X5_160) (fun _ h9 => h9) rfl dX5_metByPunch_12 ?_
  refine zfi (wr := []) (va_runV (As := [.ref y1, .int x2, .int r1, .int y1_punch]) (rest := []) ⟨hx, hb, hml, hown, hG⟩ (kX5_standPunch l g h0 y1 x2 r1 y1_punch y1_count y1_statements y1_thick y1_punch y1_ups y1_toolCount y1_toolWidth y1_told y1_name y1_parent y1_side y1_from y1_width y1_height y1_radius y1_toolSet f_y1_parent f_y1_side h0_low h0_high h0_normal h0_corner h0_east h0_north h0_start h0_far f_h0_normal f_h0_corner f_h0_start f_h0_north f_h0_east f_y1_from f_y1_height f_y1_width f_h0_far f_h0_low f_h0_high (ox_209 hy0) (ox_33 hq2) (ox_0 hy1) (ox_1 hy2) hy3 hy4 hy5 hy6 hy7 _) ⟨callB_of 4 hG (zGood wc_X5_standPunch) rfl rfl rfl (hG _ wini_X5) (hG _ wm_X5_163) hX5_standPunch ⟨Nat.le_of_ble_eq_true rfl, Nat.le_of_ble_eq_true rfl⟩, hG _ wi_X5_standPunch, hG _ wse_X5_X5_standPunch⟩ (zpreV (va_recv hX.1 hP (ci := 5) (q0 := 3) rfl rfl) hX hP hD hS hA [0, 1, 2, 3, 4, 5, 6, 7, 8, 9, 10, 11, 12, 13, 14] rfl (by decide)) rfl rfl hl.1 rfl (lv_room (Nat.le_of_ble_eq_true rfl)) dX5_metByPunch_15 ⟨Nat.le_of_ble_eq_true rfl, Nat.le_of_ble_eq_true rfl⟩) hP hD hS hA [0, 1, 2, 3, 4, 5, 6, 7, 8, 9, 10, 11, 12, 13, 14] [] rfl rfl (by decide) (by decide) (fun r3 u4 H locs hp hP hD hS => ?_)
  refine W.cs (cells' := 0) (slots' := 0) rfl rfl ?_
  obtain ⟨f5, f6, f7, f8, f9⟩ := u4
  obtain ⟨hq10, hq11⟩ : (aI 0 5 f5) ∧ (0 ≤ r3.toInt ∧ r3.toInt ≤ 5) := hp
  have hP : va_P g.1 vwCl [(y1, .inr (4, [.int y1_count, .int y1_statements, .int y1_thick, .int y1_punch, .int y1_ups, .int y1_toolCount, .ref y1_toolWidth, .ref y1_told, .ref y1_name, .ref y1_parent, .ref y1_side, .ref y1_from, .ref y1_width, .ref y1_height, .ref y1_radius, .ref y1_toolSet])), (y1_parent, .inl (g.2.1.1, 9, .inl f_y1_parent)), (y1_side, .inl (g.2.1.1, 9, .inl f_y1_side)), (h0, .inr (5, [.ref h0_low, .ref h0_high, .ref h0_normal, .ref h0_corner, .ref h0_east, .ref h0_north, .ref h0_start, .ref h0_far])), (h0_normal, .inl (g.2.1.1, 18, .inl f5)), (h0_corner, .inl (g.2.1.1, 27, .inl f_h0_corner)), (h0_start, .inl (g.2.1.1, 3, .inl f6)), (h0_north, .inl (g.2.1.1, 9, .inl f_h0_north)), (h0_east, .inl (g.2.1.1, 9, .inl f_h0_east)), (y1_from, .inl (g.2.1.1, 9, .inl f_y1_from)), (y1_height, .inl (g.2.1.1, 9, .inl f_y1_height)), (y1_width, .inl (g.2.1.1, 9, .inl f_y1_width)), (h0_far, .inl (g.2.1.1, 3, .inl f7)), (h0_low, .inl (g.2.1.1, 54, .inl f8)), (h0_high, .inl (g.2.1.1, 54, .inl f9))] H := hP
  have hD : va_D A [(y1, .inr (4, [.int y1_count, .int y1_statements, .int y1_thick, .int y1_punch, .int y1_ups, .int y1_toolCount, .ref y1_toolWidth, .ref y1_told, .ref y1_name, .ref y1_parent, .ref y1_side, .ref y1_from, .ref y1_width, .ref y1_height, .ref y1_radius, .ref y1_toolSet])), (y1_parent, .inl (g.2.1.1, 9, .inl f_y1_parent)), (y1_side, .inl (g.2.1.1, 9, .inl f_y1_side)), (h0, .inr (5, [.ref h0_low, .ref h0_high, .ref h0_normal, .ref h0_corner, .ref h0_east, .ref h0_north, .ref h0_start, .ref h0_far])), (h0_normal, .inl (g.2.1.1, 18, .inl f5)), (h0_corner, .inl (g.2.1.1, 27, .inl f_h0_corner)), (h0_start, .inl (g.2.1.1, 3, .inl f6)), (h0_north, .inl (g.2.1.1, 9, .inl f_h0_north)), (h0_east, .inl (g.2.1.1, 9, .inl f_h0_east)), (y1_from, .inl (g.2.1.1, 9, .inl f_y1_from)), (y1_height, .inl (g.2.1.1, 9, .inl f_y1_height)), (y1_width, .inl (g.2.1.1, 9, .inl f_y1_width)), (h0_far, .inl (g.2.1.1, 3, .inl f7)), (h0_low, .inl (g.2.1.1, 54, .inl f8)), (h0_high, .inl (g.2.1.1, 54, .inl f9))] := hD
  refine lv_pop hx hb dX5_metByPunch_18 rfl ?_
  refine lv_iconst (v := 0) hx hb dX5_metByPunch_19 (by decide) ?_
  refine lv_istore_n (lv' := [(3, .int 0), (0, .ref h0), (1, .ref y1), (2, .int x2)]) hx hb dX5_metByPunch_20 rfl hl (by decide) rfl (fun ls hl => ?_)
  refine lv_iconst (v := 0) hx hb dX5_metByPunch_21 (by decide) ?_
  refine lv_istore (lv' := [(4, .int 0), (3, .int 0), (0, .ref h0), (1, .ref y1), (2, .int x2)]) hx hb dX5_metByPunch_22 hl (by decide) rfl (fun ls hl => ?_)
  have L201 : ∀ (n : Nat) (v175 : Int32) (v176 : Int32) (H : Heap) (locs : List Loc) (ls : Array Slot), 0 ≤ v175.toInt ∧ v175.toInt ≤ 2147483647 → 0 ≤ v176.toInt ∧ v176.toInt ≤ 9 → (10 - v176.toInt).toNat < n → va_P g.1 vwCl [(y1, .inr (4, [.int y1_count, .int y1_statements, .int y1_thick, .int y1_punch, .int y1_ups, .int y1_toolCount, .ref y1_toolWidth, .ref y1_told, .ref y1_name, .ref y1_parent, .ref y1_side, .ref y1_from, .ref y1_width, .ref y1_height, .ref y1_radius, .ref y1_toolSet])), (y1_parent, .inl (g.2.1.1, 9, .inl f_y1_parent)), (y1_side, .inl (g.2.1.1, 9, .inl f_y1_side)), (h0, .inr (5, [.ref h0_low, .ref h0_high, .ref h0_normal, .ref h0_corner, .ref h0_east, .ref h0_north, .ref h0_start, .ref h0_far])), (h0_normal, .inl (g.2.1.1, 18, .inl f5)), (h0_corner, .inl (g.2.1.1, 27, .inl f_h0_corner)), (h0_start, .inl (g.2.1.1, 3, .inl f6)), (h0_north, .inl (g.2.1.1, 9, .inl f_h0_north)), (h0_east, .inl (g.2.1.1, 9, .inl f_h0_east)), (y1_from, .inl (g.2.1.1, 9, .inl f_y1_from)), (y1_height, .inl (g.2.1.1, 9, .inl f_y1_height)), (y1_width, .inl (g.2.1.1, 9, .inl f_y1_width)), (h0_far, .inl (g.2.1.1, 3, .inl f7)), (h0_low, .inl (g.2.1.1, 54, .inl f8)), (h0_high, .inl (g.2.1.1, 54, .inl f9))] H → va_D A [(y1, .inr (4, [.int y1_count, .int y1_statements, .int y1_thick, .int y1_punch, .int y1_ups, .int y1_toolCount, .ref y1_toolWidth, .ref y1_told, .ref y1_name, .ref y1_parent, .ref y1_side, .ref y1_from, .ref y1_width, .ref y1_height, .ref y1_radius, .ref y1_toolSet])), (y1_parent, .inl (g.2.1.1, 9, .inl f_y1_parent)), (y1_side, .inl (g.2.1.1, 9, .inl f_y1_side)), (h0, .inr (5, [.ref h0_low, .ref h0_high, .ref h0_normal, .ref h0_corner, .ref h0_east, .ref h0_north, .ref h0_start, .ref h0_far])), (h0_normal, .inl (g.2.1.1, 18, .inl f5)), (h0_corner, .inl (g.2.1.1, 27, .inl f_h0_corner)), (h0_start, .inl (g.2.1.1, 3, .inl f6)), (h0_north, .inl (g.2.1.1, 9, .inl f_h0_north)), (h0_east, .inl (g.2.1.1, 9, .inl f_h0_east)), (y1_from, .inl (g.2.1.1, 9, .inl f_y1_from)), (y1_height, .inl (g.2.1.1, 9, .inl f_y1_height)), (y1_width, .inl (g.2.1.1, 9, .inl f_y1_width)), (h0_far, .inl (g.2.1.1, 3, .inl f7)), (h0_low, .inl (g.2.1.1, 54, .inl f8)), (h0_high, .inl (g.2.1.1, 54, .inl f9))] → va_S A s.heap H locs → lv_has ls 5 [(0, .ref h0), (1, .ref y1), (2, .int x2), (3, .int v175), (4, .int v176)] → W p l e rm_kX5_metByPunch s m args below meth c H locs 0 0 Q (F0 m 24 ls []) := by
    intro n202
    induction n202 with
    | zero => intro v175 v176 H locs ls i204 i205 hm206; exact absurd hm206 (Nat.not_lt_zero _)
    | succ n202 ih203 =>
      intro v175 v176 H locs ls i204 i205 hm206 hP hD hS hl
      refine lv_iload hx hb dX5_metByPunch_24 (lv_at hl 4 rfl) ?_
      refine lv_aload_n hx hb dX5_metByPunch_26 rfl (lv_at hl 1 rfl) ?_
      refine va_getN (D := g.1) (ci := 4) (v := .int y1_count) (C := RX4) (T := TX4) (N := 16) hx hb hG iX4 hown hX.1 hP 0 rfl rfl 0 (by decide) (hX.2.1.fl wfn_X5_40) (fun _ h9 => h9) rfl dX5_metByPunch_27 ?_
      refine lv_icmp_ge (tgt := 57) hx hb dX5_metByPunch_30 (by decide) (fun c207 => ?_) (fun c207 => ?_)
      · skip
        have c207i : y1_count.toInt ≤ v176.toInt := (zc_le (rfl : y1_count.toInt = _) (rfl : v176.toInt = _)).mp c207
        refine lv_iload_n hx hb dX5_metByPunch_57 rfl (lv_at hl 3 rfl) ?_
        exact hret v175 (f5, f6, f7, f8, f9) (Nat.le_of_ble_eq_true rfl) (Nat.le_of_ble_eq_true rfl) rfl ⟨hq10, ox_210 (zr v175) i204⟩ hP hD hS dX5_metByPunch_58
      · skip
        have c207i : ¬ (y1_count.toInt ≤ v176.toInt) := fun q => c207 ((zc_le (rfl : y1_count.toInt = _) (rfl : v176.toInt = _)).mpr q)
        refine lv_aload_n hx hb dX5_metByPunch_33 rfl (lv_at hl 0 rfl) ?_
        refine lv_bipush (v := 17) hx hb dX5_metByPunch_34 (by decide) ?_
        refine lv_iload hx hb dX5_metByPunch_36 (lv_at hl 4 rfl) ?_
        refine zfi (wr := [(y1, .inr (4, [.int y1_count, .int y1_statements, .int y1_thick, .int y1_punch, .int y1_ups, .int y1_toolCount, .ref y1_toolWidth, .ref y1_told, .ref y1_name, .ref y1_parent, .ref y1_side, .ref y1_from, .ref y1_width, .ref y1_height, .ref y1_radius, .ref y1_toolSet])), (y1_parent, .inl (g.2.1.1, 9, .inl f_y1_parent)), (y1_side, .inl (g.2.1.1, 9, .inl f_y1_side)), (h0_corner, .inl (g.2.1.1, 27, .inl f_h0_corner)), (h0_start, .inl (g.2.1.1, 3, .inl f6)), (h0_north, .inl (g.2.1.1, 9, .inl f_h0_north)), (h0_east, .inl (g.2.1.1, 9, .inl f_h0_east)), (y1_from, .inl (g.2.1.1, 9, .inl f_y1_from)), (y1_height, .inl (g.2.1.1, 9, .inl f_y1_height)), (y1_width, .inl (g.2.1.1, 9, .inl f_y1_width)), (h0_far, .inl (g.2.1.1, 3, .inl f7))]) (va_runV (As := [.int 17, .int v176]) (rest := []) ⟨hx, hb, hml, hown, hG⟩ (kX5_doClash l g h0 (17 : Int32) v176 h0_low h0_high h0_normal h0_corner h0_east h0_north h0_start h0_far f5 f8 f9 ((show 0 ≤ (17 : Int) ∧ (17 : Int) ≤ 17 from by decide)) (ox_211 c207i hy1 i205) hq10 _) ⟨callB_of 2 hG (zGood wc_X5_doClash) rfl rfl rfl (hG _ wini_X5) (hG _ wm_X5_151) hX5_doClash ⟨Nat.le_of_ble_eq_true rfl, Nat.le_of_ble_eq_true rfl⟩, hG _ wi_X5_doClash, hG _ wse_X5_X5_doClash⟩ (zpreV (va_recv hX.1 hP (ci := 5) (q0 := 3) rfl rfl) hX hP hD hS hA [3, 4, 13, 14] rfl (by decide)) rfl rfl hl.1 rfl (lv_room (Nat.le_of_ble_eq_true rfl)) dX5_metByPunch_38 ⟨Nat.le_of_ble_eq_true rfl, Nat.le_of_ble_eq_true rfl⟩) hP hD hS hA [3, 4, 13, 14] [0, 1, 2, 5, 6, 7, 8, 9, 10, 11, 12] rfl rfl (by decide) (by decide) (fun r208 _ H locs hp hP hD hS => ?_)
        refine W.cs (cells' := 0) (slots' := 0) rfl rfl ?_
        have hq209 : 0 ≤ r208.toInt ∧ r208.toInt ≤ 1 := hp
        have hP : va_P g.1 vwCl [(y1, .inr (4, [.int y1_count, .int y1_statements, .int y1_thick, .int y1_punch, .int y1_ups, .int y1_toolCount, .ref y1_toolWidth, .ref y1_told, .ref y1_name, .ref y1_parent, .ref y1_side, .ref y1_from, .ref y1_width, .ref y1_height, .ref y1_radius, .ref y1_toolSet])), (y1_parent, .inl (g.2.1.1, 9, .inl f_y1_parent)), (y1_side, .inl (g.2.1.1, 9, .inl f_y1_side)), (h0_corner, .inl (g.2.1.1, 27, .inl f_h0_corner)), (h0_start, .inl (g.2.1.1, 3, .inl f6)), (h0_north, .inl (g.2.1.1, 9, .inl f_h0_north)), (h0_east, .inl (g.2.1.1, 9, .inl f_h0_east)), (y1_from, .inl (g.2.1.1, 9, .inl f_y1_from)), (y1_height, .inl (g.2.1.1, 9, .inl f_y1_height)), (y1_width, .inl (g.2.1.1, 9, .inl f_y1_width)), (h0_far, .inl (g.2.1.1, 3, .inl f7)), (h0, .inr (5, [.ref h0_low, .ref h0_high, .ref h0_normal, .ref h0_corner, .ref h0_east, .ref h0_north, .ref h0_start, .ref h0_far])), (h0_normal, .inl (g.2.1.1, 18, .inl f5)), (h0_low, .inl (g.2.1.1, 54, .inl f8)), (h0_high, .inl (g.2.1.1, 54, .inl f9))] H := hP
        have hD : va_D A [(y1, .inr (4, [.int y1_count, .int y1_statements, .int y1_thick, .int y1_punch, .int y1_ups, .int y1_toolCount, .ref y1_toolWidth, .ref y1_told, .ref y1_name, .ref y1_parent, .ref y1_side, .ref y1_from, .ref y1_width, .ref y1_height, .ref y1_radius, .ref y1_toolSet])), (y1_parent, .inl (g.2.1.1, 9, .inl f_y1_parent)), (y1_side, .inl (g.2.1.1, 9, .inl f_y1_side)), (h0_corner, .inl (g.2.1.1, 27, .inl f_h0_corner)), (h0_start, .inl (g.2.1.1, 3, .inl f6)), (h0_north, .inl (g.2.1.1, 9, .inl f_h0_north)), (h0_east, .inl (g.2.1.1, 9, .inl f_h0_east)), (y1_from, .inl (g.2.1.1, 9, .inl f_y1_from)), (y1_height, .inl (g.2.1.1, 9, .inl f_y1_height)), (y1_width, .inl (g.2.1.1, 9, .inl f_y1_width)), (h0_far, .inl (g.2.1.1, 3, .inl f7)), (h0, .inr (5, [.ref h0_low, .ref h0_high, .ref h0_normal, .ref h0_corner, .ref h0_east, .ref h0_north, .ref h0_start, .ref h0_far])), (h0_normal, .inl (g.2.1.1, 18, .inl f5)), (h0_low, .inl (g.2.1.1, 54, .inl f8)), (h0_high, .inl (g.2.1.1, 54, .inl f9))] := hD
        have J218 : ∀  (v217 : Int32) (H : Heap) (locs : List Loc) (ls : Array Slot), 0 ≤ v217.toInt ∧ v217.toInt ≤ 2147483647 → va_P g.1 vwCl [(y1, .inr (4, [.int y1_count, .int y1_statements, .int y1_thick, .int y1_punch, .int y1_ups, .int y1_toolCount, .ref y1_toolWidth, .ref y1_told, .ref y1_name, .ref y1_parent, .ref y1_side, .ref y1_from, .ref y1_width, .ref y1_height, .ref y1_radius, .ref y1_toolSet])), (y1_parent, .inl (g.2.1.1, 9, .inl f_y1_parent)), (y1_side, .inl (g.2.1.1, 9, .inl f_y1_side)), (h0_corner, .inl (g.2.1.1, 27, .inl f_h0_corner)), (h0_start, .inl (g.2.1.1, 3, .inl f6)), (h0_north, .inl (g.2.1.1, 9, .inl f_h0_north)), (h0_east, .inl (g.2.1.1, 9, .inl f_h0_east)), (y1_from, .inl (g.2.1.1, 9, .inl f_y1_from)), (y1_height, .inl (g.2.1.1, 9, .inl f_y1_height)), (y1_width, .inl (g.2.1.1, 9, .inl f_y1_width)), (h0_far, .inl (g.2.1.1, 3, .inl f7)), (h0, .inr (5, [.ref h0_low, .ref h0_high, .ref h0_normal, .ref h0_corner, .ref h0_east, .ref h0_north, .ref h0_start, .ref h0_far])), (h0_normal, .inl (g.2.1.1, 18, .inl f5)), (h0_low, .inl (g.2.1.1, 54, .inl f8)), (h0_high, .inl (g.2.1.1, 54, .inl f9))] H → va_D A [(y1, .inr (4, [.int y1_count, .int y1_statements, .int y1_thick, .int y1_punch, .int y1_ups, .int y1_toolCount, .ref y1_toolWidth, .ref y1_told, .ref y1_name, .ref y1_parent, .ref y1_side, .ref y1_from, .ref y1_width, .ref y1_height, .ref y1_radius, .ref y1_toolSet])), (y1_parent, .inl (g.2.1.1, 9, .inl f_y1_parent)), (y1_side, .inl (g.2.1.1, 9, .inl f_y1_side)), (h0_corner, .inl (g.2.1.1, 27, .inl f_h0_corner)), (h0_start, .inl (g.2.1.1, 3, .inl f6)), (h0_north, .inl (g.2.1.1, 9, .inl f_h0_north)), (h0_east, .inl (g.2.1.1, 9, .inl f_h0_east)), (y1_from, .inl (g.2.1.1, 9, .inl f_y1_from)), (y1_height, .inl (g.2.1.1, 9, .inl f_y1_height)), (y1_width, .inl (g.2.1.1, 9, .inl f_y1_width)), (h0_far, .inl (g.2.1.1, 3, .inl f7)), (h0, .inr (5, [.ref h0_low, .ref h0_high, .ref h0_normal, .ref h0_corner, .ref h0_east, .ref h0_north, .ref h0_start, .ref h0_far])), (h0_normal, .inl (g.2.1.1, 18, .inl f5)), (h0_low, .inl (g.2.1.1, 54, .inl f8)), (h0_high, .inl (g.2.1.1, 54, .inl f9))] → va_S A s.heap H locs → lv_has ls 5 [(0, .ref h0), (1, .ref y1), (2, .int x2), (3, .int v217), (4, .int v176)] → W p l e rm_kX5_metByPunch s m args below meth c H locs 0 0 Q (F0 m 51 ls []) := by
          intro v217 H locs ls i219 hP hD hS hl
          obtain ⟨z220, e221⟩ : ∃ y9 : Int32, y9 = v176 + 1 := ⟨_, rfl⟩
          have f222 : z220.toInt = v176.toInt + 1 := za e221 (rfl : v176.toInt = _) (show (1 : Int32).toInt = (1 : Int) from by decide) (ox_212 (zr v176) (zr y1_count) c207i hy1 i205)
          refine lv_iinc (v := z220) (lv' := [(4, .int z220), (0, .ref h0), (1, .ref y1), (2, .int x2), (3, .int v217)]) hx hb dX5_metByPunch_51 hl (k := 4) rfl (by rw [e221]; rfl) (by decide) rfl (fun ls hl => ?_)
          refine lv_goto (tgt := 24) hx hb dX5_metByPunch_54 (by decide) ?_
          exact ih203 v217 z220 H locs ls (ox_210 (zr v217) i219) (ox_213 c207i f222 hy1 i205) (zdec hm206 (ox_214 c207i f222 hy1 i205)) (hP.sub [0, 1, 2, 11, 12, 3, 4, 5, 6, 7, 8, 9, 10, 13, 14] rfl) (hD.sub [0, 1, 2, 11, 12, 3, 4, 5, 6, 7, 8, 9, 10, 13, 14] (by decide) rfl) hS (lv_sub hl [1, 2, 3, 4, 0] rfl)
        refine lv_if_eq (tgt := 51) hx hb dX5_metByPunch_41 (by decide) (fun c223 => ?_) (fun c223 => ?_)
        · skip
          have c223i : r208.toInt = (0 : Int) := (zc_eq (rfl : r208.toInt = _) (show (0 : Int32).toInt = (0 : Int) from by decide)).mp c223
          exact J218 v175 H locs ls (ox_210 (zr v175) i204) hP hD hS (lv_sub hl [0, 1, 2, 3, 4] rfl)
        · skip
          have c223i : ¬ (r208.toInt = (0 : Int)) := fun q => c223 ((zc_eq (rfl : r208.toInt = _) (show (0 : Int32).toInt = (0 : Int) from by decide)).mpr q)
          refine lv_iload_n hx hb dX5_metByPunch_44 rfl (lv_at hl 3 rfl) ?_
          refine lv_iconst (v := 1) hx hb dX5_metByPunch_45 (by decide) ?_
          refine lv_iload hx hb dX5_metByPunch_46 (lv_at hl 4 rfl) ?_
          refine lv_ishl hx hb dX5_metByPunch_48 ?_
          refine lv_topi (fun z224 e225 => ?_)
          have f226 : 1 ≤ z224.toInt ∧ z224.toInt ≤ 256 := zshl1 8 e225 (rfl : v176.toInt = _) (by decide) (ox_215 c207i hy1 i205)
          refine lv_ior hx hb dX5_metByPunch_49 ?_
          refine lv_topi (fun z227 e228 => ?_)
          have f229 : 0 ≤ z227.toInt ∧ z227.toInt < 2147483648 := zor 31 e228 (rfl : v175.toInt = _) (rfl : z224.toInt = _) (by decide) (ox_216 (zr v175) (zr z224) f226 i204)
          refine lv_istore_n (lv' := [(3, .int z227), (0, .ref h0), (1, .ref y1), (2, .int x2), (4, .int v176)]) hx hb dX5_metByPunch_50 rfl hl (by decide) rfl (fun ls hl => ?_)
          exact J218 z227 H locs ls (ox_217 (zr z227) f229) hP hD hS (lv_sub hl [1, 2, 3, 0, 4] rfl)
  exact L201 _ (0 : Int32) (0 : Int32) H locs ls ((show 0 ≤ (0 : Int) ∧ (0 : Int) ≤ 2147483647 from by decide)) ((show 0 ≤ (0 : Int) ∧ (0 : Int) ≤ 9 from by decide)) (Nat.lt_succ_self _) hP hD hS (lv_sub hl [2, 3, 4, 1, 0] rfl)
theorem dX5_roomFor_0 : decode cX5_roomFor 0 = .ok (.aload_n 0, 1) := by decide +kernel
theorem dX5_roomFor_1 : decode cX5_roomFor 1 = .ok (.aload_n 1, 1) := by decide +kernel
theorem dX5_roomFor_2 : decode cX5_roomFor 2 = .ok (.iload_n 2, 1) := by decide +kernel
theorem dX5_roomFor_3 : decode cX5_roomFor 3 = .ok (.iload_n 3, 1) := by decide +kernel
theorem dX5_roomFor_4 : decode cX5_roomFor 4 = .ok (.bipush 99, 2) := by decide +kernel
theorem dX5_roomFor_6 : decode cX5_roomFor 6 = .ok (.invokevirtual 163, 3) := by decide +kernel
theorem dX5_roomFor_9 : decode cX5_roomFor 9 = .ok (.istore 4, 2) := by decide +kernel
theorem dX5_roomFor_11 : decode cX5_roomFor 11 = .ok (.iload 4, 2) := by decide +kernel
theorem dX5_roomFor_13 : decode cX5_roomFor 13 = .ok (.iconst 1, 1) := by decide +kernel
theorem dX5_roomFor_14 : decode cX5_roomFor 14 = .ok (.ishr, 1) := by decide +kernel
theorem dX5_roomFor_15 : decode cX5_roomFor 15 = .ok (.istore 5, 2) := by decide +kernel
theorem dX5_roomFor_17 : decode cX5_roomFor 17 = .ok (.bipush 99, 2) := by decide +kernel
theorem dX5_roomFor_19 : decode cX5_roomFor 19 = .ok (.istore 6, 2) := by decide +kernel
theorem dX5_roomFor_21 : decode cX5_roomFor 21 = .ok (.iconst 0, 1) := by decide +kernel
theorem dX5_roomFor_22 : decode cX5_roomFor 22 = .ok (.istore 7, 2) := by decide +kernel
theorem dX5_roomFor_24 : decode cX5_roomFor 24 = .ok (.iload 7, 2) := by decide +kernel
theorem dX5_roomFor_26 : decode cX5_roomFor 26 = .ok (.aload_n 1, 1) := by decide +kernel
theorem dX5_roomFor_27 : decode cX5_roomFor 27 = .ok (.getfield 40, 3) := by decide +kernel
theorem dX5_roomFor_30 : decode cX5_roomFor 30 = .ok (.if_icmp .ge 77, 3) := by decide +kernel
theorem dX5_roomFor_107 : decode cX5_roomFor 107 = .ok (.iload 6, 2) := by decide +kernel
theorem dX5_roomFor_109 : decode cX5_roomFor 109 = .ok (.ireturn, 1) := by decide +kernel
theorem dX5_roomFor_33 : decode cX5_roomFor 33 = .ok (.aload_n 0, 1) := by decide +kernel
theorem dX5_roomFor_34 : decode cX5_roomFor 34 = .ok (.bipush 17, 2) := by decide +kernel
theorem dX5_roomFor_36 : decode cX5_roomFor 36 = .ok (.iload 7, 2) := by decide +kernel
theorem dX5_roomFor_38 : decode cX5_roomFor 38 = .ok (.invokevirtual 151, 3) := by decide +kernel
theorem dX5_roomFor_101 : decode cX5_roomFor 101 = .ok (.iinc 7 1, 3) := by decide +kernel
theorem dX5_roomFor_104 : decode cX5_roomFor 104 = .ok (.goto (-80), 3) := by decide +kernel
theorem dX5_roomFor_41 : decode cX5_roomFor 41 = .ok (.ifCond .eq 60, 3) := by decide +kernel
theorem dX5_roomFor_44 : decode cX5_roomFor 44 = .ok (.iload 4, 2) := by decide +kernel
theorem dX5_roomFor_46 : decode cX5_roomFor 46 = .ok (.iconst 1, 1) := by decide +kernel
theorem dX5_roomFor_47 : decode cX5_roomFor 47 = .ok (.iand, 1) := by decide +kernel
theorem dX5_roomFor_86 : decode cX5_roomFor 86 = .ok (.istore 8, 2) := by decide +kernel
theorem dX5_roomFor_88 : decode cX5_roomFor 88 = .ok (.iload 6, 2) := by decide +kernel
theorem dX5_roomFor_90 : decode cX5_roomFor 90 = .ok (.iconst 0, 1) := by decide +kernel
theorem dX5_roomFor_91 : decode cX5_roomFor 91 = .ok (.iload 8, 2) := by decide +kernel
theorem dX5_roomFor_93 : decode cX5_roomFor 93 = .ok (.invokestatic 126, 3) := by decide +kernel
theorem dX5_roomFor_96 : decode cX5_roomFor 96 = .ok (.invokestatic 121, 3) := by decide +kernel
theorem dX5_roomFor_99 : decode cX5_roomFor 99 = .ok (.istore 6, 2) := by decide +kernel
theorem dX5_roomFor_48 : decode cX5_roomFor 48 = .ok (.ifCond .ne 22, 3) := by decide +kernel
theorem dX5_roomFor_70 : decode cX5_roomFor 70 = .ok (.aload_n 0, 1) := by decide +kernel
theorem dX5_roomFor_71 : decode cX5_roomFor 71 = .ok (.getfield 30, 3) := by decide +kernel
theorem dX5_roomFor_74 : decode cX5_roomFor 74 = .ok (.iload 5, 2) := by decide +kernel
theorem dX5_roomFor_76 : decode cX5_roomFor 76 = .ok (.iaload, 1) := by decide +kernel
theorem dX5_roomFor_77 : decode cX5_roomFor 77 = .ok (.aload_n 0, 1) := by decide +kernel
theorem dX5_roomFor_78 : decode cX5_roomFor 78 = .ok (.iload 7, 2) := by decide +kernel
theorem dX5_roomFor_80 : decode cX5_roomFor 80 = .ok (.iload 5, 2) := by decide +kernel
theorem dX5_roomFor_82 : decode cX5_roomFor 82 = .ok (.invokevirtual 132, 3) := by decide +kernel
theorem dX5_roomFor_85 : decode cX5_roomFor 85 = .ok (.isub, 1) := by decide +kernel
theorem dX5_roomFor_51 : decode cX5_roomFor 51 = .ok (.aload_n 0, 1) := by decide +kernel
theorem dX5_roomFor_52 : decode cX5_roomFor 52 = .ok (.iload 7, 2) := by decide +kernel
theorem dX5_roomFor_54 : decode cX5_roomFor 54 = .ok (.iload 5, 2) := by decide +kernel
theorem dX5_roomFor_56 : decode cX5_roomFor 56 = .ok (.invokevirtual 129, 3) := by decide +kernel
theorem dX5_roomFor_59 : decode cX5_roomFor 59 = .ok (.aload_n 0, 1) := by decide +kernel
theorem dX5_roomFor_60 : decode cX5_roomFor 60 = .ok (.getfield 30, 3) := by decide +kernel
theorem dX5_roomFor_63 : decode cX5_roomFor 63 = .ok (.iload 5, 2) := by decide +kernel
theorem dX5_roomFor_65 : decode cX5_roomFor 65 = .ok (.iaload, 1) := by decide +kernel
theorem dX5_roomFor_66 : decode cX5_roomFor 66 = .ok (.isub, 1) := by decide +kernel
theorem dX5_roomFor_67 : decode cX5_roomFor 67 = .ok (.goto 19, 3) := by decide +kernel
abbrev rm_kX5_roomFor : Room := { frames := 4, cells := 0, slots := 0, locals := 93 }
set_option maxHeartbeats 4000000 in
set_option maxRecDepth 100000 in
theorem kX5_roomFor (l : Launch) (g : zL) (h0 : Nat) (y1 : Nat) (x2 : Int32) (x3 : Int32) (y1_count : Int32) (y1_statements : Int32) (y1_thick : Int32) (y1_punch : Int32) (y1_ups : Int32) (y1_toolCount : Int32) (y1_toolWidth : Nat) (y1_told : Nat) (y1_name : Nat) (y1_parent : Nat) (y1_side : Nat) (y1_from : Nat) (y1_width : Nat) (y1_height : Nat) (y1_radius : Nat) (y1_toolSet : Nat) (f_y1_parent : Nat → Int32) (f_y1_side : Nat → Int32) (h0_low : Nat) (h0_high : Nat) (h0_normal : Nat) (h0_corner : Nat) (h0_east : Nat) (h0_north : Nat) (h0_start : Nat) (h0_far : Nat) (f_h0_normal : Nat → Int32) (f_h0_corner : Nat → Int32) (f_h0_start : Nat → Int32) (f_h0_north : Nat → Int32) (f_h0_east : Nat → Int32) (f_y1_from : Nat → Int32) (f_y1_height : Nat → Int32) (f_y1_width : Nat → Int32) (f_h0_far : Nat → Int32) (f_h0_low : Nat → Int32) (f_h0_high : Nat → Int32) (hy0 : 1 ≤ x2.toInt ∧ x2.toInt ≤ 8) (hy1 : 0 ≤ x3.toInt ∧ x3.toInt ≤ 1) (hy2 : 0 ≤ y1_count.toInt ∧ y1_count.toInt ≤ 9) (hy3 : 0 ≤ y1_toolCount.toInt ∧ y1_toolCount.toInt ≤ 8) (hy4 : aI 0 8 f_y1_parent) (hy5 : aI 0 3 f_y1_side) (hy6 : aI 0 5 f_h0_normal) (hy7 : aI 0 5 f_h0_north) (hy8 : aI 0 5 f_h0_east) : zCi l g yX5_roomFor cX5_roomFor 9 (some .int) rm_kX5_roomFor [.ref h0, .ref y1, .int x2, .int x3] [(y1, .inr (4, [.int y1_count, .int y1_statements, .int y1_thick, .int y1_punch, .int y1_ups, .int y1_toolCount, .ref y1_toolWidth, .ref y1_told, .ref y1_name, .ref y1_parent, .ref y1_side, .ref y1_from, .ref y1_width, .ref y1_height, .ref y1_radius, .ref y1_toolSet])), (y1_parent, .inl (g.2.1.1, 9, .inl f_y1_parent)), (y1_side, .inl (g.2.1.1, 9, .inl f_y1_side)), (h0, .inr (5, [.ref h0_low, .ref h0_high, .ref h0_normal, .ref h0_corner, .ref h0_east, .ref h0_north, .ref h0_start, .ref h0_far])), (h0_normal, .inl (g.2.1.1, 18, .inl f_h0_normal)), (h0_corner, .inl (g.2.1.1, 27, .inl f_h0_corner)), (h0_start, .inl (g.2.1.1, 3, .inl f_h0_start)), (h0_north, .inl (g.2.1.1, 9, .inl f_h0_north)), (h0_east, .inl (g.2.1.1, 9, .inl f_h0_east)), (y1_from, .inl (g.2.1.1, 9, .inl f_y1_from)), (y1_height, .inl (g.2.1.1, 9, .inl f_y1_height)), (y1_width, .inl (g.2.1.1, 9, .inl f_y1_width)), (h0_far, .inl (g.2.1.1, 3, .inl f_h0_far)), (h0_low, .inl (g.2.1.1, 54, .inl f_h0_low)), (h0_high, .inl (g.2.1.1, 54, .inl f_h0_high))] (fun (r : Int32) (u : (Nat → Int32) × (Nat → Int32) × (Nat → Int32) × (Nat → Int32) × (Nat → Int32)) => (aI 0 5 u.1) ∧ (0 ≤ r.toInt ∧ r.toInt ≤ 99)) (fun (u : (Nat → Int32) × (Nat → Int32) × (Nat → Int32) × (Nat → Int32) × (Nat → Int32)) => [(y1, .inr (4, [.int y1_count, .int y1_statements, .int y1_thick, .int y1_punch, .int y1_ups, .int y1_toolCount, .ref y1_toolWidth, .ref y1_told, .ref y1_name, .ref y1_parent, .ref y1_side, .ref y1_from, .ref y1_width, .ref y1_height, .ref y1_radius, .ref y1_toolSet])), (y1_parent, .inl (g.2.1.1, 9, .inl f_y1_parent)), (y1_side, .inl (g.2.1.1, 9, .inl f_y1_side)), (h0, .inr (5, [.ref h0_low, .ref h0_high, .ref h0_normal, .ref h0_corner, .ref h0_east, .ref h0_north, .ref h0_start, .ref h0_far])), (h0_normal, .inl (g.2.1.1, 18, .inl u.1)), (h0_corner, .inl (g.2.1.1, 27, .inl f_h0_corner)), (h0_start, .inl (g.2.1.1, 3, .inl u.2.1)), (h0_north, .inl (g.2.1.1, 9, .inl f_h0_north)), (h0_east, .inl (g.2.1.1, 9, .inl f_h0_east)), (y1_from, .inl (g.2.1.1, 9, .inl f_y1_from)), (y1_height, .inl (g.2.1.1, 9, .inl f_y1_height)), (y1_width, .inl (g.2.1.1, 9, .inl f_y1_width)), (h0_far, .inl (g.2.1.1, 3, .inl u.2.2.1)), (h0_low, .inl (g.2.1.1, 54, .inl u.2.2.2.1)), (h0_high, .inl (g.2.1.1, 54, .inl u.2.2.2.2))]) := by
  refine zCi.mk2 (by decide) (Nat.le_of_ble_eq_true rfl) ?_
  intro p e s m below meth c A args Q hE hret hP hD hS ls hl
  obtain ⟨hx, hb, hr, hml, hown, hG, hlocks, hnm, hX, hA⟩ := hE
  have hown : s.vm.findClass RX5 = some m.cls := hown
  have hl : lv_has ls 9 [(0, .ref h0), (1, .ref y1), (2, .int x2), (3, .int x3)] := hl
  refine lv_aload_n hx hb dX5_roomFor_0 rfl (lv_at hl 0 rfl) ?_
  refine lv_aload_n hx hb dX5_roomFor_1 rfl (lv_at hl 1 rfl) ?_
  refine lv_iload_n hx hb dX5_roomFor_2 rfl (lv_at hl 2 rfl) ?_
  refine lv_iload_n hx hb dX5_roomFor_3 rfl (lv_at hl 3 rfl) ?_
  refine lv_bipush (v := 99) hx hb dX5_roomFor_4 (by decide) ?_
  refine zfi (wr := []) (va_runV (As := [.ref y1, .int x2, .int x3, .int 99]) (rest := []) ⟨hx, hb, hml, hown, hG⟩ (kX5_standPunch l g h0 y1 x2 x3 (99 : Int32) y1_count y1_statements y1_thick y1_punch y1_ups y1_toolCount y1_toolWidth y1_told y1_name y1_parent y1_side y1_from y1_width y1_height y1_radius y1_toolSet f_y1_parent f_y1_side h0_low h0_high h0_normal h0_corner h0_east h0_north h0_start h0_far f_h0_normal f_h0_corner f_h0_start f_h0_north f_h0_east f_y1_from f_y1_height f_y1_width f_h0_far f_h0_low f_h0_high (ox_209 hy0) (ox_33 hy1) (ox_0 hy2) (ox_1 hy3) hy4 hy5 hy6 hy7 hy8 _) ⟨callB_of 4 hG (zGood wc_X5_standPunch) rfl rfl rfl (hG _ wini_X5) (hG _ wm_X5_163) hX5_standPunch ⟨Nat.le_of_ble_eq_true rfl, Nat.le_of_ble_eq_true rfl⟩, hG _ wi_X5_standPunch, hG _ wse_X5_X5_standPunch⟩ (zpreV (va_recv hX.1 hP (ci := 5) (q0 := 3) rfl rfl) hX hP hD hS hA [0, 1, 2, 3, 4, 5, 6, 7, 8, 9, 10, 11, 12, 13, 14] rfl (by decide)) rfl rfl hl.1 rfl (lv_room (Nat.le_of_ble_eq_true rfl)) dX5_roomFor_6 ⟨Nat.le_of_ble_eq_true rfl, Nat.le_of_ble_eq_true rfl⟩) hP hD hS hA [0, 1, 2, 3, 4, 5, 6, 7, 8, 9, 10, 11, 12, 13, 14] [] rfl rfl (by decide) (by decide) (fun r1 u2 H locs hp hP hD hS => ?_)
  refine W.cs (cells' := 0) (slots' := 0) rfl rfl ?_
  obtain ⟨f3, f4, f5, f6, f7⟩ := u2
  obtain ⟨hq8, hq9⟩ : (aI 0 5 f3) ∧ (0 ≤ r1.toInt ∧ r1.toInt ≤ 5) := hp
  have hP : va_P g.1 vwCl [(y1, .inr (4, [.int y1_count, .int y1_statements, .int y1_thick, .int y1_punch, .int y1_ups, .int y1_toolCount, .ref y1_toolWidth, .ref y1_told, .ref y1_name, .ref y1_parent, .ref y1_side, .ref y1_from, .ref y1_width, .ref y1_height, .ref y1_radius, .ref y1_toolSet])), (y1_parent, .inl (g.2.1.1, 9, .inl f_y1_parent)), (y1_side, .inl (g.2.1.1, 9, .inl f_y1_side)), (h0, .inr (5, [.ref h0_low, .ref h0_high, .ref h0_normal, .ref h0_corner, .ref h0_east, .ref h0_north, .ref h0_start, .ref h0_far])), (h0_normal, .inl (g.2.1.1, 18, .inl f3)), (h0_corner, .inl (g.2.1.1, 27, .inl f_h0_corner)), (h0_start, .inl (g.2.1.1, 3, .inl f4)), (h0_north, .inl (g.2.1.1, 9, .inl f_h0_north)), (h0_east, .inl (g.2.1.1, 9, .inl f_h0_east)), (y1_from, .inl (g.2.1.1, 9, .inl f_y1_from)), (y1_height, .inl (g.2.1.1, 9, .inl f_y1_height)), (y1_width, .inl (g.2.1.1, 9, .inl f_y1_width)), (h0_far, .inl (g.2.1.1, 3, .inl f5)), (h0_low, .inl (g.2.1.1, 54, .inl f6)), (h0_high, .inl (g.2.1.1, 54, .inl f7))] H := hP
  have hD : va_D A [(y1, .inr (4, [.int y1_count, .int y1_statements, .int y1_thick, .int y1_punch, .int y1_ups, .int y1_toolCount, .ref y1_toolWidth, .ref y1_told, .ref y1_name, .ref y1_parent, .ref y1_side, .ref y1_from, .ref y1_width, .ref y1_height, .ref y1_radius, .ref y1_toolSet])), (y1_parent, .inl (g.2.1.1, 9, .inl f_y1_parent)), (y1_side, .inl (g.2.1.1, 9, .inl f_y1_side)), (h0, .inr (5, [.ref h0_low, .ref h0_high, .ref h0_normal, .ref h0_corner, .ref h0_east, .ref h0_north, .ref h0_start, .ref h0_far])), (h0_normal, .inl (g.2.1.1, 18, .inl f3)), (h0_corner, .inl (g.2.1.1, 27, .inl f_h0_corner)), (h0_start, .inl (g.2.1.1, 3, .inl f4)), (h0_north, .inl (g.2.1.1, 9, .inl f_h0_north)), (h0_east, .inl (g.2.1.1, 9, .inl f_h0_east)), (y1_from, .inl (g.2.1.1, 9, .inl f_y1_from)), (y1_height, .inl (g.2.1.1, 9, .inl f_y1_height)), (y1_width, .inl (g.2.1.1, 9, .inl f_y1_width)), (h0_far, .inl (g.2.1.1, 3, .inl f5)), (h0_low, .inl (g.2.1.1, 54, .inl f6)), (h0_high, .inl (g.2.1.1, 54, .inl f7))] := hD
  refine lv_istore (lv' := [(4, .int r1), (0, .ref h0), (1, .ref y1), (2, .int x2), (3, .int x3)]) hx hb dX5_roomFor_9 hl (by decide) rfl (fun ls hl => ?_)
  refine lv_iload hx hb dX5_roomFor_11 (lv_at hl 0 rfl) ?_
  refine lv_iconst (v := 1) hx hb dX5_roomFor_13 (by decide) ?_
  refine lv_ishr hx hb dX5_roomFor_14 ?_
  refine lv_topi (fun z10 e11 => ?_)
  have f12 : z10.toInt = r1.toInt / 2 := zshr 1 e11 (by decide) (rfl : r1.toInt = _)
  refine lv_istore (lv' := [(5, .int z10), (4, .int r1), (0, .ref h0), (1, .ref y1), (2, .int x2), (3, .int x3)]) hx hb dX5_roomFor_15 hl (by decide) rfl (fun ls hl => ?_)
  refine lv_bipush (v := 99) hx hb dX5_roomFor_17 (by decide) ?_
  refine lv_istore (lv' := [(6, .int 99), (5, .int z10), (4, .int r1), (0, .ref h0), (1, .ref y1), (2, .int x2), (3, .int x3)]) hx hb dX5_roomFor_19 hl (by decide) rfl (fun ls hl => ?_)
  refine lv_iconst (v := 0) hx hb dX5_roomFor_21 (by decide) ?_
  refine lv_istore (lv' := [(7, .int 0), (6, .int 99), (5, .int z10), (4, .int r1), (0, .ref h0), (1, .ref y1), (2, .int x2), (3, .int x3)]) hx hb dX5_roomFor_22 hl (by decide) rfl (fun ls hl => ?_)
  have L630 : ∀ (n : Nat) (v552 : Int32) (v553 : Int32) (H : Heap) (locs : List Loc) (ls : Array Slot), 0 ≤ v552.toInt ∧ v552.toInt ≤ 99 → 0 ≤ v553.toInt ∧ v553.toInt ≤ 9 → (10 - v553.toInt).toNat < n → va_P g.1 vwCl [(y1, .inr (4, [.int y1_count, .int y1_statements, .int y1_thick, .int y1_punch, .int y1_ups, .int y1_toolCount, .ref y1_toolWidth, .ref y1_told, .ref y1_name, .ref y1_parent, .ref y1_side, .ref y1_from, .ref y1_width, .ref y1_height, .ref y1_radius, .ref y1_toolSet])), (y1_parent, .inl (g.2.1.1, 9, .inl f_y1_parent)), (y1_side, .inl (g.2.1.1, 9, .inl f_y1_side)), (h0, .inr (5, [.ref h0_low, .ref h0_high, .ref h0_normal, .ref h0_corner, .ref h0_east, .ref h0_north, .ref h0_start, .ref h0_far])), (h0_normal, .inl (g.2.1.1, 18, .inl f3)), (h0_corner, .inl (g.2.1.1, 27, .inl f_h0_corner)), (h0_start, .inl (g.2.1.1, 3, .inl f4)), (h0_north, .inl (g.2.1.1, 9, .inl f_h0_north)), (h0_east, .inl (g.2.1.1, 9, .inl f_h0_east)), (y1_from, .inl (g.2.1.1, 9, .inl f_y1_from)), (y1_height, .inl (g.2.1.1, 9, .inl f_y1_height)), (y1_width, .inl (g.2.1.1, 9, .inl f_y1_width)), (h0_far, .inl (g.2.1.1, 3, .inl f5)), (h0_low, .inl (g.2.1.1, 54, .inl f6)), (h0_high, .inl (g.2.1.1, 54, .inl f7))] H → va_D A [(y1, .inr (4, [.int y1_count, .int y1_statements, .int y1_thick, .int y1_punch, .int y1_ups, .int y1_toolCount, .ref y1_toolWidth, .ref y1_told, .ref y1_name, .ref y1_parent, .ref y1_side, .ref y1_from, .ref y1_width, .ref y1_height, .ref y1_radius, .ref y1_toolSet])), (y1_parent, .inl (g.2.1.1, 9, .inl f_y1_parent)), (y1_side, .inl (g.2.1.1, 9, .inl f_y1_side)), (h0, .inr (5, [.ref h0_low, .ref h0_high, .ref h0_normal, .ref h0_corner, .ref h0_east, .ref h0_north, .ref h0_start, .ref h0_far])), (h0_normal, .inl (g.2.1.1, 18, .inl f3)), (h0_corner, .inl (g.2.1.1, 27, .inl f_h0_corner)), (h0_start, .inl (g.2.1.1, 3, .inl f4)), (h0_north, .inl (g.2.1.1, 9, .inl f_h0_north)), (h0_east, .inl (g.2.1.1, 9, .inl f_h0_east)), (y1_from, .inl (g.2.1.1, 9, .inl f_y1_from)), (y1_height, .inl (g.2.1.1, 9, .inl f_y1_height)), (y1_width, .inl (g.2.1.1, 9, .inl f_y1_width)), (h0_far, .inl (g.2.1.1, 3, .inl f5)), (h0_low, .inl (g.2.1.1, 54, .inl f6)), (h0_high, .inl (g.2.1.1, 54, .inl f7))] → va_S A s.heap H locs → lv_has ls 9 [(0, .ref h0), (1, .ref y1), (2, .int x2), (3, .int x3), (4, .int r1), (5, .int z10), (6, .int v552), (7, .int v553)] → W p l e rm_kX5_roomFor s m args below meth c H locs 0 0 Q (F0 m 24 ls []) := by
    intro n631
    induction n631 with
    | zero => intro v552 v553 H locs ls i633 i634 hm635; exact absurd hm635 (Nat.not_lt_zero _)
    | succ n631 ih632 =>
      intro v552 v553 H locs ls i633 i634 hm635 hP hD hS hl
      refine lv_iload hx hb dX5_roomFor_24 (lv_at hl 7 rfl) ?_
      refine lv_aload_n hx hb dX5_roomFor_26 rfl (lv_at hl 1 rfl) ?_
      refine va_getN (D := g.1) (ci := 4) (v := .int y1_count) (C := RX4) (T := TX4) (N := 16) hx hb hG iX4 hown hX.1 hP 0 rfl rfl 0 (by decide) (hX.2.1.fl wfn_X5_40) (fun _ h9 => h9) rfl dX5_roomFor_27 ?_
      refine lv_icmp_ge (tgt := 107) hx hb dX5_roomFor_30 (by decide) (fun c636 => ?_) (fun c636 => ?_)
      · skip
        have c636i : y1_count.toInt ≤ v553.toInt := (zc_le (rfl : y1_count.toInt = _) (rfl : v553.toInt = _)).mp c636
        refine lv_iload hx hb dX5_roomFor_107 (lv_at hl 6 rfl) ?_
        exact hret v552 (f3, f4, f5, f6, f7) (Nat.le_of_ble_eq_true rfl) (Nat.le_of_ble_eq_true rfl) rfl ⟨hq8, ox_218 i633⟩ hP hD hS dX5_roomFor_109
      · skip
        have c636i : ¬ (y1_count.toInt ≤ v553.toInt) := fun q => c636 ((zc_le (rfl : y1_count.toInt = _) (rfl : v553.toInt = _)).mpr q)
        refine lv_aload_n hx hb dX5_roomFor_33 rfl (lv_at hl 0 rfl) ?_
        refine lv_bipush (v := 17) hx hb dX5_roomFor_34 (by decide) ?_
        refine lv_iload hx hb dX5_roomFor_36 (lv_at hl 7 rfl) ?_
        refine zfi (wr := [(y1, .inr (4, [.int y1_count, .int y1_statements, .int y1_thick, .int y1_punch, .int y1_ups, .int y1_toolCount, .ref y1_toolWidth, .ref y1_told, .ref y1_name, .ref y1_parent, .ref y1_side, .ref y1_from, .ref y1_width, .ref y1_height, .ref y1_radius, .ref y1_toolSet])), (y1_parent, .inl (g.2.1.1, 9, .inl f_y1_parent)), (y1_side, .inl (g.2.1.1, 9, .inl f_y1_side)), (h0_corner, .inl (g.2.1.1, 27, .inl f_h0_corner)), (h0_start, .inl (g.2.1.1, 3, .inl f4)), (h0_north, .inl (g.2.1.1, 9, .inl f_h0_north)), (h0_east, .inl (g.2.1.1, 9, .inl f_h0_east)), (y1_from, .inl (g.2.1.1, 9, .inl f_y1_from)), (y1_height, .inl (g.2.1.1, 9, .inl f_y1_height)), (y1_width, .inl (g.2.1.1, 9, .inl f_y1_width)), (h0_far, .inl (g.2.1.1, 3, .inl f5))]) (va_runV (As := [.int 17, .int v553]) (rest := []) ⟨hx, hb, hml, hown, hG⟩ (kX5_doClash l g h0 (17 : Int32) v553 h0_low h0_high h0_normal h0_corner h0_east h0_north h0_start h0_far f3 f6 f7 ((show 0 ≤ (17 : Int) ∧ (17 : Int) ≤ 17 from by decide)) (ox_211 c636i hy2 i634) hq8 _) ⟨callB_of 2 hG (zGood wc_X5_doClash) rfl rfl rfl (hG _ wini_X5) (hG _ wm_X5_151) hX5_doClash ⟨Nat.le_of_ble_eq_true rfl, Nat.le_of_ble_eq_true rfl⟩, hG _ wi_X5_doClash, hG _ wse_X5_X5_doClash⟩ (zpreV (va_recv hX.1 hP (ci := 5) (q0 := 3) rfl rfl) hX hP hD hS hA [3, 4, 13, 14] rfl (by decide)) rfl rfl hl.1 rfl (lv_room (Nat.le_of_ble_eq_true rfl)) dX5_roomFor_38 ⟨Nat.le_of_ble_eq_true rfl, Nat.le_of_ble_eq_true rfl⟩) hP hD hS hA [3, 4, 13, 14] [0, 1, 2, 5, 6, 7, 8, 9, 10, 11, 12] rfl rfl (by decide) (by decide) (fun r637 _ H locs hp hP hD hS => ?_)
        refine W.cs (cells' := 0) (slots' := 0) rfl rfl ?_
        have hq638 : 0 ≤ r637.toInt ∧ r637.toInt ≤ 1 := hp
        have hP : va_P g.1 vwCl [(y1, .inr (4, [.int y1_count, .int y1_statements, .int y1_thick, .int y1_punch, .int y1_ups, .int y1_toolCount, .ref y1_toolWidth, .ref y1_told, .ref y1_name, .ref y1_parent, .ref y1_side, .ref y1_from, .ref y1_width, .ref y1_height, .ref y1_radius, .ref y1_toolSet])), (y1_parent, .inl (g.2.1.1, 9, .inl f_y1_parent)), (y1_side, .inl (g.2.1.1, 9, .inl f_y1_side)), (h0_corner, .inl (g.2.1.1, 27, .inl f_h0_corner)), (h0_start, .inl (g.2.1.1, 3, .inl f4)), (h0_north, .inl (g.2.1.1, 9, .inl f_h0_north)), (h0_east, .inl (g.2.1.1, 9, .inl f_h0_east)), (y1_from, .inl (g.2.1.1, 9, .inl f_y1_from)), (y1_height, .inl (g.2.1.1, 9, .inl f_y1_height)), (y1_width, .inl (g.2.1.1, 9, .inl f_y1_width)), (h0_far, .inl (g.2.1.1, 3, .inl f5)), (h0, .inr (5, [.ref h0_low, .ref h0_high, .ref h0_normal, .ref h0_corner, .ref h0_east, .ref h0_north, .ref h0_start, .ref h0_far])), (h0_normal, .inl (g.2.1.1, 18, .inl f3)), (h0_low, .inl (g.2.1.1, 54, .inl f6)), (h0_high, .inl (g.2.1.1, 54, .inl f7))] H := hP
        have hD : va_D A [(y1, .inr (4, [.int y1_count, .int y1_statements, .int y1_thick, .int y1_punch, .int y1_ups, .int y1_toolCount, .ref y1_toolWidth, .ref y1_told, .ref y1_name, .ref y1_parent, .ref y1_side, .ref y1_from, .ref y1_width, .ref y1_height, .ref y1_radius, .ref y1_toolSet])), (y1_parent, .inl (g.2.1.1, 9, .inl f_y1_parent)), (y1_side, .inl (g.2.1.1, 9, .inl f_y1_side)), (h0_corner, .inl (g.2.1.1, 27, .inl f_h0_corner)), (h0_start, .inl (g.2.1.1, 3, .inl f4)), (h0_north, .inl (g.2.1.1, 9, .inl f_h0_north)), (h0_east, .inl (g.2.1.1, 9, .inl f_h0_east)), (y1_from, .inl (g.2.1.1, 9, .inl f_y1_from)), (y1_height, .inl (g.2.1.1, 9, .inl f_y1_height)), (y1_width, .inl (g.2.1.1, 9, .inl f_y1_width)), (h0_far, .inl (g.2.1.1, 3, .inl f5)), (h0, .inr (5, [.ref h0_low, .ref h0_high, .ref h0_normal, .ref h0_corner, .ref h0_east, .ref h0_north, .ref h0_start, .ref h0_far])), (h0_normal, .inl (g.2.1.1, 18, .inl f3)), (h0_low, .inl (g.2.1.1, 54, .inl f6)), (h0_high, .inl (g.2.1.1, 54, .inl f7))] := hD
        have J673 : ∀  (v672 : Int32) (H : Heap) (locs : List Loc) (ls : Array Slot), 0 ≤ v672.toInt ∧ v672.toInt ≤ 99 → va_P g.1 vwCl [(y1, .inr (4, [.int y1_count, .int y1_statements, .int y1_thick, .int y1_punch, .int y1_ups, .int y1_toolCount, .ref y1_toolWidth, .ref y1_told, .ref y1_name, .ref y1_parent, .ref y1_side, .ref y1_from, .ref y1_width, .ref y1_height, .ref y1_radius, .ref y1_toolSet])), (y1_parent, .inl (g.2.1.1, 9, .inl f_y1_parent)), (y1_side, .inl (g.2.1.1, 9, .inl f_y1_side)), (h0_corner, .inl (g.2.1.1, 27, .inl f_h0_corner)), (h0_start, .inl (g.2.1.1, 3, .inl f4)), (h0_north, .inl (g.2.1.1, 9, .inl f_h0_north)), (h0_east, .inl (g.2.1.1, 9, .inl f_h0_east)), (y1_from, .inl (g.2.1.1, 9, .inl f_y1_from)), (y1_height, .inl (g.2.1.1, 9, .inl f_y1_height)), (y1_width, .inl (g.2.1.1, 9, .inl f_y1_width)), (h0_far, .inl (g.2.1.1, 3, .inl f5)), (h0, .inr (5, [.ref h0_low, .ref h0_high, .ref h0_normal, .ref h0_corner, .ref h0_east, .ref h0_north, .ref h0_start, .ref h0_far])), (h0_normal, .inl (g.2.1.1, 18, .inl f3)), (h0_low, .inl (g.2.1.1, 54, .inl f6)), (h0_high, .inl (g.2.1.1, 54, .inl f7))] H → va_D A [(y1, .inr (4, [.int y1_count, .int y1_statements, .int y1_thick, .int y1_punch, .int y1_ups, .int y1_toolCount, .ref y1_toolWidth, .ref y1_told, .ref y1_name, .ref y1_parent, .ref y1_side, .ref y1_from, .ref y1_width, .ref y1_height, .ref y1_radius, .ref y1_toolSet])), (y1_parent, .inl (g.2.1.1, 9, .inl f_y1_parent)), (y1_side, .inl (g.2.1.1, 9, .inl f_y1_side)), (h0_corner, .inl (g.2.1.1, 27, .inl f_h0_corner)), (h0_start, .inl (g.2.1.1, 3, .inl f4)), (h0_north, .inl (g.2.1.1, 9, .inl f_h0_north)), (h0_east, .inl (g.2.1.1, 9, .inl f_h0_east)), (y1_from, .inl (g.2.1.1, 9, .inl f_y1_from)), (y1_height, .inl (g.2.1.1, 9, .inl f_y1_height)), (y1_width, .inl (g.2.1.1, 9, .inl f_y1_width)), (h0_far, .inl (g.2.1.1, 3, .inl f5)), (h0, .inr (5, [.ref h0_low, .ref h0_high, .ref h0_normal, .ref h0_corner, .ref h0_east, .ref h0_north, .ref h0_start, .ref h0_far])), (h0_normal, .inl (g.2.1.1, 18, .inl f3)), (h0_low, .inl (g.2.1.1, 54, .inl f6)), (h0_high, .inl (g.2.1.1, 54, .inl f7))] → va_S A s.heap H locs → lv_has ls 9 [(0, .ref h0), (1, .ref y1), (2, .int x2), (3, .int x3), (4, .int r1), (5, .int z10), (6, .int v672), (7, .int v553)] → W p l e rm_kX5_roomFor s m args below meth c H locs 0 0 Q (F0 m 101 ls []) := by
          intro v672 H locs ls i674 hP hD hS hl
          obtain ⟨z675, e676⟩ : ∃ y9 : Int32, y9 = v553 + 1 := ⟨_, rfl⟩
          have f677 : z675.toInt = v553.toInt + 1 := za e676 (rfl : v553.toInt = _) (show (1 : Int32).toInt = (1 : Int) from by decide) (ox_212 (zr v553) (zr y1_count) c636i hy2 i634)
          refine lv_iinc (v := z675) (lv' := [(7, .int z675), (0, .ref h0), (1, .ref y1), (2, .int x2), (3, .int x3), (4, .int r1), (5, .int z10), (6, .int v672)]) hx hb dX5_roomFor_101 hl (k := 7) rfl (by rw [e676]; rfl) (by decide) rfl (fun ls hl => ?_)
          refine lv_goto (tgt := 24) hx hb dX5_roomFor_104 (by decide) ?_
          exact ih632 v672 z675 H locs ls (ox_218 i674) (ox_213 c636i f677 hy2 i634) (zdec hm635 (ox_214 c636i f677 hy2 i634)) (hP.sub [0, 1, 2, 11, 12, 3, 4, 5, 6, 7, 8, 9, 10, 13, 14] rfl) (hD.sub [0, 1, 2, 11, 12, 3, 4, 5, 6, 7, 8, 9, 10, 13, 14] (by decide) rfl) hS (lv_sub hl [1, 2, 3, 4, 5, 6, 7, 0] rfl)
        refine lv_if_eq (tgt := 101) hx hb dX5_roomFor_41 (by decide) (fun c678 => ?_) (fun c678 => ?_)
        · skip
          have c678i : r637.toInt = (0 : Int) := (zc_eq (rfl : r637.toInt = _) (show (0 : Int32).toInt = (0 : Int) from by decide)).mp c678
          exact J673 v552 H locs ls (ox_218 i633) hP hD hS (lv_sub hl [0, 1, 2, 3, 4, 5, 6, 7] rfl)
        · skip
          have c678i : ¬ (r637.toInt = (0 : Int)) := fun q => c678 ((zc_eq (rfl : r637.toInt = _) (show (0 : Int32).toInt = (0 : Int) from by decide)).mpr q)
          refine lv_iload hx hb dX5_roomFor_44 (lv_at hl 4 rfl) ?_
          refine lv_iconst (v := 1) hx hb dX5_roomFor_46 (by decide) ?_
          refine lv_iand hx hb dX5_roomFor_47 ?_
          refine lv_topi (fun z679 e680 => ?_)
          have f681 : 0 ≤ z679.toInt ∧ z679.toInt ≤ (1 : Int) := zand e680 (show (1 : Int32).toInt = (1 : Int) from by decide) ((show 0 ≤ (1 : Int) from by decide))
          have J694 : ∀  (v693 : Int32) (H : Heap) (locs : List Loc) (ls : Array Slot), va_P g.1 vwCl [(y1, .inr (4, [.int y1_count, .int y1_statements, .int y1_thick, .int y1_punch, .int y1_ups, .int y1_toolCount, .ref y1_toolWidth, .ref y1_told, .ref y1_name, .ref y1_parent, .ref y1_side, .ref y1_from, .ref y1_width, .ref y1_height, .ref y1_radius, .ref y1_toolSet])), (y1_parent, .inl (g.2.1.1, 9, .inl f_y1_parent)), (y1_side, .inl (g.2.1.1, 9, .inl f_y1_side)), (h0_corner, .inl (g.2.1.1, 27, .inl f_h0_corner)), (h0_start, .inl (g.2.1.1, 3, .inl f4)), (h0_north, .inl (g.2.1.1, 9, .inl f_h0_north)), (h0_east, .inl (g.2.1.1, 9, .inl f_h0_east)), (y1_from, .inl (g.2.1.1, 9, .inl f_y1_from)), (y1_height, .inl (g.2.1.1, 9, .inl f_y1_height)), (y1_width, .inl (g.2.1.1, 9, .inl f_y1_width)), (h0_far, .inl (g.2.1.1, 3, .inl f5)), (h0_normal, .inl (g.2.1.1, 18, .inl f3)), (h0_low, .inl (g.2.1.1, 54, .inl f6)), (h0, .inr (5, [.ref h0_low, .ref h0_high, .ref h0_normal, .ref h0_corner, .ref h0_east, .ref h0_north, .ref h0_start, .ref h0_far])), (h0_high, .inl (g.2.1.1, 54, .inl f7))] H → va_D A [(y1, .inr (4, [.int y1_count, .int y1_statements, .int y1_thick, .int y1_punch, .int y1_ups, .int y1_toolCount, .ref y1_toolWidth, .ref y1_told, .ref y1_name, .ref y1_parent, .ref y1_side, .ref y1_from, .ref y1_width, .ref y1_height, .ref y1_radius, .ref y1_toolSet])), (y1_parent, .inl (g.2.1.1, 9, .inl f_y1_parent)), (y1_side, .inl (g.2.1.1, 9, .inl f_y1_side)), (h0_corner, .inl (g.2.1.1, 27, .inl f_h0_corner)), (h0_start, .inl (g.2.1.1, 3, .inl f4)), (h0_north, .inl (g.2.1.1, 9, .inl f_h0_north)), (h0_east, .inl (g.2.1.1, 9, .inl f_h0_east)), (y1_from, .inl (g.2.1.1, 9, .inl f_y1_from)), (y1_height, .inl (g.2.1.1, 9, .inl f_y1_height)), (y1_width, .inl (g.2.1.1, 9, .inl f_y1_width)), (h0_far, .inl (g.2.1.1, 3, .inl f5)), (h0_normal, .inl (g.2.1.1, 18, .inl f3)), (h0_low, .inl (g.2.1.1, 54, .inl f6)), (h0, .inr (5, [.ref h0_low, .ref h0_high, .ref h0_normal, .ref h0_corner, .ref h0_east, .ref h0_north, .ref h0_start, .ref h0_far])), (h0_high, .inl (g.2.1.1, 54, .inl f7))] → va_S A s.heap H locs → lv_has ls 9 [(0, .ref h0), (1, .ref y1), (2, .int x2), (3, .int x3), (4, .int r1), (5, .int z10), (6, .int v552), (7, .int v553)] → W p l e rm_kX5_roomFor s m args below meth c H locs 0 0 Q (F0 m 86 ls [.int v693]) := by
            intro v693 H locs ls  hP hD hS hl
            refine lv_istore (lv' := [(8, .int v693), (0, .ref h0), (1, .ref y1), (2, .int x2), (3, .int x3), (4, .int r1), (5, .int z10), (6, .int v552), (7, .int v553)]) hx hb dX5_roomFor_86 hl (by decide) rfl (fun ls hl => ?_)
            refine lv_iload hx hb dX5_roomFor_88 (lv_at hl 7 rfl) ?_
            refine lv_iconst (v := 0) hx hb dX5_roomFor_90 (by decide) ?_
            refine lv_iload hx hb dX5_roomFor_91 (lv_at hl 0 rfl) ?_
            refine va_mmax hx hb (by rw [hml]; exact hl.1.symm) hown (hG _ wm_X5_126) (hG _ ws_J9_max_7cf53) (hG _ wini_J9) (hG _ wc_J9_max_7cf53) (Nat.le_of_ble_eq_true rfl) (Nat.le_of_ble_eq_true rfl) (Nat.le_of_ble_eq_true rfl) (Nat.le_of_ble_eq_true rfl) dX5_roomFor_93 ?_
            refine lv_topi (fun z695 e696 => ?_)
            have f697 : z695.toInt ≥ (0 : Int) ∧ z695.toInt ≥ v693.toInt ∧ (z695.toInt = (0 : Int) ∨ z695.toInt = v693.toInt) := zmx e696 (show (0 : Int32).toInt = (0 : Int) from by decide) (rfl : v693.toInt = _)
            refine va_mmin hx hb (by rw [hml]; exact hl.1.symm) hown (hG _ wm_X5_121) (hG _ ws_J9_min_7cf53) (hG _ wini_J9) (hG _ wc_J9_min_7cf53) (Nat.le_of_ble_eq_true rfl) (Nat.le_of_ble_eq_true rfl) (Nat.le_of_ble_eq_true rfl) (Nat.le_of_ble_eq_true rfl) dX5_roomFor_96 ?_
            refine lv_topi (fun z698 e699 => ?_)
            have f700 : z698.toInt ≤ v552.toInt ∧ z698.toInt ≤ z695.toInt ∧ (z698.toInt = v552.toInt ∨ z698.toInt = z695.toInt) := zmn e699 (rfl : v552.toInt = _) (rfl : z695.toInt = _)
            refine lv_istore (lv' := [(6, .int z698), (8, .int v693), (0, .ref h0), (1, .ref y1), (2, .int x2), (3, .int x3), (4, .int r1), (5, .int z10), (7, .int v553)]) hx hb dX5_roomFor_99 hl (by decide) rfl (fun ls hl => ?_)
            exact J673 z698 H locs ls (ox_219 f697 f700 i633) (hP.sub [0, 1, 2, 3, 4, 5, 6, 7, 8, 9, 10, 13, 11, 12, 14] rfl) (hD.sub [0, 1, 2, 3, 4, 5, 6, 7, 8, 9, 10, 13, 11, 12, 14] (by decide) rfl) hS (lv_sub hl [2, 3, 4, 5, 6, 7, 0, 8] rfl)
          refine lv_if_ne (tgt := 70) hx hb dX5_roomFor_48 (by decide) (fun c701 => ?_) (fun c701 => ?_)
          · skip
            have c701i : ¬ (z679.toInt = (0 : Int)) := fun q => c701 ((zc_eq (rfl : z679.toInt = _) (show (0 : Int32).toInt = (0 : Int) from by decide)).mpr q)
            refine lv_aload_n hx hb dX5_roomFor_70 rfl (lv_at hl 0 rfl) ?_
            refine va_get (D := g.1) (ci := 5) (v := .ref h0_start) (C := RX5) (T := TX5) (N := 8) hx hb hG iX5 hown hX.1 hP 11 rfl rfl 6 (by decide) (hG _ wf_X5_30) (fun _ h9 => h9) rfl dX5_roomFor_71 ?_
            refine lv_iload hx hb dX5_roomFor_74 (lv_at hl 5 rfl) ?_
            refine va_iald hx hb hX.1 hP 4 0 rfl rfl (zin (rfl : z10.toInt = _) (ox_138 f12 hq9)) dX5_roomFor_76 ?_
            refine lv_topi (fun z702 e703 => ?_)
            refine lv_aload_n hx hb dX5_roomFor_77 rfl (lv_at hl 0 rfl) ?_
            refine lv_iload hx hb dX5_roomFor_78 (lv_at hl 7 rfl) ?_
            refine lv_iload hx hb dX5_roomFor_80 (lv_at hl 5 rfl) ?_
            refine zfi (wr := [(y1, .inr (4, [.int y1_count, .int y1_statements, .int y1_thick, .int y1_punch, .int y1_ups, .int y1_toolCount, .ref y1_toolWidth, .ref y1_told, .ref y1_name, .ref y1_parent, .ref y1_side, .ref y1_from, .ref y1_width, .ref y1_height, .ref y1_radius, .ref y1_toolSet])), (y1_parent, .inl (g.2.1.1, 9, .inl f_y1_parent)), (y1_side, .inl (g.2.1.1, 9, .inl f_y1_side)), (h0_corner, .inl (g.2.1.1, 27, .inl f_h0_corner)), (h0_start, .inl (g.2.1.1, 3, .inl f4)), (h0_north, .inl (g.2.1.1, 9, .inl f_h0_north)), (h0_east, .inl (g.2.1.1, 9, .inl f_h0_east)), (y1_from, .inl (g.2.1.1, 9, .inl f_y1_from)), (y1_height, .inl (g.2.1.1, 9, .inl f_y1_height)), (y1_width, .inl (g.2.1.1, 9, .inl f_y1_width)), (h0_far, .inl (g.2.1.1, 3, .inl f5)), (h0_normal, .inl (g.2.1.1, 18, .inl f3)), (h0_low, .inl (g.2.1.1, 54, .inl f6))]) (va_runV (As := [.int v553, .int z10]) (rest := [.int z702]) ⟨hx, hb, hml, hown, hG⟩ (kX5_highOf l g h0 v553 z10 h0_low h0_high h0_normal h0_corner h0_east h0_north h0_start h0_far f7 (ox_211 c636i hy2 i634) (ox_220 f12 hq9) _) ⟨callB_of 2 hG (zGood wc_X5_highOf) rfl rfl rfl (hG _ wini_X5) (hG _ wm_X5_132) hX5_highOf ⟨Nat.le_of_ble_eq_true rfl, Nat.le_of_ble_eq_true rfl⟩, hG _ wi_X5_highOf, hG _ wse_X5_X5_highOf⟩ (zpreV (va_recv hX.1 hP (ci := 5) (q0 := 11) rfl rfl) hX hP hD hS hA [11, 14] rfl (by decide)) rfl rfl hl.1 rfl (lv_room (Nat.le_of_ble_eq_true rfl)) dX5_roomFor_82 ⟨Nat.le_of_ble_eq_true rfl, Nat.le_of_ble_eq_true rfl⟩) hP hD hS hA [11, 14] [0, 1, 2, 3, 4, 5, 6, 7, 8, 9, 10, 12, 13] rfl rfl (by decide) (by decide) (fun r704 _ H locs hp hP hD hS => ?_)
            refine W.cs (cells' := 0) (slots' := 0) rfl rfl ?_
            have hP : va_P g.1 vwCl [(y1, .inr (4, [.int y1_count, .int y1_statements, .int y1_thick, .int y1_punch, .int y1_ups, .int y1_toolCount, .ref y1_toolWidth, .ref y1_told, .ref y1_name, .ref y1_parent, .ref y1_side, .ref y1_from, .ref y1_width, .ref y1_height, .ref y1_radius, .ref y1_toolSet])), (y1_parent, .inl (g.2.1.1, 9, .inl f_y1_parent)), (y1_side, .inl (g.2.1.1, 9, .inl f_y1_side)), (h0_corner, .inl (g.2.1.1, 27, .inl f_h0_corner)), (h0_start, .inl (g.2.1.1, 3, .inl f4)), (h0_north, .inl (g.2.1.1, 9, .inl f_h0_north)), (h0_east, .inl (g.2.1.1, 9, .inl f_h0_east)), (y1_from, .inl (g.2.1.1, 9, .inl f_y1_from)), (y1_height, .inl (g.2.1.1, 9, .inl f_y1_height)), (y1_width, .inl (g.2.1.1, 9, .inl f_y1_width)), (h0_far, .inl (g.2.1.1, 3, .inl f5)), (h0_normal, .inl (g.2.1.1, 18, .inl f3)), (h0_low, .inl (g.2.1.1, 54, .inl f6)), (h0, .inr (5, [.ref h0_low, .ref h0_high, .ref h0_normal, .ref h0_corner, .ref h0_east, .ref h0_north, .ref h0_start, .ref h0_far])), (h0_high, .inl (g.2.1.1, 54, .inl f7))] H := hP
            have hD : va_D A [(y1, .inr (4, [.int y1_count, .int y1_statements, .int y1_thick, .int y1_punch, .int y1_ups, .int y1_toolCount, .ref y1_toolWidth, .ref y1_told, .ref y1_name, .ref y1_parent, .ref y1_side, .ref y1_from, .ref y1_width, .ref y1_height, .ref y1_radius, .ref y1_toolSet])), (y1_parent, .inl (g.2.1.1, 9, .inl f_y1_parent)), (y1_side, .inl (g.2.1.1, 9, .inl f_y1_side)), (h0_corner, .inl (g.2.1.1, 27, .inl f_h0_corner)), (h0_start, .inl (g.2.1.1, 3, .inl f4)), (h0_north, .inl (g.2.1.1, 9, .inl f_h0_north)), (h0_east, .inl (g.2.1.1, 9, .inl f_h0_east)), (y1_from, .inl (g.2.1.1, 9, .inl f_y1_from)), (y1_height, .inl (g.2.1.1, 9, .inl f_y1_height)), (y1_width, .inl (g.2.1.1, 9, .inl f_y1_width)), (h0_far, .inl (g.2.1.1, 3, .inl f5)), (h0_normal, .inl (g.2.1.1, 18, .inl f3)), (h0_low, .inl (g.2.1.1, 54, .inl f6)), (h0, .inr (5, [.ref h0_low, .ref h0_high, .ref h0_normal, .ref h0_corner, .ref h0_east, .ref h0_north, .ref h0_start, .ref h0_far])), (h0_high, .inl (g.2.1.1, 54, .inl f7))] := hD
            refine lv_isub hx hb dX5_roomFor_85 ?_
            refine lv_topi (fun z705 e706 => ?_)
            exact J694 z705 H locs ls  hP hD hS (lv_sub hl [0, 1, 2, 3, 4, 5, 6, 7] rfl)
          · skip
            have c701i : z679.toInt = (0 : Int) := (zc_eq (rfl : z679.toInt = _) (show (0 : Int32).toInt = (0 : Int) from by decide)).mp c701
            refine lv_aload_n hx hb dX5_roomFor_51 rfl (lv_at hl 0 rfl) ?_
            refine lv_iload hx hb dX5_roomFor_52 (lv_at hl 7 rfl) ?_
            refine lv_iload hx hb dX5_roomFor_54 (lv_at hl 5 rfl) ?_
            refine zfi (wr := [(y1, .inr (4, [.int y1_count, .int y1_statements, .int y1_thick, .int y1_punch, .int y1_ups, .int y1_toolCount, .ref y1_toolWidth, .ref y1_told, .ref y1_name, .ref y1_parent, .ref y1_side, .ref y1_from, .ref y1_width, .ref y1_height, .ref y1_radius, .ref y1_toolSet])), (y1_parent, .inl (g.2.1.1, 9, .inl f_y1_parent)), (y1_side, .inl (g.2.1.1, 9, .inl f_y1_side)), (h0_corner, .inl (g.2.1.1, 27, .inl f_h0_corner)), (h0_start, .inl (g.2.1.1, 3, .inl f4)), (h0_north, .inl (g.2.1.1, 9, .inl f_h0_north)), (h0_east, .inl (g.2.1.1, 9, .inl f_h0_east)), (y1_from, .inl (g.2.1.1, 9, .inl f_y1_from)), (y1_height, .inl (g.2.1.1, 9, .inl f_y1_height)), (y1_width, .inl (g.2.1.1, 9, .inl f_y1_width)), (h0_far, .inl (g.2.1.1, 3, .inl f5)), (h0_normal, .inl (g.2.1.1, 18, .inl f3)), (h0_high, .inl (g.2.1.1, 54, .inl f7))]) (va_runV (As := [.int v553, .int z10]) (rest := []) ⟨hx, hb, hml, hown, hG⟩ (kX5_lowOf l g h0 v553 z10 h0_low h0_high h0_normal h0_corner h0_east h0_north h0_start h0_far f6 (ox_211 c636i hy2 i634) (ox_220 f12 hq9) _) ⟨callB_of 2 hG (zGood wc_X5_lowOf) rfl rfl rfl (hG _ wini_X5) (hG _ wm_X5_129) hX5_lowOf ⟨Nat.le_of_ble_eq_true rfl, Nat.le_of_ble_eq_true rfl⟩, hG _ wi_X5_lowOf, hG _ wse_X5_X5_lowOf⟩ (zpreV (va_recv hX.1 hP (ci := 5) (q0 := 11) rfl rfl) hX hP hD hS hA [11, 13] rfl (by decide)) rfl rfl hl.1 rfl (lv_room (Nat.le_of_ble_eq_true rfl)) dX5_roomFor_56 ⟨Nat.le_of_ble_eq_true rfl, Nat.le_of_ble_eq_true rfl⟩) hP hD hS hA [11, 13] [0, 1, 2, 3, 4, 5, 6, 7, 8, 9, 10, 12, 14] rfl rfl (by decide) (by decide) (fun r707 _ H locs hp hP hD hS => ?_)
            refine W.cs (cells' := 0) (slots' := 0) rfl rfl ?_
            have hP : va_P g.1 vwCl [(y1, .inr (4, [.int y1_count, .int y1_statements, .int y1_thick, .int y1_punch, .int y1_ups, .int y1_toolCount, .ref y1_toolWidth, .ref y1_told, .ref y1_name, .ref y1_parent, .ref y1_side, .ref y1_from, .ref y1_width, .ref y1_height, .ref y1_radius, .ref y1_toolSet])), (y1_parent, .inl (g.2.1.1, 9, .inl f_y1_parent)), (y1_side, .inl (g.2.1.1, 9, .inl f_y1_side)), (h0_corner, .inl (g.2.1.1, 27, .inl f_h0_corner)), (h0_start, .inl (g.2.1.1, 3, .inl f4)), (h0_north, .inl (g.2.1.1, 9, .inl f_h0_north)), (h0_east, .inl (g.2.1.1, 9, .inl f_h0_east)), (y1_from, .inl (g.2.1.1, 9, .inl f_y1_from)), (y1_height, .inl (g.2.1.1, 9, .inl f_y1_height)), (y1_width, .inl (g.2.1.1, 9, .inl f_y1_width)), (h0_far, .inl (g.2.1.1, 3, .inl f5)), (h0_normal, .inl (g.2.1.1, 18, .inl f3)), (h0_high, .inl (g.2.1.1, 54, .inl f7)), (h0, .inr (5, [.ref h0_low, .ref h0_high, .ref h0_normal, .ref h0_corner, .ref h0_east, .ref h0_north, .ref h0_start, .ref h0_far])), (h0_low, .inl (g.2.1.1, 54, .inl f6))] H := hP
            have hD : va_D A [(y1, .inr (4, [.int y1_count, .int y1_statements, .int y1_thick, .int y1_punch, .int y1_ups, .int y1_toolCount, .ref y1_toolWidth, .ref y1_told, .ref y1_name, .ref y1_parent, .ref y1_side, .ref y1_from, .ref y1_width, .ref y1_height, .ref y1_radius, .ref y1_toolSet])), (y1_parent, .inl (g.2.1.1, 9, .inl f_y1_parent)), (y1_side, .inl (g.2.1.1, 9, .inl f_y1_side)), (h0_corner, .inl (g.2.1.1, 27, .inl f_h0_corner)), (h0_start, .inl (g.2.1.1, 3, .inl f4)), (h0_north, .inl (g.2.1.1, 9, .inl f_h0_north)), (h0_east, .inl (g.2.1.1, 9, .inl f_h0_east)), (y1_from, .inl (g.2.1.1, 9, .inl f_y1_from)), (y1_height, .inl (g.2.1.1, 9, .inl f_y1_height)), (y1_width, .inl (g.2.1.1, 9, .inl f_y1_width)), (h0_far, .inl (g.2.1.1, 3, .inl f5)), (h0_normal, .inl (g.2.1.1, 18, .inl f3)), (h0_high, .inl (g.2.1.1, 54, .inl f7)), (h0, .inr (5, [.ref h0_low, .ref h0_high, .ref h0_normal, .ref h0_corner, .ref h0_east, .ref h0_north, .ref h0_start, .ref h0_far])), (h0_low, .inl (g.2.1.1, 54, .inl f6))] := hD
            refine lv_aload_n hx hb dX5_roomFor_59 rfl (lv_at hl 0 rfl) ?_
            refine va_get (D := g.1) (ci := 5) (v := .ref h0_start) (C := RX5) (T := TX5) (N := 8) hx hb hG iX5 hown hX.1 hP 13 rfl rfl 6 (by decide) (hG _ wf_X5_30) (fun _ h9 => h9) rfl dX5_roomFor_60 ?_
            refine lv_iload hx hb dX5_roomFor_63 (lv_at hl 5 rfl) ?_
            refine va_iald hx hb hX.1 hP 4 0 rfl rfl (zin (rfl : z10.toInt = _) (ox_138 f12 hq9)) dX5_roomFor_65 ?_
            refine lv_topi (fun z708 e709 => ?_)
            refine lv_isub hx hb dX5_roomFor_66 ?_
            refine lv_topi (fun z710 e711 => ?_)
            refine lv_goto (tgt := 86) hx hb dX5_roomFor_67 (by decide) ?_
            exact J694 z710 H locs ls  (hP.sub [0, 1, 2, 3, 4, 5, 6, 7, 8, 9, 10, 11, 14, 13, 12] rfl) (hD.sub [0, 1, 2, 3, 4, 5, 6, 7, 8, 9, 10, 11, 14, 13, 12] (by decide) rfl) hS (lv_sub hl [0, 1, 2, 3, 4, 5, 6, 7] rfl)
  exact L630 _ (99 : Int32) (0 : Int32) H locs ls ((show 0 ≤ (99 : Int) ∧ (99 : Int) ≤ 99 from by decide)) ((show 0 ≤ (0 : Int) ∧ (0 : Int) ≤ 9 from by decide)) (Nat.lt_succ_self _) hP hD hS (lv_sub hl [4, 5, 6, 7, 3, 2, 1, 0] rfl)
