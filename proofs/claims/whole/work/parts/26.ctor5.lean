/-! the reference's constructor -/
def m_fold : List ((Nat × Nat) × Nat) → Nat → mW → mW
  | [], _, w => w
  | q :: L, k, w => m_fold L k (m_nA q.1 k q.2 w)
def m_ML : List ((Nat × Nat) × Nat) := [((1, 16), 1), ((1, 10), 3), ((1, 10), 4), ((1, 30), 5), ((2, 30), 6), ((1, 10), 7), ((1, 80), 8), ((1, 80), 9), ((1, 80), 10), ((1, 4), 11), ((1, 4), 12), ((1, 128), 15), ((1, 128), 16), ((1, 10), 20), ((1, 10), 21), ((1, 10), 22), ((1, 10), 23), ((1, 10), 24), ((2, 10), 25), ((2, 40), 26), ((1, 40), 27), ((2, 10), 28), ((2, 40), 29), ((1, 40), 30), ((2, 40), 31), ((2, 40), 32), ((2, 10), 33), ((1, 10), 34), ((1, 80), 35), ((2, 80), 36)]
def m_P6 (k N S t z : Nat) (w : mW) : Prop := w.1[k]? = some (0, 6) ∧ w.1.length = N + t ∧ m_sl w.1 = S + z ∧ N + 30 ≤ 1000000
theorem m_P6s {k N S t z : Nat} {w : mW} (a n j : Nat) (h : m_P6 k N S t z w) (ha : m_sz (a, n) = n) : m_P6 k N S (t + 1) (z + n) (m_nA (a, n) k j w) := by
  obtain ⟨h1, h2, h3, h4⟩ := h
  refine ⟨m_ap h1, ?_, ?_, h4⟩
  · show (w.1 ++ [(a, n)]).length = _
    rw [List.length_append, h2]
    rfl
  · show m_sl (w.1 ++ [(a, n)]) = _
    rw [m_sl_app, h3, ha]
    omega
theorem a62_0 {d N S k : Nat} {Q : mQ} {w : mW} (h : m_P6 k N S 0 0 w) : m_R (m_E d) 62 N S Q 10 [some (.inr (some k)), none] [] w = m_R (m_E d) 62 N S Q 18 [some (.inr (some k)), none] [] (m_nA (1, 16) k 1 w) := by
  obtain ⟨sh, f, g⟩ := w
  obtain ⟨h1, h2, h3, h4⟩ := h
  have h1 : sh[k]? = some (0, 6) := h1
  have h2 : sh.length = N + 0 := h2
  have h3 : m_sl sh = S + 0 := h3
  have hc : (16 : Int32).toNatClampNeg = 16 := by decide
  rw [r62_10, r62_11, r62_13 (by rw [m_bg62, h2]; omega) (by omega) (by decide) (by decide) (by rw [m_bg62, hc, h3]; omega), hc, r62_15 (m_ap h1)]
  rfl
theorem a62_1 {d N S k : Nat} {Q : mQ} {w : mW} (h : m_P6 k N S 1 16 w) : m_R (m_E d) 62 N S Q 18 [some (.inr (some k)), none] [] w = m_R (m_E d) 62 N S Q 26 [some (.inr (some k)), none] [] (m_nA (1, 10) k 3 w) := by
  obtain ⟨sh, f, g⟩ := w
  obtain ⟨h1, h2, h3, h4⟩ := h
  have h1 : sh[k]? = some (0, 6) := h1
  have h2 : sh.length = N + 1 := h2
  have h3 : m_sl sh = S + 16 := h3
  have hc : (10 : Int32).toNatClampNeg = 10 := by decide
  rw [r62_18, r62_19, r62_21 (by rw [m_bg62, h2]; omega) (by omega) (by decide) (by decide) (by rw [m_bg62, hc, h3]; omega), hc, r62_23 (m_ap h1)]
  rfl
theorem a62_2 {d N S k : Nat} {Q : mQ} {w : mW} (h : m_P6 k N S 2 26 w) : m_R (m_E d) 62 N S Q 26 [some (.inr (some k)), none] [] w = m_R (m_E d) 62 N S Q 34 [some (.inr (some k)), none] [] (m_nA (1, 10) k 4 w) := by
  obtain ⟨sh, f, g⟩ := w
  obtain ⟨h1, h2, h3, h4⟩ := h
  have h1 : sh[k]? = some (0, 6) := h1
  have h2 : sh.length = N + 2 := h2
  have h3 : m_sl sh = S + 26 := h3
  have hc : (10 : Int32).toNatClampNeg = 10 := by decide
  rw [r62_26, r62_27, r62_29 (by rw [m_bg62, h2]; omega) (by omega) (by decide) (by decide) (by rw [m_bg62, hc, h3]; omega), hc, r62_31 (m_ap h1)]
  rfl
theorem a62_3 {d N S k : Nat} {Q : mQ} {w : mW} (h : m_P6 k N S 3 36 w) : m_R (m_E d) 62 N S Q 34 [some (.inr (some k)), none] [] w = m_R (m_E d) 62 N S Q 42 [some (.inr (some k)), none] [] (m_nA (1, 30) k 5 w) := by
  obtain ⟨sh, f, g⟩ := w
  obtain ⟨h1, h2, h3, h4⟩ := h
  have h1 : sh[k]? = some (0, 6) := h1
  have h2 : sh.length = N + 3 := h2
  have h3 : m_sl sh = S + 36 := h3
  have hc : (30 : Int32).toNatClampNeg = 30 := by decide
  rw [r62_34, r62_35, r62_37 (by rw [m_bg62, h2]; omega) (by omega) (by decide) (by decide) (by rw [m_bg62, hc, h3]; omega), hc, r62_39 (m_ap h1)]
  rfl
theorem a62_4 {d N S k : Nat} {Q : mQ} {w : mW} (h : m_P6 k N S 4 66 w) : m_R (m_E d) 62 N S Q 42 [some (.inr (some k)), none] [] w = m_R (m_E d) 62 N S Q 50 [some (.inr (some k)), none] [] (m_nA (2, 30) k 6 w) := by
  obtain ⟨sh, f, g⟩ := w
  obtain ⟨h1, h2, h3, h4⟩ := h
  have h1 : sh[k]? = some (0, 6) := h1
  have h2 : sh.length = N + 4 := h2
  have h3 : m_sl sh = S + 66 := h3
  have hc : (30 : Int32).toNatClampNeg = 30 := by decide
  rw [r62_42, r62_43, r62_45 (by rw [m_bg62, h2]; omega) (by omega) (by decide) (by decide) (by rw [m_bg62, hc, h3]; omega), hc, r62_47 (m_ap h1)]
  rfl
theorem a62_5 {d N S k : Nat} {Q : mQ} {w : mW} (h : m_P6 k N S 5 96 w) : m_R (m_E d) 62 N S Q 50 [some (.inr (some k)), none] [] w = m_R (m_E d) 62 N S Q 58 [some (.inr (some k)), none] [] (m_nA (1, 10) k 7 w) := by
  obtain ⟨sh, f, g⟩ := w
  obtain ⟨h1, h2, h3, h4⟩ := h
  have h1 : sh[k]? = some (0, 6) := h1
  have h2 : sh.length = N + 5 := h2
  have h3 : m_sl sh = S + 96 := h3
  have hc : (10 : Int32).toNatClampNeg = 10 := by decide
  rw [r62_50, r62_51, r62_53 (by rw [m_bg62, h2]; omega) (by omega) (by decide) (by decide) (by rw [m_bg62, hc, h3]; omega), hc, r62_55 (m_ap h1)]
  rfl
theorem a62_6 {d N S k : Nat} {Q : mQ} {w : mW} (h : m_P6 k N S 6 106 w) : m_R (m_E d) 62 N S Q 58 [some (.inr (some k)), none] [] w = m_R (m_E d) 62 N S Q 66 [some (.inr (some k)), none] [] (m_nA (1, 80) k 8 w) := by
  obtain ⟨sh, f, g⟩ := w
  obtain ⟨h1, h2, h3, h4⟩ := h
  have h1 : sh[k]? = some (0, 6) := h1
  have h2 : sh.length = N + 6 := h2
  have h3 : m_sl sh = S + 106 := h3
  have hc : (80 : Int32).toNatClampNeg = 80 := by decide
  rw [r62_58, r62_59, r62_61 (by rw [m_bg62, h2]; omega) (by omega) (by decide) (by decide) (by rw [m_bg62, hc, h3]; omega), hc, r62_63 (m_ap h1)]
  rfl
theorem a62_7 {d N S k : Nat} {Q : mQ} {w : mW} (h : m_P6 k N S 7 186 w) : m_R (m_E d) 62 N S Q 66 [some (.inr (some k)), none] [] w = m_R (m_E d) 62 N S Q 74 [some (.inr (some k)), none] [] (m_nA (1, 80) k 9 w) := by
  obtain ⟨sh, f, g⟩ := w
  obtain ⟨h1, h2, h3, h4⟩ := h
  have h1 : sh[k]? = some (0, 6) := h1
  have h2 : sh.length = N + 7 := h2
  have h3 : m_sl sh = S + 186 := h3
  have hc : (80 : Int32).toNatClampNeg = 80 := by decide
  rw [r62_66, r62_67, r62_69 (by rw [m_bg62, h2]; omega) (by omega) (by decide) (by decide) (by rw [m_bg62, hc, h3]; omega), hc, r62_71 (m_ap h1)]
  rfl
theorem a62_8 {d N S k : Nat} {Q : mQ} {w : mW} (h : m_P6 k N S 8 266 w) : m_R (m_E d) 62 N S Q 74 [some (.inr (some k)), none] [] w = m_R (m_E d) 62 N S Q 82 [some (.inr (some k)), none] [] (m_nA (1, 80) k 10 w) := by
  obtain ⟨sh, f, g⟩ := w
  obtain ⟨h1, h2, h3, h4⟩ := h
  have h1 : sh[k]? = some (0, 6) := h1
  have h2 : sh.length = N + 8 := h2
  have h3 : m_sl sh = S + 266 := h3
  have hc : (80 : Int32).toNatClampNeg = 80 := by decide
  rw [r62_74, r62_75, r62_77 (by rw [m_bg62, h2]; omega) (by omega) (by decide) (by decide) (by rw [m_bg62, hc, h3]; omega), hc, r62_79 (m_ap h1)]
  rfl
theorem a62_9 {d N S k : Nat} {Q : mQ} {w : mW} (h : m_P6 k N S 9 346 w) : m_R (m_E d) 62 N S Q 82 [some (.inr (some k)), none] [] w = m_R (m_E d) 62 N S Q 89 [some (.inr (some k)), none] [] (m_nA (1, 4) k 11 w) := by
  obtain ⟨sh, f, g⟩ := w
  obtain ⟨h1, h2, h3, h4⟩ := h
  have h1 : sh[k]? = some (0, 6) := h1
  have h2 : sh.length = N + 9 := h2
  have h3 : m_sl sh = S + 346 := h3
  have hc : (4 : Int32).toNatClampNeg = 4 := by decide
  rw [r62_82, r62_83, r62_84 (by rw [m_bg62, h2]; omega) (by omega) (by decide) (by decide) (by rw [m_bg62, hc, h3]; omega), hc, r62_86 (m_ap h1)]
  rfl
theorem a62_10 {d N S k : Nat} {Q : mQ} {w : mW} (h : m_P6 k N S 10 350 w) : m_R (m_E d) 62 N S Q 89 [some (.inr (some k)), none] [] w = m_R (m_E d) 62 N S Q 96 [some (.inr (some k)), none] [] (m_nA (1, 4) k 12 w) := by
  obtain ⟨sh, f, g⟩ := w
  obtain ⟨h1, h2, h3, h4⟩ := h
  have h1 : sh[k]? = some (0, 6) := h1
  have h2 : sh.length = N + 10 := h2
  have h3 : m_sl sh = S + 350 := h3
  have hc : (4 : Int32).toNatClampNeg = 4 := by decide
  rw [r62_89, r62_90, r62_91 (by rw [m_bg62, h2]; omega) (by omega) (by decide) (by decide) (by rw [m_bg62, hc, h3]; omega), hc, r62_93 (m_ap h1)]
  rfl
theorem a62_11 {d N S k : Nat} {Q : mQ} {w : mW} (h : m_P6 k N S 11 354 w) : m_R (m_E d) 62 N S Q 96 [some (.inr (some k)), none] [] w = m_R (m_E d) 62 N S Q 105 [some (.inr (some k)), none] [] (m_nA (1, 128) k 15 w) := by
  obtain ⟨sh, f, g⟩ := w
  obtain ⟨h1, h2, h3, h4⟩ := h
  have h1 : sh[k]? = some (0, 6) := h1
  have h2 : sh.length = N + 11 := h2
  have h3 : m_sl sh = S + 354 := h3
  have hc : (128 : Int32).toNatClampNeg = 128 := by decide
  rw [r62_96, r62_97, r62_100 (by rw [m_bg62, h2]; omega) (by omega) (by decide) (by decide) (by rw [m_bg62, hc, h3]; omega), hc, r62_102 (m_ap h1)]
  rfl
theorem a62_12 {d N S k : Nat} {Q : mQ} {w : mW} (h : m_P6 k N S 12 482 w) : m_R (m_E d) 62 N S Q 105 [some (.inr (some k)), none] [] w = m_R (m_E d) 62 N S Q 114 [some (.inr (some k)), none] [] (m_nA (1, 128) k 16 w) := by
  obtain ⟨sh, f, g⟩ := w
  obtain ⟨h1, h2, h3, h4⟩ := h
  have h1 : sh[k]? = some (0, 6) := h1
  have h2 : sh.length = N + 12 := h2
  have h3 : m_sl sh = S + 482 := h3
  have hc : (128 : Int32).toNatClampNeg = 128 := by decide
  rw [r62_105, r62_106, r62_109 (by rw [m_bg62, h2]; omega) (by omega) (by decide) (by decide) (by rw [m_bg62, hc, h3]; omega), hc, r62_111 (m_ap h1)]
  rfl
theorem a62_13 {d N S k : Nat} {Q : mQ} {w : mW} (h : m_P6 k N S 13 610 w) : m_R (m_E d) 62 N S Q 114 [some (.inr (some k)), none] [] w = m_R (m_E d) 62 N S Q 122 [some (.inr (some k)), none] [] (m_nA (1, 10) k 20 w) := by
  obtain ⟨sh, f, g⟩ := w
  obtain ⟨h1, h2, h3, h4⟩ := h
  have h1 : sh[k]? = some (0, 6) := h1
  have h2 : sh.length = N + 13 := h2
  have h3 : m_sl sh = S + 610 := h3
  have hc : (10 : Int32).toNatClampNeg = 10 := by decide
  rw [r62_114, r62_115, r62_117 (by rw [m_bg62, h2]; omega) (by omega) (by decide) (by decide) (by rw [m_bg62, hc, h3]; omega), hc, r62_119 (m_ap h1)]
  rfl
theorem a62_14 {d N S k : Nat} {Q : mQ} {w : mW} (h : m_P6 k N S 14 620 w) : m_R (m_E d) 62 N S Q 122 [some (.inr (some k)), none] [] w = m_R (m_E d) 62 N S Q 130 [some (.inr (some k)), none] [] (m_nA (1, 10) k 21 w) := by
  obtain ⟨sh, f, g⟩ := w
  obtain ⟨h1, h2, h3, h4⟩ := h
  have h1 : sh[k]? = some (0, 6) := h1
  have h2 : sh.length = N + 14 := h2
  have h3 : m_sl sh = S + 620 := h3
  have hc : (10 : Int32).toNatClampNeg = 10 := by decide
  rw [r62_122, r62_123, r62_125 (by rw [m_bg62, h2]; omega) (by omega) (by decide) (by decide) (by rw [m_bg62, hc, h3]; omega), hc, r62_127 (m_ap h1)]
  rfl
theorem a62_15 {d N S k : Nat} {Q : mQ} {w : mW} (h : m_P6 k N S 15 630 w) : m_R (m_E d) 62 N S Q 130 [some (.inr (some k)), none] [] w = m_R (m_E d) 62 N S Q 138 [some (.inr (some k)), none] [] (m_nA (1, 10) k 22 w) := by
  obtain ⟨sh, f, g⟩ := w
  obtain ⟨h1, h2, h3, h4⟩ := h
  have h1 : sh[k]? = some (0, 6) := h1
  have h2 : sh.length = N + 15 := h2
  have h3 : m_sl sh = S + 630 := h3
  have hc : (10 : Int32).toNatClampNeg = 10 := by decide
  rw [r62_130, r62_131, r62_133 (by rw [m_bg62, h2]; omega) (by omega) (by decide) (by decide) (by rw [m_bg62, hc, h3]; omega), hc, r62_135 (m_ap h1)]
  rfl
theorem a62_16 {d N S k : Nat} {Q : mQ} {w : mW} (h : m_P6 k N S 16 640 w) : m_R (m_E d) 62 N S Q 138 [some (.inr (some k)), none] [] w = m_R (m_E d) 62 N S Q 146 [some (.inr (some k)), none] [] (m_nA (1, 10) k 23 w) := by
  obtain ⟨sh, f, g⟩ := w
  obtain ⟨h1, h2, h3, h4⟩ := h
  have h1 : sh[k]? = some (0, 6) := h1
  have h2 : sh.length = N + 16 := h2
  have h3 : m_sl sh = S + 640 := h3
  have hc : (10 : Int32).toNatClampNeg = 10 := by decide
  rw [r62_138, r62_139, r62_141 (by rw [m_bg62, h2]; omega) (by omega) (by decide) (by decide) (by rw [m_bg62, hc, h3]; omega), hc, r62_143 (m_ap h1)]
  rfl
theorem a62_17 {d N S k : Nat} {Q : mQ} {w : mW} (h : m_P6 k N S 17 650 w) : m_R (m_E d) 62 N S Q 146 [some (.inr (some k)), none] [] w = m_R (m_E d) 62 N S Q 154 [some (.inr (some k)), none] [] (m_nA (1, 10) k 24 w) := by
  obtain ⟨sh, f, g⟩ := w
  obtain ⟨h1, h2, h3, h4⟩ := h
  have h1 : sh[k]? = some (0, 6) := h1
  have h2 : sh.length = N + 17 := h2
  have h3 : m_sl sh = S + 650 := h3
  have hc : (10 : Int32).toNatClampNeg = 10 := by decide
  rw [r62_146, r62_147, r62_149 (by rw [m_bg62, h2]; omega) (by omega) (by decide) (by decide) (by rw [m_bg62, hc, h3]; omega), hc, r62_151 (m_ap h1)]
  rfl
theorem a62_18 {d N S k : Nat} {Q : mQ} {w : mW} (h : m_P6 k N S 18 660 w) : m_R (m_E d) 62 N S Q 154 [some (.inr (some k)), none] [] w = m_R (m_E d) 62 N S Q 162 [some (.inr (some k)), none] [] (m_nA (2, 10) k 25 w) := by
  obtain ⟨sh, f, g⟩ := w
  obtain ⟨h1, h2, h3, h4⟩ := h
  have h1 : sh[k]? = some (0, 6) := h1
  have h2 : sh.length = N + 18 := h2
  have h3 : m_sl sh = S + 660 := h3
  have hc : (10 : Int32).toNatClampNeg = 10 := by decide
  rw [r62_154, r62_155, r62_157 (by rw [m_bg62, h2]; omega) (by omega) (by decide) (by decide) (by rw [m_bg62, hc, h3]; omega), hc, r62_159 (m_ap h1)]
  rfl
theorem a62_19 {d N S k : Nat} {Q : mQ} {w : mW} (h : m_P6 k N S 19 670 w) : m_R (m_E d) 62 N S Q 162 [some (.inr (some k)), none] [] w = m_R (m_E d) 62 N S Q 170 [some (.inr (some k)), none] [] (m_nA (2, 40) k 26 w) := by
  obtain ⟨sh, f, g⟩ := w
  obtain ⟨h1, h2, h3, h4⟩ := h
  have h1 : sh[k]? = some (0, 6) := h1
  have h2 : sh.length = N + 19 := h2
  have h3 : m_sl sh = S + 670 := h3
  have hc : (40 : Int32).toNatClampNeg = 40 := by decide
  rw [r62_162, r62_163, r62_165 (by rw [m_bg62, h2]; omega) (by omega) (by decide) (by decide) (by rw [m_bg62, hc, h3]; omega), hc, r62_167 (m_ap h1)]
  rfl
theorem a62_20 {d N S k : Nat} {Q : mQ} {w : mW} (h : m_P6 k N S 20 710 w) : m_R (m_E d) 62 N S Q 170 [some (.inr (some k)), none] [] w = m_R (m_E d) 62 N S Q 178 [some (.inr (some k)), none] [] (m_nA (1, 40) k 27 w) := by
  obtain ⟨sh, f, g⟩ := w
  obtain ⟨h1, h2, h3, h4⟩ := h
  have h1 : sh[k]? = some (0, 6) := h1
  have h2 : sh.length = N + 20 := h2
  have h3 : m_sl sh = S + 710 := h3
  have hc : (40 : Int32).toNatClampNeg = 40 := by decide
  rw [r62_170, r62_171, r62_173 (by rw [m_bg62, h2]; omega) (by omega) (by decide) (by decide) (by rw [m_bg62, hc, h3]; omega), hc, r62_175 (m_ap h1)]
  rfl
theorem a62_21 {d N S k : Nat} {Q : mQ} {w : mW} (h : m_P6 k N S 21 750 w) : m_R (m_E d) 62 N S Q 178 [some (.inr (some k)), none] [] w = m_R (m_E d) 62 N S Q 186 [some (.inr (some k)), none] [] (m_nA (2, 10) k 28 w) := by
  obtain ⟨sh, f, g⟩ := w
  obtain ⟨h1, h2, h3, h4⟩ := h
  have h1 : sh[k]? = some (0, 6) := h1
  have h2 : sh.length = N + 21 := h2
  have h3 : m_sl sh = S + 750 := h3
  have hc : (10 : Int32).toNatClampNeg = 10 := by decide
  rw [r62_178, r62_179, r62_181 (by rw [m_bg62, h2]; omega) (by omega) (by decide) (by decide) (by rw [m_bg62, hc, h3]; omega), hc, r62_183 (m_ap h1)]
  rfl
theorem a62_22 {d N S k : Nat} {Q : mQ} {w : mW} (h : m_P6 k N S 22 760 w) : m_R (m_E d) 62 N S Q 186 [some (.inr (some k)), none] [] w = m_R (m_E d) 62 N S Q 194 [some (.inr (some k)), none] [] (m_nA (2, 40) k 29 w) := by
  obtain ⟨sh, f, g⟩ := w
  obtain ⟨h1, h2, h3, h4⟩ := h
  have h1 : sh[k]? = some (0, 6) := h1
  have h2 : sh.length = N + 22 := h2
  have h3 : m_sl sh = S + 760 := h3
  have hc : (40 : Int32).toNatClampNeg = 40 := by decide
  rw [r62_186, r62_187, r62_189 (by rw [m_bg62, h2]; omega) (by omega) (by decide) (by decide) (by rw [m_bg62, hc, h3]; omega), hc, r62_191 (m_ap h1)]
  rfl
theorem a62_23 {d N S k : Nat} {Q : mQ} {w : mW} (h : m_P6 k N S 23 800 w) : m_R (m_E d) 62 N S Q 194 [some (.inr (some k)), none] [] w = m_R (m_E d) 62 N S Q 202 [some (.inr (some k)), none] [] (m_nA (1, 40) k 30 w) := by
  obtain ⟨sh, f, g⟩ := w
  obtain ⟨h1, h2, h3, h4⟩ := h
  have h1 : sh[k]? = some (0, 6) := h1
  have h2 : sh.length = N + 23 := h2
  have h3 : m_sl sh = S + 800 := h3
  have hc : (40 : Int32).toNatClampNeg = 40 := by decide
  rw [r62_194, r62_195, r62_197 (by rw [m_bg62, h2]; omega) (by omega) (by decide) (by decide) (by rw [m_bg62, hc, h3]; omega), hc, r62_199 (m_ap h1)]
  rfl
theorem a62_24 {d N S k : Nat} {Q : mQ} {w : mW} (h : m_P6 k N S 24 840 w) : m_R (m_E d) 62 N S Q 202 [some (.inr (some k)), none] [] w = m_R (m_E d) 62 N S Q 210 [some (.inr (some k)), none] [] (m_nA (2, 40) k 31 w) := by
  obtain ⟨sh, f, g⟩ := w
  obtain ⟨h1, h2, h3, h4⟩ := h
  have h1 : sh[k]? = some (0, 6) := h1
  have h2 : sh.length = N + 24 := h2
  have h3 : m_sl sh = S + 840 := h3
  have hc : (40 : Int32).toNatClampNeg = 40 := by decide
  rw [r62_202, r62_203, r62_205 (by rw [m_bg62, h2]; omega) (by omega) (by decide) (by decide) (by rw [m_bg62, hc, h3]; omega), hc, r62_207 (m_ap h1)]
  rfl
theorem a62_25 {d N S k : Nat} {Q : mQ} {w : mW} (h : m_P6 k N S 25 880 w) : m_R (m_E d) 62 N S Q 210 [some (.inr (some k)), none] [] w = m_R (m_E d) 62 N S Q 218 [some (.inr (some k)), none] [] (m_nA (2, 40) k 32 w) := by
  obtain ⟨sh, f, g⟩ := w
  obtain ⟨h1, h2, h3, h4⟩ := h
  have h1 : sh[k]? = some (0, 6) := h1
  have h2 : sh.length = N + 25 := h2
  have h3 : m_sl sh = S + 880 := h3
  have hc : (40 : Int32).toNatClampNeg = 40 := by decide
  rw [r62_210, r62_211, r62_213 (by rw [m_bg62, h2]; omega) (by omega) (by decide) (by decide) (by rw [m_bg62, hc, h3]; omega), hc, r62_215 (m_ap h1)]
  rfl
theorem a62_26 {d N S k : Nat} {Q : mQ} {w : mW} (h : m_P6 k N S 26 920 w) : m_R (m_E d) 62 N S Q 218 [some (.inr (some k)), none] [] w = m_R (m_E d) 62 N S Q 226 [some (.inr (some k)), none] [] (m_nA (2, 10) k 33 w) := by
  obtain ⟨sh, f, g⟩ := w
  obtain ⟨h1, h2, h3, h4⟩ := h
  have h1 : sh[k]? = some (0, 6) := h1
  have h2 : sh.length = N + 26 := h2
  have h3 : m_sl sh = S + 920 := h3
  have hc : (10 : Int32).toNatClampNeg = 10 := by decide
  rw [r62_218, r62_219, r62_221 (by rw [m_bg62, h2]; omega) (by omega) (by decide) (by decide) (by rw [m_bg62, hc, h3]; omega), hc, r62_223 (m_ap h1)]
  rfl
theorem a62_27 {d N S k : Nat} {Q : mQ} {w : mW} (h : m_P6 k N S 27 930 w) : m_R (m_E d) 62 N S Q 226 [some (.inr (some k)), none] [] w = m_R (m_E d) 62 N S Q 234 [some (.inr (some k)), none] [] (m_nA (1, 10) k 34 w) := by
  obtain ⟨sh, f, g⟩ := w
  obtain ⟨h1, h2, h3, h4⟩ := h
  have h1 : sh[k]? = some (0, 6) := h1
  have h2 : sh.length = N + 27 := h2
  have h3 : m_sl sh = S + 930 := h3
  have hc : (10 : Int32).toNatClampNeg = 10 := by decide
  rw [r62_226, r62_227, r62_229 (by rw [m_bg62, h2]; omega) (by omega) (by decide) (by decide) (by rw [m_bg62, hc, h3]; omega), hc, r62_231 (m_ap h1)]
  rfl
theorem a62_28 {d N S k : Nat} {Q : mQ} {w : mW} (h : m_P6 k N S 28 940 w) : m_R (m_E d) 62 N S Q 234 [some (.inr (some k)), none] [] w = m_R (m_E d) 62 N S Q 242 [some (.inr (some k)), none] [] (m_nA (1, 80) k 35 w) := by
  obtain ⟨sh, f, g⟩ := w
  obtain ⟨h1, h2, h3, h4⟩ := h
  have h1 : sh[k]? = some (0, 6) := h1
  have h2 : sh.length = N + 28 := h2
  have h3 : m_sl sh = S + 940 := h3
  have hc : (80 : Int32).toNatClampNeg = 80 := by decide
  rw [r62_234, r62_235, r62_237 (by rw [m_bg62, h2]; omega) (by omega) (by decide) (by decide) (by rw [m_bg62, hc, h3]; omega), hc, r62_239 (m_ap h1)]
  rfl
theorem a62_29 {d N S k : Nat} {Q : mQ} {w : mW} (h : m_P6 k N S 29 1020 w) : m_R (m_E d) 62 N S Q 242 [some (.inr (some k)), none] [] w = m_R (m_E d) 62 N S Q 250 [some (.inr (some k)), none] [] (m_nA (2, 80) k 36 w) := by
  obtain ⟨sh, f, g⟩ := w
  obtain ⟨h1, h2, h3, h4⟩ := h
  have h1 : sh[k]? = some (0, 6) := h1
  have h2 : sh.length = N + 29 := h2
  have h3 : m_sl sh = S + 1020 := h3
  have hc : (80 : Int32).toNatClampNeg = 80 := by decide
  rw [r62_242, r62_243, r62_245 (by rw [m_bg62, h2]; omega) (by omega) (by decide) (by decide) (by rw [m_bg62, hc, h3]; omega), hc, r62_247 (m_ap h1)]
  rfl
theorem c62_arr {d : Nat} {Q : mQ} {sh : List (Nat × Nat)} {f : Nat → Nat → Int32} {g : Nat → Nat → Option Nat} {k : Nat} (hk : sh[k]? = some (0, 6)) (hl : sh.length + 30 ≤ 1000000) : m_E (d + 1) 62 [.inr (some k)] (sh, f, g) Q = m_R (m_E d) 62 sh.length (m_sl sh) Q 250 [some (.inr (some k)), none] [] (m_fold m_ML k (sh, m_si f k 0 10, g)) := by
  rw [m_En (by decide) (Nat.le_of_ble_eq_true rfl)]
  show m_R (m_E d) 62 sh.length (m_sl sh) Q 0 [some (.inr (some k)), none] [] (sh, f, g) = _
  rw [r62_0, r62_1 (by decide), r62_4, r62_5, r62_7 hk]
  have p0 : m_P6 k sh.length (m_sl sh) 0 0 (sh, m_si f k 0 10, g) := ⟨hk, rfl, rfl, hl⟩
  have p1 := m_P6s 1 16 1 p0 rfl
  have p2 := m_P6s 1 10 3 p1 rfl
  have p3 := m_P6s 1 10 4 p2 rfl
  have p4 := m_P6s 1 30 5 p3 rfl
  have p5 := m_P6s 2 30 6 p4 rfl
  have p6 := m_P6s 1 10 7 p5 rfl
  have p7 := m_P6s 1 80 8 p6 rfl
  have p8 := m_P6s 1 80 9 p7 rfl
  have p9 := m_P6s 1 80 10 p8 rfl
  have p10 := m_P6s 1 4 11 p9 rfl
  have p11 := m_P6s 1 4 12 p10 rfl
  have p12 := m_P6s 1 128 15 p11 rfl
  have p13 := m_P6s 1 128 16 p12 rfl
  have p14 := m_P6s 1 10 20 p13 rfl
  have p15 := m_P6s 1 10 21 p14 rfl
  have p16 := m_P6s 1 10 22 p15 rfl
  have p17 := m_P6s 1 10 23 p16 rfl
  have p18 := m_P6s 1 10 24 p17 rfl
  have p19 := m_P6s 2 10 25 p18 rfl
  have p20 := m_P6s 2 40 26 p19 rfl
  have p21 := m_P6s 1 40 27 p20 rfl
  have p22 := m_P6s 2 10 28 p21 rfl
  have p23 := m_P6s 2 40 29 p22 rfl
  have p24 := m_P6s 1 40 30 p23 rfl
  have p25 := m_P6s 2 40 31 p24 rfl
  have p26 := m_P6s 2 40 32 p25 rfl
  have p27 := m_P6s 2 10 33 p26 rfl
  have p28 := m_P6s 1 10 34 p27 rfl
  have p29 := m_P6s 1 80 35 p28 rfl
  have p30 := m_P6s 2 80 36 p29 rfl
  exact (a62_0 p0).trans ((a62_1 p1).trans ((a62_2 p2).trans ((a62_3 p3).trans ((a62_4 p4).trans ((a62_5 p5).trans ((a62_6 p6).trans ((a62_7 p7).trans ((a62_8 p8).trans ((a62_9 p9).trans ((a62_10 p10).trans ((a62_11 p11).trans ((a62_12 p12).trans ((a62_13 p13).trans ((a62_14 p14).trans ((a62_15 p15).trans ((a62_16 p16).trans ((a62_17 p17).trans ((a62_18 p18).trans ((a62_19 p19).trans ((a62_20 p20).trans ((a62_21 p21).trans ((a62_22 p22).trans ((a62_23 p23).trans ((a62_24 p24).trans ((a62_25 p25).trans ((a62_26 p26).trans ((a62_27 p27).trans ((a62_28 p28).trans ((a62_29 p29))))))))))))))))))))))))))))))
theorem m_9le : ((9 : Int32) ≤ 4) = False ∧ ((9 : Int32) ≤ 5) = False ∧ ((9 : Int32) ≤ 6) = False ∧ ((9 : Int32) ≤ 7) = False ∧ ((9 : Int32) ≤ 8) = False ∧ ((9 : Int32) ≤ 9) = True := ⟨eq_false (by decide), eq_false (by decide), eq_false (by decide), eq_false (by decide), eq_false (by decide), eq_true (by decide)⟩
theorem m_p1 : (4 : Int32) + 1 = 5 ∧ (5 : Int32) + 1 = 6 ∧ (6 : Int32) + 1 = 7 ∧ (7 : Int32) + 1 = 8 ∧ (8 : Int32) + 1 = 9 := by decide
theorem m_vp16 : ∀ n : Nat, n < 16 → vp_in (nI n) 16 := fun n h => vp_in_nI h (by decide)
theorem m_cls : (0 : Int32).toNatClampNeg = 0 ∧ (1 : Int32).toNatClampNeg = 1 ∧ (2 : Int32).toNatClampNeg = 2 ∧ (3 : Int32).toNatClampNeg = 3 ∧ (4 : Int32).toNatClampNeg = 4 ∧ (5 : Int32).toNatClampNeg = 5 ∧ (6 : Int32).toNatClampNeg = 6 ∧ (7 : Int32).toNatClampNeg = 7 ∧ (8 : Int32).toNatClampNeg = 8 ∧ (9 : Int32).toNatClampNeg = 9 := by decide
def m_und (u : Nat) (f : Nat → Nat → Int32) : Nat → Nat → Int32 := m_si (m_si (m_si (m_si (m_si (m_si (m_si (m_si (m_si (m_si f u 0 (-1)) u 1 0) u 2 0) u 3 2) u 4 3) u 5 3) u 6 3) u 7 3) u 8 3) u 9 1
theorem m_und_eq (u : Nat) (f : Nat → Nat → Int32) : m_si (m_si (m_si (m_si (m_si (m_si (m_si (m_si (m_si (m_si f u (0 : Int32).toNatClampNeg (-1)) u (1 : Int32).toNatClampNeg 0) u (2 : Int32).toNatClampNeg 0) u (3 : Int32).toNatClampNeg 2) u (4 : Int32).toNatClampNeg 3) u (5 : Int32).toNatClampNeg 3) u (6 : Int32).toNatClampNeg 3) u (7 : Int32).toNatClampNeg 3) u (8 : Int32).toNatClampNeg 3) u (9 : Int32).toNatClampNeg 1 = m_und u f := by
  rw [m_cls.1, m_cls.2.1, m_cls.2.2.1, m_cls.2.2.2.1, m_cls.2.2.2.2.1, m_cls.2.2.2.2.2.1, m_cls.2.2.2.2.2.2.1, m_cls.2.2.2.2.2.2.2.1, m_cls.2.2.2.2.2.2.2.2.1, m_cls.2.2.2.2.2.2.2.2.2]
  rfl
theorem c62_und {d N S : Nat} {Q : mQ} (w : mW) {k u : Nat} (hk : w.1[k]? = some (0, 6)) (hu : w.2.2 k 1 = some u) (hs : w.1[u]? = some (1, 16)) (hN : w.1.length = N + 30) (hS : m_sl w.1 = S + 1100) : m_R (m_E d) 62 N S Q 250 [some (.inr (some k)), none] [] w = Q none (w.1, m_und u w.2.1, w.2.2) := by
  obtain ⟨sh, f, g⟩ := w
  have hk : sh[k]? = some (0, 6) := hk
  have hu : g k 1 = some u := hu
  have hs : sh[u]? = some (1, 16) := hs
  show _ = Q none (sh, m_und u f, g)
  have it : ∀ (x y : Int32) (f : Nat → Nat → Int32), ((9 : Int32) ≤ x) = False → vp_in x 16 → x + 1 = y → m_R (m_E d) 62 N S Q 280 [some (.inr (some k)), some (.inl x)] [] (sh, f, g) = m_R (m_E d) 62 N S Q 280 [some (.inr (some k)), some (.inl y)] [] (sh, m_si f u x.toNatClampNeg 3, g) := by
    intro x y f h1 h2 h3
    rw [r62_280, r62_281, r62_283, if_neg (of_eq_false h1), r62_286, r62_287 hk, hu, r62_290, r62_291, r62_292 hs h2, r62_293, r62_296, h3]
  rw [r62_250, r62_251 hk, hu, r62_254, r62_255, r62_256 hs (show vp_in (0 : Int32) 16 from m_vp16 0 (by decide)), r62_257, r62_258 hk, hu, r62_261, r62_262, r62_263 hs (show vp_in (1 : Int32) 16 from m_vp16 1 (by decide)), r62_264, r62_265 hk, hu, r62_268, r62_269, r62_270 hs (show vp_in (2 : Int32) 16 from m_vp16 2 (by decide)), r62_271, r62_272 hk, hu, r62_275, r62_276, r62_277 hs (show vp_in (3 : Int32) 16 from m_vp16 3 (by decide)), r62_278, r62_279]
  rw [it 4 5 _ m_9le.1 (m_vp16 4 (by decide)) m_p1.1, it 5 6 _ m_9le.2.1 (m_vp16 5 (by decide)) m_p1.2.1, it 6 7 _ m_9le.2.2.1 (m_vp16 6 (by decide)) m_p1.2.2.1, it 7 8 _ m_9le.2.2.2.1 (m_vp16 7 (by decide)) m_p1.2.2.2.1, it 8 9 _ m_9le.2.2.2.2.1 (m_vp16 8 (by decide)) m_p1.2.2.2.2]
  rw [r62_280, r62_281, r62_283, if_pos (of_eq_true m_9le.2.2.2.2.2), r62_299, r62_300 hk, hu, r62_303, r62_305, r62_306 hs (show vp_in (9 : Int32) 16 from m_vp16 9 (by decide)), r62_307 (by rw [m_bg62]; exact hN) (by rw [m_bg62]; exact hS), m_und_eq]
