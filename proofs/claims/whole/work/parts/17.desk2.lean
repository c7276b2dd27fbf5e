/-! the class's rules, steps, journal -/
def m_key (x : Int32) : Int32 := if x < 0 then 0 else if 4 ≤ x then 0 else 1
def m_has (n x : Int32) : Int32 := if x < 0 then 0 else if n ≤ x then 0 else 1
def m_fit (n m op x y : Int32) : Int32 := if op = 0 then m_key x else if op = 1 then m_key x else if op = 2 then m_key x else if op = 3 then (if x < 0 then 0 else if m ≤ x then 0 else if y = -1 then 1 else m_has n y) else if op = 4 then m_has n x else if op = 5 then 1 else if op = 6 then (if x < 0 then 0 else if 10 ≤ x then 0 else if y = 0 then 1 else if y = 1 then 1 else 0) else 0
theorem m_key01 (x : Int32) : m_key x = 0 ∨ m_key x = 1 := by unfold m_key; split; exact Or.inl rfl; split; exact Or.inl rfl; exact Or.inr rfl
theorem m_has01 (n x : Int32) : m_has n x = 0 ∨ m_has n x = 1 := by unfold m_has; split; exact Or.inl rfl; split; exact Or.inl rfl; exact Or.inr rfl
theorem m_fit01 (n m op x y : Int32) : m_fit n m op x y = 0 ∨ m_fit n m op x y = 1 := by
  unfold m_fit
  split
  · exact m_key01 x
  split
  · exact m_key01 x
  split
  · exact m_key01 x
  split
  · split
    · exact Or.inl rfl
    split
    · exact Or.inl rfl
    split
    · exact Or.inr rfl
    exact m_has01 n y
  split
  · exact m_has01 n x
  split
  · exact Or.inr rfl
  split
  · split
    · exact Or.inl rfl
    split
    · exact Or.inl rfl
    split
    · exact Or.inr rfl
    split
    · exact Or.inr rfl
    exact Or.inl rfl
  exact Or.inl rfl
theorem m_ite {Q : mQ} {w : mW} {c : Prop} [Decidable c] {a b : Int32} : Q (some (.inl (if c then a else b))) w = if c then Q (some (.inl a)) w else Q (some (.inl b)) w := by split <;> rfl
theorem m_ix {x : Int32} {p : Nat} (h0 : ¬ x < 0) (h1 : ¬ nI p ≤ x) (hp : p < 2 ^ 31) : x.toNatClampNeg < p := Nat.not_le.mp fun q => m_in h0 h1 (Nat.le_refl p) hp (Or.inr q)
theorem c8h {d : Nat} {Q : mQ} {f : Nat → Nat → Int32} {g : Nat → Nat → Option Nat} {c : Int32} : m_E (d + 1) 8 [.inr (some 1), .inl c] (m_SH, f, g) Q = Q (some (.inl (m_has (f 1 1) c))) (m_SH, f, g) := c8
theorem c8o {d : Nat} {Q : mQ} {f : Nat → Nat → Int32} {g : Nat → Nat → Option Nat} {c : Int32} : m_E (d + 1) 8 [.inr (some 1), .inl c] (m_SH, f, g) Q = if c < 0 then Q (some (.inl 0)) (m_SH, f, g) else if f 1 1 ≤ c then Q (some (.inl 0)) (m_SH, f, g) else Q (some (.inl 1)) (m_SH, f, g) := by
  rw [c8]
  by_cases h0 : c < 0
  · simp only [h0, if_true]
  by_cases h1 : f 1 1 ≤ c <;> simp only [h0, h1, if_true, if_false]
theorem c12o {d : Nat} {Q : mQ} {f : Nat → Nat → Int32} {g : Nat → Nat → Option Nat} {c : Int32} : m_E (d + 1) 12 [.inr (some 0), .inl c] (m_SH, f, g) Q = if c < 0 then Q (some (.inl 0)) (m_SH, f, g) else if f 0 2 ≤ c then Q (some (.inl 0)) (m_SH, f, g) else Q (some (.inl 1)) (m_SH, f, g) := by
  rw [c12]
  by_cases h0 : c < 0
  · simp only [h0, if_true]
  by_cases h1 : f 0 2 ≤ c <;> simp only [h0, h1, if_true, if_false]
theorem c16h {d : Nat} {Q : mQ} {f : Nat → Nat → Int32} {g : Nat → Nat → Option Nat} {c : Int32} : m_E (d + 1) 16 [.inl c] (m_SH, f, g) Q = Q (some (.inl (m_key c))) (m_SH, f, g) := c16
theorem c15 {d : Nat} {Q : mQ} {f : Nat → Nat → Int32} {g : Nat → Nat → Option Nat} {m op x y : Int32} (hg : m_go_ g) : m_E (d + 2) 15 [.inr (some 0), .inl m, .inl op, .inl x, .inl y] (m_SH, f, g) Q = Q (some (.inl (m_fit (f 1 1) m op x y))) (m_SH, f, g) := by
  simp only [↓e15, ↓r15_0, ↓r15_1, ↓r15_44, ↓r15_45, ↓r15_49, ↓r15_50, ↓r15_53, ↓r15_54, ↓r15_55, ↓r15_58, ↓r15_60, ↓r15_61, ↓r15_64, ↓r15_65, ↓r15_68, ↓r15_70, ↓r15_73, ↓r15_76, ↓r15_77, ↓r15_80, ↓r15_81, ↓r15_82, ↓r15_83, ↓r15_86, ↓r15_87, ↓r15_91, ↓r15_92, ↓r15_93, ↓r15_94, ↓r15_97, ↓r15_98, ↓r15_100, ↓r15_103, ↓r15_105, ↓r15_108, ↓r15_110, ↓r15_111, ↓r15_114, ↓r15_115, ↓r15_118, ↓r15_119, ↓r15_120, ↓r15_121, kC0, lC0, kC1, lC1, kC2, lC2, kC3, lC3, kC4, lC4, kC5, lC5, gC0_0 hg, c16h, c8h, Option.toList, List.cons_append, List.nil_append, List.length_nil, List.length_cons, Nat.zero_le, if_true, if_false, true_or, or_true, eq_self, m_10]
  simp only [r15_48 (m_key01 _), r15_90 (m_has01 _ _), if_true, if_false, true_or, or_true, eq_self, m_10]
  unfold m_fit
  by_cases o0 : op = 0
  · simp only [o0, if_true]
  by_cases o1 : op = 1
  · simp only [o1, if_true, m_10, if_false]
  by_cases o2 : op = 2
  · simp only [o2, o0, o1, if_true, if_false]
    simp
  by_cases o3 : op = 3
  · simp only [o0, o1, o2, if_false]
    simp only [o3, if_true, m_ite]
    unfold m_has
    split
    · rfl
    split
    · rfl
    split
    · rfl
    · by_cases y0 : y < 0
      · simp only [y0, if_true, ↓r15_0, ↓r15_1, ↓r15_44, ↓r15_45, ↓r15_48, ↓r15_49, ↓r15_50, ↓r15_53, ↓r15_54, ↓r15_55, ↓r15_58, ↓r15_60, ↓r15_61, ↓r15_64, ↓r15_65, ↓r15_68, ↓r15_70, ↓r15_73, ↓r15_76, ↓r15_77, ↓r15_80, ↓r15_81, ↓r15_82, ↓r15_83, ↓r15_86, ↓r15_87, ↓r15_90, ↓r15_91, ↓r15_92, ↓r15_93, ↓r15_94, ↓r15_97, ↓r15_98, ↓r15_100, ↓r15_103, ↓r15_105, ↓r15_108, ↓r15_110, ↓r15_111, ↓r15_114, ↓r15_115, ↓r15_118, ↓r15_119, ↓r15_120, ↓r15_121, true_or]
      by_cases y1 : f 1 1 ≤ y
      · simp only [y0, y1, if_true, if_false, ↓r15_0, ↓r15_1, ↓r15_44, ↓r15_45, ↓r15_48, ↓r15_49, ↓r15_50, ↓r15_53, ↓r15_54, ↓r15_55, ↓r15_58, ↓r15_60, ↓r15_61, ↓r15_64, ↓r15_65, ↓r15_68, ↓r15_70, ↓r15_73, ↓r15_76, ↓r15_77, ↓r15_80, ↓r15_81, ↓r15_82, ↓r15_83, ↓r15_86, ↓r15_87, ↓r15_90, ↓r15_91, ↓r15_92, ↓r15_93, ↓r15_94, ↓r15_97, ↓r15_98, ↓r15_100, ↓r15_103, ↓r15_105, ↓r15_108, ↓r15_110, ↓r15_111, ↓r15_114, ↓r15_115, ↓r15_118, ↓r15_119, ↓r15_120, ↓r15_121, true_or]
      · simp only [y0, y1, if_false, m_10, ↓r15_0, ↓r15_1, ↓r15_44, ↓r15_45, ↓r15_48, ↓r15_49, ↓r15_50, ↓r15_53, ↓r15_54, ↓r15_55, ↓r15_58, ↓r15_60, ↓r15_61, ↓r15_64, ↓r15_65, ↓r15_68, ↓r15_70, ↓r15_73, ↓r15_76, ↓r15_77, ↓r15_80, ↓r15_81, ↓r15_82, ↓r15_83, ↓r15_86, ↓r15_87, ↓r15_90, ↓r15_91, ↓r15_92, ↓r15_93, ↓r15_94, ↓r15_97, ↓r15_98, ↓r15_100, ↓r15_103, ↓r15_105, ↓r15_108, ↓r15_110, ↓r15_111, ↓r15_114, ↓r15_115, ↓r15_118, ↓r15_119, ↓r15_120, ↓r15_121, or_true]
  simp only [o0, o1, o2, o3, if_false, m_ite]
theorem c11 {d : Nat} {Q : mQ} {f : Nat → Nat → Int32} {g : Nat → Nat → Option Nat} {x c b : Int32} {p : Nat} {rc : Nat → Nat} (hg : m_go_ g) (hp : f 0 2 = nI p) (hp10 : p ≤ 10) (hr : ∀ i, i < 10 → f (6 + 16 * i) 3 = nI (rc i) ∧ rc i ≤ 3) (hb : b = 0 ∨ b = 1) : m_E (d + 2) 11 [.inr (some 0), .inl x, .inl c, .inl b] (m_SH, f, g) Q = if x < 0 then Q (some (.inl 0)) (m_SH, f, g) else if nI p ≤ x then Q (some (.inl 0)) (m_SH, f, g) else if c < 0 then Q (some (.inl 0)) (m_SH, f, g) else if f 1 1 ≤ c then Q (some (.inl 0)) (m_SH, f, g) else if rc x.toNatClampNeg < 3 then Q (some (.inl 1)) (m_SH, m_si (m_si (m_si f (7 + 16 * x.toNatClampNeg) (rc x.toNatClampNeg) c) (8 + 16 * x.toNatClampNeg) (rc x.toNatClampNeg) b) (6 + 16 * x.toNatClampNeg) 3 (nI (rc x.toNatClampNeg + 1)), g) else Q (some (.inl 0)) (m_SH, f, g) := by
  simp only [↓e11, ↓r11_0, ↓r11_1, ↓r11_2, ↓r11_5, ↓r11_8, ↓r11_9, ↓r11_12, ↓r11_13, ↓r11_16, ↓r11_19, ↓r11_20, ↓r11_23, ↓r11_24, ↓r11_25, ↓r11_26, ↓r11_27, ↓r11_30, ↓r11_33, ↓r11_34, ↓r11_37, ↓r11_38, kC0, lC0, kC1, lC1, kC2, lC2, kC3, lC3, kC4, lC4, kC5, lC5, c12o, Option.toList, List.cons_append, List.nil_append, List.length_nil, List.length_cons, Nat.zero_le, hp]
  by_cases h0 : x < 0
  · simp only [h0, if_true, ↓r11_0, ↓r11_1, ↓r11_2, ↓r11_5, ↓r11_8, ↓r11_9, ↓r11_12, ↓r11_13, ↓r11_16, ↓r11_19, ↓r11_20, ↓r11_23, ↓r11_24, ↓r11_25, ↓r11_26, ↓r11_27, ↓r11_30, ↓r11_33, ↓r11_34, ↓r11_37, ↓r11_38, if_true, if_false, true_or, or_true, eq_self, m_10]
  by_cases h1 : nI p ≤ x
  · simp only [h0, h1, if_true, if_false, ↓r11_0, ↓r11_1, ↓r11_2, ↓r11_5, ↓r11_8, ↓r11_9, ↓r11_12, ↓r11_13, ↓r11_16, ↓r11_19, ↓r11_20, ↓r11_23, ↓r11_24, ↓r11_25, ↓r11_26, ↓r11_27, ↓r11_30, ↓r11_33, ↓r11_34, ↓r11_37, ↓r11_38, if_true, if_false, true_or, or_true, eq_self, m_10]
  have hi : x.toNatClampNeg < 10 := Nat.lt_of_lt_of_le (m_ix h0 h1 (by omega)) hp10
  simp only [h0, h1, if_false, ↓r11_0, ↓r11_1, ↓r11_2, ↓r11_5, ↓r11_8, ↓r11_9, ↓r11_12, ↓r11_13, ↓r11_16, ↓r11_19, ↓r11_20, ↓r11_23, ↓r11_24, ↓r11_25, ↓r11_26, ↓r11_27, ↓r11_30, ↓r11_33, ↓r11_34, ↓r11_37, ↓r11_38, if_true, if_false, true_or, or_true, eq_self, m_10, kC0, lC0, kC1, lC1, kC2, lC2, kC3, lC3, kC4, lC4, kC5, lC5, gC0_0 hg, c8o, Option.toList, List.cons_append, List.nil_append, List.length_nil, List.length_cons, Nat.zero_le]
  by_cases h2 : c < 0
  · simp only [h2, if_true, ↓r11_0, ↓r11_1, ↓r11_2, ↓r11_5, ↓r11_8, ↓r11_9, ↓r11_12, ↓r11_13, ↓r11_16, ↓r11_19, ↓r11_20, ↓r11_23, ↓r11_24, ↓r11_25, ↓r11_26, ↓r11_27, ↓r11_30, ↓r11_33, ↓r11_34, ↓r11_37, ↓r11_38, if_true, if_false, true_or, or_true, eq_self, m_10]
  by_cases h3 : f 1 1 ≤ c
  · simp only [h2, h3, if_true, if_false, ↓r11_0, ↓r11_1, ↓r11_2, ↓r11_5, ↓r11_8, ↓r11_9, ↓r11_12, ↓r11_13, ↓r11_16, ↓r11_19, ↓r11_20, ↓r11_23, ↓r11_24, ↓r11_25, ↓r11_26, ↓r11_27, ↓r11_30, ↓r11_33, ↓r11_34, ↓r11_37, ↓r11_38, if_true, if_false, true_or, or_true, eq_self, m_10]
  simp only [h2, h3, if_false, ↓r11_0, ↓r11_1, ↓r11_2, ↓r11_5, ↓r11_8, ↓r11_9, ↓r11_12, ↓r11_13, ↓r11_16, ↓r11_19, ↓r11_20, ↓r11_23, ↓r11_24, ↓r11_25, ↓r11_26, ↓r11_27, ↓r11_30, ↓r11_33, ↓r11_34, ↓r11_37, ↓r11_38, if_true, if_false, true_or, or_true, eq_self, m_10, kC0, lC0, kC1, lC1, kC2, lC2, kC3, lC3, kC4, lC4, kC5, lC5, gC0_1 hg, m_in h0 h1 hp10 (show 10 < 2 ^ 31 by decide), gA3 hg hi, kB0 hi, lB0 hi, c13 hg hi (hr _ hi).1 (hr _ hi).2 hb, Option.toList, List.cons_append, List.nil_append, List.length_nil, List.length_cons, Nat.zero_le]
theorem c14 {d : Nat} {Q : mQ} {f : Nat → Nat → Int32} {g : Nat → Nat → Option Nat} {x op a b : Int32} {p : Nat} {sc : Nat → Nat} (hg : m_go_ g) (hp : f 0 2 = nI p) (hp10 : p ≤ 10) (hr : ∀ i, i < 10 → f (6 + 16 * i) 7 = nI (sc i) ∧ sc i ≤ 8) : m_E (d + 3) 14 [.inr (some 0), .inl x, .inl op, .inl a, .inl b] (m_SH, f, g) Q = if x < 0 then Q (some (.inl (-1))) (m_SH, f, g) else if nI p ≤ x then Q (some (.inl (-1))) (m_SH, f, g) else if m_fit (f 1 1) x op a b = 0 then Q (some (.inl (-1))) (m_SH, f, g) else if sc x.toNatClampNeg < 8 then Q (some (.inl (nI (sc x.toNatClampNeg + 1)))) (m_SH, m_si (m_si (m_si (m_si f (9 + 16 * x.toNatClampNeg) (sc x.toNatClampNeg) op) (10 + 16 * x.toNatClampNeg) (sc x.toNatClampNeg) a) (11 + 16 * x.toNatClampNeg) (sc x.toNatClampNeg) b) (6 + 16 * x.toNatClampNeg) 7 (nI (sc x.toNatClampNeg + 1)), g) else Q (some (.inl (-1))) (m_SH, f, g) := by
  simp only [↓e14, ↓r14_0, ↓r14_1, ↓r14_2, ↓r14_5, ↓r14_8, ↓r14_9, ↓r14_10, ↓r14_11, ↓r14_12, ↓r14_14, ↓r14_17, ↓r14_20, ↓r14_21, ↓r14_24, ↓r14_25, ↓r14_26, ↓r14_27, ↓r14_28, ↓r14_30, ↓r14_33, ↓r14_36, ↓r14_37, kC0, lC0, kC1, lC1, kC2, lC2, kC3, lC3, kC4, lC4, kC5, lC5, c12o, Option.toList, List.cons_append, List.nil_append, List.length_nil, List.length_cons, Nat.zero_le, hp]
  by_cases h0 : x < 0
  · simp only [h0, if_true, ↓r14_0, ↓r14_1, ↓r14_2, ↓r14_5, ↓r14_8, ↓r14_9, ↓r14_10, ↓r14_11, ↓r14_12, ↓r14_14, ↓r14_17, ↓r14_20, ↓r14_21, ↓r14_24, ↓r14_25, ↓r14_26, ↓r14_27, ↓r14_28, ↓r14_30, ↓r14_33, ↓r14_36, ↓r14_37, if_true, if_false, true_or, or_true, eq_self, m_10]
  by_cases h1 : nI p ≤ x
  · simp only [h0, h1, if_true, if_false, ↓r14_0, ↓r14_1, ↓r14_2, ↓r14_5, ↓r14_8, ↓r14_9, ↓r14_10, ↓r14_11, ↓r14_12, ↓r14_14, ↓r14_17, ↓r14_20, ↓r14_21, ↓r14_24, ↓r14_25, ↓r14_26, ↓r14_27, ↓r14_28, ↓r14_30, ↓r14_33, ↓r14_36, ↓r14_37, if_true, if_false, true_or, or_true, eq_self, m_10]
  have hi : x.toNatClampNeg < 10 := Nat.lt_of_lt_of_le (m_ix h0 h1 (by omega)) hp10
  simp only [h0, h1, if_false, ↓r14_0, ↓r14_1, ↓r14_2, ↓r14_5, ↓r14_8, ↓r14_9, ↓r14_10, ↓r14_11, ↓r14_12, ↓r14_14, ↓r14_17, ↓r14_20, ↓r14_21, ↓r14_24, ↓r14_25, ↓r14_26, ↓r14_27, ↓r14_28, ↓r14_30, ↓r14_33, ↓r14_36, ↓r14_37, if_true, if_false, true_or, or_true, eq_self, m_10, kC0, lC0, kC1, lC1, kC2, lC2, kC3, lC3, kC4, lC4, kC5, lC5, c15 hg, Option.toList, List.cons_append, List.nil_append, List.length_nil, List.length_cons, Nat.zero_le]
  by_cases h2 : m_fit (f 1 1) x op a b = 0
  · simp only [h2, if_true, ↓r14_0, ↓r14_1, ↓r14_2, ↓r14_5, ↓r14_8, ↓r14_9, ↓r14_10, ↓r14_11, ↓r14_12, ↓r14_14, ↓r14_17, ↓r14_20, ↓r14_21, ↓r14_24, ↓r14_25, ↓r14_26, ↓r14_27, ↓r14_28, ↓r14_30, ↓r14_33, ↓r14_36, ↓r14_37, if_true, if_false, true_or, or_true, eq_self, m_10]
  simp only [h2, if_false, ↓r14_0, ↓r14_1, ↓r14_2, ↓r14_5, ↓r14_8, ↓r14_9, ↓r14_10, ↓r14_11, ↓r14_12, ↓r14_14, ↓r14_17, ↓r14_20, ↓r14_21, ↓r14_24, ↓r14_25, ↓r14_26, ↓r14_27, ↓r14_28, ↓r14_30, ↓r14_33, ↓r14_36, ↓r14_37, if_true, if_false, true_or, or_true, eq_self, m_10, kC0, lC0, kC1, lC1, kC2, lC2, kC3, lC3, kC4, lC4, kC5, lC5, gC0_1 hg, m_in h0 h1 hp10 (show 10 < 2 ^ 31 by decide), gA3 hg hi, kB0 hi, lB0 hi, c17 hg hi (hr _ hi).1 (hr _ hi).2, Option.toList, List.cons_append, List.nil_append, List.length_nil, List.length_cons, Nat.zero_le]
def m_rec (jo js jc ja t : Nat) (k n v : Int32) (f : Nat → Nat → Int32) : Nat → Nat → Int32 := if t < 128 then m_si (m_si (m_si f jc t (16 * n + k)) ja t v) jo js (nI (t + 1)) else m_si f jo js (nI (t + 1))
theorem c33 {d : Nat} {Q : mQ} {f : Nat → Nat → Int32} {g : Nat → Nat → Option Nat} {k n v : Int32} {t : Nat} (hg : m_go_ g) (ht : f 166 2 = nI t) (ht2 : t < 1000000) : m_E (d + 1) 33 [.inr (some 166), .inl k, .inl n, .inl v] (m_SH, f, g) Q = Q none (m_SH, m_rec 166 2 167 168 t k n v f, g) := by
  simp only [↓e33, ↓r33_0, ↓r33_1, ↓r33_4, ↓r33_7, ↓r33_10, ↓r33_11, ↓r33_14, ↓r33_15, ↓r33_18, ↓r33_20, ↓r33_21, ↓r33_22, ↓r33_23, ↓r33_24, ↓r33_25, ↓r33_26, ↓r33_29, ↓r33_30, ↓r33_33, ↓r33_34, ↓r33_35, ↓r33_36, ↓r33_37, ↓r33_40, ↓r33_41, ↓r33_42, ↓r33_45, kC166, lC166, ht]
  unfold m_rec
  by_cases h : t < 128
  · have h1 : ((128 : Int32) ≤ nI t) = False := eq_false (nI_ge (a := t) (b := 128) h (by decide))
    have f1 : m_si f 167 t (16 * n + k) 166 2 = nI t := by simp [m_si, ht]
    have f2 : m_si (m_si f 167 t (16 * n + k)) 168 t v 166 2 = nI t := by simp [m_si, ht]
    simp only [h, h1, if_true, if_false, ↓r33_0, ↓r33_1, ↓r33_4, ↓r33_7, ↓r33_10, ↓r33_11, ↓r33_14, ↓r33_15, ↓r33_18, ↓r33_20, ↓r33_21, ↓r33_22, ↓r33_23, ↓r33_24, ↓r33_25, ↓r33_26, ↓r33_29, ↓r33_30, ↓r33_33, ↓r33_34, ↓r33_35, ↓r33_36, ↓r33_37, ↓r33_40, ↓r33_41, ↓r33_42, ↓r33_45, kC166, lC166, kC167, lC167, kC168, lC168, gC166_0 hg, gC166_1 hg, ht, f1, f2, vp_in_nI h (show 128 < 2 ^ 31 by decide), nI_clamp (show t < 2 ^ 31 by omega), nI_1]
  · have h1 : ((128 : Int32) ≤ nI t) = True := eq_true (nI_le (a := 128) (b := t) (by omega) (by omega))
    simp only [h, h1, if_true, if_false, ↓r33_0, ↓r33_1, ↓r33_4, ↓r33_7, ↓r33_10, ↓r33_11, ↓r33_14, ↓r33_15, ↓r33_18, ↓r33_20, ↓r33_21, ↓r33_22, ↓r33_23, ↓r33_24, ↓r33_25, ↓r33_26, ↓r33_29, ↓r33_30, ↓r33_33, ↓r33_34, ↓r33_35, ↓r33_36, ↓r33_37, ↓r33_40, ↓r33_41, ↓r33_42, ↓r33_45, kC166, lC166, ht, nI_1]
theorem c19 {d : Nat} {Q : mQ} {f : Nat → Nat → Int32} {g : Nat → Nat → Option Nat} : m_E (d + 1) 19 [.inr (some 166)] (m_SH, f, g) Q = Q none (m_SH, m_si f 166 2 0, g) := by
  simp only [↓e19, ↓r19_0, ↓r19_1, ↓r19_2, ↓r19_5, kC166, lC166]
