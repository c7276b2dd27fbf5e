/-! the class's small methods -/
theorem m_11 : ((1 : Int32) = 1) = True := eq_true rfl
theorem m_00 : ((0 : Int32) = 0) = True := eq_true rfl
theorem c12 {d : Nat} {Q : mQ} {f : Nat → Nat → Int32} {g : Nat → Nat → Option Nat} {x : Int32} : m_E (d + 1) 12 [.inr (some 0), .inl x] (m_SH, f, g) Q = Q (some (.inl (if x < 0 then 0 else if f 0 2 ≤ x then 0 else 1))) (m_SH, f, g) := by
  simp only [↓e12, ↓r12_0, ↓r12_1, ↓r12_4, ↓r12_5, ↓r12_6, ↓r12_9, ↓r12_12, ↓r12_13, ↓r12_16, ↓r12_17, kC0, lC0, kC1, lC1, kC2, lC2, kC3, lC3, kC4, lC4, kC5, lC5, true_or, or_true]
  split
  · rfl
  · split <;> rfl
theorem c16 {d : Nat} {Q : mQ} {f : Nat → Nat → Int32} {g : Nat → Nat → Option Nat} {x : Int32} : m_E (d + 1) 16 [.inl x] (m_SH, f, g) Q = Q (some (.inl (if x < 0 then 0 else if 4 ≤ x then 0 else 1))) (m_SH, f, g) := by
  simp only [↓e16, ↓r16_0, ↓r16_1, ↓r16_4, ↓r16_5, ↓r16_6, ↓r16_9, ↓r16_10, ↓r16_13, ↓r16_14, kC0, lC0, kC1, lC1, kC2, lC2, kC3, lC3, kC4, lC4, kC5, lC5, true_or, or_true]
  split
  · rfl
  · split <;> rfl
theorem c7 {d : Nat} {Q : mQ} {f : Nat → Nat → Int32} {g : Nat → Nat → Option Nat} {x : Int32} {n : Nat} (hg : m_go_ g) (hn : f 1 1 = nI n) (hr : n ≤ 16) : m_E (d + 2) 7 [.inr (some 0), .inl x] (m_SH, f, g) Q = if x < 0 then Q (some (.inl (-1))) (m_SH, f, g) else if nI n ≤ x then Q (some (.inl (-1))) (m_SH, f, g) else if n < 16 then Q (some (.inl (nI n))) (m_SH, m_si (m_si f 2 n x) 1 1 (nI (n + 1)), g) else Q (some (.inl (-1))) (m_SH, f, g) := by
  simp only [↓e7, ↓r7_0, ↓r7_1, ↓r7_4, ↓r7_5, ↓r7_8, ↓r7_11, ↓r7_12, ↓r7_15, ↓r7_16, ↓r7_19, ↓r7_22, ↓r7_23, kC0, lC0, kC1, lC1, kC2, lC2, kC3, lC3, kC4, lC4, kC5, lC5, gC0_0 hg, c8, Option.toList, List.cons_append, List.nil_append, List.length_nil, List.length_cons, Nat.zero_le, hn]
  by_cases h0 : x < 0
  · simp only [h0, if_true, ↓r7_0, ↓r7_1, ↓r7_4, ↓r7_5, ↓r7_8, ↓r7_11, ↓r7_12, ↓r7_15, ↓r7_16, ↓r7_19, ↓r7_22, ↓r7_23]
  · by_cases h1 : nI n ≤ x
    · simp only [h0, h1, if_true, if_false, ↓r7_0, ↓r7_1, ↓r7_4, ↓r7_5, ↓r7_8, ↓r7_11, ↓r7_12, ↓r7_15, ↓r7_16, ↓r7_19, ↓r7_22, ↓r7_23]
    · simp only [h0, h1, if_false, ↓r7_0, ↓r7_1, ↓r7_4, ↓r7_5, ↓r7_8, ↓r7_11, ↓r7_12, ↓r7_15, ↓r7_16, ↓r7_19, ↓r7_22, ↓r7_23, kC0, lC0, kC1, lC1, kC2, lC2, kC3, lC3, kC4, lC4, kC5, lC5, m_10, gC0_0 hg, c9 hn hr (gC1_0 hg), Option.toList, List.cons_append, List.nil_append, List.length_nil, List.length_cons, Nat.zero_le]
theorem c10 {d : Nat} {Q : mQ} {f : Nat → Nat → Int32} {g : Nat → Nat → Option Nat} {x : Int32} {p : Nat} (hg : m_go_ g) (hp : f 0 2 = nI p) (hr : p ≤ 10) : m_E (d + 1) 10 [.inr (some 0), .inl x] (m_SH, f, g) Q = if x < 0 then Q (some (.inl (-1))) (m_SH, f, g) else if 6 < x then Q (some (.inl (-1))) (m_SH, f, g) else if p < 10 then Q (some (.inl (nI p))) (m_SH, m_si (m_si f (6 + 16 * p) 0 x) 0 2 (nI (p + 1)), g) else Q (some (.inl (-1))) (m_SH, f, g) := by
  simp only [↓e10, ↓r10_0, ↓r10_1, ↓r10_4, ↓r10_5, ↓r10_7, ↓r10_10, ↓r10_11, ↓r10_14, ↓r10_16, ↓r10_19, ↓r10_20, ↓r10_21, ↓r10_22, ↓r10_25, ↓r10_26, ↓r10_29, ↓r10_30, ↓r10_31, ↓r10_34, ↓r10_35, ↓r10_36, ↓r10_39, ↓r10_40, ↓r10_41, ↓r10_44, ↓r10_45, ↓r10_48, ↓r10_49, ↓r10_50, kC0, lC0, kC1, lC1, kC2, lC2, kC3, lC3, kC4, lC4, kC5, lC5, hp]
  by_cases h : p < 10
  · have h1 : (nI p < 10) = True := eq_true (nI_lt (b := 10) h (by decide))
    simp only [h, h1, if_true, ↓r10_0, ↓r10_1, ↓r10_4, ↓r10_5, ↓r10_7, ↓r10_10, ↓r10_11, ↓r10_14, ↓r10_16, ↓r10_19, ↓r10_20, ↓r10_21, ↓r10_22, ↓r10_25, ↓r10_26, ↓r10_29, ↓r10_30, ↓r10_31, ↓r10_34, ↓r10_35, ↓r10_36, ↓r10_39, ↓r10_40, ↓r10_41, ↓r10_44, ↓r10_45, ↓r10_48, ↓r10_49, ↓r10_50, kC0, lC0, kC1, lC1, kC2, lC2, kC3, lC3, kC4, lC4, kC5, lC5, hp, gC0_1 hg, or_true, true_or, vp_in_nI h (show 10 < 2 ^ 31 by decide), nI_clamp (show p < 2 ^ 31 by omega), gA3 hg h, kB0 h, lB0 h]
    simp [m_si, hp, nI_succ]
  · have h1 : (nI p < 10) = False := eq_false (nI_nlt (a := p) (b := 10) (by omega) (by omega))
    simp only [h, h1, if_false, ↓r10_0, ↓r10_1, ↓r10_4, ↓r10_5, ↓r10_7, ↓r10_10, ↓r10_11, ↓r10_14, ↓r10_16, ↓r10_19, ↓r10_20, ↓r10_21, ↓r10_22, ↓r10_25, ↓r10_26, ↓r10_29, ↓r10_30, ↓r10_31, ↓r10_34, ↓r10_35, ↓r10_36, ↓r10_39, ↓r10_40, ↓r10_41, ↓r10_44, ↓r10_45, ↓r10_48, ↓r10_49, ↓r10_50]
theorem c13 {d : Nat} {Q : mQ} {f : Nat → Nat → Int32} {g : Nat → Nat → Option Nat} {c b : Int32} {i r : Nat} (hg : m_go_ g) (hi : i < 10) (hr : f (6 + 16 * i) 3 = nI r) (h3 : r ≤ 3) (hb : b = 0 ∨ b = 1) : m_E (d + 1) 13 [.inr (some (6 + 16 * i)), .inl c, .inl b] (m_SH, f, g) Q = if r < 3 then Q (some (.inl 1)) (m_SH, m_si (m_si (m_si f (7 + 16 * i) r c) (8 + 16 * i) r b) (6 + 16 * i) 3 (nI (r + 1)), g) else Q (some (.inl 0)) (m_SH, f, g) := by
  simp only [↓e13, ↓r13_0, ↓r13_1, ↓r13_4, ↓r13_5, ↓r13_8, ↓r13_9, ↓r13_10, ↓r13_11, ↓r13_14, ↓r13_15, ↓r13_18, ↓r13_19, ↓r13_20, ↓r13_21, ↓r13_24, ↓r13_25, ↓r13_28, ↓r13_29, ↓r13_30, ↓r13_31, ↓r13_32, ↓r13_35, ↓r13_36, ↓r13_37, ↓r13_40, ↓r13_41, kB0 hi, lB0 hi, hr]
  by_cases h : r < 3
  · have h1 : (nI r < 3) = True := eq_true (nI_lt (b := 3) h (by decide))
    have hne1 : 6 + 16 * i ≠ 7 + 16 * i := by omega
    have hne2 : 6 + 16 * i ≠ 8 + 16 * i := by omega
    have f1 : m_si f (7 + 16 * i) r c (6 + 16 * i) 3 = nI r := by simp [m_si, hne1, hr]
    have f2 : m_si (m_si f (7 + 16 * i) r c) (8 + 16 * i) r b (6 + 16 * i) 3 = nI r := by simp [m_si, hne1, hne2, hr]
    simp only [h, h1, if_true, ↓r13_0, ↓r13_1, ↓r13_4, ↓r13_5, ↓r13_8, ↓r13_9, ↓r13_10, ↓r13_11, ↓r13_14, ↓r13_15, ↓r13_18, ↓r13_19, ↓r13_20, ↓r13_21, ↓r13_24, ↓r13_25, ↓r13_28, ↓r13_29, ↓r13_30, ↓r13_31, ↓r13_32, ↓r13_35, ↓r13_36, ↓r13_37, ↓r13_40, ↓r13_41, kB0 hi, lB0 hi, kB1 hi, lB1 hi, kB2 hi, lB2 hi, hr, f1, f2, gB0_1 hg hi, gB0_2 hg hi, vp_in_nI h (show 3 < 2 ^ 31 by decide), nI_clamp (show r < 2 ^ 31 by omega), hb, or_true, true_or, nI_1]
  · have h1 : (nI r < 3) = False := eq_false (nI_nlt (a := r) (b := 3) (by omega) (by omega))
    simp only [h, h1, if_false, ↓r13_0, ↓r13_1, ↓r13_4, ↓r13_5, ↓r13_8, ↓r13_9, ↓r13_10, ↓r13_11, ↓r13_14, ↓r13_15, ↓r13_18, ↓r13_19, ↓r13_20, ↓r13_21, ↓r13_24, ↓r13_25, ↓r13_28, ↓r13_29, ↓r13_30, ↓r13_31, ↓r13_32, ↓r13_35, ↓r13_36, ↓r13_37, ↓r13_40, ↓r13_41, true_or]
theorem c17 {d : Nat} {Q : mQ} {f : Nat → Nat → Int32} {g : Nat → Nat → Option Nat} {op a b : Int32} {i s : Nat} (hg : m_go_ g) (hi : i < 10) (hr : f (6 + 16 * i) 7 = nI s) (h8 : s ≤ 8) : m_E (d + 1) 17 [.inr (some (6 + 16 * i)), .inl op, .inl a, .inl b] (m_SH, f, g) Q = if s < 8 then Q (some (.inl (nI (s + 1)))) (m_SH, m_si (m_si (m_si (m_si f (9 + 16 * i) s op) (10 + 16 * i) s a) (11 + 16 * i) s b) (6 + 16 * i) 7 (nI (s + 1)), g) else Q (some (.inl (-1))) (m_SH, f, g) := by
  simp only [↓e17, ↓r17_0, ↓r17_1, ↓r17_4, ↓r17_6, ↓r17_9, ↓r17_10, ↓r17_11, ↓r17_12, ↓r17_15, ↓r17_16, ↓r17_19, ↓r17_20, ↓r17_21, ↓r17_22, ↓r17_25, ↓r17_26, ↓r17_29, ↓r17_30, ↓r17_31, ↓r17_32, ↓r17_35, ↓r17_36, ↓r17_39, ↓r17_40, ↓r17_41, ↓r17_42, ↓r17_43, ↓r17_46, ↓r17_47, ↓r17_48, ↓r17_51, ↓r17_52, ↓r17_55, kB0 hi, lB0 hi, hr]
  by_cases h : s < 8
  · have h1 : (nI s < 8) = True := eq_true (nI_lt (b := 8) h (by decide))
    have n1 : 6 + 16 * i ≠ 9 + 16 * i := by omega
    have n2 : 6 + 16 * i ≠ 10 + 16 * i := by omega
    have n3 : 6 + 16 * i ≠ 11 + 16 * i := by omega
    have f1 : m_si f (9 + 16 * i) s op (6 + 16 * i) 7 = nI s := by simp [m_si, n1, hr]
    have f2 : m_si (m_si f (9 + 16 * i) s op) (10 + 16 * i) s a (6 + 16 * i) 7 = nI s := by simp [m_si, n1, n2, hr]
    have f3 : m_si (m_si (m_si f (9 + 16 * i) s op) (10 + 16 * i) s a) (11 + 16 * i) s b (6 + 16 * i) 7 = nI s := by simp [m_si, n1, n2, n3, hr]
    have f4 : ∀ z, m_si (m_si (m_si (m_si f (9 + 16 * i) s op) (10 + 16 * i) s a) (11 + 16 * i) s b) (6 + 16 * i) 7 z (6 + 16 * i) 7 = z := fun z => by simp [m_si]
    simp only [h, h1, if_true, ↓r17_0, ↓r17_1, ↓r17_4, ↓r17_6, ↓r17_9, ↓r17_10, ↓r17_11, ↓r17_12, ↓r17_15, ↓r17_16, ↓r17_19, ↓r17_20, ↓r17_21, ↓r17_22, ↓r17_25, ↓r17_26, ↓r17_29, ↓r17_30, ↓r17_31, ↓r17_32, ↓r17_35, ↓r17_36, ↓r17_39, ↓r17_40, ↓r17_41, ↓r17_42, ↓r17_43, ↓r17_46, ↓r17_47, ↓r17_48, ↓r17_51, ↓r17_52, ↓r17_55, kB0 hi, lB0 hi, kB3 hi, lB3 hi, kB4 hi, lB4 hi, kB5 hi, lB5 hi, hr, f1, f2, f3, f4, gB0_4 hg hi, gB0_5 hg hi, gB0_6 hg hi, vp_in_nI h (show 8 < 2 ^ 31 by decide), nI_clamp (show s < 2 ^ 31 by omega), nI_1]
  · have h1 : (nI s < 8) = False := eq_false (nI_nlt (a := s) (b := 8) (by omega) (by omega))
    simp only [h, h1, if_false, ↓r17_0, ↓r17_1, ↓r17_4, ↓r17_6, ↓r17_9, ↓r17_10, ↓r17_11, ↓r17_12, ↓r17_15, ↓r17_16, ↓r17_19, ↓r17_20, ↓r17_21, ↓r17_22, ↓r17_25, ↓r17_26, ↓r17_29, ↓r17_30, ↓r17_31, ↓r17_32, ↓r17_35, ↓r17_36, ↓r17_39, ↓r17_40, ↓r17_41, ↓r17_42, ↓r17_43, ↓r17_46, ↓r17_47, ↓r17_48, ↓r17_51, ↓r17_52, ↓r17_55]
theorem c51 {d : Nat} {Q : mQ} {f : Nat → Nat → Int32} {g : Nat → Nat → Option Nat} {x v : Int32} (hg : m_go_ g) : m_E (d + 2) 51 [.inr (some 0), .inl x, .inl v] (m_SH, f, g) Q = if x < 0 then Q (some (.inl 0)) (m_SH, f, g) else if 4 ≤ x then Q (some (.inl 0)) (m_SH, f, g) else Q (some (.inl 1)) (m_SH, m_si f 4 x.toNatClampNeg v, g) := by
  simp only [↓e51, ↓r51_0, ↓r51_1, ↓r51_4, ↓r51_7, ↓r51_8, ↓r51_9, ↓r51_10, ↓r51_13, ↓r51_14, ↓r51_15, ↓r51_16, ↓r51_17, kC0, lC0, kC1, lC1, kC2, lC2, kC3, lC3, kC4, lC4, kC5, lC5, c16, Option.toList, List.cons_append, List.nil_append, List.length_nil, List.length_cons, Nat.zero_le]
  by_cases h0 : x < 0
  · simp only [h0, if_true, ↓r51_0, ↓r51_1, ↓r51_4, ↓r51_7, ↓r51_8, ↓r51_9, ↓r51_10, ↓r51_13, ↓r51_14, ↓r51_15, ↓r51_16, ↓r51_17, true_or]
  · by_cases h1 : 4 ≤ x
    · simp only [h0, h1, if_true, if_false, ↓r51_0, ↓r51_1, ↓r51_4, ↓r51_7, ↓r51_8, ↓r51_9, ↓r51_10, ↓r51_13, ↓r51_14, ↓r51_15, ↓r51_16, ↓r51_17, true_or]
    · simp only [h0, h1, if_false, ↓r51_0, ↓r51_1, ↓r51_4, ↓r51_7, ↓r51_8, ↓r51_9, ↓r51_10, ↓r51_13, ↓r51_14, ↓r51_15, ↓r51_16, ↓r51_17, m_10, kC0, lC0, kC1, lC1, kC2, lC2, kC3, lC3, kC4, lC4, kC5, lC5, gC0_3 hg, m_in (a := 4) h0 h1 (Nat.le_refl 4) (by decide), or_true]
theorem c52 {d : Nat} {Q : mQ} {f : Nat → Nat → Int32} {g : Nat → Nat → Option Nat} {x : Int32} (hg : m_go_ g) : m_E (d + 2) 52 [.inr (some 0), .inl x] (m_SH, f, g) Q = Q (some (.inl (if x < 0 then 0 else if 4 ≤ x then 0 else f 4 x.toNatClampNeg))) (m_SH, f, g) := by
  simp only [↓e52, ↓r52_0, ↓r52_1, ↓r52_4, ↓r52_7, ↓r52_8, ↓r52_11, ↓r52_12, ↓r52_13, ↓r52_16, ↓r52_17, kC0, lC0, kC1, lC1, kC2, lC2, kC3, lC3, kC4, lC4, kC5, lC5, c16, Option.toList, List.cons_append, List.nil_append, List.length_nil, List.length_cons, Nat.zero_le]
  by_cases h0 : x < 0
  · simp only [h0, if_true, ↓r52_0, ↓r52_1, ↓r52_4, ↓r52_7, ↓r52_8, ↓r52_11, ↓r52_12, ↓r52_13, ↓r52_16, ↓r52_17]
  · by_cases h1 : 4 ≤ x
    · simp only [h0, h1, if_true, if_false, ↓r52_0, ↓r52_1, ↓r52_4, ↓r52_7, ↓r52_8, ↓r52_11, ↓r52_12, ↓r52_13, ↓r52_16, ↓r52_17]
    · simp only [h0, h1, if_false, ↓r52_0, ↓r52_1, ↓r52_4, ↓r52_7, ↓r52_8, ↓r52_11, ↓r52_12, ↓r52_13, ↓r52_16, ↓r52_17, m_10, kC0, lC0, kC1, lC1, kC2, lC2, kC3, lC3, kC4, lC4, kC5, lC5, gC0_3 hg, m_in (a := 4) h0 h1 (Nat.le_refl 4) (by decide)]
theorem c53 {d : Nat} {Q : mQ} {f : Nat → Nat → Int32} {g : Nat → Nat → Option Nat} {t c : Int32} {a : Nat} (hg : m_go_ g) (ha : f 1 1 = nI a) (ha16 : a ≤ 16) : m_E (d + 4) 53 [.inr (some 0), .inl t, .inl c] (m_SH, f, g) Q = Q (some (.inl (if m_ds a (f 2) c 16 t 0 = -1 then 0 else 1))) (m_SH, f, g) := by
  simp only [↓e53, ↓r53_0, ↓r53_1, ↓r53_4, ↓r53_5, ↓r53_6, ↓r53_9, kC0, lC0, kC1, lC1, kC2, lC2, kC3, lC3, kC4, lC4, kC5, lC5, gC0_0 hg, c39 ha ha16 (gC1_0 hg), Option.toList, List.cons_append, List.nil_append, List.length_nil, List.length_cons, Nat.zero_le]
  split <;> simp only [↓r53_0, ↓r53_1, ↓r53_4, ↓r53_5, ↓r53_6, ↓r53_9, true_or, or_true]
theorem c55 {d : Nat} {Q : mQ} {f : Nat → Nat → Int32} {g : Nat → Nat → Option Nat} (hg : m_go_ g) : m_E (d + 1) 55 [.inr (some 0)] (m_SH, f, g) Q = Q (some (.inl (f 166 2))) (m_SH, f, g) := by
  simp only [↓e55, ↓r55_0, ↓r55_1, ↓r55_4, ↓r55_7, kC0, lC0, kC1, lC1, kC2, lC2, kC3, lC3, kC4, lC4, kC5, lC5, kC166, lC166, gC0_5 hg]
theorem c59 {d : Nat} {Q : mQ} {f : Nat → Nat → Int32} {g : Nat → Nat → Option Nat} : m_E (d + 1) 59 [.inr (some 0)] (m_SH, f, g) Q = Q (some (.inl (f 0 7))) (m_SH, f, g) := by
  simp only [↓e59, ↓r59_0, ↓r59_1, ↓r59_4, kC0, lC0, kC1, lC1, kC2, lC2, kC3, lC3, kC4, lC4, kC5, lC5]
theorem c57 {d : Nat} {Q : mQ} {f : Nat → Nat → Int32} {g : Nat → Nat → Option Nat} {x : Int32} : m_E (d + 1) 57 [.inr (some 166), .inl x] (m_SH, f, g) Q = Q (some (.inl (if x < 0 then 0 else if f 166 2 ≤ x then 0 else if 128 ≤ x then 0 else 1))) (m_SH, f, g) := by
  simp only [↓e57, ↓r57_0, ↓r57_1, ↓r57_4, ↓r57_5, ↓r57_6, ↓r57_9, ↓r57_12, ↓r57_13, ↓r57_16, ↓r57_19, ↓r57_20, ↓r57_23, ↓r57_24, kC166, lC166, true_or, or_true]
  split
  · rfl
  · split
    · rfl
    · split <;> rfl
theorem c56 {d : Nat} {Q : mQ} {f : Nat → Nat → Int32} {g : Nat → Nat → Option Nat} {x : Int32} (hg : m_go_ g) : m_E (d + 2) 56 [.inr (some 0), .inl x] (m_SH, f, g) Q = Q (some (.inl (if x < 0 then -1 else if f 166 2 ≤ x then -1 else if 128 ≤ x then -1 else f 167 x.toNatClampNeg))) (m_SH, f, g) := by
  simp only [↓e56, ↓r56_0, ↓r56_1, ↓r56_4, ↓r56_5, ↓r56_8, ↓r56_11, ↓r56_12, ↓r56_15, ↓r56_18, ↓r56_19, ↓r56_20, ↓r56_23, ↓r56_24, kC0, lC0, kC1, lC1, kC2, lC2, kC3, lC3, kC4, lC4, kC5, lC5, kC166, lC166, gC0_5 hg, c57, Option.toList, List.cons_append, List.nil_append, List.length_nil, List.length_cons, Nat.zero_le]
  by_cases h0 : x < 0
  · simp only [h0, if_true, ↓r56_0, ↓r56_1, ↓r56_4, ↓r56_5, ↓r56_8, ↓r56_11, ↓r56_12, ↓r56_15, ↓r56_18, ↓r56_19, ↓r56_20, ↓r56_23, ↓r56_24]
  · by_cases h1 : f 166 2 ≤ x
    · simp only [h0, h1, if_true, if_false, ↓r56_0, ↓r56_1, ↓r56_4, ↓r56_5, ↓r56_8, ↓r56_11, ↓r56_12, ↓r56_15, ↓r56_18, ↓r56_19, ↓r56_20, ↓r56_23, ↓r56_24]
    · by_cases h2 : 128 ≤ x
      · simp only [h0, h1, h2, if_true, if_false, ↓r56_0, ↓r56_1, ↓r56_4, ↓r56_5, ↓r56_8, ↓r56_11, ↓r56_12, ↓r56_15, ↓r56_18, ↓r56_19, ↓r56_20, ↓r56_23, ↓r56_24]
      · simp only [h0, h1, h2, if_false, ↓r56_0, ↓r56_1, ↓r56_4, ↓r56_5, ↓r56_8, ↓r56_11, ↓r56_12, ↓r56_15, ↓r56_18, ↓r56_19, ↓r56_20, ↓r56_23, ↓r56_24, m_10, kC0, lC0, kC1, lC1, kC2, lC2, kC3, lC3, kC4, lC4, kC5, lC5, kC166, lC166, kC167, lC167, gC0_5 hg, gC166_0 hg, m_in (a := 128) h0 h2 (Nat.le_refl 128) (by decide)]
theorem c58 {d : Nat} {Q : mQ} {f : Nat → Nat → Int32} {g : Nat → Nat → Option Nat} {x : Int32} (hg : m_go_ g) : m_E (d + 2) 58 [.inr (some 0), .inl x] (m_SH, f, g) Q = Q (some (.inl (if x < 0 then 0 else if f 166 2 ≤ x then 0 else if 128 ≤ x then 0 else f 168 x.toNatClampNeg))) (m_SH, f, g) := by
  simp only [↓e58, ↓r58_0, ↓r58_1, ↓r58_4, ↓r58_5, ↓r58_8, ↓r58_11, ↓r58_12, ↓r58_15, ↓r58_18, ↓r58_19, ↓r58_20, ↓r58_23, ↓r58_24, kC0, lC0, kC1, lC1, kC2, lC2, kC3, lC3, kC4, lC4, kC5, lC5, kC166, lC166, gC0_5 hg, c57, Option.toList, List.cons_append, List.nil_append, List.length_nil, List.length_cons, Nat.zero_le]
  by_cases h0 : x < 0
  · simp only [h0, if_true, ↓r58_0, ↓r58_1, ↓r58_4, ↓r58_5, ↓r58_8, ↓r58_11, ↓r58_12, ↓r58_15, ↓r58_18, ↓r58_19, ↓r58_20, ↓r58_23, ↓r58_24]
  · by_cases h1 : f 166 2 ≤ x
    · simp only [h0, h1, if_true, if_false, ↓r58_0, ↓r58_1, ↓r58_4, ↓r58_5, ↓r58_8, ↓r58_11, ↓r58_12, ↓r58_15, ↓r58_18, ↓r58_19, ↓r58_20, ↓r58_23, ↓r58_24]
    · by_cases h2 : 128 ≤ x
      · simp only [h0, h1, h2, if_true, if_false, ↓r58_0, ↓r58_1, ↓r58_4, ↓r58_5, ↓r58_8, ↓r58_11, ↓r58_12, ↓r58_15, ↓r58_18, ↓r58_19, ↓r58_20, ↓r58_23, ↓r58_24]
      · simp only [h0, h1, h2, if_false, ↓r58_0, ↓r58_1, ↓r58_4, ↓r58_5, ↓r58_8, ↓r58_11, ↓r58_12, ↓r58_15, ↓r58_18, ↓r58_19, ↓r58_20, ↓r58_23, ↓r58_24, m_10, kC0, lC0, kC1, lC1, kC2, lC2, kC3, lC3, kC4, lC4, kC5, lC5, kC166, lC166, kC168, lC168, gC0_5 hg, gC166_1 hg, m_in (a := 128) h0 h2 (Nat.le_refl 128) (by decide)]
theorem c60 {d : Nat} {Q : mQ} {f : Nat → Nat → Int32} {g : Nat → Nat → Option Nat} {x : Int32} (hg : m_go_ g) : m_E (d + 1) 60 [.inr (some 0), .inl x] (m_SH, f, g) Q = Q (some (.inl (if x < 0 then -1 else if 4 ≤ x then -1 else f 169 x.toNatClampNeg))) (m_SH, f, g) := by
  simp only [↓e60, ↓r60_0, ↓r60_1, ↓r60_4, ↓r60_5, ↓r60_6, ↓r60_9, ↓r60_10, ↓r60_13, ↓r60_14, ↓r60_15, ↓r60_18, ↓r60_19, kC0, lC0, kC1, lC1, kC2, lC2, kC3, lC3, kC4, lC4, kC5, lC5, kC169, lC169, gC0_6 hg]
  by_cases h0 : x < 0
  · simp only [h0, if_true, ↓r60_0, ↓r60_1, ↓r60_4, ↓r60_5, ↓r60_6, ↓r60_9, ↓r60_10, ↓r60_13, ↓r60_14, ↓r60_15, ↓r60_18, ↓r60_19]
  · by_cases h1 : 4 ≤ x
    · simp only [h0, h1, if_true, if_false, ↓r60_0, ↓r60_1, ↓r60_4, ↓r60_5, ↓r60_6, ↓r60_9, ↓r60_10, ↓r60_13, ↓r60_14, ↓r60_15, ↓r60_18, ↓r60_19]
    · simp only [h0, h1, if_false, ↓r60_0, ↓r60_1, ↓r60_4, ↓r60_5, ↓r60_6, ↓r60_9, ↓r60_10, ↓r60_13, ↓r60_14, ↓r60_15, ↓r60_18, ↓r60_19, kC0, lC0, kC1, lC1, kC2, lC2, kC3, lC3, kC4, lC4, kC5, lC5, kC169, lC169, gC0_6 hg, m_in (a := 4) h0 h1 (Nat.le_refl 4) (by decide)]
theorem c61 {d : Nat} {Q : mQ} {f : Nat → Nat → Int32} {g : Nat → Nat → Option Nat} {x : Int32} (hg : m_go_ g) : m_E (d + 1) 61 [.inr (some 0), .inl x] (m_SH, f, g) Q = Q (some (.inl (if x = 0 then f 1 1 else if x = 1 then f 0 2 else -1))) (m_SH, f, g) := by
  simp only [↓e61, ↓r61_0, ↓r61_1, ↓r61_28, ↓r61_29, ↓r61_32, ↓r61_35, ↓r61_36, ↓r61_37, ↓r61_40, ↓r61_41, ↓r61_42, kC0, lC0, kC1, lC1, kC2, lC2, kC3, lC3, kC4, lC4, kC5, lC5, gC0_0 hg]
  split
  · rfl
  · split <;> rfl
