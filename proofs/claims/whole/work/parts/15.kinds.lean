/-! the class's tree of classes -/
theorem m_10 : ((1 : Int32) = 0) = False := eq_false (by decide)
theorem m_in {x : Int32} {a N : Nat} (h0 : ¬ x < 0) (h1 : ¬ nI a ≤ x) (h : a ≤ N) (hN : N < 2 ^ 31) : vp_in x N := by
  rw [vp_in_iff]
  have q0 := Int32.not_lt.mp h0
  have q1 := Int32.not_le.mp h1
  rw [Int32.le_iff_toInt_le] at q0
  rw [Int32.lt_iff_toInt_lt, nI_toInt (by omega)] at q1
  have q2 : (0 : Int32).toInt = 0 := rfl
  rw [q2] at q0
  omega
/-- how far at is from c, -1 if it isn't a c -/
def m_ds (a : Nat) (p : Nat → Int32) (c : Int32) : Nat → Int32 → Nat → Int32
  | 0, _, _ => -1
  | n + 1, x, k => if x < 0 then -1 else if nI a ≤ x then -1 else if x = c then nI k else m_ds a p c n (p x.toNatClampNeg) (k + 1)
theorem c8 {d : Nat} {Q : mQ} {f : Nat → Nat → Int32} {g : Nat → Nat → Option Nat} {c : Int32} : m_E (d + 1) 8 [.inr (some 1), .inl c] (m_SH, f, g) Q = Q (some (.inl (if c < 0 then 0 else if f 1 1 ≤ c then 0 else 1))) (m_SH, f, g) := by
  simp only [↓e8, ↓r8_0, ↓r8_1, ↓r8_4, ↓r8_5, ↓r8_6, ↓r8_9, ↓r8_12, ↓r8_13, ↓r8_16, ↓r8_17, kC1, lC1, true_or, or_true]
  split
  · rfl
  · split <;> rfl
theorem c9 {d : Nat} {Q : mQ} {f : Nat → Nat → Int32} {g : Nat → Nat → Option Nat} {c : Int32} {n : Nat} (hn : f 1 1 = nI n) (hr : n ≤ 16) (h10 : g 1 0 = some 2) : m_E (d + 1) 9 [.inr (some 1), .inl c] (m_SH, f, g) Q = if n < 16 then Q (some (.inl (nI n))) (m_SH, m_si (m_si f 2 n c) 1 1 (nI (n + 1)), g) else Q (some (.inl (-1))) (m_SH, f, g) := by
  by_cases h : n < 16
  · have h1 : (nI n < 16) = True := eq_true (nI_lt (b := 16) h (by decide))
    rw [if_pos h]
    simp only [↓e9, ↓r9_0, ↓r9_1, ↓r9_4, ↓r9_6, ↓r9_9, ↓r9_10, ↓r9_11, ↓r9_12, ↓r9_15, ↓r9_16, ↓r9_19, ↓r9_20, ↓r9_21, ↓r9_22, ↓r9_23, ↓r9_26, ↓r9_27, ↓r9_28, ↓r9_31, ↓r9_32, ↓r9_35, ↓r9_36, ↓r9_37, kC1, lC1, kC2, lC2, hn, h1, vp_in_nI h (show 16 < 2 ^ 31 by decide), h10, if_true, not_false_eq_true, nI_clamp (show n < 2 ^ 31 by omega)]
    simp [m_si, hn, nI_succ]
  · have h1 : (nI n < 16) = False := eq_false (nI_nlt (a := n) (b := 16) (by omega) (by omega))
    rw [if_neg h]
    simp only [↓e9, ↓r9_0, ↓r9_1, ↓r9_4, ↓r9_6, ↓r9_9, ↓r9_10, ↓r9_11, ↓r9_12, ↓r9_15, ↓r9_16, ↓r9_19, ↓r9_20, ↓r9_21, ↓r9_22, ↓r9_23, ↓r9_26, ↓r9_27, ↓r9_28, ↓r9_31, ↓r9_32, ↓r9_35, ↓r9_36, ↓r9_37, kC1, lC1, hn, h1, if_false]
theorem c40_loop {d : Nat} {Q : mQ} {f : Nat → Nat → Int32} {g : Nat → Nat → Option Nat} {t c : Int32} {a : Nat} (ha : f 1 1 = nI a) (ha16 : a ≤ 16) (h10 : g 1 0 = some 2) : ∀ (n k : Nat) (x : Int32), k + n = 16 → m_R (m_E (d + 1)) 40 m_SH.length (m_sl m_SH) Q 5 [some (.inr (some 1)), some (.inl t), some (.inl c), some (.inl x), some (.inl (nI k))] [] (m_SH, f, g) = Q (some (.inl (m_ds a (f 2) c n x k))) (m_SH, f, g) := by
  intro n
  induction n with
  | zero =>
    intro k x hk
    have h1 : ((16 : Int32) ≤ nI k) = True := eq_true (nI_le (a := 16) (b := k) (by omega) (by omega))
    simp only [↓r40_0, ↓r40_1, ↓r40_2, ↓r40_3, ↓r40_5, ↓r40_7, ↓r40_9, ↓r40_12, ↓r40_13, ↓r40_14, ↓r40_17, ↓r40_20, ↓r40_21, ↓r40_22, ↓r40_23, ↓r40_24, ↓r40_27, ↓r40_29, ↓r40_30, ↓r40_31, ↓r40_34, ↓r40_35, ↓r40_36, ↓r40_37, ↓r40_40, ↓r40_43, ↓r40_44, h1, if_true, m_ds]
  | succ n ih =>
    intro k x hk
    have h1 : ((16 : Int32) ≤ nI k) = False := eq_false (nI_ge (a := k) (b := 16) (by omega) (by decide))
    simp only [↓r40_0, ↓r40_1, ↓r40_2, ↓r40_3, ↓r40_5, ↓r40_7, ↓r40_9, ↓r40_12, ↓r40_13, ↓r40_14, ↓r40_17, ↓r40_20, ↓r40_21, ↓r40_22, ↓r40_23, ↓r40_24, ↓r40_27, ↓r40_29, ↓r40_30, ↓r40_31, ↓r40_34, ↓r40_35, ↓r40_36, ↓r40_37, ↓r40_40, ↓r40_43, ↓r40_44, h1, if_false, kC1, lC1, c8, List.length_nil, Nat.zero_le, ha]
    unfold m_ds
    by_cases q0 : x < 0
    · simp only [q0, if_true, Option.toList, List.cons_append, List.nil_append, ↓r40_0, ↓r40_1, ↓r40_2, ↓r40_3, ↓r40_5, ↓r40_7, ↓r40_9, ↓r40_12, ↓r40_13, ↓r40_14, ↓r40_17, ↓r40_20, ↓r40_21, ↓r40_22, ↓r40_23, ↓r40_24, ↓r40_27, ↓r40_29, ↓r40_30, ↓r40_31, ↓r40_34, ↓r40_35, ↓r40_36, ↓r40_37, ↓r40_40, ↓r40_43, ↓r40_44]
    · by_cases q1 : nI a ≤ x
      · simp only [q0, q1, if_true, if_false, Option.toList, List.cons_append, List.nil_append, ↓r40_0, ↓r40_1, ↓r40_2, ↓r40_3, ↓r40_5, ↓r40_7, ↓r40_9, ↓r40_12, ↓r40_13, ↓r40_14, ↓r40_17, ↓r40_20, ↓r40_21, ↓r40_22, ↓r40_23, ↓r40_24, ↓r40_27, ↓r40_29, ↓r40_30, ↓r40_31, ↓r40_34, ↓r40_35, ↓r40_36, ↓r40_37, ↓r40_40, ↓r40_43, ↓r40_44]
      · by_cases q2 : x = c
        · simp only [q0, q1, q2, if_true, if_false, Option.toList, List.cons_append, List.nil_append, ↓r40_0, ↓r40_1, ↓r40_2, ↓r40_3, ↓r40_5, ↓r40_7, ↓r40_9, ↓r40_12, ↓r40_13, ↓r40_14, ↓r40_17, ↓r40_20, ↓r40_21, ↓r40_22, ↓r40_23, ↓r40_24, ↓r40_27, ↓r40_29, ↓r40_30, ↓r40_31, ↓r40_34, ↓r40_35, ↓r40_36, ↓r40_37, ↓r40_40, ↓r40_43, ↓r40_44]
          simp [q2 ▸ q0, q2 ▸ q1]
        · simp only [q0, q1, q2, if_false, Option.toList, List.cons_append, List.nil_append, ↓r40_0, ↓r40_1, ↓r40_2, ↓r40_3, ↓r40_7, ↓r40_9, ↓r40_12, ↓r40_13, ↓r40_14, ↓r40_17, ↓r40_20, ↓r40_21, ↓r40_22, ↓r40_23, ↓r40_24, ↓r40_27, ↓r40_29, ↓r40_30, ↓r40_31, ↓r40_34, ↓r40_35, ↓r40_36, ↓r40_37, ↓r40_40, ↓r40_43, ↓r40_44, kC1, lC1, kC2, lC2, h10, m_in q0 q1 ha16 (show 16 < 2 ^ 31 by decide), nI_1, ih (k + 1) (f 2 x.toNatClampNeg) (by omega), m_10]
theorem c40 {d : Nat} {Q : mQ} {f : Nat → Nat → Int32} {g : Nat → Nat → Option Nat} {t c : Int32} {a : Nat} (ha : f 1 1 = nI a) (ha16 : a ≤ 16) (h10 : g 1 0 = some 2) : m_E (d + 2) 40 [.inr (some 1), .inl t, .inl c] (m_SH, f, g) Q = Q (some (.inl (m_ds a (f 2) c 16 t 0))) (m_SH, f, g) := by
  simp only [↓e40, ↓r40_0, ↓r40_1, ↓r40_2, ↓r40_3, ↓r40_7, ↓r40_9, ↓r40_12, ↓r40_13, ↓r40_14, ↓r40_17, ↓r40_20, ↓r40_21, ↓r40_22, ↓r40_23, ↓r40_24, ↓r40_27, ↓r40_29, ↓r40_30, ↓r40_31, ↓r40_34, ↓r40_35, ↓r40_36, ↓r40_37, ↓r40_40, ↓r40_43, ↓r40_44]
  exact c40_loop (t := t) (c := c) ha ha16 h10 16 0 t rfl
theorem m_ds_ge (a : Nat) (p : Nat → Int32) (c : Int32) : ∀ (n k : Nat) (x : Int32), k + n < 2 ^ 31 → (m_ds a p c n x k = -1 ∨ ∃ j, k ≤ j ∧ j < k + n ∧ m_ds a p c n x k = nI j) := by
  intro n
  induction n with
  | zero => intro k x hk; exact Or.inl rfl
  | succ n ih =>
    intro k x hk
    unfold m_ds
    split
    · exact Or.inl rfl
    · split
      · exact Or.inl rfl
      · split
        · exact Or.inr ⟨k, Nat.le_refl _, by omega, rfl⟩
        · rcases ih (k + 1) (p x.toNatClampNeg) (by omega) with h | ⟨j, h1, h2, h3⟩
          · exact Or.inl h
          · exact Or.inr ⟨j, by omega, by omega, h3⟩
theorem c39 {d : Nat} {Q : mQ} {f : Nat → Nat → Int32} {g : Nat → Nat → Option Nat} {t c : Int32} {a : Nat} (ha : f 1 1 = nI a) (ha16 : a ≤ 16) (h10 : g 1 0 = some 2) : m_E (d + 3) 39 [.inr (some 1), .inl t, .inl c] (m_SH, f, g) Q = Q (some (.inl (if m_ds a (f 2) c 16 t 0 = -1 then 0 else 1))) (m_SH, f, g) := by
  simp only [↓e39, ↓r39_0, ↓r39_1, ↓r39_2, ↓r39_3, ↓r39_6, ↓r39_7, ↓r39_10, ↓r39_11, ↓r39_14, ↓r39_15, kC1, lC1, c40 ha ha16 h10, Option.toList, List.cons_append, List.nil_append, List.length_nil, List.length_cons, Nat.zero_le, true_or, or_true]
  split <;> rfl
