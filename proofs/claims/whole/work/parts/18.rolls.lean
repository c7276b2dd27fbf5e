/-! rolling back: the nearest rule -/
def m_gb (dd : Int32 → Int32) (rk rb : Nat → Int32) : Nat → Nat → Int32 → Int32 → Int32
  | 0, _, _, b => b
  | n + 1, k, nr, b => if dd (rk k) = -1 then m_gb dd rk rb n (k + 1) nr b else if nr ≤ dd (rk k) then m_gb dd rk rb n (k + 1) nr b else m_gb dd rk rb n (k + 1) (dd (rk k)) (rb k)
theorem m_gb01 {dd : Int32 → Int32} {rk rb : Nat → Int32} : ∀ (n k : Nat) (nr b : Int32), (∀ j, k ≤ j → j < k + n → rb j = 0 ∨ rb j = 1) → (b = 0 ∨ b = 1) → (m_gb dd rk rb n k nr b = 0 ∨ m_gb dd rk rb n k nr b = 1) := by
  intro n
  induction n with
  | zero => intro k nr b _ hb; exact hb
  | succ n ih =>
    intro k nr b hr hb
    unfold m_gb
    split
    · exact ih _ _ _ (fun j h1 h2 => hr j (by omega) (by omega)) hb
    · split
      · exact ih _ _ _ (fun j h1 h2 => hr j (by omega) (by omega)) hb
      · exact ih _ _ _ (fun j h1 h2 => hr j (by omega) (by omega)) (hr k (by omega) (by omega))
theorem c43_loop {d : Nat} {Q : mQ} {f : Nat → Nat → Int32} {g : Nat → Nat → Option Nat} {t : Int32} {a i r : Nat} (hg : m_go_ g) (ha : f 1 1 = nI a) (ha16 : a ≤ 16) (hi : i < 10) (hr : f (6 + 16 * i) 3 = nI r) (h3 : r ≤ 3) (hrb : ∀ j, j < 3 → f (8 + 16 * i) j = 0 ∨ f (8 + 16 * i) j = 1) : ∀ (n k : Nat) (nr b : Int32) (l6 : Option mV), k + n = r → (b = 0 ∨ b = 1) → m_R (m_E (d + 3)) 43 m_SH.length (m_sl m_SH) Q 31 [some (.inr (some (6 + 16 * i))), some (.inl t), some (.inr (some 1)), some (.inl b), some (.inl nr), some (.inl (nI k)), l6] [] (m_SH, f, g) = Q (some (.inl (m_gb (fun c => m_ds a (f 2) c 16 t 0) (f (7 + 16 * i)) (f (8 + 16 * i)) n k nr b))) (m_SH, f, g) := by
  intro n
  induction n with
  | zero =>
    intro k nr b l6 hk hb
    have h1 : (nI r ≤ nI k) = True := eq_true (nI_le (a := r) (b := k) (by omega) (by omega))
    simp only [↓r43_0, ↓r43_1, ↓r43_2, ↓r43_3, ↓r43_6, ↓r43_9, ↓r43_10, ↓r43_11, ↓r43_12, ↓r43_15, ↓r43_18, ↓r43_19, ↓r43_22, ↓r43_23, ↓r43_24, ↓r43_26, ↓r43_28, ↓r43_29, ↓r43_31, ↓r43_33, ↓r43_34, ↓r43_37, ↓r43_40, ↓r43_41, ↓r43_42, ↓r43_43, ↓r43_46, ↓r43_48, ↓r43_49, ↓r43_52, ↓r43_54, ↓r43_56, ↓r43_57, ↓r43_60, ↓r43_62, ↓r43_64, ↓r43_67, ↓r43_69, ↓r43_71, ↓r43_72, ↓r43_75, ↓r43_77, ↓r43_78, ↓r43_79, ↓r43_82, ↓r43_85, ↓r43_86, kB0 hi, lB0 hi, hr, h1, if_true, m_gb, hb]
  | succ n ih =>
    intro k nr b l6 hk hb
    have h1 : (nI r ≤ nI k) = False := eq_false (nI_ge (a := k) (b := r) (by omega) (by omega))
    simp only [↓r43_31, ↓r43_33, ↓r43_34, ↓r43_37, ↓r43_40, ↓r43_41, ↓r43_42, ↓r43_43, ↓r43_46, ↓r43_48, ↓r43_49, kB0 hi, lB0 hi, kB1 hi, lB1 hi, kC1, lC1, hr, h1, if_false, gB0_1 hg hi, vp_in_nI (show k < 3 by omega) (show 3 < 2 ^ 31 by decide), nI_clamp (show k < 2 ^ 31 by omega), c40 ha ha16 (gC1_0 hg), Option.toList, List.cons_append, List.nil_append, List.length_nil, List.length_cons, Nat.zero_le]
    unfold m_gb
    by_cases q0 : m_ds a (f 2) (f (7 + 16 * i) k) 16 t 0 = -1
    · simp only [↓r43_0, ↓r43_1, ↓r43_2, ↓r43_3, ↓r43_6, ↓r43_9, ↓r43_10, ↓r43_11, ↓r43_12, ↓r43_15, ↓r43_18, ↓r43_19, ↓r43_22, ↓r43_23, ↓r43_24, ↓r43_26, ↓r43_28, ↓r43_29, ↓r43_33, ↓r43_34, ↓r43_37, ↓r43_40, ↓r43_41, ↓r43_42, ↓r43_43, ↓r43_46, ↓r43_48, ↓r43_49, ↓r43_52, ↓r43_54, ↓r43_56, ↓r43_57, ↓r43_60, ↓r43_62, ↓r43_64, ↓r43_67, ↓r43_69, ↓r43_71, ↓r43_72, ↓r43_75, ↓r43_77, ↓r43_78, ↓r43_79, ↓r43_82, ↓r43_85, ↓r43_86, q0, if_true, nI_1]
      exact ih (k + 1) nr b _ (by omega) hb
    · by_cases q1 : nr ≤ m_ds a (f 2) (f (7 + 16 * i) k) 16 t 0
      · simp only [↓r43_0, ↓r43_1, ↓r43_2, ↓r43_3, ↓r43_6, ↓r43_9, ↓r43_10, ↓r43_11, ↓r43_12, ↓r43_15, ↓r43_18, ↓r43_19, ↓r43_22, ↓r43_23, ↓r43_24, ↓r43_26, ↓r43_28, ↓r43_29, ↓r43_33, ↓r43_34, ↓r43_37, ↓r43_40, ↓r43_41, ↓r43_42, ↓r43_43, ↓r43_46, ↓r43_48, ↓r43_49, ↓r43_52, ↓r43_54, ↓r43_56, ↓r43_57, ↓r43_60, ↓r43_62, ↓r43_64, ↓r43_67, ↓r43_69, ↓r43_71, ↓r43_72, ↓r43_75, ↓r43_77, ↓r43_78, ↓r43_79, ↓r43_82, ↓r43_85, ↓r43_86, q0, q1, if_true, if_false, nI_1]
        exact ih (k + 1) nr b _ (by omega) hb
      · simp only [q0, q1, if_false, ↓r43_0, ↓r43_1, ↓r43_2, ↓r43_3, ↓r43_6, ↓r43_9, ↓r43_10, ↓r43_11, ↓r43_12, ↓r43_15, ↓r43_18, ↓r43_19, ↓r43_22, ↓r43_23, ↓r43_24, ↓r43_26, ↓r43_28, ↓r43_29, ↓r43_33, ↓r43_34, ↓r43_37, ↓r43_40, ↓r43_41, ↓r43_42, ↓r43_43, ↓r43_46, ↓r43_48, ↓r43_49, ↓r43_52, ↓r43_54, ↓r43_56, ↓r43_57, ↓r43_60, ↓r43_62, ↓r43_64, ↓r43_67, ↓r43_69, ↓r43_71, ↓r43_72, ↓r43_75, ↓r43_77, ↓r43_78, ↓r43_79, ↓r43_82, ↓r43_85, ↓r43_86, kB0 hi, lB0 hi, kB2 hi, lB2 hi, gB0_2 hg hi, vp_in_nI (show k < 3 by omega) (show 3 < 2 ^ 31 by decide), nI_clamp (show k < 2 ^ 31 by omega), nI_1]
        exact ih (k + 1) _ _ _ (by omega) (hrb k (by omega))
/-- does the method go back for t -/
def m_back (a : Nat) (p : Nat → Int32) (t : Int32) (rk rb : Nat → Int32) (r : Nat) : Int32 := m_gb (fun c => m_ds a p c 16 t 0) rk rb r 0 16 (if m_ds a p 3 16 t 0 = -1 then (if m_ds a p 1 16 t 0 = -1 then 0 else 1) else 1)
theorem m_back01 {a : Nat} {p : Nat → Int32} {t : Int32} {rk rb : Nat → Int32} {r : Nat} (hr : r ≤ 3) (hrb : ∀ j, j < 3 → rb j = 0 ∨ rb j = 1) : m_back a p t rk rb r = 0 ∨ m_back a p t rk rb r = 1 := by
  refine m_gb01 _ _ _ _ (fun j _ h => hrb j (by omega)) ?_
  split
  · split
    · exact Or.inl rfl
    · exact Or.inr rfl
  · exact Or.inr rfl
theorem c43 {d : Nat} {Q : mQ} {f : Nat → Nat → Int32} {g : Nat → Nat → Option Nat} {t : Int32} {a i r : Nat} (hg : m_go_ g) (ha : f 1 1 = nI a) (ha16 : a ≤ 16) (hi : i < 10) (hr : f (6 + 16 * i) 3 = nI r) (h3 : r ≤ 3) (hrb : ∀ j, j < 3 → f (8 + 16 * i) j = 0 ∨ f (8 + 16 * i) j = 1) : m_E (d + 4) 43 [.inr (some (6 + 16 * i)), .inl t, .inr (some 1)] (m_SH, f, g) Q = Q (some (.inl (m_back a (f 2) t (f (7 + 16 * i)) (f (8 + 16 * i)) r))) (m_SH, f, g) := by
  have L := fun b hb => c43_loop (d := d) (Q := Q) (t := t) hg ha ha16 hi hr h3 hrb r 0 16 b none (by omega) hb
  unfold m_back
  simp only [↓e43, ↓r43_0, ↓r43_1, ↓r43_2, ↓r43_3, ↓r43_6, ↓r43_9, ↓r43_10, ↓r43_11, ↓r43_12, ↓r43_15, ↓r43_18, ↓r43_19, ↓r43_22, ↓r43_23, ↓r43_24, ↓r43_26, ↓r43_28, ↓r43_29, ↓r43_33, ↓r43_34, ↓r43_37, ↓r43_40, ↓r43_41, ↓r43_42, ↓r43_43, ↓r43_46, ↓r43_48, ↓r43_49, ↓r43_52, ↓r43_54, ↓r43_56, ↓r43_57, ↓r43_60, ↓r43_62, ↓r43_64, ↓r43_67, ↓r43_69, ↓r43_71, ↓r43_72, ↓r43_75, ↓r43_77, ↓r43_78, ↓r43_79, ↓r43_82, ↓r43_85, ↓r43_86, kC1, lC1, c39 ha ha16 (gC1_0 hg), Option.toList, List.cons_append, List.nil_append, List.length_nil, List.length_cons, Nat.zero_le]
  by_cases q3 : m_ds a (f 2) 3 16 t 0 = -1
  · simp only [q3, if_true, eq_self, ↓r43_0, ↓r43_1, ↓r43_2, ↓r43_3, ↓r43_6, ↓r43_9, ↓r43_10, ↓r43_11, ↓r43_12, ↓r43_15, ↓r43_18, ↓r43_19, ↓r43_22, ↓r43_23, ↓r43_24, ↓r43_26, ↓r43_28, ↓r43_29, ↓r43_33, ↓r43_34, ↓r43_37, ↓r43_40, ↓r43_41, ↓r43_42, ↓r43_43, ↓r43_46, ↓r43_48, ↓r43_49, ↓r43_52, ↓r43_54, ↓r43_56, ↓r43_57, ↓r43_60, ↓r43_62, ↓r43_64, ↓r43_67, ↓r43_69, ↓r43_71, ↓r43_72, ↓r43_75, ↓r43_77, ↓r43_78, ↓r43_79, ↓r43_82, ↓r43_85, ↓r43_86, kC1, lC1, c39 ha ha16 (gC1_0 hg), Option.toList, List.cons_append, List.nil_append, List.length_nil, List.length_cons, Nat.zero_le]
    by_cases q1 : m_ds a (f 2) 1 16 t 0 = -1
    · simp only [q1, if_true, eq_self, ↓r43_0, ↓r43_1, ↓r43_2, ↓r43_3, ↓r43_6, ↓r43_9, ↓r43_10, ↓r43_11, ↓r43_12, ↓r43_15, ↓r43_18, ↓r43_19, ↓r43_22, ↓r43_23, ↓r43_24, ↓r43_26, ↓r43_28, ↓r43_29, ↓r43_33, ↓r43_34, ↓r43_37, ↓r43_40, ↓r43_41, ↓r43_42, ↓r43_43, ↓r43_46, ↓r43_48, ↓r43_49, ↓r43_52, ↓r43_54, ↓r43_56, ↓r43_57, ↓r43_60, ↓r43_62, ↓r43_64, ↓r43_67, ↓r43_69, ↓r43_71, ↓r43_72, ↓r43_75, ↓r43_77, ↓r43_78, ↓r43_79, ↓r43_82, ↓r43_85, ↓r43_86]
      exact L 0 (Or.inl rfl)
    · simp only [q1, if_false, m_10, ↓r43_0, ↓r43_1, ↓r43_2, ↓r43_3, ↓r43_6, ↓r43_9, ↓r43_10, ↓r43_11, ↓r43_12, ↓r43_15, ↓r43_18, ↓r43_19, ↓r43_22, ↓r43_23, ↓r43_24, ↓r43_26, ↓r43_28, ↓r43_29, ↓r43_33, ↓r43_34, ↓r43_37, ↓r43_40, ↓r43_41, ↓r43_42, ↓r43_43, ↓r43_46, ↓r43_48, ↓r43_49, ↓r43_52, ↓r43_54, ↓r43_56, ↓r43_57, ↓r43_60, ↓r43_62, ↓r43_64, ↓r43_67, ↓r43_69, ↓r43_71, ↓r43_72, ↓r43_75, ↓r43_77, ↓r43_78, ↓r43_79, ↓r43_82, ↓r43_85, ↓r43_86]
      exact L 1 (Or.inr rfl)
  · simp only [q3, if_false, m_10, ↓r43_0, ↓r43_1, ↓r43_2, ↓r43_3, ↓r43_6, ↓r43_9, ↓r43_10, ↓r43_11, ↓r43_12, ↓r43_15, ↓r43_18, ↓r43_19, ↓r43_22, ↓r43_23, ↓r43_24, ↓r43_26, ↓r43_28, ↓r43_29, ↓r43_33, ↓r43_34, ↓r43_37, ↓r43_40, ↓r43_41, ↓r43_42, ↓r43_43, ↓r43_46, ↓r43_48, ↓r43_49, ↓r43_52, ↓r43_54, ↓r43_56, ↓r43_57, ↓r43_60, ↓r43_62, ↓r43_64, ↓r43_67, ↓r43_69, ↓r43_71, ↓r43_72, ↓r43_75, ↓r43_77, ↓r43_78, ↓r43_79, ↓r43_82, ↓r43_85, ↓r43_86]
    exact L 1 (Or.inr rfl)
theorem c54 {d : Nat} {Q : mQ} {f : Nat → Nat → Int32} {g : Nat → Nat → Option Nat} {x t : Int32} {a p : Nat} {rc : Nat → Nat} (hg : m_go_ g) (ha : f 1 1 = nI a) (ha16 : a ≤ 16) (hp : f 0 2 = nI p) (hp10 : p ≤ 10) (hr : ∀ i, i < 10 → f (6 + 16 * i) 3 = nI (rc i) ∧ rc i ≤ 3) (hrb : ∀ i, i < 10 → ∀ j, j < 3 → f (8 + 16 * i) j = 0 ∨ f (8 + 16 * i) j = 1) : m_E (d + 5) 54 [.inr (some 0), .inl x, .inl t] (m_SH, f, g) Q = Q (some (.inl (if x < 0 then 0 else if nI p ≤ x then 0 else if t < 0 then 0 else if nI a ≤ t then 0 else m_back a (f 2) t (f (7 + 16 * x.toNatClampNeg)) (f (8 + 16 * x.toNatClampNeg)) (rc x.toNatClampNeg)))) (m_SH, f, g) := by
  simp only [↓e54, ↓r54_0, ↓r54_1, ↓r54_2, ↓r54_5, ↓r54_8, ↓r54_9, ↓r54_12, ↓r54_13, ↓r54_16, ↓r54_19, ↓r54_20, ↓r54_23, ↓r54_24, ↓r54_25, ↓r54_26, ↓r54_27, ↓r54_30, ↓r54_33, ↓r54_36, ↓r54_37, ↓r54_40, ↓r54_41, kC0, lC0, kC1, lC1, kC2, lC2, kC3, lC3, kC4, lC4, kC5, lC5, c12o, Option.toList, List.cons_append, List.nil_append, List.length_nil, List.length_cons, Nat.zero_le, hp]
  by_cases h0 : x < 0
  · simp only [h0, if_true, ↓r54_0, ↓r54_1, ↓r54_2, ↓r54_5, ↓r54_8, ↓r54_9, ↓r54_12, ↓r54_13, ↓r54_16, ↓r54_19, ↓r54_20, ↓r54_23, ↓r54_24, ↓r54_25, ↓r54_26, ↓r54_27, ↓r54_30, ↓r54_33, ↓r54_36, ↓r54_37, ↓r54_40, ↓r54_41, if_true, if_false, true_or, or_true, eq_self, m_10]
  by_cases h1 : nI p ≤ x
  · simp only [h0, h1, if_true, if_false, ↓r54_0, ↓r54_1, ↓r54_2, ↓r54_5, ↓r54_8, ↓r54_9, ↓r54_12, ↓r54_13, ↓r54_16, ↓r54_19, ↓r54_20, ↓r54_23, ↓r54_24, ↓r54_25, ↓r54_26, ↓r54_27, ↓r54_30, ↓r54_33, ↓r54_36, ↓r54_37, ↓r54_40, ↓r54_41, if_true, if_false, true_or, or_true, eq_self, m_10]
  have hi : x.toNatClampNeg < 10 := Nat.lt_of_lt_of_le (m_ix h0 h1 (by omega)) hp10
  simp only [h0, h1, if_false, ↓r54_0, ↓r54_1, ↓r54_2, ↓r54_5, ↓r54_8, ↓r54_9, ↓r54_12, ↓r54_13, ↓r54_16, ↓r54_19, ↓r54_20, ↓r54_23, ↓r54_24, ↓r54_25, ↓r54_26, ↓r54_27, ↓r54_30, ↓r54_33, ↓r54_36, ↓r54_37, ↓r54_40, ↓r54_41, if_true, if_false, true_or, or_true, eq_self, m_10, kC0, lC0, kC1, lC1, kC2, lC2, kC3, lC3, kC4, lC4, kC5, lC5, gC0_0 hg, c8o, Option.toList, List.cons_append, List.nil_append, List.length_nil, List.length_cons, Nat.zero_le, ha]
  by_cases h2 : t < 0
  · simp only [h2, if_true, ↓r54_0, ↓r54_1, ↓r54_2, ↓r54_5, ↓r54_8, ↓r54_9, ↓r54_12, ↓r54_13, ↓r54_16, ↓r54_19, ↓r54_20, ↓r54_23, ↓r54_24, ↓r54_25, ↓r54_26, ↓r54_27, ↓r54_30, ↓r54_33, ↓r54_36, ↓r54_37, ↓r54_40, ↓r54_41, if_true, if_false, true_or, or_true, eq_self, m_10]
  by_cases h3 : nI a ≤ t
  · simp only [h2, h3, if_true, if_false, ↓r54_0, ↓r54_1, ↓r54_2, ↓r54_5, ↓r54_8, ↓r54_9, ↓r54_12, ↓r54_13, ↓r54_16, ↓r54_19, ↓r54_20, ↓r54_23, ↓r54_24, ↓r54_25, ↓r54_26, ↓r54_27, ↓r54_30, ↓r54_33, ↓r54_36, ↓r54_37, ↓r54_40, ↓r54_41, if_true, if_false, true_or, or_true, eq_self, m_10]
  simp only [h2, h3, if_false, ↓r54_0, ↓r54_1, ↓r54_2, ↓r54_5, ↓r54_8, ↓r54_9, ↓r54_12, ↓r54_13, ↓r54_16, ↓r54_19, ↓r54_20, ↓r54_23, ↓r54_24, ↓r54_25, ↓r54_26, ↓r54_27, ↓r54_30, ↓r54_33, ↓r54_36, ↓r54_37, ↓r54_40, ↓r54_41, if_true, if_false, true_or, or_true, eq_self, m_10, kC0, lC0, kC1, lC1, kC2, lC2, kC3, lC3, kC4, lC4, kC5, lC5, gC0_0 hg, gC0_1 hg, m_in h0 h1 hp10 (show 10 < 2 ^ 31 by decide), gA3 hg hi, kB0 hi, lB0 hi, c43 hg ha ha16 hi (hr _ hi).1 (hr _ hi).2 (hrb _ hi), Option.toList, List.cons_append, List.nil_append, List.length_nil, List.length_cons, Nat.zero_le]
  rcases m_back01 (a := a) (p := f 2) (t := t) (rk := f (7 + 16 * x.toNatClampNeg)) (hr _ hi).2 (hrb _ hi) with q | q <;> simp only [q, ↓r54_0, ↓r54_1, ↓r54_2, ↓r54_5, ↓r54_8, ↓r54_9, ↓r54_12, ↓r54_13, ↓r54_16, ↓r54_19, ↓r54_20, ↓r54_23, ↓r54_24, ↓r54_25, ↓r54_26, ↓r54_27, ↓r54_30, ↓r54_33, ↓r54_36, ↓r54_37, ↓r54_40, ↓r54_41, if_true, if_false, true_or, or_true, eq_self, m_10]
