/-! the reference's tree of classes and its rules -/
theorem m_ds_val (a : Nat) (p : Nat → Int32) (c t : Int32) : m_ds a p c 16 t 0 = -1 ∨ ∃ j, j < 16 ∧ m_ds a p c 16 t 0 = nI j := by
  rcases m_ds_ge a p c 16 0 t (by decide) with h | ⟨j, _, h2, h3⟩
  · exact Or.inl h
  · exact Or.inr ⟨j, by omega, h3⟩
theorem m_ds_neg (a : Nat) (p : Nat → Int32) (c t : Int32) : (m_ds a p c 16 t 0 < 0) = (m_ds a p c 16 t 0 = -1) := by
  rcases m_ds_val a p c t with h | ⟨j, h1, h⟩
  · rw [h]; exact propext ⟨fun _ => rfl, fun _ => by decide⟩
  · rw [h]
    refine propext ⟨fun q => absurd q (nI_pos (by omega)), fun q => absurd (show nI j < 0 from by rw [q]; decide) (nI_pos (by omega))⟩
theorem m_ds_pos (a : Nat) (p : Nat → Int32) (c t : Int32) : (0 ≤ m_ds a p c 16 t 0) = ¬ (m_ds a p c 16 t 0 = -1) := by
  rw [← m_ds_neg]
  exact propext ⟨fun h => Int32.not_lt.mpr h, fun h => Int32.not_lt.mp h⟩
theorem m_ds_badt {a : Nat} {p : Nat → Int32} {c t : Int32} (h : t < 0 ∨ nI a ≤ t) (n k : Nat) : m_ds a p c n t k = -1 := by
  cases n with
  | zero => rfl
  | succ n =>
    unfold m_ds
    by_cases h0 : t < 0
    · rw [if_pos h0]
    · rw [if_neg h0, if_pos (h.resolve_left h0)]
theorem m_ds_badc {a : Nat} {p : Nat → Int32} {c : Int32} (h : c < 0 ∨ nI a ≤ c) : ∀ (n k : Nat) (t : Int32), m_ds a p c n t k = -1 := by
  intro n
  induction n with
  | zero => intro k t; rfl
  | succ n ih =>
    intro k t
    unfold m_ds
    by_cases h0 : t < 0
    · rw [if_pos h0]
    by_cases h1 : nI a ≤ t
    · rw [if_neg h0, if_pos h1]
    rw [if_neg h0, if_neg h1, if_neg (fun e => by subst e; exact h.elim h0 h1)]
    exact ih _ _
theorem c71_loop {d : Nat} {Q : mQ} {f : Nat → Nat → Int32} {g : Nat → Nat → Option Nat} {t c : Int32} {a : Nat} (hg : m_go_ g) (ha16 : a ≤ 16) (hcl : ∀ j, j < a → f 171 j < 0 ∨ ¬ nI a ≤ f 171 j) : ∀ (n k : Nat) (x : Int32), k + n = 16 → (x < 0 ∨ ¬ nI a ≤ x) → m_R (m_E d) 71 m_SH.length (m_sl m_SH) Q 5 [some (.inr (some 170)), some (.inl t), some (.inl c), some (.inl x), some (.inl (nI k))] [] (m_SH, f, g) = Q (some (.inl (m_ds a (f 171) c n x k))) (m_SH, f, g) := by
  intro n
  induction n with
  | zero =>
    intro k x hk hx
    have h1 : ((16 : Int32) ≤ nI k) = True := eq_true (nI_le (a := 16) (b := k) (by omega) (by omega))
    simp only [↓r71_0, ↓r71_1, ↓r71_2, ↓r71_3, ↓r71_5, ↓r71_7, ↓r71_9, ↓r71_12, ↓r71_13, ↓r71_16, ↓r71_17, ↓r71_18, ↓r71_21, ↓r71_23, ↓r71_24, ↓r71_25, ↓r71_28, ↓r71_29, ↓r71_30, ↓r71_31, ↓r71_34, ↓r71_37, ↓r71_38, h1, if_true, m_ds]
  | succ n ih =>
    intro k x hk hx
    have h1 : ((16 : Int32) ≤ nI k) = False := eq_false (nI_ge (a := k) (b := 16) (by omega) (by decide))
    simp only [↓r71_5, ↓r71_7, ↓r71_9, ↓r71_12, ↓r71_13, h1, if_false]
    unfold m_ds
    by_cases q0 : x < 0
    · simp only [q0, if_true, ↓r71_0, ↓r71_1, ↓r71_2, ↓r71_3, ↓r71_5, ↓r71_7, ↓r71_9, ↓r71_12, ↓r71_13, ↓r71_16, ↓r71_17, ↓r71_18, ↓r71_21, ↓r71_23, ↓r71_24, ↓r71_25, ↓r71_28, ↓r71_29, ↓r71_30, ↓r71_31, ↓r71_34, ↓r71_37, ↓r71_38]
    · have q1 := hx.resolve_left q0
      by_cases q2 : x = c
      · simp only [q0, q1, q2, if_true, if_false, ↓r71_0, ↓r71_1, ↓r71_2, ↓r71_3, ↓r71_7, ↓r71_9, ↓r71_12, ↓r71_13, ↓r71_16, ↓r71_17, ↓r71_18, ↓r71_21, ↓r71_23, ↓r71_24, ↓r71_25, ↓r71_28, ↓r71_29, ↓r71_30, ↓r71_31, ↓r71_34, ↓r71_37, ↓r71_38]
        simp [q2 ▸ q0, q2 ▸ q1]
      · simp only [q0, q1, q2, if_false, ↓r71_0, ↓r71_1, ↓r71_2, ↓r71_3, ↓r71_7, ↓r71_9, ↓r71_12, ↓r71_13, ↓r71_16, ↓r71_17, ↓r71_18, ↓r71_21, ↓r71_23, ↓r71_24, ↓r71_25, ↓r71_28, ↓r71_29, ↓r71_30, ↓r71_31, ↓r71_34, ↓r71_37, ↓r71_38, kC170, lC170, kC171, lC171, kC172, lC172, kC173, lC173, kC174, lC174, kC175, lC175, kC176, lC176, kC177, lC177, kC178, lC178, kC179, lC179, kC180, lC180, kC181, lC181, kC182, lC182, kC183, lC183, kC184, lC184, kC185, lC185, kC186, lC186, kC187, lC187, kC188, lC188, kC189, lC189, kC190, lC190, kC191, lC191, kC192, lC192, kC193, lC193, kC194, lC194, kC195, lC195, kC196, lC196, kC197, lC197, kC198, lC198, kC199, lC199, kC200, lC200, gC170_1 hg, gC170_3 hg, gC170_4 hg, gC170_5 hg, gC170_6 hg, gC170_7 hg, gC170_8 hg, gC170_9 hg, gC170_10 hg, gC170_11 hg, gC170_12 hg, gC170_15 hg, gC170_16 hg, gC170_20 hg, gC170_21 hg, gC170_22 hg, gC170_23 hg, gC170_24 hg, gC170_25 hg, gC170_26 hg, gC170_27 hg, gC170_28 hg, gC170_29 hg, gC170_30 hg, gC170_31 hg, gC170_32 hg, gC170_33 hg, gC170_34 hg, gC170_35 hg, gC170_36 hg, m_in q0 q1 ha16 (show 16 < 2 ^ 31 by decide), nI_1]
        exact ih (k + 1) _ (by omega) (hcl _ (m_ix q0 q1 (by omega)))
theorem c71 {d : Nat} {Q : mQ} {f : Nat → Nat → Int32} {g : Nat → Nat → Option Nat} {t c : Int32} {a : Nat} (hg : m_go_ g) (ha16 : a ≤ 16) (hcl : ∀ j, j < a → f 171 j < 0 ∨ ¬ nI a ≤ f 171 j) (ht : t < 0 ∨ ¬ nI a ≤ t) : m_E (d + 1) 71 [.inr (some 170), .inl t, .inl c] (m_SH, f, g) Q = Q (some (.inl (m_ds a (f 171) c 16 t 0))) (m_SH, f, g) := by
  simp only [↓e71, ↓r71_0, ↓r71_1, ↓r71_2, ↓r71_3, ↓r71_7, ↓r71_9, ↓r71_12, ↓r71_13, ↓r71_16, ↓r71_17, ↓r71_18, ↓r71_21, ↓r71_23, ↓r71_24, ↓r71_25, ↓r71_28, ↓r71_29, ↓r71_30, ↓r71_31, ↓r71_34, ↓r71_37, ↓r71_38]
  exact c71_loop (t := t) (c := c) hg ha16 hcl 16 0 t rfl ht
theorem c70 {d : Nat} {Q : mQ} {f : Nat → Nat → Int32} {g : Nat → Nat → Option Nat} {t c : Int32} {a : Nat} (hg : m_go_ g) (ha : f 170 0 = nI a) (ha16 : a ≤ 16) (hcl : ∀ j, j < a → f 171 j < 0 ∨ ¬ nI a ≤ f 171 j) : m_E (d + 2) 70 [.inr (some 170), .inl t, .inl c] (m_SH, f, g) Q = Q (some (.inl (if m_ds a (f 171) c 16 t 0 = -1 then 0 else 1))) (m_SH, f, g) := by
  simp only [↓e70, ↓r70_0, ↓r70_1, ↓r70_2, ↓r70_5, ↓r70_8, ↓r70_9, ↓r70_10, ↓r70_13, ↓r70_16, ↓r70_17, ↓r70_18, ↓r70_19, ↓r70_22, ↓r70_25, ↓r70_26, ↓r70_29, ↓r70_30, kC170, lC170, c64o, Option.toList, List.cons_append, List.nil_append, List.length_nil, List.length_cons, Nat.zero_le, ha]
  by_cases h0 : t < 0
  · simp only [h0, if_true, if_false, true_or, or_true, eq_self, m_10, ↓r70_0, ↓r70_1, ↓r70_2, ↓r70_5, ↓r70_8, ↓r70_9, ↓r70_10, ↓r70_13, ↓r70_16, ↓r70_17, ↓r70_18, ↓r70_19, ↓r70_22, ↓r70_25, ↓r70_26, ↓r70_29, ↓r70_30, m_ds_badt (Or.inl h0)]
  by_cases h1 : nI a ≤ t
  · simp only [h0, h1, if_true, if_false, true_or, or_true, eq_self, m_10, ↓r70_0, ↓r70_1, ↓r70_2, ↓r70_5, ↓r70_8, ↓r70_9, ↓r70_10, ↓r70_13, ↓r70_16, ↓r70_17, ↓r70_18, ↓r70_19, ↓r70_22, ↓r70_25, ↓r70_26, ↓r70_29, ↓r70_30, m_ds_badt (Or.inr h1)]
  simp only [h0, h1, if_true, if_false, true_or, or_true, eq_self, m_10, ↓r70_0, ↓r70_1, ↓r70_2, ↓r70_5, ↓r70_8, ↓r70_9, ↓r70_10, ↓r70_13, ↓r70_16, ↓r70_17, ↓r70_18, ↓r70_19, ↓r70_22, ↓r70_25, ↓r70_26, ↓r70_29, ↓r70_30, kC170, lC170, c64o, Option.toList, List.cons_append, List.nil_append, List.length_nil, List.length_cons, Nat.zero_le, ha]
  by_cases h2 : c < 0
  · simp only [h2, if_true, if_false, true_or, or_true, eq_self, m_10, ↓r70_0, ↓r70_1, ↓r70_2, ↓r70_5, ↓r70_8, ↓r70_9, ↓r70_10, ↓r70_13, ↓r70_16, ↓r70_17, ↓r70_18, ↓r70_19, ↓r70_22, ↓r70_25, ↓r70_26, ↓r70_29, ↓r70_30, m_ds_badc (Or.inl h2)]
  by_cases h3 : nI a ≤ c
  · simp only [h2, h3, if_true, if_false, true_or, or_true, eq_self, m_10, ↓r70_0, ↓r70_1, ↓r70_2, ↓r70_5, ↓r70_8, ↓r70_9, ↓r70_10, ↓r70_13, ↓r70_16, ↓r70_17, ↓r70_18, ↓r70_19, ↓r70_22, ↓r70_25, ↓r70_26, ↓r70_29, ↓r70_30, m_ds_badc (Or.inr h3)]
  simp only [h2, h3, if_true, if_false, true_or, or_true, eq_self, m_10, ↓r70_0, ↓r70_1, ↓r70_2, ↓r70_5, ↓r70_8, ↓r70_9, ↓r70_10, ↓r70_13, ↓r70_16, ↓r70_17, ↓r70_18, ↓r70_19, ↓r70_22, ↓r70_25, ↓r70_26, ↓r70_29, ↓r70_30, kC170, lC170, c71 hg ha16 hcl (Or.inr h1), Option.toList, List.cons_append, List.nil_append, List.length_nil, List.length_cons, Nat.zero_le, m_ds_neg]
  by_cases q : m_ds a (f 171) c 16 t 0 = -1 <;> simp only [q, if_true, if_false, if_true, if_false, true_or, or_true, eq_self, m_10]
theorem c73_loop {d : Nat} {Q : mQ} {f : Nat → Nat → Int32} {g : Nat → Nat → Option Nat} {t : Int32} {a i r : Nat} (hg : m_go_ g) (ha16 : a ≤ 16) (hcl : ∀ j, j < a → f 171 j < 0 ∨ ¬ nI a ≤ f 171 j) (ht : t < 0 ∨ ¬ nI a ≤ t) (hi : i < 10) (hr : f 173 i = nI r) (h3 : r ≤ 3) (hrb : ∀ j, j < 30 → f 175 j = 0 ∨ f 175 j = 1) : ∀ (n k : Nat) (nr b : Int32) (l6 : Option mV), k + n = r → (b = 0 ∨ b = 1) → m_R (m_E (d + 1)) 73 m_SH.length (m_sl m_SH) Q 33 [some (.inr (some 170)), some (.inl (nI i)), some (.inl t), some (.inl nr), some (.inl b), some (.inl (nI (3 * i + k))), l6] [] (m_SH, f, g) = Q (some (.inl (m_gb (fun c => m_ds a (f 171) c 16 t 0) (fun j => f 174 (3 * i + j)) (fun j => f 175 (3 * i + j)) n k nr b))) (m_SH, f, g) := by
  have e0 : (3 : Int32) * nI i = nI (3 * i) := by rw [show (3 : Int32) = nI 3 from rfl, pk_mul]
  intro n
  induction n with
  | zero =>
    intro k nr b l6 hk hb
    have h1 : (nI (3 * i + r) ≤ nI (3 * i + k)) = True := eq_true (nI_le (by omega) (by omega))
    simp only [↓r73_0, ↓r73_2, ↓r73_3, ↓r73_4, ↓r73_5, ↓r73_6, ↓r73_9, ↓r73_12, ↓r73_13, ↓r73_14, ↓r73_15, ↓r73_18, ↓r73_21, ↓r73_22, ↓r73_25, ↓r73_26, ↓r73_28, ↓r73_29, ↓r73_30, ↓r73_31, ↓r73_33, ↓r73_35, ↓r73_36, ↓r73_37, ↓r73_38, ↓r73_39, ↓r73_42, ↓r73_43, ↓r73_44, ↓r73_45, ↓r73_48, ↓r73_49, ↓r73_50, ↓r73_51, ↓r73_54, ↓r73_56, ↓r73_57, ↓r73_60, ↓r73_62, ↓r73_64, ↓r73_67, ↓r73_69, ↓r73_70, ↓r73_73, ↓r73_75, ↓r73_76, ↓r73_77, ↓r73_80, ↓r73_82, ↓r73_83, ↓r73_85, ↓r73_88, ↓r73_91, ↓r73_93, kC170, lC170, kC171, lC171, kC172, lC172, kC173, lC173, kC174, lC174, kC175, lC175, kC176, lC176, kC177, lC177, kC178, lC178, kC179, lC179, kC180, lC180, kC181, lC181, kC182, lC182, kC183, lC183, kC184, lC184, kC185, lC185, kC186, lC186, kC187, lC187, kC188, lC188, kC189, lC189, kC190, lC190, kC191, lC191, kC192, lC192, kC193, lC193, kC194, lC194, kC195, lC195, kC196, lC196, kC197, lC197, kC198, lC198, kC199, lC199, kC200, lC200, gC170_1 hg, gC170_3 hg, gC170_4 hg, gC170_5 hg, gC170_6 hg, gC170_7 hg, gC170_8 hg, gC170_9 hg, gC170_10 hg, gC170_11 hg, gC170_12 hg, gC170_15 hg, gC170_16 hg, gC170_20 hg, gC170_21 hg, gC170_22 hg, gC170_23 hg, gC170_24 hg, gC170_25 hg, gC170_26 hg, gC170_27 hg, gC170_28 hg, gC170_29 hg, gC170_30 hg, gC170_31 hg, gC170_32 hg, gC170_33 hg, gC170_34 hg, gC170_35 hg, gC170_36 hg, e0, hr, nI_add, vp_in_nI hi (show 10 < 2 ^ 31 by decide), nI_clamp (show i < 2 ^ 31 by omega), h1, if_true, m_gb, hb]
  | succ n ih =>
    intro k nr b l6 hk hb
    have h1 : (nI (3 * i + r) ≤ nI (3 * i + k)) = False := eq_false (nI_ge (by omega) (by omega))
    simp only [↓r73_33, ↓r73_35, ↓r73_36, ↓r73_37, ↓r73_38, ↓r73_39, ↓r73_42, ↓r73_43, ↓r73_44, ↓r73_45, ↓r73_48, ↓r73_49, ↓r73_50, ↓r73_51, ↓r73_54, ↓r73_56, ↓r73_57, kC170, lC170, kC171, lC171, kC172, lC172, kC173, lC173, kC174, lC174, kC175, lC175, kC176, lC176, kC177, lC177, kC178, lC178, kC179, lC179, kC180, lC180, kC181, lC181, kC182, lC182, kC183, lC183, kC184, lC184, kC185, lC185, kC186, lC186, kC187, lC187, kC188, lC188, kC189, lC189, kC190, lC190, kC191, lC191, kC192, lC192, kC193, lC193, kC194, lC194, kC195, lC195, kC196, lC196, kC197, lC197, kC198, lC198, kC199, lC199, kC200, lC200, gC170_1 hg, gC170_3 hg, gC170_4 hg, gC170_5 hg, gC170_6 hg, gC170_7 hg, gC170_8 hg, gC170_9 hg, gC170_10 hg, gC170_11 hg, gC170_12 hg, gC170_15 hg, gC170_16 hg, gC170_20 hg, gC170_21 hg, gC170_22 hg, gC170_23 hg, gC170_24 hg, gC170_25 hg, gC170_26 hg, gC170_27 hg, gC170_28 hg, gC170_29 hg, gC170_30 hg, gC170_31 hg, gC170_32 hg, gC170_33 hg, gC170_34 hg, gC170_35 hg, gC170_36 hg, e0, hr, nI_add, vp_in_nI hi (show 10 < 2 ^ 31 by decide), nI_clamp (show i < 2 ^ 31 by omega), h1, if_false, vp_in_nI (show 3 * i + k < 30 by omega) (show 30 < 2 ^ 31 by decide), nI_clamp (show 3 * i + k < 2 ^ 31 by omega), c71 hg ha16 hcl ht, Option.toList, List.cons_append, List.nil_append, List.length_nil, List.length_cons, Nat.zero_le]
    unfold m_gb
    by_cases q0 : m_ds a (f 171) (f 174 (3 * i + k)) 16 t 0 = -1
    · have q0' : (m_ds a (f 171) (f 174 (3 * i + k)) 16 t 0 < 0) = True := by rw [m_ds_neg]; exact eq_true q0
      simp only [↓r73_0, ↓r73_2, ↓r73_3, ↓r73_4, ↓r73_5, ↓r73_6, ↓r73_9, ↓r73_12, ↓r73_13, ↓r73_14, ↓r73_15, ↓r73_18, ↓r73_21, ↓r73_22, ↓r73_25, ↓r73_26, ↓r73_28, ↓r73_29, ↓r73_30, ↓r73_31, ↓r73_35, ↓r73_36, ↓r73_37, ↓r73_38, ↓r73_39, ↓r73_42, ↓r73_43, ↓r73_44, ↓r73_45, ↓r73_48, ↓r73_49, ↓r73_50, ↓r73_51, ↓r73_54, ↓r73_56, ↓r73_57, ↓r73_60, ↓r73_62, ↓r73_64, ↓r73_67, ↓r73_69, ↓r73_70, ↓r73_73, ↓r73_75, ↓r73_76, ↓r73_77, ↓r73_80, ↓r73_82, ↓r73_83, ↓r73_85, ↓r73_88, ↓r73_91, ↓r73_93, q0', if_true, nI_1]
      rw [if_pos q0]
      exact ih (k + 1) nr b _ (by omega) hb
    · have q0' : (m_ds a (f 171) (f 174 (3 * i + k)) 16 t 0 < 0) = False := by rw [m_ds_neg]; exact eq_false q0
      by_cases q1 : nr ≤ m_ds a (f 171) (f 174 (3 * i + k)) 16 t 0
      · simp only [↓r73_0, ↓r73_2, ↓r73_3, ↓r73_4, ↓r73_5, ↓r73_6, ↓r73_9, ↓r73_12, ↓r73_13, ↓r73_14, ↓r73_15, ↓r73_18, ↓r73_21, ↓r73_22, ↓r73_25, ↓r73_26, ↓r73_28, ↓r73_29, ↓r73_30, ↓r73_31, ↓r73_35, ↓r73_36, ↓r73_37, ↓r73_38, ↓r73_39, ↓r73_42, ↓r73_43, ↓r73_44, ↓r73_45, ↓r73_48, ↓r73_49, ↓r73_50, ↓r73_51, ↓r73_54, ↓r73_56, ↓r73_57, ↓r73_60, ↓r73_62, ↓r73_64, ↓r73_67, ↓r73_69, ↓r73_70, ↓r73_73, ↓r73_75, ↓r73_76, ↓r73_77, ↓r73_80, ↓r73_82, ↓r73_83, ↓r73_85, ↓r73_88, ↓r73_91, ↓r73_93, q0', q0, q1, if_true, if_false, nI_1]
        exact ih (k + 1) nr b _ (by omega) hb
      · simp only [↓r73_0, ↓r73_2, ↓r73_3, ↓r73_4, ↓r73_5, ↓r73_6, ↓r73_9, ↓r73_12, ↓r73_13, ↓r73_14, ↓r73_15, ↓r73_18, ↓r73_21, ↓r73_22, ↓r73_25, ↓r73_26, ↓r73_28, ↓r73_29, ↓r73_30, ↓r73_31, ↓r73_35, ↓r73_36, ↓r73_37, ↓r73_38, ↓r73_39, ↓r73_42, ↓r73_43, ↓r73_44, ↓r73_45, ↓r73_48, ↓r73_49, ↓r73_50, ↓r73_51, ↓r73_54, ↓r73_56, ↓r73_57, ↓r73_60, ↓r73_62, ↓r73_64, ↓r73_67, ↓r73_69, ↓r73_70, ↓r73_73, ↓r73_75, ↓r73_76, ↓r73_77, ↓r73_80, ↓r73_82, ↓r73_83, ↓r73_85, ↓r73_88, ↓r73_91, ↓r73_93, q0', q0, q1, if_false, kC170, lC170, kC171, lC171, kC172, lC172, kC173, lC173, kC174, lC174, kC175, lC175, kC176, lC176, kC177, lC177, kC178, lC178, kC179, lC179, kC180, lC180, kC181, lC181, kC182, lC182, kC183, lC183, kC184, lC184, kC185, lC185, kC186, lC186, kC187, lC187, kC188, lC188, kC189, lC189, kC190, lC190, kC191, lC191, kC192, lC192, kC193, lC193, kC194, lC194, kC195, lC195, kC196, lC196, kC197, lC197, kC198, lC198, kC199, lC199, kC200, lC200, gC170_1 hg, gC170_3 hg, gC170_4 hg, gC170_5 hg, gC170_6 hg, gC170_7 hg, gC170_8 hg, gC170_9 hg, gC170_10 hg, gC170_11 hg, gC170_12 hg, gC170_15 hg, gC170_16 hg, gC170_20 hg, gC170_21 hg, gC170_22 hg, gC170_23 hg, gC170_24 hg, gC170_25 hg, gC170_26 hg, gC170_27 hg, gC170_28 hg, gC170_29 hg, gC170_30 hg, gC170_31 hg, gC170_32 hg, gC170_33 hg, gC170_34 hg, gC170_35 hg, gC170_36 hg, vp_in_nI (show 3 * i + k < 30 by omega) (show 30 < 2 ^ 31 by decide), nI_clamp (show 3 * i + k < 2 ^ 31 by omega), nI_1]
        exact ih (k + 1) _ _ _ (by omega) (hrb _ (by omega))
theorem m_gb_99 {a : Nat} {p : Nat → Int32} {t : Int32} {rk rb : Nat → Int32} : ∀ (n k : Nat) (b : Int32), m_gb (fun c => m_ds a p c 16 t 0) rk rb n k 99 b = m_gb (fun c => m_ds a p c 16 t 0) rk rb n k 16 b := by
  intro n
  induction n with
  | zero => intro k b; rfl
  | succ n ih =>
    intro k b
    unfold m_gb
    rcases m_ds_val a p (rk k) t with h | ⟨j, h1, h⟩
    · simp only [h, if_true, eq_self]
      exact ih _ _
    · have q1 : ¬ (99 : Int32) ≤ nI j := nI_ge (a := j) (b := 99) (by omega) (by decide)
      have q2 : ¬ (16 : Int32) ≤ nI j := nI_ge (a := j) (b := 16) (by omega) (by decide)
      have q3 : ¬ nI j = -1 := fun e => absurd (show nI j < 0 from by rw [e]; decide) (nI_pos (by omega))
      simp only [h, q1, q2, q3, if_false]
theorem c73 {d : Nat} {Q : mQ} {f : Nat → Nat → Int32} {g : Nat → Nat → Option Nat} {t : Int32} {a i r : Nat} (hg : m_go_ g) (ha16 : a ≤ 16) (hcl : ∀ j, j < a → f 171 j < 0 ∨ ¬ nI a ≤ f 171 j) (ht : t < 0 ∨ ¬ nI a ≤ t) (hi : i < 10) (hr : f 173 i = nI r) (h3 : r ≤ 3) (hrb : ∀ j, j < 30 → f 175 j = 0 ∨ f 175 j = 1) : m_E (d + 2) 73 [.inr (some 170), .inl (nI i), .inl t] (m_SH, f, g) Q = Q (some (.inl (m_back a (f 171) t (fun j => f 174 (3 * i + j)) (fun j => f 175 (3 * i + j)) r))) (m_SH, f, g) := by
  have e0 : (3 : Int32) * nI i = nI (3 * i) := by rw [show (3 : Int32) = nI 3 from rfl, pk_mul]
  have L := fun b hb => c73_loop (d := d) (Q := Q) (t := t) hg ha16 hcl ht hi hr h3 hrb r 0 99 b none (by omega) hb
  unfold m_back
  rw [← m_gb_99]
  simp only [↓e73, ↓r73_0, ↓r73_2, ↓r73_3, ↓r73_4, ↓r73_5, ↓r73_6, ↓r73_9, ↓r73_12, ↓r73_13, ↓r73_14, ↓r73_15, ↓r73_18, ↓r73_21, ↓r73_22, ↓r73_25, ↓r73_26, ↓r73_28, ↓r73_29, ↓r73_30, ↓r73_31, ↓r73_35, ↓r73_36, ↓r73_37, ↓r73_38, ↓r73_39, ↓r73_42, ↓r73_43, ↓r73_44, ↓r73_45, ↓r73_48, ↓r73_49, ↓r73_50, ↓r73_51, ↓r73_54, ↓r73_56, ↓r73_57, ↓r73_60, ↓r73_62, ↓r73_64, ↓r73_67, ↓r73_69, ↓r73_70, ↓r73_73, ↓r73_75, ↓r73_76, ↓r73_77, ↓r73_80, ↓r73_82, ↓r73_83, ↓r73_85, ↓r73_88, ↓r73_91, ↓r73_93, kC170, lC170, c71 hg ha16 hcl ht, Option.toList, List.cons_append, List.nil_append, List.length_nil, List.length_cons, Nat.zero_le, m_ds_pos, m_ds_neg]
  by_cases q3 : m_ds a (f 171) 3 16 t 0 = -1
  · by_cases q1 : m_ds a (f 171) 1 16 t 0 = -1
    · simp only [q3, q1, if_true, if_false, true_or, or_true, eq_self, m_10, not_true_eq_false, ↓r73_0, ↓r73_2, ↓r73_3, ↓r73_4, ↓r73_5, ↓r73_6, ↓r73_9, ↓r73_12, ↓r73_13, ↓r73_14, ↓r73_15, ↓r73_18, ↓r73_21, ↓r73_22, ↓r73_25, ↓r73_26, ↓r73_28, ↓r73_29, ↓r73_30, ↓r73_31, ↓r73_35, ↓r73_36, ↓r73_37, ↓r73_38, ↓r73_39, ↓r73_42, ↓r73_43, ↓r73_44, ↓r73_45, ↓r73_48, ↓r73_49, ↓r73_50, ↓r73_51, ↓r73_54, ↓r73_56, ↓r73_57, ↓r73_60, ↓r73_62, ↓r73_64, ↓r73_67, ↓r73_69, ↓r73_70, ↓r73_73, ↓r73_75, ↓r73_76, ↓r73_77, ↓r73_80, ↓r73_82, ↓r73_83, ↓r73_85, ↓r73_88, ↓r73_91, ↓r73_93, e0]
      exact L 0 (Or.inl rfl)
    · simp only [q3, q1, if_true, if_false, true_or, or_true, eq_self, m_10, not_true_eq_false, ↓r73_0, ↓r73_2, ↓r73_3, ↓r73_4, ↓r73_5, ↓r73_6, ↓r73_9, ↓r73_12, ↓r73_13, ↓r73_14, ↓r73_15, ↓r73_18, ↓r73_21, ↓r73_22, ↓r73_25, ↓r73_26, ↓r73_28, ↓r73_29, ↓r73_30, ↓r73_31, ↓r73_35, ↓r73_36, ↓r73_37, ↓r73_38, ↓r73_39, ↓r73_42, ↓r73_43, ↓r73_44, ↓r73_45, ↓r73_48, ↓r73_49, ↓r73_50, ↓r73_51, ↓r73_54, ↓r73_56, ↓r73_57, ↓r73_60, ↓r73_62, ↓r73_64, ↓r73_67, ↓r73_69, ↓r73_70, ↓r73_73, ↓r73_75, ↓r73_76, ↓r73_77, ↓r73_80, ↓r73_82, ↓r73_83, ↓r73_85, ↓r73_88, ↓r73_91, ↓r73_93, e0]
      exact L 1 (Or.inr rfl)
  · simp only [q3, if_true, if_false, true_or, or_true, eq_self, m_10, not_false_eq_true, ↓r73_0, ↓r73_2, ↓r73_3, ↓r73_4, ↓r73_5, ↓r73_6, ↓r73_9, ↓r73_12, ↓r73_13, ↓r73_14, ↓r73_15, ↓r73_18, ↓r73_21, ↓r73_22, ↓r73_25, ↓r73_26, ↓r73_28, ↓r73_29, ↓r73_30, ↓r73_31, ↓r73_35, ↓r73_36, ↓r73_37, ↓r73_38, ↓r73_39, ↓r73_42, ↓r73_43, ↓r73_44, ↓r73_45, ↓r73_48, ↓r73_49, ↓r73_50, ↓r73_51, ↓r73_54, ↓r73_56, ↓r73_57, ↓r73_60, ↓r73_62, ↓r73_64, ↓r73_67, ↓r73_69, ↓r73_70, ↓r73_73, ↓r73_75, ↓r73_76, ↓r73_77, ↓r73_80, ↓r73_82, ↓r73_83, ↓r73_85, ↓r73_88, ↓r73_91, ↓r73_93, e0]
    exact L 1 (Or.inr rfl)
theorem c72 {d : Nat} {Q : mQ} {f : Nat → Nat → Int32} {g : Nat → Nat → Option Nat} {x t : Int32} {a p : Nat} {rc : Nat → Nat} (hg : m_go_ g) (ha : f 170 0 = nI a) (ha16 : a ≤ 16) (hcl : ∀ j, j < a → f 171 j < 0 ∨ ¬ nI a ≤ f 171 j) (hp : f 170 2 = nI p) (hp10 : p ≤ 10) (hr : ∀ i, i < 10 → f 173 i = nI (rc i) ∧ rc i ≤ 3) (hrb : ∀ j, j < 30 → f 175 j = 0 ∨ f 175 j = 1) : m_E (d + 3) 72 [.inr (some 170), .inl x, .inl t] (m_SH, f, g) Q = Q (some (.inl (if x < 0 then 0 else if nI p ≤ x then 0 else if t < 0 then 0 else if nI a ≤ t then 0 else m_back a (f 171) t (fun j => f 174 (3 * x.toNatClampNeg + j)) (fun j => f 175 (3 * x.toNatClampNeg + j)) (rc x.toNatClampNeg)))) (m_SH, f, g) := by
  simp only [↓e72, ↓r72_0, ↓r72_1, ↓r72_2, ↓r72_5, ↓r72_8, ↓r72_9, ↓r72_10, ↓r72_13, ↓r72_16, ↓r72_17, ↓r72_18, ↓r72_19, ↓r72_22, ↓r72_25, ↓r72_26, ↓r72_29, ↓r72_30, kC170, lC170, c67o, Option.toList, List.cons_append, List.nil_append, List.length_nil, List.length_cons, Nat.zero_le, hp]
  by_cases h0 : x < 0
  · simp only [h0, if_true, if_false, true_or, or_true, eq_self, m_10, ↓r72_0, ↓r72_1, ↓r72_2, ↓r72_5, ↓r72_8, ↓r72_9, ↓r72_10, ↓r72_13, ↓r72_16, ↓r72_17, ↓r72_18, ↓r72_19, ↓r72_22, ↓r72_25, ↓r72_26, ↓r72_29, ↓r72_30]
  by_cases h1 : nI p ≤ x
  · simp only [h0, h1, if_true, if_false, true_or, or_true, eq_self, m_10, ↓r72_0, ↓r72_1, ↓r72_2, ↓r72_5, ↓r72_8, ↓r72_9, ↓r72_10, ↓r72_13, ↓r72_16, ↓r72_17, ↓r72_18, ↓r72_19, ↓r72_22, ↓r72_25, ↓r72_26, ↓r72_29, ↓r72_30]
  obtain ⟨i, hip, rfl⟩ := vp_in_of (m_in h0 h1 (Nat.le_refl p) (by omega)) (by omega)
  have hi : i < 10 := by omega
  simp only [h0, h1, if_true, if_false, true_or, or_true, eq_self, m_10, ↓r72_0, ↓r72_1, ↓r72_2, ↓r72_5, ↓r72_8, ↓r72_9, ↓r72_10, ↓r72_13, ↓r72_16, ↓r72_17, ↓r72_18, ↓r72_19, ↓r72_22, ↓r72_25, ↓r72_26, ↓r72_29, ↓r72_30, kC170, lC170, c64o, Option.toList, List.cons_append, List.nil_append, List.length_nil, List.length_cons, Nat.zero_le, ha, nI_clamp (show i < 2 ^ 31 by omega)]
  by_cases h2 : t < 0
  · simp only [h2, if_true, if_false, true_or, or_true, eq_self, m_10, ↓r72_0, ↓r72_1, ↓r72_2, ↓r72_5, ↓r72_8, ↓r72_9, ↓r72_10, ↓r72_13, ↓r72_16, ↓r72_17, ↓r72_18, ↓r72_19, ↓r72_22, ↓r72_25, ↓r72_26, ↓r72_29, ↓r72_30]
  by_cases h3 : nI a ≤ t
  · simp only [h2, h3, if_true, if_false, true_or, or_true, eq_self, m_10, ↓r72_0, ↓r72_1, ↓r72_2, ↓r72_5, ↓r72_8, ↓r72_9, ↓r72_10, ↓r72_13, ↓r72_16, ↓r72_17, ↓r72_18, ↓r72_19, ↓r72_22, ↓r72_25, ↓r72_26, ↓r72_29, ↓r72_30]
  simp only [h2, h3, if_true, if_false, true_or, or_true, eq_self, m_10, ↓r72_0, ↓r72_1, ↓r72_2, ↓r72_5, ↓r72_8, ↓r72_9, ↓r72_10, ↓r72_13, ↓r72_16, ↓r72_17, ↓r72_18, ↓r72_19, ↓r72_22, ↓r72_25, ↓r72_26, ↓r72_29, ↓r72_30, kC170, lC170, c73 hg ha16 hcl (Or.inr h3) hi (hr i hi).1 (hr i hi).2 hrb, Option.toList, List.cons_append, List.nil_append, List.length_nil, List.length_cons, Nat.zero_le]
  rcases m_back01 (a := a) (p := f 171) (t := t) (rk := fun j => f 174 (3 * i + j)) (rb := fun j => f 175 (3 * i + j)) (hr i hi).2 (fun j hj => hrb _ (by omega)) with q | q <;> simp only [q, ↓r72_0, ↓r72_1, ↓r72_2, ↓r72_5, ↓r72_8, ↓r72_9, ↓r72_10, ↓r72_13, ↓r72_16, ↓r72_17, ↓r72_18, ↓r72_19, ↓r72_22, ↓r72_25, ↓r72_26, ↓r72_29, ↓r72_30, if_true, if_false, true_or, or_true, eq_self, m_10]
