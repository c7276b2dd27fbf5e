/-! a call from its entry to its end, in the class and in the reference -/
def m_ar (D : Nat) (out : Int32) (gg : mG) (h2 h3 : mF) : Prop := (D = 0 ∧ h3 = m_si h2 170 19 out) ∨ (0 < D ∧ m_rn 79 2 [.inr (some 170), .inl out] h2 gg none h3 gg)
/-- k rounds of the reference's loop -/
def m_go74 (gg : mG) (h h2 : mF) (k : Nat) : Prop := ∀ (d : Nat) (Q : mQ) (l : Option mV) (kk : Nat), kk + k ≤ 2000 → m_R (m_E (d + 6)) 74 m_SH.length (m_sl m_SH) Q 41 [some (.inr (some 170)), l, some (.inl (nI kk))] [] (m_SH, h, gg) = m_R (m_E (d + 6)) 74 m_SH.length (m_sl m_SH) Q 41 [some (.inr (some 170)), l, some (.inl (nI (kk + k)))] [] (m_SH, h2, gg)
def m_lp (D : Nat) (gg : mG) (h1 h2 : mF) (out : Int32) (k : Nat) : Prop := ∀ h3, m_ar D out gg h2 h3 → m_go74 gg h1 h3 k
theorem m_go74_tr {gg : mG} {h h2 h3 : mF} {k k' : Nat} (q1 : m_go74 gg h h2 k) (q2 : m_go74 gg h2 h3 k') : m_go74 gg h h3 (k + k') := fun d Q l kk hk => by
  rw [q1 d Q l kk (by omega), q2 d Q l (kk + k) (by omega), Nat.add_assoc]
theorem m_fit_c {a m : Nat} {op A B : Int32} (ha : a < 2 ^ 31) (hm : m < 2 ^ 31) (q : m_fit (nI a) (nI m) op A B = 1) : ((op = 0 ∨ op = 1 ∨ op = 2) ∧ ∃ k, k < 4 ∧ A = nI k) ∨ (op = 3 ∧ (∃ k, k < m ∧ A = nI k) ∧ (B = -1 ∨ ¬ B < 0)) ∨ (op = 4 ∧ ∃ k, k < a ∧ A = nI k) ∨ op = 5 ∨ op = 6 := by
  have key : m_key A = 1 → ∃ k, k < 4 ∧ A = nI k := by
    intro z
    unfold m_key at z
    by_cases h0 : A < 0
    · rw [if_pos h0] at z; exact absurd z (by decide)
    by_cases h1 : 4 ≤ A
    · rw [if_neg h0, if_pos h1] at z; exact absurd z (by decide)
    exact vp_in_of (m_in (a := 4) h0 h1 (Nat.le_refl 4) (by decide)) (by decide)
  unfold m_fit at q
  by_cases o0 : op = 0
  · rw [if_pos o0] at q; exact Or.inl ⟨Or.inl o0, key q⟩
  by_cases o1 : op = 1
  · rw [if_neg o0, if_pos o1] at q; exact Or.inl ⟨Or.inr (Or.inl o1), key q⟩
  by_cases o2 : op = 2
  · rw [if_neg o0, if_neg o1, if_pos o2] at q; exact Or.inl ⟨Or.inr (Or.inr o2), key q⟩
  by_cases o3 : op = 3
  · rw [if_neg o0, if_neg o1, if_neg o2, if_pos o3] at q
    by_cases h0 : A < 0
    · rw [if_pos h0] at q; exact absurd q (by decide)
    by_cases h1 : nI m ≤ A
    · rw [if_neg h0, if_pos h1] at q; exact absurd q (by decide)
    refine Or.inr (Or.inl ⟨o3, vp_in_of (m_in h0 h1 (Nat.le_refl m) hm) hm, ?_⟩)
    rw [if_neg h0, if_neg h1] at q
    by_cases b1 : B = -1
    · exact Or.inl b1
    · rw [if_neg b1] at q
      unfold m_has at q
      by_cases b0 : B < 0
      · rw [if_pos b0] at q; exact absurd q (by decide)
      · exact Or.inr b0
  by_cases o4 : op = 4
  · rw [if_neg o0, if_neg o1, if_neg o2, if_neg o3, if_pos o4] at q
    unfold m_has at q
    by_cases h0 : A < 0
    · rw [if_pos h0] at q; exact absurd q (by decide)
    by_cases h1 : nI a ≤ A
    · rw [if_neg h0, if_pos h1] at q; exact absurd q (by decide)
    exact Or.inr (Or.inr (Or.inl ⟨o4, vp_in_of (m_in h0 h1 (Nat.le_refl a) ha) ha⟩))
  by_cases o5 : op = 5
  · exact Or.inr (Or.inr (Or.inr (Or.inl o5)))
  by_cases o6 : op = 6
  · exact Or.inr (Or.inr (Or.inr (Or.inr o6)))
  rw [if_neg o0, if_neg o1, if_neg o2, if_neg o3, if_neg o4, if_neg o5, if_neg o6] at q
  exact absurd q (by decide)
theorem c74_step {D m p s : Nat} {h h2 : mF} {gg : mG} (hh : m_go_ gg) (hD : D < 10) (hm : m < 10) (hp : p < s) (hs8 : s ≤ 8) (hd : h 170 17 = nI D) (hr : h 184 D = nI m) (hn : h 185 D = nI p) (hfl : h 186 D = -1) (hs : h 176 m = nI s) (e : m_rn 78 4 [.inr (some 170)] h gg none h2 gg) : m_go74 gg h h2 1 := by
  intro d Q l kk hk
  have hg := hh
  unfold m_rn at e
  have y1 : ((2000 : Int32) ≤ nI kk) = False := eq_false (nI_ge (a := kk) (b := 2000) (by omega) (by decide))
  have y2 : (nI s ≤ nI p) = False := ((n_le (a := s) (b := p) (by omega) (by omega)).trans (eq_false (by omega)))
  rw [r74_41]
  simp only [↓r74_42, ↓r74_45, ↓r74_48, ↓r74_49, ↓r74_52, ↓r74_55, ↓r74_56, ↓r74_59, ↓r74_60, ↓r74_63, ↓r74_64, ↓r74_67, ↓r74_68, ↓r74_71, ↓r74_72, ↓r74_75, ↓r74_76, ↓r74_77, ↓r74_80, ↓r74_81, ↓r74_84, ↓r74_85, ↓r74_88, ↓r74_89, ↓r74_90, ↓r74_93, ↓r74_94, ↓r74_97, ↓r74_100, ↓r74_101, ↓r74_104, ↓r74_107, kC170, lC170, kC171, lC171, kC172, lC172, kC173, lC173, kC174, lC174, kC175, lC175, kC176, lC176, kC177, lC177, kC178, lC178, kC179, lC179, kC180, lC180, kC181, lC181, kC182, lC182, kC183, lC183, kC184, lC184, kC185, lC185, kC186, lC186, kC187, lC187, kC188, lC188, kC189, lC189, kC190, lC190, kC191, lC191, kC192, lC192, kC193, lC193, kC194, lC194, kC195, lC195, kC196, lC196, kC197, lC197, kC198, lC198, kC199, lC199, kC200, lC200, gC170_1 hg, gC170_3 hg, gC170_4 hg, gC170_5 hg, gC170_6 hg, gC170_7 hg, gC170_8 hg, gC170_9 hg, gC170_10 hg, gC170_11 hg, gC170_12 hg, gC170_15 hg, gC170_16 hg, gC170_20 hg, gC170_21 hg, gC170_22 hg, gC170_23 hg, gC170_24 hg, gC170_25 hg, gC170_26 hg, gC170_27 hg, gC170_28 hg, gC170_29 hg, gC170_30 hg, gC170_31 hg, gC170_32 hg, gC170_33 hg, gC170_34 hg, gC170_35 hg, gC170_36 hg, if_true, if_false, true_or, or_true, eq_self, m_10, Option.toList, List.cons_append, List.nil_append, List.length_nil, List.length_cons, Nat.zero_le, m_l1, m_l2, m_l3, m_l4, m_l5, m_l6, vp_in_nI (show D < 10 by omega) (show 10 < 2 ^ 31 by decide), nI_clamp (show D < 2 ^ 31 by omega), vp_in_nI (show m < 10 by omega) (show 10 < 2 ^ 31 by decide), nI_clamp (show m < 2 ^ 31 by omega), y1, y2, hd, hr, hn, hfl, hs, n_neg (show D < 2 ^ 31 by omega), m_m2, e, nI_1]
theorem c74_fin {D m p s : Nat} {h h2 : mF} {gg : mG} {th : Int32} (hh : m_go_ gg) (hD : D < 10) (hm : m < 10) (hs8 : s ≤ 8) (hp8 : p ≤ 8) (hd : h 170 17 = nI D) (hr : h 184 D = nI m) (hfl : h 186 D = th) (hs : h 176 m = nI s) (hx : ¬ th < 0 ∨ (th = -1 ∧ s ≤ p ∧ h 185 D = nI p)) (e : m_rn 86 6 [.inr (some 170)] h gg none h2 gg) : m_go74 gg h h2 1 := by
  intro d Q l kk hk
  have hg := hh
  unfold m_rn at e
  have y1 : ((2000 : Int32) ≤ nI kk) = False := eq_false (nI_ge (a := kk) (b := 2000) (by omega) (by decide))
  rw [r74_41]
  rcases hx with hx | ⟨rfl, hp, hn⟩
  · have y3 : ((0 : Int32) ≤ th) = True := eq_true (Int32.not_lt.mp hx)
    simp only [↓r74_42, ↓r74_45, ↓r74_48, ↓r74_49, ↓r74_52, ↓r74_55, ↓r74_56, ↓r74_59, ↓r74_60, ↓r74_63, ↓r74_64, ↓r74_67, ↓r74_68, ↓r74_71, ↓r74_72, ↓r74_75, ↓r74_76, ↓r74_77, ↓r74_80, ↓r74_81, ↓r74_84, ↓r74_85, ↓r74_88, ↓r74_89, ↓r74_90, ↓r74_93, ↓r74_94, ↓r74_97, ↓r74_100, ↓r74_101, ↓r74_104, ↓r74_107, kC170, lC170, kC171, lC171, kC172, lC172, kC173, lC173, kC174, lC174, kC175, lC175, kC176, lC176, kC177, lC177, kC178, lC178, kC179, lC179, kC180, lC180, kC181, lC181, kC182, lC182, kC183, lC183, kC184, lC184, kC185, lC185, kC186, lC186, kC187, lC187, kC188, lC188, kC189, lC189, kC190, lC190, kC191, lC191, kC192, lC192, kC193, lC193, kC194, lC194, kC195, lC195, kC196, lC196, kC197, lC197, kC198, lC198, kC199, lC199, kC200, lC200, gC170_1 hg, gC170_3 hg, gC170_4 hg, gC170_5 hg, gC170_6 hg, gC170_7 hg, gC170_8 hg, gC170_9 hg, gC170_10 hg, gC170_11 hg, gC170_12 hg, gC170_15 hg, gC170_16 hg, gC170_20 hg, gC170_21 hg, gC170_22 hg, gC170_23 hg, gC170_24 hg, gC170_25 hg, gC170_26 hg, gC170_27 hg, gC170_28 hg, gC170_29 hg, gC170_30 hg, gC170_31 hg, gC170_32 hg, gC170_33 hg, gC170_34 hg, gC170_35 hg, gC170_36 hg, if_true, if_false, true_or, or_true, eq_self, m_10, Option.toList, List.cons_append, List.nil_append, List.length_nil, List.length_cons, Nat.zero_le, m_l1, m_l2, m_l3, m_l4, m_l5, m_l6, vp_in_nI (show D < 10 by omega) (show 10 < 2 ^ 31 by decide), nI_clamp (show D < 2 ^ 31 by omega), vp_in_nI (show m < 10 by omega) (show 10 < 2 ^ 31 by decide), nI_clamp (show m < 2 ^ 31 by omega), y1, y3, hd, hr, hfl, hs, n_neg (show D < 2 ^ 31 by omega), e, nI_1]
  · have y2 : (nI s ≤ nI p) = True := ((n_le (a := s) (b := p) (by omega) (by omega)).trans (eq_true (by omega)))
    simp only [↓r74_42, ↓r74_45, ↓r74_48, ↓r74_49, ↓r74_52, ↓r74_55, ↓r74_56, ↓r74_59, ↓r74_60, ↓r74_63, ↓r74_64, ↓r74_67, ↓r74_68, ↓r74_71, ↓r74_72, ↓r74_75, ↓r74_76, ↓r74_77, ↓r74_80, ↓r74_81, ↓r74_84, ↓r74_85, ↓r74_88, ↓r74_89, ↓r74_90, ↓r74_93, ↓r74_94, ↓r74_97, ↓r74_100, ↓r74_101, ↓r74_104, ↓r74_107, kC170, lC170, kC171, lC171, kC172, lC172, kC173, lC173, kC174, lC174, kC175, lC175, kC176, lC176, kC177, lC177, kC178, lC178, kC179, lC179, kC180, lC180, kC181, lC181, kC182, lC182, kC183, lC183, kC184, lC184, kC185, lC185, kC186, lC186, kC187, lC187, kC188, lC188, kC189, lC189, kC190, lC190, kC191, lC191, kC192, lC192, kC193, lC193, kC194, lC194, kC195, lC195, kC196, lC196, kC197, lC197, kC198, lC198, kC199, lC199, kC200, lC200, gC170_1 hg, gC170_3 hg, gC170_4 hg, gC170_5 hg, gC170_6 hg, gC170_7 hg, gC170_8 hg, gC170_9 hg, gC170_10 hg, gC170_11 hg, gC170_12 hg, gC170_15 hg, gC170_16 hg, gC170_20 hg, gC170_21 hg, gC170_22 hg, gC170_23 hg, gC170_24 hg, gC170_25 hg, gC170_26 hg, gC170_27 hg, gC170_28 hg, gC170_29 hg, gC170_30 hg, gC170_31 hg, gC170_32 hg, gC170_33 hg, gC170_34 hg, gC170_35 hg, gC170_36 hg, if_true, if_false, true_or, or_true, eq_self, m_10, Option.toList, List.cons_append, List.nil_append, List.length_nil, List.length_cons, Nat.zero_le, m_l1, m_l2, m_l3, m_l4, m_l5, m_l6, vp_in_nI (show D < 10 by omega) (show 10 < 2 ^ 31 by decide), nI_clamp (show D < 2 ^ 31 by omega), vp_in_nI (show m < 10 by omega) (show 10 < 2 ^ 31 by decide), nI_clamp (show m < 2 ^ 31 by omega), y1, y2, hd, hr, hn, hfl, hs, n_neg (show D < 2 ^ 31 by omega), m_m2, e, nI_1]
theorem c86_end {d D : Nat} {Q : mQ} {h2 h3 : mF} {gg : mG} {l : Option mV} {out : Int32} (hD : D < 10) (hd : h2 170 17 = nI D - 1) (q : m_ar D out gg h2 h3) : m_R (m_E (d + 5)) 86 m_SH.length (m_sl m_SH) Q 176 [some (.inr (some 170)), some (.inl (nI D)), l, some (.inl out)] [] (m_SH, h2, gg) = Q none (m_SH, h3, gg) := by
  rcases q with ⟨rfl, rfl⟩ | ⟨q0, e⟩
  · have y : (nI 0 - 1 < 0) = True := eq_true (by decide)
    simp only [↓r86_176, ↓r86_177, ↓r86_180, ↓r86_183, ↓r86_184, ↓r86_185, ↓r86_188, ↓r86_191, ↓r86_192, ↓r86_193, ↓r86_196, kC170, lC170, kC171, lC171, kC172, lC172, kC173, lC173, kC174, lC174, kC175, lC175, kC176, lC176, kC177, lC177, kC178, lC178, kC179, lC179, kC180, lC180, kC181, lC181, kC182, lC182, kC183, lC183, kC184, lC184, kC185, lC185, kC186, lC186, kC187, lC187, kC188, lC188, kC189, lC189, kC190, lC190, kC191, lC191, kC192, lC192, kC193, lC193, kC194, lC194, kC195, lC195, kC196, lC196, kC197, lC197, kC198, lC198, kC199, lC199, kC200, lC200, if_true, if_false, true_or, or_true, eq_self, m_10, Option.toList, List.cons_append, List.nil_append, List.length_nil, List.length_cons, Nat.zero_le, hd, y]
  · obtain ⟨D', rfl⟩ : ∃ D', D = D' + 1 := ⟨D - 1, by omega⟩
    have y0 : nI (D' + 1) - 1 = nI D' := by rw [← nI_1, Int32.add_sub_cancel]
    unfold m_rn at e
    rw [y0] at hd
    simp only [↓r86_176, ↓r86_177, ↓r86_180, ↓r86_183, ↓r86_184, ↓r86_185, ↓r86_188, ↓r86_191, ↓r86_192, ↓r86_193, ↓r86_196, kC170, lC170, kC171, lC171, kC172, lC172, kC173, lC173, kC174, lC174, kC175, lC175, kC176, lC176, kC177, lC177, kC178, lC178, kC179, lC179, kC180, lC180, kC181, lC181, kC182, lC182, kC183, lC183, kC184, lC184, kC185, lC185, kC186, lC186, kC187, lC187, kC188, lC188, kC189, lC189, kC190, lC190, kC191, lC191, kC192, lC192, kC193, lC193, kC194, lC194, kC195, lC195, kC196, lC196, kC197, lC197, kC198, lC198, kC199, lC199, kC200, lC200, if_true, if_false, true_or, or_true, eq_self, m_10, Option.toList, List.cons_append, List.nil_append, List.length_nil, List.length_cons, Nat.zero_le, hd, n_neg (show D' < 2 ^ 31 by omega), e]
theorem m_fr_call {D m c t : Nat} {cur : Option Nat} {wy hv : Int32} {f h f2 h2 : mF} {g g2 : mG} (o : m_ok (D + 1) f g h f2 g2 h2 c t) (e17 : h2 170 17 = h 170 17) (e18 : h2 170 18 = h 170 18) (F : m_fr D m cur wy hv f g h) : m_fr D m cur wy hv f2 g2 h2 := by
  obtain ⟨a1, a2, a3, a4, a5, a6, a7, a8, a9⟩ := F
  refine ⟨(o.kh 184 D (by decide) (by decide) (by omega)).trans a1, ?_, ?_, (o.kg _ 1 (by omega)).trans a4, by rw [e18]; exact a5, e17.trans a6, fun i hi => ?_, (o.kh 187 D (by decide) (by decide) (by omega)).trans a8, (o.kh 188 D (by decide) (by decide) (by omega)).trans a9⟩
  · rw [o.kf D 4 (by omega) (Or.inr rfl), o.kh 189 D (by decide) (by decide) (by omega)]; exact a2
  · rw [o.kf D 3 (by omega) (Or.inl rfl), o.kh 187 D (by decide) (by decide) (by omega)]; exact a3
  · rw [o.kg _ 2 (by omega), o.kh 188 i (by decide) (by decide) (by omega)]; exact a7 i hi
/-- calls of methods below n go alike in both -/
def m_pc (n a P : Nat) : Prop := ∀ (m D c t : Nat) (f h : mF) (g gg : mG) (around : Option Nat), m < n → D + m ≤ 9 → m < P → m_sf a P h → m_ok 10 f g h f g h c t → m_go_ gg → c ≤ 60 → m_cu around (h 170 18) → h 170 17 + 1 = nI D → (∀ i, i < D → m_cu (g (12 + 16 * i) 2) (h 188 i)) → t + 50 * (60 - c) ≤ 500000 → ∃ f2 g2 h2 out c' t', (∀ (e : Nat) (Q : mQ), 3 * n + 5 ≤ e → m_E e 20 [.inr (some 0), .inl (nI m), .inr around, .inl (nI D)] (m_SH, f, g) Q = Q (some (.inl out)) (m_SH, f2, g2)) ∧ m_ok D f g h f2 g2 h2 c' t' ∧ h2 170 17 = h 170 17 ∧ h2 170 18 = h 170 18 ∧ c ≤ c' ∧ c' ≤ 60 ∧ t' ≤ t + 41 * (c' - c) ∧ (out = -1 ∨ ∃ x, x < a ∧ out = nI x) ∧ ((m_rn 75 2 [.inr (some 170), .inl (nI m)] h gg (some (.inl out)) h2 gg ∧ ¬ out < 0) ∨ ∃ h1 k, m_rn 75 2 [.inr (some 170), .inl (nI m)] h gg (some (.inl (-1))) h1 gg ∧ k ≤ 9 * (c' - c) ∧ m_lp D gg h1 h2 out k)
theorem jS {n a P D m p c t : Nat} {f h : mF} {g gg : mG} {cur : Option Nat} {wy hv op A B : Int32} (IH : m_pc n a P) (o : m_ok 10 f g h f g h c t) (hh : m_go_ gg) (s : m_sf a P h) (F : m_fr D m cur wy hv f g h) (hmn : m ≤ n) (hDm : D + m ≤ 9) (hmP : m < P) (hc : c ≤ 60) (ht : t + 50 * (60 - c) ≤ 500000) (st : Nat) (hst8 : st ≤ 8) (hst : h 176 m = nI st) (hp : p < st) (hn : h 185 D = nI p) (hfl : h 186 D = -1) (hop : h 177 (8 * m + p) = op) (hA : h 178 (8 * m + p) = A) (hB : h 179 (8 * m + p) = B) (hfit : m_fit (nI a) (nI m) op A B = 1) : (∃ f2 g2 h2 th c' t' k, (∀ (e : Nat) (Q : mQ), 3 * n + 7 ≤ e → m_E e 28 [.inr (some 0), .inl op, .inl A, .inl B, .inl (nI D)] (m_SH, f, g) Q = Q (some (.inl th)) (m_SH, f2, g2)) ∧ m_go74 gg h h2 k ∧ m_ok D f g h f2 g2 h2 c' t' ∧ m_fr D m cur wy hv f2 g2 h2 ∧ m_sp1 a p D th h2 ∧ c ≤ c' ∧ c' ≤ 60 ∧ k ≤ 1 + 9 * (c' - c) ∧ t' ≤ t + 1 + 41 * (c' - c)) := by
  have hD : D < 10 := by omega
  have hm : m < 10 := by omega
  have hp8 : p < 8 := by omega
  have h10 : 10 ≤ a := s.2.1
  have a16 : a ≤ 16 := s.2.2.1
  obtain ⟨a1, a2, a3, a4, a5, a6, a7, a8, a9⟩ := id F
  have leaf : (∃ f2 h2 th t', m_rn 28 5 [.inr (some 0), .inl op, .inl A, .inl B, .inl (nI D)] f g (some (.inl th)) f2 g ∧ m_rn 78 4 [.inr (some 170)] h gg none h2 gg ∧ m_ok D f g h f2 g h2 c t' ∧ t' ≤ t + 1 ∧ m_fr D m cur wy hv f2 g h2 ∧ m_sp1 a p D th h2) → (∃ f2 g2 h2 th c' t' k, (∀ (e : Nat) (Q : mQ), 3 * n + 7 ≤ e → m_E e 28 [.inr (some 0), .inl op, .inl A, .inl B, .inl (nI D)] (m_SH, f, g) Q = Q (some (.inl th)) (m_SH, f2, g2)) ∧ m_go74 gg h h2 k ∧ m_ok D f g h f2 g2 h2 c' t' ∧ m_fr D m cur wy hv f2 g2 h2 ∧ m_sp1 a p D th h2 ∧ c ≤ c' ∧ c' ≤ 60 ∧ k ≤ 1 + 9 * (c' - c) ∧ t' ≤ t + 1 + 41 * (c' - c)) := by
    rintro ⟨f2, h2, th, t', e1, e2, o2, b2, F2, S2⟩
    refine ⟨f2, g, h2, th, c, t', 1, fun e Q he => ?_, c74_step hh hD hm hp hst8 a6 a1 hn hfl hst e2, o2, F2, S2, Nat.le_refl c, hc, by omega, by omega⟩
    obtain ⟨e', rfl⟩ : ∃ e', e = e' + 5 := ⟨e - 5, by omega⟩
    exact e1 e' Q
  rcases m_fit_c (by omega) (by omega) hfit with ⟨q, k, hk, rfl⟩ | ⟨rfl, ⟨m', hm', rfl⟩, hb1⟩ | ⟨rfl, x, hx, rfl⟩ | rfl | rfl
  · rcases q with rfl | rfl | rfl
    · exact leaf (j_get o hh F hD hm hp8 hn hfl (by omega) h10 hk hop hA)
    · exact leaf (j_put o hh F hD hm hp8 hn hfl (by omega) h10 hk hop hA hB)
    · exact leaf (j_add o hh F hD hm hp8 hn hfl (by omega) h10 hk hop hA hB)
  · have hd1 : h 170 17 + 1 = nI (D + 1) := by rw [a6, nI_1]
    obtain ⟨f2, g2, h2, out, c', t', e1, o2, e17, e18, b1, b2, b3, vo, alt⟩ := IH m' (D + 1) c t f h g gg cur (by omega) (by omega) (by omega) s o hh hc a5 hd1 (fun i hi => a7 i (by omega)) (by omega)
    have F2 := m_fr_call o2 e17 e18 F
    have s2 := m_sf_keep o2 s
    have n2 := (o2.kh 185 D (by decide) (by decide) (by omega)).trans hn
    have f2' := (o2.kh 186 D (by decide) (by decide) (by omega)).trans hfl
    have hB2 : h2 179 (8 * m + p) = B := by rw [o2.ks 179 (by omega)]; exact hB
    obtain ⟨f3, h3, th, t3, e3, e4, o3, b4, F3, S3⟩ := jA (gg := gg) (m_ok_refl o2 10) hh s2 F2 hD hm hp8 n2 f2' hB2 hb1 vo (by omega)
    have o4 := m_ok_trans (m_ok_trans (m_ok_refl o D) o2 (by omega)) o3 (Nat.le_refl D)
    have P := fun d Q => c78_pre (d := d) (Q := Q) hh hD hm hp8 a6 a1 hn
    simp only [hop, hA, hB] at P
    have CL : ∀ (e : Nat) (Q : mQ), 3 * n + 7 ≤ e → m_E e 28 [.inr (some 0), .inl 3, .inl (nI m'), .inl B, .inl (nI D)] (m_SH, f, g) Q = Q (some (.inl th)) (m_SH, f3, g2) := by
      intro e Q he
      obtain ⟨e', rfl⟩ : ∃ e', e = e' + 5 := ⟨e - 5, by omega⟩
      have hg := o.go
      have K := fun Q => e1 (e' + 3) Q (by omega)
      simp only [↓e28, ↓r28_0, ↓r28_1, ↓r28_4, ↓r28_6, ↓r28_7, ↓r28_9, ↓r28_10, ↓r28_48, ↓r28_49, ↓r28_50, ↓r28_52, ↓r28_55, ↓r28_56, ↓r28_57, ↓r28_58, ↓r28_59, ↓r28_61, ↓r28_64, ↓r28_65, ↓r28_66, ↓r28_67, ↓r28_68, ↓r28_70, ↓r28_73, ↓r28_74, ↓r28_75, ↓r28_76, ↓r28_77, ↓r28_79, ↓r28_82, ↓r28_83, ↓r28_84, ↓r28_85, ↓r28_87, ↓r28_88, ↓r28_91, ↓r28_92, ↓r28_93, ↓r28_95, ↓r28_98n, ↓r28_98s, ↓r28_101, ↓r28_103, ↓r28_106, ↓r28_107, ↓r28_108, ↓r28_109, ↓r28_112, ↓r28_113, ↓r28_116, ↓r28_117, ↓r28_120, ↓r28_121, kC0, lC0, kC1, lC1, kC2, lC2, kC3, lC3, kC4, lC4, kC5, lC5, kC166, lC166, kC167, lC167, kC168, lC168, kC169, lC169, gC0_0 hg, gC0_1 hg, gC0_3 hg, gC0_4 hg, gC0_5 hg, gC0_6 hg, gC1_0 hg, gC166_0 hg, gC166_1 hg, gA5 hg hD, kB6 hD, lB6 hD, vp_in_nI (show D < 10 by omega) (show 10 < 2 ^ 31 by decide), nI_clamp (show D < 2 ^ 31 by omega), if_true, if_false, true_or, or_true, eq_self, m_10, Option.toList, List.cons_append, List.nil_append, List.length_nil, List.length_cons, Nat.zero_le, m_l1, m_l2, m_l3, m_l4, m_l5, m_l6, show ((3 : Int32) = 0) = False from eq_false (by decide), show ((3 : Int32) = 1) = False from eq_false (by decide), show ((3 : Int32) = 2) = False from eq_false (by decide), show ((3 : Int32) = 4) = False from eq_false (by decide), show ((3 : Int32) = 5) = False from eq_false (by decide), show ((3 : Int32) = 6) = False from eq_false (by decide), show ((3 : Int32) ≤ 3) = True from eq_true (by decide), show ((3 : Int32) ≤ 0) = False from eq_false (by decide), ↓e38, ↓r38_0, ↓r38_1, ↓r38_2, ↓r38_3, ↓r38_6, ↓r38_7, ↓r38_8, ↓r38_11, ↓r38_12, ↓r38_13, ↓r38_14, a4, nI_1, K]
      rw [e3]
      simp only [↓r28_0, ↓r28_1, ↓r28_4, ↓r28_6, ↓r28_7, ↓r28_9, ↓r28_10, ↓r28_48, ↓r28_49, ↓r28_50, ↓r28_52, ↓r28_55, ↓r28_56, ↓r28_57, ↓r28_58, ↓r28_59, ↓r28_61, ↓r28_64, ↓r28_65, ↓r28_66, ↓r28_67, ↓r28_68, ↓r28_70, ↓r28_73, ↓r28_74, ↓r28_75, ↓r28_76, ↓r28_77, ↓r28_79, ↓r28_82, ↓r28_83, ↓r28_84, ↓r28_85, ↓r28_87, ↓r28_88, ↓r28_91, ↓r28_92, ↓r28_93, ↓r28_95, ↓r28_98n, ↓r28_98s, ↓r28_101, ↓r28_103, ↓r28_106, ↓r28_107, ↓r28_108, ↓r28_109, ↓r28_112, ↓r28_113, ↓r28_116, ↓r28_117, ↓r28_120, ↓r28_121, Option.toList, List.cons_append, List.nil_append, List.length_nil, List.length_cons, Nat.zero_le]
    rcases alt with ⟨e5, e6⟩ | ⟨h1, k, e5, bk, lp⟩
    · refine ⟨f3, g2, h3, th, c', t3, 1, CL, c74_step hh hD hm hp hst8 a6 a1 hn hfl hst ?_, o4, F3, S3, b1, b2, by omega, by omega⟩
      intro d Q
      unfold m_rn at e4 e5
      have hg := hh
      simp only [P, ↓r78_45, ↓r78_47, ↓r78_48, ↓r78_51, ↓r78_52, ↓r78_53, ↓r78_56, ↓r78_58, ↓r78_60, ↓r78_63, ↓r78_64, ↓r78_66, ↓r78_69, kC170, lC170, kC171, lC171, kC172, lC172, kC173, lC173, kC174, lC174, kC175, lC175, kC176, lC176, kC177, lC177, kC178, lC178, kC179, lC179, kC180, lC180, kC181, lC181, kC182, lC182, kC183, lC183, kC184, lC184, kC185, lC185, kC186, lC186, kC187, lC187, kC188, lC188, kC189, lC189, kC190, lC190, kC191, lC191, kC192, lC192, kC193, lC193, kC194, lC194, kC195, lC195, kC196, lC196, kC197, lC197, kC198, lC198, kC199, lC199, kC200, lC200, gC170_1 hg, gC170_3 hg, gC170_4 hg, gC170_5 hg, gC170_6 hg, gC170_7 hg, gC170_8 hg, gC170_9 hg, gC170_10 hg, gC170_11 hg, gC170_12 hg, gC170_15 hg, gC170_16 hg, gC170_20 hg, gC170_21 hg, gC170_22 hg, gC170_23 hg, gC170_24 hg, gC170_25 hg, gC170_26 hg, gC170_27 hg, gC170_28 hg, gC170_29 hg, gC170_30 hg, gC170_31 hg, gC170_32 hg, gC170_33 hg, gC170_34 hg, gC170_35 hg, gC170_36 hg, if_true, if_false, true_or, or_true, eq_self, m_10, Option.toList, List.cons_append, List.nil_append, List.length_nil, List.length_cons, Nat.zero_le, m_l1, m_l2, m_l3, m_l4, m_l5, m_l6, vp_in_nI (show D < 10 by omega) (show 10 < 2 ^ 31 by decide), nI_clamp (show D < 2 ^ 31 by omega), show ((3 : Int32) = 0) = False from eq_false (by decide), show ((3 : Int32) = 1) = False from eq_false (by decide), show ((3 : Int32) = 2) = False from eq_false (by decide), show ((3 : Int32) = 4) = False from eq_false (by decide), show ((3 : Int32) = 5) = False from eq_false (by decide), show ((3 : Int32) = 6) = False from eq_false (by decide), show ((3 : Int32) ≤ 3) = True from eq_true (by decide), show ((3 : Int32) ≤ 0) = False from eq_false (by decide), e5, e6, e4]
    · refine ⟨f3, g2, h3, th, c', t3, 1 + k, CL, m_go74_tr (h2 := h1) (c74_step hh hD hm hp hst8 a6 a1 hn hfl hst ?_) (lp h3 (Or.inr ⟨by omega, e4⟩)), o4, F3, S3, b1, b2, by omega, by omega⟩
      intro d Q
      unfold m_rn at e5
      have hg := hh
      simp only [P, ↓r78_45, ↓r78_47, ↓r78_48, ↓r78_51, ↓r78_52, ↓r78_53, ↓r78_56, ↓r78_58, ↓r78_60, ↓r78_63, ↓r78_64, ↓r78_66, ↓r78_69, kC170, lC170, kC171, lC171, kC172, lC172, kC173, lC173, kC174, lC174, kC175, lC175, kC176, lC176, kC177, lC177, kC178, lC178, kC179, lC179, kC180, lC180, kC181, lC181, kC182, lC182, kC183, lC183, kC184, lC184, kC185, lC185, kC186, lC186, kC187, lC187, kC188, lC188, kC189, lC189, kC190, lC190, kC191, lC191, kC192, lC192, kC193, lC193, kC194, lC194, kC195, lC195, kC196, lC196, kC197, lC197, kC198, lC198, kC199, lC199, kC200, lC200, gC170_1 hg, gC170_3 hg, gC170_4 hg, gC170_5 hg, gC170_6 hg, gC170_7 hg, gC170_8 hg, gC170_9 hg, gC170_10 hg, gC170_11 hg, gC170_12 hg, gC170_15 hg, gC170_16 hg, gC170_20 hg, gC170_21 hg, gC170_22 hg, gC170_23 hg, gC170_24 hg, gC170_25 hg, gC170_26 hg, gC170_27 hg, gC170_28 hg, gC170_29 hg, gC170_30 hg, gC170_31 hg, gC170_32 hg, gC170_33 hg, gC170_34 hg, gC170_35 hg, gC170_36 hg, if_true, if_false, true_or, or_true, eq_self, m_10, Option.toList, List.cons_append, List.nil_append, List.length_nil, List.length_cons, Nat.zero_le, m_l1, m_l2, m_l3, m_l4, m_l5, m_l6, vp_in_nI (show D < 10 by omega) (show 10 < 2 ^ 31 by decide), nI_clamp (show D < 2 ^ 31 by omega), show ((3 : Int32) = 0) = False from eq_false (by decide), show ((3 : Int32) = 1) = False from eq_false (by decide), show ((3 : Int32) = 2) = False from eq_false (by decide), show ((3 : Int32) = 4) = False from eq_false (by decide), show ((3 : Int32) = 5) = False from eq_false (by decide), show ((3 : Int32) = 6) = False from eq_false (by decide), show ((3 : Int32) ≤ 3) = True from eq_true (by decide), show ((3 : Int32) ≤ 0) = False from eq_false (by decide), e5, m_m1]
  · exact leaf (j_raise o hh F hD hm hp8 hn hfl (by omega) h10 hx hop hA)
  · exact leaf (j_only o hh F hD hm hp8 hn hfl (by omega) h10 hop)
  · exact leaf (j_hook o hh F hD hm hp8 hn hfl (by omega) h10 hop hA hB)
