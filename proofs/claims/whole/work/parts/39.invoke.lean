/-! invoke, in the class and in the reference -/
theorem m_ok_mk {f h : mF} {g : mG} {c t : Nat} (re : m_re f h) (go : m_go_ g) (bo : ∀ n, (h 190 n = 0 ∨ h 190 n = 1) ∧ (h 192 n = 0 ∨ h 192 n = 1) ∧ (h 193 n = 0 ∨ h 193 n = 1) ∧ (h 197 n = 0 ∨ h 197 n = 1)) (hc : ∀ n, n < 10 → ∃ k, k ≤ 8 ∧ h 198 n = nI k) (ca : h 170 13 = nI c) (to : h 170 14 = nI t) : m_ok 10 f g h f g h c t := ⟨re, go, fun _ _ _ _ => rfl, fun _ _ _ => rfl, fun _ _ _ _ _ => rfl, fun _ _ => rfl, rfl, rfl, fun _ _ _ => rfl, fun _ _ => rfl, bo, hc, ca, to⟩
theorem m_fr_19 {D m : Nat} {cur : Option Nat} {wy hv v : Int32} {f h : mF} {g : mG} (F : m_fr D m cur wy hv f g h) : m_fr D m cur wy hv f g (m_si h 170 19 v) := by
  obtain ⟨a1, a2, a3, a4, a5, a6, a7, a8, a9⟩ := F
  refine ⟨(m_sn (by omega)).trans a1, ?_, ?_, a4, ?_, (m_sn (by omega)).trans a6, fun i hi => ?_, (m_sn (by omega)).trans a8, (m_sn (by omega)).trans a9⟩
  · rw [m_sn (by omega)]; exact a2
  · rw [m_sn (by omega)]; exact a3
  · rw [m_sn (by omega)]; exact a5
  · rw [m_sn (by omega)]; exact a7 i hi
theorem c20_pre {a P D m mo c t e : Nat} {Q : mQ} {f h : mF} {g : mG} {around : Option Nat} (o : m_ok 10 f g h f g h c t) (s : m_sf a P h) (hD : D < 10) (hmP : m < P) (hc : c < 60) (hmo : h 172 m = nI mo) : m_E (e + 8) 20 [.inr (some 0), .inl (nI m), .inr around, .inl (nI D)] (m_SH, f, g) Q = m_E (e + 7) 21 [.inr (some 0), .inr (some (12 + 16 * D)), .inl (nI mo), .inr around] (m_SH, (m_si f 0 7 (nI (c + 1))), g) (fun r w => m_R (m_E (e + 7)) 20 m_SH.length (m_sl m_SH) Q 60 [some (.inr (some 0)), some (.inl (nI m)), some (.inr around), some (.inl (nI D)), some (.inr (some (6 + 16 * m))), none, none, none] (r.toList ++ []) w) := by
  have hg := o.go
  have P10 : P ≤ 10 := s.2.2.2.2.2.1
  have hm : m < 10 := by omega
  have ca : f 0 7 = nI c := (xca o.re).trans o.ca
  have pn : f 0 2 = nI P := (xpn o.re).trans s.2.2.2.2.1
  have q0 : m_si f 0 7 (nI (c + 1)) (6 + 16 * m) 0 = nI mo := by rw [m_sn (by omega), xmd o.re hm]; exact hmo
  have y1 : ((60 : Int32) ≤ nI c) = False := eq_false (nI_ge (a := c) (b := 60) hc (by decide))
  have y2 : ((10 : Int32) ≤ nI D) = False := eq_false (nI_ge (a := D) (b := 10) hD (by decide))
  have y3 : (nI P ≤ nI m) = False := ((n_le (a := P) (b := m) (by omega) (by omega)).trans (eq_false (by omega)))
  simp only [↓e20, ↓r20_0, ↓r20_1, ↓r20_4, ↓r20_6, ↓r20_9, ↓r20_10, ↓r20_12, ↓r20_15, ↓r20_16, ↓r20_17, ↓r20_20, ↓r20_23, ↓r20_25, ↓r20_26, ↓r20_27, ↓r20_28, ↓r20_31, ↓r20_32, ↓r20_33, ↓r20_36, ↓r20_37, ↓r20_40, ↓r20_41, ↓r20_42, ↓r20_44, ↓r20_45, ↓r20_46, ↓r20_49, ↓r20_50, ↓r20_51, ↓r20_53, ↓r20_56, ↓r20_57, kC0, lC0, kC1, lC1, kC2, lC2, kC3, lC3, kC4, lC4, kC5, lC5, kC166, lC166, kC167, lC167, kC168, lC168, kC169, lC169, gC0_0 hg, gC0_1 hg, gC0_3 hg, gC0_4 hg, gC0_5 hg, gC0_6 hg, gC1_0 hg, gC166_0 hg, gC166_1 hg, if_true, if_false, true_or, or_true, eq_self, m_10, gA5 hg hD, kB6 hD, lB6 hD, vp_in_nI (show D < 10 by omega) (show 10 < 2 ^ 31 by decide), nI_clamp (show D < 2 ^ 31 by omega), m_l1, m_l2, m_l3, m_l4, m_l5, m_l6, List.length_nil, List.length_cons, Nat.zero_le, Option.toList, List.cons_append, List.nil_append, ca, pn, c12o, y1, y2, y3, n_neg (show m < 2 ^ 31 by omega), nI_1, gA3 hg hm, kB0 hm, lB0 hm, vp_in_nI (show m < 10 by omega) (show 10 < 2 ^ 31 by decide), nI_clamp (show m < 2 ^ 31 by omega), q0]
theorem jI {a P m c t : Nat} {f h : mF} {g gg : mG} (o : m_ok 10 f g h f g h c t) (s : m_sf a P h) (hh : m_go_ gg) (hmP : m < P) : ∃ f2 g2 h2 out c' t', (∀ (d : Nat) (Q : mQ), m_E (d + 40) 18 [.inr (some 0), .inl (nI m)] (m_SH, f, g) Q = Q (some (.inl out)) (m_SH, f2, g2)) ∧ (∀ (d : Nat) (Q : mQ), m_E (d + 40) 74 [.inr (some 170), .inl (nI m)] (m_SH, h, gg) Q = Q (some (.inl out)) (m_SH, h2, gg)) ∧ m_ok 0 f g h f2 g2 h2 c' t' ∧ c' ≤ 60 := by
  have hg := o.go
  have P10 : P ≤ 10 := s.2.2.2.2.2.1
  have hm : m < 10 := by omega
  have A := m_ok_170 (c' := 0) (t' := 0) (v := 0) (m_ok_170 (c' := c) (t' := 0) (v := 0) (m_ok_refl o 0) (Or.inr ⟨rfl, rfl, rfl, rfl, rfl⟩)) (Or.inl ⟨rfl, rfl, rfl, rfl, rfl⟩)
  rw [m_sc (f := h) (by omega)] at A
  have B := m_ok_m0 (m_ok_m0 A (j := 17) (v := -1) (by decide) (by decide)) (j := 18) (v := -1) (by decide) (by decide)
  have s0 := m_sf_keep B s
  obtain ⟨⟨mo, hmo6, hmo⟩, _, st, hst8, hst, _⟩ := s0.2.2.2.2.2.2.1 m hm
  have B17 : (m_si (m_si (m_si (m_si h 170 13 0) 170 14 0) 170 17 (-1)) 170 18 (-1)) 170 17 = -1 := by rw [m_sn (by omega)]; exact m_se
  have B18 : (m_si (m_si (m_si (m_si h 170 13 0) 170 14 0) 170 17 (-1)) 170 18 (-1)) 170 18 = -1 := m_se
  have pn : f 0 2 = nI P := (xpn o.re).trans s.2.2.2.2.1
  have pm : h 170 2 = nI P := s.2.2.2.2.1
  have y3 : (nI P ≤ nI m) = False := ((n_le (a := P) (b := m) (by omega) (by omega)).trans (eq_false (by omega)))
  have PRE := fun e Q => c20_pre (D := 0) (e := e) (Q := Q) (around := none) (m_ok_refl B 10) s0 (by decide) hmP (by decide) hmo
  have CP : ∀ (d : Nat) (Q : mQ), m_E (d + 40) 18 [.inr (some 0), .inl (nI m)] (m_SH, f, g) Q = m_E (d + 39) 20 [.inr (some 0), .inl (nI m), .inr none, .inl (nI 0)] (m_SH, (m_si (m_si f 166 2 0) 0 7 0), g) (fun r w => m_R (m_E (d + 39)) 18 m_SH.length (m_sl m_SH) Q 29 [some (.inr (some 0)), some (.inl (nI m))] (r.toList ++ []) w) := by
    intro d Q
    simp only [↓e18, ↓r18_0, ↓r18_1, ↓r18_2, ↓r18_5, ↓r18_8, ↓r18_9, ↓r18_10, ↓r18_11, ↓r18_14, ↓r18_17, ↓r18_18, ↓r18_19, ↓r18_22, ↓r18_23, ↓r18_24, ↓r18_25, ↓r18_26, kC0, lC0, kC1, lC1, kC2, lC2, kC3, lC3, kC4, lC4, kC5, lC5, kC166, lC166, kC167, lC167, kC168, lC168, kC169, lC169, gC0_0 hg, gC0_1 hg, gC0_3 hg, gC0_4 hg, gC0_5 hg, gC0_6 hg, gC1_0 hg, gC166_0 hg, gC166_1 hg, if_true, if_false, true_or, or_true, eq_self, m_10, m_l1, m_l2, m_l3, m_l4, m_l5, m_l6, List.length_nil, List.length_cons, Nat.zero_le, Option.toList, List.cons_append, List.nil_append, c12o, pn, y3, n_neg (show m < 2 ^ 31 by omega), c19, show nI 0 = 0 from rfl]
  have MP : ∀ (d : Nat) (Q : mQ), m_E (d + 40) 74 [.inr (some 170), .inl (nI m)] (m_SH, h, gg) Q = m_E (d + 39) 75 [.inr (some 170), .inl (nI m)] (m_SH, (m_si (m_si (m_si (m_si h 170 13 0) 170 14 0) 170 17 (-1)) 170 18 (-1)), gg) (fun r w => m_R (m_E (d + 39)) 74 m_SH.length (m_sl m_SH) Q 36 [some (.inr (some 170)), some (.inl (nI m)), none] (r.toList ++ [.inr (some 170)]) w) := by
    intro d Q
    simp only [↓e74, ↓r74_0, ↓r74_1, ↓r74_2, ↓r74_5, ↓r74_8, ↓r74_9, ↓r74_10, ↓r74_11, ↓r74_12, ↓r74_15, ↓r74_16, ↓r74_17, ↓r74_20, ↓r74_21, ↓r74_22, ↓r74_25, ↓r74_26, ↓r74_27, ↓r74_30, ↓r74_31, ↓r74_32, ↓r74_33, kC170, lC170, kC171, lC171, kC172, lC172, kC173, lC173, kC174, lC174, kC175, lC175, kC176, lC176, kC177, lC177, kC178, lC178, kC179, lC179, kC180, lC180, kC181, lC181, kC182, lC182, kC183, lC183, kC184, lC184, kC185, lC185, kC186, lC186, kC187, lC187, kC188, lC188, kC189, lC189, kC190, lC190, kC191, lC191, kC192, lC192, kC193, lC193, kC194, lC194, kC195, lC195, kC196, lC196, kC197, lC197, kC198, lC198, kC199, lC199, kC200, lC200, if_true, if_false, true_or, or_true, eq_self, m_10, m_l1, m_l2, m_l3, m_l4, m_l5, m_l6, List.length_nil, List.length_cons, Nat.zero_le, Option.toList, List.cons_append, List.nil_append, c67o, pm, y3, n_neg (show m < 2 ^ 31 by omega)]
  rcases jE (gg := gg) (m_ok_refl B 10) hh (by decide) hm (by decide) hmo hmo6 (by rw [B17]; rfl) (Or.inl ⟨rfl, B18⟩) (fun i hi => absurd hi (Nat.not_lt_zero i)) with ⟨f2, g2, h2, r, hr, e1, e2, o2, w1, w2⟩ | ⟨f2, g2, h2, cur, wy, hv, e1, e2, o2, F, n1, n2, E⟩
  · refine ⟨f2, g2, m_si h2 170 19 (nI r), nI r + 1, 0 + 1, 0, fun d Q => ?_, fun d Q => ?_, m_ok_m0 (m_ok_trans B o2 (by omega)) (by decide) (by decide), by omega⟩
    · unfold m_rn at e1
      rw [CP d Q, PRE (d + 31) _]
      simp only [e1, ↓r20_60, ↓r20_62, ↓r20_64, ↓r20_65, ↓r20_68, ↓r20_70, ↓r18_29, ↓r18_30, ↓r18_31, Option.toList, List.cons_append, List.nil_append, List.length_nil, List.length_cons, Nat.zero_le, if_true, if_false, true_or, or_true, eq_self, m_10, m_int1 (show r < 2 ^ 31 by omega)]
    · unfold m_rn at e2
      rw [MP d Q]
      have z1 : m_si h2 170 19 (nI r) 170 17 = -1 := by rw [m_sn (by omega), w1]; exact B17
      simp only [e2, ↓r74_36, ↓r74_39, ↓r74_40, ↓r74_41, ↓r74_42, ↓r74_45, ↓r74_48, ↓r74_49, ↓r74_52, ↓r74_110, ↓r74_111, ↓r74_114, ↓r74_115, ↓r74_116, kC170, lC170, kC171, lC171, kC172, lC172, kC173, lC173, kC174, lC174, kC175, lC175, kC176, lC176, kC177, lC177, kC178, lC178, kC179, lC179, kC180, lC180, kC181, lC181, kC182, lC182, kC183, lC183, kC184, lC184, kC185, lC185, kC186, lC186, kC187, lC187, kC188, lC188, kC189, lC189, kC190, lC190, kC191, lC191, kC192, lC192, kC193, lC193, kC194, lC194, kC195, lC195, kC196, lC196, kC197, lC197, kC198, lC198, kC199, lC199, kC200, lC200, gC170_1 hg, gC170_3 hg, gC170_4 hg, gC170_5 hg, gC170_6 hg, gC170_7 hg, gC170_8 hg, gC170_9 hg, gC170_10 hg, gC170_11 hg, gC170_12 hg, gC170_15 hg, gC170_16 hg, gC170_20 hg, gC170_21 hg, gC170_22 hg, gC170_23 hg, gC170_24 hg, gC170_25 hg, gC170_26 hg, gC170_27 hg, gC170_28 hg, gC170_29 hg, gC170_30 hg, gC170_31 hg, gC170_32 hg, gC170_33 hg, gC170_34 hg, gC170_35 hg, gC170_36 hg, if_true, if_false, true_or, or_true, eq_self, m_10, Option.toList, List.cons_append, List.nil_append, List.length_nil, List.length_cons, Nat.zero_le, m_l1, m_l2, m_l3, m_l4, m_l5, m_l6, z1, m_m1, m_se, show ((2000 : Int32) ≤ 0) = False from eq_false (by decide)]
  · have oS := m_ok_m0 o2 (j := 19) (v := -1) (by decide) (by decide)
    have hst2 : m_si h2 170 19 (-1) 176 m = nI st := by rw [oS.ks 176 (by omega)]; exact hst
    obtain ⟨f3, g3, h3, out, c3, t3, k3, e3, lp3, o3, w1, w2, b5, b6, b7, b8, vo⟩ := jL (around := none) (x0 := (m_si (m_si (m_si (m_si h 170 13 0) 170 14 0) 170 17 (-1)) 170 18 (-1)) 170 18) (jC (a := a) (P := P) 10) hh (show m ≤ 10 by omega) (show 0 + m ≤ 9 by omega) hmP hst8 st 0 (0 + 1) 0 f2 (m_si h2 170 19 (-1)) g2 cur wy hv (by omega) (m_ok_refl oS 10) (m_sf_keep oS s0) (m_fr_19 F) E hst2 ((m_sn (by omega)).trans n1) ((m_sn (by omega)).trans n2) (by omega) (by omega)
    refine ⟨f3, g3, m_si h3 170 19 out, out + 1, c3, t3, fun d Q => ?_, fun d Q => ?_, m_ok_m0 (m_ok_trans B (m_ok_trans oS o3 (by omega)) (by omega)) (by decide) (by decide), b6⟩
    · unfold m_rn at e1
      rw [CP d Q, PRE (d + 31) _]
      simp only [e1, ↓r20_60, ↓r20_62, ↓r20_64, ↓r20_65, ↓r20_68, ↓r20_70, ↓r20_71, ↓r20_72, ↓r20_74, ↓r20_75, Option.toList, List.cons_append, List.nil_append, List.length_nil, List.length_cons, Nat.zero_le, if_true, if_false, true_or, or_true, eq_self, m_10]
      refine (e3 (d + 38) _ _ (by omega)).trans ?_
      simp only [↓r18_29, ↓r18_30, ↓r18_31, Option.toList, List.cons_append, List.nil_append, List.length_nil, List.length_cons, Nat.zero_le]
    · unfold m_rn at e2
      rw [MP d Q]
      simp only [e2, ↓r74_36, ↓r74_39, ↓r74_40, kC170, lC170, kC171, lC171, kC172, lC172, kC173, lC173, kC174, lC174, kC175, lC175, kC176, lC176, kC177, lC177, kC178, lC178, kC179, lC179, kC180, lC180, kC181, lC181, kC182, lC182, kC183, lC183, kC184, lC184, kC185, lC185, kC186, lC186, kC187, lC187, kC188, lC188, kC189, lC189, kC190, lC190, kC191, lC191, kC192, lC192, kC193, lC193, kC194, lC194, kC195, lC195, kC196, lC196, kC197, lC197, kC198, lC198, kC199, lC199, kC200, lC200, gC170_1 hg, gC170_3 hg, gC170_4 hg, gC170_5 hg, gC170_6 hg, gC170_7 hg, gC170_8 hg, gC170_9 hg, gC170_10 hg, gC170_11 hg, gC170_12 hg, gC170_15 hg, gC170_16 hg, gC170_20 hg, gC170_21 hg, gC170_22 hg, gC170_23 hg, gC170_24 hg, gC170_25 hg, gC170_26 hg, gC170_27 hg, gC170_28 hg, gC170_29 hg, gC170_30 hg, gC170_31 hg, gC170_32 hg, gC170_33 hg, gC170_34 hg, gC170_35 hg, gC170_36 hg, if_true, if_false, true_or, or_true, eq_self, m_10, Option.toList, List.cons_append, List.nil_append, List.length_nil, List.length_cons, Nat.zero_le, m_l1, m_l2, m_l3, m_l4, m_l5, m_l6]
      refine (lp3 _ (Or.inl ⟨rfl, rfl⟩) (d + 33) Q _ 0 (by omega)).trans ?_
      have z1 : m_si h3 170 19 out 170 17 = -1 := by rw [m_sn (by omega), w1]; rfl
      have y1 : ((2000 : Int32) ≤ nI (0 + k3)) = False := eq_false (nI_ge (a := 0 + k3) (b := 2000) (by omega) (by decide))
      simp only [↓r74_41, ↓r74_42, ↓r74_45, ↓r74_48, ↓r74_49, ↓r74_52, ↓r74_110, ↓r74_111, ↓r74_114, ↓r74_115, ↓r74_116, kC170, lC170, kC171, lC171, kC172, lC172, kC173, lC173, kC174, lC174, kC175, lC175, kC176, lC176, kC177, lC177, kC178, lC178, kC179, lC179, kC180, lC180, kC181, lC181, kC182, lC182, kC183, lC183, kC184, lC184, kC185, lC185, kC186, lC186, kC187, lC187, kC188, lC188, kC189, lC189, kC190, lC190, kC191, lC191, kC192, lC192, kC193, lC193, kC194, lC194, kC195, lC195, kC196, lC196, kC197, lC197, kC198, lC198, kC199, lC199, kC200, lC200, gC170_1 hg, gC170_3 hg, gC170_4 hg, gC170_5 hg, gC170_6 hg, gC170_7 hg, gC170_8 hg, gC170_9 hg, gC170_10 hg, gC170_11 hg, gC170_12 hg, gC170_15 hg, gC170_16 hg, gC170_20 hg, gC170_21 hg, gC170_22 hg, gC170_23 hg, gC170_24 hg, gC170_25 hg, gC170_26 hg, gC170_27 hg, gC170_28 hg, gC170_29 hg, gC170_30 hg, gC170_31 hg, gC170_32 hg, gC170_33 hg, gC170_34 hg, gC170_35 hg, gC170_36 hg, if_true, if_false, true_or, or_true, eq_self, m_10, Option.toList, List.cons_append, List.nil_append, List.length_nil, List.length_cons, Nat.zero_le, m_l1, m_l2, m_l3, m_l4, m_l5, m_l6, z1, y1, m_m1, m_se]
theorem jIx {a P c t : Nat} {f h : mF} {g gg : mG} (o : m_ok 10 f g h f g h c t) (s : m_sf a P h) (hc : c ≤ 60) (hh : m_go_ gg) (x : Int32) : ∃ f2 g2 h2 out c' t', (∀ (d : Nat) (Q : mQ), m_E (d + 40) 18 [.inr (some 0), .inl x] (m_SH, f, g) Q = Q (some (.inl out)) (m_SH, f2, g2)) ∧ (∀ (d : Nat) (Q : mQ), m_E (d + 40) 74 [.inr (some 170), .inl x] (m_SH, h, gg) Q = Q (some (.inl out)) (m_SH, h2, gg)) ∧ m_ok 0 f g h f2 g2 h2 c' t' ∧ c' ≤ 60 := by
  have P10 : P ≤ 10 := s.2.2.2.2.2.1
  have pn : f 0 2 = nI P := (xpn o.re).trans s.2.2.2.2.1
  have pm : h 170 2 = nI P := s.2.2.2.2.1
  by_cases h0 : x < 0
  · refine ⟨f, g, h, -1, c, t, fun d Q => ?_, fun d Q => ?_, m_ok_refl o 0, hc⟩
    · simp only [↓e18, ↓r18_0, ↓r18_1, ↓r18_2, ↓r18_5, ↓r18_8, ↓r18_9, kC0, lC0, kC1, lC1, kC2, lC2, kC3, lC3, kC4, lC4, kC5, lC5, kC166, lC166, kC167, lC167, kC168, lC168, kC169, lC169, if_true, if_false, true_or, or_true, eq_self, m_10, m_l1, m_l2, m_l3, m_l4, m_l5, m_l6, Option.toList, List.cons_append, List.nil_append, List.length_nil, List.length_cons, Nat.zero_le, c12o, h0]
    · simp only [↓e74, ↓r74_0, ↓r74_1, ↓r74_2, ↓r74_5, ↓r74_8, ↓r74_9, kC170, lC170, kC171, lC171, kC172, lC172, kC173, lC173, kC174, lC174, kC175, lC175, kC176, lC176, kC177, lC177, kC178, lC178, kC179, lC179, kC180, lC180, kC181, lC181, kC182, lC182, kC183, lC183, kC184, lC184, kC185, lC185, kC186, lC186, kC187, lC187, kC188, lC188, kC189, lC189, kC190, lC190, kC191, lC191, kC192, lC192, kC193, lC193, kC194, lC194, kC195, lC195, kC196, lC196, kC197, lC197, kC198, lC198, kC199, lC199, kC200, lC200, if_true, if_false, true_or, or_true, eq_self, m_10, m_l1, m_l2, m_l3, m_l4, m_l5, m_l6, Option.toList, List.cons_append, List.nil_append, List.length_nil, List.length_cons, Nat.zero_le, c67o, h0]
  by_cases h1 : nI P ≤ x
  · refine ⟨f, g, h, -1, c, t, fun d Q => ?_, fun d Q => ?_, m_ok_refl o 0, hc⟩
    · simp only [↓e18, ↓r18_0, ↓r18_1, ↓r18_2, ↓r18_5, ↓r18_8, ↓r18_9, kC0, lC0, kC1, lC1, kC2, lC2, kC3, lC3, kC4, lC4, kC5, lC5, kC166, lC166, kC167, lC167, kC168, lC168, kC169, lC169, if_true, if_false, true_or, or_true, eq_self, m_10, m_l1, m_l2, m_l3, m_l4, m_l5, m_l6, Option.toList, List.cons_append, List.nil_append, List.length_nil, List.length_cons, Nat.zero_le, c12o, h0, h1, pn]
    · simp only [↓e74, ↓r74_0, ↓r74_1, ↓r74_2, ↓r74_5, ↓r74_8, ↓r74_9, kC170, lC170, kC171, lC171, kC172, lC172, kC173, lC173, kC174, lC174, kC175, lC175, kC176, lC176, kC177, lC177, kC178, lC178, kC179, lC179, kC180, lC180, kC181, lC181, kC182, lC182, kC183, lC183, kC184, lC184, kC185, lC185, kC186, lC186, kC187, lC187, kC188, lC188, kC189, lC189, kC190, lC190, kC191, lC191, kC192, lC192, kC193, lC193, kC194, lC194, kC195, lC195, kC196, lC196, kC197, lC197, kC198, lC198, kC199, lC199, kC200, lC200, if_true, if_false, true_or, or_true, eq_self, m_10, m_l1, m_l2, m_l3, m_l4, m_l5, m_l6, Option.toList, List.cons_append, List.nil_append, List.length_nil, List.length_cons, Nat.zero_le, c67o, h0, h1, pm]
  obtain ⟨m, hm, rfl⟩ := vp_in_of (m_in h0 h1 (Nat.le_refl P) (by omega)) (by omega)
  exact jI o s hh hm
/-- what holds between two calls of the law -/
def m_lr (a P c t : Nat) (f : mF) (g : mG) : Prop := m_ok 10 f g f f g f c t ∧ m_sf a P f ∧ c ≤ 60
theorem m_lr_inv {a P c t : Nat} {f : mF} {g : mG} (L : m_lr a P c t f g) (x : Int32) : ∃ f1 g1 f2 out c' t', (∀ (d : Nat) (Q : mQ), m_E (d + 40) 18 [.inr (some 0), .inl x] (m_SH, f, g) Q = Q (some (.inl out)) (m_SH, f1, g1)) ∧ (∀ (d : Nat) (Q : mQ), m_E (d + 40) 74 [.inr (some 170), .inl x] (m_SH, f1, g1) Q = Q (some (.inl out)) (m_SH, f2, g1)) ∧ m_lr a P c' t' f2 g1 ∧ (∀ k, 201 ≤ k → f1 k = f k) ∧ ∀ k, 201 ≤ k → f2 k = f k := by
  obtain ⟨o, s, hc⟩ := L
  obtain ⟨f1, g1, h1, out, c1, t1, e1, e2, o1, b1⟩ := jIx o s hc o.go x
  have hi := o1.hi
  have re1 : m_re f f1 := fun c n hd => by
    rw [hi c (m_dm_lt hd).2.2]
    exact o.re c n hd
  have bo1 := o.bo
  have hc1 := o.hc
  have ca1 := o.ca
  have to1 := o.to
  rw [← hi 190 (by decide), ← hi 192 (by decide), ← hi 193 (by decide), ← hi 197 (by decide)] at bo1
  rw [← hi 198 (by decide)] at hc1
  rw [← hi 170 (by decide)] at ca1 to1
  have s1 : m_sf a P f1 := by
    unfold m_sf
    rw [hi 170 (by decide), hi 171 (by decide), hi 172 (by decide), hi 173 (by decide), hi 175 (by decide), hi 176 (by decide), hi 177 (by decide), hi 178 (by decide), hi 179 (by decide)]
    exact s
  have oo := m_ok_mk re1 o.go bo1 hc1 ca1 to1
  obtain ⟨f1', g1', h2, out', c2, t2, e3, e4, o2, b2⟩ := jIx oo s1 hc o1.go x
  have dt := e3 0 (fun r w => r = some (.inl out) ∧ w = (m_SH, f1, g1))
  rw [e1 0 (fun r w => r = some (.inl out) ∧ w = (m_SH, f1, g1))] at dt
  have dt2 := dt.mp ⟨rfl, rfl⟩
  obtain rfl : out' = out := Sum.inl.inj (Option.some.inj dt2.1)
  have dt3 := (Prod.mk.inj (Prod.mk.inj dt2.2).2)
  obtain rfl : f1' = f1 := dt3.1
  obtain rfl : g1' = g1 := dt3.2
  refine ⟨f1', g1', h2, out', c2, t2, e1, e4, ⟨m_ok_mk (fun c n hd => ?_) o2.go o2.bo o2.hc o2.ca o2.to, m_sf_keep o2 s1, b2⟩, fun k hk => hi k (by omega), fun k hk => ?_⟩
  · have k1 := m_mk2 hd
    rw [o2.ks _ (Or.inl ⟨by omega, by omega⟩)]
    exact o2.re c n hd
  · rw [o2.ks k (Or.inr hk)]
    exact hi k (by omega)
