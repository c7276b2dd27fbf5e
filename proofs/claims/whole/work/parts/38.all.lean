/-! a call's steps, one after another; all calls -/
theorem jX {a P D m p st c t : Nat} {f h : mF} {g gg : mG} {cur around : Option Nat} {wy hv x0 th : Int32} (o : m_ok 10 f g h f g h c t) (hh : m_go_ gg) (s : m_sf a P h) (F : m_fr D m cur wy hv f g h) (E : m_en x0 D cur wy hv) (hD : D < 10) (hm : m < 10) (hst8 : st ≤ 8) (hp8 : p ≤ 8) (hst : h 176 m = nI st) (hfl : h 186 D = th) (hth : th = -1 ∨ ∃ x, x < a ∧ th = nI x) (hx : ¬ th < 0 ∨ (th = -1 ∧ st ≤ p ∧ h 185 D = nI p)) (ht : t + 40 < 1000000) : ∃ f2 h2 out t', (∀ (e : Nat) (Q : mQ) (l5 l7 : Option mV), 7 ≤ e → m_R (m_E e) 20 m_SH.length (m_sl m_SH) Q 130 [some (.inr (some 0)), some (.inl (nI m)), some (.inr around), some (.inl (nI D)), some (.inr (some (6 + 16 * m))), l5, some (.inl th), l7] [] (m_SH, f, g) = Q (some (.inl out)) (m_SH, f2, g)) ∧ m_lp D gg h h2 out 1 ∧ m_ok D f g h f2 g h2 c t' ∧ t' ≤ t + 33 ∧ h2 170 17 = nI D - 1 ∧ h2 170 18 = x0 ∧ (out = -1 ∨ ∃ x, x < a ∧ out = nI x) := by
  obtain ⟨f2, h2, out, l, t', e1, e2, o2, b2, w1, w2, vo⟩ := jF (gg := gg) o hh s F E hD hm hfl hth ht
  obtain ⟨a1, a2, a3, a4, a5, a6, a7, a8, a9⟩ := id F
  refine ⟨f2, h2, out, t', fun e Q l5 l7 he => ?_, fun h3 har => c74_fin (p := p) hh hD hm hst8 hp8 a6 a1 hfl hst hx (fun d Q => (e2 d Q).trans (c86_end hD w1 har)), o2, b2, w1, w2, vo⟩
  obtain ⟨e', rfl⟩ : ∃ e', e = e' + 7 := ⟨e - 7, by omega⟩
  have hg := o.go
  unfold m_rn at e1
  simp only [↓r20_130, ↓r20_131, ↓r20_132, ↓r20_135, ↓r20_136, ↓r20_137, ↓r20_139, ↓r20_141, ↓r20_144, kC0, lC0, kC1, lC1, kC2, lC2, kC3, lC3, kC4, lC4, kC5, lC5, kC166, lC166, kC167, lC167, kC168, lC168, kC169, lC169, gC0_0 hg, gC0_1 hg, gC0_3 hg, gC0_4 hg, gC0_5 hg, gC0_6 hg, gC1_0 hg, gC166_0 hg, gC166_1 hg, gA5 hg hD, kB6 hD, lB6 hD, vp_in_nI (show D < 10 by omega) (show 10 < 2 ^ 31 by decide), nI_clamp (show D < 2 ^ 31 by omega), if_true, if_false, true_or, or_true, eq_self, m_10, Option.toList, List.cons_append, List.nil_append, List.length_nil, List.length_cons, Nat.zero_le, m_l1, m_l2, m_l3, m_l4, m_l5, m_l6, e1]
theorem jL {n a P D m st : Nat} {gg : mG} {around : Option Nat} {x0 : Int32} (IH : m_pc n a P) (hh : m_go_ gg) (hmn : m ≤ n) (hDm : D + m ≤ 9) (hmP : m < P) (hst8 : st ≤ 8) : ∀ (r p c t : Nat) (f h : mF) (g : mG) (cur : Option Nat) (wy hv : Int32), p + r = st → m_ok 10 f g h f g h c t → m_sf a P h → m_fr D m cur wy hv f g h → m_en x0 D cur wy hv → h 176 m = nI st → h 185 D = nI p → h 186 D = -1 → c ≤ 60 → t + r + 50 * (60 - c) ≤ 500000 → ∃ f2 g2 h2 out c' t' k, (∀ (e : Nat) (Q : mQ) (l5 : Option mV), 3 * n + 7 ≤ e → m_R (m_E e) 20 m_SH.length (m_sl m_SH) Q 77 [some (.inr (some 0)), some (.inl (nI m)), some (.inr around), some (.inl (nI D)), some (.inr (some (6 + 16 * m))), l5, some (.inl (-1)), some (.inl (nI p))] [] (m_SH, f, g) = Q (some (.inl out)) (m_SH, f2, g2)) ∧ m_lp D gg h h2 out k ∧ m_ok D f g h f2 g2 h2 c' t' ∧ h2 170 17 = nI D - 1 ∧ h2 170 18 = x0 ∧ c ≤ c' ∧ c' ≤ 60 ∧ k ≤ r + 1 + 9 * (c' - c) ∧ t' ≤ t + r + 33 + 41 * (c' - c) ∧ (out = -1 ∨ ∃ x, x < a ∧ out = nI x) := by
  have hD : D < 10 := by omega
  have hm : m < 10 := by omega
  intro r
  induction r with
  | zero =>
    intro p c t f h g cur wy hv hpr o s F E hst hn hfl hc ht
    obtain ⟨f2, h2, out, t', e1, lp, o2, b2, w1, w2, vo⟩ := jX (gg := gg) (p := p) (around := around) o hh s F E hD hm hst8 (by omega) hst hfl (Or.inl rfl) (Or.inr ⟨rfl, by omega, hn⟩) (by omega)
    refine ⟨f2, g, h2, out, c, t', 1, fun e Q l5 he => ?_, lp, o2, w1, w2, Nat.le_refl c, hc, by omega, by omega, vo⟩
    have q1 : f (6 + 16 * m) 7 = nI st := (xsc o.re hm).trans hst
    have y1 : (nI st ≤ nI p) = True := ((n_le (a := st) (b := p) (by omega) (by omega)).trans (eq_true (by omega)))
    rw [← e1 e Q l5 (some (.inl (nI p))) (by omega)]
    simp only [↓r20_77, ↓r20_79, ↓r20_81, ↓r20_84, kB0 hm, lB0 hm, q1, y1, if_true]
  | succ r ih =>
    intro p c t f h g cur wy hv hpr o s F E hst hn hfl hc ht
    have hg := o.go
    have hp : p < st := by omega
    obtain ⟨s', hs8, hs', hfit⟩ := (s.2.2.2.2.2.2.1 m hm).2.2
    obtain rfl : s' = st := (nI_eq (by omega) (by omega)).mp (hs'.symm.trans hst)
    obtain ⟨f2, g2, h2, th, c', t', k, e1, gk, o2, F2, S2, b1, b2, b3, b4⟩ := jS (op := h 177 (8 * m + p)) (A := h 178 (8 * m + p)) (B := h 179 (8 * m + p)) IH o hh s F hmn hDm hmP hc (by omega) s' hst8 hst hp hn hfl rfl rfl rfl (hfit p hp)
    have q1 : f (6 + 16 * m) 7 = nI s' := (xsc o.re hm).trans hst
    have q2 := xop o.re hm (show p < 8 by omega)
    have q3 := xsa o.re hm (show p < 8 by omega)
    have q4 := xsb o.re hm (show p < 8 by omega)
    have y1 : (nI s' ≤ nI p) = False := ((n_le (a := s') (b := p) (by omega) (by omega)).trans (eq_false (by omega)))
    have s2 := m_sf_keep o2 s
    have hst2 : h2 176 m = nI s' := by rw [o2.ks 176 (by omega)]; exact hst
    have X : ∀ (e : Nat) (Q : mQ) (l5 : Option mV), 3 * n + 7 ≤ e → m_R (m_E e) 20 m_SH.length (m_sl m_SH) Q 77 [some (.inr (some 0)), some (.inl (nI m)), some (.inr around), some (.inl (nI D)), some (.inr (some (6 + 16 * m))), l5, some (.inl (-1)), some (.inl (nI p))] [] (m_SH, f, g) = m_R (m_E e) 20 m_SH.length (m_sl m_SH) Q 77 [some (.inr (some 0)), some (.inl (nI m)), some (.inr around), some (.inl (nI D)), some (.inr (some (6 + 16 * m))), l5, some (.inl th), some (.inl (nI (p + 1)))] [] (m_SH, f2, g2) := by
      intro e Q l5 he
      have K := fun Q => e1 e Q he
      rw [r20_77]
      simp only [↓r20_79, ↓r20_81, ↓r20_84, ↓r20_87, ↓r20_89, ↓r20_90, ↓r20_93, ↓r20_94, ↓r20_96, ↓r20_99, ↓r20_101, ↓r20_102, ↓r20_104, ↓r20_107, ↓r20_109, ↓r20_110, ↓r20_112, ↓r20_115, ↓r20_117, ↓r20_118, ↓r20_119, ↓r20_122, ↓r20_124, ↓r20_127, kB0 hm, lB0 hm, kB3 hm, lB3 hm, kB4 hm, lB4 hm, kB5 hm, lB5 hm, gB0_4 hg hm, gB0_5 hg hm, gB0_6 hg hm, kC0, lC0, kC1, lC1, kC2, lC2, kC3, lC3, kC4, lC4, kC5, lC5, kC166, lC166, kC167, lC167, kC168, lC168, kC169, lC169, gC0_0 hg, gC0_1 hg, gC0_3 hg, gC0_4 hg, gC0_5 hg, gC0_6 hg, gC1_0 hg, gC166_0 hg, gC166_1 hg, gA5 hg hD, kB6 hD, lB6 hD, vp_in_nI (show D < 10 by omega) (show 10 < 2 ^ 31 by decide), nI_clamp (show D < 2 ^ 31 by omega), if_true, if_false, true_or, or_true, eq_self, m_10, Option.toList, List.cons_append, List.nil_append, List.length_nil, List.length_cons, Nat.zero_le, m_l1, m_l2, m_l3, m_l4, m_l5, m_l6, q1, q2, q3, q4, y1, vp_in_nI (show p < 8 by omega) (show 8 < 2 ^ 31 by decide), nI_clamp (show p < 2 ^ 31 by omega), K, nI_1]
    rcases S2 with ⟨rfl, S3, S4⟩ | ⟨x, hx, rfl, S4⟩
    · obtain ⟨f3, g3, h3, out, c3, t3, k3, e3, lp3, o3, w1, w2, b5, b6, b7, b8, vo⟩ := ih (p + 1) c' t' f2 h2 g2 cur wy hv (by omega) (m_ok_refl o2 10) s2 F2 E hst2 S3 S4 b2 (by omega)
      refine ⟨f3, g3, h3, out, c3, t3, k + k3, fun e Q l5 he => ?_, fun h4 har => m_go74_tr gk (lp3 h4 har), m_ok_trans o2 o3 (Nat.le_refl D), w1, w2, by omega, b6, by omega, by omega, vo⟩
      rw [X e Q l5 he, e3 e Q l5 he]
    · obtain ⟨f3, h3, out, t3, e3, lp3, o3, b5, w1, w2, vo⟩ := jX (gg := gg) (p := p) (around := around) (m_ok_refl o2 10) hh s2 F2 E hD hm hst8 (by omega) hst2 S4 (Or.inr ⟨x, hx, rfl⟩) (Or.inl (nI_pos (by have := s.2.2.1; omega))) (by omega)
      refine ⟨f3, g2, h3, out, c', t3, k + 1, fun e Q l5 he => ?_, fun h4 har => m_go74_tr gk (lp3 h4 har), m_ok_trans o2 o3 (Nat.le_refl D), w1, w2, b1, b2, by omega, by omega, vo⟩
      rw [X e Q l5 he, ← e3 e Q l5 (some (.inl (nI (p + 1)))) (by omega)]
      have q5 : f2 (6 + 16 * m) 7 = nI s' := (xsc o2.re hm).trans hst2
      have nx : (nI x = -1) = False := m_int1 (by have := s.2.2.1; omega)
      by_cases z : nI s' ≤ nI (p + 1)
      · simp only [↓r20_77, ↓r20_79, ↓r20_81, ↓r20_84, ↓r20_87, ↓r20_89, ↓r20_90, kB0 hm, lB0 hm, q5, z, if_true]
      · simp only [↓r20_77, ↓r20_79, ↓r20_81, ↓r20_84, ↓r20_87, ↓r20_89, ↓r20_90, kB0 hm, lB0 hm, q5, z, nx, if_false]
theorem jC {a P : Nat} : ∀ n, m_pc n a P := by
  intro n
  induction n with
  | zero => intro m D c t f h g gg around hmn; exact absurd hmn (Nat.not_lt_zero m)
  | succ n IH =>
    intro m D c t f h g gg around hmn hDm hmP s o hh hc har hd hl ht
    have hg := o.go
    have hD : D < 10 := by omega
    have hm : m < 10 := by omega
    have h10 : 10 ≤ a := s.2.1
    have ca : f 0 7 = nI c := (xca o.re).trans o.ca
    have pn : f 0 2 = nI P := (xpn o.re).trans s.2.2.2.2.1
    have P10 : P ≤ 10 := s.2.2.2.2.2.1
    by_cases c60 : c = 60
    · subst c60
      refine ⟨f, g, h, 9, 60, t, fun e Q he => ?_, m_ok_refl o D, rfl, rfl, Nat.le_refl _, Nat.le_refl _, by omega, Or.inr ⟨9, by omega, rfl⟩, Or.inl ⟨fun d Q => c75_60 o.ca, by decide⟩⟩
      obtain ⟨e', rfl⟩ : ∃ e', e = e' + 8 := ⟨e - 8, by omega⟩
      simp only [↓e20, ↓r20_0, ↓r20_1, ↓r20_4, ↓r20_6, ↓r20_9, ↓r20_10, ↓r20_12, ↓r20_15, ↓r20_16, ↓r20_17, ↓r20_20, ↓r20_23, ↓r20_25, kC0, lC0, kC1, lC1, kC2, lC2, kC3, lC3, kC4, lC4, kC5, lC5, kC166, lC166, kC167, lC167, kC168, lC168, kC169, lC169, gC0_0 hg, gC0_1 hg, gC0_3 hg, gC0_4 hg, gC0_5 hg, gC0_6 hg, gC1_0 hg, gC166_0 hg, gC166_1 hg, if_true, if_false, true_or, or_true, eq_self, m_10, ca, show ((60 : Int32) ≤ nI 60) = True from eq_true (by decide)]
    have hc' : c < 60 := by omega
    obtain ⟨⟨mo, hmo6, hmo⟩, _, st, hst8, hst, _⟩ := s.2.2.2.2.2.2.1 m hm
    have q0 : m_si f 0 7 (nI (c + 1)) (6 + 16 * m) 0 = nI mo := by rw [m_sn (by omega), xmd o.re hm]; exact hmo
    have y1 : ((60 : Int32) ≤ nI c) = False := eq_false (nI_ge (a := c) (b := 60) hc' (by decide))
    have y2 : ((10 : Int32) ≤ nI D) = False := eq_false (nI_ge (a := D) (b := 10) hD (by decide))
    have y3 : (nI P ≤ nI m) = False := ((n_le (a := P) (b := m) (by omega) (by omega)).trans (eq_false (by omega)))
    have PRE : ∀ (e : Nat) (Q : mQ), m_E (e + 8) 20 [.inr (some 0), .inl (nI m), .inr around, .inl (nI D)] (m_SH, f, g) Q = m_E (e + 7) 21 [.inr (some 0), .inr (some (12 + 16 * D)), .inl (nI mo), .inr around] (m_SH, (m_si f 0 7 (nI (c + 1))), g) (fun r w => m_R (m_E (e + 7)) 20 m_SH.length (m_sl m_SH) Q 60 [some (.inr (some 0)), some (.inl (nI m)), some (.inr around), some (.inl (nI D)), some (.inr (some (6 + 16 * m))), none, none, none] (r.toList ++ []) w) := by
      intro e Q
      simp only [↓e20, ↓r20_0, ↓r20_1, ↓r20_4, ↓r20_6, ↓r20_9, ↓r20_10, ↓r20_12, ↓r20_15, ↓r20_16, ↓r20_17, ↓r20_20, ↓r20_23, ↓r20_25, ↓r20_26, ↓r20_27, ↓r20_28, ↓r20_31, ↓r20_32, ↓r20_33, ↓r20_36, ↓r20_37, ↓r20_40, ↓r20_41, ↓r20_42, ↓r20_44, ↓r20_45, ↓r20_46, ↓r20_49, ↓r20_50, ↓r20_51, ↓r20_53, ↓r20_56, ↓r20_57, kC0, lC0, kC1, lC1, kC2, lC2, kC3, lC3, kC4, lC4, kC5, lC5, kC166, lC166, kC167, lC167, kC168, lC168, kC169, lC169, gC0_0 hg, gC0_1 hg, gC0_3 hg, gC0_4 hg, gC0_5 hg, gC0_6 hg, gC1_0 hg, gC166_0 hg, gC166_1 hg, if_true, if_false, true_or, or_true, eq_self, m_10, gA5 hg hD, kB6 hD, lB6 hD, vp_in_nI (show D < 10 by omega) (show 10 < 2 ^ 31 by decide), nI_clamp (show D < 2 ^ 31 by omega), m_l1, m_l2, m_l3, m_l4, m_l5, m_l6, List.length_nil, List.length_cons, Nat.zero_le, Option.toList, List.cons_append, List.nil_append, ca, pn, c12o, y1, y2, y3, n_neg (show m < 2 ^ 31 by omega), nI_1, gA3 hg hm, kB0 hm, lB0 hm, vp_in_nI (show m < 10 by omega) (show 10 < 2 ^ 31 by decide), nI_clamp (show m < 2 ^ 31 by omega), q0]
    rcases jE (gg := gg) o hh hD hm hc' hmo hmo6 hd har hl with ⟨f2, g2, h2, r, hr, e1, e2, o2, w1, w2⟩ | ⟨f2, g2, h2, cur, wy, hv, e1, e2, o2, F, n1, n2, E⟩
    · have r16 : r < 16 := by omega
      refine ⟨f2, g2, h2, nI r, c + 1, t, fun e Q he => ?_, o2, w1, w2, by omega, by omega, by omega, Or.inr ⟨r, by omega, rfl⟩, Or.inl ⟨e2, nI_pos (by omega)⟩⟩
      obtain ⟨e', rfl⟩ : ∃ e', e = e' + 8 := ⟨e - 8, by omega⟩
      unfold m_rn at e1
      rw [PRE e' Q]
      simp only [e1, ↓r20_60, ↓r20_62, ↓r20_64, ↓r20_65, ↓r20_68, ↓r20_70, Option.toList, List.cons_append, List.nil_append, List.length_nil, List.length_cons, Nat.zero_le, if_true, if_false, true_or, or_true, eq_self, m_10, m_int1 (show r < 2 ^ 31 by omega)]
    · have hst2 : h2 176 m = nI st := by rw [o2.ks 176 (by omega)]; exact hst
      obtain ⟨f3, g3, h3, out, c3, t3, k3, e3, lp3, o3, w1, w2, b5, b6, b7, b8, vo⟩ := jL (around := around) (x0 := h 170 18) IH hh (show m ≤ n by omega) hDm hmP hst8 st 0 (c + 1) t f2 h2 g2 cur wy hv (by omega) (m_ok_refl o2 10) (m_sf_keep o2 s) F E hst2 n1 n2 (by omega) (by omega)
      refine ⟨f3, g3, h3, out, c3, t3, fun e Q he => ?_, m_ok_trans o2 o3 (Nat.le_refl D), ?_, w2, by omega, b6, by omega, vo, Or.inr ⟨h2, k3, e2, by omega, lp3⟩⟩
      · obtain ⟨e', rfl⟩ : ∃ e', e = e' + 8 := ⟨e - 8, by omega⟩
        unfold m_rn at e1
        rw [PRE e' Q]
        simp only [e1, ↓r20_60, ↓r20_62, ↓r20_64, ↓r20_65, ↓r20_68, ↓r20_70, ↓r20_71, ↓r20_72, ↓r20_74, ↓r20_75, Option.toList, List.cons_append, List.nil_append, List.length_nil, List.length_cons, Nat.zero_le, if_true, if_false, true_or, or_true, eq_self, m_10]
        exact e3 (e' + 7) Q _ (by omega)
      · rw [w1, ← hd, Int32.add_sub_cancel]
