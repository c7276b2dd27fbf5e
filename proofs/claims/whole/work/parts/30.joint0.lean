/-! hooks are told; a transaction is made, marked, restored, rolled back -/
theorem m_80 {t : Nat} : (8 : Int32) * nI t = nI (8 * t) := by rw [show (8 : Int32) = nI 8 from rfl, pk_mul]
theorem m_v4_0 : vp_in 0 4 := vp_in_nI (show 0 < 4 by decide) (show 4 < 2 ^ 31 by decide)
theorem m_v4_1 : vp_in 1 4 := vp_in_nI (show 1 < 4 by decide) (show 4 < 2 ^ 31 by decide)
theorem m_v4_2 : vp_in 2 4 := vp_in_nI (show 2 < 4 by decide) (show 4 < 2 ^ 31 by decide)
theorem m_v4_3 : vp_in 3 4 := vp_in_nI (show 3 < 4 by decide) (show 4 < 2 ^ 31 by decide)
theorem m_cl0 : (0 : Int32).toNatClampNeg = 0 := rfl
theorem m_cl1 : (1 : Int32).toNatClampNeg = 1 := rfl
theorem m_cl2 : (2 : Int32).toNatClampNeg = 2 := rfl
theorem m_cl3 : (3 : Int32).toNatClampNeg = 3 := rfl
theorem j49_loop {f h : mF} {g gg : mG} {c i k : Nat} {s : Int32} (hh : m_go_ gg) (hi : i < 10) (hk8 : k ≤ 8) : ∀ (n b j t : Nat) (f' h' : mF), b + n = k → j = 8 * i + b → m_ok 10 f g h f' g h' c t → h' 198 i = nI k → t + n < 1000000 → ∃ f2 h2, (∀ (d : Nat) (Q : mQ), m_R (m_E (d + 1)) 49 m_SH.length (m_sl m_SH) Q 2 [some (.inr (some 0)), some (.inr (some (13 + 16 * i))), some (.inl s), some (.inl (nI b))] [] (m_SH, f', g) = Q none (m_SH, f2, g)) ∧ (∀ (d : Nat) (Q : mQ), m_R (m_E (d + 1)) 90 m_SH.length (m_sl m_SH) Q 5 [some (.inr (some 170)), some (.inl (nI i)), some (.inl s), some (.inl (nI j))] [] (m_SH, h', gg) = Q none (m_SH, h2, gg)) ∧ m_ok 10 f g h f2 g h2 c (t + n) := by
  intro n
  induction n with
  | zero =>
    intro b j t f' h' hb hj o hk ht
    have hg := o.go
    have q1 : f' (13 + 16 * i) 6 = nI k := (xHc o.re hi).trans hk
    have h1 : (nI k ≤ nI b) = True := ((n_le (a := k) (b := b) (by omega) (by omega)).trans (eq_true (by omega)))
    have h2 : (nI (8 * i + k) ≤ nI j) = True := ((n_le (a := 8 * i + k) (b := j) (by omega) (by omega)).trans (eq_true (by omega)))
    refine ⟨f', h', fun d Q => ?_, fun d Q => ?_, o⟩
    · simp only [↓r49_0, ↓r49_1, ↓r49_2, ↓r49_3, ↓r49_4, ↓r49_7, ↓r49_10, ↓r49_11, ↓r49_14, ↓r49_15, ↓r49_16, ↓r49_19, ↓r49_20, ↓r49_21, ↓r49_22, ↓r49_25, ↓r49_28, ↓r49_31, kB7 hi, lB7 hi, kB8 hi, lB8 hi, kB9 hi, lB9 hi, kB10 hi, lB10 hi, kB11 hi, lB11 hi, kB12 hi, lB12 hi, kB13 hi, lB13 hi, gB7_0 hg hi, gB7_1 hg hi, gB7_2 hg hi, gB7_3 hg hi, gB7_4 hg hi, gB7_5 hg hi, q1, h1, if_true]
    · have hg := hh
      simp only [↓r90_0, ↓r90_2, ↓r90_3, ↓r90_4, ↓r90_5, ↓r90_6, ↓r90_8, ↓r90_9, ↓r90_10, ↓r90_11, ↓r90_14, ↓r90_15, ↓r90_16, ↓r90_17, ↓r90_20, ↓r90_21, ↓r90_22, ↓r90_23, ↓r90_26, ↓r90_27, ↓r90_28, ↓r90_29, ↓r90_32, ↓r90_35, ↓r90_38, kC170, lC170, kC171, lC171, kC172, lC172, kC173, lC173, kC174, lC174, kC175, lC175, kC176, lC176, kC177, lC177, kC178, lC178, kC179, lC179, kC180, lC180, kC181, lC181, kC182, lC182, kC183, lC183, kC184, lC184, kC185, lC185, kC186, lC186, kC187, lC187, kC188, lC188, kC189, lC189, kC190, lC190, kC191, lC191, kC192, lC192, kC193, lC193, kC194, lC194, kC195, lC195, kC196, lC196, kC197, lC197, kC198, lC198, kC199, lC199, kC200, lC200, gC170_1 hg, gC170_3 hg, gC170_4 hg, gC170_5 hg, gC170_6 hg, gC170_7 hg, gC170_8 hg, gC170_9 hg, gC170_10 hg, gC170_11 hg, gC170_12 hg, gC170_15 hg, gC170_16 hg, gC170_20 hg, gC170_21 hg, gC170_22 hg, gC170_23 hg, gC170_24 hg, gC170_25 hg, gC170_26 hg, gC170_27 hg, gC170_28 hg, gC170_29 hg, gC170_30 hg, gC170_31 hg, gC170_32 hg, gC170_33 hg, gC170_34 hg, gC170_35 hg, gC170_36 hg, m_80, nI_add, hk, h2, vp_in_nI (show i < 10 by omega) (show 10 < 2 ^ 31 by decide), nI_clamp (show i < 2 ^ 31 by omega), if_true]
  | succ n ih =>
    intro b j t f' h' hb hj o hk ht
    subst hj
    have hg := o.go
    have q1 : f' (13 + 16 * i) 6 = nI k := (xHc o.re hi).trans hk
    have q2 : f' (18 + 16 * i) b = h' 199 (8 * i + b) := xH o.re hi (by omega)
    have q3 : f' 166 2 = nI t := (xto o.re).trans o.to
    have h1 : (nI k ≤ nI b) = False := ((n_le (a := k) (b := b) (by omega) (by omega)).trans (eq_false (by omega)))
    have h2 : (nI (8 * i + k) ≤ nI (8 * i + b)) = False := ((n_le (a := 8 * i + k) (b := 8 * i + b) (by omega) (by omega)).trans (eq_false (by omega)))
    obtain ⟨f2, h2', e1, e2, o2⟩ := ih (b + 1) (8 * i + b + 1) (t + 1) (m_rec 166 2 167 168 t s (h' 199 (8 * i + b)) 0 f') (m_rec 170 14 182 183 t s (h' 199 (8 * i + b)) 0 h') (by omega) (by omega) (m_ok_rec o) ((m_rec_o (by decide)).trans hk) (by omega)
    refine ⟨f2, h2', fun d Q => ?_, fun d Q => ?_, (by rw [show t + (n + 1) = t + 1 + n by omega]; exact o2)⟩
    · rw [r49_2]
      simp only [↓r49_0, ↓r49_1, ↓r49_3, ↓r49_4, ↓r49_7, ↓r49_10, ↓r49_11, ↓r49_14, ↓r49_15, ↓r49_16, ↓r49_19, ↓r49_20, ↓r49_21, ↓r49_22, ↓r49_25, ↓r49_28, ↓r49_31, kC0, lC0, kC1, lC1, kC2, lC2, kC3, lC3, kC4, lC4, kC5, lC5, kC166, lC166, kC167, lC167, kC168, lC168, kC169, lC169, gC0_0 hg, gC0_1 hg, gC0_3 hg, gC0_4 hg, gC0_5 hg, gC0_6 hg, gC1_0 hg, gC166_0 hg, gC166_1 hg, kB7 hi, lB7 hi, kB8 hi, lB8 hi, kB9 hi, lB9 hi, kB10 hi, lB10 hi, kB11 hi, lB11 hi, kB12 hi, lB12 hi, kB13 hi, lB13 hi, gB7_0 hg hi, gB7_1 hg hi, gB7_2 hg hi, gB7_3 hg hi, gB7_4 hg hi, gB7_5 hg hi, q1, q2, h1, if_false, vp_in_nI (show b < 8 by omega) (show 8 < 2 ^ 31 by decide), nI_clamp (show b < 2 ^ 31 by omega), c33 hg q3 (show t < 1000000 by omega), Option.toList, List.cons_append, List.nil_append, List.length_nil, List.length_cons, Nat.zero_le, nI_1, e1]
    · have hg := hh
      rw [r90_5]
      simp only [↓r90_0, ↓r90_2, ↓r90_3, ↓r90_4, ↓r90_6, ↓r90_8, ↓r90_9, ↓r90_10, ↓r90_11, ↓r90_14, ↓r90_15, ↓r90_16, ↓r90_17, ↓r90_20, ↓r90_21, ↓r90_22, ↓r90_23, ↓r90_26, ↓r90_27, ↓r90_28, ↓r90_29, ↓r90_32, ↓r90_35, ↓r90_38, kC170, lC170, kC171, lC171, kC172, lC172, kC173, lC173, kC174, lC174, kC175, lC175, kC176, lC176, kC177, lC177, kC178, lC178, kC179, lC179, kC180, lC180, kC181, lC181, kC182, lC182, kC183, lC183, kC184, lC184, kC185, lC185, kC186, lC186, kC187, lC187, kC188, lC188, kC189, lC189, kC190, lC190, kC191, lC191, kC192, lC192, kC193, lC193, kC194, lC194, kC195, lC195, kC196, lC196, kC197, lC197, kC198, lC198, kC199, lC199, kC200, lC200, gC170_1 hg, gC170_3 hg, gC170_4 hg, gC170_5 hg, gC170_6 hg, gC170_7 hg, gC170_8 hg, gC170_9 hg, gC170_10 hg, gC170_11 hg, gC170_12 hg, gC170_15 hg, gC170_16 hg, gC170_20 hg, gC170_21 hg, gC170_22 hg, gC170_23 hg, gC170_24 hg, gC170_25 hg, gC170_26 hg, gC170_27 hg, gC170_28 hg, gC170_29 hg, gC170_30 hg, gC170_31 hg, gC170_32 hg, gC170_33 hg, gC170_34 hg, gC170_35 hg, gC170_36 hg, m_80, nI_add, hk, h2, vp_in_nI (show i < 10 by omega) (show 10 < 2 ^ 31 by decide), nI_clamp (show i < 2 ^ 31 by omega), if_false, vp_in_nI (show 8 * i + b < 80 by omega) (show 80 < 2 ^ 31 by decide), nI_clamp (show 8 * i + b < 2 ^ 31 by omega), c80 hg o.to (show t < 1000000 by omega), Option.toList, List.cons_append, List.nil_append, List.length_nil, List.length_cons, Nat.zero_le, nI_1, e2]
theorem j49 {f h : mF} {g gg : mG} {c t i : Nat} {s : Int32} (o : m_ok 10 f g h f g h c t) (hh : m_go_ gg) (hi : i < 10) (ht : t + 8 < 1000000) : ∃ f2 h2 t', m_rn 49 2 [.inr (some 0), .inr (some (13 + 16 * i)), .inl s] f g none f2 g ∧ m_rn 90 2 [.inr (some 170), .inl (nI i), .inl s] h gg none h2 gg ∧ m_ok 10 f g h f2 g h2 c t' ∧ t' ≤ t + 8 := by
  obtain ⟨k, hk8, hk⟩ := o.hc i hi
  obtain ⟨f2, h2, e1, e2, o2⟩ := j49_loop (s := s) hh hi hk8 k 0 (8 * i) t f h (by omega) (by omega) o hk (by omega)
  refine ⟨f2, h2, t + k, fun d Q => ?_, fun d Q => ?_, o2, by omega⟩
  · simp only [↓e49, ↓r49_0, ↓r49_1, ↓r49_3, ↓r49_4, ↓r49_7, ↓r49_10, ↓r49_11, ↓r49_14, ↓r49_15, ↓r49_16, ↓r49_19, ↓r49_20, ↓r49_21, ↓r49_22, ↓r49_25, ↓r49_28, ↓r49_31]
    exact e1 d Q
  · simp only [↓e90, ↓r90_0, ↓r90_2, ↓r90_3, ↓r90_4, ↓r90_6, ↓r90_8, ↓r90_9, ↓r90_10, ↓r90_11, ↓r90_14, ↓r90_15, ↓r90_16, ↓r90_17, ↓r90_20, ↓r90_21, ↓r90_22, ↓r90_23, ↓r90_26, ↓r90_27, ↓r90_28, ↓r90_29, ↓r90_32, ↓r90_35, ↓r90_38, m_80]
    exact e2 d Q
theorem j25_loop {f h : mF} {g gg : mG} {c t i : Nat} (hh : m_go_ gg) (hi : i < 10) : ∀ (n k : Nat) (f' h' : mF), k + n = 4 → m_ok 10 f g h f' g h' c t → ∃ f2 h2, (∀ (d : Nat) (Q : mQ), m_R (m_E d) 25 m_SH.length (m_sl m_SH) Q 2 [some (.inr (some (13 + 16 * i))), some (.inl (nI k))] [] (m_SH, f', g) = m_R (m_E d) 25 m_SH.length (m_sl m_SH) Q 34 [some (.inr (some (13 + 16 * i))), some (.inl (nI 4))] [] (m_SH, f2, g)) ∧ (∀ (d : Nat) (Q : mQ), m_R (m_E d) 76 m_SH.length (m_sl m_SH) Q 2 [some (.inr (some 170)), some (.inl (nI i)), some (.inl (nI k))] [] (m_SH, h', gg) = m_R (m_E d) 76 m_SH.length (m_sl m_SH) Q 46 [some (.inr (some 170)), some (.inl (nI i)), some (.inl (nI 4))] [] (m_SH, h2, gg)) ∧ m_ok 10 f g h f2 g h2 c t := by
  intro n
  induction n with
  | zero =>
    intro k f' h' hk o
    obtain rfl : k = 4 := by omega
    have h1 : ((4 : Int32) ≤ nI 4) = True := eq_true (nI_le (a := 4) (b := 4) (by omega) (by omega))
    refine ⟨f', h', fun d Q => ?_, fun d Q => ?_, o⟩
    · simp only [↓r25_2, ↓r25_3, ↓r25_4, h1, if_true]
    · simp only [↓r76_2, ↓r76_3, ↓r76_4, h1, if_true]
  | succ n ih =>
    intro k f' h' hk' o
    have hg := o.go
    have hk : k < 4 := by omega
    have h1 : ((4 : Int32) ≤ nI k) = False := eq_false (nI_ge (a := k) (b := 4) (by omega) (by decide))
    obtain ⟨f2, h2', e1, e2, o2⟩ := ih (k + 1) _ _ (by omega) (oW (oRd (oO (v := 0) o hi hk (Or.inl rfl)) (v := 0) hi hk) (v := 0) hi hk)
    refine ⟨f2, h2', fun d Q => ?_, fun d Q => ?_, o2⟩
    · rw [r25_2]
      simp only [↓r25_3, ↓r25_4, ↓r25_7, ↓r25_8, ↓r25_11, ↓r25_12, ↓r25_13, ↓r25_14, ↓r25_15, ↓r25_18, ↓r25_19, ↓r25_20, ↓r25_21, ↓r25_22, ↓r25_25, ↓r25_26, ↓r25_27, ↓r25_28, ↓r25_31, kB7 hi, lB7 hi, kB8 hi, lB8 hi, kB9 hi, lB9 hi, kB10 hi, lB10 hi, kB11 hi, lB11 hi, kB12 hi, lB12 hi, kB13 hi, lB13 hi, gB7_0 hg hi, gB7_1 hg hi, gB7_2 hg hi, gB7_3 hg hi, gB7_4 hg hi, gB7_5 hg hi, vp_in_nI hk (show 4 < 2 ^ 31 by decide), nI_clamp (show k < 2 ^ 31 by omega), h1, if_false, if_true, if_false, true_or, or_true, eq_self, m_10, nI_1, e1]
    · have hg := hh
      rw [r76_2]
      simp only [↓r76_3, ↓r76_4, ↓r76_7, ↓r76_8, ↓r76_11, ↓r76_12, ↓r76_13, ↓r76_14, ↓r76_15, ↓r76_16, ↓r76_17, ↓r76_18, ↓r76_19, ↓r76_22, ↓r76_23, ↓r76_24, ↓r76_25, ↓r76_26, ↓r76_27, ↓r76_28, ↓r76_29, ↓r76_30, ↓r76_33, ↓r76_34, ↓r76_35, ↓r76_36, ↓r76_37, ↓r76_38, ↓r76_39, ↓r76_40, ↓r76_43, kC170, lC170, kC171, lC171, kC172, lC172, kC173, lC173, kC174, lC174, kC175, lC175, kC176, lC176, kC177, lC177, kC178, lC178, kC179, lC179, kC180, lC180, kC181, lC181, kC182, lC182, kC183, lC183, kC184, lC184, kC185, lC185, kC186, lC186, kC187, lC187, kC188, lC188, kC189, lC189, kC190, lC190, kC191, lC191, kC192, lC192, kC193, lC193, kC194, lC194, kC195, lC195, kC196, lC196, kC197, lC197, kC198, lC198, kC199, lC199, kC200, lC200, gC170_1 hg, gC170_3 hg, gC170_4 hg, gC170_5 hg, gC170_6 hg, gC170_7 hg, gC170_8 hg, gC170_9 hg, gC170_10 hg, gC170_11 hg, gC170_12 hg, gC170_15 hg, gC170_16 hg, gC170_20 hg, gC170_21 hg, gC170_22 hg, gC170_23 hg, gC170_24 hg, gC170_25 hg, gC170_26 hg, gC170_27 hg, gC170_28 hg, gC170_29 hg, gC170_30 hg, gC170_31 hg, gC170_32 hg, gC170_33 hg, gC170_34 hg, gC170_35 hg, gC170_36 hg, h1, if_false, if_true, if_false, true_or, or_true, eq_self, m_10, m_i4, vp_in_nI (show 4 * i + k < 40 by omega) (show 40 < 2 ^ 31 by decide), nI_clamp (show 4 * i + k < 2 ^ 31 by omega), nI_1, e2]
theorem j24 {D : Nat} {f0 h0 f h : mF} {g0 g gg : mG} {c t i : Nat} (o : m_ok D f0 g0 h0 f g h c t) (hh : m_go_ gg) (hD : D ≤ i) (hi : i < 10) : ∃ f2 h2, m_rn 24 2 [.inr (some 0), .inr (some (12 + 16 * i))] f g none f2 (m_sr g (12 + 16 * i) 1 (some (13 + 16 * i))) ∧ m_rn 76 1 [.inr (some 170), .inl (nI i)] h gg none h2 gg ∧ m_ok D f0 g0 h0 f2 (m_sr g (12 + 16 * i) 1 (some (13 + 16 * i))) h2 c t ∧ f2 (12 + 16 * i) 3 = 3 ∧ f2 (12 + 16 * i) 4 = f (12 + 16 * i) 4 ∧ h2 187 i = 3 ∧ h2 170 18 = nI i ∧ h2 170 17 = h 170 17 ∧ ∀ q, 184 ≤ q → q ≤ 189 → q ≠ 187 → h2 q i = h q i := by
  have oo := m_ok_refl o 10
  obtain ⟨f2, h2, e1, e2, o2⟩ := j25_loop (gg := gg) hh hi 4 0 f h rfl oo
  have hg := o.go
  have o3 := oHc (oSp (m_ok_trans o o2 (by omega)) (v := 0) hi (Or.inl rfl)) (v := 0) hi ⟨0, by omega, rfl⟩
  have q1 : m_si (m_si f2 (13 + 16 * i) 6 0) (13 + 16 * i) 7 0 = m_si (m_si f2 (13 + 16 * i) 7 0) (13 + 16 * i) 6 0 := m_sc (by omega)
  have q2 := xta o3.re (show 0 < 4 by decide)
  have q2' : m_si (m_si (m_si f2 (13 + 16 * i) 7 0) (13 + 16 * i) 6 0) (12 + 16 * i) 3 3 169 0 = m_si (m_si h2 197 i 0) 198 i 0 181 0 := (m_sn (by omega)).trans q2
  have o4 := m_ok_mh (m_ok_m0 (ota (m_ok_cf (j := 3) (v := 3) o3 hD hi (Or.inl rfl)) (k := 0) (v := m_si (m_si h2 197 i 0) 198 i 0 181 0 + 1) (by decide)) (j := 18) (v := nI i) (by decide) (by omega)) (q := 187) (i := i) (v := 3) (by decide) (by decide) hD
  refine ⟨_, _, fun d Q => ?_, fun d Q => ?_, m_ok_g o4 hD hi (Or.inl rfl), ?_, ?_, ?_, ?_, ?_, fun q a1 a2 a3 => ?_⟩
  · simp only [↓e24, ↓r24_0, ↓r24_1, ↓r24_4, ↓r24_7, ↓r24_8, ↓r24_9, ↓r24_12, ↓r24_13, ↓r24_14, ↓r24_17, ↓r24_20, ↓r24_21, ↓r24_24, ↓r24_25, ↓r24_26, ↓r24_27, ↓r24_28, ↓r24_29, ↓r24_30, kC0, lC0, kC1, lC1, kC2, lC2, kC3, lC3, kC4, lC4, kC5, lC5, kC166, lC166, kC167, lC167, kC168, lC168, kC169, lC169, gC0_0 hg, gC0_1 hg, gC0_3 hg, gC0_4 hg, gC0_5 hg, gC0_6 hg, gC1_0 hg, gC166_0 hg, gC166_1 hg, kB6 hi, lB6 hi, kB14 hi, lB14 hi, kB15 hi, lB15 hi, gB6_0 hg hi, gB6_5 hg hi, gB6_6 hg hi, kB7 hi, lB7 hi, ↓e25, r25_0, r25_1, Option.toList, List.cons_append, List.nil_append, List.length_nil, List.length_cons, Nat.zero_le]
    refine (e1 _ _).trans ?_
    simp only [↓r25_34, ↓r25_35, ↓r25_36, ↓r25_39, ↓r25_40, ↓r25_41, ↓r25_44, kB7 hi, lB7 hi, kB8 hi, lB8 hi, kB9 hi, lB9 hi, kB10 hi, lB10 hi, kB11 hi, lB11 hi, kB12 hi, lB12 hi, kB13 hi, lB13 hi, gB7_0 hg hi, gB7_1 hg hi, gB7_2 hg hi, gB7_3 hg hi, gB7_4 hg hi, gB7_5 hg hi, if_true, if_false, true_or, or_true, eq_self, m_10]
    rw [q1]
    simp only [↓r24_0, ↓r24_1, ↓r24_4, ↓r24_7, ↓r24_8, ↓r24_9, ↓r24_12, ↓r24_13, ↓r24_14, ↓r24_17, ↓r24_20, ↓r24_21, ↓r24_24, ↓r24_25, ↓r24_26, ↓r24_27, ↓r24_28, ↓r24_29, ↓r24_30, Option.toList, List.cons_append, List.nil_append, List.length_nil, List.length_cons, Nat.zero_le, kC0, lC0, kC1, lC1, kC2, lC2, kC3, lC3, kC4, lC4, kC5, lC5, kC166, lC166, kC167, lC167, kC168, lC168, kC169, lC169, gC0_0 hg, gC0_1 hg, gC0_3 hg, gC0_4 hg, gC0_5 hg, gC0_6 hg, gC1_0 hg, gC166_0 hg, gC166_1 hg, kB6 hi, lB6 hi, kB14 hi, lB14 hi, kB15 hi, lB15 hi, gB6_0 hg hi, gB6_5 hg hi, gB6_6 hg hi, if_true, if_false, true_or, or_true, eq_self, m_10, gC0_6 (m_go_sr hg (show (12 + 16 * i) % 16 = 12 by omega) (Or.inl rfl) (show 12 + 16 * i < 166 by omega)), m_cl0, m_v4_0, q2']
  · have hg := hh
    simp only [↓e76, r76_0, r76_1]
    refine (e2 _ _).trans ?_
    simp only [↓r76_46, ↓r76_47, ↓r76_50, ↓r76_51, ↓r76_52, ↓r76_53, ↓r76_54, ↓r76_57, ↓r76_58, ↓r76_59, ↓r76_60, ↓r76_61, ↓r76_64, ↓r76_65, ↓r76_66, ↓r76_67, ↓r76_68, ↓r76_69, ↓r76_70, ↓r76_71, ↓r76_72, ↓r76_75, ↓r76_76, ↓r76_79, ↓r76_80, ↓r76_81, ↓r76_82, kC170, lC170, kC171, lC171, kC172, lC172, kC173, lC173, kC174, lC174, kC175, lC175, kC176, lC176, kC177, lC177, kC178, lC178, kC179, lC179, kC180, lC180, kC181, lC181, kC182, lC182, kC183, lC183, kC184, lC184, kC185, lC185, kC186, lC186, kC187, lC187, kC188, lC188, kC189, lC189, kC190, lC190, kC191, lC191, kC192, lC192, kC193, lC193, kC194, lC194, kC195, lC195, kC196, lC196, kC197, lC197, kC198, lC198, kC199, lC199, kC200, lC200, gC170_1 hg, gC170_3 hg, gC170_4 hg, gC170_5 hg, gC170_6 hg, gC170_7 hg, gC170_8 hg, gC170_9 hg, gC170_10 hg, gC170_11 hg, gC170_12 hg, gC170_15 hg, gC170_16 hg, gC170_20 hg, gC170_21 hg, gC170_22 hg, gC170_23 hg, gC170_24 hg, gC170_25 hg, gC170_26 hg, gC170_27 hg, gC170_28 hg, gC170_29 hg, gC170_30 hg, gC170_31 hg, gC170_32 hg, gC170_33 hg, gC170_34 hg, gC170_35 hg, gC170_36 hg, if_true, if_false, true_or, or_true, eq_self, m_10, vp_in_nI (show i < 10 by omega) (show 10 < 2 ^ 31 by decide), nI_clamp (show i < 2 ^ 31 by omega), m_cl0, m_v4_0]
  · rw [m_sn (by omega), m_se]
  · rw [m_sn (by omega), m_sn (by omega), m_sn (by omega), m_sn (by omega)]
    exact o2.kf i 4 hi (Or.inr rfl)
  · exact m_se
  · rw [m_sn (by omega), m_se]
  · rw [m_sn (by omega), m_sn (by omega), m_sn (by omega), m_sn (by omega), m_sn (by omega)]
    exact o2.kd (Nat.le_refl 10) 17 (by decide)
  · rw [m_sn (by omega), m_sn (by omega), m_sn (by omega), m_sn (by omega), m_sn (by omega)]
    exact o2.kh q i a1 a2 hi
