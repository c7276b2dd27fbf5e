/-! the law's loop over the calls -/
theorem m_p2 {i : Nat} : nI i + 2 = nI (i + 2) := by rw [show (2 : Int32) = nI 2 from rfl, nI_add]
theorem m_p3 {i : Nat} : nI i + 3 = nI (i + 3) := by rw [show (3 : Int32) = nI 3 from rfl, nI_add]
theorem m_p4 {i : Nat} : nI i + 4 = nI (i + 4) := by rw [show (4 : Int32) = nI 4 from rfl, nI_add]
theorem m_p5 {i : Nat} : nI i + 5 = nI (i + 5) := by rw [show (5 : Int32) = nI 5 from rfl, nI_add]
theorem m_and15 (x : Int32) : ∃ n, n < 16 ∧ x &&& 15 = nI n := by
  refine ⟨x.toBitVec.toNat % 16, Nat.mod_lt _ (by decide), ?_⟩
  apply Int32.toBitVec_inj.mp
  apply BitVec.eq_of_toNat_eq
  have e : nI (x.toBitVec.toNat % 16) = Int32.ofNat (x.toBitVec.toNat % 16) := rfl
  rw [e]
  simp only [Int32.toBitVec_and, BitVec.toNat_and, Int32.toBitVec_ofNat', BitVec.toNat_ofNat]
  have q : (15 : Int32).toBitVec.toNat = 2 ^ 4 - 1 := rfl
  rw [q, Nat.and_two_pow_sub_one_eq_mod]
  omega
theorem m_lcond {i L : Nat} (hL : L ≤ 2560) (hi : i ≤ 3000) : (nI L - 5 < nI i) = ¬ (i + 5 ≤ L) := by
  by_cases h5 : 5 ≤ L
  · obtain ⟨k, rfl⟩ : ∃ k, L = k + 5 := ⟨L - 5, by omega⟩
    rw [← m_p5, Int32.add_sub_cancel, n_lt (by omega) (by omega)]
    exact propext ⟨fun _ => by omega, fun _ => by omega⟩
  · have q : nI L - 5 < 0 := by
      rcases (by omega : L = 0 ∨ L = 1 ∨ L = 2 ∨ L = 3 ∨ L = 4) with rfl | rfl | rfl | rfl | rfl <;> decide
    exact propext ⟨fun _ => by omega, fun _ => Int32.lt_of_lt_of_le q (Int32.not_lt.mp (nI_pos (by omega)))⟩
set_option maxHeartbeats 1000000 in
theorem t0 {i L a P c t : Nat} {f : mF} {g : mG} (hL : L ≤ 2560) (hi : i + 5 ≤ L) (hl : f 1000001 0 = nI L) (R : m_lr a P c t f g) : ∃ f2 g2, (∀ k, 201 ≤ k → f2 k = f k) ∧ (∃ a P c t, m_lr a P c t f2 g2) ∧ ∀ (d : Nat) (Q : mQ), m_R (m_E (d + 40)) 101 0 0 Q 32 [some (.inr (some 1000000)), some (.inr (some 0)), some (.inr (some 170)), some (.inl (nI i))] [.inl 0] (m_SH, f, g) = m_R (m_E (d + 40)) 101 0 0 Q 18 [some (.inr (some 1000000)), some (.inr (some 0)), some (.inr (some 170)), some (.inl (nI (i + 5)))] [] (m_SH, f2, g2) := by
  obtain ⟨f1, g1, f2, r, a', P', c', t', e1, e2, L', k1, k2⟩ := l0 R (f 1000000 (i + 1))
  refine ⟨f2, g1, k2, ⟨a', P', c', t', L'⟩, fun d Q => ?_⟩
  have q0 := k1 1000000 (by decide)
  have q1 := k1 1000001 (by decide)
  simp only [↓r101_32_0, ↓r101_108, ↓r101_109, ↓r101_110, ↓r101_111, ↓r101_112, ↓r101_113, ↓r101_114, ↓r101_117, ↓r101_118, ↓r101_119, ↓r101_120, ↓r101_121, ↓r101_122, ↓r101_123, ↓r101_126, ↓r101_129, ↓r101_529, ↓r101_532, kC0, lC0, kC170, lC170, Option.toList, List.cons_append, List.nil_append, List.length_nil, List.length_cons, Nat.zero_le, m_l1, m_l2, m_l3, m_l4, m_l5, m_l6, if_true, eq_self, q0, q1, hl, vp_in_nI (show i < L by omega) (show L < 2 ^ 31 by omega), vp_in_nI (show i + 1 < L by omega) (show L < 2 ^ 31 by omega), vp_in_nI (show i + 2 < L by omega) (show L < 2 ^ 31 by omega), vp_in_nI (show i + 3 < L by omega) (show L < 2 ^ 31 by omega), vp_in_nI (show i + 4 < L by omega) (show L < 2 ^ 31 by omega), nI_clamp (show L < 2 ^ 31 by omega), nI_clamp (show i < 2 ^ 31 by omega), nI_clamp (show i + 1 < 2 ^ 31 by omega), nI_clamp (show i + 2 < 2 ^ 31 by omega), nI_clamp (show i + 3 < 2 ^ 31 by omega), nI_clamp (show i + 4 < 2 ^ 31 by omega), nI_1, m_p2, m_p3, m_p4, m_p5, e1, e2]
set_option maxHeartbeats 1000000 in
theorem t1 {i L a P c t : Nat} {f : mF} {g : mG} (hL : L ≤ 2560) (hi : i + 5 ≤ L) (hl : f 1000001 0 = nI L) (R : m_lr a P c t f g) : ∃ f2 g2, (∀ k, 201 ≤ k → f2 k = f k) ∧ (∃ a P c t, m_lr a P c t f2 g2) ∧ ∀ (d : Nat) (Q : mQ), m_R (m_E (d + 40)) 101 0 0 Q 32 [some (.inr (some 1000000)), some (.inr (some 0)), some (.inr (some 170)), some (.inl (nI i))] [.inl 1] (m_SH, f, g) = m_R (m_E (d + 40)) 101 0 0 Q 18 [some (.inr (some 1000000)), some (.inr (some 0)), some (.inr (some 170)), some (.inl (nI (i + 5)))] [] (m_SH, f2, g2) := by
  obtain ⟨f1, g1, f2, r, a', P', c', t', e1, e2, L', k1, k2⟩ := l1 R (f 1000000 (i + 1))
  refine ⟨f2, g1, k2, ⟨a', P', c', t', L'⟩, fun d Q => ?_⟩
  have q0 := k1 1000000 (by decide)
  have q1 := k1 1000001 (by decide)
  simp only [↓r101_32_1, ↓r101_131, ↓r101_132, ↓r101_133, ↓r101_134, ↓r101_135, ↓r101_136, ↓r101_137, ↓r101_140, ↓r101_141, ↓r101_142, ↓r101_143, ↓r101_144, ↓r101_145, ↓r101_146, ↓r101_149, ↓r101_152, ↓r101_529, ↓r101_532, kC0, lC0, kC170, lC170, Option.toList, List.cons_append, List.nil_append, List.length_nil, List.length_cons, Nat.zero_le, m_l1, m_l2, m_l3, m_l4, m_l5, m_l6, if_true, eq_self, q0, q1, hl, vp_in_nI (show i < L by omega) (show L < 2 ^ 31 by omega), vp_in_nI (show i + 1 < L by omega) (show L < 2 ^ 31 by omega), vp_in_nI (show i + 2 < L by omega) (show L < 2 ^ 31 by omega), vp_in_nI (show i + 3 < L by omega) (show L < 2 ^ 31 by omega), vp_in_nI (show i + 4 < L by omega) (show L < 2 ^ 31 by omega), nI_clamp (show L < 2 ^ 31 by omega), nI_clamp (show i < 2 ^ 31 by omega), nI_clamp (show i + 1 < 2 ^ 31 by omega), nI_clamp (show i + 2 < 2 ^ 31 by omega), nI_clamp (show i + 3 < 2 ^ 31 by omega), nI_clamp (show i + 4 < 2 ^ 31 by omega), nI_1, m_p2, m_p3, m_p4, m_p5, e1, e2]
set_option maxHeartbeats 1000000 in
theorem t2 {i L a P c t : Nat} {f : mF} {g : mG} (hL : L ≤ 2560) (hi : i + 5 ≤ L) (hl : f 1000001 0 = nI L) (R : m_lr a P c t f g) : ∃ f2 g2, (∀ k, 201 ≤ k → f2 k = f k) ∧ (∃ a P c t, m_lr a P c t f2 g2) ∧ ∀ (d : Nat) (Q : mQ), m_R (m_E (d + 40)) 101 0 0 Q 32 [some (.inr (some 1000000)), some (.inr (some 0)), some (.inr (some 170)), some (.inl (nI i))] [.inl 2] (m_SH, f, g) = m_R (m_E (d + 40)) 101 0 0 Q 18 [some (.inr (some 1000000)), some (.inr (some 0)), some (.inr (some 170)), some (.inl (nI (i + 5)))] [] (m_SH, f2, g2) := by
  by_cases z : f 1000000 (i + 3) = 0
  · obtain ⟨f1, g1, f2, r, a', P', c', t', e1, e2, L', k1, k2⟩ := l2 R (f 1000000 (i + 1)) (f 1000000 (i + 2)) 0 (Or.inl rfl)
    refine ⟨f2, g1, k2, ⟨a', P', c', t', L'⟩, fun d Q => ?_⟩
    have q0 := k1 1000000 (by decide)
    have q1 := k1 1000001 (by decide)
    simp only [↓r101_32_2, ↓r101_154, ↓r101_155, ↓r101_156, ↓r101_157, ↓r101_158, ↓r101_159, ↓r101_160, ↓r101_161, ↓r101_162, ↓r101_163, ↓r101_164, ↓r101_165, ↓r101_166, ↓r101_167, ↓r101_168, ↓r101_169, ↓r101_170, ↓r101_173, ↓r101_174, ↓r101_177, ↓r101_178, ↓r101_181, ↓r101_182, ↓r101_183, ↓r101_184, ↓r101_185, ↓r101_186, ↓r101_187, ↓r101_188, ↓r101_189, ↓r101_190, ↓r101_191, ↓r101_192, ↓r101_193, ↓r101_194, ↓r101_195, ↓r101_196, ↓r101_197, ↓r101_200, ↓r101_201, ↓r101_204, ↓r101_205, ↓r101_208, ↓r101_211, ↓r101_529, ↓r101_532, kC0, lC0, kC170, lC170, Option.toList, List.cons_append, List.nil_append, List.length_nil, List.length_cons, Nat.zero_le, m_l1, m_l2, m_l3, m_l4, m_l5, m_l6, if_true, eq_self, q0, q1, hl, vp_in_nI (show i < L by omega) (show L < 2 ^ 31 by omega), vp_in_nI (show i + 1 < L by omega) (show L < 2 ^ 31 by omega), vp_in_nI (show i + 2 < L by omega) (show L < 2 ^ 31 by omega), vp_in_nI (show i + 3 < L by omega) (show L < 2 ^ 31 by omega), vp_in_nI (show i + 4 < L by omega) (show L < 2 ^ 31 by omega), nI_clamp (show L < 2 ^ 31 by omega), nI_clamp (show i < 2 ^ 31 by omega), nI_clamp (show i + 1 < 2 ^ 31 by omega), nI_clamp (show i + 2 < 2 ^ 31 by omega), nI_clamp (show i + 3 < 2 ^ 31 by omega), nI_clamp (show i + 4 < 2 ^ 31 by omega), nI_1, m_p2, m_p3, m_p4, m_p5, z, e1, e2]
  · obtain ⟨f1, g1, f2, r, a', P', c', t', e1, e2, L', k1, k2⟩ := l2 R (f 1000000 (i + 1)) (f 1000000 (i + 2)) 1 (Or.inr rfl)
    refine ⟨f2, g1, k2, ⟨a', P', c', t', L'⟩, fun d Q => ?_⟩
    have q0 := k1 1000000 (by decide)
    have q1 := k1 1000001 (by decide)
    simp only [↓r101_32_2, ↓r101_154, ↓r101_155, ↓r101_156, ↓r101_157, ↓r101_158, ↓r101_159, ↓r101_160, ↓r101_161, ↓r101_162, ↓r101_163, ↓r101_164, ↓r101_165, ↓r101_166, ↓r101_167, ↓r101_168, ↓r101_169, ↓r101_170, ↓r101_173, ↓r101_174, ↓r101_177, ↓r101_178, ↓r101_181, ↓r101_182, ↓r101_183, ↓r101_184, ↓r101_185, ↓r101_186, ↓r101_187, ↓r101_188, ↓r101_189, ↓r101_190, ↓r101_191, ↓r101_192, ↓r101_193, ↓r101_194, ↓r101_195, ↓r101_196, ↓r101_197, ↓r101_200, ↓r101_201, ↓r101_204, ↓r101_205, ↓r101_208, ↓r101_211, ↓r101_529, ↓r101_532, kC0, lC0, kC170, lC170, Option.toList, List.cons_append, List.nil_append, List.length_nil, List.length_cons, Nat.zero_le, m_l1, m_l2, m_l3, m_l4, m_l5, m_l6, if_true, eq_self, q0, q1, hl, vp_in_nI (show i < L by omega) (show L < 2 ^ 31 by omega), vp_in_nI (show i + 1 < L by omega) (show L < 2 ^ 31 by omega), vp_in_nI (show i + 2 < L by omega) (show L < 2 ^ 31 by omega), vp_in_nI (show i + 3 < L by omega) (show L < 2 ^ 31 by omega), vp_in_nI (show i + 4 < L by omega) (show L < 2 ^ 31 by omega), nI_clamp (show L < 2 ^ 31 by omega), nI_clamp (show i < 2 ^ 31 by omega), nI_clamp (show i + 1 < 2 ^ 31 by omega), nI_clamp (show i + 2 < 2 ^ 31 by omega), nI_clamp (show i + 3 < 2 ^ 31 by omega), nI_clamp (show i + 4 < 2 ^ 31 by omega), nI_1, m_p2, m_p3, m_p4, m_p5, z, if_false, e1, e2]
set_option maxHeartbeats 1000000 in
theorem t3 {i L a P c t : Nat} {f : mF} {g : mG} (hL : L ≤ 2560) (hi : i + 5 ≤ L) (hl : f 1000001 0 = nI L) (R : m_lr a P c t f g) : ∃ f2 g2, (∀ k, 201 ≤ k → f2 k = f k) ∧ (∃ a P c t, m_lr a P c t f2 g2) ∧ ∀ (d : Nat) (Q : mQ), m_R (m_E (d + 40)) 101 0 0 Q 32 [some (.inr (some 1000000)), some (.inr (some 0)), some (.inr (some 170)), some (.inl (nI i))] [.inl 3] (m_SH, f, g) = m_R (m_E (d + 40)) 101 0 0 Q 18 [some (.inr (some 1000000)), some (.inr (some 0)), some (.inr (some 170)), some (.inl (nI (i + 5)))] [] (m_SH, f2, g2) := by
  obtain ⟨f1, g1, f2, r, a', P', c', t', e1, e2, L', k1, k2⟩ := l3 R (f 1000000 (i + 1)) (f 1000000 (i + 2)) (f 1000000 (i + 3)) (f 1000000 (i + 4))
  refine ⟨f2, g1, k2, ⟨a', P', c', t', L'⟩, fun d Q => ?_⟩
  have q0 := k1 1000000 (by decide)
  have q1 := k1 1000001 (by decide)
  simp only [↓r101_32_3, ↓r101_213, ↓r101_214, ↓r101_215, ↓r101_216, ↓r101_217, ↓r101_218, ↓r101_219, ↓r101_220, ↓r101_221, ↓r101_222, ↓r101_223, ↓r101_224, ↓r101_225, ↓r101_226, ↓r101_227, ↓r101_228, ↓r101_229, ↓r101_230, ↓r101_231, ↓r101_232, ↓r101_233, ↓r101_234, ↓r101_237, ↓r101_238, ↓r101_239, ↓r101_240, ↓r101_241, ↓r101_242, ↓r101_243, ↓r101_244, ↓r101_245, ↓r101_246, ↓r101_247, ↓r101_248, ↓r101_249, ↓r101_250, ↓r101_251, ↓r101_252, ↓r101_253, ↓r101_254, ↓r101_255, ↓r101_256, ↓r101_257, ↓r101_258, ↓r101_261, ↓r101_264, ↓r101_529, ↓r101_532, kC0, lC0, kC170, lC170, Option.toList, List.cons_append, List.nil_append, List.length_nil, List.length_cons, Nat.zero_le, m_l1, m_l2, m_l3, m_l4, m_l5, m_l6, if_true, eq_self, q0, q1, hl, vp_in_nI (show i < L by omega) (show L < 2 ^ 31 by omega), vp_in_nI (show i + 1 < L by omega) (show L < 2 ^ 31 by omega), vp_in_nI (show i + 2 < L by omega) (show L < 2 ^ 31 by omega), vp_in_nI (show i + 3 < L by omega) (show L < 2 ^ 31 by omega), vp_in_nI (show i + 4 < L by omega) (show L < 2 ^ 31 by omega), nI_clamp (show L < 2 ^ 31 by omega), nI_clamp (show i < 2 ^ 31 by omega), nI_clamp (show i + 1 < 2 ^ 31 by omega), nI_clamp (show i + 2 < 2 ^ 31 by omega), nI_clamp (show i + 3 < 2 ^ 31 by omega), nI_clamp (show i + 4 < 2 ^ 31 by omega), nI_1, m_p2, m_p3, m_p4, m_p5, e1, e2]
set_option maxHeartbeats 1000000 in
theorem t4 {i L a P c t : Nat} {f : mF} {g : mG} (hL : L ≤ 2560) (hi : i + 5 ≤ L) (hl : f 1000001 0 = nI L) (R : m_lr a P c t f g) : ∃ f2 g2, (∀ k, 201 ≤ k → f2 k = f k) ∧ (∃ a P c t, m_lr a P c t f2 g2) ∧ ∀ (d : Nat) (Q : mQ), m_R (m_E (d + 40)) 101 0 0 Q 32 [some (.inr (some 1000000)), some (.inr (some 0)), some (.inr (some 170)), some (.inl (nI i))] [.inl 4] (m_SH, f, g) = m_R (m_E (d + 40)) 101 0 0 Q 18 [some (.inr (some 1000000)), some (.inr (some 0)), some (.inr (some 170)), some (.inl (nI (i + 5)))] [] (m_SH, f2, g2) := by
  obtain ⟨f1, g1, f2, r, a', P', c', t', e1, e2, L', k1, k2⟩ := l4 R (f 1000000 (i + 1))
  refine ⟨f2, g1, k2, ⟨a', P', c', t', L'⟩, fun d Q => ?_⟩
  have q0 := k1 1000000 (by decide)
  have q1 := k1 1000001 (by decide)
  simp only [↓r101_32_4, ↓r101_266, ↓r101_267, ↓r101_268, ↓r101_269, ↓r101_270, ↓r101_271, ↓r101_272, ↓r101_275, ↓r101_276, ↓r101_277, ↓r101_278, ↓r101_279, ↓r101_280, ↓r101_281, ↓r101_284, ↓r101_287, ↓r101_529, ↓r101_532, kC0, lC0, kC170, lC170, Option.toList, List.cons_append, List.nil_append, List.length_nil, List.length_cons, Nat.zero_le, m_l1, m_l2, m_l3, m_l4, m_l5, m_l6, if_true, eq_self, q0, q1, hl, vp_in_nI (show i < L by omega) (show L < 2 ^ 31 by omega), vp_in_nI (show i + 1 < L by omega) (show L < 2 ^ 31 by omega), vp_in_nI (show i + 2 < L by omega) (show L < 2 ^ 31 by omega), vp_in_nI (show i + 3 < L by omega) (show L < 2 ^ 31 by omega), vp_in_nI (show i + 4 < L by omega) (show L < 2 ^ 31 by omega), nI_clamp (show L < 2 ^ 31 by omega), nI_clamp (show i < 2 ^ 31 by omega), nI_clamp (show i + 1 < 2 ^ 31 by omega), nI_clamp (show i + 2 < 2 ^ 31 by omega), nI_clamp (show i + 3 < 2 ^ 31 by omega), nI_clamp (show i + 4 < 2 ^ 31 by omega), nI_1, m_p2, m_p3, m_p4, m_p5, e1, e2]
set_option maxHeartbeats 1000000 in
theorem t5 {i L a P c t : Nat} {f : mF} {g : mG} (hL : L ≤ 2560) (hi : i + 5 ≤ L) (hl : f 1000001 0 = nI L) (R : m_lr a P c t f g) : ∃ f2 g2, (∀ k, 201 ≤ k → f2 k = f k) ∧ (∃ a P c t, m_lr a P c t f2 g2) ∧ ∀ (d : Nat) (Q : mQ), m_R (m_E (d + 40)) 101 0 0 Q 32 [some (.inr (some 1000000)), some (.inr (some 0)), some (.inr (some 170)), some (.inl (nI i))] [.inl 5] (m_SH, f, g) = m_R (m_E (d + 40)) 101 0 0 Q 18 [some (.inr (some 1000000)), some (.inr (some 0)), some (.inr (some 170)), some (.inl (nI (i + 5)))] [] (m_SH, f2, g2) := by
  obtain ⟨f1, g1, f2, r, a', P', c', t', e1, e2, L', k1, k2⟩ := l5 R (f 1000000 (i + 1)) (f 1000000 (i + 2))
  refine ⟨f2, g1, k2, ⟨a', P', c', t', L'⟩, fun d Q => ?_⟩
  have q0 := k1 1000000 (by decide)
  have q1 := k1 1000001 (by decide)
  simp only [↓r101_32_5, ↓r101_289, ↓r101_290, ↓r101_291, ↓r101_292, ↓r101_293, ↓r101_294, ↓r101_295, ↓r101_296, ↓r101_297, ↓r101_298, ↓r101_299, ↓r101_300, ↓r101_303, ↓r101_304, ↓r101_305, ↓r101_306, ↓r101_307, ↓r101_308, ↓r101_309, ↓r101_310, ↓r101_311, ↓r101_312, ↓r101_313, ↓r101_314, ↓r101_317, ↓r101_320, ↓r101_529, ↓r101_532, kC0, lC0, kC170, lC170, Option.toList, List.cons_append, List.nil_append, List.length_nil, List.length_cons, Nat.zero_le, m_l1, m_l2, m_l3, m_l4, m_l5, m_l6, if_true, eq_self, q0, q1, hl, vp_in_nI (show i < L by omega) (show L < 2 ^ 31 by omega), vp_in_nI (show i + 1 < L by omega) (show L < 2 ^ 31 by omega), vp_in_nI (show i + 2 < L by omega) (show L < 2 ^ 31 by omega), vp_in_nI (show i + 3 < L by omega) (show L < 2 ^ 31 by omega), vp_in_nI (show i + 4 < L by omega) (show L < 2 ^ 31 by omega), nI_clamp (show L < 2 ^ 31 by omega), nI_clamp (show i < 2 ^ 31 by omega), nI_clamp (show i + 1 < 2 ^ 31 by omega), nI_clamp (show i + 2 < 2 ^ 31 by omega), nI_clamp (show i + 3 < 2 ^ 31 by omega), nI_clamp (show i + 4 < 2 ^ 31 by omega), nI_1, m_p2, m_p3, m_p4, m_p5, e1, e2]
set_option maxHeartbeats 1000000 in
theorem t6 {i L a P c t : Nat} {f : mF} {g : mG} (hL : L ≤ 2560) (hi : i + 5 ≤ L) (hl : f 1000001 0 = nI L) (R : m_lr a P c t f g) : ∃ f2 g2, (∀ k, 201 ≤ k → f2 k = f k) ∧ (∃ a P c t, m_lr a P c t f2 g2) ∧ ∀ (d : Nat) (Q : mQ), m_R (m_E (d + 40)) 101 0 0 Q 32 [some (.inr (some 1000000)), some (.inr (some 0)), some (.inr (some 170)), some (.inl (nI i))] [.inl 6] (m_SH, f, g) = m_R (m_E (d + 40)) 101 0 0 Q 18 [some (.inr (some 1000000)), some (.inr (some 0)), some (.inr (some 170)), some (.inl (nI (i + 5)))] [] (m_SH, f2, g2) := by
  obtain ⟨f1, g1, f2, r, a', P', c', t', e1, e2, L', k1, k2⟩ := l6 R (f 1000000 (i + 1))
  refine ⟨f2, g1, k2, ⟨a', P', c', t', L'⟩, fun d Q => ?_⟩
  have q0 := k1 1000000 (by decide)
  have q1 := k1 1000001 (by decide)
  simp only [↓r101_32_6, ↓r101_322, ↓r101_323, ↓r101_324, ↓r101_325, ↓r101_326, ↓r101_327, ↓r101_328, ↓r101_331, ↓r101_332, ↓r101_333, ↓r101_334, ↓r101_335, ↓r101_336, ↓r101_337, ↓r101_340, ↓r101_343, ↓r101_529, ↓r101_532, kC0, lC0, kC170, lC170, Option.toList, List.cons_append, List.nil_append, List.length_nil, List.length_cons, Nat.zero_le, m_l1, m_l2, m_l3, m_l4, m_l5, m_l6, if_true, eq_self, q0, q1, hl, vp_in_nI (show i < L by omega) (show L < 2 ^ 31 by omega), vp_in_nI (show i + 1 < L by omega) (show L < 2 ^ 31 by omega), vp_in_nI (show i + 2 < L by omega) (show L < 2 ^ 31 by omega), vp_in_nI (show i + 3 < L by omega) (show L < 2 ^ 31 by omega), vp_in_nI (show i + 4 < L by omega) (show L < 2 ^ 31 by omega), nI_clamp (show L < 2 ^ 31 by omega), nI_clamp (show i < 2 ^ 31 by omega), nI_clamp (show i + 1 < 2 ^ 31 by omega), nI_clamp (show i + 2 < 2 ^ 31 by omega), nI_clamp (show i + 3 < 2 ^ 31 by omega), nI_clamp (show i + 4 < 2 ^ 31 by omega), nI_1, m_p2, m_p3, m_p4, m_p5, e1, e2]
set_option maxHeartbeats 1000000 in
theorem t7 {i L a P c t : Nat} {f : mF} {g : mG} (hL : L ≤ 2560) (hi : i + 5 ≤ L) (hl : f 1000001 0 = nI L) (R : m_lr a P c t f g) : ∃ f2 g2, (∀ k, 201 ≤ k → f2 k = f k) ∧ (∃ a P c t, m_lr a P c t f2 g2) ∧ ∀ (d : Nat) (Q : mQ), m_R (m_E (d + 40)) 101 0 0 Q 32 [some (.inr (some 1000000)), some (.inr (some 0)), some (.inr (some 170)), some (.inl (nI i))] [.inl 7] (m_SH, f, g) = m_R (m_E (d + 40)) 101 0 0 Q 18 [some (.inr (some 1000000)), some (.inr (some 0)), some (.inr (some 170)), some (.inl (nI (i + 5)))] [] (m_SH, f2, g2) := by
  obtain ⟨f1, g1, f2, r, a', P', c', t', e1, e2, L', k1, k2⟩ := l7 R (f 1000000 (i + 1)) (f 1000000 (i + 2))
  refine ⟨f2, g1, k2, ⟨a', P', c', t', L'⟩, fun d Q => ?_⟩
  have q0 := k1 1000000 (by decide)
  have q1 := k1 1000001 (by decide)
  simp only [↓r101_32_7, ↓r101_345, ↓r101_346, ↓r101_347, ↓r101_348, ↓r101_349, ↓r101_350, ↓r101_351, ↓r101_352, ↓r101_353, ↓r101_354, ↓r101_355, ↓r101_356, ↓r101_359, ↓r101_360, ↓r101_361, ↓r101_362, ↓r101_363, ↓r101_364, ↓r101_365, ↓r101_366, ↓r101_367, ↓r101_368, ↓r101_369, ↓r101_370, ↓r101_373, ↓r101_376, ↓r101_529, ↓r101_532, kC0, lC0, kC170, lC170, Option.toList, List.cons_append, List.nil_append, List.length_nil, List.length_cons, Nat.zero_le, m_l1, m_l2, m_l3, m_l4, m_l5, m_l6, if_true, eq_self, q0, q1, hl, vp_in_nI (show i < L by omega) (show L < 2 ^ 31 by omega), vp_in_nI (show i + 1 < L by omega) (show L < 2 ^ 31 by omega), vp_in_nI (show i + 2 < L by omega) (show L < 2 ^ 31 by omega), vp_in_nI (show i + 3 < L by omega) (show L < 2 ^ 31 by omega), vp_in_nI (show i + 4 < L by omega) (show L < 2 ^ 31 by omega), nI_clamp (show L < 2 ^ 31 by omega), nI_clamp (show i < 2 ^ 31 by omega), nI_clamp (show i + 1 < 2 ^ 31 by omega), nI_clamp (show i + 2 < 2 ^ 31 by omega), nI_clamp (show i + 3 < 2 ^ 31 by omega), nI_clamp (show i + 4 < 2 ^ 31 by omega), nI_1, m_p2, m_p3, m_p4, m_p5, e1, e2]
set_option maxHeartbeats 1000000 in
theorem t8 {i L a P c t : Nat} {f : mF} {g : mG} (hL : L ≤ 2560) (hi : i + 5 ≤ L) (hl : f 1000001 0 = nI L) (R : m_lr a P c t f g) : ∃ f2 g2, (∀ k, 201 ≤ k → f2 k = f k) ∧ (∃ a P c t, m_lr a P c t f2 g2) ∧ ∀ (d : Nat) (Q : mQ), m_R (m_E (d + 40)) 101 0 0 Q 32 [some (.inr (some 1000000)), some (.inr (some 0)), some (.inr (some 170)), some (.inl (nI i))] [.inl 8] (m_SH, f, g) = m_R (m_E (d + 40)) 101 0 0 Q 18 [some (.inr (some 1000000)), some (.inr (some 0)), some (.inr (some 170)), some (.inl (nI (i + 5)))] [] (m_SH, f2, g2) := by
  obtain ⟨f1, g1, f2, r, a', P', c', t', e1, e2, L', k1, k2⟩ := l8 R (f 1000000 (i + 1)) (f 1000000 (i + 2))
  refine ⟨f2, g1, k2, ⟨a', P', c', t', L'⟩, fun d Q => ?_⟩
  have q0 := k1 1000000 (by decide)
  have q1 := k1 1000001 (by decide)
  simp only [↓r101_32_8, ↓r101_378, ↓r101_379, ↓r101_380, ↓r101_381, ↓r101_382, ↓r101_383, ↓r101_384, ↓r101_385, ↓r101_386, ↓r101_387, ↓r101_388, ↓r101_389, ↓r101_392, ↓r101_393, ↓r101_394, ↓r101_395, ↓r101_396, ↓r101_397, ↓r101_398, ↓r101_399, ↓r101_400, ↓r101_401, ↓r101_402, ↓r101_403, ↓r101_406, ↓r101_409, ↓r101_529, ↓r101_532, kC0, lC0, kC170, lC170, Option.toList, List.cons_append, List.nil_append, List.length_nil, List.length_cons, Nat.zero_le, m_l1, m_l2, m_l3, m_l4, m_l5, m_l6, if_true, eq_self, q0, q1, hl, vp_in_nI (show i < L by omega) (show L < 2 ^ 31 by omega), vp_in_nI (show i + 1 < L by omega) (show L < 2 ^ 31 by omega), vp_in_nI (show i + 2 < L by omega) (show L < 2 ^ 31 by omega), vp_in_nI (show i + 3 < L by omega) (show L < 2 ^ 31 by omega), vp_in_nI (show i + 4 < L by omega) (show L < 2 ^ 31 by omega), nI_clamp (show L < 2 ^ 31 by omega), nI_clamp (show i < 2 ^ 31 by omega), nI_clamp (show i + 1 < 2 ^ 31 by omega), nI_clamp (show i + 2 < 2 ^ 31 by omega), nI_clamp (show i + 3 < 2 ^ 31 by omega), nI_clamp (show i + 4 < 2 ^ 31 by omega), nI_1, m_p2, m_p3, m_p4, m_p5, e1, e2]
set_option maxHeartbeats 1000000 in
theorem t9 {i L a P c t : Nat} {f : mF} {g : mG} (hL : L ≤ 2560) (hi : i + 5 ≤ L) (hl : f 1000001 0 = nI L) (R : m_lr a P c t f g) : ∃ f2 g2, (∀ k, 201 ≤ k → f2 k = f k) ∧ (∃ a P c t, m_lr a P c t f2 g2) ∧ ∀ (d : Nat) (Q : mQ), m_R (m_E (d + 40)) 101 0 0 Q 32 [some (.inr (some 1000000)), some (.inr (some 0)), some (.inr (some 170)), some (.inl (nI i))] [.inl 9] (m_SH, f, g) = m_R (m_E (d + 40)) 101 0 0 Q 18 [some (.inr (some 1000000)), some (.inr (some 0)), some (.inr (some 170)), some (.inl (nI (i + 5)))] [] (m_SH, f2, g2) := by
  obtain ⟨f1, g1, f2, r, a', P', c', t', e1, e2, L', k1, k2⟩ := l9 R 
  refine ⟨f2, g1, k2, ⟨a', P', c', t', L'⟩, fun d Q => ?_⟩
  have q0 := k1 1000000 (by decide)
  have q1 := k1 1000001 (by decide)
  simp only [↓r101_32_9, ↓r101_411, ↓r101_412, ↓r101_415, ↓r101_416, ↓r101_419, ↓r101_422, ↓r101_529, ↓r101_532, kC0, lC0, kC170, lC170, Option.toList, List.cons_append, List.nil_append, List.length_nil, List.length_cons, Nat.zero_le, m_l1, m_l2, m_l3, m_l4, m_l5, m_l6, if_true, eq_self, q0, q1, hl, vp_in_nI (show i < L by omega) (show L < 2 ^ 31 by omega), vp_in_nI (show i + 1 < L by omega) (show L < 2 ^ 31 by omega), vp_in_nI (show i + 2 < L by omega) (show L < 2 ^ 31 by omega), vp_in_nI (show i + 3 < L by omega) (show L < 2 ^ 31 by omega), vp_in_nI (show i + 4 < L by omega) (show L < 2 ^ 31 by omega), nI_clamp (show L < 2 ^ 31 by omega), nI_clamp (show i < 2 ^ 31 by omega), nI_clamp (show i + 1 < 2 ^ 31 by omega), nI_clamp (show i + 2 < 2 ^ 31 by omega), nI_clamp (show i + 3 < 2 ^ 31 by omega), nI_clamp (show i + 4 < 2 ^ 31 by omega), nI_1, m_p2, m_p3, m_p4, m_p5, e1, e2]
set_option maxHeartbeats 1000000 in
theorem t10 {i L a P c t : Nat} {f : mF} {g : mG} (hL : L ≤ 2560) (hi : i + 5 ≤ L) (hl : f 1000001 0 = nI L) (R : m_lr a P c t f g) : ∃ f2 g2, (∀ k, 201 ≤ k → f2 k = f k) ∧ (∃ a P c t, m_lr a P c t f2 g2) ∧ ∀ (d : Nat) (Q : mQ), m_R (m_E (d + 40)) 101 0 0 Q 32 [some (.inr (some 1000000)), some (.inr (some 0)), some (.inr (some 170)), some (.inl (nI i))] [.inl 10] (m_SH, f, g) = m_R (m_E (d + 40)) 101 0 0 Q 18 [some (.inr (some 1000000)), some (.inr (some 0)), some (.inr (some 170)), some (.inl (nI (i + 5)))] [] (m_SH, f2, g2) := by
  obtain ⟨f1, g1, f2, r, a', P', c', t', e1, e2, L', k1, k2⟩ := l10 R (f 1000000 (i + 1))
  refine ⟨f2, g1, k2, ⟨a', P', c', t', L'⟩, fun d Q => ?_⟩
  have q0 := k1 1000000 (by decide)
  have q1 := k1 1000001 (by decide)
  simp only [↓r101_32_10, ↓r101_424, ↓r101_425, ↓r101_426, ↓r101_427, ↓r101_428, ↓r101_429, ↓r101_430, ↓r101_433, ↓r101_434, ↓r101_435, ↓r101_436, ↓r101_437, ↓r101_438, ↓r101_439, ↓r101_442, ↓r101_445, ↓r101_529, ↓r101_532, kC0, lC0, kC170, lC170, Option.toList, List.cons_append, List.nil_append, List.length_nil, List.length_cons, Nat.zero_le, m_l1, m_l2, m_l3, m_l4, m_l5, m_l6, if_true, eq_self, q0, q1, hl, vp_in_nI (show i < L by omega) (show L < 2 ^ 31 by omega), vp_in_nI (show i + 1 < L by omega) (show L < 2 ^ 31 by omega), vp_in_nI (show i + 2 < L by omega) (show L < 2 ^ 31 by omega), vp_in_nI (show i + 3 < L by omega) (show L < 2 ^ 31 by omega), vp_in_nI (show i + 4 < L by omega) (show L < 2 ^ 31 by omega), nI_clamp (show L < 2 ^ 31 by omega), nI_clamp (show i < 2 ^ 31 by omega), nI_clamp (show i + 1 < 2 ^ 31 by omega), nI_clamp (show i + 2 < 2 ^ 31 by omega), nI_clamp (show i + 3 < 2 ^ 31 by omega), nI_clamp (show i + 4 < 2 ^ 31 by omega), nI_1, m_p2, m_p3, m_p4, m_p5, e1, e2]
set_option maxHeartbeats 1000000 in
theorem t11 {i L a P c t : Nat} {f : mF} {g : mG} (hL : L ≤ 2560) (hi : i + 5 ≤ L) (hl : f 1000001 0 = nI L) (R : m_lr a P c t f g) : ∃ f2 g2, (∀ k, 201 ≤ k → f2 k = f k) ∧ (∃ a P c t, m_lr a P c t f2 g2) ∧ ∀ (d : Nat) (Q : mQ), m_R (m_E (d + 40)) 101 0 0 Q 32 [some (.inr (some 1000000)), some (.inr (some 0)), some (.inr (some 170)), some (.inl (nI i))] [.inl 11] (m_SH, f, g) = m_R (m_E (d + 40)) 101 0 0 Q 18 [some (.inr (some 1000000)), some (.inr (some 0)), some (.inr (some 170)), some (.inl (nI (i + 5)))] [] (m_SH, f2, g2) := by
  obtain ⟨f1, g1, f2, r, a', P', c', t', e1, e2, L', k1, k2⟩ := l11 R (f 1000000 (i + 1))
  refine ⟨f2, g1, k2, ⟨a', P', c', t', L'⟩, fun d Q => ?_⟩
  have q0 := k1 1000000 (by decide)
  have q1 := k1 1000001 (by decide)
  simp only [↓r101_32_11, ↓r101_447, ↓r101_448, ↓r101_449, ↓r101_450, ↓r101_451, ↓r101_452, ↓r101_453, ↓r101_456, ↓r101_457, ↓r101_458, ↓r101_459, ↓r101_460, ↓r101_461, ↓r101_462, ↓r101_465, ↓r101_468, ↓r101_529, ↓r101_532, kC0, lC0, kC170, lC170, Option.toList, List.cons_append, List.nil_append, List.length_nil, List.length_cons, Nat.zero_le, m_l1, m_l2, m_l3, m_l4, m_l5, m_l6, if_true, eq_self, q0, q1, hl, vp_in_nI (show i < L by omega) (show L < 2 ^ 31 by omega), vp_in_nI (show i + 1 < L by omega) (show L < 2 ^ 31 by omega), vp_in_nI (show i + 2 < L by omega) (show L < 2 ^ 31 by omega), vp_in_nI (show i + 3 < L by omega) (show L < 2 ^ 31 by omega), vp_in_nI (show i + 4 < L by omega) (show L < 2 ^ 31 by omega), nI_clamp (show L < 2 ^ 31 by omega), nI_clamp (show i < 2 ^ 31 by omega), nI_clamp (show i + 1 < 2 ^ 31 by omega), nI_clamp (show i + 2 < 2 ^ 31 by omega), nI_clamp (show i + 3 < 2 ^ 31 by omega), nI_clamp (show i + 4 < 2 ^ 31 by omega), nI_1, m_p2, m_p3, m_p4, m_p5, e1, e2]
set_option maxHeartbeats 1000000 in
theorem t12 {i L a P c t : Nat} {f : mF} {g : mG} (hL : L ≤ 2560) (hi : i + 5 ≤ L) (hl : f 1000001 0 = nI L) (R : m_lr a P c t f g) : ∃ f2 g2, (∀ k, 201 ≤ k → f2 k = f k) ∧ (∃ a P c t, m_lr a P c t f2 g2) ∧ ∀ (d : Nat) (Q : mQ), m_R (m_E (d + 40)) 101 0 0 Q 32 [some (.inr (some 1000000)), some (.inr (some 0)), some (.inr (some 170)), some (.inl (nI i))] [.inl 12] (m_SH, f, g) = m_R (m_E (d + 40)) 101 0 0 Q 18 [some (.inr (some 1000000)), some (.inr (some 0)), some (.inr (some 170)), some (.inl (nI (i + 5)))] [] (m_SH, f2, g2) := by
  obtain ⟨f1, g1, f2, r, a', P', c', t', e1, e2, L', k1, k2⟩ := l12 R 
  refine ⟨f2, g1, k2, ⟨a', P', c', t', L'⟩, fun d Q => ?_⟩
  have q0 := k1 1000000 (by decide)
  have q1 := k1 1000001 (by decide)
  simp only [↓r101_32_12, ↓r101_470, ↓r101_471, ↓r101_474, ↓r101_475, ↓r101_478, ↓r101_481, ↓r101_529, ↓r101_532, kC0, lC0, kC170, lC170, Option.toList, List.cons_append, List.nil_append, List.length_nil, List.length_cons, Nat.zero_le, m_l1, m_l2, m_l3, m_l4, m_l5, m_l6, if_true, eq_self, q0, q1, hl, vp_in_nI (show i < L by omega) (show L < 2 ^ 31 by omega), vp_in_nI (show i + 1 < L by omega) (show L < 2 ^ 31 by omega), vp_in_nI (show i + 2 < L by omega) (show L < 2 ^ 31 by omega), vp_in_nI (show i + 3 < L by omega) (show L < 2 ^ 31 by omega), vp_in_nI (show i + 4 < L by omega) (show L < 2 ^ 31 by omega), nI_clamp (show L < 2 ^ 31 by omega), nI_clamp (show i < 2 ^ 31 by omega), nI_clamp (show i + 1 < 2 ^ 31 by omega), nI_clamp (show i + 2 < 2 ^ 31 by omega), nI_clamp (show i + 3 < 2 ^ 31 by omega), nI_clamp (show i + 4 < 2 ^ 31 by omega), nI_1, m_p2, m_p3, m_p4, m_p5, e1, e2]
set_option maxHeartbeats 1000000 in
theorem t13 {i L a P c t : Nat} {f : mF} {g : mG} (hL : L ≤ 2560) (hi : i + 5 ≤ L) (hl : f 1000001 0 = nI L) (R : m_lr a P c t f g) : ∃ f2 g2, (∀ k, 201 ≤ k → f2 k = f k) ∧ (∃ a P c t, m_lr a P c t f2 g2) ∧ ∀ (d : Nat) (Q : mQ), m_R (m_E (d + 40)) 101 0 0 Q 32 [some (.inr (some 1000000)), some (.inr (some 0)), some (.inr (some 170)), some (.inl (nI i))] [.inl 13] (m_SH, f, g) = m_R (m_E (d + 40)) 101 0 0 Q 18 [some (.inr (some 1000000)), some (.inr (some 0)), some (.inr (some 170)), some (.inl (nI (i + 5)))] [] (m_SH, f2, g2) := by
  obtain ⟨f1, g1, f2, r, a', P', c', t', e1, e2, L', k1, k2⟩ := l13 R (f 1000000 (i + 1))
  refine ⟨f2, g1, k2, ⟨a', P', c', t', L'⟩, fun d Q => ?_⟩
  have q0 := k1 1000000 (by decide)
  have q1 := k1 1000001 (by decide)
  simp only [↓r101_32_13, ↓r101_483, ↓r101_484, ↓r101_485, ↓r101_486, ↓r101_487, ↓r101_488, ↓r101_489, ↓r101_492, ↓r101_493, ↓r101_494, ↓r101_495, ↓r101_496, ↓r101_497, ↓r101_498, ↓r101_501, ↓r101_504, ↓r101_529, ↓r101_532, kC0, lC0, kC170, lC170, Option.toList, List.cons_append, List.nil_append, List.length_nil, List.length_cons, Nat.zero_le, m_l1, m_l2, m_l3, m_l4, m_l5, m_l6, if_true, eq_self, q0, q1, hl, vp_in_nI (show i < L by omega) (show L < 2 ^ 31 by omega), vp_in_nI (show i + 1 < L by omega) (show L < 2 ^ 31 by omega), vp_in_nI (show i + 2 < L by omega) (show L < 2 ^ 31 by omega), vp_in_nI (show i + 3 < L by omega) (show L < 2 ^ 31 by omega), vp_in_nI (show i + 4 < L by omega) (show L < 2 ^ 31 by omega), nI_clamp (show L < 2 ^ 31 by omega), nI_clamp (show i < 2 ^ 31 by omega), nI_clamp (show i + 1 < 2 ^ 31 by omega), nI_clamp (show i + 2 < 2 ^ 31 by omega), nI_clamp (show i + 3 < 2 ^ 31 by omega), nI_clamp (show i + 4 < 2 ^ 31 by omega), nI_1, m_p2, m_p3, m_p4, m_p5, e1, e2]
set_option maxHeartbeats 1000000 in
theorem t14 {i L a P c t : Nat} {f : mF} {g : mG} (hL : L ≤ 2560) (hi : i + 5 ≤ L) (hl : f 1000001 0 = nI L) (R : m_lr a P c t f g) : ∃ f2 g2, (∀ k, 201 ≤ k → f2 k = f k) ∧ (∃ a P c t, m_lr a P c t f2 g2) ∧ ∀ (d : Nat) (Q : mQ), m_R (m_E (d + 40)) 101 0 0 Q 32 [some (.inr (some 1000000)), some (.inr (some 0)), some (.inr (some 170)), some (.inl (nI i))] [.inl 14] (m_SH, f, g) = m_R (m_E (d + 40)) 101 0 0 Q 18 [some (.inr (some 1000000)), some (.inr (some 0)), some (.inr (some 170)), some (.inl (nI (i + 5)))] [] (m_SH, f2, g2) := by
  obtain ⟨f1, g1, f2, r, a', P', c', t', e1, e2, L', k1, k2⟩ := l14 R (f 1000000 (i + 1))
  refine ⟨f2, g1, k2, ⟨a', P', c', t', L'⟩, fun d Q => ?_⟩
  have q0 := k1 1000000 (by decide)
  have q1 := k1 1000001 (by decide)
  simp only [↓r101_32_14, ↓r101_506, ↓r101_507, ↓r101_508, ↓r101_509, ↓r101_510, ↓r101_511, ↓r101_512, ↓r101_515, ↓r101_516, ↓r101_517, ↓r101_518, ↓r101_519, ↓r101_520, ↓r101_521, ↓r101_524, ↓r101_527, ↓r101_529, ↓r101_532, kC0, lC0, kC170, lC170, Option.toList, List.cons_append, List.nil_append, List.length_nil, List.length_cons, Nat.zero_le, m_l1, m_l2, m_l3, m_l4, m_l5, m_l6, if_true, eq_self, q0, q1, hl, vp_in_nI (show i < L by omega) (show L < 2 ^ 31 by omega), vp_in_nI (show i + 1 < L by omega) (show L < 2 ^ 31 by omega), vp_in_nI (show i + 2 < L by omega) (show L < 2 ^ 31 by omega), vp_in_nI (show i + 3 < L by omega) (show L < 2 ^ 31 by omega), vp_in_nI (show i + 4 < L by omega) (show L < 2 ^ 31 by omega), nI_clamp (show L < 2 ^ 31 by omega), nI_clamp (show i < 2 ^ 31 by omega), nI_clamp (show i + 1 < 2 ^ 31 by omega), nI_clamp (show i + 2 < 2 ^ 31 by omega), nI_clamp (show i + 3 < 2 ^ 31 by omega), nI_clamp (show i + 4 < 2 ^ 31 by omega), nI_1, m_p2, m_p3, m_p4, m_p5, e1, e2]
theorem t15 {i L a P c t : Nat} {f : mF} {g : mG} (hL : L ≤ 2560) (hi : i + 5 ≤ L) (hl : f 1000001 0 = nI L) (R : m_lr a P c t f g) : ∃ f2 g2, (∀ k, 201 ≤ k → f2 k = f k) ∧ (∃ a P c t, m_lr a P c t f2 g2) ∧ ∀ (d : Nat) (Q : mQ), m_R (m_E (d + 40)) 101 0 0 Q 32 [some (.inr (some 1000000)), some (.inr (some 0)), some (.inr (some 170)), some (.inl (nI i))] [.inl 15] (m_SH, f, g) = m_R (m_E (d + 40)) 101 0 0 Q 18 [some (.inr (some 1000000)), some (.inr (some 0)), some (.inr (some 170)), some (.inl (nI (i + 5)))] [] (m_SH, f2, g2) := ⟨f, g, fun _ _ => rfl, ⟨a, P, c, t, R⟩, fun d Q => by simp only [↓r101_32_15, ↓r101_529, ↓r101_532, m_p5]⟩
theorem t_all {i L a P c t : Nat} {f : mF} {g : mG} (hL : L ≤ 2560) (hi : i + 5 ≤ L) (hl : f 1000001 0 = nI L) (R : m_lr a P c t f g) (w : Int32) (hw : ∃ n, n < 16 ∧ w = nI n) : ∃ f2 g2, (∀ k, 201 ≤ k → f2 k = f k) ∧ (∃ a P c t, m_lr a P c t f2 g2) ∧ ∀ (d : Nat) (Q : mQ), m_R (m_E (d + 40)) 101 0 0 Q 32 [some (.inr (some 1000000)), some (.inr (some 0)), some (.inr (some 170)), some (.inl (nI i))] [.inl w] (m_SH, f, g) = m_R (m_E (d + 40)) 101 0 0 Q 18 [some (.inr (some 1000000)), some (.inr (some 0)), some (.inr (some 170)), some (.inl (nI (i + 5)))] [] (m_SH, f2, g2) := by
  obtain ⟨n, hn, rfl⟩ := hw
  rcases (by omega : n = 0 ∨ n = 1 ∨ n = 2 ∨ n = 3 ∨ n = 4 ∨ n = 5 ∨ n = 6 ∨ n = 7 ∨ n = 8 ∨ n = 9 ∨ n = 10 ∨ n = 11 ∨ n = 12 ∨ n = 13 ∨ n = 14 ∨ n = 15) with rfl | rfl | rfl | rfl | rfl | rfl | rfl | rfl | rfl | rfl | rfl | rfl | rfl | rfl | rfl | rfl
  · exact t0 hL hi hl R
  · exact t1 hL hi hl R
  · exact t2 hL hi hl R
  · exact t3 hL hi hl R
  · exact t4 hL hi hl R
  · exact t5 hL hi hl R
  · exact t6 hL hi hl R
  · exact t7 hL hi hl R
  · exact t8 hL hi hl R
  · exact t9 hL hi hl R
  · exact t10 hL hi hl R
  · exact t11 hL hi hl R
  · exact t12 hL hi hl R
  · exact t13 hL hi hl R
  · exact t14 hL hi hl R
  · exact t15 hL hi hl R
theorem law_loop {d L : Nat} (hL : L ≤ 2560) : ∀ (n i : Nat) (f : mF) (g : mG), (∃ a P c t, m_lr a P c t f g) → f 1000001 0 = nI L → L ≤ i + n → i ≤ 3000 → m_R (m_E (d + 40)) 101 0 0 (fun r _ => r = some (.inl 1)) 18 [some (.inr (some 1000000)), some (.inr (some 0)), some (.inr (some 170)), some (.inl (nI i))] [] (m_SH, f, g) := by
  intro n
  have ex : ∀ (i : Nat) (f : mF) (g : mG), f 1000001 0 = nI L → ¬ i + 5 ≤ L → i ≤ 3000 → m_R (m_E (d + 40)) 101 0 0 (fun r _ => r = some (.inl 1)) 18 [some (.inr (some 1000000)), some (.inr (some 0)), some (.inr (some 170)), some (.inl (nI i))] [] (m_SH, f, g) := by
    intro i f g hl hi h3
    have y : (nI L - 5 < nI i) = True := (m_lcond hL h3).trans (eq_true hi)
    simp only [↓r101_18, ↓r101_19, ↓r101_20, ↓r101_21, ↓r101_22, ↓r101_23, ↓r101_535, hl, y, if_true]
    rw [r101_536 (Or.inr rfl)]
  induction n with
  | zero => intro i f g R hl hn h3; exact ex i f g hl (by omega) h3
  | succ n ih =>
    intro i f g R hl hn h3
    by_cases hi : i + 5 ≤ L
    · obtain ⟨a, P, c, t, R⟩ := R
      obtain ⟨f2, g2, k2, R2, e⟩ := t_all hL hi hl R (f 1000000 i &&& 15) (m_and15 _)
      have y : (nI L - 5 < nI i) = False := (m_lcond hL h3).trans (eq_false (fun q => q hi))
      simp only [↓r101_18, ↓r101_19, ↓r101_20, ↓r101_21, ↓r101_22, ↓r101_23, ↓r101_26, ↓r101_27, ↓r101_28, ↓r101_29, ↓r101_31, hl, y, if_false, vp_in_nI (show i < L by omega) (show L < 2 ^ 31 by omega), nI_clamp (show L < 2 ^ 31 by omega), nI_clamp (show i < 2 ^ 31 by omega)]
      rw [e]
      exact ih (i + 5) f2 g2 R2 (by rw [k2 1000001 (by decide)]; exact hl) (by omega) (by omega)
    · exact ex i f g hl hi h3
