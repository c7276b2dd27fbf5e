/-! the pure law -/
theorem m_dkl (f : mF) (g : mG) : (m_dkW ([(0, 0)], f, g)).1 = [(0, 0), (0, 1), (1, 16), (3, 10), (1, 4), (4, 10)] ++ m_rep 10 ++ [(0, 5)] ++ [(1, 128)] ++ [(1, 128)] ++ [(1, 4)] := by
  show ((((m_dk7 ([(0, 0)], f, g)).1 ++ [(0, 5)]) ++ [(1, 128)]) ++ [(1, 128)]) ++ [(1, 4)] = _
  rw [m_dk7l]
def m_s0 : List (Nat × Nat) := [(0, 0), (0, 1), (1, 16), (3, 10), (1, 4), (4, 10)] ++ m_rep 10 ++ [(0, 5)] ++ [(1, 128)] ++ [(1, 128)] ++ [(1, 4)]
theorem m_s0n : m_s0.length = 170 := by decide +kernel
theorem m_s0s : m_sl m_s0 = 1253 := by decide +kernel
theorem m_s1k : (m_s0 ++ [(0, 6)])[170]? = some (0, 6) := by decide +kernel
theorem m_s1n : (m_s0 ++ [(0, 6)]).length = 171 := by decide +kernel
theorem m_s1s : m_sl (m_s0 ++ [(0, 6)]) = 1290 := by decide +kernel
theorem m_s2 : (m_s0 ++ [(0, 6)]) ++ m_ML.map (fun q => q.1) = m_SH := by decide +kernel
theorem m_SHk : m_SH[170]? = some (0, 6) := by decide +kernel
theorem m_SHu : m_SH[171]? = some (1, 16) := by decide +kernel
theorem m_und_r (f : mF) (k j : Nat) : m_und 171 f k j = if k = 171 then (if j < 10 then m_fpi j else f 171 j) else f k j := by
  unfold m_und m_si
  by_cases e : k = 171
  · subst e
    rw [if_pos rfl]
    by_cases h : j < 10
    · rw [if_pos h]
      rcases (by omega : j = 0 ∨ j = 1 ∨ j = 2 ∨ j = 3 ∨ j = 4 ∨ j = 5 ∨ j = 6 ∨ j = 7 ∨ j = 8 ∨ j = 9) with rfl | rfl | rfl | rfl | rfl | rfl | rfl | rfl | rfl | rfl <;> rfl
    · rw [if_neg h]
      repeat rw [if_neg (by omega)]
  · rw [if_neg e]
    repeat rw [if_neg (fun q => e q.1)]
theorem m_fpi10 {j : Nat} (h : ¬ j < 10) : m_fpi j = 0 := by
  unfold m_fpi
  rw [List.getD_eq_getElem?_getD, List.getElem?_eq_none (by show 10 ≤ j; omega)]
  rfl
def m_bq (c n : Nat) : Bool := !m_dm c n || decide (m_bf (m_ka c n).1 (m_ka c n).2 = m_bf c n)
theorem m_bq_all : ∀ c, c < 201 → ∀ n, n < 128 → m_bq c n = true := by decide +kernel
/-- new objects are alike -/
theorem m_lr_new {f : mF} {g : mG} (hg : m_go_ g) (hf : ∀ k j, k < 201 → f k j = m_bf k j) : m_lr 10 0 0 0 f g := by
  have z : ∀ k j, 172 ≤ k → k < 201 → f k j = 0 := fun k j h1 h2 => by
    rw [hf k j h2]
    unfold m_bf
    rw [if_neg (by omega), m_bs0 (by omega) (by omega)]
  have z170 : ∀ j, j ≠ 0 → f 170 j = 0 := fun j hj => by
    rw [hf 170 j (by decide)]
    unfold m_bf m_bs
    rw [if_neg (by decide), if_neg (by omega), if_neg (by decide), if_neg (by omega)]
  refine ⟨m_ok_mk (fun c n hd => ?_) hg (fun n => ⟨Or.inl (z 190 n (by decide) (by decide)), Or.inl (z 192 n (by decide) (by decide)), Or.inl (z 193 n (by decide) (by decide)), Or.inl (z 197 n (by decide) (by decide))⟩) (fun n _ => ⟨0, by decide, z 198 n (by decide) (by decide)⟩) (z170 13 (by decide)) (z170 14 (by decide)), ⟨?_, by decide, by decide, fun j hj => ?_, z170 2 (by decide), by decide, fun m hm => ⟨⟨0, by decide, z 172 m (by decide) (by decide)⟩, ⟨0, by decide, z 173 m (by decide) (by decide)⟩, 0, by decide, z 176 m (by decide) (by decide), fun p hp => absurd hp (Nat.not_lt_zero p)⟩, fun j _ => Or.inl (z 175 j (by decide) (by decide))⟩, by decide⟩
  · have q := m_bq_all c (m_dm_lt hd).1 n (m_dm_lt hd).2.1
    simp only [m_bq, hd, Bool.not_true, Bool.false_or, decide_eq_true_eq] at q
    rw [hf _ _ (by have := m_mk2 hd; omega), hf c n (m_dm_lt hd).1]
    exact q
  · rw [hf 170 0 (by decide)]
    rfl
  · rw [hf 171 j (by decide)]
    show m_fpi j < 0 ∨ ¬ nI 10 ≤ m_fpi j
    rcases (by omega : j = 0 ∨ j = 1 ∨ j = 2 ∨ j = 3 ∨ j = 4 ∨ j = 5 ∨ j = 6 ∨ j = 7 ∨ j = 8 ∨ j = 9) with rfl | rfl | rfl | rfl | rfl | rfl | rfl | rfl | rfl | rfl <;> decide
theorem m_weta (w : mW) {s : List (Nat × Nat)} (h : w.1 = s) : ∃ f g, w = (s, f, g) := ⟨w.2.1, w.2.2, by rw [← h]⟩
theorem m_zr0 : m_zr (fun _ _ => none) 0 = fun _ _ => none := by
  funext a b
  unfold m_zr
  split <;> rfl
theorem m_pi0 (f : mF) (g : mG) : pi_ ([(0, 0)], f, g) = (1, g) := rfl
theorem m_pi1 (f : mF) (g : mG) : pi_ (m_s0 ++ [(0, 6)], f, m_zr g 170) = gO (pi_ (m_s0, f, g)) := by
  unfold pi_ gO
  rw [m_s1n, m_s0n]
theorem m_mkA (f0 : mF) : ∃ f1 g1, m_dkW ([(0, 0)], m_zi f0 0, m_zr (fun _ _ => none) 0) = (m_s0, f1, g1) ∧ m_I f0 170 (m_s0, f1, g1) ∧ pi_ (m_s0, f1, g1) = gDk (1, fun _ _ => none) := by
  obtain ⟨f1, g1, hw⟩ := m_weta (s := m_s0) (m_dkW ([(0, 0)], m_zi f0 0, m_zr (fun _ _ => none) 0)) (m_dkl (m_zi f0 0) (m_zr (fun _ _ => none) 0))
  refine ⟨f1, g1, hw, ?_, ?_⟩
  · rw [← hw]; exact I_dk
  · rw [← hw, pi_dk, m_pi0, m_zr0]
theorem m_mkI {f0 f1 : mF} {g1 : mG} (I1 : m_I f0 170 (m_s0, f1, g1)) : m_I f0 171 (m_s0 ++ [(0, 6)], m_si (m_zi f1 170) 170 0 10, m_zr g1 170) := by
  refine ⟨m_s1n, fun k j => ?_⟩
  have q : f1 k j = if k < 170 then m_bs k j else f0 k j := I1.2 k j
  show m_si (m_zi f1 170) 170 0 10 k j = _
  unfold m_si m_zi
  rw [q]
  by_cases e : k = 170
  · subst e
    rw [if_pos (show 170 < 171 by decide), if_pos rfl]
    unfold m_bs
    by_cases e2 : j = 0
    · subst e2; rfl
    · rw [if_neg (by omega), if_neg (by omega), if_neg (by decide)]
      try rw [if_neg (by omega)]
  · rw [if_neg (fun q => e q.1), if_neg e]
    by_cases e2 : k < 170
    · rw [if_pos e2, if_pos (by omega)]
    · rw [if_neg e2, if_neg (by omega)]
theorem m_mkB {f0 f1 : mF} {g1 : mG} (I1 : m_I f0 170 (m_s0, f1, g1)) (P1 : pi_ (m_s0, f1, g1) = gDk (1, fun _ _ => none)) : ∃ f2 g2, m_fold m_ML 170 (m_s0 ++ [(0, 6)], m_si (m_zi f1 170) 170 0 10, m_zr g1 170) = (m_SH, f2, g2) ∧ m_I f0 201 (m_SH, f2, g2) ∧ m_go_ g2 := by
  obtain ⟨f2, g2, hw2⟩ := m_weta (m_fold m_ML 170 (m_s0 ++ [(0, 6)], m_si (m_zi f1 170) 170 0 10, m_zr g1 170)) ((m_foldl 170 m_ML _).trans m_s2)
  refine ⟨f2, g2, hw2, ?_, ?_⟩
  · have q := I_fold 170 m_ML 171 _ (m_mkI I1) (by decide)
    rw [hw2] at q
    exact q
  · have q : pi_ (m_SH, f2, g2) = gAll := by
      rw [← hw2, pi_fold, m_pi1]
      unfold gAll
      rw [← P1]
      rfl
    have q2 : g2 = gAll.2 := by rw [← q]; rfl
    rw [q2]
    exact gAll_go
theorem m_mkF {f0 f2 : mF} {g2 : mG} (I3 : m_I f0 201 (m_SH, f2, g2)) : (∀ k j, k < 201 → m_und 171 f2 k j = m_bf k j) ∧ ∀ k, 201 ≤ k → m_und 171 f2 k = f0 k := by
  have q : ∀ k j, f2 k j = if k < 201 then m_bs k j else f0 k j := I3.2
  refine ⟨fun k j hk => ?_, fun k hk => funext (fun j => ?_)⟩
  · rw [m_und_r, q, q]
    unfold m_bf
    by_cases e : k = 171
    · rw [if_pos e, if_pos e]
      by_cases h : j < 10
      · rw [if_pos h]
      · rw [if_neg h, if_pos (by decide), m_bs0 (by decide) (by decide), m_fpi10 h]
    · rw [if_neg e, if_neg e, if_pos hk]
  · rw [m_und_r, if_neg (by omega), q, if_neg (by omega)]
theorem m_runA {f0 f1 : mF} {g1 : mG} (hw : m_dkW ([(0, 0)], m_zi f0 0, m_zr (fun _ _ => none) 0) = (m_s0, f1, g1)) (d : Nat) (Q : mQ) : m_R (m_E (d + 40)) 101 0 0 Q 0 [some (.inr (some 1000000)), none, none, none] [] ([], f0, fun _ _ => none) = m_R (m_E (d + 40)) 101 0 0 Q 7 [some (.inr (some 1000000)), none, none, none] [.inr (some 0)] (m_s0, f1, g1) := by
  rw [r101_0 (by decide) (by decide) (by decide)]
  show m_R (m_E (d + 40)) 101 0 0 Q 3 [some (.inr (some 1000000)), none, none, none] [.inr (some 0)] ([(0, 0)], m_zi f0 0, m_zr (fun _ _ => none) 0) = _
  rw [r101_3 (f := f0) (g := g1), r101_4 (f := f0) (g := g1) (by decide) (by show [(0, 0)].length + (m_bg 2).1 ≤ 0 + (m_bg 101).1; decide) (by show m_sl [(0, 0)] + (m_bg 2).2 ≤ 0 + (m_bg 101).2; decide)]
  refine (c2 (d := d + 36)).trans ?_
  rw [hw]
  rfl
theorem m_runB {f1 : mF} {g1 : mG} (d : Nat) (Q : mQ) : m_R (m_E (d + 40)) 101 0 0 Q 7 [some (.inr (some 1000000)), none, none, none] [.inr (some 0)] (m_s0, f1, g1) = m_E (d + 40) 62 [.inr (some 170)] (m_s0 ++ [(0, 6)], m_zi f1 170, m_zr g1 170) (fun r w => m_R (m_E (d + 40)) 101 0 0 Q 15 [some (.inr (some 1000000)), some (.inr (some 0)), none, none] (r.toList ++ [.inr (some 170)]) w) := by
  rw [r101_7 (f := f1) (g := g1), r101_8 (by rw [m_s0n]; decide) (by rw [m_s0n]; decide) (by rw [m_s0s]; decide), m_s0n, r101_11 (f := f1) (g := g1), r101_12 (f := f1) (g := g1) (by decide) (by show (m_s0 ++ [(0, 6)]).length + _ ≤ _; rw [m_s1n]; decide) (by show m_sl (m_s0 ++ [(0, 6)]) + _ ≤ _; rw [m_s1s]; decide)]
theorem m_runC {f1 f2 : mF} {g1 g2 : mG} (hw2 : m_fold m_ML 170 (m_s0 ++ [(0, 6)], m_si (m_zi f1 170) 170 0 10, m_zr g1 170) = (m_SH, f2, g2)) (hg : m_go_ g2) (d : Nat) (Q : mQ) : m_E (d + 40) 62 [.inr (some 170)] (m_s0 ++ [(0, 6)], m_zi f1 170, m_zr g1 170) Q = Q none (m_SH, m_und 171 f2, g2) := by
  refine (c62_arr (d := d + 39) m_s1k (by rw [m_s1n]; decide)).trans ?_
  rw [hw2]
  exact c62_und (u := 171) (m_SH, f2, g2) m_SHk (gC170_1 hg) m_SHu (by rw [m_s1n]; exact m_SHn) (by rw [m_s1s]; exact m_SHs)
theorem m_runD {f : mF} {g : mG} (d : Nat) (Q : mQ) : m_R (m_E (d + 40)) 101 0 0 Q 15 [some (.inr (some 1000000)), some (.inr (some 0)), none, none] [.inr (some 170)] (m_SH, f, g) = m_R (m_E (d + 40)) 101 0 0 Q 18 [some (.inr (some 1000000)), some (.inr (some 0)), some (.inr (some 170)), some (.inl (nI 0))] [] (m_SH, f, g) := by
  rw [r101_15 (f := f) (g := g), r101_16, r101_17]
  rfl
theorem m_made (f0 : mF) : ∃ f g, m_lr 10 0 0 0 f g ∧ (∀ k, 201 ≤ k → f k = f0 k) ∧ ∀ (d : Nat) (Q : mQ), m_R (m_E (d + 40)) 101 0 0 Q 0 [some (.inr (some 1000000)), none, none, none] [] ([], f0, fun _ _ => none) = m_R (m_E (d + 40)) 101 0 0 Q 18 [some (.inr (some 1000000)), some (.inr (some 0)), some (.inr (some 170)), some (.inl (nI 0))] [] (m_SH, f, g) := by
  obtain ⟨f1, g1, hw, I1, P1⟩ := m_mkA f0
  obtain ⟨f2, g2, hw2, I3, G3⟩ := m_mkB I1 P1
  obtain ⟨a1, a2⟩ := m_mkF I3
  exact ⟨m_und 171 f2, g2, m_lr_new G3 a1, a2, fun d Q => (m_runA hw d Q).trans ((m_runB d Q).trans ((m_runC hw2 G3 d _).trans (m_runD d Q)))⟩
theorem m_pure_all (L : Nat) (xs : Nat → Int32) (hL : L ≤ 2560) : m_pure L xs := by
  obtain ⟨f, g, R, k, e⟩ := m_made (m_w0 L xs)
  unfold m_pure
  refine (Eq.mpr (e 20 _) ?_)
  refine law_loop hL L 0 f g ⟨10, 0, 0, 0, R⟩ ?_ (by omega) (by omega)
  rw [k 1000001 (by decide)]
  rfl
