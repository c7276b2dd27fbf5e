/-! the desk's loop over plans and frames -/
def m_b3 (i : Nat) (w : mW) : mW := m_wr 3 i (some w.1.length) (m_plW w.1.length (m_nO (0, 2) w))
def m_blk (i : Nat) (w : mW) : mW := m_wr 5 i (some (m_b3 i w).1.length) (m_frW (m_b3 i w).1.length (m_nO (0, 4) (m_b3 i w)))
theorem m_b3l {i : Nat} {sh : List (Nat × Nat)} {f : Nat → Nat → Int32} {g : Nat → Nat → Option Nat} : (m_b3 i (sh, f, g)).1 = sh ++ [(0, 2), (1, 3), (2, 3), (1, 8), (1, 8), (1, 8)] := by
  simp [m_b3, m_frW, m_txW, m_plW, m_joW, m_nA, m_nO, m_wr]
theorem m_blkl {i : Nat} {sh : List (Nat × Nat)} {f : Nat → Nat → Int32} {g : Nat → Nat → Option Nat} : (m_blk i (sh, f, g)).1 = sh ++ [(0, 2), (1, 3), (2, 3), (1, 8), (1, 8), (1, 8), (0, 4), (0, 3), (1, 4), (2, 4), (2, 4), (2, 4), (1, 8), (2, 8), (1, 4), (2, 4)] := by
  simp [m_blk, m_b3, m_frW, m_txW, m_plW, m_joW, m_nA, m_nO, m_wr]
theorem m_b3g {i : Nat} {sh : List (Nat × Nat)} {f : Nat → Nat → Int32} {g : Nat → Nat → Option Nat} (hn : 6 ≤ sh.length) (j : Nat) : (m_b3 i (sh, f, g)).2.2 0 j = g 0 j := by
  have h0 : ¬ 0 = sh.length := by omega
  simp [m_b3, m_frW, m_txW, m_plW, m_joW, m_nA, m_nO, m_wr, m_sr, m_zr, h0]
theorem m_blkg {i : Nat} {sh : List (Nat × Nat)} {f : Nat → Nat → Int32} {g : Nat → Nat → Option Nat} (hn : 6 ≤ sh.length) (j : Nat) : (m_blk i (sh, f, g)).2.2 0 j = g 0 j := by
  have h0 : ¬ 0 = sh.length := by omega
  simp [m_blk, m_b3, m_frW, m_txW, m_plW, m_joW, m_nA, m_nO, m_wr, m_sr, m_zr, h0]
theorem m_sl_l (l1 l2 : List (Nat × Nat)) : m_sl (l1 ++ l2) = m_sl l1 + m_sl l2 := by
  unfold m_sl
  rw [List.map_append, List.sum_append]
set_option maxRecDepth 4000 in
theorem c2_iter {d N S i : Nat} {Q : mQ} {sh : List (Nat × Nat)} {f : Nat → Nat → Int32} {g : Nat → Nat → Option Nat} (h0 : sh[0]? = some (0, 0)) (h3 : sh[3]? = some (3, 10)) (h5 : sh[5]? = some (4, 10)) (hg1 : g 0 1 = some 3) (hg4 : g 0 4 = some 5) (hn : 6 ≤ sh.length) (hi : i < 10) (hN : sh.length + 16 ≤ N + 169) (hS : m_sl sh + 94 ≤ S + 1245) (hl : sh.length + 16 ≤ 1000000) : m_R (m_E (d + 2)) 2 N S Q 42 [some (.inr (some 0)), some (.inl (nI i))] [] (sh, f, g) = m_R (m_E (d + 2)) 2 N S Q 42 [some (.inr (some 0)), some (.inl (nI (i + 1)))] [] (m_blk i (sh, f, g)) := by
  have hc : ¬ (10 : Int32) ≤ nI i := nI_ge (a := i) (b := 10) hi (by decide)
  have hv : vp_in (nI i) 10 := vp_in_nI hi (by decide)
  have hcl : (nI i).toNatClampNeg = i := nI_clamp (by omega)
  have e3 : (m_b3 i (sh, f, g)).1.length = sh.length + 6 := by rw [m_b3l, List.length_append]; rfl
  have s3 : m_sl (m_b3 i (sh, f, g)).1 = m_sl sh + 38 := by rw [m_b3l, m_sl_l]; rfl
  have k0 : (m_b3 i (sh, f, g)).1[0]? = some (0, 0) := by rw [m_b3l]; exact m_ap h0
  have k5 : (m_b3 i (sh, f, g)).1[5]? = some (4, 10) := by rw [m_b3l]; exact m_ap h5
  have eb : (m_blk i (sh, f, g)).1.length = sh.length + 16 := by rw [m_blkl, List.length_append]; rfl
  rw [r2_42, r2_43, r2_45, if_neg hc, r2_48, r2_49 h0, hg1, r2_52, r2_53, r2_56, r2_57, c3]
  · show m_R (m_E (d + 2)) 2 N S Q 60 [some (.inr (some 0)), some (.inl (nI i))] [.inr (some sh.length), .inl (nI i), .inr (some 3)] ((m_plW sh.length (m_nO (0, 2) (sh, f, g))).1, (m_plW sh.length (m_nO (0, 2) (sh, f, g))).2.1, (m_plW sh.length (m_nO (0, 2) (sh, f, g))).2.2) = _
    rw [r2_60 (t := 3) (nn := 10), hcl]
    · show m_R (m_E (d + 2)) 2 N S Q 61 [some (.inr (some 0)), some (.inl (nI i))] [] ((m_b3 i (sh, f, g)).1, (m_b3 i (sh, f, g)).2.1, (m_b3 i (sh, f, g)).2.2) = _
      rw [r2_61, r2_62 k0, m_b3g hn 4, hg4, r2_65, r2_66, r2_69, r2_70, c4]
      · show m_R (m_E (d + 2)) 2 N S Q 73 [some (.inr (some 0)), some (.inl (nI i))] [.inr (some (m_b3 i (sh, f, g)).1.length), .inl (nI i), .inr (some 5)] ((m_frW (m_b3 i (sh, f, g)).1.length (m_nO (0, 4) (m_b3 i (sh, f, g)))).1, (m_frW (m_b3 i (sh, f, g)).1.length (m_nO (0, 4) (m_b3 i (sh, f, g)))).2.1, (m_frW (m_b3 i (sh, f, g)).1.length (m_nO (0, 4) (m_b3 i (sh, f, g)))).2.2) = _
        rw [r2_73 (t := 4) (nn := 10), hcl, r2_74, r2_77, nI_1]
        · rfl
        · exact m_ap (m_ap (m_ap (m_ap (m_ap (m_ap (m_ap (m_ap (m_ap (m_ap k5)))))))))
        · exact Or.inr rfl
        · exact m_ap (m_ap (m_ap (m_ap (m_ap (m_ap (m_ap (m_ap (m_ap m_apn))))))))
        · exact hv
      · exact m_apn
      · rw [List.length_append, e3]; simp only [List.length_cons, List.length_nil]; omega
      all_goals (first | decide | exact Nat.le_of_ble_eq_true rfl | (rw [m_bg4]; rw [List.length_append, e3]; simp only [List.length_cons, List.length_nil]; rw [m_bg2]; omega) | (rw [m_bg4]; rw [m_sl_app, s3, m_szo4, m_bg2]; omega) | (rw [e3, m_bg2]; omega) | (rw [e3]; omega) | (rw [s3, m_bg2]; omega))
    · exact m_ap (m_ap (m_ap (m_ap (m_ap (m_ap h3)))))
    · exact Or.inl rfl
    · exact m_ap (m_ap (m_ap (m_ap (m_ap m_apn))))
    · exact hv
  · exact m_apn
  · rw [List.length_append]; simp only [List.length_cons, List.length_nil]; omega
  all_goals (first | decide | exact Nat.le_of_ble_eq_true rfl | (rw [m_bg3, m_bg2, List.length_append]; simp only [List.length_cons, List.length_nil]; omega) | (rw [m_bg3, m_bg2, m_sl_app, m_szo2]; omega) | (rw [m_bg2]; omega) | omega)
/-- Kinds's constructor as an equation -/
def m_kiW (k : Nat) (w : mW) : mW := (w.1 ++ [(1, 16)], m_si (fun a b => if a = w.1.length then m_fpi b else w.2.1 a b) k 1 10, m_sr (m_zr w.2.2 w.1.length) k 0 (some w.1.length))
theorem c1 {d : Nat} {Q : mQ} {w : mW} {k : Nat} (hd : 2 ≤ d) (hk : w.1[k]? = some (0, 1)) (hl : w.1.length < 1000000) : m_E (d + 1) 1 [.inr (some k)] w Q = Q none (m_kiW k w) := by
  unfold m_E
  rw [if_pos rfl]
  exact propext ⟨fun h => h.2.2.2, fun h => ⟨hd, hk, hl, h⟩⟩
theorem m_sl16 : m_sl [(0, 2), (1, 3), (2, 3), (1, 8), (1, 8), (1, 8), (0, 4), (0, 3), (1, 4), (2, 4), (2, 4), (2, 4), (1, 8), (2, 8), (1, 4), (2, 4)] = 94 := by decide
def m_blks : Nat → Nat → mW → mW
  | 0, _, w => w
  | n + 1, i, w => m_blks n (i + 1) (m_blk i w)
theorem c2_loop {d N S : Nat} {Q : mQ} : ∀ (n i : Nat) (sh : List (Nat × Nat)) (f : Nat → Nat → Int32) (g : Nat → Nat → Option Nat), i + n = 10 → sh[0]? = some (0, 0) → sh[3]? = some (3, 10) → sh[5]? = some (4, 10) → g 0 1 = some 3 → g 0 4 = some 5 → sh.length = 6 + 16 * i → N + 168 ≥ 5 + 16 * 10 → m_sl sh + 94 * n ≤ S + 1245 → m_R (m_E (d + 2)) 2 N S Q 42 [some (.inr (some 0)), some (.inl (nI i))] [] (sh, f, g) = m_R (m_E (d + 2)) 2 N S Q 42 [some (.inr (some 0)), some (.inl (nI 10))] [] (m_blks n i (sh, f, g)) := by
  intro n
  induction n with
  | zero =>
    intro i sh f g hi _ _ _ _ _ _ _ _
    rw [show i = 10 by omega]
    rfl
  | succ n ih =>
    intro i sh f g hi h0 h3 h5 hg1 hg4 hn hN hS
    rw [c2_iter h0 h3 h5 hg1 hg4 (by omega) (by omega) (by omega) (by omega) (by omega)]
    show _ = m_R (m_E (d + 2)) 2 N S Q 42 [some (.inr (some 0)), some (.inl (nI 10))] [] (m_blks n (i + 1) (m_blk i (sh, f, g)))
    exact ih (i + 1) (m_blk i (sh, f, g)).1 (m_blk i (sh, f, g)).2.1 (m_blk i (sh, f, g)).2.2 (by omega) (by rw [m_blkl]; exact m_ap h0) (by rw [m_blkl]; exact m_ap h3) (by rw [m_blkl]; exact m_ap h5) (by rw [m_blkg (by omega)]; exact hg1) (by rw [m_blkg (by omega)]; exact hg4) (by rw [m_blkl, List.length_append, hn]; simp only [List.length_cons, List.length_nil]; omega) hN (by rw [m_blkl, m_sl_l, m_sl16]; omega)
