/-! the desk's constructor -/
def m_dk6 (w : mW) : mW := m_nA (4, 10) 0 4 (m_nA (1, 4) 0 3 (m_nA (3, 10) 0 1 (m_wr 0 0 (some 1) (m_kiW 1 (m_nO (0, 1) w)))))
def m_dk7 (w : mW) : mW := m_blks 10 0 (m_dk6 w)
def m_dkW (w : mW) : mW := m_nA (1, 4) 0 6 (m_wr 0 5 (some (m_dk7 w).1.length) (m_joW (m_dk7 w).1.length (m_nO (0, 5) (m_dk7 w))))
def m_bl16 : List (Nat × Nat) := [(0, 2), (1, 3), (2, 3), (1, 8), (1, 8), (1, 8), (0, 4), (0, 3), (1, 4), (2, 4), (2, 4), (2, 4), (1, 8), (2, 8), (1, 4), (2, 4)]
def m_rep : Nat → List (Nat × Nat)
  | 0 => []
  | n + 1 => m_bl16 ++ m_rep n
theorem m_blksl : ∀ (n i : Nat) (sh : List (Nat × Nat)) (f : Nat → Nat → Int32) (g : Nat → Nat → Option Nat), (m_blks n i (sh, f, g)).1 = sh ++ m_rep n := by
  intro n
  induction n with
  | zero => intro i sh f g; show sh = _; simp [m_rep]
  | succ n ih =>
    intro i sh f g
    exact (ih (i + 1) (m_blk i (sh, f, g)).1 (m_blk i (sh, f, g)).2.1 (m_blk i (sh, f, g)).2.2).trans (by rw [m_blkl, List.append_assoc]; rfl)
theorem m_blksg : ∀ (n i : Nat) (sh : List (Nat × Nat)) (f : Nat → Nat → Int32) (g : Nat → Nat → Option Nat), 6 ≤ sh.length → ∀ j, (m_blks n i (sh, f, g)).2.2 0 j = g 0 j := by
  intro n
  induction n with
  | zero => intro i sh f g _ j; rfl
  | succ n ih =>
    intro i sh f g hn j
    exact (ih (i + 1) (m_blk i (sh, f, g)).1 (m_blk i (sh, f, g)).2.1 (m_blk i (sh, f, g)).2.2 (by rw [m_blkl, List.length_append]; omega) j).trans (m_blkg hn j)
theorem m_dk6l (f : Nat → Nat → Int32) (g : Nat → Nat → Option Nat) : (m_dk6 ([(0, 0)], f, g)).1 = [(0, 0), (0, 1), (1, 16), (3, 10), (1, 4), (4, 10)] := rfl
theorem m_dk7l (f : Nat → Nat → Int32) (g : Nat → Nat → Option Nat) : (m_dk7 ([(0, 0)], f, g)).1 = [(0, 0), (0, 1), (1, 16), (3, 10), (1, 4), (4, 10)] ++ m_rep 10 := by
  have h := m_blksl 10 0 (m_dk6 ([(0, 0)], f, g)).1 (m_dk6 ([(0, 0)], f, g)).2.1 (m_dk6 ([(0, 0)], f, g)).2.2
  rw [m_dk6l] at h
  exact h
theorem m_dk7n (f : Nat → Nat → Int32) (g : Nat → Nat → Option Nat) : (m_dk7 ([(0, 0)], f, g)).1.length = 166 := by rw [m_dk7l]; decide +kernel
theorem m_dk7s (f : Nat → Nat → Int32) (g : Nat → Nat → Option Nat) : m_sl (m_dk7 ([(0, 0)], f, g)).1 = 990 := by rw [m_dk7l]; decide +kernel
theorem m_dk7k (f : Nat → Nat → Int32) (g : Nat → Nat → Option Nat) : (m_dk7 ([(0, 0)], f, g)).1[0]? = some (0, 0) := by rw [m_dk7l]; rfl
set_option maxRecDepth 8000 in
theorem c2_tail {d : Nat} {Q : mQ} {sh : List (Nat × Nat)} {f : Nat → Nat → Int32} {g : Nat → Nat → Option Nat} (hk : sh[0]? = some (0, 0)) (hn : sh.length = 166) (hs : m_sl sh = 990) : m_R (m_E (d + 1)) 2 1 8 Q 42 [some (.inr (some 0)), some (.inl 10)] [] (sh, f, g) = Q none (m_nA (1, 4) 0 6 (m_wr 0 5 (some sh.length) (m_joW sh.length (m_nO (0, 5) (sh, f, g))))) := by
  rw [r2_42, r2_43, r2_45, if_pos (by decide), r2_80, r2_81, r2_84, r2_85, c6]
  · show m_R (m_E (d + 1)) 2 1 8 Q 88 [some (.inr (some 0)), some (.inl 10)] [.inr (some sh.length), .inr (some 0)] ((m_joW sh.length (m_nO (0, 5) (sh, f, g))).1, (m_joW sh.length (m_nO (0, 5) (sh, f, g))).2.1, (m_joW sh.length (m_nO (0, 5) (sh, f, g))).2.2) = _
    rw [r2_88, r2_91, r2_92, r2_93, r2_95, r2_98]
    · rfl
    all_goals (first | decide | exact hk | exact m_ap hk | exact m_ap (m_ap hk) | exact m_ap (m_ap (m_ap hk)) | exact m_ap (m_ap (m_ap (m_ap hk))) | exact m_ap (m_ap (m_ap (m_ap (m_ap hk)))) | exact m_ap (m_ap (m_ap (m_ap (m_ap (m_ap hk))))) | (simp only [m_joW, m_nA, m_nO, m_wr, List.length_append, List.length_cons, List.length_nil, m_sl_app, hn, hs, m_sz1, m_sz2, m_sz3, m_sz4, m_c3, m_c4, m_c8, m_c10, m_c16, m_c30, m_c40, m_c80, m_c128, m_bg1, m_bg2, m_bg3, m_bg4, m_bg5, m_bg6, m_bg62, m_szo0, m_szo1, m_szo2, m_szo3, m_szo4, m_szo5, m_szo6] <;> omega))
  · exact m_apn
  all_goals (first | decide | (simp only [m_nO, List.length_append, List.length_cons, List.length_nil, m_sl_app, hn, hs, m_sz1, m_sz2, m_sz3, m_sz4, m_c3, m_c4, m_c8, m_c10, m_c16, m_c30, m_c40, m_c80, m_c128, m_bg1, m_bg2, m_bg3, m_bg4, m_bg5, m_bg6, m_bg62, m_szo0, m_szo1, m_szo2, m_szo3, m_szo4, m_szo5, m_szo6] <;> omega))
set_option maxRecDepth 8000 in
theorem c2_head {d : Nat} {Q : mQ} {f : Nat → Nat → Int32} {g : Nat → Nat → Option Nat} : m_E (d + 4) 2 [.inr (some 0)] ([(0, 0)], f, g) Q = m_R (m_E (d + 3)) 2 1 8 Q 42 [some (.inr (some 0)), some (.inl (nI 0))] [] (m_dk6 ([(0, 0)], f, g)) := by
  rw [m_En (by decide) (Nat.le_of_ble_eq_true rfl)]
  show m_R (m_E (d + 3)) 2 1 8 Q 0 [some (.inr (some 0)), none] [] ([(0, 0)], f, g) = _
  rw [r2_0, r2_1, r2_4, r2_5, r2_8, r2_9, c1]
  · show m_R (m_E (d + 3)) 2 1 8 Q 12 [some (.inr (some 0)), none] [.inr (some 1), .inr (some 0)] ((m_kiW 1 (m_nO (0, 1) ([(0, 0)], f, g))).1, (m_kiW 1 (m_nO (0, 1) ([(0, 0)], f, g))).2.1, (m_kiW 1 (m_nO (0, 1) ([(0, 0)], f, g))).2.2) = _
    rw [r2_12, r2_15, r2_16, r2_18, r2_21, r2_24, r2_25, r2_26, r2_28, r2_31, r2_32, r2_34, r2_37, r2_40, r2_41]
    · rfl
    all_goals (first | rfl | decide | exact Nat.le_of_ble_eq_true rfl)
  all_goals (first | rfl | decide | omega | exact Nat.le_of_ble_eq_true rfl)
theorem c2_tailw {d : Nat} {Q : mQ} (w : mW) (hk : w.1[0]? = some (0, 0)) (hn : w.1.length = 166) (hs : m_sl w.1 = 990) : m_R (m_E (d + 1)) 2 1 8 Q 42 [some (.inr (some 0)), some (.inl (nI 10))] [] w = Q none (m_nA (1, 4) 0 6 (m_wr 0 5 (some w.1.length) (m_joW w.1.length (m_nO (0, 5) w)))) := c2_tail (sh := w.1) (f := w.2.1) (g := w.2.2) hk hn hs
theorem c2_loopw {d : Nat} {Q : mQ} (w : mW) (h0 : w.1[0]? = some (0, 0)) (h3 : w.1[3]? = some (3, 10)) (h5 : w.1[5]? = some (4, 10)) (hg1 : w.2.2 0 1 = some 3) (hg4 : w.2.2 0 4 = some 5) (hn : w.1.length = 6) (hs : m_sl w.1 + 94 * 10 ≤ 8 + 1245) : m_R (m_E (d + 2)) 2 1 8 Q 42 [some (.inr (some 0)), some (.inl (nI 0))] [] w = m_R (m_E (d + 2)) 2 1 8 Q 42 [some (.inr (some 0)), some (.inl (nI 10))] [] (m_blks 10 0 w) := c2_loop 10 0 w.1 w.2.1 w.2.2 rfl h0 h3 h5 hg1 hg4 hn (by decide) hs
theorem c2 {d : Nat} {Q : mQ} {f : Nat → Nat → Int32} {g : Nat → Nat → Option Nat} : m_E (d + 4) 2 [.inr (some 0)] ([(0, 0)], f, g) Q = Q none (m_dkW ([(0, 0)], f, g)) := by
  rw [c2_head, c2_loopw (d := d + 1) (m_dk6 ([(0, 0)], f, g)) rfl rfl rfl rfl rfl rfl (by rw [m_dk6l]; decide)]
  exact c2_tailw (d := d + 2) (m_dk7 ([(0, 0)], f, g)) (m_dk7k f g) (m_dk7n f g) (m_dk7s f g)
