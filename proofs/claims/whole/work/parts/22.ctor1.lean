/-! the small constructors -/
def m_nA (h : Nat × Nat) (k j : Nat) (w : mW) : mW := (w.1 ++ [h], m_zi w.2.1 w.1.length, m_sr (m_zr w.2.2 w.1.length) k j (some w.1.length))
def m_nO (h : Nat × Nat) (w : mW) : mW := (w.1 ++ [h], m_zi w.2.1 w.1.length, m_zr w.2.2 w.1.length)
def m_wr (k j : Nat) (v : Option Nat) (w : mW) : mW := (w.1, w.2.1, m_sr w.2.2 k j v)
theorem m_ap {sh l : List (Nat × Nat)} {k : Nat} {x : Nat × Nat} (h : sh[k]? = some x) : (sh ++ l)[k]? = some x := by
  rw [List.getElem?_append_left (List.getElem?_eq_some_iff.mp h).1]
  exact h
theorem m_sz1 (n : Nat) : m_sz (1, n) = n := rfl
theorem m_sz2 (n : Nat) : m_sz (2, n) = n := rfl
theorem m_sz3 (n : Nat) : m_sz (3, n) = n := rfl
theorem m_sz4 (n : Nat) : m_sz (4, n) = n := rfl
theorem m_c3 : (3 : Int32).toNatClampNeg = 3 := by decide
theorem m_c4 : (4 : Int32).toNatClampNeg = 4 := by decide
theorem m_c8 : (8 : Int32).toNatClampNeg = 8 := by decide
theorem m_c10 : (10 : Int32).toNatClampNeg = 10 := by decide
theorem m_c16 : (16 : Int32).toNatClampNeg = 16 := by decide
theorem m_c30 : (30 : Int32).toNatClampNeg = 30 := by decide
theorem m_c40 : (40 : Int32).toNatClampNeg = 40 := by decide
theorem m_c80 : (80 : Int32).toNatClampNeg = 80 := by decide
theorem m_c128 : (128 : Int32).toNatClampNeg = 128 := by decide
theorem m_bg1 : m_bg 1 = (1, 16) := by decide
theorem m_bg2 : m_bg 2 = (169, 1245) := by decide
theorem m_bg3 : m_bg 3 = (5, 30) := by decide
theorem m_bg4 : m_bg 4 = (9, 48) := by decide
theorem m_bg5 : m_bg 5 = (6, 32) := by decide
theorem m_bg6 : m_bg 6 = (2, 256) := by decide
theorem m_bg62 : m_bg 62 = (30, 1100) := by decide
theorem m_szo0 : m_sz (0, 0) = 8 := by decide
theorem m_szo1 : m_sz (0, 1) = 2 := by decide
theorem m_szo2 : m_sz (0, 2) = 8 := by decide
theorem m_szo3 : m_sz (0, 3) = 8 := by decide
theorem m_szo4 : m_sz (0, 4) = 8 := by decide
theorem m_szo5 : m_sz (0, 5) = 3 := by decide
theorem m_szo6 : m_sz (0, 6) = 37 := by decide
def m_plW (k : Nat) (w : mW) : mW := m_nA (1, 8) k 6 (m_nA (1, 8) k 5 (m_nA (1, 8) k 4 (m_nA (2, 3) k 2 (m_nA (1, 3) k 1 w))))
def m_txW (k : Nat) (w : mW) : mW := m_nA (2, 8) k 5 (m_nA (1, 8) k 4 (m_nA (2, 4) k 3 (m_nA (2, 4) k 2 (m_nA (2, 4) k 1 (m_nA (1, 4) k 0 w)))))
def m_joW (k : Nat) (w : mW) : mW := m_nA (1, 128) k 1 (m_nA (1, 128) k 0 w)
set_option maxRecDepth 4000 in
theorem c3 {d : Nat} {Q : mQ} {sh : List (Nat × Nat)} {f : Nat → Nat → Int32} {g : Nat → Nat → Option Nat} {k : Nat} (hk : sh[k]? = some (0, 2)) (hl : sh.length + 5 ≤ 1000000) : m_E (d + 1) 3 [.inr (some k)] (sh, f, g) Q = Q none (m_plW k (sh, f, g)) := by
  rw [m_En (by decide) (Nat.le_of_ble_eq_true rfl)]
  show m_R (m_E d) 3 sh.length (m_sl sh) Q 0 [some (.inr (some k))] [] (sh, f, g) = _
  rw [r3_0, r3_1, r3_4, r3_5, r3_6, r3_8, r3_11, r3_12, r3_13, r3_15, r3_18, r3_19, r3_21, r3_23, r3_26, r3_27, r3_29, r3_31, r3_34, r3_35, r3_37, r3_39, r3_42]
  · rfl
  all_goals (first | decide | exact hk | exact m_ap hk | exact m_ap (m_ap hk) | exact m_ap (m_ap (m_ap hk)) | exact m_ap (m_ap (m_ap (m_ap hk))) | exact m_ap (m_ap (m_ap (m_ap (m_ap hk)))) | exact m_ap (m_ap (m_ap (m_ap (m_ap (m_ap hk))))) | omega | (simp only [List.length_append, List.length_cons, List.length_nil, m_sl_app, m_sz1, m_sz2, m_sz3, m_sz4, m_c3, m_c4, m_c8, m_c10, m_c16, m_c30, m_c40, m_c80, m_c128, m_bg1, m_bg2, m_bg3, m_bg4, m_bg5, m_bg6, m_bg62, m_szo0, m_szo1, m_szo2, m_szo3, m_szo4, m_szo5, m_szo6] <;> omega))
set_option maxRecDepth 4000 in
theorem c5 {d : Nat} {Q : mQ} {sh : List (Nat × Nat)} {f : Nat → Nat → Int32} {g : Nat → Nat → Option Nat} {k : Nat} (hk : sh[k]? = some (0, 3)) (hl : sh.length + 6 ≤ 1000000) : m_E (d + 1) 5 [.inr (some k)] (sh, f, g) Q = Q none (m_txW k (sh, f, g)) := by
  rw [m_En (by decide) (Nat.le_of_ble_eq_true rfl)]
  show m_R (m_E d) 5 sh.length (m_sl sh) Q 0 [some (.inr (some k))] [] (sh, f, g) = _
  rw [r5_0, r5_1, r5_4, r5_5, r5_6, r5_8, r5_11, r5_12, r5_13, r5_15, r5_18, r5_19, r5_20, r5_22, r5_25, r5_26, r5_27, r5_29, r5_32, r5_33, r5_35, r5_37, r5_40, r5_41, r5_43, r5_45, r5_48]
  · rfl
  all_goals (first | decide | exact hk | exact m_ap hk | exact m_ap (m_ap hk) | exact m_ap (m_ap (m_ap hk)) | exact m_ap (m_ap (m_ap (m_ap hk))) | exact m_ap (m_ap (m_ap (m_ap (m_ap hk)))) | exact m_ap (m_ap (m_ap (m_ap (m_ap (m_ap hk))))) | omega | (simp only [List.length_append, List.length_cons, List.length_nil, m_sl_app, m_sz1, m_sz2, m_sz3, m_sz4, m_c3, m_c4, m_c8, m_c10, m_c16, m_c30, m_c40, m_c80, m_c128, m_bg1, m_bg2, m_bg3, m_bg4, m_bg5, m_bg6, m_bg62, m_szo0, m_szo1, m_szo2, m_szo3, m_szo4, m_szo5, m_szo6] <;> omega))
set_option maxRecDepth 4000 in
theorem c6 {d : Nat} {Q : mQ} {sh : List (Nat × Nat)} {f : Nat → Nat → Int32} {g : Nat → Nat → Option Nat} {k : Nat} (hk : sh[k]? = some (0, 5)) (hl : sh.length + 2 ≤ 1000000) : m_E (d + 1) 6 [.inr (some k)] (sh, f, g) Q = Q none (m_joW k (sh, f, g)) := by
  rw [m_En (by decide) (Nat.le_of_ble_eq_true rfl)]
  show m_R (m_E d) 6 sh.length (m_sl sh) Q 0 [some (.inr (some k))] [] (sh, f, g) = _
  rw [r6_0, r6_1, r6_4, r6_5, r6_8, r6_10, r6_13, r6_14, r6_17, r6_19, r6_22]
  · rfl
  all_goals (first | decide | exact hk | exact m_ap hk | exact m_ap (m_ap hk) | exact m_ap (m_ap (m_ap hk)) | exact m_ap (m_ap (m_ap (m_ap hk))) | exact m_ap (m_ap (m_ap (m_ap (m_ap hk)))) | exact m_ap (m_ap (m_ap (m_ap (m_ap (m_ap hk))))) | omega | (simp only [List.length_append, List.length_cons, List.length_nil, m_sl_app, m_sz1, m_sz2, m_sz3, m_sz4, m_c3, m_c4, m_c8, m_c10, m_c16, m_c30, m_c40, m_c80, m_c128, m_bg1, m_bg2, m_bg3, m_bg4, m_bg5, m_bg6, m_bg62, m_szo0, m_szo1, m_szo2, m_szo3, m_szo4, m_szo5, m_szo6] <;> omega))
