/-! the law's rows -/
theorem m_SHn : m_SH.length = 201 := by decide +kernel
theorem m_SHs : m_sl m_SH = 2390 := by decide +kernel
theorem m_bg101 : m_bg 101 = (201, 2390) := by decide
theorem m_SHx : m_SH[1000000]? = none := List.getElem?_eq_none (by rw [m_SHn]; decide)
theorem m_lb1  : m_SH.length + 0 ≤ 0 + (m_bg 101).1 := by rw [m_SHn, m_bg101]; decide
theorem m_lb2  : m_sl m_SH + 0 ≤ 0 + (m_bg 101).2 := by rw [m_SHs, m_bg101]; decide
theorem m_lrt {f : Nat → Nat → Int32} {g : Nat → Nat → Option Nat} : ((m_SH, f, g) : mW).1.length = 0 + (m_bg 101).1 ∧ m_sl ((m_SH, f, g) : mW).1 = 0 + (m_bg 101).2 := ⟨by rw [m_bg101]; exact m_SHn, by rw [m_bg101]; exact m_SHs⟩
theorem m_xi_s {pc : Nat} {ls : mL} {st : mS} {f : Nat → Nat → Int32} {g : Nat → Nat → Option Nat} {i : Int32} (hi : vp_in i (f 1000001 0).toNatClampNeg) : m_xi pc ls (.inl i :: .inr (some 1000000) :: st) (m_SH, f, g) = some (.inl (pc, ls, .inl (f 1000000 i.toNatClampNeg) :: st, (m_SH, f, g))) := by
  unfold m_xi
  simp only [m_SHx]
  rw [if_pos ⟨trivial, hi⟩]
  rfl
theorem m_al_s {pc : Nat} {ls : mL} {st : mS} {f : Nat → Nat → Int32} {g : Nat → Nat → Option Nat} : m_al pc ls (.inr (some 1000000) :: st) (m_SH, f, g) = some (.inl (pc, ls, .inl (f 1000001 0) :: st, (m_SH, f, g))) := by
  unfold m_al
  simp only [m_SHx]
  rfl
set_option maxRecDepth 100000 in
theorem r101_0 {d : Nat} {Q : mQ} {l0 l1 l2 l3 : Option mV} {st : mS} {sh : List (Nat × Nat)} {f : Nat → Nat → Int32} {g : Nat → Nat → Option Nat} (h1 : sh.length + 1 ≤ 0 + (m_bg 101).1) (h3 : sh.length < 1000000) (h2 : m_sl sh + 8 ≤ 0 + (m_bg 101).2) : m_R (m_E d) 101 0 0 Q 0 [l0, l1, l2, l3] st (sh, f, g) = m_R (m_E d) 101 0 0 Q 3 [l0, l1, l2, l3] (.inr (some sh.length) :: st) (sh ++ [(0, 0)], m_zi f sh.length, m_zr g sh.length) := m_rst rfl (if_pos ⟨h1, h2, h3⟩)
set_option maxRecDepth 100000 in
theorem r101_3 {d : Nat} {Q : mQ} {l0 l1 l2 l3 : Option mV} {st : mS} {w : mW} {f : Nat → Nat → Int32} {g : Nat → Nat → Option Nat} {v : mV}  : m_R (m_E d) 101 0 0 Q 3 [l0, l1, l2, l3] (v :: st) w = m_R (m_E d) 101 0 0 Q 4 [l0, l1, l2, l3] (v :: v :: st) w := m_rst rfl rfl
set_option maxRecDepth 100000 in
theorem r101_4 {d : Nat} {Q : mQ} {l0 l1 l2 l3 : Option mV} {st : mS} {w : mW} {f : Nat → Nat → Int32} {g : Nat → Nat → Option Nat} {k : Nat} (hst : st.length ≤ 8) (h1 : w.1.length + (m_bg 2).1 ≤ 0 + (m_bg 101).1) (h2 : m_sl w.1 + (m_bg 2).2 ≤ 0 + (m_bg 101).2) : m_R (m_E d) 101 0 0 Q 4 [l0, l1, l2, l3] (.inr (some k) :: st) w = m_E d 2 [.inr (some k)] w (fun r w => m_R (m_E d) 101 0 0 Q 7 [l0, l1, l2, l3] (r.toList ++ st) w) := m_rcall (rest := st) rfl (if_pos ⟨⟨Nat.zero_le _, rfl, hst, fun h => absurd h (by decide)⟩, h1, h2⟩)
set_option maxRecDepth 100000 in
theorem r101_7 {d : Nat} {Q : mQ} {l0 l1 l2 l3 : Option mV} {st : mS} {w : mW} {f : Nat → Nat → Int32} {g : Nat → Nat → Option Nat} {x : Option Nat}  : m_R (m_E d) 101 0 0 Q 7 [l0, l1, l2, l3] (.inr x :: st) w = m_R (m_E d) 101 0 0 Q 8 [l0, some (.inr x), l2, l3] st w := m_rst rfl rfl
set_option maxRecDepth 100000 in
theorem r101_8 {d : Nat} {Q : mQ} {l0 l1 l2 l3 : Option mV} {st : mS} {sh : List (Nat × Nat)} {f : Nat → Nat → Int32} {g : Nat → Nat → Option Nat} (h1 : sh.length + 1 ≤ 0 + (m_bg 101).1) (h3 : sh.length < 1000000) (h2 : m_sl sh + 37 ≤ 0 + (m_bg 101).2) : m_R (m_E d) 101 0 0 Q 8 [l0, l1, l2, l3] st (sh, f, g) = m_R (m_E d) 101 0 0 Q 11 [l0, l1, l2, l3] (.inr (some sh.length) :: st) (sh ++ [(0, 6)], m_zi f sh.length, m_zr g sh.length) := m_rst rfl (if_pos ⟨h1, h2, h3⟩)
set_option maxRecDepth 100000 in
theorem r101_11 {d : Nat} {Q : mQ} {l0 l1 l2 l3 : Option mV} {st : mS} {w : mW} {f : Nat → Nat → Int32} {g : Nat → Nat → Option Nat} {v : mV}  : m_R (m_E d) 101 0 0 Q 11 [l0, l1, l2, l3] (v :: st) w = m_R (m_E d) 101 0 0 Q 12 [l0, l1, l2, l3] (v :: v :: st) w := m_rst rfl rfl
set_option maxRecDepth 100000 in
theorem r101_12 {d : Nat} {Q : mQ} {l0 l1 l2 l3 : Option mV} {st : mS} {w : mW} {f : Nat → Nat → Int32} {g : Nat → Nat → Option Nat} {k : Nat} (hst : st.length ≤ 8) (h1 : w.1.length + (m_bg 62).1 ≤ 0 + (m_bg 101).1) (h2 : m_sl w.1 + (m_bg 62).2 ≤ 0 + (m_bg 101).2) : m_R (m_E d) 101 0 0 Q 12 [l0, l1, l2, l3] (.inr (some k) :: st) w = m_E d 62 [.inr (some k)] w (fun r w => m_R (m_E d) 101 0 0 Q 15 [l0, l1, l2, l3] (r.toList ++ st) w) := m_rcall (rest := st) rfl (if_pos ⟨⟨Nat.zero_le _, rfl, hst, fun h => absurd h (by decide)⟩, h1, h2⟩)
set_option maxRecDepth 100000 in
theorem r101_15 {d : Nat} {Q : mQ} {l0 l1 l2 l3 : Option mV} {st : mS} {w : mW} {f : Nat → Nat → Int32} {g : Nat → Nat → Option Nat} {x : Option Nat}  : m_R (m_E d) 101 0 0 Q 15 [l0, l1, l2, l3] (.inr x :: st) w = m_R (m_E d) 101 0 0 Q 16 [l0, l1, some (.inr x), l3] st w := m_rst rfl rfl
set_option maxRecDepth 100000 in
theorem r101_16 {d : Nat} {Q : mQ} {l0 l1 l2 l3 : Option mV} {st : mS} {f : Nat → Nat → Int32} {g : Nat → Nat → Option Nat}  : m_R (m_E d) 101 0 0 Q 16 [l0, l1, l2, l3] st (m_SH, f, g) = m_R (m_E d) 101 0 0 Q 17 [l0, l1, l2, l3] (.inl 0 :: st) (m_SH, f, g) := m_rst rfl rfl
set_option maxRecDepth 100000 in
theorem r101_17 {d : Nat} {Q : mQ} {l0 l1 l2 l3 : Option mV} {st : mS} {f : Nat → Nat → Int32} {g : Nat → Nat → Option Nat} {x : Int32}  : m_R (m_E d) 101 0 0 Q 17 [l0, l1, l2, l3] (.inl x :: st) (m_SH, f, g) = m_R (m_E d) 101 0 0 Q 18 [l0, l1, l2, some (.inl x)] st (m_SH, f, g) := m_rst rfl rfl
set_option maxRecDepth 100000 in
theorem r101_18 {d : Nat} {Q : mQ} {l0 l1 l2 : Option mV} {st : mS} {f : Nat → Nat → Int32} {g : Nat → Nat → Option Nat} {x : Int32}  : m_R (m_E d) 101 0 0 Q 18 [l0, l1, l2, some (.inl x)] st (m_SH, f, g) = m_R (m_E d) 101 0 0 Q 19 [l0, l1, l2, some (.inl x)] (.inl x :: st) (m_SH, f, g) := m_rst rfl rfl
set_option maxRecDepth 100000 in
theorem r101_19 {d : Nat} {Q : mQ} {l1 l2 l3 : Option mV} {st : mS} {f : Nat → Nat → Int32} {g : Nat → Nat → Option Nat} {x : Option Nat}  : m_R (m_E d) 101 0 0 Q 19 [some (.inr x), l1, l2, l3] st (m_SH, f, g) = m_R (m_E d) 101 0 0 Q 20 [some (.inr x), l1, l2, l3] (.inr x :: st) (m_SH, f, g) := m_rst rfl rfl
set_option maxRecDepth 100000 in
theorem r101_20 {d : Nat} {Q : mQ} {l0 l1 l2 l3 : Option mV} {st : mS} {f : Nat → Nat → Int32} {g : Nat → Nat → Option Nat}  : m_R (m_E d) 101 0 0 Q 20 [l0, l1, l2, l3] (.inr (some 1000000) :: st) (m_SH, f, g) = m_R (m_E d) 101 0 0 Q 21 [l0, l1, l2, l3] (.inl (f 1000001 0) :: st) (m_SH, f, g) := m_rst rfl m_al_s
set_option maxRecDepth 100000 in
theorem r101_21 {d : Nat} {Q : mQ} {l0 l1 l2 l3 : Option mV} {st : mS} {f : Nat → Nat → Int32} {g : Nat → Nat → Option Nat}  : m_R (m_E d) 101 0 0 Q 21 [l0, l1, l2, l3] st (m_SH, f, g) = m_R (m_E d) 101 0 0 Q 22 [l0, l1, l2, l3] (.inl 5 :: st) (m_SH, f, g) := m_rst rfl rfl
set_option maxRecDepth 100000 in
theorem r101_22 {d : Nat} {Q : mQ} {l0 l1 l2 l3 : Option mV} {st : mS} {f : Nat → Nat → Int32} {g : Nat → Nat → Option Nat} {x y : Int32}  : m_R (m_E d) 101 0 0 Q 22 [l0, l1, l2, l3] (.inl y :: .inl x :: st) (m_SH, f, g) = m_R (m_E d) 101 0 0 Q 23 [l0, l1, l2, l3] (.inl (x - y) :: st) (m_SH, f, g) := m_rst rfl rfl
set_option maxRecDepth 100000 in
theorem r101_23 {d : Nat} {Q : mQ} {l0 l1 l2 l3 : Option mV} {st : mS} {f : Nat → Nat → Int32} {g : Nat → Nat → Option Nat} {x y : Int32}  : m_R (m_E d) 101 0 0 Q 23 [l0, l1, l2, l3] (.inl y :: .inl x :: st) (m_SH, f, g) = (if y < x then m_R (m_E d) 101 0 0 Q 535 [l0, l1, l2, l3] st (m_SH, f, g) else m_R (m_E d) 101 0 0 Q 26 [l0, l1, l2, l3] st (m_SH, f, g)) := m_rif rfl (o1 := some (.inl (535, [l0, l1, l2, l3], st, (m_SH, f, g)))) (o2 := some (.inl (26, [l0, l1, l2, l3], st, (m_SH, f, g)))) rfl
set_option maxRecDepth 100000 in
theorem r101_26 {d : Nat} {Q : mQ} {l1 l2 l3 : Option mV} {st : mS} {f : Nat → Nat → Int32} {g : Nat → Nat → Option Nat} {x : Option Nat}  : m_R (m_E d) 101 0 0 Q 26 [some (.inr x), l1, l2, l3] st (m_SH, f, g) = m_R (m_E d) 101 0 0 Q 27 [some (.inr x), l1, l2, l3] (.inr x :: st) (m_SH, f, g) := m_rst rfl rfl
set_option maxRecDepth 100000 in
theorem r101_27 {d : Nat} {Q : mQ} {l0 l1 l2 : Option mV} {st : mS} {f : Nat → Nat → Int32} {g : Nat → Nat → Option Nat} {x : Int32}  : m_R (m_E d) 101 0 0 Q 27 [l0, l1, l2, some (.inl x)] st (m_SH, f, g) = m_R (m_E d) 101 0 0 Q 28 [l0, l1, l2, some (.inl x)] (.inl x :: st) (m_SH, f, g) := m_rst rfl rfl
set_option maxRecDepth 100000 in
theorem r101_28 {d : Nat} {Q : mQ} {l0 l1 l2 l3 : Option mV} {st : mS} {f : Nat → Nat → Int32} {g : Nat → Nat → Option Nat} {i : Int32} (hi : vp_in i (f 1000001 0).toNatClampNeg) : m_R (m_E d) 101 0 0 Q 28 [l0, l1, l2, l3] (.inl i :: .inr (some 1000000) :: st) (m_SH, f, g) = m_R (m_E d) 101 0 0 Q 29 [l0, l1, l2, l3] (.inl (f 1000000 i.toNatClampNeg) :: st) (m_SH, f, g) := m_rst rfl (m_xi_s hi)
set_option maxRecDepth 100000 in
theorem r101_29 {d : Nat} {Q : mQ} {l0 l1 l2 l3 : Option mV} {st : mS} {f : Nat → Nat → Int32} {g : Nat → Nat → Option Nat}  : m_R (m_E d) 101 0 0 Q 29 [l0, l1, l2, l3] st (m_SH, f, g) = m_R (m_E d) 101 0 0 Q 31 [l0, l1, l2, l3] (.inl 15 :: st) (m_SH, f, g) := m_rst rfl rfl
set_option maxRecDepth 100000 in
theorem r101_31 {d : Nat} {Q : mQ} {l0 l1 l2 l3 : Option mV} {st : mS} {f : Nat → Nat → Int32} {g : Nat → Nat → Option Nat} {x y : Int32}  : m_R (m_E d) 101 0 0 Q 31 [l0, l1, l2, l3] (.inl y :: .inl x :: st) (m_SH, f, g) = m_R (m_E d) 101 0 0 Q 32 [l0, l1, l2, l3] (.inl (x &&& y) :: st) (m_SH, f, g) := m_rst rfl rfl
set_option maxRecDepth 100000 in
theorem r101_32_0 {d : Nat} {Q : mQ} {l0 l1 l2 l3 : Option mV} {st : mS} {f : Nat → Nat → Int32} {g : Nat → Nat → Option Nat} : m_R (m_E d) 101 0 0 Q 32 [l0, l1, l2, l3] (.inl 0 :: st) (m_SH, f, g) = m_R (m_E d) 101 0 0 Q 108 [l0, l1, l2, l3] st (m_SH, f, g) := m_rst rfl rfl
set_option maxRecDepth 100000 in
theorem r101_32_1 {d : Nat} {Q : mQ} {l0 l1 l2 l3 : Option mV} {st : mS} {f : Nat → Nat → Int32} {g : Nat → Nat → Option Nat} : m_R (m_E d) 101 0 0 Q 32 [l0, l1, l2, l3] (.inl 1 :: st) (m_SH, f, g) = m_R (m_E d) 101 0 0 Q 131 [l0, l1, l2, l3] st (m_SH, f, g) := m_rst rfl rfl
set_option maxRecDepth 100000 in
theorem r101_32_2 {d : Nat} {Q : mQ} {l0 l1 l2 l3 : Option mV} {st : mS} {f : Nat → Nat → Int32} {g : Nat → Nat → Option Nat} : m_R (m_E d) 101 0 0 Q 32 [l0, l1, l2, l3] (.inl 2 :: st) (m_SH, f, g) = m_R (m_E d) 101 0 0 Q 154 [l0, l1, l2, l3] st (m_SH, f, g) := m_rst rfl rfl
set_option maxRecDepth 100000 in
theorem r101_32_3 {d : Nat} {Q : mQ} {l0 l1 l2 l3 : Option mV} {st : mS} {f : Nat → Nat → Int32} {g : Nat → Nat → Option Nat} : m_R (m_E d) 101 0 0 Q 32 [l0, l1, l2, l3] (.inl 3 :: st) (m_SH, f, g) = m_R (m_E d) 101 0 0 Q 213 [l0, l1, l2, l3] st (m_SH, f, g) := m_rst rfl rfl
set_option maxRecDepth 100000 in
theorem r101_32_4 {d : Nat} {Q : mQ} {l0 l1 l2 l3 : Option mV} {st : mS} {f : Nat → Nat → Int32} {g : Nat → Nat → Option Nat} : m_R (m_E d) 101 0 0 Q 32 [l0, l1, l2, l3] (.inl 4 :: st) (m_SH, f, g) = m_R (m_E d) 101 0 0 Q 266 [l0, l1, l2, l3] st (m_SH, f, g) := m_rst rfl rfl
set_option maxRecDepth 100000 in
theorem r101_32_5 {d : Nat} {Q : mQ} {l0 l1 l2 l3 : Option mV} {st : mS} {f : Nat → Nat → Int32} {g : Nat → Nat → Option Nat} : m_R (m_E d) 101 0 0 Q 32 [l0, l1, l2, l3] (.inl 5 :: st) (m_SH, f, g) = m_R (m_E d) 101 0 0 Q 289 [l0, l1, l2, l3] st (m_SH, f, g) := m_rst rfl rfl
set_option maxRecDepth 100000 in
theorem r101_32_6 {d : Nat} {Q : mQ} {l0 l1 l2 l3 : Option mV} {st : mS} {f : Nat → Nat → Int32} {g : Nat → Nat → Option Nat} : m_R (m_E d) 101 0 0 Q 32 [l0, l1, l2, l3] (.inl 6 :: st) (m_SH, f, g) = m_R (m_E d) 101 0 0 Q 322 [l0, l1, l2, l3] st (m_SH, f, g) := m_rst rfl rfl
set_option maxRecDepth 100000 in
theorem r101_32_7 {d : Nat} {Q : mQ} {l0 l1 l2 l3 : Option mV} {st : mS} {f : Nat → Nat → Int32} {g : Nat → Nat → Option Nat} : m_R (m_E d) 101 0 0 Q 32 [l0, l1, l2, l3] (.inl 7 :: st) (m_SH, f, g) = m_R (m_E d) 101 0 0 Q 345 [l0, l1, l2, l3] st (m_SH, f, g) := m_rst rfl rfl
set_option maxRecDepth 100000 in
theorem r101_32_8 {d : Nat} {Q : mQ} {l0 l1 l2 l3 : Option mV} {st : mS} {f : Nat → Nat → Int32} {g : Nat → Nat → Option Nat} : m_R (m_E d) 101 0 0 Q 32 [l0, l1, l2, l3] (.inl 8 :: st) (m_SH, f, g) = m_R (m_E d) 101 0 0 Q 378 [l0, l1, l2, l3] st (m_SH, f, g) := m_rst rfl rfl
set_option maxRecDepth 100000 in
theorem r101_32_9 {d : Nat} {Q : mQ} {l0 l1 l2 l3 : Option mV} {st : mS} {f : Nat → Nat → Int32} {g : Nat → Nat → Option Nat} : m_R (m_E d) 101 0 0 Q 32 [l0, l1, l2, l3] (.inl 9 :: st) (m_SH, f, g) = m_R (m_E d) 101 0 0 Q 411 [l0, l1, l2, l3] st (m_SH, f, g) := m_rst rfl rfl
set_option maxRecDepth 100000 in
theorem r101_32_10 {d : Nat} {Q : mQ} {l0 l1 l2 l3 : Option mV} {st : mS} {f : Nat → Nat → Int32} {g : Nat → Nat → Option Nat} : m_R (m_E d) 101 0 0 Q 32 [l0, l1, l2, l3] (.inl 10 :: st) (m_SH, f, g) = m_R (m_E d) 101 0 0 Q 424 [l0, l1, l2, l3] st (m_SH, f, g) := m_rst rfl rfl
set_option maxRecDepth 100000 in
theorem r101_32_11 {d : Nat} {Q : mQ} {l0 l1 l2 l3 : Option mV} {st : mS} {f : Nat → Nat → Int32} {g : Nat → Nat → Option Nat} : m_R (m_E d) 101 0 0 Q 32 [l0, l1, l2, l3] (.inl 11 :: st) (m_SH, f, g) = m_R (m_E d) 101 0 0 Q 447 [l0, l1, l2, l3] st (m_SH, f, g) := m_rst rfl rfl
set_option maxRecDepth 100000 in
theorem r101_32_12 {d : Nat} {Q : mQ} {l0 l1 l2 l3 : Option mV} {st : mS} {f : Nat → Nat → Int32} {g : Nat → Nat → Option Nat} : m_R (m_E d) 101 0 0 Q 32 [l0, l1, l2, l3] (.inl 12 :: st) (m_SH, f, g) = m_R (m_E d) 101 0 0 Q 470 [l0, l1, l2, l3] st (m_SH, f, g) := m_rst rfl rfl
set_option maxRecDepth 100000 in
theorem r101_32_13 {d : Nat} {Q : mQ} {l0 l1 l2 l3 : Option mV} {st : mS} {f : Nat → Nat → Int32} {g : Nat → Nat → Option Nat} : m_R (m_E d) 101 0 0 Q 32 [l0, l1, l2, l3] (.inl 13 :: st) (m_SH, f, g) = m_R (m_E d) 101 0 0 Q 483 [l0, l1, l2, l3] st (m_SH, f, g) := m_rst rfl rfl
set_option maxRecDepth 100000 in
theorem r101_32_14 {d : Nat} {Q : mQ} {l0 l1 l2 l3 : Option mV} {st : mS} {f : Nat → Nat → Int32} {g : Nat → Nat → Option Nat} : m_R (m_E d) 101 0 0 Q 32 [l0, l1, l2, l3] (.inl 14 :: st) (m_SH, f, g) = m_R (m_E d) 101 0 0 Q 506 [l0, l1, l2, l3] st (m_SH, f, g) := m_rst rfl rfl
theorem r101_32_15 {d : Nat} {Q : mQ} {l0 l1 l2 l3 : Option mV} {st : mS} {f : Nat → Nat → Int32} {g : Nat → Nat → Option Nat} : m_R (m_E d) 101 0 0 Q 32 [l0, l1, l2, l3] (.inl 15 :: st) (m_SH, f, g) = m_R (m_E d) 101 0 0 Q 529 [l0, l1, l2, l3] st (m_SH, f, g) := m_rst rfl rfl
set_option maxRecDepth 100000 in
theorem r101_108 {d : Nat} {Q : mQ} {l0 l2 l3 : Option mV} {st : mS} {f : Nat → Nat → Int32} {g : Nat → Nat → Option Nat} {x : Option Nat}  : m_R (m_E d) 101 0 0 Q 108 [l0, some (.inr x), l2, l3] st (m_SH, f, g) = m_R (m_E d) 101 0 0 Q 109 [l0, some (.inr x), l2, l3] (.inr x :: st) (m_SH, f, g) := m_rst rfl rfl
set_option maxRecDepth 100000 in
theorem r101_109 {d : Nat} {Q : mQ} {l1 l2 l3 : Option mV} {st : mS} {f : Nat → Nat → Int32} {g : Nat → Nat → Option Nat} {x : Option Nat}  : m_R (m_E d) 101 0 0 Q 109 [some (.inr x), l1, l2, l3] st (m_SH, f, g) = m_R (m_E d) 101 0 0 Q 110 [some (.inr x), l1, l2, l3] (.inr x :: st) (m_SH, f, g) := m_rst rfl rfl
set_option maxRecDepth 100000 in
theorem r101_110 {d : Nat} {Q : mQ} {l0 l1 l2 : Option mV} {st : mS} {f : Nat → Nat → Int32} {g : Nat → Nat → Option Nat} {x : Int32}  : m_R (m_E d) 101 0 0 Q 110 [l0, l1, l2, some (.inl x)] st (m_SH, f, g) = m_R (m_E d) 101 0 0 Q 111 [l0, l1, l2, some (.inl x)] (.inl x :: st) (m_SH, f, g) := m_rst rfl rfl
set_option maxRecDepth 100000 in
theorem r101_111 {d : Nat} {Q : mQ} {l0 l1 l2 l3 : Option mV} {st : mS} {f : Nat → Nat → Int32} {g : Nat → Nat → Option Nat}  : m_R (m_E d) 101 0 0 Q 111 [l0, l1, l2, l3] st (m_SH, f, g) = m_R (m_E d) 101 0 0 Q 112 [l0, l1, l2, l3] (.inl 1 :: st) (m_SH, f, g) := m_rst rfl rfl
set_option maxRecDepth 100000 in
theorem r101_112 {d : Nat} {Q : mQ} {l0 l1 l2 l3 : Option mV} {st : mS} {f : Nat → Nat → Int32} {g : Nat → Nat → Option Nat} {x y : Int32}  : m_R (m_E d) 101 0 0 Q 112 [l0, l1, l2, l3] (.inl y :: .inl x :: st) (m_SH, f, g) = m_R (m_E d) 101 0 0 Q 113 [l0, l1, l2, l3] (.inl (x + y) :: st) (m_SH, f, g) := m_rst rfl rfl
set_option maxRecDepth 100000 in
theorem r101_113 {d : Nat} {Q : mQ} {l0 l1 l2 l3 : Option mV} {st : mS} {f : Nat → Nat → Int32} {g : Nat → Nat → Option Nat} {i : Int32} (hi : vp_in i (f 1000001 0).toNatClampNeg) : m_R (m_E d) 101 0 0 Q 113 [l0, l1, l2, l3] (.inl i :: .inr (some 1000000) :: st) (m_SH, f, g) = m_R (m_E d) 101 0 0 Q 114 [l0, l1, l2, l3] (.inl (f 1000000 i.toNatClampNeg) :: st) (m_SH, f, g) := m_rst rfl (m_xi_s hi)
set_option maxRecDepth 100000 in
theorem r101_114 {d : Nat} {Q : mQ} {l0 l1 l2 l3 : Option mV} {st : mS} {f : Nat → Nat → Int32} {g : Nat → Nat → Option Nat} {v0 : mV} {k : Nat} (hs1 : m_kn k = 0) (hs2 : m_ln k = 0) (hst : st.length ≤ 8) : m_R (m_E d) 101 0 0 Q 114 [l0, l1, l2, l3] (v0 :: .inr (some k) :: st) (m_SH, f, g) = m_E d 7 [.inr (some k), v0] (m_SH, f, g) (fun r w => m_R (m_E d) 101 0 0 Q 117 [l0, l1, l2, l3] (r.toList ++ st) w) := m_rcall (rest := st) rfl (if_pos ⟨⟨by show 1 ≤ List.length (v0 :: .inr (some k) :: st); simp only [List.length_cons]; omega, rfl, hst, fun _ => m_sho hs1 hs2⟩, m_lb1, m_lb2⟩)
set_option maxRecDepth 100000 in
theorem r101_117 {d : Nat} {Q : mQ} {l0 l1 l3 : Option mV} {st : mS} {f : Nat → Nat → Int32} {g : Nat → Nat → Option Nat} {x : Option Nat}  : m_R (m_E d) 101 0 0 Q 117 [l0, l1, some (.inr x), l3] st (m_SH, f, g) = m_R (m_E d) 101 0 0 Q 118 [l0, l1, some (.inr x), l3] (.inr x :: st) (m_SH, f, g) := m_rst rfl rfl
set_option maxRecDepth 100000 in
theorem r101_118 {d : Nat} {Q : mQ} {l1 l2 l3 : Option mV} {st : mS} {f : Nat → Nat → Int32} {g : Nat → Nat → Option Nat} {x : Option Nat}  : m_R (m_E d) 101 0 0 Q 118 [some (.inr x), l1, l2, l3] st (m_SH, f, g) = m_R (m_E d) 101 0 0 Q 119 [some (.inr x), l1, l2, l3] (.inr x :: st) (m_SH, f, g) := m_rst rfl rfl
set_option maxRecDepth 100000 in
theorem r101_119 {d : Nat} {Q : mQ} {l0 l1 l2 : Option mV} {st : mS} {f : Nat → Nat → Int32} {g : Nat → Nat → Option Nat} {x : Int32}  : m_R (m_E d) 101 0 0 Q 119 [l0, l1, l2, some (.inl x)] st (m_SH, f, g) = m_R (m_E d) 101 0 0 Q 120 [l0, l1, l2, some (.inl x)] (.inl x :: st) (m_SH, f, g) := m_rst rfl rfl
set_option maxRecDepth 100000 in
theorem r101_120 {d : Nat} {Q : mQ} {l0 l1 l2 l3 : Option mV} {st : mS} {f : Nat → Nat → Int32} {g : Nat → Nat → Option Nat}  : m_R (m_E d) 101 0 0 Q 120 [l0, l1, l2, l3] st (m_SH, f, g) = m_R (m_E d) 101 0 0 Q 121 [l0, l1, l2, l3] (.inl 1 :: st) (m_SH, f, g) := m_rst rfl rfl
set_option maxRecDepth 100000 in
theorem r101_121 {d : Nat} {Q : mQ} {l0 l1 l2 l3 : Option mV} {st : mS} {f : Nat → Nat → Int32} {g : Nat → Nat → Option Nat} {x y : Int32}  : m_R (m_E d) 101 0 0 Q 121 [l0, l1, l2, l3] (.inl y :: .inl x :: st) (m_SH, f, g) = m_R (m_E d) 101 0 0 Q 122 [l0, l1, l2, l3] (.inl (x + y) :: st) (m_SH, f, g) := m_rst rfl rfl
set_option maxRecDepth 100000 in
theorem r101_122 {d : Nat} {Q : mQ} {l0 l1 l2 l3 : Option mV} {st : mS} {f : Nat → Nat → Int32} {g : Nat → Nat → Option Nat} {i : Int32} (hi : vp_in i (f 1000001 0).toNatClampNeg) : m_R (m_E d) 101 0 0 Q 122 [l0, l1, l2, l3] (.inl i :: .inr (some 1000000) :: st) (m_SH, f, g) = m_R (m_E d) 101 0 0 Q 123 [l0, l1, l2, l3] (.inl (f 1000000 i.toNatClampNeg) :: st) (m_SH, f, g) := m_rst rfl (m_xi_s hi)
set_option maxRecDepth 100000 in
theorem r101_123 {d : Nat} {Q : mQ} {l0 l1 l2 l3 : Option mV} {st : mS} {f : Nat → Nat → Int32} {g : Nat → Nat → Option Nat} {v0 : mV} {k : Nat} (hs1 : m_kn k = 0) (hs2 : m_ln k = 6) (hst : st.length ≤ 8) : m_R (m_E d) 101 0 0 Q 123 [l0, l1, l2, l3] (v0 :: .inr (some k) :: st) (m_SH, f, g) = m_E d 63 [.inr (some k), v0] (m_SH, f, g) (fun r w => m_R (m_E d) 101 0 0 Q 126 [l0, l1, l2, l3] (r.toList ++ st) w) := m_rcall (rest := st) rfl (if_pos ⟨⟨by show 1 ≤ List.length (v0 :: .inr (some k) :: st); simp only [List.length_cons]; omega, rfl, hst, fun _ => m_sho hs1 hs2⟩, m_lb1, m_lb2⟩)
set_option maxRecDepth 100000 in
theorem r101_126 {d : Nat} {Q : mQ} {l0 l1 l2 l3 : Option mV} {st : mS} {f : Nat → Nat → Int32} {g : Nat → Nat → Option Nat} {x y : Int32}  : m_R (m_E d) 101 0 0 Q 126 [l0, l1, l2, l3] (.inl y :: .inl x :: st) (m_SH, f, g) = (if x = y then m_R (m_E d) 101 0 0 Q 529 [l0, l1, l2, l3] st (m_SH, f, g) else m_R (m_E d) 101 0 0 Q 129 [l0, l1, l2, l3] st (m_SH, f, g)) := m_rif rfl (o1 := some (.inl (529, [l0, l1, l2, l3], st, (m_SH, f, g)))) (o2 := some (.inl (129, [l0, l1, l2, l3], st, (m_SH, f, g)))) rfl
set_option maxRecDepth 100000 in
theorem r101_129 {d : Nat} {Q : mQ} {l0 l1 l2 l3 : Option mV} {st : mS} {f : Nat → Nat → Int32} {g : Nat → Nat → Option Nat}  : m_R (m_E d) 101 0 0 Q 129 [l0, l1, l2, l3] st (m_SH, f, g) = m_R (m_E d) 101 0 0 Q 130 [l0, l1, l2, l3] (.inl 0 :: st) (m_SH, f, g) := m_rst rfl rfl
set_option maxRecDepth 100000 in
theorem r101_130 {d : Nat} {Q : mQ} {l0 l1 l2 l3 : Option mV} {f : Nat → Nat → Int32} {g : Nat → Nat → Option Nat} {x : Int32} (hz : x = 0 ∨ x = 1) : m_R (m_E d) 101 0 0 Q 130 [l0, l1, l2, l3] [.inl x] (m_SH, f, g) = Q (some (.inl x)) (m_SH, f, g) := m_rret (i := .ireturn) rfl (m_st_ri.trans (m_ri2 (me := 101) (N := 0) (S := 0) (w := (m_SH, f, g)) rfl hz m_lrt))
set_option maxRecDepth 100000 in
theorem r101_131 {d : Nat} {Q : mQ} {l0 l2 l3 : Option mV} {st : mS} {f : Nat → Nat → Int32} {g : Nat → Nat → Option Nat} {x : Option Nat}  : m_R (m_E d) 101 0 0 Q 131 [l0, some (.inr x), l2, l3] st (m_SH, f, g) = m_R (m_E d) 101 0 0 Q 132 [l0, some (.inr x), l2, l3] (.inr x :: st) (m_SH, f, g) := m_rst rfl rfl
set_option maxRecDepth 100000 in
theorem r101_132 {d : Nat} {Q : mQ} {l1 l2 l3 : Option mV} {st : mS} {f : Nat → Nat → Int32} {g : Nat → Nat → Option Nat} {x : Option Nat}  : m_R (m_E d) 101 0 0 Q 132 [some (.inr x), l1, l2, l3] st (m_SH, f, g) = m_R (m_E d) 101 0 0 Q 133 [some (.inr x), l1, l2, l3] (.inr x :: st) (m_SH, f, g) := m_rst rfl rfl
set_option maxRecDepth 100000 in
theorem r101_133 {d : Nat} {Q : mQ} {l0 l1 l2 : Option mV} {st : mS} {f : Nat → Nat → Int32} {g : Nat → Nat → Option Nat} {x : Int32}  : m_R (m_E d) 101 0 0 Q 133 [l0, l1, l2, some (.inl x)] st (m_SH, f, g) = m_R (m_E d) 101 0 0 Q 134 [l0, l1, l2, some (.inl x)] (.inl x :: st) (m_SH, f, g) := m_rst rfl rfl
set_option maxRecDepth 100000 in
theorem r101_134 {d : Nat} {Q : mQ} {l0 l1 l2 l3 : Option mV} {st : mS} {f : Nat → Nat → Int32} {g : Nat → Nat → Option Nat}  : m_R (m_E d) 101 0 0 Q 134 [l0, l1, l2, l3] st (m_SH, f, g) = m_R (m_E d) 101 0 0 Q 135 [l0, l1, l2, l3] (.inl 1 :: st) (m_SH, f, g) := m_rst rfl rfl
set_option maxRecDepth 100000 in
theorem r101_135 {d : Nat} {Q : mQ} {l0 l1 l2 l3 : Option mV} {st : mS} {f : Nat → Nat → Int32} {g : Nat → Nat → Option Nat} {x y : Int32}  : m_R (m_E d) 101 0 0 Q 135 [l0, l1, l2, l3] (.inl y :: .inl x :: st) (m_SH, f, g) = m_R (m_E d) 101 0 0 Q 136 [l0, l1, l2, l3] (.inl (x + y) :: st) (m_SH, f, g) := m_rst rfl rfl
set_option maxRecDepth 100000 in
theorem r101_136 {d : Nat} {Q : mQ} {l0 l1 l2 l3 : Option mV} {st : mS} {f : Nat → Nat → Int32} {g : Nat → Nat → Option Nat} {i : Int32} (hi : vp_in i (f 1000001 0).toNatClampNeg) : m_R (m_E d) 101 0 0 Q 136 [l0, l1, l2, l3] (.inl i :: .inr (some 1000000) :: st) (m_SH, f, g) = m_R (m_E d) 101 0 0 Q 137 [l0, l1, l2, l3] (.inl (f 1000000 i.toNatClampNeg) :: st) (m_SH, f, g) := m_rst rfl (m_xi_s hi)
set_option maxRecDepth 100000 in
theorem r101_137 {d : Nat} {Q : mQ} {l0 l1 l2 l3 : Option mV} {st : mS} {f : Nat → Nat → Int32} {g : Nat → Nat → Option Nat} {v0 : mV} {k : Nat} (hs1 : m_kn k = 0) (hs2 : m_ln k = 0) (hst : st.length ≤ 8) : m_R (m_E d) 101 0 0 Q 137 [l0, l1, l2, l3] (v0 :: .inr (some k) :: st) (m_SH, f, g) = m_E d 10 [.inr (some k), v0] (m_SH, f, g) (fun r w => m_R (m_E d) 101 0 0 Q 140 [l0, l1, l2, l3] (r.toList ++ st) w) := m_rcall (rest := st) rfl (if_pos ⟨⟨by show 1 ≤ List.length (v0 :: .inr (some k) :: st); simp only [List.length_cons]; omega, rfl, hst, fun _ => m_sho hs1 hs2⟩, m_lb1, m_lb2⟩)
set_option maxRecDepth 100000 in
theorem r101_140 {d : Nat} {Q : mQ} {l0 l1 l3 : Option mV} {st : mS} {f : Nat → Nat → Int32} {g : Nat → Nat → Option Nat} {x : Option Nat}  : m_R (m_E d) 101 0 0 Q 140 [l0, l1, some (.inr x), l3] st (m_SH, f, g) = m_R (m_E d) 101 0 0 Q 141 [l0, l1, some (.inr x), l3] (.inr x :: st) (m_SH, f, g) := m_rst rfl rfl
set_option maxRecDepth 100000 in
theorem r101_141 {d : Nat} {Q : mQ} {l1 l2 l3 : Option mV} {st : mS} {f : Nat → Nat → Int32} {g : Nat → Nat → Option Nat} {x : Option Nat}  : m_R (m_E d) 101 0 0 Q 141 [some (.inr x), l1, l2, l3] st (m_SH, f, g) = m_R (m_E d) 101 0 0 Q 142 [some (.inr x), l1, l2, l3] (.inr x :: st) (m_SH, f, g) := m_rst rfl rfl
set_option maxRecDepth 100000 in
theorem r101_142 {d : Nat} {Q : mQ} {l0 l1 l2 : Option mV} {st : mS} {f : Nat → Nat → Int32} {g : Nat → Nat → Option Nat} {x : Int32}  : m_R (m_E d) 101 0 0 Q 142 [l0, l1, l2, some (.inl x)] st (m_SH, f, g) = m_R (m_E d) 101 0 0 Q 143 [l0, l1, l2, some (.inl x)] (.inl x :: st) (m_SH, f, g) := m_rst rfl rfl
set_option maxRecDepth 100000 in
theorem r101_143 {d : Nat} {Q : mQ} {l0 l1 l2 l3 : Option mV} {st : mS} {f : Nat → Nat → Int32} {g : Nat → Nat → Option Nat}  : m_R (m_E d) 101 0 0 Q 143 [l0, l1, l2, l3] st (m_SH, f, g) = m_R (m_E d) 101 0 0 Q 144 [l0, l1, l2, l3] (.inl 1 :: st) (m_SH, f, g) := m_rst rfl rfl
set_option maxRecDepth 100000 in
theorem r101_144 {d : Nat} {Q : mQ} {l0 l1 l2 l3 : Option mV} {st : mS} {f : Nat → Nat → Int32} {g : Nat → Nat → Option Nat} {x y : Int32}  : m_R (m_E d) 101 0 0 Q 144 [l0, l1, l2, l3] (.inl y :: .inl x :: st) (m_SH, f, g) = m_R (m_E d) 101 0 0 Q 145 [l0, l1, l2, l3] (.inl (x + y) :: st) (m_SH, f, g) := m_rst rfl rfl
set_option maxRecDepth 100000 in
theorem r101_145 {d : Nat} {Q : mQ} {l0 l1 l2 l3 : Option mV} {st : mS} {f : Nat → Nat → Int32} {g : Nat → Nat → Option Nat} {i : Int32} (hi : vp_in i (f 1000001 0).toNatClampNeg) : m_R (m_E d) 101 0 0 Q 145 [l0, l1, l2, l3] (.inl i :: .inr (some 1000000) :: st) (m_SH, f, g) = m_R (m_E d) 101 0 0 Q 146 [l0, l1, l2, l3] (.inl (f 1000000 i.toNatClampNeg) :: st) (m_SH, f, g) := m_rst rfl (m_xi_s hi)
set_option maxRecDepth 100000 in
theorem r101_146 {d : Nat} {Q : mQ} {l0 l1 l2 l3 : Option mV} {st : mS} {f : Nat → Nat → Int32} {g : Nat → Nat → Option Nat} {v0 : mV} {k : Nat} (hs1 : m_kn k = 0) (hs2 : m_ln k = 6) (hst : st.length ≤ 8) : m_R (m_E d) 101 0 0 Q 146 [l0, l1, l2, l3] (v0 :: .inr (some k) :: st) (m_SH, f, g) = m_E d 65 [.inr (some k), v0] (m_SH, f, g) (fun r w => m_R (m_E d) 101 0 0 Q 149 [l0, l1, l2, l3] (r.toList ++ st) w) := m_rcall (rest := st) rfl (if_pos ⟨⟨by show 1 ≤ List.length (v0 :: .inr (some k) :: st); simp only [List.length_cons]; omega, rfl, hst, fun _ => m_sho hs1 hs2⟩, m_lb1, m_lb2⟩)
set_option maxRecDepth 100000 in
theorem r101_149 {d : Nat} {Q : mQ} {l0 l1 l2 l3 : Option mV} {st : mS} {f : Nat → Nat → Int32} {g : Nat → Nat → Option Nat} {x y : Int32}  : m_R (m_E d) 101 0 0 Q 149 [l0, l1, l2, l3] (.inl y :: .inl x :: st) (m_SH, f, g) = (if x = y then m_R (m_E d) 101 0 0 Q 529 [l0, l1, l2, l3] st (m_SH, f, g) else m_R (m_E d) 101 0 0 Q 152 [l0, l1, l2, l3] st (m_SH, f, g)) := m_rif rfl (o1 := some (.inl (529, [l0, l1, l2, l3], st, (m_SH, f, g)))) (o2 := some (.inl (152, [l0, l1, l2, l3], st, (m_SH, f, g)))) rfl
set_option maxRecDepth 100000 in
theorem r101_152 {d : Nat} {Q : mQ} {l0 l1 l2 l3 : Option mV} {st : mS} {f : Nat → Nat → Int32} {g : Nat → Nat → Option Nat}  : m_R (m_E d) 101 0 0 Q 152 [l0, l1, l2, l3] st (m_SH, f, g) = m_R (m_E d) 101 0 0 Q 153 [l0, l1, l2, l3] (.inl 0 :: st) (m_SH, f, g) := m_rst rfl rfl
set_option maxRecDepth 100000 in
theorem r101_153 {d : Nat} {Q : mQ} {l0 l1 l2 l3 : Option mV} {f : Nat → Nat → Int32} {g : Nat → Nat → Option Nat} {x : Int32} (hz : x = 0 ∨ x = 1) : m_R (m_E d) 101 0 0 Q 153 [l0, l1, l2, l3] [.inl x] (m_SH, f, g) = Q (some (.inl x)) (m_SH, f, g) := m_rret (i := .ireturn) rfl (m_st_ri.trans (m_ri2 (me := 101) (N := 0) (S := 0) (w := (m_SH, f, g)) rfl hz m_lrt))
set_option maxRecDepth 100000 in
theorem r101_154 {d : Nat} {Q : mQ} {l0 l2 l3 : Option mV} {st : mS} {f : Nat → Nat → Int32} {g : Nat → Nat → Option Nat} {x : Option Nat}  : m_R (m_E d) 101 0 0 Q 154 [l0, some (.inr x), l2, l3] st (m_SH, f, g) = m_R (m_E d) 101 0 0 Q 155 [l0, some (.inr x), l2, l3] (.inr x :: st) (m_SH, f, g) := m_rst rfl rfl
set_option maxRecDepth 100000 in
theorem r101_155 {d : Nat} {Q : mQ} {l1 l2 l3 : Option mV} {st : mS} {f : Nat → Nat → Int32} {g : Nat → Nat → Option Nat} {x : Option Nat}  : m_R (m_E d) 101 0 0 Q 155 [some (.inr x), l1, l2, l3] st (m_SH, f, g) = m_R (m_E d) 101 0 0 Q 156 [some (.inr x), l1, l2, l3] (.inr x :: st) (m_SH, f, g) := m_rst rfl rfl
set_option maxRecDepth 100000 in
theorem r101_156 {d : Nat} {Q : mQ} {l0 l1 l2 : Option mV} {st : mS} {f : Nat → Nat → Int32} {g : Nat → Nat → Option Nat} {x : Int32}  : m_R (m_E d) 101 0 0 Q 156 [l0, l1, l2, some (.inl x)] st (m_SH, f, g) = m_R (m_E d) 101 0 0 Q 157 [l0, l1, l2, some (.inl x)] (.inl x :: st) (m_SH, f, g) := m_rst rfl rfl
set_option maxRecDepth 100000 in
theorem r101_157 {d : Nat} {Q : mQ} {l0 l1 l2 l3 : Option mV} {st : mS} {f : Nat → Nat → Int32} {g : Nat → Nat → Option Nat}  : m_R (m_E d) 101 0 0 Q 157 [l0, l1, l2, l3] st (m_SH, f, g) = m_R (m_E d) 101 0 0 Q 158 [l0, l1, l2, l3] (.inl 1 :: st) (m_SH, f, g) := m_rst rfl rfl
set_option maxRecDepth 100000 in
theorem r101_158 {d : Nat} {Q : mQ} {l0 l1 l2 l3 : Option mV} {st : mS} {f : Nat → Nat → Int32} {g : Nat → Nat → Option Nat} {x y : Int32}  : m_R (m_E d) 101 0 0 Q 158 [l0, l1, l2, l3] (.inl y :: .inl x :: st) (m_SH, f, g) = m_R (m_E d) 101 0 0 Q 159 [l0, l1, l2, l3] (.inl (x + y) :: st) (m_SH, f, g) := m_rst rfl rfl
set_option maxRecDepth 100000 in
theorem r101_159 {d : Nat} {Q : mQ} {l0 l1 l2 l3 : Option mV} {st : mS} {f : Nat → Nat → Int32} {g : Nat → Nat → Option Nat} {i : Int32} (hi : vp_in i (f 1000001 0).toNatClampNeg) : m_R (m_E d) 101 0 0 Q 159 [l0, l1, l2, l3] (.inl i :: .inr (some 1000000) :: st) (m_SH, f, g) = m_R (m_E d) 101 0 0 Q 160 [l0, l1, l2, l3] (.inl (f 1000000 i.toNatClampNeg) :: st) (m_SH, f, g) := m_rst rfl (m_xi_s hi)
set_option maxRecDepth 100000 in
theorem r101_160 {d : Nat} {Q : mQ} {l1 l2 l3 : Option mV} {st : mS} {f : Nat → Nat → Int32} {g : Nat → Nat → Option Nat} {x : Option Nat}  : m_R (m_E d) 101 0 0 Q 160 [some (.inr x), l1, l2, l3] st (m_SH, f, g) = m_R (m_E d) 101 0 0 Q 161 [some (.inr x), l1, l2, l3] (.inr x :: st) (m_SH, f, g) := m_rst rfl rfl
set_option maxRecDepth 100000 in
theorem r101_161 {d : Nat} {Q : mQ} {l0 l1 l2 : Option mV} {st : mS} {f : Nat → Nat → Int32} {g : Nat → Nat → Option Nat} {x : Int32}  : m_R (m_E d) 101 0 0 Q 161 [l0, l1, l2, some (.inl x)] st (m_SH, f, g) = m_R (m_E d) 101 0 0 Q 162 [l0, l1, l2, some (.inl x)] (.inl x :: st) (m_SH, f, g) := m_rst rfl rfl
set_option maxRecDepth 100000 in
theorem r101_162 {d : Nat} {Q : mQ} {l0 l1 l2 l3 : Option mV} {st : mS} {f : Nat → Nat → Int32} {g : Nat → Nat → Option Nat}  : m_R (m_E d) 101 0 0 Q 162 [l0, l1, l2, l3] st (m_SH, f, g) = m_R (m_E d) 101 0 0 Q 163 [l0, l1, l2, l3] (.inl 2 :: st) (m_SH, f, g) := m_rst rfl rfl
set_option maxRecDepth 100000 in
theorem r101_163 {d : Nat} {Q : mQ} {l0 l1 l2 l3 : Option mV} {st : mS} {f : Nat → Nat → Int32} {g : Nat → Nat → Option Nat} {x y : Int32}  : m_R (m_E d) 101 0 0 Q 163 [l0, l1, l2, l3] (.inl y :: .inl x :: st) (m_SH, f, g) = m_R (m_E d) 101 0 0 Q 164 [l0, l1, l2, l3] (.inl (x + y) :: st) (m_SH, f, g) := m_rst rfl rfl
set_option maxRecDepth 100000 in
theorem r101_164 {d : Nat} {Q : mQ} {l0 l1 l2 l3 : Option mV} {st : mS} {f : Nat → Nat → Int32} {g : Nat → Nat → Option Nat} {i : Int32} (hi : vp_in i (f 1000001 0).toNatClampNeg) : m_R (m_E d) 101 0 0 Q 164 [l0, l1, l2, l3] (.inl i :: .inr (some 1000000) :: st) (m_SH, f, g) = m_R (m_E d) 101 0 0 Q 165 [l0, l1, l2, l3] (.inl (f 1000000 i.toNatClampNeg) :: st) (m_SH, f, g) := m_rst rfl (m_xi_s hi)
set_option maxRecDepth 100000 in
theorem r101_165 {d : Nat} {Q : mQ} {l1 l2 l3 : Option mV} {st : mS} {f : Nat → Nat → Int32} {g : Nat → Nat → Option Nat} {x : Option Nat}  : m_R (m_E d) 101 0 0 Q 165 [some (.inr x), l1, l2, l3] st (m_SH, f, g) = m_R (m_E d) 101 0 0 Q 166 [some (.inr x), l1, l2, l3] (.inr x :: st) (m_SH, f, g) := m_rst rfl rfl
set_option maxRecDepth 100000 in
theorem r101_166 {d : Nat} {Q : mQ} {l0 l1 l2 : Option mV} {st : mS} {f : Nat → Nat → Int32} {g : Nat → Nat → Option Nat} {x : Int32}  : m_R (m_E d) 101 0 0 Q 166 [l0, l1, l2, some (.inl x)] st (m_SH, f, g) = m_R (m_E d) 101 0 0 Q 167 [l0, l1, l2, some (.inl x)] (.inl x :: st) (m_SH, f, g) := m_rst rfl rfl
set_option maxRecDepth 100000 in
theorem r101_167 {d : Nat} {Q : mQ} {l0 l1 l2 l3 : Option mV} {st : mS} {f : Nat → Nat → Int32} {g : Nat → Nat → Option Nat}  : m_R (m_E d) 101 0 0 Q 167 [l0, l1, l2, l3] st (m_SH, f, g) = m_R (m_E d) 101 0 0 Q 168 [l0, l1, l2, l3] (.inl 3 :: st) (m_SH, f, g) := m_rst rfl rfl
set_option maxRecDepth 100000 in
theorem r101_168 {d : Nat} {Q : mQ} {l0 l1 l2 l3 : Option mV} {st : mS} {f : Nat → Nat → Int32} {g : Nat → Nat → Option Nat} {x y : Int32}  : m_R (m_E d) 101 0 0 Q 168 [l0, l1, l2, l3] (.inl y :: .inl x :: st) (m_SH, f, g) = m_R (m_E d) 101 0 0 Q 169 [l0, l1, l2, l3] (.inl (x + y) :: st) (m_SH, f, g) := m_rst rfl rfl
set_option maxRecDepth 100000 in
theorem r101_169 {d : Nat} {Q : mQ} {l0 l1 l2 l3 : Option mV} {st : mS} {f : Nat → Nat → Int32} {g : Nat → Nat → Option Nat} {i : Int32} (hi : vp_in i (f 1000001 0).toNatClampNeg) : m_R (m_E d) 101 0 0 Q 169 [l0, l1, l2, l3] (.inl i :: .inr (some 1000000) :: st) (m_SH, f, g) = m_R (m_E d) 101 0 0 Q 170 [l0, l1, l2, l3] (.inl (f 1000000 i.toNatClampNeg) :: st) (m_SH, f, g) := m_rst rfl (m_xi_s hi)
set_option maxRecDepth 100000 in
theorem r101_170 {d : Nat} {Q : mQ} {l0 l1 l2 l3 : Option mV} {st : mS} {f : Nat → Nat → Int32} {g : Nat → Nat → Option Nat} {x : Int32}  : m_R (m_E d) 101 0 0 Q 170 [l0, l1, l2, l3] (.inl x :: st) (m_SH, f, g) = (if x = 0 then m_R (m_E d) 101 0 0 Q 177 [l0, l1, l2, l3] st (m_SH, f, g) else m_R (m_E d) 101 0 0 Q 173 [l0, l1, l2, l3] st (m_SH, f, g)) := m_rif rfl (o1 := some (.inl (177, [l0, l1, l2, l3], st, (m_SH, f, g)))) (o2 := some (.inl (173, [l0, l1, l2, l3], st, (m_SH, f, g)))) rfl
set_option maxRecDepth 100000 in
theorem r101_173 {d : Nat} {Q : mQ} {l0 l1 l2 l3 : Option mV} {st : mS} {f : Nat → Nat → Int32} {g : Nat → Nat → Option Nat}  : m_R (m_E d) 101 0 0 Q 173 [l0, l1, l2, l3] st (m_SH, f, g) = m_R (m_E d) 101 0 0 Q 174 [l0, l1, l2, l3] (.inl 1 :: st) (m_SH, f, g) := m_rst rfl rfl
set_option maxRecDepth 100000 in
theorem r101_174 {d : Nat} {Q : mQ} {l0 l1 l2 l3 : Option mV} {st : mS} {f : Nat → Nat → Int32} {g : Nat → Nat → Option Nat}  : m_R (m_E d) 101 0 0 Q 174 [l0, l1, l2, l3] st (m_SH, f, g) = m_R (m_E d) 101 0 0 Q 178 [l0, l1, l2, l3] st (m_SH, f, g) := m_rst rfl rfl
set_option maxRecDepth 100000 in
theorem r101_177 {d : Nat} {Q : mQ} {l0 l1 l2 l3 : Option mV} {st : mS} {f : Nat → Nat → Int32} {g : Nat → Nat → Option Nat}  : m_R (m_E d) 101 0 0 Q 177 [l0, l1, l2, l3] st (m_SH, f, g) = m_R (m_E d) 101 0 0 Q 178 [l0, l1, l2, l3] (.inl 0 :: st) (m_SH, f, g) := m_rst rfl rfl
set_option maxRecDepth 100000 in
theorem r101_178 {d : Nat} {Q : mQ} {l0 l1 l2 l3 : Option mV} {st : mS} {f : Nat → Nat → Int32} {g : Nat → Nat → Option Nat} {v0 v1 v2 : mV} {k : Nat} (hs1 : m_kn k = 0) (hs2 : m_ln k = 0) (hst : st.length ≤ 8) : m_R (m_E d) 101 0 0 Q 178 [l0, l1, l2, l3] (v2 :: v1 :: v0 :: .inr (some k) :: st) (m_SH, f, g) = m_E d 11 [.inr (some k), v0, v1, v2] (m_SH, f, g) (fun r w => m_R (m_E d) 101 0 0 Q 181 [l0, l1, l2, l3] (r.toList ++ st) w) := m_rcall (rest := st) rfl (if_pos ⟨⟨by show 3 ≤ List.length (v2 :: v1 :: v0 :: .inr (some k) :: st); simp only [List.length_cons]; omega, rfl, hst, fun _ => m_sho hs1 hs2⟩, m_lb1, m_lb2⟩)
set_option maxRecDepth 100000 in
theorem r101_181 {d : Nat} {Q : mQ} {l0 l1 l3 : Option mV} {st : mS} {f : Nat → Nat → Int32} {g : Nat → Nat → Option Nat} {x : Option Nat}  : m_R (m_E d) 101 0 0 Q 181 [l0, l1, some (.inr x), l3] st (m_SH, f, g) = m_R (m_E d) 101 0 0 Q 182 [l0, l1, some (.inr x), l3] (.inr x :: st) (m_SH, f, g) := m_rst rfl rfl
set_option maxRecDepth 100000 in
theorem r101_182 {d : Nat} {Q : mQ} {l1 l2 l3 : Option mV} {st : mS} {f : Nat → Nat → Int32} {g : Nat → Nat → Option Nat} {x : Option Nat}  : m_R (m_E d) 101 0 0 Q 182 [some (.inr x), l1, l2, l3] st (m_SH, f, g) = m_R (m_E d) 101 0 0 Q 183 [some (.inr x), l1, l2, l3] (.inr x :: st) (m_SH, f, g) := m_rst rfl rfl
set_option maxRecDepth 100000 in
theorem r101_183 {d : Nat} {Q : mQ} {l0 l1 l2 : Option mV} {st : mS} {f : Nat → Nat → Int32} {g : Nat → Nat → Option Nat} {x : Int32}  : m_R (m_E d) 101 0 0 Q 183 [l0, l1, l2, some (.inl x)] st (m_SH, f, g) = m_R (m_E d) 101 0 0 Q 184 [l0, l1, l2, some (.inl x)] (.inl x :: st) (m_SH, f, g) := m_rst rfl rfl
set_option maxRecDepth 100000 in
theorem r101_184 {d : Nat} {Q : mQ} {l0 l1 l2 l3 : Option mV} {st : mS} {f : Nat → Nat → Int32} {g : Nat → Nat → Option Nat}  : m_R (m_E d) 101 0 0 Q 184 [l0, l1, l2, l3] st (m_SH, f, g) = m_R (m_E d) 101 0 0 Q 185 [l0, l1, l2, l3] (.inl 1 :: st) (m_SH, f, g) := m_rst rfl rfl
set_option maxRecDepth 100000 in
theorem r101_185 {d : Nat} {Q : mQ} {l0 l1 l2 l3 : Option mV} {st : mS} {f : Nat → Nat → Int32} {g : Nat → Nat → Option Nat} {x y : Int32}  : m_R (m_E d) 101 0 0 Q 185 [l0, l1, l2, l3] (.inl y :: .inl x :: st) (m_SH, f, g) = m_R (m_E d) 101 0 0 Q 186 [l0, l1, l2, l3] (.inl (x + y) :: st) (m_SH, f, g) := m_rst rfl rfl
set_option maxRecDepth 100000 in
theorem r101_186 {d : Nat} {Q : mQ} {l0 l1 l2 l3 : Option mV} {st : mS} {f : Nat → Nat → Int32} {g : Nat → Nat → Option Nat} {i : Int32} (hi : vp_in i (f 1000001 0).toNatClampNeg) : m_R (m_E d) 101 0 0 Q 186 [l0, l1, l2, l3] (.inl i :: .inr (some 1000000) :: st) (m_SH, f, g) = m_R (m_E d) 101 0 0 Q 187 [l0, l1, l2, l3] (.inl (f 1000000 i.toNatClampNeg) :: st) (m_SH, f, g) := m_rst rfl (m_xi_s hi)
set_option maxRecDepth 100000 in
theorem r101_187 {d : Nat} {Q : mQ} {l1 l2 l3 : Option mV} {st : mS} {f : Nat → Nat → Int32} {g : Nat → Nat → Option Nat} {x : Option Nat}  : m_R (m_E d) 101 0 0 Q 187 [some (.inr x), l1, l2, l3] st (m_SH, f, g) = m_R (m_E d) 101 0 0 Q 188 [some (.inr x), l1, l2, l3] (.inr x :: st) (m_SH, f, g) := m_rst rfl rfl
set_option maxRecDepth 100000 in
theorem r101_188 {d : Nat} {Q : mQ} {l0 l1 l2 : Option mV} {st : mS} {f : Nat → Nat → Int32} {g : Nat → Nat → Option Nat} {x : Int32}  : m_R (m_E d) 101 0 0 Q 188 [l0, l1, l2, some (.inl x)] st (m_SH, f, g) = m_R (m_E d) 101 0 0 Q 189 [l0, l1, l2, some (.inl x)] (.inl x :: st) (m_SH, f, g) := m_rst rfl rfl
set_option maxRecDepth 100000 in
theorem r101_189 {d : Nat} {Q : mQ} {l0 l1 l2 l3 : Option mV} {st : mS} {f : Nat → Nat → Int32} {g : Nat → Nat → Option Nat}  : m_R (m_E d) 101 0 0 Q 189 [l0, l1, l2, l3] st (m_SH, f, g) = m_R (m_E d) 101 0 0 Q 190 [l0, l1, l2, l3] (.inl 2 :: st) (m_SH, f, g) := m_rst rfl rfl
set_option maxRecDepth 100000 in
theorem r101_190 {d : Nat} {Q : mQ} {l0 l1 l2 l3 : Option mV} {st : mS} {f : Nat → Nat → Int32} {g : Nat → Nat → Option Nat} {x y : Int32}  : m_R (m_E d) 101 0 0 Q 190 [l0, l1, l2, l3] (.inl y :: .inl x :: st) (m_SH, f, g) = m_R (m_E d) 101 0 0 Q 191 [l0, l1, l2, l3] (.inl (x + y) :: st) (m_SH, f, g) := m_rst rfl rfl
set_option maxRecDepth 100000 in
theorem r101_191 {d : Nat} {Q : mQ} {l0 l1 l2 l3 : Option mV} {st : mS} {f : Nat → Nat → Int32} {g : Nat → Nat → Option Nat} {i : Int32} (hi : vp_in i (f 1000001 0).toNatClampNeg) : m_R (m_E d) 101 0 0 Q 191 [l0, l1, l2, l3] (.inl i :: .inr (some 1000000) :: st) (m_SH, f, g) = m_R (m_E d) 101 0 0 Q 192 [l0, l1, l2, l3] (.inl (f 1000000 i.toNatClampNeg) :: st) (m_SH, f, g) := m_rst rfl (m_xi_s hi)
set_option maxRecDepth 100000 in
theorem r101_192 {d : Nat} {Q : mQ} {l1 l2 l3 : Option mV} {st : mS} {f : Nat → Nat → Int32} {g : Nat → Nat → Option Nat} {x : Option Nat}  : m_R (m_E d) 101 0 0 Q 192 [some (.inr x), l1, l2, l3] st (m_SH, f, g) = m_R (m_E d) 101 0 0 Q 193 [some (.inr x), l1, l2, l3] (.inr x :: st) (m_SH, f, g) := m_rst rfl rfl
set_option maxRecDepth 100000 in
theorem r101_193 {d : Nat} {Q : mQ} {l0 l1 l2 : Option mV} {st : mS} {f : Nat → Nat → Int32} {g : Nat → Nat → Option Nat} {x : Int32}  : m_R (m_E d) 101 0 0 Q 193 [l0, l1, l2, some (.inl x)] st (m_SH, f, g) = m_R (m_E d) 101 0 0 Q 194 [l0, l1, l2, some (.inl x)] (.inl x :: st) (m_SH, f, g) := m_rst rfl rfl
set_option maxRecDepth 100000 in
theorem r101_194 {d : Nat} {Q : mQ} {l0 l1 l2 l3 : Option mV} {st : mS} {f : Nat → Nat → Int32} {g : Nat → Nat → Option Nat}  : m_R (m_E d) 101 0 0 Q 194 [l0, l1, l2, l3] st (m_SH, f, g) = m_R (m_E d) 101 0 0 Q 195 [l0, l1, l2, l3] (.inl 3 :: st) (m_SH, f, g) := m_rst rfl rfl
set_option maxRecDepth 100000 in
theorem r101_195 {d : Nat} {Q : mQ} {l0 l1 l2 l3 : Option mV} {st : mS} {f : Nat → Nat → Int32} {g : Nat → Nat → Option Nat} {x y : Int32}  : m_R (m_E d) 101 0 0 Q 195 [l0, l1, l2, l3] (.inl y :: .inl x :: st) (m_SH, f, g) = m_R (m_E d) 101 0 0 Q 196 [l0, l1, l2, l3] (.inl (x + y) :: st) (m_SH, f, g) := m_rst rfl rfl
set_option maxRecDepth 100000 in
theorem r101_196 {d : Nat} {Q : mQ} {l0 l1 l2 l3 : Option mV} {st : mS} {f : Nat → Nat → Int32} {g : Nat → Nat → Option Nat} {i : Int32} (hi : vp_in i (f 1000001 0).toNatClampNeg) : m_R (m_E d) 101 0 0 Q 196 [l0, l1, l2, l3] (.inl i :: .inr (some 1000000) :: st) (m_SH, f, g) = m_R (m_E d) 101 0 0 Q 197 [l0, l1, l2, l3] (.inl (f 1000000 i.toNatClampNeg) :: st) (m_SH, f, g) := m_rst rfl (m_xi_s hi)
set_option maxRecDepth 100000 in
theorem r101_197 {d : Nat} {Q : mQ} {l0 l1 l2 l3 : Option mV} {st : mS} {f : Nat → Nat → Int32} {g : Nat → Nat → Option Nat} {x : Int32}  : m_R (m_E d) 101 0 0 Q 197 [l0, l1, l2, l3] (.inl x :: st) (m_SH, f, g) = (if x = 0 then m_R (m_E d) 101 0 0 Q 204 [l0, l1, l2, l3] st (m_SH, f, g) else m_R (m_E d) 101 0 0 Q 200 [l0, l1, l2, l3] st (m_SH, f, g)) := m_rif rfl (o1 := some (.inl (204, [l0, l1, l2, l3], st, (m_SH, f, g)))) (o2 := some (.inl (200, [l0, l1, l2, l3], st, (m_SH, f, g)))) rfl
set_option maxRecDepth 100000 in
theorem r101_200 {d : Nat} {Q : mQ} {l0 l1 l2 l3 : Option mV} {st : mS} {f : Nat → Nat → Int32} {g : Nat → Nat → Option Nat}  : m_R (m_E d) 101 0 0 Q 200 [l0, l1, l2, l3] st (m_SH, f, g) = m_R (m_E d) 101 0 0 Q 201 [l0, l1, l2, l3] (.inl 1 :: st) (m_SH, f, g) := m_rst rfl rfl
set_option maxRecDepth 100000 in
theorem r101_201 {d : Nat} {Q : mQ} {l0 l1 l2 l3 : Option mV} {st : mS} {f : Nat → Nat → Int32} {g : Nat → Nat → Option Nat}  : m_R (m_E d) 101 0 0 Q 201 [l0, l1, l2, l3] st (m_SH, f, g) = m_R (m_E d) 101 0 0 Q 205 [l0, l1, l2, l3] st (m_SH, f, g) := m_rst rfl rfl
set_option maxRecDepth 100000 in
theorem r101_204 {d : Nat} {Q : mQ} {l0 l1 l2 l3 : Option mV} {st : mS} {f : Nat → Nat → Int32} {g : Nat → Nat → Option Nat}  : m_R (m_E d) 101 0 0 Q 204 [l0, l1, l2, l3] st (m_SH, f, g) = m_R (m_E d) 101 0 0 Q 205 [l0, l1, l2, l3] (.inl 0 :: st) (m_SH, f, g) := m_rst rfl rfl
set_option maxRecDepth 100000 in
theorem r101_205 {d : Nat} {Q : mQ} {l0 l1 l2 l3 : Option mV} {st : mS} {f : Nat → Nat → Int32} {g : Nat → Nat → Option Nat} {v0 v1 v2 : mV} {k : Nat} (hs1 : m_kn k = 0) (hs2 : m_ln k = 6) (hst : st.length ≤ 8) : m_R (m_E d) 101 0 0 Q 205 [l0, l1, l2, l3] (v2 :: v1 :: v0 :: .inr (some k) :: st) (m_SH, f, g) = m_E d 66 [.inr (some k), v0, v1, v2] (m_SH, f, g) (fun r w => m_R (m_E d) 101 0 0 Q 208 [l0, l1, l2, l3] (r.toList ++ st) w) := m_rcall (rest := st) rfl (if_pos ⟨⟨by show 3 ≤ List.length (v2 :: v1 :: v0 :: .inr (some k) :: st); simp only [List.length_cons]; omega, rfl, hst, fun _ => m_sho hs1 hs2⟩, m_lb1, m_lb2⟩)
set_option maxRecDepth 100000 in
theorem r101_208 {d : Nat} {Q : mQ} {l0 l1 l2 l3 : Option mV} {st : mS} {f : Nat → Nat → Int32} {g : Nat → Nat → Option Nat} {x y : Int32}  : m_R (m_E d) 101 0 0 Q 208 [l0, l1, l2, l3] (.inl y :: .inl x :: st) (m_SH, f, g) = (if x = y then m_R (m_E d) 101 0 0 Q 529 [l0, l1, l2, l3] st (m_SH, f, g) else m_R (m_E d) 101 0 0 Q 211 [l0, l1, l2, l3] st (m_SH, f, g)) := m_rif rfl (o1 := some (.inl (529, [l0, l1, l2, l3], st, (m_SH, f, g)))) (o2 := some (.inl (211, [l0, l1, l2, l3], st, (m_SH, f, g)))) rfl
set_option maxRecDepth 100000 in
theorem r101_211 {d : Nat} {Q : mQ} {l0 l1 l2 l3 : Option mV} {st : mS} {f : Nat → Nat → Int32} {g : Nat → Nat → Option Nat}  : m_R (m_E d) 101 0 0 Q 211 [l0, l1, l2, l3] st (m_SH, f, g) = m_R (m_E d) 101 0 0 Q 212 [l0, l1, l2, l3] (.inl 0 :: st) (m_SH, f, g) := m_rst rfl rfl
set_option maxRecDepth 100000 in
theorem r101_212 {d : Nat} {Q : mQ} {l0 l1 l2 l3 : Option mV} {f : Nat → Nat → Int32} {g : Nat → Nat → Option Nat} {x : Int32} (hz : x = 0 ∨ x = 1) : m_R (m_E d) 101 0 0 Q 212 [l0, l1, l2, l3] [.inl x] (m_SH, f, g) = Q (some (.inl x)) (m_SH, f, g) := m_rret (i := .ireturn) rfl (m_st_ri.trans (m_ri2 (me := 101) (N := 0) (S := 0) (w := (m_SH, f, g)) rfl hz m_lrt))
set_option maxRecDepth 100000 in
theorem r101_213 {d : Nat} {Q : mQ} {l0 l2 l3 : Option mV} {st : mS} {f : Nat → Nat → Int32} {g : Nat → Nat → Option Nat} {x : Option Nat}  : m_R (m_E d) 101 0 0 Q 213 [l0, some (.inr x), l2, l3] st (m_SH, f, g) = m_R (m_E d) 101 0 0 Q 214 [l0, some (.inr x), l2, l3] (.inr x :: st) (m_SH, f, g) := m_rst rfl rfl
set_option maxRecDepth 100000 in
theorem r101_214 {d : Nat} {Q : mQ} {l1 l2 l3 : Option mV} {st : mS} {f : Nat → Nat → Int32} {g : Nat → Nat → Option Nat} {x : Option Nat}  : m_R (m_E d) 101 0 0 Q 214 [some (.inr x), l1, l2, l3] st (m_SH, f, g) = m_R (m_E d) 101 0 0 Q 215 [some (.inr x), l1, l2, l3] (.inr x :: st) (m_SH, f, g) := m_rst rfl rfl
set_option maxRecDepth 100000 in
theorem r101_215 {d : Nat} {Q : mQ} {l0 l1 l2 : Option mV} {st : mS} {f : Nat → Nat → Int32} {g : Nat → Nat → Option Nat} {x : Int32}  : m_R (m_E d) 101 0 0 Q 215 [l0, l1, l2, some (.inl x)] st (m_SH, f, g) = m_R (m_E d) 101 0 0 Q 216 [l0, l1, l2, some (.inl x)] (.inl x :: st) (m_SH, f, g) := m_rst rfl rfl
set_option maxRecDepth 100000 in
theorem r101_216 {d : Nat} {Q : mQ} {l0 l1 l2 l3 : Option mV} {st : mS} {f : Nat → Nat → Int32} {g : Nat → Nat → Option Nat}  : m_R (m_E d) 101 0 0 Q 216 [l0, l1, l2, l3] st (m_SH, f, g) = m_R (m_E d) 101 0 0 Q 217 [l0, l1, l2, l3] (.inl 1 :: st) (m_SH, f, g) := m_rst rfl rfl
set_option maxRecDepth 100000 in
theorem r101_217 {d : Nat} {Q : mQ} {l0 l1 l2 l3 : Option mV} {st : mS} {f : Nat → Nat → Int32} {g : Nat → Nat → Option Nat} {x y : Int32}  : m_R (m_E d) 101 0 0 Q 217 [l0, l1, l2, l3] (.inl y :: .inl x :: st) (m_SH, f, g) = m_R (m_E d) 101 0 0 Q 218 [l0, l1, l2, l3] (.inl (x + y) :: st) (m_SH, f, g) := m_rst rfl rfl
set_option maxRecDepth 100000 in
theorem r101_218 {d : Nat} {Q : mQ} {l0 l1 l2 l3 : Option mV} {st : mS} {f : Nat → Nat → Int32} {g : Nat → Nat → Option Nat} {i : Int32} (hi : vp_in i (f 1000001 0).toNatClampNeg) : m_R (m_E d) 101 0 0 Q 218 [l0, l1, l2, l3] (.inl i :: .inr (some 1000000) :: st) (m_SH, f, g) = m_R (m_E d) 101 0 0 Q 219 [l0, l1, l2, l3] (.inl (f 1000000 i.toNatClampNeg) :: st) (m_SH, f, g) := m_rst rfl (m_xi_s hi)
set_option maxRecDepth 100000 in
theorem r101_219 {d : Nat} {Q : mQ} {l1 l2 l3 : Option mV} {st : mS} {f : Nat → Nat → Int32} {g : Nat → Nat → Option Nat} {x : Option Nat}  : m_R (m_E d) 101 0 0 Q 219 [some (.inr x), l1, l2, l3] st (m_SH, f, g) = m_R (m_E d) 101 0 0 Q 220 [some (.inr x), l1, l2, l3] (.inr x :: st) (m_SH, f, g) := m_rst rfl rfl
set_option maxRecDepth 100000 in
theorem r101_220 {d : Nat} {Q : mQ} {l0 l1 l2 : Option mV} {st : mS} {f : Nat → Nat → Int32} {g : Nat → Nat → Option Nat} {x : Int32}  : m_R (m_E d) 101 0 0 Q 220 [l0, l1, l2, some (.inl x)] st (m_SH, f, g) = m_R (m_E d) 101 0 0 Q 221 [l0, l1, l2, some (.inl x)] (.inl x :: st) (m_SH, f, g) := m_rst rfl rfl
set_option maxRecDepth 100000 in
theorem r101_221 {d : Nat} {Q : mQ} {l0 l1 l2 l3 : Option mV} {st : mS} {f : Nat → Nat → Int32} {g : Nat → Nat → Option Nat}  : m_R (m_E d) 101 0 0 Q 221 [l0, l1, l2, l3] st (m_SH, f, g) = m_R (m_E d) 101 0 0 Q 222 [l0, l1, l2, l3] (.inl 2 :: st) (m_SH, f, g) := m_rst rfl rfl
set_option maxRecDepth 100000 in
theorem r101_222 {d : Nat} {Q : mQ} {l0 l1 l2 l3 : Option mV} {st : mS} {f : Nat → Nat → Int32} {g : Nat → Nat → Option Nat} {x y : Int32}  : m_R (m_E d) 101 0 0 Q 222 [l0, l1, l2, l3] (.inl y :: .inl x :: st) (m_SH, f, g) = m_R (m_E d) 101 0 0 Q 223 [l0, l1, l2, l3] (.inl (x + y) :: st) (m_SH, f, g) := m_rst rfl rfl
set_option maxRecDepth 100000 in
theorem r101_223 {d : Nat} {Q : mQ} {l0 l1 l2 l3 : Option mV} {st : mS} {f : Nat → Nat → Int32} {g : Nat → Nat → Option Nat} {i : Int32} (hi : vp_in i (f 1000001 0).toNatClampNeg) : m_R (m_E d) 101 0 0 Q 223 [l0, l1, l2, l3] (.inl i :: .inr (some 1000000) :: st) (m_SH, f, g) = m_R (m_E d) 101 0 0 Q 224 [l0, l1, l2, l3] (.inl (f 1000000 i.toNatClampNeg) :: st) (m_SH, f, g) := m_rst rfl (m_xi_s hi)
set_option maxRecDepth 100000 in
theorem r101_224 {d : Nat} {Q : mQ} {l1 l2 l3 : Option mV} {st : mS} {f : Nat → Nat → Int32} {g : Nat → Nat → Option Nat} {x : Option Nat}  : m_R (m_E d) 101 0 0 Q 224 [some (.inr x), l1, l2, l3] st (m_SH, f, g) = m_R (m_E d) 101 0 0 Q 225 [some (.inr x), l1, l2, l3] (.inr x :: st) (m_SH, f, g) := m_rst rfl rfl
set_option maxRecDepth 100000 in
theorem r101_225 {d : Nat} {Q : mQ} {l0 l1 l2 : Option mV} {st : mS} {f : Nat → Nat → Int32} {g : Nat → Nat → Option Nat} {x : Int32}  : m_R (m_E d) 101 0 0 Q 225 [l0, l1, l2, some (.inl x)] st (m_SH, f, g) = m_R (m_E d) 101 0 0 Q 226 [l0, l1, l2, some (.inl x)] (.inl x :: st) (m_SH, f, g) := m_rst rfl rfl
set_option maxRecDepth 100000 in
theorem r101_226 {d : Nat} {Q : mQ} {l0 l1 l2 l3 : Option mV} {st : mS} {f : Nat → Nat → Int32} {g : Nat → Nat → Option Nat}  : m_R (m_E d) 101 0 0 Q 226 [l0, l1, l2, l3] st (m_SH, f, g) = m_R (m_E d) 101 0 0 Q 227 [l0, l1, l2, l3] (.inl 3 :: st) (m_SH, f, g) := m_rst rfl rfl
set_option maxRecDepth 100000 in
theorem r101_227 {d : Nat} {Q : mQ} {l0 l1 l2 l3 : Option mV} {st : mS} {f : Nat → Nat → Int32} {g : Nat → Nat → Option Nat} {x y : Int32}  : m_R (m_E d) 101 0 0 Q 227 [l0, l1, l2, l3] (.inl y :: .inl x :: st) (m_SH, f, g) = m_R (m_E d) 101 0 0 Q 228 [l0, l1, l2, l3] (.inl (x + y) :: st) (m_SH, f, g) := m_rst rfl rfl
set_option maxRecDepth 100000 in
theorem r101_228 {d : Nat} {Q : mQ} {l0 l1 l2 l3 : Option mV} {st : mS} {f : Nat → Nat → Int32} {g : Nat → Nat → Option Nat} {i : Int32} (hi : vp_in i (f 1000001 0).toNatClampNeg) : m_R (m_E d) 101 0 0 Q 228 [l0, l1, l2, l3] (.inl i :: .inr (some 1000000) :: st) (m_SH, f, g) = m_R (m_E d) 101 0 0 Q 229 [l0, l1, l2, l3] (.inl (f 1000000 i.toNatClampNeg) :: st) (m_SH, f, g) := m_rst rfl (m_xi_s hi)
set_option maxRecDepth 100000 in
theorem r101_229 {d : Nat} {Q : mQ} {l1 l2 l3 : Option mV} {st : mS} {f : Nat → Nat → Int32} {g : Nat → Nat → Option Nat} {x : Option Nat}  : m_R (m_E d) 101 0 0 Q 229 [some (.inr x), l1, l2, l3] st (m_SH, f, g) = m_R (m_E d) 101 0 0 Q 230 [some (.inr x), l1, l2, l3] (.inr x :: st) (m_SH, f, g) := m_rst rfl rfl
set_option maxRecDepth 100000 in
theorem r101_230 {d : Nat} {Q : mQ} {l0 l1 l2 : Option mV} {st : mS} {f : Nat → Nat → Int32} {g : Nat → Nat → Option Nat} {x : Int32}  : m_R (m_E d) 101 0 0 Q 230 [l0, l1, l2, some (.inl x)] st (m_SH, f, g) = m_R (m_E d) 101 0 0 Q 231 [l0, l1, l2, some (.inl x)] (.inl x :: st) (m_SH, f, g) := m_rst rfl rfl
set_option maxRecDepth 100000 in
theorem r101_231 {d : Nat} {Q : mQ} {l0 l1 l2 l3 : Option mV} {st : mS} {f : Nat → Nat → Int32} {g : Nat → Nat → Option Nat}  : m_R (m_E d) 101 0 0 Q 231 [l0, l1, l2, l3] st (m_SH, f, g) = m_R (m_E d) 101 0 0 Q 232 [l0, l1, l2, l3] (.inl 4 :: st) (m_SH, f, g) := m_rst rfl rfl
set_option maxRecDepth 100000 in
theorem r101_232 {d : Nat} {Q : mQ} {l0 l1 l2 l3 : Option mV} {st : mS} {f : Nat → Nat → Int32} {g : Nat → Nat → Option Nat} {x y : Int32}  : m_R (m_E d) 101 0 0 Q 232 [l0, l1, l2, l3] (.inl y :: .inl x :: st) (m_SH, f, g) = m_R (m_E d) 101 0 0 Q 233 [l0, l1, l2, l3] (.inl (x + y) :: st) (m_SH, f, g) := m_rst rfl rfl
set_option maxRecDepth 100000 in
theorem r101_233 {d : Nat} {Q : mQ} {l0 l1 l2 l3 : Option mV} {st : mS} {f : Nat → Nat → Int32} {g : Nat → Nat → Option Nat} {i : Int32} (hi : vp_in i (f 1000001 0).toNatClampNeg) : m_R (m_E d) 101 0 0 Q 233 [l0, l1, l2, l3] (.inl i :: .inr (some 1000000) :: st) (m_SH, f, g) = m_R (m_E d) 101 0 0 Q 234 [l0, l1, l2, l3] (.inl (f 1000000 i.toNatClampNeg) :: st) (m_SH, f, g) := m_rst rfl (m_xi_s hi)
set_option maxRecDepth 100000 in
theorem r101_234 {d : Nat} {Q : mQ} {l0 l1 l2 l3 : Option mV} {st : mS} {f : Nat → Nat → Int32} {g : Nat → Nat → Option Nat} {v0 v1 v2 v3 : mV} {k : Nat} (hs1 : m_kn k = 0) (hs2 : m_ln k = 0) (hst : st.length ≤ 8) : m_R (m_E d) 101 0 0 Q 234 [l0, l1, l2, l3] (v3 :: v2 :: v1 :: v0 :: .inr (some k) :: st) (m_SH, f, g) = m_E d 14 [.inr (some k), v0, v1, v2, v3] (m_SH, f, g) (fun r w => m_R (m_E d) 101 0 0 Q 237 [l0, l1, l2, l3] (r.toList ++ st) w) := m_rcall (rest := st) rfl (if_pos ⟨⟨by show 4 ≤ List.length (v3 :: v2 :: v1 :: v0 :: .inr (some k) :: st); simp only [List.length_cons]; omega, rfl, hst, fun _ => m_sho hs1 hs2⟩, m_lb1, m_lb2⟩)
set_option maxRecDepth 100000 in
theorem r101_237 {d : Nat} {Q : mQ} {l0 l1 l3 : Option mV} {st : mS} {f : Nat → Nat → Int32} {g : Nat → Nat → Option Nat} {x : Option Nat}  : m_R (m_E d) 101 0 0 Q 237 [l0, l1, some (.inr x), l3] st (m_SH, f, g) = m_R (m_E d) 101 0 0 Q 238 [l0, l1, some (.inr x), l3] (.inr x :: st) (m_SH, f, g) := m_rst rfl rfl
set_option maxRecDepth 100000 in
theorem r101_238 {d : Nat} {Q : mQ} {l1 l2 l3 : Option mV} {st : mS} {f : Nat → Nat → Int32} {g : Nat → Nat → Option Nat} {x : Option Nat}  : m_R (m_E d) 101 0 0 Q 238 [some (.inr x), l1, l2, l3] st (m_SH, f, g) = m_R (m_E d) 101 0 0 Q 239 [some (.inr x), l1, l2, l3] (.inr x :: st) (m_SH, f, g) := m_rst rfl rfl
set_option maxRecDepth 100000 in
theorem r101_239 {d : Nat} {Q : mQ} {l0 l1 l2 : Option mV} {st : mS} {f : Nat → Nat → Int32} {g : Nat → Nat → Option Nat} {x : Int32}  : m_R (m_E d) 101 0 0 Q 239 [l0, l1, l2, some (.inl x)] st (m_SH, f, g) = m_R (m_E d) 101 0 0 Q 240 [l0, l1, l2, some (.inl x)] (.inl x :: st) (m_SH, f, g) := m_rst rfl rfl
set_option maxRecDepth 100000 in
theorem r101_240 {d : Nat} {Q : mQ} {l0 l1 l2 l3 : Option mV} {st : mS} {f : Nat → Nat → Int32} {g : Nat → Nat → Option Nat}  : m_R (m_E d) 101 0 0 Q 240 [l0, l1, l2, l3] st (m_SH, f, g) = m_R (m_E d) 101 0 0 Q 241 [l0, l1, l2, l3] (.inl 1 :: st) (m_SH, f, g) := m_rst rfl rfl
set_option maxRecDepth 100000 in
theorem r101_241 {d : Nat} {Q : mQ} {l0 l1 l2 l3 : Option mV} {st : mS} {f : Nat → Nat → Int32} {g : Nat → Nat → Option Nat} {x y : Int32}  : m_R (m_E d) 101 0 0 Q 241 [l0, l1, l2, l3] (.inl y :: .inl x :: st) (m_SH, f, g) = m_R (m_E d) 101 0 0 Q 242 [l0, l1, l2, l3] (.inl (x + y) :: st) (m_SH, f, g) := m_rst rfl rfl
set_option maxRecDepth 100000 in
theorem r101_242 {d : Nat} {Q : mQ} {l0 l1 l2 l3 : Option mV} {st : mS} {f : Nat → Nat → Int32} {g : Nat → Nat → Option Nat} {i : Int32} (hi : vp_in i (f 1000001 0).toNatClampNeg) : m_R (m_E d) 101 0 0 Q 242 [l0, l1, l2, l3] (.inl i :: .inr (some 1000000) :: st) (m_SH, f, g) = m_R (m_E d) 101 0 0 Q 243 [l0, l1, l2, l3] (.inl (f 1000000 i.toNatClampNeg) :: st) (m_SH, f, g) := m_rst rfl (m_xi_s hi)
set_option maxRecDepth 100000 in
theorem r101_243 {d : Nat} {Q : mQ} {l1 l2 l3 : Option mV} {st : mS} {f : Nat → Nat → Int32} {g : Nat → Nat → Option Nat} {x : Option Nat}  : m_R (m_E d) 101 0 0 Q 243 [some (.inr x), l1, l2, l3] st (m_SH, f, g) = m_R (m_E d) 101 0 0 Q 244 [some (.inr x), l1, l2, l3] (.inr x :: st) (m_SH, f, g) := m_rst rfl rfl
set_option maxRecDepth 100000 in
theorem r101_244 {d : Nat} {Q : mQ} {l0 l1 l2 : Option mV} {st : mS} {f : Nat → Nat → Int32} {g : Nat → Nat → Option Nat} {x : Int32}  : m_R (m_E d) 101 0 0 Q 244 [l0, l1, l2, some (.inl x)] st (m_SH, f, g) = m_R (m_E d) 101 0 0 Q 245 [l0, l1, l2, some (.inl x)] (.inl x :: st) (m_SH, f, g) := m_rst rfl rfl
set_option maxRecDepth 100000 in
theorem r101_245 {d : Nat} {Q : mQ} {l0 l1 l2 l3 : Option mV} {st : mS} {f : Nat → Nat → Int32} {g : Nat → Nat → Option Nat}  : m_R (m_E d) 101 0 0 Q 245 [l0, l1, l2, l3] st (m_SH, f, g) = m_R (m_E d) 101 0 0 Q 246 [l0, l1, l2, l3] (.inl 2 :: st) (m_SH, f, g) := m_rst rfl rfl
set_option maxRecDepth 100000 in
theorem r101_246 {d : Nat} {Q : mQ} {l0 l1 l2 l3 : Option mV} {st : mS} {f : Nat → Nat → Int32} {g : Nat → Nat → Option Nat} {x y : Int32}  : m_R (m_E d) 101 0 0 Q 246 [l0, l1, l2, l3] (.inl y :: .inl x :: st) (m_SH, f, g) = m_R (m_E d) 101 0 0 Q 247 [l0, l1, l2, l3] (.inl (x + y) :: st) (m_SH, f, g) := m_rst rfl rfl
set_option maxRecDepth 100000 in
theorem r101_247 {d : Nat} {Q : mQ} {l0 l1 l2 l3 : Option mV} {st : mS} {f : Nat → Nat → Int32} {g : Nat → Nat → Option Nat} {i : Int32} (hi : vp_in i (f 1000001 0).toNatClampNeg) : m_R (m_E d) 101 0 0 Q 247 [l0, l1, l2, l3] (.inl i :: .inr (some 1000000) :: st) (m_SH, f, g) = m_R (m_E d) 101 0 0 Q 248 [l0, l1, l2, l3] (.inl (f 1000000 i.toNatClampNeg) :: st) (m_SH, f, g) := m_rst rfl (m_xi_s hi)
set_option maxRecDepth 100000 in
theorem r101_248 {d : Nat} {Q : mQ} {l1 l2 l3 : Option mV} {st : mS} {f : Nat → Nat → Int32} {g : Nat → Nat → Option Nat} {x : Option Nat}  : m_R (m_E d) 101 0 0 Q 248 [some (.inr x), l1, l2, l3] st (m_SH, f, g) = m_R (m_E d) 101 0 0 Q 249 [some (.inr x), l1, l2, l3] (.inr x :: st) (m_SH, f, g) := m_rst rfl rfl
set_option maxRecDepth 100000 in
theorem r101_249 {d : Nat} {Q : mQ} {l0 l1 l2 : Option mV} {st : mS} {f : Nat → Nat → Int32} {g : Nat → Nat → Option Nat} {x : Int32}  : m_R (m_E d) 101 0 0 Q 249 [l0, l1, l2, some (.inl x)] st (m_SH, f, g) = m_R (m_E d) 101 0 0 Q 250 [l0, l1, l2, some (.inl x)] (.inl x :: st) (m_SH, f, g) := m_rst rfl rfl
set_option maxRecDepth 100000 in
theorem r101_250 {d : Nat} {Q : mQ} {l0 l1 l2 l3 : Option mV} {st : mS} {f : Nat → Nat → Int32} {g : Nat → Nat → Option Nat}  : m_R (m_E d) 101 0 0 Q 250 [l0, l1, l2, l3] st (m_SH, f, g) = m_R (m_E d) 101 0 0 Q 251 [l0, l1, l2, l3] (.inl 3 :: st) (m_SH, f, g) := m_rst rfl rfl
set_option maxRecDepth 100000 in
theorem r101_251 {d : Nat} {Q : mQ} {l0 l1 l2 l3 : Option mV} {st : mS} {f : Nat → Nat → Int32} {g : Nat → Nat → Option Nat} {x y : Int32}  : m_R (m_E d) 101 0 0 Q 251 [l0, l1, l2, l3] (.inl y :: .inl x :: st) (m_SH, f, g) = m_R (m_E d) 101 0 0 Q 252 [l0, l1, l2, l3] (.inl (x + y) :: st) (m_SH, f, g) := m_rst rfl rfl
set_option maxRecDepth 100000 in
theorem r101_252 {d : Nat} {Q : mQ} {l0 l1 l2 l3 : Option mV} {st : mS} {f : Nat → Nat → Int32} {g : Nat → Nat → Option Nat} {i : Int32} (hi : vp_in i (f 1000001 0).toNatClampNeg) : m_R (m_E d) 101 0 0 Q 252 [l0, l1, l2, l3] (.inl i :: .inr (some 1000000) :: st) (m_SH, f, g) = m_R (m_E d) 101 0 0 Q 253 [l0, l1, l2, l3] (.inl (f 1000000 i.toNatClampNeg) :: st) (m_SH, f, g) := m_rst rfl (m_xi_s hi)
set_option maxRecDepth 100000 in
theorem r101_253 {d : Nat} {Q : mQ} {l1 l2 l3 : Option mV} {st : mS} {f : Nat → Nat → Int32} {g : Nat → Nat → Option Nat} {x : Option Nat}  : m_R (m_E d) 101 0 0 Q 253 [some (.inr x), l1, l2, l3] st (m_SH, f, g) = m_R (m_E d) 101 0 0 Q 254 [some (.inr x), l1, l2, l3] (.inr x :: st) (m_SH, f, g) := m_rst rfl rfl
set_option maxRecDepth 100000 in
theorem r101_254 {d : Nat} {Q : mQ} {l0 l1 l2 : Option mV} {st : mS} {f : Nat → Nat → Int32} {g : Nat → Nat → Option Nat} {x : Int32}  : m_R (m_E d) 101 0 0 Q 254 [l0, l1, l2, some (.inl x)] st (m_SH, f, g) = m_R (m_E d) 101 0 0 Q 255 [l0, l1, l2, some (.inl x)] (.inl x :: st) (m_SH, f, g) := m_rst rfl rfl
set_option maxRecDepth 100000 in
theorem r101_255 {d : Nat} {Q : mQ} {l0 l1 l2 l3 : Option mV} {st : mS} {f : Nat → Nat → Int32} {g : Nat → Nat → Option Nat}  : m_R (m_E d) 101 0 0 Q 255 [l0, l1, l2, l3] st (m_SH, f, g) = m_R (m_E d) 101 0 0 Q 256 [l0, l1, l2, l3] (.inl 4 :: st) (m_SH, f, g) := m_rst rfl rfl
set_option maxRecDepth 100000 in
theorem r101_256 {d : Nat} {Q : mQ} {l0 l1 l2 l3 : Option mV} {st : mS} {f : Nat → Nat → Int32} {g : Nat → Nat → Option Nat} {x y : Int32}  : m_R (m_E d) 101 0 0 Q 256 [l0, l1, l2, l3] (.inl y :: .inl x :: st) (m_SH, f, g) = m_R (m_E d) 101 0 0 Q 257 [l0, l1, l2, l3] (.inl (x + y) :: st) (m_SH, f, g) := m_rst rfl rfl
set_option maxRecDepth 100000 in
theorem r101_257 {d : Nat} {Q : mQ} {l0 l1 l2 l3 : Option mV} {st : mS} {f : Nat → Nat → Int32} {g : Nat → Nat → Option Nat} {i : Int32} (hi : vp_in i (f 1000001 0).toNatClampNeg) : m_R (m_E d) 101 0 0 Q 257 [l0, l1, l2, l3] (.inl i :: .inr (some 1000000) :: st) (m_SH, f, g) = m_R (m_E d) 101 0 0 Q 258 [l0, l1, l2, l3] (.inl (f 1000000 i.toNatClampNeg) :: st) (m_SH, f, g) := m_rst rfl (m_xi_s hi)
set_option maxRecDepth 100000 in
theorem r101_258 {d : Nat} {Q : mQ} {l0 l1 l2 l3 : Option mV} {st : mS} {f : Nat → Nat → Int32} {g : Nat → Nat → Option Nat} {v0 v1 v2 v3 : mV} {k : Nat} (hs1 : m_kn k = 0) (hs2 : m_ln k = 6) (hst : st.length ≤ 8) : m_R (m_E d) 101 0 0 Q 258 [l0, l1, l2, l3] (v3 :: v2 :: v1 :: v0 :: .inr (some k) :: st) (m_SH, f, g) = m_E d 68 [.inr (some k), v0, v1, v2, v3] (m_SH, f, g) (fun r w => m_R (m_E d) 101 0 0 Q 261 [l0, l1, l2, l3] (r.toList ++ st) w) := m_rcall (rest := st) rfl (if_pos ⟨⟨by show 4 ≤ List.length (v3 :: v2 :: v1 :: v0 :: .inr (some k) :: st); simp only [List.length_cons]; omega, rfl, hst, fun _ => m_sho hs1 hs2⟩, m_lb1, m_lb2⟩)
set_option maxRecDepth 100000 in
theorem r101_261 {d : Nat} {Q : mQ} {l0 l1 l2 l3 : Option mV} {st : mS} {f : Nat → Nat → Int32} {g : Nat → Nat → Option Nat} {x y : Int32}  : m_R (m_E d) 101 0 0 Q 261 [l0, l1, l2, l3] (.inl y :: .inl x :: st) (m_SH, f, g) = (if x = y then m_R (m_E d) 101 0 0 Q 529 [l0, l1, l2, l3] st (m_SH, f, g) else m_R (m_E d) 101 0 0 Q 264 [l0, l1, l2, l3] st (m_SH, f, g)) := m_rif rfl (o1 := some (.inl (529, [l0, l1, l2, l3], st, (m_SH, f, g)))) (o2 := some (.inl (264, [l0, l1, l2, l3], st, (m_SH, f, g)))) rfl
set_option maxRecDepth 100000 in
theorem r101_264 {d : Nat} {Q : mQ} {l0 l1 l2 l3 : Option mV} {st : mS} {f : Nat → Nat → Int32} {g : Nat → Nat → Option Nat}  : m_R (m_E d) 101 0 0 Q 264 [l0, l1, l2, l3] st (m_SH, f, g) = m_R (m_E d) 101 0 0 Q 265 [l0, l1, l2, l3] (.inl 0 :: st) (m_SH, f, g) := m_rst rfl rfl
set_option maxRecDepth 100000 in
theorem r101_265 {d : Nat} {Q : mQ} {l0 l1 l2 l3 : Option mV} {f : Nat → Nat → Int32} {g : Nat → Nat → Option Nat} {x : Int32} (hz : x = 0 ∨ x = 1) : m_R (m_E d) 101 0 0 Q 265 [l0, l1, l2, l3] [.inl x] (m_SH, f, g) = Q (some (.inl x)) (m_SH, f, g) := m_rret (i := .ireturn) rfl (m_st_ri.trans (m_ri2 (me := 101) (N := 0) (S := 0) (w := (m_SH, f, g)) rfl hz m_lrt))
set_option maxRecDepth 100000 in
theorem r101_266 {d : Nat} {Q : mQ} {l0 l2 l3 : Option mV} {st : mS} {f : Nat → Nat → Int32} {g : Nat → Nat → Option Nat} {x : Option Nat}  : m_R (m_E d) 101 0 0 Q 266 [l0, some (.inr x), l2, l3] st (m_SH, f, g) = m_R (m_E d) 101 0 0 Q 267 [l0, some (.inr x), l2, l3] (.inr x :: st) (m_SH, f, g) := m_rst rfl rfl
set_option maxRecDepth 100000 in
theorem r101_267 {d : Nat} {Q : mQ} {l1 l2 l3 : Option mV} {st : mS} {f : Nat → Nat → Int32} {g : Nat → Nat → Option Nat} {x : Option Nat}  : m_R (m_E d) 101 0 0 Q 267 [some (.inr x), l1, l2, l3] st (m_SH, f, g) = m_R (m_E d) 101 0 0 Q 268 [some (.inr x), l1, l2, l3] (.inr x :: st) (m_SH, f, g) := m_rst rfl rfl
set_option maxRecDepth 100000 in
theorem r101_268 {d : Nat} {Q : mQ} {l0 l1 l2 : Option mV} {st : mS} {f : Nat → Nat → Int32} {g : Nat → Nat → Option Nat} {x : Int32}  : m_R (m_E d) 101 0 0 Q 268 [l0, l1, l2, some (.inl x)] st (m_SH, f, g) = m_R (m_E d) 101 0 0 Q 269 [l0, l1, l2, some (.inl x)] (.inl x :: st) (m_SH, f, g) := m_rst rfl rfl
set_option maxRecDepth 100000 in
theorem r101_269 {d : Nat} {Q : mQ} {l0 l1 l2 l3 : Option mV} {st : mS} {f : Nat → Nat → Int32} {g : Nat → Nat → Option Nat}  : m_R (m_E d) 101 0 0 Q 269 [l0, l1, l2, l3] st (m_SH, f, g) = m_R (m_E d) 101 0 0 Q 270 [l0, l1, l2, l3] (.inl 1 :: st) (m_SH, f, g) := m_rst rfl rfl
set_option maxRecDepth 100000 in
theorem r101_270 {d : Nat} {Q : mQ} {l0 l1 l2 l3 : Option mV} {st : mS} {f : Nat → Nat → Int32} {g : Nat → Nat → Option Nat} {x y : Int32}  : m_R (m_E d) 101 0 0 Q 270 [l0, l1, l2, l3] (.inl y :: .inl x :: st) (m_SH, f, g) = m_R (m_E d) 101 0 0 Q 271 [l0, l1, l2, l3] (.inl (x + y) :: st) (m_SH, f, g) := m_rst rfl rfl
set_option maxRecDepth 100000 in
theorem r101_271 {d : Nat} {Q : mQ} {l0 l1 l2 l3 : Option mV} {st : mS} {f : Nat → Nat → Int32} {g : Nat → Nat → Option Nat} {i : Int32} (hi : vp_in i (f 1000001 0).toNatClampNeg) : m_R (m_E d) 101 0 0 Q 271 [l0, l1, l2, l3] (.inl i :: .inr (some 1000000) :: st) (m_SH, f, g) = m_R (m_E d) 101 0 0 Q 272 [l0, l1, l2, l3] (.inl (f 1000000 i.toNatClampNeg) :: st) (m_SH, f, g) := m_rst rfl (m_xi_s hi)
set_option maxRecDepth 100000 in
theorem r101_272 {d : Nat} {Q : mQ} {l0 l1 l2 l3 : Option mV} {st : mS} {f : Nat → Nat → Int32} {g : Nat → Nat → Option Nat} {v0 : mV} {k : Nat} (hs1 : m_kn k = 0) (hs2 : m_ln k = 0) (hst : st.length ≤ 8) : m_R (m_E d) 101 0 0 Q 272 [l0, l1, l2, l3] (v0 :: .inr (some k) :: st) (m_SH, f, g) = m_E d 18 [.inr (some k), v0] (m_SH, f, g) (fun r w => m_R (m_E d) 101 0 0 Q 275 [l0, l1, l2, l3] (r.toList ++ st) w) := m_rcall (rest := st) rfl (if_pos ⟨⟨by show 1 ≤ List.length (v0 :: .inr (some k) :: st); simp only [List.length_cons]; omega, rfl, hst, fun _ => m_sho hs1 hs2⟩, m_lb1, m_lb2⟩)
set_option maxRecDepth 100000 in
theorem r101_275 {d : Nat} {Q : mQ} {l0 l1 l3 : Option mV} {st : mS} {f : Nat → Nat → Int32} {g : Nat → Nat → Option Nat} {x : Option Nat}  : m_R (m_E d) 101 0 0 Q 275 [l0, l1, some (.inr x), l3] st (m_SH, f, g) = m_R (m_E d) 101 0 0 Q 276 [l0, l1, some (.inr x), l3] (.inr x :: st) (m_SH, f, g) := m_rst rfl rfl
set_option maxRecDepth 100000 in
theorem r101_276 {d : Nat} {Q : mQ} {l1 l2 l3 : Option mV} {st : mS} {f : Nat → Nat → Int32} {g : Nat → Nat → Option Nat} {x : Option Nat}  : m_R (m_E d) 101 0 0 Q 276 [some (.inr x), l1, l2, l3] st (m_SH, f, g) = m_R (m_E d) 101 0 0 Q 277 [some (.inr x), l1, l2, l3] (.inr x :: st) (m_SH, f, g) := m_rst rfl rfl
set_option maxRecDepth 100000 in
theorem r101_277 {d : Nat} {Q : mQ} {l0 l1 l2 : Option mV} {st : mS} {f : Nat → Nat → Int32} {g : Nat → Nat → Option Nat} {x : Int32}  : m_R (m_E d) 101 0 0 Q 277 [l0, l1, l2, some (.inl x)] st (m_SH, f, g) = m_R (m_E d) 101 0 0 Q 278 [l0, l1, l2, some (.inl x)] (.inl x :: st) (m_SH, f, g) := m_rst rfl rfl
set_option maxRecDepth 100000 in
theorem r101_278 {d : Nat} {Q : mQ} {l0 l1 l2 l3 : Option mV} {st : mS} {f : Nat → Nat → Int32} {g : Nat → Nat → Option Nat}  : m_R (m_E d) 101 0 0 Q 278 [l0, l1, l2, l3] st (m_SH, f, g) = m_R (m_E d) 101 0 0 Q 279 [l0, l1, l2, l3] (.inl 1 :: st) (m_SH, f, g) := m_rst rfl rfl
set_option maxRecDepth 100000 in
theorem r101_279 {d : Nat} {Q : mQ} {l0 l1 l2 l3 : Option mV} {st : mS} {f : Nat → Nat → Int32} {g : Nat → Nat → Option Nat} {x y : Int32}  : m_R (m_E d) 101 0 0 Q 279 [l0, l1, l2, l3] (.inl y :: .inl x :: st) (m_SH, f, g) = m_R (m_E d) 101 0 0 Q 280 [l0, l1, l2, l3] (.inl (x + y) :: st) (m_SH, f, g) := m_rst rfl rfl
set_option maxRecDepth 100000 in
theorem r101_280 {d : Nat} {Q : mQ} {l0 l1 l2 l3 : Option mV} {st : mS} {f : Nat → Nat → Int32} {g : Nat → Nat → Option Nat} {i : Int32} (hi : vp_in i (f 1000001 0).toNatClampNeg) : m_R (m_E d) 101 0 0 Q 280 [l0, l1, l2, l3] (.inl i :: .inr (some 1000000) :: st) (m_SH, f, g) = m_R (m_E d) 101 0 0 Q 281 [l0, l1, l2, l3] (.inl (f 1000000 i.toNatClampNeg) :: st) (m_SH, f, g) := m_rst rfl (m_xi_s hi)
set_option maxRecDepth 100000 in
theorem r101_281 {d : Nat} {Q : mQ} {l0 l1 l2 l3 : Option mV} {st : mS} {f : Nat → Nat → Int32} {g : Nat → Nat → Option Nat} {v0 : mV} {k : Nat} (hs1 : m_kn k = 0) (hs2 : m_ln k = 6) (hst : st.length ≤ 8) : m_R (m_E d) 101 0 0 Q 281 [l0, l1, l2, l3] (v0 :: .inr (some k) :: st) (m_SH, f, g) = m_E d 74 [.inr (some k), v0] (m_SH, f, g) (fun r w => m_R (m_E d) 101 0 0 Q 284 [l0, l1, l2, l3] (r.toList ++ st) w) := m_rcall (rest := st) rfl (if_pos ⟨⟨by show 1 ≤ List.length (v0 :: .inr (some k) :: st); simp only [List.length_cons]; omega, rfl, hst, fun _ => m_sho hs1 hs2⟩, m_lb1, m_lb2⟩)
set_option maxRecDepth 100000 in
theorem r101_284 {d : Nat} {Q : mQ} {l0 l1 l2 l3 : Option mV} {st : mS} {f : Nat → Nat → Int32} {g : Nat → Nat → Option Nat} {x y : Int32}  : m_R (m_E d) 101 0 0 Q 284 [l0, l1, l2, l3] (.inl y :: .inl x :: st) (m_SH, f, g) = (if x = y then m_R (m_E d) 101 0 0 Q 529 [l0, l1, l2, l3] st (m_SH, f, g) else m_R (m_E d) 101 0 0 Q 287 [l0, l1, l2, l3] st (m_SH, f, g)) := m_rif rfl (o1 := some (.inl (529, [l0, l1, l2, l3], st, (m_SH, f, g)))) (o2 := some (.inl (287, [l0, l1, l2, l3], st, (m_SH, f, g)))) rfl
set_option maxRecDepth 100000 in
theorem r101_287 {d : Nat} {Q : mQ} {l0 l1 l2 l3 : Option mV} {st : mS} {f : Nat → Nat → Int32} {g : Nat → Nat → Option Nat}  : m_R (m_E d) 101 0 0 Q 287 [l0, l1, l2, l3] st (m_SH, f, g) = m_R (m_E d) 101 0 0 Q 288 [l0, l1, l2, l3] (.inl 0 :: st) (m_SH, f, g) := m_rst rfl rfl
set_option maxRecDepth 100000 in
theorem r101_288 {d : Nat} {Q : mQ} {l0 l1 l2 l3 : Option mV} {f : Nat → Nat → Int32} {g : Nat → Nat → Option Nat} {x : Int32} (hz : x = 0 ∨ x = 1) : m_R (m_E d) 101 0 0 Q 288 [l0, l1, l2, l3] [.inl x] (m_SH, f, g) = Q (some (.inl x)) (m_SH, f, g) := m_rret (i := .ireturn) rfl (m_st_ri.trans (m_ri2 (me := 101) (N := 0) (S := 0) (w := (m_SH, f, g)) rfl hz m_lrt))
set_option maxRecDepth 100000 in
theorem r101_289 {d : Nat} {Q : mQ} {l0 l2 l3 : Option mV} {st : mS} {f : Nat → Nat → Int32} {g : Nat → Nat → Option Nat} {x : Option Nat}  : m_R (m_E d) 101 0 0 Q 289 [l0, some (.inr x), l2, l3] st (m_SH, f, g) = m_R (m_E d) 101 0 0 Q 290 [l0, some (.inr x), l2, l3] (.inr x :: st) (m_SH, f, g) := m_rst rfl rfl
set_option maxRecDepth 100000 in
theorem r101_290 {d : Nat} {Q : mQ} {l1 l2 l3 : Option mV} {st : mS} {f : Nat → Nat → Int32} {g : Nat → Nat → Option Nat} {x : Option Nat}  : m_R (m_E d) 101 0 0 Q 290 [some (.inr x), l1, l2, l3] st (m_SH, f, g) = m_R (m_E d) 101 0 0 Q 291 [some (.inr x), l1, l2, l3] (.inr x :: st) (m_SH, f, g) := m_rst rfl rfl
set_option maxRecDepth 100000 in
theorem r101_291 {d : Nat} {Q : mQ} {l0 l1 l2 : Option mV} {st : mS} {f : Nat → Nat → Int32} {g : Nat → Nat → Option Nat} {x : Int32}  : m_R (m_E d) 101 0 0 Q 291 [l0, l1, l2, some (.inl x)] st (m_SH, f, g) = m_R (m_E d) 101 0 0 Q 292 [l0, l1, l2, some (.inl x)] (.inl x :: st) (m_SH, f, g) := m_rst rfl rfl
set_option maxRecDepth 100000 in
theorem r101_292 {d : Nat} {Q : mQ} {l0 l1 l2 l3 : Option mV} {st : mS} {f : Nat → Nat → Int32} {g : Nat → Nat → Option Nat}  : m_R (m_E d) 101 0 0 Q 292 [l0, l1, l2, l3] st (m_SH, f, g) = m_R (m_E d) 101 0 0 Q 293 [l0, l1, l2, l3] (.inl 1 :: st) (m_SH, f, g) := m_rst rfl rfl
set_option maxRecDepth 100000 in
theorem r101_293 {d : Nat} {Q : mQ} {l0 l1 l2 l3 : Option mV} {st : mS} {f : Nat → Nat → Int32} {g : Nat → Nat → Option Nat} {x y : Int32}  : m_R (m_E d) 101 0 0 Q 293 [l0, l1, l2, l3] (.inl y :: .inl x :: st) (m_SH, f, g) = m_R (m_E d) 101 0 0 Q 294 [l0, l1, l2, l3] (.inl (x + y) :: st) (m_SH, f, g) := m_rst rfl rfl
set_option maxRecDepth 100000 in
theorem r101_294 {d : Nat} {Q : mQ} {l0 l1 l2 l3 : Option mV} {st : mS} {f : Nat → Nat → Int32} {g : Nat → Nat → Option Nat} {i : Int32} (hi : vp_in i (f 1000001 0).toNatClampNeg) : m_R (m_E d) 101 0 0 Q 294 [l0, l1, l2, l3] (.inl i :: .inr (some 1000000) :: st) (m_SH, f, g) = m_R (m_E d) 101 0 0 Q 295 [l0, l1, l2, l3] (.inl (f 1000000 i.toNatClampNeg) :: st) (m_SH, f, g) := m_rst rfl (m_xi_s hi)
set_option maxRecDepth 100000 in
theorem r101_295 {d : Nat} {Q : mQ} {l1 l2 l3 : Option mV} {st : mS} {f : Nat → Nat → Int32} {g : Nat → Nat → Option Nat} {x : Option Nat}  : m_R (m_E d) 101 0 0 Q 295 [some (.inr x), l1, l2, l3] st (m_SH, f, g) = m_R (m_E d) 101 0 0 Q 296 [some (.inr x), l1, l2, l3] (.inr x :: st) (m_SH, f, g) := m_rst rfl rfl
set_option maxRecDepth 100000 in
theorem r101_296 {d : Nat} {Q : mQ} {l0 l1 l2 : Option mV} {st : mS} {f : Nat → Nat → Int32} {g : Nat → Nat → Option Nat} {x : Int32}  : m_R (m_E d) 101 0 0 Q 296 [l0, l1, l2, some (.inl x)] st (m_SH, f, g) = m_R (m_E d) 101 0 0 Q 297 [l0, l1, l2, some (.inl x)] (.inl x :: st) (m_SH, f, g) := m_rst rfl rfl
set_option maxRecDepth 100000 in
theorem r101_297 {d : Nat} {Q : mQ} {l0 l1 l2 l3 : Option mV} {st : mS} {f : Nat → Nat → Int32} {g : Nat → Nat → Option Nat}  : m_R (m_E d) 101 0 0 Q 297 [l0, l1, l2, l3] st (m_SH, f, g) = m_R (m_E d) 101 0 0 Q 298 [l0, l1, l2, l3] (.inl 2 :: st) (m_SH, f, g) := m_rst rfl rfl
set_option maxRecDepth 100000 in
theorem r101_298 {d : Nat} {Q : mQ} {l0 l1 l2 l3 : Option mV} {st : mS} {f : Nat → Nat → Int32} {g : Nat → Nat → Option Nat} {x y : Int32}  : m_R (m_E d) 101 0 0 Q 298 [l0, l1, l2, l3] (.inl y :: .inl x :: st) (m_SH, f, g) = m_R (m_E d) 101 0 0 Q 299 [l0, l1, l2, l3] (.inl (x + y) :: st) (m_SH, f, g) := m_rst rfl rfl
set_option maxRecDepth 100000 in
theorem r101_299 {d : Nat} {Q : mQ} {l0 l1 l2 l3 : Option mV} {st : mS} {f : Nat → Nat → Int32} {g : Nat → Nat → Option Nat} {i : Int32} (hi : vp_in i (f 1000001 0).toNatClampNeg) : m_R (m_E d) 101 0 0 Q 299 [l0, l1, l2, l3] (.inl i :: .inr (some 1000000) :: st) (m_SH, f, g) = m_R (m_E d) 101 0 0 Q 300 [l0, l1, l2, l3] (.inl (f 1000000 i.toNatClampNeg) :: st) (m_SH, f, g) := m_rst rfl (m_xi_s hi)
set_option maxRecDepth 100000 in
theorem r101_300 {d : Nat} {Q : mQ} {l0 l1 l2 l3 : Option mV} {st : mS} {f : Nat → Nat → Int32} {g : Nat → Nat → Option Nat} {v0 v1 : mV} {k : Nat} (hs1 : m_kn k = 0) (hs2 : m_ln k = 0) (hst : st.length ≤ 8) : m_R (m_E d) 101 0 0 Q 300 [l0, l1, l2, l3] (v1 :: v0 :: .inr (some k) :: st) (m_SH, f, g) = m_E d 51 [.inr (some k), v0, v1] (m_SH, f, g) (fun r w => m_R (m_E d) 101 0 0 Q 303 [l0, l1, l2, l3] (r.toList ++ st) w) := m_rcall (rest := st) rfl (if_pos ⟨⟨by show 2 ≤ List.length (v1 :: v0 :: .inr (some k) :: st); simp only [List.length_cons]; omega, rfl, hst, fun _ => m_sho hs1 hs2⟩, m_lb1, m_lb2⟩)
set_option maxRecDepth 100000 in
theorem r101_303 {d : Nat} {Q : mQ} {l0 l1 l3 : Option mV} {st : mS} {f : Nat → Nat → Int32} {g : Nat → Nat → Option Nat} {x : Option Nat}  : m_R (m_E d) 101 0 0 Q 303 [l0, l1, some (.inr x), l3] st (m_SH, f, g) = m_R (m_E d) 101 0 0 Q 304 [l0, l1, some (.inr x), l3] (.inr x :: st) (m_SH, f, g) := m_rst rfl rfl
set_option maxRecDepth 100000 in
theorem r101_304 {d : Nat} {Q : mQ} {l1 l2 l3 : Option mV} {st : mS} {f : Nat → Nat → Int32} {g : Nat → Nat → Option Nat} {x : Option Nat}  : m_R (m_E d) 101 0 0 Q 304 [some (.inr x), l1, l2, l3] st (m_SH, f, g) = m_R (m_E d) 101 0 0 Q 305 [some (.inr x), l1, l2, l3] (.inr x :: st) (m_SH, f, g) := m_rst rfl rfl
set_option maxRecDepth 100000 in
theorem r101_305 {d : Nat} {Q : mQ} {l0 l1 l2 : Option mV} {st : mS} {f : Nat → Nat → Int32} {g : Nat → Nat → Option Nat} {x : Int32}  : m_R (m_E d) 101 0 0 Q 305 [l0, l1, l2, some (.inl x)] st (m_SH, f, g) = m_R (m_E d) 101 0 0 Q 306 [l0, l1, l2, some (.inl x)] (.inl x :: st) (m_SH, f, g) := m_rst rfl rfl
set_option maxRecDepth 100000 in
theorem r101_306 {d : Nat} {Q : mQ} {l0 l1 l2 l3 : Option mV} {st : mS} {f : Nat → Nat → Int32} {g : Nat → Nat → Option Nat}  : m_R (m_E d) 101 0 0 Q 306 [l0, l1, l2, l3] st (m_SH, f, g) = m_R (m_E d) 101 0 0 Q 307 [l0, l1, l2, l3] (.inl 1 :: st) (m_SH, f, g) := m_rst rfl rfl
set_option maxRecDepth 100000 in
theorem r101_307 {d : Nat} {Q : mQ} {l0 l1 l2 l3 : Option mV} {st : mS} {f : Nat → Nat → Int32} {g : Nat → Nat → Option Nat} {x y : Int32}  : m_R (m_E d) 101 0 0 Q 307 [l0, l1, l2, l3] (.inl y :: .inl x :: st) (m_SH, f, g) = m_R (m_E d) 101 0 0 Q 308 [l0, l1, l2, l3] (.inl (x + y) :: st) (m_SH, f, g) := m_rst rfl rfl
set_option maxRecDepth 100000 in
theorem r101_308 {d : Nat} {Q : mQ} {l0 l1 l2 l3 : Option mV} {st : mS} {f : Nat → Nat → Int32} {g : Nat → Nat → Option Nat} {i : Int32} (hi : vp_in i (f 1000001 0).toNatClampNeg) : m_R (m_E d) 101 0 0 Q 308 [l0, l1, l2, l3] (.inl i :: .inr (some 1000000) :: st) (m_SH, f, g) = m_R (m_E d) 101 0 0 Q 309 [l0, l1, l2, l3] (.inl (f 1000000 i.toNatClampNeg) :: st) (m_SH, f, g) := m_rst rfl (m_xi_s hi)
set_option maxRecDepth 100000 in
theorem r101_309 {d : Nat} {Q : mQ} {l1 l2 l3 : Option mV} {st : mS} {f : Nat → Nat → Int32} {g : Nat → Nat → Option Nat} {x : Option Nat}  : m_R (m_E d) 101 0 0 Q 309 [some (.inr x), l1, l2, l3] st (m_SH, f, g) = m_R (m_E d) 101 0 0 Q 310 [some (.inr x), l1, l2, l3] (.inr x :: st) (m_SH, f, g) := m_rst rfl rfl
set_option maxRecDepth 100000 in
theorem r101_310 {d : Nat} {Q : mQ} {l0 l1 l2 : Option mV} {st : mS} {f : Nat → Nat → Int32} {g : Nat → Nat → Option Nat} {x : Int32}  : m_R (m_E d) 101 0 0 Q 310 [l0, l1, l2, some (.inl x)] st (m_SH, f, g) = m_R (m_E d) 101 0 0 Q 311 [l0, l1, l2, some (.inl x)] (.inl x :: st) (m_SH, f, g) := m_rst rfl rfl
set_option maxRecDepth 100000 in
theorem r101_311 {d : Nat} {Q : mQ} {l0 l1 l2 l3 : Option mV} {st : mS} {f : Nat → Nat → Int32} {g : Nat → Nat → Option Nat}  : m_R (m_E d) 101 0 0 Q 311 [l0, l1, l2, l3] st (m_SH, f, g) = m_R (m_E d) 101 0 0 Q 312 [l0, l1, l2, l3] (.inl 2 :: st) (m_SH, f, g) := m_rst rfl rfl
set_option maxRecDepth 100000 in
theorem r101_312 {d : Nat} {Q : mQ} {l0 l1 l2 l3 : Option mV} {st : mS} {f : Nat → Nat → Int32} {g : Nat → Nat → Option Nat} {x y : Int32}  : m_R (m_E d) 101 0 0 Q 312 [l0, l1, l2, l3] (.inl y :: .inl x :: st) (m_SH, f, g) = m_R (m_E d) 101 0 0 Q 313 [l0, l1, l2, l3] (.inl (x + y) :: st) (m_SH, f, g) := m_rst rfl rfl
set_option maxRecDepth 100000 in
theorem r101_313 {d : Nat} {Q : mQ} {l0 l1 l2 l3 : Option mV} {st : mS} {f : Nat → Nat → Int32} {g : Nat → Nat → Option Nat} {i : Int32} (hi : vp_in i (f 1000001 0).toNatClampNeg) : m_R (m_E d) 101 0 0 Q 313 [l0, l1, l2, l3] (.inl i :: .inr (some 1000000) :: st) (m_SH, f, g) = m_R (m_E d) 101 0 0 Q 314 [l0, l1, l2, l3] (.inl (f 1000000 i.toNatClampNeg) :: st) (m_SH, f, g) := m_rst rfl (m_xi_s hi)
set_option maxRecDepth 100000 in
theorem r101_314 {d : Nat} {Q : mQ} {l0 l1 l2 l3 : Option mV} {st : mS} {f : Nat → Nat → Int32} {g : Nat → Nat → Option Nat} {v0 v1 : mV} {k : Nat} (hs1 : m_kn k = 0) (hs2 : m_ln k = 6) (hst : st.length ≤ 8) : m_R (m_E d) 101 0 0 Q 314 [l0, l1, l2, l3] (v1 :: v0 :: .inr (some k) :: st) (m_SH, f, g) = m_E d 92 [.inr (some k), v0, v1] (m_SH, f, g) (fun r w => m_R (m_E d) 101 0 0 Q 317 [l0, l1, l2, l3] (r.toList ++ st) w) := m_rcall (rest := st) rfl (if_pos ⟨⟨by show 2 ≤ List.length (v1 :: v0 :: .inr (some k) :: st); simp only [List.length_cons]; omega, rfl, hst, fun _ => m_sho hs1 hs2⟩, m_lb1, m_lb2⟩)
set_option maxRecDepth 100000 in
theorem r101_317 {d : Nat} {Q : mQ} {l0 l1 l2 l3 : Option mV} {st : mS} {f : Nat → Nat → Int32} {g : Nat → Nat → Option Nat} {x y : Int32}  : m_R (m_E d) 101 0 0 Q 317 [l0, l1, l2, l3] (.inl y :: .inl x :: st) (m_SH, f, g) = (if x = y then m_R (m_E d) 101 0 0 Q 529 [l0, l1, l2, l3] st (m_SH, f, g) else m_R (m_E d) 101 0 0 Q 320 [l0, l1, l2, l3] st (m_SH, f, g)) := m_rif rfl (o1 := some (.inl (529, [l0, l1, l2, l3], st, (m_SH, f, g)))) (o2 := some (.inl (320, [l0, l1, l2, l3], st, (m_SH, f, g)))) rfl
set_option maxRecDepth 100000 in
theorem r101_320 {d : Nat} {Q : mQ} {l0 l1 l2 l3 : Option mV} {st : mS} {f : Nat → Nat → Int32} {g : Nat → Nat → Option Nat}  : m_R (m_E d) 101 0 0 Q 320 [l0, l1, l2, l3] st (m_SH, f, g) = m_R (m_E d) 101 0 0 Q 321 [l0, l1, l2, l3] (.inl 0 :: st) (m_SH, f, g) := m_rst rfl rfl
set_option maxRecDepth 100000 in
theorem r101_321 {d : Nat} {Q : mQ} {l0 l1 l2 l3 : Option mV} {f : Nat → Nat → Int32} {g : Nat → Nat → Option Nat} {x : Int32} (hz : x = 0 ∨ x = 1) : m_R (m_E d) 101 0 0 Q 321 [l0, l1, l2, l3] [.inl x] (m_SH, f, g) = Q (some (.inl x)) (m_SH, f, g) := m_rret (i := .ireturn) rfl (m_st_ri.trans (m_ri2 (me := 101) (N := 0) (S := 0) (w := (m_SH, f, g)) rfl hz m_lrt))
set_option maxRecDepth 100000 in
theorem r101_322 {d : Nat} {Q : mQ} {l0 l2 l3 : Option mV} {st : mS} {f : Nat → Nat → Int32} {g : Nat → Nat → Option Nat} {x : Option Nat}  : m_R (m_E d) 101 0 0 Q 322 [l0, some (.inr x), l2, l3] st (m_SH, f, g) = m_R (m_E d) 101 0 0 Q 323 [l0, some (.inr x), l2, l3] (.inr x :: st) (m_SH, f, g) := m_rst rfl rfl
set_option maxRecDepth 100000 in
theorem r101_323 {d : Nat} {Q : mQ} {l1 l2 l3 : Option mV} {st : mS} {f : Nat → Nat → Int32} {g : Nat → Nat → Option Nat} {x : Option Nat}  : m_R (m_E d) 101 0 0 Q 323 [some (.inr x), l1, l2, l3] st (m_SH, f, g) = m_R (m_E d) 101 0 0 Q 324 [some (.inr x), l1, l2, l3] (.inr x :: st) (m_SH, f, g) := m_rst rfl rfl
set_option maxRecDepth 100000 in
theorem r101_324 {d : Nat} {Q : mQ} {l0 l1 l2 : Option mV} {st : mS} {f : Nat → Nat → Int32} {g : Nat → Nat → Option Nat} {x : Int32}  : m_R (m_E d) 101 0 0 Q 324 [l0, l1, l2, some (.inl x)] st (m_SH, f, g) = m_R (m_E d) 101 0 0 Q 325 [l0, l1, l2, some (.inl x)] (.inl x :: st) (m_SH, f, g) := m_rst rfl rfl
set_option maxRecDepth 100000 in
theorem r101_325 {d : Nat} {Q : mQ} {l0 l1 l2 l3 : Option mV} {st : mS} {f : Nat → Nat → Int32} {g : Nat → Nat → Option Nat}  : m_R (m_E d) 101 0 0 Q 325 [l0, l1, l2, l3] st (m_SH, f, g) = m_R (m_E d) 101 0 0 Q 326 [l0, l1, l2, l3] (.inl 1 :: st) (m_SH, f, g) := m_rst rfl rfl
set_option maxRecDepth 100000 in
theorem r101_326 {d : Nat} {Q : mQ} {l0 l1 l2 l3 : Option mV} {st : mS} {f : Nat → Nat → Int32} {g : Nat → Nat → Option Nat} {x y : Int32}  : m_R (m_E d) 101 0 0 Q 326 [l0, l1, l2, l3] (.inl y :: .inl x :: st) (m_SH, f, g) = m_R (m_E d) 101 0 0 Q 327 [l0, l1, l2, l3] (.inl (x + y) :: st) (m_SH, f, g) := m_rst rfl rfl
set_option maxRecDepth 100000 in
theorem r101_327 {d : Nat} {Q : mQ} {l0 l1 l2 l3 : Option mV} {st : mS} {f : Nat → Nat → Int32} {g : Nat → Nat → Option Nat} {i : Int32} (hi : vp_in i (f 1000001 0).toNatClampNeg) : m_R (m_E d) 101 0 0 Q 327 [l0, l1, l2, l3] (.inl i :: .inr (some 1000000) :: st) (m_SH, f, g) = m_R (m_E d) 101 0 0 Q 328 [l0, l1, l2, l3] (.inl (f 1000000 i.toNatClampNeg) :: st) (m_SH, f, g) := m_rst rfl (m_xi_s hi)
set_option maxRecDepth 100000 in
theorem r101_328 {d : Nat} {Q : mQ} {l0 l1 l2 l3 : Option mV} {st : mS} {f : Nat → Nat → Int32} {g : Nat → Nat → Option Nat} {v0 : mV} {k : Nat} (hs1 : m_kn k = 0) (hs2 : m_ln k = 0) (hst : st.length ≤ 8) : m_R (m_E d) 101 0 0 Q 328 [l0, l1, l2, l3] (v0 :: .inr (some k) :: st) (m_SH, f, g) = m_E d 52 [.inr (some k), v0] (m_SH, f, g) (fun r w => m_R (m_E d) 101 0 0 Q 331 [l0, l1, l2, l3] (r.toList ++ st) w) := m_rcall (rest := st) rfl (if_pos ⟨⟨by show 1 ≤ List.length (v0 :: .inr (some k) :: st); simp only [List.length_cons]; omega, rfl, hst, fun _ => m_sho hs1 hs2⟩, m_lb1, m_lb2⟩)
set_option maxRecDepth 100000 in
theorem r101_331 {d : Nat} {Q : mQ} {l0 l1 l3 : Option mV} {st : mS} {f : Nat → Nat → Int32} {g : Nat → Nat → Option Nat} {x : Option Nat}  : m_R (m_E d) 101 0 0 Q 331 [l0, l1, some (.inr x), l3] st (m_SH, f, g) = m_R (m_E d) 101 0 0 Q 332 [l0, l1, some (.inr x), l3] (.inr x :: st) (m_SH, f, g) := m_rst rfl rfl
set_option maxRecDepth 100000 in
theorem r101_332 {d : Nat} {Q : mQ} {l1 l2 l3 : Option mV} {st : mS} {f : Nat → Nat → Int32} {g : Nat → Nat → Option Nat} {x : Option Nat}  : m_R (m_E d) 101 0 0 Q 332 [some (.inr x), l1, l2, l3] st (m_SH, f, g) = m_R (m_E d) 101 0 0 Q 333 [some (.inr x), l1, l2, l3] (.inr x :: st) (m_SH, f, g) := m_rst rfl rfl
set_option maxRecDepth 100000 in
theorem r101_333 {d : Nat} {Q : mQ} {l0 l1 l2 : Option mV} {st : mS} {f : Nat → Nat → Int32} {g : Nat → Nat → Option Nat} {x : Int32}  : m_R (m_E d) 101 0 0 Q 333 [l0, l1, l2, some (.inl x)] st (m_SH, f, g) = m_R (m_E d) 101 0 0 Q 334 [l0, l1, l2, some (.inl x)] (.inl x :: st) (m_SH, f, g) := m_rst rfl rfl
set_option maxRecDepth 100000 in
theorem r101_334 {d : Nat} {Q : mQ} {l0 l1 l2 l3 : Option mV} {st : mS} {f : Nat → Nat → Int32} {g : Nat → Nat → Option Nat}  : m_R (m_E d) 101 0 0 Q 334 [l0, l1, l2, l3] st (m_SH, f, g) = m_R (m_E d) 101 0 0 Q 335 [l0, l1, l2, l3] (.inl 1 :: st) (m_SH, f, g) := m_rst rfl rfl
set_option maxRecDepth 100000 in
theorem r101_335 {d : Nat} {Q : mQ} {l0 l1 l2 l3 : Option mV} {st : mS} {f : Nat → Nat → Int32} {g : Nat → Nat → Option Nat} {x y : Int32}  : m_R (m_E d) 101 0 0 Q 335 [l0, l1, l2, l3] (.inl y :: .inl x :: st) (m_SH, f, g) = m_R (m_E d) 101 0 0 Q 336 [l0, l1, l2, l3] (.inl (x + y) :: st) (m_SH, f, g) := m_rst rfl rfl
set_option maxRecDepth 100000 in
theorem r101_336 {d : Nat} {Q : mQ} {l0 l1 l2 l3 : Option mV} {st : mS} {f : Nat → Nat → Int32} {g : Nat → Nat → Option Nat} {i : Int32} (hi : vp_in i (f 1000001 0).toNatClampNeg) : m_R (m_E d) 101 0 0 Q 336 [l0, l1, l2, l3] (.inl i :: .inr (some 1000000) :: st) (m_SH, f, g) = m_R (m_E d) 101 0 0 Q 337 [l0, l1, l2, l3] (.inl (f 1000000 i.toNatClampNeg) :: st) (m_SH, f, g) := m_rst rfl (m_xi_s hi)
set_option maxRecDepth 100000 in
theorem r101_337 {d : Nat} {Q : mQ} {l0 l1 l2 l3 : Option mV} {st : mS} {f : Nat → Nat → Int32} {g : Nat → Nat → Option Nat} {v0 : mV} {k : Nat} (hs1 : m_kn k = 0) (hs2 : m_ln k = 6) (hst : st.length ≤ 8) : m_R (m_E d) 101 0 0 Q 337 [l0, l1, l2, l3] (v0 :: .inr (some k) :: st) (m_SH, f, g) = m_E d 93 [.inr (some k), v0] (m_SH, f, g) (fun r w => m_R (m_E d) 101 0 0 Q 340 [l0, l1, l2, l3] (r.toList ++ st) w) := m_rcall (rest := st) rfl (if_pos ⟨⟨by show 1 ≤ List.length (v0 :: .inr (some k) :: st); simp only [List.length_cons]; omega, rfl, hst, fun _ => m_sho hs1 hs2⟩, m_lb1, m_lb2⟩)
set_option maxRecDepth 100000 in
theorem r101_340 {d : Nat} {Q : mQ} {l0 l1 l2 l3 : Option mV} {st : mS} {f : Nat → Nat → Int32} {g : Nat → Nat → Option Nat} {x y : Int32}  : m_R (m_E d) 101 0 0 Q 340 [l0, l1, l2, l3] (.inl y :: .inl x :: st) (m_SH, f, g) = (if x = y then m_R (m_E d) 101 0 0 Q 529 [l0, l1, l2, l3] st (m_SH, f, g) else m_R (m_E d) 101 0 0 Q 343 [l0, l1, l2, l3] st (m_SH, f, g)) := m_rif rfl (o1 := some (.inl (529, [l0, l1, l2, l3], st, (m_SH, f, g)))) (o2 := some (.inl (343, [l0, l1, l2, l3], st, (m_SH, f, g)))) rfl
set_option maxRecDepth 100000 in
theorem r101_343 {d : Nat} {Q : mQ} {l0 l1 l2 l3 : Option mV} {st : mS} {f : Nat → Nat → Int32} {g : Nat → Nat → Option Nat}  : m_R (m_E d) 101 0 0 Q 343 [l0, l1, l2, l3] st (m_SH, f, g) = m_R (m_E d) 101 0 0 Q 344 [l0, l1, l2, l3] (.inl 0 :: st) (m_SH, f, g) := m_rst rfl rfl
set_option maxRecDepth 100000 in
theorem r101_344 {d : Nat} {Q : mQ} {l0 l1 l2 l3 : Option mV} {f : Nat → Nat → Int32} {g : Nat → Nat → Option Nat} {x : Int32} (hz : x = 0 ∨ x = 1) : m_R (m_E d) 101 0 0 Q 344 [l0, l1, l2, l3] [.inl x] (m_SH, f, g) = Q (some (.inl x)) (m_SH, f, g) := m_rret (i := .ireturn) rfl (m_st_ri.trans (m_ri2 (me := 101) (N := 0) (S := 0) (w := (m_SH, f, g)) rfl hz m_lrt))
set_option maxRecDepth 100000 in
theorem r101_345 {d : Nat} {Q : mQ} {l0 l2 l3 : Option mV} {st : mS} {f : Nat → Nat → Int32} {g : Nat → Nat → Option Nat} {x : Option Nat}  : m_R (m_E d) 101 0 0 Q 345 [l0, some (.inr x), l2, l3] st (m_SH, f, g) = m_R (m_E d) 101 0 0 Q 346 [l0, some (.inr x), l2, l3] (.inr x :: st) (m_SH, f, g) := m_rst rfl rfl
set_option maxRecDepth 100000 in
theorem r101_346 {d : Nat} {Q : mQ} {l1 l2 l3 : Option mV} {st : mS} {f : Nat → Nat → Int32} {g : Nat → Nat → Option Nat} {x : Option Nat}  : m_R (m_E d) 101 0 0 Q 346 [some (.inr x), l1, l2, l3] st (m_SH, f, g) = m_R (m_E d) 101 0 0 Q 347 [some (.inr x), l1, l2, l3] (.inr x :: st) (m_SH, f, g) := m_rst rfl rfl
set_option maxRecDepth 100000 in
theorem r101_347 {d : Nat} {Q : mQ} {l0 l1 l2 : Option mV} {st : mS} {f : Nat → Nat → Int32} {g : Nat → Nat → Option Nat} {x : Int32}  : m_R (m_E d) 101 0 0 Q 347 [l0, l1, l2, some (.inl x)] st (m_SH, f, g) = m_R (m_E d) 101 0 0 Q 348 [l0, l1, l2, some (.inl x)] (.inl x :: st) (m_SH, f, g) := m_rst rfl rfl
set_option maxRecDepth 100000 in
theorem r101_348 {d : Nat} {Q : mQ} {l0 l1 l2 l3 : Option mV} {st : mS} {f : Nat → Nat → Int32} {g : Nat → Nat → Option Nat}  : m_R (m_E d) 101 0 0 Q 348 [l0, l1, l2, l3] st (m_SH, f, g) = m_R (m_E d) 101 0 0 Q 349 [l0, l1, l2, l3] (.inl 1 :: st) (m_SH, f, g) := m_rst rfl rfl
set_option maxRecDepth 100000 in
theorem r101_349 {d : Nat} {Q : mQ} {l0 l1 l2 l3 : Option mV} {st : mS} {f : Nat → Nat → Int32} {g : Nat → Nat → Option Nat} {x y : Int32}  : m_R (m_E d) 101 0 0 Q 349 [l0, l1, l2, l3] (.inl y :: .inl x :: st) (m_SH, f, g) = m_R (m_E d) 101 0 0 Q 350 [l0, l1, l2, l3] (.inl (x + y) :: st) (m_SH, f, g) := m_rst rfl rfl
set_option maxRecDepth 100000 in
theorem r101_350 {d : Nat} {Q : mQ} {l0 l1 l2 l3 : Option mV} {st : mS} {f : Nat → Nat → Int32} {g : Nat → Nat → Option Nat} {i : Int32} (hi : vp_in i (f 1000001 0).toNatClampNeg) : m_R (m_E d) 101 0 0 Q 350 [l0, l1, l2, l3] (.inl i :: .inr (some 1000000) :: st) (m_SH, f, g) = m_R (m_E d) 101 0 0 Q 351 [l0, l1, l2, l3] (.inl (f 1000000 i.toNatClampNeg) :: st) (m_SH, f, g) := m_rst rfl (m_xi_s hi)
set_option maxRecDepth 100000 in
theorem r101_351 {d : Nat} {Q : mQ} {l1 l2 l3 : Option mV} {st : mS} {f : Nat → Nat → Int32} {g : Nat → Nat → Option Nat} {x : Option Nat}  : m_R (m_E d) 101 0 0 Q 351 [some (.inr x), l1, l2, l3] st (m_SH, f, g) = m_R (m_E d) 101 0 0 Q 352 [some (.inr x), l1, l2, l3] (.inr x :: st) (m_SH, f, g) := m_rst rfl rfl
set_option maxRecDepth 100000 in
theorem r101_352 {d : Nat} {Q : mQ} {l0 l1 l2 : Option mV} {st : mS} {f : Nat → Nat → Int32} {g : Nat → Nat → Option Nat} {x : Int32}  : m_R (m_E d) 101 0 0 Q 352 [l0, l1, l2, some (.inl x)] st (m_SH, f, g) = m_R (m_E d) 101 0 0 Q 353 [l0, l1, l2, some (.inl x)] (.inl x :: st) (m_SH, f, g) := m_rst rfl rfl
set_option maxRecDepth 100000 in
theorem r101_353 {d : Nat} {Q : mQ} {l0 l1 l2 l3 : Option mV} {st : mS} {f : Nat → Nat → Int32} {g : Nat → Nat → Option Nat}  : m_R (m_E d) 101 0 0 Q 353 [l0, l1, l2, l3] st (m_SH, f, g) = m_R (m_E d) 101 0 0 Q 354 [l0, l1, l2, l3] (.inl 2 :: st) (m_SH, f, g) := m_rst rfl rfl
set_option maxRecDepth 100000 in
theorem r101_354 {d : Nat} {Q : mQ} {l0 l1 l2 l3 : Option mV} {st : mS} {f : Nat → Nat → Int32} {g : Nat → Nat → Option Nat} {x y : Int32}  : m_R (m_E d) 101 0 0 Q 354 [l0, l1, l2, l3] (.inl y :: .inl x :: st) (m_SH, f, g) = m_R (m_E d) 101 0 0 Q 355 [l0, l1, l2, l3] (.inl (x + y) :: st) (m_SH, f, g) := m_rst rfl rfl
set_option maxRecDepth 100000 in
theorem r101_355 {d : Nat} {Q : mQ} {l0 l1 l2 l3 : Option mV} {st : mS} {f : Nat → Nat → Int32} {g : Nat → Nat → Option Nat} {i : Int32} (hi : vp_in i (f 1000001 0).toNatClampNeg) : m_R (m_E d) 101 0 0 Q 355 [l0, l1, l2, l3] (.inl i :: .inr (some 1000000) :: st) (m_SH, f, g) = m_R (m_E d) 101 0 0 Q 356 [l0, l1, l2, l3] (.inl (f 1000000 i.toNatClampNeg) :: st) (m_SH, f, g) := m_rst rfl (m_xi_s hi)
set_option maxRecDepth 100000 in
theorem r101_356 {d : Nat} {Q : mQ} {l0 l1 l2 l3 : Option mV} {st : mS} {f : Nat → Nat → Int32} {g : Nat → Nat → Option Nat} {v0 v1 : mV} {k : Nat} (hs1 : m_kn k = 0) (hs2 : m_ln k = 0) (hst : st.length ≤ 8) : m_R (m_E d) 101 0 0 Q 356 [l0, l1, l2, l3] (v1 :: v0 :: .inr (some k) :: st) (m_SH, f, g) = m_E d 53 [.inr (some k), v0, v1] (m_SH, f, g) (fun r w => m_R (m_E d) 101 0 0 Q 359 [l0, l1, l2, l3] (r.toList ++ st) w) := m_rcall (rest := st) rfl (if_pos ⟨⟨by show 2 ≤ List.length (v1 :: v0 :: .inr (some k) :: st); simp only [List.length_cons]; omega, rfl, hst, fun _ => m_sho hs1 hs2⟩, m_lb1, m_lb2⟩)
set_option maxRecDepth 100000 in
theorem r101_359 {d : Nat} {Q : mQ} {l0 l1 l3 : Option mV} {st : mS} {f : Nat → Nat → Int32} {g : Nat → Nat → Option Nat} {x : Option Nat}  : m_R (m_E d) 101 0 0 Q 359 [l0, l1, some (.inr x), l3] st (m_SH, f, g) = m_R (m_E d) 101 0 0 Q 360 [l0, l1, some (.inr x), l3] (.inr x :: st) (m_SH, f, g) := m_rst rfl rfl
set_option maxRecDepth 100000 in
theorem r101_360 {d : Nat} {Q : mQ} {l1 l2 l3 : Option mV} {st : mS} {f : Nat → Nat → Int32} {g : Nat → Nat → Option Nat} {x : Option Nat}  : m_R (m_E d) 101 0 0 Q 360 [some (.inr x), l1, l2, l3] st (m_SH, f, g) = m_R (m_E d) 101 0 0 Q 361 [some (.inr x), l1, l2, l3] (.inr x :: st) (m_SH, f, g) := m_rst rfl rfl
set_option maxRecDepth 100000 in
theorem r101_361 {d : Nat} {Q : mQ} {l0 l1 l2 : Option mV} {st : mS} {f : Nat → Nat → Int32} {g : Nat → Nat → Option Nat} {x : Int32}  : m_R (m_E d) 101 0 0 Q 361 [l0, l1, l2, some (.inl x)] st (m_SH, f, g) = m_R (m_E d) 101 0 0 Q 362 [l0, l1, l2, some (.inl x)] (.inl x :: st) (m_SH, f, g) := m_rst rfl rfl
set_option maxRecDepth 100000 in
theorem r101_362 {d : Nat} {Q : mQ} {l0 l1 l2 l3 : Option mV} {st : mS} {f : Nat → Nat → Int32} {g : Nat → Nat → Option Nat}  : m_R (m_E d) 101 0 0 Q 362 [l0, l1, l2, l3] st (m_SH, f, g) = m_R (m_E d) 101 0 0 Q 363 [l0, l1, l2, l3] (.inl 1 :: st) (m_SH, f, g) := m_rst rfl rfl
set_option maxRecDepth 100000 in
theorem r101_363 {d : Nat} {Q : mQ} {l0 l1 l2 l3 : Option mV} {st : mS} {f : Nat → Nat → Int32} {g : Nat → Nat → Option Nat} {x y : Int32}  : m_R (m_E d) 101 0 0 Q 363 [l0, l1, l2, l3] (.inl y :: .inl x :: st) (m_SH, f, g) = m_R (m_E d) 101 0 0 Q 364 [l0, l1, l2, l3] (.inl (x + y) :: st) (m_SH, f, g) := m_rst rfl rfl
set_option maxRecDepth 100000 in
theorem r101_364 {d : Nat} {Q : mQ} {l0 l1 l2 l3 : Option mV} {st : mS} {f : Nat → Nat → Int32} {g : Nat → Nat → Option Nat} {i : Int32} (hi : vp_in i (f 1000001 0).toNatClampNeg) : m_R (m_E d) 101 0 0 Q 364 [l0, l1, l2, l3] (.inl i :: .inr (some 1000000) :: st) (m_SH, f, g) = m_R (m_E d) 101 0 0 Q 365 [l0, l1, l2, l3] (.inl (f 1000000 i.toNatClampNeg) :: st) (m_SH, f, g) := m_rst rfl (m_xi_s hi)
set_option maxRecDepth 100000 in
theorem r101_365 {d : Nat} {Q : mQ} {l1 l2 l3 : Option mV} {st : mS} {f : Nat → Nat → Int32} {g : Nat → Nat → Option Nat} {x : Option Nat}  : m_R (m_E d) 101 0 0 Q 365 [some (.inr x), l1, l2, l3] st (m_SH, f, g) = m_R (m_E d) 101 0 0 Q 366 [some (.inr x), l1, l2, l3] (.inr x :: st) (m_SH, f, g) := m_rst rfl rfl
set_option maxRecDepth 100000 in
theorem r101_366 {d : Nat} {Q : mQ} {l0 l1 l2 : Option mV} {st : mS} {f : Nat → Nat → Int32} {g : Nat → Nat → Option Nat} {x : Int32}  : m_R (m_E d) 101 0 0 Q 366 [l0, l1, l2, some (.inl x)] st (m_SH, f, g) = m_R (m_E d) 101 0 0 Q 367 [l0, l1, l2, some (.inl x)] (.inl x :: st) (m_SH, f, g) := m_rst rfl rfl
set_option maxRecDepth 100000 in
theorem r101_367 {d : Nat} {Q : mQ} {l0 l1 l2 l3 : Option mV} {st : mS} {f : Nat → Nat → Int32} {g : Nat → Nat → Option Nat}  : m_R (m_E d) 101 0 0 Q 367 [l0, l1, l2, l3] st (m_SH, f, g) = m_R (m_E d) 101 0 0 Q 368 [l0, l1, l2, l3] (.inl 2 :: st) (m_SH, f, g) := m_rst rfl rfl
set_option maxRecDepth 100000 in
theorem r101_368 {d : Nat} {Q : mQ} {l0 l1 l2 l3 : Option mV} {st : mS} {f : Nat → Nat → Int32} {g : Nat → Nat → Option Nat} {x y : Int32}  : m_R (m_E d) 101 0 0 Q 368 [l0, l1, l2, l3] (.inl y :: .inl x :: st) (m_SH, f, g) = m_R (m_E d) 101 0 0 Q 369 [l0, l1, l2, l3] (.inl (x + y) :: st) (m_SH, f, g) := m_rst rfl rfl
set_option maxRecDepth 100000 in
theorem r101_369 {d : Nat} {Q : mQ} {l0 l1 l2 l3 : Option mV} {st : mS} {f : Nat → Nat → Int32} {g : Nat → Nat → Option Nat} {i : Int32} (hi : vp_in i (f 1000001 0).toNatClampNeg) : m_R (m_E d) 101 0 0 Q 369 [l0, l1, l2, l3] (.inl i :: .inr (some 1000000) :: st) (m_SH, f, g) = m_R (m_E d) 101 0 0 Q 370 [l0, l1, l2, l3] (.inl (f 1000000 i.toNatClampNeg) :: st) (m_SH, f, g) := m_rst rfl (m_xi_s hi)
set_option maxRecDepth 100000 in
theorem r101_370 {d : Nat} {Q : mQ} {l0 l1 l2 l3 : Option mV} {st : mS} {f : Nat → Nat → Int32} {g : Nat → Nat → Option Nat} {v0 v1 : mV} {k : Nat} (hs1 : m_kn k = 0) (hs2 : m_ln k = 6) (hst : st.length ≤ 8) : m_R (m_E d) 101 0 0 Q 370 [l0, l1, l2, l3] (v1 :: v0 :: .inr (some k) :: st) (m_SH, f, g) = m_E d 70 [.inr (some k), v0, v1] (m_SH, f, g) (fun r w => m_R (m_E d) 101 0 0 Q 373 [l0, l1, l2, l3] (r.toList ++ st) w) := m_rcall (rest := st) rfl (if_pos ⟨⟨by show 2 ≤ List.length (v1 :: v0 :: .inr (some k) :: st); simp only [List.length_cons]; omega, rfl, hst, fun _ => m_sho hs1 hs2⟩, m_lb1, m_lb2⟩)
set_option maxRecDepth 100000 in
theorem r101_373 {d : Nat} {Q : mQ} {l0 l1 l2 l3 : Option mV} {st : mS} {f : Nat → Nat → Int32} {g : Nat → Nat → Option Nat} {x y : Int32}  : m_R (m_E d) 101 0 0 Q 373 [l0, l1, l2, l3] (.inl y :: .inl x :: st) (m_SH, f, g) = (if x = y then m_R (m_E d) 101 0 0 Q 529 [l0, l1, l2, l3] st (m_SH, f, g) else m_R (m_E d) 101 0 0 Q 376 [l0, l1, l2, l3] st (m_SH, f, g)) := m_rif rfl (o1 := some (.inl (529, [l0, l1, l2, l3], st, (m_SH, f, g)))) (o2 := some (.inl (376, [l0, l1, l2, l3], st, (m_SH, f, g)))) rfl
set_option maxRecDepth 100000 in
theorem r101_376 {d : Nat} {Q : mQ} {l0 l1 l2 l3 : Option mV} {st : mS} {f : Nat → Nat → Int32} {g : Nat → Nat → Option Nat}  : m_R (m_E d) 101 0 0 Q 376 [l0, l1, l2, l3] st (m_SH, f, g) = m_R (m_E d) 101 0 0 Q 377 [l0, l1, l2, l3] (.inl 0 :: st) (m_SH, f, g) := m_rst rfl rfl
set_option maxRecDepth 100000 in
theorem r101_377 {d : Nat} {Q : mQ} {l0 l1 l2 l3 : Option mV} {f : Nat → Nat → Int32} {g : Nat → Nat → Option Nat} {x : Int32} (hz : x = 0 ∨ x = 1) : m_R (m_E d) 101 0 0 Q 377 [l0, l1, l2, l3] [.inl x] (m_SH, f, g) = Q (some (.inl x)) (m_SH, f, g) := m_rret (i := .ireturn) rfl (m_st_ri.trans (m_ri2 (me := 101) (N := 0) (S := 0) (w := (m_SH, f, g)) rfl hz m_lrt))
set_option maxRecDepth 100000 in
theorem r101_378 {d : Nat} {Q : mQ} {l0 l2 l3 : Option mV} {st : mS} {f : Nat → Nat → Int32} {g : Nat → Nat → Option Nat} {x : Option Nat}  : m_R (m_E d) 101 0 0 Q 378 [l0, some (.inr x), l2, l3] st (m_SH, f, g) = m_R (m_E d) 101 0 0 Q 379 [l0, some (.inr x), l2, l3] (.inr x :: st) (m_SH, f, g) := m_rst rfl rfl
set_option maxRecDepth 100000 in
theorem r101_379 {d : Nat} {Q : mQ} {l1 l2 l3 : Option mV} {st : mS} {f : Nat → Nat → Int32} {g : Nat → Nat → Option Nat} {x : Option Nat}  : m_R (m_E d) 101 0 0 Q 379 [some (.inr x), l1, l2, l3] st (m_SH, f, g) = m_R (m_E d) 101 0 0 Q 380 [some (.inr x), l1, l2, l3] (.inr x :: st) (m_SH, f, g) := m_rst rfl rfl
set_option maxRecDepth 100000 in
theorem r101_380 {d : Nat} {Q : mQ} {l0 l1 l2 : Option mV} {st : mS} {f : Nat → Nat → Int32} {g : Nat → Nat → Option Nat} {x : Int32}  : m_R (m_E d) 101 0 0 Q 380 [l0, l1, l2, some (.inl x)] st (m_SH, f, g) = m_R (m_E d) 101 0 0 Q 381 [l0, l1, l2, some (.inl x)] (.inl x :: st) (m_SH, f, g) := m_rst rfl rfl
set_option maxRecDepth 100000 in
theorem r101_381 {d : Nat} {Q : mQ} {l0 l1 l2 l3 : Option mV} {st : mS} {f : Nat → Nat → Int32} {g : Nat → Nat → Option Nat}  : m_R (m_E d) 101 0 0 Q 381 [l0, l1, l2, l3] st (m_SH, f, g) = m_R (m_E d) 101 0 0 Q 382 [l0, l1, l2, l3] (.inl 1 :: st) (m_SH, f, g) := m_rst rfl rfl
set_option maxRecDepth 100000 in
theorem r101_382 {d : Nat} {Q : mQ} {l0 l1 l2 l3 : Option mV} {st : mS} {f : Nat → Nat → Int32} {g : Nat → Nat → Option Nat} {x y : Int32}  : m_R (m_E d) 101 0 0 Q 382 [l0, l1, l2, l3] (.inl y :: .inl x :: st) (m_SH, f, g) = m_R (m_E d) 101 0 0 Q 383 [l0, l1, l2, l3] (.inl (x + y) :: st) (m_SH, f, g) := m_rst rfl rfl
set_option maxRecDepth 100000 in
theorem r101_383 {d : Nat} {Q : mQ} {l0 l1 l2 l3 : Option mV} {st : mS} {f : Nat → Nat → Int32} {g : Nat → Nat → Option Nat} {i : Int32} (hi : vp_in i (f 1000001 0).toNatClampNeg) : m_R (m_E d) 101 0 0 Q 383 [l0, l1, l2, l3] (.inl i :: .inr (some 1000000) :: st) (m_SH, f, g) = m_R (m_E d) 101 0 0 Q 384 [l0, l1, l2, l3] (.inl (f 1000000 i.toNatClampNeg) :: st) (m_SH, f, g) := m_rst rfl (m_xi_s hi)
set_option maxRecDepth 100000 in
theorem r101_384 {d : Nat} {Q : mQ} {l1 l2 l3 : Option mV} {st : mS} {f : Nat → Nat → Int32} {g : Nat → Nat → Option Nat} {x : Option Nat}  : m_R (m_E d) 101 0 0 Q 384 [some (.inr x), l1, l2, l3] st (m_SH, f, g) = m_R (m_E d) 101 0 0 Q 385 [some (.inr x), l1, l2, l3] (.inr x :: st) (m_SH, f, g) := m_rst rfl rfl
set_option maxRecDepth 100000 in
theorem r101_385 {d : Nat} {Q : mQ} {l0 l1 l2 : Option mV} {st : mS} {f : Nat → Nat → Int32} {g : Nat → Nat → Option Nat} {x : Int32}  : m_R (m_E d) 101 0 0 Q 385 [l0, l1, l2, some (.inl x)] st (m_SH, f, g) = m_R (m_E d) 101 0 0 Q 386 [l0, l1, l2, some (.inl x)] (.inl x :: st) (m_SH, f, g) := m_rst rfl rfl
set_option maxRecDepth 100000 in
theorem r101_386 {d : Nat} {Q : mQ} {l0 l1 l2 l3 : Option mV} {st : mS} {f : Nat → Nat → Int32} {g : Nat → Nat → Option Nat}  : m_R (m_E d) 101 0 0 Q 386 [l0, l1, l2, l3] st (m_SH, f, g) = m_R (m_E d) 101 0 0 Q 387 [l0, l1, l2, l3] (.inl 2 :: st) (m_SH, f, g) := m_rst rfl rfl
set_option maxRecDepth 100000 in
theorem r101_387 {d : Nat} {Q : mQ} {l0 l1 l2 l3 : Option mV} {st : mS} {f : Nat → Nat → Int32} {g : Nat → Nat → Option Nat} {x y : Int32}  : m_R (m_E d) 101 0 0 Q 387 [l0, l1, l2, l3] (.inl y :: .inl x :: st) (m_SH, f, g) = m_R (m_E d) 101 0 0 Q 388 [l0, l1, l2, l3] (.inl (x + y) :: st) (m_SH, f, g) := m_rst rfl rfl
set_option maxRecDepth 100000 in
theorem r101_388 {d : Nat} {Q : mQ} {l0 l1 l2 l3 : Option mV} {st : mS} {f : Nat → Nat → Int32} {g : Nat → Nat → Option Nat} {i : Int32} (hi : vp_in i (f 1000001 0).toNatClampNeg) : m_R (m_E d) 101 0 0 Q 388 [l0, l1, l2, l3] (.inl i :: .inr (some 1000000) :: st) (m_SH, f, g) = m_R (m_E d) 101 0 0 Q 389 [l0, l1, l2, l3] (.inl (f 1000000 i.toNatClampNeg) :: st) (m_SH, f, g) := m_rst rfl (m_xi_s hi)
set_option maxRecDepth 100000 in
theorem r101_389 {d : Nat} {Q : mQ} {l0 l1 l2 l3 : Option mV} {st : mS} {f : Nat → Nat → Int32} {g : Nat → Nat → Option Nat} {v0 v1 : mV} {k : Nat} (hs1 : m_kn k = 0) (hs2 : m_ln k = 0) (hst : st.length ≤ 8) : m_R (m_E d) 101 0 0 Q 389 [l0, l1, l2, l3] (v1 :: v0 :: .inr (some k) :: st) (m_SH, f, g) = m_E d 54 [.inr (some k), v0, v1] (m_SH, f, g) (fun r w => m_R (m_E d) 101 0 0 Q 392 [l0, l1, l2, l3] (r.toList ++ st) w) := m_rcall (rest := st) rfl (if_pos ⟨⟨by show 2 ≤ List.length (v1 :: v0 :: .inr (some k) :: st); simp only [List.length_cons]; omega, rfl, hst, fun _ => m_sho hs1 hs2⟩, m_lb1, m_lb2⟩)
set_option maxRecDepth 100000 in
theorem r101_392 {d : Nat} {Q : mQ} {l0 l1 l3 : Option mV} {st : mS} {f : Nat → Nat → Int32} {g : Nat → Nat → Option Nat} {x : Option Nat}  : m_R (m_E d) 101 0 0 Q 392 [l0, l1, some (.inr x), l3] st (m_SH, f, g) = m_R (m_E d) 101 0 0 Q 393 [l0, l1, some (.inr x), l3] (.inr x :: st) (m_SH, f, g) := m_rst rfl rfl
set_option maxRecDepth 100000 in
theorem r101_393 {d : Nat} {Q : mQ} {l1 l2 l3 : Option mV} {st : mS} {f : Nat → Nat → Int32} {g : Nat → Nat → Option Nat} {x : Option Nat}  : m_R (m_E d) 101 0 0 Q 393 [some (.inr x), l1, l2, l3] st (m_SH, f, g) = m_R (m_E d) 101 0 0 Q 394 [some (.inr x), l1, l2, l3] (.inr x :: st) (m_SH, f, g) := m_rst rfl rfl
set_option maxRecDepth 100000 in
theorem r101_394 {d : Nat} {Q : mQ} {l0 l1 l2 : Option mV} {st : mS} {f : Nat → Nat → Int32} {g : Nat → Nat → Option Nat} {x : Int32}  : m_R (m_E d) 101 0 0 Q 394 [l0, l1, l2, some (.inl x)] st (m_SH, f, g) = m_R (m_E d) 101 0 0 Q 395 [l0, l1, l2, some (.inl x)] (.inl x :: st) (m_SH, f, g) := m_rst rfl rfl
set_option maxRecDepth 100000 in
theorem r101_395 {d : Nat} {Q : mQ} {l0 l1 l2 l3 : Option mV} {st : mS} {f : Nat → Nat → Int32} {g : Nat → Nat → Option Nat}  : m_R (m_E d) 101 0 0 Q 395 [l0, l1, l2, l3] st (m_SH, f, g) = m_R (m_E d) 101 0 0 Q 396 [l0, l1, l2, l3] (.inl 1 :: st) (m_SH, f, g) := m_rst rfl rfl
set_option maxRecDepth 100000 in
theorem r101_396 {d : Nat} {Q : mQ} {l0 l1 l2 l3 : Option mV} {st : mS} {f : Nat → Nat → Int32} {g : Nat → Nat → Option Nat} {x y : Int32}  : m_R (m_E d) 101 0 0 Q 396 [l0, l1, l2, l3] (.inl y :: .inl x :: st) (m_SH, f, g) = m_R (m_E d) 101 0 0 Q 397 [l0, l1, l2, l3] (.inl (x + y) :: st) (m_SH, f, g) := m_rst rfl rfl
set_option maxRecDepth 100000 in
theorem r101_397 {d : Nat} {Q : mQ} {l0 l1 l2 l3 : Option mV} {st : mS} {f : Nat → Nat → Int32} {g : Nat → Nat → Option Nat} {i : Int32} (hi : vp_in i (f 1000001 0).toNatClampNeg) : m_R (m_E d) 101 0 0 Q 397 [l0, l1, l2, l3] (.inl i :: .inr (some 1000000) :: st) (m_SH, f, g) = m_R (m_E d) 101 0 0 Q 398 [l0, l1, l2, l3] (.inl (f 1000000 i.toNatClampNeg) :: st) (m_SH, f, g) := m_rst rfl (m_xi_s hi)
set_option maxRecDepth 100000 in
theorem r101_398 {d : Nat} {Q : mQ} {l1 l2 l3 : Option mV} {st : mS} {f : Nat → Nat → Int32} {g : Nat → Nat → Option Nat} {x : Option Nat}  : m_R (m_E d) 101 0 0 Q 398 [some (.inr x), l1, l2, l3] st (m_SH, f, g) = m_R (m_E d) 101 0 0 Q 399 [some (.inr x), l1, l2, l3] (.inr x :: st) (m_SH, f, g) := m_rst rfl rfl
set_option maxRecDepth 100000 in
theorem r101_399 {d : Nat} {Q : mQ} {l0 l1 l2 : Option mV} {st : mS} {f : Nat → Nat → Int32} {g : Nat → Nat → Option Nat} {x : Int32}  : m_R (m_E d) 101 0 0 Q 399 [l0, l1, l2, some (.inl x)] st (m_SH, f, g) = m_R (m_E d) 101 0 0 Q 400 [l0, l1, l2, some (.inl x)] (.inl x :: st) (m_SH, f, g) := m_rst rfl rfl
set_option maxRecDepth 100000 in
theorem r101_400 {d : Nat} {Q : mQ} {l0 l1 l2 l3 : Option mV} {st : mS} {f : Nat → Nat → Int32} {g : Nat → Nat → Option Nat}  : m_R (m_E d) 101 0 0 Q 400 [l0, l1, l2, l3] st (m_SH, f, g) = m_R (m_E d) 101 0 0 Q 401 [l0, l1, l2, l3] (.inl 2 :: st) (m_SH, f, g) := m_rst rfl rfl
set_option maxRecDepth 100000 in
theorem r101_401 {d : Nat} {Q : mQ} {l0 l1 l2 l3 : Option mV} {st : mS} {f : Nat → Nat → Int32} {g : Nat → Nat → Option Nat} {x y : Int32}  : m_R (m_E d) 101 0 0 Q 401 [l0, l1, l2, l3] (.inl y :: .inl x :: st) (m_SH, f, g) = m_R (m_E d) 101 0 0 Q 402 [l0, l1, l2, l3] (.inl (x + y) :: st) (m_SH, f, g) := m_rst rfl rfl
set_option maxRecDepth 100000 in
theorem r101_402 {d : Nat} {Q : mQ} {l0 l1 l2 l3 : Option mV} {st : mS} {f : Nat → Nat → Int32} {g : Nat → Nat → Option Nat} {i : Int32} (hi : vp_in i (f 1000001 0).toNatClampNeg) : m_R (m_E d) 101 0 0 Q 402 [l0, l1, l2, l3] (.inl i :: .inr (some 1000000) :: st) (m_SH, f, g) = m_R (m_E d) 101 0 0 Q 403 [l0, l1, l2, l3] (.inl (f 1000000 i.toNatClampNeg) :: st) (m_SH, f, g) := m_rst rfl (m_xi_s hi)
set_option maxRecDepth 100000 in
theorem r101_403 {d : Nat} {Q : mQ} {l0 l1 l2 l3 : Option mV} {st : mS} {f : Nat → Nat → Int32} {g : Nat → Nat → Option Nat} {v0 v1 : mV} {k : Nat} (hs1 : m_kn k = 0) (hs2 : m_ln k = 6) (hst : st.length ≤ 8) : m_R (m_E d) 101 0 0 Q 403 [l0, l1, l2, l3] (v1 :: v0 :: .inr (some k) :: st) (m_SH, f, g) = m_E d 72 [.inr (some k), v0, v1] (m_SH, f, g) (fun r w => m_R (m_E d) 101 0 0 Q 406 [l0, l1, l2, l3] (r.toList ++ st) w) := m_rcall (rest := st) rfl (if_pos ⟨⟨by show 2 ≤ List.length (v1 :: v0 :: .inr (some k) :: st); simp only [List.length_cons]; omega, rfl, hst, fun _ => m_sho hs1 hs2⟩, m_lb1, m_lb2⟩)
set_option maxRecDepth 100000 in
theorem r101_406 {d : Nat} {Q : mQ} {l0 l1 l2 l3 : Option mV} {st : mS} {f : Nat → Nat → Int32} {g : Nat → Nat → Option Nat} {x y : Int32}  : m_R (m_E d) 101 0 0 Q 406 [l0, l1, l2, l3] (.inl y :: .inl x :: st) (m_SH, f, g) = (if x = y then m_R (m_E d) 101 0 0 Q 529 [l0, l1, l2, l3] st (m_SH, f, g) else m_R (m_E d) 101 0 0 Q 409 [l0, l1, l2, l3] st (m_SH, f, g)) := m_rif rfl (o1 := some (.inl (529, [l0, l1, l2, l3], st, (m_SH, f, g)))) (o2 := some (.inl (409, [l0, l1, l2, l3], st, (m_SH, f, g)))) rfl
set_option maxRecDepth 100000 in
theorem r101_409 {d : Nat} {Q : mQ} {l0 l1 l2 l3 : Option mV} {st : mS} {f : Nat → Nat → Int32} {g : Nat → Nat → Option Nat}  : m_R (m_E d) 101 0 0 Q 409 [l0, l1, l2, l3] st (m_SH, f, g) = m_R (m_E d) 101 0 0 Q 410 [l0, l1, l2, l3] (.inl 0 :: st) (m_SH, f, g) := m_rst rfl rfl
set_option maxRecDepth 100000 in
theorem r101_410 {d : Nat} {Q : mQ} {l0 l1 l2 l3 : Option mV} {f : Nat → Nat → Int32} {g : Nat → Nat → Option Nat} {x : Int32} (hz : x = 0 ∨ x = 1) : m_R (m_E d) 101 0 0 Q 410 [l0, l1, l2, l3] [.inl x] (m_SH, f, g) = Q (some (.inl x)) (m_SH, f, g) := m_rret (i := .ireturn) rfl (m_st_ri.trans (m_ri2 (me := 101) (N := 0) (S := 0) (w := (m_SH, f, g)) rfl hz m_lrt))
set_option maxRecDepth 100000 in
theorem r101_411 {d : Nat} {Q : mQ} {l0 l2 l3 : Option mV} {st : mS} {f : Nat → Nat → Int32} {g : Nat → Nat → Option Nat} {x : Option Nat}  : m_R (m_E d) 101 0 0 Q 411 [l0, some (.inr x), l2, l3] st (m_SH, f, g) = m_R (m_E d) 101 0 0 Q 412 [l0, some (.inr x), l2, l3] (.inr x :: st) (m_SH, f, g) := m_rst rfl rfl
set_option maxRecDepth 100000 in
theorem r101_412 {d : Nat} {Q : mQ} {l0 l1 l2 l3 : Option mV} {st : mS} {f : Nat → Nat → Int32} {g : Nat → Nat → Option Nat} {k : Nat} (hs1 : m_kn k = 0) (hs2 : m_ln k = 0) (hst : st.length ≤ 8) : m_R (m_E d) 101 0 0 Q 412 [l0, l1, l2, l3] (.inr (some k) :: st) (m_SH, f, g) = m_E d 55 [.inr (some k)] (m_SH, f, g) (fun r w => m_R (m_E d) 101 0 0 Q 415 [l0, l1, l2, l3] (r.toList ++ st) w) := m_rcall (rest := st) rfl (if_pos ⟨⟨by show 0 ≤ List.length (.inr (some k) :: st); simp only [List.length_cons]; omega, rfl, hst, fun _ => m_sho hs1 hs2⟩, m_lb1, m_lb2⟩)
set_option maxRecDepth 100000 in
theorem r101_415 {d : Nat} {Q : mQ} {l0 l1 l3 : Option mV} {st : mS} {f : Nat → Nat → Int32} {g : Nat → Nat → Option Nat} {x : Option Nat}  : m_R (m_E d) 101 0 0 Q 415 [l0, l1, some (.inr x), l3] st (m_SH, f, g) = m_R (m_E d) 101 0 0 Q 416 [l0, l1, some (.inr x), l3] (.inr x :: st) (m_SH, f, g) := m_rst rfl rfl
set_option maxRecDepth 100000 in
theorem r101_416 {d : Nat} {Q : mQ} {l0 l1 l2 l3 : Option mV} {st : mS} {f : Nat → Nat → Int32} {g : Nat → Nat → Option Nat} {k : Nat} (hs1 : m_kn k = 0) (hs2 : m_ln k = 6) (hst : st.length ≤ 8) : m_R (m_E d) 101 0 0 Q 416 [l0, l1, l2, l3] (.inr (some k) :: st) (m_SH, f, g) = m_E d 94 [.inr (some k)] (m_SH, f, g) (fun r w => m_R (m_E d) 101 0 0 Q 419 [l0, l1, l2, l3] (r.toList ++ st) w) := m_rcall (rest := st) rfl (if_pos ⟨⟨by show 0 ≤ List.length (.inr (some k) :: st); simp only [List.length_cons]; omega, rfl, hst, fun _ => m_sho hs1 hs2⟩, m_lb1, m_lb2⟩)
set_option maxRecDepth 100000 in
theorem r101_419 {d : Nat} {Q : mQ} {l0 l1 l2 l3 : Option mV} {st : mS} {f : Nat → Nat → Int32} {g : Nat → Nat → Option Nat} {x y : Int32}  : m_R (m_E d) 101 0 0 Q 419 [l0, l1, l2, l3] (.inl y :: .inl x :: st) (m_SH, f, g) = (if x = y then m_R (m_E d) 101 0 0 Q 529 [l0, l1, l2, l3] st (m_SH, f, g) else m_R (m_E d) 101 0 0 Q 422 [l0, l1, l2, l3] st (m_SH, f, g)) := m_rif rfl (o1 := some (.inl (529, [l0, l1, l2, l3], st, (m_SH, f, g)))) (o2 := some (.inl (422, [l0, l1, l2, l3], st, (m_SH, f, g)))) rfl
set_option maxRecDepth 100000 in
theorem r101_422 {d : Nat} {Q : mQ} {l0 l1 l2 l3 : Option mV} {st : mS} {f : Nat → Nat → Int32} {g : Nat → Nat → Option Nat}  : m_R (m_E d) 101 0 0 Q 422 [l0, l1, l2, l3] st (m_SH, f, g) = m_R (m_E d) 101 0 0 Q 423 [l0, l1, l2, l3] (.inl 0 :: st) (m_SH, f, g) := m_rst rfl rfl
set_option maxRecDepth 100000 in
theorem r101_423 {d : Nat} {Q : mQ} {l0 l1 l2 l3 : Option mV} {f : Nat → Nat → Int32} {g : Nat → Nat → Option Nat} {x : Int32} (hz : x = 0 ∨ x = 1) : m_R (m_E d) 101 0 0 Q 423 [l0, l1, l2, l3] [.inl x] (m_SH, f, g) = Q (some (.inl x)) (m_SH, f, g) := m_rret (i := .ireturn) rfl (m_st_ri.trans (m_ri2 (me := 101) (N := 0) (S := 0) (w := (m_SH, f, g)) rfl hz m_lrt))
set_option maxRecDepth 100000 in
theorem r101_424 {d : Nat} {Q : mQ} {l0 l2 l3 : Option mV} {st : mS} {f : Nat → Nat → Int32} {g : Nat → Nat → Option Nat} {x : Option Nat}  : m_R (m_E d) 101 0 0 Q 424 [l0, some (.inr x), l2, l3] st (m_SH, f, g) = m_R (m_E d) 101 0 0 Q 425 [l0, some (.inr x), l2, l3] (.inr x :: st) (m_SH, f, g) := m_rst rfl rfl
set_option maxRecDepth 100000 in
theorem r101_425 {d : Nat} {Q : mQ} {l1 l2 l3 : Option mV} {st : mS} {f : Nat → Nat → Int32} {g : Nat → Nat → Option Nat} {x : Option Nat}  : m_R (m_E d) 101 0 0 Q 425 [some (.inr x), l1, l2, l3] st (m_SH, f, g) = m_R (m_E d) 101 0 0 Q 426 [some (.inr x), l1, l2, l3] (.inr x :: st) (m_SH, f, g) := m_rst rfl rfl
set_option maxRecDepth 100000 in
theorem r101_426 {d : Nat} {Q : mQ} {l0 l1 l2 : Option mV} {st : mS} {f : Nat → Nat → Int32} {g : Nat → Nat → Option Nat} {x : Int32}  : m_R (m_E d) 101 0 0 Q 426 [l0, l1, l2, some (.inl x)] st (m_SH, f, g) = m_R (m_E d) 101 0 0 Q 427 [l0, l1, l2, some (.inl x)] (.inl x :: st) (m_SH, f, g) := m_rst rfl rfl
set_option maxRecDepth 100000 in
theorem r101_427 {d : Nat} {Q : mQ} {l0 l1 l2 l3 : Option mV} {st : mS} {f : Nat → Nat → Int32} {g : Nat → Nat → Option Nat}  : m_R (m_E d) 101 0 0 Q 427 [l0, l1, l2, l3] st (m_SH, f, g) = m_R (m_E d) 101 0 0 Q 428 [l0, l1, l2, l3] (.inl 1 :: st) (m_SH, f, g) := m_rst rfl rfl
set_option maxRecDepth 100000 in
theorem r101_428 {d : Nat} {Q : mQ} {l0 l1 l2 l3 : Option mV} {st : mS} {f : Nat → Nat → Int32} {g : Nat → Nat → Option Nat} {x y : Int32}  : m_R (m_E d) 101 0 0 Q 428 [l0, l1, l2, l3] (.inl y :: .inl x :: st) (m_SH, f, g) = m_R (m_E d) 101 0 0 Q 429 [l0, l1, l2, l3] (.inl (x + y) :: st) (m_SH, f, g) := m_rst rfl rfl
set_option maxRecDepth 100000 in
theorem r101_429 {d : Nat} {Q : mQ} {l0 l1 l2 l3 : Option mV} {st : mS} {f : Nat → Nat → Int32} {g : Nat → Nat → Option Nat} {i : Int32} (hi : vp_in i (f 1000001 0).toNatClampNeg) : m_R (m_E d) 101 0 0 Q 429 [l0, l1, l2, l3] (.inl i :: .inr (some 1000000) :: st) (m_SH, f, g) = m_R (m_E d) 101 0 0 Q 430 [l0, l1, l2, l3] (.inl (f 1000000 i.toNatClampNeg) :: st) (m_SH, f, g) := m_rst rfl (m_xi_s hi)
set_option maxRecDepth 100000 in
theorem r101_430 {d : Nat} {Q : mQ} {l0 l1 l2 l3 : Option mV} {st : mS} {f : Nat → Nat → Int32} {g : Nat → Nat → Option Nat} {v0 : mV} {k : Nat} (hs1 : m_kn k = 0) (hs2 : m_ln k = 0) (hst : st.length ≤ 8) : m_R (m_E d) 101 0 0 Q 430 [l0, l1, l2, l3] (v0 :: .inr (some k) :: st) (m_SH, f, g) = m_E d 56 [.inr (some k), v0] (m_SH, f, g) (fun r w => m_R (m_E d) 101 0 0 Q 433 [l0, l1, l2, l3] (r.toList ++ st) w) := m_rcall (rest := st) rfl (if_pos ⟨⟨by show 1 ≤ List.length (v0 :: .inr (some k) :: st); simp only [List.length_cons]; omega, rfl, hst, fun _ => m_sho hs1 hs2⟩, m_lb1, m_lb2⟩)
set_option maxRecDepth 100000 in
theorem r101_433 {d : Nat} {Q : mQ} {l0 l1 l3 : Option mV} {st : mS} {f : Nat → Nat → Int32} {g : Nat → Nat → Option Nat} {x : Option Nat}  : m_R (m_E d) 101 0 0 Q 433 [l0, l1, some (.inr x), l3] st (m_SH, f, g) = m_R (m_E d) 101 0 0 Q 434 [l0, l1, some (.inr x), l3] (.inr x :: st) (m_SH, f, g) := m_rst rfl rfl
set_option maxRecDepth 100000 in
theorem r101_434 {d : Nat} {Q : mQ} {l1 l2 l3 : Option mV} {st : mS} {f : Nat → Nat → Int32} {g : Nat → Nat → Option Nat} {x : Option Nat}  : m_R (m_E d) 101 0 0 Q 434 [some (.inr x), l1, l2, l3] st (m_SH, f, g) = m_R (m_E d) 101 0 0 Q 435 [some (.inr x), l1, l2, l3] (.inr x :: st) (m_SH, f, g) := m_rst rfl rfl
set_option maxRecDepth 100000 in
theorem r101_435 {d : Nat} {Q : mQ} {l0 l1 l2 : Option mV} {st : mS} {f : Nat → Nat → Int32} {g : Nat → Nat → Option Nat} {x : Int32}  : m_R (m_E d) 101 0 0 Q 435 [l0, l1, l2, some (.inl x)] st (m_SH, f, g) = m_R (m_E d) 101 0 0 Q 436 [l0, l1, l2, some (.inl x)] (.inl x :: st) (m_SH, f, g) := m_rst rfl rfl
set_option maxRecDepth 100000 in
theorem r101_436 {d : Nat} {Q : mQ} {l0 l1 l2 l3 : Option mV} {st : mS} {f : Nat → Nat → Int32} {g : Nat → Nat → Option Nat}  : m_R (m_E d) 101 0 0 Q 436 [l0, l1, l2, l3] st (m_SH, f, g) = m_R (m_E d) 101 0 0 Q 437 [l0, l1, l2, l3] (.inl 1 :: st) (m_SH, f, g) := m_rst rfl rfl
set_option maxRecDepth 100000 in
theorem r101_437 {d : Nat} {Q : mQ} {l0 l1 l2 l3 : Option mV} {st : mS} {f : Nat → Nat → Int32} {g : Nat → Nat → Option Nat} {x y : Int32}  : m_R (m_E d) 101 0 0 Q 437 [l0, l1, l2, l3] (.inl y :: .inl x :: st) (m_SH, f, g) = m_R (m_E d) 101 0 0 Q 438 [l0, l1, l2, l3] (.inl (x + y) :: st) (m_SH, f, g) := m_rst rfl rfl
set_option maxRecDepth 100000 in
theorem r101_438 {d : Nat} {Q : mQ} {l0 l1 l2 l3 : Option mV} {st : mS} {f : Nat → Nat → Int32} {g : Nat → Nat → Option Nat} {i : Int32} (hi : vp_in i (f 1000001 0).toNatClampNeg) : m_R (m_E d) 101 0 0 Q 438 [l0, l1, l2, l3] (.inl i :: .inr (some 1000000) :: st) (m_SH, f, g) = m_R (m_E d) 101 0 0 Q 439 [l0, l1, l2, l3] (.inl (f 1000000 i.toNatClampNeg) :: st) (m_SH, f, g) := m_rst rfl (m_xi_s hi)
set_option maxRecDepth 100000 in
theorem r101_439 {d : Nat} {Q : mQ} {l0 l1 l2 l3 : Option mV} {st : mS} {f : Nat → Nat → Int32} {g : Nat → Nat → Option Nat} {v0 : mV} {k : Nat} (hs1 : m_kn k = 0) (hs2 : m_ln k = 6) (hst : st.length ≤ 8) : m_R (m_E d) 101 0 0 Q 439 [l0, l1, l2, l3] (v0 :: .inr (some k) :: st) (m_SH, f, g) = m_E d 95 [.inr (some k), v0] (m_SH, f, g) (fun r w => m_R (m_E d) 101 0 0 Q 442 [l0, l1, l2, l3] (r.toList ++ st) w) := m_rcall (rest := st) rfl (if_pos ⟨⟨by show 1 ≤ List.length (v0 :: .inr (some k) :: st); simp only [List.length_cons]; omega, rfl, hst, fun _ => m_sho hs1 hs2⟩, m_lb1, m_lb2⟩)
set_option maxRecDepth 100000 in
theorem r101_442 {d : Nat} {Q : mQ} {l0 l1 l2 l3 : Option mV} {st : mS} {f : Nat → Nat → Int32} {g : Nat → Nat → Option Nat} {x y : Int32}  : m_R (m_E d) 101 0 0 Q 442 [l0, l1, l2, l3] (.inl y :: .inl x :: st) (m_SH, f, g) = (if x = y then m_R (m_E d) 101 0 0 Q 529 [l0, l1, l2, l3] st (m_SH, f, g) else m_R (m_E d) 101 0 0 Q 445 [l0, l1, l2, l3] st (m_SH, f, g)) := m_rif rfl (o1 := some (.inl (529, [l0, l1, l2, l3], st, (m_SH, f, g)))) (o2 := some (.inl (445, [l0, l1, l2, l3], st, (m_SH, f, g)))) rfl
set_option maxRecDepth 100000 in
theorem r101_445 {d : Nat} {Q : mQ} {l0 l1 l2 l3 : Option mV} {st : mS} {f : Nat → Nat → Int32} {g : Nat → Nat → Option Nat}  : m_R (m_E d) 101 0 0 Q 445 [l0, l1, l2, l3] st (m_SH, f, g) = m_R (m_E d) 101 0 0 Q 446 [l0, l1, l2, l3] (.inl 0 :: st) (m_SH, f, g) := m_rst rfl rfl
set_option maxRecDepth 100000 in
theorem r101_446 {d : Nat} {Q : mQ} {l0 l1 l2 l3 : Option mV} {f : Nat → Nat → Int32} {g : Nat → Nat → Option Nat} {x : Int32} (hz : x = 0 ∨ x = 1) : m_R (m_E d) 101 0 0 Q 446 [l0, l1, l2, l3] [.inl x] (m_SH, f, g) = Q (some (.inl x)) (m_SH, f, g) := m_rret (i := .ireturn) rfl (m_st_ri.trans (m_ri2 (me := 101) (N := 0) (S := 0) (w := (m_SH, f, g)) rfl hz m_lrt))
set_option maxRecDepth 100000 in
theorem r101_447 {d : Nat} {Q : mQ} {l0 l2 l3 : Option mV} {st : mS} {f : Nat → Nat → Int32} {g : Nat → Nat → Option Nat} {x : Option Nat}  : m_R (m_E d) 101 0 0 Q 447 [l0, some (.inr x), l2, l3] st (m_SH, f, g) = m_R (m_E d) 101 0 0 Q 448 [l0, some (.inr x), l2, l3] (.inr x :: st) (m_SH, f, g) := m_rst rfl rfl
set_option maxRecDepth 100000 in
theorem r101_448 {d : Nat} {Q : mQ} {l1 l2 l3 : Option mV} {st : mS} {f : Nat → Nat → Int32} {g : Nat → Nat → Option Nat} {x : Option Nat}  : m_R (m_E d) 101 0 0 Q 448 [some (.inr x), l1, l2, l3] st (m_SH, f, g) = m_R (m_E d) 101 0 0 Q 449 [some (.inr x), l1, l2, l3] (.inr x :: st) (m_SH, f, g) := m_rst rfl rfl
set_option maxRecDepth 100000 in
theorem r101_449 {d : Nat} {Q : mQ} {l0 l1 l2 : Option mV} {st : mS} {f : Nat → Nat → Int32} {g : Nat → Nat → Option Nat} {x : Int32}  : m_R (m_E d) 101 0 0 Q 449 [l0, l1, l2, some (.inl x)] st (m_SH, f, g) = m_R (m_E d) 101 0 0 Q 450 [l0, l1, l2, some (.inl x)] (.inl x :: st) (m_SH, f, g) := m_rst rfl rfl
set_option maxRecDepth 100000 in
theorem r101_450 {d : Nat} {Q : mQ} {l0 l1 l2 l3 : Option mV} {st : mS} {f : Nat → Nat → Int32} {g : Nat → Nat → Option Nat}  : m_R (m_E d) 101 0 0 Q 450 [l0, l1, l2, l3] st (m_SH, f, g) = m_R (m_E d) 101 0 0 Q 451 [l0, l1, l2, l3] (.inl 1 :: st) (m_SH, f, g) := m_rst rfl rfl
set_option maxRecDepth 100000 in
theorem r101_451 {d : Nat} {Q : mQ} {l0 l1 l2 l3 : Option mV} {st : mS} {f : Nat → Nat → Int32} {g : Nat → Nat → Option Nat} {x y : Int32}  : m_R (m_E d) 101 0 0 Q 451 [l0, l1, l2, l3] (.inl y :: .inl x :: st) (m_SH, f, g) = m_R (m_E d) 101 0 0 Q 452 [l0, l1, l2, l3] (.inl (x + y) :: st) (m_SH, f, g) := m_rst rfl rfl
set_option maxRecDepth 100000 in
theorem r101_452 {d : Nat} {Q : mQ} {l0 l1 l2 l3 : Option mV} {st : mS} {f : Nat → Nat → Int32} {g : Nat → Nat → Option Nat} {i : Int32} (hi : vp_in i (f 1000001 0).toNatClampNeg) : m_R (m_E d) 101 0 0 Q 452 [l0, l1, l2, l3] (.inl i :: .inr (some 1000000) :: st) (m_SH, f, g) = m_R (m_E d) 101 0 0 Q 453 [l0, l1, l2, l3] (.inl (f 1000000 i.toNatClampNeg) :: st) (m_SH, f, g) := m_rst rfl (m_xi_s hi)
set_option maxRecDepth 100000 in
theorem r101_453 {d : Nat} {Q : mQ} {l0 l1 l2 l3 : Option mV} {st : mS} {f : Nat → Nat → Int32} {g : Nat → Nat → Option Nat} {v0 : mV} {k : Nat} (hs1 : m_kn k = 0) (hs2 : m_ln k = 0) (hst : st.length ≤ 8) : m_R (m_E d) 101 0 0 Q 453 [l0, l1, l2, l3] (v0 :: .inr (some k) :: st) (m_SH, f, g) = m_E d 58 [.inr (some k), v0] (m_SH, f, g) (fun r w => m_R (m_E d) 101 0 0 Q 456 [l0, l1, l2, l3] (r.toList ++ st) w) := m_rcall (rest := st) rfl (if_pos ⟨⟨by show 1 ≤ List.length (v0 :: .inr (some k) :: st); simp only [List.length_cons]; omega, rfl, hst, fun _ => m_sho hs1 hs2⟩, m_lb1, m_lb2⟩)
set_option maxRecDepth 100000 in
theorem r101_456 {d : Nat} {Q : mQ} {l0 l1 l3 : Option mV} {st : mS} {f : Nat → Nat → Int32} {g : Nat → Nat → Option Nat} {x : Option Nat}  : m_R (m_E d) 101 0 0 Q 456 [l0, l1, some (.inr x), l3] st (m_SH, f, g) = m_R (m_E d) 101 0 0 Q 457 [l0, l1, some (.inr x), l3] (.inr x :: st) (m_SH, f, g) := m_rst rfl rfl
set_option maxRecDepth 100000 in
theorem r101_457 {d : Nat} {Q : mQ} {l1 l2 l3 : Option mV} {st : mS} {f : Nat → Nat → Int32} {g : Nat → Nat → Option Nat} {x : Option Nat}  : m_R (m_E d) 101 0 0 Q 457 [some (.inr x), l1, l2, l3] st (m_SH, f, g) = m_R (m_E d) 101 0 0 Q 458 [some (.inr x), l1, l2, l3] (.inr x :: st) (m_SH, f, g) := m_rst rfl rfl
set_option maxRecDepth 100000 in
theorem r101_458 {d : Nat} {Q : mQ} {l0 l1 l2 : Option mV} {st : mS} {f : Nat → Nat → Int32} {g : Nat → Nat → Option Nat} {x : Int32}  : m_R (m_E d) 101 0 0 Q 458 [l0, l1, l2, some (.inl x)] st (m_SH, f, g) = m_R (m_E d) 101 0 0 Q 459 [l0, l1, l2, some (.inl x)] (.inl x :: st) (m_SH, f, g) := m_rst rfl rfl
set_option maxRecDepth 100000 in
theorem r101_459 {d : Nat} {Q : mQ} {l0 l1 l2 l3 : Option mV} {st : mS} {f : Nat → Nat → Int32} {g : Nat → Nat → Option Nat}  : m_R (m_E d) 101 0 0 Q 459 [l0, l1, l2, l3] st (m_SH, f, g) = m_R (m_E d) 101 0 0 Q 460 [l0, l1, l2, l3] (.inl 1 :: st) (m_SH, f, g) := m_rst rfl rfl
set_option maxRecDepth 100000 in
theorem r101_460 {d : Nat} {Q : mQ} {l0 l1 l2 l3 : Option mV} {st : mS} {f : Nat → Nat → Int32} {g : Nat → Nat → Option Nat} {x y : Int32}  : m_R (m_E d) 101 0 0 Q 460 [l0, l1, l2, l3] (.inl y :: .inl x :: st) (m_SH, f, g) = m_R (m_E d) 101 0 0 Q 461 [l0, l1, l2, l3] (.inl (x + y) :: st) (m_SH, f, g) := m_rst rfl rfl
set_option maxRecDepth 100000 in
theorem r101_461 {d : Nat} {Q : mQ} {l0 l1 l2 l3 : Option mV} {st : mS} {f : Nat → Nat → Int32} {g : Nat → Nat → Option Nat} {i : Int32} (hi : vp_in i (f 1000001 0).toNatClampNeg) : m_R (m_E d) 101 0 0 Q 461 [l0, l1, l2, l3] (.inl i :: .inr (some 1000000) :: st) (m_SH, f, g) = m_R (m_E d) 101 0 0 Q 462 [l0, l1, l2, l3] (.inl (f 1000000 i.toNatClampNeg) :: st) (m_SH, f, g) := m_rst rfl (m_xi_s hi)
set_option maxRecDepth 100000 in
theorem r101_462 {d : Nat} {Q : mQ} {l0 l1 l2 l3 : Option mV} {st : mS} {f : Nat → Nat → Int32} {g : Nat → Nat → Option Nat} {v0 : mV} {k : Nat} (hs1 : m_kn k = 0) (hs2 : m_ln k = 6) (hst : st.length ≤ 8) : m_R (m_E d) 101 0 0 Q 462 [l0, l1, l2, l3] (v0 :: .inr (some k) :: st) (m_SH, f, g) = m_E d 97 [.inr (some k), v0] (m_SH, f, g) (fun r w => m_R (m_E d) 101 0 0 Q 465 [l0, l1, l2, l3] (r.toList ++ st) w) := m_rcall (rest := st) rfl (if_pos ⟨⟨by show 1 ≤ List.length (v0 :: .inr (some k) :: st); simp only [List.length_cons]; omega, rfl, hst, fun _ => m_sho hs1 hs2⟩, m_lb1, m_lb2⟩)
set_option maxRecDepth 100000 in
theorem r101_465 {d : Nat} {Q : mQ} {l0 l1 l2 l3 : Option mV} {st : mS} {f : Nat → Nat → Int32} {g : Nat → Nat → Option Nat} {x y : Int32}  : m_R (m_E d) 101 0 0 Q 465 [l0, l1, l2, l3] (.inl y :: .inl x :: st) (m_SH, f, g) = (if x = y then m_R (m_E d) 101 0 0 Q 529 [l0, l1, l2, l3] st (m_SH, f, g) else m_R (m_E d) 101 0 0 Q 468 [l0, l1, l2, l3] st (m_SH, f, g)) := m_rif rfl (o1 := some (.inl (529, [l0, l1, l2, l3], st, (m_SH, f, g)))) (o2 := some (.inl (468, [l0, l1, l2, l3], st, (m_SH, f, g)))) rfl
set_option maxRecDepth 100000 in
theorem r101_468 {d : Nat} {Q : mQ} {l0 l1 l2 l3 : Option mV} {st : mS} {f : Nat → Nat → Int32} {g : Nat → Nat → Option Nat}  : m_R (m_E d) 101 0 0 Q 468 [l0, l1, l2, l3] st (m_SH, f, g) = m_R (m_E d) 101 0 0 Q 469 [l0, l1, l2, l3] (.inl 0 :: st) (m_SH, f, g) := m_rst rfl rfl
set_option maxRecDepth 100000 in
theorem r101_469 {d : Nat} {Q : mQ} {l0 l1 l2 l3 : Option mV} {f : Nat → Nat → Int32} {g : Nat → Nat → Option Nat} {x : Int32} (hz : x = 0 ∨ x = 1) : m_R (m_E d) 101 0 0 Q 469 [l0, l1, l2, l3] [.inl x] (m_SH, f, g) = Q (some (.inl x)) (m_SH, f, g) := m_rret (i := .ireturn) rfl (m_st_ri.trans (m_ri2 (me := 101) (N := 0) (S := 0) (w := (m_SH, f, g)) rfl hz m_lrt))
set_option maxRecDepth 100000 in
theorem r101_470 {d : Nat} {Q : mQ} {l0 l2 l3 : Option mV} {st : mS} {f : Nat → Nat → Int32} {g : Nat → Nat → Option Nat} {x : Option Nat}  : m_R (m_E d) 101 0 0 Q 470 [l0, some (.inr x), l2, l3] st (m_SH, f, g) = m_R (m_E d) 101 0 0 Q 471 [l0, some (.inr x), l2, l3] (.inr x :: st) (m_SH, f, g) := m_rst rfl rfl
set_option maxRecDepth 100000 in
theorem r101_471 {d : Nat} {Q : mQ} {l0 l1 l2 l3 : Option mV} {st : mS} {f : Nat → Nat → Int32} {g : Nat → Nat → Option Nat} {k : Nat} (hs1 : m_kn k = 0) (hs2 : m_ln k = 0) (hst : st.length ≤ 8) : m_R (m_E d) 101 0 0 Q 471 [l0, l1, l2, l3] (.inr (some k) :: st) (m_SH, f, g) = m_E d 59 [.inr (some k)] (m_SH, f, g) (fun r w => m_R (m_E d) 101 0 0 Q 474 [l0, l1, l2, l3] (r.toList ++ st) w) := m_rcall (rest := st) rfl (if_pos ⟨⟨by show 0 ≤ List.length (.inr (some k) :: st); simp only [List.length_cons]; omega, rfl, hst, fun _ => m_sho hs1 hs2⟩, m_lb1, m_lb2⟩)
set_option maxRecDepth 100000 in
theorem r101_474 {d : Nat} {Q : mQ} {l0 l1 l3 : Option mV} {st : mS} {f : Nat → Nat → Int32} {g : Nat → Nat → Option Nat} {x : Option Nat}  : m_R (m_E d) 101 0 0 Q 474 [l0, l1, some (.inr x), l3] st (m_SH, f, g) = m_R (m_E d) 101 0 0 Q 475 [l0, l1, some (.inr x), l3] (.inr x :: st) (m_SH, f, g) := m_rst rfl rfl
set_option maxRecDepth 100000 in
theorem r101_475 {d : Nat} {Q : mQ} {l0 l1 l2 l3 : Option mV} {st : mS} {f : Nat → Nat → Int32} {g : Nat → Nat → Option Nat} {k : Nat} (hs1 : m_kn k = 0) (hs2 : m_ln k = 6) (hst : st.length ≤ 8) : m_R (m_E d) 101 0 0 Q 475 [l0, l1, l2, l3] (.inr (some k) :: st) (m_SH, f, g) = m_E d 98 [.inr (some k)] (m_SH, f, g) (fun r w => m_R (m_E d) 101 0 0 Q 478 [l0, l1, l2, l3] (r.toList ++ st) w) := m_rcall (rest := st) rfl (if_pos ⟨⟨by show 0 ≤ List.length (.inr (some k) :: st); simp only [List.length_cons]; omega, rfl, hst, fun _ => m_sho hs1 hs2⟩, m_lb1, m_lb2⟩)
set_option maxRecDepth 100000 in
theorem r101_478 {d : Nat} {Q : mQ} {l0 l1 l2 l3 : Option mV} {st : mS} {f : Nat → Nat → Int32} {g : Nat → Nat → Option Nat} {x y : Int32}  : m_R (m_E d) 101 0 0 Q 478 [l0, l1, l2, l3] (.inl y :: .inl x :: st) (m_SH, f, g) = (if x = y then m_R (m_E d) 101 0 0 Q 529 [l0, l1, l2, l3] st (m_SH, f, g) else m_R (m_E d) 101 0 0 Q 481 [l0, l1, l2, l3] st (m_SH, f, g)) := m_rif rfl (o1 := some (.inl (529, [l0, l1, l2, l3], st, (m_SH, f, g)))) (o2 := some (.inl (481, [l0, l1, l2, l3], st, (m_SH, f, g)))) rfl
set_option maxRecDepth 100000 in
theorem r101_481 {d : Nat} {Q : mQ} {l0 l1 l2 l3 : Option mV} {st : mS} {f : Nat → Nat → Int32} {g : Nat → Nat → Option Nat}  : m_R (m_E d) 101 0 0 Q 481 [l0, l1, l2, l3] st (m_SH, f, g) = m_R (m_E d) 101 0 0 Q 482 [l0, l1, l2, l3] (.inl 0 :: st) (m_SH, f, g) := m_rst rfl rfl
set_option maxRecDepth 100000 in
theorem r101_482 {d : Nat} {Q : mQ} {l0 l1 l2 l3 : Option mV} {f : Nat → Nat → Int32} {g : Nat → Nat → Option Nat} {x : Int32} (hz : x = 0 ∨ x = 1) : m_R (m_E d) 101 0 0 Q 482 [l0, l1, l2, l3] [.inl x] (m_SH, f, g) = Q (some (.inl x)) (m_SH, f, g) := m_rret (i := .ireturn) rfl (m_st_ri.trans (m_ri2 (me := 101) (N := 0) (S := 0) (w := (m_SH, f, g)) rfl hz m_lrt))
set_option maxRecDepth 100000 in
theorem r101_483 {d : Nat} {Q : mQ} {l0 l2 l3 : Option mV} {st : mS} {f : Nat → Nat → Int32} {g : Nat → Nat → Option Nat} {x : Option Nat}  : m_R (m_E d) 101 0 0 Q 483 [l0, some (.inr x), l2, l3] st (m_SH, f, g) = m_R (m_E d) 101 0 0 Q 484 [l0, some (.inr x), l2, l3] (.inr x :: st) (m_SH, f, g) := m_rst rfl rfl
set_option maxRecDepth 100000 in
theorem r101_484 {d : Nat} {Q : mQ} {l1 l2 l3 : Option mV} {st : mS} {f : Nat → Nat → Int32} {g : Nat → Nat → Option Nat} {x : Option Nat}  : m_R (m_E d) 101 0 0 Q 484 [some (.inr x), l1, l2, l3] st (m_SH, f, g) = m_R (m_E d) 101 0 0 Q 485 [some (.inr x), l1, l2, l3] (.inr x :: st) (m_SH, f, g) := m_rst rfl rfl
set_option maxRecDepth 100000 in
theorem r101_485 {d : Nat} {Q : mQ} {l0 l1 l2 : Option mV} {st : mS} {f : Nat → Nat → Int32} {g : Nat → Nat → Option Nat} {x : Int32}  : m_R (m_E d) 101 0 0 Q 485 [l0, l1, l2, some (.inl x)] st (m_SH, f, g) = m_R (m_E d) 101 0 0 Q 486 [l0, l1, l2, some (.inl x)] (.inl x :: st) (m_SH, f, g) := m_rst rfl rfl
set_option maxRecDepth 100000 in
theorem r101_486 {d : Nat} {Q : mQ} {l0 l1 l2 l3 : Option mV} {st : mS} {f : Nat → Nat → Int32} {g : Nat → Nat → Option Nat}  : m_R (m_E d) 101 0 0 Q 486 [l0, l1, l2, l3] st (m_SH, f, g) = m_R (m_E d) 101 0 0 Q 487 [l0, l1, l2, l3] (.inl 1 :: st) (m_SH, f, g) := m_rst rfl rfl
set_option maxRecDepth 100000 in
theorem r101_487 {d : Nat} {Q : mQ} {l0 l1 l2 l3 : Option mV} {st : mS} {f : Nat → Nat → Int32} {g : Nat → Nat → Option Nat} {x y : Int32}  : m_R (m_E d) 101 0 0 Q 487 [l0, l1, l2, l3] (.inl y :: .inl x :: st) (m_SH, f, g) = m_R (m_E d) 101 0 0 Q 488 [l0, l1, l2, l3] (.inl (x + y) :: st) (m_SH, f, g) := m_rst rfl rfl
set_option maxRecDepth 100000 in
theorem r101_488 {d : Nat} {Q : mQ} {l0 l1 l2 l3 : Option mV} {st : mS} {f : Nat → Nat → Int32} {g : Nat → Nat → Option Nat} {i : Int32} (hi : vp_in i (f 1000001 0).toNatClampNeg) : m_R (m_E d) 101 0 0 Q 488 [l0, l1, l2, l3] (.inl i :: .inr (some 1000000) :: st) (m_SH, f, g) = m_R (m_E d) 101 0 0 Q 489 [l0, l1, l2, l3] (.inl (f 1000000 i.toNatClampNeg) :: st) (m_SH, f, g) := m_rst rfl (m_xi_s hi)
set_option maxRecDepth 100000 in
theorem r101_489 {d : Nat} {Q : mQ} {l0 l1 l2 l3 : Option mV} {st : mS} {f : Nat → Nat → Int32} {g : Nat → Nat → Option Nat} {v0 : mV} {k : Nat} (hs1 : m_kn k = 0) (hs2 : m_ln k = 0) (hst : st.length ≤ 8) : m_R (m_E d) 101 0 0 Q 489 [l0, l1, l2, l3] (v0 :: .inr (some k) :: st) (m_SH, f, g) = m_E d 60 [.inr (some k), v0] (m_SH, f, g) (fun r w => m_R (m_E d) 101 0 0 Q 492 [l0, l1, l2, l3] (r.toList ++ st) w) := m_rcall (rest := st) rfl (if_pos ⟨⟨by show 1 ≤ List.length (v0 :: .inr (some k) :: st); simp only [List.length_cons]; omega, rfl, hst, fun _ => m_sho hs1 hs2⟩, m_lb1, m_lb2⟩)
set_option maxRecDepth 100000 in
theorem r101_492 {d : Nat} {Q : mQ} {l0 l1 l3 : Option mV} {st : mS} {f : Nat → Nat → Int32} {g : Nat → Nat → Option Nat} {x : Option Nat}  : m_R (m_E d) 101 0 0 Q 492 [l0, l1, some (.inr x), l3] st (m_SH, f, g) = m_R (m_E d) 101 0 0 Q 493 [l0, l1, some (.inr x), l3] (.inr x :: st) (m_SH, f, g) := m_rst rfl rfl
set_option maxRecDepth 100000 in
theorem r101_493 {d : Nat} {Q : mQ} {l1 l2 l3 : Option mV} {st : mS} {f : Nat → Nat → Int32} {g : Nat → Nat → Option Nat} {x : Option Nat}  : m_R (m_E d) 101 0 0 Q 493 [some (.inr x), l1, l2, l3] st (m_SH, f, g) = m_R (m_E d) 101 0 0 Q 494 [some (.inr x), l1, l2, l3] (.inr x :: st) (m_SH, f, g) := m_rst rfl rfl
set_option maxRecDepth 100000 in
theorem r101_494 {d : Nat} {Q : mQ} {l0 l1 l2 : Option mV} {st : mS} {f : Nat → Nat → Int32} {g : Nat → Nat → Option Nat} {x : Int32}  : m_R (m_E d) 101 0 0 Q 494 [l0, l1, l2, some (.inl x)] st (m_SH, f, g) = m_R (m_E d) 101 0 0 Q 495 [l0, l1, l2, some (.inl x)] (.inl x :: st) (m_SH, f, g) := m_rst rfl rfl
set_option maxRecDepth 100000 in
theorem r101_495 {d : Nat} {Q : mQ} {l0 l1 l2 l3 : Option mV} {st : mS} {f : Nat → Nat → Int32} {g : Nat → Nat → Option Nat}  : m_R (m_E d) 101 0 0 Q 495 [l0, l1, l2, l3] st (m_SH, f, g) = m_R (m_E d) 101 0 0 Q 496 [l0, l1, l2, l3] (.inl 1 :: st) (m_SH, f, g) := m_rst rfl rfl
set_option maxRecDepth 100000 in
theorem r101_496 {d : Nat} {Q : mQ} {l0 l1 l2 l3 : Option mV} {st : mS} {f : Nat → Nat → Int32} {g : Nat → Nat → Option Nat} {x y : Int32}  : m_R (m_E d) 101 0 0 Q 496 [l0, l1, l2, l3] (.inl y :: .inl x :: st) (m_SH, f, g) = m_R (m_E d) 101 0 0 Q 497 [l0, l1, l2, l3] (.inl (x + y) :: st) (m_SH, f, g) := m_rst rfl rfl
set_option maxRecDepth 100000 in
theorem r101_497 {d : Nat} {Q : mQ} {l0 l1 l2 l3 : Option mV} {st : mS} {f : Nat → Nat → Int32} {g : Nat → Nat → Option Nat} {i : Int32} (hi : vp_in i (f 1000001 0).toNatClampNeg) : m_R (m_E d) 101 0 0 Q 497 [l0, l1, l2, l3] (.inl i :: .inr (some 1000000) :: st) (m_SH, f, g) = m_R (m_E d) 101 0 0 Q 498 [l0, l1, l2, l3] (.inl (f 1000000 i.toNatClampNeg) :: st) (m_SH, f, g) := m_rst rfl (m_xi_s hi)
set_option maxRecDepth 100000 in
theorem r101_498 {d : Nat} {Q : mQ} {l0 l1 l2 l3 : Option mV} {st : mS} {f : Nat → Nat → Int32} {g : Nat → Nat → Option Nat} {v0 : mV} {k : Nat} (hs1 : m_kn k = 0) (hs2 : m_ln k = 6) (hst : st.length ≤ 8) : m_R (m_E d) 101 0 0 Q 498 [l0, l1, l2, l3] (v0 :: .inr (some k) :: st) (m_SH, f, g) = m_E d 99 [.inr (some k), v0] (m_SH, f, g) (fun r w => m_R (m_E d) 101 0 0 Q 501 [l0, l1, l2, l3] (r.toList ++ st) w) := m_rcall (rest := st) rfl (if_pos ⟨⟨by show 1 ≤ List.length (v0 :: .inr (some k) :: st); simp only [List.length_cons]; omega, rfl, hst, fun _ => m_sho hs1 hs2⟩, m_lb1, m_lb2⟩)
set_option maxRecDepth 100000 in
theorem r101_501 {d : Nat} {Q : mQ} {l0 l1 l2 l3 : Option mV} {st : mS} {f : Nat → Nat → Int32} {g : Nat → Nat → Option Nat} {x y : Int32}  : m_R (m_E d) 101 0 0 Q 501 [l0, l1, l2, l3] (.inl y :: .inl x :: st) (m_SH, f, g) = (if x = y then m_R (m_E d) 101 0 0 Q 529 [l0, l1, l2, l3] st (m_SH, f, g) else m_R (m_E d) 101 0 0 Q 504 [l0, l1, l2, l3] st (m_SH, f, g)) := m_rif rfl (o1 := some (.inl (529, [l0, l1, l2, l3], st, (m_SH, f, g)))) (o2 := some (.inl (504, [l0, l1, l2, l3], st, (m_SH, f, g)))) rfl
set_option maxRecDepth 100000 in
theorem r101_504 {d : Nat} {Q : mQ} {l0 l1 l2 l3 : Option mV} {st : mS} {f : Nat → Nat → Int32} {g : Nat → Nat → Option Nat}  : m_R (m_E d) 101 0 0 Q 504 [l0, l1, l2, l3] st (m_SH, f, g) = m_R (m_E d) 101 0 0 Q 505 [l0, l1, l2, l3] (.inl 0 :: st) (m_SH, f, g) := m_rst rfl rfl
set_option maxRecDepth 100000 in
theorem r101_505 {d : Nat} {Q : mQ} {l0 l1 l2 l3 : Option mV} {f : Nat → Nat → Int32} {g : Nat → Nat → Option Nat} {x : Int32} (hz : x = 0 ∨ x = 1) : m_R (m_E d) 101 0 0 Q 505 [l0, l1, l2, l3] [.inl x] (m_SH, f, g) = Q (some (.inl x)) (m_SH, f, g) := m_rret (i := .ireturn) rfl (m_st_ri.trans (m_ri2 (me := 101) (N := 0) (S := 0) (w := (m_SH, f, g)) rfl hz m_lrt))
set_option maxRecDepth 100000 in
theorem r101_506 {d : Nat} {Q : mQ} {l0 l2 l3 : Option mV} {st : mS} {f : Nat → Nat → Int32} {g : Nat → Nat → Option Nat} {x : Option Nat}  : m_R (m_E d) 101 0 0 Q 506 [l0, some (.inr x), l2, l3] st (m_SH, f, g) = m_R (m_E d) 101 0 0 Q 507 [l0, some (.inr x), l2, l3] (.inr x :: st) (m_SH, f, g) := m_rst rfl rfl
set_option maxRecDepth 100000 in
theorem r101_507 {d : Nat} {Q : mQ} {l1 l2 l3 : Option mV} {st : mS} {f : Nat → Nat → Int32} {g : Nat → Nat → Option Nat} {x : Option Nat}  : m_R (m_E d) 101 0 0 Q 507 [some (.inr x), l1, l2, l3] st (m_SH, f, g) = m_R (m_E d) 101 0 0 Q 508 [some (.inr x), l1, l2, l3] (.inr x :: st) (m_SH, f, g) := m_rst rfl rfl
set_option maxRecDepth 100000 in
theorem r101_508 {d : Nat} {Q : mQ} {l0 l1 l2 : Option mV} {st : mS} {f : Nat → Nat → Int32} {g : Nat → Nat → Option Nat} {x : Int32}  : m_R (m_E d) 101 0 0 Q 508 [l0, l1, l2, some (.inl x)] st (m_SH, f, g) = m_R (m_E d) 101 0 0 Q 509 [l0, l1, l2, some (.inl x)] (.inl x :: st) (m_SH, f, g) := m_rst rfl rfl
set_option maxRecDepth 100000 in
theorem r101_509 {d : Nat} {Q : mQ} {l0 l1 l2 l3 : Option mV} {st : mS} {f : Nat → Nat → Int32} {g : Nat → Nat → Option Nat}  : m_R (m_E d) 101 0 0 Q 509 [l0, l1, l2, l3] st (m_SH, f, g) = m_R (m_E d) 101 0 0 Q 510 [l0, l1, l2, l3] (.inl 1 :: st) (m_SH, f, g) := m_rst rfl rfl
set_option maxRecDepth 100000 in
theorem r101_510 {d : Nat} {Q : mQ} {l0 l1 l2 l3 : Option mV} {st : mS} {f : Nat → Nat → Int32} {g : Nat → Nat → Option Nat} {x y : Int32}  : m_R (m_E d) 101 0 0 Q 510 [l0, l1, l2, l3] (.inl y :: .inl x :: st) (m_SH, f, g) = m_R (m_E d) 101 0 0 Q 511 [l0, l1, l2, l3] (.inl (x + y) :: st) (m_SH, f, g) := m_rst rfl rfl
set_option maxRecDepth 100000 in
theorem r101_511 {d : Nat} {Q : mQ} {l0 l1 l2 l3 : Option mV} {st : mS} {f : Nat → Nat → Int32} {g : Nat → Nat → Option Nat} {i : Int32} (hi : vp_in i (f 1000001 0).toNatClampNeg) : m_R (m_E d) 101 0 0 Q 511 [l0, l1, l2, l3] (.inl i :: .inr (some 1000000) :: st) (m_SH, f, g) = m_R (m_E d) 101 0 0 Q 512 [l0, l1, l2, l3] (.inl (f 1000000 i.toNatClampNeg) :: st) (m_SH, f, g) := m_rst rfl (m_xi_s hi)
set_option maxRecDepth 100000 in
theorem r101_512 {d : Nat} {Q : mQ} {l0 l1 l2 l3 : Option mV} {st : mS} {f : Nat → Nat → Int32} {g : Nat → Nat → Option Nat} {v0 : mV} {k : Nat} (hs1 : m_kn k = 0) (hs2 : m_ln k = 0) (hst : st.length ≤ 8) : m_R (m_E d) 101 0 0 Q 512 [l0, l1, l2, l3] (v0 :: .inr (some k) :: st) (m_SH, f, g) = m_E d 61 [.inr (some k), v0] (m_SH, f, g) (fun r w => m_R (m_E d) 101 0 0 Q 515 [l0, l1, l2, l3] (r.toList ++ st) w) := m_rcall (rest := st) rfl (if_pos ⟨⟨by show 1 ≤ List.length (v0 :: .inr (some k) :: st); simp only [List.length_cons]; omega, rfl, hst, fun _ => m_sho hs1 hs2⟩, m_lb1, m_lb2⟩)
set_option maxRecDepth 100000 in
theorem r101_515 {d : Nat} {Q : mQ} {l0 l1 l3 : Option mV} {st : mS} {f : Nat → Nat → Int32} {g : Nat → Nat → Option Nat} {x : Option Nat}  : m_R (m_E d) 101 0 0 Q 515 [l0, l1, some (.inr x), l3] st (m_SH, f, g) = m_R (m_E d) 101 0 0 Q 516 [l0, l1, some (.inr x), l3] (.inr x :: st) (m_SH, f, g) := m_rst rfl rfl
set_option maxRecDepth 100000 in
theorem r101_516 {d : Nat} {Q : mQ} {l1 l2 l3 : Option mV} {st : mS} {f : Nat → Nat → Int32} {g : Nat → Nat → Option Nat} {x : Option Nat}  : m_R (m_E d) 101 0 0 Q 516 [some (.inr x), l1, l2, l3] st (m_SH, f, g) = m_R (m_E d) 101 0 0 Q 517 [some (.inr x), l1, l2, l3] (.inr x :: st) (m_SH, f, g) := m_rst rfl rfl
set_option maxRecDepth 100000 in
theorem r101_517 {d : Nat} {Q : mQ} {l0 l1 l2 : Option mV} {st : mS} {f : Nat → Nat → Int32} {g : Nat → Nat → Option Nat} {x : Int32}  : m_R (m_E d) 101 0 0 Q 517 [l0, l1, l2, some (.inl x)] st (m_SH, f, g) = m_R (m_E d) 101 0 0 Q 518 [l0, l1, l2, some (.inl x)] (.inl x :: st) (m_SH, f, g) := m_rst rfl rfl
set_option maxRecDepth 100000 in
theorem r101_518 {d : Nat} {Q : mQ} {l0 l1 l2 l3 : Option mV} {st : mS} {f : Nat → Nat → Int32} {g : Nat → Nat → Option Nat}  : m_R (m_E d) 101 0 0 Q 518 [l0, l1, l2, l3] st (m_SH, f, g) = m_R (m_E d) 101 0 0 Q 519 [l0, l1, l2, l3] (.inl 1 :: st) (m_SH, f, g) := m_rst rfl rfl
set_option maxRecDepth 100000 in
theorem r101_519 {d : Nat} {Q : mQ} {l0 l1 l2 l3 : Option mV} {st : mS} {f : Nat → Nat → Int32} {g : Nat → Nat → Option Nat} {x y : Int32}  : m_R (m_E d) 101 0 0 Q 519 [l0, l1, l2, l3] (.inl y :: .inl x :: st) (m_SH, f, g) = m_R (m_E d) 101 0 0 Q 520 [l0, l1, l2, l3] (.inl (x + y) :: st) (m_SH, f, g) := m_rst rfl rfl
set_option maxRecDepth 100000 in
theorem r101_520 {d : Nat} {Q : mQ} {l0 l1 l2 l3 : Option mV} {st : mS} {f : Nat → Nat → Int32} {g : Nat → Nat → Option Nat} {i : Int32} (hi : vp_in i (f 1000001 0).toNatClampNeg) : m_R (m_E d) 101 0 0 Q 520 [l0, l1, l2, l3] (.inl i :: .inr (some 1000000) :: st) (m_SH, f, g) = m_R (m_E d) 101 0 0 Q 521 [l0, l1, l2, l3] (.inl (f 1000000 i.toNatClampNeg) :: st) (m_SH, f, g) := m_rst rfl (m_xi_s hi)
set_option maxRecDepth 100000 in
theorem r101_521 {d : Nat} {Q : mQ} {l0 l1 l2 l3 : Option mV} {st : mS} {f : Nat → Nat → Int32} {g : Nat → Nat → Option Nat} {v0 : mV} {k : Nat} (hs1 : m_kn k = 0) (hs2 : m_ln k = 6) (hst : st.length ≤ 8) : m_R (m_E d) 101 0 0 Q 521 [l0, l1, l2, l3] (v0 :: .inr (some k) :: st) (m_SH, f, g) = m_E d 100 [.inr (some k), v0] (m_SH, f, g) (fun r w => m_R (m_E d) 101 0 0 Q 524 [l0, l1, l2, l3] (r.toList ++ st) w) := m_rcall (rest := st) rfl (if_pos ⟨⟨by show 1 ≤ List.length (v0 :: .inr (some k) :: st); simp only [List.length_cons]; omega, rfl, hst, fun _ => m_sho hs1 hs2⟩, m_lb1, m_lb2⟩)
set_option maxRecDepth 100000 in
theorem r101_524 {d : Nat} {Q : mQ} {l0 l1 l2 l3 : Option mV} {st : mS} {f : Nat → Nat → Int32} {g : Nat → Nat → Option Nat} {x y : Int32}  : m_R (m_E d) 101 0 0 Q 524 [l0, l1, l2, l3] (.inl y :: .inl x :: st) (m_SH, f, g) = (if x = y then m_R (m_E d) 101 0 0 Q 529 [l0, l1, l2, l3] st (m_SH, f, g) else m_R (m_E d) 101 0 0 Q 527 [l0, l1, l2, l3] st (m_SH, f, g)) := m_rif rfl (o1 := some (.inl (529, [l0, l1, l2, l3], st, (m_SH, f, g)))) (o2 := some (.inl (527, [l0, l1, l2, l3], st, (m_SH, f, g)))) rfl
set_option maxRecDepth 100000 in
theorem r101_527 {d : Nat} {Q : mQ} {l0 l1 l2 l3 : Option mV} {st : mS} {f : Nat → Nat → Int32} {g : Nat → Nat → Option Nat}  : m_R (m_E d) 101 0 0 Q 527 [l0, l1, l2, l3] st (m_SH, f, g) = m_R (m_E d) 101 0 0 Q 528 [l0, l1, l2, l3] (.inl 0 :: st) (m_SH, f, g) := m_rst rfl rfl
set_option maxRecDepth 100000 in
theorem r101_528 {d : Nat} {Q : mQ} {l0 l1 l2 l3 : Option mV} {f : Nat → Nat → Int32} {g : Nat → Nat → Option Nat} {x : Int32} (hz : x = 0 ∨ x = 1) : m_R (m_E d) 101 0 0 Q 528 [l0, l1, l2, l3] [.inl x] (m_SH, f, g) = Q (some (.inl x)) (m_SH, f, g) := m_rret (i := .ireturn) rfl (m_st_ri.trans (m_ri2 (me := 101) (N := 0) (S := 0) (w := (m_SH, f, g)) rfl hz m_lrt))
set_option maxRecDepth 100000 in
theorem r101_529 {d : Nat} {Q : mQ} {l0 l1 l2 : Option mV} {st : mS} {f : Nat → Nat → Int32} {g : Nat → Nat → Option Nat} {x : Int32}  : m_R (m_E d) 101 0 0 Q 529 [l0, l1, l2, some (.inl x)] st (m_SH, f, g) = m_R (m_E d) 101 0 0 Q 532 [l0, l1, l2, some (.inl (x + 5))] st (m_SH, f, g) := m_rst rfl rfl
set_option maxRecDepth 100000 in
theorem r101_532 {d : Nat} {Q : mQ} {l0 l1 l2 l3 : Option mV} {st : mS} {f : Nat → Nat → Int32} {g : Nat → Nat → Option Nat}  : m_R (m_E d) 101 0 0 Q 532 [l0, l1, l2, l3] st (m_SH, f, g) = m_R (m_E d) 101 0 0 Q 18 [l0, l1, l2, l3] st (m_SH, f, g) := m_rst rfl rfl
set_option maxRecDepth 100000 in
theorem r101_535 {d : Nat} {Q : mQ} {l0 l1 l2 l3 : Option mV} {st : mS} {f : Nat → Nat → Int32} {g : Nat → Nat → Option Nat}  : m_R (m_E d) 101 0 0 Q 535 [l0, l1, l2, l3] st (m_SH, f, g) = m_R (m_E d) 101 0 0 Q 536 [l0, l1, l2, l3] (.inl 1 :: st) (m_SH, f, g) := m_rst rfl rfl
set_option maxRecDepth 100000 in
theorem r101_536 {d : Nat} {Q : mQ} {l0 l1 l2 l3 : Option mV} {f : Nat → Nat → Int32} {g : Nat → Nat → Option Nat} {x : Int32} (hz : x = 0 ∨ x = 1) : m_R (m_E d) 101 0 0 Q 536 [l0, l1, l2, l3] [.inl x] (m_SH, f, g) = Q (some (.inl x)) (m_SH, f, g) := m_rret (i := .ireturn) rfl (m_st_ri.trans (m_ri2 (me := 101) (N := 0) (S := 0) (w := (m_SH, f, g)) rfl hz m_lrt))
