/-! rows of the small machine over the world of both objects: shapes m_SH -/
def m_SH : List (Nat × Nat) := [(0, 0), (0, 1), (1, 16), (3, 10), (1, 4), (4, 10), (0, 2), (1, 3), (2, 3), (1, 8), (1, 8), (1, 8), (0, 4), (0, 3), (1, 4), (2, 4), (2, 4), (2, 4), (1, 8), (2, 8), (1, 4), (2, 4), (0, 2), (1, 3), (2, 3), (1, 8), (1, 8), (1, 8), (0, 4), (0, 3), (1, 4), (2, 4), (2, 4), (2, 4), (1, 8), (2, 8), (1, 4), (2, 4), (0, 2), (1, 3), (2, 3), (1, 8), (1, 8), (1, 8), (0, 4), (0, 3), (1, 4), (2, 4), (2, 4), (2, 4), (1, 8), (2, 8), (1, 4), (2, 4), (0, 2), (1, 3), (2, 3), (1, 8), (1, 8), (1, 8), (0, 4), (0, 3), (1, 4), (2, 4), (2, 4), (2, 4), (1, 8), (2, 8), (1, 4), (2, 4), (0, 2), (1, 3), (2, 3), (1, 8), (1, 8), (1, 8), (0, 4), (0, 3), (1, 4), (2, 4), (2, 4), (2, 4), (1, 8), (2, 8), (1, 4), (2, 4), (0, 2), (1, 3), (2, 3), (1, 8), (1, 8), (1, 8), (0, 4), (0, 3), (1, 4), (2, 4), (2, 4), (2, 4), (1, 8), (2, 8), (1, 4), (2, 4), (0, 2), (1, 3), (2, 3), (1, 8), (1, 8), (1, 8), (0, 4), (0, 3), (1, 4), (2, 4), (2, 4), (2, 4), (1, 8), (2, 8), (1, 4), (2, 4), (0, 2), (1, 3), (2, 3), (1, 8), (1, 8), (1, 8), (0, 4), (0, 3), (1, 4), (2, 4), (2, 4), (2, 4), (1, 8), (2, 8), (1, 4), (2, 4), (0, 2), (1, 3), (2, 3), (1, 8), (1, 8), (1, 8), (0, 4), (0, 3), (1, 4), (2, 4), (2, 4), (2, 4), (1, 8), (2, 8), (1, 4), (2, 4), (0, 2), (1, 3), (2, 3), (1, 8), (1, 8), (1, 8), (0, 4), (0, 3), (1, 4), (2, 4), (2, 4), (2, 4), (1, 8), (2, 8), (1, 4), (2, 4), (0, 5), (1, 128), (1, 128), (1, 4), (0, 6), (1, 16), (1, 10), (1, 10), (1, 30), (2, 30), (1, 10), (1, 80), (1, 80), (1, 80), (1, 4), (1, 4), (1, 128), (1, 128), (1, 10), (1, 10), (1, 10), (1, 10), (1, 10), (2, 10), (2, 40), (1, 40), (2, 10), (2, 40), (1, 40), (2, 40), (2, 40), (2, 10), (1, 10), (1, 80), (2, 80)]
def m_kn (k : Nat) : Nat := (m_SH.getD k (9, 0)).1
def m_ln (k : Nat) : Nat := (m_SH.getD k (9, 0)).2
theorem m_shk {k t : Nat} (h : m_kn k = t) (h9 : t ≠ 9) : m_SH[k]? = some (t, m_ln k) := by
  unfold m_kn at h
  unfold m_ln
  rw [List.getD_eq_getElem?_getD] at h ⊢
  cases hk : m_SH[k]? with
  | none => rw [hk] at h; exact absurd h.symm h9
  | some q =>
    rw [hk] at h
    obtain ⟨a, b⟩ := q
    have h : a = t := h
    subst h
    rfl
theorem m_sho {k c : Nat} (h1 : m_kn k = 0) (h2 : m_ln k = c) : m_SH[k]? = some (0, c) := by
  rw [m_shk h1 (by decide), h2]
theorem m_b0 {i a b : Nat} (h : m_bg i = (0, 0)) : a = a + (m_bg i).1 ∧ b = b + (m_bg i).2 := by
  rw [h]
  exact ⟨rfl, rfl⟩
theorem m_ri1 {me N S : Nat} {x : Int32} {w : mW} (h : m_rt me = 1) (h2 : w.1.length = N + (m_bg me).1 ∧ m_sl w.1 = S + (m_bg me).2) : m_ri me N S [.inl x] w = some (.inr (.inl (some (.inl x)))) := if_pos ⟨Or.inl h, h2⟩
theorem m_ri2 {me N S : Nat} {x : Int32} {w : mW} (h : m_rt me = 2) (hz : x = 0 ∨ x = 1) (h2 : w.1.length = N + (m_bg me).1 ∧ m_sl w.1 = S + (m_bg me).2) : m_ri me N S [.inl x] w = some (.inr (.inl (some (.inl x)))) := if_pos ⟨Or.inr ⟨h, hz⟩, h2⟩
theorem m_rv0 {me N S : Nat} {w : mW} (h : m_rt me = 0) (h2 : w.1.length = N + (m_bg me).1 ∧ m_sl w.1 = S + (m_bg me).2) : m_rv me N S [] w = some (.inr (.inl none)) := if_pos ⟨h, h2⟩
theorem m_st_ri {me N S pc : Nat} {ls : mL} {st : mS} {w : mW} : m_st me N S pc ls st w .ireturn = m_ri me N S st w := rfl
theorem m_st_rv {me N S pc : Nat} {ls : mL} {st : mS} {w : mW} : m_st me N S pc ls st w .return_ = m_rv me N S st w := rfl
section RW
variable {d me pc : Nat} {Q : mQ} {ls : mL} {st : mS} {w w' : mW} {N S : Nat} {i : Jvm.ClassFile.Instr}
theorem m_rst {pc' : Nat} {ls' : mL} {st' : mS} (hi : m_tb me pc = some i) (ho : m_st me N S pc ls st w i = some (.inl (pc', ls', st', w'))) : m_R (m_E d) me N S Q pc ls st w = m_R (m_E d) me N S Q pc' ls' st' w' := by
  rw [m_R_eq (m_E_mono d)]
  unfold m_F
  rw [hi]
  show m_A _ _ _ _ _ _ (m_st me N S pc ls st w i) = _
  rw [ho]
  rfl
theorem m_rif {P : Prop} [Decidable P] {o1 o2 : Option mO} (hi : m_tb me pc = some i) (ho : m_st me N S pc ls st w i = if P then o1 else o2) : m_R (m_E d) me N S Q pc ls st w = (if P then m_A (m_E d) (m_R (m_E d) me N S Q) Q pc ls w o1 else m_A (m_E d) (m_R (m_E d) me N S Q) Q pc ls w o2) := by
  rw [m_R_eq (m_E_mono d)]
  unfold m_F
  rw [hi]
  show m_A _ _ _ _ _ _ (m_st me N S pc ls st w i) = _
  rw [ho]
  by_cases h : P
  · rw [if_pos h, if_pos h]
  · rw [if_neg h, if_neg h]
theorem m_rret {v : Option mV} (hi : m_tb me pc = some i) (ho : m_st me N S pc ls st w i = some (.inr (.inl v))) : m_R (m_E d) me N S Q pc ls st w = Q v w := by
  rw [m_R_eq (m_E_mono d)]
  unfold m_F
  rw [hi]
  show m_A _ _ _ _ _ _ (m_st me N S pc ls st w i) = _
  rw [ho]
  rfl
theorem m_rcall {y : Nat} {as : List mV} {rest : mS} (hi : m_tb me pc = some i) (ho : m_st me N S pc ls st w i = some (.inr (.inr (y, as, rest)))) : m_R (m_E d) me N S Q pc ls st w = m_E d y as w (fun r w' => m_R (m_E d) me N S Q (pc + 3) ls (r.toList ++ rest) w') := by
  rw [m_R_eq (m_E_mono d)]
  unfold m_F
  rw [hi]
  show m_A _ _ _ _ _ _ (m_st me N S pc ls st w i) = _
  rw [ho]
  rfl
end RW
theorem m_lkd {z : Int} {c : Prop} [Decidable c] {t : Nat} {o : Option mO} {ls : mL} {st : mS} {w : mW} (hc : c) (h : z = (t : Int)) : (if c then m_nx z ls st w else o) = some (.inl (t, ls, st, w)) := by
  rw [if_pos hc, m_nx_of h]
  rfl
theorem m_st_lk {me N S pc t : Nat} {ls : mL} {st : mS} {w : mW} {df o : Int} {ps : Array (Int × Int)} {x : Int32} (hp : (ps.toList.zip (ps.toList.drop 1)).all (fun q => decide (q.1.1 < q.2.1)) = true) (ho : Op.lookupswitch.offset ps.toList df x.toInt = o) (ht : (pc : Int) + o = (t : Int)) : m_st me N S pc ls (.inl x :: st) w (.lookupswitch df ps) = some (.inl (t, ls, st, w)) := by
  show (if (ps.toList.zip (ps.toList.drop 1)).all (fun q => decide (q.1.1 < q.2.1)) = true then m_nx ((pc : Int) + Op.lookupswitch.offset ps.toList df x.toInt) ls st w else none) = _
  rw [if_pos hp, ho]
  exact m_nx_of ht
section RX
variable {pc k : Nat} {ls : mL} {st : mS} {f : Nat → Nat → Int32} {g : Nat → Nat → Option Nat} {i x : Int32}
theorem m_xi_of (hs : m_kn k = 1) (hi : vp_in i (m_ln k)) : m_xi pc ls (.inl i :: .inr (some k) :: st) (m_SH, f, g) = some (.inl (pc, ls, .inl (f k i.toNatClampNeg) :: st, (m_SH, f, g))) := by
  unfold m_xi
  simp only [m_shk hs (by decide)]
  rw [if_pos ⟨trivial, hi⟩]
  rfl
theorem m_xb_of (hs : m_kn k = 2) (hi : vp_in i (m_ln k)) : m_xb pc ls (.inl i :: .inr (some k) :: st) (m_SH, f, g) = some (.inl (pc, ls, .inl (f k i.toNatClampNeg) :: st, (m_SH, f, g))) := by
  unfold m_xb
  simp only [m_shk hs (by decide)]
  rw [if_pos ⟨trivial, hi⟩]
  rfl
theorem m_xa_of (hs : m_kn k = 3 ∨ m_kn k = 4) (hi : vp_in i (m_ln k)) : m_xa pc ls (.inl i :: .inr (some k) :: st) (m_SH, f, g) = some (.inl (pc, ls, .inr (g k i.toNatClampNeg) :: st, (m_SH, f, g))) := by
  unfold m_xa
  rcases hs with hs | hs
  · simp only [m_shk hs (by decide)]
    rw [if_pos ⟨Or.inl trivial, hi⟩]
    rfl
  · simp only [m_shk hs (by decide)]
    rw [if_pos ⟨Or.inr trivial, hi⟩]
    rfl
theorem m_yi_of (hs : m_kn k = 1) (hi : vp_in i (m_ln k)) : m_yi pc ls (.inl x :: .inl i :: .inr (some k) :: st) (m_SH, f, g) = some (.inl (pc, ls, st, (m_SH, m_si f k i.toNatClampNeg x, g))) := by
  unfold m_yi
  simp only [m_shk hs (by decide)]
  rw [if_pos ⟨trivial, hi⟩]
  rfl
theorem m_yb_of (hs : m_kn k = 2) (hz : x = 0 ∨ x = 1) (hi : vp_in i (m_ln k)) : m_yb pc ls (.inl x :: .inl i :: .inr (some k) :: st) (m_SH, f, g) = some (.inl (pc, ls, st, (m_SH, m_si f k i.toNatClampNeg x, g))) := by
  unfold m_yb
  simp only [m_shk hs (by decide)]
  rw [if_pos ⟨⟨trivial, hz⟩, hi⟩]
  rfl
end RX
