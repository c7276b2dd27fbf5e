/-! facts of the tables: printed by wip/whole/gen_names2.py -/
theorem m_look {α : Type} {l : List (Nat × α)} {k : Nat} {v : α} (h : l.lookup k = some v) : (k, v) ∈ l := by
  induction l with
  | nil => cases h
  | cons a l ih =>
    obtain ⟨k', v'⟩ := a
    rw [List.lookup_cons] at h
    by_cases hk : k = k'
    · subst hk
      simp at h
      subst h
      exact List.mem_cons_self
    · rw [show (k == k') = false from by simp [hk]] at h
      exact List.mem_cons_of_mem _ (ih h)
theorem m_getD {α : Type} {l : List α} {d : α} {k : Nat} (P : α → Prop) (h : ∀ a ∈ l, P a) (hd : P d) : P (l.getD k d) := by
  rw [List.getD_eq_getElem?_getD]
  cases hk : l[k]? with
  | none => exact hd
  | some a => exact h a (List.mem_of_getElem? hk)
theorem m_wsin {ws : List Cond} (ps : List Nat) (h : ws = ps.filterMap (fun i => lw_tbl[i]?)) (hg : ws.all goodWord = true) : ∀ x ∈ ws, x ∈ m_W0 := by
  intro x hx
  have h1 := List.all_eq_true.mp hg x hx
  rw [h] at hx
  obtain ⟨i, -, hi⟩ := List.mem_filterMap.mp hx
  exact m_w i hi h1
theorem m_pl (y : Nat) : plainName (m_mn y).cls = true := m_getD (fun a : MethodName => plainName a.cls = true) (by decide +kernel) (by decide +kernel)
theorem m_occ {y : Nat} (h : m_oc y ≠ 9) : m_on y = m_cn (m_oc y) := by
  by_cases hy : y < 102
  · have h1 : ∀ y, y < 102 → m_oc y ≠ 9 → m_on y = m_cn (m_oc y) := by decide +kernel
    exact h1 y hy h
  · exact absurd (by unfold m_oc; rw [List.getD_eq_getElem?_getD, List.getElem?_eq_none (by simp only [List.length_cons, List.length_nil]; omega)]; rfl) h
theorem m_wi : Cond.arrayClass (newarray.typeOf .int) ∈ m_W0 := m_w 96 (by decide +kernel) rfl
theorem m_wz : Cond.arrayClass (newarray.typeOf .boolean) ∈ m_W0 := m_w 135 (by decide +kernel) rfl
theorem m_ff0 : m_ff 0 "PropagationDesk" mT0 8 mTy0 := ⟨rfl, rfl, m_wsin [239, 241, 243, 245, 247, 249, 251, 253] (by decide +kernel) (by decide +kernel), by decide +kernel, by decide +kernel, by decide +kernel⟩
theorem m_ff1 : m_ff 1 "PropagationDesk$Kinds" mT1 2 mTy1 := ⟨rfl, rfl, m_wsin [91, 93] (by decide +kernel) (by decide +kernel), by decide +kernel, by decide +kernel, by decide +kernel⟩
theorem m_ff2 : m_ff 2 "PropagationDesk$Plan" mT2 8 mTy2 := ⟨rfl, rfl, m_wsin [118, 120, 122, 124, 126, 128, 130, 132] (by decide +kernel) (by decide +kernel), by decide +kernel, by decide +kernel, by decide +kernel⟩
theorem m_ff3 : m_ff 3 "PropagationDesk$Transaction" mT3 8 mTy3 := ⟨rfl, rfl, m_wsin [164, 166, 168, 170, 172, 174, 176, 178] (by decide +kernel) (by decide +kernel), by decide +kernel, by decide +kernel, by decide +kernel⟩
theorem m_ff4 : m_ff 4 "PropagationDesk$Frame" mT4 8 mTy4 := ⟨rfl, rfl, m_wsin [195, 197, 199, 201, 203, 205, 207, 209] (by decide +kernel) (by decide +kernel), by decide +kernel, by decide +kernel, by decide +kernel⟩
theorem m_ff5 : m_ff 5 "PropagationDesk$Journal" mT5 3 mTy5 := ⟨rfl, rfl, m_wsin [224, 226, 228] (by decide +kernel) (by decide +kernel), by decide +kernel, by decide +kernel, by decide +kernel⟩
theorem m_ff6 : m_ff 6 "PropagationDeskModel" mT6 37 mTy6 := ⟨rfl, rfl, m_wsin [521, 523, 525, 527, 529, 531, 533, 535, 537, 539, 541, 543, 545, 547, 549, 551, 553, 555, 557, 559, 561, 563, 565, 567, 569, 571, 573, 575, 577, 579, 581, 583, 585, 587, 589, 591, 593] (by decide +kernel) (by decide +kernel), by decide +kernel, by decide +kernel, by decide +kernel⟩
def m_flq (c : Nat) (e : Nat × Nat × Nat) : Prop := ∃ C T N ty, m_ff e.2.1 C T N ty ∧ e.2.2 < N ∧ Cond.fieldLink (m_cn c) e.1 (T e.2.2).1 (T e.2.2).2.1 (T e.2.2).2.2.1 ∈ m_W0
theorem m_fl0_10 : m_flq 0 (10, 0, 0) := ⟨_, _, _, _, m_ff0, by decide, m_w 231 (by decide +kernel) (by decide +kernel)⟩
theorem m_fl0_18 : m_flq 0 (18, 0, 1) := ⟨_, _, _, _, m_ff0, by decide, m_w 232 (by decide +kernel) (by decide +kernel)⟩
theorem m_fl0_22 : m_flq 0 (22, 0, 3) := ⟨_, _, _, _, m_ff0, by decide, m_w 234 (by decide +kernel) (by decide +kernel)⟩
theorem m_fl0_28 : m_flq 0 (28, 0, 4) := ⟨_, _, _, _, m_ff0, by decide, m_w 235 (by decide +kernel) (by decide +kernel)⟩
theorem m_fl0_37 : m_flq 0 (37, 0, 5) := ⟨_, _, _, _, m_ff0, by decide, m_w 236 (by decide +kernel) (by decide +kernel)⟩
theorem m_fl0_41 : m_flq 0 (41, 0, 6) := ⟨_, _, _, _, m_ff0, by decide, m_w 237 (by decide +kernel) (by decide +kernel)⟩
theorem m_fl0_52 : m_flq 0 (52, 0, 2) := ⟨_, _, _, _, m_ff0, by decide, m_w 233 (by decide +kernel) (by decide +kernel)⟩
theorem m_fl0_56 : m_flq 0 (56, 2, 0) := ⟨_, _, _, _, m_ff2, by decide, m_w 106 (by decide +kernel) (by decide +kernel)⟩
theorem m_fl0_77 : m_flq 0 (77, 0, 7) := ⟨_, _, _, _, m_ff0, by decide, m_w 238 (by decide +kernel) (by decide +kernel)⟩
theorem m_fl0_95 : m_flq 0 (95, 5, 2) := ⟨_, _, _, _, m_ff5, by decide, m_w 223 (by decide +kernel) (by decide +kernel)⟩
theorem m_fl0_101 : m_flq 0 (101, 5, 0) := ⟨_, _, _, _, m_ff5, by decide, m_w 219 (by decide +kernel) (by decide +kernel)⟩
theorem m_fl0_104 : m_flq 0 (104, 5, 1) := ⟨_, _, _, _, m_ff5, by decide, m_w 221 (by decide +kernel) (by decide +kernel)⟩
theorem m_fl0_107 : m_flq 0 (107, 1, 1) := ⟨_, _, _, _, m_ff1, by decide, m_w 90 (by decide +kernel) (by decide +kernel)⟩
theorem m_fl0_114 : m_flq 0 (114, 2, 7) := ⟨_, _, _, _, m_ff2, by decide, m_w 117 (by decide +kernel) (by decide +kernel)⟩
theorem m_fl0_117 : m_flq 0 (117, 2, 4) := ⟨_, _, _, _, m_ff2, by decide, m_w 111 (by decide +kernel) (by decide +kernel)⟩
theorem m_fl0_120 : m_flq 0 (120, 2, 5) := ⟨_, _, _, _, m_ff2, by decide, m_w 113 (by decide +kernel) (by decide +kernel)⟩
theorem m_fl0_123 : m_flq 0 (123, 2, 6) := ⟨_, _, _, _, m_ff2, by decide, m_w 115 (by decide +kernel) (by decide +kernel)⟩
theorem m_fl0_146 : m_flq 0 (146, 4, 2) := ⟨_, _, _, _, m_ff4, by decide, m_w 186 (by decide +kernel) (by decide +kernel)⟩
theorem m_fl0_154 : m_flq 0 (154, 4, 3) := ⟨_, _, _, _, m_ff4, by decide, m_w 188 (by decide +kernel) (by decide +kernel)⟩
theorem m_fl0_157 : m_flq 0 (157, 4, 1) := ⟨_, _, _, _, m_ff4, by decide, m_w 184 (by decide +kernel) (by decide +kernel)⟩
theorem m_fl0_160 : m_flq 0 (160, 4, 0) := ⟨_, _, _, _, m_ff4, by decide, m_w 182 (by decide +kernel) (by decide +kernel)⟩
theorem m_fl0_166 : m_flq 0 (166, 4, 4) := ⟨_, _, _, _, m_ff4, by decide, m_w 190 (by decide +kernel) (by decide +kernel)⟩
theorem m_fl0_178 : m_flq 0 (178, 3, 7) := ⟨_, _, _, _, m_ff3, by decide, m_w 163 (by decide +kernel) (by decide +kernel)⟩
theorem m_fl0_181 : m_flq 0 (181, 4, 7) := ⟨_, _, _, _, m_ff4, by decide, m_w 194 (by decide +kernel) (by decide +kernel)⟩
theorem m_fl0_197 : m_flq 0 (197, 3, 6) := ⟨_, _, _, _, m_ff3, by decide, m_w 160 (by decide +kernel) (by decide +kernel)⟩
theorem m_fl0_200 : m_flq 0 (200, 3, 4) := ⟨_, _, _, _, m_ff3, by decide, m_w 156 (by decide +kernel) (by decide +kernel)⟩
theorem m_fl0_207 : m_flq 0 (207, 3, 5) := ⟨_, _, _, _, m_ff3, by decide, m_w 158 (by decide +kernel) (by decide +kernel)⟩
theorem m_fl0_241 : m_flq 0 (241, 3, 2) := ⟨_, _, _, _, m_ff3, by decide, m_w 152 (by decide +kernel) (by decide +kernel)⟩
theorem m_fl0_248 : m_flq 0 (248, 3, 3) := ⟨_, _, _, _, m_ff3, by decide, m_w 154 (by decide +kernel) (by decide +kernel)⟩
theorem m_fls0 : ∀ e ∈ m_fls.getD 0 [], m_flq 0 e := List.forall_mem_cons.mpr ⟨m_fl0_10, List.forall_mem_cons.mpr ⟨m_fl0_18, List.forall_mem_cons.mpr ⟨m_fl0_22, List.forall_mem_cons.mpr ⟨m_fl0_28, List.forall_mem_cons.mpr ⟨m_fl0_37, List.forall_mem_cons.mpr ⟨m_fl0_41, List.forall_mem_cons.mpr ⟨m_fl0_52, List.forall_mem_cons.mpr ⟨m_fl0_56, List.forall_mem_cons.mpr ⟨m_fl0_77, List.forall_mem_cons.mpr ⟨m_fl0_95, List.forall_mem_cons.mpr ⟨m_fl0_101, List.forall_mem_cons.mpr ⟨m_fl0_104, List.forall_mem_cons.mpr ⟨m_fl0_107, List.forall_mem_cons.mpr ⟨m_fl0_114, List.forall_mem_cons.mpr ⟨m_fl0_117, List.forall_mem_cons.mpr ⟨m_fl0_120, List.forall_mem_cons.mpr ⟨m_fl0_123, List.forall_mem_cons.mpr ⟨m_fl0_146, List.forall_mem_cons.mpr ⟨m_fl0_154, List.forall_mem_cons.mpr ⟨m_fl0_157, List.forall_mem_cons.mpr ⟨m_fl0_160, List.forall_mem_cons.mpr ⟨m_fl0_166, List.forall_mem_cons.mpr ⟨m_fl0_178, List.forall_mem_cons.mpr ⟨m_fl0_181, List.forall_mem_cons.mpr ⟨m_fl0_197, List.forall_mem_cons.mpr ⟨m_fl0_200, List.forall_mem_cons.mpr ⟨m_fl0_207, List.forall_mem_cons.mpr ⟨m_fl0_241, List.forall_mem_cons.mpr ⟨m_fl0_248, fun _ h => absurd h List.not_mem_nil⟩⟩⟩⟩⟩⟩⟩⟩⟩⟩⟩⟩⟩⟩⟩⟩⟩⟩⟩⟩⟩⟩⟩⟩⟩⟩⟩⟩⟩
theorem m_fl1_19 : m_flq 1 (19, 1, 0) := ⟨_, _, _, _, m_ff1, by decide, m_w 88 (by decide +kernel) (by decide +kernel)⟩
theorem m_fl1_24 : m_flq 1 (24, 1, 1) := ⟨_, _, _, _, m_ff1, by decide, m_w 89 (by decide +kernel) (by decide +kernel)⟩
theorem m_fls1 : ∀ e ∈ m_fls.getD 1 [], m_flq 1 e := List.forall_mem_cons.mpr ⟨m_fl1_19, List.forall_mem_cons.mpr ⟨m_fl1_24, fun _ h => absurd h List.not_mem_nil⟩⟩
theorem m_fl2_9 : m_flq 2 (9, 2, 1) := ⟨_, _, _, _, m_ff2, by decide, m_w 107 (by decide +kernel) (by decide +kernel)⟩
theorem m_fl2_15 : m_flq 2 (15, 2, 2) := ⟨_, _, _, _, m_ff2, by decide, m_w 108 (by decide +kernel) (by decide +kernel)⟩
theorem m_fl2_19 : m_flq 2 (19, 2, 4) := ⟨_, _, _, _, m_ff2, by decide, m_w 110 (by decide +kernel) (by decide +kernel)⟩
theorem m_fl2_22 : m_flq 2 (22, 2, 5) := ⟨_, _, _, _, m_ff2, by decide, m_w 112 (by decide +kernel) (by decide +kernel)⟩
theorem m_fl2_25 : m_flq 2 (25, 2, 6) := ⟨_, _, _, _, m_ff2, by decide, m_w 114 (by decide +kernel) (by decide +kernel)⟩
theorem m_fl2_28 : m_flq 2 (28, 2, 3) := ⟨_, _, _, _, m_ff2, by decide, m_w 109 (by decide +kernel) (by decide +kernel)⟩
theorem m_fl2_32 : m_flq 2 (32, 2, 7) := ⟨_, _, _, _, m_ff2, by decide, m_w 116 (by decide +kernel) (by decide +kernel)⟩
theorem m_fls2 : ∀ e ∈ m_fls.getD 2 [], m_flq 2 e := List.forall_mem_cons.mpr ⟨m_fl2_9, List.forall_mem_cons.mpr ⟨m_fl2_15, List.forall_mem_cons.mpr ⟨m_fl2_19, List.forall_mem_cons.mpr ⟨m_fl2_22, List.forall_mem_cons.mpr ⟨m_fl2_25, List.forall_mem_cons.mpr ⟨m_fl2_28, List.forall_mem_cons.mpr ⟨m_fl2_32, fun _ h => absurd h List.not_mem_nil⟩⟩⟩⟩⟩⟩⟩
theorem m_fl3_9 : m_flq 3 (9, 3, 0) := ⟨_, _, _, _, m_ff3, by decide, m_w 147 (by decide +kernel) (by decide +kernel)⟩
theorem m_fl3_15 : m_flq 3 (15, 3, 1) := ⟨_, _, _, _, m_ff3, by decide, m_w 149 (by decide +kernel) (by decide +kernel)⟩
theorem m_fl3_19 : m_flq 3 (19, 3, 2) := ⟨_, _, _, _, m_ff3, by decide, m_w 151 (by decide +kernel) (by decide +kernel)⟩
theorem m_fl3_22 : m_flq 3 (22, 3, 3) := ⟨_, _, _, _, m_ff3, by decide, m_w 153 (by decide +kernel) (by decide +kernel)⟩
theorem m_fl3_25 : m_flq 3 (25, 3, 4) := ⟨_, _, _, _, m_ff3, by decide, m_w 155 (by decide +kernel) (by decide +kernel)⟩
theorem m_fl3_28 : m_flq 3 (28, 3, 5) := ⟨_, _, _, _, m_ff3, by decide, m_w 157 (by decide +kernel) (by decide +kernel)⟩
theorem m_fl3_31 : m_flq 3 (31, 3, 6) := ⟨_, _, _, _, m_ff3, by decide, m_w 159 (by decide +kernel) (by decide +kernel)⟩
theorem m_fls3 : ∀ e ∈ m_fls.getD 3 [], m_flq 3 e := List.forall_mem_cons.mpr ⟨m_fl3_9, List.forall_mem_cons.mpr ⟨m_fl3_15, List.forall_mem_cons.mpr ⟨m_fl3_19, List.forall_mem_cons.mpr ⟨m_fl3_22, List.forall_mem_cons.mpr ⟨m_fl3_25, List.forall_mem_cons.mpr ⟨m_fl3_28, List.forall_mem_cons.mpr ⟨m_fl3_31, fun _ h => absurd h List.not_mem_nil⟩⟩⟩⟩⟩⟩⟩
theorem m_fl4_18 : m_flq 4 (18, 4, 5) := ⟨_, _, _, _, m_ff4, by decide, m_w 191 (by decide +kernel) (by decide +kernel)⟩
theorem m_fl4_22 : m_flq 4 (22, 4, 6) := ⟨_, _, _, _, m_ff4, by decide, m_w 192 (by decide +kernel) (by decide +kernel)⟩
theorem m_fl4_40 : m_flq 4 (40, 3, 7) := ⟨_, _, _, _, m_ff3, by decide, m_w 162 (by decide +kernel) (by decide +kernel)⟩
theorem m_fl4_43 : m_flq 4 (43, 4, 7) := ⟨_, _, _, _, m_ff4, by decide, m_w 193 (by decide +kernel) (by decide +kernel)⟩
theorem m_fl4_46 : m_flq 4 (46, 3, 0) := ⟨_, _, _, _, m_ff3, by decide, m_w 148 (by decide +kernel) (by decide +kernel)⟩
theorem m_fl4_49 : m_flq 4 (49, 3, 1) := ⟨_, _, _, _, m_ff3, by decide, m_w 150 (by decide +kernel) (by decide +kernel)⟩
theorem m_fls4 : ∀ e ∈ m_fls.getD 4 [], m_flq 4 e := List.forall_mem_cons.mpr ⟨m_fl4_18, List.forall_mem_cons.mpr ⟨m_fl4_22, List.forall_mem_cons.mpr ⟨m_fl4_40, List.forall_mem_cons.mpr ⟨m_fl4_43, List.forall_mem_cons.mpr ⟨m_fl4_46, List.forall_mem_cons.mpr ⟨m_fl4_49, fun _ h => absurd h List.not_mem_nil⟩⟩⟩⟩⟩⟩
theorem m_fl5_9 : m_flq 5 (9, 5, 0) := ⟨_, _, _, _, m_ff5, by decide, m_w 218 (by decide +kernel) (by decide +kernel)⟩
theorem m_fl5_15 : m_flq 5 (15, 5, 1) := ⟨_, _, _, _, m_ff5, by decide, m_w 220 (by decide +kernel) (by decide +kernel)⟩
theorem m_fl5_18 : m_flq 5 (18, 5, 2) := ⟨_, _, _, _, m_ff5, by decide, m_w 222 (by decide +kernel) (by decide +kernel)⟩
theorem m_fls5 : ∀ e ∈ m_fls.getD 5 [], m_flq 5 e := List.forall_mem_cons.mpr ⟨m_fl5_9, List.forall_mem_cons.mpr ⟨m_fl5_15, List.forall_mem_cons.mpr ⟨m_fl5_18, fun _ h => absurd h List.not_mem_nil⟩⟩⟩
theorem m_fl6_7 : m_flq 6 (7, 6, 0) := ⟨_, _, _, _, m_ff6, by decide, m_w 484 (by decide +kernel) (by decide +kernel)⟩
theorem m_fl6_13 : m_flq 6 (13, 6, 1) := ⟨_, _, _, _, m_ff6, by decide, m_w 485 (by decide +kernel) (by decide +kernel)⟩
theorem m_fl6_17 : m_flq 6 (17, 6, 3) := ⟨_, _, _, _, m_ff6, by decide, m_w 487 (by decide +kernel) (by decide +kernel)⟩
theorem m_fl6_20 : m_flq 6 (20, 6, 4) := ⟨_, _, _, _, m_ff6, by decide, m_w 488 (by decide +kernel) (by decide +kernel)⟩
theorem m_fl6_23 : m_flq 6 (23, 6, 5) := ⟨_, _, _, _, m_ff6, by decide, m_w 489 (by decide +kernel) (by decide +kernel)⟩
theorem m_fl6_26 : m_flq 6 (26, 6, 6) := ⟨_, _, _, _, m_ff6, by decide, m_w 490 (by decide +kernel) (by decide +kernel)⟩
theorem m_fl6_30 : m_flq 6 (30, 6, 7) := ⟨_, _, _, _, m_ff6, by decide, m_w 491 (by decide +kernel) (by decide +kernel)⟩
theorem m_fl6_33 : m_flq 6 (33, 6, 8) := ⟨_, _, _, _, m_ff6, by decide, m_w 492 (by decide +kernel) (by decide +kernel)⟩
theorem m_fl6_36 : m_flq 6 (36, 6, 9) := ⟨_, _, _, _, m_ff6, by decide, m_w 493 (by decide +kernel) (by decide +kernel)⟩
theorem m_fl6_39 : m_flq 6 (39, 6, 10) := ⟨_, _, _, _, m_ff6, by decide, m_w 494 (by decide +kernel) (by decide +kernel)⟩
theorem m_fl6_42 : m_flq 6 (42, 6, 11) := ⟨_, _, _, _, m_ff6, by decide, m_w 495 (by decide +kernel) (by decide +kernel)⟩
theorem m_fl6_45 : m_flq 6 (45, 6, 12) := ⟨_, _, _, _, m_ff6, by decide, m_w 496 (by decide +kernel) (by decide +kernel)⟩
theorem m_fl6_48 : m_flq 6 (48, 6, 15) := ⟨_, _, _, _, m_ff6, by decide, m_w 499 (by decide +kernel) (by decide +kernel)⟩
theorem m_fl6_51 : m_flq 6 (51, 6, 16) := ⟨_, _, _, _, m_ff6, by decide, m_w 500 (by decide +kernel) (by decide +kernel)⟩
theorem m_fl6_54 : m_flq 6 (54, 6, 20) := ⟨_, _, _, _, m_ff6, by decide, m_w 504 (by decide +kernel) (by decide +kernel)⟩
theorem m_fl6_57 : m_flq 6 (57, 6, 21) := ⟨_, _, _, _, m_ff6, by decide, m_w 505 (by decide +kernel) (by decide +kernel)⟩
theorem m_fl6_60 : m_flq 6 (60, 6, 22) := ⟨_, _, _, _, m_ff6, by decide, m_w 506 (by decide +kernel) (by decide +kernel)⟩
theorem m_fl6_63 : m_flq 6 (63, 6, 23) := ⟨_, _, _, _, m_ff6, by decide, m_w 507 (by decide +kernel) (by decide +kernel)⟩
theorem m_fl6_66 : m_flq 6 (66, 6, 24) := ⟨_, _, _, _, m_ff6, by decide, m_w 508 (by decide +kernel) (by decide +kernel)⟩
theorem m_fl6_69 : m_flq 6 (69, 6, 25) := ⟨_, _, _, _, m_ff6, by decide, m_w 509 (by decide +kernel) (by decide +kernel)⟩
theorem m_fl6_72 : m_flq 6 (72, 6, 26) := ⟨_, _, _, _, m_ff6, by decide, m_w 510 (by decide +kernel) (by decide +kernel)⟩
theorem m_fl6_75 : m_flq 6 (75, 6, 27) := ⟨_, _, _, _, m_ff6, by decide, m_w 511 (by decide +kernel) (by decide +kernel)⟩
theorem m_fl6_78 : m_flq 6 (78, 6, 28) := ⟨_, _, _, _, m_ff6, by decide, m_w 512 (by decide +kernel) (by decide +kernel)⟩
theorem m_fl6_81 : m_flq 6 (81, 6, 29) := ⟨_, _, _, _, m_ff6, by decide, m_w 513 (by decide +kernel) (by decide +kernel)⟩
theorem m_fl6_84 : m_flq 6 (84, 6, 30) := ⟨_, _, _, _, m_ff6, by decide, m_w 514 (by decide +kernel) (by decide +kernel)⟩
theorem m_fl6_87 : m_flq 6 (87, 6, 31) := ⟨_, _, _, _, m_ff6, by decide, m_w 515 (by decide +kernel) (by decide +kernel)⟩
theorem m_fl6_90 : m_flq 6 (90, 6, 32) := ⟨_, _, _, _, m_ff6, by decide, m_w 516 (by decide +kernel) (by decide +kernel)⟩
theorem m_fl6_93 : m_flq 6 (93, 6, 33) := ⟨_, _, _, _, m_ff6, by decide, m_w 517 (by decide +kernel) (by decide +kernel)⟩
theorem m_fl6_96 : m_flq 6 (96, 6, 34) := ⟨_, _, _, _, m_ff6, by decide, m_w 518 (by decide +kernel) (by decide +kernel)⟩
theorem m_fl6_99 : m_flq 6 (99, 6, 35) := ⟨_, _, _, _, m_ff6, by decide, m_w 519 (by decide +kernel) (by decide +kernel)⟩
theorem m_fl6_102 : m_flq 6 (102, 6, 36) := ⟨_, _, _, _, m_ff6, by decide, m_w 520 (by decide +kernel) (by decide +kernel)⟩
theorem m_fl6_105 : m_flq 6 (105, 6, 2) := ⟨_, _, _, _, m_ff6, by decide, m_w 486 (by decide +kernel) (by decide +kernel)⟩
theorem m_fl6_127 : m_flq 6 (127, 6, 14) := ⟨_, _, _, _, m_ff6, by decide, m_w 498 (by decide +kernel) (by decide +kernel)⟩
theorem m_fl6_142 : m_flq 6 (142, 6, 18) := ⟨_, _, _, _, m_ff6, by decide, m_w 502 (by decide +kernel) (by decide +kernel)⟩
theorem m_fl6_145 : m_flq 6 (145, 6, 13) := ⟨_, _, _, _, m_ff6, by decide, m_w 497 (by decide +kernel) (by decide +kernel)⟩
theorem m_fl6_148 : m_flq 6 (148, 6, 17) := ⟨_, _, _, _, m_ff6, by decide, m_w 501 (by decide +kernel) (by decide +kernel)⟩
theorem m_fl6_170 : m_flq 6 (170, 6, 19) := ⟨_, _, _, _, m_ff6, by decide, m_w 503 (by decide +kernel) (by decide +kernel)⟩
theorem m_fls6 : ∀ e ∈ m_fls.getD 6 [], m_flq 6 e := List.forall_mem_cons.mpr ⟨m_fl6_7, List.forall_mem_cons.mpr ⟨m_fl6_13, List.forall_mem_cons.mpr ⟨m_fl6_17, List.forall_mem_cons.mpr ⟨m_fl6_20, List.forall_mem_cons.mpr ⟨m_fl6_23, List.forall_mem_cons.mpr ⟨m_fl6_26, List.forall_mem_cons.mpr ⟨m_fl6_30, List.forall_mem_cons.mpr ⟨m_fl6_33, List.forall_mem_cons.mpr ⟨m_fl6_36, List.forall_mem_cons.mpr ⟨m_fl6_39, List.forall_mem_cons.mpr ⟨m_fl6_42, List.forall_mem_cons.mpr ⟨m_fl6_45, List.forall_mem_cons.mpr ⟨m_fl6_48, List.forall_mem_cons.mpr ⟨m_fl6_51, List.forall_mem_cons.mpr ⟨m_fl6_54, List.forall_mem_cons.mpr ⟨m_fl6_57, List.forall_mem_cons.mpr ⟨m_fl6_60, List.forall_mem_cons.mpr ⟨m_fl6_63, List.forall_mem_cons.mpr ⟨m_fl6_66, List.forall_mem_cons.mpr ⟨m_fl6_69, List.forall_mem_cons.mpr ⟨m_fl6_72, List.forall_mem_cons.mpr ⟨m_fl6_75, List.forall_mem_cons.mpr ⟨m_fl6_78, List.forall_mem_cons.mpr ⟨m_fl6_81, List.forall_mem_cons.mpr ⟨m_fl6_84, List.forall_mem_cons.mpr ⟨m_fl6_87, List.forall_mem_cons.mpr ⟨m_fl6_90, List.forall_mem_cons.mpr ⟨m_fl6_93, List.forall_mem_cons.mpr ⟨m_fl6_96, List.forall_mem_cons.mpr ⟨m_fl6_99, List.forall_mem_cons.mpr ⟨m_fl6_102, List.forall_mem_cons.mpr ⟨m_fl6_105, List.forall_mem_cons.mpr ⟨m_fl6_127, List.forall_mem_cons.mpr ⟨m_fl6_142, List.forall_mem_cons.mpr ⟨m_fl6_145, List.forall_mem_cons.mpr ⟨m_fl6_148, List.forall_mem_cons.mpr ⟨m_fl6_170, fun _ h => absurd h List.not_mem_nil⟩⟩⟩⟩⟩⟩⟩⟩⟩⟩⟩⟩⟩⟩⟩⟩⟩⟩⟩⟩⟩⟩⟩⟩⟩⟩⟩⟩⟩⟩⟩⟩⟩⟩⟩⟩⟩
theorem m_fls7 : ∀ e ∈ m_fls.getD 7 [], m_flq 7 e := fun _ h => absurd h List.not_mem_nil
theorem m_fls8 : ∀ e ∈ m_fls.getD 8 [], m_flq 8 e := fun _ h => absurd h List.not_mem_nil
theorem m_fps0 : ∀ e ∈ m_fps.getD 0 [], m_flq 0 e := List.forall_mem_cons.mpr ⟨m_fl0_10, List.forall_mem_cons.mpr ⟨m_fl0_18, List.forall_mem_cons.mpr ⟨m_fl0_22, List.forall_mem_cons.mpr ⟨m_fl0_28, List.forall_mem_cons.mpr ⟨m_fl0_37, List.forall_mem_cons.mpr ⟨m_fl0_41, List.forall_mem_cons.mpr ⟨m_fl0_52, List.forall_mem_cons.mpr ⟨m_fl0_56, List.forall_mem_cons.mpr ⟨m_fl0_77, List.forall_mem_cons.mpr ⟨m_fl0_146, List.forall_mem_cons.mpr ⟨m_fl0_154, List.forall_mem_cons.mpr ⟨m_fl0_157, List.forall_mem_cons.mpr ⟨m_fl0_166, List.forall_mem_cons.mpr ⟨m_fl0_178, fun _ h => absurd h List.not_mem_nil⟩⟩⟩⟩⟩⟩⟩⟩⟩⟩⟩⟩⟩⟩
theorem m_fps1 : ∀ e ∈ m_fps.getD 1 [], m_flq 1 e := List.forall_mem_cons.mpr ⟨m_fl1_19, List.forall_mem_cons.mpr ⟨m_fl1_24, fun _ h => absurd h List.not_mem_nil⟩⟩
theorem m_fps2 : ∀ e ∈ m_fps.getD 2 [], m_flq 2 e := List.forall_mem_cons.mpr ⟨m_fl2_9, List.forall_mem_cons.mpr ⟨m_fl2_15, List.forall_mem_cons.mpr ⟨m_fl2_19, List.forall_mem_cons.mpr ⟨m_fl2_22, List.forall_mem_cons.mpr ⟨m_fl2_25, List.forall_mem_cons.mpr ⟨m_fl2_28, List.forall_mem_cons.mpr ⟨m_fl2_32, fun _ h => absurd h List.not_mem_nil⟩⟩⟩⟩⟩⟩⟩
theorem m_fl3_35 : m_flq 3 (35, 3, 7) := ⟨_, _, _, _, m_ff3, by decide, m_w 161 (by decide +kernel) (by decide +kernel)⟩
theorem m_fps3 : ∀ e ∈ m_fps.getD 3 [], m_flq 3 e := List.forall_mem_cons.mpr ⟨m_fl3_9, List.forall_mem_cons.mpr ⟨m_fl3_15, List.forall_mem_cons.mpr ⟨m_fl3_19, List.forall_mem_cons.mpr ⟨m_fl3_22, List.forall_mem_cons.mpr ⟨m_fl3_25, List.forall_mem_cons.mpr ⟨m_fl3_28, List.forall_mem_cons.mpr ⟨m_fl3_31, List.forall_mem_cons.mpr ⟨m_fl3_35, fun _ h => absurd h List.not_mem_nil⟩⟩⟩⟩⟩⟩⟩⟩
theorem m_fl4_12 : m_flq 4 (12, 4, 0) := ⟨_, _, _, _, m_ff4, by decide, m_w 181 (by decide +kernel) (by decide +kernel)⟩
theorem m_fl4_26 : m_flq 4 (26, 4, 1) := ⟨_, _, _, _, m_ff4, by decide, m_w 183 (by decide +kernel) (by decide +kernel)⟩
theorem m_fl4_29 : m_flq 4 (29, 4, 2) := ⟨_, _, _, _, m_ff4, by decide, m_w 185 (by decide +kernel) (by decide +kernel)⟩
theorem m_fl4_32 : m_flq 4 (32, 4, 3) := ⟨_, _, _, _, m_ff4, by decide, m_w 187 (by decide +kernel) (by decide +kernel)⟩
theorem m_fl4_36 : m_flq 4 (36, 4, 4) := ⟨_, _, _, _, m_ff4, by decide, m_w 189 (by decide +kernel) (by decide +kernel)⟩
theorem m_fps4 : ∀ e ∈ m_fps.getD 4 [], m_flq 4 e := List.forall_mem_cons.mpr ⟨m_fl4_12, List.forall_mem_cons.mpr ⟨m_fl4_18, List.forall_mem_cons.mpr ⟨m_fl4_22, List.forall_mem_cons.mpr ⟨m_fl4_26, List.forall_mem_cons.mpr ⟨m_fl4_29, List.forall_mem_cons.mpr ⟨m_fl4_32, List.forall_mem_cons.mpr ⟨m_fl4_36, List.forall_mem_cons.mpr ⟨m_fl4_40, List.forall_mem_cons.mpr ⟨m_fl4_43, fun _ h => absurd h List.not_mem_nil⟩⟩⟩⟩⟩⟩⟩⟩⟩
theorem m_fps5 : ∀ e ∈ m_fps.getD 5 [], m_flq 5 e := List.forall_mem_cons.mpr ⟨m_fl5_9, List.forall_mem_cons.mpr ⟨m_fl5_15, List.forall_mem_cons.mpr ⟨m_fl5_18, fun _ h => absurd h List.not_mem_nil⟩⟩⟩
theorem m_fps6 : ∀ e ∈ m_fps.getD 6 [], m_flq 6 e := List.forall_mem_cons.mpr ⟨m_fl6_7, List.forall_mem_cons.mpr ⟨m_fl6_13, List.forall_mem_cons.mpr ⟨m_fl6_17, List.forall_mem_cons.mpr ⟨m_fl6_20, List.forall_mem_cons.mpr ⟨m_fl6_23, List.forall_mem_cons.mpr ⟨m_fl6_26, List.forall_mem_cons.mpr ⟨m_fl6_30, List.forall_mem_cons.mpr ⟨m_fl6_33, List.forall_mem_cons.mpr ⟨m_fl6_36, List.forall_mem_cons.mpr ⟨m_fl6_39, List.forall_mem_cons.mpr ⟨m_fl6_42, List.forall_mem_cons.mpr ⟨m_fl6_45, List.forall_mem_cons.mpr ⟨m_fl6_48, List.forall_mem_cons.mpr ⟨m_fl6_51, List.forall_mem_cons.mpr ⟨m_fl6_54, List.forall_mem_cons.mpr ⟨m_fl6_57, List.forall_mem_cons.mpr ⟨m_fl6_60, List.forall_mem_cons.mpr ⟨m_fl6_63, List.forall_mem_cons.mpr ⟨m_fl6_66, List.forall_mem_cons.mpr ⟨m_fl6_69, List.forall_mem_cons.mpr ⟨m_fl6_72, List.forall_mem_cons.mpr ⟨m_fl6_75, List.forall_mem_cons.mpr ⟨m_fl6_78, List.forall_mem_cons.mpr ⟨m_fl6_81, List.forall_mem_cons.mpr ⟨m_fl6_84, List.forall_mem_cons.mpr ⟨m_fl6_87, List.forall_mem_cons.mpr ⟨m_fl6_90, List.forall_mem_cons.mpr ⟨m_fl6_93, List.forall_mem_cons.mpr ⟨m_fl6_96, List.forall_mem_cons.mpr ⟨m_fl6_99, List.forall_mem_cons.mpr ⟨m_fl6_102, List.forall_mem_cons.mpr ⟨m_fl6_105, List.forall_mem_cons.mpr ⟨m_fl6_127, List.forall_mem_cons.mpr ⟨m_fl6_142, List.forall_mem_cons.mpr ⟨m_fl6_145, List.forall_mem_cons.mpr ⟨m_fl6_148, List.forall_mem_cons.mpr ⟨m_fl6_170, fun _ h => absurd h List.not_mem_nil⟩⟩⟩⟩⟩⟩⟩⟩⟩⟩⟩⟩⟩⟩⟩⟩⟩⟩⟩⟩⟩⟩⟩⟩⟩⟩⟩⟩⟩⟩⟩⟩⟩⟩⟩⟩⟩
theorem m_fps7 : ∀ e ∈ m_fps.getD 7 [], m_flq 7 e := fun _ h => absurd h List.not_mem_nil
theorem m_fps8 : ∀ e ∈ m_fps.getD 8 [], m_flq 8 e := fun _ h => absurd h List.not_mem_nil
theorem m_fls_all (c : Nat) : ∀ e ∈ m_fls.getD c [], m_flq c e := by
  match c with
  | 0 => exact m_fls0
  | 1 => exact m_fls1
  | 2 => exact m_fls2
  | 3 => exact m_fls3
  | 4 => exact m_fls4
  | 5 => exact m_fls5
  | 6 => exact m_fls6
  | 7 => exact m_fls7
  | 8 => exact m_fls8
  | n + 9 =>
    intro e he
    exact absurd he (by rw [show m_fls.getD (n + 9) [] = [] from rfl]; exact List.not_mem_nil)
theorem m_fps_all (c : Nat) : ∀ e ∈ m_fps.getD c [], m_flq c e := by
  match c with
  | 0 => exact m_fps0
  | 1 => exact m_fps1
  | 2 => exact m_fps2
  | 3 => exact m_fps3
  | 4 => exact m_fps4
  | 5 => exact m_fps5
  | 6 => exact m_fps6
  | 7 => exact m_fps7
  | 8 => exact m_fps8
  | n + 9 =>
    intro e he
    exact absurd he (by rw [show m_fps.getD (n + 9) [] = [] from rfl]; exact List.not_mem_nil)
theorem m_fl_oc {y : Nat} {α : Type} {l : List (List α)} (h9 : l.getD 9 [] = []) (e : α) (h : e ∈ l.getD (m_oc y) []) : m_on y = m_cn (m_oc y) := m_occ (fun h1 => by rw [h1, h9] at h; cases h)
theorem m_fl_ok {me idx ci j : Nat} (h : m_fl me idx = some (ci, j)) : ∃ C T N ty, m_ff ci C T N ty ∧ j < N ∧ m_lkw (m_on me) idx T j := by
  have hm := m_look h
  rw [m_fl_oc rfl _ hm]
  obtain ⟨C, T, N, ty, h1, h2, h3⟩ := m_fls_all _ _ hm
  exact ⟨C, T, N, ty, h1, h2, Or.inl h3⟩
theorem m_kd2 {y : Nat} (h : m_kd y = 2) : (m_mn y).name = "<init>" := by
  by_cases hy : y < 102
  · have h1 : ∀ y, y < 102 → m_kd y = 2 → (m_mn y).name = "<init>" := by decide +kernel
    exact h1 y hy h
  · exact absurd h (by unfold m_kd; rw [List.getD_eq_getElem?_getD, List.getElem?_eq_none (by simp only [List.length_cons, List.length_nil]; omega)]; decide)
theorem m_fz_ok {ci j N : Nat} {C : String} {T : u_T} {ty : Nat → FieldType} (h : m_ff ci C T N ty) (hj : j < N) : m_fz ci j = (T j).2.2.2 ∧ (T j).1 = m_cn ci := by
  have h1 := h.1
  match ci with
  | 0 =>
    have h1 : some ("PropagationDesk", mT0, 8) = some (C, T, N) := h1
    cases h1
    exact (by decide +kernel : ∀ j, j < 8 → m_fz 0 j = (mT0 j).2.2.2 ∧ (mT0 j).1 = m_cn 0) j hj
  | 1 =>
    have h1 : some ("PropagationDesk$Kinds", mT1, 2) = some (C, T, N) := h1
    cases h1
    exact (by decide +kernel : ∀ j, j < 2 → m_fz 1 j = (mT1 j).2.2.2 ∧ (mT1 j).1 = m_cn 1) j hj
  | 2 =>
    have h1 : some ("PropagationDesk$Plan", mT2, 8) = some (C, T, N) := h1
    cases h1
    exact (by decide +kernel : ∀ j, j < 8 → m_fz 2 j = (mT2 j).2.2.2 ∧ (mT2 j).1 = m_cn 2) j hj
  | 3 =>
    have h1 : some ("PropagationDesk$Transaction", mT3, 8) = some (C, T, N) := h1
    cases h1
    exact (by decide +kernel : ∀ j, j < 8 → m_fz 3 j = (mT3 j).2.2.2 ∧ (mT3 j).1 = m_cn 3) j hj
  | 4 =>
    have h1 : some ("PropagationDesk$Frame", mT4, 8) = some (C, T, N) := h1
    cases h1
    exact (by decide +kernel : ∀ j, j < 8 → m_fz 4 j = (mT4 j).2.2.2 ∧ (mT4 j).1 = m_cn 4) j hj
  | 5 =>
    have h1 : some ("PropagationDesk$Journal", mT5, 3) = some (C, T, N) := h1
    cases h1
    exact (by decide +kernel : ∀ j, j < 3 → m_fz 5 j = (mT5 j).2.2.2 ∧ (mT5 j).1 = m_cn 5) j hj
  | 6 =>
    have h1 : some ("PropagationDeskModel", mT6, 37) = some (C, T, N) := h1
    cases h1
    exact (by decide +kernel : ∀ j, j < 37 → m_fz 6 j = (mT6 j).2.2.2 ∧ (mT6 j).1 = m_cn 6) j hj
  | n + 7 =>
    exfalso
    rw [List.getElem?_eq_none (by simp only [List.length_cons, List.length_nil]; omega)] at h1
    cases h1
theorem m_fp_ok {me idx ci j : Nat} (h : m_fp me idx = some (ci, j)) : ∃ C T N ty, m_ff ci C T N ty ∧ j < N ∧ m_lkw (m_on me) idx T j ∧ m_fnw me idx T j := by
  unfold m_fp at h
  split at h
  · rename_i c j' hl
    split at h
    · cases h
    · rename_i hc
      cases h
      have hm := m_look hl
      have ho := m_fl_oc (l := m_fps) rfl _ hm
      obtain ⟨C, T, N, ty, h1, h2, h3⟩ := m_fps_all _ _ hm
      have hz := m_fz_ok h1 h2
      rw [← ho] at h3
      refine ⟨C, T, N, ty, h1, h2, Or.inl h3, ?_⟩
      by_cases hf : m_fz ci j = true
      · have hkd : m_kd me = 2 ∧ ci = m_oc me := Classical.byContradiction fun q => hc ⟨hf, q⟩
        exact Or.inr ⟨by rw [← hz.1]; exact hf, m_kd2 hkd.1, by rw [hz.2, hkd.2, ho], h3⟩
      · exact Or.inl (by rw [← hz.1]; simpa using hf)
  · cases h
