def m_ck (b : ByteArray) (l : List (Nat × Jvm.ClassFile.Instr)) : Bool := l.all (fun e => match decode b e.1 with
  | .ok r => decide (r.1 = e.2) && m_lk e.1 r.1 r.2
  | _ => false)
theorem m_ck0 : m_ck ByteArray.empty m_cd0 = true := by decide +kernel
theorem m_ck1 : m_ck prog_4_method_1_code m_cd1 = true := by decide +kernel
theorem m_ck2 : m_ck prog_1_method_1_code m_cd2 = true := by decide +kernel
theorem m_ck3 : m_ck prog_5_method_1_code m_cd3 = true := by decide +kernel
theorem m_ck4 : m_ck prog_2_method_1_code m_cd4 = true := by decide +kernel
theorem m_ck5 : m_ck prog_6_method_1_code m_cd5 = true := by decide +kernel
theorem m_ck6 : m_ck prog_3_method_1_code m_cd6 = true := by decide +kernel
theorem m_ck7 : m_ck prog_1_method_2_code m_cd7 = true := by decide +kernel
theorem m_ck8 : m_ck prog_4_method_2_code m_cd8 = true := by decide +kernel
theorem m_ck9 : m_ck prog_4_method_3_code m_cd9 = true := by decide +kernel
theorem m_ck10 : m_ck prog_1_method_3_code m_cd10 = true := by decide +kernel
theorem m_ck11 : m_ck prog_1_method_4_code m_cd11 = true := by decide +kernel
theorem m_ck12 : m_ck prog_1_method_17_code m_cd12 = true := by decide +kernel
theorem m_ck13 : m_ck prog_5_method_2_code m_cd13 = true := by decide +kernel
theorem m_ck14 : m_ck prog_1_method_5_code m_cd14 = true := by decide +kernel
theorem m_ck15 : m_ck prog_1_method_19_code m_cd15 = true := by decide +kernel
theorem m_ck16 : m_ck prog_1_method_18_code m_cd16 = true := by decide +kernel
theorem m_ck17 : m_ck prog_5_method_3_code m_cd17 = true := by decide +kernel
theorem m_ck18 : m_ck prog_1_method_6_code m_cd18 = true := by decide +kernel
theorem m_ck19 : m_ck prog_3_method_2_code m_cd19 = true := by decide +kernel
theorem m_ck20 : m_ck prog_1_method_20_code m_cd20 = true := by decide +kernel
theorem m_ck21 : m_ck prog_1_method_21_code m_cd21 = true := by decide +kernel
theorem m_ck22 : m_ck prog_2_method_2_code m_cd22 = true := by decide +kernel
theorem m_ck23 : m_ck prog_1_method_22_code m_cd23 = true := by decide +kernel
theorem m_ck24 : m_ck prog_1_method_24_code m_cd24 = true := by decide +kernel
theorem m_ck25 : m_ck prog_6_method_2_code m_cd25 = true := by decide +kernel
theorem m_ck26 : m_ck prog_1_method_23_code m_cd26 = true := by decide +kernel
theorem m_ck27 : m_ck prog_2_method_3_code m_cd27 = true := by decide +kernel
theorem m_ck28 : m_ck prog_1_method_32_code m_cd28 = true := by decide +kernel
theorem m_ck29 : m_ck prog_1_method_33_code m_cd29 = true := by decide +kernel
theorem m_ck30 : m_ck prog_1_method_37_code m_cd30 = true := by decide +kernel
theorem m_ck31 : m_ck prog_1_method_38_code m_cd31 = true := by decide +kernel
theorem m_ck32 : m_ck prog_6_method_3_code m_cd32 = true := by decide +kernel
theorem m_ck33 : m_ck prog_3_method_3_code m_cd33 = true := by decide +kernel
theorem m_ck34 : m_ck prog_1_method_34_code m_cd34 = true := by decide +kernel
theorem m_ck35 : m_ck prog_1_method_39_code m_cd35 = true := by decide +kernel
theorem m_ck36 : m_ck prog_6_method_4_code m_cd36 = true := by decide +kernel
theorem m_ck37 : m_ck prog_1_method_35_code m_cd37 = true := by decide +kernel
theorem m_ck38 : m_ck prog_1_method_36_code m_cd38 = true := by decide +kernel
theorem m_ck39 : m_ck prog_4_method_5_code m_cd39 = true := by decide +kernel
theorem m_ck40 : m_ck prog_4_method_4_code m_cd40 = true := by decide +kernel
theorem m_ck41 : m_ck prog_6_method_5_code m_cd41 = true := by decide +kernel
theorem m_ck42 : m_ck prog_1_method_25_code m_cd42 = true := by decide +kernel
theorem m_ck43 : m_ck prog_5_method_4_code m_cd43 = true := by decide +kernel
theorem m_ck44 : m_ck prog_1_method_26_code m_cd44 = true := by decide +kernel
theorem m_ck45 : m_ck prog_2_method_4_code m_cd45 = true := by decide +kernel
theorem m_ck46 : m_ck prog_1_method_27_code m_cd46 = true := by decide +kernel
theorem m_ck47 : m_ck prog_1_method_28_code m_cd47 = true := by decide +kernel
theorem m_ck48 : m_ck prog_1_method_29_code m_cd48 = true := by decide +kernel
theorem m_ck49 : m_ck prog_1_method_31_code m_cd49 = true := by decide +kernel
theorem m_ck50 : m_ck prog_1_method_30_code m_cd50 = true := by decide +kernel
theorem m_ck51 : m_ck prog_1_method_7_code m_cd51 = true := by decide +kernel
theorem m_ck52 : m_ck prog_1_method_8_code m_cd52 = true := by decide +kernel
theorem m_ck53 : m_ck prog_1_method_9_code m_cd53 = true := by decide +kernel
theorem m_ck54 : m_ck prog_1_method_10_code m_cd54 = true := by decide +kernel
theorem m_ck55 : m_ck prog_1_method_11_code m_cd55 = true := by decide +kernel
theorem m_ck56 : m_ck prog_1_method_12_code m_cd56 = true := by decide +kernel
theorem m_ck57 : m_ck prog_3_method_4_code m_cd57 = true := by decide +kernel
theorem m_ck58 : m_ck prog_1_method_13_code m_cd58 = true := by decide +kernel
theorem m_ck59 : m_ck prog_1_method_14_code m_cd59 = true := by decide +kernel
theorem m_ck60 : m_ck prog_1_method_15_code m_cd60 = true := by decide +kernel
theorem m_ck61 : m_ck prog_1_method_16_code m_cd61 = true := by decide +kernel
theorem m_ck62 : m_ck prog_8_method_1_code m_cd62 = true := by decide +kernel
theorem m_ck63 : m_ck prog_8_method_4_code m_cd63 = true := by decide +kernel
theorem m_ck64 : m_ck prog_8_method_2_code m_cd64 = true := by decide +kernel
theorem m_ck65 : m_ck prog_8_method_5_code m_cd65 = true := by decide +kernel
theorem m_ck66 : m_ck prog_8_method_6_code m_cd66 = true := by decide +kernel
theorem m_ck67 : m_ck prog_8_method_3_code m_cd67 = true := by decide +kernel
theorem m_ck68 : m_ck prog_8_method_8_code m_cd68 = true := by decide +kernel
theorem m_ck69 : m_ck prog_8_method_7_code m_cd69 = true := by decide +kernel
theorem m_ck70 : m_ck prog_8_method_10_code m_cd70 = true := by decide +kernel
theorem m_ck71 : m_ck prog_8_method_9_code m_cd71 = true := by decide +kernel
theorem m_ck72 : m_ck prog_8_method_12_code m_cd72 = true := by decide +kernel
theorem m_ck73 : m_ck prog_8_method_11_code m_cd73 = true := by decide +kernel
theorem m_ck74 : m_ck prog_8_method_30_code m_cd74 = true := by decide +kernel
theorem m_ck75 : m_ck prog_8_method_19_code m_cd75 = true := by decide +kernel
theorem m_ck76 : m_ck prog_8_method_17_code m_cd76 = true := by decide +kernel
theorem m_ck77 : m_ck prog_8_method_18_code m_cd77 = true := by decide +kernel
theorem m_ck78 : m_ck prog_8_method_29_code m_cd78 = true := by decide +kernel
theorem m_ck79 : m_ck prog_8_method_20_code m_cd79 = true := by decide +kernel
theorem m_ck80 : m_ck prog_8_method_13_code m_cd80 = true := by decide +kernel
theorem m_ck81 : m_ck prog_8_method_24_code m_cd81 = true := by decide +kernel
theorem m_ck82 : m_ck prog_8_method_27_code m_cd82 = true := by decide +kernel
theorem m_ck83 : m_ck prog_8_method_25_code m_cd83 = true := by decide +kernel
theorem m_ck84 : m_ck prog_8_method_26_code m_cd84 = true := by decide +kernel
theorem m_ck85 : m_ck prog_8_method_28_code m_cd85 = true := by decide +kernel
theorem m_ck86 : m_ck prog_8_method_23_code m_cd86 = true := by decide +kernel
theorem m_ck87 : m_ck prog_8_method_21_code m_cd87 = true := by decide +kernel
theorem m_ck88 : m_ck prog_8_method_22_code m_cd88 = true := by decide +kernel
theorem m_ck89 : m_ck prog_8_method_15_code m_cd89 = true := by decide +kernel
theorem m_ck90 : m_ck prog_8_method_14_code m_cd90 = true := by decide +kernel
theorem m_ck91 : m_ck prog_8_method_16_code m_cd91 = true := by decide +kernel
theorem m_ck92 : m_ck prog_8_method_31_code m_cd92 = true := by decide +kernel
theorem m_ck93 : m_ck prog_8_method_32_code m_cd93 = true := by decide +kernel
theorem m_ck94 : m_ck prog_8_method_33_code m_cd94 = true := by decide +kernel
theorem m_ck95 : m_ck prog_8_method_35_code m_cd95 = true := by decide +kernel
theorem m_ck96 : m_ck prog_8_method_34_code m_cd96 = true := by decide +kernel
theorem m_ck97 : m_ck prog_8_method_36_code m_cd97 = true := by decide +kernel
theorem m_ck98 : m_ck prog_8_method_37_code m_cd98 = true := by decide +kernel
theorem m_ck99 : m_ck prog_8_method_38_code m_cd99 = true := by decide +kernel
theorem m_ck100 : m_ck prog_8_method_39_code m_cd100 = true := by decide +kernel
theorem m_ck101 : m_ck code m_cd101 = true := by decide +kernel
theorem m_cks : ∀ q ∈ m_bc, m_ck q.1 q.2 = true := List.forall_mem_cons.mpr ⟨m_ck0, List.forall_mem_cons.mpr ⟨m_ck1, List.forall_mem_cons.mpr ⟨m_ck2, List.forall_mem_cons.mpr ⟨m_ck3, List.forall_mem_cons.mpr ⟨m_ck4, List.forall_mem_cons.mpr ⟨m_ck5, List.forall_mem_cons.mpr ⟨m_ck6, List.forall_mem_cons.mpr ⟨m_ck7, List.forall_mem_cons.mpr ⟨m_ck8, List.forall_mem_cons.mpr ⟨m_ck9, List.forall_mem_cons.mpr ⟨m_ck10, List.forall_mem_cons.mpr ⟨m_ck11, List.forall_mem_cons.mpr ⟨m_ck12, List.forall_mem_cons.mpr ⟨m_ck13, List.forall_mem_cons.mpr ⟨m_ck14, List.forall_mem_cons.mpr ⟨m_ck15, List.forall_mem_cons.mpr ⟨m_ck16, List.forall_mem_cons.mpr ⟨m_ck17, List.forall_mem_cons.mpr ⟨m_ck18, List.forall_mem_cons.mpr ⟨m_ck19, List.forall_mem_cons.mpr ⟨m_ck20, List.forall_mem_cons.mpr ⟨m_ck21, List.forall_mem_cons.mpr ⟨m_ck22, List.forall_mem_cons.mpr ⟨m_ck23, List.forall_mem_cons.mpr ⟨m_ck24, List.forall_mem_cons.mpr ⟨m_ck25, List.forall_mem_cons.mpr ⟨m_ck26, List.forall_mem_cons.mpr ⟨m_ck27, List.forall_mem_cons.mpr ⟨m_ck28, List.forall_mem_cons.mpr ⟨m_ck29, List.forall_mem_cons.mpr ⟨m_ck30, List.forall_mem_cons.mpr ⟨m_ck31, List.forall_mem_cons.mpr ⟨m_ck32, List.forall_mem_cons.mpr ⟨m_ck33, List.forall_mem_cons.mpr ⟨m_ck34, List.forall_mem_cons.mpr ⟨m_ck35, List.forall_mem_cons.mpr ⟨m_ck36, List.forall_mem_cons.mpr ⟨m_ck37, List.forall_mem_cons.mpr ⟨m_ck38, List.forall_mem_cons.mpr ⟨m_ck39, List.forall_mem_cons.mpr ⟨m_ck40, List.forall_mem_cons.mpr ⟨m_ck41, List.forall_mem_cons.mpr ⟨m_ck42, List.forall_mem_cons.mpr ⟨m_ck43, List.forall_mem_cons.mpr ⟨m_ck44, List.forall_mem_cons.mpr ⟨m_ck45, List.forall_mem_cons.mpr ⟨m_ck46, List.forall_mem_cons.mpr ⟨m_ck47, List.forall_mem_cons.mpr ⟨m_ck48, List.forall_mem_cons.mpr ⟨m_ck49, List.forall_mem_cons.mpr ⟨m_ck50, List.forall_mem_cons.mpr ⟨m_ck51, List.forall_mem_cons.mpr ⟨m_ck52, List.forall_mem_cons.mpr ⟨m_ck53, List.forall_mem_cons.mpr ⟨m_ck54, List.forall_mem_cons.mpr ⟨m_ck55, List.forall_mem_cons.mpr ⟨m_ck56, List.forall_mem_cons.mpr ⟨m_ck57, List.forall_mem_cons.mpr ⟨m_ck58, List.forall_mem_cons.mpr ⟨m_ck59, List.forall_mem_cons.mpr ⟨m_ck60, List.forall_mem_cons.mpr ⟨m_ck61, List.forall_mem_cons.mpr ⟨m_ck62, List.forall_mem_cons.mpr ⟨m_ck63, List.forall_mem_cons.mpr ⟨m_ck64, List.forall_mem_cons.mpr ⟨m_ck65, List.forall_mem_cons.mpr ⟨m_ck66, List.forall_mem_cons.mpr ⟨m_ck67, List.forall_mem_cons.mpr ⟨m_ck68, List.forall_mem_cons.mpr ⟨m_ck69, List.forall_mem_cons.mpr ⟨m_ck70, List.forall_mem_cons.mpr ⟨m_ck71, List.forall_mem_cons.mpr ⟨m_ck72, List.forall_mem_cons.mpr ⟨m_ck73, List.forall_mem_cons.mpr ⟨m_ck74, List.forall_mem_cons.mpr ⟨m_ck75, List.forall_mem_cons.mpr ⟨m_ck76, List.forall_mem_cons.mpr ⟨m_ck77, List.forall_mem_cons.mpr ⟨m_ck78, List.forall_mem_cons.mpr ⟨m_ck79, List.forall_mem_cons.mpr ⟨m_ck80, List.forall_mem_cons.mpr ⟨m_ck81, List.forall_mem_cons.mpr ⟨m_ck82, List.forall_mem_cons.mpr ⟨m_ck83, List.forall_mem_cons.mpr ⟨m_ck84, List.forall_mem_cons.mpr ⟨m_ck85, List.forall_mem_cons.mpr ⟨m_ck86, List.forall_mem_cons.mpr ⟨m_ck87, List.forall_mem_cons.mpr ⟨m_ck88, List.forall_mem_cons.mpr ⟨m_ck89, List.forall_mem_cons.mpr ⟨m_ck90, List.forall_mem_cons.mpr ⟨m_ck91, List.forall_mem_cons.mpr ⟨m_ck92, List.forall_mem_cons.mpr ⟨m_ck93, List.forall_mem_cons.mpr ⟨m_ck94, List.forall_mem_cons.mpr ⟨m_ck95, List.forall_mem_cons.mpr ⟨m_ck96, List.forall_mem_cons.mpr ⟨m_ck97, List.forall_mem_cons.mpr ⟨m_ck98, List.forall_mem_cons.mpr ⟨m_ck99, List.forall_mem_cons.mpr ⟨m_ck100, List.forall_mem_cons.mpr ⟨m_ck101, fun _ h => absurd h List.not_mem_nil⟩⟩⟩⟩⟩⟩⟩⟩⟩⟩⟩⟩⟩⟩⟩⟩⟩⟩⟩⟩⟩⟩⟩⟩⟩⟩⟩⟩⟩⟩⟩⟩⟩⟩⟩⟩⟩⟩⟩⟩⟩⟩⟩⟩⟩⟩⟩⟩⟩⟩⟩⟩⟩⟩⟩⟩⟩⟩⟩⟩⟩⟩⟩⟩⟩⟩⟩⟩⟩⟩⟩⟩⟩⟩⟩⟩⟩⟩⟩⟩⟩⟩⟩⟩⟩⟩⟩⟩⟩⟩⟩⟩⟩⟩⟩⟩⟩⟩⟩⟩⟩⟩
theorem m_tb_ok {me pc : Nat} {i : Jvm.ClassFile.Instr} (h : m_tb me pc = some i) : ∃ n, decode (m_by me) pc = .ok (i, n) ∧ m_lk pc i n = true := by
  have hq : m_ck (m_by me) (m_bc.getD me (ByteArray.empty, [])).2 = true := m_getD (fun q : ByteArray × List (Nat × Jvm.ClassFile.Instr) => m_ck q.1 q.2 = true) m_cks rfl
  have h1 := List.all_eq_true.mp hq _ (m_look h)
  split at h1
  · rename_i r hr
    simp only [Bool.and_eq_true, decide_eq_true_eq] at h1
    obtain ⟨i', n⟩ := r
    obtain ⟨e1, e2⟩ := h1
    subst e1
    exact ⟨n, hr, e2⟩
  · cases h1
