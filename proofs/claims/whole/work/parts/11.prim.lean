/-! Kinds's constructor, walked by hand: Arrays.copyOf of the static table -/
def m_ycp : MethodName := ⟨"java/util/Arrays", "copyOf", "([II)[I"⟩
abbrev m_bcp : ByteArray := prog_12_method_123_code
theorem m_dcp0 : decode m_bcp 0 = .ok (.iload_n 1, 1) := by decide +kernel
theorem m_dcp1 : decode m_bcp 1 = .ok (.aload_n 0, 1) := by decide +kernel
theorem m_dcp2 : decode m_bcp 2 = .ok (.arraylength, 1) := by decide +kernel
theorem m_dcp3 : decode m_bcp 3 = .ok (.if_icmp .ne 11, 3) := by decide +kernel
theorem m_dcp14 : decode m_bcp 14 = .ok (.iload_n 1, 1) := by decide +kernel
theorem m_dcp15 : decode m_bcp 15 = .ok (.newarray .int, 2) := by decide +kernel
theorem m_dcp17 : decode m_bcp 17 = .ok (.astore_n 2, 1) := by decide +kernel
theorem m_dcp18 : decode m_bcp 18 = .ok (.aload_n 0, 1) := by decide +kernel
theorem m_dcp19 : decode m_bcp 19 = .ok (.iconst 0, 1) := by decide +kernel
theorem m_dcp20 : decode m_bcp 20 = .ok (.aload_n 2, 1) := by decide +kernel
theorem m_dcp21 : decode m_bcp 21 = .ok (.iconst 0, 1) := by decide +kernel
theorem m_dcp22 : decode m_bcp 22 = .ok (.aload_n 0, 1) := by decide +kernel
theorem m_dcp23 : decode m_bcp 23 = .ok (.arraylength, 1) := by decide +kernel
theorem m_dcp24 : decode m_bcp 24 = .ok (.iload_n 1, 1) := by decide +kernel
theorem m_dcp25 : decode m_bcp 25 = .ok (.invokestatic 304, 3) := by decide +kernel
theorem m_dcp28 : decode m_bcp 28 = .ok (.invokestatic 150, 3) := by decide +kernel
theorem m_dcp31 : decode m_bcp 31 = .ok (.aload_n 2, 1) := by decide +kernel
theorem m_dcp32 : decode m_bcp 32 = .ok (.areturn, 1) := by decide +kernel
theorem m_dk0 : decode (m_by 1) 0 = .ok (.aload_n 0, 1) := by decide +kernel
theorem m_dk1 : decode (m_by 1) 1 = .ok (.invokespecial 3, 3) := by decide +kernel
theorem m_dk4 : decode (m_by 1) 4 = .ok (.aload_n 0, 1) := by decide +kernel
theorem m_dk5 : decode (m_by 1) 5 = .ok (.getstatic 9, 3) := by decide +kernel
theorem m_dk8 : decode (m_by 1) 8 = .ok (.bipush 16, 2) := by decide +kernel
theorem m_dk10 : decode (m_by 1) 10 = .ok (.invokestatic 13, 3) := by decide +kernel
theorem m_dk13 : decode (m_by 1) 13 = .ok (.putfield 19, 3) := by decide +kernel
theorem m_dk16 : decode (m_by 1) 16 = .ok (.aload_n 0, 1) := by decide +kernel
theorem m_dk17 : decode (m_by 1) 17 = .ok (.getstatic 9, 3) := by decide +kernel
theorem m_dk20 : decode (m_by 1) 20 = .ok (.arraylength, 1) := by decide +kernel
theorem m_dk21 : decode (m_by 1) 21 = .ok (.putfield 24, 3) := by decide +kernel
theorem m_dk24 : decode (m_by 1) 24 = .ok (.return_, 1) := by decide +kernel
theorem m_hd.pushG {D : va_G} {cA : Nat → ClassId} {base bS L : Nat} {U : State} {w w' : mW} {H H1 : Heap} {h : Nat × Nat} (hh : m_hd D cA base bS L U w H) (hl : w.1.length < 1000000) (h1 : w'.1 = w.1 ++ [h]) (h2 : ∀ a, a ≠ w.1.length → w'.2.1 a = w.2.1 a ∧ w'.2.2 a = w.2.2 a) (hz : H1.size = H.size + 1) (ho : ∀ q, q < H.size → H1[q]? = H[q]?)
    (he : va_at D mCl (base + w.1.length, m_ce cA (m_ad base bS) w' w.1.length h) H1) : m_hd D cA base bS L U w' H1 := by
  obtain ⟨a1, a2, ⟨a3, a4, a5, a6, a8⟩, a7⟩ := hh
  have e1 := h2 1000000 (by omega)
  have e2 := h2 1000001 (by omega)
  have hlen : w'.1.length = w.1.length + 1 := by rw [h1, List.length_append]; rfl
  refine ⟨by rw [hz, a1, hlen]; omega, by omega, ⟨a3, a4, by rw [e2.1]; exact a5, by rw [e1.1]; exact a6.kept (ho bS (by omega)), a8.kept (fun a ha _ => ho a ha)⟩, fun k' h' hk' => ?_⟩
  rw [h1] at hk'
  by_cases hkk : k' < w.1.length
  · have hk2 : w.1[k']? = some h' := by rw [← hk']; exact (List.getElem?_append_left hkk).symm
    have h3 := a7 k' h' hk2
    rw [m_ce_congr (w' := w') (h2 k' (by omega)).1.symm (h2 k' (by omega)).2.symm] at h3
    exact h3.kept (ho _ (by show base + k' < H.size; omega))
  · rw [List.getElem?_append_right (by omega)] at hk'
    have hz : k' - w.1.length < 1 := (List.getElem?_eq_some_iff.mp hk').1
    have hke : k' = w.1.length := by omega
    subst hke
    rw [Nat.sub_self] at hk'
    cases hk'
    exact he
theorem m_copyT {p : Program} {l : Launch} {e : Env} {R : Room} {s : State} {m : MethodId} {args : Array Value} {below : List Frame} {meth : Method} {c : Code} {H : Heap} {locs : List Loc} {cells slots : Nat} {Q : State → Prop} {pc : Nat} {ls : Array Slot} {rest : List Value} {a : Nat} {cc : ByteArray} (hexec : p.tables.exec = Jvm.exec) (hb : c.code = cc) (hml : c.maxLocals = ls.size) {own : String} {index : Nat} (hown : s.vm.findClass own = some m.cls) (hlink : (Cond.methodLink own index arraycopyName).before args s = true) (hnat : (Cond.native arraycopyName).before args s = true) (hstat : (Cond.static arraycopyName).before args s = true) (hini : (Cond.initialized "java/lang/System").before args s = true)
    {b0 n0 : Nat} {f : Nat → Int32} {scr : Cell} (hc0 : H[b0]? = some scr) (hs2 : s.isArrayOf scr .int) (hs3 : scr.vm ≠ .unknown) (hs4 : n0 ≤ scr.slots.size) (hs5 : ∀ j : Nat, j < n0 → scr.slots[j]? = some (.int (f j))) {c1 : ClassId} {n1 : Nat} {g : Nat → Int32} (hc1 : H[a]? = some (arrV c1 n1 (fun j => .int (g j)))) (hA1 : ArrOfT s c1 .int)
    {sp dp n : Int32} (h1 : ¬ sp < 0) (h2 : ¬ dp < 0) (h3 : ¬ n < 0) (h4 : sp.toNatClampNeg + n.toNatClampNeg ≤ n0) (h5 : dp.toNatClampNeg + n.toNatClampNeg ≤ n1)
    (hframes : 1 ≤ R.frames) (hlocals : (rest.map fun v => v.category).sum + (nativeFrameWords "java/lang/System" "arraycopy" 5 + 11) ≤ R.locals) (hdg : decode cc pc = .ok (.invokestatic index, 3))
    (kk : ∀ (H1 : Heap) (L1 : List Loc), H1[a]? = some (arrV c1 n1 (fun j => .int (va_cpy f g sp.toNatClampNeg dp.toNatClampNeg n.toNatClampNeg j))) → H1.size = H.size → (∀ q, q ≠ a → H1[q]? = H[q]?) → (∀ q ∈ L1, q.base = a) → W p l e R s m args below meth c H1 (locs ++ L1) cells slots Q (F0 m (pc + 3) ls rest)) : W p l e R s m args below meth c H locs cells slots Q (F0 m pc ls (.int n :: .int dp :: .ref a :: .int sp :: .ref b0 :: rest)) := by
  have nn : ∀ z : Int32, ¬ z < 0 → z.toInt = (z.toNatClampNeg : Int) := by
    intro z hz
    have hz0 : (0 : Int) ≤ z.toInt := by
      have := Int32.not_lt.mp hz
      simpa using Int32.le_iff_toInt_le.mp this
    show z.toInt = ((z.toInt.toNat : Nat) : Int)
    omega
  intro T hT X
  obtain ⟨hs6, k0, hk0, cm0, hkk0⟩ := hs2
  obtain ⟨-, k1, hk1, cm1, hkk1⟩ := hA1 n1 (fun j => .int (g j))
  obtain ⟨vm', X', step⟩ := X.arraycopy hexec hown hlink hnat hstat hini (src := b0) (dst := a) (cs := scr) (cd := arrV c1 n1 (fun j => .int (g j))) (srcPos := sp) (destPos := dp) (n := n) (by rw [hT]; exact hc0) (by rw [hT]; exact hc1)
    hs6 (fun _ h => by cases h) hs3 (fun h => by cases h) hk0 hk1 hkk0 hkk1 (by simp [refKind]) h1 h2 h3
    (by rw [nn sp h1, nn n h3]; omega)
    (by rw [nn dp h2, nn n h3]; show ¬ _ > ((arrV c1 n1 (fun j => .int (g j))).slots.size : Int); rw [arrV_size]; omega)
    (fun vm₁ _ i hi => by
      have e : scr.slots.getD (sp.toNatClampNeg + i) .null = .int (f (sp.toNatClampNeg + i)) := by
        rw [Array.getD_eq_getD_getElem?, hs5 _ (by omega)]
        rfl
      refine ⟨?_, ?_⟩
      · rw [e]
        rfl
      · rw [e]
        exact trivial)
    (g := F0 m pc ls (.int n :: .int dp :: .ref a :: .int sp :: .ref b0 :: rest)) rfl (by rw [hml]) (rest := rest) rfl (by rw [hb]; exact hdg) hframes (by show 2 * 0 + _ + _ ≤ _; omega)
  have e1 : copied scr (arrV c1 n1 (fun j => .int (g j))) sp dp n = arrV c1 n1 (fun j => .int (va_cpy f g sp.toNatClampNeg dp.toNatClampNeg n.toNatClampNeg j)) := va_copiedX (fun z => .int z) scr c1 f g hs5 h4
  rw [e1] at X' step
  have hl : a < H.size := (Array.getElem?_eq_some_iff.mp hc1).1
  have hheap : ((T.setVm vm').setCell a (arrV c1 n1 (fun j => .int (va_cpy f g sp.toNatClampNeg dp.toNatClampNeg n.toNatClampNeg j)))).heap = H.setIfInBounds a (arrV c1 n1 (fun j => .int (va_cpy f g sp.toNatClampNeg dp.toNatClampNeg n.toNatClampNeg j))) := by rw [← hT]; rfl
  obtain ⟨t, a1, b1⟩ := kk _ _ (show (H.setIfInBounds a _)[a]? = some _ by simp [Array.getElem?_setIfInBounds, hl]) (by simp) (fun q hq => by simp [Array.getElem?_setIfInBounds, Ne.symm hq]) (fun q hq => by
      obtain ⟨z, -, hz⟩ := List.mem_map.mp hq
      rw [← hz]) _ hheap X'
  exact ⟨t, step t a1, b1⟩
abbrev m_wcp : List Cond := .code m_ycp m_bcp 3 (some (.array .int)) :: m_W0
set_option maxHeartbeats 4000000 in
set_option maxRecDepth 100000 in
/-- Arrays.copyOf(FIRST_PARENTS, 16) -/
theorem m_copyOf (l : Launch) (D : va_G) (cA : Nat → ClassId) (base t sz : Nat) : Met l m_ycp m_wcp ({ frames := 1, cells := 1, slots := 16, locals := 40 }) (va_Pc [.ref t, .int 16] (fun U => U.heap.size = sz ∧ base ≤ sz ∧ va_T .int t 10 m_fpv (fun q => base ≤ q) U U.heap ∧ va_K D mCl (m_ty cA) U)) (va_Qr (fun _ : Unit => True) (fun _ a tt => a = sz ∧ tt.heap.size = sz + 1 ∧ tt.heap[sz]? = some (arrV (cA 1) 16 (fun j => .int (m_fpi j)))) (fun q => sz ≤ q)) 1 16 (fun q => sz ≤ q) := by
  refine Met.ofW (cc := m_bcp) (maxL := 3) (ret := some (.array .int)) (by decide) rfl ?_
  intro p e s m args below meth c s₁ B hml hv
  obtain ⟨rfl, hsz, hbs, hT0, hK⟩ := hv
  have hx := B.exec
  have hb := B.bytes
  have hr := B.returns
  have hts := atoms_spec (ws := m_wcp) B.pre
  have ok : ∀ x ∈ m_W0, x.before _ s = true := fun x h => hts x (List.mem_cons_of_mem _ h)
  have hown : s.vm.findClass "java/util/Arrays" = some m.cls := findClass_of_methodNamed B.named
  have hlocks := B.notSynchronized
  subst hsz
  have hT : va_T .int t 10 m_fpv (fun q => s.heap.size ≤ q) s s.heap := hT0.narrow (fun q h => Nat.le_trans hbs h)
  have hS : va_S (fun q => s.heap.size ≤ q) s.heap s.heap [] := va_S.rf
  have hl := lv_entry ([.ref t, .int 16]) (n := 3) (Nat.le_of_ble_eq_true rfl)
  rw [lg_entry_eq]
  generalize (lg_sl ([.ref t, .int 16]) ++ List.replicate (3 - (lg_sl ([.ref t, .int 16])).length) Slot.unset).toArray = ls at hl ⊢
  have hl : lv_has ls 3 [(0, .ref t), (1, .int 16)] := hl
  refine lv_iload_n hx hb m_dcp0 rfl (lv_at hl 1 rfl) ?_
  refine lv_aload_n hx hb m_dcp1 rfl (lv_at hl 0 rfl) ?_
  refine va_tlen hx hb hT hS (v := 10) rfl m_dcp2 ?_
  refine lv_icmp_ne (tgt := 14) hx hb m_dcp3 rfl (fun _ => ?_) (fun h => absurd h (by decide))
  refine lv_iload_n hx hb m_dcp14 rfl (lv_at hl 1 rfl) ?_
  refine va_newaK hx hb (ok _ m_wi) rfl m_dcp15 rfl (by decide) (N := 16) rfl (by decide) (by decide) (by decide) rfl fun H1 cA' e1 z1 o1 hAr hNm => ?_
  have hca : cA' = cA 1 := by
    have h9 : s.vm.findClass ("[" ++ FieldType.int.toString) = some (cA 1) := (hK.2 0 _ rfl).2
    exact Option.some.inj (hNm.symm.trans h9)
  subst hca
  have hS1 : va_S (fun q => s.heap.size ≤ q) s.heap H1 [] := ⟨by omega, fun q g1 g2 => o1 q g1, fun q h => by cases h⟩
  refine lv_astore_n hx hb m_dcp17 rfl hl (by decide) rfl (fun ls hl => ?_)
  have hl : lv_has ls 3 [(2, .ref s.heap.size), (0, .ref t), (1, .int 16)] := hl
  refine lv_aload_n hx hb m_dcp18 rfl (lv_at hl 1 rfl) ?_
  refine lv_iconst (v := 0) hx hb m_dcp19 (by decide) ?_
  refine lv_aload_n hx hb m_dcp20 rfl (lv_at hl 0 rfl) ?_
  refine lv_iconst (v := 0) hx hb m_dcp21 (by decide) ?_
  refine lv_aload_n hx hb m_dcp22 rfl (lv_at hl 1 rfl) ?_
  refine va_tlen hx hb hT hS1 (v := 10) rfl m_dcp23 ?_
  refine lv_iload_n hx hb m_dcp24 rfl (lv_at hl 2 rfl) ?_
  refine va_mmin hx hb (hml.trans hl.1.symm) hown (ok _ (m_w 82 (by decide +kernel) (by decide +kernel))) (ok _ (m_w 83 (by decide +kernel) (by decide +kernel))) (ok _ (m_w 49 (by decide +kernel) (by decide +kernel))) (ok _ (m_w 84 rfl rfl)) (by decide) (Nat.le_of_ble_eq_true rfl) (by decide) (by decide) m_dcp25 ?_
  obtain ⟨scr, g1, g2, g3, g4, g5, g6, g7⟩ := hT
  have hc0 : H1[t]? = some scr := by rw [o1 t (Array.getElem?_eq_some_iff.mp g1).1]; exact g1
  have e1 : H1[s.heap.size]? = some (arrV (cA 1) 16 (fun j => .int ((fun _ => 0 : Nat → Int32) j))) := e1
  refine m_copyT (n0 := 10) (f := m_fpi) (g := fun _ => 0) hx hb (hml.trans hl.1.symm) hown (ok _ (m_w 85 (by decide +kernel) (by decide +kernel))) (ok _ (m_w 87 (by decide +kernel) (by decide +kernel))) (ok _ (m_w 86 (by decide +kernel) (by decide +kernel))) (ok _ (m_w 50 (by decide +kernel) (by decide +kernel))) hc0 g2 g3 g4 (fun j hj => g6 j hj) e1 hAr (by decide) (by decide) (by decide) (by decide) (by decide) (by decide) (by decide) m_dcp28 fun H2 L2 f1 z2 o2 hL2 => ?_
  refine lv_aload_n hx hb m_dcp31 rfl (lv_at hl 0 rfl) ?_
  refine W.aret hx hb hr (Or.inr ⟨_, rfl⟩) (Or.inr ⟨_, rfl⟩) (fun t' ht hW => ⟨⟨(), s.heap.size, rfl, trivial, rfl, by rw [ht, z2, z1], ?_⟩, by rw [ht, z2, z1]; omega, fun q q1 q2 => by rw [ht, o2 q (by omega), o1 q q1]⟩) (fun q hq => by
    rcases List.mem_append.mp hq with h | h
    · cases h
    · show s.heap.size ≤ q.base
      rw [hL2 q h]; exact Nat.le_refl _) m_dcp32
  rw [ht, f1]
  congr 2
  funext j
  show Value.int (va_cpy m_fpi (fun _ => 0) 0 0 10 j) = _
  unfold va_cpy
  by_cases hj : j < 10
  · rw [if_pos ⟨Nat.zero_le _, by omega⟩]; simp
  · rw [if_neg (by omega)]
    unfold m_fpi
    rw [List.getD_eq_getElem?_getD, List.getElem?_eq_none (by simp only [List.length_cons, List.length_nil]; omega)]
    rfl
set_option maxHeartbeats 4000000 in
set_option maxRecDepth 100000 in
/-- Kinds's constructor -/
theorem m_prim (l : Launch) (D : va_G) (cA : Nat → ClassId) (base bS L d : Nat) (as : List mV) (w : mW) (Q : mQ) (hd2 : 2 ≤ d) (h : m_pK as w Q) : m_M l D cA base bS L (d + 1) 1 as w Q := by
  unfold m_pK at h
  split at h
  rotate_left
  · exact h.elim
  rename_i k
  obtain ⟨hk, hlen, hQ⟩ := h
  refine Met.ofW (cc := m_by 1) (maxL := m_mx 1) (ret := m_rf 1) (m_pl 1) rfl ?_
  intro p e s m args below meth c s₁ B hml hv
  obtain ⟨rfl, hh, hK, hN⟩ := hv
  have hx := B.exec
  have hb := B.bytes
  have hts := atoms_spec (ws := m_ws 1) B.pre
  have ok : ∀ x ∈ m_W0, x.before _ s = true := fun x h => hts x (List.mem_cons_of_mem _ h)
  have hown : s.vm.findClass "PropagationDesk$Kinds" = some m.cls := findClass_of_methodNamed B.named
  have hin : meth.name = "<init>" := (name_of_methodNamed B.named B.method).1
  have hkl : k < w.1.length := (List.getElem?_eq_some_iff.mp hk).1
  have hnk : k ≠ w.1.length := by omega
  have e0 : m_ad base bS k = base + k := m_ad_lt (hh.lt hk)
  have e9 : m_ad base bS w.1.length = base + w.1.length := m_ad_lt hlen
  let w1 : mW := (w.1 ++ [(1, 16)], fun a b => if a = w.1.length then m_fpi b else w.2.1 a b, m_zr w.2.2 w.1.length)
  let w2 : mW := (w1.1, w1.2.1, m_sr w1.2.2 k 0 (some w.1.length))
  let w3 : mW := (w2.1, m_si w2.2.1 k 1 10, w2.2.2)
  have hk1 : w1.1[k]? = some (0, 1) := by show (w.1 ++ [(1, 16)])[k]? = _; rw [List.getElem?_append_left hkl]; exact hk
  have hl0 : w1.1.length = w.1.length + 1 := by show (w.1 ++ [(1, 16)]).length = _; rw [List.length_append]; rfl
  have hs0 : m_sl w1.1 = m_sl w.1 + 16 := m_sl_app w.1 (1, 16)
  let ls : mL := [some (.inr (some k))]
  let QQ := MQ below (m_Qc D cA base bS L 1 w Q) (([.inr (some k)] : List mV).map (m_tv (m_ad base bS))).toArray s (m_bg 1).1 (m_bg 1).2 (fun q => base ≤ q)
  let VV := m_V D cA base bS L p l e (m_rm (d + 1) 1) s m (([.inr (some k)] : List mV).map (m_tv (m_ad base bS))).toArray below meth c (m_mx 1) w.1.length (m_sl w.1) QQ
  have lk0 : (Cond.fieldLink "PropagationDesk$Kinds" 19 (mT1 0).1 (mT1 0).2.1 (mT1 0).2.2.1).before _ s = true := ok _ (m_w 88 (by decide +kernel) (by decide +kernel))
  have lk1 : (Cond.fieldLink "PropagationDesk$Kinds" 24 (mT1 1).1 (mT1 1).2.1 (mT1 1).2.2.1).before _ s = true := ok _ (m_w 89 (by decide +kernel) (by decide +kernel))
  have V24 : VV 24 ls [] w3 := m_retv hx hb B.returns B.notSynchronized 24 ls w3 m_dk24 rfl hl0 hs0 hQ
  have V21 : VV 21 ls [.inl 10, .inr (some k)] w2 := mv_pf (w := w2) (j := 1) hx hb ok hown hK m_ff1 (by decide) (Or.inl lk1) (Or.inl rfl) hk1 m_dk21 (v := .inl 10) (w' := w3) rfl (fun a ha => ⟨m_si_row ha, rfl⟩) (fun i hi => by
    match i, hi with
    | 0, _ => rfl
    | 1, _ => show Sum.inl (m_si w2.2.1 k 1 10 k 1) = _; simp [m_si]
    | i + 2, h => exact absurd h (by omega)) rfl rfl V24
  have hnest : va_Nw (.fieldLinkNest "PropagationDesk$Kinds" 9 "PropagationDesk" "FIRST_PARENTS" "[I" "PropagationDesk") s := hN _ (List.mem_of_getElem? (i := 70) (by decide +kernel)) rfl
  obtain ⟨t, hZ, hT⟩ := hh.2.2.1.2.2.2.2
  have V16 : VV 16 ls [] w2 := by
    intro h1 h2 h3 H locs lsA hl hh2 hS
    refine lv_aload_n (x := m_ad base bS k) hx hb m_dk16 rfl (hl.2 0 (.inr (some k)) rfl) ?_
    refine va_getsN hx hb hZ hS hown (va_Nw.use rfl hnest) (fun _ h => h) m_dk17 ?_
    refine va_tlen hx hb hT hS (v := 10) rfl m_dk20 ?_
    exact V21 h1 h2 h3 H locs lsA hl hh2 hS
  have V13 : VV 13 ls [.inr (some w.1.length), .inr (some k)] w1 := mv_pf (w := w1) (j := 0) hx hb ok hown hK m_ff1 (by decide) (Or.inl lk0) (Or.inr ⟨rfl, hin, rfl, lk0⟩) hk1 m_dk13 (v := .inr (some w.1.length)) (w' := w2) rfl (fun a ha => ⟨rfl, m_sr_row ha⟩) (fun i hi => by
    match i, hi with
    | 0, _ => show Sum.inr (m_sr w1.2.2 k 0 (some w.1.length) k 0) = _; simp [m_sr]
    | 1, _ => rfl
    | i + 2, h => exact absurd h (by omega)) rfl rfl V16
  obtain ⟨hl1, hl2⟩ := m_lh.entry (ad := m_ad base bS) (n := m_mx 1) [.inr (some k)] (Nat.le_of_ble_eq_true rfl)
  have hl := hl2 _ (lv_entry (([.inr (some k)] : List mV).map (m_tv (m_ad base bS))) (n := m_mx 1) hl1)
  rw [lg_entry_eq]
  show W p l e (m_rm (d + 1) 1) s m _ below meth c s.heap [] 0 0 QQ (F0 m 0 _ [])
  generalize (lg_sl (([.inr (some k)] : List mV).map (m_tv (m_ad base bS))) ++ List.replicate (m_mx 1 - (lg_sl (([.inr (some k)] : List mV).map (m_tv (m_ad base bS)))).length) Slot.unset).toArray = lsA at hl ⊢
  have hl : m_lh (m_ad base bS) 1 ls lsA := hl
  have hla : lsA[0]? = some (.val (.ref (m_ad base bS k))) := hl.2 0 (.inr (some k)) rfl
  refine lv_aload_n hx hb m_dk0 rfl hla ?_
  refine W.objInit hx hb hown (ok _ (m_w 69 (by decide +kernel) (by decide +kernel))) (ok _ (m_w 62 (by decide +kernel) (by decide +kernel))) (ok _ (m_w 63 (by decide +kernel) rfl)) rfl (by rw [hml]; exact hl.1.1) rfl m_dk1 (by show 1 ≤ d + 1; omega) (by show 2 * 0 + 0 + 12 ≤ 64 * (d + 1); omega) ?_
  refine lv_aload_n (pc := 4) hx hb m_dk4 rfl hla ?_
  refine va_getsN (pc := 5) hx hb hZ va_S.rf hown (va_Nw.use rfl hnest) (fun _ h => h) m_dk5 ?_
  refine lv_bipush (pc := 8) (v := 16) hx hb m_dk8 (by decide) ?_
  refine va_callr (pc := 10) (A0 := fun q => base ≤ q) (va_runS (Ts := m_W0) (As := [.ref t, .int 16]) (rest := [.ref (m_ad base bS k)]) ⟨hx, hb, hml, hown, ok⟩ (m_copyOf l D cA base t s.heap.size) (⟨callB_of 2 ok (fun x hx => by
      have h0 : x ∈ m_W0 := by
        rcases List.mem_cons.mp hx with rfl | h
        · exact m_w 74 rfl rfl
        · exact h
      exact ⟨h0, good_of_word (List.mem_filter.mp h0).2⟩) rfl rfl rfl (ok _ (m_w 48 (by decide +kernel) (by decide +kernel))) (ok _ (m_w 72 (by decide +kernel) (by decide +kernel))) ⟨by decide, by decide, by decide +kernel⟩ ⟨by show 1 + 1 ≤ d + 1; omega, by show 8 + (3 + 11) + 40 ≤ 64 * (d + 1); omega⟩, ok _ (m_w 73 (by decide +kernel) (by decide +kernel))⟩)
      ⟨fun a U g mk q => by
        obtain ⟨q0, q1, q2, q3, q4⟩ := q
        exact ⟨q0, q1, q2, va_T.moved (u := U) (U := U.calling g mk a) (Vm.Alike.refl U.vm) q3, va_K.moved (u := U) (U := U.calling g mk a) (Vm.Alike.refl U.vm) q4⟩, fun U hU hW => ⟨rfl, by rw [hU], by rw [hh.1]; omega, by rw [hU]; exact hT.moved hW.alike, va_K.moved hW.alike hK⟩⟩ rfl rfl hl.1.1 rfl (lv_room (Nat.le_of_ble_eq_true rfl)) m_dk10 ⟨by show 0 + 1 ≤ 1; decide, by show 0 + 16 ≤ 16; decide⟩) va_S.rf (fun q _ h => Nat.le_trans (by rw [hh.1]; omega) h) (fun q h => Nat.le_trans (by rw [hh.1]; omega) h) (fun u ra t' H1 locs1 ht hvm hp hB hz hkp hS1 => ?_)
  obtain ⟨rfl, z1, c1⟩ := hB
  rw [ht] at z1 c1
  have hh1 : m_hd D cA base bS L s w1 H1 := by
    refine hh.pushG (w' := w1) (h := (1, 16)) hlen rfl (fun a ha => ⟨funext fun b => by show (if a = w.1.length then _ else _) = _; rw [if_neg ha], funext fun b => by show m_zr w.2.2 w.1.length a b = _; simp [m_zr, ha]⟩) z1 (fun q hq => hkp q hq (by show ¬ s.heap.size ≤ q; omega)) ?_
    show H1[base + w.1.length]? = some (arrV (cA 1) 16 (fun j => .int (if w.1.length = w.1.length then m_fpi j else w.2.1 w.1.length j)))
    rw [← hh.1, c1]
    congr 2
    funext j
    rw [if_pos rfl]
  have hW := V13 rfl (by omega) (by omega) H1 locs1 lsA hl hh1 hS1
  have hW : W p l e (m_rm (d + 1) 1) s m _ below meth c H1 locs1 (w1.1.length - w.1.length) (m_sl w1.1 - m_sl w.1) QQ (F0 m 13 lsA [.ref (m_ad base bS w.1.length), .ref (m_ad base bS k)]) := hW
  rw [e9, ← hh.1] at hW
  exact W.cs (by omega) (by omega) hW
