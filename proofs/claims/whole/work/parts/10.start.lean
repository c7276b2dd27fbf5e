/-! The start: the tables, the static table, the law's entry as a state of the small machine -/
set_option maxHeartbeats 4000000 in
set_option maxRecDepth 100000 in
theorem m_K {s : State} {args : Array Value} (hts : ∀ w ∈ lw_tbl, w.before args s = true) : ∃ (D : va_G) (cA : Nat → ClassId), va_K D mCl (m_ty cA) s := by
  have ok : ∀ x ∈ m_W0, x.before args s = true := fun x hx => hts x (List.mem_filter.mp hx).1
  obtain ⟨c0, i0, k0⟩ := u_known (T := mT0) (N := 8) (C := "PropagationDesk") ok m_ff0.2.2.1 (ok (Cond.instantiable "PropagationDesk" 8) (m_w 57 (by decide +kernel) (by decide +kernel)))
  obtain ⟨c1, i1, k1⟩ := u_known (T := mT1) (N := 2) (C := "PropagationDesk$Kinds") ok m_ff1.2.2.1 (ok (Cond.instantiable "PropagationDesk$Kinds" 2) (m_w 65 (by decide +kernel) (by decide +kernel)))
  obtain ⟨c2, i2, k2⟩ := u_known (T := mT2) (N := 8) (C := "PropagationDesk$Plan") ok m_ff2.2.2.1 (ok (Cond.instantiable "PropagationDesk$Plan" 8) (m_w 101 (by decide +kernel) (by decide +kernel)))
  obtain ⟨c3, i3, k3⟩ := u_known (T := mT3) (N := 8) (C := "PropagationDesk$Transaction") ok m_ff3.2.2.1 (ok (Cond.instantiable "PropagationDesk$Transaction" 8) (m_w 142 (by decide +kernel) (by decide +kernel)))
  obtain ⟨c4, i4, k4⟩ := u_known (T := mT4) (N := 8) (C := "PropagationDesk$Frame") ok m_ff4.2.2.1 (ok (Cond.instantiable "PropagationDesk$Frame" 8) (m_w 136 (by decide +kernel) (by decide +kernel)))
  obtain ⟨c5, i5, k5⟩ := u_known (T := mT5) (N := 3) (C := "PropagationDesk$Journal") ok m_ff5.2.2.1 (ok (Cond.instantiable "PropagationDesk$Journal" 3) (m_w 213 (by decide +kernel) (by decide +kernel)))
  obtain ⟨c6, i6, k6⟩ := u_known (T := mT6) (N := 37) (C := "PropagationDeskModel") ok m_ff6.2.2.1 (ok (Cond.instantiable "PropagationDeskModel" 37) (m_w 479 (by decide +kernel) (by decide +kernel)))
  obtain ⟨ci, ki, pi, a1, a2, a3⟩ := Cond.arrayClass_spec (ok _ m_wi)
  obtain ⟨cz, kz, pz, b1, b2, b3⟩ := Cond.arrayClass_spec (ok _ m_wz)
  obtain ⟨qp, cp, kp, dp1, -, dp3, dp4, dp5⟩ := Cond.arrayOver_spec (n := "PropagationDesk$Plan") (hts (Cond.arrayOver (.object "PropagationDesk$Plan")) (List.mem_of_getElem? (i := 98) (by decide +kernel)))
  obtain ⟨qf, cf, kf, df1, -, df3, df4, df5⟩ := Cond.arrayOver_spec (n := "PropagationDesk$Frame") (hts (Cond.arrayOver (.object "PropagationDesk$Frame")) (List.mem_of_getElem? (i := 100) (by decide +kernel)))
  refine ⟨(fun c => [c0, c1, c2, c3, c4, c5, c6].getD c 0, fun c => [i0, i1, i2, i3, i4, i5, i6].getD c (fun _ => 0)), fun t => [0, ci, cz, cp, cf].getD t 0, fun c q hq => ?_, fun k q hk => ?_⟩
  · match c with
    | 0 =>
      have hq : some ("PropagationDesk", mT0, 8) = some q := hq
      cases hq
      exact k0
    | 1 =>
      have hq : some ("PropagationDesk$Kinds", mT1, 2) = some q := hq
      cases hq
      exact k1
    | 2 =>
      have hq : some ("PropagationDesk$Plan", mT2, 8) = some q := hq
      cases hq
      exact k2
    | 3 =>
      have hq : some ("PropagationDesk$Transaction", mT3, 8) = some q := hq
      cases hq
      exact k3
    | 4 =>
      have hq : some ("PropagationDesk$Frame", mT4, 8) = some q := hq
      cases hq
      exact k4
    | 5 =>
      have hq : some ("PropagationDesk$Journal", mT5, 3) = some q := hq
      cases hq
      exact k5
    | 6 =>
      have hq : some ("PropagationDeskModel", mT6, 37) = some q := hq
      cases hq
      exact k6
    | c + 7 =>
      exfalso
      rw [List.getElem?_eq_none (by simp only [List.length_cons, List.length_nil]; omega)] at hq
      cases hq
  · match k with
    | 0 =>
      have hk : some (ci, FieldType.int) = some q := hk
      cases hk
      exact ⟨fun n z => ⟨(fun k h => by cases h), ki, a2, pi, a3⟩, a1⟩
    | 1 =>
      have hk : some (cz, FieldType.boolean) = some q := hk
      cases hk
      exact ⟨fun n z => ⟨(fun k h => by cases h), kz, b2, pz, b3⟩, b1⟩
    | 2 =>
      have hk : some (cp, FieldType.object "PropagationDesk$Plan") = some q := hk
      cases hk
      exact ⟨fun n z => ⟨(fun k h => by cases h), kp, dp3, qp, dp4⟩, kp, qp, dp3, dp4, dp1, dp5⟩
    | 3 =>
      have hk : some (cf, FieldType.object "PropagationDesk$Frame") = some q := hk
      cases hk
      exact ⟨fun n z => ⟨(fun k h => by cases h), kf, df3, qf, df4⟩, kf, qf, df3, df4, df1, df5⟩
    | k + 4 =>
      exfalso
      rw [List.getElem?_eq_none (by simp only [List.length_cons, List.length_nil]; omega)] at hk
      cases hk
theorem m_ne_of {s : State} {args : Array Value} (hts : ∀ w ∈ lw_tbl, w.before args s = true) : m_ne s := by
  intro x hx hm
  have h := hts x hx
  unfold m_mv at hm
  split at hm
  · exact va_Nw.of rfl h
  · exact va_Nw.of rfl h
  · exact va_AO.of h
  · cases hm
abbrev m_fpt : Term := .static "PropagationDesk" "FIRST_PARENTS" "[I"
set_option maxHeartbeats 4000000 in
set_option maxRecDepth 100000 in
theorem m_sp_of {s : State} {b : Nat} (hts : ∀ w ∈ lw_tbl, w.before #[Value.ref b] s = true) (hgv : (Jvm.Cond.and given_1 narrow_1).before #[Value.ref b] s = true) : m_sp s.heap.size s s.heap := by
  have hs := flat_of_before _ hgv
  have hlen := va_eqt (hs (Cond.eq (.length m_fpt) (.int 10)) (by decide +kernel))
  have hel : ∀ j : Nat, j < 10 → (Term.elem m_fpt (.int (Int32.ofNat j))).eval #[Value.ref b] s none [] s = some (m_fpv j) := by
    intro j hj
    match j, hj with
    | 0, _ => exact va_eqt (hs (Cond.eq (.elem m_fpt (.int 0)) (.int (-1))) (by decide +kernel))
    | 1, _ => exact va_eqt (hs (Cond.eq (.elem m_fpt (.int 1)) (.int 0)) (by decide +kernel))
    | 2, _ => exact va_eqt (hs (Cond.eq (.elem m_fpt (.int 2)) (.int 0)) (by decide +kernel))
    | 3, _ => exact va_eqt (hs (Cond.eq (.elem m_fpt (.int 3)) (.int 2)) (by decide +kernel))
    | 4, _ => exact va_eqt (hs (Cond.eq (.elem m_fpt (.int 4)) (.int 3)) (by decide +kernel))
    | 5, _ => exact va_eqt (hs (Cond.eq (.elem m_fpt (.int 5)) (.int 3)) (by decide +kernel))
    | 6, _ => exact va_eqt (hs (Cond.eq (.elem m_fpt (.int 6)) (.int 3)) (by decide +kernel))
    | 7, _ => exact va_eqt (hs (Cond.eq (.elem m_fpt (.int 7)) (.int 3)) (by decide +kernel))
    | 8, _ => exact va_eqt (hs (Cond.eq (.elem m_fpt (.int 8)) (.int 3)) (by decide +kernel))
    | 9, _ => exact va_eqt (hs (Cond.eq (.elem m_fpt (.int 9)) (.int 1)) (by decide +kernel))
    | j + 10, h => exact absurd h (by omega)
  obtain ⟨t, ht, hT⟩ := va_Tof (N := 10) (f := m_fpv) (A := fun q => s.heap.size ≤ q) (by decide) (hs (Cond.arrayOf m_fpt .int) (by decide +kernel)) hlen hel (fun a ha h => by omega)
  exact ⟨t, va_Zref (hts (Cond.laysStatic "PropagationDesk" "FIRST_PARENTS" "[I") (List.mem_of_getElem? (i := 71) (by decide +kernel))) (hts (Cond.initialized "PropagationDesk") (List.mem_of_getElem? (i := 46) (by decide +kernel))) ht (fun a ha h => by omega), hT⟩
/-- the script in the ints -/
def m_w0 (L : Nat) (xs : Nat → Int32) : Nat → Nat → Int32 := fun k j => if k = 1000000 then xs j else if k = 1000001 ∧ j = 0 then Int32.ofNat L else 0
/-- what is left to prove, of the small machine alone -/
def m_pure (L : Nat) (xs : Nat → Int32) : Prop := m_R (m_E 60) 101 0 0 (fun r _ => r = some (.inl 1)) 0 [some (.inr (some 1000000)), none, none, none] [] ([], m_w0 L xs, fun _ _ => none)
/-! THE CLAIM OUT OF ONE WALK OF THE LAW'S BODY. Your part is whole_start (and what it stands on); all else here is the same for every law, but numbers. -/
def R_law : String := "PropagationDeskLaw"
def lw_P (b : Addr) (xs : List Int32) (args : Array Value) (s : State) : Prop := args = #[.ref b] ∧ s.IntsAt b xs ∧ xs.length ≤ 2560 ∧ (Jvm.Cond.and given_1 narrow_1).before args s = true
def lw_Q (_ : Array Value) (s : State) (o : Outcome) (t : State) : Prop := o = .returned (some (.int 1)) ∧ Framed s o t [] 600000 7302250
def lw_Z (below : List Frame) (a : Array Value) (s : State) : State → Prop := fun t => ∃ o, t.status = .running ∧ Ended t below o ∧ lw_Q a s o t
/-- the law's own end, with 1 on the stack, nothing written that was there before, its room as the claim has it -/
theorem lw_ret {p : Program} {l : Launch} {e : Env} {s : State} {m : MethodId} {below : List Frame} {meth : Method} {c : Code} {b : Nat} (hx : p.tables.exec = Jvm.exec) (hb : c.code = code) (hr : meth.sig.returnType = ret) (hlocks : meth.locks = false) {pc : Nat} {H : Heap} {ls : Array Slot} (hdg : decode code pc = .ok (.ireturn, 1)) : W p l e room_1 s m #[Value.ref b] below meth c H [] 600000 7302250 (lw_Z below #[Value.ref b] s) (F0 m pc ls [.int 1]) := by
  intro T hT X
  obtain ⟨fs, hret, hrun, hended, hW, hframe⟩ := X.leave (v := some (.int 1)) (hlocks := hlocks) (fun h => by rw [hr] at h; cases h)
  have hmeth' : T.vm.method? m = some meth := X.method'
  refine ⟨T.setFrames fs, ?_, .returned (some (.int 1)), hrun, hended, rfl, ⟨_, rfl⟩, hW, hframe⟩
  jvm_step X.here [X.here.top, hx, hb, hdg, hmeth', hr, ret, narrow_b1]
  (try refine ⟨rfl, ?_⟩); (try refine ⟨rfl, ?_⟩)
  first | (intro acts; rw [hret _ acts rfl rfl rfl]) | rw [hret _ _ rfl rfl rfl]
  exact Steps.refl _
/-- what holds at the law's entry: the machine, the code, the tables' words (any of lw_tbl by 'hts w (by decide +kernel)'), the script of L ints xs at the cell b, what the Statement gives of the start (any of its parts by flat_of_before) -/
def lw_At (p : Program) (s : State) (m : MethodId) (meth : Method) (c : Code) (b L : Nat) (xs : Nat → Int32) : Prop :=
  p.tables.exec = Jvm.exec ∧ c.code = code ∧ meth.sig.returnType = ret ∧ c.maxLocals = 4 ∧ s.vm.findClass R_law = some m.cls ∧ (∀ w ∈ lw_tbl, w.before #[Value.ref b] s = true) ∧ va_X b L xs s s.heap ∧ b < s.heap.size ∧ meth.locks = false ∧ (Jvm.Cond.and given_1 narrow_1).before #[Value.ref b] s = true
set_option maxHeartbeats 4000000 in
set_option maxRecDepth 100000 in
theorem whole_start_open {p : Program} {e : Env} {s : State} {m : MethodId} {below : List Frame} {meth : Method} {c : Code} (l : Launch) {b L : Nat} {xs : Nat → Int32} (hL : L ≤ 2560) (C0 : lw_At p s m meth c b L xs)
    (hprim : ∀ (D : va_G) (cA : Nat → ClassId) (base bS L d : Nat) (as : List mV) (w : mW) (Q : mQ), 2 ≤ d → m_pK as w Q → m_M l D cA base bS L (d + 1) 1 as w Q) (hpure : m_pure L xs) : W p l e room_1 s m #[Value.ref b] below meth c s.heap [] 0 0 (lw_Z below #[Value.ref b] s) (entryFrame m ([Value.ref b] : List Value).toArray 4) := by
  obtain ⟨hx, hb, hr, hml, hown, hts, hX, hbl, hlocks, hgv⟩ := C0
  have ok : ∀ x ∈ m_W0, x.before #[Value.ref b] s = true := fun x hx => hts x (List.mem_filter.mp hx).1
  obtain ⟨D, cA, hK⟩ := m_K hts
  have hsp := m_sp_of hts hgv
  have hV := hpure (fun pc ls st w => m_V D cA s.heap.size b L p l e room_1 s m #[Value.ref b] below meth c (m_mx 101) 0 0 (lw_Z below #[Value.ref b] s) pc ls st w) (m_close (me := 101) (m_sound (hprim D cA s.heap.size b L) 60) (by decide) (by decide) (by decide) (by decide) hx hb hml ok hown (fun h => absurd h (by decide)) hK (m_ne_of hts) ?_ ?_)
  · have hw : va_X b L (m_w0 L xs 1000000) s s.heap := by
      have h1 : m_w0 L xs 1000000 = xs := funext fun j => if_pos rfl
      rw [h1]
      exact hX
    have hh : m_hd D cA s.heap.size b L s ([], m_w0 L xs, fun _ _ => none) s.heap := ⟨rfl, Nat.zero_le _, ⟨hbl, by omega, rfl, hw, hsp⟩, fun k h hk => by cases hk⟩
    obtain ⟨hl1, hl2⟩ := m_lh.entry (ad := m_ad s.heap.size b) (n := 4) [.inr (some 1000000)] (by decide)
    have hl := lv_entry ([Value.ref b]) (n := 4) (Nat.le_of_ble_eq_true rfl)
    rw [lg_entry_eq]
    exact hV rfl (Nat.le_refl _) (Nat.le_refl _) s.heap [] _ (hl2 _ hl) hh va_S.rf
  · intro pc ls x w hd hrt e1 e2 hq h1 h2 h3 H locs lsA hl hh hS
    cases hq
    refine va_forget (fun q hq => hS.2.2 q hq) ?_
    refine W.widen (k := 600000) (n := 7302250) ?_ ?_ ?_
    · have e1 : w.1.length = 201 := e1
      omega
    · have e2 : m_sl w.1 = 2390 := e2
      omega
    · exact lw_ret hx hb hr hlocks hd
  · intro pc ls w hd hrt
    exact absurd hrt (by decide)
