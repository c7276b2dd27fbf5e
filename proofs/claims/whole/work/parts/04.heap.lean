/-! The small machine is sound: fields, arrays, new cells -/
theorem m_P1 {D : va_G} {cl : List vw_C} {q : Nat × va_E} {H : Heap} (h : va_at D cl q H) : va_P D cl [q] H := fun k q' hk => by
  cases k with
  | zero => cases hk; exact h
  | succ k => simp at hk
theorem m_vp {N : Nat} {f : Nat → Value} {i : Nat} (hi : i < N) : vp_V ((List.range N).map f) i = f i := by
  unfold vp_V
  rw [List.getD_eq_getElem?_getD, List.getElem?_map, List.getElem?_range hi]
  rfl
def m_fk : Nat → FieldType → Bool
  | 0, .int => true
  | 1, .boolean => true
  | 2, .object _ => true
  | 2, .array _ => true
  | _, _ => false
/-- what is known of the class ci: its table of fields -/
def m_ff (ci : Nat) (C : String) (T : u_T) (N : Nat) (ty : Nat → FieldType) : Prop := mCl[ci]? = some (C, T, N) ∧ m_nf ci = N ∧ (∀ x ∈ u_ws C T N, x ∈ m_W0) ∧ (∀ k, k < N → parseFieldDescriptor (T k).2.2.1 = some (ty k)) ∧ (∀ a, a < N → ∀ b, b < N → a ≠ b → (T a).2.1 ≠ (T b).2.1) ∧ ∀ j, j < N → m_fk (m_ft ci j) (ty j) = true
def m_lf (args : Array Value) (s : State) (own : String) (idx : Nat) (T : u_T) (j : Nat) : Prop := (Cond.fieldLink own idx (T j).1 (T j).2.1 (T j).2.2.1).before args s = true ∨ ∃ host, (Cond.fieldLinkNest own idx (T j).1 (T j).2.1 (T j).2.2.1 host).before args s = true
def m_lm (args : Array Value) (s : State) (own : String) (idx : Nat) (y : MethodName) : Prop := (Cond.methodLink own idx y).before args s = true ∨ ∃ host, va_Nw (.methodLinkNest own idx y host) s
abbrev m_ty (cA : Nat → ClassId) : List (ClassId × FieldType) := [(cA 1, .int), (cA 2, .boolean), (cA 3, .object (m_cn (m_ak 3))), (cA 4, .object (m_cn (m_ak 4)))]
section MH
variable {D : va_G} {cA : Nat → ClassId} {base bS L : Nat} {p : Program} {l : Launch} {e : Env} {R : Room} {s : State} {m : MethodId} {args : Array Value} {below : List Frame} {meth : Method} {c : Code} {nL N0 S0 : Nat} {QQ : State → Prop} {pc : Nat} {ls : mL} {st : mS} {w : mW} {cc : ByteArray}
theorem m_hd.lt {H : Heap} {k : Nat} {h : Nat × Nat} (hh : m_hd D cA base bS L s w H) (hk : w.1[k]? = some h) : k < 1000000 := Nat.lt_of_lt_of_le (List.getElem?_eq_some_iff.mp hk).1 hh.2.1
theorem mv_gf (hx : p.tables.exec = Jvm.exec) (hb : c.code = cc) {own C : String} {T : u_T} {N ci idx j k : Nat} {ty : Nat → FieldType} (hts : ∀ x ∈ m_W0, x.before args s = true) (hown : s.vm.findClass own = some m.cls) (hK : va_K D mCl (m_ty cA) s) (hF : m_ff ci C T N ty) (hj : j < N) (hlink : m_lf args s own idx T j) (hk : w.1[k]? = some (0, ci)) (hd : decode cc pc = .ok (.getfield idx, 3)) (kk : m_V D cA base bS L p l e R s m args below meth c nL N0 S0 QQ (pc + 3) ls (m_ld w ci k j :: st) w) : m_V D cA base bS L p l e R s m args below meth c nL N0 S0 QQ pc ls (.inr (some k) :: st) w := by
  intro h1 h2 h3 H locs lsA hl hh hS
  obtain ⟨hc, hN, hin, -, -, -⟩ := hF
  have hat := hh.2.2.2 k (0, ci) hk
  have e0 : m_ad base bS k = base + k := m_ad_lt (hh.lt hk)
  have hv : ((List.range (m_nf ci)).map (fun j => m_tv (m_ad base bS) (m_ld w ci k j)))[j]? = some (m_tv (m_ad base bS) (m_ld w ci k j)) := by
    rw [List.getElem?_map, List.getElem?_range (by rw [hN]; exact hj)]
    rfl
  have hP : va_P D mCl [(base + k, .inr (ci, (List.range (m_nf ci)).map (fun j => m_tv (m_ad base bS) (m_ld w ci k j))))] H := m_P1 hat
  show W p l e R s m args below meth c H locs _ _ QQ (F0 m pc lsA (.ref (m_ad base bS k) :: st.map (m_tv (m_ad base bS))))
  rw [e0]
  rcases hlink with hl1 | ⟨host, hl1⟩
  · exact va_get (ci := ci) hx hb hts hin hown hK hP 0 rfl hc j hj hl1 (fun _ h => h) hv hd (kk h1 h2 h3 H locs lsA hl hh hS)
  · exact va_getN (ci := ci) hx hb hts hin hown hK hP 0 rfl hc j hj hl1 (fun _ h => h) hv hd (kk h1 h2 h3 H locs lsA hl hh hS)
theorem mv_pf (hx : p.tables.exec = Jvm.exec) (hb : c.code = cc) {own C : String} {T : u_T} {N ci idx j k : Nat} {ty : Nat → FieldType} (hts : ∀ x ∈ m_W0, x.before args s = true) (hown : s.vm.findClass own = some m.cls) (hK : va_K D mCl (m_ty cA) s) (hF : m_ff ci C T N ty) (hj : j < N) (hlink : m_lf args s own idx T j) (hfin : (T j).2.2.2 = false ∨ ((T j).2.2.2 = true ∧ meth.name = "<init>" ∧ (T j).1 = own ∧ (Cond.fieldLink own idx (T j).1 (T j).2.1 (T j).2.2.1).before args s = true)) (hk : w.1[k]? = some (0, ci)) (hd : decode cc pc = .ok (.putfield idx, 3))
    {v : mV} {w' : mW} (hw1 : w'.1 = w.1) (hw2 : ∀ a, a ≠ k → w'.2.1 a = w.2.1 a ∧ w'.2.2 a = w.2.2 a) (hself : ∀ i, i < N → m_ld w' ci k i = if i = j then v else m_ld w ci k i) (hn : narrow (ty j) (m_tv (m_ad base bS) v) = m_tv (m_ad base bS) v) (hfit : fits (ty j) (m_tv (m_ad base bS) v) = true) (kk : m_V D cA base bS L p l e R s m args below meth c nL N0 S0 QQ (pc + 3) ls st w') : m_V D cA base bS L p l e R s m args below meth c nL N0 S0 QQ pc ls (v :: .inr (some k) :: st) w := by
  intro h1 h2 h3 H locs lsA hl hh hS
  obtain ⟨hc, hN, hin, hty, hnm, -⟩ := hF
  have hat := hh.2.2.2 k (0, ci) hk
  have e0 : m_ad base bS k = base + k := m_ad_lt (hh.lt hk)
  have hap := va_apart (own := own) hts hin ty hty hnm hK hc
  obtain ⟨r, h1', cell, q1, q2, q3, q4⟩ := hat
  have hr : r = (C, T, N) := Option.some.inj (h1'.symm.trans hc)
  subst hr
  obtain ⟨hS', hfc, kC, hkC, hkind⟩ := hK.1 ci _ hc
  obtain ⟨cf, kf, fi, f, hi, hsl⟩ := hS' j hj
  have hst := (u_facts hfc hkC (u_lays hts hin hj) hi).1
  have hlay := hts _ (hin _ (u_in_lay hj))
  unfold u_lay at hlay
  have key : ∀ H' : Heap, H'[base + k]? = some (cell.setSlot (D.2 ci j) (m_tv (m_ad base bS) v)) → H'.size = H.size → (∀ q, q ≠ base + k → H'[q]? = H[q]?) → W p l e R s m args below meth c H' (locs ++ [⟨base + k, D.2 ci j⟩]) (w.1.length - N0) (m_sl w.1 - S0) QQ (F0 m (pc + 3) lsA (st.map (m_tv (m_ad base bS)))) := by
    intro H' e1 e2 e3
    have hh' : m_hd D cA base bS L s w' H' := by
      refine hh.upd hk hw1 hw2 e2 e3 ⟨_, hc, t_OB.to (V := updV (vp_V ((List.range (m_nf ci)).map (fun j => m_tv (m_ad base bS) (m_ld w ci k j)))) j (m_tv (m_ad base bS) v)) ⟨_, e1, q2, q3, t_set q4 hap hj _⟩ (fun i hi => ?_)⟩
      show updV _ j _ i = vp_V ((List.range (m_nf ci)).map (fun j => m_tv (m_ad base bS) (m_ld w' ci k j))) i
      have hi' : i < m_nf ci := by rw [hN]; exact hi
      rw [m_vp hi', hself i hi]
      unfold updV
      by_cases hij : i = j
      · rw [if_pos hij, if_pos hij]
      · rw [if_neg hij, if_neg hij, m_vp hi']
    have := kk h1 (by rw [hw1]; exact h2) (by rw [hw1]; exact h3) H' _ lsA hl hh' (hS.put (k := D.2 ci j) e2 e3 (Nat.le_add_right base k))
    rw [hw1] at this
    exact this
  show W p l e R s m args below meth c H locs _ _ QQ (F0 m pc lsA (m_tv (m_ad base bS) v :: .ref (m_ad base bS k) :: st.map (m_tv (m_ad base bS))))
  rw [e0]
  rcases hfin with hfin | ⟨hfin, hin2, hdecl, hl1⟩
  · rw [if_neg (by rw [hfin]; decide)] at hlay
    have h6 := u_store hfc hkC hkind hlay hi (hty j hj) hn hfit
    rcases hlink with hl1 | ⟨host, hl1⟩
    · refine W.putK hx hb (f := f) ⟨hown, hl1, ⟨_, _, _, hi⟩, hst⟩ (by rw [q2]; exact h6) q1 q3 (by rw [hsl]; exact k2_hasslot (q4 j hj)) rfl rfl hd fun H' e1 e2 e3 => ?_
      rw [hsl] at e1 ⊢
      exact key H' e1 e2 e3
    · refine va_WputK hx hb (f := f) hown hl1 hi hst (by rw [q2]; exact h6) q1 q3 (by rw [hsl]; exact k2_hasslot (q4 j hj)) rfl rfl hd fun H' e1 e2 e3 => ?_
      rw [hsl] at e1 ⊢
      exact key H' e1 e2 e3
  · rw [if_pos hfin] at hlay
    have hcf : m.cls = cf := by
      obtain ⟨_, _, c', _, _, _, -, -, hf', -, -, -, hown2, -⟩ := Cond.laysFinal_spec hlay
      have e1 : c' = cf := by have := hi.symm.trans hf'; simp at this; exact this.1.symm
      rw [hdecl] at hown2
      rw [← e1]; exact Option.some.inj (hown.symm.trans hown2)
    have h6 := u_fits hfc hkC hkind (Or.inr hlay) hi (hty j hj) hn hfit
    refine W.putFinK hx hb hown hl1 hi hst hcf hin2 (by rw [q2]; exact h6) q1 q3 (by rw [hsl]; exact k2_hasslot (q4 j hj)) rfl rfl hd fun H' e1 e2 e3 => ?_
    rw [hsl] at e1 ⊢
    exact key H' e1 e2 e3
theorem mv_xi (hx : p.tables.exec = Jvm.exec) (hb : c.code = cc) (hK : va_K D mCl (m_ty cA) s) {i : Int32} {k n : Nat} (hk : w.1[k]? = some (1, n)) (hi : ¬ (i < 0 ∨ n ≤ i.toNatClampNeg)) (hd : decode cc pc = .ok (.iaload, 1)) (kk : m_V D cA base bS L p l e R s m args below meth c nL N0 S0 QQ (pc + 1) ls (.inl (w.2.1 k i.toNatClampNeg) :: st) w) : m_V D cA base bS L p l e R s m args below meth c nL N0 S0 QQ pc ls (.inl i :: .inr (some k) :: st) w := by
  intro h1 h2 h3 H locs lsA hl hh hS
  have hat : va_at D mCl (base + k, .inl (cA 1, n, .inl (w.2.1 k))) H := hh.2.2.2 k (1, n) hk
  show W p l e R s m args below meth c H locs _ _ QQ (F0 m pc lsA (.int i :: .ref (m_ad base bS k) :: st.map (m_tv (m_ad base bS))))
  rw [m_ad_lt (hh.lt hk)]
  exact va_iald hx hb hK (m_P1 hat) 0 0 rfl rfl hi hd (kk h1 h2 h3 H locs lsA hl hh hS)
theorem mv_xs (hx : p.tables.exec = Jvm.exec) (hb : c.code = cc) {i : Int32} (hi : ¬ (i < 0 ∨ (w.2.1 1000001 0).toNatClampNeg ≤ i.toNatClampNeg)) (hd : decode cc pc = .ok (.iaload, 1)) (kk : m_V D cA base bS L p l e R s m args below meth c nL N0 S0 QQ (pc + 1) ls (.inl (w.2.1 1000000 i.toNatClampNeg) :: st) w) : m_V D cA base bS L p l e R s m args below meth c nL N0 S0 QQ pc ls (.inl i :: .inr (some 1000000) :: st) w := by
  intro h1 h2 h3 H locs lsA hl hh hS
  obtain ⟨-, -, ⟨-, hL, h5, ⟨scr, g1, g2, g3, g4, g5⟩, -⟩, -⟩ := id hh
  have hL2 : (w.2.1 1000001 0).toNatClampNeg = L := by rw [h5]; exact nI_clamp hL
  rw [hL2] at hi
  have hlt : i.toNatClampNeg < L := Nat.not_le.mp fun q => hi (Or.inr q)
  show W p l e R s m args below meth c H locs _ _ QQ (F0 m pc lsA (.int i :: .ref bS :: st.map (m_tv (m_ad base bS))))
  exact W.iald (v := .int (w.2.1 1000000 i.toNatClampNeg)) hx hb g1 g2 g3 (by rw [g4]; exact hi) (g5 _ hlt) rfl rfl hd (kk h1 h2 h3 H locs lsA hl hh hS)
theorem mv_xb (hx : p.tables.exec = Jvm.exec) (hb : c.code = cc) (hK : va_K D mCl (m_ty cA) s) {i : Int32} {k n : Nat} (hk : w.1[k]? = some (2, n)) (hi : ¬ (i < 0 ∨ n ≤ i.toNatClampNeg)) (hd : decode cc pc = .ok (.baload, 1)) (kk : m_V D cA base bS L p l e R s m args below meth c nL N0 S0 QQ (pc + 1) ls (.inl (w.2.1 k i.toNatClampNeg) :: st) w) : m_V D cA base bS L p l e R s m args below meth c nL N0 S0 QQ pc ls (.inl i :: .inr (some k) :: st) w := by
  intro h1 h2 h3 H locs lsA hl hh hS
  have hat : va_at D mCl (base + k, .inl (cA 2, n, .inl (w.2.1 k))) H := hh.2.2.2 k (2, n) hk
  show W p l e R s m args below meth c H locs _ _ QQ (F0 m pc lsA (.int i :: .ref (m_ad base bS k) :: st.map (m_tv (m_ad base bS))))
  rw [m_ad_lt (hh.lt hk)]
  exact va_zald hx hb hK (m_P1 hat) 0 1 rfl rfl hi hd (kk h1 h2 h3 H locs lsA hl hh hS)
theorem mv_xa (hx : p.tables.exec = Jvm.exec) (hb : c.code = cc) (hK : va_K D mCl (m_ty cA) s) {i : Int32} {k n t : Nat} (ht : t = 3 ∨ t = 4) (hk : w.1[k]? = some (t, n)) (hi : ¬ (i < 0 ∨ n ≤ i.toNatClampNeg)) (hd : decode cc pc = .ok (.aaload, 1)) (kk : m_V D cA base bS L p l e R s m args below meth c nL N0 S0 QQ (pc + 1) ls (.inr (w.2.2 k i.toNatClampNeg) :: st) w) : m_V D cA base bS L p l e R s m args below meth c nL N0 S0 QQ pc ls (.inl i :: .inr (some k) :: st) w := by
  intro h1 h2 h3 H locs lsA hl hh hS
  have e0 := m_ad_lt (base := base) (bS := bS) (hh.lt hk)
  rcases ht with rfl | rfl
  · have hat : va_at D mCl (base + k, .inl (cA 3, n, .inr (.inr (.inr (.inr (fun i => (w.2.2 k i).map (m_ad base bS))))))) H := hh.2.2.2 k (3, n) hk
    show W p l e R s m args below meth c H locs _ _ QQ (F0 m pc lsA (.int i :: .ref (m_ad base bS k) :: st.map (m_tv (m_ad base bS))))
    rw [e0]
    exact va_aldq hx hb hK (m_P1 hat) 0 2 rfl rfl hi hd (kk h1 h2 h3 H locs lsA hl hh hS)
  · have hat : va_at D mCl (base + k, .inl (cA 4, n, .inr (.inr (.inr (.inr (fun i => (w.2.2 k i).map (m_ad base bS))))))) H := hh.2.2.2 k (4, n) hk
    show W p l e R s m args below meth c H locs _ _ QQ (F0 m pc lsA (.int i :: .ref (m_ad base bS k) :: st.map (m_tv (m_ad base bS))))
    rw [e0]
    exact va_aldq hx hb hK (m_P1 hat) 0 3 rfl rfl hi hd (kk h1 h2 h3 H locs lsA hl hh hS)
theorem m_si_row {f : Nat → Nat → Int32} {k j : Nat} {v : Int32} {a : Nat} (h : a ≠ k) : m_si f k j v a = f a := funext fun b => by simp [m_si, h]
theorem m_sr_row {f : Nat → Nat → Option Nat} {k j : Nat} {v : Option Nat} {a : Nat} (h : a ≠ k) : m_sr f k j v a = f a := funext fun b => by simp [m_sr, h]
theorem mv_yi (hx : p.tables.exec = Jvm.exec) (hb : c.code = cc) (hK : va_K D mCl (m_ty cA) s) {i x : Int32} {k n : Nat} (hk : w.1[k]? = some (1, n)) (hi : ¬ (i < 0 ∨ n ≤ i.toNatClampNeg)) (hd : decode cc pc = .ok (.iastore, 1)) (kk : m_V D cA base bS L p l e R s m args below meth c nL N0 S0 QQ (pc + 1) ls st (w.1, m_si w.2.1 k i.toNatClampNeg x, w.2.2)) : m_V D cA base bS L p l e R s m args below meth c nL N0 S0 QQ pc ls (.inl x :: .inl i :: .inr (some k) :: st) w := by
  intro h1 h2 h3 H locs lsA hl hh hS
  have hat : H[base + k]? = some (arrV (cA 1) n (fun j => .int (w.2.1 k j))) := hh.2.2.2 k (1, n) hk
  show W p l e R s m args below meth c H locs _ _ QQ (F0 m pc lsA (.int x :: .int i :: .ref (m_ad base bS k) :: st.map (m_tv (m_ad base bS))))
  rw [m_ad_lt (hh.lt hk)]
  refine W.iast hx hb hat ((hK.2 0 _ rfl).1 n (fun j => .int (w.2.1 k j))) (fun q => by cases q) (by rw [arrV_size]; exact hi) rfl rfl hd fun H1 e1 z oq => ?_
  refine kk h1 h2 h3 H1 _ lsA hl (hh.upd hk rfl (fun a ha => ⟨m_si_row ha, rfl⟩) z oq ?_) (hS.put z oq (Nat.le_add_right base k))
  show H1[base + k]? = some (arrV (cA 1) n (fun j => .int (m_si w.2.1 k i.toNatClampNeg x k j)))
  rw [e1, arrV_store]
  congr 2
  funext q
  by_cases hq : q = i.toNatClampNeg
  · subst hq
    simp [updV, m_si]
  · simp [updV, m_si, hq]
theorem mv_yb (hx : p.tables.exec = Jvm.exec) (hb : c.code = cc) (hK : va_K D mCl (m_ty cA) s) {i x : Int32} {k n : Nat} (hk : w.1[k]? = some (2, n)) (hxx : x = 0 ∨ x = 1) (hi : ¬ (i < 0 ∨ n ≤ i.toNatClampNeg)) (hd : decode cc pc = .ok (.bastore, 1)) (kk : m_V D cA base bS L p l e R s m args below meth c nL N0 S0 QQ (pc + 1) ls st (w.1, m_si w.2.1 k i.toNatClampNeg x, w.2.2)) : m_V D cA base bS L p l e R s m args below meth c nL N0 S0 QQ pc ls (.inl x :: .inl i :: .inr (some k) :: st) w := by
  intro h1 h2 h3 H locs lsA hl hh hS
  have hat : H[base + k]? = some (arrV (cA 2) n (fun j => .int (w.2.1 k j))) := hh.2.2.2 k (2, n) hk
  have hnar : narrow .boolean (.int x) = .int x := by rcases hxx with rfl | rfl <;> rfl
  show W p l e R s m args below meth c H locs _ _ QQ (F0 m pc lsA (.int x :: .int i :: .ref (m_ad base bS k) :: st.map (m_tv (m_ad base bS))))
  rw [m_ad_lt (hh.lt hk)]
  refine W.zast hx hb hat ((hK.2 1 _ rfl).1 n (fun j => .int (w.2.1 k j))) (fun q => by cases q) (by rw [arrV_size]; exact hi) rfl rfl hd fun H1 e1 z oq => ?_
  refine kk h1 h2 h3 H1 _ lsA hl (hh.upd hk rfl (fun a ha => ⟨m_si_row ha, rfl⟩) z oq ?_) (hS.put z oq (Nat.le_add_right base k))
  show H1[base + k]? = some (arrV (cA 2) n (fun j => .int (m_si w.2.1 k i.toNatClampNeg x k j)))
  rw [e1, hnar, arrV_store]
  congr 2
  funext q
  by_cases hq : q = i.toNatClampNeg
  · subst hq
    simp [updV, m_si]
  · simp [updV, m_si, hq]
theorem mv_ya (hx : p.tables.exec = Jvm.exec) (hb : c.code = cc) (hK : va_K D mCl (m_ty cA) s) {i : Int32} {k n t v ci : Nat} {T : u_T} {N : Nat} {C : String} {ty : Nat → FieldType} (t0 : Nat) (ht0 : (m_ty cA)[t0]? = some (cA t, .object C)) (ht : t = 3 ∨ t = 4) (hF : m_ff ci C T N ty) (hk : w.1[k]? = some (t, n)) (hv : w.1[v]? = some (0, ci)) (hi : ¬ (i < 0 ∨ n ≤ i.toNatClampNeg)) (hd : decode cc pc = .ok (.aastore, 1)) (kk : m_V D cA base bS L p l e R s m args below meth c nL N0 S0 QQ (pc + 1) ls st (w.1, w.2.1, m_sr w.2.2 k i.toNatClampNeg (some v))) : m_V D cA base bS L p l e R s m args below meth c nL N0 S0 QQ pc ls (.inr (some v) :: .inl i :: .inr (some k) :: st) w := by
  intro h1 h2 h3 H locs lsA hl hh hS
  have hce : ∀ (w1 : mW), m_ce cA (m_ad base bS) w1 k (t, n) = .inl (cA t, n, .inr (.inr (.inr (.inr (fun i => (w1.2.2 k i).map (m_ad base bS)))))) := by
    intro w1
    rcases ht with rfl | rfl <;> rfl
  have hat := hh.2.2.2 k (t, n) hk
  rw [hce] at hat
  have hat : H[base + k]? = some (arrV (cA t) n (fun j => va_rf ((w.2.2 k j).map (m_ad base bS)))) := hat
  obtain ⟨r', hr', cellV, g1, g2, g3, -⟩ := hh.2.2.2 v (0, ci) hv
  have hcls := (hK.1 ci _ hF.1).2
  obtain ⟨kA, comp, k1, k2, k3, -⟩ := (hK.2 t0 _ ht0).2
  have hcomp : comp = D.1 ci := Option.some.inj (k3.symm.trans hcls.1)
  subst hcomp
  obtain ⟨kC, hkC, -⟩ := hcls.2
  have hlt : i.toNatClampNeg < n := Nat.not_le.mp fun q => hi (Or.inr q)
  have h0 : ¬ i < 0 := fun q => hi (Or.inl q)
  show W p l e R s m args below meth c H locs _ _ QQ (F0 m pc lsA (.ref (m_ad base bS v) :: .int i :: .ref (m_ad base bS k) :: st.map (m_tv (m_ad base bS))))
  rw [m_ad_lt (hh.lt hk), m_ad_lt (hh.lt hv)]
  refine W.aast hx hb hat (fun q h => by cases h) (fun h => by cases h) k1 k2 rfl hkC ⟨h0, by rw [arrV_size]; exact hlt⟩ g1 (fun q h => by rw [g3] at h; cases h) (by rw [g2]; exact hkC) (by rw [g2]; exact va_assign hcls) rfl rfl hd fun H1 e1 z oq => ?_
  refine kk h1 h2 h3 H1 _ lsA hl (hh.upd hk rfl (fun a ha => ⟨rfl, m_sr_row ha⟩) z oq ?_) (hS.put z oq (Nat.le_add_right base k))
  rw [hce]
  show H1[base + k]? = some (arrV (cA t) n (fun j => va_rf ((m_sr w.2.2 k i.toNatClampNeg (some v) k j).map (m_ad base bS))))
  rw [e1, arrV_store]
  congr 2
  funext q
  by_cases hq : q = i.toNatClampNeg
  · subst hq
    simp [updV, m_sr, va_rf, m_ad_lt (hh.lt hv)]
  · simp [updV, m_sr, hq]
theorem mv_al (hx : p.tables.exec = Jvm.exec) (hb : c.code = cc) (hK : va_K D mCl (m_ty cA) s) {k n t : Nat} (ht : t = 1 ∨ t = 2 ∨ t = 3 ∨ t = 4) (hk : w.1[k]? = some (t, n)) (hd : decode cc pc = .ok (.arraylength, 1)) (kk : m_V D cA base bS L p l e R s m args below meth c nL N0 S0 QQ (pc + 1) ls (.inl (Int32.ofNat n) :: st) w) : m_V D cA base bS L p l e R s m args below meth c nL N0 S0 QQ pc ls (.inr (some k) :: st) w := by
  intro h1 h2 h3 H locs lsA hl hh hS
  have hat := hh.2.2.2 k (t, n) hk
  show W p l e R s m args below meth c H locs _ _ QQ (F0 m pc lsA (.ref (m_ad base bS k) :: st.map (m_tv (m_ad base bS))))
  rw [m_ad_lt (hh.lt hk)]
  rcases ht with rfl | rfl | rfl | rfl
  · exact va_alen hx hb hK (m_P1 hat) 0 0 rfl rfl rfl hd (kk h1 h2 h3 H locs lsA hl hh hS)
  · exact va_alen hx hb hK (m_P1 hat) 0 1 rfl rfl rfl hd (kk h1 h2 h3 H locs lsA hl hh hS)
  · exact va_alen hx hb hK (m_P1 hat) 0 2 rfl rfl rfl hd (kk h1 h2 h3 H locs lsA hl hh hS)
  · exact va_alen hx hb hK (m_P1 hat) 0 3 rfl rfl rfl hd (kk h1 h2 h3 H locs lsA hl hh hS)
theorem mv_as (hx : p.tables.exec = Jvm.exec) (hb : c.code = cc) (hd : decode cc pc = .ok (.arraylength, 1)) (kk : m_V D cA base bS L p l e R s m args below meth c nL N0 S0 QQ (pc + 1) ls (.inl (w.2.1 1000001 0) :: st) w) : m_V D cA base bS L p l e R s m args below meth c nL N0 S0 QQ pc ls (.inr (some 1000000) :: st) w := by
  intro h1 h2 h3 H locs lsA hl hh hS
  have hk := kk h1 h2 h3 H locs lsA hl hh hS
  obtain ⟨-, -, ⟨-, hL, h5, ⟨scr, g1, g2, g3, g4, g5⟩, -⟩, -⟩ := id hh
  rw [h5] at hk
  show W p l e R s m args below meth c H locs _ _ QQ (F0 m pc lsA (.ref bS :: st.map (m_tv (m_ad base bS))))
  exact W.alen (n := Int32.ofNat L) hx hb g1 g2 (by rw [g4] <;> rfl) rfl rfl hd hk
theorem m_sl_app (l : List (Nat × Nat)) (h : Nat × Nat) : m_sl (l ++ [h]) = m_sl l + m_sz h := by
  unfold m_sl
  rw [List.map_append, List.sum_append]
  simp
theorem mv_new (hx : p.tables.exec = Jvm.exec) (hb : c.code = cc) {own C : String} {T : u_T} {N ci idx : Nat} {ty : Nat → FieldType} (hts : ∀ x ∈ m_W0, x.before args s = true) (hown : s.vm.findClass own = some m.cls) (hK : va_K D mCl (m_ty cA) s) (hF : m_ff ci C T N ty) (hcl : (Cond.classLink own idx C).before args s = true) (hinst : (Cond.instantiable C N).before args s = true) (hini : (Cond.initialized C).before args s = true) (hc1 : w.1.length + 1 ≤ N0 + R.cells) (hc2 : m_sl w.1 + m_sz (0, ci) ≤ S0 + R.slots) (hc3 : w.1.length < 1000000) (hd : decode cc pc = .ok (.new idx, 3))
    (kk : m_V D cA base bS L p l e R s m args below meth c nL N0 S0 QQ (pc + 3) ls (.inr (some w.1.length) :: st) (w.1 ++ [(0, ci)], m_zi w.2.1 w.1.length, m_zr w.2.2 w.1.length)) : m_V D cA base bS L p l e R s m args below meth c nL N0 S0 QQ pc ls st w := by
  intro h1 h2 h3 H locs lsA hl hh hS
  obtain ⟨hc, hN, hin, hty, -, hfk⟩ := hF
  have hsz : m_sz (0, ci) = N := hN
  rw [hsz] at hc2
  have hKn := hK.1 ci _ hc
  refine W.newcK hx hb hown hcl hinst hini rfl hd (by omega) (by omega) hKn.2.1 hh.1 fun H1 kC hkC e1 z1 o1 => ?_
  have hh' : m_hd D cA base bS L s (w.1 ++ [(0, ci)], m_zi w.2.1 w.1.length, m_zr w.2.2 w.1.length) H1 := by
    refine hh.push hc3 (by rw [z1, hh.1]) (fun q hq => o1 q (by rw [← hh.1]; exact hq)) ⟨_, hc, (u_born ty hts hin hKn hkC e1 hty).to (fun j hj => ?_)⟩
    show defaultValue (ty j) = vp_V ((List.range (m_nf ci)).map _) j
    rw [m_vp (by rw [hN]; exact hj)]
    have h9 := hfk j hj
    unfold m_ld
    generalize m_ft ci j = f9 at h9 ⊢
    generalize ty j = t9 at h9 ⊢
    unfold m_fk at h9
    split at h9
    · simp [m_zi, m_tv, defaultValue]
    · simp [m_zi, m_tv, defaultValue]
    · simp [m_zr, m_tv, defaultValue, va_rf]
    · simp [m_zr, m_tv, defaultValue, va_rf]
    · cases h9
  have hS' : va_S (fun q => base ≤ q) s.heap H1 locs := ⟨Nat.le_trans hS.1 (by rw [z1, hh.1]; omega), fun q g1 g2 => by rw [o1 q (by rw [← hh.1]; exact Nat.lt_of_lt_of_le g1 hS.1)]; exact hS.2.1 q g1 g2, hS.2.2⟩
  have hk := kk h1 (by show N0 ≤ (w.1 ++ [(0, ci)]).length; rw [List.length_append]; omega) (by show S0 ≤ m_sl (w.1 ++ [(0, ci)]); rw [m_sl_app]; omega) H1 locs lsA hl hh' hS'
  refine W.cs (cells' := (w.1 ++ [(0, ci)]).length - N0) (slots' := m_sl (w.1 ++ [(0, ci)]) - S0) (by rw [List.length_append]; simp only [List.length_cons, List.length_nil]; omega) (by rw [m_sl_app, hsz]; omega) ?_
  have e9 : m_tv (m_ad base bS) (.inr (some w.1.length)) = .ref (base + w.1.length) := by show Value.ref (m_ad base bS w.1.length) = _; rw [m_ad_lt hc3]
  have hk : W p l e R s m args below meth c H1 locs _ _ QQ (F0 m (pc + 3) lsA (m_tv (m_ad base bS) (.inr (some w.1.length)) :: st.map (m_tv (m_ad base bS)))) := hk
  rw [e9] at hk
  exact hk
theorem mv_newa (hx : p.tables.exec = Jvm.exec) (hb : c.code = cc) {at_ : ArrayType} {t t0 : Nat} {fty : FieldType} (hat : newarray.typeOf at_ = fty) (htt : (at_ = .int ∧ t = 1 ∧ t0 = 0) ∨ (at_ = .boolean ∧ t = 2 ∧ t0 = 1)) (harr : (Cond.arrayClass (newarray.typeOf at_)).before args s = true) (hK : va_K D mCl (m_ty cA) s) {n : Int32} (hn : ¬ n < 0) (hn2 : n.toNatClampNeg ≤ 1000) (hc1 : w.1.length + 1 ≤ N0 + R.cells) (hc2 : m_sl w.1 + m_sz (t, n.toNatClampNeg) ≤ S0 + R.slots) (hc3 : w.1.length < 1000000) (hd : decode cc pc = .ok (.newarray at_, 2))
    (kk : m_V D cA base bS L p l e R s m args below meth c nL N0 S0 QQ (pc + 2) ls (.inr (some w.1.length) :: st) (w.1 ++ [(t, n.toNatClampNeg)], m_zi w.2.1 w.1.length, m_zr w.2.2 w.1.length)) : m_V D cA base bS L p l e R s m args below meth c nL N0 S0 QQ pc ls (.inl n :: st) w := by
  intro h1 h2 h3 H locs lsA hl hh hS
  have hsz : m_sz (t, n.toNatClampNeg) = n.toNatClampNeg := by rcases htt with ⟨-, rfl, -⟩ | ⟨-, rfl, -⟩ <;> rfl
  rw [hsz] at hc2
  have hby : n.toNatClampNeg * componentBytes (newarray.typeOf at_) ≤ 536870912 := by
    rcases htt with ⟨rfl, -, -⟩ | ⟨rfl, -, -⟩
    · show n.toNatClampNeg * 4 ≤ 536870912
      omega
    · show n.toNatClampNeg * 1 ≤ 536870912
      omega
  refine va_newaK hx hb harr rfl hd rfl hn rfl hby (by omega) (by omega) hh.1 fun H1 cA' e1 z1 o1 hAr hNm => ?_
  have hca : cA' = cA t := by
    rcases htt with ⟨rfl, rfl, rfl⟩ | ⟨rfl, rfl, rfl⟩
    · have h9 : s.vm.findClass ("[" ++ FieldType.int.toString) = some (cA 1) := (hK.2 0 _ rfl).2
      exact Option.some.inj (hNm.symm.trans h9)
    · have h9 : s.vm.findClass ("[" ++ FieldType.boolean.toString) = some (cA 2) := (hK.2 1 _ rfl).2
      exact Option.some.inj (hNm.symm.trans h9)
  subst hca
  have hh' : m_hd D cA base bS L s (w.1 ++ [(t, n.toNatClampNeg)], m_zi w.2.1 w.1.length, m_zr w.2.2 w.1.length) H1 := by
    refine hh.push hc3 (by rw [z1, hh.1]) (fun q hq => o1 q (by rw [← hh.1]; exact hq)) ?_
    have e8 : (fun j => Value.int (m_zi w.2.1 w.1.length w.1.length j)) = fun _ => Value.int 0 := funext fun j => by simp [m_zi]
    rcases htt with ⟨rfl, rfl, rfl⟩ | ⟨rfl, rfl, rfl⟩
    · show H1[base + w.1.length]? = some (arrV (cA 1) n.toNatClampNeg (fun j => Value.int (m_zi w.2.1 w.1.length w.1.length j)))
      rw [e8]
      exact e1
    · show H1[base + w.1.length]? = some (arrV (cA 2) n.toNatClampNeg (fun j => Value.int (m_zi w.2.1 w.1.length w.1.length j)))
      rw [e8]
      exact e1
  have hS' : va_S (fun q => base ≤ q) s.heap H1 locs := ⟨Nat.le_trans hS.1 (by rw [z1, hh.1]; omega), fun q g1 g2 => by rw [o1 q (by rw [← hh.1]; exact Nat.lt_of_lt_of_le g1 hS.1)]; exact hS.2.1 q g1 g2, hS.2.2⟩
  have hk := kk h1 (by show N0 ≤ (w.1 ++ [(t, n.toNatClampNeg)]).length; rw [List.length_append]; omega) (by show S0 ≤ m_sl (w.1 ++ [(t, n.toNatClampNeg)]); rw [m_sl_app]; omega) H1 locs lsA hl hh' hS'
  refine W.cs (cells' := (w.1 ++ [(t, n.toNatClampNeg)]).length - N0) (slots' := m_sl (w.1 ++ [(t, n.toNatClampNeg)]) - S0) (by rw [List.length_append]; simp only [List.length_cons, List.length_nil]; omega) (by rw [m_sl_app, hsz]; omega) ?_
  have e9 : m_tv (m_ad base bS) (.inr (some w.1.length)) = .ref (base + w.1.length) := by show Value.ref (m_ad base bS w.1.length) = _; rw [m_ad_lt hc3]
  have hk : W p l e R s m args below meth c H1 locs _ _ QQ (F0 m (pc + 2) lsA (m_tv (m_ad base bS) (.inr (some w.1.length)) :: st.map (m_tv (m_ad base bS)))) := hk
  rw [e9] at hk
  exact hk
theorem mv_newq (hx : p.tables.exec = Jvm.exec) (hb : c.code = cc) {own C : String} {idx t t0 : Nat} (hown : s.vm.findClass own = some m.cls) (hcl : (Cond.classLink own idx C).before args s = true) (hov : (Cond.arrayOver (.object C)).before args s = true) (ht : t = 3 ∨ t = 4) (ht0 : (m_ty cA)[t0]? = some (cA t, .object C)) (hK : va_K D mCl (m_ty cA) s) {n : Int32} (hn : ¬ n < 0) (hn2 : n.toNatClampNeg ≤ 1000) (hc1 : w.1.length + 1 ≤ N0 + R.cells) (hc2 : m_sl w.1 + m_sz (t, n.toNatClampNeg) ≤ S0 + R.slots) (hc3 : w.1.length < 1000000) (hd : decode cc pc = .ok (.anewarray idx, 3))
    (kk : m_V D cA base bS L p l e R s m args below meth c nL N0 S0 QQ (pc + 3) ls (.inr (some w.1.length) :: st) (w.1 ++ [(t, n.toNatClampNeg)], m_zi w.2.1 w.1.length, m_zr w.2.2 w.1.length)) : m_V D cA base bS L p l e R s m args below meth c nL N0 S0 QQ pc ls (.inl n :: st) w := by
  intro h1 h2 h3 H locs lsA hl hh hS
  have hsz : m_sz (t, n.toNatClampNeg) = n.toNatClampNeg := by rcases ht with rfl | rfl <;> rfl
  rw [hsz] at hc2
  refine W.anew hx hb hown hcl hov rfl hd rfl hn (by omega) (by omega) (by omega) fun cA' kA comp f1 f2 f3 f4 => ?_
  generalize hH1 : H.push ({ cls := cA', slots := Array.replicate n.toNatClampNeg .null, vm := .none } : Cell) = H1
  have z1 : H1.size = H.size + 1 := by rw [← hH1, Array.size_push]
  have e1 : H1[H.size]? = some (arrV cA' n.toNatClampNeg (fun _ => .null)) := by rw [← hH1, Array.getElem?_push_size, ← arrV_new]
  have o1 : ∀ q : Nat, q < H.size → H1[q]? = H[q]? := fun q hq => by rw [← hH1, Array.getElem?_push, if_neg (Nat.ne_of_lt hq)]
  have hca : cA' = cA t := by
    obtain ⟨_, _, _, _, _, h9⟩ := (hK.2 t0 _ ht0).2
    exact Option.some.inj (f1.symm.trans h9)
  subst hca
  have hh' : m_hd D cA base bS L s (w.1 ++ [(t, n.toNatClampNeg)], m_zi w.2.1 w.1.length, m_zr w.2.2 w.1.length) H1 := by
    refine hh.push hc3 z1 o1 ?_
    have e8 : (fun j => va_rf ((m_zr w.2.2 w.1.length w.1.length j).map (m_ad base bS))) = fun _ => Value.null := funext fun j => by simp [m_zr, va_rf]
    rw [hh.1] at e1
    rcases ht with rfl | rfl
    · show H1[base + w.1.length]? = some (arrV (cA 3) n.toNatClampNeg (fun j => va_rf ((m_zr w.2.2 w.1.length w.1.length j).map (m_ad base bS))))
      rw [e8]
      exact e1
    · show H1[base + w.1.length]? = some (arrV (cA 4) n.toNatClampNeg (fun j => va_rf ((m_zr w.2.2 w.1.length w.1.length j).map (m_ad base bS))))
      rw [e8]
      exact e1
  have hS' : va_S (fun q => base ≤ q) s.heap H1 locs := ⟨Nat.le_trans hS.1 (by rw [z1]; omega), fun q g1 g2 => by rw [o1 q (Nat.lt_of_lt_of_le g1 hS.1)]; exact hS.2.1 q g1 g2, hS.2.2⟩
  have hk := kk h1 (by show N0 ≤ (w.1 ++ [(t, n.toNatClampNeg)]).length; rw [List.length_append]; omega) (by show S0 ≤ m_sl (w.1 ++ [(t, n.toNatClampNeg)]); rw [m_sl_app]; omega) H1 locs lsA hl hh' hS'
  refine W.cs (cells' := (w.1 ++ [(t, n.toNatClampNeg)]).length - N0) (slots' := m_sl (w.1 ++ [(t, n.toNatClampNeg)]) - S0) (by rw [List.length_append]; simp only [List.length_cons, List.length_nil]; omega) (by rw [m_sl_app, hsz]; omega) ?_
  have e9 : m_tv (m_ad base bS) (.inr (some w.1.length)) = .ref H.size := by show Value.ref (m_ad base bS w.1.length) = _; rw [m_ad_lt hc3, hh.1]
  have hk : W p l e R s m args below meth c H1 locs _ _ QQ (F0 m (pc + 3) lsA (m_tv (m_ad base bS) (.inr (some w.1.length)) :: st.map (m_tv (m_ad base bS)))) := hk
  rw [e9] at hk
  exact hk
end MH
section MM
variable {D : va_G} {cA : Nat → ClassId} {base bS L : Nat} {p : Program} {l : Launch} {e : Env} {R : Room} {s : State} {m : MethodId} {args : Array Value} {below : List Frame} {meth : Method} {c : Code} {nL N0 S0 : Nat} {QQ : State → Prop} {pc : Nat} {ls : mL} {st : mS} {w : mW} {cc : ByteArray}
theorem m_lf_of (ok : ∀ x ∈ m_W0, x.before args s = true) (hN : m_ne s) {own : String} {idx : Nat} {T : u_T} {j : Nat} (h : m_lkw own idx T j) : m_lf args s own idx T j := by
  rcases h with h | ⟨host, h⟩
  · exact Or.inl (ok _ h)
  · exact Or.inr ⟨host, va_Nw.use rfl (hN _ h rfl)⟩
theorem m_lm_of (ok : ∀ x ∈ m_W0, x.before args s = true) (hN : m_ne s) {own : String} {idx : Nat} {y : MethodName} (h : m_lmw own idx y) : m_lm args s own idx y := by
  rcases h with h | ⟨host, h⟩
  · exact Or.inl (ok _ h)
  · exact Or.inr ⟨host, hN _ h rfl⟩
def m_fnw (me idx : Nat) (T : u_T) (j : Nat) : Prop := (T j).2.2.2 = false ∨ ((T j).2.2.2 = true ∧ (m_mn me).name = "<init>" ∧ (T j).1 = m_on me ∧ Cond.fieldLink (m_on me) idx (T j).1 (T j).2.1 (T j).2.2.1 ∈ m_W0)
theorem m_fin_of (ok : ∀ x ∈ m_W0, x.before args s = true) {me idx : Nat} {T : u_T} {j : Nat} (hinit : (m_mn me).name = "<init>" → meth.name = "<init>") (h : m_fnw me idx T j) : (T j).2.2.2 = false ∨ ((T j).2.2.2 = true ∧ meth.name = "<init>" ∧ (T j).1 = m_on me ∧ (Cond.fieldLink (m_on me) idx (T j).1 (T j).2.1 (T j).2.2.1).before args s = true) := by
  rcases h with h | ⟨h1, h2, h3, h4⟩
  · exact Or.inl h
  · exact Or.inr ⟨h1, hinit h2, h3, ok _ h4⟩
theorem m_ao_of (hN : m_ne s) {C : String} (h : Cond.arrayOver (.object C) ∈ lw_tbl) : (Cond.arrayOver (.object C)).before args s = true := va_AO.use (hN _ h rfl)
theorem mv_oi (hx : p.tables.exec = Jvm.exec) (hb : c.code = cc) (hml : c.maxLocals = nL) {own : String} {idx b : Nat} (hR1 : 1 ≤ R.frames) (hR2 : 20 ≤ R.locals) (hown : s.vm.findClass own = some m.cls) (k1 : (Cond.methodLink own idx Lib.objectInit).before args s = true) (k2 : (Cond.instanceMethod Lib.objectInit).before args s = true) (k3 : (Cond.code Lib.objectInit ⟨#[0xb1]⟩ 1 none).before args s = true) (hc : st.length ≤ 8) (hd : decode cc pc = .ok (.invokespecial idx, 3)) (kk : m_V D cA base bS L p l e R s m args below meth c nL N0 S0 QQ (pc + 3) ls st w) : m_V D cA base bS L p l e R s m args below meth c nL N0 S0 QQ pc ls (.inr (some b) :: st) w := by
  intro h1 h2 h3 H locs lsA hl hh hS
  show W p l e R s m args below meth c H locs _ _ QQ (F0 m pc lsA (.ref (m_ad base bS b) :: st.map (m_tv (m_ad base bS))))
  refine W.objInit hx hb hown k1 k2 k3 rfl (by rw [hml]; exact hl.1.1) rfl hd hR1 ?_ (kk h1 h2 h3 H locs lsA hl hh hS)
  have h9 : 2 * (F0 m pc lsA (.ref (m_ad base bS b) :: st.map (m_tv (m_ad base bS)))).monitorRoom + ((st.map (m_tv (m_ad base bS))).map fun v => v.category).sum ≤ 8 := lv_room (by rw [m_cats]; exact hc)
  omega
end MM
