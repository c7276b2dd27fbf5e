/-! The small machine is sound: addresses, values, cells, the world in the heap, locals -/
def m_ad (base bS : Nat) : Nat → Nat := fun k => if k = 1000000 then bS else base + k
theorem m_ad_lt {base bS k : Nat} (h : k < 1000000) : m_ad base bS k = base + k := if_neg (Nat.ne_of_lt h)
def m_tv (ad : Nat → Nat) : mV → Value
  | .inl x => .int x
  | .inr r => va_rf (r.map ad)
theorem m_tv_cat (ad : Nat → Nat) (v : mV) : (m_tv ad v).category = 1 := by
  rcases v with x | (_ | r) <;> rfl
theorem m_cats (ad : Nat → Nat) (st : mS) : ((st.map (m_tv ad)).map fun v => v.category).sum = st.length := by
  induction st with
  | nil => rfl
  | cons a st ih =>
    rw [List.map_cons, List.map_cons, List.sum_cons, ih, m_tv_cat, List.length_cons]
    omega
def m_ce (cA : Nat → ClassId) (ad : Nat → Nat) (w : mW) (k : Nat) (h : Nat × Nat) : va_E :=
  if h.1 = 0 then .inr (h.2, (List.range (m_nf h.2)).map (fun j => m_tv ad (m_ld w h.2 k j)))
  else if h.1 ≤ 2 then .inl (cA h.1, h.2, .inl (w.2.1 k))
  else .inl (cA h.1, h.2, .inr (.inr (.inr (.inr (fun i => (w.2.2 k i).map ad)))))
theorem m_ce_congr {cA : Nat → ClassId} {ad : Nat → Nat} {w w' : mW} {k : Nat} {h : Nat × Nat} (h1 : w.2.1 k = w'.2.1 k) (h2 : w.2.2 k = w'.2.2 k) : m_ce cA ad w k h = m_ce cA ad w' k h := by
  unfold m_ce m_ld
  rw [h1, h2]
/-- the static table of the first classes' parents -/
def m_fpv : Nat → Value := fun j => .int (([-1, 0, 0, 2, 3, 3, 3, 3, 3, 1] : List Int32).getD j 0)
def m_sp (base : Nat) (U : State) (H : Heap) : Prop := ∃ t : Nat, va_Z "PropagationDesk" "FIRST_PARENTS" "[I" (.ref t) (fun q => base ≤ q) U H ∧ va_T .int t 10 m_fpv (fun q => base ≤ q) U H
theorem m_sp.moved {base : Nat} {u U : State} {H : Heap} (hvm : u.vm.Alike U.vm) (h : m_sp base u H) : m_sp base U H := by
  obtain ⟨t, h1, h2⟩ := h
  exact ⟨t, h1.moved hvm, h2.moved hvm⟩
theorem m_sp.kept {base : Nat} {U : State} {H H1 : Heap} (h : m_sp base U H) (hq : ∀ a : Nat, a < H.size → ¬ base ≤ a → H1[a]? = H[a]?) : m_sp base U H1 := by
  obtain ⟨t, h1, h2⟩ := h
  exact ⟨t, h1.kept hq, h2.kept hq⟩
def m_hd (D : va_G) (cA : Nat → ClassId) (base bS L : Nat) (U : State) (w : mW) (H : Heap) : Prop :=
  H.size = base + w.1.length ∧ w.1.length ≤ 1000000 ∧ (bS < base ∧ L < 2 ^ 31 ∧ w.2.1 1000001 0 = Int32.ofNat L ∧ va_X bS L (w.2.1 1000000) U H ∧ m_sp base U H) ∧ ∀ (k : Nat) (h : Nat × Nat), w.1[k]? = some h → va_at D mCl (base + k, m_ce cA (m_ad base bS) w k h) H
theorem m_hd.moved {D : va_G} {cA : Nat → ClassId} {base bS L : Nat} {U U' : State} {w : mW} {H : Heap} (hvm : U.vm.Alike U'.vm) (h : m_hd D cA base bS L U w H) : m_hd D cA base bS L U' w H := by
  obtain ⟨a1, a2, ⟨a3, a4, a5, a6, a8⟩, a7⟩ := h
  exact ⟨a1, a2, ⟨a3, a4, a5, a6.moved hvm, a8.moved hvm⟩, a7⟩
theorem m_hd.upd {D : va_G} {cA : Nat → ClassId} {base bS L : Nat} {U : State} {w w' : mW} {H H1 : Heap} {k : Nat} {h : Nat × Nat} (hh : m_hd D cA base bS L U w H) (hk : w.1[k]? = some h) (h1 : w'.1 = w.1) (h2 : ∀ a, a ≠ k → w'.2.1 a = w.2.1 a ∧ w'.2.2 a = w.2.2 a)
    (hz : H1.size = H.size) (ho : ∀ q, q ≠ base + k → H1[q]? = H[q]?) (he : va_at D mCl (base + k, m_ce cA (m_ad base bS) w' k h) H1) : m_hd D cA base bS L U w' H1 := by
  obtain ⟨a1, a2, ⟨a3, a4, a5, a6, a8⟩, a7⟩ := hh
  have hkl : k < w.1.length := (List.getElem?_eq_some_iff.mp hk).1
  have e1 := h2 1000000 (by omega)
  have e2 := h2 1000001 (by omega)
  refine ⟨by rw [hz, h1]; exact a1, by rw [h1]; exact a2, ⟨a3, a4, by rw [e2.1]; exact a5, by rw [e1.1]; exact a6.kept (ho bS (by omega)), a8.kept (fun a _ ha => ho a (by omega))⟩, fun k' h' hk' => ?_⟩
  rw [h1] at hk'
  by_cases hkk : k' = k
  · subst hkk
    rw [hk] at hk'
    cases hk'
    exact he
  · have h3 := a7 k' h' hk'
    rw [m_ce_congr (w' := w') (h2 k' hkk).1.symm (h2 k' hkk).2.symm] at h3
    exact h3.kept (ho _ (by show base + k' ≠ base + k; omega))
theorem m_hd.push {D : va_G} {cA : Nat → ClassId} {base bS L : Nat} {U : State} {w : mW} {H H1 : Heap} {h : Nat × Nat} (hh : m_hd D cA base bS L U w H) (hl : w.1.length < 1000000) (hz : H1.size = H.size + 1) (ho : ∀ q, q < H.size → H1[q]? = H[q]?)
    (he : va_at D mCl (base + w.1.length, m_ce cA (m_ad base bS) (w.1 ++ [h], m_zi w.2.1 w.1.length, m_zr w.2.2 w.1.length) w.1.length h) H1) : m_hd D cA base bS L U (w.1 ++ [h], m_zi w.2.1 w.1.length, m_zr w.2.2 w.1.length) H1 := by
  obtain ⟨a1, a2, ⟨a3, a4, a5, a6, a8⟩, a7⟩ := hh
  have row : ∀ a, a ≠ w.1.length → m_zi w.2.1 w.1.length a = w.2.1 a ∧ m_zr w.2.2 w.1.length a = w.2.2 a := fun a ha => ⟨funext fun b => by simp [m_zi, ha], funext fun b => by simp [m_zr, ha]⟩
  have e1 := row 1000000 (by omega)
  have e2 := row 1000001 (by omega)
  refine ⟨by rw [hz, a1, List.length_append]; simp only [List.length_cons, List.length_nil]; omega, by rw [List.length_append]; simp only [List.length_cons, List.length_nil]; omega, ⟨a3, a4, by show m_zi w.2.1 w.1.length 1000001 0 = _; rw [e2.1]; exact a5, by show va_X bS L (m_zi w.2.1 w.1.length 1000000) U H1; rw [e1.1]; exact a6.kept (ho bS (by omega)), a8.kept (fun a ha _ => ho a ha)⟩, fun k' h' hk' => ?_⟩
  by_cases hkk : k' < w.1.length
  · have hk2 : w.1[k']? = some h' := by rw [← hk']; exact (List.getElem?_append_left hkk).symm
    have h3 := a7 k' h' hk2
    rw [m_ce_congr (w' := (w.1 ++ [h], m_zi w.2.1 w.1.length, m_zr w.2.2 w.1.length)) (row k' (by omega)).1.symm (row k' (by omega)).2.symm] at h3
    exact h3.kept (ho _ (by show base + k' < H.size; omega))
  · have hk2 : (w.1 ++ [h])[k']? = some h' := hk'
    rw [List.getElem?_append_right (by omega)] at hk2
    have hz : k' - w.1.length < 1 := (List.getElem?_eq_some_iff.mp hk2).1
    have hke : k' = w.1.length := by omega
    subst hke
    rw [Nat.sub_self] at hk2
    cases hk2
    exact he
/-- the locals -/
def m_lh (ad : Nat → Nat) (nL : Nat) (ls : mL) (lsA : Array Slot) : Prop := lv_has lsA nL [] ∧ ∀ (i : Nat) (v : mV), ls[i]? = some (some v) → lsA[i]? = some (.val (m_tv ad v))
def m_lq (ad : Nat → Nat) (ls : mL) (i : Nat) : Option (Nat × Value) := match ls[i]? with
  | some (some v) => some (i, m_tv ad v)
  | _ => none
def m_lv (ad : Nat → Nat) (ls : mL) : List (Nat × Value) := (List.range ls.length).filterMap (m_lq ad ls)
theorem m_lq_some {ad : Nat → Nat} {ls : mL} {i : Nat} {q : Nat × Value} (h : m_lq ad ls i = some q) : q.1 = i ∧ ∃ v, ls[i]? = some (some v) ∧ q.2 = m_tv ad v := by
  unfold m_lq at h
  split at h
  · rename_i v hv
    cases h
    exact ⟨rfl, v, hv, rfl⟩
  · cases h
theorem m_lv_mem {ad : Nat → Nat} {ls : mL} {i : Nat} {v : mV} (h : ls[i]? = some (some v)) : (i, m_tv ad v) ∈ m_lv ad ls := by
  refine List.mem_filterMap.mpr ⟨i, List.mem_range.mpr (List.getElem?_eq_some_iff.mp h).1, ?_⟩
  unfold m_lq
  rw [h]
theorem m_lh.has {ad : Nat → Nat} {nL : Nat} {ls : mL} {lsA : Array Slot} (h : m_lh ad nL ls lsA) : lv_has lsA nL (m_lv ad ls) := by
  refine ⟨h.1.1, h.1.2.1, fun q hq => ?_⟩
  obtain ⟨i, -, hi⟩ := List.mem_filterMap.mp hq
  obtain ⟨e1, v, hv, e2⟩ := m_lq_some hi
  rw [e1, e2]
  exact h.2 i v hv
theorem m_lh.store {ad : Nat → Nat} {nL : Nat} {ls : mL} {ls' : Array Slot} {i : Nat} {v : mV} (h : lv_has ls' nL ((i, m_tv ad v) :: (m_lv ad ls).filter (fun q => !(q.1 == i) && !(q.1 + 1 == i && q.2.category == 2)))) : m_lh ad nL (ls.set i (some v)) ls' := by
  refine ⟨⟨h.1, h.2.1, fun q hq => by cases hq⟩, fun j u hj => ?_⟩
  by_cases hji : j = i
  · subst hji
    have hl : j < (ls.set j (some v)).length := (List.getElem?_eq_some_iff.mp hj).1
    rw [List.length_set] at hl
    rw [List.getElem?_set_self hl] at hj
    cases hj
    exact h.2.2 (j, m_tv ad v) List.mem_cons_self
  · rw [List.getElem?_set_ne (Ne.symm hji)] at hj
    refine h.2.2 (j, m_tv ad u) (List.mem_cons_of_mem _ (List.mem_filter.mpr ⟨m_lv_mem hj, ?_⟩))
    simp [hji, m_tv_cat]
theorem m_lh.entry {ad : Nat → Nat} {n : Nat} (as : List mV) (h : as.length ≤ n) : (lg_sl (as.map (m_tv ad))).length ≤ n ∧ ∀ lsA : Array Slot, lv_has lsA n (lv_args 0 (as.map (m_tv ad))) → m_lh ad n (as.map some ++ List.replicate (n - as.length) none) lsA := by
  have hl : ∀ (i : Nat) (as : List mV) (j : Nat) (v : mV), as[j]? = some v → (i + j, m_tv ad v) ∈ lv_args i (as.map (m_tv ad)) := by
    intro i as
    induction as generalizing i with
    | nil => intro j v h; simp at h
    | cons a as ih =>
      intro j v hj
      show _ ∈ (i, m_tv ad a) :: lv_args (if (m_tv ad a).category = 2 then i + 2 else i + 1) (as.map (m_tv ad))
      rw [m_tv_cat, if_neg (by decide)]
      cases j with
      | zero =>
        rw [List.getElem?_cons_zero] at hj
        cases hj
        exact List.mem_cons_self
      | succ j =>
        rw [List.getElem?_cons_succ] at hj
        have := ih (i + 1) j v hj
        rw [show i + 1 + j = i + (j + 1) by omega] at this
        exact List.mem_cons_of_mem _ this
  have hs : ∀ as : List mV, (lg_sl (as.map (m_tv ad))).length = as.length := by
    intro as
    induction as with
    | nil => rfl
    | cons a as ih =>
      rcases a with x | (_ | r)
      · show (lg_sl (Value.int x :: as.map (m_tv ad))).length = _
        simp only [lg_sl, List.flatMap_cons, List.length_append] at ih ⊢
        rw [ih]
        simp [Value.category]
        try omega
      · show (lg_sl (Value.null :: as.map (m_tv ad))).length = _
        simp only [lg_sl, List.flatMap_cons, List.length_append] at ih ⊢
        rw [ih]
        simp [Value.category]
        try omega
      · show (lg_sl (Value.ref (ad r) :: as.map (m_tv ad))).length = _
        simp only [lg_sl, List.flatMap_cons, List.length_append] at ih ⊢
        rw [ih]
        simp [Value.category]
        try omega
  refine ⟨by rw [hs]; exact h, fun lsA hA => ⟨⟨hA.1, hA.2.1, fun q hq => by cases hq⟩, fun i v hi => ?_⟩⟩
  by_cases hil : i < as.length
  · rw [List.getElem?_append_left (by rw [List.length_map]; exact hil), List.getElem?_map] at hi
    cases ha : as[i]? with
    | none => rw [ha] at hi; cases hi
    | some u =>
      rw [ha] at hi
      cases hi
      have := hl 0 as i v ha
      rw [Nat.zero_add] at this
      exact hA.2.2 _ this
  · rw [List.getElem?_append_right (by rw [List.length_map]; omega)] at hi
    have := List.eq_of_mem_replicate (List.mem_of_getElem? hi)
    cases this
/-- the machine's own judgement at a state of the small machine -/
def m_V (D : va_G) (cA : Nat → ClassId) (base bS L : Nat) (p : Program) (l : Launch) (e : Env) (R : Room) (s : State) (m : MethodId) (args : Array Value) (below : List Frame) (meth : Method) (c : Code) (nL N0 S0 : Nat) (QQ : State → Prop) (pc : Nat) (ls : mL) (st : mS) (w : mW) : Prop :=
  ls.length = nL → N0 ≤ w.1.length → S0 ≤ m_sl w.1 → ∀ (H : Heap) (locs : List Loc) (lsA : Array Slot), m_lh (m_ad base bS) nL ls lsA → m_hd D cA base bS L s w H → va_S (fun q => base ≤ q) s.heap H locs → W p l e R s m args below meth c H locs (w.1.length - N0) (m_sl w.1 - S0) QQ (F0 m pc lsA (st.map (m_tv (m_ad base bS))))
section MV
variable {D : va_G} {cA : Nat → ClassId} {base bS L : Nat} {p : Program} {l : Launch} {e : Env} {R : Room} {s : State} {m : MethodId} {args : Array Value} {below : List Frame} {meth : Method} {c : Code} {nL N0 S0 : Nat} {QQ : State → Prop} {pc : Nat} {ls : mL} {st : mS} {w : mW} {cc : ByteArray}
theorem mv_iconst (hx : p.tables.exec = Jvm.exec) (hb : c.code = cc) {n : Int} (hd : decode cc pc = .ok (.iconst n, 1)) (k : m_V D cA base bS L p l e R s m args below meth c nL N0 S0 QQ (pc + 1) ls (.inl (Int32.ofInt n) :: st) w) : m_V D cA base bS L p l e R s m args below meth c nL N0 S0 QQ pc ls st w :=
  fun h1 h2 h3 H locs lsA hl hh hS => lv_iconst hx hb hd rfl (k h1 h2 h3 H locs lsA hl hh hS)
theorem mv_bipush (hx : p.tables.exec = Jvm.exec) (hb : c.code = cc) {n : Int} (hd : decode cc pc = .ok (.bipush n, 2)) (k : m_V D cA base bS L p l e R s m args below meth c nL N0 S0 QQ (pc + 2) ls (.inl (Int8.ofInt n).toInt32 :: st) w) : m_V D cA base bS L p l e R s m args below meth c nL N0 S0 QQ pc ls st w :=
  fun h1 h2 h3 H locs lsA hl hh hS => lv_bipush hx hb hd rfl (k h1 h2 h3 H locs lsA hl hh hS)
theorem mv_sipush (hx : p.tables.exec = Jvm.exec) (hb : c.code = cc) {n : Int} (hd : decode cc pc = .ok (.sipush n, 3)) (k : m_V D cA base bS L p l e R s m args below meth c nL N0 S0 QQ (pc + 3) ls (.inl (Int16.ofInt n).toInt32 :: st) w) : m_V D cA base bS L p l e R s m args below meth c nL N0 S0 QQ pc ls st w :=
  fun h1 h2 h3 H locs lsA hl hh hS => lv_sipush hx hb hd rfl (k h1 h2 h3 H locs lsA hl hh hS)
theorem mv_null (hx : p.tables.exec = Jvm.exec) (hb : c.code = cc) (hd : decode cc pc = .ok (.aconst_null, 1)) (k : m_V D cA base bS L p l e R s m args below meth c nL N0 S0 QQ (pc + 1) ls (.inr none :: st) w) : m_V D cA base bS L p l e R s m args below meth c nL N0 S0 QQ pc ls st w :=
  fun h1 h2 h3 H locs lsA hl hh hS => lv_null hx hb hd (k h1 h2 h3 H locs lsA hl hh hS)
theorem mv_iload_n (hx : p.tables.exec = Jvm.exec) (hb : c.code = cc) {i : Fin 4} {x : Int32} (hd : decode cc pc = .ok (.iload_n i, 1)) (hi : ls[i.val]? = some (some (.inl x))) (k : m_V D cA base bS L p l e R s m args below meth c nL N0 S0 QQ (pc + 1) ls (.inl x :: st) w) : m_V D cA base bS L p l e R s m args below meth c nL N0 S0 QQ pc ls st w :=
  fun h1 h2 h3 H locs lsA hl hh hS => lv_iload_n hx hb hd rfl (hl.2 _ _ hi) (k h1 h2 h3 H locs lsA hl hh hS)
theorem mv_iload (hx : p.tables.exec = Jvm.exec) (hb : c.code = cc) {i : Nat} {x : Int32} (hd : decode cc pc = .ok (.iload i, 2)) (hi : ls[i]? = some (some (.inl x))) (k : m_V D cA base bS L p l e R s m args below meth c nL N0 S0 QQ (pc + 2) ls (.inl x :: st) w) : m_V D cA base bS L p l e R s m args below meth c nL N0 S0 QQ pc ls st w :=
  fun h1 h2 h3 H locs lsA hl hh hS => lv_iload hx hb hd (hl.2 _ _ hi) (k h1 h2 h3 H locs lsA hl hh hS)
theorem mv_aload_n (hx : p.tables.exec = Jvm.exec) (hb : c.code = cc) {i : Fin 4} {x : Option Nat} (hd : decode cc pc = .ok (.aload_n i, 1)) (hi : ls[i.val]? = some (some (.inr x))) (k : m_V D cA base bS L p l e R s m args below meth c nL N0 S0 QQ (pc + 1) ls (.inr x :: st) w) : m_V D cA base bS L p l e R s m args below meth c nL N0 S0 QQ pc ls st w := by
  intro h1 h2 h3 H locs lsA hl hh hS
  cases x with
  | none => exact lv_aload_nN hx hb hd rfl (hl.2 _ _ hi) (k h1 h2 h3 H locs lsA hl hh hS)
  | some x => exact lv_aload_n hx hb hd rfl (hl.2 _ _ hi) (k h1 h2 h3 H locs lsA hl hh hS)
theorem mv_aload (hx : p.tables.exec = Jvm.exec) (hb : c.code = cc) {i : Nat} {x : Option Nat} (hd : decode cc pc = .ok (.aload i, 2)) (hi : ls[i]? = some (some (.inr x))) (k : m_V D cA base bS L p l e R s m args below meth c nL N0 S0 QQ (pc + 2) ls (.inr x :: st) w) : m_V D cA base bS L p l e R s m args below meth c nL N0 S0 QQ pc ls st w := by
  intro h1 h2 h3 H locs lsA hl hh hS
  cases x with
  | none => exact lv_aloadN hx hb hd (hl.2 _ _ hi) (k h1 h2 h3 H locs lsA hl hh hS)
  | some x => exact lv_aload hx hb hd (hl.2 _ _ hi) (k h1 h2 h3 H locs lsA hl hh hS)
theorem mv_istore_n (hx : p.tables.exec = Jvm.exec) (hb : c.code = cc) {i : Fin 4} {x : Int32} (hd : decode cc pc = .ok (.istore_n i, 1)) (hi : i.val < ls.length) (k : m_V D cA base bS L p l e R s m args below meth c nL N0 S0 QQ (pc + 1) (ls.set i.val (some (.inl x))) st w) : m_V D cA base bS L p l e R s m args below meth c nL N0 S0 QQ pc ls (.inl x :: st) w :=
  fun h1 h2 h3 H locs _ hl hh hS => lv_istore_n hx hb hd rfl hl.has (h1 ▸ hi) rfl (fun ls' hl' => k (by rw [List.length_set]; exact h1) h2 h3 H locs ls' (m_lh.store (v := .inl x) hl') hh hS)
theorem mv_istore (hx : p.tables.exec = Jvm.exec) (hb : c.code = cc) {i : Nat} {x : Int32} (hd : decode cc pc = .ok (.istore i, 2)) (hi : i < ls.length) (k : m_V D cA base bS L p l e R s m args below meth c nL N0 S0 QQ (pc + 2) (ls.set i (some (.inl x))) st w) : m_V D cA base bS L p l e R s m args below meth c nL N0 S0 QQ pc ls (.inl x :: st) w :=
  fun h1 h2 h3 H locs _ hl hh hS => lv_istore hx hb hd hl.has (h1 ▸ hi) rfl (fun ls' hl' => k (by rw [List.length_set]; exact h1) h2 h3 H locs ls' (m_lh.store (v := .inl x) hl') hh hS)
theorem mv_astore_n (hx : p.tables.exec = Jvm.exec) (hb : c.code = cc) {i : Fin 4} {x : Option Nat} (hd : decode cc pc = .ok (.astore_n i, 1)) (hi : i.val < ls.length) (k : m_V D cA base bS L p l e R s m args below meth c nL N0 S0 QQ (pc + 1) (ls.set i.val (some (.inr x))) st w) : m_V D cA base bS L p l e R s m args below meth c nL N0 S0 QQ pc ls (.inr x :: st) w := by
  intro h1 h2 h3 H locs lsA hl hh hS
  cases x with
  | none => exact lv_astore_nN hx hb hd rfl hl.has (h1 ▸ hi) rfl (fun ls' hl' => k (by rw [List.length_set]; exact h1) h2 h3 H locs ls' (m_lh.store (v := .inr none) hl') hh hS)
  | some x => exact lv_astore_n hx hb hd rfl hl.has (h1 ▸ hi) rfl (fun ls' hl' => k (by rw [List.length_set]; exact h1) h2 h3 H locs ls' (m_lh.store (v := .inr (some x)) hl') hh hS)
theorem mv_astore (hx : p.tables.exec = Jvm.exec) (hb : c.code = cc) {i : Nat} {x : Option Nat} (hd : decode cc pc = .ok (.astore i, 2)) (hi : i < ls.length) (k : m_V D cA base bS L p l e R s m args below meth c nL N0 S0 QQ (pc + 2) (ls.set i (some (.inr x))) st w) : m_V D cA base bS L p l e R s m args below meth c nL N0 S0 QQ pc ls (.inr x :: st) w := by
  intro h1 h2 h3 H locs lsA hl hh hS
  cases x with
  | none => exact lv_astoreN hx hb hd hl.has (h1 ▸ hi) rfl (fun ls' hl' => k (by rw [List.length_set]; exact h1) h2 h3 H locs ls' (m_lh.store (v := .inr none) hl') hh hS)
  | some x => exact lv_astore hx hb hd hl.has (h1 ▸ hi) rfl (fun ls' hl' => k (by rw [List.length_set]; exact h1) h2 h3 H locs ls' (m_lh.store (v := .inr (some x)) hl') hh hS)
theorem mv_iinc (hx : p.tables.exec = Jvm.exec) (hb : c.code = cc) {i : Nat} {n : Int} {x : Int32} (hd : decode cc pc = .ok (.iinc i n, 3)) (hi : ls[i]? = some (some (.inl x))) (k : m_V D cA base bS L p l e R s m args below meth c nL N0 S0 QQ (pc + 3) (ls.set i (some (.inl (x + Int32.ofInt n)))) st w) : m_V D cA base bS L p l e R s m args below meth c nL N0 S0 QQ pc ls st w := by
  intro h1 h2 h3 H locs lsA hl hh hS
  have hlt : i < ls.length := (List.getElem?_eq_some_iff.mp hi).1
  obtain ⟨j, hj⟩ := List.getElem?_of_mem (m_lv_mem (ad := m_ad base bS) hi)
  exact lv_iinc (x := x) (k := j) hx hb hd hl.has hj rfl (h1 ▸ hlt) rfl (fun ls' hl' => k (by rw [List.length_set]; exact h1) h2 h3 H locs ls' (m_lh.store (v := .inl (x + Int32.ofInt n)) hl') hh hS)
theorem mv_iadd (hx : p.tables.exec = Jvm.exec) (hb : c.code = cc) {x y : Int32} (hd : decode cc pc = .ok (.iadd, 1)) (k : m_V D cA base bS L p l e R s m args below meth c nL N0 S0 QQ (pc + 1) ls (.inl (x + y) :: st) w) : m_V D cA base bS L p l e R s m args below meth c nL N0 S0 QQ pc ls (.inl y :: .inl x :: st) w :=
  fun h1 h2 h3 H locs lsA hl hh hS => lv_iadd hx hb hd (k h1 h2 h3 H locs lsA hl hh hS)
theorem mv_isub (hx : p.tables.exec = Jvm.exec) (hb : c.code = cc) {x y : Int32} (hd : decode cc pc = .ok (.isub, 1)) (k : m_V D cA base bS L p l e R s m args below meth c nL N0 S0 QQ (pc + 1) ls (.inl (x - y) :: st) w) : m_V D cA base bS L p l e R s m args below meth c nL N0 S0 QQ pc ls (.inl y :: .inl x :: st) w :=
  fun h1 h2 h3 H locs lsA hl hh hS => lv_isub hx hb hd (k h1 h2 h3 H locs lsA hl hh hS)
theorem mv_imul (hx : p.tables.exec = Jvm.exec) (hb : c.code = cc) {x y : Int32} (hd : decode cc pc = .ok (.imul, 1)) (k : m_V D cA base bS L p l e R s m args below meth c nL N0 S0 QQ (pc + 1) ls (.inl (x * y) :: st) w) : m_V D cA base bS L p l e R s m args below meth c nL N0 S0 QQ pc ls (.inl y :: .inl x :: st) w :=
  fun h1 h2 h3 H locs lsA hl hh hS => lv_imul hx hb hd (k h1 h2 h3 H locs lsA hl hh hS)
theorem mv_iand (hx : p.tables.exec = Jvm.exec) (hb : c.code = cc) {x y : Int32} (hd : decode cc pc = .ok (.iand, 1)) (k : m_V D cA base bS L p l e R s m args below meth c nL N0 S0 QQ (pc + 1) ls (.inl (x &&& y) :: st) w) : m_V D cA base bS L p l e R s m args below meth c nL N0 S0 QQ pc ls (.inl y :: .inl x :: st) w :=
  fun h1 h2 h3 H locs lsA hl hh hS => lv_iand hx hb hd (k h1 h2 h3 H locs lsA hl hh hS)
theorem mv_dup (hx : p.tables.exec = Jvm.exec) (hb : c.code = cc) {v : mV} (hd : decode cc pc = .ok (.dup, 1)) (k : m_V D cA base bS L p l e R s m args below meth c nL N0 S0 QQ (pc + 1) ls (v :: v :: st) w) : m_V D cA base bS L p l e R s m args below meth c nL N0 S0 QQ pc ls (v :: st) w :=
  fun h1 h2 h3 H locs lsA hl hh hS => lv_dup hx hb hd (m_tv_cat _ v) (k h1 h2 h3 H locs lsA hl hh hS)
theorem mv_pop (hx : p.tables.exec = Jvm.exec) (hb : c.code = cc) {v : mV} (hd : decode cc pc = .ok (.pop, 1)) (k : m_V D cA base bS L p l e R s m args below meth c nL N0 S0 QQ (pc + 1) ls st w) : m_V D cA base bS L p l e R s m args below meth c nL N0 S0 QQ pc ls (v :: st) w :=
  fun h1 h2 h3 H locs lsA hl hh hS => lv_pop hx hb hd (m_tv_cat _ v) (k h1 h2 h3 H locs lsA hl hh hS)
theorem mv_dup_x1 (hx : p.tables.exec = Jvm.exec) (hb : c.code = cc) {v u : mV} (hd : decode cc pc = .ok (.dup_x1, 1)) (k : m_V D cA base bS L p l e R s m args below meth c nL N0 S0 QQ (pc + 1) ls (v :: u :: v :: st) w) : m_V D cA base bS L p l e R s m args below meth c nL N0 S0 QQ pc ls (v :: u :: st) w :=
  fun h1 h2 h3 H locs lsA hl hh hS => lv_dup_x1 hx hb hd (m_tv_cat _ v) (m_tv_cat _ u) (k h1 h2 h3 H locs lsA hl hh hS)
theorem mv_dup2 (hx : p.tables.exec = Jvm.exec) (hb : c.code = cc) {v u : mV} (hd : decode cc pc = .ok (.dup2, 1)) (k : m_V D cA base bS L p l e R s m args below meth c nL N0 S0 QQ (pc + 1) ls (v :: u :: v :: u :: st) w) : m_V D cA base bS L p l e R s m args below meth c nL N0 S0 QQ pc ls (v :: u :: st) w :=
  fun h1 h2 h3 H locs lsA hl hh hS => lv_dup2_11 hx hb hd (m_tv_cat _ v) (m_tv_cat _ u) (k h1 h2 h3 H locs lsA hl hh hS)
theorem mv_if (hx : p.tables.exec = Jvm.exec) (hb : c.code = cc) {cn : Jvm.ClassFile.Cond} {off : Int} {t : Nat} {x : Int32} (hd : decode cc pc = .ok (.ifCond cn off, 3)) (ht : (pc : Int) + off = (t : Int)) {cl : mC} {Q : mQ} {ls0 : mL} {w0 : mW} {pc0 : Nat} (k : m_A cl (fun pc ls st w => m_V D cA base bS L p l e R s m args below meth c nL N0 S0 QQ pc ls st w) Q pc0 ls0 w0 (m_if cn x 0 (m_go t ls st w) (m_go (pc + 3) ls st w))) : m_V D cA base bS L p l e R s m args below meth c nL N0 S0 QQ pc ls (.inl x :: st) w := by
  intro h1 h2 h3 H locs lsA hl hh hS
  cases cn with
  | eq =>
    change m_A cl (fun pc ls st w => m_V D cA base bS L p l e R s m args below meth c nL N0 S0 QQ pc ls st w) Q pc0 ls0 w0 (if x = 0 then m_go t ls st w else m_go (pc + 3) ls st w) at k
    by_cases hc : x = 0
    · rw [if_pos hc] at k
      exact lv_if_eq hx hb hd ht (fun _ => k h1 h2 h3 H locs lsA hl hh hS) (fun h => absurd hc h)
    · rw [if_neg hc] at k
      exact lv_if_eq hx hb hd ht (fun h => absurd h hc) (fun _ => k h1 h2 h3 H locs lsA hl hh hS)
  | ne =>
    change m_A cl (fun pc ls st w => m_V D cA base bS L p l e R s m args below meth c nL N0 S0 QQ pc ls st w) Q pc0 ls0 w0 (if x = 0 then m_go (pc + 3) ls st w else m_go t ls st w) at k
    by_cases hc : x = 0
    · rw [if_pos hc] at k
      exact lv_if_ne hx hb hd ht (fun h => absurd hc h) (fun _ => k h1 h2 h3 H locs lsA hl hh hS)
    · rw [if_neg hc] at k
      exact lv_if_ne hx hb hd ht (fun _ => k h1 h2 h3 H locs lsA hl hh hS) (fun h => absurd h hc)
  | lt =>
    change m_A cl (fun pc ls st w => m_V D cA base bS L p l e R s m args below meth c nL N0 S0 QQ pc ls st w) Q pc0 ls0 w0 (if x < 0 then m_go t ls st w else m_go (pc + 3) ls st w) at k
    by_cases hc : x < 0
    · rw [if_pos hc] at k
      exact lv_if_lt hx hb hd ht (fun _ => k h1 h2 h3 H locs lsA hl hh hS) (fun h => absurd hc h)
    · rw [if_neg hc] at k
      exact lv_if_lt hx hb hd ht (fun h => absurd h hc) (fun _ => k h1 h2 h3 H locs lsA hl hh hS)
  | ge =>
    change m_A cl (fun pc ls st w => m_V D cA base bS L p l e R s m args below meth c nL N0 S0 QQ pc ls st w) Q pc0 ls0 w0 (if 0 ≤ x then m_go t ls st w else m_go (pc + 3) ls st w) at k
    by_cases hc : 0 ≤ x
    · rw [if_pos hc] at k
      exact lv_if_ge hx hb hd ht (fun _ => k h1 h2 h3 H locs lsA hl hh hS) (fun h => absurd hc h)
    · rw [if_neg hc] at k
      exact lv_if_ge hx hb hd ht (fun h => absurd h hc) (fun _ => k h1 h2 h3 H locs lsA hl hh hS)
  | gt =>
    change m_A cl (fun pc ls st w => m_V D cA base bS L p l e R s m args below meth c nL N0 S0 QQ pc ls st w) Q pc0 ls0 w0 (if 0 < x then m_go t ls st w else m_go (pc + 3) ls st w) at k
    by_cases hc : 0 < x
    · rw [if_pos hc] at k
      exact lv_if_gt hx hb hd ht (fun _ => k h1 h2 h3 H locs lsA hl hh hS) (fun h => absurd hc h)
    · rw [if_neg hc] at k
      exact lv_if_gt hx hb hd ht (fun h => absurd h hc) (fun _ => k h1 h2 h3 H locs lsA hl hh hS)
  | le =>
    change m_A cl (fun pc ls st w => m_V D cA base bS L p l e R s m args below meth c nL N0 S0 QQ pc ls st w) Q pc0 ls0 w0 (if x ≤ 0 then m_go t ls st w else m_go (pc + 3) ls st w) at k
    by_cases hc : x ≤ 0
    · rw [if_pos hc] at k
      exact lv_if_le hx hb hd ht (fun _ => k h1 h2 h3 H locs lsA hl hh hS) (fun h => absurd hc h)
    · rw [if_neg hc] at k
      exact lv_if_le hx hb hd ht (fun h => absurd h hc) (fun _ => k h1 h2 h3 H locs lsA hl hh hS)
theorem mv_icmp (hx : p.tables.exec = Jvm.exec) (hb : c.code = cc) {cn : Jvm.ClassFile.Cond} {off : Int} {t : Nat} {x y : Int32} (hd : decode cc pc = .ok (.if_icmp cn off, 3)) (ht : (pc : Int) + off = (t : Int)) {cl : mC} {Q : mQ} {ls0 : mL} {w0 : mW} {pc0 : Nat} (k : m_A cl (fun pc ls st w => m_V D cA base bS L p l e R s m args below meth c nL N0 S0 QQ pc ls st w) Q pc0 ls0 w0 (m_if cn x y (m_go t ls st w) (m_go (pc + 3) ls st w))) : m_V D cA base bS L p l e R s m args below meth c nL N0 S0 QQ pc ls (.inl y :: .inl x :: st) w := by
  intro h1 h2 h3 H locs lsA hl hh hS
  cases cn with
  | eq =>
    change m_A cl (fun pc ls st w => m_V D cA base bS L p l e R s m args below meth c nL N0 S0 QQ pc ls st w) Q pc0 ls0 w0 (if x = y then m_go t ls st w else m_go (pc + 3) ls st w) at k
    by_cases hc : x = y
    · rw [if_pos hc] at k
      exact lv_icmp_eq hx hb hd ht (fun _ => k h1 h2 h3 H locs lsA hl hh hS) (fun h => absurd hc h)
    · rw [if_neg hc] at k
      exact lv_icmp_eq hx hb hd ht (fun h => absurd h hc) (fun _ => k h1 h2 h3 H locs lsA hl hh hS)
  | ne =>
    change m_A cl (fun pc ls st w => m_V D cA base bS L p l e R s m args below meth c nL N0 S0 QQ pc ls st w) Q pc0 ls0 w0 (if x = y then m_go (pc + 3) ls st w else m_go t ls st w) at k
    by_cases hc : x = y
    · rw [if_pos hc] at k
      exact lv_icmp_ne hx hb hd ht (fun h => absurd hc h) (fun _ => k h1 h2 h3 H locs lsA hl hh hS)
    · rw [if_neg hc] at k
      exact lv_icmp_ne hx hb hd ht (fun _ => k h1 h2 h3 H locs lsA hl hh hS) (fun h => absurd h hc)
  | lt =>
    change m_A cl (fun pc ls st w => m_V D cA base bS L p l e R s m args below meth c nL N0 S0 QQ pc ls st w) Q pc0 ls0 w0 (if x < y then m_go t ls st w else m_go (pc + 3) ls st w) at k
    by_cases hc : x < y
    · rw [if_pos hc] at k
      exact lv_icmp_lt hx hb hd ht (fun _ => k h1 h2 h3 H locs lsA hl hh hS) (fun h => absurd hc h)
    · rw [if_neg hc] at k
      exact lv_icmp_lt hx hb hd ht (fun h => absurd h hc) (fun _ => k h1 h2 h3 H locs lsA hl hh hS)
  | ge =>
    change m_A cl (fun pc ls st w => m_V D cA base bS L p l e R s m args below meth c nL N0 S0 QQ pc ls st w) Q pc0 ls0 w0 (if y ≤ x then m_go t ls st w else m_go (pc + 3) ls st w) at k
    by_cases hc : y ≤ x
    · rw [if_pos hc] at k
      exact lv_icmp_ge hx hb hd ht (fun _ => k h1 h2 h3 H locs lsA hl hh hS) (fun h => absurd hc h)
    · rw [if_neg hc] at k
      exact lv_icmp_ge hx hb hd ht (fun h => absurd h hc) (fun _ => k h1 h2 h3 H locs lsA hl hh hS)
  | gt =>
    change m_A cl (fun pc ls st w => m_V D cA base bS L p l e R s m args below meth c nL N0 S0 QQ pc ls st w) Q pc0 ls0 w0 (if y < x then m_go t ls st w else m_go (pc + 3) ls st w) at k
    by_cases hc : y < x
    · rw [if_pos hc] at k
      exact lv_icmp_gt hx hb hd ht (fun _ => k h1 h2 h3 H locs lsA hl hh hS) (fun h => absurd hc h)
    · rw [if_neg hc] at k
      exact lv_icmp_gt hx hb hd ht (fun h => absurd h hc) (fun _ => k h1 h2 h3 H locs lsA hl hh hS)
  | le =>
    change m_A cl (fun pc ls st w => m_V D cA base bS L p l e R s m args below meth c nL N0 S0 QQ pc ls st w) Q pc0 ls0 w0 (if x ≤ y then m_go t ls st w else m_go (pc + 3) ls st w) at k
    by_cases hc : x ≤ y
    · rw [if_pos hc] at k
      exact lv_icmp_le hx hb hd ht (fun _ => k h1 h2 h3 H locs lsA hl hh hS) (fun h => absurd hc h)
    · rw [if_neg hc] at k
      exact lv_icmp_le hx hb hd ht (fun h => absurd h hc) (fun _ => k h1 h2 h3 H locs lsA hl hh hS)
theorem mv_ifnull (hx : p.tables.exec = Jvm.exec) (hb : c.code = cc) {off : Int} {k : Nat} (hd : decode cc pc = .ok (.ifnull off, 3)) (kk : m_V D cA base bS L p l e R s m args below meth c nL N0 S0 QQ (pc + 3) ls st w) : m_V D cA base bS L p l e R s m args below meth c nL N0 S0 QQ pc ls (.inr (some k) :: st) w :=
  fun h1 h2 h3 H locs lsA hl hh hS => lv_ifnull hx hb hd (kk h1 h2 h3 H locs lsA hl hh hS)
theorem mv_ifnullN (hx : p.tables.exec = Jvm.exec) (hb : c.code = cc) {off : Int} {t : Nat} (hd : decode cc pc = .ok (.ifnull off, 3)) (ht : (pc : Int) + off = (t : Int)) (kk : m_V D cA base bS L p l e R s m args below meth c nL N0 S0 QQ t ls st w) : m_V D cA base bS L p l e R s m args below meth c nL N0 S0 QQ pc ls (.inr none :: st) w :=
  fun h1 h2 h3 H locs lsA hl hh hS => lv_ifnullN hx hb hd ht (kk h1 h2 h3 H locs lsA hl hh hS)
theorem mv_ifnonnull (hx : p.tables.exec = Jvm.exec) (hb : c.code = cc) {off : Int} {t k : Nat} (hd : decode cc pc = .ok (.ifnonnull off, 3)) (ht : (pc : Int) + off = (t : Int)) (kk : m_V D cA base bS L p l e R s m args below meth c nL N0 S0 QQ t ls st w) : m_V D cA base bS L p l e R s m args below meth c nL N0 S0 QQ pc ls (.inr (some k) :: st) w :=
  fun h1 h2 h3 H locs lsA hl hh hS => lv_ifnonnull hx hb hd ht (kk h1 h2 h3 H locs lsA hl hh hS)
theorem mv_ifnonnullN (hx : p.tables.exec = Jvm.exec) (hb : c.code = cc) {off : Int} (hd : decode cc pc = .ok (.ifnonnull off, 3)) (kk : m_V D cA base bS L p l e R s m args below meth c nL N0 S0 QQ (pc + 3) ls st w) : m_V D cA base bS L p l e R s m args below meth c nL N0 S0 QQ pc ls (.inr none :: st) w :=
  fun h1 h2 h3 H locs lsA hl hh hS => lv_ifnonnullN hx hb hd (kk h1 h2 h3 H locs lsA hl hh hS)
theorem mv_goto (hx : p.tables.exec = Jvm.exec) (hb : c.code = cc) {off : Int} {t : Nat} (hd : decode cc pc = .ok (.goto off, 3)) (ht : (pc : Int) + off = (t : Int)) (kk : m_V D cA base bS L p l e R s m args below meth c nL N0 S0 QQ t ls st w) : m_V D cA base bS L p l e R s m args below meth c nL N0 S0 QQ pc ls st w :=
  fun h1 h2 h3 H locs lsA hl hh hS => lv_goto hx hb hd ht (kk h1 h2 h3 H locs lsA hl hh hS)
theorem mv_tableOut (hx : p.tables.exec = Jvm.exec) (hb : c.code = cc) {d lo hi : Int} {offs : Array Int} {n t : Nat} {x : Int32} (hd : decode cc pc = .ok (.tableswitch d lo hi offs, n)) (h : x.toInt < lo ∨ hi < x.toInt) (ht : (pc : Int) + d = (t : Int)) (kk : m_V D cA base bS L p l e R s m args below meth c nL N0 S0 QQ t ls st w) : m_V D cA base bS L p l e R s m args below meth c nL N0 S0 QQ pc ls (.inl x :: st) w :=
  fun h1 h2 h3 H locs lsA hl hh hS => lv_tableOut hx hb hd h ht (kk h1 h2 h3 H locs lsA hl hh hS)
theorem mv_tableIn (hx : p.tables.exec = Jvm.exec) (hb : c.code = cc) {d lo hi off : Int} {offs : Array Int} {n t : Nat} {x : Int32} (hd : decode cc pc = .ok (.tableswitch d lo hi offs, n)) (h : ¬ (x.toInt < lo ∨ hi < x.toInt)) (ho : offs[(x.toInt - lo).toNat]? = some off) (ht : (pc : Int) + off = (t : Int)) (kk : m_V D cA base bS L p l e R s m args below meth c nL N0 S0 QQ t ls st w) : m_V D cA base bS L p l e R s m args below meth c nL N0 S0 QQ pc ls (.inl x :: st) w :=
  fun h1 h2 h3 H locs lsA hl hh hS => lv_tableIn hx hb hd (fun q => h (Or.inl q)) (fun q => h (Or.inr q)) ho ht (kk h1 h2 h3 H locs lsA hl hh hS)
theorem mv_lookup (hx : p.tables.exec = Jvm.exec) (hb : c.code = cc) {d : Int} {ps : Array (Int × Int)} {n t : Nat} {x : Int32} (hd : decode cc pc = .ok (.lookupswitch d ps, n)) (hp : (ps.toList.zip (ps.toList.drop 1)).all (fun q => decide (q.1.1 < q.2.1)) = true) (ht : (pc : Int) + Op.lookupswitch.offset ps.toList d x.toInt = (t : Int)) (kk : m_V D cA base bS L p l e R s m args below meth c nL N0 S0 QQ t ls st w) : m_V D cA base bS L p l e R s m args below meth c nL N0 S0 QQ pc ls (.inl x :: st) w :=
  fun h1 h2 h3 H locs lsA hl hh hS => lv_lookup hx hb hd hp rfl ht (kk h1 h2 h3 H locs lsA hl hh hS)
end MV
