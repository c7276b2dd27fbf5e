/-! The small machine is sound: calls, and the whole -/
def m_rm (d y : Nat) : Room := { frames := d, cells := (m_bg y).1, slots := (m_bg y).2, locals := 64 * d }
def m_ws (y : Nat) : List Cond := Cond.code (m_mn y) (m_by y) (m_mx y) (m_rf y) :: m_W0
abbrev m_Pc (D : va_G) (cA : Nat → ClassId) (base bS L : Nat) (as : List mV) (w : mW) : Array Value → State → Prop := va_Pc (as.map (m_tv (m_ad base bS))) (fun U => m_hd D cA base bS L U w U.heap ∧ va_K D mCl (m_ty cA) U ∧ m_ne U)
def m_B (D : va_G) (cA : Nat → ClassId) (base bS L y : Nat) (w u : mW) (t : State) : Prop := m_hd D cA base bS L t u t.heap ∧ u.1.length = w.1.length + (m_bg y).1 ∧ m_sl u.1 = m_sl w.1 + (m_bg y).2
def m_Qc (D : va_G) (cA : Nat → ClassId) (base bS L y : Nat) (w : mW) (Q : mQ) : Array Value → State → Outcome → State → Prop := if m_rt y = 0 then va_Qv (fun u : mW => Q none u) (m_B D cA base bS L y w) (fun q => base ≤ q) else va_Qi (fun (r : Int32) (u : mW) => Q (some (.inl r)) u) (m_B D cA base bS L y w) (fun q => base ≤ q)
/-- the contract of method y, at depth d -/
abbrev m_M (l : Launch) (D : va_G) (cA : Nat → ClassId) (base bS L d y : Nat) (as : List mV) (w : mW) (Q : mQ) : Prop := Met l (m_mn y) (m_ws y) (m_rm d y) (m_Pc D cA base bS L as w) (m_Qc D cA base bS L y w Q) (m_bg y).1 (m_bg y).2 (fun q => base ≤ q)
theorem m_blind {D : va_G} {cA : Nat → ClassId} {base bS L : Nat} {as : List mV} {w : mW} : FrameBlind (m_Pc D cA base bS L as w) := by
  intro a U g mk q
  obtain ⟨q0, q1, q2, q3⟩ := q
  exact ⟨q0, m_hd.moved (U := U) (U' := U.calling g mk a) (Vm.Alike.refl U.vm) q1, va_K.moved (u := U) (U := U.calling g mk a) (Vm.Alike.refl U.vm) q2, fun x hx hm => m_mv_same hm (rfl : U.vm = (U.calling g mk a).vm) (q3 x hx hm)⟩
theorem m_good (y : Nat) (hy : Cond.code (m_mn y) (m_by y) (m_mx y) (m_rf y) ∈ m_W0) : GoodIn m_W0 (m_ws y) := by
  intro x hx
  have h0 : x ∈ m_W0 := by
    rcases List.mem_cons.mp hx with rfl | h
    · exact hy
    · exact h
  exact ⟨h0, good_of_word (List.mem_filter.mp h0).2⟩
section MC
variable {D : va_G} {cA : Nat → ClassId} {base bS L : Nat} {p : Program} {l : Launch} {e : Env} {R : Room} {s : State} {m : MethodId} {args : Array Value} {below : List Frame} {meth : Method} {c : Code} {nL N0 S0 : Nat} {QQ : State → Prop} {pc : Nat} {ls : mL} {st : mS} {w : mW} {cc : ByteArray}
theorem m_pre {H : Heap} (as : List mV) (hh : m_hd D cA base bS L s w H) (hK : va_K D mCl (m_ty cA) s) (hN : m_ne s) : PreS s H (m_Pc D cA base bS L as w) (as.map (m_tv (m_ad base bS))) := by
  refine ⟨m_blind, fun U hU hW => ⟨rfl, by rw [hU]; exact hh.moved hW.alike, va_K.moved hW.alike hK, fun x hx hm => m_mv_warm hm hW (hN x hx hm)⟩⟩
theorem m_after {y : Nat} {H : Heap} {locs : List Loc} {lsA : Array Slot} {stk : List Value} {rest : mS} {av : Array Value} (hr : va_Run p l e R s m args below meth c H locs (w.1.length - N0) (m_sl w.1 - S0) (m_bg y).1 (m_bg y).2 (F0 m pc lsA stk) (rest.map (m_tv (m_ad base bS))) (m_Qc D cA base bS L y w (fun r w' => m_V D cA base bS L p l e R s m args below meth c nL N0 S0 QQ (pc + 3) ls (r.toList ++ rest) w') av) (fun q => base ≤ q))
    (h1 : ls.length = nL) (h2 : N0 ≤ w.1.length) (h3 : S0 ≤ m_sl w.1) (hl : m_lh (m_ad base bS) nL ls lsA) (hS : va_S (fun q => base ≤ q) s.heap H locs) : W p l e R s m args below meth c H locs (w.1.length - N0) (m_sl w.1 - S0) QQ (F0 m pc lsA stk) := by
  by_cases hrt : m_rt y = 0
  · rw [show m_Qc D cA base bS L y w (fun r w' => m_V D cA base bS L p l e R s m args below meth c nL N0 S0 QQ (pc + 3) ls (r.toList ++ rest) w') = va_Qv (fun u : mW => m_V D cA base bS L p l e R s m args below meth c nL N0 S0 QQ (pc + 3) ls ((none : Option mV).toList ++ rest) u) (m_B D cA base bS L y w) (fun q => base ≤ q) from if_pos hrt] at hr
    refine va_callv hr hS (fun _ _ h => h) (fun _ h => h) (fun u t H1 locs1 ht hvm hp hB hz hk hS1 => ?_)
    obtain ⟨hh, e1, e2⟩ := hB
    rw [ht] at hh
    refine W.cs (cells' := u.1.length - N0) (slots' := m_sl u.1 - S0) (by omega) (by omega) ?_
    exact hp h1 (by omega) (by omega) H1 locs1 lsA hl (hh.moved hvm.symm) hS1
  · rw [show m_Qc D cA base bS L y w (fun r w' => m_V D cA base bS L p l e R s m args below meth c nL N0 S0 QQ (pc + 3) ls (r.toList ++ rest) w') = va_Qi (fun (r : Int32) (u : mW) => m_V D cA base bS L p l e R s m args below meth c nL N0 S0 QQ (pc + 3) ls ((some (.inl r) : Option mV).toList ++ rest) u) (m_B D cA base bS L y w) (fun q => base ≤ q) from if_neg hrt] at hr
    refine va_calli hr hS (fun _ _ h => h) (fun _ h => h) (fun r u t H1 locs1 ht hvm hp hB hz hk hS1 => ?_)
    obtain ⟨hh, e1, e2⟩ := hB
    rw [ht] at hh
    refine W.cs (cells' := u.1.length - N0) (slots' := m_sl u.1 - S0) (by omega) (by omega) ?_
    exact hp h1 (by omega) (by omega) H1 locs1 lsA hl (hh.moved hvm.symm) hS1
/-- what is known of method y that can be called -/
def m_fy (y : Nat) : Prop := Cond.code (m_mn y) (m_by y) (m_mx y) (m_rf y) ∈ m_W0 ∧ Cond.initialized (m_mn y).cls ∈ m_W0 ∧ ((m_mn y).cls ≠ "java/lang/invoke/MethodHandle" ∧ (m_mn y).cls ≠ "java/lang/invoke/VarHandle" ∧ (parseMethodDescriptor (m_mn y).desc).map (fun d => d.parameters.length) = some (m_na y)) ∧ m_mx y ≤ 40 ∧
  (m_kd y = 0 → Cond.static (m_mn y) ∈ m_W0) ∧ (m_kd y ≠ 0 → Cond.instanceMethod (m_mn y) ∈ m_W0) ∧ (m_kd y = 1 → Cond.selects (m_mn y).cls (m_mn y) (m_mn y) ∈ m_W0 ∧ ∃ T N, mCl[m_oc y]? = some ((m_mn y).cls, T, N)) ∧ (m_kd y = 2 → (m_mn y).name = "<init>" ∧ m_rf y = none)
theorem mv_cr (hx : p.tables.exec = Jvm.exec) (hb : c.code = cc) (hml : c.maxLocals = nL) {own : String} {d me y kd idx b : Nat} {rest : mS} (ok : ∀ x ∈ m_W0, x.before args s = true) (hR1 : d + 1 ≤ R.frames) (hR2 : 64 * (d + 1) ≤ R.locals) (hR3 : (m_bg me).1 ≤ R.cells) (hR4 : (m_bg me).2 ≤ R.slots) (hown : s.vm.findClass own = some m.cls) (hK : va_K D mCl (m_ty cA) s) (hN : m_ne s) (hy : m_fy y) (hlink : m_lm args s own idx (m_mn y)) (hkd : (kd = 1 ∧ decode cc pc = .ok (.invokevirtual idx, 3)) ∨ (kd = 2 ∧ decode cc pc = .ok (.invokespecial idx, 3))) (hst : st.drop (m_na y) = .inr (some b) :: rest) (hn : m_na y ≤ st.length) (hky : m_kd y = kd) (hrest : rest.length ≤ 8) (hrecv : kd = 1 → w.1[b]? = some (0, m_oc y)) (hc1 : w.1.length + (m_bg y).1 ≤ N0 + (m_bg me).1) (hc2 : m_sl w.1 + (m_bg y).2 ≤ S0 + (m_bg me).2)
    (hM : m_M l D cA base bS L d y (.inr (some b) :: (st.take (m_na y)).reverse) w (fun r w' => m_V D cA base bS L p l e R s m args below meth c nL N0 S0 QQ (pc + 3) ls (r.toList ++ rest) w')) : m_V D cA base bS L p l e R s m args below meth c nL N0 S0 QQ pc ls st w := by
  intro h1 h2 h3 H locs lsA hl hh hS
  obtain ⟨y1, y2, y3, y4, -, y6, y7, y8⟩ := hy
  have hR : (m_rm d y).frames + 1 ≤ R.frames ∧ 8 + (m_mx y + 11) + (m_rm d y).locals ≤ R.locals := by
    show d + 1 ≤ R.frames ∧ 8 + (m_mx y + 11) + 64 * d ≤ R.locals
    omega
  have hstk : st.map (m_tv (m_ad base bS)) = (((st.take (m_na y)).reverse).map (m_tv (m_ad base bS))).reverse ++ .ref (m_ad base bS b) :: rest.map (m_tv (m_ad base bS)) := by
    rw [← List.map_reverse, List.reverse_reverse]
    have h9 : st = st.take (m_na y) ++ st.drop (m_na y) := (List.take_append_drop _ _).symm
    conv => lhs; rw [h9, hst, List.map_append]
    rfl
  have hlen : (((st.take (m_na y)).reverse).map (m_tv (m_ad base bS))).length = m_na y := by
    rw [List.length_map, List.length_reverse, List.length_take]
    omega
  have hroom : 2 * (F0 m pc lsA (st.map (m_tv (m_ad base bS)))).monitorRoom + ((rest.map (m_tv (m_ad base bS))).map fun v => v.category).sum ≤ 8 := lv_room (by rw [m_cats]; exact hrest)
  have hf : (w.1.length - N0) + (m_bg y).1 ≤ R.cells ∧ (m_sl w.1 - S0) + (m_bg y).2 ≤ R.slots := by
    omega
  have hsz : (F0 m pc lsA (st.map (m_tv (m_ad base bS)))).locals.size = nL := hl.1.1
  have hpre := m_pre (.inr (some b) :: (st.take (m_na y)).reverse) hh hK hN
  have S : CallFix p m c cc nL s args m_W0 own := ⟨hx, hb, hml, hown, ok⟩
  have hin := ok _ (y6 (by rw [hky]; rcases hkd with ⟨rfl, -⟩ | ⟨rfl, -⟩ <;> decide))
  rcases hkd with ⟨rfl, hd⟩ | ⟨rfl, hd⟩
  · obtain ⟨y9, T, N, y10⟩ := y7 hky
    have hb1 := hrecv rfl
    have e0 : m_ad base bS b = base + b := m_ad_lt (hh.lt hb1)
    obtain ⟨r', hr', cell, g1, g2, g3, -⟩ := hh.2.2.2 b (0, m_oc y) hb1
    have hrv : ∃ cellB : Cell, H[m_ad base bS b]? = some cellB ∧ cellB.vm.isStatics = false ∧ s.vm.findClass (m_mn y).cls = some cellB.cls := ⟨cell, by rw [e0]; exact g1, by rw [g3]; rfl, by rw [g2]; exact (hK.1 (m_oc y) _ y10).2.1⟩
    rcases hlink with hl1 | ⟨host, hl1⟩
    · exact m_after (va_runV (C := (m_mn y).cls) (b := m_ad base bS b) S hM ⟨callB_of (m_na y) ok (m_good y y1) rfl rfl rfl (ok _ y2) hl1 y3 hR, hin, ok _ y9⟩ ⟨hpre.1, hrv, hpre.2⟩ rfl hlen hsz hstk hroom hd hf) h1 h2 h3 hl hS
    · exact m_after (va_runVN (C := (m_mn y).cls) (b := m_ad base bS b) S hM ⟨va_cnB (m_na y) ok (m_good y y1) rfl rfl rfl hl1 (ok _ y2) y3 hR, hin, ok _ y9⟩ ⟨hpre.1, hrv, hpre.2⟩ rfl hlen hsz hstk hroom hd hf) h1 h2 h3 hl hS
  · obtain ⟨y9, y10⟩ := y8 hky
    have hw0 : m_ws y = Cond.code (m_mn y) (m_by y) (m_mx y) none :: m_W0 := by unfold m_ws; rw [y10]
    rcases hlink with hl1 | ⟨host, hl1⟩
    · exact m_after (va_runI (b := m_ad base bS b) S hM (cwI (m_na y) ok (m_good y y1) hw0 rfl rfl (ok _ y2) hl1 hin y9 y3 hR) hpre rfl hlen hsz hstk hroom hd hf) h1 h2 h3 hl hS
    · exact m_after (va_runIN (b := m_ad base bS b) S hM ⟨va_cnB (m_na y) ok (m_good y y1) hw0 rfl rfl hl1 (ok _ y2) y3 hR, y9, hin⟩ hpre rfl hlen hsz hstk hroom hd hf) h1 h2 h3 hl hS
theorem mv_cs (hx : p.tables.exec = Jvm.exec) (hb : c.code = cc) (hml : c.maxLocals = nL) {own : String} {d me y idx : Nat} (ok : ∀ x ∈ m_W0, x.before args s = true) (hR1 : d + 1 ≤ R.frames) (hR2 : 64 * (d + 1) ≤ R.locals) (hR3 : (m_bg me).1 ≤ R.cells) (hR4 : (m_bg me).2 ≤ R.slots) (hown : s.vm.findClass own = some m.cls) (hK : va_K D mCl (m_ty cA) s) (hN : m_ne s) (hy : m_fy y) (hlink : m_lm args s own idx (m_mn y)) (hd : decode cc pc = .ok (.invokestatic idx, 3)) (hn : m_na y ≤ st.length) (hky : m_kd y = 0) (hrest : (st.drop (m_na y)).length ≤ 8) (hc1 : w.1.length + (m_bg y).1 ≤ N0 + (m_bg me).1) (hc2 : m_sl w.1 + (m_bg y).2 ≤ S0 + (m_bg me).2)
    (hM : m_M l D cA base bS L d y (st.take (m_na y)).reverse w (fun r w' => m_V D cA base bS L p l e R s m args below meth c nL N0 S0 QQ (pc + 3) ls (r.toList ++ st.drop (m_na y)) w')) : m_V D cA base bS L p l e R s m args below meth c nL N0 S0 QQ pc ls st w := by
  intro h1 h2 h3 H locs lsA hl hh hS
  obtain ⟨y1, y2, y3, y4, y5, -, -, -⟩ := hy
  have hR : (m_rm d y).frames + 1 ≤ R.frames ∧ 8 + (m_mx y + 11) + (m_rm d y).locals ≤ R.locals := by
    show d + 1 ≤ R.frames ∧ 8 + (m_mx y + 11) + 64 * d ≤ R.locals
    omega
  have hstk : st.map (m_tv (m_ad base bS)) = (((st.take (m_na y)).reverse).map (m_tv (m_ad base bS))).reverse ++ (st.drop (m_na y)).map (m_tv (m_ad base bS)) := by
    rw [← List.map_reverse, List.reverse_reverse, ← List.map_append, List.take_append_drop]
  have hlen : (((st.take (m_na y)).reverse).map (m_tv (m_ad base bS))).length = m_na y := by
    rw [List.length_map, List.length_reverse, List.length_take]
    omega
  have hroom : 2 * (F0 m pc lsA (st.map (m_tv (m_ad base bS)))).monitorRoom + (((st.drop (m_na y)).map (m_tv (m_ad base bS))).map fun v => v.category).sum ≤ 8 := lv_room (by rw [m_cats]; exact hrest)
  have hf : (w.1.length - N0) + (m_bg y).1 ≤ R.cells ∧ (m_sl w.1 - S0) + (m_bg y).2 ≤ R.slots := by
    omega
  have hsz : (F0 m pc lsA (st.map (m_tv (m_ad base bS)))).locals.size = nL := hl.1.1
  have hpre := m_pre (st.take (m_na y)).reverse hh hK hN
  have S : CallFix p m c cc nL s args m_W0 own := ⟨hx, hb, hml, hown, ok⟩
  rcases hlink with hl1 | ⟨host, hl1⟩
  · exact m_after (va_runS S hM ⟨callB_of (m_na y) ok (m_good y y1) rfl rfl rfl (ok _ y2) hl1 y3 hR, ok _ (y5 hky)⟩ hpre rfl hlen hsz hstk hroom hd hf) h1 h2 h3 hl hS
  · exact m_after (va_runSN S hM ⟨va_cnB (m_na y) ok (m_good y y1) rfl rfl rfl hl1 (ok _ y2) y3 hR, ok _ (y5 hky), trivial⟩ hpre rfl hlen hsz hstk hroom hd hf) h1 h2 h3 hl hS
end MC
