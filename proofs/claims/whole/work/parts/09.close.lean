/-! The small machine is sound: one step, and all steps -/
theorem m_tgt {pc : Nat} {off : Int} (h : 0 ≤ (pc : Int) + off) : ∃ t : Nat, (pc : Int) + off = (t : Int) := ⟨((pc : Int) + off).toNat, (Int.toNat_of_nonneg h).symm⟩
theorem m_nx_of {z : Int} {t : Nat} {ls : mL} {st : mS} {w : mW} (h : z = (t : Int)) : m_nx z ls st w = m_go t ls st w := by
  subst h
  rfl
theorem m_nx_inv {cl : mC} {X : mX} {Q : mQ} {pc : Nat} {ls ls' : mL} {w w' : mW} {z : Int} {st : mS} (h : m_A cl X Q pc ls w (m_nx z ls' st w')) : ∃ t : Nat, z = (t : Int) ∧ X t ls' st w' := by
  cases z with
  | ofNat t => exact ⟨t, rfl, h⟩
  | negSucc t => exact h.elim
set_option maxHeartbeats 4000000 in
set_option maxRecDepth 100000 in
theorem m_close {l : Launch} {D : va_G} {cA : Nat → ClassId} {base bS L : Nat} {d : Nat} (IH : ∀ y as w Q, m_E d y as w Q → m_M l D cA base bS L d y as w Q) {p : Program} {e : Env} {R : Room} {s : State} {m : MethodId} {args : Array Value} {below : List Frame} {meth : Method} {c : Code} {me N0 S0 : Nat} {Q : mQ} (hR1 : d + 1 ≤ R.frames) (hR2 : 64 * (d + 1) ≤ R.locals) (hR3 : (m_bg me).1 ≤ R.cells) (hR4 : (m_bg me).2 ≤ R.slots)
    (hx : p.tables.exec = Jvm.exec) (hb : c.code = m_by me) (hml : c.maxLocals = m_mx me) (ok : ∀ x ∈ m_W0, x.before args s = true) (hown : s.vm.findClass (m_on me) = some m.cls) (hinit : (m_mn me).name = "<init>" → meth.name = "<init>") (hK : va_K D mCl (m_ty cA) s) (hN : m_ne s) {QQ : State → Prop} (hri : ∀ (pc : Nat) (ls : mL) (x : Int32) (w : mW), decode (m_by me) pc = .ok (.ireturn, 1) → (m_rt me = 1 ∨ (m_rt me = 2 ∧ (x = 0 ∨ x = 1))) → w.1.length = N0 + (m_bg me).1 → m_sl w.1 = S0 + (m_bg me).2 → Q (some (.inl x)) w → m_V D cA base bS L p l e R s m args below meth c (m_mx me) N0 S0 QQ pc ls [.inl x] w) (hrv : ∀ (pc : Nat) (ls : mL) (w : mW), decode (m_by me) pc = .ok (.return_, 1) → m_rt me = 0 → w.1.length = N0 + (m_bg me).1 → m_sl w.1 = S0 + (m_bg me).2 → Q none w → m_V D cA base bS L p l e R s m args below meth c (m_mx me) N0 S0 QQ pc ls [] w) :
    ∀ (pc : Nat) (ls : mL) (st : mS) (w : mW), m_F (m_E d) me N0 S0 (fun pc ls st w => m_V D cA base bS L p l e R s m args below meth c (m_mx me) N0 S0 QQ pc ls st w) Q pc ls st w → m_V D cA base bS L p l e R s m args below meth c (m_mx me) N0 S0 QQ pc ls st w := by
  intro pc ls st w h
  unfold m_F at h
  split at h
  · exact h.elim
  rename_i i hi
  obtain ⟨n, hd, hk⟩ := m_tb_ok hi
  cases i with
  | iconst x =>
    obtain rfl : n = 1 := by simpa [m_lk] using hk
    exact mv_iconst hx hb hd h
  | bipush x =>
    obtain rfl : n = 2 := by simpa [m_lk] using hk
    exact mv_bipush hx hb hd h
  | sipush x =>
    obtain rfl : n = 3 := by simpa [m_lk] using hk
    exact mv_sipush hx hb hd h
  | aconst_null =>
    obtain rfl : n = 1 := by simpa [m_lk] using hk
    exact mv_null hx hb hd h
  | iload_n x =>
    obtain rfl : n = 1 := by simpa [m_lk] using hk
    change m_A _ _ _ _ _ _ (m_li (pc + 1) x.val ls st w) at h
    unfold m_li at h
    split at h
    · rename_i v hv
      exact mv_iload_n hx hb hd hv h
    · exact h.elim
  | iload x =>
    obtain rfl : n = 2 := by simpa [m_lk] using hk
    change m_A _ _ _ _ _ _ (m_li (pc + 2) x ls st w) at h
    unfold m_li at h
    split at h
    · rename_i v hv
      exact mv_iload hx hb hd hv h
    · exact h.elim
  | aload_n x =>
    obtain rfl : n = 1 := by simpa [m_lk] using hk
    change m_A _ _ _ _ _ _ (m_la (pc + 1) x.val ls st w) at h
    unfold m_la at h
    split at h
    · rename_i v hv
      exact mv_aload_n hx hb hd hv h
    · exact h.elim
  | aload x =>
    obtain rfl : n = 2 := by simpa [m_lk] using hk
    change m_A _ _ _ _ _ _ (m_la (pc + 2) x ls st w) at h
    unfold m_la at h
    split at h
    · rename_i v hv
      exact mv_aload hx hb hd hv h
    · exact h.elim
  | istore_n x =>
    obtain rfl : n = 1 := by simpa [m_lk] using hk
    change m_A _ _ _ _ _ _ (m_ti (pc + 1) x.val ls st w) at h
    unfold m_ti at h
    split at h
    · split at h
      · rename_i hlt
        exact mv_istore_n hx hb hd hlt h
      · exact h.elim
    · exact h.elim
  | istore x =>
    obtain rfl : n = 2 := by simpa [m_lk] using hk
    change m_A _ _ _ _ _ _ (m_ti (pc + 2) x ls st w) at h
    unfold m_ti at h
    split at h
    · split at h
      · rename_i hlt
        exact mv_istore hx hb hd hlt h
      · exact h.elim
    · exact h.elim
  | astore_n x =>
    obtain rfl : n = 1 := by simpa [m_lk] using hk
    change m_A _ _ _ _ _ _ (m_ta (pc + 1) x.val ls st w) at h
    unfold m_ta at h
    split at h
    · split at h
      · rename_i hlt
        exact mv_astore_n hx hb hd hlt h
      · exact h.elim
    · exact h.elim
  | astore x =>
    obtain rfl : n = 2 := by simpa [m_lk] using hk
    change m_A _ _ _ _ _ _ (m_ta (pc + 2) x ls st w) at h
    unfold m_ta at h
    split at h
    · split at h
      · rename_i hlt
        exact mv_astore hx hb hd hlt h
      · exact h.elim
    · exact h.elim
  | iinc x v =>
    obtain rfl : n = 3 := by simpa [m_lk] using hk
    change m_A _ _ _ _ _ _ (match ls[x]? with | some (some (.inl y)) => m_go (pc + 3) (ls.set x (some (.inl (y + Int32.ofInt v)))) st w | _ => none) at h
    split at h
    · rename_i y hy
      exact mv_iinc hx hb hd hy h
    · exact h.elim
  | iadd =>
    obtain rfl : n = 1 := by simpa [m_lk] using hk
    change m_A _ _ _ _ _ _ (m_b2 (fun x y => x + y) (pc + 1) ls st w) at h
    unfold m_b2 at h
    split at h
    · exact mv_iadd hx hb hd h
    · exact h.elim
  | isub =>
    obtain rfl : n = 1 := by simpa [m_lk] using hk
    change m_A _ _ _ _ _ _ (m_b2 (fun x y => x - y) (pc + 1) ls st w) at h
    unfold m_b2 at h
    split at h
    · exact mv_isub hx hb hd h
    · exact h.elim
  | imul =>
    obtain rfl : n = 1 := by simpa [m_lk] using hk
    change m_A _ _ _ _ _ _ (m_b2 (fun x y => x * y) (pc + 1) ls st w) at h
    unfold m_b2 at h
    split at h
    · exact mv_imul hx hb hd h
    · exact h.elim
  | iand =>
    obtain rfl : n = 1 := by simpa [m_lk] using hk
    change m_A _ _ _ _ _ _ (m_b2 (fun x y => x &&& y) (pc + 1) ls st w) at h
    unfold m_b2 at h
    split at h
    · exact mv_iand hx hb hd h
    · exact h.elim
  | dup =>
    obtain rfl : n = 1 := by simpa [m_lk] using hk
    rcases st with _ | ⟨a, st⟩
    · exact (show False from h).elim
    · exact mv_dup hx hb hd h
  | pop =>
    obtain rfl : n = 1 := by simpa [m_lk] using hk
    rcases st with _ | ⟨a, st⟩
    · exact (show False from h).elim
    · exact mv_pop hx hb hd h
  | dup_x1 =>
    obtain rfl : n = 1 := by simpa [m_lk] using hk
    rcases st with _ | ⟨a, _ | ⟨b, st⟩⟩
    · exact (show False from h).elim
    · exact (show False from h).elim
    · exact mv_dup_x1 hx hb hd h
  | dup2 =>
    obtain rfl : n = 1 := by simpa [m_lk] using hk
    rcases st with _ | ⟨a, _ | ⟨b, st⟩⟩
    · exact (show False from h).elim
    · exact (show False from h).elim
    · exact mv_dup2 hx hb hd h
  | ifCond cn off =>
    have hk2 : n = 3 ∧ 0 ≤ (pc : Int) + off := by simpa [m_lk] using hk
    obtain ⟨rfl, hk3⟩ := hk2
    obtain ⟨t, ht⟩ := m_tgt hk3
    rcases st with _ | ⟨x | r, st⟩
    · exact (show False from h).elim
    · change m_A _ _ _ _ _ _ (m_if cn x 0 (m_nx ((pc : Int) + off) ls st w) (m_go (pc + 3) ls st w)) at h
      rw [m_nx_of ht] at h
      exact mv_if hx hb hd ht h
    · exact (show False from h).elim
  | if_icmp cn off =>
    have hk2 : n = 3 ∧ 0 ≤ (pc : Int) + off := by simpa [m_lk] using hk
    obtain ⟨rfl, hk3⟩ := hk2
    obtain ⟨t, ht⟩ := m_tgt hk3
    rcases st with _ | ⟨y | r, _ | ⟨x | r2, st⟩⟩
    · exact (show False from h).elim
    · exact (show False from h).elim
    · change m_A _ _ _ _ _ _ (m_if cn x y (m_nx ((pc : Int) + off) ls st w) (m_go (pc + 3) ls st w)) at h
      rw [m_nx_of ht] at h
      exact mv_icmp hx hb hd ht h
    · exact (show False from h).elim
    · exact (show False from h).elim
    · exact (show False from h).elim
    · exact (show False from h).elim
  | ifnull off =>
    have hk2 : n = 3 ∧ 0 ≤ (pc : Int) + off := by simpa [m_lk] using hk
    obtain ⟨rfl, hk3⟩ := hk2
    obtain ⟨t, ht⟩ := m_tgt hk3
    rcases st with _ | ⟨x | (_ | r), st⟩
    · exact (show False from h).elim
    · exact (show False from h).elim
    · change m_A _ _ _ _ _ _ (m_nx ((pc : Int) + off) ls st w) at h
      rw [m_nx_of ht] at h
      exact mv_ifnullN hx hb hd ht h
    · exact mv_ifnull hx hb hd h
  | ifnonnull off =>
    have hk2 : n = 3 ∧ 0 ≤ (pc : Int) + off := by simpa [m_lk] using hk
    obtain ⟨rfl, hk3⟩ := hk2
    obtain ⟨t, ht⟩ := m_tgt hk3
    rcases st with _ | ⟨x | (_ | r), st⟩
    · exact (show False from h).elim
    · exact (show False from h).elim
    · exact mv_ifnonnullN hx hb hd h
    · change m_A _ _ _ _ _ _ (m_nx ((pc : Int) + off) ls st w) at h
      rw [m_nx_of ht] at h
      exact mv_ifnonnull hx hb hd ht h
  | goto off =>
    have hk2 : n = 3 ∧ 0 ≤ (pc : Int) + off := by simpa [m_lk] using hk
    obtain ⟨rfl, hk3⟩ := hk2
    obtain ⟨t, ht⟩ := m_tgt hk3
    change m_A _ _ _ _ _ _ (m_nx ((pc : Int) + off) ls st w) at h
    rw [m_nx_of ht] at h
    exact mv_goto hx hb hd ht h
  | tableswitch df lo hig offs =>
    rcases st with _ | ⟨x | r, st⟩
    · exact (show False from h).elim
    · change m_A _ _ _ _ _ _ (if x.toInt < lo ∨ hig < x.toInt then m_nx ((pc : Int) + df) ls st w else match offs[(x.toInt - lo).toNat]? with | some off => m_nx ((pc : Int) + off) ls st w | none => none) at h
      split at h
      · rename_i hc
        obtain ⟨t, ht, h⟩ := m_nx_inv h
        exact mv_tableOut hx hb hd hc ht h
      · rename_i hc
        split at h
        · rename_i off ho
          obtain ⟨t, ht, h⟩ := m_nx_inv h
          exact mv_tableIn hx hb hd hc ho ht h
        · exact h.elim
    · exact (show False from h).elim
  | lookupswitch df ps =>
    rcases st with _ | ⟨x | r, st⟩
    · exact (show False from h).elim
    · change m_A _ _ _ _ _ _ (if (ps.toList.zip (ps.toList.drop 1)).all (fun q => decide (q.1.1 < q.2.1)) = true then m_nx ((pc : Int) + Op.lookupswitch.offset ps.toList df x.toInt) ls st w else none) at h
      split at h
      · rename_i hp
        obtain ⟨t, ht, h⟩ := m_nx_inv h
        exact mv_lookup hx hb hd hp ht h
      · exact h.elim
    · exact (show False from h).elim
  | getfield idx =>
    obtain rfl : n = 3 := by simpa [m_lk] using hk
    change m_A _ _ _ _ _ _ (m_gf (m_fl me idx) (pc + 3) ls st w) at h
    unfold m_gf at h
    split at h
    · rename_i ci j k st' hfl
      split at h
      · rename_i hk1
        obtain ⟨C, T, N, ty, hF, hj, hlk⟩ := m_fl_ok hfl
        exact mv_gf hx hb ok hown hK hF hj (m_lf_of ok hN hlk) hk1 hd h
      · exact h.elim
    · exact h.elim
  | putfield idx =>
    obtain rfl : n = 3 := by simpa [m_lk] using hk
    change m_A _ _ _ _ _ _ (m_pf (m_fp me idx) (pc + 3) ls st w) at h
    unfold m_pf at h
    split at h
    · rename_i ci j x k st' hfl
      split at h
      · rename_i hk1
        obtain ⟨hk1, hty⟩ := hk1
        obtain ⟨C, T, N, ty, hF, hj, hlk, hfin⟩ := m_fp_ok hfl
        have hfk := hF.2.2.2.2.2 j hj
        refine mv_pf hx hb ok hown hK hF hj (m_lf_of ok hN hlk) (m_fin_of ok hinit hfin) hk1 hd (v := .inl x) (w' := (w.1, m_si w.2.1 k j x, w.2.2)) rfl (fun a ha => ⟨m_si_row ha, rfl⟩) (fun i hi => ?_) ?_ ?_ h
        · by_cases hij : i = j
          · subst hij
            have hne : ¬ m_ft ci i = 2 := by omega
            unfold m_ld
            rw [if_neg hne, if_pos rfl]
            simp [m_si]
          · unfold m_ld
            simp [m_si, hij]
        · rcases hty with h0 | ⟨h0, h01⟩
          · rw [h0] at hfk
            generalize ty j = t9 at hfk ⊢
            cases t9 <;> first | rfl | (simp [m_fk] at hfk; done)
          · rw [h0] at hfk
            generalize ty j = t9 at hfk ⊢
            cases t9 <;> first | (rcases h01 with rfl | rfl <;> rfl) | (simp [m_fk] at hfk; done)
        · rcases hty with h0 | ⟨h0, h01⟩
          · rw [h0] at hfk
            generalize ty j = t9 at hfk ⊢
            cases t9 <;> first | rfl | (simp [m_fk] at hfk; done)
          · rw [h0] at hfk
            generalize ty j = t9 at hfk ⊢
            cases t9 <;> first | (rcases h01 with rfl | rfl <;> rfl) | (simp [m_fk] at hfk; done)
      · exact h.elim
    · rename_i ci j r k st' hfl
      split at h
      · rename_i hk1
        obtain ⟨hk1, hty⟩ := hk1
        obtain ⟨C, T, N, ty, hF, hj, hlk, hfin⟩ := m_fp_ok hfl
        have hfk := hF.2.2.2.2.2 j hj
        rw [hty] at hfk
        refine mv_pf hx hb ok hown hK hF hj (m_lf_of ok hN hlk) (m_fin_of ok hinit hfin) hk1 hd (v := .inr r) (w' := (w.1, w.2.1, m_sr w.2.2 k j r)) rfl (fun a ha => ⟨rfl, m_sr_row ha⟩) (fun i hi => ?_) ?_ ?_ h
        · by_cases hij : i = j
          · subst hij
            unfold m_ld
            rw [if_pos hty, if_pos rfl]
            simp [m_sr]
          · unfold m_ld
            simp [m_sr, hij]
        · generalize ty j = t9 at hfk ⊢
          cases t9 <;> first | (cases r <;> rfl) | (simp [m_fk] at hfk; done)
        · generalize ty j = t9 at hfk ⊢
          cases t9 <;> first | (cases r <;> rfl) | (simp [m_fk] at hfk; done)
      · exact h.elim
    · exact h.elim
  | iaload =>
    obtain rfl : n = 1 := by simpa [m_lk] using hk
    change m_A _ _ _ _ _ _ (m_xi (pc + 1) ls st w) at h
    unfold m_xi at h
    split at h
    · rename_i i k st'
      split at h
      · rename_i t9 n9 hk1
        split at h
        · rename_i hc
          obtain ⟨rfl, hc⟩ := hc
          exact mv_xi hx hb hK hk1 hc hd h
        · exact h.elim
      · split at h
        · rename_i hc
          obtain ⟨rfl, hc⟩ := hc
          exact mv_xs hx hb hc hd h
        · exact h.elim
    · exact h.elim
  | baload =>
    obtain rfl : n = 1 := by simpa [m_lk] using hk
    change m_A _ _ _ _ _ _ (m_xb (pc + 1) ls st w) at h
    unfold m_xb at h
    split at h
    · rename_i i k st'
      split at h
      · rename_i t9 n9 hk1
        split at h
        · rename_i hc
          obtain ⟨rfl, hc⟩ := hc
          exact mv_xb hx hb hK hk1 hc hd h
        · exact h.elim
      · exact h.elim
    · exact h.elim
  | aaload =>
    obtain rfl : n = 1 := by simpa [m_lk] using hk
    change m_A _ _ _ _ _ _ (m_xa (pc + 1) ls st w) at h
    unfold m_xa at h
    split at h
    · rename_i i k st'
      split at h
      · rename_i t9 n9 hk1
        split at h
        · rename_i hc
          exact mv_xa hx hb hK hc.1 hk1 hc.2 hd h
        · exact h.elim
      · exact h.elim
    · exact h.elim
  | iastore =>
    obtain rfl : n = 1 := by simpa [m_lk] using hk
    change m_A _ _ _ _ _ _ (m_yi (pc + 1) ls st w) at h
    unfold m_yi at h
    split at h
    · rename_i x i k st'
      split at h
      · rename_i t9 n9 hk1
        split at h
        · rename_i hc
          obtain ⟨rfl, hc⟩ := hc
          exact mv_yi hx hb hK hk1 hc hd h
        · exact h.elim
      · exact h.elim
    · exact h.elim
  | bastore =>
    obtain rfl : n = 1 := by simpa [m_lk] using hk
    change m_A _ _ _ _ _ _ (m_yb (pc + 1) ls st w) at h
    unfold m_yb at h
    split at h
    · rename_i x i k st'
      split at h
      · rename_i t9 n9 hk1
        split at h
        · rename_i hc
          obtain ⟨⟨rfl, h01⟩, hc⟩ := hc
          exact mv_yb hx hb hK hk1 h01 hc hd h
        · exact h.elim
      · exact h.elim
    · exact h.elim
  | aastore =>
    obtain rfl : n = 1 := by simpa [m_lk] using hk
    change m_A _ _ _ _ _ _ (m_ya (pc + 1) ls st w) at h
    unfold m_ya at h
    split at h
    · rename_i v i k st'
      split at h
      · rename_i t9 n9 hk1
        split at h
        · rename_i hc
          obtain ⟨⟨ht, hv⟩, hc⟩ := hc
          obtain ⟨T, N, ty, hF⟩ := m_ak_ok ht
          exact mv_ya hx hb hK (t9 - 1) (by rcases ht with rfl | rfl <;> rfl) ht hF hk1 hv hc hd h
        · exact h.elim
      · exact h.elim
    · exact h.elim
  | arraylength =>
    obtain rfl : n = 1 := by simpa [m_lk] using hk
    change m_A _ _ _ _ _ _ (m_al (pc + 1) ls st w) at h
    unfold m_al at h
    split at h
    · rename_i k st'
      split at h
      · rename_i t9 n9 hk1
        split at h
        · rename_i hc
          exact mv_al hx hb hK hc hk1 hd h
        · exact h.elim
      · split at h
        · rename_i hc
          subst hc
          exact mv_as hx hb hd h
        · exact h.elim
    · exact h.elim
  | new idx =>
    obtain rfl : n = 3 := by simpa [m_lk] using hk
    change m_A _ _ _ _ _ _ (match m_cl me idx with | some ci => m_mk me N0 S0 (0, ci) (pc + 3) ls st w | none => none) at h
    split at h
    · rename_i ci hci
      unfold m_mk at h
      split at h
      · rename_i hc
        obtain ⟨C, T, N, ty, hF, k1, k2, k3⟩ := m_cl_ok hci
        exact mv_new hx hb ok hown hK hF (ok _ k1) (ok _ k2) (ok _ k3) (by omega) (by omega) hc.2.2 hd h
      · exact h.elim
    · exact h.elim
  | newarray at9 =>
    obtain rfl : n = 2 := by simpa [m_lk] using hk
    cases at9 with
    | int =>
      change m_A _ _ _ _ _ _ (m_ma me N0 S0 1 (pc + 2) ls st w) at h
      unfold m_ma at h
      split at h
      · split at h
        · rename_i hc
          unfold m_mk at h
          split at h
          · rename_i hc2
            exact mv_newa hx hb rfl (Or.inl ⟨rfl, rfl, rfl⟩) (ok _ m_wi) hK hc.2.1 hc.2.2 (by omega) (by omega) hc2.2.2 hd h
          · exact h.elim
        · exact h.elim
      · exact h.elim
    | boolean =>
      change m_A _ _ _ _ _ _ (m_ma me N0 S0 2 (pc + 2) ls st w) at h
      unfold m_ma at h
      split at h
      · split at h
        · rename_i hc
          unfold m_mk at h
          split at h
          · rename_i hc2
            exact mv_newa hx hb rfl (Or.inr ⟨rfl, rfl, rfl⟩) (ok _ m_wz) hK hc.2.1 hc.2.2 (by omega) (by omega) hc2.2.2 hd h
          · exact h.elim
        · exact h.elim
      · exact h.elim
    | _ => exact (show False from h).elim
  | anewarray idx =>
    obtain rfl : n = 3 := by simpa [m_lk] using hk
    change m_A _ _ _ _ _ _ (match m_ca me idx with | some t => m_ma me N0 S0 t (pc + 3) ls st w | none => none) at h
    split at h
    · rename_i t9 hci
      unfold m_ma at h
      split at h
      · split at h
        · rename_i hc
          unfold m_mk at h
          split at h
          · rename_i hc2
            obtain ⟨ht, k1, k2⟩ := m_ca_ok hci
            exact mv_newq hx hb (t0 := t9 - 1) hown (ok _ k1) (m_ao_of hN k2) ht (by rcases ht with rfl | rfl <;> rfl) hK hc.2.1 hc.2.2 (by omega) (by omega) hc2.2.2 hd h
          · exact h.elim
        · exact h.elim
      · exact h.elim
    · exact h.elim
  | invokevirtual idx =>
    obtain rfl : n = 3 := by simpa [m_lk] using hk
    change m_A _ _ _ _ _ _ (match m_ml me idx with | some y => m_cr me N0 S0 y 1 st w | none => none) at h
    split at h
    · rename_i y hy
      unfold m_cr at h
      split at h
      · rename_i b rest hst
        split at h
        · rename_i hc
          obtain ⟨⟨c1, c2, c3, c4⟩, c5, c6⟩ := hc
          obtain ⟨hfy, hlk⟩ := m_ml_ok hy (by rintro rfl; exact absurd c2 (by decide))
          exact mv_cr hx hb hml ok hR1 hR2 hR3 hR4 hown hK hN hfy (m_lm_of ok hN hlk) (Or.inl ⟨rfl, hd⟩) hst c1 c2 c3 c4 c5 c6 (IH _ _ _ _ h)
        · exact h.elim
      · exact h.elim
    · exact h.elim
  | invokespecial idx =>
    obtain rfl : n = 3 := by simpa [m_lk] using hk
    change m_A _ _ _ _ _ _ (match m_ml me idx with | some y => if y = 0 then m_so (pc + 3) ls st w else m_cr me N0 S0 y 2 st w | none => none) at h
    split at h
    · rename_i y hy
      split at h
      · rename_i hy0
        subst hy0
        unfold m_so at h
        split at h
        · rename_i b st'
          split at h
          · rename_i hc
            obtain ⟨k1, k2, k3⟩ := m_oi_ok hy
            exact mv_oi hx hb hml (by omega) (by omega) hown (ok _ k1) (ok _ k2) (ok _ k3) hc hd h
          · exact h.elim
        · exact h.elim
      · rename_i hy0
        unfold m_cr at h
        split at h
        · rename_i b rest hst
          split at h
          · rename_i hc
            obtain ⟨⟨c1, c2, c3, c4⟩, c5, c6⟩ := hc
            obtain ⟨hfy, hlk⟩ := m_ml_ok hy hy0
            exact mv_cr hx hb hml ok hR1 hR2 hR3 hR4 hown hK hN hfy (m_lm_of ok hN hlk) (Or.inr ⟨rfl, hd⟩) hst c1 c2 c3 c4 c5 c6 (IH _ _ _ _ h)
          · exact h.elim
        · exact h.elim
    · exact h.elim
  | invokestatic idx =>
    obtain rfl : n = 3 := by simpa [m_lk] using hk
    change m_A _ _ _ _ _ _ (match m_ml me idx with | some y => m_cs me N0 S0 y st w | none => none) at h
    split at h
    · rename_i y hy
      unfold m_cs at h
      split at h
      · rename_i hc
        obtain ⟨⟨c1, c2, c3⟩, c5, c6⟩ := hc
        obtain ⟨hfy, hlk⟩ := m_ml_ok hy (by rintro rfl; exact absurd c2 (by decide))
        exact mv_cs hx hb hml ok hR1 hR2 hR3 hR4 hown hK hN hfy (m_lm_of ok hN hlk) hd c1 c2 c3 c5 c6 (IH _ _ _ _ h)
      · exact h.elim
    · exact h.elim
  | ireturn =>
    obtain rfl : n = 1 := by simpa [m_lk] using hk
    change m_A _ _ _ _ _ _ (m_ri me N0 S0 st w) at h
    unfold m_ri at h
    split at h
    · rename_i x
      split at h
      · rename_i hc
        exact hri pc ls x w hd hc.1 hc.2.1 hc.2.2 h
      · exact h.elim
    · exact h.elim
  | return_ =>
    obtain rfl : n = 1 := by simpa [m_lk] using hk
    change m_A _ _ _ _ _ _ (m_rv me N0 S0 st w) at h
    unfold m_rv at h
    split at h
    · split at h
      · rename_i hc
        exact hrv pc ls w hd hc.1 hc.2.1 hc.2.2 h
      · exact h.elim
    · exact h.elim
  | _ => exact (show False from h).elim
theorem m_reti {D : va_G} {cA : Nat → ClassId} {base bS L : Nat} {p : Program} {l : Launch} {e : Env} {R : Room} {s : State} {m : MethodId} {args : Array Value} {below : List Frame} {meth : Method} {c : Code} {me nL : Nat} {w0 : mW} {Q : mQ} (hx : p.tables.exec = Jvm.exec) (hb : c.code = m_by me) (hr : meth.sig.returnType = m_rf me) (hlocks : meth.locks = false) (pc : Nat) (ls : mL) (x : Int32) (w : mW) (hd : decode (m_by me) pc = .ok (.ireturn, 1)) (hrt : m_rt me = 1 ∨ (m_rt me = 2 ∧ (x = 0 ∨ x = 1))) (e1 : w.1.length = w0.1.length + (m_bg me).1) (e2 : m_sl w.1 = m_sl w0.1 + (m_bg me).2) (h : Q (some (.inl x)) w) : m_V D cA base bS L p l e R s m args below meth c nL w0.1.length (m_sl w0.1) (MQ below (m_Qc D cA base bS L me w0 Q) args s (m_bg me).1 (m_bg me).2 (fun q => base ≤ q)) pc ls [.inl x] w := by
  intro h1 h2 h3 H locs lsA hl hh hS
  have hne : ¬ m_rt me = 0 := by rcases hrt with q | ⟨q, -⟩ <;> omega
  have hq : ∀ t : State, t.heap = H → s.WarmedH t.vm → m_Qc D cA base bS L me w0 Q args s (.returned (some (.int x))) t := by
    intro t ht hW
    rw [show m_Qc D cA base bS L me w0 Q = va_Qi (fun (r : Int32) (u : mW) => Q (some (.inl r)) u) (m_B D cA base bS L me w0) (fun q => base ≤ q) from if_neg hne]
    exact ⟨⟨x, w, rfl, h, by rw [ht]; exact hh.moved hW.alike, e1, e2⟩, hS.F ht⟩
  refine W.cs (cells' := (m_bg me).1) (slots' := (m_bg me).2) (by omega) (by omega) ?_
  rcases hrt with h4 | ⟨h4, h5⟩
  · exact W.iret hx hb (hr.trans (m_rf1 h4)) hq hS.2.2 hd
  · exact W.zret hx hb (hr.trans (m_rf2 h4)) (by rcases h5 with rfl | rfl <;> rfl) hq hS.2.2 hd
theorem m_retv {D : va_G} {cA : Nat → ClassId} {base bS L : Nat} {p : Program} {l : Launch} {e : Env} {R : Room} {s : State} {m : MethodId} {args : Array Value} {below : List Frame} {meth : Method} {c : Code} {me nL : Nat} {w0 : mW} {Q : mQ} (hx : p.tables.exec = Jvm.exec) (hb : c.code = m_by me) (hr : meth.sig.returnType = m_rf me) (hlocks : meth.locks = false) (pc : Nat) (ls : mL) (w : mW) (hd : decode (m_by me) pc = .ok (.return_, 1)) (hrt : m_rt me = 0) (e1 : w.1.length = w0.1.length + (m_bg me).1) (e2 : m_sl w.1 = m_sl w0.1 + (m_bg me).2) (h : Q none w) : m_V D cA base bS L p l e R s m args below meth c nL w0.1.length (m_sl w0.1) (MQ below (m_Qc D cA base bS L me w0 Q) args s (m_bg me).1 (m_bg me).2 (fun q => base ≤ q)) pc ls [] w := by
  intro h1 h2 h3 H locs lsA hl hh hS
  have hq : ∀ t : State, t.heap = H → s.WarmedH t.vm → m_Qc D cA base bS L me w0 Q args s (.returned none) t := by
    intro t ht hW
    rw [show m_Qc D cA base bS L me w0 Q = va_Qv (fun u : mW => Q none u) (m_B D cA base bS L me w0) (fun q => base ≤ q) from if_pos hrt]
    exact ⟨⟨w, rfl, h, by rw [ht]; exact hh.moved hW.alike, e1, e2⟩, hS.F ht⟩
  refine W.cs (cells' := (m_bg me).1) (slots' := (m_bg me).2) (by omega) (by omega) ?_
  exact W.vret hx hb (hr.trans (m_rf0 hrt)) hq hS.2.2 hd
theorem m_sound {l : Launch} {D : va_G} {cA : Nat → ClassId} {base bS L : Nat} (hprim : ∀ d as w Q, 2 ≤ d → m_pK as w Q → m_M l D cA base bS L (d + 1) 1 as w Q) : ∀ (d y : Nat) (as : List mV) (w : mW) (Q : mQ), m_E d y as w Q → m_M l D cA base bS L d y as w Q
  | 0, _, _, _, _, h => h.elim
  | d + 1, y, as, w, Q, h => by
    unfold m_E at h
    split at h
    · rename_i hy
      subst hy
      exact hprim d as w Q h.1 h.2
    split at h
    · rename_i hlen
      refine Met.ofW (cc := m_by y) (maxL := m_mx y) (ret := m_rf y) (m_pl y) rfl ?_
      intro p e s m args below meth c s₁ B hml hv
      obtain ⟨rfl, hh, hK, hN⟩ := hv
      have hts := atoms_spec (ws := m_ws y) B.pre
      have hown : s.vm.findClass (m_on y) = some m.cls := findClass_of_methodNamed B.named
      have hinit : (m_mn y).name = "<init>" → meth.name = "<init>" := fun hn => (name_of_methodNamed B.named B.method).1.trans hn
      obtain ⟨hl1, hl2⟩ := m_lh.entry (ad := m_ad base bS) as hlen
      have hl := lv_entry (as.map (m_tv (m_ad base bS))) (n := m_mx y) hl1
      rw [lg_entry_eq]
      have hV := h (fun pc ls st w' => m_V D cA base bS L p l e (m_rm (d + 1) y) s m ((as.map (m_tv (m_ad base bS))).toArray) below meth c (m_mx y) w.1.length (m_sl w.1) (MQ below (m_Qc D cA base bS L y w Q) ((as.map (m_tv (m_ad base bS))).toArray) s (m_bg y).1 (m_bg y).2 (fun q => base ≤ q)) pc ls st w') (m_close (m_sound hprim d) (Nat.le_refl _) (Nat.le_refl _) (Nat.le_refl _) (Nat.le_refl _) B.exec B.bytes hml (fun x hx => hts x (List.mem_cons_of_mem _ hx)) hown hinit hK hN (m_reti B.exec B.bytes B.returns B.notSynchronized) (m_retv B.exec B.bytes B.returns B.notSynchronized))
      have hW := hV (by rw [List.length_append, List.length_map, List.length_replicate]; omega) (Nat.le_refl _) (Nat.le_refl _) s.heap [] _ (hl2 _ hl) hh va_S.rf
      rw [Nat.sub_self, Nat.sub_self] at hW
      exact hW
    · exact h.elim
