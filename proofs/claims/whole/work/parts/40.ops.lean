/-! each call of the law -/
def m_op (yc ym : Nat) (as : List mV) (f : mF) (g : mG) : Prop := ∃ f1 g1 f2 r a P c t, (∀ (d : Nat) (Q : mQ), m_E (d + 40) yc (.inr (some 0) :: as) (m_SH, f, g) Q = Q (some (.inl r)) (m_SH, f1, g1)) ∧ (∀ (d : Nat) (Q : mQ), m_E (d + 40) ym (.inr (some 170) :: as) (m_SH, f1, g1) Q = Q (some (.inl r)) (m_SH, f2, g1)) ∧ m_lr a P c t f2 g1 ∧ (∀ k, 201 ≤ k → f1 k = f k) ∧ (∀ k, 201 ≤ k → f2 k = f k)
theorem m_op_rd {a P c t : Nat} {f : mF} {g : mG} (L : m_lr a P c t f g) {yc ym : Nat} {as : List mV} (r : Int32) (e1 : ∀ (d : Nat) (Q : mQ), m_E (d + 40) yc (.inr (some 0) :: as) (m_SH, f, g) Q = Q (some (.inl r)) (m_SH, f, g)) (e2 : ∀ (d : Nat) (Q : mQ), m_E (d + 40) ym (.inr (some 170) :: as) (m_SH, f, g) Q = Q (some (.inl r)) (m_SH, f, g)) : m_op yc ym as f g := ⟨f, g, f, r, a, P, c, t, e1, e2, L, fun _ _ => rfl, fun _ _ => rfl⟩
theorem m_lr_up {a P c t a' P' : Nat} {f f1 f2 : mF} {g : mG} (L : m_lr a P c t f g) (hi : ∀ k, 170 ≤ k → f1 k = f k) (R : m_re f1 f2) (lo : ∀ k, k < 170 → f2 k = f1 k) (md : ∀ k, 183 ≤ k → f2 k = f1 k) (ca : f2 170 13 = f1 170 13) (to : f2 170 14 = f1 170 14) (s : m_sf a' P' f2) : m_lr a' P' c t f2 g := by
  obtain ⟨o, s0, hc⟩ := L
  refine ⟨m_ok_mk (fun c n hd => ?_) o.go ?_ ?_ ?_ ?_, s, hc⟩
  · rw [lo _ (m_mk2 hd)]
    exact R c n hd
  · rw [md 190 (by decide), md 192 (by decide), md 193 (by decide), md 197 (by decide), hi 190 (by decide), hi 192 (by decide), hi 193 (by decide), hi 197 (by decide)]
    exact o.bo
  · rw [md 198 (by decide), hi 198 (by decide)]
    exact o.hc
  · rw [ca, hi 170 (by decide)]
    exact o.ca
  · rw [to, hi 170 (by decide)]
    exact o.to
theorem m_re_hi {f h f1 : mF} (R : m_re f h) (hi : ∀ k, 170 ≤ k → f1 k = h k) : m_re f f1 := fun c n hd => by
  rw [hi c (m_dm_lt hd).2.2]
  exact R c n hd
theorem m_sf_rc {a P : Nat} {h : mF} (s : m_sf a P h) : ∀ i, i < 10 → h 173 i = nI (h 173 i).toNatClampNeg ∧ (h 173 i).toNatClampNeg ≤ 3 := by
  intro i hi
  obtain ⟨r, r3, e⟩ := (s.2.2.2.2.2.2.1 i hi).2.1
  rw [e, nI_clamp (by omega)]
  exact ⟨rfl, r3⟩
theorem m_sf_sc {a P : Nat} {h : mF} (s : m_sf a P h) : ∀ i, i < 10 → h 176 i = nI (h 176 i).toNatClampNeg ∧ (h 176 i).toNatClampNeg ≤ 8 := by
  intro i hi
  obtain ⟨r, r3, e, _⟩ := (s.2.2.2.2.2.2.1 i hi).2.2
  rw [e, nI_clamp (by omega)]
  exact ⟨rfl, r3⟩
theorem m_le_up {a : Nat} {y : Int32} (ha : a + 1 < 2 ^ 31) (q : ¬ nI a ≤ y) : ¬ nI (a + 1) ≤ y := fun e => q (Int32.le_trans (nI_le (a := a) (b := a + 1) (by omega) ha) e)
theorem m_has_up {a : Nat} {y : Int32} (ha : a + 1 < 2 ^ 31) (q : m_has (nI a) y = 1) : m_has (nI (a + 1)) y = 1 := by
  unfold m_has at q ⊢
  by_cases h0 : y < 0
  · rw [if_pos h0] at q; exact absurd q (by decide)
  by_cases h1 : nI a ≤ y
  · rw [if_neg h0, if_pos h1] at q; exact absurd q (by decide)
  rw [if_neg h0, if_neg (m_le_up ha h1)]
theorem m_fit_up {a : Nat} {m op A B : Int32} (ha : a + 1 < 2 ^ 31) (q : m_fit (nI a) m op A B = 1) : m_fit (nI (a + 1)) m op A B = 1 := by
  unfold m_fit at q ⊢
  by_cases o0 : op = 0
  · rw [if_pos o0] at q ⊢; exact q
  by_cases o1 : op = 1
  · rw [if_neg o0, if_pos o1] at q ⊢; exact q
  by_cases o2 : op = 2
  · rw [if_neg o0, if_neg o1, if_pos o2] at q ⊢; exact q
  by_cases o3 : op = 3
  · rw [if_neg o0, if_neg o1, if_neg o2, if_pos o3] at q ⊢
    by_cases h0 : A < 0
    · rw [if_pos h0] at q; exact absurd q (by decide)
    by_cases h1 : m ≤ A
    · rw [if_neg h0, if_pos h1] at q; exact absurd q (by decide)
    rw [if_neg h0, if_neg h1] at q ⊢
    by_cases b1 : B = -1
    · rw [if_pos b1]
    · rw [if_neg b1] at q ⊢
      exact m_has_up ha q
  by_cases o4 : op = 4
  · rw [if_neg o0, if_neg o1, if_neg o2, if_neg o3, if_pos o4] at q ⊢
    exact m_has_up ha q
  rw [if_neg o0, if_neg o1, if_neg o2, if_neg o3, if_neg o4] at q ⊢
  exact q
theorem l0 {a P c t : Nat} {f : mF} {g : mG} (L : m_lr a P c t f g) (x : Int32) : m_op 7 63 [.inl x] f g := by
  obtain ⟨o, s, hc⟩ := id L
  obtain ⟨s1, s2, s3, s4, s5, s6, s7, s8⟩ := id s
  have ma : f 1 1 = nI a := (xma o.re).trans s1
  have pn : f 0 2 = nI P := (xpn o.re).trans s5
  by_cases h0 : x < 0
  · exact m_op_rd L (-1) (fun d Q => by rw [c7 o.go ma s3, if_pos h0]) (fun d Q => by rw [c63 o.go s1 s3, if_pos h0])
  by_cases h1 : nI a ≤ x
  · exact m_op_rd L (-1) (fun d Q => by rw [c7 o.go ma s3, if_neg h0, if_pos h1]) (fun d Q => by rw [c63 o.go s1 s3, if_neg h0, if_pos h1])
  by_cases h16 : a < 16
  · have hi : ∀ k, 170 ≤ k → m_si (m_si f 2 a x) 1 1 (nI (a + 1)) k = f k := fun k hk => funext (fun j => by rw [m_sn (by omega), m_sn (by omega)])
    have s1' : m_si (m_si f 2 a x) 1 1 (nI (a + 1)) 170 0 = nI a := by rw [hi 170 (by decide)]; exact s1
    refine ⟨_, g, _, nI a, a + 1, P, c, t, fun d Q => by rw [c7 o.go ma s3, if_neg h0, if_neg h1, if_pos h16], fun d Q => by rw [c63 o.go s1' s3, if_neg h0, if_neg h1, if_pos h16], m_lr_up L hi (m_re_si (m_re_si (m_re_hi o.re hi) (dpa h16) rfl) (c := 170) (n := 0) rfl rfl) (fun k hk => funext (fun j => by rw [m_sn (by omega), m_sn (by omega)])) (fun k hk => funext (fun j => by rw [m_sn (by omega), m_sn (by omega)])) (by rw [m_sn (by omega), m_sn (by omega)]) (by rw [m_sn (by omega), m_sn (by omega)]) ?_, fun k hk => hi k (by omega), fun k hk => funext (fun j => by rw [m_sn (by omega), m_sn (by omega), hi k (by omega)])⟩
    have K : ∀ k, 172 ≤ k → m_si (m_si (m_si (m_si f 2 a x) 1 1 (nI (a + 1))) 171 a x) 170 0 (nI (a + 1)) k = f k := fun k hk => funext (fun j => by rw [m_sn (by omega), m_sn (by omega), hi k (by omega)])
    unfold m_sf
    rw [K 172 (by decide), K 173 (by decide), K 175 (by decide), K 176 (by decide), K 177 (by decide), K 178 (by decide), K 179 (by decide)]
    refine ⟨m_se, by omega, by omega, fun j hj => ?_, ?_, s6, fun m hm => ?_, s8⟩
    · rw [m_sn (by omega)]
      by_cases e : j = a
      · rw [e, m_se]
        exact Or.inr (m_le_up (by omega) h1)
      · rw [m_sn (by omega), hi 171 (by decide)]
        exact (s4 j (by omega)).imp id (m_le_up (by omega))
    · rw [m_sn (by omega), m_sn (by omega), hi 170 (by decide)]; exact s5
    · obtain ⟨t1, t2, st, t3, t4, t5⟩ := s7 m hm
      exact ⟨t1, t2, st, t3, t4, fun p hp => m_fit_up (by omega) (t5 p hp)⟩
  · exact m_op_rd L (-1) (fun d Q => by rw [c7 o.go ma s3, if_neg h0, if_neg h1, if_neg h16]) (fun d Q => by rw [c63 o.go s1 s3, if_neg h0, if_neg h1, if_neg h16])
theorem l1 {a P c t : Nat} {f : mF} {g : mG} (L : m_lr a P c t f g) (x : Int32) : m_op 10 65 [.inl x] f g := by
  obtain ⟨o, s, hc⟩ := id L
  obtain ⟨s1, s2, s3, s4, s5, s6, s7, s8⟩ := id s
  have ma : f 1 1 = nI a := (xma o.re).trans s1
  have pn : f 0 2 = nI P := (xpn o.re).trans s5
  by_cases h0 : x < 0
  · exact m_op_rd L (-1) (fun d Q => by rw [c10 o.go pn s6, if_pos h0]) (fun d Q => by rw [c65 o.go s5 s6, if_pos h0])
  by_cases h1 : 6 < x
  · exact m_op_rd L (-1) (fun d Q => by rw [c10 o.go pn s6, if_neg h0, if_pos h1]) (fun d Q => by rw [c65 o.go s5 s6, if_neg h0, if_pos h1])
  by_cases h16 : P < 10
  · have hi : ∀ k, 170 ≤ k → m_si (m_si f (6 + 16 * P) 0 x) 0 2 (nI (P + 1)) k = f k := fun k hk => funext (fun j => by rw [m_sn (by omega), m_sn (by omega)])
    have s5' : m_si (m_si f (6 + 16 * P) 0 x) 0 2 (nI (P + 1)) 170 2 = nI P := by rw [hi 170 (by decide)]; exact s5
    refine ⟨_, g, _, nI P, a, P + 1, c, t, fun d Q => by rw [c10 o.go pn s6, if_neg h0, if_neg h1, if_pos h16], fun d Q => by rw [c65 o.go s5' s6, if_neg h0, if_neg h1, if_pos h16], m_lr_up L hi (m_re_si (m_re_si (m_re_hi o.re hi) (dmd h16) rfl) (c := 170) (n := 2) rfl rfl) (fun k hk => funext (fun j => by rw [m_sn (by omega), m_sn (by omega)])) (fun k hk => funext (fun j => by rw [m_sn (by omega), m_sn (by omega)])) (by rw [m_sn (by omega), m_sn (by omega)]) (by rw [m_sn (by omega), m_sn (by omega)]) ?_, fun k hk => hi k (by omega), fun k hk => funext (fun j => by rw [m_sn (by omega), m_sn (by omega), hi k (by omega)])⟩
    have K : ∀ k, 171 ≤ k → k ≠ 172 → m_si (m_si (m_si (m_si f (6 + 16 * P) 0 x) 0 2 (nI (P + 1))) 172 P x) 170 2 (nI (P + 1)) k = f k := fun k hk hk2 => funext (fun j => by rw [m_sn (by omega), m_sn (by omega), hi k (by omega)])
    unfold m_sf
    rw [K 171 (by decide) (by decide), K 173 (by decide) (by decide), K 175 (by decide) (by decide), K 176 (by decide) (by decide), K 177 (by decide) (by decide), K 178 (by decide) (by decide), K 179 (by decide) (by decide)]
    refine ⟨?_, s2, s3, s4, m_se, by omega, fun m hm => ⟨?_, (s7 m hm).2⟩, s8⟩
    · rw [m_sn (by omega), m_sn (by omega), hi 170 (by decide)]; exact s1
    · rw [m_sn (by omega)]
      by_cases e : m = P
      · rw [e, m_se]
        obtain ⟨j, hj, rfl⟩ := nI_of h0
        exact ⟨j, Nat.le_of_not_lt (fun q => h1 (nI_lt (a := 6) (b := j) q hj)), rfl⟩
      · rw [m_sn (by omega), hi 172 (by decide)]
        exact (s7 m hm).1
  · exact m_op_rd L (-1) (fun d Q => by rw [c10 o.go pn s6, if_neg h0, if_neg h1, if_neg h16]) (fun d Q => by rw [c65 o.go s5 s6, if_neg h0, if_neg h1, if_neg h16])
theorem l2 {a P c t : Nat} {f : mF} {g : mG} (L : m_lr a P c t f g) (x y b : Int32) (hb : b = 0 ∨ b = 1) : m_op 11 66 [.inl x, .inl y, .inl b] f g := by
  obtain ⟨o, s, hc⟩ := id L
  obtain ⟨s1, s2, s3, s4, s5, s6, s7, s8⟩ := id s
  have ma : f 1 1 = nI a := (xma o.re).trans s1
  have pn : f 0 2 = nI P := (xpn o.re).trans s5
  have rc : ∀ i, i < 10 → f (6 + 16 * i) 3 = nI (f 173 i).toNatClampNeg ∧ (f 173 i).toNatClampNeg ≤ 3 := fun i hi => by rw [xrc o.re hi]; exact m_sf_rc s i hi
  have E1 := fun d Q => c11 (d := d + 38) (Q := Q) (x := x) (c := y) (b := b) o.go pn s6 rc hb
  have E2 := fun d Q => c66 (d := d + 38) (Q := Q) (x := x) (c := y) (b := b) o.go s5 s6 (m_sf_rc s) hb
  by_cases h0 : x < 0
  · exact m_op_rd L 0 (fun d Q => (E1 d Q).trans (by rw [if_pos h0])) (fun d Q => (E2 d Q).trans (by rw [if_pos h0]))
  by_cases h1 : nI P ≤ x
  · exact m_op_rd L 0 (fun d Q => (E1 d Q).trans (by rw [if_neg h0, if_pos h1])) (fun d Q => (E2 d Q).trans (by rw [if_neg h0, if_pos h1]))
  by_cases h2 : y < 0
  · exact m_op_rd L 0 (fun d Q => (E1 d Q).trans (by rw [if_neg h0, if_neg h1, if_pos h2])) (fun d Q => (E2 d Q).trans (by rw [if_neg h0, if_neg h1, if_pos h2]))
  by_cases h3 : nI a ≤ y
  · exact m_op_rd L 0 (fun d Q => (E1 d Q).trans (by rw [if_neg h0, if_neg h1, if_neg h2, ma, if_pos h3])) (fun d Q => (E2 d Q).trans (by rw [if_neg h0, if_neg h1, if_neg h2, s1, if_pos h3]))
  obtain ⟨i, hiP, rfl⟩ := vp_in_of (m_in h0 h1 (Nat.le_refl P) (by omega)) (by omega)
  have hi10 : i < 10 := by omega
  rw [nI_clamp (by omega)] at E1 E2
  obtain ⟨r, r3, er⟩ := (s7 i hi10).2.1
  have erc : (f 173 i).toNatClampNeg = r := by rw [er, nI_clamp (by omega)]
  rw [erc] at E1 E2
  by_cases h4 : r < 3
  · have hi : ∀ k, 170 ≤ k → m_si (m_si (m_si f (7 + 16 * i) r y) (8 + 16 * i) r b) (6 + 16 * i) 3 (nI (r + 1)) k = f k := fun k hk => funext (fun j => by rw [m_sn (by omega), m_sn (by omega), m_sn (by omega)])
    have E3 := fun d Q => c66 (d := d + 38) (Q := Q) (x := nI i) (c := y) (b := b) (f := m_si (m_si (m_si f (7 + 16 * i) r y) (8 + 16 * i) r b) (6 + 16 * i) 3 (nI (r + 1))) (rc := fun i => (f 173 i).toNatClampNeg) o.go (by rw [hi 170 (by decide)]; exact s5) s6 (by rw [hi 173 (by decide)]; exact m_sf_rc s) hb
    rw [nI_clamp (by omega)] at E3
    simp only [erc] at E3
    refine ⟨_, g, _, 1, a, P, c, t, fun d Q => (E1 d Q).trans (by rw [if_neg h0, if_neg h1, if_neg h2, ma, if_neg h3, if_pos h4]), fun d Q => (E3 d Q).trans (by rw [if_neg h0, if_neg h1, if_neg h2, hi 170 (by decide), s1, if_neg h3, if_pos h4]), m_lr_up L hi (m_re_si (m_re_si (m_re_si (m_re_hi o.re hi) (drk hi10 h4) (krk h4)) (drb hi10 h4) (krb h4)) (drc hi10) rfl) (fun k hk => funext (fun j => by rw [m_sn (by omega), m_sn (by omega), m_sn (by omega)])) (fun k hk => funext (fun j => by rw [m_sn (by omega), m_sn (by omega), m_sn (by omega)])) (by rw [m_sn (by omega), m_sn (by omega), m_sn (by omega)]) (by rw [m_sn (by omega), m_sn (by omega), m_sn (by omega)]) ?_, fun k hk => hi k (by omega), fun k hk => funext (fun j => by rw [m_sn (by omega), m_sn (by omega), m_sn (by omega), hi k (by omega)])⟩
    have K : ∀ k, 170 ≤ k → k ≠ 173 → k ≠ 174 → k ≠ 175 → m_si (m_si (m_si (m_si (m_si (m_si f (7 + 16 * i) r y) (8 + 16 * i) r b) (6 + 16 * i) 3 (nI (r + 1))) 174 (3 * i + r) y) 175 (3 * i + r) b) 173 i (nI (r + 1)) k = f k := fun k hk k1 k2 k3 => funext (fun j => by rw [m_sn (by omega), m_sn (by omega), m_sn (by omega), hi k (by omega)])
    unfold m_sf
    rw [K 170 (by decide) (by decide) (by decide) (by decide), K 171 (by decide) (by decide) (by decide) (by decide), K 172 (by decide) (by decide) (by decide) (by decide), K 176 (by decide) (by decide) (by decide) (by decide), K 177 (by decide) (by decide) (by decide) (by decide), K 178 (by decide) (by decide) (by decide) (by decide), K 179 (by decide) (by decide) (by decide) (by decide)]
    refine ⟨s1, s2, s3, s4, s5, s6, fun m hm => ⟨(s7 m hm).1, ?_, (s7 m hm).2.2⟩, fun j hj => ?_⟩
    · by_cases e : m = i
      · rw [e, m_se]
        exact ⟨r + 1, by omega, rfl⟩
      · rw [m_sn (by omega), m_sn (by omega), m_sn (by omega), hi 173 (by decide)]
        exact (s7 m hm).2.1
    · rw [m_sn (by omega)]
      by_cases e : j = 3 * i + r
      · rw [e, m_se]; exact hb
      · rw [m_sn (by omega), m_sn (by omega), hi 175 (by decide)]
        exact s8 j hj
  · exact m_op_rd L 0 (fun d Q => (E1 d Q).trans (by rw [if_neg h0, if_neg h1, if_neg h2, ma, if_neg h3, if_neg h4])) (fun d Q => (E2 d Q).trans (by rw [if_neg h0, if_neg h1, if_neg h2, s1, if_neg h3, if_neg h4]))
theorem l3 {a P c t : Nat} {f : mF} {g : mG} (L : m_lr a P c t f g) (x op A B : Int32) : m_op 14 68 [.inl x, .inl op, .inl A, .inl B] f g := by
  obtain ⟨o, s, hc⟩ := id L
  obtain ⟨s1, s2, s3, s4, s5, s6, s7, s8⟩ := id s
  have ma : f 1 1 = nI a := (xma o.re).trans s1
  have pn : f 0 2 = nI P := (xpn o.re).trans s5
  have sc : ∀ i, i < 10 → f (6 + 16 * i) 7 = nI (f 176 i).toNatClampNeg ∧ (f 176 i).toNatClampNeg ≤ 8 := fun i hi => by rw [xsc o.re hi]; exact m_sf_sc s i hi
  have E1 := fun d Q => c14 (d := d + 37) (Q := Q) (x := x) (op := op) (a := A) (b := B) o.go pn s6 sc
  have E2 := fun d Q => c68 (d := d + 37) (Q := Q) (x := x) (op := op) (a := A) (b := B) o.go s5 s6 (m_sf_sc s)
  by_cases h0 : x < 0
  · exact m_op_rd L (-1) (fun d Q => (E1 d Q).trans (by rw [if_pos h0])) (fun d Q => (E2 d Q).trans (by rw [if_pos h0]))
  by_cases h1 : nI P ≤ x
  · exact m_op_rd L (-1) (fun d Q => (E1 d Q).trans (by rw [if_neg h0, if_pos h1])) (fun d Q => (E2 d Q).trans (by rw [if_neg h0, if_pos h1]))
  by_cases h2 : m_fit (nI a) x op A B = 0
  · exact m_op_rd L (-1) (fun d Q => (E1 d Q).trans (by rw [if_neg h0, if_neg h1, ma, if_pos h2])) (fun d Q => (E2 d Q).trans (by rw [if_neg h0, if_neg h1, s1, if_pos h2]))
  obtain ⟨i, hiP, rfl⟩ := vp_in_of (m_in h0 h1 (Nat.le_refl P) (by omega)) (by omega)
  have hi10 : i < 10 := by omega
  rw [nI_clamp (by omega)] at E1 E2
  obtain ⟨r, r3, er, ef⟩ := (s7 i hi10).2.2
  have erc : (f 176 i).toNatClampNeg = r := by rw [er, nI_clamp (by omega)]
  rw [erc] at E1 E2
  by_cases h4 : r < 8
  · have hi : ∀ k, 170 ≤ k → m_si (m_si (m_si (m_si f (9 + 16 * i) r op) (10 + 16 * i) r A) (11 + 16 * i) r B) (6 + 16 * i) 7 (nI (r + 1)) k = f k := fun k hk => funext (fun j => by rw [m_sn (by omega), m_sn (by omega), m_sn (by omega), m_sn (by omega)])
    have E3 := fun d Q => c68 (d := d + 37) (Q := Q) (x := nI i) (op := op) (a := A) (b := B) (f := m_si (m_si (m_si (m_si f (9 + 16 * i) r op) (10 + 16 * i) r A) (11 + 16 * i) r B) (6 + 16 * i) 7 (nI (r + 1))) (sc := fun i => (f 176 i).toNatClampNeg) o.go (by rw [hi 170 (by decide)]; exact s5) s6 (by rw [hi 176 (by decide)]; exact m_sf_sc s)
    rw [nI_clamp (by omega)] at E3
    simp only [erc] at E3
    refine ⟨_, g, _, nI (r + 1), a, P, c, t, fun d Q => (E1 d Q).trans (by rw [if_neg h0, if_neg h1, ma, if_neg h2, if_pos h4]), fun d Q => (E3 d Q).trans (by rw [if_neg h0, if_neg h1, hi 170 (by decide), s1, if_neg h2, if_pos h4]), m_lr_up L hi (m_re_si (m_re_si (m_re_si (m_re_si (m_re_hi o.re hi) (dop hi10 h4) (kop h4)) (dsa hi10 h4) (ksa h4)) (dsb hi10 h4) (ksb h4)) (dsc hi10) rfl) (fun k hk => funext (fun j => by rw [m_sn (by omega), m_sn (by omega), m_sn (by omega), m_sn (by omega)])) (fun k hk => funext (fun j => by rw [m_sn (by omega), m_sn (by omega), m_sn (by omega), m_sn (by omega)])) (by rw [m_sn (by omega), m_sn (by omega), m_sn (by omega), m_sn (by omega)]) (by rw [m_sn (by omega), m_sn (by omega), m_sn (by omega), m_sn (by omega)]) ?_, fun k hk => hi k (by omega), fun k hk => funext (fun j => by rw [m_sn (by omega), m_sn (by omega), m_sn (by omega), m_sn (by omega), hi k (by omega)])⟩
    have K : ∀ k, 170 ≤ k → k < 176 → m_si (m_si (m_si (m_si (m_si (m_si (m_si (m_si f (9 + 16 * i) r op) (10 + 16 * i) r A) (11 + 16 * i) r B) (6 + 16 * i) 7 (nI (r + 1))) 177 (8 * i + r) op) 178 (8 * i + r) A) 179 (8 * i + r) B) 176 i (nI (r + 1)) k = f k := fun k hk k1 => funext (fun j => by rw [m_sn (by omega), m_sn (by omega), m_sn (by omega), m_sn (by omega), hi k (by omega)])
    unfold m_sf
    rw [K 170 (by decide) (by decide), K 171 (by decide) (by decide), K 172 (by decide) (by decide), K 173 (by decide) (by decide), K 175 (by decide) (by decide)]
    refine ⟨s1, s2, s3, s4, s5, s6, fun m hm => ⟨(s7 m hm).1, (s7 m hm).2.1, ?_⟩, s8⟩
    have O : ∀ k j, 177 ≤ k → k ≤ 179 → j ≠ 8 * i + r → m_si (m_si (m_si (m_si (m_si (m_si (m_si (m_si f (9 + 16 * i) r op) (10 + 16 * i) r A) (11 + 16 * i) r B) (6 + 16 * i) 7 (nI (r + 1))) 177 (8 * i + r) op) 178 (8 * i + r) A) 179 (8 * i + r) B) 176 i (nI (r + 1)) k j = f k j := fun k j k1 k2 k3 => by rw [m_sn (by omega), m_sn (by omega), m_sn (by omega), m_sn (by omega), hi k (by omega)]
    by_cases e : m = i
    · subst e
      refine ⟨r + 1, by omega, m_se, fun p hp => ?_⟩
      by_cases e2 : p = r
      · subst e2
        rw [show m_si (m_si (m_si (m_si (m_si (m_si (m_si (m_si f (9 + 16 * m) p op) (10 + 16 * m) p A) (11 + 16 * m) p B) (6 + 16 * m) 7 (nI (p + 1))) 177 (8 * m + p) op) 178 (8 * m + p) A) 179 (8 * m + p) B) 176 m (nI (p + 1)) 177 (8 * m + p) = op by rw [m_sn (by omega), m_sn (by omega), m_sn (by omega), m_se], show m_si (m_si (m_si (m_si (m_si (m_si (m_si (m_si f (9 + 16 * m) p op) (10 + 16 * m) p A) (11 + 16 * m) p B) (6 + 16 * m) 7 (nI (p + 1))) 177 (8 * m + p) op) 178 (8 * m + p) A) 179 (8 * m + p) B) 176 m (nI (p + 1)) 178 (8 * m + p) = A by rw [m_sn (by omega), m_sn (by omega), m_se], show m_si (m_si (m_si (m_si (m_si (m_si (m_si (m_si f (9 + 16 * m) p op) (10 + 16 * m) p A) (11 + 16 * m) p B) (6 + 16 * m) 7 (nI (p + 1))) 177 (8 * m + p) op) 178 (8 * m + p) A) 179 (8 * m + p) B) 176 m (nI (p + 1)) 179 (8 * m + p) = B by rw [m_sn (by omega), m_se]]
        exact (m_fit01 _ _ _ _ _).resolve_left h2
      · rw [O 177 _ (by decide) (by decide) (by omega), O 178 _ (by decide) (by decide) (by omega), O 179 _ (by decide) (by decide) (by omega)]
        exact ef p (by omega)
    · obtain ⟨st, t3, t4, t5⟩ := (s7 m hm).2.2
      refine ⟨st, t3, ?_, fun p hp => ?_⟩
      · rw [m_sn (by omega), m_sn (by omega), m_sn (by omega), m_sn (by omega), hi 176 (by decide)]; exact t4
      · rw [O 177 _ (by decide) (by decide) (by omega), O 178 _ (by decide) (by decide) (by omega), O 179 _ (by decide) (by decide) (by omega)]
        exact t5 p hp
  · exact m_op_rd L (-1) (fun d Q => (E1 d Q).trans (by rw [if_neg h0, if_neg h1, ma, if_neg h2, if_neg h4])) (fun d Q => (E2 d Q).trans (by rw [if_neg h0, if_neg h1, s1, if_neg h2, if_neg h4]))
theorem l4 {a P c t : Nat} {f : mF} {g : mG} (L : m_lr a P c t f g) (x : Int32) : m_op 18 74 [.inl x] f g := by
  obtain ⟨f1, g1, f2, out, c', t', e1, e2, L', k1, k2⟩ := m_lr_inv L x
  exact ⟨f1, g1, f2, out, a, P, c', t', e1, e2, L', k1, k2⟩
theorem l5 {a P c t : Nat} {f : mF} {g : mG} (L : m_lr a P c t f g) (x v : Int32) : m_op 51 92 [.inl x, .inl v] f g := by
  obtain ⟨o, s, hc⟩ := id L
  obtain ⟨s1, s2, s3, s4, s5, s6, s7, s8⟩ := id s
  have ma : f 1 1 = nI a := (xma o.re).trans s1
  have pn : f 0 2 = nI P := (xpn o.re).trans s5
  by_cases h0 : x < 0
  · exact m_op_rd L 0 (fun d Q => by rw [c51 o.go, if_pos h0]) (fun d Q => by rw [c92 o.go, if_pos h0])
  by_cases h1 : 4 ≤ x
  · exact m_op_rd L 0 (fun d Q => by rw [c51 o.go, if_neg h0, if_pos h1]) (fun d Q => by rw [c92 o.go, if_neg h0, if_pos h1])
  have hk : x.toNatClampNeg < 4 := m_ix (p := 4) h0 h1 (by decide)
  have hi : ∀ k, 170 ≤ k → m_si f 4 x.toNatClampNeg v k = f k := fun k hk => funext (fun j => by rw [m_sn (by omega)])
  refine ⟨_, g, _, 1, a, P, c, t, fun d Q => by rw [c51 o.go, if_neg h0, if_neg h1], fun d Q => by rw [c92 o.go, if_neg h0, if_neg h1], m_lr_up L hi (m_re_si (m_re_hi o.re hi) (dcm hk) rfl) (fun k hk => funext (fun j => by rw [m_sn (by omega)])) (fun k hk => funext (fun j => by rw [m_sn (by omega)])) (by rw [m_sn (by omega)]) (by rw [m_sn (by omega)]) ?_, fun k hk => hi k (by omega), fun k hk => funext (fun j => by rw [m_sn (by omega), hi k (by omega)])⟩
  have K : ∀ k, 170 ≤ k → k ≠ 180 → m_si (m_si f 4 x.toNatClampNeg v) 180 x.toNatClampNeg v k = f k := fun k hk k1 => funext (fun j => by rw [m_sn (by omega), hi k (by omega)])
  unfold m_sf
  rw [K 170 (by decide) (by decide), K 171 (by decide) (by decide), K 172 (by decide) (by decide), K 173 (by decide) (by decide), K 175 (by decide) (by decide), K 176 (by decide) (by decide), K 177 (by decide) (by decide), K 178 (by decide) (by decide), K 179 (by decide) (by decide)]
  exact s
theorem l6 {a P c t : Nat} {f : mF} {g : mG} (L : m_lr a P c t f g) (x : Int32) : m_op 52 93 [.inl x] f g := by
  obtain ⟨o, s, hc⟩ := id L
  obtain ⟨s1, s2, s3, s4, s5, s6, s7, s8⟩ := id s
  have ma : f 1 1 = nI a := (xma o.re).trans s1
  have pn : f 0 2 = nI P := (xpn o.re).trans s5
  refine m_op_rd L _ (fun d Q => c52 o.go) (fun d Q => (c93 o.go).trans ?_)
  by_cases h0 : x < 0
  · simp only [h0, if_true]
  by_cases h1 : 4 ≤ x
  · simp only [h0, h1, if_true, if_false]
  simp only [h0, h1, if_false, xcm o.re (m_ix (p := 4) h0 h1 (by decide))]
theorem l7 {a P c t : Nat} {f : mF} {g : mG} (L : m_lr a P c t f g) (x y : Int32) : m_op 53 70 [.inl x, .inl y] f g := by
  obtain ⟨o, s, hc⟩ := id L
  obtain ⟨s1, s2, s3, s4, s5, s6, s7, s8⟩ := id s
  have ma : f 1 1 = nI a := (xma o.re).trans s1
  have pn : f 0 2 = nI P := (xpn o.re).trans s5
  refine m_op_rd L _ (fun d Q => c53 o.go ma s3) (fun d Q => (c70 o.go s1 s3 s4).trans ?_)
  rw [m_ds_cg (c := y) (p := f 2) (q := f 171) (show a < 2 ^ 31 by omega) (fun j hj => xpa o.re (by omega)) 16 0 x]
theorem l8 {a P c t : Nat} {f : mF} {g : mG} (L : m_lr a P c t f g) (x y : Int32) : m_op 54 72 [.inl x, .inl y] f g := by
  obtain ⟨o, s, hc⟩ := id L
  obtain ⟨s1, s2, s3, s4, s5, s6, s7, s8⟩ := id s
  have ma : f 1 1 = nI a := (xma o.re).trans s1
  have pn : f 0 2 = nI P := (xpn o.re).trans s5
  have rc : ∀ i, i < 10 → f (6 + 16 * i) 3 = nI (f 173 i).toNatClampNeg ∧ (f 173 i).toNatClampNeg ≤ 3 := fun i hi => by rw [xrc o.re hi]; exact m_sf_rc s i hi
  have rb : ∀ i, i < 10 → ∀ j, j < 3 → f (8 + 16 * i) j = 0 ∨ f (8 + 16 * i) j = 1 := fun i hi j hj => by rw [xrb o.re hi hj]; exact s8 _ (by omega)
  refine m_op_rd L _ (fun d Q => c54 o.go ma s3 pn s6 rc rb) (fun d Q => (c72 o.go s1 s3 s4 s5 s6 (m_sf_rc s) s8).trans ?_)
  by_cases h0 : x < 0
  · simp only [h0, if_true]
  by_cases h1 : nI P ≤ x
  · simp only [h0, h1, if_true, if_false]
  have hx : x.toNatClampNeg < 10 := Nat.lt_of_lt_of_le (m_ix h0 h1 (by omega)) s6
  rw [m_back_cg (t := y) (p := f 2) (q := f 171) (rk := f (7 + 16 * x.toNatClampNeg)) (rb := f (8 + 16 * x.toNatClampNeg)) (rk' := fun j => f 174 (3 * x.toNatClampNeg + j)) (rb' := fun j => f 175 (3 * x.toNatClampNeg + j)) (show a < 2 ^ 31 by omega) (fun j hj => xpa o.re (by omega)) (fun j hj => by
    have := (m_sf_rc s _ hx).2
    exact ⟨xrk o.re hx (by omega), xrb o.re hx (by omega)⟩)]
theorem l9 {a P c t : Nat} {f : mF} {g : mG} (L : m_lr a P c t f g) : m_op 55 94 [] f g := by
  obtain ⟨o, s, hc⟩ := id L
  obtain ⟨s1, s2, s3, s4, s5, s6, s7, s8⟩ := id s
  have ma : f 1 1 = nI a := (xma o.re).trans s1
  have pn : f 0 2 = nI P := (xpn o.re).trans s5
  exact m_op_rd L _ (fun d Q => c55 o.go) (fun d Q => c94.trans (by rw [xto o.re]))
theorem l10 {a P c t : Nat} {f : mF} {g : mG} (L : m_lr a P c t f g) (x : Int32) : m_op 56 95 [.inl x] f g := by
  obtain ⟨o, s, hc⟩ := id L
  obtain ⟨s1, s2, s3, s4, s5, s6, s7, s8⟩ := id s
  have ma : f 1 1 = nI a := (xma o.re).trans s1
  have pn : f 0 2 = nI P := (xpn o.re).trans s5
  refine m_op_rd L _ (fun d Q => c56 o.go) (fun d Q => (c95 o.go).trans ?_)
  rw [xto o.re]
  by_cases h0 : x < 0
  · simp only [h0, if_true]
  by_cases h1 : 128 ≤ x
  · simp only [h0, h1, if_true, if_false]
  rw [xjc o.re (m_ix (p := 128) h0 h1 (by decide))]
theorem l11 {a P c t : Nat} {f : mF} {g : mG} (L : m_lr a P c t f g) (x : Int32) : m_op 58 97 [.inl x] f g := by
  obtain ⟨o, s, hc⟩ := id L
  obtain ⟨s1, s2, s3, s4, s5, s6, s7, s8⟩ := id s
  have ma : f 1 1 = nI a := (xma o.re).trans s1
  have pn : f 0 2 = nI P := (xpn o.re).trans s5
  refine m_op_rd L _ (fun d Q => c58 o.go) (fun d Q => (c97 o.go).trans ?_)
  rw [xto o.re]
  by_cases h0 : x < 0
  · simp only [h0, if_true]
  by_cases h1 : 128 ≤ x
  · simp only [h0, h1, if_true, if_false]
  rw [xja o.re (m_ix (p := 128) h0 h1 (by decide))]
theorem l12 {a P c t : Nat} {f : mF} {g : mG} (L : m_lr a P c t f g) : m_op 59 98 [] f g := by
  obtain ⟨o, s, hc⟩ := id L
  obtain ⟨s1, s2, s3, s4, s5, s6, s7, s8⟩ := id s
  have ma : f 1 1 = nI a := (xma o.re).trans s1
  have pn : f 0 2 = nI P := (xpn o.re).trans s5
  exact m_op_rd L _ (fun d Q => c59) (fun d Q => c98.trans (by rw [xca o.re]))
theorem l13 {a P c t : Nat} {f : mF} {g : mG} (L : m_lr a P c t f g) (x : Int32) : m_op 60 99 [.inl x] f g := by
  obtain ⟨o, s, hc⟩ := id L
  obtain ⟨s1, s2, s3, s4, s5, s6, s7, s8⟩ := id s
  have ma : f 1 1 = nI a := (xma o.re).trans s1
  have pn : f 0 2 = nI P := (xpn o.re).trans s5
  refine m_op_rd L _ (fun d Q => c60 o.go) (fun d Q => (c99 o.go).trans ?_)
  by_cases h0 : x < 0
  · simp only [h0, if_true]
  by_cases h1 : 4 ≤ x
  · simp only [h0, h1, if_true, if_false]
  rw [xta o.re (m_ix (p := 4) h0 h1 (by decide))]
theorem l14 {a P c t : Nat} {f : mF} {g : mG} (L : m_lr a P c t f g) (x : Int32) : m_op 61 100 [.inl x] f g := by
  obtain ⟨o, s, hc⟩ := id L
  obtain ⟨s1, s2, s3, s4, s5, s6, s7, s8⟩ := id s
  have ma : f 1 1 = nI a := (xma o.re).trans s1
  have pn : f 0 2 = nI P := (xpn o.re).trans s5
  exact m_op_rd L _ (fun d Q => c61 o.go) (fun d Q => c100.trans (by rw [xma o.re, xpn o.re]))
