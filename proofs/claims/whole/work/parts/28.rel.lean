/-! the relation between the class's ints and the reference's -/
abbrev mF : Type := Nat → Nat → Int32
abbrev mG : Type := Nat → Nat → Option Nat
/-- where the class keeps what the reference keeps at cell c, slot n -/
def m_ka (c n : Nat) : Nat × Nat := match c with
  | 170 => if n = 0 then (1, 1) else if n = 2 then (0, 2) else if n = 13 then (0, 7) else (166, 2)
  | 194 => (14 + 16 * (n / 4), n % 4)
  | 193 => (15 + 16 * (n / 4), n % 4)
  | 195 => (16 + 16 * (n / 4), n % 4)
  | 196 => (17 + 16 * (n / 4), n % 4)
  | 199 => (18 + 16 * (n / 8), n % 8)
  | 200 => (19 + 16 * (n / 8), n % 8)
  | 191 => (20 + 16 * (n / 4), n % 4)
  | 190 => (21 + 16 * (n / 4), n % 4)
  | 174 => (7 + 16 * (n / 3), n % 3)
  | 175 => (8 + 16 * (n / 3), n % 3)
  | 177 => (9 + 16 * (n / 8), n % 8)
  | 178 => (10 + 16 * (n / 8), n % 8)
  | 179 => (11 + 16 * (n / 8), n % 8)
  | 198 => (13 + 16 * n, 6)
  | 197 => (13 + 16 * n, 7)
  | 192 => (12 + 16 * n, 7)
  | 172 => (6 + 16 * n, 0)
  | 173 => (6 + 16 * n, 3)
  | 176 => (6 + 16 * n, 7)
  | 180 => (4, n)
  | 181 => (169, n)
  | 182 => (167, n)
  | 183 => (168, n)
  | 171 => (2, n)
  | _ => (1000, 0)
def m_dm (c n : Nat) : Bool := match c with
  | 170 => n == 0 || n == 2 || n == 13 || n == 14
  | 194 => decide (n < 40)
  | 193 => decide (n < 40)
  | 195 => decide (n < 40)
  | 196 => decide (n < 40)
  | 199 => decide (n < 80)
  | 200 => decide (n < 80)
  | 191 => decide (n < 40)
  | 190 => decide (n < 40)
  | 174 => decide (n < 30)
  | 175 => decide (n < 30)
  | 177 => decide (n < 80)
  | 178 => decide (n < 80)
  | 179 => decide (n < 80)
  | 198 => decide (n < 10)
  | 197 => decide (n < 10)
  | 192 => decide (n < 10)
  | 172 => decide (n < 10)
  | 173 => decide (n < 10)
  | 176 => decide (n < 10)
  | 180 => decide (n < 4)
  | 181 => decide (n < 4)
  | 182 => decide (n < 128)
  | 183 => decide (n < 128)
  | 171 => decide (n < 16)
  | _ => false
def m_mu (a b : Nat) : Nat × Nat := if a = 0 then (if b = 2 then (170, 2) else (170, 13)) else if a = 1 then (170, 0) else if a = 2 then (171, b) else if a = 4 then (180, b) else if a = 166 then (170, 14) else if a = 167 then (182, b) else if a = 168 then (183, b) else if a = 169 then (181, b) else if (a - 6) % 16 = 0 then (if b = 0 then (172, (a - 6) / 16) else if b = 3 then (173, (a - 6) / 16) else (176, (a - 6) / 16)) else if (a - 6) % 16 = 1 then (174, 3 * ((a - 6) / 16) + b) else if (a - 6) % 16 = 2 then (175, 3 * ((a - 6) / 16) + b) else if (a - 6) % 16 = 3 then (177, 8 * ((a - 6) / 16) + b) else if (a - 6) % 16 = 4 then (178, 8 * ((a - 6) / 16) + b) else if (a - 6) % 16 = 5 then (179, 8 * ((a - 6) / 16) + b) else if (a - 6) % 16 = 6 then (192, (a - 6) / 16) else if (a - 6) % 16 = 7 then (if b = 7 then (197, (a - 6) / 16) else (198, (a - 6) / 16)) else if (a - 6) % 16 = 8 then (194, 4 * ((a - 6) / 16) + b) else if (a - 6) % 16 = 9 then (193, 4 * ((a - 6) / 16) + b) else if (a - 6) % 16 = 10 then (195, 4 * ((a - 6) / 16) + b) else if (a - 6) % 16 = 11 then (196, 4 * ((a - 6) / 16) + b) else if (a - 6) % 16 = 12 then (199, 8 * ((a - 6) / 16) + b) else if (a - 6) % 16 = 13 then (200, 8 * ((a - 6) / 16) + b) else if (a - 6) % 16 = 14 then (191, 4 * ((a - 6) / 16) + b) else if (a - 6) % 16 = 15 then (190, 4 * ((a - 6) / 16) + b) else (1000, 0)
def m_dn (c n : Nat) : Bool := !m_dm c n || (decide (m_mu (m_ka c n).1 (m_ka c n).2 = (c, n)) && (decide ((m_ka c n).1 < 170)))
theorem m_dn_all : ∀ c, c < 201 → ∀ n, n < 128 → m_dn c n = true := by decide +kernel
theorem m_dm_lt {c n : Nat} (h : m_dm c n = true) : c < 201 ∧ n < 128 ∧ 170 ≤ c := by
  unfold m_dm at h
  split at h <;> simp at h <;> omega
theorem m_mk1 {c n : Nat} (h : m_dm c n = true) : m_mu (m_ka c n).1 (m_ka c n).2 = (c, n) := by
  have := m_dn_all c (m_dm_lt h).1 n (m_dm_lt h).2.1
  simp only [m_dn, h, Bool.not_true, Bool.false_or, Bool.and_eq_true, decide_eq_true_eq] at this
  exact this.1
theorem m_mk2 {c n : Nat} (h : m_dm c n = true) : (m_ka c n).1 < 170 := by
  have := m_dn_all c (m_dm_lt h).1 n (m_dm_lt h).2.1
  simp only [m_dn, h, Bool.not_true, Bool.false_or, Bool.and_eq_true, decide_eq_true_eq] at this
  exact this.2
def m_re (f h : mF) : Prop := ∀ c n, m_dm c n = true → f (m_ka c n).1 (m_ka c n).2 = h c n
theorem m_re_si {f h : mF} {c n a b : Nat} {v : Int32} (R : m_re f h) (hd : m_dm c n = true) (hk : m_ka c n = (a, b)) : m_re (m_si f a b v) (m_si h c n v) := by
  intro c' n' hd'
  unfold m_si
  by_cases e : c' = c ∧ n' = n
  · rw [if_pos e, e.1, e.2, hk, if_pos ⟨rfl, rfl⟩]
  · rw [if_neg e, if_neg]
    · exact R c' n' hd'
    · intro q
      apply e
      have q1 := m_mk1 hd
      have q2 := m_mk1 hd'
      rw [q.1, q.2, ← (show (m_ka c n).1 = a by rw [hk]), ← (show (m_ka c n).2 = b by rw [hk]), q1] at q2
      exact ⟨(Prod.mk.inj q2).1.symm, (Prod.mk.inj q2).2.symm⟩
theorem m_re_rd {f h : mF} {c n a b : Nat} (R : m_re f h) (hd : m_dm c n = true) (hk : m_ka c n = (a, b)) : f a b = h c n := by
  have := R c n hd
  rw [hk] at this
  exact this
theorem m_re_c {f h : mF} {k j : Nat} {v : Int32} (R : m_re f h) (hk : ∀ c n, m_dm c n = true → m_ka c n ≠ (k, j)) : m_re (m_si f k j v) h := by
  intro c n hd
  unfold m_si
  rw [if_neg]
  · exact R c n hd
  · intro q
    exact hk c n hd (Prod.ext q.1 q.2)
theorem m_re_m {f h : mF} {c n : Nat} {v : Int32} (R : m_re f h) (hk : m_dm c n = false) : m_re f (m_si h c n v) := by
  intro c' n' hd
  unfold m_si
  rw [if_neg]
  · exact R c' n' hd
  · intro q
    rw [q.1, q.2, hk] at hd
    exact absurd hd (by decide)
theorem m_ka34 : ∀ c n, m_dm c n = true → ∀ i j, (j = 3 ∨ j = 4) → m_ka c n ≠ (12 + 16 * i, j) := by
  intro c n hd i j hj q
  have q1 := m_mk1 hd
  have q2 := m_mk2 hd
  rw [q] at q1 q2
  have : ∀ i, i < 10 → ∀ j, j = 3 ∨ j = 4 → m_mu (12 + 16 * i) j = (192, i) := by
    intro i hi j hj
    unfold m_mu
    rw [if_neg (by omega), if_neg (by omega), if_neg (by omega), if_neg (by omega), if_neg (by omega), if_neg (by omega), if_neg (by omega), if_neg (by omega), if_neg (by omega), if_neg (by omega), if_neg (by omega), if_neg (by omega), if_neg (by omega), if_neg (by omega), if_pos (by omega)]
    congr 1
    omega
  have q3 := this i (by simp only at q2; omega) j hj
  simp only at q1
  rw [q3] at q1
  have q4 := Prod.mk.inj q1
  rw [← q4.1] at q
  have q5 := (Prod.mk.inj q).2
  omega
theorem dV {t k : Nat} (ht : t < 10) (hk : k < 4) : m_dm 194 (4 * t + k) = true := by simp only [m_dm, decide_eq_true_eq]; omega
theorem kV {t k : Nat} (hk : k < 4) : m_ka 194 (4 * t + k) = (14 + 16 * t, k) := by simp only [m_ka, Prod.mk.injEq]; omega
theorem xV {f h : mF} {t k : Nat} (R : m_re f h) (ht : t < 10) (hk : k < 4) : f (14 + 16 * t) k = h 194 (4 * t + k) := m_re_rd R (dV ht hk) (kV hk)
theorem dO {t k : Nat} (ht : t < 10) (hk : k < 4) : m_dm 193 (4 * t + k) = true := by simp only [m_dm, decide_eq_true_eq]; omega
theorem kO {t k : Nat} (hk : k < 4) : m_ka 193 (4 * t + k) = (15 + 16 * t, k) := by simp only [m_ka, Prod.mk.injEq]; omega
theorem xO {f h : mF} {t k : Nat} (R : m_re f h) (ht : t < 10) (hk : k < 4) : f (15 + 16 * t) k = h 193 (4 * t + k) := m_re_rd R (dO ht hk) (kO hk)
theorem dRd {t k : Nat} (ht : t < 10) (hk : k < 4) : m_dm 195 (4 * t + k) = true := by simp only [m_dm, decide_eq_true_eq]; omega
theorem kRd {t k : Nat} (hk : k < 4) : m_ka 195 (4 * t + k) = (16 + 16 * t, k) := by simp only [m_ka, Prod.mk.injEq]; omega
theorem xRd {f h : mF} {t k : Nat} (R : m_re f h) (ht : t < 10) (hk : k < 4) : f (16 + 16 * t) k = h 195 (4 * t + k) := m_re_rd R (dRd ht hk) (kRd hk)
theorem dW {t k : Nat} (ht : t < 10) (hk : k < 4) : m_dm 196 (4 * t + k) = true := by simp only [m_dm, decide_eq_true_eq]; omega
theorem kW {t k : Nat} (hk : k < 4) : m_ka 196 (4 * t + k) = (17 + 16 * t, k) := by simp only [m_ka, Prod.mk.injEq]; omega
theorem xW {f h : mF} {t k : Nat} (R : m_re f h) (ht : t < 10) (hk : k < 4) : f (17 + 16 * t) k = h 196 (4 * t + k) := m_re_rd R (dW ht hk) (kW hk)
theorem dH {t k : Nat} (ht : t < 10) (hk : k < 8) : m_dm 199 (8 * t + k) = true := by simp only [m_dm, decide_eq_true_eq]; omega
theorem kH {t k : Nat} (hk : k < 8) : m_ka 199 (8 * t + k) = (18 + 16 * t, k) := by simp only [m_ka, Prod.mk.injEq]; omega
theorem xH {f h : mF} {t k : Nat} (R : m_re f h) (ht : t < 10) (hk : k < 8) : f (18 + 16 * t) k = h 199 (8 * t + k) := m_re_rd R (dH ht hk) (kH hk)
theorem dBd {t k : Nat} (ht : t < 10) (hk : k < 8) : m_dm 200 (8 * t + k) = true := by simp only [m_dm, decide_eq_true_eq]; omega
theorem kBd {t k : Nat} (hk : k < 8) : m_ka 200 (8 * t + k) = (19 + 16 * t, k) := by simp only [m_ka, Prod.mk.injEq]; omega
theorem xBd {f h : mF} {t k : Nat} (R : m_re f h) (ht : t < 10) (hk : k < 8) : f (19 + 16 * t) k = h 200 (8 * t + k) := m_re_rd R (dBd ht hk) (kBd hk)
theorem dmV {t k : Nat} (ht : t < 10) (hk : k < 4) : m_dm 191 (4 * t + k) = true := by simp only [m_dm, decide_eq_true_eq]; omega
theorem kmV {t k : Nat} (hk : k < 4) : m_ka 191 (4 * t + k) = (20 + 16 * t, k) := by simp only [m_ka, Prod.mk.injEq]; omega
theorem xmV {f h : mF} {t k : Nat} (R : m_re f h) (ht : t < 10) (hk : k < 4) : f (20 + 16 * t) k = h 191 (4 * t + k) := m_re_rd R (dmV ht hk) (kmV hk)
theorem dmO {t k : Nat} (ht : t < 10) (hk : k < 4) : m_dm 190 (4 * t + k) = true := by simp only [m_dm, decide_eq_true_eq]; omega
theorem kmO {t k : Nat} (hk : k < 4) : m_ka 190 (4 * t + k) = (21 + 16 * t, k) := by simp only [m_ka, Prod.mk.injEq]; omega
theorem xmO {f h : mF} {t k : Nat} (R : m_re f h) (ht : t < 10) (hk : k < 4) : f (21 + 16 * t) k = h 190 (4 * t + k) := m_re_rd R (dmO ht hk) (kmO hk)
theorem drk {t k : Nat} (ht : t < 10) (hk : k < 3) : m_dm 174 (3 * t + k) = true := by simp only [m_dm, decide_eq_true_eq]; omega
theorem krk {t k : Nat} (hk : k < 3) : m_ka 174 (3 * t + k) = (7 + 16 * t, k) := by simp only [m_ka, Prod.mk.injEq]; omega
theorem xrk {f h : mF} {t k : Nat} (R : m_re f h) (ht : t < 10) (hk : k < 3) : f (7 + 16 * t) k = h 174 (3 * t + k) := m_re_rd R (drk ht hk) (krk hk)
theorem drb {t k : Nat} (ht : t < 10) (hk : k < 3) : m_dm 175 (3 * t + k) = true := by simp only [m_dm, decide_eq_true_eq]; omega
theorem krb {t k : Nat} (hk : k < 3) : m_ka 175 (3 * t + k) = (8 + 16 * t, k) := by simp only [m_ka, Prod.mk.injEq]; omega
theorem xrb {f h : mF} {t k : Nat} (R : m_re f h) (ht : t < 10) (hk : k < 3) : f (8 + 16 * t) k = h 175 (3 * t + k) := m_re_rd R (drb ht hk) (krb hk)
theorem dop {t k : Nat} (ht : t < 10) (hk : k < 8) : m_dm 177 (8 * t + k) = true := by simp only [m_dm, decide_eq_true_eq]; omega
theorem kop {t k : Nat} (hk : k < 8) : m_ka 177 (8 * t + k) = (9 + 16 * t, k) := by simp only [m_ka, Prod.mk.injEq]; omega
theorem xop {f h : mF} {t k : Nat} (R : m_re f h) (ht : t < 10) (hk : k < 8) : f (9 + 16 * t) k = h 177 (8 * t + k) := m_re_rd R (dop ht hk) (kop hk)
theorem dsa {t k : Nat} (ht : t < 10) (hk : k < 8) : m_dm 178 (8 * t + k) = true := by simp only [m_dm, decide_eq_true_eq]; omega
theorem ksa {t k : Nat} (hk : k < 8) : m_ka 178 (8 * t + k) = (10 + 16 * t, k) := by simp only [m_ka, Prod.mk.injEq]; omega
theorem xsa {f h : mF} {t k : Nat} (R : m_re f h) (ht : t < 10) (hk : k < 8) : f (10 + 16 * t) k = h 178 (8 * t + k) := m_re_rd R (dsa ht hk) (ksa hk)
theorem dsb {t k : Nat} (ht : t < 10) (hk : k < 8) : m_dm 179 (8 * t + k) = true := by simp only [m_dm, decide_eq_true_eq]; omega
theorem ksb {t k : Nat} (hk : k < 8) : m_ka 179 (8 * t + k) = (11 + 16 * t, k) := by simp only [m_ka, Prod.mk.injEq]; omega
theorem xsb {f h : mF} {t k : Nat} (R : m_re f h) (ht : t < 10) (hk : k < 8) : f (11 + 16 * t) k = h 179 (8 * t + k) := m_re_rd R (dsb ht hk) (ksb hk)
theorem dHc {t : Nat} (ht : t < 10) : m_dm 198 t = true := by simp only [m_dm, decide_eq_true_eq]; omega
theorem xHc {f h : mF} {t : Nat} (R : m_re f h) (ht : t < 10) : f (13 + 16 * t) 6 = h 198 t := m_re_rd R (dHc ht) rfl
theorem dSp {t : Nat} (ht : t < 10) : m_dm 197 t = true := by simp only [m_dm, decide_eq_true_eq]; omega
theorem xSp {f h : mF} {t : Nat} (R : m_re f h) (ht : t < 10) : f (13 + 16 * t) 7 = h 197 t := m_re_rd R (dSp ht) rfl
theorem dmS {t : Nat} (ht : t < 10) : m_dm 192 t = true := by simp only [m_dm, decide_eq_true_eq]; omega
theorem xmS {f h : mF} {t : Nat} (R : m_re f h) (ht : t < 10) : f (12 + 16 * t) 7 = h 192 t := m_re_rd R (dmS ht) rfl
theorem dmd {t : Nat} (ht : t < 10) : m_dm 172 t = true := by simp only [m_dm, decide_eq_true_eq]; omega
theorem xmd {f h : mF} {t : Nat} (R : m_re f h) (ht : t < 10) : f (6 + 16 * t) 0 = h 172 t := m_re_rd R (dmd ht) rfl
theorem drc {t : Nat} (ht : t < 10) : m_dm 173 t = true := by simp only [m_dm, decide_eq_true_eq]; omega
theorem xrc {f h : mF} {t : Nat} (R : m_re f h) (ht : t < 10) : f (6 + 16 * t) 3 = h 173 t := m_re_rd R (drc ht) rfl
theorem dsc {t : Nat} (ht : t < 10) : m_dm 176 t = true := by simp only [m_dm, decide_eq_true_eq]; omega
theorem xsc {f h : mF} {t : Nat} (R : m_re f h) (ht : t < 10) : f (6 + 16 * t) 7 = h 176 t := m_re_rd R (dsc ht) rfl
theorem dcm {k : Nat} (hk : k < 4) : m_dm 180 k = true := by simp only [m_dm, decide_eq_true_eq]; omega
theorem xcm {f h : mF} {k : Nat} (R : m_re f h) (hk : k < 4) : f 4 k = h 180 k := m_re_rd R (dcm hk) rfl
theorem dta {k : Nat} (hk : k < 4) : m_dm 181 k = true := by simp only [m_dm, decide_eq_true_eq]; omega
theorem xta {f h : mF} {k : Nat} (R : m_re f h) (hk : k < 4) : f 169 k = h 181 k := m_re_rd R (dta hk) rfl
theorem djc {k : Nat} (hk : k < 128) : m_dm 182 k = true := by simp only [m_dm, decide_eq_true_eq]; omega
theorem xjc {f h : mF} {k : Nat} (R : m_re f h) (hk : k < 128) : f 167 k = h 182 k := m_re_rd R (djc hk) rfl
theorem dja {k : Nat} (hk : k < 128) : m_dm 183 k = true := by simp only [m_dm, decide_eq_true_eq]; omega
theorem xja {f h : mF} {k : Nat} (R : m_re f h) (hk : k < 128) : f 168 k = h 183 k := m_re_rd R (dja hk) rfl
theorem dpa {k : Nat} (hk : k < 16) : m_dm 171 k = true := by simp only [m_dm, decide_eq_true_eq]; omega
theorem xpa {f h : mF} {k : Nat} (R : m_re f h) (hk : k < 16) : f 2 k = h 171 k := m_re_rd R (dpa hk) rfl
theorem xma {f h : mF} (R : m_re f h) : f 1 1 = h 170 0 := m_re_rd (c := 170) (n := 0) R rfl rfl
theorem xpn {f h : mF} (R : m_re f h) : f 0 2 = h 170 2 := m_re_rd (c := 170) (n := 2) R rfl rfl
theorem xca {f h : mF} (R : m_re f h) : f 0 7 = h 170 13 := m_re_rd (c := 170) (n := 13) R rfl rfl
theorem xto {f h : mF} (R : m_re f h) : f 166 2 = h 170 14 := m_re_rd (c := 170) (n := 14) R rfl rfl
/-- from (f, g) and h to (f1, g1) and h1: related, frames below D untouched, c calls made, t events -/
abbrev m_ok (D : Nat) (f : mF) (g : mG) (h f1 : mF) (g1 : mG) (h1 : mF) (c t : Nat) : Prop := (m_re f1 h1) ∧ (m_go_ g1) ∧ (∀ i j, i < D → (j = 3 ∨ j = 4) → f1 (12 + 16 * i) j = f (12 + 16 * i) j) ∧ (∀ k j, k < 12 + 16 * D → g1 k j = g k j) ∧ (∀ c i, 184 ≤ c → c ≤ 189 → i < D → h1 c i = h c i) ∧ (∀ c, (c < 180 ∧ c ≠ 170) ∨ 201 ≤ c → h1 c = h c) ∧ (h1 170 0 = h 170 0) ∧ (h1 170 2 = h 170 2) ∧ (10 ≤ D → ∀ j, 17 ≤ j → h1 170 j = h 170 j) ∧ (∀ k, 170 ≤ k → f1 k = f k) ∧ (∀ n, (h1 190 n = 0 ∨ h1 190 n = 1) ∧ (h1 192 n = 0 ∨ h1 192 n = 1) ∧ (h1 193 n = 0 ∨ h1 193 n = 1) ∧ (h1 197 n = 0 ∨ h1 197 n = 1)) ∧ (∀ n, n < 10 → ∃ k, k ≤ 8 ∧ h1 198 n = nI k) ∧ (h1 170 13 = nI c) ∧ (h1 170 14 = nI t)
theorem m_ok.re {D : Nat} {f : mF} {g : mG} {h f1 : mF} {g1 : mG} {h1 : mF} {c t : Nat} (o : m_ok D f g h f1 g1 h1 c t) : m_re f1 h1 := o.1
theorem m_ok.go {D : Nat} {f : mF} {g : mG} {h f1 : mF} {g1 : mG} {h1 : mF} {c t : Nat} (o : m_ok D f g h f1 g1 h1 c t) : m_go_ g1 := o.2.1
theorem m_ok.kf {D : Nat} {f : mF} {g : mG} {h f1 : mF} {g1 : mG} {h1 : mF} {c t : Nat} (o : m_ok D f g h f1 g1 h1 c t) : ∀ i j, i < D → (j = 3 ∨ j = 4) → f1 (12 + 16 * i) j = f (12 + 16 * i) j := o.2.2.1
theorem m_ok.kg {D : Nat} {f : mF} {g : mG} {h f1 : mF} {g1 : mG} {h1 : mF} {c t : Nat} (o : m_ok D f g h f1 g1 h1 c t) : ∀ k j, k < 12 + 16 * D → g1 k j = g k j := o.2.2.2.1
theorem m_ok.kh {D : Nat} {f : mF} {g : mG} {h f1 : mF} {g1 : mG} {h1 : mF} {c t : Nat} (o : m_ok D f g h f1 g1 h1 c t) : ∀ c i, 184 ≤ c → c ≤ 189 → i < D → h1 c i = h c i := o.2.2.2.2.1
theorem m_ok.ks {D : Nat} {f : mF} {g : mG} {h f1 : mF} {g1 : mG} {h1 : mF} {c t : Nat} (o : m_ok D f g h f1 g1 h1 c t) : ∀ c, (c < 180 ∧ c ≠ 170) ∨ 201 ≤ c → h1 c = h c := o.2.2.2.2.2.1
theorem m_ok.k0 {D : Nat} {f : mF} {g : mG} {h f1 : mF} {g1 : mG} {h1 : mF} {c t : Nat} (o : m_ok D f g h f1 g1 h1 c t) : h1 170 0 = h 170 0 := o.2.2.2.2.2.2.1
theorem m_ok.k2 {D : Nat} {f : mF} {g : mG} {h f1 : mF} {g1 : mG} {h1 : mF} {c t : Nat} (o : m_ok D f g h f1 g1 h1 c t) : h1 170 2 = h 170 2 := o.2.2.2.2.2.2.2.1
theorem m_ok.kd {D : Nat} {f : mF} {g : mG} {h f1 : mF} {g1 : mG} {h1 : mF} {c t : Nat} (o : m_ok D f g h f1 g1 h1 c t) : 10 ≤ D → ∀ j, 17 ≤ j → h1 170 j = h 170 j := o.2.2.2.2.2.2.2.2.1
theorem m_ok.hi {D : Nat} {f : mF} {g : mG} {h f1 : mF} {g1 : mG} {h1 : mF} {c t : Nat} (o : m_ok D f g h f1 g1 h1 c t) : ∀ k, 170 ≤ k → f1 k = f k := o.2.2.2.2.2.2.2.2.2.1
theorem m_ok.bo {D : Nat} {f : mF} {g : mG} {h f1 : mF} {g1 : mG} {h1 : mF} {c t : Nat} (o : m_ok D f g h f1 g1 h1 c t) : ∀ n, (h1 190 n = 0 ∨ h1 190 n = 1) ∧ (h1 192 n = 0 ∨ h1 192 n = 1) ∧ (h1 193 n = 0 ∨ h1 193 n = 1) ∧ (h1 197 n = 0 ∨ h1 197 n = 1) := o.2.2.2.2.2.2.2.2.2.2.1
theorem m_ok.hc {D : Nat} {f : mF} {g : mG} {h f1 : mF} {g1 : mG} {h1 : mF} {c t : Nat} (o : m_ok D f g h f1 g1 h1 c t) : ∀ n, n < 10 → ∃ k, k ≤ 8 ∧ h1 198 n = nI k := o.2.2.2.2.2.2.2.2.2.2.2.1
theorem m_ok.ca {D : Nat} {f : mF} {g : mG} {h f1 : mF} {g1 : mG} {h1 : mF} {c t : Nat} (o : m_ok D f g h f1 g1 h1 c t) : h1 170 13 = nI c := o.2.2.2.2.2.2.2.2.2.2.2.2.1
theorem m_ok.to {D : Nat} {f : mF} {g : mG} {h f1 : mF} {g1 : mG} {h1 : mF} {c t : Nat} (o : m_ok D f g h f1 g1 h1 c t) : h1 170 14 = nI t := o.2.2.2.2.2.2.2.2.2.2.2.2.2
def m_vo (c : Nat) (v : Int32) : Prop := if c = 198 then ∃ k, k ≤ 8 ∧ v = nI k else if c = 190 ∨ c = 192 ∨ c = 193 ∨ c = 197 then v = 0 ∨ v = 1 else True
section ok
variable {D : Nat} {f : mF} {g : mG} {h f1 : mF} {g1 : mG} {h1 : mF} {c t : Nat}
theorem m_ok_si {q n a b : Nat} {v : Int32} (o : m_ok D f g h f1 g1 h1 c t) (hd : m_dm q n = true) (hk : m_ka q n = (a, b)) (hq : 180 ≤ q) (hv : m_vo q v) : m_ok D f g h (m_si f1 a b v) g1 (m_si h1 q n v) c t := by
  have q170 : ∀ j, m_si h1 q n v 170 j = h1 170 j := fun j => if_neg (fun e => by omega)
  have hq2 : q < 184 ∨ 189 < q := by
    apply Decidable.byContradiction
    intro e
    have : q = 184 ∨ q = 185 ∨ q = 186 ∨ q = 187 ∨ q = 188 ∨ q = 189 := by omega
    rcases this with rfl | rfl | rfl | rfl | rfl | rfl <;> exact absurd hd (by simp [m_dm])
  have b1 : ∀ z, (z = 190 ∨ z = 192 ∨ z = 193 ∨ z = 197) → ∀ n', (h1 z n' = 0 ∨ h1 z n' = 1) → (m_si h1 q n v z n' = 0 ∨ m_si h1 q n v z n' = 1) := by
    intro z hz n' hh
    unfold m_si
    split
    · rename_i e
      unfold m_vo at hv
      rw [if_neg (by omega), if_pos (by omega)] at hv
      exact hv
    · exact hh
  refine ⟨m_re_si o.re hd hk, o.go, fun i j hi hj => ?_, o.kg, fun c' i h1' h2 h3 => ?_, fun c' hc' => ?_, ?_, ?_, (fun hD j hj => (q170 j).trans (o.kd hD j hj)), fun k hk' => ?_, fun n' => ⟨b1 190 (by omega) n' (o.bo n').1, b1 192 (by omega) n' (o.bo n').2.1, b1 193 (by omega) n' (o.bo n').2.2.1, b1 197 (by omega) n' (o.bo n').2.2.2⟩, fun n' hn' => ?_, ?_, ?_⟩
  · rw [← o.kf i j hi hj]
    exact if_neg (fun e => m_ka34 q n hd i j hj (by rw [hk, e.1, e.2]))
  · rw [← o.kh c' i h1' h2 h3]
    exact if_neg (fun e => by omega)
  · rw [← o.ks c' hc']
    funext x
    have := m_dm_lt hd
    exact if_neg (fun e => by omega)
  · rw [q170]; exact o.k0
  · rw [q170]; exact o.k2
  · rw [← o.hi k hk']
    funext x
    have := m_mk2 hd
    rw [hk] at this
    exact if_neg (fun e => by simp only at this; omega)
  · unfold m_si
    split
    · rename_i e
      unfold m_vo at hv
      rw [if_pos (by omega)] at hv
      exact hv
    · exact o.hc n' hn'
  · rw [q170]; exact o.ca
  · rw [q170]; exact o.to
theorem m_ok_cf {i j : Nat} {v : Int32} (o : m_ok D f g h f1 g1 h1 c t) (hi : D ≤ i) (h10 : i < 10) (hj : j = 3 ∨ j = 4) : m_ok D f g h (m_si f1 (12 + 16 * i) j v) g1 h1 c t := by
  refine ⟨m_re_c o.re (fun c n hd => m_ka34 c n hd i j hj), o.go, fun i' j' hi' hj' => ?_, o.kg, o.kh, o.ks, o.k0, o.k2, o.kd, fun k hk => ?_, o.bo, o.hc, o.ca, o.to⟩
  · rw [← o.kf i' j' hi' hj']
    exact if_neg (fun e => by omega)
  · rw [← o.hi k hk]
    funext x
    exact if_neg (fun e => by omega)
theorem m_ok_g {i j : Nat} {v : Option Nat} (o : m_ok D f g h f1 g1 h1 c t) (hi : D ≤ i) (h10 : i < 10) (hj : j = 1 ∨ j = 2) : m_ok D f g h f1 (m_sr g1 (12 + 16 * i) j v) h1 c t := by
  refine ⟨o.re, m_go_sr o.go (by omega) hj (by omega), o.kf, fun k j' hk => ?_, o.kh, o.ks, o.k0, o.k2, o.kd, o.hi, o.bo, o.hc, o.ca, o.to⟩
  rw [← o.kg k j' hk]
  exact if_neg (fun e => by omega)
theorem m_ok_mh {q i : Nat} {v : Int32} (o : m_ok D f g h f1 g1 h1 c t) (hq : 184 ≤ q) (hq2 : q ≤ 189) (hi : D ≤ i) : m_ok D f g h f1 g1 (m_si h1 q i v) c t := by
  have q170 : ∀ z j, (z < 184 ∨ 189 < z) → m_si h1 q i v z j = h1 z j := fun z j hz => if_neg (fun e => by omega)
  refine ⟨m_re_m o.re ?_, o.go, o.kf, o.kg, fun c' i' h1' h2 h3 => ?_, fun c' hc' => ?_, ?_, ?_, (fun hD j hj => (q170 170 j (by omega)).trans (o.kd hD j hj)), o.hi, fun n => ?_, fun n hn => ?_, ?_, ?_⟩
  · have : q = 184 ∨ q = 185 ∨ q = 186 ∨ q = 187 ∨ q = 188 ∨ q = 189 := by omega
    rcases this with rfl | rfl | rfl | rfl | rfl | rfl <;> rfl
  · rw [← o.kh c' i' h1' h2 h3]
    exact if_neg (fun e => by omega)
  · rw [← o.ks c' hc']
    funext x
    exact if_neg (fun e => by omega)
  · rw [q170 _ _ (by omega)]; exact o.k0
  · rw [q170 _ _ (by omega)]; exact o.k2
  · rw [q170 _ _ (by omega), q170 _ _ (by omega), q170 _ _ (by omega), q170 _ _ (by omega)]; exact o.bo n
  · rw [q170 _ _ (by omega)]; exact o.hc n hn
  · rw [q170 _ _ (by omega)]; exact o.ca
  · rw [q170 _ _ (by omega)]; exact o.to
theorem m_ok_m0 {j : Nat} {v : Int32} (o : m_ok D f g h f1 g1 h1 c t) (hj : 17 ≤ j) (hD' : D < 10) : m_ok D f g h f1 g1 (m_si h1 170 j v) c t := by
  have q170 : ∀ z i, (z ≠ 170 ∨ i < 17) → m_si h1 170 j v z i = h1 z i := fun z i hz => if_neg (fun e => by omega)
  refine ⟨m_re_m o.re ?_, o.go, o.kf, o.kg, fun c' i' h1' h2 h3 => ?_, fun c' hc' => ?_, ?_, ?_, (fun hD => absurd hD (by omega)), o.hi, fun n => ?_, fun n hn => ?_, ?_, ?_⟩
  · simp only [m_dm, Bool.or_eq_false_iff, beq_eq_false_iff_ne, ne_eq]
    omega
  · rw [← o.kh c' i' h1' h2 h3]
    exact if_neg (fun e => by omega)
  · rw [← o.ks c' hc']
    funext x
    exact if_neg (fun e => by omega)
  · rw [q170 _ _ (by omega)]; exact o.k0
  · rw [q170 _ _ (by omega)]; exact o.k2
  · rw [q170 _ _ (by omega), q170 _ _ (by omega), q170 _ _ (by omega), q170 _ _ (by omega)]; exact o.bo n
  · rw [q170 _ _ (by omega)]; exact o.hc n hn
  · rw [q170 _ _ (by omega)]; exact o.ca
  · rw [q170 _ _ (by omega)]; exact o.to
theorem m_ok_170 {j a b c' t' : Nat} {v : Int32} (o : m_ok D f g h f1 g1 h1 c t) (hj : (j = 13 ∧ a = 0 ∧ b = 7 ∧ v = nI c' ∧ t' = t) ∨ (j = 14 ∧ a = 166 ∧ b = 2 ∧ v = nI t' ∧ c' = c)) : m_ok D f g h (m_si f1 a b v) g1 (m_si h1 170 j v) c' t' := by
  have q170 : ∀ z i, (z ≠ 170 ∨ (i ≠ 13 ∧ i ≠ 14)) → m_si h1 170 j v z i = h1 z i := fun z i hz => if_neg (fun e => by omega)
  have c170 : ∀ z i, (z ≠ 0 ∧ z ≠ 166) → m_si f1 a b v z i = f1 z i := fun z i hz => if_neg (fun e => by omega)
  refine ⟨?_, o.go, fun i j hi hj => ?_, o.kg, fun c' i' h1' h2 h3 => ?_, fun c' hc' => ?_, ?_, ?_, (fun hD i hi => (q170 170 i (by omega)).trans (o.kd hD i hi)), fun k hk => ?_, fun n => ?_, fun n hn => ?_, ?_, ?_⟩
  · rcases hj with ⟨rfl, rfl, rfl, _, _⟩ | ⟨rfl, rfl, rfl, _, _⟩
    · exact m_re_si o.re rfl rfl
    · exact m_re_si o.re rfl rfl
  · rw [c170 _ _ (by omega)]; exact o.kf i j hi hj
  · rw [q170 _ _ (by omega)]; exact o.kh c' i' h1' h2 h3
  · rw [← o.ks c' hc']
    funext x
    exact q170 _ _ (by omega)
  · rw [q170 _ _ (by omega)]; exact o.k0
  · rw [q170 _ _ (by omega)]; exact o.k2
  · rw [← o.hi k hk]
    funext x
    exact c170 _ _ (by omega)
  · rw [q170 _ _ (by omega), q170 _ _ (by omega), q170 _ _ (by omega), q170 _ _ (by omega)]; exact o.bo n
  · rw [q170 _ _ (by omega)]; exact o.hc n hn
  · rcases hj with ⟨rfl, rfl, rfl, rfl, _⟩ | ⟨rfl, rfl, rfl, rfl, rfl⟩
    · exact if_pos ⟨rfl, rfl⟩
    · exact (if_neg (fun e => by omega)).trans o.ca
  · rcases hj with ⟨rfl, rfl, rfl, rfl, rfl⟩ | ⟨rfl, rfl, rfl, rfl, _⟩
    · exact (if_neg (fun e => by omega)).trans o.to
    · exact if_pos ⟨rfl, rfl⟩
theorem m_ok_trans {D' : Nat} {f2 : mF} {g2 : mG} {h2 : mF} {c' t' : Nat} (o : m_ok D f g h f1 g1 h1 c t) (o' : m_ok D' f1 g1 h1 f2 g2 h2 c' t') (hD : D ≤ D') : m_ok D f g h f2 g2 h2 c' t' := by
  refine ⟨o'.re, o'.go, fun i j hi hj => ?_, fun k j hk => ?_, fun c' i' h1' h2 h3 => ?_, fun c' hc' => ?_, ?_, ?_, (fun hD j hj => (o'.kd (by omega) j hj).trans (o.kd hD j hj)), fun k hk => ?_, o'.bo, o'.hc, o'.ca, o'.to⟩
  · rw [o'.kf i j (by omega) hj]; exact o.kf i j hi hj
  · rw [o'.kg k j (by omega)]; exact o.kg k j hk
  · rw [o'.kh c' i' h1' h2 (by omega)]; exact o.kh c' i' h1' h2 h3
  · rw [o'.ks c' hc']; exact o.ks c' hc'
  · rw [o'.k0]; exact o.k0
  · rw [o'.k2]; exact o.k2
  · rw [o'.hi k hk]; exact o.hi k hk
theorem m_ok_refl (o : m_ok D f g h f1 g1 h1 c t) (D' : Nat) : m_ok D' f1 g1 h1 f1 g1 h1 c t := ⟨o.re, o.go, fun _ _ _ _ => rfl, fun _ _ _ => rfl, fun _ _ _ _ _ => rfl, fun _ _ => rfl, rfl, rfl, fun _ _ _ => rfl, fun _ _ => rfl, o.bo, o.hc, o.ca, o.to⟩
/-- a record in both journals -/
theorem m_ok_rec {k n v : Int32} (o : m_ok D f g h f1 g1 h1 c t) : m_ok D f g h (m_rec 166 2 167 168 t k n v f1) g1 (m_rec 170 14 182 183 t k n v h1) c (t + 1) := by
  unfold m_rec
  split
  · rename_i ht
    exact m_ok_170 (m_ok_si (m_ok_si o (djc ht) rfl (by decide) (by simp [m_vo])) (dja ht) rfl (by decide) (by simp [m_vo])) (Or.inr ⟨rfl, rfl, rfl, rfl, rfl⟩)
  · exact m_ok_170 o (Or.inr ⟨rfl, rfl, rfl, rfl, rfl⟩)
theorem m_ok_call (o : m_ok D f g h f1 g1 h1 c t) : m_ok D f g h (m_si f1 0 7 (nI (c + 1))) g1 (m_si h1 170 13 (nI (c + 1))) (c + 1) t := m_ok_170 o (Or.inl ⟨rfl, rfl, rfl, rfl, rfl⟩)
theorem oV {i k : Nat} {v : Int32} (o : m_ok D f g h f1 g1 h1 c t) (hi : i < 10) (hk : k < 4) : m_ok D f g h (m_si f1 (14 + 16 * i) k v) g1 (m_si h1 194 (4 * i + k) v) c t := m_ok_si o (dV hi hk) (kV hk) (by decide) (by simp [m_vo])
theorem oO {i k : Nat} {v : Int32} (o : m_ok D f g h f1 g1 h1 c t) (hi : i < 10) (hk : k < 4) (hv : v = 0 ∨ v = 1) : m_ok D f g h (m_si f1 (15 + 16 * i) k v) g1 (m_si h1 193 (4 * i + k) v) c t := m_ok_si o (dO hi hk) (kO hk) (by decide) (by simpa [m_vo] using hv)
theorem oRd {i k : Nat} {v : Int32} (o : m_ok D f g h f1 g1 h1 c t) (hi : i < 10) (hk : k < 4) : m_ok D f g h (m_si f1 (16 + 16 * i) k v) g1 (m_si h1 195 (4 * i + k) v) c t := m_ok_si o (dRd hi hk) (kRd hk) (by decide) (by simp [m_vo])
theorem oW {i k : Nat} {v : Int32} (o : m_ok D f g h f1 g1 h1 c t) (hi : i < 10) (hk : k < 4) : m_ok D f g h (m_si f1 (17 + 16 * i) k v) g1 (m_si h1 196 (4 * i + k) v) c t := m_ok_si o (dW hi hk) (kW hk) (by decide) (by simp [m_vo])
theorem oH {i k : Nat} {v : Int32} (o : m_ok D f g h f1 g1 h1 c t) (hi : i < 10) (hk : k < 8) : m_ok D f g h (m_si f1 (18 + 16 * i) k v) g1 (m_si h1 199 (8 * i + k) v) c t := m_ok_si o (dH hi hk) (kH hk) (by decide) (by simp [m_vo])
theorem oBd {i k : Nat} {v : Int32} (o : m_ok D f g h f1 g1 h1 c t) (hi : i < 10) (hk : k < 8) : m_ok D f g h (m_si f1 (19 + 16 * i) k v) g1 (m_si h1 200 (8 * i + k) v) c t := m_ok_si o (dBd hi hk) (kBd hk) (by decide) (by simp [m_vo])
theorem omV {i k : Nat} {v : Int32} (o : m_ok D f g h f1 g1 h1 c t) (hi : i < 10) (hk : k < 4) : m_ok D f g h (m_si f1 (20 + 16 * i) k v) g1 (m_si h1 191 (4 * i + k) v) c t := m_ok_si o (dmV hi hk) (kmV hk) (by decide) (by simp [m_vo])
theorem omO {i k : Nat} {v : Int32} (o : m_ok D f g h f1 g1 h1 c t) (hi : i < 10) (hk : k < 4) (hv : v = 0 ∨ v = 1) : m_ok D f g h (m_si f1 (21 + 16 * i) k v) g1 (m_si h1 190 (4 * i + k) v) c t := m_ok_si o (dmO hi hk) (kmO hk) (by decide) (by simpa [m_vo] using hv)
theorem oHc {i : Nat} {v : Int32} (o : m_ok D f g h f1 g1 h1 c t) (hi : i < 10) (hv : ∃ k, k ≤ 8 ∧ v = nI k) : m_ok D f g h (m_si f1 (13 + 16 * i) 6 v) g1 (m_si h1 198 i v) c t := m_ok_si o (dHc hi) rfl (by decide) (by simpa [m_vo] using hv)
theorem oSp {i : Nat} {v : Int32} (o : m_ok D f g h f1 g1 h1 c t) (hi : i < 10) (hv : v = 0 ∨ v = 1) : m_ok D f g h (m_si f1 (13 + 16 * i) 7 v) g1 (m_si h1 197 i v) c t := m_ok_si o (dSp hi) rfl (by decide) (by simpa [m_vo] using hv)
theorem omS {i : Nat} {v : Int32} (o : m_ok D f g h f1 g1 h1 c t) (hi : i < 10) (hv : v = 0 ∨ v = 1) : m_ok D f g h (m_si f1 (12 + 16 * i) 7 v) g1 (m_si h1 192 i v) c t := m_ok_si o (dmS hi) rfl (by decide) (by simpa [m_vo] using hv)
theorem ocm {k : Nat} {v : Int32} (o : m_ok D f g h f1 g1 h1 c t) (hk : k < 4) : m_ok D f g h (m_si f1 4 k v) g1 (m_si h1 180 k v) c t := m_ok_si o (dcm hk) rfl (by decide) (by simp [m_vo])
theorem ota {k : Nat} {v : Int32} (o : m_ok D f g h f1 g1 h1 c t) (hk : k < 4) : m_ok D f g h (m_si f1 169 k v) g1 (m_si h1 181 k v) c t := m_ok_si o (dta hk) rfl (by decide) (by simp [m_vo])
end ok
