/-! the law's first steps: both objects are made -/
def m_bs (k j : Nat) : Int32 := if k = 1 ∧ j = 1 then 10 else if k = 2 then m_fpi j else if k = 170 ∧ j = 0 then 10 else 0
def m_bf (k j : Nat) : Int32 := if k = 171 then m_fpi j else m_bs k j
theorem m_bs0 {k j : Nat} (h : 3 ≤ k) (h2 : k ≠ 170) : m_bs k j = 0 := by
  unfold m_bs
  rw [if_neg (by omega), if_neg (by omega), if_neg (by omega)]
/-- n cells are made: their ints are as new, all others as f0 says -/
def m_I (f0 : mF) (n : Nat) (w : mW) : Prop := w.1.length = n ∧ ∀ k j, w.2.1 k j = if k < n then m_bs k j else f0 k j
theorem I_nO {f0 : mF} {n : Nat} {w : mW} (h : Nat × Nat) (i : m_I f0 n w) (hn : 3 ≤ n) (h2 : n ≠ 170) : m_I f0 (n + 1) (m_nO h w) := by
  obtain ⟨i1, i2⟩ := i
  refine ⟨by show (w.1 ++ [h]).length = n + 1; rw [List.length_append, i1]; rfl, fun k j => ?_⟩
  show (if k = w.1.length then 0 else w.2.1 k j) = _
  rw [i1, i2]
  by_cases e : k = n
  · rw [if_pos e, if_pos (by omega), m_bs0 (by omega) (by omega)]
  · rw [if_neg e]
    by_cases e2 : k < n
    · rw [if_pos e2, if_pos (by omega)]
    · rw [if_neg e2, if_neg (by omega)]
theorem I_nA {f0 : mF} {n : Nat} {w : mW} (h : Nat × Nat) (k' j' : Nat) (i : m_I f0 n w) (hn : 3 ≤ n) (h2 : n ≠ 170) : m_I f0 (n + 1) (m_nA h k' j' w) := I_nO h i hn h2
theorem I_wr {f0 : mF} {n : Nat} {w : mW} (k' j' : Nat) (v : Option Nat) (i : m_I f0 n w) : m_I f0 n (m_wr k' j' v w) := i
theorem I_pl {f0 : mF} {n : Nat} {w : mW} (k : Nat) (i : m_I f0 n w) (hn : 3 ≤ n) (h2 : n + 5 ≤ 170) : m_I f0 (n + 5) (m_plW k w) := I_nA _ _ _ (I_nA _ _ _ (I_nA _ _ _ (I_nA _ _ _ (I_nA _ _ _ i hn (by omega)) (by omega) (by omega)) (by omega) (by omega)) (by omega) (by omega)) (by omega) (by omega)
theorem I_tx {f0 : mF} {n : Nat} {w : mW} (k : Nat) (i : m_I f0 n w) (hn : 3 ≤ n) (h2 : n + 6 ≤ 170) : m_I f0 (n + 6) (m_txW k w) := I_nA _ _ _ (I_nA _ _ _ (I_nA _ _ _ (I_nA _ _ _ (I_nA _ _ _ (I_nA _ _ _ i hn (by omega)) (by omega) (by omega)) (by omega) (by omega)) (by omega) (by omega)) (by omega) (by omega)) (by omega) (by omega)
theorem I_fr {f0 : mF} {n : Nat} {w : mW} (k : Nat) (i : m_I f0 n w) (hn : 3 ≤ n) (h2 : n + 9 ≤ 170) : m_I f0 (n + 9) (m_frW k w) := I_nA _ _ _ (I_nA _ _ _ (I_wr _ _ _ (I_tx _ (I_nO (0, 3) i hn (by omega)) (by omega) (by omega))) (by omega) (by omega)) (by omega) (by omega)
theorem I_b3 {f0 : mF} {n : Nat} {w : mW} (b : Nat) (i : m_I f0 n w) (hn : 3 ≤ n) (h2 : n + 6 ≤ 170) : m_I f0 (n + 6) (m_b3 b w) := I_wr _ _ _ (I_pl _ (I_nO (0, 2) i hn (by omega)) (by omega) (by omega))
theorem I_blk {f0 : mF} {n : Nat} {w : mW} (b : Nat) (i : m_I f0 n w) (hn : 3 ≤ n) (h2 : n + 16 ≤ 170) : m_I f0 (n + 16) (m_blk b w) := I_wr _ _ _ (I_fr _ (I_nO (0, 4) (I_b3 b i hn (by omega)) (by omega) (by omega)) (by omega) (by omega))
theorem I_blks {f0 : mF} : ∀ (m b n : Nat) (w : mW), m_I f0 n w → 3 ≤ n → n + 16 * m ≤ 170 → m_I f0 (n + 16 * m) (m_blks m b w) := by
  intro m
  induction m with
  | zero => intro b n w i _ _; exact i
  | succ m ih =>
    intro b n w i hn h2
    have := ih (b + 1) (n + 16) (m_blk b w) (I_blk b i hn (by omega)) (by omega) (by omega)
    rw [show n + 16 * (m + 1) = n + 16 + 16 * m by omega]
    exact this
theorem I_ki {f0 : mF} {g : mG} : m_I f0 3 (m_wr 0 0 (some 1) (m_kiW 1 (m_nO (0, 1) ([(0, 0)], m_zi f0 0, g)))) := by
  refine ⟨rfl, fun k j => ?_⟩
  show m_si (fun a b => if a = 2 then m_fpi b else m_zi (m_zi f0 0) 1 a b) 1 1 10 k j = _
  unfold m_si m_zi m_bs
  by_cases k0 : k = 0
  · subst k0; simp
  by_cases k1 : k = 1
  · subst k1; simp
  by_cases k2 : k = 2
  · subst k2; simp
  rw [if_neg (by omega)]
  simp only [k0, k1, k2, if_false]
  rw [if_neg (by omega)]
theorem I_dk {f0 : mF} {g : mG} : m_I f0 170 (m_dkW ([(0, 0)], m_zi f0 0, g)) := I_nA _ _ _ (I_wr _ _ _ (I_nA _ _ _ (I_nA _ _ _ (I_nO (0, 5) (I_blks 10 0 6 _ (I_nA _ _ _ (I_nA _ _ _ (I_nA _ _ _ I_ki (by decide) (by decide)) (by decide) (by decide)) (by decide) (by decide)) (by decide) (by decide)) (by decide) (by decide)) (by decide) (by decide)) (by decide) (by decide))) (by decide) (by decide)
theorem I_fold {f0 : mF} (k : Nat) : ∀ (L : List ((Nat × Nat) × Nat)) (n : Nat) (w : mW), m_I f0 n w → 171 ≤ n → m_I f0 (n + L.length) (m_fold L k w) := by
  intro L
  induction L with
  | nil => intro n w i _; exact i
  | cons q L ih =>
    intro n w i hn
    have := ih (n + 1) _ (I_nA q.1 k q.2 i (by omega) (by omega)) (by omega)
    rw [show n + (q :: L).length = n + 1 + L.length by rw [List.length_cons]; omega]
    exact this
/-- the references, by the count of cells alone -/
abbrev mP : Type := Nat × mG
def pi_ (w : mW) : mP := (w.1.length, w.2.2)
def gO (p : mP) : mP := (p.1 + 1, m_zr p.2 p.1)
def gA (k j : Nat) (p : mP) : mP := (p.1 + 1, m_sr (m_zr p.2 p.1) k j (some p.1))
def gW (k j : Nat) (v : Option Nat) (p : mP) : mP := (p.1, m_sr p.2 k j v)
theorem pi_nO (h : Nat × Nat) (w : mW) : pi_ (m_nO h w) = gO (pi_ w) := by
  show ((w.1 ++ [h]).length, _) = _
  rw [List.length_append]
  rfl
theorem pi_nA (h : Nat × Nat) (k j : Nat) (w : mW) : pi_ (m_nA h k j w) = gA k j (pi_ w) := by
  show ((w.1 ++ [h]).length, _) = _
  rw [List.length_append]
  rfl
theorem pi_wr (k j : Nat) (v : Option Nat) (w : mW) : pi_ (m_wr k j v w) = gW k j v (pi_ w) := rfl
theorem pi_ki (k : Nat) (w : mW) : pi_ (m_kiW k w) = gA k 0 (pi_ w) := by
  show ((w.1 ++ [(1, 16)]).length, _) = _
  rw [List.length_append]
  rfl
def gPl (k : Nat) (p : mP) : mP := gA k 6 (gA k 5 (gA k 4 (gA k 2 (gA k 1 p))))
def gTx (k : Nat) (p : mP) : mP := gA k 5 (gA k 4 (gA k 3 (gA k 2 (gA k 1 (gA k 0 p)))))
def gFr (k : Nat) (p : mP) : mP := gA k 6 (gA k 5 (gW k 0 (some p.1) (gTx p.1 (gO p))))
def gB3 (i : Nat) (p : mP) : mP := gW 3 i (some p.1) (gPl p.1 (gO p))
def gBk (i : Nat) (p : mP) : mP := gW 5 i (some (gB3 i p).1) (gFr (gB3 i p).1 (gO (gB3 i p)))
def gBs : Nat → Nat → mP → mP
  | 0, _, p => p
  | n + 1, i, p => gBs n (i + 1) (gBk i p)
def gFo : List ((Nat × Nat) × Nat) → Nat → mP → mP
  | [], _, p => p
  | q :: L, k, p => gFo L k (gA k q.2 p)
theorem pi_len (w : mW) : w.1.length = (pi_ w).1 := rfl
theorem pi_pl (k : Nat) (w : mW) : pi_ (m_plW k w) = gPl k (pi_ w) := by unfold m_plW gPl; simp only [pi_nA]
theorem pi_tx (k : Nat) (w : mW) : pi_ (m_txW k w) = gTx k (pi_ w) := by unfold m_txW gTx; simp only [pi_nA]
theorem pi_fr (k : Nat) (w : mW) : pi_ (m_frW k w) = gFr k (pi_ w) := by unfold m_frW gFr; simp only [pi_nA, pi_wr, pi_tx, pi_nO, pi_len]
theorem pi_b3 (i : Nat) (w : mW) : pi_ (m_b3 i w) = gB3 i (pi_ w) := by unfold m_b3 gB3; simp only [pi_wr, pi_pl, pi_nO, pi_len]
theorem pi_blk (i : Nat) (w : mW) : pi_ (m_blk i w) = gBk i (pi_ w) := by unfold m_blk gBk; simp only [pi_wr, pi_fr, pi_nO, pi_len, pi_b3]
theorem pi_blks : ∀ (n i : Nat) (w : mW), pi_ (m_blks n i w) = gBs n i (pi_ w) := by
  intro n
  induction n with
  | zero => intro i w; rfl
  | succ n ih => intro i w; unfold m_blks gBs; rw [ih, pi_blk]
theorem pi_fold (k : Nat) : ∀ (L : List ((Nat × Nat) × Nat)) (w : mW), pi_ (m_fold L k w) = gFo L k (pi_ w) := by
  intro L
  induction L with
  | nil => intro w; rfl
  | cons q L ih => intro w; unfold m_fold gFo; rw [ih, pi_nA]
def gD6 (p : mP) : mP := gA 0 4 (gA 0 3 (gA 0 1 (gW 0 0 (some 1) (gA 1 0 (gO p)))))
def gDk (p : mP) : mP := gA 0 6 (gW 0 5 (some (gBs 10 0 (gD6 p)).1) (gA (gBs 10 0 (gD6 p)).1 1 (gA (gBs 10 0 (gD6 p)).1 0 (gO (gBs 10 0 (gD6 p))))))
theorem pi_dk (w : mW) : pi_ (m_dkW w) = gDk (pi_ w) := by
  unfold m_dkW m_joW m_dk7 m_dk6 gDk gD6
  simp only [pi_nA, pi_wr, pi_nO, pi_len, pi_blks, pi_ki]
def gAll : mP := gFo m_ML 170 (gO (gDk (1, fun _ _ => none)))
theorem gAll_go : m_go_ gAll.2 := by
  unfold m_go_
  decide +kernel
theorem m_foldl (k : Nat) : ∀ (L : List ((Nat × Nat) × Nat)) (w : mW), (m_fold L k w).1 = w.1 ++ L.map (fun q => q.1) := by
  intro L
  induction L with
  | nil => intro w; show w.1 = w.1 ++ []; rw [List.append_nil]
  | cons q L ih => intro w; unfold m_fold; rw [ih]; show (w.1 ++ [q.1]) ++ _ = _; rw [List.append_assoc]; rfl
