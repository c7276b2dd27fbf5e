/-! The small machine: a method's activation as a least fixed point over states (pc, locals, stack, world). A world is the list of its cells' shapes ((0, class), (1, n) int array, (2, n) boolean array, (3, n), (4, n) arrays of references), the ints (cell, slot) and the references (cell, slot: a cell's number). -/
abbrev mV : Type := Int32 ⊕ Option Nat
abbrev mL : Type := List (Option mV)
abbrev mS : Type := List mV
abbrev mW : Type := List (Nat × Nat) × (Nat → Nat → Int32) × (Nat → Nat → Option Nat)
abbrev mQ : Type := Option mV → mW → Prop
abbrev mX : Type := Nat → mL → mS → mW → Prop
abbrev mC : Type := Nat → List mV → mW → mQ → Prop
abbrev mO : Type := (Nat × mL × mS × mW) ⊕ (Option mV ⊕ (Nat × List mV × mS))
def m_si (f : Nat → Nat → Int32) (k j : Nat) (v : Int32) : Nat → Nat → Int32 := fun a b => if a = k ∧ b = j then v else f a b
def m_sr (f : Nat → Nat → Option Nat) (k j : Nat) (v : Option Nat) : Nat → Nat → Option Nat := fun a b => if a = k ∧ b = j then v else f a b
def m_zi (f : Nat → Nat → Int32) (k : Nat) : Nat → Nat → Int32 := fun a b => if a = k then 0 else f a b
def m_zr (f : Nat → Nat → Option Nat) (k : Nat) : Nat → Nat → Option Nat := fun a b => if a = k then none else f a b
def m_sz (h : Nat × Nat) : Nat := if h.1 = 0 then m_nf h.2 else h.2
def m_sl (l : List (Nat × Nat)) : Nat := (l.map m_sz).sum
def m_ld (w : mW) (ci k j : Nat) : mV := if m_ft ci j = 2 then .inr (w.2.2 k j) else .inl (w.2.1 k j)
def m_go (pc : Nat) (ls : mL) (st : mS) (w : mW) : Option mO := some (.inl (pc, ls, st, w))
def m_nx (pc : Int) (ls : mL) (st : mS) (w : mW) : Option mO := match pc with
  | .ofNat t => m_go t ls st w
  | .negSucc _ => none
def m_li (pc k : Nat) (ls : mL) (st : mS) (w : mW) : Option mO := match ls[k]? with
  | some (some (.inl x)) => m_go pc ls (.inl x :: st) w
  | _ => none
def m_la (pc k : Nat) (ls : mL) (st : mS) (w : mW) : Option mO := match ls[k]? with
  | some (some (.inr r)) => m_go pc ls (.inr r :: st) w
  | _ => none
def m_ti (pc k : Nat) (ls : mL) (st : mS) (w : mW) : Option mO := match st with
  | .inl x :: st' => if k < ls.length then m_go pc (ls.set k (some (.inl x))) st' w else none
  | _ => none
def m_ta (pc k : Nat) (ls : mL) (st : mS) (w : mW) : Option mO := match st with
  | .inr x :: st' => if k < ls.length then m_go pc (ls.set k (some (.inr x))) st' w else none
  | _ => none
def m_b2 (f : Int32 → Int32 → Int32) (pc : Nat) (ls : mL) (st : mS) (w : mW) : Option mO := match st with
  | .inl y :: .inl x :: st' => m_go pc ls (.inl (f x y) :: st') w
  | _ => none
/-- a comparison: the way taken first -/
def m_if (c : Jvm.ClassFile.Cond) (x y : Int32) (a b : Option mO) : Option mO := match c with
  | .eq => if x = y then a else b
  | .ne => if x = y then b else a
  | .lt => if x < y then a else b
  | .ge => if y ≤ x then a else b
  | .gt => if y < x then a else b
  | .le => if x ≤ y then a else b
/-- a field is read -/
def m_gf (f : Option (Nat × Nat)) (pc : Nat) (ls : mL) (st : mS) (w : mW) : Option mO := match f, st with
  | some (ci, j), .inr (some k) :: st' => if w.1[k]? = some (0, ci) then m_go pc ls (m_ld w ci k j :: st') w else none
  | _, _ => none
/-- a field is written: 0 int, 1 boolean, 2 reference -/
def m_pf (f : Option (Nat × Nat)) (pc : Nat) (ls : mL) (st : mS) (w : mW) : Option mO := match f, st with
  | some (ci, j), .inl x :: .inr (some k) :: st' => if w.1[k]? = some (0, ci) ∧ (m_ft ci j = 0 ∨ (m_ft ci j = 1 ∧ (x = 0 ∨ x = 1))) then m_go pc ls st' (w.1, m_si w.2.1 k j x, w.2.2) else none
  | some (ci, j), .inr r :: .inr (some k) :: st' => if w.1[k]? = some (0, ci) ∧ m_ft ci j = 2 then m_go pc ls st' (w.1, w.2.1, m_sr w.2.2 k j r) else none
  | _, _ => none
/-- an int array's element; the script is cell 1000000, its length stands at (1000001, 0) -/
def m_xi (pc : Nat) (ls : mL) (st : mS) (w : mW) : Option mO := match st with
  | .inl i :: .inr (some k) :: st' => match w.1[k]? with
    | some (t, n) => if t = 1 ∧ ¬ (i < 0 ∨ n ≤ i.toNatClampNeg) then m_go pc ls (.inl (w.2.1 k i.toNatClampNeg) :: st') w else none
    | none => if k = 1000000 ∧ ¬ (i < 0 ∨ (w.2.1 1000001 0).toNatClampNeg ≤ i.toNatClampNeg) then m_go pc ls (.inl (w.2.1 k i.toNatClampNeg) :: st') w else none
  | _ => none
def m_xb (pc : Nat) (ls : mL) (st : mS) (w : mW) : Option mO := match st with
  | .inl i :: .inr (some k) :: st' => match w.1[k]? with
    | some (t, n) => if t = 2 ∧ ¬ (i < 0 ∨ n ≤ i.toNatClampNeg) then m_go pc ls (.inl (w.2.1 k i.toNatClampNeg) :: st') w else none
    | none => none
  | _ => none
def m_xa (pc : Nat) (ls : mL) (st : mS) (w : mW) : Option mO := match st with
  | .inl i :: .inr (some k) :: st' => match w.1[k]? with
    | some (t, n) => if (t = 3 ∨ t = 4) ∧ ¬ (i < 0 ∨ n ≤ i.toNatClampNeg) then m_go pc ls (.inr (w.2.2 k i.toNatClampNeg) :: st') w else none
    | none => none
  | _ => none
def m_yi (pc : Nat) (ls : mL) (st : mS) (w : mW) : Option mO := match st with
  | .inl x :: .inl i :: .inr (some k) :: st' => match w.1[k]? with
    | some (t, n) => if t = 1 ∧ ¬ (i < 0 ∨ n ≤ i.toNatClampNeg) then m_go pc ls st' (w.1, m_si w.2.1 k i.toNatClampNeg x, w.2.2) else none
    | none => none
  | _ => none
def m_yb (pc : Nat) (ls : mL) (st : mS) (w : mW) : Option mO := match st with
  | .inl x :: .inl i :: .inr (some k) :: st' => match w.1[k]? with
    | some (t, n) => if (t = 2 ∧ (x = 0 ∨ x = 1)) ∧ ¬ (i < 0 ∨ n ≤ i.toNatClampNeg) then m_go pc ls st' (w.1, m_si w.2.1 k i.toNatClampNeg x, w.2.2) else none
    | none => none
  | _ => none
/-- a reference to an object of the array's own class is put: array kind 3 is of class m_ak 3 .. -/
def m_ya (pc : Nat) (ls : mL) (st : mS) (w : mW) : Option mO := match st with
  | .inr (some v) :: .inl i :: .inr (some k) :: st' => match w.1[k]? with
    | some (t, n) => if ((t = 3 ∨ t = 4) ∧ w.1[v]? = some (0, m_ak t)) ∧ ¬ (i < 0 ∨ n ≤ i.toNatClampNeg) then m_go pc ls st' (w.1, w.2.1, m_sr w.2.2 k i.toNatClampNeg (some v)) else none
    | none => none
  | _ => none
def m_al (pc : Nat) (ls : mL) (st : mS) (w : mW) : Option mO := match st with
  | .inr (some k) :: st' => match w.1[k]? with
    | some (t, n) => if t = 1 ∨ t = 2 ∨ t = 3 ∨ t = 4 then m_go pc ls (.inl (Int32.ofNat n) :: st') w else none
    | none => if k = 1000000 then m_go pc ls (.inl (w.2.1 1000001 0) :: st') w else none
  | _ => none
/-- a new cell of shape h: within what the method may make -/
def m_mk (me N0 S0 : Nat) (h : Nat × Nat) (pc : Nat) (ls : mL) (st : mS) (w : mW) : Option mO :=
  if w.1.length + 1 ≤ N0 + (m_bg me).1 ∧ m_sl w.1 + m_sz h ≤ S0 + (m_bg me).2 ∧ w.1.length < 1000000 then m_go pc ls (.inr (some w.1.length) :: st) (w.1 ++ [h], m_zi w.2.1 w.1.length, m_zr w.2.2 w.1.length) else none
def m_ma (me N0 S0 t : Nat) (pc : Nat) (ls : mL) (st : mS) (w : mW) : Option mO := match st with
  | .inl n :: st' => if t ≠ 0 ∧ ¬ n < 0 ∧ n.toNatClampNeg ≤ 1000 then m_mk me N0 S0 (t, n.toNatClampNeg) pc ls st' w else none
  | _ => none
/-- a call -/
def m_cr (me N0 S0 : Nat) (y : Nat) (kd : Nat) (st : mS) (w : mW) : Option mO := match st.drop (m_na y) with
  | .inr (some b) :: rest => if (m_na y ≤ st.length ∧ m_kd y = kd ∧ rest.length ≤ 8 ∧ (kd = 1 → w.1[b]? = some (0, m_oc y))) ∧ w.1.length + (m_bg y).1 ≤ N0 + (m_bg me).1 ∧ m_sl w.1 + (m_bg y).2 ≤ S0 + (m_bg me).2 then some (.inr (.inr (y, .inr (some b) :: (st.take (m_na y)).reverse, rest))) else none
  | _ => none
def m_cs (me N0 S0 : Nat) (y : Nat) (st : mS) (w : mW) : Option mO :=
  if (m_na y ≤ st.length ∧ m_kd y = 0 ∧ (st.drop (m_na y)).length ≤ 8) ∧ w.1.length + (m_bg y).1 ≤ N0 + (m_bg me).1 ∧ m_sl w.1 + (m_bg y).2 ≤ S0 + (m_bg me).2 then some (.inr (.inr (y, (st.take (m_na y)).reverse, st.drop (m_na y)))) else none
/-- an int is given back -/
def m_ri (me N0 S0 : Nat) (st : mS) (w : mW) : Option mO := match st with
  | [.inl x] => if (m_rt me = 1 ∨ (m_rt me = 2 ∧ (x = 0 ∨ x = 1))) ∧ w.1.length = N0 + (m_bg me).1 ∧ m_sl w.1 = S0 + (m_bg me).2 then some (.inr (.inl (some (.inl x)))) else none
  | _ => none
def m_rv (me N0 S0 : Nat) (st : mS) (w : mW) : Option mO := match st with
  | [] => if m_rt me = 0 ∧ w.1.length = N0 + (m_bg me).1 ∧ m_sl w.1 = S0 + (m_bg me).2 then some (.inr (.inl none)) else none
  | _ => none
/-- Object's constructor -/
def m_so (pc : Nat) (ls : mL) (st : mS) (w : mW) : Option mO := match st with
  | .inr (some _) :: st' => if st'.length ≤ 8 then m_go pc ls st' w else none
  | _ => none
/-- one instruction -/
def m_st (me N0 S0 pc : Nat) (ls : mL) (st : mS) (w : mW) (i : Jvm.ClassFile.Instr) : Option mO := match i with
  | .iconst c => m_go (pc + 1) ls (.inl (Int32.ofInt c) :: st) w
  | .bipush c => m_go (pc + 2) ls (.inl (Int8.ofInt c).toInt32 :: st) w
  | .sipush c => m_go (pc + 3) ls (.inl (Int16.ofInt c).toInt32 :: st) w
  | .aconst_null => m_go (pc + 1) ls (.inr none :: st) w
  | .iload_n k => m_li (pc + 1) k.val ls st w
  | .iload k => m_li (pc + 2) k ls st w
  | .aload_n k => m_la (pc + 1) k.val ls st w
  | .aload k => m_la (pc + 2) k ls st w
  | .istore_n k => m_ti (pc + 1) k.val ls st w
  | .istore k => m_ti (pc + 2) k ls st w
  | .astore_n k => m_ta (pc + 1) k.val ls st w
  | .astore k => m_ta (pc + 2) k ls st w
  | .iinc k c => match ls[k]? with
    | some (some (.inl x)) => m_go (pc + 3) (ls.set k (some (.inl (x + Int32.ofInt c)))) st w
    | _ => none
  | .iadd => m_b2 (fun x y => x + y) (pc + 1) ls st w
  | .isub => m_b2 (fun x y => x - y) (pc + 1) ls st w
  | .imul => m_b2 (fun x y => x * y) (pc + 1) ls st w
  | .iand => m_b2 (fun x y => x &&& y) (pc + 1) ls st w
  | .dup => match st with
    | v :: st' => m_go (pc + 1) ls (v :: v :: st') w
    | _ => none
  | .pop => match st with
    | _ :: st' => m_go (pc + 1) ls st' w
    | _ => none
  | .dup_x1 => match st with
    | a :: b :: st' => m_go (pc + 1) ls (a :: b :: a :: st') w
    | _ => none
  | .dup2 => match st with
    | a :: b :: st' => m_go (pc + 1) ls (a :: b :: a :: b :: st') w
    | _ => none
  | .ifCond c off => match st with
    | .inl x :: st' => m_if c x 0 (m_nx ((pc : Int) + off) ls st' w) (m_go (pc + 3) ls st' w)
    | _ => none
  | .if_icmp c off => match st with
    | .inl y :: .inl x :: st' => m_if c x y (m_nx ((pc : Int) + off) ls st' w) (m_go (pc + 3) ls st' w)
    | _ => none
  | .ifnull off => match st with
    | .inr none :: st' => m_nx ((pc : Int) + off) ls st' w
    | .inr (some _) :: st' => m_go (pc + 3) ls st' w
    | _ => none
  | .ifnonnull off => match st with
    | .inr none :: st' => m_go (pc + 3) ls st' w
    | .inr (some _) :: st' => m_nx ((pc : Int) + off) ls st' w
    | _ => none
  | .goto off => m_nx ((pc : Int) + off) ls st w
  | .tableswitch d lo hi offs => match st with
    | .inl x :: st' => if x.toInt < lo ∨ hi < x.toInt then m_nx ((pc : Int) + d) ls st' w else match offs[(x.toInt - lo).toNat]? with
      | some off => m_nx ((pc : Int) + off) ls st' w
      | none => none
    | _ => none
  | .lookupswitch d ps => match st with
    | .inl x :: st' => if (ps.toList.zip (ps.toList.drop 1)).all (fun q => decide (q.1.1 < q.2.1)) = true then m_nx ((pc : Int) + Op.lookupswitch.offset ps.toList d x.toInt) ls st' w else none
    | _ => none
  | .getfield idx => m_gf (m_fl me idx) (pc + 3) ls st w
  | .putfield idx => m_pf (m_fp me idx) (pc + 3) ls st w
  | .iaload => m_xi (pc + 1) ls st w
  | .baload => m_xb (pc + 1) ls st w
  | .aaload => m_xa (pc + 1) ls st w
  | .iastore => m_yi (pc + 1) ls st w
  | .bastore => m_yb (pc + 1) ls st w
  | .aastore => m_ya (pc + 1) ls st w
  | .arraylength => m_al (pc + 1) ls st w
  | .new idx => match m_cl me idx with
    | some ci => m_mk me N0 S0 (0, ci) (pc + 3) ls st w
    | none => none
  | .newarray t => match t with
    | .int => m_ma me N0 S0 1 (pc + 2) ls st w
    | .boolean => m_ma me N0 S0 2 (pc + 2) ls st w
    | _ => none
  | .anewarray idx => match m_ca me idx with
    | some t => m_ma me N0 S0 t (pc + 3) ls st w
    | none => none
  | .invokevirtual idx => match m_ml me idx with
    | some y => m_cr me N0 S0 y 1 st w
    | none => none
  | .invokespecial idx => match m_ml me idx with
    | some y => if y = 0 then m_so (pc + 3) ls st w else m_cr me N0 S0 y 2 st w
    | none => none
  | .invokestatic idx => match m_ml me idx with
    | some y => m_cs me N0 S0 y st w
    | none => none
  | .ireturn => m_ri me N0 S0 st w
  | .return_ => m_rv me N0 S0 st w
  | _ => none
/-- what an outcome asks for -/
def m_A (cl : mC) (X : mX) (Q : mQ) (pc : Nat) (ls : mL) (w : mW) (o : Option mO) : Prop := match o with
  | none => False
  | some (.inl (pc', ls', st', w')) => X pc' ls' st' w'
  | some (.inr (.inl v)) => Q v w
  | some (.inr (.inr (y, as, rest))) => cl y as w (fun r w' => X (pc + 3) ls (r.toList ++ rest) w')
def m_F (cl : mC) (me N0 S0 : Nat) (X : mX) (Q : mQ) (pc : Nat) (ls : mL) (st : mS) (w : mW) : Prop := match m_tb me pc with
  | none => False
  | some i => m_A cl X Q pc ls w (m_st me N0 S0 pc ls st w i)
/-- the activation of method me at a state comes to an end with Q -/
def m_R (cl : mC) (me N0 S0 : Nat) (Q : mQ) (pc : Nat) (ls : mL) (st : mS) (w : mW) : Prop := ∀ X : mX, (∀ pc ls st w, m_F cl me N0 S0 X Q pc ls st w → X pc ls st w) → X pc ls st w
def m_mono (cl : mC) : Prop := ∀ (y : Nat) (as : List mV) (w : mW) (Q Q' : mQ), (∀ r w', Q r w' → Q' r w') → cl y as w Q → cl y as w Q'
theorem m_A_mono {cl : mC} (hc : m_mono cl) {X X' : mX} {Q Q' : mQ} {pc : Nat} {ls : mL} {w : mW} (hX : ∀ pc ls st w, X pc ls st w → X' pc ls st w) (hQ : ∀ r w, Q r w → Q' r w) : ∀ {o : Option mO}, m_A cl X Q pc ls w o → m_A cl X' Q' pc ls w o
  | none, h => h
  | some (.inl (_, _, _, _)), h => hX _ _ _ _ h
  | some (.inr (.inl _)), h => hQ _ _ h
  | some (.inr (.inr (_, _, _))), h => hc _ _ _ _ _ (fun _ _ h => hX _ _ _ _ h) h
theorem m_F_mono {cl : mC} (hc : m_mono cl) {me N0 S0 : Nat} {X X' : mX} {Q Q' : mQ} {pc : Nat} {ls : mL} {st : mS} {w : mW} (hX : ∀ pc ls st w, X pc ls st w → X' pc ls st w) (hQ : ∀ r w, Q r w → Q' r w) (h : m_F cl me N0 S0 X Q pc ls st w) : m_F cl me N0 S0 X' Q' pc ls st w := by
  unfold m_F at h ⊢
  split at h
  · exact h
  · exact m_A_mono hc hX hQ h
theorem m_R_in {cl : mC} (hc : m_mono cl) {me N0 S0 : Nat} {Q : mQ} {pc : Nat} {ls : mL} {st : mS} {w : mW} (h : m_F cl me N0 S0 (m_R cl me N0 S0 Q) Q pc ls st w) : m_R cl me N0 S0 Q pc ls st w :=
  fun X hX => hX _ _ _ _ (m_F_mono hc (fun _ _ _ _ h => h X hX) (fun _ _ h => h) h)
theorem m_R_out {cl : mC} (hc : m_mono cl) {me N0 S0 : Nat} {Q : mQ} {pc : Nat} {ls : mL} {st : mS} {w : mW} (h : m_R cl me N0 S0 Q pc ls st w) : m_F cl me N0 S0 (m_R cl me N0 S0 Q) Q pc ls st w :=
  h (fun pc ls st w => m_F cl me N0 S0 (m_R cl me N0 S0 Q) Q pc ls st w) (fun _ _ _ _ h => m_F_mono hc (fun _ _ _ _ h => m_R_in hc h) (fun _ _ h => h) h)
theorem m_R_eq {cl : mC} (hc : m_mono cl) {me N0 S0 : Nat} {Q : mQ} {pc : Nat} {ls : mL} {st : mS} {w : mW} : m_R cl me N0 S0 Q pc ls st w = m_F cl me N0 S0 (m_R cl me N0 S0 Q) Q pc ls st w := propext ⟨m_R_out hc, m_R_in hc⟩
theorem m_R_mono {cl cl' : mC} (hc : m_mono cl') (hcl : ∀ y as w Q, cl y as w Q → cl' y as w Q) {me N0 S0 : Nat} {Q Q' : mQ} (hQ : ∀ r w, Q r w → Q' r w) {pc : Nat} {ls : mL} {st : mS} {w : mW} (h : m_R cl me N0 S0 Q pc ls st w) : m_R cl' me N0 S0 Q' pc ls st w := by
  refine h (fun pc ls st w => m_R cl' me N0 S0 Q' pc ls st w) (fun pc ls st w h => m_R_in hc ?_)
  unfold m_F at h ⊢
  split at h
  · exact h
  · rename_i i hi
    generalize m_st me N0 S0 pc ls st w i = o at h
    match o, h with
    | none, h => exact h
    | some (.inl (_, _, _, _)), h => exact h
    | some (.inr (.inl _)), h => exact hQ _ _ h
    | some (.inr (.inr (_, _, _))), h => exact hcl _ _ _ _ h
def m_fpi (b : Nat) : Int32 := ([-1, 0, 0, 2, 3, 3, 3, 3, 3, 1] : List Int32).getD b 0
/-- Kinds's constructor -/
def m_pK (as : List mV) (w : mW) (Q : mQ) : Prop := match as with
  | [.inr (some k)] => w.1[k]? = some (0, 1) ∧ w.1.length < 1000000 ∧ Q none (w.1 ++ [(1, 16)], m_si (fun a b => if a = w.1.length then m_fpi b else w.2.1 a b) k 1 10, m_sr (m_zr w.2.2 w.1.length) k 0 (some w.1.length))
  | _ => False
theorem m_pK_mono {as : List mV} {w : mW} {Q Q' : mQ} (hQ : ∀ r w', Q r w' → Q' r w') (h : m_pK as w Q) : m_pK as w Q' := by
  unfold m_pK at h ⊢
  split at h
  · exact ⟨h.1, h.2.1, hQ _ _ h.2.2⟩
  · exact h.elim
/-- the methods by depth; method 1 (Kinds's constructor) is walked by hand -/
def m_E : Nat → mC
  | 0 => fun _ _ _ _ => False
  | d + 1 => fun y as w Q => if y = 1 then 2 ≤ d ∧ m_pK as w Q else if as.length ≤ m_mx y then m_R (m_E d) y w.1.length (m_sl w.1) Q 0 (as.map some ++ List.replicate (m_mx y - as.length) none) [] w else False
theorem m_E_mono : ∀ d, m_mono (m_E d)
  | 0 => fun _ _ _ _ _ _ h => h
  | d + 1 => fun y as w Q Q' hQ h => by
    unfold m_E at h ⊢
    by_cases h1 : y = 1
    · rw [if_pos h1] at h ⊢
      exact ⟨h.1, m_pK_mono hQ h.2⟩
    · rw [if_neg h1] at h ⊢
      by_cases h2 : as.length ≤ m_mx y
      · rw [if_pos h2] at h ⊢
        exact m_R_mono (m_E_mono d) (fun _ _ _ _ h => h) hQ h
      · rw [if_neg h2] at h ⊢
        exact h
/-- the length of an instruction's bytes, and that its jump goes forward from 0 -/
def m_lk (pc : Nat) (i : Jvm.ClassFile.Instr) (n : Nat) : Bool := match i with
  | .iconst _ | .aconst_null | .iload_n _ | .aload_n _ | .istore_n _ | .astore_n _ | .iadd | .isub | .imul | .iand | .dup | .pop | .dup_x1 | .dup2 | .iaload | .baload | .aaload | .iastore | .bastore | .aastore | .arraylength | .ireturn | .return_ => decide (n = 1)
  | .bipush _ | .iload _ | .aload _ | .istore _ | .astore _ | .newarray _ => decide (n = 2)
  | .sipush _ | .iinc _ _ | .getfield _ | .putfield _ | .new _ | .anewarray _ | .invokevirtual _ | .invokespecial _ | .invokestatic _ => decide (n = 3)
  | .ifCond _ off | .if_icmp _ off | .ifnull off | .ifnonnull off | .goto off => decide (n = 3) && decide (0 ≤ (pc : Int) + off)
  | .tableswitch _ _ _ _ | .lookupswitch _ _ => true
  | _ => false
