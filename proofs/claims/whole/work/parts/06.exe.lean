def p_i (st : List Value) (k : Int32 → List Value → Prop) : Prop := match st with
  | .int x :: st => k x st
  | _ => False
def p_l (st : List Value) (k : Int64 → List Value → Prop) : Prop := match st with
  | .long x :: st => k x st
  | _ => False
def p_r (st : List Value) (k : Nat → List Value → Prop) : Prop := match st with
  | .ref x :: st => k x st
  | _ => False
theorem p_i_of {st : List Value} {k : Int32 → List Value → Prop} (h : p_i st k) : ∃ x st', st = .int x :: st' ∧ k x st' := by
  match st, h with
  | .int x :: st, h => exact ⟨x, st, rfl, h⟩
theorem p_l_of {st : List Value} {k : Int64 → List Value → Prop} (h : p_l st k) : ∃ x st', st = .long x :: st' ∧ k x st' := by
  match st, h with
  | .long x :: st, h => exact ⟨x, st, rfl, h⟩
theorem p_r_of {st : List Value} {k : Nat → List Value → Prop} (h : p_r st k) : ∃ x st', st = .ref x :: st' ∧ k x st' := by
  match st, h with
  | .ref x :: st, h => exact ⟨x, st, rfl, h⟩
/-- a place of the locals may be stored to: no long stands before it -/
def okst : List Value → Nat → Prop
  | [], _ => False
  | _ :: _, 0 => True
  | .long _ :: _, 1 => False
  | .double _ :: _, 1 => False
  | _ :: _ :: _, 1 => True
  | _ :: [], 1 => False
  | _ :: l, n + 2 => okst l (n + 1)
/-- how many words values take -/
def wt : List Value → Nat
  | [] => 0
  | .int _ :: l => 1 + wt l
  | .ref _ :: l => 1 + wt l
  | _ :: l => 2 + wt l
def lt4 (st : List Value) : Prop := wt st ≤ 8
def nrw (rt : Option FieldType) (v : Int32) : Prop := match rt with
  | some .int => True
  | some .boolean => v &&& 1 = v
  | some .byte => v.toInt8.toInt32 = v
  | some .char => (v.toUInt32 % 65536).toInt32 = v
  | _ => False
def oI (v : Option Value) (k : Int32 → Prop) : Prop := match v with
  | some (.int x) => k x
  | _ => False
def oL (v : Option Value) (k : Int64 → Prop) : Prop := match v with
  | some (.long x) => k x
  | _ => False
def oR (v : Option Value) (k : Nat → Prop) : Prop := match v with
  | some (.ref x) => k x
  | _ => False
def ldI (ls : List Value) (i : Nat) (k : Int32 → Prop) : Prop := oI ls[i]? k
def ldL (ls : List Value) (i : Nat) (k : Int64 → Prop) : Prop := oL ls[i]? k
def ldR (ls : List Value) (i : Nat) (k : Nat → Prop) : Prop := oR ls[i]? k
theorem ldI_of {ls : List Value} {i : Nat} {k : Int32 → Prop} (h : ldI ls i k) : ∃ x, ls[i]? = some (.int x) ∧ k x := by
  unfold ldI oI at h
  split at h
  · next x hx => exact ⟨x, hx, h⟩
  · exact h.elim
theorem ldL_of {ls : List Value} {i : Nat} {k : Int64 → Prop} (h : ldL ls i k) : ∃ x, ls[i]? = some (.long x) ∧ k x := by
  unfold ldL oL at h
  split at h
  · next x hx => exact ⟨x, hx, h⟩
  · exact h.elim
theorem ldR_of {ls : List Value} {i : Nat} {k : Nat → Prop} (h : ldR ls i k) : ∃ x, ls[i]? = some (.ref x) ∧ k x := by
  unfold ldR oR at h
  split at h
  · next x hx => exact ⟨x, hx, h⟩
  · exact h.elim
/-- a switch by a table: the targets in order, else the other one -/
def swt (x : Int32) (jp : Int → Prop) (d : Int) (lo : Int) : List Int → Prop
  | [] => jp d
  | t :: ts => (x = Int32.ofInt lo → jp t) ∧ (¬ x = Int32.ofInt lo → swt x jp d (lo + 1) ts)
/-- one resolved instruction: what must hold ahead of it. nx: behind it; jp: at a place; Q: at the end; T: a call -/
def ex (nx : List Value → List Value → xM → Prop) (jp : Int → List Value → List Value → xM → Prop) (Q : xQt) (rt0 : Option FieldType) (T : Nat → List Value → xM → xQt → Prop) (i : Instr) (ls st : List Value) (m : xM) : Prop :=
  match i with
  | .iconst n => nx ls (.int (Int32.ofInt n) :: st) m
  | .goto_w n => nx ls (.long (Int64.ofInt n) :: st) m
  | .getstatic k => nx ls (.ref k :: st) m
  | .aconst_null => nx ls (.null :: st) m
  | .iload i => ldI ls i (fun x => nx ls (.int x :: st) m)
  | .lload i => ldL ls i (fun x => nx ls (.long x :: st) m)
  | .aload i => ldR ls i (fun x => nx ls (.ref x :: st) m)
  | .istore i => p_i st (fun x st => okst ls i ∧ nx (ls.set i (.int x)) st m)
  | .lstore i => p_l st (fun x st => okst ls i ∧ i + 1 < ls.length ∧ nx ((ls.set i (.long x)).set (i + 1) .null) st m)
  | .astore i => p_r st (fun x st => okst ls i ∧ nx (ls.set i (.ref x)) st m)
  | .iinc i n => ldI ls i (fun x => okst ls i ∧ nx (ls.set i (.int (x + Int32.ofInt n))) st m)
  | .iadd => p_i st (fun b st => p_i st (fun a st => nx ls (.int (a + b) :: st) m))
  | .isub => p_i st (fun b st => p_i st (fun a st => nx ls (.int (a - b) :: st) m))
  | .imul => p_i st (fun b st => p_i st (fun a st => nx ls (.int (a * b) :: st) m))
  | .iand => p_i st (fun b st => p_i st (fun a st => nx ls (.int (a &&& b) :: st) m))
  | .ior => p_i st (fun b st => p_i st (fun a st => nx ls (.int (a ||| b) :: st) m))
  | .ixor => p_i st (fun b st => p_i st (fun a st => nx ls (.int (a ^^^ b) :: st) m))
  | .idiv => p_i st (fun b st => p_i st (fun a st => ¬ b = 0 ∧ nx ls (.int (a / b) :: st) m))
  | .irem => p_i st (fun b st => p_i st (fun a st => ¬ b = 0 ∧ nx ls (.int (a - a / b * b) :: st) m))
  | .ishl => p_i st (fun b st => p_i st (fun a st => nx ls (.int (a <<< (b &&& 31)) :: st) m))
  | .ishr => p_i st (fun b st => p_i st (fun a st => nx ls (.int (a >>> (b &&& 31)) :: st) m))
  | .ineg => p_i st (fun a st => nx ls (.int (-a) :: st) m)
  | .ladd => p_l st (fun b st => p_l st (fun a st => nx ls (.long (a + b) :: st) m))
  | .lsub => p_l st (fun b st => p_l st (fun a st => nx ls (.long (a - b) :: st) m))
  | .lmul => p_l st (fun b st => p_l st (fun a st => nx ls (.long (a * b) :: st) m))
  | .land => p_l st (fun b st => p_l st (fun a st => nx ls (.long (a &&& b) :: st) m))
  | .lor => p_l st (fun b st => p_l st (fun a st => nx ls (.long (a ||| b) :: st) m))
  | .ldiv => p_l st (fun b st => p_l st (fun a st => ¬ b = 0 ∧ nx ls (.long (a / b) :: st) m))
  | .lrem => p_l st (fun b st => p_l st (fun a st => ¬ b = 0 ∧ nx ls (.long (a - a / b * b) :: st) m))
  | .lneg => p_l st (fun a st => nx ls (.long (-a) :: st) m)
  | .lshl => p_i st (fun b st => p_l st (fun a st => nx ls (.long (a <<< (b.toInt64 &&& 63)) :: st) m))
  | .lshr => p_i st (fun b st => p_l st (fun a st => nx ls (.long (a >>> (b.toInt64 &&& 63)) :: st) m))
  | .lcmp => p_l st (fun b st => p_l st (fun a st => nx ls (.int (lg_cmp a b) :: st) m))
  | .i2l => p_i st (fun a st => nx ls (.long a.toInt64 :: st) m)
  | .l2i => p_l st (fun a st => nx ls (.int a.toInt32 :: st) m)
  | .i2b => p_i st (fun a st => nx ls (.int a.toInt8.toInt32 :: st) m)
  | .i2s => p_i st (fun a st => nx ls (.int a.toInt16.toInt32 :: st) m)
  | .i2c => p_i st (fun a st => nx ls (.int (a.toUInt32 % 65536).toInt32 :: st) m)
  | .pop => p_i st (fun _ st => nx ls st m)
  | .dup => match st with
    | .int x :: st => nx ls (.int x :: .int x :: st) m
    | .ref x :: st => nx ls (.ref x :: .ref x :: st) m
    | _ => False
  | .dup2 => p_i st (fun b st => p_r st (fun a st => nx ls (.int b :: .ref a :: .int b :: .ref a :: st) m))
  | .goto t => jp t ls st m
  | .ifCond .eq t => p_i st (fun x st => (x = 0 → jp t ls st m) ∧ (¬ x = 0 → nx ls st m))
  | .ifCond .ne t => p_i st (fun x st => (x = 0 → nx ls st m) ∧ (¬ x = 0 → jp t ls st m))
  | .ifCond .lt t => p_i st (fun x st => (x < 0 → jp t ls st m) ∧ (¬ x < 0 → nx ls st m))
  | .ifCond .ge t => p_i st (fun x st => (0 ≤ x → jp t ls st m) ∧ (¬ 0 ≤ x → nx ls st m))
  | .ifCond .gt t => p_i st (fun x st => (0 < x → jp t ls st m) ∧ (¬ 0 < x → nx ls st m))
  | .ifCond .le t => p_i st (fun x st => (x ≤ 0 → jp t ls st m) ∧ (¬ x ≤ 0 → nx ls st m))
  | .if_icmp .eq t => p_i st (fun y st => p_i st (fun x st => (x = y → jp t ls st m) ∧ (¬ x = y → nx ls st m)))
  | .if_icmp .ne t => p_i st (fun y st => p_i st (fun x st => (x = y → nx ls st m) ∧ (¬ x = y → jp t ls st m)))
  | .if_icmp .lt t => p_i st (fun y st => p_i st (fun x st => (x < y → jp t ls st m) ∧ (¬ x < y → nx ls st m)))
  | .if_icmp .ge t => p_i st (fun y st => p_i st (fun x st => (y ≤ x → jp t ls st m) ∧ (¬ y ≤ x → nx ls st m)))
  | .if_icmp .gt t => p_i st (fun y st => p_i st (fun x st => (y < x → jp t ls st m) ∧ (¬ y < x → nx ls st m)))
  | .if_icmp .le t => p_i st (fun y st => p_i st (fun x st => (x ≤ y → jp t ls st m) ∧ (¬ x ≤ y → nx ls st m)))
  | .tableswitch d lo _ ts => p_i st (fun x st => swt x (fun t => jp t ls st m) d lo ts.toList)
  | .getfield f => p_r st (fun k st => (sh k).1 = f / 32 + 3 ∧ nx ls (.int (m.1 k (f % 32)) :: st) m)
  | .instanceof f => p_r st (fun k st => (sh k).1 = f / 32 + 3 ∧ nx ls (.long (m.2 k (f % 32)) :: st) m)
  | .checkcast f => p_r st (fun k st => (sh k).1 = f / 32 + 3 ∧ nx ls (.ref (rt k (f % 32)) :: st) m)
  | .putfield f => p_i st (fun v st => p_r st (fun k st => (sh k).1 = f / 32 + 3 ∧ nx ls st (xa m k (upd (m.1 k) (f % 32) v))))
  | .putstatic f => p_i st (fun v st => p_r st (fun k st => (sh k).1 = f / 32 + 3 ∧ (v = 0 ∨ v = 1) ∧ nx ls st (xa m k (upd (m.1 k) (f % 32) v))))
  | .anewarray f => p_l st (fun v st => p_r st (fun k st => (sh k).1 = f / 32 + 3 ∧ nx ls st (xb m k (vp_updL (m.2 k) (f % 32) v))))
  | .ldc_w _ => p_r st (fun k st => (sh k).1 = 50 ∧ nx ls (.ref (k + 10) :: st) m)
  | .ldc _ => p_r st (fun k st => (sh k).1 = 50 ∧ nx ls (.int 0 :: st) m)
  | .iaload => p_i st (fun i st => p_r st (fun k st => (sh k).1 = 0 ∧ vp_in i (sh k).2 ∧ nx ls (.int (m.1 k i.toNatClampNeg) :: st) m))
  | .baload => p_i st (fun i st => p_r st (fun k st => (sh k).1 = 1 ∧ vp_in i (sh k).2 ∧ nx ls (.int (m.1 k i.toNatClampNeg) :: st) m))
  | .daload => p_i st (fun i st => p_r st (fun k st => (sh k).1 = 2 ∧ vp_in i (sh k).2 ∧ nx ls (.int (m.1 k i.toNatClampNeg) :: st) m))
  | .aaload => p_i st (fun i st => p_r st (fun k st => (sh k).1 = 52 ∧ vp_in i (sh k).2 ∧ nx ls (.int (xc k i.toNatClampNeg) :: st) m))
  | .caload => p_i st (fun i st => p_r st (fun k st => (sh k).1 = 51 ∧ vp_in i (sh k).2 ∧ nx ls (.int (xc k i.toNatClampNeg) :: st) m))
  | .iastore => p_i st (fun v st => p_i st (fun i st => p_r st (fun k st => (sh k).1 = 0 ∧ vp_in i (sh k).2 ∧ nx ls st (xa m k (upd (m.1 k) i.toNatClampNeg v)))))
  | .bastore => p_i st (fun v st => p_i st (fun i st => p_r st (fun k st => (sh k).1 = 1 ∧ vp_in i (sh k).2 ∧ nx ls st (xa m k (upd (m.1 k) i.toNatClampNeg v.toInt8.toInt32)))))
  | .dastore => p_i st (fun v st => p_i st (fun i st => p_r st (fun k st => (sh k).1 = 2 ∧ vp_in i (sh k).2 ∧ (v = 0 ∨ v = 1) ∧ nx ls st (xa m k (upd (m.1 k) i.toNatClampNeg v)))))
  | .arraylength => p_r st (fun k st => (sh k).1 = 0 ∧ nx ls (.int (Int32.ofNat (sh k).2) :: st) m)
  | .castore => p_r st (fun k st => (sh k).1 = 51 ∧ nx ls (.int (Int32.ofNat (sh k).2) :: st) m)
  | .fadd => p_i st (fun b st => p_i st (fun a st => lt4 st ∧ nx ls (.int (if a < b then b else a) :: st) m))
  | .fsub => p_i st (fun b st => p_i st (fun a st => lt4 st ∧ nx ls (.int (if b < a then b else a) :: st) m))
  | .nop => p_i st (fun n st => p_i st (fun dp st => p_r st (fun b st => p_i st (fun sp st => p_r st (fun a st => lt4 st ∧ (sh a).1 = 0 ∧ (sh b).1 = 0 ∧ ¬ sp < 0 ∧ ¬ dp < 0 ∧ ¬ n < 0 ∧ sp.toNatClampNeg + n.toNatClampNeg ≤ (sh a).2 ∧ dp.toNatClampNeg + n.toNatClampNeg ≤ (sh b).2 ∧ nx ls st (xa m b (va_cpy (m.1 a) (m.1 b) sp.toNatClampNeg dp.toNatClampNeg n.toNatClampNeg)))))))
  | .invokestatic q => q / 64 % 10 ≤ st.length ∧ lt4 (st.drop (q / 64 % 10)) ∧ T (q / 640) ((st.take (q / 64 % 10)).reverse) m (fun r m' => nx ls (r.toList ++ st.drop (q / 64 % 10)) m')
  | .invokevirtual q => q / 64 % 10 ≤ st.length ∧ lt4 (st.drop (q / 64 % 10)) ∧ p_r ((st.take (q / 64 % 10)).reverse) (fun k _ => (sh k).1 = q % 64) ∧ T (q / 640) ((st.take (q / 64 % 10)).reverse) m (fun r m' => nx ls (r.toList ++ st.drop (q / 64 % 10)) m')
  | .ireturn => match st with
    | [.int v] => nrw rt0 v ∧ Q (some (.int v)) m
    | _ => False
  | .lreturn => match st with
    | [.long v] => Q (some (.long v)) m
    | _ => False
  | .areturn => match st with
    | [.ref v] => Q (some (.ref v)) m
    | _ => False
  | .return_ => match st with
    | [] => Q none m
    | _ => False
  | _ => False
theorem okS : (∀ (v : Value) (l : List Value), okst (v :: l) 0 = True) ∧ (∀ (x : Int32) (v : Value) (l : List Value), okst (.int x :: v :: l) 1 = True) ∧ (∀ (x : Nat) (v : Value) (l : List Value), okst (.ref x :: v :: l) 1 = True) ∧ (∀ (v : Value) (l : List Value), okst (.null :: v :: l) 1 = True) ∧ (∀ (v : Value) (l : List Value) (n : Nat), okst (v :: l) (n + 2) = okst l (n + 1)) := ⟨fun _ _ => rfl, fun _ _ _ => rfl, fun _ _ _ => rfl, fun _ _ => rfl, fun v l n => by cases v <;> rfl⟩
theorem lt4S : (∀ st, lt4 st = (wt st ≤ 8)) ∧ wt [] = 0 ∧ (∀ x l, wt (.int x :: l) = 1 + wt l) ∧ (∀ x l, wt (.ref x :: l) = 1 + wt l) ∧ (∀ x l, wt (.long x :: l) = 2 + wt l) := ⟨fun _ => rfl, rfl, fun _ _ => rfl, fun _ _ => rfl, fun _ _ => rfl⟩
abbrev xI : Type := Nat × Instr
/-- a row of instructions: K: at a cut; to: 0 the next one is done, t + 1: all are passed over till the place t -/
def wp (K : Nat → List Value → List Value → xM → Prop) (cut : Nat → Bool) (Q : xQt) (rt0 : Option FieldType) (T : Nat → List Value → xM → xQt → Prop) : Option Nat → List xI → List Value → List Value → xM → Prop
  | _, [], _, _, _ => False
  | none, i :: is, ls, st, m => if cut i.1 = true then K i.1 ls st m else ex (fun ls st m => wp K cut Q rt0 T none is ls st m) (fun t ls st m => if t.toNat ≤ i.1 then K t.toNat ls st m else wp K cut Q rt0 T (some t.toNat) is ls st m) Q rt0 T i.2 ls st m
  | some t, i :: is, ls, st, m => if i.1 = t then (if cut i.1 = true then K i.1 ls st m else ex (fun ls st m => wp K cut Q rt0 T none is ls st m) (fun t ls st m => if t.toNat ≤ i.1 then K t.toNat ls st m else wp K cut Q rt0 T (some t.toNat) is ls st m) Q rt0 T i.2 ls st m) else wp K cut Q rt0 T (some t) is ls st m
/-! ===== EQUATIONS, by program ===== -/
def wJ (K : Nat → List Value → List Value → xM → Prop) (cut : Nat → Bool) (Q : xQt) (rt0 : Option FieldType) (T : Nat → List Value → xM → xQt → Prop) (pc : Nat) (is : List xI) (t : Int) (ls st : List Value) (m : xM) : Prop := if t.toNat ≤ pc then K t.toNat ls st m else wp K cut Q rt0 T (some t.toNat) is ls st m
def wC (K : Nat → List Value → List Value → xM → Prop) (cut : Nat → Bool) (Q : xQt) (rt0 : Option FieldType) (T : Nat → List Value → xM → xQt → Prop) (is : List xI) (ls st : List Value) : xQt := fun r m => wp K cut Q rt0 T none is ls (r.toList ++ st) m
def wI (K : Nat → List Value → List Value → xM → Prop) (cut : Nat → Bool) (Q : xQt) (rt0 : Option FieldType) (T : Nat → List Value → xM → xQt → Prop) (is : List xI) (v : Option Value) (ls st : List Value) (m : xM) : Prop := oI v (fun x => wp K cut Q rt0 T none is ls (.int x :: st) m)
def wL (K : Nat → List Value → List Value → xM → Prop) (cut : Nat → Bool) (Q : xQt) (rt0 : Option FieldType) (T : Nat → List Value → xM → xQt → Prop) (is : List xI) (v : Option Value) (ls st : List Value) (m : xM) : Prop := oL v (fun x => wp K cut Q rt0 T none is ls (.long x :: st) m)
def wR (K : Nat → List Value → List Value → xM → Prop) (cut : Nat → Bool) (Q : xQt) (rt0 : Option FieldType) (T : Nat → List Value → xM → xQt → Prop) (is : List xI) (v : Option Value) (ls st : List Value) (m : xM) : Prop := oR v (fun x => wp K cut Q rt0 T none is ls (.ref x :: st) m)
def wU (K : Nat → List Value → List Value → xM → Prop) (cut : Nat → Bool) (Q : xQt) (rt0 : Option FieldType) (T : Nat → List Value → xM → xQt → Prop) (is : List xI) (v : Option Value) (n : Int) (i : Nat) (ls st : List Value) (m : xM) : Prop := oI v (fun x => wp K cut Q rt0 T none is (ls.set i (.int (x + Int32.ofInt n))) st m)
def wS (K : Nat → List Value → List Value → xM → Prop) (cut : Nat → Bool) (Q : xQt) (rt0 : Option FieldType) (T : Nat → List Value → xM → xQt → Prop) (pc : Nat) (is : List xI) (x : Int32) (d lo : Int) (ts : List Int) (ls st : List Value) (m : xM) : Prop := swt x (fun t => wJ K cut Q rt0 T pc is t ls st m) d lo ts
theorem wp_iinc : ∀ (K : Nat → List Value → List Value → xM → Prop) (cut : Nat → Bool) (Q : xQt) (rt0 : Option FieldType) (T : Nat → List Value → xM → xQt → Prop) (pc : Nat) (is : List xI) (ls st : List Value) (m : xM) (i1 : Nat) (n : Int), wp K cut Q rt0 T none ((pc, .iinc i1 n) :: is) ls (st) m = if cut pc = true then K pc ls (st) m else (okst ls i1 ∧ wU K cut Q rt0 T is (ls[i1]?) n i1 ls st m) := by
  intro K cut Q rt0 T pc is ls st m i1 n
  show (if cut pc = true then _ else oI ls[i1]? _) = _
  split
  · rfl
  · unfold wU
    unfold oI
    split <;> simp
theorem wpE0 : (∀ (K : Nat → List Value → List Value → xM → Prop) (cut : Nat → Bool) (Q : xQt) (rt0 : Option FieldType) (T : Nat → List Value → xM → xQt → Prop) (pc : Nat) (is : List xI) (ls st : List Value) (m : xM) (n : Int), wp K cut Q rt0 T none ((pc, .iconst n) :: is) ls (st) m = if cut pc = true then K pc ls (st) m else (wp K cut Q rt0 T none is ls (.int (Int32.ofInt n) :: st) m)) ∧
  (∀ (K : Nat → List Value → List Value → xM → Prop) (cut : Nat → Bool) (Q : xQt) (rt0 : Option FieldType) (T : Nat → List Value → xM → xQt → Prop) (pc : Nat) (is : List xI) (ls st : List Value) (m : xM) (n : Int), wp K cut Q rt0 T none ((pc, .goto_w n) :: is) ls (st) m = if cut pc = true then K pc ls (st) m else (wp K cut Q rt0 T none is ls (.long (Int64.ofInt n) :: st) m)) ∧
  (∀ (K : Nat → List Value → List Value → xM → Prop) (cut : Nat → Bool) (Q : xQt) (rt0 : Option FieldType) (T : Nat → List Value → xM → xQt → Prop) (pc : Nat) (is : List xI) (ls st : List Value) (m : xM) (k : Nat), wp K cut Q rt0 T none ((pc, .getstatic k) :: is) ls (st) m = if cut pc = true then K pc ls (st) m else (wp K cut Q rt0 T none is ls (.ref k :: st) m)) ∧
  (∀ (K : Nat → List Value → List Value → xM → Prop) (cut : Nat → Bool) (Q : xQt) (rt0 : Option FieldType) (T : Nat → List Value → xM → xQt → Prop) (pc : Nat) (is : List xI) (ls st : List Value) (m : xM), wp K cut Q rt0 T none ((pc, .aconst_null) :: is) ls (st) m = if cut pc = true then K pc ls (st) m else (wp K cut Q rt0 T none is ls (.null :: st) m)) ∧
  (∀ (K : Nat → List Value → List Value → xM → Prop) (cut : Nat → Bool) (Q : xQt) (rt0 : Option FieldType) (T : Nat → List Value → xM → xQt → Prop) (pc : Nat) (is : List xI) (ls st : List Value) (m : xM) (i1 : Nat), wp K cut Q rt0 T none ((pc, .iload i1) :: is) ls (st) m = if cut pc = true then K pc ls (st) m else (wI K cut Q rt0 T is (ls[i1]?) ls st m)) ∧
  (∀ (K : Nat → List Value → List Value → xM → Prop) (cut : Nat → Bool) (Q : xQt) (rt0 : Option FieldType) (T : Nat → List Value → xM → xQt → Prop) (pc : Nat) (is : List xI) (ls st : List Value) (m : xM) (i1 : Nat), wp K cut Q rt0 T none ((pc, .lload i1) :: is) ls (st) m = if cut pc = true then K pc ls (st) m else (wL K cut Q rt0 T is (ls[i1]?) ls st m)) ∧
  (∀ (K : Nat → List Value → List Value → xM → Prop) (cut : Nat → Bool) (Q : xQt) (rt0 : Option FieldType) (T : Nat → List Value → xM → xQt → Prop) (pc : Nat) (is : List xI) (ls st : List Value) (m : xM) (i1 : Nat), wp K cut Q rt0 T none ((pc, .aload i1) :: is) ls (st) m = if cut pc = true then K pc ls (st) m else (wR K cut Q rt0 T is (ls[i1]?) ls st m)) ∧
  (∀ (K : Nat → List Value → List Value → xM → Prop) (cut : Nat → Bool) (Q : xQt) (rt0 : Option FieldType) (T : Nat → List Value → xM → xQt → Prop) (pc : Nat) (is : List xI) (ls st : List Value) (m : xM) (i1 : Nat) (x : Int32), wp K cut Q rt0 T none ((pc, .istore i1) :: is) ls (.int x :: st) m = if cut pc = true then K pc ls (.int x :: st) m else (okst ls i1 ∧ wp K cut Q rt0 T none is (ls.set i1 (.int x)) st m)) ∧
  (∀ (K : Nat → List Value → List Value → xM → Prop) (cut : Nat → Bool) (Q : xQt) (rt0 : Option FieldType) (T : Nat → List Value → xM → xQt → Prop) (pc : Nat) (is : List xI) (ls st : List Value) (m : xM) (i1 : Nat) (x : Int64), wp K cut Q rt0 T none ((pc, .lstore i1) :: is) ls (.long x :: st) m = if cut pc = true then K pc ls (.long x :: st) m else (okst ls i1 ∧ i1 + 1 < ls.length ∧ wp K cut Q rt0 T none is ((ls.set i1 (.long x)).set (i1 + 1) .null) st m)) ∧
  (∀ (K : Nat → List Value → List Value → xM → Prop) (cut : Nat → Bool) (Q : xQt) (rt0 : Option FieldType) (T : Nat → List Value → xM → xQt → Prop) (pc : Nat) (is : List xI) (ls st : List Value) (m : xM) (i1 : Nat) (x : Nat), wp K cut Q rt0 T none ((pc, .astore i1) :: is) ls (.ref x :: st) m = if cut pc = true then K pc ls (.ref x :: st) m else (okst ls i1 ∧ wp K cut Q rt0 T none is (ls.set i1 (.ref x)) st m)) ∧
  (∀ (K : Nat → List Value → List Value → xM → Prop) (cut : Nat → Bool) (Q : xQt) (rt0 : Option FieldType) (T : Nat → List Value → xM → xQt → Prop) (pc : Nat) (is : List xI) (ls st : List Value) (m : xM) (b : Int32) (a : Int32), wp K cut Q rt0 T none ((pc, .iadd) :: is) ls (.int b :: .int a :: st) m = if cut pc = true then K pc ls (.int b :: .int a :: st) m else (wp K cut Q rt0 T none is ls (.int (a + b) :: st) m)) ∧
  (∀ (K : Nat → List Value → List Value → xM → Prop) (cut : Nat → Bool) (Q : xQt) (rt0 : Option FieldType) (T : Nat → List Value → xM → xQt → Prop) (pc : Nat) (is : List xI) (ls st : List Value) (m : xM) (b : Int32) (a : Int32), wp K cut Q rt0 T none ((pc, .isub) :: is) ls (.int b :: .int a :: st) m = if cut pc = true then K pc ls (.int b :: .int a :: st) m else (wp K cut Q rt0 T none is ls (.int (a - b) :: st) m)) ∧
  (∀ (K : Nat → List Value → List Value → xM → Prop) (cut : Nat → Bool) (Q : xQt) (rt0 : Option FieldType) (T : Nat → List Value → xM → xQt → Prop) (pc : Nat) (is : List xI) (ls st : List Value) (m : xM) (b : Int32) (a : Int32), wp K cut Q rt0 T none ((pc, .imul) :: is) ls (.int b :: .int a :: st) m = if cut pc = true then K pc ls (.int b :: .int a :: st) m else (wp K cut Q rt0 T none is ls (.int (a * b) :: st) m)) ∧
  (∀ (K : Nat → List Value → List Value → xM → Prop) (cut : Nat → Bool) (Q : xQt) (rt0 : Option FieldType) (T : Nat → List Value → xM → xQt → Prop) (pc : Nat) (is : List xI) (ls st : List Value) (m : xM) (b : Int32) (a : Int32), wp K cut Q rt0 T none ((pc, .iand) :: is) ls (.int b :: .int a :: st) m = if cut pc = true then K pc ls (.int b :: .int a :: st) m else (wp K cut Q rt0 T none is ls (.int (a &&& b) :: st) m)) := by
  refine ⟨?_, ?_, ?_, ?_, ?_, ?_, ?_, ?_, ?_, ?_, ?_, ?_, ?_, ?_⟩ <;> intros <;> rfl
theorem wpE1 : (∀ (K : Nat → List Value → List Value → xM → Prop) (cut : Nat → Bool) (Q : xQt) (rt0 : Option FieldType) (T : Nat → List Value → xM → xQt → Prop) (pc : Nat) (is : List xI) (ls st : List Value) (m : xM) (b : Int32) (a : Int32), wp K cut Q rt0 T none ((pc, .ior) :: is) ls (.int b :: .int a :: st) m = if cut pc = true then K pc ls (.int b :: .int a :: st) m else (wp K cut Q rt0 T none is ls (.int (a ||| b) :: st) m)) ∧
  (∀ (K : Nat → List Value → List Value → xM → Prop) (cut : Nat → Bool) (Q : xQt) (rt0 : Option FieldType) (T : Nat → List Value → xM → xQt → Prop) (pc : Nat) (is : List xI) (ls st : List Value) (m : xM) (b : Int32) (a : Int32), wp K cut Q rt0 T none ((pc, .ixor) :: is) ls (.int b :: .int a :: st) m = if cut pc = true then K pc ls (.int b :: .int a :: st) m else (wp K cut Q rt0 T none is ls (.int (a ^^^ b) :: st) m)) ∧
  (∀ (K : Nat → List Value → List Value → xM → Prop) (cut : Nat → Bool) (Q : xQt) (rt0 : Option FieldType) (T : Nat → List Value → xM → xQt → Prop) (pc : Nat) (is : List xI) (ls st : List Value) (m : xM) (b : Int32) (a : Int32), wp K cut Q rt0 T none ((pc, .idiv) :: is) ls (.int b :: .int a :: st) m = if cut pc = true then K pc ls (.int b :: .int a :: st) m else (¬ b = 0 ∧ wp K cut Q rt0 T none is ls (.int (a / b) :: st) m)) ∧
  (∀ (K : Nat → List Value → List Value → xM → Prop) (cut : Nat → Bool) (Q : xQt) (rt0 : Option FieldType) (T : Nat → List Value → xM → xQt → Prop) (pc : Nat) (is : List xI) (ls st : List Value) (m : xM) (b : Int32) (a : Int32), wp K cut Q rt0 T none ((pc, .irem) :: is) ls (.int b :: .int a :: st) m = if cut pc = true then K pc ls (.int b :: .int a :: st) m else (¬ b = 0 ∧ wp K cut Q rt0 T none is ls (.int (a - a / b * b) :: st) m)) ∧
  (∀ (K : Nat → List Value → List Value → xM → Prop) (cut : Nat → Bool) (Q : xQt) (rt0 : Option FieldType) (T : Nat → List Value → xM → xQt → Prop) (pc : Nat) (is : List xI) (ls st : List Value) (m : xM) (b : Int32) (a : Int32), wp K cut Q rt0 T none ((pc, .ishl) :: is) ls (.int b :: .int a :: st) m = if cut pc = true then K pc ls (.int b :: .int a :: st) m else (wp K cut Q rt0 T none is ls (.int (a <<< (b &&& 31)) :: st) m)) ∧
  (∀ (K : Nat → List Value → List Value → xM → Prop) (cut : Nat → Bool) (Q : xQt) (rt0 : Option FieldType) (T : Nat → List Value → xM → xQt → Prop) (pc : Nat) (is : List xI) (ls st : List Value) (m : xM) (b : Int32) (a : Int32), wp K cut Q rt0 T none ((pc, .ishr) :: is) ls (.int b :: .int a :: st) m = if cut pc = true then K pc ls (.int b :: .int a :: st) m else (wp K cut Q rt0 T none is ls (.int (a >>> (b &&& 31)) :: st) m)) ∧
  (∀ (K : Nat → List Value → List Value → xM → Prop) (cut : Nat → Bool) (Q : xQt) (rt0 : Option FieldType) (T : Nat → List Value → xM → xQt → Prop) (pc : Nat) (is : List xI) (ls st : List Value) (m : xM) (a : Int32), wp K cut Q rt0 T none ((pc, .ineg) :: is) ls (.int a :: st) m = if cut pc = true then K pc ls (.int a :: st) m else (wp K cut Q rt0 T none is ls (.int (-a) :: st) m)) ∧
  (∀ (K : Nat → List Value → List Value → xM → Prop) (cut : Nat → Bool) (Q : xQt) (rt0 : Option FieldType) (T : Nat → List Value → xM → xQt → Prop) (pc : Nat) (is : List xI) (ls st : List Value) (m : xM) (b : Int64) (a : Int64), wp K cut Q rt0 T none ((pc, .ladd) :: is) ls (.long b :: .long a :: st) m = if cut pc = true then K pc ls (.long b :: .long a :: st) m else (wp K cut Q rt0 T none is ls (.long (a + b) :: st) m)) ∧
  (∀ (K : Nat → List Value → List Value → xM → Prop) (cut : Nat → Bool) (Q : xQt) (rt0 : Option FieldType) (T : Nat → List Value → xM → xQt → Prop) (pc : Nat) (is : List xI) (ls st : List Value) (m : xM) (b : Int64) (a : Int64), wp K cut Q rt0 T none ((pc, .lsub) :: is) ls (.long b :: .long a :: st) m = if cut pc = true then K pc ls (.long b :: .long a :: st) m else (wp K cut Q rt0 T none is ls (.long (a - b) :: st) m)) ∧
  (∀ (K : Nat → List Value → List Value → xM → Prop) (cut : Nat → Bool) (Q : xQt) (rt0 : Option FieldType) (T : Nat → List Value → xM → xQt → Prop) (pc : Nat) (is : List xI) (ls st : List Value) (m : xM) (b : Int64) (a : Int64), wp K cut Q rt0 T none ((pc, .lmul) :: is) ls (.long b :: .long a :: st) m = if cut pc = true then K pc ls (.long b :: .long a :: st) m else (wp K cut Q rt0 T none is ls (.long (a * b) :: st) m)) ∧
  (∀ (K : Nat → List Value → List Value → xM → Prop) (cut : Nat → Bool) (Q : xQt) (rt0 : Option FieldType) (T : Nat → List Value → xM → xQt → Prop) (pc : Nat) (is : List xI) (ls st : List Value) (m : xM) (b : Int64) (a : Int64), wp K cut Q rt0 T none ((pc, .land) :: is) ls (.long b :: .long a :: st) m = if cut pc = true then K pc ls (.long b :: .long a :: st) m else (wp K cut Q rt0 T none is ls (.long (a &&& b) :: st) m)) ∧
  (∀ (K : Nat → List Value → List Value → xM → Prop) (cut : Nat → Bool) (Q : xQt) (rt0 : Option FieldType) (T : Nat → List Value → xM → xQt → Prop) (pc : Nat) (is : List xI) (ls st : List Value) (m : xM) (b : Int64) (a : Int64), wp K cut Q rt0 T none ((pc, .lor) :: is) ls (.long b :: .long a :: st) m = if cut pc = true then K pc ls (.long b :: .long a :: st) m else (wp K cut Q rt0 T none is ls (.long (a ||| b) :: st) m)) ∧
  (∀ (K : Nat → List Value → List Value → xM → Prop) (cut : Nat → Bool) (Q : xQt) (rt0 : Option FieldType) (T : Nat → List Value → xM → xQt → Prop) (pc : Nat) (is : List xI) (ls st : List Value) (m : xM) (b : Int64) (a : Int64), wp K cut Q rt0 T none ((pc, .ldiv) :: is) ls (.long b :: .long a :: st) m = if cut pc = true then K pc ls (.long b :: .long a :: st) m else (¬ b = 0 ∧ wp K cut Q rt0 T none is ls (.long (a / b) :: st) m)) ∧
  (∀ (K : Nat → List Value → List Value → xM → Prop) (cut : Nat → Bool) (Q : xQt) (rt0 : Option FieldType) (T : Nat → List Value → xM → xQt → Prop) (pc : Nat) (is : List xI) (ls st : List Value) (m : xM) (b : Int64) (a : Int64), wp K cut Q rt0 T none ((pc, .lrem) :: is) ls (.long b :: .long a :: st) m = if cut pc = true then K pc ls (.long b :: .long a :: st) m else (¬ b = 0 ∧ wp K cut Q rt0 T none is ls (.long (a - a / b * b) :: st) m)) := by
  refine ⟨?_, ?_, ?_, ?_, ?_, ?_, ?_, ?_, ?_, ?_, ?_, ?_, ?_, ?_⟩ <;> intros <;> rfl
theorem wpE2 : (∀ (K : Nat → List Value → List Value → xM → Prop) (cut : Nat → Bool) (Q : xQt) (rt0 : Option FieldType) (T : Nat → List Value → xM → xQt → Prop) (pc : Nat) (is : List xI) (ls st : List Value) (m : xM) (a : Int64), wp K cut Q rt0 T none ((pc, .lneg) :: is) ls (.long a :: st) m = if cut pc = true then K pc ls (.long a :: st) m else (wp K cut Q rt0 T none is ls (.long (-a) :: st) m)) ∧
  (∀ (K : Nat → List Value → List Value → xM → Prop) (cut : Nat → Bool) (Q : xQt) (rt0 : Option FieldType) (T : Nat → List Value → xM → xQt → Prop) (pc : Nat) (is : List xI) (ls st : List Value) (m : xM) (b : Int32) (a : Int64), wp K cut Q rt0 T none ((pc, .lshl) :: is) ls (.int b :: .long a :: st) m = if cut pc = true then K pc ls (.int b :: .long a :: st) m else (wp K cut Q rt0 T none is ls (.long (a <<< (b.toInt64 &&& 63)) :: st) m)) ∧
  (∀ (K : Nat → List Value → List Value → xM → Prop) (cut : Nat → Bool) (Q : xQt) (rt0 : Option FieldType) (T : Nat → List Value → xM → xQt → Prop) (pc : Nat) (is : List xI) (ls st : List Value) (m : xM) (b : Int32) (a : Int64), wp K cut Q rt0 T none ((pc, .lshr) :: is) ls (.int b :: .long a :: st) m = if cut pc = true then K pc ls (.int b :: .long a :: st) m else (wp K cut Q rt0 T none is ls (.long (a >>> (b.toInt64 &&& 63)) :: st) m)) ∧
  (∀ (K : Nat → List Value → List Value → xM → Prop) (cut : Nat → Bool) (Q : xQt) (rt0 : Option FieldType) (T : Nat → List Value → xM → xQt → Prop) (pc : Nat) (is : List xI) (ls st : List Value) (m : xM) (b : Int64) (a : Int64), wp K cut Q rt0 T none ((pc, .lcmp) :: is) ls (.long b :: .long a :: st) m = if cut pc = true then K pc ls (.long b :: .long a :: st) m else (wp K cut Q rt0 T none is ls (.int (lg_cmp a b) :: st) m)) ∧
  (∀ (K : Nat → List Value → List Value → xM → Prop) (cut : Nat → Bool) (Q : xQt) (rt0 : Option FieldType) (T : Nat → List Value → xM → xQt → Prop) (pc : Nat) (is : List xI) (ls st : List Value) (m : xM) (a : Int32), wp K cut Q rt0 T none ((pc, .i2l) :: is) ls (.int a :: st) m = if cut pc = true then K pc ls (.int a :: st) m else (wp K cut Q rt0 T none is ls (.long a.toInt64 :: st) m)) ∧
  (∀ (K : Nat → List Value → List Value → xM → Prop) (cut : Nat → Bool) (Q : xQt) (rt0 : Option FieldType) (T : Nat → List Value → xM → xQt → Prop) (pc : Nat) (is : List xI) (ls st : List Value) (m : xM) (a : Int64), wp K cut Q rt0 T none ((pc, .l2i) :: is) ls (.long a :: st) m = if cut pc = true then K pc ls (.long a :: st) m else (wp K cut Q rt0 T none is ls (.int a.toInt32 :: st) m)) ∧
  (∀ (K : Nat → List Value → List Value → xM → Prop) (cut : Nat → Bool) (Q : xQt) (rt0 : Option FieldType) (T : Nat → List Value → xM → xQt → Prop) (pc : Nat) (is : List xI) (ls st : List Value) (m : xM) (a : Int32), wp K cut Q rt0 T none ((pc, .i2b) :: is) ls (.int a :: st) m = if cut pc = true then K pc ls (.int a :: st) m else (wp K cut Q rt0 T none is ls (.int a.toInt8.toInt32 :: st) m)) ∧
  (∀ (K : Nat → List Value → List Value → xM → Prop) (cut : Nat → Bool) (Q : xQt) (rt0 : Option FieldType) (T : Nat → List Value → xM → xQt → Prop) (pc : Nat) (is : List xI) (ls st : List Value) (m : xM) (a : Int32), wp K cut Q rt0 T none ((pc, .i2s) :: is) ls (.int a :: st) m = if cut pc = true then K pc ls (.int a :: st) m else (wp K cut Q rt0 T none is ls (.int a.toInt16.toInt32 :: st) m)) ∧
  (∀ (K : Nat → List Value → List Value → xM → Prop) (cut : Nat → Bool) (Q : xQt) (rt0 : Option FieldType) (T : Nat → List Value → xM → xQt → Prop) (pc : Nat) (is : List xI) (ls st : List Value) (m : xM) (a : Int32), wp K cut Q rt0 T none ((pc, .i2c) :: is) ls (.int a :: st) m = if cut pc = true then K pc ls (.int a :: st) m else (wp K cut Q rt0 T none is ls (.int (a.toUInt32 % 65536).toInt32 :: st) m)) ∧
  (∀ (K : Nat → List Value → List Value → xM → Prop) (cut : Nat → Bool) (Q : xQt) (rt0 : Option FieldType) (T : Nat → List Value → xM → xQt → Prop) (pc : Nat) (is : List xI) (ls st : List Value) (m : xM) (u8 : Int32), wp K cut Q rt0 T none ((pc, .pop) :: is) ls (.int u8 :: st) m = if cut pc = true then K pc ls (.int u8 :: st) m else (wp K cut Q rt0 T none is ls st m)) ∧
  (∀ (K : Nat → List Value → List Value → xM → Prop) (cut : Nat → Bool) (Q : xQt) (rt0 : Option FieldType) (T : Nat → List Value → xM → xQt → Prop) (pc : Nat) (is : List xI) (ls st : List Value) (m : xM) (b : Int32) (a : Nat), wp K cut Q rt0 T none ((pc, .dup2) :: is) ls (.int b :: .ref a :: st) m = if cut pc = true then K pc ls (.int b :: .ref a :: st) m else (wp K cut Q rt0 T none is ls (.int b :: .ref a :: .int b :: .ref a :: st) m)) ∧
  (∀ (K : Nat → List Value → List Value → xM → Prop) (cut : Nat → Bool) (Q : xQt) (rt0 : Option FieldType) (T : Nat → List Value → xM → xQt → Prop) (pc : Nat) (is : List xI) (ls st : List Value) (m : xM) (t : Int), wp K cut Q rt0 T none ((pc, .goto t) :: is) ls (st) m = if cut pc = true then K pc ls (st) m else (wJ K cut Q rt0 T pc is t ls st m)) ∧
  (∀ (K : Nat → List Value → List Value → xM → Prop) (cut : Nat → Bool) (Q : xQt) (rt0 : Option FieldType) (T : Nat → List Value → xM → xQt → Prop) (pc : Nat) (is : List xI) (ls st : List Value) (m : xM) (t : Int) (x : Int32), wp K cut Q rt0 T none ((pc, .ifCond .eq t) :: is) ls (.int x :: st) m = if cut pc = true then K pc ls (.int x :: st) m else ((x = 0 → wJ K cut Q rt0 T pc is t ls st m) ∧ (¬ x = 0 → wp K cut Q rt0 T none is ls st m))) ∧
  (∀ (K : Nat → List Value → List Value → xM → Prop) (cut : Nat → Bool) (Q : xQt) (rt0 : Option FieldType) (T : Nat → List Value → xM → xQt → Prop) (pc : Nat) (is : List xI) (ls st : List Value) (m : xM) (t : Int) (x : Int32), wp K cut Q rt0 T none ((pc, .ifCond .ne t) :: is) ls (.int x :: st) m = if cut pc = true then K pc ls (.int x :: st) m else ((x = 0 → wp K cut Q rt0 T none is ls st m) ∧ (¬ x = 0 → wJ K cut Q rt0 T pc is t ls st m))) := by
  refine ⟨?_, ?_, ?_, ?_, ?_, ?_, ?_, ?_, ?_, ?_, ?_, ?_, ?_, ?_⟩ <;> intros <;> rfl
theorem wpE3 : (∀ (K : Nat → List Value → List Value → xM → Prop) (cut : Nat → Bool) (Q : xQt) (rt0 : Option FieldType) (T : Nat → List Value → xM → xQt → Prop) (pc : Nat) (is : List xI) (ls st : List Value) (m : xM) (t : Int) (x : Int32), wp K cut Q rt0 T none ((pc, .ifCond .lt t) :: is) ls (.int x :: st) m = if cut pc = true then K pc ls (.int x :: st) m else ((x < 0 → wJ K cut Q rt0 T pc is t ls st m) ∧ (¬ x < 0 → wp K cut Q rt0 T none is ls st m))) ∧
  (∀ (K : Nat → List Value → List Value → xM → Prop) (cut : Nat → Bool) (Q : xQt) (rt0 : Option FieldType) (T : Nat → List Value → xM → xQt → Prop) (pc : Nat) (is : List xI) (ls st : List Value) (m : xM) (t : Int) (x : Int32), wp K cut Q rt0 T none ((pc, .ifCond .ge t) :: is) ls (.int x :: st) m = if cut pc = true then K pc ls (.int x :: st) m else ((0 ≤ x → wJ K cut Q rt0 T pc is t ls st m) ∧ (¬ 0 ≤ x → wp K cut Q rt0 T none is ls st m))) ∧
  (∀ (K : Nat → List Value → List Value → xM → Prop) (cut : Nat → Bool) (Q : xQt) (rt0 : Option FieldType) (T : Nat → List Value → xM → xQt → Prop) (pc : Nat) (is : List xI) (ls st : List Value) (m : xM) (t : Int) (x : Int32), wp K cut Q rt0 T none ((pc, .ifCond .gt t) :: is) ls (.int x :: st) m = if cut pc = true then K pc ls (.int x :: st) m else ((0 < x → wJ K cut Q rt0 T pc is t ls st m) ∧ (¬ 0 < x → wp K cut Q rt0 T none is ls st m))) ∧
  (∀ (K : Nat → List Value → List Value → xM → Prop) (cut : Nat → Bool) (Q : xQt) (rt0 : Option FieldType) (T : Nat → List Value → xM → xQt → Prop) (pc : Nat) (is : List xI) (ls st : List Value) (m : xM) (t : Int) (x : Int32), wp K cut Q rt0 T none ((pc, .ifCond .le t) :: is) ls (.int x :: st) m = if cut pc = true then K pc ls (.int x :: st) m else ((x ≤ 0 → wJ K cut Q rt0 T pc is t ls st m) ∧ (¬ x ≤ 0 → wp K cut Q rt0 T none is ls st m))) ∧
  (∀ (K : Nat → List Value → List Value → xM → Prop) (cut : Nat → Bool) (Q : xQt) (rt0 : Option FieldType) (T : Nat → List Value → xM → xQt → Prop) (pc : Nat) (is : List xI) (ls st : List Value) (m : xM) (t : Int) (y : Int32) (x : Int32), wp K cut Q rt0 T none ((pc, .if_icmp .eq t) :: is) ls (.int y :: .int x :: st) m = if cut pc = true then K pc ls (.int y :: .int x :: st) m else ((x = y → wJ K cut Q rt0 T pc is t ls st m) ∧ (¬ x = y → wp K cut Q rt0 T none is ls st m))) ∧
  (∀ (K : Nat → List Value → List Value → xM → Prop) (cut : Nat → Bool) (Q : xQt) (rt0 : Option FieldType) (T : Nat → List Value → xM → xQt → Prop) (pc : Nat) (is : List xI) (ls st : List Value) (m : xM) (t : Int) (y : Int32) (x : Int32), wp K cut Q rt0 T none ((pc, .if_icmp .ne t) :: is) ls (.int y :: .int x :: st) m = if cut pc = true then K pc ls (.int y :: .int x :: st) m else ((x = y → wp K cut Q rt0 T none is ls st m) ∧ (¬ x = y → wJ K cut Q rt0 T pc is t ls st m))) ∧
  (∀ (K : Nat → List Value → List Value → xM → Prop) (cut : Nat → Bool) (Q : xQt) (rt0 : Option FieldType) (T : Nat → List Value → xM → xQt → Prop) (pc : Nat) (is : List xI) (ls st : List Value) (m : xM) (t : Int) (y : Int32) (x : Int32), wp K cut Q rt0 T none ((pc, .if_icmp .lt t) :: is) ls (.int y :: .int x :: st) m = if cut pc = true then K pc ls (.int y :: .int x :: st) m else ((x < y → wJ K cut Q rt0 T pc is t ls st m) ∧ (¬ x < y → wp K cut Q rt0 T none is ls st m))) ∧
  (∀ (K : Nat → List Value → List Value → xM → Prop) (cut : Nat → Bool) (Q : xQt) (rt0 : Option FieldType) (T : Nat → List Value → xM → xQt → Prop) (pc : Nat) (is : List xI) (ls st : List Value) (m : xM) (t : Int) (y : Int32) (x : Int32), wp K cut Q rt0 T none ((pc, .if_icmp .ge t) :: is) ls (.int y :: .int x :: st) m = if cut pc = true then K pc ls (.int y :: .int x :: st) m else ((y ≤ x → wJ K cut Q rt0 T pc is t ls st m) ∧ (¬ y ≤ x → wp K cut Q rt0 T none is ls st m))) ∧
  (∀ (K : Nat → List Value → List Value → xM → Prop) (cut : Nat → Bool) (Q : xQt) (rt0 : Option FieldType) (T : Nat → List Value → xM → xQt → Prop) (pc : Nat) (is : List xI) (ls st : List Value) (m : xM) (t : Int) (y : Int32) (x : Int32), wp K cut Q rt0 T none ((pc, .if_icmp .gt t) :: is) ls (.int y :: .int x :: st) m = if cut pc = true then K pc ls (.int y :: .int x :: st) m else ((y < x → wJ K cut Q rt0 T pc is t ls st m) ∧ (¬ y < x → wp K cut Q rt0 T none is ls st m))) ∧
  (∀ (K : Nat → List Value → List Value → xM → Prop) (cut : Nat → Bool) (Q : xQt) (rt0 : Option FieldType) (T : Nat → List Value → xM → xQt → Prop) (pc : Nat) (is : List xI) (ls st : List Value) (m : xM) (t : Int) (y : Int32) (x : Int32), wp K cut Q rt0 T none ((pc, .if_icmp .le t) :: is) ls (.int y :: .int x :: st) m = if cut pc = true then K pc ls (.int y :: .int x :: st) m else ((x ≤ y → wJ K cut Q rt0 T pc is t ls st m) ∧ (¬ x ≤ y → wp K cut Q rt0 T none is ls st m))) ∧
  (∀ (K : Nat → List Value → List Value → xM → Prop) (cut : Nat → Bool) (Q : xQt) (rt0 : Option FieldType) (T : Nat → List Value → xM → xQt → Prop) (pc : Nat) (is : List xI) (ls st : List Value) (m : xM) (d : Int) (lo : Int) (u9 : Int) (ts : Array Int) (x : Int32), wp K cut Q rt0 T none ((pc, .tableswitch d lo u9 ts) :: is) ls (.int x :: st) m = if cut pc = true then K pc ls (.int x :: st) m else (wS K cut Q rt0 T pc is x d lo ts.toList ls st m)) ∧
  (∀ (K : Nat → List Value → List Value → xM → Prop) (cut : Nat → Bool) (Q : xQt) (rt0 : Option FieldType) (T : Nat → List Value → xM → xQt → Prop) (pc : Nat) (is : List xI) (ls st : List Value) (m : xM) (f : Nat) (k : Nat), wp K cut Q rt0 T none ((pc, .getfield f) :: is) ls (.ref k :: st) m = if cut pc = true then K pc ls (.ref k :: st) m else ((sh k).1 = f / 32 + 3 ∧ wp K cut Q rt0 T none is ls (.int (m.1 k (f % 32)) :: st) m)) ∧
  (∀ (K : Nat → List Value → List Value → xM → Prop) (cut : Nat → Bool) (Q : xQt) (rt0 : Option FieldType) (T : Nat → List Value → xM → xQt → Prop) (pc : Nat) (is : List xI) (ls st : List Value) (m : xM) (f : Nat) (k : Nat), wp K cut Q rt0 T none ((pc, .instanceof f) :: is) ls (.ref k :: st) m = if cut pc = true then K pc ls (.ref k :: st) m else ((sh k).1 = f / 32 + 3 ∧ wp K cut Q rt0 T none is ls (.long (m.2 k (f % 32)) :: st) m)) ∧
  (∀ (K : Nat → List Value → List Value → xM → Prop) (cut : Nat → Bool) (Q : xQt) (rt0 : Option FieldType) (T : Nat → List Value → xM → xQt → Prop) (pc : Nat) (is : List xI) (ls st : List Value) (m : xM) (f : Nat) (k : Nat), wp K cut Q rt0 T none ((pc, .checkcast f) :: is) ls (.ref k :: st) m = if cut pc = true then K pc ls (.ref k :: st) m else ((sh k).1 = f / 32 + 3 ∧ wp K cut Q rt0 T none is ls (.ref (rt k (f % 32)) :: st) m)) := by
  refine ⟨?_, ?_, ?_, ?_, ?_, ?_, ?_, ?_, ?_, ?_, ?_, ?_, ?_, ?_⟩ <;> intros <;> rfl
theorem wpE4 : (∀ (K : Nat → List Value → List Value → xM → Prop) (cut : Nat → Bool) (Q : xQt) (rt0 : Option FieldType) (T : Nat → List Value → xM → xQt → Prop) (pc : Nat) (is : List xI) (ls st : List Value) (m : xM) (f : Nat) (v : Int32) (k : Nat), wp K cut Q rt0 T none ((pc, .putfield f) :: is) ls (.int v :: .ref k :: st) m = if cut pc = true then K pc ls (.int v :: .ref k :: st) m else ((sh k).1 = f / 32 + 3 ∧ wp K cut Q rt0 T none is ls st (xa m k (upd (m.1 k) (f % 32) v)))) ∧
  (∀ (K : Nat → List Value → List Value → xM → Prop) (cut : Nat → Bool) (Q : xQt) (rt0 : Option FieldType) (T : Nat → List Value → xM → xQt → Prop) (pc : Nat) (is : List xI) (ls st : List Value) (m : xM) (f : Nat) (v : Int32) (k : Nat), wp K cut Q rt0 T none ((pc, .putstatic f) :: is) ls (.int v :: .ref k :: st) m = if cut pc = true then K pc ls (.int v :: .ref k :: st) m else ((sh k).1 = f / 32 + 3 ∧ (v = 0 ∨ v = 1) ∧ wp K cut Q rt0 T none is ls st (xa m k (upd (m.1 k) (f % 32) v)))) ∧
  (∀ (K : Nat → List Value → List Value → xM → Prop) (cut : Nat → Bool) (Q : xQt) (rt0 : Option FieldType) (T : Nat → List Value → xM → xQt → Prop) (pc : Nat) (is : List xI) (ls st : List Value) (m : xM) (f : Nat) (v : Int64) (k : Nat), wp K cut Q rt0 T none ((pc, .anewarray f) :: is) ls (.long v :: .ref k :: st) m = if cut pc = true then K pc ls (.long v :: .ref k :: st) m else ((sh k).1 = f / 32 + 3 ∧ wp K cut Q rt0 T none is ls st (xb m k (vp_updL (m.2 k) (f % 32) v)))) ∧
  (∀ (K : Nat → List Value → List Value → xM → Prop) (cut : Nat → Bool) (Q : xQt) (rt0 : Option FieldType) (T : Nat → List Value → xM → xQt → Prop) (pc : Nat) (is : List xI) (ls st : List Value) (m : xM) (u9 : Nat) (k : Nat), wp K cut Q rt0 T none ((pc, .ldc_w u9) :: is) ls (.ref k :: st) m = if cut pc = true then K pc ls (.ref k :: st) m else ((sh k).1 = 50 ∧ wp K cut Q rt0 T none is ls (.ref (k + 10) :: st) m)) ∧
  (∀ (K : Nat → List Value → List Value → xM → Prop) (cut : Nat → Bool) (Q : xQt) (rt0 : Option FieldType) (T : Nat → List Value → xM → xQt → Prop) (pc : Nat) (is : List xI) (ls st : List Value) (m : xM) (u9 : Nat) (k : Nat), wp K cut Q rt0 T none ((pc, .ldc u9) :: is) ls (.ref k :: st) m = if cut pc = true then K pc ls (.ref k :: st) m else ((sh k).1 = 50 ∧ wp K cut Q rt0 T none is ls (.int 0 :: st) m)) ∧
  (∀ (K : Nat → List Value → List Value → xM → Prop) (cut : Nat → Bool) (Q : xQt) (rt0 : Option FieldType) (T : Nat → List Value → xM → xQt → Prop) (pc : Nat) (is : List xI) (ls st : List Value) (m : xM) (i : Int32) (k : Nat), wp K cut Q rt0 T none ((pc, .iaload) :: is) ls (.int i :: .ref k :: st) m = if cut pc = true then K pc ls (.int i :: .ref k :: st) m else ((sh k).1 = 0 ∧ vp_in i (sh k).2 ∧ wp K cut Q rt0 T none is ls (.int (m.1 k i.toNatClampNeg) :: st) m)) ∧
  (∀ (K : Nat → List Value → List Value → xM → Prop) (cut : Nat → Bool) (Q : xQt) (rt0 : Option FieldType) (T : Nat → List Value → xM → xQt → Prop) (pc : Nat) (is : List xI) (ls st : List Value) (m : xM) (i : Int32) (k : Nat), wp K cut Q rt0 T none ((pc, .baload) :: is) ls (.int i :: .ref k :: st) m = if cut pc = true then K pc ls (.int i :: .ref k :: st) m else ((sh k).1 = 1 ∧ vp_in i (sh k).2 ∧ wp K cut Q rt0 T none is ls (.int (m.1 k i.toNatClampNeg) :: st) m)) ∧
  (∀ (K : Nat → List Value → List Value → xM → Prop) (cut : Nat → Bool) (Q : xQt) (rt0 : Option FieldType) (T : Nat → List Value → xM → xQt → Prop) (pc : Nat) (is : List xI) (ls st : List Value) (m : xM) (i : Int32) (k : Nat), wp K cut Q rt0 T none ((pc, .daload) :: is) ls (.int i :: .ref k :: st) m = if cut pc = true then K pc ls (.int i :: .ref k :: st) m else ((sh k).1 = 2 ∧ vp_in i (sh k).2 ∧ wp K cut Q rt0 T none is ls (.int (m.1 k i.toNatClampNeg) :: st) m)) ∧
  (∀ (K : Nat → List Value → List Value → xM → Prop) (cut : Nat → Bool) (Q : xQt) (rt0 : Option FieldType) (T : Nat → List Value → xM → xQt → Prop) (pc : Nat) (is : List xI) (ls st : List Value) (m : xM) (i : Int32) (k : Nat), wp K cut Q rt0 T none ((pc, .aaload) :: is) ls (.int i :: .ref k :: st) m = if cut pc = true then K pc ls (.int i :: .ref k :: st) m else ((sh k).1 = 52 ∧ vp_in i (sh k).2 ∧ wp K cut Q rt0 T none is ls (.int (xc k i.toNatClampNeg) :: st) m)) ∧
  (∀ (K : Nat → List Value → List Value → xM → Prop) (cut : Nat → Bool) (Q : xQt) (rt0 : Option FieldType) (T : Nat → List Value → xM → xQt → Prop) (pc : Nat) (is : List xI) (ls st : List Value) (m : xM) (i : Int32) (k : Nat), wp K cut Q rt0 T none ((pc, .caload) :: is) ls (.int i :: .ref k :: st) m = if cut pc = true then K pc ls (.int i :: .ref k :: st) m else ((sh k).1 = 51 ∧ vp_in i (sh k).2 ∧ wp K cut Q rt0 T none is ls (.int (xc k i.toNatClampNeg) :: st) m)) ∧
  (∀ (K : Nat → List Value → List Value → xM → Prop) (cut : Nat → Bool) (Q : xQt) (rt0 : Option FieldType) (T : Nat → List Value → xM → xQt → Prop) (pc : Nat) (is : List xI) (ls st : List Value) (m : xM) (v : Int32) (i : Int32) (k : Nat), wp K cut Q rt0 T none ((pc, .iastore) :: is) ls (.int v :: .int i :: .ref k :: st) m = if cut pc = true then K pc ls (.int v :: .int i :: .ref k :: st) m else ((sh k).1 = 0 ∧ vp_in i (sh k).2 ∧ wp K cut Q rt0 T none is ls st (xa m k (upd (m.1 k) i.toNatClampNeg v)))) ∧
  (∀ (K : Nat → List Value → List Value → xM → Prop) (cut : Nat → Bool) (Q : xQt) (rt0 : Option FieldType) (T : Nat → List Value → xM → xQt → Prop) (pc : Nat) (is : List xI) (ls st : List Value) (m : xM) (v : Int32) (i : Int32) (k : Nat), wp K cut Q rt0 T none ((pc, .bastore) :: is) ls (.int v :: .int i :: .ref k :: st) m = if cut pc = true then K pc ls (.int v :: .int i :: .ref k :: st) m else ((sh k).1 = 1 ∧ vp_in i (sh k).2 ∧ wp K cut Q rt0 T none is ls st (xa m k (upd (m.1 k) i.toNatClampNeg v.toInt8.toInt32)))) ∧
  (∀ (K : Nat → List Value → List Value → xM → Prop) (cut : Nat → Bool) (Q : xQt) (rt0 : Option FieldType) (T : Nat → List Value → xM → xQt → Prop) (pc : Nat) (is : List xI) (ls st : List Value) (m : xM) (v : Int32) (i : Int32) (k : Nat), wp K cut Q rt0 T none ((pc, .dastore) :: is) ls (.int v :: .int i :: .ref k :: st) m = if cut pc = true then K pc ls (.int v :: .int i :: .ref k :: st) m else ((sh k).1 = 2 ∧ vp_in i (sh k).2 ∧ (v = 0 ∨ v = 1) ∧ wp K cut Q rt0 T none is ls st (xa m k (upd (m.1 k) i.toNatClampNeg v)))) ∧
  (∀ (K : Nat → List Value → List Value → xM → Prop) (cut : Nat → Bool) (Q : xQt) (rt0 : Option FieldType) (T : Nat → List Value → xM → xQt → Prop) (pc : Nat) (is : List xI) (ls st : List Value) (m : xM) (k : Nat), wp K cut Q rt0 T none ((pc, .arraylength) :: is) ls (.ref k :: st) m = if cut pc = true then K pc ls (.ref k :: st) m else ((sh k).1 = 0 ∧ wp K cut Q rt0 T none is ls (.int (Int32.ofNat (sh k).2) :: st) m)) := by
  refine ⟨?_, ?_, ?_, ?_, ?_, ?_, ?_, ?_, ?_, ?_, ?_, ?_, ?_, ?_⟩ <;> intros <;> rfl
theorem wpE5 : (∀ (K : Nat → List Value → List Value → xM → Prop) (cut : Nat → Bool) (Q : xQt) (rt0 : Option FieldType) (T : Nat → List Value → xM → xQt → Prop) (pc : Nat) (is : List xI) (ls st : List Value) (m : xM) (k : Nat), wp K cut Q rt0 T none ((pc, .castore) :: is) ls (.ref k :: st) m = if cut pc = true then K pc ls (.ref k :: st) m else ((sh k).1 = 51 ∧ wp K cut Q rt0 T none is ls (.int (Int32.ofNat (sh k).2) :: st) m)) ∧
  (∀ (K : Nat → List Value → List Value → xM → Prop) (cut : Nat → Bool) (Q : xQt) (rt0 : Option FieldType) (T : Nat → List Value → xM → xQt → Prop) (pc : Nat) (is : List xI) (ls st : List Value) (m : xM) (b : Int32) (a : Int32), wp K cut Q rt0 T none ((pc, .fadd) :: is) ls (.int b :: .int a :: st) m = if cut pc = true then K pc ls (.int b :: .int a :: st) m else (lt4 st ∧ wp K cut Q rt0 T none is ls (.int (if a < b then b else a) :: st) m)) ∧
  (∀ (K : Nat → List Value → List Value → xM → Prop) (cut : Nat → Bool) (Q : xQt) (rt0 : Option FieldType) (T : Nat → List Value → xM → xQt → Prop) (pc : Nat) (is : List xI) (ls st : List Value) (m : xM) (b : Int32) (a : Int32), wp K cut Q rt0 T none ((pc, .fsub) :: is) ls (.int b :: .int a :: st) m = if cut pc = true then K pc ls (.int b :: .int a :: st) m else (lt4 st ∧ wp K cut Q rt0 T none is ls (.int (if b < a then b else a) :: st) m)) ∧
  (∀ (K : Nat → List Value → List Value → xM → Prop) (cut : Nat → Bool) (Q : xQt) (rt0 : Option FieldType) (T : Nat → List Value → xM → xQt → Prop) (pc : Nat) (is : List xI) (ls st : List Value) (m : xM) (n : Int32) (dp : Int32) (b : Nat) (sp : Int32) (a : Nat), wp K cut Q rt0 T none ((pc, .nop) :: is) ls (.int n :: .int dp :: .ref b :: .int sp :: .ref a :: st) m = if cut pc = true then K pc ls (.int n :: .int dp :: .ref b :: .int sp :: .ref a :: st) m else (lt4 st ∧ (sh a).1 = 0 ∧ (sh b).1 = 0 ∧ ¬ sp < 0 ∧ ¬ dp < 0 ∧ ¬ n < 0 ∧ sp.toNatClampNeg + n.toNatClampNeg ≤ (sh a).2 ∧ dp.toNatClampNeg + n.toNatClampNeg ≤ (sh b).2 ∧ wp K cut Q rt0 T none is ls st (xa m b (va_cpy (m.1 a) (m.1 b) sp.toNatClampNeg dp.toNatClampNeg n.toNatClampNeg)))) ∧
  (∀ (K : Nat → List Value → List Value → xM → Prop) (cut : Nat → Bool) (Q : xQt) (rt0 : Option FieldType) (T : Nat → List Value → xM → xQt → Prop) (pc : Nat) (is : List xI) (ls st : List Value) (m : xM) (q : Nat), wp K cut Q rt0 T none ((pc, .invokestatic q) :: is) ls (st) m = if cut pc = true then K pc ls (st) m else (q / 64 % 10 ≤ st.length ∧ lt4 (st.drop (q / 64 % 10)) ∧ T (q / 640) ((st.take (q / 64 % 10)).reverse) m (wC K cut Q rt0 T is ls (st.drop (q / 64 % 10))))) ∧
  (∀ (K : Nat → List Value → List Value → xM → Prop) (cut : Nat → Bool) (Q : xQt) (rt0 : Option FieldType) (T : Nat → List Value → xM → xQt → Prop) (pc : Nat) (is : List xI) (ls st : List Value) (m : xM) (q : Nat), wp K cut Q rt0 T none ((pc, .invokevirtual q) :: is) ls (st) m = if cut pc = true then K pc ls (st) m else (q / 64 % 10 ≤ st.length ∧ lt4 (st.drop (q / 64 % 10)) ∧ p_r ((st.take (q / 64 % 10)).reverse) (fun k _ => (sh k).1 = q % 64) ∧ T (q / 640) ((st.take (q / 64 % 10)).reverse) m (wC K cut Q rt0 T is ls (st.drop (q / 64 % 10))))) ∧
  (∀ (K : Nat → List Value → List Value → xM → Prop) (cut : Nat → Bool) (Q : xQt) (rt0 : Option FieldType) (T : Nat → List Value → xM → xQt → Prop) (pc : Nat) (is : List xI) (ls : List Value) (m : xM) (x : Int32) (st : List Value), wp K cut Q rt0 T none ((pc, .dup) :: is) ls (.int x :: st) m = if cut pc = true then K pc ls (.int x :: st) m else (wp K cut Q rt0 T none is ls (.int x :: .int x :: st) m)) ∧
  (∀ (K : Nat → List Value → List Value → xM → Prop) (cut : Nat → Bool) (Q : xQt) (rt0 : Option FieldType) (T : Nat → List Value → xM → xQt → Prop) (pc : Nat) (is : List xI) (ls : List Value) (m : xM) (x : Nat) (st : List Value), wp K cut Q rt0 T none ((pc, .dup) :: is) ls (.ref x :: st) m = if cut pc = true then K pc ls (.ref x :: st) m else (wp K cut Q rt0 T none is ls (.ref x :: .ref x :: st) m)) ∧
  (∀ (K : Nat → List Value → List Value → xM → Prop) (cut : Nat → Bool) (Q : xQt) (rt0 : Option FieldType) (T : Nat → List Value → xM → xQt → Prop) (pc : Nat) (is : List xI) (ls : List Value) (m : xM) (v : Int32), wp K cut Q rt0 T none ((pc, .ireturn) :: is) ls ([.int v]) m = if cut pc = true then K pc ls ([.int v]) m else (nrw rt0 v ∧ Q (some (.int v)) m)) ∧
  (∀ (K : Nat → List Value → List Value → xM → Prop) (cut : Nat → Bool) (Q : xQt) (rt0 : Option FieldType) (T : Nat → List Value → xM → xQt → Prop) (pc : Nat) (is : List xI) (ls : List Value) (m : xM) (v : Int64), wp K cut Q rt0 T none ((pc, .lreturn) :: is) ls ([.long v]) m = if cut pc = true then K pc ls ([.long v]) m else (Q (some (.long v)) m)) ∧
  (∀ (K : Nat → List Value → List Value → xM → Prop) (cut : Nat → Bool) (Q : xQt) (rt0 : Option FieldType) (T : Nat → List Value → xM → xQt → Prop) (pc : Nat) (is : List xI) (ls : List Value) (m : xM) (v : Nat), wp K cut Q rt0 T none ((pc, .areturn) :: is) ls ([.ref v]) m = if cut pc = true then K pc ls ([.ref v]) m else (Q (some (.ref v)) m)) ∧
  (∀ (K : Nat → List Value → List Value → xM → Prop) (cut : Nat → Bool) (Q : xQt) (rt0 : Option FieldType) (T : Nat → List Value → xM → xQt → Prop) (pc : Nat) (is : List xI) (ls : List Value) (m : xM), wp K cut Q rt0 T none ((pc, .return_) :: is) ls ([]) m = if cut pc = true then K pc ls ([]) m else (Q none m)) := by
  refine ⟨?_, ?_, ?_, ?_, ?_, ?_, ?_, ?_, ?_, ?_, ?_, ?_⟩ <;> intros <;> rfl
theorem wpJ : (∀ (K : Nat → List Value → List Value → xM → Prop) (cut : Nat → Bool) (Q : xQt) (rt0 : Option FieldType) (T : Nat → List Value → xM → xQt → Prop) (pc : Nat) (is : List xI) (t : Int) (ls st : List Value) (m : xM), wJ K cut Q rt0 T pc is t ls st m = if t.toNat ≤ pc then K t.toNat ls st m else wp K cut Q rt0 T (some t.toNat) is ls st m) ∧
  (∀ (K : Nat → List Value → List Value → xM → Prop) (cut : Nat → Bool) (Q : xQt) (rt0 : Option FieldType) (T : Nat → List Value → xM → xQt → Prop) (t pc : Nat) (i : Instr) (is : List xI) (ls st : List Value) (m : xM), wp K cut Q rt0 T (some t) ((pc, i) :: is) ls st m = if pc = t then wp K cut Q rt0 T none ((pc, i) :: is) ls st m else wp K cut Q rt0 T (some t) is ls st m) ∧
  (∀ (K : Nat → List Value → List Value → xM → Prop) (cut : Nat → Bool) (Q : xQt) (rt0 : Option FieldType) (T : Nat → List Value → xM → xQt → Prop) (is : List xI) (ls st : List Value) (r : Option Value) (m : xM), wC K cut Q rt0 T is ls st r m = wp K cut Q rt0 T none is ls (r.toList ++ st) m) ∧
  (∀ (K : Nat → List Value → List Value → xM → Prop) (cut : Nat → Bool) (Q : xQt) (rt0 : Option FieldType) (T : Nat → List Value → xM → xQt → Prop) (is : List xI) (x : Int32) (ls st : List Value) (m : xM), wI K cut Q rt0 T is (some (.int x)) ls st m = wp K cut Q rt0 T none is ls (.int x :: st) m) ∧
  (∀ (K : Nat → List Value → List Value → xM → Prop) (cut : Nat → Bool) (Q : xQt) (rt0 : Option FieldType) (T : Nat → List Value → xM → xQt → Prop) (is : List xI) (x : Int64) (ls st : List Value) (m : xM), wL K cut Q rt0 T is (some (.long x)) ls st m = wp K cut Q rt0 T none is ls (.long x :: st) m) ∧
  (∀ (K : Nat → List Value → List Value → xM → Prop) (cut : Nat → Bool) (Q : xQt) (rt0 : Option FieldType) (T : Nat → List Value → xM → xQt → Prop) (is : List xI) (x : Nat) (ls st : List Value) (m : xM), wR K cut Q rt0 T is (some (.ref x)) ls st m = wp K cut Q rt0 T none is ls (.ref x :: st) m) ∧
  (∀ (K : Nat → List Value → List Value → xM → Prop) (cut : Nat → Bool) (Q : xQt) (rt0 : Option FieldType) (T : Nat → List Value → xM → xQt → Prop) (is : List xI) (x : Int32) (n : Int) (i : Nat) (ls st : List Value) (m : xM), wU K cut Q rt0 T is (some (.int x)) n i ls st m = wp K cut Q rt0 T none is (ls.set i (.int (x + Int32.ofInt n))) st m) ∧
  (∀ (K : Nat → List Value → List Value → xM → Prop) (cut : Nat → Bool) (Q : xQt) (rt0 : Option FieldType) (T : Nat → List Value → xM → xQt → Prop) (pc : Nat) (is : List xI) (x : Int32) (d lo : Int) (ls st : List Value) (m : xM), wS K cut Q rt0 T pc is x d lo [] ls st m = wJ K cut Q rt0 T pc is d ls st m) ∧
  (∀ (K : Nat → List Value → List Value → xM → Prop) (cut : Nat → Bool) (Q : xQt) (rt0 : Option FieldType) (T : Nat → List Value → xM → xQt → Prop) (pc : Nat) (is : List xI) (x : Int32) (d lo t : Int) (ts : List Int) (ls st : List Value) (m : xM), wS K cut Q rt0 T pc is x d lo (t :: ts) ls st m = ((x = Int32.ofInt lo → wJ K cut Q rt0 T pc is t ls st m) ∧ (¬ x = Int32.ofInt lo → wS K cut Q rt0 T pc is x d (lo + 1) ts ls st m))) := by
  refine ⟨?_, ?_, ?_, ?_, ?_, ?_, ?_, ?_, ?_⟩ <;> intros <;> rfl
