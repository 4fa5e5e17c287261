/-! THE SMALL MACHINE: what the class and the reference do, as a function over numbered cells -/
abbrev rt_H : Type := Nat × (Nat → Nat → Int32) × (Nat → Nat → Int64) × (Nat → Nat → Option Nat)
abbrev rt_Res : Type := Option Value × rt_H
abbrev rt_J : Type := Nat × List Value × List Value × rt_H
/-- what one instruction does: it returns, goes on, or calls (method, arguments, the rest of the stack) -/
abbrev rt_A : Type := Option (rt_Res ⊕ rt_J ⊕ (Nat × List Value × List Value))
def rt_up {α : Type} (f : Nat → Nat → α) (i k : Nat) (v : α) : Nat → Nat → α := fun a => if a = i then (fun b => if b = k then v else f a b) else f a
def rt_row {α : Type} (f : Nat → Nat → α) (i : Nat) (g : Nat → α) : Nat → Nat → α := fun a => if a = i then g else f a
def rt_ob (n i ci : Nat) : Bool := decide (i < n) && rt_kd i == (0, ci)
def rt_ar (n a ty : Nat) : Bool := decide (a < n) && (rt_kd a).1 == ty
def rt_ln (a : Nat) : Nat := (rt_kd a).2
def rt_in (x : Int32) (n : Nat) : Bool := decide (0 ≤ x) && decide (x.toNatClampNeg < n)
/-- a value of one word that is no mark (a mark: .float, nothing is there; .double, the second half of a long) -/
def rt_o1 : Value → Bool
  | .int _ => true
  | .ref _ => true
  | .retAddr _ => true
  | _ => false
/-- not the second half of a long -/
def rt_ns : Value → Bool
  | .double _ => false
  | _ => true
def rt_cs (st : List Value) : Nat := (st.map fun v => v.category).sum
def rt_tg (pc : Nat) (off : Int) : Option Nat := if 0 ≤ (pc : Int) + off then some ((pc : Int) + off).toNat else none
def rt_cm (c : ClassFile.Cond) (x y : Int32) : Bool := match c with
  | .eq => decide (x = y)
  | .ne => decide (¬ x = y)
  | .lt => decide (x < y)
  | .ge => decide (y ≤ x)
  | .gt => decide (y < x)
  | .le => decide (x ≤ y)
def rt_go (pc : Nat) (ls st : List Value) (h : rt_H) : rt_A := some (.inr (.inl (pc, ls, st, h)))
def rt_br (c : Bool) (pc : Nat) (off : Int) (ls st : List Value) (h : rt_H) : rt_A := match rt_tg pc off with
  | some t => if c then rt_go t ls st h else rt_go (pc + 3) ls st h
  | none => none
def rt_bo (v : Int32) : Bool := decide (v = 0 ∨ v = 1)
/-- the width that each instruction must have; 0: any -/
def rt_wl : Instr → Nat
  | .aload _ => 2 | .astore _ => 2 | .iload _ => 2 | .istore _ => 2 | .bipush _ => 2 | .newarray _ => 2 | .ldc _ => 2
  | .sipush _ => 3 | .iinc _ _ => 3 | .getfield _ => 3 | .putfield _ => 3 | .goto _ => 3 | .if_icmp _ _ => 3 | .ifCond _ _ => 3 | .ifnull _ => 3
  | .invokevirtual _ => 3 | .invokespecial _ => 3 | .invokestatic _ => 3 | .new _ => 3 | .anewarray _ => 3 | .ldc_w _ => 3 | .ldc2_w _ => 3
  | .tableswitch _ _ _ _ => 0 | .lookupswitch _ _ => 0
  | _ => 1
def rt_ld (ls : List Value) (k pc : Nat) (st : List Value) (h : rt_H) : rt_A := match ls[k]? with
  | some (.int x) => rt_go pc ls (.int x :: st) h
  | _ => none
def rt_ldA (ls : List Value) (k pc : Nat) (st : List Value) (h : rt_H) : rt_A := match ls[k]? with
  | some (.ref x) => rt_go pc ls (.ref x :: st) h
  | some (.retAddr x) => rt_go pc ls (.retAddr x :: st) h
  | _ => none
def rt_sv (ls : List Value) (k pc : Nat) (v : Value) (st : List Value) (h : rt_H) : rt_A := match ls[k]? with
  | some u => if rt_ns u then rt_go pc (ls.set k v) st h else none
  | none => none
def rt_i2 (f : Int32 → Int32 → Int32) (pc : Nat) (ls st : List Value) (h : rt_H) : rt_A := match st with
  | .int y :: .int x :: r => rt_go (pc + 1) ls (.int (f x y) :: r) h
  | _ => none
def rt_l2 (f : Int64 → Int64 → Int64) (pc : Nat) (ls st : List Value) (h : rt_H) : rt_A := match st with
  | .long y :: .long x :: r => rt_go (pc + 1) ls (.long (f x y) :: r) h
  | _ => none
def rt_getf (o idx pc : Nat) (ls st : List Value) (h : rt_H) : rt_A := match st with
  | .ref i :: r => match rt_fd o idx with
    | some (_, _, ci, k, _, _) => if rt_ob h.1 i ci then (match rt_ft ci k with
        | 0 => rt_go (pc + 3) ls (.int (h.2.1 i k) :: r) h
        | 1 => rt_go (pc + 3) ls (.int (h.2.1 i k) :: r) h
        | 2 => rt_go (pc + 3) ls (.long (h.2.2.1 i k) :: r) h
        | 3 => (match h.2.2.2 i k with
          | some j => rt_go (pc + 3) ls (.ref j :: r) h
          | none => none)
        | _ => none) else none
    | none => none
  | _ => none
def rt_putf (m idx pc : Nat) (ls st : List Value) (h : rt_H) : rt_A := match st with
  | v :: .ref i :: r => match rt_fd (rt_own m) idx with
    | some (_, _, ci, k, z, _) => if rt_ob h.1 i ci && z == 0 && (!rt_fin ci k || ((rt_nm m).name == "<init>" && rt_own m == ci)) then (match rt_ft ci k, v with
        | 0, .int x => rt_go (pc + 3) ls r (h.1, rt_up h.2.1 i k x, h.2.2.1, h.2.2.2)
        | 1, .int x => if rt_bo x then rt_go (pc + 3) ls r (h.1, rt_up h.2.1 i k x, h.2.2.1, h.2.2.2) else none
        | 2, .long x => rt_go (pc + 3) ls r (h.1, h.2.1, rt_up h.2.2.1 i k x, h.2.2.2)
        | 3, .ref j => rt_go (pc + 3) ls r (h.1, h.2.1, h.2.2.1, rt_up h.2.2.2 i k (some j))
        | _, _ => none) else none
    | none => none
  | _ => none
def rt_aty : ArrayType → Nat
  | .int => 1 | .byte => 2 | .boolean => 3 | .long => 4 | _ => 9
def rt_new (pc : Nat) (ls st : List Value) (h : rt_H) : rt_A := rt_go pc ls (.ref h.1 :: st) (h.1 + 1, rt_row h.2.1 h.1 (fun _ => 0), rt_row h.2.2.1 h.1 (fun _ => 0), rt_row h.2.2.2 h.1 (fun _ => none))
def rt_sw (pc : Nat) (off : Option Int) (ls st : List Value) (h : rt_H) : rt_A := match off with
  | some o => (match rt_tg pc o with
    | some t => rt_go t ls st h
    | none => none)
  | none => none
def rt_strL : Nat := 132
def rt_strB : List Nat := [116, 104, 105, 110, 103, 32, 98, 108, 111, 99, 107, 32, 112, 121, 114, 97, 109, 105, 100, 32, 98, 111, 120, 32, 111, 110, 101, 32, 114, 101, 100, 32, 103, 114, 101, 101, 110, 32, 98, 108, 117, 101, 32, 119, 104, 105, 116, 101, 32, 98, 105, 103, 32, 115, 109, 97, 108, 108, 32, 112, 117, 116, 32, 116, 97, 107, 101, 32, 100, 114, 111, 112, 32, 105, 115, 32, 109, 97, 110, 121, 32, 119, 104, 105, 99, 104, 32, 109, 101, 97, 110, 115, 32, 105, 32, 111, 119, 110, 32, 110, 111, 32, 116, 104, 101, 32, 97, 32, 105, 116, 32, 116, 104, 97, 116, 32, 111, 110, 32, 105, 110, 32, 117, 110, 100, 101, 114, 32, 100, 111, 119, 110]
/-- a call of a method of the table: its arguments are the k uppermost of the stack -/
def rt_cl0 (m m2 : Nat) (st : List Value) : rt_A :=
  if rt_na m2 ≤ st.length ∧ ((st.take (rt_na m2)).all rt_o1 = true) ∧ rt_na m2 ≤ rt_ml m2 ∧ rt_cs (st.drop (rt_na m2)) ≤ 8 ∧ rt_rf m2 + 1 ≤ rt_rf m ∧ 8 + (rt_ml m2 + 11) + rt_rl m2 ≤ rt_rl m then
    some (.inr (.inr (m2, (st.take (rt_na m2)).reverse, st.drop (rt_na m2)))) else none
def rt_cV (m m2 : Nat) (st : List Value) (h : rt_H) : rt_A := match (st.take (rt_na m2)).reverse with
  | .ref i :: _ => if rt_ob h.1 i (rt_own m2) then rt_cl0 m m2 st else none
  | _ => none
def rt_call (k m pc idx : Nat) (ls st : List Value) (h : rt_H) : rt_A := match rt_ca (rt_own m) idx with
  | some (_, _, how, m2, _) => (match k, how with
    | 0, 0 => rt_cV m m2 st h
    | 1, 1 => rt_cl0 m m2 st
    | 2, 2 => (match (st.take (rt_na m2)).reverse with
      | .ref _ :: _ => rt_cl0 m m2 st
      | _ => none)
    | 2, 3 => (match (st.take (rt_na m2)).reverse with
      | .ref _ :: _ => rt_cl0 m m2 st
      | _ => none)
    | 2, 4 => (match st with
      | .ref _ :: r => if 1 ≤ rt_rf m ∧ rt_cs r + 12 ≤ rt_rl m then rt_go (pc + 3) ls r h else none
      | _ => none)
    | 1, 5 => (match st with
      | .int n :: .int dp :: .ref b :: .int sp :: .ref a :: r =>
        if 1 ≤ rt_rf m ∧ rt_cs r + 40 ≤ rt_rl m ∧ rt_ar h.1 a 1 ∧ rt_ar h.1 b 1 ∧ a ≠ b ∧ 0 ≤ n ∧ 0 ≤ sp ∧ 0 ≤ dp ∧ sp.toNatClampNeg + n.toNatClampNeg ≤ rt_ln a ∧ dp.toNatClampNeg + n.toNatClampNeg ≤ rt_ln b then
          rt_go (pc + 3) ls r (h.1, rt_row h.2.1 b (va_cpy (h.2.1 a) (h.2.1 b) sp.toNatClampNeg dp.toNatClampNeg n.toNatClampNeg), h.2.2.1, h.2.2.2) else none
      | _ => none)
    | 0, 6 => (match st with
      | .retAddr 0 :: r => if 3 ≤ rt_rf m ∧ 60 ≤ rt_rl m ∧ rt_cs r ≤ 8 then rt_go (pc + 3) ls (.int (nI rt_strL) :: r) h else none
      | _ => none)
    | 0, 7 => (match st with
      | .int x :: .retAddr 0 :: r => if 5 ≤ rt_rf m ∧ 100 ≤ rt_rl m ∧ rt_cs r ≤ 8 ∧ rt_in x rt_strL then rt_go (pc + 3) ls (.int (nI (rt_strB.getD x.toNatClampNeg 0)) :: r) h else none
      | _ => none)
    | _, _ => none)
  | none => none
def rt_ins (m pc : Nat) (i : Instr) (ls st : List Value) (h : rt_H) : rt_A := match i with
  | .iload_n k => rt_ld ls k.val (pc + 1) st h
  | .iload k => rt_ld ls k (pc + 2) st h
  | .aload_n k => rt_ldA ls k.val (pc + 1) st h
  | .aload k => rt_ldA ls k (pc + 2) st h
  | .lload_n k => (match ls[k.val]? with
    | some (.long x) => rt_go (pc + 1) ls (.long x :: st) h
    | _ => none)
  | .istore_n k => (match st with
    | .int x :: r => rt_sv ls k.val (pc + 1) (.int x) r h
    | _ => none)
  | .istore k => (match st with
    | .int x :: r => rt_sv ls k (pc + 2) (.int x) r h
    | _ => none)
  | .astore_n k => (match st with
    | .ref x :: r => rt_sv ls k.val (pc + 1) (.ref x) r h
    | .retAddr x :: r => rt_sv ls k.val (pc + 1) (.retAddr x) r h
    | _ => none)
  | .astore k => (match st with
    | .ref x :: r => rt_sv ls k (pc + 2) (.ref x) r h
    | _ => none)
  | .lstore_n k => (match st with
    | .long x :: r => (match ls[k.val]? with
      | some u => if rt_ns u && decide (k.val + 1 < ls.length) then rt_go (pc + 1) ((ls.set k.val (.long x)).set (k.val + 1) (.double 0)) r h else none
      | none => none)
    | _ => none)
  | .iinc k n => (match ls[k]? with
    | some (.int x) => rt_go (pc + 3) (ls.set k (.int (x + Int32.ofInt n))) st h
    | _ => none)
  | .iconst n => rt_go (pc + 1) ls (.int (Int32.ofInt n) :: st) h
  | .bipush n => rt_go (pc + 2) ls (.int (Int8.ofInt n).toInt32 :: st) h
  | .sipush n => rt_go (pc + 3) ls (.int (Int16.ofInt n).toInt32 :: st) h
  | .lconst n => rt_go (pc + 1) ls (.long (Int64.ofNat n.val) :: st) h
  | .ldc idx => (match rt_ci (rt_own m) idx with
    | some (_, _, v, _) => rt_go (pc + 2) ls (.int v :: st) h
    | none => if rt_own m = 8 ∧ idx = 69 then rt_go (pc + 2) ls (.retAddr 0 :: st) h else none)
  | .ldc_w idx => (match rt_ci (rt_own m) idx with
    | some (_, _, v, _) => rt_go (pc + 3) ls (.int v :: st) h
    | none => none)
  | .ldc2_w idx => (match rt_cl (rt_own m) idx with
    | some (_, _, v, _) => rt_go (pc + 3) ls (.long v :: st) h
    | none => none)
  | .iadd => rt_i2 (· + ·) pc ls st h
  | .isub => rt_i2 (· - ·) pc ls st h
  | .imul => rt_i2 (· * ·) pc ls st h
  | .iand => rt_i2 (· &&& ·) pc ls st h
  | .ior => rt_i2 (· ||| ·) pc ls st h
  | .ixor => rt_i2 (· ^^^ ·) pc ls st h
  | .ishl => rt_i2 (fun x y => x <<< (y &&& 31)) pc ls st h
  | .ishr => rt_i2 (fun x y => x >>> (y &&& 31)) pc ls st h
  | .iushr => rt_i2 (fun x y => (x.toUInt32 >>> (y.toUInt32 &&& Int32.toUInt32 31)).toInt32) pc ls st h
  | .idiv => (match st with
    | .int y :: .int x :: r => if y = 0 then none else rt_go (pc + 1) ls (.int (x / y) :: r) h
    | _ => none)
  | .irem => (match st with
    | .int y :: .int x :: r => if y = 0 then none else rt_go (pc + 1) ls (.int (x - x / y * y) :: r) h
    | _ => none)
  | .ladd => rt_l2 (· + ·) pc ls st h
  | .lsub => rt_l2 (· - ·) pc ls st h
  | .lmul => rt_l2 (· * ·) pc ls st h
  | .i2l => (match st with
    | .int x :: r => rt_go (pc + 1) ls (.long x.toInt64 :: r) h
    | _ => none)
  | .i2b => (match st with
    | .int x :: r => rt_go (pc + 1) ls (.int x.toInt8.toInt32 :: r) h
    | _ => none)
  | .lcmp => (match st with
    | .long y :: .long x :: r => rt_go (pc + 1) ls (.int (lg_cmp x y) :: r) h
    | _ => none)
  | .dup => (match st with
    | v :: r => if rt_o1 v then rt_go (pc + 1) ls (v :: v :: r) h else none
    | _ => none)
  | .dup2 => (match st with
    | v :: w :: r => if rt_o1 v && rt_o1 w then rt_go (pc + 1) ls (v :: w :: v :: w :: r) h else none
    | _ => none)
  | .pop => (match st with
    | v :: r => if rt_o1 v then rt_go (pc + 1) ls r h else none
    | _ => none)
  | .goto off => rt_sw pc (some off) ls st h
  | .ifCond c off => (match st with
    | .int x :: r => rt_br (rt_cm c x 0) pc off ls r h
    | _ => none)
  | .if_icmp c off => (match st with
    | .int y :: .int x :: r => rt_br (rt_cm c x y) pc off ls r h
    | _ => none)
  | .ifnull _ => (match st with
    | .ref _ :: r => rt_go (pc + 3) ls r h
    | _ => none)
  | .tableswitch dflt lo hi offs => (match st with
    | .int x :: r => rt_sw pc (if x.toInt < lo ∨ hi < x.toInt then some dflt else offs[(x.toInt - lo).toNat]?) ls r h
    | _ => none)
  | .lookupswitch dflt ps => (match st with
    | .int x :: r => if (ps.toList.zip (ps.toList.drop 1)).all (fun (a, next) => a.1 < next.1) = true then rt_sw pc (some (Op.lookupswitch.offset ps.toList dflt x.toInt)) ls r h else none
    | _ => none)
  | .getfield idx => rt_getf (rt_own m) idx pc ls st h
  | .putfield idx => rt_putf m idx pc ls st h
  | .iaload => (match st with
    | .int x :: .ref a :: r => if rt_ar h.1 a 1 && rt_in x (rt_ln a) then rt_go (pc + 1) ls (.int (h.2.1 a x.toNatClampNeg) :: r) h else none
    | _ => none)
  | .baload => (match st with
    | .int x :: .ref a :: r => if (rt_ar h.1 a 2 || rt_ar h.1 a 3) && rt_in x (rt_ln a) then rt_go (pc + 1) ls (.int (h.2.1 a x.toNatClampNeg) :: r) h else none
    | _ => none)
  | .laload => (match st with
    | .int x :: .ref a :: r => if rt_ar h.1 a 4 && rt_in x (rt_ln a) then rt_go (pc + 1) ls (.long (h.2.2.1 a x.toNatClampNeg) :: r) h else none
    | _ => none)
  | .aaload => (match st with
    | .int x :: .ref a :: r => if rt_ar h.1 a 5 && rt_in x (rt_ln a) then (match h.2.2.2 a x.toNatClampNeg with
      | some j => rt_go (pc + 1) ls (.ref j :: r) h
      | none => none) else none
    | _ => none)
  | .iastore => (match st with
    | .int v :: .int x :: .ref a :: r => if rt_ar h.1 a 1 && rt_in x (rt_ln a) then rt_go (pc + 1) ls r (h.1, rt_up h.2.1 a x.toNatClampNeg v, h.2.2.1, h.2.2.2) else none
    | _ => none)
  | .bastore => (match st with
    | .int v :: .int x :: .ref a :: r => if rt_ar h.1 a 2 && rt_in x (rt_ln a) then rt_go (pc + 1) ls r (h.1, rt_up h.2.1 a x.toNatClampNeg v.toInt8.toInt32, h.2.2.1, h.2.2.2) else
      if rt_ar h.1 a 3 && rt_in x (rt_ln a) then rt_go (pc + 1) ls r (h.1, rt_up h.2.1 a x.toNatClampNeg (vp_nar .boolean v), h.2.2.1, h.2.2.2) else none
    | _ => none)
  | .lastore => (match st with
    | .long v :: .int x :: .ref a :: r => if rt_ar h.1 a 4 && rt_in x (rt_ln a) then rt_go (pc + 1) ls r (h.1, h.2.1, rt_up h.2.2.1 a x.toNatClampNeg v, h.2.2.2) else none
    | _ => none)
  | .aastore => (match st with
    | .ref j :: .int x :: .ref a :: r => if rt_ar h.1 a 5 && rt_in x (rt_ln a) && rt_ob h.1 j 1 then rt_go (pc + 1) ls r (h.1, h.2.1, h.2.2.1, rt_up h.2.2.2 a x.toNatClampNeg (some j)) else none
    | _ => none)
  | .new idx => (match rt_nw (rt_own m) idx with
    | some (_, _, ci, _) => if rt_kd h.1 == (0, ci) then rt_new (pc + 3) ls st h else none
    | none => none)
  | .newarray ty => (match st with
    | .int x :: r => if (rt_kd h.1 == (rt_aty ty, x.toNatClampNeg)) && decide (0 ≤ x) && decide (rt_aty ty < 9) && decide (x.toNatClampNeg < 10000) then rt_new (pc + 2) ls r h else none
    | _ => none)
  | .anewarray idx => (match st with
    | .int x :: r => if (rt_kd h.1 == (5, x.toNatClampNeg)) && decide (0 ≤ x) && decide (rt_own m = 8) && idx == 18 && decide (x.toNatClampNeg < 10000) then rt_new (pc + 3) ls r h else none
    | _ => none)
  | .invokevirtual idx => rt_call 0 m pc idx ls st h
  | .invokestatic idx => rt_call 1 m pc idx ls st h
  | .invokespecial idx => rt_call 2 m pc idx ls st h
  | .return_ => if rt_ret m = none then (match st with
    | [] => some (.inl (none, h))
    | _ => none) else none
  | .ireturn => (match st with
    | [.int x] => if rt_ret m = some .int ∨ (rt_ret m = some .boolean ∧ rt_bo x = true) then some (.inl (some (.int x), h)) else none
    | _ => none)
  | .areturn => (match st with
    | [.ref x] => if rt_ret m = some (.object "RoomTalk$Phrase") then some (.inl (some (.ref x), h)) else none
    | _ => none)
  | _ => none
def rt_act (m pc : Nat) (ls st : List Value) (h : rt_H) : rt_A := match decode (rt_code m) pc with
  | .ok (i, len) => if rt_wl i = 0 ∨ len = rt_wl i then rt_ins m pc i ls st h else none
  | _ => none
/-- the locals at a method's start -/
def rt_ini (m : Nat) (as : List Value) : List Value := as ++ List.replicate (rt_ml m - as.length) (.float 0)
def rt_run : Nat → Nat → Nat → List Value → List Value → rt_H → Option rt_Res
  | 0, _, _, _, _, _ => none
  | f + 1, m, pc, ls, st, h => match rt_act m pc ls st h with
    | none => none
    | some (.inl r) => some r
    | some (.inr (.inl (pc2, ls2, st2, h2))) => rt_run f m pc2 ls2 st2 h2
    | some (.inr (.inr (m2, as, r))) => match rt_run f m2 0 (rt_ini m2 as) [] h with
      | some (v, h2) => rt_run f m (pc + 3) ls (v.toList ++ r) h2
      | none => none
theorem rt_run_mono : ∀ (f m pc : Nat) (ls st : List Value) (h : rt_H) (r : rt_Res), rt_run f m pc ls st h = some r → rt_run (f + 1) m pc ls st h = some r := by
  intro f
  induction f with
  | zero => intro m pc ls st h r e; exact absurd e (by simp [rt_run])
  | succ f ih =>
    intro m pc ls st h r e
    rw [rt_run] at e ⊢
    split at e
    · exact absurd e (by simp)
    · exact e
    · exact ih _ _ _ _ _ _ e
    · split at e
      · rename_i hq
        rw [ih _ _ _ _ _ _ hq]
        exact ih _ _ _ _ _ _ e
      · exact absurd e (by simp)
theorem rt_run_le {f g m pc : Nat} {ls st : List Value} {h : rt_H} {r : rt_Res} (hg : f ≤ g) (e : rt_run f m pc ls st h = some r) : rt_run g m pc ls st h = some r := by
  obtain ⟨d, rfl⟩ : ∃ d, g = f + d := ⟨g - f, by omega⟩
  clear hg
  induction d with
  | zero => exact e
  | succ d ih => exact rt_run_mono _ _ _ _ _ _ _ ih
/-- the outcome, however long it takes; none: none comes -/
noncomputable def Ev (m pc : Nat) (ls st : List Value) (h : rt_H) : Option rt_Res := by
  classical
  exact if e : ∃ r f, rt_run f m pc ls st h = some r then some (Classical.choose e) else none
theorem Ev_iff {m pc : Nat} {ls st : List Value} {h : rt_H} {r : rt_Res} : Ev m pc ls st h = some r ↔ ∃ f, rt_run f m pc ls st h = some r := by
  unfold Ev
  constructor
  · intro e
    split at e
    · rename_i hx
      cases e
      exact Classical.choose_spec hx
    · cases e
  · rintro ⟨f, e⟩
    have hx : ∃ r f, rt_run f m pc ls st h = some r := ⟨r, f, e⟩
    rw [dif_pos hx]
    obtain ⟨g, e2⟩ := Classical.choose_spec hx
    have a1 := rt_run_le (Nat.le_max_left f g) e
    have a2 := rt_run_le (Nat.le_max_right f g) e2
    rw [← a2, a1]
theorem Ev_none {m pc : Nat} {ls st : List Value} {h : rt_H} (e : ∀ f, rt_run f m pc ls st h = none) : Ev m pc ls st h = none := by
  unfold Ev
  rw [dif_neg]
  rintro ⟨r, f, hf⟩
  rw [e f] at hf
  cases hf
theorem Ev_ext {m pc m2 pc2 : Nat} {ls st ls2 st2 : List Value} {h h2 : rt_H} (e : ∀ r, (∃ f, rt_run f m pc ls st h = some r) ↔ ∃ f, rt_run f m2 pc2 ls2 st2 h2 = some r) : Ev m pc ls st h = Ev m2 pc2 ls2 st2 h2 := by
  cases a : Ev m2 pc2 ls2 st2 h2 with
  | some r => exact Ev_iff.mpr ((e r).mpr (Ev_iff.mp a))
  | none =>
    cases b : Ev m pc ls st h with
    | none => rfl
    | some r => rw [Ev_iff.mpr ((e r).mp (Ev_iff.mp b))] at a; cases a
theorem Ev_go {m pc pc2 : Nat} {ls st ls2 st2 : List Value} {h h2 : rt_H} (e : rt_act m pc ls st h = some (.inr (.inl (pc2, ls2, st2, h2)))) : Ev m pc ls st h = Ev m pc2 ls2 st2 h2 := by
  refine Ev_ext fun r => ⟨?_, ?_⟩
  · rintro ⟨f, hf⟩
    cases f with
    | zero => exact absurd hf (by simp [rt_run])
    | succ f => rw [rt_run, e] at hf; exact ⟨f, hf⟩
  · rintro ⟨f, hf⟩
    exact ⟨f + 1, by rw [rt_run, e]; exact hf⟩
theorem Ev_ret {m pc : Nat} {ls st : List Value} {h : rt_H} {r : rt_Res} (e : rt_act m pc ls st h = some (.inl r)) : Ev m pc ls st h = some r := Ev_iff.mpr ⟨1, by rw [rt_run, e]⟩
theorem Ev_call {m pc m2 : Nat} {ls st as rr : List Value} {h : rt_H} (e : rt_act m pc ls st h = some (.inr (.inr (m2, as, rr)))) : Ev m pc ls st h = (Ev m2 0 (rt_ini m2 as) [] h).bind (fun q => Ev m (pc + 3) ls (q.1.toList ++ rr) q.2) := by
  have key : ∀ r, (∃ f, rt_run f m pc ls st h = some r) ↔ ∃ v h2, (∃ f, rt_run f m2 0 (rt_ini m2 as) [] h = some (v, h2)) ∧ ∃ f, rt_run f m (pc + 3) ls (v.toList ++ rr) h2 = some r := by
    intro r
    constructor
    · rintro ⟨f, hf⟩
      cases f with
      | zero => exact absurd hf (by simp [rt_run])
      | succ f =>
        rw [rt_run, e] at hf
        dsimp only at hf
        split at hf
        · rename_i v h2 hq
          exact ⟨v, h2, ⟨f, hq⟩, ⟨f, hf⟩⟩
        · cases hf
    · rintro ⟨v, h2, ⟨f, hf⟩, ⟨g, hg⟩⟩
      refine ⟨max f g + 1, ?_⟩
      rw [rt_run, e]
      dsimp only
      rw [rt_run_le (Nat.le_max_left f g) hf]
      exact rt_run_le (Nat.le_max_right f g) hg
  cases a : Ev m2 0 (rt_ini m2 as) [] h with
  | none =>
    show _ = none
    cases b : Ev m pc ls st h with
    | none => rfl
    | some r =>
      obtain ⟨v, h2, hv, -⟩ := (key r).mp (Ev_iff.mp b)
      rw [Ev_iff.mpr hv] at a
      cases a
  | some q =>
    show _ = Ev m (pc + 3) ls (q.1.toList ++ rr) q.2
    obtain ⟨v, h2⟩ := q
    cases b : Ev m (pc + 3) ls (v.toList ++ rr) h2 with
    | some r => exact Ev_iff.mpr ((key r).mpr ⟨v, h2, Ev_iff.mp a, Ev_iff.mp b⟩)
    | none =>
      cases c : Ev m pc ls st h with
      | none => rfl
      | some r =>
        obtain ⟨v', h2', hv, hr⟩ := (key r).mp (Ev_iff.mp c)
        have hv' := Ev_iff.mpr hv
        rw [a] at hv'
        cases hv'
        rw [Ev_iff.mpr hr] at b
        cases b
