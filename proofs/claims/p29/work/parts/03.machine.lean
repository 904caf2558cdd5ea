/-- an instruction's length is its own -/
def ai_lk (q : Instr × Nat) : Bool := match q.1 with
  | .iconst _ | .lconst _ | .iload_n _ | .lload_n _ | .aload_n _ | .istore_n _ | .lstore_n _ | .astore_n _ | .iadd | .isub | .imul | .iand | .ior | .ishl | .ishr | .ineg | .l2i | .idiv | .irem | .ladd | .lsub | .lmul | .ldiv | .lcmp | .i2l | .dup | .dup2 | .iaload | .laload | .baload | .aaload | .iastore | .lastore | .bastore | .aastore | .arraylength | .return_ | .ireturn | .lreturn | .athrow => q.2 == 1
  | .bipush _ | .ldc _ | .iload _ | .lload _ | .aload _ | .istore _ | .lstore _ | .astore _ | .newarray _ => q.2 == 2
  | .sipush _ | .ldc_w _ | .ldc2_w _ | .iinc _ _ | .getfield _ | .putfield _ | .goto _ | .ifCond _ _ | .if_icmp _ _ | .invokevirtual _ | .invokestatic _ | .invokespecial _ | .new _ | .anewarray _ => q.2 == 3
  | .tableswitch _ _ _ _ => true
  | _ => false
def ai_at (m pc : Nat) : Option (Instr × Nat) := match decode (ai_by m) pc with
  | .ok q => if ai_lk q = true then some q else none
  | .error _ => none
def ai_kv (R : ai_R) (h : ai_H) (t i k : Nat) : Nat → Option ai_V
  | 0 => some (ai_i (ai_gI h t i k))
  | 1 => some (ai_j (ai_gJ h t i k))
  | 2 => (R t i k).map fun q => ai_r q.1 q.2
  | _ => some (ai_i (ai_gI h t i k))
/-- getfield -/
def ai_gf (w idx n : Nat) (R : ai_R) (h : ai_H) (t i : Nat) : Option ai_V := match ai_fl w idx with
  | some (c, k, f) => if ai_ko t = some c ∧ ai_al n t i = true then ai_kv R h t i k f else none
  | none => none
/-- putfield: of its kind, the value goes in -/
def ai_pv (R : ai_R) (h : ai_H) (t i k : Nat) : Nat → ai_V → Option (ai_R × ai_H)
  | 0, Sum.inl x => some (R, ai_wI h t i k x)
  | 1, Sum.inr (Sum.inl x) => some (R, ai_wJ h t i k x)
  | 2, Sum.inr (Sum.inr q) => some (ai_wR R t i k (some q), h)
  | 3, Sum.inl x => if x = 0 ∨ x = 1 then some (R, ai_wI h t i k x) else none
  | _, _ => none
def ai_pf (m idx n : Nat) (R : ai_R) (h : ai_H) (t i : Nat) (v : ai_V) : Option (ai_R × ai_H) := match ai_fp m idx with
  | some (c, k, f) => if ai_ko t = some c ∧ ai_al n t i = true then ai_pv R h t i k f v else none
  | none => none
def ai_ald (o : Option Nat) (n t i : Nat) (x : Int32) : Option Nat := match o with
  | some len => if ai_al n t i = true then ai_ix x len else none
  | none => none
/-- places of arrays of ints, of longs: those that the law makes later have the tags 91 (ten ints) and 90 (five longs), their number is how far they lie from the first cell, and the tag 98 notes what lies there -/
def ai_is (n : Nat) (h : ai_H) (t i : Nat) (x : Int32) : Option Nat := if t = 91 then (if ai_gI h 98 i 0 = 91 then ai_ix x 10 else none) else ai_ald (ai_ki t) n t i x
def ai_js (n : Nat) (h : ai_H) (t i : Nat) (x : Int32) : Option Nat := if t = 90 then (if ai_gI h 98 i 0 = 90 then ai_ix x 5 else none) else ai_ald (ai_kj t) n t i x
/-- iaload: the script's cell is of its own -/
def ai_il (n L : Nat) (h : ai_H) (t i : Nat) (x : Int32) : Option Int32 := if t = ai_sc then (ai_ix x L).map (fun j => ai_gI h t 0 j) else (ai_is n h t i x).map fun j => ai_gI h t i j
def ai_len (n L t i : Nat) : Option Int32 := if t = ai_sc then some (Int32.ofNat L) else match ai_ki t with
  | some len => if ai_al n t i = true then some (Int32.ofNat len) else none
  | none => none
def ai_min (x y : Int32) : Int32 := if y < x then y else x
def ai_minL (x y : Int64) : Int64 := if y < x then y else x
def ai_maxL (x y : Int64) : Int64 := if y < x then x else y
/-- Math's -/
def ai_mm (f : Nat) (s : List ai_V) : Option (List ai_V) := match f, s with
  | 0, Sum.inl y :: Sum.inl x :: s => if s.length ≤ 4 then some (ai_i (ai_min x y) :: s) else none
  | 1, Sum.inr (Sum.inl y) :: Sum.inr (Sum.inl x) :: s => if s.length ≤ 4 then some (ai_j (ai_minL x y) :: s) else none
  | 2, Sum.inr (Sum.inl y) :: Sum.inr (Sum.inl x) :: s => if s.length ≤ 4 then some (ai_j (ai_maxL x y) :: s) else none
  | _, _ => none
def ai_one : ai_V → Bool
  | Sum.inr (Sum.inl _) => false
  | _ => true
/-- the room of a call, of one of Math's or of an object's beginning, of a throw -/
def ai_okr (m y : Nat) : Bool := decide (ai_fr y + 1 ≤ ai_fr m ∧ 19 + ai_mx y + ai_lo y ≤ ai_lo m)
def ai_okm (m : Nat) : Bool := decide (1 ≤ ai_fr m ∧ 23 ≤ ai_lo m)
def ai_okt (m : Nat) : Bool := decide (6 ≤ ai_fr m ∧ 82 ≤ ai_lo m)
/-- what goes on to the next instruction, and makes no cell -/
def ai_ex (m : Nat) (i : Instr) (ls : ai_L) (s : List ai_V) (z : ai_Z) (h : ai_H) : Option (ai_L × List ai_V × ai_R × ai_H) := match i with
  | .iconst c => some (ls, ai_i (Int32.ofInt c) :: s, z.2.2.2, h)
  | .bipush c => some (ls, ai_i (Int8.ofInt c).toInt32 :: s, z.2.2.2, h)
  | .sipush c => some (ls, ai_i (Int16.ofInt c).toInt32 :: s, z.2.2.2, h)
  | .lconst c => some (ls, ai_j (Int64.ofNat c) :: s, z.2.2.2, h)
  | .ldc idx => (ai_ci (m / 100) idx).map fun v => (ls, ai_i v :: s, z.2.2.2, h)
  | .ldc_w idx => (ai_ci (m / 100) idx).map fun v => (ls, ai_i v :: s, z.2.2.2, h)
  | .ldc2_w idx => (ai_cj (m / 100) idx).map fun v => (ls, ai_j v :: s, z.2.2.2, h)
  | .iload k => (ai_ldi ls k).map fun v => (ls, ai_i v :: s, z.2.2.2, h)
  | .iload_n k => (ai_ldi ls k).map fun v => (ls, ai_i v :: s, z.2.2.2, h)
  | .lload k => (ai_ldj ls k).map fun v => (ls, ai_j v :: s, z.2.2.2, h)
  | .lload_n k => (ai_ldj ls k).map fun v => (ls, ai_j v :: s, z.2.2.2, h)
  | .aload k => (ai_ldr ls k).map fun v => (ls, ai_r v.1 v.2 :: s, z.2.2.2, h)
  | .aload_n k => (ai_ldr ls k).map fun v => (ls, ai_r v.1 v.2 :: s, z.2.2.2, h)
  | .istore k => match s with
    | Sum.inl x :: s => (ai_st1 ls k (ai_i x)).map fun l => (l, s, z.2.2.2, h)
    | _ => none
  | .istore_n k => match s with
    | Sum.inl x :: s => (ai_st1 ls k (ai_i x)).map fun l => (l, s, z.2.2.2, h)
    | _ => none
  | .lstore k => match s with
    | Sum.inr (Sum.inl x) :: s => (ai_st2 ls k (ai_j x)).map fun l => (l, s, z.2.2.2, h)
    | _ => none
  | .lstore_n k => match s with
    | Sum.inr (Sum.inl x) :: s => (ai_st2 ls k (ai_j x)).map fun l => (l, s, z.2.2.2, h)
    | _ => none
  | .astore k => match s with
    | Sum.inr (Sum.inr x) :: s => (ai_st1 ls k (ai_r x.1 x.2)).map fun l => (l, s, z.2.2.2, h)
    | _ => none
  | .astore_n k => match s with
    | Sum.inr (Sum.inr x) :: s => (ai_st1 ls k (ai_r x.1 x.2)).map fun l => (l, s, z.2.2.2, h)
    | _ => none
  | .iinc k c => match ai_ldi ls k with
    | some x => (ai_st1 ls k (ai_i (x + Int32.ofInt c))).map fun l => (l, s, z.2.2.2, h)
    | none => none
  | .iadd => match s with
    | Sum.inl y :: Sum.inl x :: s => some (ls, ai_i (x + y) :: s, z.2.2.2, h)
    | _ => none
  | .isub => match s with
    | Sum.inl y :: Sum.inl x :: s => some (ls, ai_i (x - y) :: s, z.2.2.2, h)
    | _ => none
  | .imul => match s with
    | Sum.inl y :: Sum.inl x :: s => some (ls, ai_i (x * y) :: s, z.2.2.2, h)
    | _ => none
  | .iand => match s with
    | Sum.inl y :: Sum.inl x :: s => some (ls, ai_i (x &&& y) :: s, z.2.2.2, h)
    | _ => none
  | .ior => match s with
    | Sum.inl y :: Sum.inl x :: s => some (ls, ai_i (x ||| y) :: s, z.2.2.2, h)
    | _ => none
  | .ishl => match s with
    | Sum.inl y :: Sum.inl x :: s => some (ls, ai_i (x <<< (y &&& 31)) :: s, z.2.2.2, h)
    | _ => none
  | .ishr => match s with
    | Sum.inl y :: Sum.inl x :: s => some (ls, ai_i (x >>> (y &&& 31)) :: s, z.2.2.2, h)
    | _ => none
  | .ineg => match s with
    | Sum.inl x :: s => some (ls, ai_i (-x) :: s, z.2.2.2, h)
    | _ => none
  | .l2i => match s with
    | Sum.inr (Sum.inl x) :: s => some (ls, ai_i x.toInt32 :: s, z.2.2.2, h)
    | _ => none
  | .idiv => match s with
    | Sum.inl y :: Sum.inl x :: s => if y = 0 then none else some (ls, ai_i (x / y) :: s, z.2.2.2, h)
    | _ => none
  | .irem => match s with
    | Sum.inl y :: Sum.inl x :: s => if y = 0 then none else some (ls, ai_i (x - x / y * y) :: s, z.2.2.2, h)
    | _ => none
  | .ladd => match s with
    | Sum.inr (Sum.inl y) :: Sum.inr (Sum.inl x) :: s => some (ls, ai_j (x + y) :: s, z.2.2.2, h)
    | _ => none
  | .lsub => match s with
    | Sum.inr (Sum.inl y) :: Sum.inr (Sum.inl x) :: s => some (ls, ai_j (x - y) :: s, z.2.2.2, h)
    | _ => none
  | .lmul => match s with
    | Sum.inr (Sum.inl y) :: Sum.inr (Sum.inl x) :: s => some (ls, ai_j (x * y) :: s, z.2.2.2, h)
    | _ => none
  | .ldiv => match s with
    | Sum.inr (Sum.inl y) :: Sum.inr (Sum.inl x) :: s => if y = 0 then none else some (ls, ai_j (x / y) :: s, z.2.2.2, h)
    | _ => none
  | .lcmp => match s with
    | Sum.inr (Sum.inl y) :: Sum.inr (Sum.inl x) :: s => some (ls, ai_i (lg_cmp x y) :: s, z.2.2.2, h)
    | _ => none
  | .i2l => match s with
    | Sum.inl x :: s => some (ls, ai_j x.toInt64 :: s, z.2.2.2, h)
    | _ => none
  | .dup => match s with
    | x :: s => if ai_one x = true then some (ls, x :: x :: s, z.2.2.2, h) else none
    | _ => none
  | .dup2 => match s with
    | x :: y :: s => if ai_one x = true ∧ ai_one y = true then some (ls, x :: y :: x :: y :: s, z.2.2.2, h) else none
    | _ => none
  | .getfield idx => match s with
    | Sum.inr (Sum.inr q) :: s => (ai_gf (m / 100) idx z.1 z.2.2.2 h q.1 q.2).map fun v => (ls, v :: s, z.2.2.2, h)
    | _ => none
  | .putfield idx => match s with
    | v :: Sum.inr (Sum.inr q) :: s => (ai_pf m idx z.1 z.2.2.2 h q.1 q.2 v).map fun g => (ls, s, g.1, g.2)
    | _ => none
  | .iaload => match s with
    | Sum.inl x :: Sum.inr (Sum.inr q) :: s => (ai_il z.1 z.2.2.1 h q.1 q.2 x).map fun v => (ls, ai_i v :: s, z.2.2.2, h)
    | _ => none
  | .laload => match s with
    | Sum.inl x :: Sum.inr (Sum.inr q) :: s => (ai_js z.1 h q.1 q.2 x).map fun j => (ls, ai_j (ai_gJ h q.1 q.2 j) :: s, z.2.2.2, h)
    | _ => none
  | .baload => match s with
    | Sum.inl x :: Sum.inr (Sum.inr q) :: s => (ai_ald (ai_kz q.1) z.1 q.1 q.2 x).map fun j => (ls, ai_i (ai_gI h q.1 q.2 j) :: s, z.2.2.2, h)
    | _ => none
  | .aaload => match s with
    | Sum.inl x :: Sum.inr (Sum.inr q) :: s => match ai_ald ((ai_kr q.1).map fun r => r.2) z.1 q.1 q.2 x with
      | some j => (z.2.2.2 q.1 q.2 j).map fun v => (ls, ai_r v.1 v.2 :: s, z.2.2.2, h)
      | none => none
    | _ => none
  | .iastore => match s with
    | Sum.inl v :: Sum.inl x :: Sum.inr (Sum.inr q) :: s => (ai_is z.1 h q.1 q.2 x).map fun j => (ls, s, z.2.2.2, ai_wI h q.1 q.2 j v)
    | _ => none
  | .lastore => match s with
    | Sum.inr (Sum.inl v) :: Sum.inl x :: Sum.inr (Sum.inr q) :: s => (ai_js z.1 h q.1 q.2 x).map fun j => (ls, s, z.2.2.2, ai_wJ h q.1 q.2 j v)
    | _ => none
  | .bastore => match s with
    | Sum.inl v :: Sum.inl x :: Sum.inr (Sum.inr q) :: s => if v = 0 ∨ v = 1 then (ai_ald (ai_kz q.1) z.1 q.1 q.2 x).map fun j => (ls, s, z.2.2.2, ai_wI h q.1 q.2 j v) else none
    | _ => none
  | .aastore => match s with
    | Sum.inr (Sum.inr v) :: Sum.inl x :: Sum.inr (Sum.inr q) :: s => match ai_kr q.1 with
      | some r => if ai_ko v.1 = some r.1 ∧ ai_al z.1 v.1 v.2 = true then (ai_ald (some r.2) z.1 q.1 q.2 x).map fun j => (ls, s, ai_wR z.2.2.2 q.1 q.2 j (some v), h) else none
      | none => none
    | _ => none
  | .arraylength => match s with
    | Sum.inr (Sum.inr q) :: s => (ai_len z.1 z.2.2.1 q.1 q.2).map fun v => (ls, ai_i v :: s, z.2.2.2, h)
    | _ => none
  | .invokestatic idx => match ai_mt (m / 100) idx with
    | some f => if ai_okm m = true then (ai_mm f s).map fun s => (ls, s, z.2.2.2, h) else none
    | none => none
  | .invokespecial idx => match s with
    | Sum.inr (Sum.inr _) :: s => if ai_ob (m / 100) idx = true ∧ ai_okm m = true ∧ s.length ≤ 4 then some (ls, s, z.2.2.2, h) else none
    | _ => none
  | _ => none
def ai_tg (pc : Nat) (off : Int) : Nat := ((pc : Int) + off).toNat
def ai_tk (pc : Nat) (off : Int) : Bool := decide (0 ≤ (pc : Int) + off)
def ai_c1 (c : ClassFile.Cond) (x : Int32) : Prop := match c with
  | .eq => x = 0
  | .ne => ¬ x = 0
  | .lt => x < 0
  | .ge => 0 ≤ x
  | .gt => 0 < x
  | .le => x ≤ 0
def ai_c2 (c : ClassFile.Cond) (x y : Int32) : Prop := match c with
  | .eq => x = y
  | .ne => ¬ x = y
  | .lt => x < y
  | .ge => y ≤ x
  | .gt => y < x
  | .le => x ≤ y
def ai_d1 (c : ClassFile.Cond) (x : Int32) : Decidable (ai_c1 c x) := by cases c <;> (unfold ai_c1; infer_instance)
def ai_d2 (c : ClassFile.Cond) (x y : Int32) : Decidable (ai_c2 c x y) := by cases c <;> (unfold ai_c2; infer_instance)
/-- an instruction that jumps -/
def ai_jp (i : Instr) (len pc : Nat) (s : List ai_V) : Option (Nat × List ai_V) := match i with
  | .goto off => if ai_tk pc off = true then some (ai_tg pc off, s) else none
  | .ifCond c off => match s with
    | Sum.inl x :: s => if ai_tk pc off = true then some (@ite _ (ai_c1 c x) (ai_d1 c x) (ai_tg pc off) (pc + len), s) else none
    | _ => none
  | .if_icmp c off => match s with
    | Sum.inl y :: Sum.inl x :: s => if ai_tk pc off = true then some (@ite _ (ai_c2 c x y) (ai_d2 c x y) (ai_tg pc off) (pc + len), s) else none
    | _ => none
  | .tableswitch d lo hi offs => match s with
    | Sum.inl x :: s => if x.toInt < lo ∨ hi < x.toInt then (if ai_tk pc d = true then some (ai_tg pc d, s) else none) else
        match offs[(x.toInt - lo).toNat]? with
        | some off => if ai_tk pc off = true then some (ai_tg pc off, s) else none
        | none => none
    | _ => none
  | _ => none
/-- a return -/
def ai_rt (m : Nat) (i : Instr) (s : List ai_V) : Option (Option ai_V) := match i, s with
  | .return_, [] => if ai_rk m = 0 then some none else none
  | .ireturn, [Sum.inl x] => if ai_rk m = 1 ∨ (ai_rk m = 2 ∧ (x = 0 ∨ x = 1)) then some (some (ai_i x)) else none
  | .lreturn, [Sum.inr (Sum.inl x)] => if ai_rk m = 3 then some (some (ai_j x)) else none
  | _, _ => none
/-- a cell is made: the next one of the order -/
def ai_nw (m : Nat) (i : Instr) (s : List ai_V) (z : ai_Z) : Option ((Nat × Nat) × List ai_V) := match i with
  | .new idx => match ai_nc (m / 100) idx with
    | some c => if ai_ko (ai_or z.1).1 = some c ∧ z.2.1 = 0 ∧ z.1 < ai_N then some (ai_or z.1, s) else none
    | none => none
  | .newarray a => match s with
    | Sum.inl x :: s => match ai_ak a (ai_or z.1).1 with
      | some len => if x.toInt = (len : Int) ∧ z.2.1 = 0 ∧ z.1 < ai_N then some (ai_or z.1, s) else none
      | none => none
    | _ => none
  | .anewarray idx => match s with
    | Sum.inl x :: s => match ai_na (m / 100) idx, ai_kr (ai_or z.1).1 with
      | some c, some r => if c = r.1 ∧ x.toInt = (r.2 : Int) ∧ z.2.1 = 0 ∧ z.1 < ai_N then some (ai_or z.1, s) else none
      | _, _ => none
    | _ => none
  | _ => none
/-- the arrays that the law makes later -/
def ai_nd (i : Instr) (s : List ai_V) : Option (Nat × List ai_V) := match i, s with
  | .newarray .long, Sum.inl x :: s => if x = 5 then some (90, s) else none
  | .newarray .int, Sum.inl x :: s => if x = 10 then some (91, s) else none
  | _, _ => none
def ai_hd2 (h : ai_H) (t o : Nat) : ai_H := ai_wI (ai_zH h t o) 98 o 0 (Int32.ofNat t)
/-- 'throw new E(..)' begins here -/
def ai_th (m pc : Nat) (i : Instr) : Option Nat := match i with
  | .new _ => if ai_okt m = true then ai_xt m pc else none
  | _ => none
/-- who is called is there -/
def ai_rc (i : Instr) (y n : Nat) (a : List ai_V) : Bool := match i, a with
  | .invokevirtual _, Sum.inr (Sum.inr q) :: _ => decide (ai_ko q.1 = some (y / 100)) && ai_al n q.1 q.2
  | .invokespecial _, Sum.inr (Sum.inr _) :: _ => true
  | .invokestatic _, _ => true
  | _, _ => false
/-- a call: whom, with what, what stays -/
def ai_cl (m : Nat) (i : Instr) (s : List ai_V) (k : Nat) : Option (Nat × List ai_V × List ai_V) := match ai_ct (m / 100) i with
  | some (y, n) => if ai_okr m y = true ∧ n ≤ s.length ∧ s.length ≤ n + 4 ∧ ai_rc i y k (s.take n).reverse = true then some (y, (s.take n).reverse, s.drop n) else none
  | none => none
/-- the locals at a method's entry -/
def ai_e0 : List ai_V → ai_L
  | [] => []
  | v :: vs => if ai_wide (some v) = true then some v :: none :: ai_e0 vs else some v :: ai_e0 vs
def ai_en (y : Nat) (vs : List ai_V) : ai_L := ai_e0 vs ++ List.replicate (ai_mx y - (ai_e0 vs).length) none
def ai_bd (f : Nat → Nat → ai_L → List ai_V → ai_Z → ai_H → Option ai_A) (m pc : Nat) (ls : ai_L) (s : List ai_V) (z : ai_Z) (h : ai_H) : Option ai_A := match ai_at m pc with
    | none => none
    | some (i, len) => match ai_ex m i ls s z h with
      | some (ls', s', R', h') => f m (pc + len) ls' s' (z.1, z.2.1, z.2.2.1, R') h'
      | none => match ai_jp i len pc s with
        | some (pc', s') => f m pc' ls s' z h
        | none => match ai_rt m i s with
          | some v => some (Sum.inl v, z, h)
          | none => match ai_nw m i s z with
            | some (q, s') => f m (pc + len) ls (ai_r q.1 q.2 :: s') (z.1 + 1, z.2.1, z.2.2.1, ai_zR z.2.2.2 q.1 q.2) (ai_zH h q.1 q.2)
            | none => match ai_nd i s with
             | some (t, s') => f m (pc + len) ls (ai_r t (z.1 + z.2.1) :: s') (z.1, z.2.1 + 1, z.2.2) (ai_hd2 h t (z.1 + z.2.1))
             | none => match ai_th m pc i with
              | some E => if s = [] then some (Sum.inr E, (z.1, z.2.1 + 1, z.2.2), h) else none
              | none => match ai_cl m i s z.1 with
                | none => none
                | some (y, args, s') => if (ai_en y args).length = ai_mx y then match f y 0 (ai_en y args) [] z h with
                    | none => none
                    | some (Sum.inl v, z', h') => f m (pc + 3) ls (v.toList ++ s') z' h'
                    | some (Sum.inr E, z', h') => match ai_hd m pc E with
                      | none => none
                      | some none => some (Sum.inr E, z', h')
                      | some (some (pc', k)) => if k < ls.length then f m pc' ((ai_cut ls k).set k none) [] z' h' else none
                  else none
def ai_run : Nat → Nat → Nat → ai_L → List ai_V → ai_Z → ai_H → Option ai_A
  | 0 => fun _ _ _ _ _ _ => none
  | n + 1 => ai_bd (ai_run n)
theorem ai_run_up : ∀ (n m pc : Nat) (ls : ai_L) (s : List ai_V) (z : ai_Z) (h : ai_H) (r : ai_A), ai_run n m pc ls s z h = some r → ai_run (n + 1) m pc ls s z h = some r
  | 0, _, _, _, _, _, _, _, hr => by cases hr
  | n + 1, m, pc, ls, s, z, h, r, hr => by
    change ai_bd (ai_run n) m pc ls s z h = some r at hr
    change ai_bd (ai_run (n + 1)) m pc ls s z h = some r
    revert hr
    unfold ai_bd
    cases ai_at m pc with
    | none => exact fun h => h
    | some q =>
    obtain ⟨i, len⟩ := q
    dsimp only
    cases ai_ex m i ls s z h with
    | some q => exact ai_run_up n _ _ _ _ _ _ _
    | none =>
    dsimp only
    cases ai_jp i len pc s with
    | some q => exact ai_run_up n _ _ _ _ _ _ _
    | none =>
    dsimp only
    cases ai_rt m i s with
    | some q => exact fun h => h
    | none =>
    dsimp only
    cases ai_nw m i s z with
    | some q => exact ai_run_up n _ _ _ _ _ _ _
    | none =>
    dsimp only
    cases ai_nd i s with
    | some q => exact ai_run_up n _ _ _ _ _ _ _
    | none =>
    dsimp only
    cases ai_th m pc i with
    | some q => exact fun h => h
    | none =>
    dsimp only
    cases ai_cl m i s z.1 with
    | none => exact fun h => h
    | some q =>
    obtain ⟨y, args, s'⟩ := q
    dsimp only
    by_cases hl : (ai_en y args).length = ai_mx y
    · rw [if_pos hl, if_pos hl]
      cases e8 : ai_run n y 0 (ai_en y args) [] z h with
      | none => exact fun h => nomatch h
      | some q =>
        obtain ⟨o, z', h'⟩ := q
        rw [ai_run_up n _ _ _ _ _ _ _ e8]
        cases o with
        | inl v => exact ai_run_up n _ _ _ _ _ _ _
        | inr E =>
          dsimp only
          cases ai_hd m pc E with
          | none => exact fun h => h
          | some w =>
            cases w with
            | none => exact fun h => h
            | some v =>
              obtain ⟨pc', k⟩ := v
              dsimp only
              by_cases hk : k < ls.length
              · rw [if_pos hk, if_pos hk]
                exact ai_run_up n _ _ _ _ _ _ _
              · rw [if_neg hk]
                exact fun h => nomatch h
    · rw [if_neg hl]
      exact fun h => nomatch h
theorem ai_run_le {n k m pc : Nat} {ls : ai_L} {s : List ai_V} {z : ai_Z} {h : ai_H} {r : ai_A} (hr : ai_run n m pc ls s z h = some r) (hk : n ≤ k) : ai_run k m pc ls s z h = some r := by
  obtain ⟨d, rfl⟩ := Nat.exists_eq_add_of_le hk
  induction d with
  | zero => exact hr
  | succ d ih => exact ai_run_up _ _ _ _ _ _ _ _ (ih (Nat.le_add_right _ _))
/-- from here the method comes to its end with r -/
def ai_X (m pc : Nat) (ls : ai_L) (s : List ai_V) (z : ai_Z) (h : ai_H) (r : ai_A) : Prop := ∃ n, ai_run n m pc ls s z h = some r
theorem ai_X_one {m pc : Nat} {ls : ai_L} {s : List ai_V} {z : ai_Z} {h : ai_H} {r r' : ai_A} (a : ai_X m pc ls s z h r) (b : ai_X m pc ls s z h r') : r = r' := by
  obtain ⟨n, hn⟩ := a
  obtain ⟨k, hk⟩ := b
  have h1 := ai_run_le hn (Nat.le_max_left n k)
  have h2 := ai_run_le hk (Nat.le_max_right n k)
  exact Option.some.inj (h1.symm.trans h2)
/-- a method, called -/
def ai_E (y : Nat) (args : List ai_V) (z : ai_Z) (h : ai_H) (r : ai_A) : Prop := ai_X y 0 (ai_en y args) [] z h r
theorem ai_E_iff {y : Nat} {args : List ai_V} {z : ai_Z} {h : ai_H} {r0 : ai_A} (a : ai_E y args z h r0) (r : ai_A) : ai_E y args z h r ↔ r = r0 := ⟨fun b => ai_X_one b a, fun e => e ▸ a⟩
theorem ai_at_of {m pc : Nat} {b : ByteArray} {q : Instr × Nat} (hb : ai_by m = b) (h : decode b pc = .ok q ∧ ai_lk q = true) : ai_at m pc = some q := by
  unfold ai_at
  rw [hb, h.1]
  exact if_pos h.2
theorem ai_at_is {m pc : Nat} {q : Instr × Nat} (h : ai_at m pc = some q) : decode (ai_by m) pc = .ok q ∧ ai_lk q = true := by
  unfold ai_at at h
  split at h
  · rename_i g
    split at h
    · rename_i k
      cases h
      exact ⟨g, k⟩
    · cases h
  · cases h
theorem ai_all {b : ByteArray} {l : List (Nat × Instr × Nat)} (h : l.all (fun q => decide (decode b q.1 = .ok q.2) && ai_lk q.2) = true) (k : Nat) {q : Nat × Instr × Nat} (hk : l[k]? = some q) : decode b q.1 = .ok q.2 ∧ ai_lk q.2 = true := by
  have h1 := List.all_eq_true.mp h q (List.mem_of_getElem? hk)
  rw [Bool.and_eq_true] at h1
  exact ⟨of_decide_eq_true h1.1, h1.2⟩
/-- one step at the head -/
theorem ai_X_next {m pc m' pc' : Nat} {ls ls' : ai_L} {s s' : List ai_V} {z z' : ai_Z} {h h' : ai_H} {r : ai_A} (e : ∀ n, ai_run (n + 1) m pc ls s z h = ai_run n m' pc' ls' s' z' h') : ai_X m pc ls s z h r ↔ ai_X m' pc' ls' s' z' h' r := by
  constructor
  · rintro ⟨n, hn⟩
    cases n with
    | zero => cases hn
    | succ n => exact ⟨n, by rw [← e]; exact hn⟩
  · rintro ⟨n, hn⟩
    exact ⟨n + 1, by rw [e]; exact hn⟩
/-- the same, stopped at the places sl -/
def ai_XS (_ : List Nat) (m pc : Nat) (ls : ai_L) (s : List ai_V) (z : ai_Z) (h : ai_H) (r : ai_A) : Prop := ai_X m pc ls s z h r
def ai_EC (m pc : Nat) (sl : List Nat) (ls : ai_L) (s' : List ai_V) (o : ai_O) (z' : ai_Z) (h' : ai_H) (r : ai_A) : Prop := match o with
  | Sum.inl v => ai_XS sl m (pc + 3) ls (v.toList ++ s') z' h' r
  | Sum.inr E => match ai_hd m pc E with
    | none => False
    | some none => r = (Sum.inr E, z', h')
    | some (some (pc', k)) => k < ls.length ∧ ai_XS sl m pc' ((ai_cut ls k).set k none) [] z' h' r
def ai_XE (sl : List Nat) (q : Option (Instr × Nat)) (m pc : Nat) (ls : ai_L) (s : List ai_V) (z : ai_Z) (h : ai_H) (r : ai_A) : Prop := match q with
  | none => False
  | some (i, len) => match ai_ex m i ls s z h with
    | some (ls', s', R', h') => ai_XS sl m (pc + len) ls' s' (z.1, z.2.1, z.2.2.1, R') h' r
    | none => match ai_jp i len pc s with
      | some (pc', s') => ai_XS sl m pc' ls s' z h r
      | none => match ai_rt m i s with
        | some v => r = (Sum.inl v, z, h)
        | none => match ai_nw m i s z with
          | some (q, s') => ai_XS sl m (pc + len) ls (ai_r q.1 q.2 :: s') (z.1 + 1, z.2.1, z.2.2.1, ai_zR z.2.2.2 q.1 q.2) (ai_zH h q.1 q.2) r
          | none => match ai_nd i s with
           | some (t, s') => ai_XS sl m (pc + len) ls (ai_r t (z.1 + z.2.1) :: s') (z.1, z.2.1 + 1, z.2.2) (ai_hd2 h t (z.1 + z.2.1)) r
           | none => match ai_th m pc i with
            | some E => s = [] ∧ r = (Sum.inr E, (z.1, z.2.1 + 1, z.2.2), h)
            | none => match ai_cl m i s z.1 with
              | none => False
              | some (y, args, s') => (ai_en y args).length = ai_mx y ∧ ∃ (o : ai_O) (z' : ai_Z) (h' : ai_H), ai_E y args z h (o, z', h') ∧ ai_EC m pc sl ls s' o z' h' r
theorem ai_X_eq (sl : List Nat) (m pc : Nat) (ls : ai_L) (s : List ai_V) (z : ai_Z) (h : ai_H) (r : ai_A) : ai_X m pc ls s z h r ↔ ai_XE sl (ai_at m pc) m pc ls s z h r := by
  have hun : ∀ n, ai_run (n + 1) m pc ls s z h = ai_bd (ai_run n) m pc ls s z h := fun n => rfl
  unfold ai_XE
  cases e1 : ai_at m pc with
  | none =>
    refine ⟨?_, False.elim⟩
    rintro ⟨n, hn⟩
    cases n with
    | zero => cases hn
    | succ n => rw [hun] at hn; unfold ai_bd at hn; rw [e1] at hn; cases hn
  | some q =>
    obtain ⟨i, len⟩ := q
    dsimp only
    cases e2 : ai_ex m i ls s z h with
    | some g =>
      obtain ⟨ls', s', R', h'⟩ := g
      exact ai_X_next fun n => by rw [hun]; unfold ai_bd; rw [e1]; dsimp only; rw [e2]
    | none =>
    dsimp only
    cases e3 : ai_jp i len pc s with
    | some g =>
      obtain ⟨pc', s'⟩ := g
      exact ai_X_next fun n => by rw [hun]; unfold ai_bd; rw [e1]; dsimp only; rw [e2]; dsimp only; rw [e3]
    | none =>
    dsimp only
    cases e4 : ai_rt m i s with
    | some v =>
      constructor
      · rintro ⟨n, hn⟩
        cases n with
        | zero => cases hn
        | succ n => rw [hun] at hn; unfold ai_bd at hn; rw [e1] at hn; dsimp only at hn; rw [e2] at hn; dsimp only at hn; rw [e3] at hn; dsimp only at hn; rw [e4] at hn; exact (Option.some.inj hn).symm
      · intro hr
        exact ⟨1, by rw [hun]; unfold ai_bd; rw [e1]; dsimp only; rw [e2]; dsimp only; rw [e3]; dsimp only; rw [e4]; dsimp only; rw [hr]⟩
    | none =>
    dsimp only
    cases e5 : ai_nw m i s z with
    | some g =>
      obtain ⟨q, s'⟩ := g
      exact ai_X_next fun n => by rw [hun]; unfold ai_bd; rw [e1]; dsimp only; rw [e2]; dsimp only; rw [e3]; dsimp only; rw [e4]; dsimp only; rw [e5]
    | none =>
    dsimp only
    cases e5b : ai_nd i s with
    | some g =>
      obtain ⟨t, s'⟩ := g
      exact ai_X_next fun n => by rw [hun]; unfold ai_bd; rw [e1]; dsimp only; rw [e2]; dsimp only; rw [e3]; dsimp only; rw [e4]; dsimp only; rw [e5]; dsimp only; rw [e5b]
    | none =>
    dsimp only
    cases e6 : ai_th m pc i with
    | some E =>
      constructor
      · rintro ⟨n, hn⟩
        cases n with
        | zero => cases hn
        | succ n =>
          rw [hun] at hn; unfold ai_bd at hn; rw [e1] at hn; dsimp only at hn; rw [e2] at hn; dsimp only at hn; rw [e3] at hn; dsimp only at hn; rw [e4] at hn; dsimp only at hn; rw [e5] at hn; dsimp only at hn; rw [e5b] at hn; dsimp only at hn; rw [e6] at hn; dsimp only at hn
          by_cases hs : s = []
          · rw [if_pos hs] at hn
            exact ⟨hs, (Option.some.inj hn).symm⟩
          · rw [if_neg hs] at hn; cases hn
      · rintro ⟨hs, hr⟩
        exact ⟨1, by rw [hun]; unfold ai_bd; rw [e1]; dsimp only; rw [e2]; dsimp only; rw [e3]; dsimp only; rw [e4]; dsimp only; rw [e5]; dsimp only; rw [e5b]; dsimp only; rw [e6]; dsimp only; rw [if_pos hs, hr]⟩
    | none =>
    dsimp only
    cases e7 : ai_cl m i s z.1 with
    | none =>
      refine ⟨?_, False.elim⟩
      rintro ⟨n, hn⟩
      cases n with
      | zero => cases hn
      | succ n => rw [hun] at hn; unfold ai_bd at hn; rw [e1] at hn; dsimp only at hn; rw [e2] at hn; dsimp only at hn; rw [e3] at hn; dsimp only at hn; rw [e4] at hn; dsimp only at hn; rw [e5] at hn; dsimp only at hn; rw [e5b] at hn; dsimp only at hn; rw [e6] at hn; dsimp only at hn; rw [e7] at hn; cases hn
    | some g =>
      obtain ⟨y, args, s'⟩ := g
      dsimp only
      have hun' : ∀ n, ai_run (n + 1) m pc ls s z h = if (ai_en y args).length = ai_mx y then match ai_run n y 0 (ai_en y args) [] z h with
            | none => none
            | some (Sum.inl v, z', h') => ai_run n m (pc + 3) ls (v.toList ++ s') z' h'
            | some (Sum.inr E, z', h') => match ai_hd m pc E with
              | none => none
              | some none => some (Sum.inr E, z', h')
              | some (some (pc', k)) => if k < ls.length then ai_run n m pc' ((ai_cut ls k).set k none) [] z' h' else none
          else none := fun n => by rw [hun]; unfold ai_bd; rw [e1]; dsimp only; rw [e2]; dsimp only; rw [e3]; dsimp only; rw [e4]; dsimp only; rw [e5]; dsimp only; rw [e5b]; dsimp only; rw [e6]; dsimp only; rw [e7]
      constructor
      · rintro ⟨n, hn⟩
        cases n with
        | zero => cases hn
        | succ n =>
          rw [hun'] at hn
          by_cases hl : (ai_en y args).length = ai_mx y
          · rw [if_pos hl] at hn
            refine ⟨hl, ?_⟩
            cases e8 : ai_run n y 0 (ai_en y args) [] z h with
            | none => rw [e8] at hn; cases hn
            | some g =>
              obtain ⟨o, z', h'⟩ := g
              refine ⟨o, z', h', ⟨n, e8⟩, ?_⟩
              rw [e8] at hn
              unfold ai_EC
              cases o with
              | inl v => exact ⟨n, hn⟩
              | inr E =>
                dsimp only at hn ⊢
                cases e9 : ai_hd m pc E with
                | none => rw [e9] at hn; cases hn
                | some w =>
                  rw [e9] at hn
                  cases w with
                  | none => exact (Option.some.inj hn).symm
                  | some v =>
                    obtain ⟨pc', k⟩ := v
                    dsimp only at hn ⊢
                    by_cases hk : k < ls.length
                    · rw [if_pos hk] at hn
                      exact ⟨hk, n, hn⟩
                    · rw [if_neg hk] at hn; cases hn
          · rw [if_neg hl] at hn; cases hn
      · rintro ⟨hl, o, z', h', ⟨n, e8⟩, hc⟩
        unfold ai_EC at hc
        cases o with
        | inl v =>
          obtain ⟨k, hk⟩ := hc
          refine ⟨max n k + 1, ?_⟩
          rw [hun', if_pos hl, ai_run_le e8 (Nat.le_max_left n k)]
          exact ai_run_le hk (Nat.le_max_right n k)
        | inr E =>
          dsimp only at hc
          cases e9 : ai_hd m pc E with
          | none => rw [e9] at hc; cases hc
          | some w =>
            rw [e9] at hc
            cases w with
            | none =>
              refine ⟨n + 1, ?_⟩
              rw [hun', if_pos hl, e8]
              dsimp only
              rw [e9]
              dsimp only at hc ⊢
              rw [hc]
            | some v =>
              obtain ⟨pc', j⟩ := v
              dsimp only at hc
              obtain ⟨hj, k, hk⟩ := hc
              refine ⟨max n k + 1, ?_⟩
              rw [hun', if_pos hl, ai_run_le e8 (Nat.le_max_left n k)]
              dsimp only
              rw [e9]
              dsimp only
              rw [if_pos hj]
              exact ai_run_le hk (Nat.le_max_right n k)
theorem ai_XS_eq (sl : List Nat) (m pc : Nat) (ls : ai_L) (s : List ai_V) (z : ai_Z) (h : ai_H) (r : ai_A) : ai_XS sl m pc ls s z h r ↔ if sl.contains pc = true then ai_X m pc ls s z h r else ai_XE sl (ai_at m pc) m pc ls s z h r := by
  split
  · exact Iff.rfl
  · exact ai_X_eq sl m pc ls s z h r
