/-! A small machine over the same instructions: numbers for addresses, lists for cells. Its tables (am_code, am_stat, am_pos, am_fty, am_new, am_gst, am_lc, am_tgt, am_arg, am_ent, am_hnd, am_cast) are printed by a program of mine, ahead of this part. An address below 1000 is a cell that stood at the start (am_stat), one from 1000 on is a cell that was made since. -/
def am_at (h : am_H) (k : Nat) : Option am_C := if k < 1000 then am_stat[k]? else h[k - 1000]?
def am_ld (lv : am_L) (i : Nat) : Option Value := match lv[i]? with
  | some (some v) => some v
  | _ => none
def am_isL (v : Option (Option Value)) : Bool := match v with
  | some (some (.long _)) => true
  | some (some (.double _)) => true
  | _ => false
/-- no long stands right ahead of place i -/
def am_fr (lv : am_L) (i : Nat) : Bool := match i with
  | 0 => true
  | j + 1 => !am_isL lv[j]?
def am_s1 (lv : am_L) (i : Nat) (v : Value) : Option am_L := if i < lv.length ∧ am_fr lv i = true then some (lv.set i (some v)) else none
def am_s2 (lv : am_L) (i : Nat) (v : Value) : Option am_L := if i + 1 < lv.length ∧ am_fr lv i = true then some ((lv.set i (some v)).set (i + 1) none) else none
/-- constants and loads: the value that is pushed -/
def am_push (mi : Nat) (i : Instr) (lv : am_L) : Option Value := match i with
  | .iconst n => some (.int (Int32.ofInt n))
  | .bipush n => some (.int (Int8.ofInt n).toInt32)
  | .sipush n => some (.int (Int16.ofInt n).toInt32)
  | .lconst n => some (.long (Int64.ofNat n.val))
  | .aconst_null => some .null
  | .ldc2_w k => (am_lc mi k).map Value.long
  | .iload k => match am_ld lv k with
    | some (.int x) => some (.int x)
    | _ => none
  | .iload_n k => match am_ld lv k.val with
    | some (.int x) => some (.int x)
    | _ => none
  | .lload k => match am_ld lv k with
    | some (.long x) => some (.long x)
    | _ => none
  | .lload_n k => match am_ld lv k.val with
    | some (.long x) => some (.long x)
    | _ => none
  | .aload k => match am_ld lv k with
    | some (.ref x) => some (.ref x)
    | some .null => some .null
    | _ => none
  | .aload_n k => match am_ld lv k.val with
    | some (.ref x) => some (.ref x)
    | some .null => some .null
    | _ => none
  | _ => none
/-- stores into locals -/
def am_sto (i : Instr) (lv : am_L) (st : List Value) : Option (am_L × List Value) := match i with
  | .istore k => match st with
    | .int x :: r => (am_s1 lv k (.int x)).map (fun l => (l, r))
    | _ => none
  | .istore_n k => match st with
    | .int x :: r => (am_s1 lv k.val (.int x)).map (fun l => (l, r))
    | _ => none
  | .lstore k => match st with
    | .long x :: r => (am_s2 lv k (.long x)).map (fun l => (l, r))
    | _ => none
  | .lstore_n k => match st with
    | .long x :: r => (am_s2 lv k.val (.long x)).map (fun l => (l, r))
    | _ => none
  | .astore k => match st with
    | .ref x :: r => (am_s1 lv k (.ref x)).map (fun l => (l, r))
    | .null :: r => (am_s1 lv k .null).map (fun l => (l, r))
    | _ => none
  | .astore_n k => match st with
    | .ref x :: r => (am_s1 lv k.val (.ref x)).map (fun l => (l, r))
    | .null :: r => (am_s1 lv k.val .null).map (fun l => (l, r))
    | _ => none
  | .iinc k n => match am_ld lv k with
    | some (.int x) => (am_s1 lv k (.int (x + Int32.ofInt n))).map (fun l => (l, st))
    | _ => none
  | _ => none
/-- arithmetic and the stack -/
def am_ari (i : Instr) (st : List Value) : Option (List Value) := match i with
  | .iadd => match st with
    | .int y :: .int x :: r => some (.int (x + y) :: r)
    | _ => none
  | .isub => match st with
    | .int y :: .int x :: r => some (.int (x - y) :: r)
    | _ => none
  | .imul => match st with
    | .int y :: .int x :: r => some (.int (x * y) :: r)
    | _ => none
  | .iand => match st with
    | .int y :: .int x :: r => some (.int (x &&& y) :: r)
    | _ => none
  | .ior => match st with
    | .int y :: .int x :: r => some (.int (x ||| y) :: r)
    | _ => none
  | .ixor => match st with
    | .int y :: .int x :: r => some (.int (x ^^^ y) :: r)
    | _ => none
  | .idiv => match st with
    | .int y :: .int x :: r => if y = 0 then none else some (.int (x / y) :: r)
    | _ => none
  | .irem => match st with
    | .int y :: .int x :: r => if y = 0 then none else some (.int (x - x / y * y) :: r)
    | _ => none
  | .ineg => match st with
    | .int x :: r => some (.int (-x) :: r)
    | _ => none
  | .ishl => match st with
    | .int y :: .int x :: r => some (.int (x <<< (y &&& 31)) :: r)
    | _ => none
  | .ishr => match st with
    | .int y :: .int x :: r => some (.int (x >>> (y &&& 31)) :: r)
    | _ => none
  | .i2c => match st with
    | .int x :: r => some (.int (x.toUInt32 % 65536).toInt32 :: r)
    | _ => none
  | .i2l => match st with
    | .int x :: r => some (.long x.toInt64 :: r)
    | _ => none
  | .l2i => match st with
    | .long x :: r => some (.int x.toInt32 :: r)
    | _ => none
  | .ladd => match st with
    | .long y :: .long x :: r => some (.long (x + y) :: r)
    | _ => none
  | .lmul => match st with
    | .long y :: .long x :: r => some (.long (x * y) :: r)
    | _ => none
  | .ldiv => match st with
    | .long y :: .long x :: r => if y = 0 then none else some (.long (x / y) :: r)
    | _ => none
  | .lrem => match st with
    | .long y :: .long x :: r => if y = 0 then none else some (.long (x - x / y * y) :: r)
    | _ => none
  | .lcmp => match st with
    | .long y :: .long x :: r => some (.int (lg_cmp x y) :: r)
    | _ => none
  | .dup => match st with
    | v :: r => if v.category = 1 then some (v :: v :: r) else none
    | _ => none
  | .pop => match st with
    | v :: r => if v.category = 1 then some r else none
    | _ => none
  | .dup2 => match st with
    | v :: w :: r => if v.category = 1 ∧ w.category = 1 then some (v :: w :: v :: w :: r) else none
    | _ => none
  | .dup_x1 => match st with
    | v :: w :: r => if v.category = 1 ∧ w.category = 1 then some (v :: w :: v :: r) else none
    | _ => none
  | _ => none
/-- the calls of Object.<init> (.monitorenter in the tables) and of String.checkIndex (.monitorexit), of Math.max (.dup_x2), min (.dup2_x1), abs (.swap) -/
def am_spc (i : Instr) (st : List Value) : Option (List Value) := match i with
  | .monitorenter => match st with
    | .ref _ :: r => if (r.map fun v => v.category).sum ≤ 8 then some r else none
    | _ => none
  | .monitorexit => match st with
    | .int n :: .int k :: r => if 0 ≤ k ∧ k < n ∧ (r.map fun v => v.category).sum ≤ 8 then some r else none
    | _ => none
  | .dup_x2 => match st with
    | .int y :: .int x :: r => if (r.map fun v => v.category).sum ≤ 8 then some (.int (if x < y then y else x) :: r) else none
    | _ => none
  | .dup2_x1 => match st with
    | .int y :: .int x :: r => if (r.map fun v => v.category).sum ≤ 8 then some (.int (if y < x then y else x) :: r) else none
    | _ => none
  | .swap => match st with
    | .int x :: r => if (r.map fun v => v.category).sum ≤ 8 then some (.int (if 0 ≤ x then x else 0 - x) :: r) else none
    | _ => none
  | _ => none
/-- references to the law's words and to cells that were made since, as lv_acmp has them -/
def am_rf (h : am_H) (v : Value) : Option (Option Nat) := match v with
  | .ref a => if (am_at h a).isSome = true ∧ (a < 38 ∨ 1001 ≤ a) then some (some a) else none
  | .null => some none
  | _ => none
/-- branches: where to, and what is left of the stack (targets are absolute here) -/
def am_br (i : Instr) (nx : Nat) (st : List Value) (h : am_H) : Option (Nat × List Value) := match i with
  | .goto t => some (t.toNat, st)
  | .ifCond c t => match st with
    | .int x :: r => some (match c with
      | .eq => if x = 0 then t.toNat else nx
      | .ne => if ¬ x = 0 then t.toNat else nx
      | .lt => if x < 0 then t.toNat else nx
      | .ge => if 0 ≤ x then t.toNat else nx
      | .gt => if 0 < x then t.toNat else nx
      | .le => if x ≤ 0 then t.toNat else nx, r)
    | _ => none
  | .if_icmp c t => match st with
    | .int y :: .int x :: r => some (match c with
      | .eq => if x = y then t.toNat else nx
      | .ne => if ¬ x = y then t.toNat else nx
      | .lt => if x < y then t.toNat else nx
      | .ge => if y ≤ x then t.toNat else nx
      | .gt => if y < x then t.toNat else nx
      | .le => if x ≤ y then t.toNat else nx, r)
    | _ => none
  | .if_acmp c t => match st with
    | w :: v :: r => match am_rf h v, am_rf h w with
      | some x, some y => some (match c with
        | .eq => if x = y then t.toNat else nx
        | .ne => if ¬ x = y then t.toNat else nx, r)
      | _, _ => none
    | _ => none
  | .ifnull t => match st with
    | .null :: r => some (t.toNat, r)
    | .ref _ :: r => some (nx, r)
    | _ => none
  | .ifnonnull t => match st with
    | .null :: r => some (nx, r)
    | .ref _ :: r => some (t.toNat, r)
    | _ => none
  | .tableswitch d lo hi ts => match st with
    | .int x :: r => if x.toInt < lo ∨ hi < x.toInt then some (d.toNat, r) else (ts[(x.toInt - lo).toNat]?).map (fun t => (t.toNat, r))
    | _ => none
  | .lookupswitch d ps => match st with
    | .int x :: r => some ((Op.lookupswitch.offset ps.toList d x.toInt).toNat, r)
    | _ => none
  | _ => none
/-- the place i of a row of n -/
def am_ix (i : Int32) (n : Nat) : Bool := decide (¬ (i < 0 ∨ n ≤ i.toNatClampNeg))
/-- an element of an array of numbers of the kind t (0 int, 1 char, 2 byte, 3 long) -/
def am_el (t : Nat) (st : List Value) (h : am_H) : Option (List Value) := match st with
  | .int j :: .ref a :: r => match am_at h a with
    | some (.inr (t', xs)) => if t' = t ∧ am_ix j xs.length = true then (xs[j.toNatClampNeg]?).map (fun v => v :: r) else none
    | _ => none
  | _ => none
/-- reads of cells: (what is pushed, what is left) -/
def am_rd (mi : Nat) (i : Instr) (st : List Value) (h : am_H) : Option (List Value) := match i with
  | .arraylength => match st with
    | .ref a :: r => match am_at h a with
      | some (.inr (_, xs)) => some (.int (Int32.ofNat xs.length) :: r)
      | _ => none
    | _ => none
  | .iaload => am_el 0 st h
  | .caload => am_el 1 st h
  | .baload => am_el 2 st h
  | .laload => am_el 3 st h
  | .aaload => match st with
    | .int j :: .ref a :: r => match am_at h a with
      | some (.inr (t, xs)) => if 4 ≤ t ∧ am_ix j xs.length = true then (xs[j.toNatClampNeg]?).map (fun v => v :: r) else none
      | _ => none
    | _ => none
  | .getfield f => match st with
    | .ref a :: r => match am_at h a with
      | some (.inl (ci, fs)) => match am_pos ci f with
        | some k => (fs[k]?).map (fun v => v :: r)
        | none => none
      | _ => none
    | _ => none
  | .getstatic f => (am_gst f).map (fun v => v :: st)
  | _ => none
/-- a cell is written anew -/
def am_set (h : am_H) (a : Nat) (c : am_C) : Option am_H := if 1001 ≤ a ∧ a - 1000 < h.length then some (h.set (a - 1000) c) else none
/-- does the value fit an array of the kind t -/
def am_ok (t : Nat) (v : Value) (h : am_H) : Bool := match v with
  | .int x => t == 0 || (t == 1 && decide (0 ≤ x) && decide (x ≤ 65535))
  | .long _ => t == 3
  | .null => decide (4 ≤ t)
  | .ref b => match am_at h b with
    | some (.inl (ci, _)) => decide (4 ≤ t) && am_cast ci t
    | _ => false
  | _ => false
def am_kind (i : Instr) : Option Nat := match i with
  | .iastore => some 0
  | .castore => some 1
  | .lastore => some 3
  | .aastore => some 4
  | _ => none
/-- writes of cells -/
def am_wr (mi : Nat) (i : Instr) (st : List Value) (h : am_H) : Option (List Value × am_H) := match i with
  | .putfield f => match st with
    | v :: .ref a :: r => match am_at h a with
      | some (.inl (ci, fs)) => match am_pos ci f with
        | some k => if k < fs.length ∧ fits (am_fty f) v = true ∧ (am_fin f = true → am_ini mi = true) then (am_set h a (.inl (ci, fs.set k v))).map (fun h' => (r, h')) else none
        | none => none
      | _ => none
    | _ => none
  | _ => match am_kind i with
    | none => none
    | some k => match st with
      | v :: .int j :: .ref a :: r => match am_at h a with
        | some (.inr (t, xs)) => if (t = k ∨ (k = 4 ∧ 4 ≤ t)) ∧ am_ix j xs.length = true ∧ am_ok t v h = true then (am_set h a (.inr (t, xs.set j.toNatClampNeg v))).map (fun h' => (r, h')) else none
        | _ => none
      | _ => none
/-- new cells -/
def am_mk (i : Instr) (st : List Value) : Option (List Value × am_C) := match i with
  | .new ci => (am_new ci).map (fun fs => (st, .inl (ci, fs)))
  | .newarray t => match st with
    | .int n :: r => if ¬ n < 0 ∧ n.toNatClampNeg ≤ 65536 then match t with
      | .int => some (r, .inr (0, List.replicate n.toNatClampNeg (.int 0)))
      | .char => some (r, .inr (1, List.replicate n.toNatClampNeg (.int 0)))
      | .long => some (r, .inr (3, List.replicate n.toNatClampNeg (.long 0)))
      | _ => none else none
    | _ => none
  | .anewarray t => match st with
    | .int n :: r => if ¬ n < 0 ∧ n.toNatClampNeg ≤ 65536 ∧ 4 ≤ t then some (r, .inr (t, List.replicate n.toNatClampNeg .null)) else none
    | _ => none
  | _ => none
/-- one instruction that neither calls nor returns nor throws -/
def am_one (mi : Nat) (i : Instr) (len pc : Nat) (lv : am_L) (st : List Value) (h : am_H) : Option am_S :=
  match am_push mi i lv with
  | some v => some (pc + len, lv, v :: st, h)
  | none => match am_sto i lv st with
    | some (lv', st') => some (pc + len, lv', st', h)
    | none => match am_ari i st with
      | some st' => some (pc + len, lv, st', h)
      | none => match am_br i (pc + len) st h with
        | some (pc', st') => some (pc', lv, st', h)
        | none => match am_rd mi i st h with
          | some st' => some (pc + len, lv, st', h)
          | none => match am_wr mi i st h with
            | some (st', h') => some (pc + len, lv, st', h')
            | none => match am_mk i st with
              | some (st', c) => some (pc + len, lv, .ref (1000 + h.length) :: st', h ++ [c])
              | none => match am_spc i st with
                | some st' => some (pc + len, lv, st', h)
                | none => none
/-- the end of a method -/
def am_ret (mi : Nat) (i : Instr) (st : List Value) : Option (Option Value) := match i with
  | .return_ => match st with
    | [] => match am_mr mi with
      | none => some none
      | some _ => none
    | _ => none
  | .ireturn => match st with
    | [.int x] => match am_mr mi with
      | some ty => if fits ty (.int x) = true then some (some (.int x)) else none
      | none => none
    | _ => none
  | .areturn => match st with
    | [v] => match am_mr mi with
      | some ty => if ty.isReference = true ∧ fits ty v = true then some (some v) else none
      | none => none
    | _ => none
  | _ => none
/-- the locals with which a method begins -/
def am_sl (as : List Value) : am_L := as.flatMap fun v => if v.category = 2 then [some v, none] else [some v]
def am_ent (mj : Nat) (as : List Value) : am_L := am_sl as ++ List.replicate (am_ml mj - (am_sl as).length) none
/-- a callee can be entered -/
def am_fit (mj : Nat) (as r : List Value) : Bool := am_okm mj && decide ((am_sl as).length ≤ am_ml mj) && decide ((r.map fun v => v.category).sum ≤ 8)
/-- a call site: the callee, its arguments, what is left of the stack -/
def am_inv (i : Instr) (st : List Value) (h : am_H) : Option (Nat × List Value × List Value) :=
  match (match i with
    | .invokevirtual x => some x
    | .invokestatic x => some x
    | .invokespecial x => some x
    | .invokeinterface x _ => some x
    | _ => none) with
  | none => none
  | some x => match am_arg x with
    | none => none
    | some (n, stat) => if n ≤ st.length then
        (if stat = true then match am_tgt x 0 with
          | some mj => if am_fit mj (st.take n).reverse (st.drop n) = true then some (mj, (st.take n).reverse, st.drop n) else none
          | none => none
        else match (st.take n).reverse with
          | .ref a :: _ => match am_at h a with
            | some (.inl (ci, _)) => match am_tgt x ci with
              | some mj => if am_fit mj (st.take n).reverse (st.drop n) = true then some (mj, (st.take n).reverse, st.drop n) else none
              | none => none
            | _ => none
          | _ => none) else none
/-- where a thrown object is caught -/
def am_hx (mi pc : Nat) (h : am_H) (a : Nat) : Option Nat := match am_at h a with
  | some (.inl (ci, _)) => am_hnd mi pc ci
  | _ => none
/-- 'throw new X(message)': it stands as one instruction in the tables -/
def am_thr (mi : Nat) (i : Instr) (st : List Value) : Option Nat := match i with
  | .instanceof x => match st with
    | [] => if am_noh mi = true then some x else none
    | _ => none
  | _ => none
/-- the machine: n steps at most, d calls deep at most -/
def am_run : Nat → Nat → Nat → Nat → am_L → List Value → am_H → Option (am_O × am_H)
  | 0, _, _, _, _, _, _ => none
  | n + 1, d, mi, pc, lv, st, h => match am_code mi pc with
    | none => none
    | some (i, len) => match am_ret mi i st with
      | some v => some (.inl v, h)
      | none => match am_thr mi i st with
        | some x => some (.inr (1000 + h.length), h ++ [.inl (x, [])])
        | none => match am_inv i st h with
          | some (mj, as, r) => match d with
            | 0 => none
            | d' + 1 => match am_run n d' mj 0 (am_ent mj as) [] h with
              | none => none
              | some (.inl v, h') => am_run n (d' + 1) mi (pc + len) lv (v.toList ++ r) h'
              | some (.inr a, h') => match am_hx mi pc h' a with
                | some pc' => am_run n (d' + 1) mi pc' lv [.ref a] h'
                | none => if am_noh mi = true then some (.inr a, h') else none
          | none => match am_one mi i len pc lv st h with
            | some (pc', lv', st', h') => am_run n d mi pc' lv' st' h'
            | none => none
/-- it comes to this end -/
def am_R (d mi pc : Nat) (lv : am_L) (st : List Value) (h : am_H) (o : am_O) (h' : am_H) : Prop := ∃ n, am_run n d mi pc lv st h = some (o, h')
