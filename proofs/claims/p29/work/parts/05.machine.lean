/-! ===== THE ABSTRACT MACHINE: a run of bytecode over a finite store whose cells are numbered in the order in which they were made ===== -/
abbrev av_E : Type := (Nat × vp_A) ⊕ (Nat × List Value)
/-- how many cells, how many slots in all, the cells -/
abbrev av_W : Type := Nat × Nat × (Nat → av_E)
abbrev av_L : Type := List (Option Value)
def av_up (g : Nat → av_E) (k : Nat) (e : av_E) : Nat → av_E := fun j => if j = k then e else g j
def av_res (own i : Nat) : Option (Nat × av_M) := (av_resL.find? (fun q => q.1 == own && q.2.1 == i)).bind (fun q => (av_MT[q.2.2.2.1]?).map (fun M => (q.2.2.1, M)))
def av_fld (own i : Nat) : Option (Nat × Nat × String) := (av_fldL.find? (fun q => q.1 == own && q.2.1 == i)).map (fun q => (q.2.2.1, q.2.2.2.1, q.2.2.2.2.1))
def av_mm (own i : Nat) : Option Bool := (av_mmL.find? (fun q => q.1 == own && q.2.1 == i)).map (fun q => q.2.2.1)
def av_cls (own i : Nat) : Option Nat := (av_clsL.find? (fun q => q.1 == own && q.2.1 == i)).map (fun q => q.2.2)
def av_ki (own i : Nat) : Option Int32 := (av_kiL.find? (fun q => q.1 == own && q.2.1 == i)).map (fun q => q.2.2)
def av_kl (own i : Nat) : Option Int64 := (av_klL.find? (fun q => q.1 == own && q.2.1 == i)).map (fun q => q.2.2)
def av_prev (ls : av_L) (i : Nat) : Bool := match i with
  | 0 => false
  | j + 1 => match ls[j]? with
    | some (some v) => v.category == 2
    | _ => false
def av_sto (ls : av_L) (i : Nat) (v : Value) : Option av_L := if i < ls.length ∧ av_prev ls i = false then some (ls.set i (some v)) else none
/-- the number under which the script is known -/
def av_scr : Nat := 1000000000
-- what is well made: every reference is a cell's number, or the script
def av_wv (n : Nat) (v : Value) : Bool := match v with
  | .ref r => decide (r < n) || r == av_scr
  | _ => true
def av_wl (n : Nat) (ls : av_L) : Bool := ls.all (fun o => match o with | some v => av_wv n v | none => true)
def av_we (n : Nat) (e : av_E) : Bool := match e with
  | .inr q => q.2.all (av_wv n)
  | .inl (_, k, .inr (.inr (.inr (.inr f)))) => (List.range k).all (fun j => match f j with | some r => decide (r < n) | none => true)
  | .inl _ => true
def av_ww (w : av_W) : Bool := (List.range w.1).all (fun k => av_we w.1 (w.2.2 k))
def av_wf (ls : av_L) (st : List Value) (w : av_W) : Bool := decide (w.1 < 1000) && av_wl w.1 ls && st.all (av_wv w.1) && av_ww w
-- one instruction that is no call and no return
abbrev av_N1 : Type := Option (Nat × av_L × List Value × av_W)
def av_tgt (pc : Nat) (off : Int) (k : Nat → av_N1) : av_N1 := if 0 ≤ (pc : Int) + off then k ((pc : Int) + off).toNat else none
def av_push (n len pc : Nat) (ls : av_L) (v : Value) (st : List Value) (w : av_W) : av_N1 := if len = n then some (pc + n, ls, v :: st, w) else none
def av_ild (n i len pc : Nat) (ls : av_L) (st : List Value) (w : av_W) : av_N1 := match ls[i]? with
  | some (some (.int x)) => av_push n len pc ls (.int x) st w
  | _ => none
def av_lld (n i len pc : Nat) (ls : av_L) (st : List Value) (w : av_W) : av_N1 := match ls[i]? with
  | some (some (.long x)) => av_push n len pc ls (.long x) st w
  | _ => none
def av_ald (n i len pc : Nat) (ls : av_L) (st : List Value) (w : av_W) : av_N1 := match ls[i]? with
  | some (some (.ref x)) => av_push n len pc ls (.ref x) st w
  | _ => none
def av_ist (n i len pc : Nat) (ls : av_L) (st : List Value) (w : av_W) : av_N1 := match st with
  | .int x :: rest => if len = n then (av_sto ls i (.int x)).map (fun l => (pc + n, l, rest, w)) else none
  | _ => none
def av_ast (n i len pc : Nat) (ls : av_L) (st : List Value) (w : av_W) : av_N1 := match st with
  | .ref x :: rest => if len = n then (av_sto ls i (.ref x)).map (fun l => (pc + n, l, rest, w)) else none
  | _ => none
def av_iinc (i : Nat) (n : Int) (len pc : Nat) (ls : av_L) (st : List Value) (w : av_W) : av_N1 := match ls[i]? with
  | some (some (.int x)) => if len = 3 then (av_sto ls i (.int (x + Int32.ofInt n))).map (fun l => (pc + 3, l, st, w)) else none
  | _ => none
def av_bin (f : Int32 → Int32 → Int32) (len pc : Nat) (ls : av_L) (st : List Value) (w : av_W) : av_N1 := match st with
  | .int y :: .int x :: rest => av_push 1 len pc ls (.int (f x y)) rest w
  | _ => none
def av_div (f : Int32 → Int32 → Int32) (len pc : Nat) (ls : av_L) (st : List Value) (w : av_W) : av_N1 := match st with
  | .int y :: .int x :: rest => if y = 0 then none else av_push 1 len pc ls (.int (f x y)) rest w
  | _ => none
def av_lbin (f : Int64 → Int64 → Value) (len pc : Nat) (ls : av_L) (st : List Value) (w : av_W) : av_N1 := match st with
  | .long y :: .long x :: rest => av_push 1 len pc ls (f x y) rest w
  | _ => none
def av_un (f : Int32 → Value) (len pc : Nat) (ls : av_L) (st : List Value) (w : av_W) : av_N1 := match st with
  | .int x :: rest => av_push 1 len pc ls (f x) rest w
  | _ => none
def av_ifs (b : Prop) [Decidable b] (off : Int) (len pc : Nat) (ls : av_L) (rest : List Value) (w : av_W) : av_N1 := if len = 3 then av_tgt pc off (fun t => some (if b then t else pc + 3, ls, rest, w)) else none
def av_if1 (c : Int32 → Prop) [∀ x, Decidable (c x)] (off : Int) (len pc : Nat) (ls : av_L) (st : List Value) (w : av_W) : av_N1 := match st with
  | .int x :: rest => av_ifs (c x) off len pc ls rest w
  | _ => none
def av_if2 (c : Int32 → Int32 → Prop) [∀ x y, Decidable (c x y)] (off : Int) (len pc : Nat) (ls : av_L) (st : List Value) (w : av_W) : av_N1 := match st with
  | .int y :: .int x :: rest => av_ifs (c x y) off len pc ls rest w
  | _ => none
def av_tab (dflt lo hi : Int) (offs : Array Int) (pc : Nat) (ls : av_L) (st : List Value) (w : av_W) : av_N1 := match st with
  | .int x :: rest => if x.toInt < lo ∨ hi < x.toInt then av_tgt pc dflt (fun t => some (t, ls, rest, w)) else
      match offs[(x.toInt - lo).toNat]? with
      | some off => av_tgt pc off (fun t => some (t, ls, rest, w))
      | none => none
  | _ => none
def av_getf (own i len pc : Nat) (ls : av_L) (st : List Value) (w : av_W) : av_N1 := match st with
  | .ref a :: rest => if a < w.1 ∧ len = 3 then (match av_fld own i with
    | some (ci, k, _) => (match w.2.2 a with
      | .inr (c2, fs) => if c2 = ci then (match fs[k]? with
        | some v => some (pc + 3, ls, v :: rest, w)
        | none => none) else none
      | _ => none)
    | none => none) else none
  | _ => none
/-- a value that may stand in a field of a type -/
def av_fit (ty : FieldType) (v : Value) : Bool := match ty, v with
  | .int, .int _ => true
  | .boolean, .int x => x == 0 || x == 1
  | .char, .int x => decide (¬ x < 0) && decide (x ≤ 65535)
  | .object _, .ref _ => true
  | .array _, .ref _ => true
  | _, _ => false
def av_putf (own : Nat) (init : Bool) (i len pc : Nat) (ls : av_L) (st : List Value) (w : av_W) : av_N1 := match st with
  | v :: .ref a :: rest => if a < w.1 ∧ len = 3 then (match av_fld own i with
    | some (ci, k, h) => (match w.2.2 a with
      | .inr (c2, fs) => if c2 = ci ∧ k < fs.length ∧ av_fit (av_ty ci k) v = true ∧ ((av_T ci k).2.2.2 = false ∨ (init = true ∧ own = ci ∧ h = "")) then some (pc + 3, ls, rest, (w.1, w.2.1, av_up w.2.2 a (.inr (ci, fs.set k v)))) else none
      | _ => none)
    | none => none) else none
  | _ => none
def av_inr (i : Int32) (n : Nat) : Bool := decide (¬ i < 0) && decide (i.toNatClampNeg < n)
def av_xald (t len pc : Nat) (ls : av_L) (st : List Value) (w : av_W) : av_N1 := match st with
  | .int i :: .ref a :: rest => (match w.2.2 a with
    | .inl (t2, n, .inl f) => if a < w.1 ∧ len = 1 ∧ t2 = t ∧ av_inr i n = true then some (pc + 1, ls, .int (f i.toNatClampNeg) :: rest, w) else none
    | _ => none)
  | _ => none
/-- reading the script, for the law alone -/
def av_sald (len pc : Nat) (ls : av_L) (st : List Value) (w : av_W) : av_N1 := match st with
  | .int i :: .ref a :: rest => (match w.2.2 a with
    | .inl (_, n, .inl f) => if a = av_scr ∧ len = 1 ∧ av_inr i n = true then some (pc + 1, ls, .int (f i.toNatClampNeg) :: rest, w) else none
    | _ => none)
  | _ => none
def av_slen (len pc : Nat) (ls : av_L) (st : List Value) (w : av_W) : av_N1 := match st with
  | .ref a :: rest => (match w.2.2 a with
    | .inl (_, n, _) => if a = av_scr ∧ len = 1 then some (pc + 1, ls, .int (Int32.ofNat n) :: rest, w) else none
    | _ => none)
  | _ => none
def av_xast (g : Int32 → Int32) (t len pc : Nat) (ls : av_L) (st : List Value) (w : av_W) : av_N1 := match st with
  | .int x :: .int i :: .ref a :: rest => (match w.2.2 a with
    | .inl (t2, n, .inl f) => if a < w.1 ∧ len = 1 ∧ t2 = t ∧ av_inr i n = true then some (pc + 1, ls, rest, (w.1, w.2.1, av_up w.2.2 a (.inl (t, n, .inl (upd f i.toNatClampNeg (g x)))))) else none
    | _ => none)
  | _ => none
def av_rald (len pc : Nat) (ls : av_L) (st : List Value) (w : av_W) : av_N1 := match st with
  | .int i :: .ref a :: rest => (match w.2.2 a with
    | .inl (t2, n, .inr (.inr (.inr (.inr f)))) => if a < w.1 ∧ len = 1 ∧ t2 = 2 ∧ av_inr i n = true then (match f i.toNatClampNeg with
      | some r => some (pc + 1, ls, .ref r :: rest, w)
      | none => none) else none
    | _ => none)
  | _ => none
def av_rast (len pc : Nat) (ls : av_L) (st : List Value) (w : av_W) : av_N1 := match st with
  | .ref v :: .int i :: .ref a :: rest => (match w.2.2 a, w.2.2 v with
    | .inl (t2, n, .inr (.inr (.inr (.inr f)))), .inr (c2, _) => if (a < w.1 ∧ v < w.1) ∧ len = 1 ∧ t2 = 2 ∧ c2 = 0 ∧ av_inr i n = true then some (pc + 1, ls, rest, (w.1, w.2.1, av_up w.2.2 a (.inl (2, n, .inr (.inr (.inr (.inr (va_up f i.toNatClampNeg (some v))))))))) else none
    | _, _ => none)
  | _ => none
def av_alen (len pc : Nat) (ls : av_L) (st : List Value) (w : av_W) : av_N1 := match st with
  | .ref a :: rest => (match w.2.2 a with
    | .inl (t, n, _) => if a < w.1 ∧ len = 1 ∧ t < 3 then some (pc + 1, ls, .int (Int32.ofNat n) :: rest, w) else none
    | _ => none)
  | _ => none
def av_newa (t : Nat) (len pc : Nat) (ls : av_L) (st : List Value) (w : av_W) : av_N1 := match st with
  | .int n :: rest => if len = 2 ∧ ¬ n < 0 ∧ n.toNatClampNeg ≤ 1000000 ∧ av_wf ls rest w = true then some (pc + 2, ls, .ref w.1 :: rest, (w.1 + 1, w.2.1 + n.toNatClampNeg, av_up w.2.2 w.1 (.inl (t, n.toNatClampNeg, .inl (fun _ => 0))))) else none
  | _ => none
def av_newr (own i : Nat) (len pc : Nat) (ls : av_L) (st : List Value) (w : av_W) : av_N1 := match st with
  | .int n :: rest => if (av_cls own i = some 0 ∧ len = 3) ∧ ¬ n < 0 ∧ n.toNatClampNeg ≤ 1000000 ∧ av_wf ls rest w = true then some (pc + 3, ls, .ref w.1 :: rest, (w.1 + 1, w.2.1 + n.toNatClampNeg, av_up w.2.2 w.1 (.inl (2, n.toNatClampNeg, .inr (.inr (.inr (.inr (fun _ => none)))))))) else none
  | _ => none
def av_new (own i : Nat) (len pc : Nat) (ls : av_L) (st : List Value) (w : av_W) : av_N1 := match av_cls own i with
  | some ci => if len = 3 ∧ av_wf ls st w = true then some (pc + 3, ls, .ref w.1 :: st, (w.1 + 1, w.2.1 + av_N ci, av_up w.2.2 w.1 (.inr (ci, av_df ci)))) else none
  | none => none
def av_dup (len pc : Nat) (ls : av_L) (st : List Value) (w : av_W) : av_N1 := match st with
  | v :: rest => if len = 1 ∧ v.category = 1 then some (pc + 1, ls, v :: v :: rest, w) else none
  | _ => none
def av_dup2 (len pc : Nat) (ls : av_L) (st : List Value) (w : av_W) : av_N1 := match st with
  | v :: u :: rest => if len = 1 ∧ v.category = 1 ∧ u.category = 1 then some (pc + 1, ls, v :: u :: v :: u :: rest, w) else none
  | _ => none
def av_pop (len pc : Nat) (ls : av_L) (st : List Value) (w : av_W) : av_N1 := match st with
  | v :: rest => if len = 1 ∧ v.category = 1 then some (pc + 1, ls, rest, w) else none
  | _ => none
def av_ifn (len pc : Nat) (ls : av_L) (st : List Value) (w : av_W) : av_N1 := match st with
  | .ref _ :: rest => if len = 3 then some (pc + 3, ls, rest, w) else none
  | _ => none
def av_ldc (own i len pc : Nat) (ls : av_L) (st : List Value) (w : av_W) : av_N1 := match av_ki own i with
  | some v => av_push 2 len pc ls (.int v) st w
  | none => none
def av_ldl (own i len pc : Nat) (ls : av_L) (st : List Value) (w : av_W) : av_N1 := match av_kl own i with
  | some v => av_push 3 len pc ls (.long v) st w
  | none => none
def av_obj (own i h len pc : Nat) (ls : av_L) (st : List Value) (w : av_W) : av_N1 := match st with
  | [.ref _] => if (own, i) ∈ av_objL ∧ len = 3 ∧ 1 ≤ h then some (pc + 3, ls, [], w) else none
  | _ => none
/-- Math.max, Math.min -/
def av_mmx (own i h len pc : Nat) (ls : av_L) (st : List Value) (w : av_W) : av_N1 := match st with
  | .int y :: .int x :: rest => (match av_mm own i with
    | some b => if len = 3 ∧ 1 ≤ h ∧ (rest.map (fun v => v.category)).sum ≤ 8 then some (pc + 3, ls, .int (if b then (if x < y then y else x) else (if y < x then y else x)) :: rest, w) else none
    | none => none)
  | _ => none
def av_isInit (M : av_M) : Bool := M.1.name == "<init>"
def av_step (M : av_M) (i : Instr) (len pc : Nat) (ls : av_L) (st : List Value) (w : av_W) : av_N1 := match i with
  | .aload_n k => av_ald 1 k.val len pc ls st w
  | .iload_n k => av_ild 1 k.val len pc ls st w
  | .iload k => av_ild 2 k len pc ls st w
  | .lload_n k => av_lld 1 k.val len pc ls st w
  | .lload k => av_lld 2 k len pc ls st w
  | .istore_n k => av_ist 1 k.val len pc ls st w
  | .istore k => av_ist 2 k len pc ls st w
  | .astore_n k => av_ast 1 k.val len pc ls st w
  | .iinc k n => av_iinc k n len pc ls st w
  | .iconst n => av_push 1 len pc ls (.int (Int32.ofInt n)) st w
  | .bipush n => av_push 2 len pc ls (.int (Int8.ofInt n).toInt32) st w
  | .sipush n => av_push 3 len pc ls (.int (Int16.ofInt n).toInt32) st w
  | .lconst n => av_push 1 len pc ls (.long (Int64.ofNat (n : Nat))) st w
  | .ldc k => av_ldc M.2.2.2.2.1 k len pc ls st w
  | .ldc2_w k => av_ldl M.2.2.2.2.1 k len pc ls st w
  | .iadd => av_bin (fun x y => x + y) len pc ls st w
  | .isub => av_bin (fun x y => x - y) len pc ls st w
  | .imul => av_bin (fun x y => x * y) len pc ls st w
  | .iand => av_bin (fun x y => x &&& y) len pc ls st w
  | .ior => av_bin (fun x y => x ||| y) len pc ls st w
  | .ixor => av_bin (fun x y => x ^^^ y) len pc ls st w
  | .ishl => av_bin (fun x y => x <<< (y &&& 31)) len pc ls st w
  | .ishr => av_bin (fun x y => x >>> (y &&& 31)) len pc ls st w
  | .idiv => av_div (fun x y => x / y) len pc ls st w
  | .irem => av_div (fun x y => x - x / y * y) len pc ls st w
  | .ineg => av_un (fun x => .int (-x)) len pc ls st w
  | .i2l => av_un (fun x => .long x.toInt64) len pc ls st w
  | .i2c => av_un (fun x => .int (x.toUInt32 % 65536).toInt32) len pc ls st w
  | .lsub => av_lbin (fun x y => .long (x - y)) len pc ls st w
  | .lmul => av_lbin (fun x y => .long (x * y)) len pc ls st w
  | .lcmp => av_lbin (fun x y => .int (lg_cmp x y)) len pc ls st w
  | .ifCond .eq off => av_if1 (fun x => x = 0) off len pc ls st w
  | .ifCond .ne off => av_if1 (fun x => ¬ x = 0) off len pc ls st w
  | .ifCond .lt off => av_if1 (fun x => x < 0) off len pc ls st w
  | .ifCond .ge off => av_if1 (fun x => 0 ≤ x) off len pc ls st w
  | .ifCond .gt off => av_if1 (fun x => 0 < x) off len pc ls st w
  | .ifCond .le off => av_if1 (fun x => x ≤ 0) off len pc ls st w
  | .if_icmp .eq off => av_if2 (fun x y => x = y) off len pc ls st w
  | .if_icmp .ne off => av_if2 (fun x y => ¬ x = y) off len pc ls st w
  | .if_icmp .lt off => av_if2 (fun x y => x < y) off len pc ls st w
  | .if_icmp .ge off => av_if2 (fun x y => y ≤ x) off len pc ls st w
  | .if_icmp .gt off => av_if2 (fun x y => y < x) off len pc ls st w
  | .if_icmp .le off => av_if2 (fun x y => x ≤ y) off len pc ls st w
  | .goto off => if len = 3 then av_tgt pc off (fun t => some (t, ls, st, w)) else none
  | .tableswitch dflt lo hi offs => av_tab dflt lo hi offs pc ls st w
  | .getfield k => av_getf M.2.2.2.2.1 k len pc ls st w
  | .putfield k => av_putf M.2.2.2.2.1 (av_isInit M) k len pc ls st w
  | .iaload => if M.2.2.2.2.1 = 99 then av_sald len pc ls st w else av_xald 0 len pc ls st w
  | .caload => av_xald 1 len pc ls st w
  | .iastore => av_xast (fun x => x) 0 len pc ls st w
  | .castore => av_xast (vp_nar .char) 1 len pc ls st w
  | .aaload => av_rald len pc ls st w
  | .aastore => av_rast len pc ls st w
  | .arraylength => if M.2.2.2.2.1 = 99 then av_slen len pc ls st w else av_alen len pc ls st w
  | .newarray .int => av_newa 0 len pc ls st w
  | .newarray .char => av_newa 1 len pc ls st w
  | .anewarray k => av_newr M.2.2.2.2.1 k len pc ls st w
  | .new k => av_new M.2.2.2.2.1 k len pc ls st w
  | .dup => av_dup len pc ls st w
  | .dup2 => av_dup2 len pc ls st w
  | .pop => av_pop len pc ls st w
  | .ifnull _ => av_ifn len pc ls st w
  | .invokespecial k => av_obj M.2.2.2.2.1 k M.2.2.2.2.2.1 len pc ls st w
  | .invokestatic k => av_mmx M.2.2.2.2.1 k M.2.2.2.2.2.1 len pc ls st w
  | _ => none
/-- a return: what is answered -/
def av_ret (M : av_M) (i : Instr) (len : Nat) (st : List Value) : Option (Option Value) := match i with
  | .ireturn => (match st with
    | [.int v] => (match M.2.2.2.1 with
      | some ty => if len = 1 ∧ av_fit ty (.int v) = true then some (some (.int v)) else none
      | none => none)
    | _ => none)
  | .return_ => (match st with
    | [] => if len = 1 ∧ M.2.2.2.1 = none then some none else none
    | _ => none)
  | .areturn => (match st with
    | [.ref a] => (match M.2.2.2.1 with
      | some ty => if len = 1 ∧ av_fit ty (.ref a) = true then some (some (.ref a)) else none
      | none => none)
    | _ => none)
  | _ => none
/-- a call: its kind, the callee, the arguments, what stays on the stack -/
def av_cut (M : av_M) (len : Nat) (idx : Nat) (ks : List Nat) (stat : Bool) (st : List Value) : Option (Nat × av_M × List Value × List Value) := match av_res M.2.2.2.2.1 idx with
  | some (k, M2) =>
    let n := M2.2.2.2.2.2.2 + (if stat then 0 else 1)
    if len = 3 ∧ k ∈ ks ∧ M2.2.2.2.2.2.1 < M.2.2.2.2.2.1 ∧ n ≤ st.length ∧ ((st.drop n).map (fun v => v.category)).sum ≤ 8 then some (k, M2, (st.take n).reverse, st.drop n) else none
  | none => none
def av_inv (M : av_M) (i : Instr) (len : Nat) (st : List Value) : Option (Nat × av_M × List Value × List Value) := match i with
  | .invokevirtual idx => av_cut M len idx [0, 1] false st
  | .invokestatic idx => av_cut M len idx [2, 3] true st
  | .invokespecial idx => av_cut M len idx [4, 5] false st
  | _ => none
/-- the receiver of a virtual call is an object of the callee's class -/
def av_rcv (k : Nat) (M2 : av_M) (args : List Value) (w : av_W) : Bool := match k, args with
  | 2, _ => true
  | 3, _ => true
  | 4, .ref _ :: _ => true
  | 5, .ref _ :: _ => true
  | _, .ref b :: _ => decide (b < w.1) && (match w.2.2 b with | .inr q => q.1 == M2.2.2.2.2.1 | _ => false)
  | _, _ => false
def av_ents : List Value → av_L
  | [] => []
  | v :: vs => if v.category = 2 then some v :: none :: av_ents vs else some v :: av_ents vs
def av_ent (args : List Value) (n : Nat) : av_L := av_ents args ++ List.replicate (n - (av_ents args).length) none
def av_back (ls : av_L) (rest : List Value) (w w2 : av_W) : Bool := w2.1 == w.1 || (av_wl w.1 ls && rest.all (av_wv w.1))
def arun : Nat → av_M → Nat → av_L → List Value → av_W → Option (Option Value × av_W)
  | 0, _, _, _, _, _ => none
  | f + 1, M, pc, ls, st, w => match decode M.2.1 pc with
    | .ok (i, len) => (match av_ret M i len st with
      | some r => some (r, w)
      | none => (match av_inv M i len st with
        | some (k, M2, args, rest) => if av_rcv k M2 args w = true ∧ (av_ents args).length ≤ M2.2.2.1 then (match arun f M2 0 (av_ent args M2.2.2.1) [] w with
          | some (r, w2) => if av_back ls rest w w2 = true then arun f M (pc + 3) ls (r.toList ++ rest) w2 else none
          | none => none) else none
        | none => (match av_step M i len pc ls st w with
          | some (pc2, ls2, st2, w2) => arun f M pc2 ls2 st2 w2
          | none => none)))
    | _ => none
