/-! what a row of the tables promises; that each keeps it is decided by the kernel, method by method -/
def mx_sf (k : Nat) : String × String × String := match k with
  | 0 => ("MainsLetters$Contention", "WIDTHS", "[I")
  | 1 => ("MainsLetters$Contention", "NARROW_WIDTHS", "[I")
  | _ => ("MainsLetters$Contention", "DEFERS", "[I")
def mx_w (pl : Nat) (w : Cond) : Bool := decide (lw_tbl[pl]? = some w)
/-- a method that may be called -/
def mx_mk (k n : Nat) (f : MethodName → Bool) : Bool := match mx_hd[k]? with
  | some (y, cc, maxL, rt, pl) => mx_w pl (.code y cc maxL rt) && decide (y.cls ≠ "java/lang/invoke/MethodHandle") && decide (y.cls ≠ "java/lang/invoke/VarHandle") && decide ((parseMethodDescriptor y.desc).map (fun d => d.parameters.length) = some n) && decide (maxL ≤ 40) && decide (n + 1 ≤ maxL ∨ (n ≤ maxL ∧ y.name ≠ "<init>")) && plainName y.cls && f y
  | none => false
def mx_fk (ci k : Nat) (f : String → String × String × String × Bool → Nat → Bool) : Bool := match vwCl[ci]? with
  | some (C, T, N) => decide (k < N) && f C (T k) N
  | none => false
def mx_ax (own mname : String) (pc : Nat) (i : Instr) (len : Nat) (aux : List Nat) : Bool := match i with
  | .iload_n _ | .aload_n _ | .istore_n _ | .astore_n _ | .iadd | .isub | .imul | .iand | .ior | .ixor | .ishl | .ishr | .iushr | .idiv | .irem | .iaload | .iastore | .baload | .bastore | .aaload | .aastore | .arraylength | .dup | .dup2 | .pop | .ireturn | .return_ => decide (len = 1)
  | .iconst _ => decide (len = 1)
  | .bipush _ => decide (len = 2)
  | .sipush _ => decide (len = 3)
  | .iload _ | .aload _ | .istore _ | .astore _ => decide (len = 2)
  | .iinc _ _ => decide (len = 3)
  | .goto off => decide (len = 3) && decide (0 ≤ (pc : Int) + off)
  | .ifCond _ off => decide (len = 3) && decide (0 ≤ (pc : Int) + off)
  | .if_icmp _ off => decide (len = 3) && decide (0 ≤ (pc : Int) + off)
  | .tableswitch dflt _ _ offs => decide (0 ≤ (pc : Int) + dflt) && offs.toList.all (fun off => decide (0 ≤ (pc : Int) + off))
  | .ldc ix => decide (len = 2) && (match aux with
    | [v, pl] => mx_w pl (.constant own ix (Int32.ofNat v))
    | _ => false)
  | .ldc_w ix => decide (len = 3) && (match aux with
    | [v, pl] => mx_w pl (.constant own ix (Int32.ofNat v))
    | _ => false)
  | .getfield ix => decide (len = 3) && (match aux with
    | [ci, k, nest, pl] => mx_fk ci k (fun _ t _ => if nest = 0 then mx_w pl (.fieldLink own ix t.1 t.2.1 t.2.2.1) else mx_w pl (.fieldLinkNest own ix t.1 t.2.1 t.2.2.1 "MainsLetters"))
    | _ => false)
  | .putfield ix => decide (len = 3) && (match aux with
    | [ci, k, kind, isB, pl] => mx_fk ci k (fun _ t _ =>
      (if kind = 2 then mx_w pl (.fieldLinkNest own ix t.1 t.2.1 t.2.2.1 "MainsLetters") else mx_w pl (.fieldLink own ix t.1 t.2.1 t.2.2.1)) &&
      (if kind = 1 then t.2.2.2 && decide (t.1 = own) && decide (mname = "<init>") && (match parseFieldDescriptor t.2.2.1 with
        | some (.object _) => true
        | some (.array _) => true
        | _ => false) else (!t.2.2.2 && decide (parseFieldDescriptor t.2.2.1 = some (if isB = 0 then .int else .boolean)))))
    | _ => false)
  | .getstatic ix => decide (len = 3) && (match aux with
    | [k, pl] => decide (k < 3) && mx_w pl (.fieldLink own ix (mx_sf k).1 (mx_sf k).2.1 (mx_sf k).2.2)
    | _ => false)
  | .new ix => decide (len = 3) && (match aux with
    | [ci, p1, p2, p3] => mx_fk ci 0 (fun C _ N => mx_w p1 (.classLink own ix C) && mx_w p2 (.instantiable C N) && mx_w p3 (.initialized C))
    | _ => false)
  | .newarray at_ => decide (len = 2) && (match aux with
    | [t, pl] => (decide (at_ = .int) && decide (t = 0) && mx_w pl (.arrayClass .int)) || (decide (at_ = .boolean) && decide (t = 1) && mx_w pl (.arrayClass .boolean))
    | _ => false)
  | .anewarray ix => decide (len = 3) && (match aux with
    | [p1] => mx_w p1 (.classLink own ix "MainsLetters$Station")
    | _ => false)
  | .invokestatic ix => decide (len = 3) && (match aux with
    | [k, _, n, pl, p2, p3] => mx_mk k n (fun y => mx_w pl (.methodLink own ix y) && mx_w p2 (.static y) && mx_w p3 (.initialized y.cls) && decide (y.name ≠ "<init>"))
    | [mm, pl, p2, p3, p4] => (decide (mm = 0) && mx_w pl (.methodLink own ix Lib.Math.min.name) && mx_w p2 (.static Lib.Math.min.name) && mx_w p3 (.initialized "java/lang/Math") && mx_w p4 (.code Lib.Math.min.name Lib.Math.min.code 2 (some .int))) || (decide (mm = 1) && mx_w pl (.methodLink own ix Lib.Math.max.name) && mx_w p2 (.static Lib.Math.max.name) && mx_w p3 (.initialized "java/lang/Math") && mx_w p4 (.code Lib.Math.max.name Lib.Math.max.code 2 (some .int)))
    | _ => false)
  | .invokevirtual ix => decide (len = 3) && (match aux with
    | [k, _, n, pl, p2, p3, p4, ci] => mx_mk k n (fun y => mx_w pl (.methodLink own ix y) && mx_w p2 (.instanceMethod y) && mx_w p3 (.selects y.cls y y) && mx_w p4 (.initialized y.cls) && mx_fk ci 0 (fun C _ _ => decide (y.cls = C)) && decide (n + 1 ≤ ((mx_hd[k]?).map (fun q => q.2.2.1)).getD 0))
    | _ => false)
  | .invokespecial ix => decide (len = 3) && (match aux with
    | [k, _, n, pl, p2, p3, nest] => mx_mk k n (fun y => (if nest = 0 then mx_w pl (.methodLink own ix y) else mx_w pl (.methodLinkNest own ix y "MainsLetters")) && mx_w p2 (.instanceMethod y) && mx_w p3 (.initialized y.cls) && decide (y.name = "<init>"))
    | [pl] => mx_w pl (.methodLink own ix objectInit)
    | _ => false)
  | _ => false
def mx_chk (own mname : String) (cc : ByteArray) (q : Nat × mx_I) : Bool := decide (decode cc q.1 = .ok (q.2.1, q.2.2.1)) && mx_ax own mname q.1 q.2.1 q.2.2.1 q.2.2.2
def mx_ck (q : mx_HD × List (Nat × mx_I)) : Bool := q.2.all (mx_chk q.1.1.cls q.1.1.name q.1.2.1)
theorem mx_good {j pc : Nat} {q : mx_HD} {x : mx_I} (hj : mx_hd[j]? = some q) (hi : mx_ins j pc = some x) : mx_chk q.1.cls q.1.name q.2.1 (pc, x) = true := sorry
