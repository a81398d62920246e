/-! the step, instruction by instruction -/
section JSQ
variable {α : Type} (own : Nat) (ini : Bool) (rt : Nat) (pc : Nat) (lv st : List Value) (S : jS) (bad : α) (kn : Nat → List Value → List Value → jS → α) (kc : Nat → List Value → List Value → α) (kr : Option Value → jS → α)
theorem jq_aload_n (n : Fin 4) : jstep own ini rt (.aload_n n) pc lv st S bad kn kc kr = jld lv n bad (fun _ => bad) (fun _ => bad) (kn (pc + 1) lv (.null :: st) S) (fun a => kn (pc + 1) lv (.ref a :: st) S) := rfl
theorem jq_aload (n : Nat) : jstep own ini rt (.aload n) pc lv st S bad kn kc kr = jld lv n bad (fun _ => bad) (fun _ => bad) (kn (pc + 2) lv (.null :: st) S) (fun a => kn (pc + 2) lv (.ref a :: st) S) := rfl
theorem jq_iload_n (n : Fin 4) : jstep own ini rt (.iload_n n) pc lv st S bad kn kc kr = jld lv n bad (fun x => kn (pc + 1) lv (.int x :: st) S) (fun _ => bad) bad (fun _ => bad) := rfl
theorem jq_iload (n : Nat) : jstep own ini rt (.iload n) pc lv st S bad kn kc kr = jld lv n bad (fun x => kn (pc + 2) lv (.int x :: st) S) (fun _ => bad) bad (fun _ => bad) := rfl
theorem jq_lload_n (n : Fin 4) : jstep own ini rt (.lload_n n) pc lv st S bad kn kc kr = jld lv n bad (fun _ => bad) (fun x => kn (pc + 1) lv (.long x :: st) S) bad (fun _ => bad) := rfl
theorem jq_lload (n : Nat) : jstep own ini rt (.lload n) pc lv st S bad kn kc kr = jld lv n bad (fun _ => bad) (fun x => kn (pc + 2) lv (.long x :: st) S) bad (fun _ => bad) := rfl
theorem jq_istore_n (n : Fin 4) : jstep own ini rt (.istore_n n) pc lv st S bad kn kc kr = jp1 st bad fun x r => if (n : Nat) < lv.length then kn (pc + 1) (jst1 lv n (.int x)) r S else bad := rfl
theorem jq_istore (n : Nat) : jstep own ini rt (.istore n) pc lv st S bad kn kc kr = jp1 st bad fun x r => if n < lv.length then kn (pc + 2) (jst1 lv n (.int x)) r S else bad := rfl
theorem jq_lstore_n (n : Fin 4) : jstep own ini rt (.lstore_n n) pc lv st S bad kn kc kr = jq1 st bad fun x r => if (n : Nat) + 1 < lv.length then kn (pc + 1) (jst2 lv n (.long x)) r S else bad := rfl
theorem jq_lstore (n : Nat) : jstep own ini rt (.lstore n) pc lv st S bad kn kc kr = jq1 st bad fun x r => if n + 1 < lv.length then kn (pc + 2) (jst2 lv n (.long x)) r S else bad := rfl
theorem jq_astore_n (n : Fin 4) : jstep own ini rt (.astore_n n) pc lv st S bad kn kc kr = jpo st bad (fun r => if (n : Nat) < lv.length then kn (pc + 1) (jst1 lv n .null) r S else bad) (fun a r => if (n : Nat) < lv.length then kn (pc + 1) (jst1 lv n (.ref a)) r S else bad) := rfl
theorem jq_astore (n : Nat) : jstep own ini rt (.astore n) pc lv st S bad kn kc kr = jpo st bad (fun r => if n < lv.length then kn (pc + 2) (jst1 lv n .null) r S else bad) (fun a r => if n < lv.length then kn (pc + 2) (jst1 lv n (.ref a)) r S else bad) := rfl
theorem jq_iinc (n : Nat) (c : Int) : jstep own ini rt (.iinc n c) pc lv st S bad kn kc kr = jld lv n bad (fun x => if n < lv.length then kn (pc + 3) (jst1 lv n (.int (x + Int32.ofInt c))) st S else bad) (fun _ => bad) bad (fun _ => bad) := rfl
theorem jq_iconst (v : Int) : jstep own ini rt (.iconst v) pc lv st S bad kn kc kr = kn (pc + 1) lv (.int (Int32.ofInt v) :: st) S := rfl
theorem jq_bipush (v : Int) : jstep own ini rt (.bipush v) pc lv st S bad kn kc kr = kn (pc + 2) lv (.int (Int8.ofInt v).toInt32 :: st) S := rfl
theorem jq_sipush (v : Int) : jstep own ini rt (.sipush v) pc lv st S bad kn kc kr = kn (pc + 3) lv (.int (Int16.ofInt v).toInt32 :: st) S := rfl
theorem jq_lconst (v : Fin 2) : jstep own ini rt (.lconst v) pc lv st S bad kn kc kr = kn (pc + 1) lv (.long (Int64.ofNat (v : Nat)) :: st) S := rfl
theorem jq_aconst_null  : jstep own ini rt (.aconst_null) pc lv st S bad kn kc kr = kn (pc + 1) lv (.null :: st) S := rfl
theorem jq_ldc (n : Nat) : jstep own ini rt (.ldc n) pc lv st S bad kn kc kr = (match jcti own n with
    | none => bad
    | some (x, _) => kn (pc + 2) lv (.int x :: st) S) := rfl
theorem jq_ldc_w (n : Nat) : jstep own ini rt (.ldc_w n) pc lv st S bad kn kc kr = (match jcti own n with
    | none => bad
    | some (x, _) => kn (pc + 3) lv (.int x :: st) S) := rfl
theorem jq_ldc2_w (n : Nat) : jstep own ini rt (.ldc2_w n) pc lv st S bad kn kc kr = (match jctj own n with
    | none => bad
    | some (x, _) => kn (pc + 3) lv (.long x :: st) S) := rfl
theorem jq_iadd  : jstep own ini rt (.iadd) pc lv st S bad kn kc kr = jp1 st bad fun y r => jp1 r bad fun x r => kn (pc + 1) lv (.int (x + y) :: r) S := rfl
theorem jq_isub  : jstep own ini rt (.isub) pc lv st S bad kn kc kr = jp1 st bad fun y r => jp1 r bad fun x r => kn (pc + 1) lv (.int (x - y) :: r) S := rfl
theorem jq_imul  : jstep own ini rt (.imul) pc lv st S bad kn kc kr = jp1 st bad fun y r => jp1 r bad fun x r => kn (pc + 1) lv (.int (x * y) :: r) S := rfl
theorem jq_iand  : jstep own ini rt (.iand) pc lv st S bad kn kc kr = jp1 st bad fun y r => jp1 r bad fun x r => kn (pc + 1) lv (.int (x &&& y) :: r) S := rfl
theorem jq_ior  : jstep own ini rt (.ior) pc lv st S bad kn kc kr = jp1 st bad fun y r => jp1 r bad fun x r => kn (pc + 1) lv (.int (x ||| y) :: r) S := rfl
theorem jq_ishl  : jstep own ini rt (.ishl) pc lv st S bad kn kc kr = jp1 st bad fun y r => jp1 r bad fun x r => kn (pc + 1) lv (.int (x <<< (y &&& 31)) :: r) S := rfl
theorem jq_ishr  : jstep own ini rt (.ishr) pc lv st S bad kn kc kr = jp1 st bad fun y r => jp1 r bad fun x r => kn (pc + 1) lv (.int (x >>> (y &&& 31)) :: r) S := rfl
theorem jq_iushr  : jstep own ini rt (.iushr) pc lv st S bad kn kc kr = jp1 st bad fun y r => jp1 r bad fun x r => kn (pc + 1) lv (.int (x.toUInt32 >>> (y.toUInt32 &&& Int32.toUInt32 31)).toInt32 :: r) S := rfl
theorem jq_idiv  : jstep own ini rt (.idiv) pc lv st S bad kn kc kr = jp1 st bad fun y r => jp1 r bad fun x r => jif (y = 0) bad (kn (pc + 1) lv (.int (x / y) :: r) S) := rfl
theorem jq_irem  : jstep own ini rt (.irem) pc lv st S bad kn kc kr = jp1 st bad fun y r => jp1 r bad fun x r => jif (y = 0) bad (kn (pc + 1) lv (.int (x - x / y * y) :: r) S) := rfl
theorem jq_ladd  : jstep own ini rt (.ladd) pc lv st S bad kn kc kr = jq1 st bad fun y r => jq1 r bad fun x r => kn (pc + 1) lv (.long (x + y) :: r) S := rfl
theorem jq_lmul  : jstep own ini rt (.lmul) pc lv st S bad kn kc kr = jq1 st bad fun y r => jq1 r bad fun x r => kn (pc + 1) lv (.long (x * y) :: r) S := rfl
theorem jq_land  : jstep own ini rt (.land) pc lv st S bad kn kc kr = jq1 st bad fun y r => jq1 r bad fun x r => kn (pc + 1) lv (.long (x &&& y) :: r) S := rfl
theorem jq_lor  : jstep own ini rt (.lor) pc lv st S bad kn kc kr = jq1 st bad fun y r => jq1 r bad fun x r => kn (pc + 1) lv (.long (x ||| y) :: r) S := rfl
theorem jq_lxor  : jstep own ini rt (.lxor) pc lv st S bad kn kc kr = jq1 st bad fun y r => jq1 r bad fun x r => kn (pc + 1) lv (.long (x ^^^ y) :: r) S := rfl
theorem jq_ldiv  : jstep own ini rt (.ldiv) pc lv st S bad kn kc kr = jq1 st bad fun y r => jq1 r bad fun x r => jif (y = 0) bad (kn (pc + 1) lv (.long (x / y) :: r) S) := rfl
theorem jq_lrem  : jstep own ini rt (.lrem) pc lv st S bad kn kc kr = jq1 st bad fun y r => jq1 r bad fun x r => jif (y = 0) bad (kn (pc + 1) lv (.long (x - x / y * y) :: r) S) := rfl
theorem jq_lshl  : jstep own ini rt (.lshl) pc lv st S bad kn kc kr = jp1 st bad fun y r => jq1 r bad fun x r => kn (pc + 1) lv (.long (x <<< (y.toInt64 &&& 63)) :: r) S := rfl
theorem jq_lushr  : jstep own ini rt (.lushr) pc lv st S bad kn kc kr = jp1 st bad fun y r => jq1 r bad fun x r => kn (pc + 1) lv (.long (x.toUInt64 >>> (y.toInt64.toUInt64 &&& Int64.toUInt64 63)).toInt64 :: r) S := rfl
theorem jq_lcmp  : jstep own ini rt (.lcmp) pc lv st S bad kn kc kr = jq1 st bad fun y r => jq1 r bad fun x r => kn (pc + 1) lv (.int (lg_cmp x y) :: r) S := rfl
theorem jq_i2l  : jstep own ini rt (.i2l) pc lv st S bad kn kc kr = jp1 st bad fun x r => kn (pc + 1) lv (.long x.toInt64 :: r) S := rfl
theorem jq_l2i  : jstep own ini rt (.l2i) pc lv st S bad kn kc kr = jq1 st bad fun x r => kn (pc + 1) lv (.int x.toInt32 :: r) S := rfl
theorem jq_i2b  : jstep own ini rt (.i2b) pc lv st S bad kn kc kr = jp1 st bad fun x r => kn (pc + 1) lv (.int x.toInt8.toInt32 :: r) S := rfl
theorem jq_dup  : jstep own ini rt (.dup) pc lv st S bad kn kc kr = jpv st bad fun v r => kn (pc + 1) lv (v :: v :: r) S := rfl
theorem jq_dup2  : jstep own ini rt (.dup2) pc lv st S bad kn kc kr = jpv st bad fun v r => jpv r bad fun w r => kn (pc + 1) lv (v :: w :: v :: w :: r) S := rfl
theorem jq_pop  : jstep own ini rt (.pop) pc lv st S bad kn kc kr = jpv st bad fun _ r => kn (pc + 1) lv r S := rfl
theorem jq_goto (o : Int) : jstep own ini rt (.goto o) pc lv st S bad kn kc kr = jmp pc o bad fun t => kn t lv st S := rfl
theorem jq_ifCond_eq (o : Int) : jstep own ini rt (.ifCond .eq o) pc lv st S bad kn kc kr = jp1 st bad fun x r => jmp pc o bad fun t => jif (x = 0) (kn t lv r S) (kn (pc + 3) lv r S) := rfl
theorem jq_ifCond_ne (o : Int) : jstep own ini rt (.ifCond .ne o) pc lv st S bad kn kc kr = jp1 st bad fun x r => jmp pc o bad fun t => jif (x = 0) (kn (pc + 3) lv r S) (kn t lv r S) := rfl
theorem jq_ifCond_lt (o : Int) : jstep own ini rt (.ifCond .lt o) pc lv st S bad kn kc kr = jp1 st bad fun x r => jmp pc o bad fun t => jif (x < 0) (kn t lv r S) (kn (pc + 3) lv r S) := rfl
theorem jq_ifCond_ge (o : Int) : jstep own ini rt (.ifCond .ge o) pc lv st S bad kn kc kr = jp1 st bad fun x r => jmp pc o bad fun t => jif (0 ≤ x) (kn t lv r S) (kn (pc + 3) lv r S) := rfl
theorem jq_ifCond_gt (o : Int) : jstep own ini rt (.ifCond .gt o) pc lv st S bad kn kc kr = jp1 st bad fun x r => jmp pc o bad fun t => jif (0 < x) (kn t lv r S) (kn (pc + 3) lv r S) := rfl
theorem jq_ifCond_le (o : Int) : jstep own ini rt (.ifCond .le o) pc lv st S bad kn kc kr = jp1 st bad fun x r => jmp pc o bad fun t => jif (x ≤ 0) (kn t lv r S) (kn (pc + 3) lv r S) := rfl
theorem jq_if_icmp_eq (o : Int) : jstep own ini rt (.if_icmp .eq o) pc lv st S bad kn kc kr = jp1 st bad fun y r => jp1 r bad fun x r => jmp pc o bad fun t => jif (x = y) (kn t lv r S) (kn (pc + 3) lv r S) := rfl
theorem jq_if_icmp_ne (o : Int) : jstep own ini rt (.if_icmp .ne o) pc lv st S bad kn kc kr = jp1 st bad fun y r => jp1 r bad fun x r => jmp pc o bad fun t => jif (x = y) (kn (pc + 3) lv r S) (kn t lv r S) := rfl
theorem jq_if_icmp_lt (o : Int) : jstep own ini rt (.if_icmp .lt o) pc lv st S bad kn kc kr = jp1 st bad fun y r => jp1 r bad fun x r => jmp pc o bad fun t => jif (x < y) (kn t lv r S) (kn (pc + 3) lv r S) := rfl
theorem jq_if_icmp_ge (o : Int) : jstep own ini rt (.if_icmp .ge o) pc lv st S bad kn kc kr = jp1 st bad fun y r => jp1 r bad fun x r => jmp pc o bad fun t => jif (y ≤ x) (kn t lv r S) (kn (pc + 3) lv r S) := rfl
theorem jq_if_icmp_gt (o : Int) : jstep own ini rt (.if_icmp .gt o) pc lv st S bad kn kc kr = jp1 st bad fun y r => jp1 r bad fun x r => jmp pc o bad fun t => jif (y < x) (kn t lv r S) (kn (pc + 3) lv r S) := rfl
theorem jq_if_icmp_le (o : Int) : jstep own ini rt (.if_icmp .le o) pc lv st S bad kn kc kr = jp1 st bad fun y r => jp1 r bad fun x r => jmp pc o bad fun t => jif (x ≤ y) (kn t lv r S) (kn (pc + 3) lv r S) := rfl
theorem jq_if_acmp_ne (o : Int) : jstep own ini rt (.if_acmp .ne o) pc lv st S bad kn kc kr = jpo st bad (fun r => jpo r bad (fun r => jmp pc o bad fun _ => kn (pc + 3) lv r S) (fun _ r => jmp pc o bad fun t => kn t lv r S)) (fun b r => jpo r bad (fun r => jmp pc o bad fun t => kn t lv r S) (fun a r => jmp pc o bad fun t => if a = b then kn (pc + 3) lv r S else kn t lv r S)) := rfl
theorem jq_ifnull (o : Int) : jstep own ini rt (.ifnull o) pc lv st S bad kn kc kr = jpo st bad (fun r => jmp pc o bad fun t => kn t lv r S) (fun _ r => kn (pc + 3) lv r S) := rfl
theorem jq_ifnonnull (o : Int) : jstep own ini rt (.ifnonnull o) pc lv st S bad kn kc kr = jpo st bad (fun r => kn (pc + 3) lv r S) (fun _ r => jmp pc o bad fun t => kn t lv r S) := rfl
theorem jq_tableswitch (d : Int) (lo : Int) (hi : Int) (offs : Array Int) : jstep own ini rt (.tableswitch d lo hi offs) pc lv st S bad kn kc kr = jp1 st bad fun x r => cond (decide (-2147483648 ≤ lo) && decide (hi = lo + (offs.toList.length : Int) - 1) && decide (hi ≤ 2147483647)) (jtab x lo offs.toList (jmp pc d bad fun t => kn t lv r S) (fun o => jmp pc o bad fun t => kn t lv r S)) bad := rfl
theorem jq_lookupswitch (d : Int) (ps : Array (Int × Int)) : jstep own ini rt (.lookupswitch d ps) pc lv st S bad kn kc kr = jp1 st bad fun x r => cond ((ps.toList.zip (ps.toList.drop 1)).all (fun (a, next) => a.1 < next.1) && ps.toList.all (fun p => decide (-2147483648 ≤ p.1) && decide (p.1 ≤ 2147483647))) (jlok x ps.toList (jmp pc d bad fun t => kn t lv r S) (fun o => jmp pc o bad fun t => kn t lv r S)) bad := rfl
theorem jq_getfield (n : Nat) : jstep own ini rt (.getfield n) pc lv st S bad kn kc kr = jget own n S st bad fun v r => kn (pc + 3) lv (v :: r) S := rfl
theorem jq_putfield (n : Nat) : jstep own ini rt (.putfield n) pc lv st S bad kn kc kr = jput own n ini S st bad fun S' r => kn (pc + 3) lv r S' := rfl
theorem jq_iaload  : jstep own ini rt (.iaload) pc lv st S bad kn kc kr = jp1 st bad fun j r => jpr r bad fun a r => if jK S a = 15 ∨ jK S a = 20 then cond (jin j (jLn S a)) (kn (pc + 1) lv (.int (jI S a j.toNatClampNeg) :: r) S) bad else bad := rfl
theorem jq_baload  : jstep own ini rt (.baload) pc lv st S bad kn kc kr = jp1 st bad fun j r => jpr r bad fun a r => if jK S a = 14 then cond (jin j (jLn S a)) (kn (pc + 1) lv (.int (jI S a j.toNatClampNeg) :: r) S) bad else bad := rfl
theorem jq_laload  : jstep own ini rt (.laload) pc lv st S bad kn kc kr = jp1 st bad fun j r => jpr r bad fun a r => if jK S a = 16 then cond (jin j (jLn S a)) (kn (pc + 1) lv (.long (jJ S a j.toNatClampNeg) :: r) S) bad else bad := rfl
theorem jq_aaload  : jstep own ini rt (.aaload) pc lv st S bad kn kc kr = jp1 st bad fun j r => jpr r bad fun a r => if 17 ≤ jK S a ∧ jK S a ≤ 19 then cond (jin j (jLn S a)) (jo (jR S a j.toNatClampNeg) (kn (pc + 1) lv (.null :: r) S) (fun b => kn (pc + 1) lv (.ref b :: r) S)) bad else bad := rfl
theorem jq_iastore  : jstep own ini rt (.iastore) pc lv st S bad kn kc kr = jp1 st bad fun x r => jp1 r bad fun j r => jpr r bad fun a r => if jK S a = 15 then cond (jin j (jLn S a)) (kn (pc + 1) lv r (jsI S a j.toNatClampNeg x)) bad else bad := rfl
theorem jq_bastore  : jstep own ini rt (.bastore) pc lv st S bad kn kc kr = jp1 st bad fun x r => jp1 r bad fun j r => jpr r bad fun a r => if jK S a = 14 then cond (jin j (jLn S a)) (kn (pc + 1) lv r (jsI S a j.toNatClampNeg x.toInt8.toInt32)) bad else bad := rfl
theorem jq_lastore  : jstep own ini rt (.lastore) pc lv st S bad kn kc kr = jq1 st bad fun x r => jp1 r bad fun j r => jpr r bad fun a r => if jK S a = 16 then cond (jin j (jLn S a)) (kn (pc + 1) lv r (jsJ S a j.toNatClampNeg x)) bad else bad := rfl
theorem jq_aastore  : jstep own ini rt (.aastore) pc lv st S bad kn kc kr = jpo st bad (fun r => jp1 r bad fun j r => jpr r bad fun a r => if 17 ≤ jK S a ∧ jK S a ≤ 19 then cond (jin j (jLn S a)) (kn (pc + 1) lv r (jsR S a j.toNatClampNeg none)) bad else bad) (fun b r => jp1 r bad fun j r => jpr r bad fun a r => if 17 ≤ jK S a ∧ jK S a ≤ 19 then (if jK S b = jel (jK S a) then cond (jin j (jLn S a)) (kn (pc + 1) lv r (jsR S a j.toNatClampNeg (some b))) bad else bad) else bad) := rfl
theorem jq_arraylength  : jstep own ini rt (.arraylength) pc lv st S bad kn kc kr = jpr st bad fun a r => if 14 ≤ jK S a then kn (pc + 1) lv (.int (Int32.ofNat (jLn S a)) :: r) S else bad := rfl
theorem jq_new (n : Nat) : jstep own ini rt (.new n) pc lv st S bad kn kc kr = (match jcln own n with
    | none => bad
    | some (ci, _) => cond (decide (ci < 13)) (cond (jrm S (jN ci)) (kn (pc + 3) lv (.ref (jC S + 1) :: st) (jal S (ci + 1) 0 (jN ci))) bad) bad) := rfl
theorem jq_newarray (t : ArrayType) : jstep own ini rt (.newarray t) pc lv st S bad kn kc kr = jp1 st bad fun x r => cond (decide (0 < jat t)) (cond (jb (0 ≤ x) && jrm S x.toNatClampNeg) (kn (pc + 2) lv (.ref (jC S + 1) :: r) (jal S (jat t) x.toNatClampNeg x.toNatClampNeg)) bad) bad := rfl
theorem jq_anewarray (n : Nat) : jstep own ini rt (.anewarray n) pc lv st S bad kn kc kr = (match jcln own n with
    | none => bad
    | some (ci, _) => jp1 st bad fun x r => cond (ci.beq 1 || ci.beq 8 || ci.beq 9) (cond (jb (0 ≤ x) && jrm S x.toNatClampNeg) (kn (pc + 3) lv (.ref (jC S + 1) :: r) (jal S (bif ci.beq 1 then 17 else bif ci.beq 8 then 18 else 19) x.toNatClampNeg x.toNatClampNeg)) bad) bad) := rfl
theorem jq_invokevirtual (n : Nat) : jstep own ini rt (.invokevirtual n) pc lv st S bad kn kc kr = (match jlnk own n with
    | none => bad
    | some (m, nest, _) => cond (nest.beq 0 && decide (m < 282) && (jmt m).2.2.2.2.1.beq 0) (jpr (st.drop (jmt m).2.2.2.1) bad fun a r => if jK S a = (jmt m).1 + 1 then cond (decide (jcat r ≤ 8) && decide ((jexp (.ref a :: (st.take (jmt m).2.2.2.1).reverse)).length ≤ (jmt m).2.1)) (kc m (.ref a :: (st.take (jmt m).2.2.2.1).reverse) r) bad else bad) bad) := rfl
theorem jq_invokespecial (n : Nat) : jstep own ini rt (.invokespecial n) pc lv st S bad kn kc kr = (match jlnk own n with
    | none => bad
    | some (m, nest, _) => cond (m.beq 1000) (jpr st bad fun _ r => cond (decide (jcat r ≤ 8)) (kn (pc + 3) lv r S) bad) (cond (nest.beq 0 && decide (m < 282) && (jmt m).2.2.2.2.1.beq 2) (jpr (st.drop (jmt m).2.2.2.1) bad fun a r => cond (decide (jcat r ≤ 8) && decide ((jexp (.ref a :: (st.take (jmt m).2.2.2.1).reverse)).length ≤ (jmt m).2.1)) (kc m (.ref a :: (st.take (jmt m).2.2.2.1).reverse) r) bad) bad)) := rfl
theorem jq_invokestatic (n : Nat) : jstep own ini rt (.invokestatic n) pc lv st S bad kn kc kr = (match jlnk own n with
    | none => bad
    | some (m, _, _) => cond (m.beq 1001)
        (jp1 st bad fun k r => jp1 r bad fun dp r => jpr r bad fun b r => jp1 r bad fun sp r => jpr r bad fun a r =>
          if (jK S a = 14 ∧ jK S b = 14 ∨ jK S a = 15 ∧ jK S b = 15) ∧ a ≠ b then cond (jb (0 ≤ k ∧ 0 ≤ sp ∧ 0 ≤ dp ∧ sp.toNatClampNeg + k.toNatClampNeg ≤ jLn S a ∧ dp.toNatClampNeg + k.toNatClampNeg ≤ jLn S b) && decide (jcat r ≤ 8)) (kn (pc + 3) lv r (jcp S a sp.toNatClampNeg b dp.toNatClampNeg k.toNatClampNeg)) bad else (if (jK S a = 16 ∧ jK S b = 16) ∧ a ≠ b then cond (jb (0 ≤ k ∧ 0 ≤ sp ∧ 0 ≤ dp ∧ sp.toNatClampNeg + k.toNatClampNeg ≤ jLn S a ∧ dp.toNatClampNeg + k.toNatClampNeg ≤ jLn S b) && decide (jcat r ≤ 8)) (kn (pc + 3) lv r (jcq S a sp.toNatClampNeg b dp.toNatClampNeg k.toNatClampNeg)) bad else bad))
        (cond (m.beq 1002) (jp1 st bad fun y r => jp1 r bad fun x r => cond (decide (jcat r ≤ 8)) (kn (pc + 3) lv (.int (jmx x y) :: r) S) bad) (cond (m.beq 1003) (jp1 st bad fun y r => jp1 r bad fun x r => cond (decide (jcat r ≤ 8)) (kn (pc + 3) lv (.int (jmm x y) :: r) S) bad) (cond (decide (m < 282) && (jmt m).2.2.2.2.1.beq 1 && decide ((jmt m).2.2.2.1 ≤ st.length) && decide (jcat (st.drop (jmt m).2.2.2.1) ≤ 8) && decide ((jexp (st.take (jmt m).2.2.2.1).reverse).length ≤ (jmt m).2.1)) (kc m (st.take (jmt m).2.2.2.1).reverse (st.drop (jmt m).2.2.2.1)) bad)))) := rfl
theorem jq_ireturn  : jstep own ini rt (.ireturn) pc lv st S bad kn kc kr = (jp1 st bad fun x r => jp0 r bad (match rt with
      | 1 => kr (some (.int x)) S
      | 4 => jif (x = 0 ∨ x = 1) (kr (some (.int x)) S) bad
      | _ => bad)) := rfl
theorem jq_lreturn  : jstep own ini rt (.lreturn) pc lv st S bad kn kc kr = (jq1 st bad fun x r => jp0 r bad (match rt with
      | 2 => kr (some (.long x)) S
      | _ => bad)) := rfl
theorem jq_areturn  : jstep own ini rt (.areturn) pc lv st S bad kn kc kr = (jpo st bad (fun r => jp0 r bad (match rt with
      | 3 => kr (some .null) S
      | _ => bad)) (fun a r => jp0 r bad (match rt with
      | 3 => kr (some (.ref a)) S
      | _ => bad))) := rfl
theorem jq_return_  : jstep own ini rt (.return_) pc lv st S bad kn kc kr = (jp0 st bad (match rt with
      | 0 => kr none S
      | _ => bad)) := rfl
end JSQ
