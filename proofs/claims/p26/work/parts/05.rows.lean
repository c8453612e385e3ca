section GoOps
variable {Γ : G9} {M : MI} {d C S pc q : Nat} {L : List (Option Value)} {st : List Value} {h : AH} {z : Nat} {Q : QT} {X : XT}
theorem Go.iconst {n : Int} {v : Int32} (hd : decode M.2.1 pc = .ok (.iconst n, 1)) (hq : pc + 1 = q) (hv : Int32.ofInt n = v) (k : Go Γ M d C S q L (.int v :: st) h z Q X) : Go Γ M d C S pc L st h z Q X := by
  subst hq
  exact Go.pure k (fun hx hb hl k => lv_iconst hx hb hd hv k)
theorem Go.bipush {n : Int} {v : Int32} (hd : decode M.2.1 pc = .ok (.bipush n, 2)) (hq : pc + 2 = q) (hv : (Int8.ofInt n).toInt32 = v) (k : Go Γ M d C S q L (.int v :: st) h z Q X) : Go Γ M d C S pc L st h z Q X := by
  subst hq
  exact Go.pure k (fun hx hb hl k => lv_bipush hx hb hd hv k)
theorem Go.sipush {n : Int} {v : Int32} (hd : decode M.2.1 pc = .ok (.sipush n, 3)) (hq : pc + 3 = q) (hv : (Int16.ofInt n).toInt32 = v) (k : Go Γ M d C S q L (.int v :: st) h z Q X) : Go Γ M d C S pc L st h z Q X := by
  subst hq
  exact Go.pure k (fun hx hb hl k => lv_sipush hx hb hd hv k)
theorem Go.lconst {n : Fin 2} {v : Int64} (hd : decode M.2.1 pc = .ok (.lconst n, 1)) (hq : pc + 1 = q) (hv : Int64.ofNat (n : Nat) = v) (k : Go Γ M d C S q L (.long v :: st) h z Q X) : Go Γ M d C S pc L st h z Q X := by
  subst hq
  exact Go.pure k (fun hx hb hl k => lv_lconst hx hb hd hv k)
theorem Go.aconst_null  (hd : decode M.2.1 pc = .ok (.aconst_null, 1)) (hq : pc + 1 = q)  (k : Go Γ M d C S q L (.null :: st) h z Q X) : Go Γ M d C S pc L st h z Q X := by
  subst hq
  exact Go.pure k (fun hx hb hl k => lv_null hx hb hd k)
theorem Go.iadd {x y : Int32} (hd : decode M.2.1 pc = .ok (.iadd, 1)) (hq : pc + 1 = q)  (k : Go Γ M d C S q L (.int (x + y) :: st) h z Q X) : Go Γ M d C S pc L (.int y :: .int x :: st) h z Q X := by
  subst hq
  exact Go.pure k (fun hx hb hl k => lv_iadd hx hb hd k)
theorem Go.isub {x y : Int32} (hd : decode M.2.1 pc = .ok (.isub, 1)) (hq : pc + 1 = q)  (k : Go Γ M d C S q L (.int (x - y) :: st) h z Q X) : Go Γ M d C S pc L (.int y :: .int x :: st) h z Q X := by
  subst hq
  exact Go.pure k (fun hx hb hl k => lv_isub hx hb hd k)
theorem Go.imul {x y : Int32} (hd : decode M.2.1 pc = .ok (.imul, 1)) (hq : pc + 1 = q)  (k : Go Γ M d C S q L (.int (x * y) :: st) h z Q X) : Go Γ M d C S pc L (.int y :: .int x :: st) h z Q X := by
  subst hq
  exact Go.pure k (fun hx hb hl k => lv_imul hx hb hd k)
theorem Go.iand {x y : Int32} (hd : decode M.2.1 pc = .ok (.iand, 1)) (hq : pc + 1 = q)  (k : Go Γ M d C S q L (.int (x &&& y) :: st) h z Q X) : Go Γ M d C S pc L (.int y :: .int x :: st) h z Q X := by
  subst hq
  exact Go.pure k (fun hx hb hl k => lv_iand hx hb hd k)
theorem Go.ior {x y : Int32} (hd : decode M.2.1 pc = .ok (.ior, 1)) (hq : pc + 1 = q)  (k : Go Γ M d C S q L (.int (x ||| y) :: st) h z Q X) : Go Γ M d C S pc L (.int y :: .int x :: st) h z Q X := by
  subst hq
  exact Go.pure k (fun hx hb hl k => lv_ior hx hb hd k)
theorem Go.ixor {x y : Int32} (hd : decode M.2.1 pc = .ok (.ixor, 1)) (hq : pc + 1 = q)  (k : Go Γ M d C S q L (.int (x ^^^ y) :: st) h z Q X) : Go Γ M d C S pc L (.int y :: .int x :: st) h z Q X := by
  subst hq
  exact Go.pure k (fun hx hb hl k => lv_ixor hx hb hd k)
theorem Go.idiv {x y : Int32} (hd : decode M.2.1 pc = .ok (.idiv, 1)) (hq : pc + 1 = q) (hne : ¬ y = 0) (k : Go Γ M d C S q L (.int (x / y) :: st) h z Q X) : Go Γ M d C S pc L (.int y :: .int x :: st) h z Q X := by
  subst hq
  exact Go.pure k (fun hx hb hl k => lv_idiv hx hb hd hne k)
theorem Go.irem {x y : Int32} (hd : decode M.2.1 pc = .ok (.irem, 1)) (hq : pc + 1 = q) (hne : ¬ y = 0) (k : Go Γ M d C S q L (.int (x - (x / y) * y) :: st) h z Q X) : Go Γ M d C S pc L (.int y :: .int x :: st) h z Q X := by
  subst hq
  exact Go.pure k (fun hx hb hl k => lv_irem hx hb hd hne k)
theorem Go.ineg {x : Int32} (hd : decode M.2.1 pc = .ok (.ineg, 1)) (hq : pc + 1 = q)  (k : Go Γ M d C S q L (.int (-x) :: st) h z Q X) : Go Γ M d C S pc L (.int x :: st) h z Q X := by
  subst hq
  exact Go.pure k (fun hx hb hl k => lv_ineg hx hb hd k)
theorem Go.ladd {x y : Int64} (hd : decode M.2.1 pc = .ok (.ladd, 1)) (hq : pc + 1 = q)  (k : Go Γ M d C S q L (.long (x + y) :: st) h z Q X) : Go Γ M d C S pc L (.long y :: .long x :: st) h z Q X := by
  subst hq
  exact Go.pure k (fun hx hb hl k => lv_ladd hx hb hd k)
theorem Go.lsub {x y : Int64} (hd : decode M.2.1 pc = .ok (.lsub, 1)) (hq : pc + 1 = q)  (k : Go Γ M d C S q L (.long (x - y) :: st) h z Q X) : Go Γ M d C S pc L (.long y :: .long x :: st) h z Q X := by
  subst hq
  exact Go.pure k (fun hx hb hl k => lv_lsub hx hb hd k)
theorem Go.lmul {x y : Int64} (hd : decode M.2.1 pc = .ok (.lmul, 1)) (hq : pc + 1 = q)  (k : Go Γ M d C S q L (.long (x * y) :: st) h z Q X) : Go Γ M d C S pc L (.long y :: .long x :: st) h z Q X := by
  subst hq
  exact Go.pure k (fun hx hb hl k => lv_lmul hx hb hd k)
theorem Go.ishr {x y : Int32} (hd : decode M.2.1 pc = .ok (.ishr, 1)) (hq : pc + 1 = q)  (k : Go Γ M d C S q L (.int (x >>> (y &&& 31)) :: st) h z Q X) : Go Γ M d C S pc L (.int y :: .int x :: st) h z Q X := by
  subst hq
  exact Go.pure k (fun hx hb hl k => lv_ishr hx hb hd k)
theorem Go.iushr {x y : Int32} (hd : decode M.2.1 pc = .ok (.iushr, 1)) (hq : pc + 1 = q)  (k : Go Γ M d C S q L (.int ((x.toUInt32 >>> (y.toUInt32 &&& Int32.toUInt32 31)).toInt32) :: st) h z Q X) : Go Γ M d C S pc L (.int y :: .int x :: st) h z Q X := by
  subst hq
  exact Go.pure k (fun hx hb hl k => lv_iushr hx hb hd rfl k)
theorem Go.i2l {x : Int32} (hd : decode M.2.1 pc = .ok (.i2l, 1)) (hq : pc + 1 = q)  (k : Go Γ M d C S q L (.long x.toInt64 :: st) h z Q X) : Go Γ M d C S pc L (.int x :: st) h z Q X := by
  subst hq
  exact Go.pure k (fun hx hb hl k => lv_i2l hx hb hd rfl k)
theorem Go.l2i {x : Int64} (hd : decode M.2.1 pc = .ok (.l2i, 1)) (hq : pc + 1 = q)  (k : Go Γ M d C S q L (.int x.toInt32 :: st) h z Q X) : Go Γ M d C S pc L (.long x :: st) h z Q X := by
  subst hq
  exact Go.pure k (fun hx hb hl k => lv_l2i hx hb hd rfl k)
theorem Go.i2b {x : Int32} (hd : decode M.2.1 pc = .ok (.i2b, 1)) (hq : pc + 1 = q)  (k : Go Γ M d C S q L (.int x.toInt8.toInt32 :: st) h z Q X) : Go Γ M d C S pc L (.int x :: st) h z Q X := by
  subst hq
  exact Go.pure k (fun hx hb hl k => lv_i2b hx hb hd rfl k)
theorem Go.i2d {x : Int32} (hd : decode M.2.1 pc = .ok (.i2d, 1)) (hq : pc + 1 = q)  (k : Go Γ M d C S q L (.double (FP.i2d x) :: st) h z Q X) : Go Γ M d C S pc L (.int x :: st) h z Q X := by
  subst hq
  exact Go.pure k (fun hx hb hl k => lv_i2d hx hb hd k)
theorem Go.ddiv {x y : UInt64} (hd : decode M.2.1 pc = .ok (.ddiv, 1)) (hq : pc + 1 = q) (hne : vf_n64 (FP.ddiv x y)) (k : Go Γ M d C S q L (.double (FP.ddiv x y) :: st) h z Q X) : Go Γ M d C S pc L (.double y :: .double x :: st) h z Q X := by
  subst hq
  exact Go.pure k (fun hx hb hl k => lv_ddiv hx hb hd hne k)
theorem Go.dcmp {x y : UInt64} {op : CmpOp} (hd : decode M.2.1 pc = .ok (.dcmp op, 1)) (hq : pc + 1 = q)  (k : Go Γ M d C S q L (.int (Op.cmpValue (FP.dcmp x y) op) :: st) h z Q X) : Go Γ M d C S pc L (.double y :: .double x :: st) h z Q X := by
  subst hq
  exact Go.pure k (fun hx hb hl k => lv_dcmp hx hb hd k)
theorem Go.dconst0  (hd : decode M.2.1 pc = .ok (.dconst 0, 1)) (hq : pc + 1 = q)  (k : Go Γ M d C S q L (.double 0 :: st) h z Q X) : Go Γ M d C S pc L st h z Q X := by
  subst hq
  exact Go.pure k (fun hx hb hl k => lv_dconst0 hx hb hd k)
theorem Go.dup {v : Value} (hd : decode M.2.1 pc = .ok (.dup, 1)) (hq : pc + 1 = q) (hv : v.category = 1) (k : Go Γ M d C S q L (v :: v :: st) h z Q X) : Go Γ M d C S pc L (v :: st) h z Q X := by
  subst hq
  exact Go.pure k (fun hx hb hl k => lv_dup hx hb hd hv k)
theorem Go.pop {v : Value} (hd : decode M.2.1 pc = .ok (.pop, 1)) (hq : pc + 1 = q) (hv : v.category = 1) (k : Go Γ M d C S q L st h z Q X) : Go Γ M d C S pc L (v :: st) h z Q X := by
  subst hq
  exact Go.pure k (fun hx hb hl k => lv_pop hx hb hd hv k)
theorem Go.dup_x1 {v w : Value} (hd : decode M.2.1 pc = .ok (.dup_x1, 1)) (hq : pc + 1 = q) (hv : v.category = 1) (hw : w.category = 1) (k : Go Γ M d C S q L (v :: w :: v :: st) h z Q X) : Go Γ M d C S pc L (v :: w :: st) h z Q X := by
  subst hq
  exact Go.pure k (fun hx hb hl k => lv_dup_x1 hx hb hd hv hw k)
theorem Go.dup_x2 {v w u : Value} (hd : decode M.2.1 pc = .ok (.dup_x2, 1)) (hq : pc + 1 = q) (hv : v.category = 1) (hw : w.category = 1) (hu : u.category = 1) (k : Go Γ M d C S q L (v :: w :: u :: v :: st) h z Q X) : Go Γ M d C S pc L (v :: w :: u :: st) h z Q X := by
  subst hq
  exact Go.pure k (fun hx hb hl k => lv_dup_x2 hx hb hd hv hw hu k)
theorem Go.dup2 {v w : Value} (hd : decode M.2.1 pc = .ok (.dup2, 1)) (hq : pc + 1 = q) (hv : v.category = 1) (hw : w.category = 1) (k : Go Γ M d C S q L (v :: w :: v :: w :: st) h z Q X) : Go Γ M d C S pc L (v :: w :: st) h z Q X := by
  subst hq
  exact Go.pure k (fun hx hb hl k => lv_dup2_11 hx hb hd hv hw k)
theorem Go.lcmp {x y : Int64} (hd : decode M.2.1 pc = .ok (.lcmp, 1)) (hq : pc + 1 = q)  (k : Go Γ M d C S q L (.int (lg_cmp x y) :: st) h z Q X) : Go Γ M d C S pc L (.long y :: .long x :: st) h z Q X := by
  subst hq
  exact Go.pure k (fun hx hb hl k => W.lcmp hx hb hd k)
theorem Go.if_eq {x : Int32} {off : Int} {t : Nat} (hd : decode M.2.1 pc = .ok (.ifCond .eq off, 3)) (ht : (pc : Int) + off = (t : Int)) (hq : pc + 3 = q) (kt : x = 0 → Go Γ M d C S t L st h z Q X) (kf : ¬ x = 0 → Go Γ M d C S q L st h z Q X) : Go Γ M d C S pc L (.int x :: st) h z Q X := by
  subst hq
  intro p e R s m args below meth c H locs cells slots ls Z hc
  exact lv_if_eq hc.1.1 hc.1.2.1 hd ht (fun hh => kt hh _ _ _ _ _ _ _ _ _ _ _ _ _ _ _ hc) (fun hh => kf hh _ _ _ _ _ _ _ _ _ _ _ _ _ _ _ hc)
theorem Go.if_ne {x : Int32} {off : Int} {t : Nat} (hd : decode M.2.1 pc = .ok (.ifCond .ne off, 3)) (ht : (pc : Int) + off = (t : Int)) (hq : pc + 3 = q) (kt : ¬ x = 0 → Go Γ M d C S t L st h z Q X) (kf : x = 0 → Go Γ M d C S q L st h z Q X) : Go Γ M d C S pc L (.int x :: st) h z Q X := by
  subst hq
  intro p e R s m args below meth c H locs cells slots ls Z hc
  exact lv_if_ne hc.1.1 hc.1.2.1 hd ht (fun hh => kt hh _ _ _ _ _ _ _ _ _ _ _ _ _ _ _ hc) (fun hh => kf hh _ _ _ _ _ _ _ _ _ _ _ _ _ _ _ hc)
theorem Go.if_lt {x : Int32} {off : Int} {t : Nat} (hd : decode M.2.1 pc = .ok (.ifCond .lt off, 3)) (ht : (pc : Int) + off = (t : Int)) (hq : pc + 3 = q) (kt : x < 0 → Go Γ M d C S t L st h z Q X) (kf : ¬ x < 0 → Go Γ M d C S q L st h z Q X) : Go Γ M d C S pc L (.int x :: st) h z Q X := by
  subst hq
  intro p e R s m args below meth c H locs cells slots ls Z hc
  exact lv_if_lt hc.1.1 hc.1.2.1 hd ht (fun hh => kt hh _ _ _ _ _ _ _ _ _ _ _ _ _ _ _ hc) (fun hh => kf hh _ _ _ _ _ _ _ _ _ _ _ _ _ _ _ hc)
theorem Go.if_ge {x : Int32} {off : Int} {t : Nat} (hd : decode M.2.1 pc = .ok (.ifCond .ge off, 3)) (ht : (pc : Int) + off = (t : Int)) (hq : pc + 3 = q) (kt : 0 ≤ x → Go Γ M d C S t L st h z Q X) (kf : ¬ 0 ≤ x → Go Γ M d C S q L st h z Q X) : Go Γ M d C S pc L (.int x :: st) h z Q X := by
  subst hq
  intro p e R s m args below meth c H locs cells slots ls Z hc
  exact lv_if_ge hc.1.1 hc.1.2.1 hd ht (fun hh => kt hh _ _ _ _ _ _ _ _ _ _ _ _ _ _ _ hc) (fun hh => kf hh _ _ _ _ _ _ _ _ _ _ _ _ _ _ _ hc)
theorem Go.if_gt {x : Int32} {off : Int} {t : Nat} (hd : decode M.2.1 pc = .ok (.ifCond .gt off, 3)) (ht : (pc : Int) + off = (t : Int)) (hq : pc + 3 = q) (kt : 0 < x → Go Γ M d C S t L st h z Q X) (kf : ¬ 0 < x → Go Γ M d C S q L st h z Q X) : Go Γ M d C S pc L (.int x :: st) h z Q X := by
  subst hq
  intro p e R s m args below meth c H locs cells slots ls Z hc
  exact lv_if_gt hc.1.1 hc.1.2.1 hd ht (fun hh => kt hh _ _ _ _ _ _ _ _ _ _ _ _ _ _ _ hc) (fun hh => kf hh _ _ _ _ _ _ _ _ _ _ _ _ _ _ _ hc)
theorem Go.if_le {x : Int32} {off : Int} {t : Nat} (hd : decode M.2.1 pc = .ok (.ifCond .le off, 3)) (ht : (pc : Int) + off = (t : Int)) (hq : pc + 3 = q) (kt : x ≤ 0 → Go Γ M d C S t L st h z Q X) (kf : ¬ x ≤ 0 → Go Γ M d C S q L st h z Q X) : Go Γ M d C S pc L (.int x :: st) h z Q X := by
  subst hq
  intro p e R s m args below meth c H locs cells slots ls Z hc
  exact lv_if_le hc.1.1 hc.1.2.1 hd ht (fun hh => kt hh _ _ _ _ _ _ _ _ _ _ _ _ _ _ _ hc) (fun hh => kf hh _ _ _ _ _ _ _ _ _ _ _ _ _ _ _ hc)
theorem Go.icmp_eq {x y : Int32} {off : Int} {t : Nat} (hd : decode M.2.1 pc = .ok (.if_icmp .eq off, 3)) (ht : (pc : Int) + off = (t : Int)) (hq : pc + 3 = q) (kt : x = y → Go Γ M d C S t L st h z Q X) (kf : ¬ x = y → Go Γ M d C S q L st h z Q X) : Go Γ M d C S pc L (.int y :: .int x :: st) h z Q X := by
  subst hq
  intro p e R s m args below meth c H locs cells slots ls Z hc
  exact lv_icmp_eq hc.1.1 hc.1.2.1 hd ht (fun hh => kt hh _ _ _ _ _ _ _ _ _ _ _ _ _ _ _ hc) (fun hh => kf hh _ _ _ _ _ _ _ _ _ _ _ _ _ _ _ hc)
theorem Go.icmp_ne {x y : Int32} {off : Int} {t : Nat} (hd : decode M.2.1 pc = .ok (.if_icmp .ne off, 3)) (ht : (pc : Int) + off = (t : Int)) (hq : pc + 3 = q) (kt : ¬ x = y → Go Γ M d C S t L st h z Q X) (kf : x = y → Go Γ M d C S q L st h z Q X) : Go Γ M d C S pc L (.int y :: .int x :: st) h z Q X := by
  subst hq
  intro p e R s m args below meth c H locs cells slots ls Z hc
  exact lv_icmp_ne hc.1.1 hc.1.2.1 hd ht (fun hh => kt hh _ _ _ _ _ _ _ _ _ _ _ _ _ _ _ hc) (fun hh => kf hh _ _ _ _ _ _ _ _ _ _ _ _ _ _ _ hc)
theorem Go.icmp_lt {x y : Int32} {off : Int} {t : Nat} (hd : decode M.2.1 pc = .ok (.if_icmp .lt off, 3)) (ht : (pc : Int) + off = (t : Int)) (hq : pc + 3 = q) (kt : x < y → Go Γ M d C S t L st h z Q X) (kf : ¬ x < y → Go Γ M d C S q L st h z Q X) : Go Γ M d C S pc L (.int y :: .int x :: st) h z Q X := by
  subst hq
  intro p e R s m args below meth c H locs cells slots ls Z hc
  exact lv_icmp_lt hc.1.1 hc.1.2.1 hd ht (fun hh => kt hh _ _ _ _ _ _ _ _ _ _ _ _ _ _ _ hc) (fun hh => kf hh _ _ _ _ _ _ _ _ _ _ _ _ _ _ _ hc)
theorem Go.icmp_ge {x y : Int32} {off : Int} {t : Nat} (hd : decode M.2.1 pc = .ok (.if_icmp .ge off, 3)) (ht : (pc : Int) + off = (t : Int)) (hq : pc + 3 = q) (kt : y ≤ x → Go Γ M d C S t L st h z Q X) (kf : ¬ y ≤ x → Go Γ M d C S q L st h z Q X) : Go Γ M d C S pc L (.int y :: .int x :: st) h z Q X := by
  subst hq
  intro p e R s m args below meth c H locs cells slots ls Z hc
  exact lv_icmp_ge hc.1.1 hc.1.2.1 hd ht (fun hh => kt hh _ _ _ _ _ _ _ _ _ _ _ _ _ _ _ hc) (fun hh => kf hh _ _ _ _ _ _ _ _ _ _ _ _ _ _ _ hc)
theorem Go.icmp_gt {x y : Int32} {off : Int} {t : Nat} (hd : decode M.2.1 pc = .ok (.if_icmp .gt off, 3)) (ht : (pc : Int) + off = (t : Int)) (hq : pc + 3 = q) (kt : y < x → Go Γ M d C S t L st h z Q X) (kf : ¬ y < x → Go Γ M d C S q L st h z Q X) : Go Γ M d C S pc L (.int y :: .int x :: st) h z Q X := by
  subst hq
  intro p e R s m args below meth c H locs cells slots ls Z hc
  exact lv_icmp_gt hc.1.1 hc.1.2.1 hd ht (fun hh => kt hh _ _ _ _ _ _ _ _ _ _ _ _ _ _ _ hc) (fun hh => kf hh _ _ _ _ _ _ _ _ _ _ _ _ _ _ _ hc)
theorem Go.icmp_le {x y : Int32} {off : Int} {t : Nat} (hd : decode M.2.1 pc = .ok (.if_icmp .le off, 3)) (ht : (pc : Int) + off = (t : Int)) (hq : pc + 3 = q) (kt : x ≤ y → Go Γ M d C S t L st h z Q X) (kf : ¬ x ≤ y → Go Γ M d C S q L st h z Q X) : Go Γ M d C S pc L (.int y :: .int x :: st) h z Q X := by
  subst hq
  intro p e R s m args below meth c H locs cells slots ls Z hc
  exact lv_icmp_le hc.1.1 hc.1.2.1 hd ht (fun hh => kt hh _ _ _ _ _ _ _ _ _ _ _ _ _ _ _ hc) (fun hh => kf hh _ _ _ _ _ _ _ _ _ _ _ _ _ _ _ hc)
theorem Go.acmp_eq {x y : Nat} {off : Int} {t : Nat} (hd : decode M.2.1 pc = .ok (.if_acmp .eq off, 3)) (ht : (pc : Int) + off = (t : Int)) (hq : pc + 3 = q) (kt : x = y → Go Γ M d C S t L st h z Q X) (kf : ¬ x = y → Go Γ M d C S q L st h z Q X) : Go Γ M d C S pc L (.ref y :: .ref x :: st) h z Q X := by
  subst hq
  intro p e R s m args below meth c H locs cells slots ls Z hc
  exact lv_acmp_eq (rx := some x) (ry := some y) hc.1.1 hc.1.2.1 hd ht (fun hh => kt (Option.some.inj hh) _ _ _ _ _ _ _ _ _ _ _ _ _ _ _ hc) (fun hh => kf (fun w => hh (congrArg some w)) _ _ _ _ _ _ _ _ _ _ _ _ _ _ _ hc)
theorem Go.acmp_ne {x y : Nat} {off : Int} {t : Nat} (hd : decode M.2.1 pc = .ok (.if_acmp .ne off, 3)) (ht : (pc : Int) + off = (t : Int)) (hq : pc + 3 = q) (kt : ¬ x = y → Go Γ M d C S t L st h z Q X) (kf : x = y → Go Γ M d C S q L st h z Q X) : Go Γ M d C S pc L (.ref y :: .ref x :: st) h z Q X := by
  subst hq
  intro p e R s m args below meth c H locs cells slots ls Z hc
  exact lv_acmp_ne (rx := some x) (ry := some y) hc.1.1 hc.1.2.1 hd ht (fun hh => kt (fun w => hh (congrArg some w)) _ _ _ _ _ _ _ _ _ _ _ _ _ _ _ hc) (fun hh => kf (Option.some.inj hh) _ _ _ _ _ _ _ _ _ _ _ _ _ _ _ hc)
theorem Go.goto {off : Int} {t : Nat} (hd : decode M.2.1 pc = .ok (.goto off, 3)) (ht : (pc : Int) + off = (t : Int)) (k : Go Γ M d C S t L st h z Q X) : Go Γ M d C S pc L st h z Q X := Go.pure k (fun hx hb _ k => lv_goto hx hb hd ht k)
theorem Go.ifnull {x : Nat} {off : Int} (hd : decode M.2.1 pc = .ok (.ifnull off, 3)) (hq : pc + 3 = q) (k : Go Γ M d C S q L st h z Q X) : Go Γ M d C S pc L (.ref x :: st) h z Q X := by
  subst hq
  exact Go.pure k (fun hx hb _ k => lv_ifnull hx hb hd k)
theorem Go.ifnullN {off : Int} {t : Nat} (hd : decode M.2.1 pc = .ok (.ifnull off, 3)) (ht : (pc : Int) + off = (t : Int)) (k : Go Γ M d C S t L st h z Q X) : Go Γ M d C S pc L (.null :: st) h z Q X := Go.pure k (fun hx hb _ k => lv_ifnullN hx hb hd ht k)
theorem Go.ifnonnull {x : Nat} {off : Int} {t : Nat} (hd : decode M.2.1 pc = .ok (.ifnonnull off, 3)) (ht : (pc : Int) + off = (t : Int)) (k : Go Γ M d C S t L st h z Q X) : Go Γ M d C S pc L (.ref x :: st) h z Q X := Go.pure k (fun hx hb _ k => lv_ifnonnull hx hb hd ht k)
theorem Go.ifnonnullN {off : Int} (hd : decode M.2.1 pc = .ok (.ifnonnull off, 3)) (hq : pc + 3 = q) (k : Go Γ M d C S q L st h z Q X) : Go Γ M d C S pc L (.null :: st) h z Q X := by
  subst hq
  exact Go.pure k (fun hx hb _ k => lv_ifnonnullN hx hb hd k)
def tswitch (pc : Nat) (dflt lo hi : Int) (offs : Array Int) (x : Int) : Option Int := if x < lo ∨ hi < x then some (pc + dflt) else (offs[(x - lo).toNat]?).map (fun o => pc + o)
theorem Go.tsw {dflt lo hi : Int} {offs : Array Int} {len : Nat} {x : Int32} {t : Nat} (hd : decode M.2.1 pc = .ok (.tableswitch dflt lo hi offs, len)) (ht : tswitch pc dflt lo hi offs x.toInt = some (t : Int)) (k : Go Γ M d C S t L st h z Q X) : Go Γ M d C S pc L (.int x :: st) h z Q X := by
  refine Go.pure k (fun hx hb _ k => ?_)
  unfold tswitch at ht
  by_cases hr : x.toInt < lo ∨ hi < x.toInt
  · rw [if_pos hr] at ht
    exact lv_tableOut hx hb hd hr (Option.some.inj ht) k
  · rw [if_neg hr] at ht
    obtain ⟨o, ho, h2⟩ := Option.map_eq_some_iff.mp ht
    exact lv_tableIn hx hb hd (fun w => hr (Or.inl w)) (fun w => hr (Or.inr w)) ho h2 k
theorem Go.lsw {dflt : Int} {ps : Array (Int × Int)} {len : Nat} {x : Int32} {t : Nat} {off : Int} (hd : decode M.2.1 pc = .ok (.lookupswitch dflt ps, len)) (hp : (ps.toList.zip (ps.toList.drop 1)).all (fun (a, next) => a.1 < next.1) = true) (ho : Op.lookupswitch.offset ps.toList dflt x.toInt = off) (ht : (pc : Int) + off = (t : Int)) (k : Go Γ M d C S t L st h z Q X) : Go Γ M d C S pc L (.int x :: st) h z Q X := Go.pure k (fun hx hb _ k => lv_lookup hx hb hd hp ho ht k)
theorem Go.iload_0 {r : List (Option Value)} {x : Int32} (hd : decode M.2.1 pc = .ok (.iload_n 0, 1)) (hq : pc + 1 = q) (k : Go Γ M d C S q (some (.int x) :: r) (.int x :: st) h z Q X) : Go Γ M d C S pc (some (.int x) :: r) st h z Q X := by
  subst hq
  exact Go.pure k (fun hx hb hl k => lv_iload_n hx hb hd rfl (lvp_at hl (k := 0) rfl) k)
theorem Go.istore_0 {b0 : Option Value} {r : List (Option Value)} {x : Int32} (hd : decode M.2.1 pc = .ok (.istore_n 0, 1)) (hq : pc + 1 = q)  (k : Go Γ M d C S q (some (.int x) :: r) st h z Q X) : Go Γ M d C S pc (b0 :: r) (.int x :: st) h z Q X := by
  subst hq
  refine Go.sto k (by simp) (fun hx hb hn hl k => lv_istore_n (i := 0) hx hb hd rfl hl (by rw [← hn]; simp) rfl (fun ls' hl' => k ls' (lv_fewer hl' (fun q hq => lvp_set1 (L := (b0 :: r)) (k := 0) rfl q hq))))
theorem Go.iinc_0 {w : Nat} {n : Int} {r : List (Option Value)} {x v : Int32} (hd : decode M.2.1 pc = .ok (.iinc 0 n, 3)) (hq : pc + 3 = q)  (hv : x + Int32.ofInt n = v) (k : Go Γ M d C S q (some (.int v) :: r) st h z Q X) : Go Γ M d C S pc (some (.int x) :: r) st h z Q X := by
  subst hq
  refine Go.sto k (by simp) (fun hx hb hn hl k => ?_)
  obtain ⟨i, hi⟩ := List.getElem?_of_mem ((lvp_mem (some (.int x) :: r) 0 (0, .int x)).mpr ⟨0, rfl, rfl⟩)
  exact lv_iinc hx hb hd hl hi hv (by rw [← hn]; simp) rfl (fun ls' hl' => k ls' (lv_fewer hl' (fun q hq => lvp_set1 (L := (some (.int x) :: r)) (k := 0) rfl q hq)))
theorem Go.iload_1 {a0 : Option Value} {r : List (Option Value)} {x : Int32} (hd : decode M.2.1 pc = .ok (.iload_n 1, 1)) (hq : pc + 1 = q) (k : Go Γ M d C S q (a0 :: some (.int x) :: r) (.int x :: st) h z Q X) : Go Γ M d C S pc (a0 :: some (.int x) :: r) st h z Q X := by
  subst hq
  exact Go.pure k (fun hx hb hl k => lv_iload_n hx hb hd rfl (lvp_at hl (k := 1) rfl) k)
theorem Go.istore_1 {a0 b0 : Option Value} {r : List (Option Value)} {x : Int32} (hd : decode M.2.1 pc = .ok (.istore_n 1, 1)) (hq : pc + 1 = q) (hp : l_c1 (a0 :: b0 :: r) 1 = true) (k : Go Γ M d C S q (a0 :: some (.int x) :: r) st h z Q X) : Go Γ M d C S pc (a0 :: b0 :: r) (.int x :: st) h z Q X := by
  subst hq
  refine Go.sto k (by simp) (fun hx hb hn hl k => lv_istore_n (i := 1) hx hb hd rfl hl (by rw [← hn]; simp) rfl (fun ls' hl' => k ls' (lv_fewer hl' (fun q hq => lvp_set1 (L := (a0 :: b0 :: r)) (k := 1) hp q hq))))
theorem Go.iinc_1 {a0 : Option Value} {n : Int} {r : List (Option Value)} {x v : Int32} (hd : decode M.2.1 pc = .ok (.iinc 1 n, 3)) (hq : pc + 3 = q) (hp : l_c1 (a0 :: some (.int x) :: r) 1 = true) (hv : x + Int32.ofInt n = v) (k : Go Γ M d C S q (a0 :: some (.int v) :: r) st h z Q X) : Go Γ M d C S pc (a0 :: some (.int x) :: r) st h z Q X := by
  subst hq
  refine Go.sto k (by simp) (fun hx hb hn hl k => ?_)
  obtain ⟨i, hi⟩ := List.getElem?_of_mem ((lvp_mem (a0 :: some (.int x) :: r) 0 (1, .int x)).mpr ⟨1, rfl, rfl⟩)
  exact lv_iinc hx hb hd hl hi hv (by rw [← hn]; simp) rfl (fun ls' hl' => k ls' (lv_fewer hl' (fun q hq => lvp_set1 (L := (a0 :: some (.int x) :: r)) (k := 1) hp q hq)))
theorem Go.iload_2 {a0 a1 : Option Value} {r : List (Option Value)} {x : Int32} (hd : decode M.2.1 pc = .ok (.iload_n 2, 1)) (hq : pc + 1 = q) (k : Go Γ M d C S q (a0 :: a1 :: some (.int x) :: r) (.int x :: st) h z Q X) : Go Γ M d C S pc (a0 :: a1 :: some (.int x) :: r) st h z Q X := by
  subst hq
  exact Go.pure k (fun hx hb hl k => lv_iload_n hx hb hd rfl (lvp_at hl (k := 2) rfl) k)
theorem Go.istore_2 {a0 a1 b0 : Option Value} {r : List (Option Value)} {x : Int32} (hd : decode M.2.1 pc = .ok (.istore_n 2, 1)) (hq : pc + 1 = q) (hp : l_c1 (a0 :: a1 :: b0 :: r) 2 = true) (k : Go Γ M d C S q (a0 :: a1 :: some (.int x) :: r) st h z Q X) : Go Γ M d C S pc (a0 :: a1 :: b0 :: r) (.int x :: st) h z Q X := by
  subst hq
  refine Go.sto k (by simp) (fun hx hb hn hl k => lv_istore_n (i := 2) hx hb hd rfl hl (by rw [← hn]; simp) rfl (fun ls' hl' => k ls' (lv_fewer hl' (fun q hq => lvp_set1 (L := (a0 :: a1 :: b0 :: r)) (k := 2) hp q hq))))
theorem Go.iinc_2 {a0 a1 : Option Value} {n : Int} {r : List (Option Value)} {x v : Int32} (hd : decode M.2.1 pc = .ok (.iinc 2 n, 3)) (hq : pc + 3 = q) (hp : l_c1 (a0 :: a1 :: some (.int x) :: r) 2 = true) (hv : x + Int32.ofInt n = v) (k : Go Γ M d C S q (a0 :: a1 :: some (.int v) :: r) st h z Q X) : Go Γ M d C S pc (a0 :: a1 :: some (.int x) :: r) st h z Q X := by
  subst hq
  refine Go.sto k (by simp) (fun hx hb hn hl k => ?_)
  obtain ⟨i, hi⟩ := List.getElem?_of_mem ((lvp_mem (a0 :: a1 :: some (.int x) :: r) 0 (2, .int x)).mpr ⟨2, rfl, rfl⟩)
  exact lv_iinc hx hb hd hl hi hv (by rw [← hn]; simp) rfl (fun ls' hl' => k ls' (lv_fewer hl' (fun q hq => lvp_set1 (L := (a0 :: a1 :: some (.int x) :: r)) (k := 2) hp q hq)))
theorem Go.iload_3 {a0 a1 a2 : Option Value} {r : List (Option Value)} {x : Int32} (hd : decode M.2.1 pc = .ok (.iload_n 3, 1)) (hq : pc + 1 = q) (k : Go Γ M d C S q (a0 :: a1 :: a2 :: some (.int x) :: r) (.int x :: st) h z Q X) : Go Γ M d C S pc (a0 :: a1 :: a2 :: some (.int x) :: r) st h z Q X := by
  subst hq
  exact Go.pure k (fun hx hb hl k => lv_iload_n hx hb hd rfl (lvp_at hl (k := 3) rfl) k)
theorem Go.istore_3 {a0 a1 a2 b0 : Option Value} {r : List (Option Value)} {x : Int32} (hd : decode M.2.1 pc = .ok (.istore_n 3, 1)) (hq : pc + 1 = q) (hp : l_c1 (a0 :: a1 :: a2 :: b0 :: r) 3 = true) (k : Go Γ M d C S q (a0 :: a1 :: a2 :: some (.int x) :: r) st h z Q X) : Go Γ M d C S pc (a0 :: a1 :: a2 :: b0 :: r) (.int x :: st) h z Q X := by
  subst hq
  refine Go.sto k (by simp) (fun hx hb hn hl k => lv_istore_n (i := 3) hx hb hd rfl hl (by rw [← hn]; simp) rfl (fun ls' hl' => k ls' (lv_fewer hl' (fun q hq => lvp_set1 (L := (a0 :: a1 :: a2 :: b0 :: r)) (k := 3) hp q hq))))
theorem Go.iinc_3 {a0 a1 a2 : Option Value} {n : Int} {r : List (Option Value)} {x v : Int32} (hd : decode M.2.1 pc = .ok (.iinc 3 n, 3)) (hq : pc + 3 = q) (hp : l_c1 (a0 :: a1 :: a2 :: some (.int x) :: r) 3 = true) (hv : x + Int32.ofInt n = v) (k : Go Γ M d C S q (a0 :: a1 :: a2 :: some (.int v) :: r) st h z Q X) : Go Γ M d C S pc (a0 :: a1 :: a2 :: some (.int x) :: r) st h z Q X := by
  subst hq
  refine Go.sto k (by simp) (fun hx hb hn hl k => ?_)
  obtain ⟨i, hi⟩ := List.getElem?_of_mem ((lvp_mem (a0 :: a1 :: a2 :: some (.int x) :: r) 0 (3, .int x)).mpr ⟨3, rfl, rfl⟩)
  exact lv_iinc hx hb hd hl hi hv (by rw [← hn]; simp) rfl (fun ls' hl' => k ls' (lv_fewer hl' (fun q hq => lvp_set1 (L := (a0 :: a1 :: a2 :: some (.int x) :: r)) (k := 3) hp q hq)))
theorem Go.iload_4 {a0 a1 a2 a3 : Option Value} {r : List (Option Value)} {x : Int32} (hd : decode M.2.1 pc = .ok (.iload 4, 2)) (hq : pc + 2 = q) (k : Go Γ M d C S q (a0 :: a1 :: a2 :: a3 :: some (.int x) :: r) (.int x :: st) h z Q X) : Go Γ M d C S pc (a0 :: a1 :: a2 :: a3 :: some (.int x) :: r) st h z Q X := by
  subst hq
  exact Go.pure k (fun hx hb hl k => lv_iload hx hb hd (lvp_at hl (k := 4) rfl) k)
theorem Go.istore_4 {a0 a1 a2 a3 b0 : Option Value} {r : List (Option Value)} {x : Int32} (hd : decode M.2.1 pc = .ok (.istore 4, 2)) (hq : pc + 2 = q) (hp : l_c1 (a0 :: a1 :: a2 :: a3 :: b0 :: r) 4 = true) (k : Go Γ M d C S q (a0 :: a1 :: a2 :: a3 :: some (.int x) :: r) st h z Q X) : Go Γ M d C S pc (a0 :: a1 :: a2 :: a3 :: b0 :: r) (.int x :: st) h z Q X := by
  subst hq
  refine Go.sto k (by simp) (fun hx hb hn hl k => lv_istore (i := 4) hx hb hd hl (by rw [← hn]; simp) rfl (fun ls' hl' => k ls' (lv_fewer hl' (fun q hq => lvp_set1 (L := (a0 :: a1 :: a2 :: a3 :: b0 :: r)) (k := 4) hp q hq))))
theorem Go.iinc_4 {a0 a1 a2 a3 : Option Value} {n : Int} {r : List (Option Value)} {x v : Int32} (hd : decode M.2.1 pc = .ok (.iinc 4 n, 3)) (hq : pc + 3 = q) (hp : l_c1 (a0 :: a1 :: a2 :: a3 :: some (.int x) :: r) 4 = true) (hv : x + Int32.ofInt n = v) (k : Go Γ M d C S q (a0 :: a1 :: a2 :: a3 :: some (.int v) :: r) st h z Q X) : Go Γ M d C S pc (a0 :: a1 :: a2 :: a3 :: some (.int x) :: r) st h z Q X := by
  subst hq
  refine Go.sto k (by simp) (fun hx hb hn hl k => ?_)
  obtain ⟨i, hi⟩ := List.getElem?_of_mem ((lvp_mem (a0 :: a1 :: a2 :: a3 :: some (.int x) :: r) 0 (4, .int x)).mpr ⟨4, rfl, rfl⟩)
  exact lv_iinc hx hb hd hl hi hv (by rw [← hn]; simp) rfl (fun ls' hl' => k ls' (lv_fewer hl' (fun q hq => lvp_set1 (L := (a0 :: a1 :: a2 :: a3 :: some (.int x) :: r)) (k := 4) hp q hq)))
theorem Go.iload_5 {a0 a1 a2 a3 a4 : Option Value} {r : List (Option Value)} {x : Int32} (hd : decode M.2.1 pc = .ok (.iload 5, 2)) (hq : pc + 2 = q) (k : Go Γ M d C S q (a0 :: a1 :: a2 :: a3 :: a4 :: some (.int x) :: r) (.int x :: st) h z Q X) : Go Γ M d C S pc (a0 :: a1 :: a2 :: a3 :: a4 :: some (.int x) :: r) st h z Q X := by
  subst hq
  exact Go.pure k (fun hx hb hl k => lv_iload hx hb hd (lvp_at hl (k := 5) rfl) k)
theorem Go.istore_5 {a0 a1 a2 a3 a4 b0 : Option Value} {r : List (Option Value)} {x : Int32} (hd : decode M.2.1 pc = .ok (.istore 5, 2)) (hq : pc + 2 = q) (hp : l_c1 (a0 :: a1 :: a2 :: a3 :: a4 :: b0 :: r) 5 = true) (k : Go Γ M d C S q (a0 :: a1 :: a2 :: a3 :: a4 :: some (.int x) :: r) st h z Q X) : Go Γ M d C S pc (a0 :: a1 :: a2 :: a3 :: a4 :: b0 :: r) (.int x :: st) h z Q X := by
  subst hq
  refine Go.sto k (by simp) (fun hx hb hn hl k => lv_istore (i := 5) hx hb hd hl (by rw [← hn]; simp) rfl (fun ls' hl' => k ls' (lv_fewer hl' (fun q hq => lvp_set1 (L := (a0 :: a1 :: a2 :: a3 :: a4 :: b0 :: r)) (k := 5) hp q hq))))
theorem Go.iinc_5 {a0 a1 a2 a3 a4 : Option Value} {n : Int} {r : List (Option Value)} {x v : Int32} (hd : decode M.2.1 pc = .ok (.iinc 5 n, 3)) (hq : pc + 3 = q) (hp : l_c1 (a0 :: a1 :: a2 :: a3 :: a4 :: some (.int x) :: r) 5 = true) (hv : x + Int32.ofInt n = v) (k : Go Γ M d C S q (a0 :: a1 :: a2 :: a3 :: a4 :: some (.int v) :: r) st h z Q X) : Go Γ M d C S pc (a0 :: a1 :: a2 :: a3 :: a4 :: some (.int x) :: r) st h z Q X := by
  subst hq
  refine Go.sto k (by simp) (fun hx hb hn hl k => ?_)
  obtain ⟨i, hi⟩ := List.getElem?_of_mem ((lvp_mem (a0 :: a1 :: a2 :: a3 :: a4 :: some (.int x) :: r) 0 (5, .int x)).mpr ⟨5, rfl, rfl⟩)
  exact lv_iinc hx hb hd hl hi hv (by rw [← hn]; simp) rfl (fun ls' hl' => k ls' (lv_fewer hl' (fun q hq => lvp_set1 (L := (a0 :: a1 :: a2 :: a3 :: a4 :: some (.int x) :: r)) (k := 5) hp q hq)))
theorem Go.iload_6 {a0 a1 a2 a3 a4 a5 : Option Value} {r : List (Option Value)} {x : Int32} (hd : decode M.2.1 pc = .ok (.iload 6, 2)) (hq : pc + 2 = q) (k : Go Γ M d C S q (a0 :: a1 :: a2 :: a3 :: a4 :: a5 :: some (.int x) :: r) (.int x :: st) h z Q X) : Go Γ M d C S pc (a0 :: a1 :: a2 :: a3 :: a4 :: a5 :: some (.int x) :: r) st h z Q X := by
  subst hq
  exact Go.pure k (fun hx hb hl k => lv_iload hx hb hd (lvp_at hl (k := 6) rfl) k)
theorem Go.istore_6 {a0 a1 a2 a3 a4 a5 b0 : Option Value} {r : List (Option Value)} {x : Int32} (hd : decode M.2.1 pc = .ok (.istore 6, 2)) (hq : pc + 2 = q) (hp : l_c1 (a0 :: a1 :: a2 :: a3 :: a4 :: a5 :: b0 :: r) 6 = true) (k : Go Γ M d C S q (a0 :: a1 :: a2 :: a3 :: a4 :: a5 :: some (.int x) :: r) st h z Q X) : Go Γ M d C S pc (a0 :: a1 :: a2 :: a3 :: a4 :: a5 :: b0 :: r) (.int x :: st) h z Q X := by
  subst hq
  refine Go.sto k (by simp) (fun hx hb hn hl k => lv_istore (i := 6) hx hb hd hl (by rw [← hn]; simp) rfl (fun ls' hl' => k ls' (lv_fewer hl' (fun q hq => lvp_set1 (L := (a0 :: a1 :: a2 :: a3 :: a4 :: a5 :: b0 :: r)) (k := 6) hp q hq))))
theorem Go.iinc_6 {a0 a1 a2 a3 a4 a5 : Option Value} {n : Int} {r : List (Option Value)} {x v : Int32} (hd : decode M.2.1 pc = .ok (.iinc 6 n, 3)) (hq : pc + 3 = q) (hp : l_c1 (a0 :: a1 :: a2 :: a3 :: a4 :: a5 :: some (.int x) :: r) 6 = true) (hv : x + Int32.ofInt n = v) (k : Go Γ M d C S q (a0 :: a1 :: a2 :: a3 :: a4 :: a5 :: some (.int v) :: r) st h z Q X) : Go Γ M d C S pc (a0 :: a1 :: a2 :: a3 :: a4 :: a5 :: some (.int x) :: r) st h z Q X := by
  subst hq
  refine Go.sto k (by simp) (fun hx hb hn hl k => ?_)
  obtain ⟨i, hi⟩ := List.getElem?_of_mem ((lvp_mem (a0 :: a1 :: a2 :: a3 :: a4 :: a5 :: some (.int x) :: r) 0 (6, .int x)).mpr ⟨6, rfl, rfl⟩)
  exact lv_iinc hx hb hd hl hi hv (by rw [← hn]; simp) rfl (fun ls' hl' => k ls' (lv_fewer hl' (fun q hq => lvp_set1 (L := (a0 :: a1 :: a2 :: a3 :: a4 :: a5 :: some (.int x) :: r)) (k := 6) hp q hq)))
theorem Go.iload_7 {a0 a1 a2 a3 a4 a5 a6 : Option Value} {r : List (Option Value)} {x : Int32} (hd : decode M.2.1 pc = .ok (.iload 7, 2)) (hq : pc + 2 = q) (k : Go Γ M d C S q (a0 :: a1 :: a2 :: a3 :: a4 :: a5 :: a6 :: some (.int x) :: r) (.int x :: st) h z Q X) : Go Γ M d C S pc (a0 :: a1 :: a2 :: a3 :: a4 :: a5 :: a6 :: some (.int x) :: r) st h z Q X := by
  subst hq
  exact Go.pure k (fun hx hb hl k => lv_iload hx hb hd (lvp_at hl (k := 7) rfl) k)
theorem Go.istore_7 {a0 a1 a2 a3 a4 a5 a6 b0 : Option Value} {r : List (Option Value)} {x : Int32} (hd : decode M.2.1 pc = .ok (.istore 7, 2)) (hq : pc + 2 = q) (hp : l_c1 (a0 :: a1 :: a2 :: a3 :: a4 :: a5 :: a6 :: b0 :: r) 7 = true) (k : Go Γ M d C S q (a0 :: a1 :: a2 :: a3 :: a4 :: a5 :: a6 :: some (.int x) :: r) st h z Q X) : Go Γ M d C S pc (a0 :: a1 :: a2 :: a3 :: a4 :: a5 :: a6 :: b0 :: r) (.int x :: st) h z Q X := by
  subst hq
  refine Go.sto k (by simp) (fun hx hb hn hl k => lv_istore (i := 7) hx hb hd hl (by rw [← hn]; simp) rfl (fun ls' hl' => k ls' (lv_fewer hl' (fun q hq => lvp_set1 (L := (a0 :: a1 :: a2 :: a3 :: a4 :: a5 :: a6 :: b0 :: r)) (k := 7) hp q hq))))
theorem Go.iinc_7 {a0 a1 a2 a3 a4 a5 a6 : Option Value} {n : Int} {r : List (Option Value)} {x v : Int32} (hd : decode M.2.1 pc = .ok (.iinc 7 n, 3)) (hq : pc + 3 = q) (hp : l_c1 (a0 :: a1 :: a2 :: a3 :: a4 :: a5 :: a6 :: some (.int x) :: r) 7 = true) (hv : x + Int32.ofInt n = v) (k : Go Γ M d C S q (a0 :: a1 :: a2 :: a3 :: a4 :: a5 :: a6 :: some (.int v) :: r) st h z Q X) : Go Γ M d C S pc (a0 :: a1 :: a2 :: a3 :: a4 :: a5 :: a6 :: some (.int x) :: r) st h z Q X := by
  subst hq
  refine Go.sto k (by simp) (fun hx hb hn hl k => ?_)
  obtain ⟨i, hi⟩ := List.getElem?_of_mem ((lvp_mem (a0 :: a1 :: a2 :: a3 :: a4 :: a5 :: a6 :: some (.int x) :: r) 0 (7, .int x)).mpr ⟨7, rfl, rfl⟩)
  exact lv_iinc hx hb hd hl hi hv (by rw [← hn]; simp) rfl (fun ls' hl' => k ls' (lv_fewer hl' (fun q hq => lvp_set1 (L := (a0 :: a1 :: a2 :: a3 :: a4 :: a5 :: a6 :: some (.int x) :: r)) (k := 7) hp q hq)))
theorem Go.iload_8 {a0 a1 a2 a3 a4 a5 a6 a7 : Option Value} {r : List (Option Value)} {x : Int32} (hd : decode M.2.1 pc = .ok (.iload 8, 2)) (hq : pc + 2 = q) (k : Go Γ M d C S q (a0 :: a1 :: a2 :: a3 :: a4 :: a5 :: a6 :: a7 :: some (.int x) :: r) (.int x :: st) h z Q X) : Go Γ M d C S pc (a0 :: a1 :: a2 :: a3 :: a4 :: a5 :: a6 :: a7 :: some (.int x) :: r) st h z Q X := by
  subst hq
  exact Go.pure k (fun hx hb hl k => lv_iload hx hb hd (lvp_at hl (k := 8) rfl) k)
theorem Go.istore_8 {a0 a1 a2 a3 a4 a5 a6 a7 b0 : Option Value} {r : List (Option Value)} {x : Int32} (hd : decode M.2.1 pc = .ok (.istore 8, 2)) (hq : pc + 2 = q) (hp : l_c1 (a0 :: a1 :: a2 :: a3 :: a4 :: a5 :: a6 :: a7 :: b0 :: r) 8 = true) (k : Go Γ M d C S q (a0 :: a1 :: a2 :: a3 :: a4 :: a5 :: a6 :: a7 :: some (.int x) :: r) st h z Q X) : Go Γ M d C S pc (a0 :: a1 :: a2 :: a3 :: a4 :: a5 :: a6 :: a7 :: b0 :: r) (.int x :: st) h z Q X := by
  subst hq
  refine Go.sto k (by simp) (fun hx hb hn hl k => lv_istore (i := 8) hx hb hd hl (by rw [← hn]; simp) rfl (fun ls' hl' => k ls' (lv_fewer hl' (fun q hq => lvp_set1 (L := (a0 :: a1 :: a2 :: a3 :: a4 :: a5 :: a6 :: a7 :: b0 :: r)) (k := 8) hp q hq))))
theorem Go.iinc_8 {a0 a1 a2 a3 a4 a5 a6 a7 : Option Value} {n : Int} {r : List (Option Value)} {x v : Int32} (hd : decode M.2.1 pc = .ok (.iinc 8 n, 3)) (hq : pc + 3 = q) (hp : l_c1 (a0 :: a1 :: a2 :: a3 :: a4 :: a5 :: a6 :: a7 :: some (.int x) :: r) 8 = true) (hv : x + Int32.ofInt n = v) (k : Go Γ M d C S q (a0 :: a1 :: a2 :: a3 :: a4 :: a5 :: a6 :: a7 :: some (.int v) :: r) st h z Q X) : Go Γ M d C S pc (a0 :: a1 :: a2 :: a3 :: a4 :: a5 :: a6 :: a7 :: some (.int x) :: r) st h z Q X := by
  subst hq
  refine Go.sto k (by simp) (fun hx hb hn hl k => ?_)
  obtain ⟨i, hi⟩ := List.getElem?_of_mem ((lvp_mem (a0 :: a1 :: a2 :: a3 :: a4 :: a5 :: a6 :: a7 :: some (.int x) :: r) 0 (8, .int x)).mpr ⟨8, rfl, rfl⟩)
  exact lv_iinc hx hb hd hl hi hv (by rw [← hn]; simp) rfl (fun ls' hl' => k ls' (lv_fewer hl' (fun q hq => lvp_set1 (L := (a0 :: a1 :: a2 :: a3 :: a4 :: a5 :: a6 :: a7 :: some (.int x) :: r)) (k := 8) hp q hq)))
theorem Go.iload_9 {a0 a1 a2 a3 a4 a5 a6 a7 a8 : Option Value} {r : List (Option Value)} {x : Int32} (hd : decode M.2.1 pc = .ok (.iload 9, 2)) (hq : pc + 2 = q) (k : Go Γ M d C S q (a0 :: a1 :: a2 :: a3 :: a4 :: a5 :: a6 :: a7 :: a8 :: some (.int x) :: r) (.int x :: st) h z Q X) : Go Γ M d C S pc (a0 :: a1 :: a2 :: a3 :: a4 :: a5 :: a6 :: a7 :: a8 :: some (.int x) :: r) st h z Q X := by
  subst hq
  exact Go.pure k (fun hx hb hl k => lv_iload hx hb hd (lvp_at hl (k := 9) rfl) k)
theorem Go.istore_9 {a0 a1 a2 a3 a4 a5 a6 a7 a8 b0 : Option Value} {r : List (Option Value)} {x : Int32} (hd : decode M.2.1 pc = .ok (.istore 9, 2)) (hq : pc + 2 = q) (hp : l_c1 (a0 :: a1 :: a2 :: a3 :: a4 :: a5 :: a6 :: a7 :: a8 :: b0 :: r) 9 = true) (k : Go Γ M d C S q (a0 :: a1 :: a2 :: a3 :: a4 :: a5 :: a6 :: a7 :: a8 :: some (.int x) :: r) st h z Q X) : Go Γ M d C S pc (a0 :: a1 :: a2 :: a3 :: a4 :: a5 :: a6 :: a7 :: a8 :: b0 :: r) (.int x :: st) h z Q X := by
  subst hq
  refine Go.sto k (by simp) (fun hx hb hn hl k => lv_istore (i := 9) hx hb hd hl (by rw [← hn]; simp) rfl (fun ls' hl' => k ls' (lv_fewer hl' (fun q hq => lvp_set1 (L := (a0 :: a1 :: a2 :: a3 :: a4 :: a5 :: a6 :: a7 :: a8 :: b0 :: r)) (k := 9) hp q hq))))
theorem Go.iinc_9 {a0 a1 a2 a3 a4 a5 a6 a7 a8 : Option Value} {n : Int} {r : List (Option Value)} {x v : Int32} (hd : decode M.2.1 pc = .ok (.iinc 9 n, 3)) (hq : pc + 3 = q) (hp : l_c1 (a0 :: a1 :: a2 :: a3 :: a4 :: a5 :: a6 :: a7 :: a8 :: some (.int x) :: r) 9 = true) (hv : x + Int32.ofInt n = v) (k : Go Γ M d C S q (a0 :: a1 :: a2 :: a3 :: a4 :: a5 :: a6 :: a7 :: a8 :: some (.int v) :: r) st h z Q X) : Go Γ M d C S pc (a0 :: a1 :: a2 :: a3 :: a4 :: a5 :: a6 :: a7 :: a8 :: some (.int x) :: r) st h z Q X := by
  subst hq
  refine Go.sto k (by simp) (fun hx hb hn hl k => ?_)
  obtain ⟨i, hi⟩ := List.getElem?_of_mem ((lvp_mem (a0 :: a1 :: a2 :: a3 :: a4 :: a5 :: a6 :: a7 :: a8 :: some (.int x) :: r) 0 (9, .int x)).mpr ⟨9, rfl, rfl⟩)
  exact lv_iinc hx hb hd hl hi hv (by rw [← hn]; simp) rfl (fun ls' hl' => k ls' (lv_fewer hl' (fun q hq => lvp_set1 (L := (a0 :: a1 :: a2 :: a3 :: a4 :: a5 :: a6 :: a7 :: a8 :: some (.int x) :: r)) (k := 9) hp q hq)))
theorem Go.iload_10 {a0 a1 a2 a3 a4 a5 a6 a7 a8 a9 : Option Value} {r : List (Option Value)} {x : Int32} (hd : decode M.2.1 pc = .ok (.iload 10, 2)) (hq : pc + 2 = q) (k : Go Γ M d C S q (a0 :: a1 :: a2 :: a3 :: a4 :: a5 :: a6 :: a7 :: a8 :: a9 :: some (.int x) :: r) (.int x :: st) h z Q X) : Go Γ M d C S pc (a0 :: a1 :: a2 :: a3 :: a4 :: a5 :: a6 :: a7 :: a8 :: a9 :: some (.int x) :: r) st h z Q X := by
  subst hq
  exact Go.pure k (fun hx hb hl k => lv_iload hx hb hd (lvp_at hl (k := 10) rfl) k)
theorem Go.istore_10 {a0 a1 a2 a3 a4 a5 a6 a7 a8 a9 b0 : Option Value} {r : List (Option Value)} {x : Int32} (hd : decode M.2.1 pc = .ok (.istore 10, 2)) (hq : pc + 2 = q) (hp : l_c1 (a0 :: a1 :: a2 :: a3 :: a4 :: a5 :: a6 :: a7 :: a8 :: a9 :: b0 :: r) 10 = true) (k : Go Γ M d C S q (a0 :: a1 :: a2 :: a3 :: a4 :: a5 :: a6 :: a7 :: a8 :: a9 :: some (.int x) :: r) st h z Q X) : Go Γ M d C S pc (a0 :: a1 :: a2 :: a3 :: a4 :: a5 :: a6 :: a7 :: a8 :: a9 :: b0 :: r) (.int x :: st) h z Q X := by
  subst hq
  refine Go.sto k (by simp) (fun hx hb hn hl k => lv_istore (i := 10) hx hb hd hl (by rw [← hn]; simp) rfl (fun ls' hl' => k ls' (lv_fewer hl' (fun q hq => lvp_set1 (L := (a0 :: a1 :: a2 :: a3 :: a4 :: a5 :: a6 :: a7 :: a8 :: a9 :: b0 :: r)) (k := 10) hp q hq))))
theorem Go.iinc_10 {a0 a1 a2 a3 a4 a5 a6 a7 a8 a9 : Option Value} {n : Int} {r : List (Option Value)} {x v : Int32} (hd : decode M.2.1 pc = .ok (.iinc 10 n, 3)) (hq : pc + 3 = q) (hp : l_c1 (a0 :: a1 :: a2 :: a3 :: a4 :: a5 :: a6 :: a7 :: a8 :: a9 :: some (.int x) :: r) 10 = true) (hv : x + Int32.ofInt n = v) (k : Go Γ M d C S q (a0 :: a1 :: a2 :: a3 :: a4 :: a5 :: a6 :: a7 :: a8 :: a9 :: some (.int v) :: r) st h z Q X) : Go Γ M d C S pc (a0 :: a1 :: a2 :: a3 :: a4 :: a5 :: a6 :: a7 :: a8 :: a9 :: some (.int x) :: r) st h z Q X := by
  subst hq
  refine Go.sto k (by simp) (fun hx hb hn hl k => ?_)
  obtain ⟨i, hi⟩ := List.getElem?_of_mem ((lvp_mem (a0 :: a1 :: a2 :: a3 :: a4 :: a5 :: a6 :: a7 :: a8 :: a9 :: some (.int x) :: r) 0 (10, .int x)).mpr ⟨10, rfl, rfl⟩)
  exact lv_iinc hx hb hd hl hi hv (by rw [← hn]; simp) rfl (fun ls' hl' => k ls' (lv_fewer hl' (fun q hq => lvp_set1 (L := (a0 :: a1 :: a2 :: a3 :: a4 :: a5 :: a6 :: a7 :: a8 :: a9 :: some (.int x) :: r)) (k := 10) hp q hq)))
theorem Go.iload_11 {a0 a1 a2 a3 a4 a5 a6 a7 a8 a9 a10 : Option Value} {r : List (Option Value)} {x : Int32} (hd : decode M.2.1 pc = .ok (.iload 11, 2)) (hq : pc + 2 = q) (k : Go Γ M d C S q (a0 :: a1 :: a2 :: a3 :: a4 :: a5 :: a6 :: a7 :: a8 :: a9 :: a10 :: some (.int x) :: r) (.int x :: st) h z Q X) : Go Γ M d C S pc (a0 :: a1 :: a2 :: a3 :: a4 :: a5 :: a6 :: a7 :: a8 :: a9 :: a10 :: some (.int x) :: r) st h z Q X := by
  subst hq
  exact Go.pure k (fun hx hb hl k => lv_iload hx hb hd (lvp_at hl (k := 11) rfl) k)
theorem Go.istore_11 {a0 a1 a2 a3 a4 a5 a6 a7 a8 a9 a10 b0 : Option Value} {r : List (Option Value)} {x : Int32} (hd : decode M.2.1 pc = .ok (.istore 11, 2)) (hq : pc + 2 = q) (hp : l_c1 (a0 :: a1 :: a2 :: a3 :: a4 :: a5 :: a6 :: a7 :: a8 :: a9 :: a10 :: b0 :: r) 11 = true) (k : Go Γ M d C S q (a0 :: a1 :: a2 :: a3 :: a4 :: a5 :: a6 :: a7 :: a8 :: a9 :: a10 :: some (.int x) :: r) st h z Q X) : Go Γ M d C S pc (a0 :: a1 :: a2 :: a3 :: a4 :: a5 :: a6 :: a7 :: a8 :: a9 :: a10 :: b0 :: r) (.int x :: st) h z Q X := by
  subst hq
  refine Go.sto k (by simp) (fun hx hb hn hl k => lv_istore (i := 11) hx hb hd hl (by rw [← hn]; simp) rfl (fun ls' hl' => k ls' (lv_fewer hl' (fun q hq => lvp_set1 (L := (a0 :: a1 :: a2 :: a3 :: a4 :: a5 :: a6 :: a7 :: a8 :: a9 :: a10 :: b0 :: r)) (k := 11) hp q hq))))
theorem Go.iinc_11 {a0 a1 a2 a3 a4 a5 a6 a7 a8 a9 a10 : Option Value} {n : Int} {r : List (Option Value)} {x v : Int32} (hd : decode M.2.1 pc = .ok (.iinc 11 n, 3)) (hq : pc + 3 = q) (hp : l_c1 (a0 :: a1 :: a2 :: a3 :: a4 :: a5 :: a6 :: a7 :: a8 :: a9 :: a10 :: some (.int x) :: r) 11 = true) (hv : x + Int32.ofInt n = v) (k : Go Γ M d C S q (a0 :: a1 :: a2 :: a3 :: a4 :: a5 :: a6 :: a7 :: a8 :: a9 :: a10 :: some (.int v) :: r) st h z Q X) : Go Γ M d C S pc (a0 :: a1 :: a2 :: a3 :: a4 :: a5 :: a6 :: a7 :: a8 :: a9 :: a10 :: some (.int x) :: r) st h z Q X := by
  subst hq
  refine Go.sto k (by simp) (fun hx hb hn hl k => ?_)
  obtain ⟨i, hi⟩ := List.getElem?_of_mem ((lvp_mem (a0 :: a1 :: a2 :: a3 :: a4 :: a5 :: a6 :: a7 :: a8 :: a9 :: a10 :: some (.int x) :: r) 0 (11, .int x)).mpr ⟨11, rfl, rfl⟩)
  exact lv_iinc hx hb hd hl hi hv (by rw [← hn]; simp) rfl (fun ls' hl' => k ls' (lv_fewer hl' (fun q hq => lvp_set1 (L := (a0 :: a1 :: a2 :: a3 :: a4 :: a5 :: a6 :: a7 :: a8 :: a9 :: a10 :: some (.int x) :: r)) (k := 11) hp q hq)))
theorem Go.iload_12 {a0 a1 a2 a3 a4 a5 a6 a7 a8 a9 a10 a11 : Option Value} {r : List (Option Value)} {x : Int32} (hd : decode M.2.1 pc = .ok (.iload 12, 2)) (hq : pc + 2 = q) (k : Go Γ M d C S q (a0 :: a1 :: a2 :: a3 :: a4 :: a5 :: a6 :: a7 :: a8 :: a9 :: a10 :: a11 :: some (.int x) :: r) (.int x :: st) h z Q X) : Go Γ M d C S pc (a0 :: a1 :: a2 :: a3 :: a4 :: a5 :: a6 :: a7 :: a8 :: a9 :: a10 :: a11 :: some (.int x) :: r) st h z Q X := by
  subst hq
  exact Go.pure k (fun hx hb hl k => lv_iload hx hb hd (lvp_at hl (k := 12) rfl) k)
theorem Go.istore_12 {a0 a1 a2 a3 a4 a5 a6 a7 a8 a9 a10 a11 b0 : Option Value} {r : List (Option Value)} {x : Int32} (hd : decode M.2.1 pc = .ok (.istore 12, 2)) (hq : pc + 2 = q) (hp : l_c1 (a0 :: a1 :: a2 :: a3 :: a4 :: a5 :: a6 :: a7 :: a8 :: a9 :: a10 :: a11 :: b0 :: r) 12 = true) (k : Go Γ M d C S q (a0 :: a1 :: a2 :: a3 :: a4 :: a5 :: a6 :: a7 :: a8 :: a9 :: a10 :: a11 :: some (.int x) :: r) st h z Q X) : Go Γ M d C S pc (a0 :: a1 :: a2 :: a3 :: a4 :: a5 :: a6 :: a7 :: a8 :: a9 :: a10 :: a11 :: b0 :: r) (.int x :: st) h z Q X := by
  subst hq
  refine Go.sto k (by simp) (fun hx hb hn hl k => lv_istore (i := 12) hx hb hd hl (by rw [← hn]; simp) rfl (fun ls' hl' => k ls' (lv_fewer hl' (fun q hq => lvp_set1 (L := (a0 :: a1 :: a2 :: a3 :: a4 :: a5 :: a6 :: a7 :: a8 :: a9 :: a10 :: a11 :: b0 :: r)) (k := 12) hp q hq))))
theorem Go.iinc_12 {a0 a1 a2 a3 a4 a5 a6 a7 a8 a9 a10 a11 : Option Value} {n : Int} {r : List (Option Value)} {x v : Int32} (hd : decode M.2.1 pc = .ok (.iinc 12 n, 3)) (hq : pc + 3 = q) (hp : l_c1 (a0 :: a1 :: a2 :: a3 :: a4 :: a5 :: a6 :: a7 :: a8 :: a9 :: a10 :: a11 :: some (.int x) :: r) 12 = true) (hv : x + Int32.ofInt n = v) (k : Go Γ M d C S q (a0 :: a1 :: a2 :: a3 :: a4 :: a5 :: a6 :: a7 :: a8 :: a9 :: a10 :: a11 :: some (.int v) :: r) st h z Q X) : Go Γ M d C S pc (a0 :: a1 :: a2 :: a3 :: a4 :: a5 :: a6 :: a7 :: a8 :: a9 :: a10 :: a11 :: some (.int x) :: r) st h z Q X := by
  subst hq
  refine Go.sto k (by simp) (fun hx hb hn hl k => ?_)
  obtain ⟨i, hi⟩ := List.getElem?_of_mem ((lvp_mem (a0 :: a1 :: a2 :: a3 :: a4 :: a5 :: a6 :: a7 :: a8 :: a9 :: a10 :: a11 :: some (.int x) :: r) 0 (12, .int x)).mpr ⟨12, rfl, rfl⟩)
  exact lv_iinc hx hb hd hl hi hv (by rw [← hn]; simp) rfl (fun ls' hl' => k ls' (lv_fewer hl' (fun q hq => lvp_set1 (L := (a0 :: a1 :: a2 :: a3 :: a4 :: a5 :: a6 :: a7 :: a8 :: a9 :: a10 :: a11 :: some (.int x) :: r)) (k := 12) hp q hq)))
theorem Go.iload_13 {a0 a1 a2 a3 a4 a5 a6 a7 a8 a9 a10 a11 a12 : Option Value} {r : List (Option Value)} {x : Int32} (hd : decode M.2.1 pc = .ok (.iload 13, 2)) (hq : pc + 2 = q) (k : Go Γ M d C S q (a0 :: a1 :: a2 :: a3 :: a4 :: a5 :: a6 :: a7 :: a8 :: a9 :: a10 :: a11 :: a12 :: some (.int x) :: r) (.int x :: st) h z Q X) : Go Γ M d C S pc (a0 :: a1 :: a2 :: a3 :: a4 :: a5 :: a6 :: a7 :: a8 :: a9 :: a10 :: a11 :: a12 :: some (.int x) :: r) st h z Q X := by
  subst hq
  exact Go.pure k (fun hx hb hl k => lv_iload hx hb hd (lvp_at hl (k := 13) rfl) k)
theorem Go.istore_13 {a0 a1 a2 a3 a4 a5 a6 a7 a8 a9 a10 a11 a12 b0 : Option Value} {r : List (Option Value)} {x : Int32} (hd : decode M.2.1 pc = .ok (.istore 13, 2)) (hq : pc + 2 = q) (hp : l_c1 (a0 :: a1 :: a2 :: a3 :: a4 :: a5 :: a6 :: a7 :: a8 :: a9 :: a10 :: a11 :: a12 :: b0 :: r) 13 = true) (k : Go Γ M d C S q (a0 :: a1 :: a2 :: a3 :: a4 :: a5 :: a6 :: a7 :: a8 :: a9 :: a10 :: a11 :: a12 :: some (.int x) :: r) st h z Q X) : Go Γ M d C S pc (a0 :: a1 :: a2 :: a3 :: a4 :: a5 :: a6 :: a7 :: a8 :: a9 :: a10 :: a11 :: a12 :: b0 :: r) (.int x :: st) h z Q X := by
  subst hq
  refine Go.sto k (by simp) (fun hx hb hn hl k => lv_istore (i := 13) hx hb hd hl (by rw [← hn]; simp) rfl (fun ls' hl' => k ls' (lv_fewer hl' (fun q hq => lvp_set1 (L := (a0 :: a1 :: a2 :: a3 :: a4 :: a5 :: a6 :: a7 :: a8 :: a9 :: a10 :: a11 :: a12 :: b0 :: r)) (k := 13) hp q hq))))
theorem Go.iinc_13 {a0 a1 a2 a3 a4 a5 a6 a7 a8 a9 a10 a11 a12 : Option Value} {n : Int} {r : List (Option Value)} {x v : Int32} (hd : decode M.2.1 pc = .ok (.iinc 13 n, 3)) (hq : pc + 3 = q) (hp : l_c1 (a0 :: a1 :: a2 :: a3 :: a4 :: a5 :: a6 :: a7 :: a8 :: a9 :: a10 :: a11 :: a12 :: some (.int x) :: r) 13 = true) (hv : x + Int32.ofInt n = v) (k : Go Γ M d C S q (a0 :: a1 :: a2 :: a3 :: a4 :: a5 :: a6 :: a7 :: a8 :: a9 :: a10 :: a11 :: a12 :: some (.int v) :: r) st h z Q X) : Go Γ M d C S pc (a0 :: a1 :: a2 :: a3 :: a4 :: a5 :: a6 :: a7 :: a8 :: a9 :: a10 :: a11 :: a12 :: some (.int x) :: r) st h z Q X := by
  subst hq
  refine Go.sto k (by simp) (fun hx hb hn hl k => ?_)
  obtain ⟨i, hi⟩ := List.getElem?_of_mem ((lvp_mem (a0 :: a1 :: a2 :: a3 :: a4 :: a5 :: a6 :: a7 :: a8 :: a9 :: a10 :: a11 :: a12 :: some (.int x) :: r) 0 (13, .int x)).mpr ⟨13, rfl, rfl⟩)
  exact lv_iinc hx hb hd hl hi hv (by rw [← hn]; simp) rfl (fun ls' hl' => k ls' (lv_fewer hl' (fun q hq => lvp_set1 (L := (a0 :: a1 :: a2 :: a3 :: a4 :: a5 :: a6 :: a7 :: a8 :: a9 :: a10 :: a11 :: a12 :: some (.int x) :: r)) (k := 13) hp q hq)))
theorem Go.iload_14 {a0 a1 a2 a3 a4 a5 a6 a7 a8 a9 a10 a11 a12 a13 : Option Value} {r : List (Option Value)} {x : Int32} (hd : decode M.2.1 pc = .ok (.iload 14, 2)) (hq : pc + 2 = q) (k : Go Γ M d C S q (a0 :: a1 :: a2 :: a3 :: a4 :: a5 :: a6 :: a7 :: a8 :: a9 :: a10 :: a11 :: a12 :: a13 :: some (.int x) :: r) (.int x :: st) h z Q X) : Go Γ M d C S pc (a0 :: a1 :: a2 :: a3 :: a4 :: a5 :: a6 :: a7 :: a8 :: a9 :: a10 :: a11 :: a12 :: a13 :: some (.int x) :: r) st h z Q X := by
  subst hq
  exact Go.pure k (fun hx hb hl k => lv_iload hx hb hd (lvp_at hl (k := 14) rfl) k)
theorem Go.istore_14 {a0 a1 a2 a3 a4 a5 a6 a7 a8 a9 a10 a11 a12 a13 b0 : Option Value} {r : List (Option Value)} {x : Int32} (hd : decode M.2.1 pc = .ok (.istore 14, 2)) (hq : pc + 2 = q) (hp : l_c1 (a0 :: a1 :: a2 :: a3 :: a4 :: a5 :: a6 :: a7 :: a8 :: a9 :: a10 :: a11 :: a12 :: a13 :: b0 :: r) 14 = true) (k : Go Γ M d C S q (a0 :: a1 :: a2 :: a3 :: a4 :: a5 :: a6 :: a7 :: a8 :: a9 :: a10 :: a11 :: a12 :: a13 :: some (.int x) :: r) st h z Q X) : Go Γ M d C S pc (a0 :: a1 :: a2 :: a3 :: a4 :: a5 :: a6 :: a7 :: a8 :: a9 :: a10 :: a11 :: a12 :: a13 :: b0 :: r) (.int x :: st) h z Q X := by
  subst hq
  refine Go.sto k (by simp) (fun hx hb hn hl k => lv_istore (i := 14) hx hb hd hl (by rw [← hn]; simp) rfl (fun ls' hl' => k ls' (lv_fewer hl' (fun q hq => lvp_set1 (L := (a0 :: a1 :: a2 :: a3 :: a4 :: a5 :: a6 :: a7 :: a8 :: a9 :: a10 :: a11 :: a12 :: a13 :: b0 :: r)) (k := 14) hp q hq))))
theorem Go.iinc_14 {a0 a1 a2 a3 a4 a5 a6 a7 a8 a9 a10 a11 a12 a13 : Option Value} {n : Int} {r : List (Option Value)} {x v : Int32} (hd : decode M.2.1 pc = .ok (.iinc 14 n, 3)) (hq : pc + 3 = q) (hp : l_c1 (a0 :: a1 :: a2 :: a3 :: a4 :: a5 :: a6 :: a7 :: a8 :: a9 :: a10 :: a11 :: a12 :: a13 :: some (.int x) :: r) 14 = true) (hv : x + Int32.ofInt n = v) (k : Go Γ M d C S q (a0 :: a1 :: a2 :: a3 :: a4 :: a5 :: a6 :: a7 :: a8 :: a9 :: a10 :: a11 :: a12 :: a13 :: some (.int v) :: r) st h z Q X) : Go Γ M d C S pc (a0 :: a1 :: a2 :: a3 :: a4 :: a5 :: a6 :: a7 :: a8 :: a9 :: a10 :: a11 :: a12 :: a13 :: some (.int x) :: r) st h z Q X := by
  subst hq
  refine Go.sto k (by simp) (fun hx hb hn hl k => ?_)
  obtain ⟨i, hi⟩ := List.getElem?_of_mem ((lvp_mem (a0 :: a1 :: a2 :: a3 :: a4 :: a5 :: a6 :: a7 :: a8 :: a9 :: a10 :: a11 :: a12 :: a13 :: some (.int x) :: r) 0 (14, .int x)).mpr ⟨14, rfl, rfl⟩)
  exact lv_iinc hx hb hd hl hi hv (by rw [← hn]; simp) rfl (fun ls' hl' => k ls' (lv_fewer hl' (fun q hq => lvp_set1 (L := (a0 :: a1 :: a2 :: a3 :: a4 :: a5 :: a6 :: a7 :: a8 :: a9 :: a10 :: a11 :: a12 :: a13 :: some (.int x) :: r)) (k := 14) hp q hq)))
theorem Go.iload_15 {a0 a1 a2 a3 a4 a5 a6 a7 a8 a9 a10 a11 a12 a13 a14 : Option Value} {r : List (Option Value)} {x : Int32} (hd : decode M.2.1 pc = .ok (.iload 15, 2)) (hq : pc + 2 = q) (k : Go Γ M d C S q (a0 :: a1 :: a2 :: a3 :: a4 :: a5 :: a6 :: a7 :: a8 :: a9 :: a10 :: a11 :: a12 :: a13 :: a14 :: some (.int x) :: r) (.int x :: st) h z Q X) : Go Γ M d C S pc (a0 :: a1 :: a2 :: a3 :: a4 :: a5 :: a6 :: a7 :: a8 :: a9 :: a10 :: a11 :: a12 :: a13 :: a14 :: some (.int x) :: r) st h z Q X := by
  subst hq
  exact Go.pure k (fun hx hb hl k => lv_iload hx hb hd (lvp_at hl (k := 15) rfl) k)
theorem Go.istore_15 {a0 a1 a2 a3 a4 a5 a6 a7 a8 a9 a10 a11 a12 a13 a14 b0 : Option Value} {r : List (Option Value)} {x : Int32} (hd : decode M.2.1 pc = .ok (.istore 15, 2)) (hq : pc + 2 = q) (hp : l_c1 (a0 :: a1 :: a2 :: a3 :: a4 :: a5 :: a6 :: a7 :: a8 :: a9 :: a10 :: a11 :: a12 :: a13 :: a14 :: b0 :: r) 15 = true) (k : Go Γ M d C S q (a0 :: a1 :: a2 :: a3 :: a4 :: a5 :: a6 :: a7 :: a8 :: a9 :: a10 :: a11 :: a12 :: a13 :: a14 :: some (.int x) :: r) st h z Q X) : Go Γ M d C S pc (a0 :: a1 :: a2 :: a3 :: a4 :: a5 :: a6 :: a7 :: a8 :: a9 :: a10 :: a11 :: a12 :: a13 :: a14 :: b0 :: r) (.int x :: st) h z Q X := by
  subst hq
  refine Go.sto k (by simp) (fun hx hb hn hl k => lv_istore (i := 15) hx hb hd hl (by rw [← hn]; simp) rfl (fun ls' hl' => k ls' (lv_fewer hl' (fun q hq => lvp_set1 (L := (a0 :: a1 :: a2 :: a3 :: a4 :: a5 :: a6 :: a7 :: a8 :: a9 :: a10 :: a11 :: a12 :: a13 :: a14 :: b0 :: r)) (k := 15) hp q hq))))
theorem Go.iinc_15 {a0 a1 a2 a3 a4 a5 a6 a7 a8 a9 a10 a11 a12 a13 a14 : Option Value} {n : Int} {r : List (Option Value)} {x v : Int32} (hd : decode M.2.1 pc = .ok (.iinc 15 n, 3)) (hq : pc + 3 = q) (hp : l_c1 (a0 :: a1 :: a2 :: a3 :: a4 :: a5 :: a6 :: a7 :: a8 :: a9 :: a10 :: a11 :: a12 :: a13 :: a14 :: some (.int x) :: r) 15 = true) (hv : x + Int32.ofInt n = v) (k : Go Γ M d C S q (a0 :: a1 :: a2 :: a3 :: a4 :: a5 :: a6 :: a7 :: a8 :: a9 :: a10 :: a11 :: a12 :: a13 :: a14 :: some (.int v) :: r) st h z Q X) : Go Γ M d C S pc (a0 :: a1 :: a2 :: a3 :: a4 :: a5 :: a6 :: a7 :: a8 :: a9 :: a10 :: a11 :: a12 :: a13 :: a14 :: some (.int x) :: r) st h z Q X := by
  subst hq
  refine Go.sto k (by simp) (fun hx hb hn hl k => ?_)
  obtain ⟨i, hi⟩ := List.getElem?_of_mem ((lvp_mem (a0 :: a1 :: a2 :: a3 :: a4 :: a5 :: a6 :: a7 :: a8 :: a9 :: a10 :: a11 :: a12 :: a13 :: a14 :: some (.int x) :: r) 0 (15, .int x)).mpr ⟨15, rfl, rfl⟩)
  exact lv_iinc hx hb hd hl hi hv (by rw [← hn]; simp) rfl (fun ls' hl' => k ls' (lv_fewer hl' (fun q hq => lvp_set1 (L := (a0 :: a1 :: a2 :: a3 :: a4 :: a5 :: a6 :: a7 :: a8 :: a9 :: a10 :: a11 :: a12 :: a13 :: a14 :: some (.int x) :: r)) (k := 15) hp q hq)))
theorem Go.iload_16 {a0 a1 a2 a3 a4 a5 a6 a7 a8 a9 a10 a11 a12 a13 a14 a15 : Option Value} {r : List (Option Value)} {x : Int32} (hd : decode M.2.1 pc = .ok (.iload 16, 2)) (hq : pc + 2 = q) (k : Go Γ M d C S q (a0 :: a1 :: a2 :: a3 :: a4 :: a5 :: a6 :: a7 :: a8 :: a9 :: a10 :: a11 :: a12 :: a13 :: a14 :: a15 :: some (.int x) :: r) (.int x :: st) h z Q X) : Go Γ M d C S pc (a0 :: a1 :: a2 :: a3 :: a4 :: a5 :: a6 :: a7 :: a8 :: a9 :: a10 :: a11 :: a12 :: a13 :: a14 :: a15 :: some (.int x) :: r) st h z Q X := by
  subst hq
  exact Go.pure k (fun hx hb hl k => lv_iload hx hb hd (lvp_at hl (k := 16) rfl) k)
theorem Go.istore_16 {a0 a1 a2 a3 a4 a5 a6 a7 a8 a9 a10 a11 a12 a13 a14 a15 b0 : Option Value} {r : List (Option Value)} {x : Int32} (hd : decode M.2.1 pc = .ok (.istore 16, 2)) (hq : pc + 2 = q) (hp : l_c1 (a0 :: a1 :: a2 :: a3 :: a4 :: a5 :: a6 :: a7 :: a8 :: a9 :: a10 :: a11 :: a12 :: a13 :: a14 :: a15 :: b0 :: r) 16 = true) (k : Go Γ M d C S q (a0 :: a1 :: a2 :: a3 :: a4 :: a5 :: a6 :: a7 :: a8 :: a9 :: a10 :: a11 :: a12 :: a13 :: a14 :: a15 :: some (.int x) :: r) st h z Q X) : Go Γ M d C S pc (a0 :: a1 :: a2 :: a3 :: a4 :: a5 :: a6 :: a7 :: a8 :: a9 :: a10 :: a11 :: a12 :: a13 :: a14 :: a15 :: b0 :: r) (.int x :: st) h z Q X := by
  subst hq
  refine Go.sto k (by simp) (fun hx hb hn hl k => lv_istore (i := 16) hx hb hd hl (by rw [← hn]; simp) rfl (fun ls' hl' => k ls' (lv_fewer hl' (fun q hq => lvp_set1 (L := (a0 :: a1 :: a2 :: a3 :: a4 :: a5 :: a6 :: a7 :: a8 :: a9 :: a10 :: a11 :: a12 :: a13 :: a14 :: a15 :: b0 :: r)) (k := 16) hp q hq))))
theorem Go.iinc_16 {a0 a1 a2 a3 a4 a5 a6 a7 a8 a9 a10 a11 a12 a13 a14 a15 : Option Value} {n : Int} {r : List (Option Value)} {x v : Int32} (hd : decode M.2.1 pc = .ok (.iinc 16 n, 3)) (hq : pc + 3 = q) (hp : l_c1 (a0 :: a1 :: a2 :: a3 :: a4 :: a5 :: a6 :: a7 :: a8 :: a9 :: a10 :: a11 :: a12 :: a13 :: a14 :: a15 :: some (.int x) :: r) 16 = true) (hv : x + Int32.ofInt n = v) (k : Go Γ M d C S q (a0 :: a1 :: a2 :: a3 :: a4 :: a5 :: a6 :: a7 :: a8 :: a9 :: a10 :: a11 :: a12 :: a13 :: a14 :: a15 :: some (.int v) :: r) st h z Q X) : Go Γ M d C S pc (a0 :: a1 :: a2 :: a3 :: a4 :: a5 :: a6 :: a7 :: a8 :: a9 :: a10 :: a11 :: a12 :: a13 :: a14 :: a15 :: some (.int x) :: r) st h z Q X := by
  subst hq
  refine Go.sto k (by simp) (fun hx hb hn hl k => ?_)
  obtain ⟨i, hi⟩ := List.getElem?_of_mem ((lvp_mem (a0 :: a1 :: a2 :: a3 :: a4 :: a5 :: a6 :: a7 :: a8 :: a9 :: a10 :: a11 :: a12 :: a13 :: a14 :: a15 :: some (.int x) :: r) 0 (16, .int x)).mpr ⟨16, rfl, rfl⟩)
  exact lv_iinc hx hb hd hl hi hv (by rw [← hn]; simp) rfl (fun ls' hl' => k ls' (lv_fewer hl' (fun q hq => lvp_set1 (L := (a0 :: a1 :: a2 :: a3 :: a4 :: a5 :: a6 :: a7 :: a8 :: a9 :: a10 :: a11 :: a12 :: a13 :: a14 :: a15 :: some (.int x) :: r)) (k := 16) hp q hq)))
theorem Go.lload_0 {r : List (Option Value)} {x : Int64} (hd : decode M.2.1 pc = .ok (.lload_n 0, 1)) (hq : pc + 1 = q) (k : Go Γ M d C S q (some (.long x) :: r) (.long x :: st) h z Q X) : Go Γ M d C S pc (some (.long x) :: r) st h z Q X := by
  subst hq
  exact Go.pure k (fun hx hb hl k => lv_lload_n hx hb hd rfl (lvp_at hl (k := 0) rfl) k)
theorem Go.lstore_0 {b0 b1 : Option Value} {r : List (Option Value)} {x : Int64} (hd : decode M.2.1 pc = .ok (.lstore_n 0, 1)) (hq : pc + 1 = q)  (k : Go Γ M d C S q (some (.long x) :: none :: r) st h z Q X) : Go Γ M d C S pc (b0 :: b1 :: r) (.long x :: st) h z Q X := by
  subst hq
  refine Go.sto k (by simp) (fun hx hb hn hl k => lv_lstore_n (i := 0) hx hb hd rfl hl (by rw [← hn]; simp) rfl (fun ls' hl' => k ls' (lv_fewer hl' (fun q hq => lvp_set2 (L := (b0 :: b1 :: r)) (k := 0) rfl q hq))))
theorem Go.lload_1 {a0 : Option Value} {r : List (Option Value)} {x : Int64} (hd : decode M.2.1 pc = .ok (.lload_n 1, 1)) (hq : pc + 1 = q) (k : Go Γ M d C S q (a0 :: some (.long x) :: r) (.long x :: st) h z Q X) : Go Γ M d C S pc (a0 :: some (.long x) :: r) st h z Q X := by
  subst hq
  exact Go.pure k (fun hx hb hl k => lv_lload_n hx hb hd rfl (lvp_at hl (k := 1) rfl) k)
theorem Go.lstore_1 {a0 b0 b1 : Option Value} {r : List (Option Value)} {x : Int64} (hd : decode M.2.1 pc = .ok (.lstore_n 1, 1)) (hq : pc + 1 = q) (hp : l_c1 (a0 :: b0 :: b1 :: r) 1 = true) (k : Go Γ M d C S q (a0 :: some (.long x) :: none :: r) st h z Q X) : Go Γ M d C S pc (a0 :: b0 :: b1 :: r) (.long x :: st) h z Q X := by
  subst hq
  refine Go.sto k (by simp) (fun hx hb hn hl k => lv_lstore_n (i := 1) hx hb hd rfl hl (by rw [← hn]; simp) rfl (fun ls' hl' => k ls' (lv_fewer hl' (fun q hq => lvp_set2 (L := (a0 :: b0 :: b1 :: r)) (k := 1) hp q hq))))
theorem Go.lload_2 {a0 a1 : Option Value} {r : List (Option Value)} {x : Int64} (hd : decode M.2.1 pc = .ok (.lload_n 2, 1)) (hq : pc + 1 = q) (k : Go Γ M d C S q (a0 :: a1 :: some (.long x) :: r) (.long x :: st) h z Q X) : Go Γ M d C S pc (a0 :: a1 :: some (.long x) :: r) st h z Q X := by
  subst hq
  exact Go.pure k (fun hx hb hl k => lv_lload_n hx hb hd rfl (lvp_at hl (k := 2) rfl) k)
theorem Go.lstore_2 {a0 a1 b0 b1 : Option Value} {r : List (Option Value)} {x : Int64} (hd : decode M.2.1 pc = .ok (.lstore_n 2, 1)) (hq : pc + 1 = q) (hp : l_c1 (a0 :: a1 :: b0 :: b1 :: r) 2 = true) (k : Go Γ M d C S q (a0 :: a1 :: some (.long x) :: none :: r) st h z Q X) : Go Γ M d C S pc (a0 :: a1 :: b0 :: b1 :: r) (.long x :: st) h z Q X := by
  subst hq
  refine Go.sto k (by simp) (fun hx hb hn hl k => lv_lstore_n (i := 2) hx hb hd rfl hl (by rw [← hn]; simp) rfl (fun ls' hl' => k ls' (lv_fewer hl' (fun q hq => lvp_set2 (L := (a0 :: a1 :: b0 :: b1 :: r)) (k := 2) hp q hq))))
theorem Go.lload_3 {a0 a1 a2 : Option Value} {r : List (Option Value)} {x : Int64} (hd : decode M.2.1 pc = .ok (.lload_n 3, 1)) (hq : pc + 1 = q) (k : Go Γ M d C S q (a0 :: a1 :: a2 :: some (.long x) :: r) (.long x :: st) h z Q X) : Go Γ M d C S pc (a0 :: a1 :: a2 :: some (.long x) :: r) st h z Q X := by
  subst hq
  exact Go.pure k (fun hx hb hl k => lv_lload_n hx hb hd rfl (lvp_at hl (k := 3) rfl) k)
theorem Go.lstore_3 {a0 a1 a2 b0 b1 : Option Value} {r : List (Option Value)} {x : Int64} (hd : decode M.2.1 pc = .ok (.lstore_n 3, 1)) (hq : pc + 1 = q) (hp : l_c1 (a0 :: a1 :: a2 :: b0 :: b1 :: r) 3 = true) (k : Go Γ M d C S q (a0 :: a1 :: a2 :: some (.long x) :: none :: r) st h z Q X) : Go Γ M d C S pc (a0 :: a1 :: a2 :: b0 :: b1 :: r) (.long x :: st) h z Q X := by
  subst hq
  refine Go.sto k (by simp) (fun hx hb hn hl k => lv_lstore_n (i := 3) hx hb hd rfl hl (by rw [← hn]; simp) rfl (fun ls' hl' => k ls' (lv_fewer hl' (fun q hq => lvp_set2 (L := (a0 :: a1 :: a2 :: b0 :: b1 :: r)) (k := 3) hp q hq))))
theorem Go.lload_4 {a0 a1 a2 a3 : Option Value} {r : List (Option Value)} {x : Int64} (hd : decode M.2.1 pc = .ok (.lload 4, 2)) (hq : pc + 2 = q) (k : Go Γ M d C S q (a0 :: a1 :: a2 :: a3 :: some (.long x) :: r) (.long x :: st) h z Q X) : Go Γ M d C S pc (a0 :: a1 :: a2 :: a3 :: some (.long x) :: r) st h z Q X := by
  subst hq
  exact Go.pure k (fun hx hb hl k => lv_lload hx hb hd (lvp_at hl (k := 4) rfl) k)
theorem Go.lstore_4 {a0 a1 a2 a3 b0 b1 : Option Value} {r : List (Option Value)} {x : Int64} (hd : decode M.2.1 pc = .ok (.lstore 4, 2)) (hq : pc + 2 = q) (hp : l_c1 (a0 :: a1 :: a2 :: a3 :: b0 :: b1 :: r) 4 = true) (k : Go Γ M d C S q (a0 :: a1 :: a2 :: a3 :: some (.long x) :: none :: r) st h z Q X) : Go Γ M d C S pc (a0 :: a1 :: a2 :: a3 :: b0 :: b1 :: r) (.long x :: st) h z Q X := by
  subst hq
  refine Go.sto k (by simp) (fun hx hb hn hl k => lv_lstore (i := 4) hx hb hd hl (by rw [← hn]; simp) rfl (fun ls' hl' => k ls' (lv_fewer hl' (fun q hq => lvp_set2 (L := (a0 :: a1 :: a2 :: a3 :: b0 :: b1 :: r)) (k := 4) hp q hq))))
theorem Go.lload_5 {a0 a1 a2 a3 a4 : Option Value} {r : List (Option Value)} {x : Int64} (hd : decode M.2.1 pc = .ok (.lload 5, 2)) (hq : pc + 2 = q) (k : Go Γ M d C S q (a0 :: a1 :: a2 :: a3 :: a4 :: some (.long x) :: r) (.long x :: st) h z Q X) : Go Γ M d C S pc (a0 :: a1 :: a2 :: a3 :: a4 :: some (.long x) :: r) st h z Q X := by
  subst hq
  exact Go.pure k (fun hx hb hl k => lv_lload hx hb hd (lvp_at hl (k := 5) rfl) k)
theorem Go.lstore_5 {a0 a1 a2 a3 a4 b0 b1 : Option Value} {r : List (Option Value)} {x : Int64} (hd : decode M.2.1 pc = .ok (.lstore 5, 2)) (hq : pc + 2 = q) (hp : l_c1 (a0 :: a1 :: a2 :: a3 :: a4 :: b0 :: b1 :: r) 5 = true) (k : Go Γ M d C S q (a0 :: a1 :: a2 :: a3 :: a4 :: some (.long x) :: none :: r) st h z Q X) : Go Γ M d C S pc (a0 :: a1 :: a2 :: a3 :: a4 :: b0 :: b1 :: r) (.long x :: st) h z Q X := by
  subst hq
  refine Go.sto k (by simp) (fun hx hb hn hl k => lv_lstore (i := 5) hx hb hd hl (by rw [← hn]; simp) rfl (fun ls' hl' => k ls' (lv_fewer hl' (fun q hq => lvp_set2 (L := (a0 :: a1 :: a2 :: a3 :: a4 :: b0 :: b1 :: r)) (k := 5) hp q hq))))
theorem Go.lload_6 {a0 a1 a2 a3 a4 a5 : Option Value} {r : List (Option Value)} {x : Int64} (hd : decode M.2.1 pc = .ok (.lload 6, 2)) (hq : pc + 2 = q) (k : Go Γ M d C S q (a0 :: a1 :: a2 :: a3 :: a4 :: a5 :: some (.long x) :: r) (.long x :: st) h z Q X) : Go Γ M d C S pc (a0 :: a1 :: a2 :: a3 :: a4 :: a5 :: some (.long x) :: r) st h z Q X := by
  subst hq
  exact Go.pure k (fun hx hb hl k => lv_lload hx hb hd (lvp_at hl (k := 6) rfl) k)
theorem Go.lstore_6 {a0 a1 a2 a3 a4 a5 b0 b1 : Option Value} {r : List (Option Value)} {x : Int64} (hd : decode M.2.1 pc = .ok (.lstore 6, 2)) (hq : pc + 2 = q) (hp : l_c1 (a0 :: a1 :: a2 :: a3 :: a4 :: a5 :: b0 :: b1 :: r) 6 = true) (k : Go Γ M d C S q (a0 :: a1 :: a2 :: a3 :: a4 :: a5 :: some (.long x) :: none :: r) st h z Q X) : Go Γ M d C S pc (a0 :: a1 :: a2 :: a3 :: a4 :: a5 :: b0 :: b1 :: r) (.long x :: st) h z Q X := by
  subst hq
  refine Go.sto k (by simp) (fun hx hb hn hl k => lv_lstore (i := 6) hx hb hd hl (by rw [← hn]; simp) rfl (fun ls' hl' => k ls' (lv_fewer hl' (fun q hq => lvp_set2 (L := (a0 :: a1 :: a2 :: a3 :: a4 :: a5 :: b0 :: b1 :: r)) (k := 6) hp q hq))))
theorem Go.lload_7 {a0 a1 a2 a3 a4 a5 a6 : Option Value} {r : List (Option Value)} {x : Int64} (hd : decode M.2.1 pc = .ok (.lload 7, 2)) (hq : pc + 2 = q) (k : Go Γ M d C S q (a0 :: a1 :: a2 :: a3 :: a4 :: a5 :: a6 :: some (.long x) :: r) (.long x :: st) h z Q X) : Go Γ M d C S pc (a0 :: a1 :: a2 :: a3 :: a4 :: a5 :: a6 :: some (.long x) :: r) st h z Q X := by
  subst hq
  exact Go.pure k (fun hx hb hl k => lv_lload hx hb hd (lvp_at hl (k := 7) rfl) k)
theorem Go.lstore_7 {a0 a1 a2 a3 a4 a5 a6 b0 b1 : Option Value} {r : List (Option Value)} {x : Int64} (hd : decode M.2.1 pc = .ok (.lstore 7, 2)) (hq : pc + 2 = q) (hp : l_c1 (a0 :: a1 :: a2 :: a3 :: a4 :: a5 :: a6 :: b0 :: b1 :: r) 7 = true) (k : Go Γ M d C S q (a0 :: a1 :: a2 :: a3 :: a4 :: a5 :: a6 :: some (.long x) :: none :: r) st h z Q X) : Go Γ M d C S pc (a0 :: a1 :: a2 :: a3 :: a4 :: a5 :: a6 :: b0 :: b1 :: r) (.long x :: st) h z Q X := by
  subst hq
  refine Go.sto k (by simp) (fun hx hb hn hl k => lv_lstore (i := 7) hx hb hd hl (by rw [← hn]; simp) rfl (fun ls' hl' => k ls' (lv_fewer hl' (fun q hq => lvp_set2 (L := (a0 :: a1 :: a2 :: a3 :: a4 :: a5 :: a6 :: b0 :: b1 :: r)) (k := 7) hp q hq))))
theorem Go.lload_8 {a0 a1 a2 a3 a4 a5 a6 a7 : Option Value} {r : List (Option Value)} {x : Int64} (hd : decode M.2.1 pc = .ok (.lload 8, 2)) (hq : pc + 2 = q) (k : Go Γ M d C S q (a0 :: a1 :: a2 :: a3 :: a4 :: a5 :: a6 :: a7 :: some (.long x) :: r) (.long x :: st) h z Q X) : Go Γ M d C S pc (a0 :: a1 :: a2 :: a3 :: a4 :: a5 :: a6 :: a7 :: some (.long x) :: r) st h z Q X := by
  subst hq
  exact Go.pure k (fun hx hb hl k => lv_lload hx hb hd (lvp_at hl (k := 8) rfl) k)
theorem Go.lstore_8 {a0 a1 a2 a3 a4 a5 a6 a7 b0 b1 : Option Value} {r : List (Option Value)} {x : Int64} (hd : decode M.2.1 pc = .ok (.lstore 8, 2)) (hq : pc + 2 = q) (hp : l_c1 (a0 :: a1 :: a2 :: a3 :: a4 :: a5 :: a6 :: a7 :: b0 :: b1 :: r) 8 = true) (k : Go Γ M d C S q (a0 :: a1 :: a2 :: a3 :: a4 :: a5 :: a6 :: a7 :: some (.long x) :: none :: r) st h z Q X) : Go Γ M d C S pc (a0 :: a1 :: a2 :: a3 :: a4 :: a5 :: a6 :: a7 :: b0 :: b1 :: r) (.long x :: st) h z Q X := by
  subst hq
  refine Go.sto k (by simp) (fun hx hb hn hl k => lv_lstore (i := 8) hx hb hd hl (by rw [← hn]; simp) rfl (fun ls' hl' => k ls' (lv_fewer hl' (fun q hq => lvp_set2 (L := (a0 :: a1 :: a2 :: a3 :: a4 :: a5 :: a6 :: a7 :: b0 :: b1 :: r)) (k := 8) hp q hq))))
theorem Go.lload_9 {a0 a1 a2 a3 a4 a5 a6 a7 a8 : Option Value} {r : List (Option Value)} {x : Int64} (hd : decode M.2.1 pc = .ok (.lload 9, 2)) (hq : pc + 2 = q) (k : Go Γ M d C S q (a0 :: a1 :: a2 :: a3 :: a4 :: a5 :: a6 :: a7 :: a8 :: some (.long x) :: r) (.long x :: st) h z Q X) : Go Γ M d C S pc (a0 :: a1 :: a2 :: a3 :: a4 :: a5 :: a6 :: a7 :: a8 :: some (.long x) :: r) st h z Q X := by
  subst hq
  exact Go.pure k (fun hx hb hl k => lv_lload hx hb hd (lvp_at hl (k := 9) rfl) k)
theorem Go.lstore_9 {a0 a1 a2 a3 a4 a5 a6 a7 a8 b0 b1 : Option Value} {r : List (Option Value)} {x : Int64} (hd : decode M.2.1 pc = .ok (.lstore 9, 2)) (hq : pc + 2 = q) (hp : l_c1 (a0 :: a1 :: a2 :: a3 :: a4 :: a5 :: a6 :: a7 :: a8 :: b0 :: b1 :: r) 9 = true) (k : Go Γ M d C S q (a0 :: a1 :: a2 :: a3 :: a4 :: a5 :: a6 :: a7 :: a8 :: some (.long x) :: none :: r) st h z Q X) : Go Γ M d C S pc (a0 :: a1 :: a2 :: a3 :: a4 :: a5 :: a6 :: a7 :: a8 :: b0 :: b1 :: r) (.long x :: st) h z Q X := by
  subst hq
  refine Go.sto k (by simp) (fun hx hb hn hl k => lv_lstore (i := 9) hx hb hd hl (by rw [← hn]; simp) rfl (fun ls' hl' => k ls' (lv_fewer hl' (fun q hq => lvp_set2 (L := (a0 :: a1 :: a2 :: a3 :: a4 :: a5 :: a6 :: a7 :: a8 :: b0 :: b1 :: r)) (k := 9) hp q hq))))
theorem Go.lload_10 {a0 a1 a2 a3 a4 a5 a6 a7 a8 a9 : Option Value} {r : List (Option Value)} {x : Int64} (hd : decode M.2.1 pc = .ok (.lload 10, 2)) (hq : pc + 2 = q) (k : Go Γ M d C S q (a0 :: a1 :: a2 :: a3 :: a4 :: a5 :: a6 :: a7 :: a8 :: a9 :: some (.long x) :: r) (.long x :: st) h z Q X) : Go Γ M d C S pc (a0 :: a1 :: a2 :: a3 :: a4 :: a5 :: a6 :: a7 :: a8 :: a9 :: some (.long x) :: r) st h z Q X := by
  subst hq
  exact Go.pure k (fun hx hb hl k => lv_lload hx hb hd (lvp_at hl (k := 10) rfl) k)
theorem Go.lstore_10 {a0 a1 a2 a3 a4 a5 a6 a7 a8 a9 b0 b1 : Option Value} {r : List (Option Value)} {x : Int64} (hd : decode M.2.1 pc = .ok (.lstore 10, 2)) (hq : pc + 2 = q) (hp : l_c1 (a0 :: a1 :: a2 :: a3 :: a4 :: a5 :: a6 :: a7 :: a8 :: a9 :: b0 :: b1 :: r) 10 = true) (k : Go Γ M d C S q (a0 :: a1 :: a2 :: a3 :: a4 :: a5 :: a6 :: a7 :: a8 :: a9 :: some (.long x) :: none :: r) st h z Q X) : Go Γ M d C S pc (a0 :: a1 :: a2 :: a3 :: a4 :: a5 :: a6 :: a7 :: a8 :: a9 :: b0 :: b1 :: r) (.long x :: st) h z Q X := by
  subst hq
  refine Go.sto k (by simp) (fun hx hb hn hl k => lv_lstore (i := 10) hx hb hd hl (by rw [← hn]; simp) rfl (fun ls' hl' => k ls' (lv_fewer hl' (fun q hq => lvp_set2 (L := (a0 :: a1 :: a2 :: a3 :: a4 :: a5 :: a6 :: a7 :: a8 :: a9 :: b0 :: b1 :: r)) (k := 10) hp q hq))))
theorem Go.lload_11 {a0 a1 a2 a3 a4 a5 a6 a7 a8 a9 a10 : Option Value} {r : List (Option Value)} {x : Int64} (hd : decode M.2.1 pc = .ok (.lload 11, 2)) (hq : pc + 2 = q) (k : Go Γ M d C S q (a0 :: a1 :: a2 :: a3 :: a4 :: a5 :: a6 :: a7 :: a8 :: a9 :: a10 :: some (.long x) :: r) (.long x :: st) h z Q X) : Go Γ M d C S pc (a0 :: a1 :: a2 :: a3 :: a4 :: a5 :: a6 :: a7 :: a8 :: a9 :: a10 :: some (.long x) :: r) st h z Q X := by
  subst hq
  exact Go.pure k (fun hx hb hl k => lv_lload hx hb hd (lvp_at hl (k := 11) rfl) k)
theorem Go.lstore_11 {a0 a1 a2 a3 a4 a5 a6 a7 a8 a9 a10 b0 b1 : Option Value} {r : List (Option Value)} {x : Int64} (hd : decode M.2.1 pc = .ok (.lstore 11, 2)) (hq : pc + 2 = q) (hp : l_c1 (a0 :: a1 :: a2 :: a3 :: a4 :: a5 :: a6 :: a7 :: a8 :: a9 :: a10 :: b0 :: b1 :: r) 11 = true) (k : Go Γ M d C S q (a0 :: a1 :: a2 :: a3 :: a4 :: a5 :: a6 :: a7 :: a8 :: a9 :: a10 :: some (.long x) :: none :: r) st h z Q X) : Go Γ M d C S pc (a0 :: a1 :: a2 :: a3 :: a4 :: a5 :: a6 :: a7 :: a8 :: a9 :: a10 :: b0 :: b1 :: r) (.long x :: st) h z Q X := by
  subst hq
  refine Go.sto k (by simp) (fun hx hb hn hl k => lv_lstore (i := 11) hx hb hd hl (by rw [← hn]; simp) rfl (fun ls' hl' => k ls' (lv_fewer hl' (fun q hq => lvp_set2 (L := (a0 :: a1 :: a2 :: a3 :: a4 :: a5 :: a6 :: a7 :: a8 :: a9 :: a10 :: b0 :: b1 :: r)) (k := 11) hp q hq))))
theorem Go.lload_12 {a0 a1 a2 a3 a4 a5 a6 a7 a8 a9 a10 a11 : Option Value} {r : List (Option Value)} {x : Int64} (hd : decode M.2.1 pc = .ok (.lload 12, 2)) (hq : pc + 2 = q) (k : Go Γ M d C S q (a0 :: a1 :: a2 :: a3 :: a4 :: a5 :: a6 :: a7 :: a8 :: a9 :: a10 :: a11 :: some (.long x) :: r) (.long x :: st) h z Q X) : Go Γ M d C S pc (a0 :: a1 :: a2 :: a3 :: a4 :: a5 :: a6 :: a7 :: a8 :: a9 :: a10 :: a11 :: some (.long x) :: r) st h z Q X := by
  subst hq
  exact Go.pure k (fun hx hb hl k => lv_lload hx hb hd (lvp_at hl (k := 12) rfl) k)
theorem Go.lstore_12 {a0 a1 a2 a3 a4 a5 a6 a7 a8 a9 a10 a11 b0 b1 : Option Value} {r : List (Option Value)} {x : Int64} (hd : decode M.2.1 pc = .ok (.lstore 12, 2)) (hq : pc + 2 = q) (hp : l_c1 (a0 :: a1 :: a2 :: a3 :: a4 :: a5 :: a6 :: a7 :: a8 :: a9 :: a10 :: a11 :: b0 :: b1 :: r) 12 = true) (k : Go Γ M d C S q (a0 :: a1 :: a2 :: a3 :: a4 :: a5 :: a6 :: a7 :: a8 :: a9 :: a10 :: a11 :: some (.long x) :: none :: r) st h z Q X) : Go Γ M d C S pc (a0 :: a1 :: a2 :: a3 :: a4 :: a5 :: a6 :: a7 :: a8 :: a9 :: a10 :: a11 :: b0 :: b1 :: r) (.long x :: st) h z Q X := by
  subst hq
  refine Go.sto k (by simp) (fun hx hb hn hl k => lv_lstore (i := 12) hx hb hd hl (by rw [← hn]; simp) rfl (fun ls' hl' => k ls' (lv_fewer hl' (fun q hq => lvp_set2 (L := (a0 :: a1 :: a2 :: a3 :: a4 :: a5 :: a6 :: a7 :: a8 :: a9 :: a10 :: a11 :: b0 :: b1 :: r)) (k := 12) hp q hq))))
theorem Go.lload_13 {a0 a1 a2 a3 a4 a5 a6 a7 a8 a9 a10 a11 a12 : Option Value} {r : List (Option Value)} {x : Int64} (hd : decode M.2.1 pc = .ok (.lload 13, 2)) (hq : pc + 2 = q) (k : Go Γ M d C S q (a0 :: a1 :: a2 :: a3 :: a4 :: a5 :: a6 :: a7 :: a8 :: a9 :: a10 :: a11 :: a12 :: some (.long x) :: r) (.long x :: st) h z Q X) : Go Γ M d C S pc (a0 :: a1 :: a2 :: a3 :: a4 :: a5 :: a6 :: a7 :: a8 :: a9 :: a10 :: a11 :: a12 :: some (.long x) :: r) st h z Q X := by
  subst hq
  exact Go.pure k (fun hx hb hl k => lv_lload hx hb hd (lvp_at hl (k := 13) rfl) k)
theorem Go.lstore_13 {a0 a1 a2 a3 a4 a5 a6 a7 a8 a9 a10 a11 a12 b0 b1 : Option Value} {r : List (Option Value)} {x : Int64} (hd : decode M.2.1 pc = .ok (.lstore 13, 2)) (hq : pc + 2 = q) (hp : l_c1 (a0 :: a1 :: a2 :: a3 :: a4 :: a5 :: a6 :: a7 :: a8 :: a9 :: a10 :: a11 :: a12 :: b0 :: b1 :: r) 13 = true) (k : Go Γ M d C S q (a0 :: a1 :: a2 :: a3 :: a4 :: a5 :: a6 :: a7 :: a8 :: a9 :: a10 :: a11 :: a12 :: some (.long x) :: none :: r) st h z Q X) : Go Γ M d C S pc (a0 :: a1 :: a2 :: a3 :: a4 :: a5 :: a6 :: a7 :: a8 :: a9 :: a10 :: a11 :: a12 :: b0 :: b1 :: r) (.long x :: st) h z Q X := by
  subst hq
  refine Go.sto k (by simp) (fun hx hb hn hl k => lv_lstore (i := 13) hx hb hd hl (by rw [← hn]; simp) rfl (fun ls' hl' => k ls' (lv_fewer hl' (fun q hq => lvp_set2 (L := (a0 :: a1 :: a2 :: a3 :: a4 :: a5 :: a6 :: a7 :: a8 :: a9 :: a10 :: a11 :: a12 :: b0 :: b1 :: r)) (k := 13) hp q hq))))
theorem Go.lload_14 {a0 a1 a2 a3 a4 a5 a6 a7 a8 a9 a10 a11 a12 a13 : Option Value} {r : List (Option Value)} {x : Int64} (hd : decode M.2.1 pc = .ok (.lload 14, 2)) (hq : pc + 2 = q) (k : Go Γ M d C S q (a0 :: a1 :: a2 :: a3 :: a4 :: a5 :: a6 :: a7 :: a8 :: a9 :: a10 :: a11 :: a12 :: a13 :: some (.long x) :: r) (.long x :: st) h z Q X) : Go Γ M d C S pc (a0 :: a1 :: a2 :: a3 :: a4 :: a5 :: a6 :: a7 :: a8 :: a9 :: a10 :: a11 :: a12 :: a13 :: some (.long x) :: r) st h z Q X := by
  subst hq
  exact Go.pure k (fun hx hb hl k => lv_lload hx hb hd (lvp_at hl (k := 14) rfl) k)
theorem Go.lstore_14 {a0 a1 a2 a3 a4 a5 a6 a7 a8 a9 a10 a11 a12 a13 b0 b1 : Option Value} {r : List (Option Value)} {x : Int64} (hd : decode M.2.1 pc = .ok (.lstore 14, 2)) (hq : pc + 2 = q) (hp : l_c1 (a0 :: a1 :: a2 :: a3 :: a4 :: a5 :: a6 :: a7 :: a8 :: a9 :: a10 :: a11 :: a12 :: a13 :: b0 :: b1 :: r) 14 = true) (k : Go Γ M d C S q (a0 :: a1 :: a2 :: a3 :: a4 :: a5 :: a6 :: a7 :: a8 :: a9 :: a10 :: a11 :: a12 :: a13 :: some (.long x) :: none :: r) st h z Q X) : Go Γ M d C S pc (a0 :: a1 :: a2 :: a3 :: a4 :: a5 :: a6 :: a7 :: a8 :: a9 :: a10 :: a11 :: a12 :: a13 :: b0 :: b1 :: r) (.long x :: st) h z Q X := by
  subst hq
  refine Go.sto k (by simp) (fun hx hb hn hl k => lv_lstore (i := 14) hx hb hd hl (by rw [← hn]; simp) rfl (fun ls' hl' => k ls' (lv_fewer hl' (fun q hq => lvp_set2 (L := (a0 :: a1 :: a2 :: a3 :: a4 :: a5 :: a6 :: a7 :: a8 :: a9 :: a10 :: a11 :: a12 :: a13 :: b0 :: b1 :: r)) (k := 14) hp q hq))))
theorem Go.lload_15 {a0 a1 a2 a3 a4 a5 a6 a7 a8 a9 a10 a11 a12 a13 a14 : Option Value} {r : List (Option Value)} {x : Int64} (hd : decode M.2.1 pc = .ok (.lload 15, 2)) (hq : pc + 2 = q) (k : Go Γ M d C S q (a0 :: a1 :: a2 :: a3 :: a4 :: a5 :: a6 :: a7 :: a8 :: a9 :: a10 :: a11 :: a12 :: a13 :: a14 :: some (.long x) :: r) (.long x :: st) h z Q X) : Go Γ M d C S pc (a0 :: a1 :: a2 :: a3 :: a4 :: a5 :: a6 :: a7 :: a8 :: a9 :: a10 :: a11 :: a12 :: a13 :: a14 :: some (.long x) :: r) st h z Q X := by
  subst hq
  exact Go.pure k (fun hx hb hl k => lv_lload hx hb hd (lvp_at hl (k := 15) rfl) k)
theorem Go.lstore_15 {a0 a1 a2 a3 a4 a5 a6 a7 a8 a9 a10 a11 a12 a13 a14 b0 b1 : Option Value} {r : List (Option Value)} {x : Int64} (hd : decode M.2.1 pc = .ok (.lstore 15, 2)) (hq : pc + 2 = q) (hp : l_c1 (a0 :: a1 :: a2 :: a3 :: a4 :: a5 :: a6 :: a7 :: a8 :: a9 :: a10 :: a11 :: a12 :: a13 :: a14 :: b0 :: b1 :: r) 15 = true) (k : Go Γ M d C S q (a0 :: a1 :: a2 :: a3 :: a4 :: a5 :: a6 :: a7 :: a8 :: a9 :: a10 :: a11 :: a12 :: a13 :: a14 :: some (.long x) :: none :: r) st h z Q X) : Go Γ M d C S pc (a0 :: a1 :: a2 :: a3 :: a4 :: a5 :: a6 :: a7 :: a8 :: a9 :: a10 :: a11 :: a12 :: a13 :: a14 :: b0 :: b1 :: r) (.long x :: st) h z Q X := by
  subst hq
  refine Go.sto k (by simp) (fun hx hb hn hl k => lv_lstore (i := 15) hx hb hd hl (by rw [← hn]; simp) rfl (fun ls' hl' => k ls' (lv_fewer hl' (fun q hq => lvp_set2 (L := (a0 :: a1 :: a2 :: a3 :: a4 :: a5 :: a6 :: a7 :: a8 :: a9 :: a10 :: a11 :: a12 :: a13 :: a14 :: b0 :: b1 :: r)) (k := 15) hp q hq))))
theorem Go.lload_16 {a0 a1 a2 a3 a4 a5 a6 a7 a8 a9 a10 a11 a12 a13 a14 a15 : Option Value} {r : List (Option Value)} {x : Int64} (hd : decode M.2.1 pc = .ok (.lload 16, 2)) (hq : pc + 2 = q) (k : Go Γ M d C S q (a0 :: a1 :: a2 :: a3 :: a4 :: a5 :: a6 :: a7 :: a8 :: a9 :: a10 :: a11 :: a12 :: a13 :: a14 :: a15 :: some (.long x) :: r) (.long x :: st) h z Q X) : Go Γ M d C S pc (a0 :: a1 :: a2 :: a3 :: a4 :: a5 :: a6 :: a7 :: a8 :: a9 :: a10 :: a11 :: a12 :: a13 :: a14 :: a15 :: some (.long x) :: r) st h z Q X := by
  subst hq
  exact Go.pure k (fun hx hb hl k => lv_lload hx hb hd (lvp_at hl (k := 16) rfl) k)
theorem Go.dload_0 {r : List (Option Value)} {x : UInt64} (hd : decode M.2.1 pc = .ok (.dload_n 0, 1)) (hq : pc + 1 = q) (k : Go Γ M d C S q (some (.double x) :: r) (.double x :: st) h z Q X) : Go Γ M d C S pc (some (.double x) :: r) st h z Q X := by
  subst hq
  exact Go.pure k (fun hx hb hl k => lv_dload_n hx hb hd rfl (lvp_at hl (k := 0) rfl) k)
theorem Go.dstore_0 {b0 b1 : Option Value} {r : List (Option Value)} {x : UInt64} (hd : decode M.2.1 pc = .ok (.dstore_n 0, 1)) (hq : pc + 1 = q)  (k : Go Γ M d C S q (some (.double x) :: none :: r) st h z Q X) : Go Γ M d C S pc (b0 :: b1 :: r) (.double x :: st) h z Q X := by
  subst hq
  refine Go.sto k (by simp) (fun hx hb hn hl k => lv_dstore_n (i := 0) hx hb hd rfl hl (by rw [← hn]; simp) rfl (fun ls' hl' => k ls' (lv_fewer hl' (fun q hq => lvp_set2 (L := (b0 :: b1 :: r)) (k := 0) rfl q hq))))
theorem Go.dload_1 {a0 : Option Value} {r : List (Option Value)} {x : UInt64} (hd : decode M.2.1 pc = .ok (.dload_n 1, 1)) (hq : pc + 1 = q) (k : Go Γ M d C S q (a0 :: some (.double x) :: r) (.double x :: st) h z Q X) : Go Γ M d C S pc (a0 :: some (.double x) :: r) st h z Q X := by
  subst hq
  exact Go.pure k (fun hx hb hl k => lv_dload_n hx hb hd rfl (lvp_at hl (k := 1) rfl) k)
theorem Go.dstore_1 {a0 b0 b1 : Option Value} {r : List (Option Value)} {x : UInt64} (hd : decode M.2.1 pc = .ok (.dstore_n 1, 1)) (hq : pc + 1 = q) (hp : l_c1 (a0 :: b0 :: b1 :: r) 1 = true) (k : Go Γ M d C S q (a0 :: some (.double x) :: none :: r) st h z Q X) : Go Γ M d C S pc (a0 :: b0 :: b1 :: r) (.double x :: st) h z Q X := by
  subst hq
  refine Go.sto k (by simp) (fun hx hb hn hl k => lv_dstore_n (i := 1) hx hb hd rfl hl (by rw [← hn]; simp) rfl (fun ls' hl' => k ls' (lv_fewer hl' (fun q hq => lvp_set2 (L := (a0 :: b0 :: b1 :: r)) (k := 1) hp q hq))))
theorem Go.dload_2 {a0 a1 : Option Value} {r : List (Option Value)} {x : UInt64} (hd : decode M.2.1 pc = .ok (.dload_n 2, 1)) (hq : pc + 1 = q) (k : Go Γ M d C S q (a0 :: a1 :: some (.double x) :: r) (.double x :: st) h z Q X) : Go Γ M d C S pc (a0 :: a1 :: some (.double x) :: r) st h z Q X := by
  subst hq
  exact Go.pure k (fun hx hb hl k => lv_dload_n hx hb hd rfl (lvp_at hl (k := 2) rfl) k)
theorem Go.dstore_2 {a0 a1 b0 b1 : Option Value} {r : List (Option Value)} {x : UInt64} (hd : decode M.2.1 pc = .ok (.dstore_n 2, 1)) (hq : pc + 1 = q) (hp : l_c1 (a0 :: a1 :: b0 :: b1 :: r) 2 = true) (k : Go Γ M d C S q (a0 :: a1 :: some (.double x) :: none :: r) st h z Q X) : Go Γ M d C S pc (a0 :: a1 :: b0 :: b1 :: r) (.double x :: st) h z Q X := by
  subst hq
  refine Go.sto k (by simp) (fun hx hb hn hl k => lv_dstore_n (i := 2) hx hb hd rfl hl (by rw [← hn]; simp) rfl (fun ls' hl' => k ls' (lv_fewer hl' (fun q hq => lvp_set2 (L := (a0 :: a1 :: b0 :: b1 :: r)) (k := 2) hp q hq))))
theorem Go.dload_3 {a0 a1 a2 : Option Value} {r : List (Option Value)} {x : UInt64} (hd : decode M.2.1 pc = .ok (.dload_n 3, 1)) (hq : pc + 1 = q) (k : Go Γ M d C S q (a0 :: a1 :: a2 :: some (.double x) :: r) (.double x :: st) h z Q X) : Go Γ M d C S pc (a0 :: a1 :: a2 :: some (.double x) :: r) st h z Q X := by
  subst hq
  exact Go.pure k (fun hx hb hl k => lv_dload_n hx hb hd rfl (lvp_at hl (k := 3) rfl) k)
theorem Go.dstore_3 {a0 a1 a2 b0 b1 : Option Value} {r : List (Option Value)} {x : UInt64} (hd : decode M.2.1 pc = .ok (.dstore_n 3, 1)) (hq : pc + 1 = q) (hp : l_c1 (a0 :: a1 :: a2 :: b0 :: b1 :: r) 3 = true) (k : Go Γ M d C S q (a0 :: a1 :: a2 :: some (.double x) :: none :: r) st h z Q X) : Go Γ M d C S pc (a0 :: a1 :: a2 :: b0 :: b1 :: r) (.double x :: st) h z Q X := by
  subst hq
  refine Go.sto k (by simp) (fun hx hb hn hl k => lv_dstore_n (i := 3) hx hb hd rfl hl (by rw [← hn]; simp) rfl (fun ls' hl' => k ls' (lv_fewer hl' (fun q hq => lvp_set2 (L := (a0 :: a1 :: a2 :: b0 :: b1 :: r)) (k := 3) hp q hq))))
theorem Go.dload_4 {a0 a1 a2 a3 : Option Value} {r : List (Option Value)} {x : UInt64} (hd : decode M.2.1 pc = .ok (.dload 4, 2)) (hq : pc + 2 = q) (k : Go Γ M d C S q (a0 :: a1 :: a2 :: a3 :: some (.double x) :: r) (.double x :: st) h z Q X) : Go Γ M d C S pc (a0 :: a1 :: a2 :: a3 :: some (.double x) :: r) st h z Q X := by
  subst hq
  exact Go.pure k (fun hx hb hl k => lv_dload hx hb hd (lvp_at hl (k := 4) rfl) k)
theorem Go.dstore_4 {a0 a1 a2 a3 b0 b1 : Option Value} {r : List (Option Value)} {x : UInt64} (hd : decode M.2.1 pc = .ok (.dstore 4, 2)) (hq : pc + 2 = q) (hp : l_c1 (a0 :: a1 :: a2 :: a3 :: b0 :: b1 :: r) 4 = true) (k : Go Γ M d C S q (a0 :: a1 :: a2 :: a3 :: some (.double x) :: none :: r) st h z Q X) : Go Γ M d C S pc (a0 :: a1 :: a2 :: a3 :: b0 :: b1 :: r) (.double x :: st) h z Q X := by
  subst hq
  refine Go.sto k (by simp) (fun hx hb hn hl k => lv_dstore (i := 4) hx hb hd hl (by rw [← hn]; simp) rfl (fun ls' hl' => k ls' (lv_fewer hl' (fun q hq => lvp_set2 (L := (a0 :: a1 :: a2 :: a3 :: b0 :: b1 :: r)) (k := 4) hp q hq))))
theorem Go.dload_5 {a0 a1 a2 a3 a4 : Option Value} {r : List (Option Value)} {x : UInt64} (hd : decode M.2.1 pc = .ok (.dload 5, 2)) (hq : pc + 2 = q) (k : Go Γ M d C S q (a0 :: a1 :: a2 :: a3 :: a4 :: some (.double x) :: r) (.double x :: st) h z Q X) : Go Γ M d C S pc (a0 :: a1 :: a2 :: a3 :: a4 :: some (.double x) :: r) st h z Q X := by
  subst hq
  exact Go.pure k (fun hx hb hl k => lv_dload hx hb hd (lvp_at hl (k := 5) rfl) k)
theorem Go.dstore_5 {a0 a1 a2 a3 a4 b0 b1 : Option Value} {r : List (Option Value)} {x : UInt64} (hd : decode M.2.1 pc = .ok (.dstore 5, 2)) (hq : pc + 2 = q) (hp : l_c1 (a0 :: a1 :: a2 :: a3 :: a4 :: b0 :: b1 :: r) 5 = true) (k : Go Γ M d C S q (a0 :: a1 :: a2 :: a3 :: a4 :: some (.double x) :: none :: r) st h z Q X) : Go Γ M d C S pc (a0 :: a1 :: a2 :: a3 :: a4 :: b0 :: b1 :: r) (.double x :: st) h z Q X := by
  subst hq
  refine Go.sto k (by simp) (fun hx hb hn hl k => lv_dstore (i := 5) hx hb hd hl (by rw [← hn]; simp) rfl (fun ls' hl' => k ls' (lv_fewer hl' (fun q hq => lvp_set2 (L := (a0 :: a1 :: a2 :: a3 :: a4 :: b0 :: b1 :: r)) (k := 5) hp q hq))))
theorem Go.dload_6 {a0 a1 a2 a3 a4 a5 : Option Value} {r : List (Option Value)} {x : UInt64} (hd : decode M.2.1 pc = .ok (.dload 6, 2)) (hq : pc + 2 = q) (k : Go Γ M d C S q (a0 :: a1 :: a2 :: a3 :: a4 :: a5 :: some (.double x) :: r) (.double x :: st) h z Q X) : Go Γ M d C S pc (a0 :: a1 :: a2 :: a3 :: a4 :: a5 :: some (.double x) :: r) st h z Q X := by
  subst hq
  exact Go.pure k (fun hx hb hl k => lv_dload hx hb hd (lvp_at hl (k := 6) rfl) k)
theorem Go.dstore_6 {a0 a1 a2 a3 a4 a5 b0 b1 : Option Value} {r : List (Option Value)} {x : UInt64} (hd : decode M.2.1 pc = .ok (.dstore 6, 2)) (hq : pc + 2 = q) (hp : l_c1 (a0 :: a1 :: a2 :: a3 :: a4 :: a5 :: b0 :: b1 :: r) 6 = true) (k : Go Γ M d C S q (a0 :: a1 :: a2 :: a3 :: a4 :: a5 :: some (.double x) :: none :: r) st h z Q X) : Go Γ M d C S pc (a0 :: a1 :: a2 :: a3 :: a4 :: a5 :: b0 :: b1 :: r) (.double x :: st) h z Q X := by
  subst hq
  refine Go.sto k (by simp) (fun hx hb hn hl k => lv_dstore (i := 6) hx hb hd hl (by rw [← hn]; simp) rfl (fun ls' hl' => k ls' (lv_fewer hl' (fun q hq => lvp_set2 (L := (a0 :: a1 :: a2 :: a3 :: a4 :: a5 :: b0 :: b1 :: r)) (k := 6) hp q hq))))
theorem Go.dload_7 {a0 a1 a2 a3 a4 a5 a6 : Option Value} {r : List (Option Value)} {x : UInt64} (hd : decode M.2.1 pc = .ok (.dload 7, 2)) (hq : pc + 2 = q) (k : Go Γ M d C S q (a0 :: a1 :: a2 :: a3 :: a4 :: a5 :: a6 :: some (.double x) :: r) (.double x :: st) h z Q X) : Go Γ M d C S pc (a0 :: a1 :: a2 :: a3 :: a4 :: a5 :: a6 :: some (.double x) :: r) st h z Q X := by
  subst hq
  exact Go.pure k (fun hx hb hl k => lv_dload hx hb hd (lvp_at hl (k := 7) rfl) k)
theorem Go.dstore_7 {a0 a1 a2 a3 a4 a5 a6 b0 b1 : Option Value} {r : List (Option Value)} {x : UInt64} (hd : decode M.2.1 pc = .ok (.dstore 7, 2)) (hq : pc + 2 = q) (hp : l_c1 (a0 :: a1 :: a2 :: a3 :: a4 :: a5 :: a6 :: b0 :: b1 :: r) 7 = true) (k : Go Γ M d C S q (a0 :: a1 :: a2 :: a3 :: a4 :: a5 :: a6 :: some (.double x) :: none :: r) st h z Q X) : Go Γ M d C S pc (a0 :: a1 :: a2 :: a3 :: a4 :: a5 :: a6 :: b0 :: b1 :: r) (.double x :: st) h z Q X := by
  subst hq
  refine Go.sto k (by simp) (fun hx hb hn hl k => lv_dstore (i := 7) hx hb hd hl (by rw [← hn]; simp) rfl (fun ls' hl' => k ls' (lv_fewer hl' (fun q hq => lvp_set2 (L := (a0 :: a1 :: a2 :: a3 :: a4 :: a5 :: a6 :: b0 :: b1 :: r)) (k := 7) hp q hq))))
theorem Go.dload_8 {a0 a1 a2 a3 a4 a5 a6 a7 : Option Value} {r : List (Option Value)} {x : UInt64} (hd : decode M.2.1 pc = .ok (.dload 8, 2)) (hq : pc + 2 = q) (k : Go Γ M d C S q (a0 :: a1 :: a2 :: a3 :: a4 :: a5 :: a6 :: a7 :: some (.double x) :: r) (.double x :: st) h z Q X) : Go Γ M d C S pc (a0 :: a1 :: a2 :: a3 :: a4 :: a5 :: a6 :: a7 :: some (.double x) :: r) st h z Q X := by
  subst hq
  exact Go.pure k (fun hx hb hl k => lv_dload hx hb hd (lvp_at hl (k := 8) rfl) k)
theorem Go.dstore_8 {a0 a1 a2 a3 a4 a5 a6 a7 b0 b1 : Option Value} {r : List (Option Value)} {x : UInt64} (hd : decode M.2.1 pc = .ok (.dstore 8, 2)) (hq : pc + 2 = q) (hp : l_c1 (a0 :: a1 :: a2 :: a3 :: a4 :: a5 :: a6 :: a7 :: b0 :: b1 :: r) 8 = true) (k : Go Γ M d C S q (a0 :: a1 :: a2 :: a3 :: a4 :: a5 :: a6 :: a7 :: some (.double x) :: none :: r) st h z Q X) : Go Γ M d C S pc (a0 :: a1 :: a2 :: a3 :: a4 :: a5 :: a6 :: a7 :: b0 :: b1 :: r) (.double x :: st) h z Q X := by
  subst hq
  refine Go.sto k (by simp) (fun hx hb hn hl k => lv_dstore (i := 8) hx hb hd hl (by rw [← hn]; simp) rfl (fun ls' hl' => k ls' (lv_fewer hl' (fun q hq => lvp_set2 (L := (a0 :: a1 :: a2 :: a3 :: a4 :: a5 :: a6 :: a7 :: b0 :: b1 :: r)) (k := 8) hp q hq))))
theorem Go.dload_9 {a0 a1 a2 a3 a4 a5 a6 a7 a8 : Option Value} {r : List (Option Value)} {x : UInt64} (hd : decode M.2.1 pc = .ok (.dload 9, 2)) (hq : pc + 2 = q) (k : Go Γ M d C S q (a0 :: a1 :: a2 :: a3 :: a4 :: a5 :: a6 :: a7 :: a8 :: some (.double x) :: r) (.double x :: st) h z Q X) : Go Γ M d C S pc (a0 :: a1 :: a2 :: a3 :: a4 :: a5 :: a6 :: a7 :: a8 :: some (.double x) :: r) st h z Q X := by
  subst hq
  exact Go.pure k (fun hx hb hl k => lv_dload hx hb hd (lvp_at hl (k := 9) rfl) k)
theorem Go.dstore_9 {a0 a1 a2 a3 a4 a5 a6 a7 a8 b0 b1 : Option Value} {r : List (Option Value)} {x : UInt64} (hd : decode M.2.1 pc = .ok (.dstore 9, 2)) (hq : pc + 2 = q) (hp : l_c1 (a0 :: a1 :: a2 :: a3 :: a4 :: a5 :: a6 :: a7 :: a8 :: b0 :: b1 :: r) 9 = true) (k : Go Γ M d C S q (a0 :: a1 :: a2 :: a3 :: a4 :: a5 :: a6 :: a7 :: a8 :: some (.double x) :: none :: r) st h z Q X) : Go Γ M d C S pc (a0 :: a1 :: a2 :: a3 :: a4 :: a5 :: a6 :: a7 :: a8 :: b0 :: b1 :: r) (.double x :: st) h z Q X := by
  subst hq
  refine Go.sto k (by simp) (fun hx hb hn hl k => lv_dstore (i := 9) hx hb hd hl (by rw [← hn]; simp) rfl (fun ls' hl' => k ls' (lv_fewer hl' (fun q hq => lvp_set2 (L := (a0 :: a1 :: a2 :: a3 :: a4 :: a5 :: a6 :: a7 :: a8 :: b0 :: b1 :: r)) (k := 9) hp q hq))))
theorem Go.dload_10 {a0 a1 a2 a3 a4 a5 a6 a7 a8 a9 : Option Value} {r : List (Option Value)} {x : UInt64} (hd : decode M.2.1 pc = .ok (.dload 10, 2)) (hq : pc + 2 = q) (k : Go Γ M d C S q (a0 :: a1 :: a2 :: a3 :: a4 :: a5 :: a6 :: a7 :: a8 :: a9 :: some (.double x) :: r) (.double x :: st) h z Q X) : Go Γ M d C S pc (a0 :: a1 :: a2 :: a3 :: a4 :: a5 :: a6 :: a7 :: a8 :: a9 :: some (.double x) :: r) st h z Q X := by
  subst hq
  exact Go.pure k (fun hx hb hl k => lv_dload hx hb hd (lvp_at hl (k := 10) rfl) k)
theorem Go.dstore_10 {a0 a1 a2 a3 a4 a5 a6 a7 a8 a9 b0 b1 : Option Value} {r : List (Option Value)} {x : UInt64} (hd : decode M.2.1 pc = .ok (.dstore 10, 2)) (hq : pc + 2 = q) (hp : l_c1 (a0 :: a1 :: a2 :: a3 :: a4 :: a5 :: a6 :: a7 :: a8 :: a9 :: b0 :: b1 :: r) 10 = true) (k : Go Γ M d C S q (a0 :: a1 :: a2 :: a3 :: a4 :: a5 :: a6 :: a7 :: a8 :: a9 :: some (.double x) :: none :: r) st h z Q X) : Go Γ M d C S pc (a0 :: a1 :: a2 :: a3 :: a4 :: a5 :: a6 :: a7 :: a8 :: a9 :: b0 :: b1 :: r) (.double x :: st) h z Q X := by
  subst hq
  refine Go.sto k (by simp) (fun hx hb hn hl k => lv_dstore (i := 10) hx hb hd hl (by rw [← hn]; simp) rfl (fun ls' hl' => k ls' (lv_fewer hl' (fun q hq => lvp_set2 (L := (a0 :: a1 :: a2 :: a3 :: a4 :: a5 :: a6 :: a7 :: a8 :: a9 :: b0 :: b1 :: r)) (k := 10) hp q hq))))
theorem Go.dload_11 {a0 a1 a2 a3 a4 a5 a6 a7 a8 a9 a10 : Option Value} {r : List (Option Value)} {x : UInt64} (hd : decode M.2.1 pc = .ok (.dload 11, 2)) (hq : pc + 2 = q) (k : Go Γ M d C S q (a0 :: a1 :: a2 :: a3 :: a4 :: a5 :: a6 :: a7 :: a8 :: a9 :: a10 :: some (.double x) :: r) (.double x :: st) h z Q X) : Go Γ M d C S pc (a0 :: a1 :: a2 :: a3 :: a4 :: a5 :: a6 :: a7 :: a8 :: a9 :: a10 :: some (.double x) :: r) st h z Q X := by
  subst hq
  exact Go.pure k (fun hx hb hl k => lv_dload hx hb hd (lvp_at hl (k := 11) rfl) k)
theorem Go.dstore_11 {a0 a1 a2 a3 a4 a5 a6 a7 a8 a9 a10 b0 b1 : Option Value} {r : List (Option Value)} {x : UInt64} (hd : decode M.2.1 pc = .ok (.dstore 11, 2)) (hq : pc + 2 = q) (hp : l_c1 (a0 :: a1 :: a2 :: a3 :: a4 :: a5 :: a6 :: a7 :: a8 :: a9 :: a10 :: b0 :: b1 :: r) 11 = true) (k : Go Γ M d C S q (a0 :: a1 :: a2 :: a3 :: a4 :: a5 :: a6 :: a7 :: a8 :: a9 :: a10 :: some (.double x) :: none :: r) st h z Q X) : Go Γ M d C S pc (a0 :: a1 :: a2 :: a3 :: a4 :: a5 :: a6 :: a7 :: a8 :: a9 :: a10 :: b0 :: b1 :: r) (.double x :: st) h z Q X := by
  subst hq
  refine Go.sto k (by simp) (fun hx hb hn hl k => lv_dstore (i := 11) hx hb hd hl (by rw [← hn]; simp) rfl (fun ls' hl' => k ls' (lv_fewer hl' (fun q hq => lvp_set2 (L := (a0 :: a1 :: a2 :: a3 :: a4 :: a5 :: a6 :: a7 :: a8 :: a9 :: a10 :: b0 :: b1 :: r)) (k := 11) hp q hq))))
theorem Go.dload_12 {a0 a1 a2 a3 a4 a5 a6 a7 a8 a9 a10 a11 : Option Value} {r : List (Option Value)} {x : UInt64} (hd : decode M.2.1 pc = .ok (.dload 12, 2)) (hq : pc + 2 = q) (k : Go Γ M d C S q (a0 :: a1 :: a2 :: a3 :: a4 :: a5 :: a6 :: a7 :: a8 :: a9 :: a10 :: a11 :: some (.double x) :: r) (.double x :: st) h z Q X) : Go Γ M d C S pc (a0 :: a1 :: a2 :: a3 :: a4 :: a5 :: a6 :: a7 :: a8 :: a9 :: a10 :: a11 :: some (.double x) :: r) st h z Q X := by
  subst hq
  exact Go.pure k (fun hx hb hl k => lv_dload hx hb hd (lvp_at hl (k := 12) rfl) k)
theorem Go.dstore_12 {a0 a1 a2 a3 a4 a5 a6 a7 a8 a9 a10 a11 b0 b1 : Option Value} {r : List (Option Value)} {x : UInt64} (hd : decode M.2.1 pc = .ok (.dstore 12, 2)) (hq : pc + 2 = q) (hp : l_c1 (a0 :: a1 :: a2 :: a3 :: a4 :: a5 :: a6 :: a7 :: a8 :: a9 :: a10 :: a11 :: b0 :: b1 :: r) 12 = true) (k : Go Γ M d C S q (a0 :: a1 :: a2 :: a3 :: a4 :: a5 :: a6 :: a7 :: a8 :: a9 :: a10 :: a11 :: some (.double x) :: none :: r) st h z Q X) : Go Γ M d C S pc (a0 :: a1 :: a2 :: a3 :: a4 :: a5 :: a6 :: a7 :: a8 :: a9 :: a10 :: a11 :: b0 :: b1 :: r) (.double x :: st) h z Q X := by
  subst hq
  refine Go.sto k (by simp) (fun hx hb hn hl k => lv_dstore (i := 12) hx hb hd hl (by rw [← hn]; simp) rfl (fun ls' hl' => k ls' (lv_fewer hl' (fun q hq => lvp_set2 (L := (a0 :: a1 :: a2 :: a3 :: a4 :: a5 :: a6 :: a7 :: a8 :: a9 :: a10 :: a11 :: b0 :: b1 :: r)) (k := 12) hp q hq))))
theorem Go.dload_13 {a0 a1 a2 a3 a4 a5 a6 a7 a8 a9 a10 a11 a12 : Option Value} {r : List (Option Value)} {x : UInt64} (hd : decode M.2.1 pc = .ok (.dload 13, 2)) (hq : pc + 2 = q) (k : Go Γ M d C S q (a0 :: a1 :: a2 :: a3 :: a4 :: a5 :: a6 :: a7 :: a8 :: a9 :: a10 :: a11 :: a12 :: some (.double x) :: r) (.double x :: st) h z Q X) : Go Γ M d C S pc (a0 :: a1 :: a2 :: a3 :: a4 :: a5 :: a6 :: a7 :: a8 :: a9 :: a10 :: a11 :: a12 :: some (.double x) :: r) st h z Q X := by
  subst hq
  exact Go.pure k (fun hx hb hl k => lv_dload hx hb hd (lvp_at hl (k := 13) rfl) k)
theorem Go.dstore_13 {a0 a1 a2 a3 a4 a5 a6 a7 a8 a9 a10 a11 a12 b0 b1 : Option Value} {r : List (Option Value)} {x : UInt64} (hd : decode M.2.1 pc = .ok (.dstore 13, 2)) (hq : pc + 2 = q) (hp : l_c1 (a0 :: a1 :: a2 :: a3 :: a4 :: a5 :: a6 :: a7 :: a8 :: a9 :: a10 :: a11 :: a12 :: b0 :: b1 :: r) 13 = true) (k : Go Γ M d C S q (a0 :: a1 :: a2 :: a3 :: a4 :: a5 :: a6 :: a7 :: a8 :: a9 :: a10 :: a11 :: a12 :: some (.double x) :: none :: r) st h z Q X) : Go Γ M d C S pc (a0 :: a1 :: a2 :: a3 :: a4 :: a5 :: a6 :: a7 :: a8 :: a9 :: a10 :: a11 :: a12 :: b0 :: b1 :: r) (.double x :: st) h z Q X := by
  subst hq
  refine Go.sto k (by simp) (fun hx hb hn hl k => lv_dstore (i := 13) hx hb hd hl (by rw [← hn]; simp) rfl (fun ls' hl' => k ls' (lv_fewer hl' (fun q hq => lvp_set2 (L := (a0 :: a1 :: a2 :: a3 :: a4 :: a5 :: a6 :: a7 :: a8 :: a9 :: a10 :: a11 :: a12 :: b0 :: b1 :: r)) (k := 13) hp q hq))))
theorem Go.dload_14 {a0 a1 a2 a3 a4 a5 a6 a7 a8 a9 a10 a11 a12 a13 : Option Value} {r : List (Option Value)} {x : UInt64} (hd : decode M.2.1 pc = .ok (.dload 14, 2)) (hq : pc + 2 = q) (k : Go Γ M d C S q (a0 :: a1 :: a2 :: a3 :: a4 :: a5 :: a6 :: a7 :: a8 :: a9 :: a10 :: a11 :: a12 :: a13 :: some (.double x) :: r) (.double x :: st) h z Q X) : Go Γ M d C S pc (a0 :: a1 :: a2 :: a3 :: a4 :: a5 :: a6 :: a7 :: a8 :: a9 :: a10 :: a11 :: a12 :: a13 :: some (.double x) :: r) st h z Q X := by
  subst hq
  exact Go.pure k (fun hx hb hl k => lv_dload hx hb hd (lvp_at hl (k := 14) rfl) k)
theorem Go.dstore_14 {a0 a1 a2 a3 a4 a5 a6 a7 a8 a9 a10 a11 a12 a13 b0 b1 : Option Value} {r : List (Option Value)} {x : UInt64} (hd : decode M.2.1 pc = .ok (.dstore 14, 2)) (hq : pc + 2 = q) (hp : l_c1 (a0 :: a1 :: a2 :: a3 :: a4 :: a5 :: a6 :: a7 :: a8 :: a9 :: a10 :: a11 :: a12 :: a13 :: b0 :: b1 :: r) 14 = true) (k : Go Γ M d C S q (a0 :: a1 :: a2 :: a3 :: a4 :: a5 :: a6 :: a7 :: a8 :: a9 :: a10 :: a11 :: a12 :: a13 :: some (.double x) :: none :: r) st h z Q X) : Go Γ M d C S pc (a0 :: a1 :: a2 :: a3 :: a4 :: a5 :: a6 :: a7 :: a8 :: a9 :: a10 :: a11 :: a12 :: a13 :: b0 :: b1 :: r) (.double x :: st) h z Q X := by
  subst hq
  refine Go.sto k (by simp) (fun hx hb hn hl k => lv_dstore (i := 14) hx hb hd hl (by rw [← hn]; simp) rfl (fun ls' hl' => k ls' (lv_fewer hl' (fun q hq => lvp_set2 (L := (a0 :: a1 :: a2 :: a3 :: a4 :: a5 :: a6 :: a7 :: a8 :: a9 :: a10 :: a11 :: a12 :: a13 :: b0 :: b1 :: r)) (k := 14) hp q hq))))
theorem Go.dload_15 {a0 a1 a2 a3 a4 a5 a6 a7 a8 a9 a10 a11 a12 a13 a14 : Option Value} {r : List (Option Value)} {x : UInt64} (hd : decode M.2.1 pc = .ok (.dload 15, 2)) (hq : pc + 2 = q) (k : Go Γ M d C S q (a0 :: a1 :: a2 :: a3 :: a4 :: a5 :: a6 :: a7 :: a8 :: a9 :: a10 :: a11 :: a12 :: a13 :: a14 :: some (.double x) :: r) (.double x :: st) h z Q X) : Go Γ M d C S pc (a0 :: a1 :: a2 :: a3 :: a4 :: a5 :: a6 :: a7 :: a8 :: a9 :: a10 :: a11 :: a12 :: a13 :: a14 :: some (.double x) :: r) st h z Q X := by
  subst hq
  exact Go.pure k (fun hx hb hl k => lv_dload hx hb hd (lvp_at hl (k := 15) rfl) k)
theorem Go.dstore_15 {a0 a1 a2 a3 a4 a5 a6 a7 a8 a9 a10 a11 a12 a13 a14 b0 b1 : Option Value} {r : List (Option Value)} {x : UInt64} (hd : decode M.2.1 pc = .ok (.dstore 15, 2)) (hq : pc + 2 = q) (hp : l_c1 (a0 :: a1 :: a2 :: a3 :: a4 :: a5 :: a6 :: a7 :: a8 :: a9 :: a10 :: a11 :: a12 :: a13 :: a14 :: b0 :: b1 :: r) 15 = true) (k : Go Γ M d C S q (a0 :: a1 :: a2 :: a3 :: a4 :: a5 :: a6 :: a7 :: a8 :: a9 :: a10 :: a11 :: a12 :: a13 :: a14 :: some (.double x) :: none :: r) st h z Q X) : Go Γ M d C S pc (a0 :: a1 :: a2 :: a3 :: a4 :: a5 :: a6 :: a7 :: a8 :: a9 :: a10 :: a11 :: a12 :: a13 :: a14 :: b0 :: b1 :: r) (.double x :: st) h z Q X := by
  subst hq
  refine Go.sto k (by simp) (fun hx hb hn hl k => lv_dstore (i := 15) hx hb hd hl (by rw [← hn]; simp) rfl (fun ls' hl' => k ls' (lv_fewer hl' (fun q hq => lvp_set2 (L := (a0 :: a1 :: a2 :: a3 :: a4 :: a5 :: a6 :: a7 :: a8 :: a9 :: a10 :: a11 :: a12 :: a13 :: a14 :: b0 :: b1 :: r)) (k := 15) hp q hq))))
theorem Go.dload_16 {a0 a1 a2 a3 a4 a5 a6 a7 a8 a9 a10 a11 a12 a13 a14 a15 : Option Value} {r : List (Option Value)} {x : UInt64} (hd : decode M.2.1 pc = .ok (.dload 16, 2)) (hq : pc + 2 = q) (k : Go Γ M d C S q (a0 :: a1 :: a2 :: a3 :: a4 :: a5 :: a6 :: a7 :: a8 :: a9 :: a10 :: a11 :: a12 :: a13 :: a14 :: a15 :: some (.double x) :: r) (.double x :: st) h z Q X) : Go Γ M d C S pc (a0 :: a1 :: a2 :: a3 :: a4 :: a5 :: a6 :: a7 :: a8 :: a9 :: a10 :: a11 :: a12 :: a13 :: a14 :: a15 :: some (.double x) :: r) st h z Q X := by
  subst hq
  exact Go.pure k (fun hx hb hl k => lv_dload hx hb hd (lvp_at hl (k := 16) rfl) k)
theorem Go.aload_0 {r : List (Option Value)} {x : Nat} (hd : decode M.2.1 pc = .ok (.aload_n 0, 1)) (hq : pc + 1 = q) (k : Go Γ M d C S q (some (.ref x) :: r) (.ref x :: st) h z Q X) : Go Γ M d C S pc (some (.ref x) :: r) st h z Q X := by
  subst hq
  exact Go.pure k (fun hx hb hl k => lv_aload_n hx hb hd rfl (lvp_at hl (k := 0) rfl) k)
theorem Go.astore_0 {b0 : Option Value} {r : List (Option Value)} {x : Nat} (hd : decode M.2.1 pc = .ok (.astore_n 0, 1)) (hq : pc + 1 = q)  (k : Go Γ M d C S q (some (.ref x) :: r) st h z Q X) : Go Γ M d C S pc (b0 :: r) (.ref x :: st) h z Q X := by
  subst hq
  refine Go.sto k (by simp) (fun hx hb hn hl k => lv_astore_n (i := 0) hx hb hd rfl hl (by rw [← hn]; simp) rfl (fun ls' hl' => k ls' (lv_fewer hl' (fun q hq => lvp_set1 (L := (b0 :: r)) (k := 0) rfl q hq))))
theorem Go.aload_1 {a0 : Option Value} {r : List (Option Value)} {x : Nat} (hd : decode M.2.1 pc = .ok (.aload_n 1, 1)) (hq : pc + 1 = q) (k : Go Γ M d C S q (a0 :: some (.ref x) :: r) (.ref x :: st) h z Q X) : Go Γ M d C S pc (a0 :: some (.ref x) :: r) st h z Q X := by
  subst hq
  exact Go.pure k (fun hx hb hl k => lv_aload_n hx hb hd rfl (lvp_at hl (k := 1) rfl) k)
theorem Go.astore_1 {a0 b0 : Option Value} {r : List (Option Value)} {x : Nat} (hd : decode M.2.1 pc = .ok (.astore_n 1, 1)) (hq : pc + 1 = q) (hp : l_c1 (a0 :: b0 :: r) 1 = true) (k : Go Γ M d C S q (a0 :: some (.ref x) :: r) st h z Q X) : Go Γ M d C S pc (a0 :: b0 :: r) (.ref x :: st) h z Q X := by
  subst hq
  refine Go.sto k (by simp) (fun hx hb hn hl k => lv_astore_n (i := 1) hx hb hd rfl hl (by rw [← hn]; simp) rfl (fun ls' hl' => k ls' (lv_fewer hl' (fun q hq => lvp_set1 (L := (a0 :: b0 :: r)) (k := 1) hp q hq))))
theorem Go.aload_2 {a0 a1 : Option Value} {r : List (Option Value)} {x : Nat} (hd : decode M.2.1 pc = .ok (.aload_n 2, 1)) (hq : pc + 1 = q) (k : Go Γ M d C S q (a0 :: a1 :: some (.ref x) :: r) (.ref x :: st) h z Q X) : Go Γ M d C S pc (a0 :: a1 :: some (.ref x) :: r) st h z Q X := by
  subst hq
  exact Go.pure k (fun hx hb hl k => lv_aload_n hx hb hd rfl (lvp_at hl (k := 2) rfl) k)
theorem Go.astore_2 {a0 a1 b0 : Option Value} {r : List (Option Value)} {x : Nat} (hd : decode M.2.1 pc = .ok (.astore_n 2, 1)) (hq : pc + 1 = q) (hp : l_c1 (a0 :: a1 :: b0 :: r) 2 = true) (k : Go Γ M d C S q (a0 :: a1 :: some (.ref x) :: r) st h z Q X) : Go Γ M d C S pc (a0 :: a1 :: b0 :: r) (.ref x :: st) h z Q X := by
  subst hq
  refine Go.sto k (by simp) (fun hx hb hn hl k => lv_astore_n (i := 2) hx hb hd rfl hl (by rw [← hn]; simp) rfl (fun ls' hl' => k ls' (lv_fewer hl' (fun q hq => lvp_set1 (L := (a0 :: a1 :: b0 :: r)) (k := 2) hp q hq))))
theorem Go.aload_3 {a0 a1 a2 : Option Value} {r : List (Option Value)} {x : Nat} (hd : decode M.2.1 pc = .ok (.aload_n 3, 1)) (hq : pc + 1 = q) (k : Go Γ M d C S q (a0 :: a1 :: a2 :: some (.ref x) :: r) (.ref x :: st) h z Q X) : Go Γ M d C S pc (a0 :: a1 :: a2 :: some (.ref x) :: r) st h z Q X := by
  subst hq
  exact Go.pure k (fun hx hb hl k => lv_aload_n hx hb hd rfl (lvp_at hl (k := 3) rfl) k)
theorem Go.astore_3 {a0 a1 a2 b0 : Option Value} {r : List (Option Value)} {x : Nat} (hd : decode M.2.1 pc = .ok (.astore_n 3, 1)) (hq : pc + 1 = q) (hp : l_c1 (a0 :: a1 :: a2 :: b0 :: r) 3 = true) (k : Go Γ M d C S q (a0 :: a1 :: a2 :: some (.ref x) :: r) st h z Q X) : Go Γ M d C S pc (a0 :: a1 :: a2 :: b0 :: r) (.ref x :: st) h z Q X := by
  subst hq
  refine Go.sto k (by simp) (fun hx hb hn hl k => lv_astore_n (i := 3) hx hb hd rfl hl (by rw [← hn]; simp) rfl (fun ls' hl' => k ls' (lv_fewer hl' (fun q hq => lvp_set1 (L := (a0 :: a1 :: a2 :: b0 :: r)) (k := 3) hp q hq))))
theorem Go.aload_4 {a0 a1 a2 a3 : Option Value} {r : List (Option Value)} {x : Nat} (hd : decode M.2.1 pc = .ok (.aload 4, 2)) (hq : pc + 2 = q) (k : Go Γ M d C S q (a0 :: a1 :: a2 :: a3 :: some (.ref x) :: r) (.ref x :: st) h z Q X) : Go Γ M d C S pc (a0 :: a1 :: a2 :: a3 :: some (.ref x) :: r) st h z Q X := by
  subst hq
  exact Go.pure k (fun hx hb hl k => lv_aload hx hb hd (lvp_at hl (k := 4) rfl) k)
theorem Go.astore_4 {a0 a1 a2 a3 b0 : Option Value} {r : List (Option Value)} {x : Nat} (hd : decode M.2.1 pc = .ok (.astore 4, 2)) (hq : pc + 2 = q) (hp : l_c1 (a0 :: a1 :: a2 :: a3 :: b0 :: r) 4 = true) (k : Go Γ M d C S q (a0 :: a1 :: a2 :: a3 :: some (.ref x) :: r) st h z Q X) : Go Γ M d C S pc (a0 :: a1 :: a2 :: a3 :: b0 :: r) (.ref x :: st) h z Q X := by
  subst hq
  refine Go.sto k (by simp) (fun hx hb hn hl k => lv_astore (i := 4) hx hb hd hl (by rw [← hn]; simp) rfl (fun ls' hl' => k ls' (lv_fewer hl' (fun q hq => lvp_set1 (L := (a0 :: a1 :: a2 :: a3 :: b0 :: r)) (k := 4) hp q hq))))
theorem Go.aload_5 {a0 a1 a2 a3 a4 : Option Value} {r : List (Option Value)} {x : Nat} (hd : decode M.2.1 pc = .ok (.aload 5, 2)) (hq : pc + 2 = q) (k : Go Γ M d C S q (a0 :: a1 :: a2 :: a3 :: a4 :: some (.ref x) :: r) (.ref x :: st) h z Q X) : Go Γ M d C S pc (a0 :: a1 :: a2 :: a3 :: a4 :: some (.ref x) :: r) st h z Q X := by
  subst hq
  exact Go.pure k (fun hx hb hl k => lv_aload hx hb hd (lvp_at hl (k := 5) rfl) k)
theorem Go.astore_5 {a0 a1 a2 a3 a4 b0 : Option Value} {r : List (Option Value)} {x : Nat} (hd : decode M.2.1 pc = .ok (.astore 5, 2)) (hq : pc + 2 = q) (hp : l_c1 (a0 :: a1 :: a2 :: a3 :: a4 :: b0 :: r) 5 = true) (k : Go Γ M d C S q (a0 :: a1 :: a2 :: a3 :: a4 :: some (.ref x) :: r) st h z Q X) : Go Γ M d C S pc (a0 :: a1 :: a2 :: a3 :: a4 :: b0 :: r) (.ref x :: st) h z Q X := by
  subst hq
  refine Go.sto k (by simp) (fun hx hb hn hl k => lv_astore (i := 5) hx hb hd hl (by rw [← hn]; simp) rfl (fun ls' hl' => k ls' (lv_fewer hl' (fun q hq => lvp_set1 (L := (a0 :: a1 :: a2 :: a3 :: a4 :: b0 :: r)) (k := 5) hp q hq))))
theorem Go.aload_6 {a0 a1 a2 a3 a4 a5 : Option Value} {r : List (Option Value)} {x : Nat} (hd : decode M.2.1 pc = .ok (.aload 6, 2)) (hq : pc + 2 = q) (k : Go Γ M d C S q (a0 :: a1 :: a2 :: a3 :: a4 :: a5 :: some (.ref x) :: r) (.ref x :: st) h z Q X) : Go Γ M d C S pc (a0 :: a1 :: a2 :: a3 :: a4 :: a5 :: some (.ref x) :: r) st h z Q X := by
  subst hq
  exact Go.pure k (fun hx hb hl k => lv_aload hx hb hd (lvp_at hl (k := 6) rfl) k)
theorem Go.astore_6 {a0 a1 a2 a3 a4 a5 b0 : Option Value} {r : List (Option Value)} {x : Nat} (hd : decode M.2.1 pc = .ok (.astore 6, 2)) (hq : pc + 2 = q) (hp : l_c1 (a0 :: a1 :: a2 :: a3 :: a4 :: a5 :: b0 :: r) 6 = true) (k : Go Γ M d C S q (a0 :: a1 :: a2 :: a3 :: a4 :: a5 :: some (.ref x) :: r) st h z Q X) : Go Γ M d C S pc (a0 :: a1 :: a2 :: a3 :: a4 :: a5 :: b0 :: r) (.ref x :: st) h z Q X := by
  subst hq
  refine Go.sto k (by simp) (fun hx hb hn hl k => lv_astore (i := 6) hx hb hd hl (by rw [← hn]; simp) rfl (fun ls' hl' => k ls' (lv_fewer hl' (fun q hq => lvp_set1 (L := (a0 :: a1 :: a2 :: a3 :: a4 :: a5 :: b0 :: r)) (k := 6) hp q hq))))
theorem Go.aload_7 {a0 a1 a2 a3 a4 a5 a6 : Option Value} {r : List (Option Value)} {x : Nat} (hd : decode M.2.1 pc = .ok (.aload 7, 2)) (hq : pc + 2 = q) (k : Go Γ M d C S q (a0 :: a1 :: a2 :: a3 :: a4 :: a5 :: a6 :: some (.ref x) :: r) (.ref x :: st) h z Q X) : Go Γ M d C S pc (a0 :: a1 :: a2 :: a3 :: a4 :: a5 :: a6 :: some (.ref x) :: r) st h z Q X := by
  subst hq
  exact Go.pure k (fun hx hb hl k => lv_aload hx hb hd (lvp_at hl (k := 7) rfl) k)
theorem Go.astore_7 {a0 a1 a2 a3 a4 a5 a6 b0 : Option Value} {r : List (Option Value)} {x : Nat} (hd : decode M.2.1 pc = .ok (.astore 7, 2)) (hq : pc + 2 = q) (hp : l_c1 (a0 :: a1 :: a2 :: a3 :: a4 :: a5 :: a6 :: b0 :: r) 7 = true) (k : Go Γ M d C S q (a0 :: a1 :: a2 :: a3 :: a4 :: a5 :: a6 :: some (.ref x) :: r) st h z Q X) : Go Γ M d C S pc (a0 :: a1 :: a2 :: a3 :: a4 :: a5 :: a6 :: b0 :: r) (.ref x :: st) h z Q X := by
  subst hq
  refine Go.sto k (by simp) (fun hx hb hn hl k => lv_astore (i := 7) hx hb hd hl (by rw [← hn]; simp) rfl (fun ls' hl' => k ls' (lv_fewer hl' (fun q hq => lvp_set1 (L := (a0 :: a1 :: a2 :: a3 :: a4 :: a5 :: a6 :: b0 :: r)) (k := 7) hp q hq))))
theorem Go.aload_8 {a0 a1 a2 a3 a4 a5 a6 a7 : Option Value} {r : List (Option Value)} {x : Nat} (hd : decode M.2.1 pc = .ok (.aload 8, 2)) (hq : pc + 2 = q) (k : Go Γ M d C S q (a0 :: a1 :: a2 :: a3 :: a4 :: a5 :: a6 :: a7 :: some (.ref x) :: r) (.ref x :: st) h z Q X) : Go Γ M d C S pc (a0 :: a1 :: a2 :: a3 :: a4 :: a5 :: a6 :: a7 :: some (.ref x) :: r) st h z Q X := by
  subst hq
  exact Go.pure k (fun hx hb hl k => lv_aload hx hb hd (lvp_at hl (k := 8) rfl) k)
theorem Go.astore_8 {a0 a1 a2 a3 a4 a5 a6 a7 b0 : Option Value} {r : List (Option Value)} {x : Nat} (hd : decode M.2.1 pc = .ok (.astore 8, 2)) (hq : pc + 2 = q) (hp : l_c1 (a0 :: a1 :: a2 :: a3 :: a4 :: a5 :: a6 :: a7 :: b0 :: r) 8 = true) (k : Go Γ M d C S q (a0 :: a1 :: a2 :: a3 :: a4 :: a5 :: a6 :: a7 :: some (.ref x) :: r) st h z Q X) : Go Γ M d C S pc (a0 :: a1 :: a2 :: a3 :: a4 :: a5 :: a6 :: a7 :: b0 :: r) (.ref x :: st) h z Q X := by
  subst hq
  refine Go.sto k (by simp) (fun hx hb hn hl k => lv_astore (i := 8) hx hb hd hl (by rw [← hn]; simp) rfl (fun ls' hl' => k ls' (lv_fewer hl' (fun q hq => lvp_set1 (L := (a0 :: a1 :: a2 :: a3 :: a4 :: a5 :: a6 :: a7 :: b0 :: r)) (k := 8) hp q hq))))
theorem Go.aload_9 {a0 a1 a2 a3 a4 a5 a6 a7 a8 : Option Value} {r : List (Option Value)} {x : Nat} (hd : decode M.2.1 pc = .ok (.aload 9, 2)) (hq : pc + 2 = q) (k : Go Γ M d C S q (a0 :: a1 :: a2 :: a3 :: a4 :: a5 :: a6 :: a7 :: a8 :: some (.ref x) :: r) (.ref x :: st) h z Q X) : Go Γ M d C S pc (a0 :: a1 :: a2 :: a3 :: a4 :: a5 :: a6 :: a7 :: a8 :: some (.ref x) :: r) st h z Q X := by
  subst hq
  exact Go.pure k (fun hx hb hl k => lv_aload hx hb hd (lvp_at hl (k := 9) rfl) k)
theorem Go.astore_9 {a0 a1 a2 a3 a4 a5 a6 a7 a8 b0 : Option Value} {r : List (Option Value)} {x : Nat} (hd : decode M.2.1 pc = .ok (.astore 9, 2)) (hq : pc + 2 = q) (hp : l_c1 (a0 :: a1 :: a2 :: a3 :: a4 :: a5 :: a6 :: a7 :: a8 :: b0 :: r) 9 = true) (k : Go Γ M d C S q (a0 :: a1 :: a2 :: a3 :: a4 :: a5 :: a6 :: a7 :: a8 :: some (.ref x) :: r) st h z Q X) : Go Γ M d C S pc (a0 :: a1 :: a2 :: a3 :: a4 :: a5 :: a6 :: a7 :: a8 :: b0 :: r) (.ref x :: st) h z Q X := by
  subst hq
  refine Go.sto k (by simp) (fun hx hb hn hl k => lv_astore (i := 9) hx hb hd hl (by rw [← hn]; simp) rfl (fun ls' hl' => k ls' (lv_fewer hl' (fun q hq => lvp_set1 (L := (a0 :: a1 :: a2 :: a3 :: a4 :: a5 :: a6 :: a7 :: a8 :: b0 :: r)) (k := 9) hp q hq))))
theorem Go.aload_10 {a0 a1 a2 a3 a4 a5 a6 a7 a8 a9 : Option Value} {r : List (Option Value)} {x : Nat} (hd : decode M.2.1 pc = .ok (.aload 10, 2)) (hq : pc + 2 = q) (k : Go Γ M d C S q (a0 :: a1 :: a2 :: a3 :: a4 :: a5 :: a6 :: a7 :: a8 :: a9 :: some (.ref x) :: r) (.ref x :: st) h z Q X) : Go Γ M d C S pc (a0 :: a1 :: a2 :: a3 :: a4 :: a5 :: a6 :: a7 :: a8 :: a9 :: some (.ref x) :: r) st h z Q X := by
  subst hq
  exact Go.pure k (fun hx hb hl k => lv_aload hx hb hd (lvp_at hl (k := 10) rfl) k)
theorem Go.astore_10 {a0 a1 a2 a3 a4 a5 a6 a7 a8 a9 b0 : Option Value} {r : List (Option Value)} {x : Nat} (hd : decode M.2.1 pc = .ok (.astore 10, 2)) (hq : pc + 2 = q) (hp : l_c1 (a0 :: a1 :: a2 :: a3 :: a4 :: a5 :: a6 :: a7 :: a8 :: a9 :: b0 :: r) 10 = true) (k : Go Γ M d C S q (a0 :: a1 :: a2 :: a3 :: a4 :: a5 :: a6 :: a7 :: a8 :: a9 :: some (.ref x) :: r) st h z Q X) : Go Γ M d C S pc (a0 :: a1 :: a2 :: a3 :: a4 :: a5 :: a6 :: a7 :: a8 :: a9 :: b0 :: r) (.ref x :: st) h z Q X := by
  subst hq
  refine Go.sto k (by simp) (fun hx hb hn hl k => lv_astore (i := 10) hx hb hd hl (by rw [← hn]; simp) rfl (fun ls' hl' => k ls' (lv_fewer hl' (fun q hq => lvp_set1 (L := (a0 :: a1 :: a2 :: a3 :: a4 :: a5 :: a6 :: a7 :: a8 :: a9 :: b0 :: r)) (k := 10) hp q hq))))
theorem Go.aload_11 {a0 a1 a2 a3 a4 a5 a6 a7 a8 a9 a10 : Option Value} {r : List (Option Value)} {x : Nat} (hd : decode M.2.1 pc = .ok (.aload 11, 2)) (hq : pc + 2 = q) (k : Go Γ M d C S q (a0 :: a1 :: a2 :: a3 :: a4 :: a5 :: a6 :: a7 :: a8 :: a9 :: a10 :: some (.ref x) :: r) (.ref x :: st) h z Q X) : Go Γ M d C S pc (a0 :: a1 :: a2 :: a3 :: a4 :: a5 :: a6 :: a7 :: a8 :: a9 :: a10 :: some (.ref x) :: r) st h z Q X := by
  subst hq
  exact Go.pure k (fun hx hb hl k => lv_aload hx hb hd (lvp_at hl (k := 11) rfl) k)
theorem Go.astore_11 {a0 a1 a2 a3 a4 a5 a6 a7 a8 a9 a10 b0 : Option Value} {r : List (Option Value)} {x : Nat} (hd : decode M.2.1 pc = .ok (.astore 11, 2)) (hq : pc + 2 = q) (hp : l_c1 (a0 :: a1 :: a2 :: a3 :: a4 :: a5 :: a6 :: a7 :: a8 :: a9 :: a10 :: b0 :: r) 11 = true) (k : Go Γ M d C S q (a0 :: a1 :: a2 :: a3 :: a4 :: a5 :: a6 :: a7 :: a8 :: a9 :: a10 :: some (.ref x) :: r) st h z Q X) : Go Γ M d C S pc (a0 :: a1 :: a2 :: a3 :: a4 :: a5 :: a6 :: a7 :: a8 :: a9 :: a10 :: b0 :: r) (.ref x :: st) h z Q X := by
  subst hq
  refine Go.sto k (by simp) (fun hx hb hn hl k => lv_astore (i := 11) hx hb hd hl (by rw [← hn]; simp) rfl (fun ls' hl' => k ls' (lv_fewer hl' (fun q hq => lvp_set1 (L := (a0 :: a1 :: a2 :: a3 :: a4 :: a5 :: a6 :: a7 :: a8 :: a9 :: a10 :: b0 :: r)) (k := 11) hp q hq))))
theorem Go.aload_12 {a0 a1 a2 a3 a4 a5 a6 a7 a8 a9 a10 a11 : Option Value} {r : List (Option Value)} {x : Nat} (hd : decode M.2.1 pc = .ok (.aload 12, 2)) (hq : pc + 2 = q) (k : Go Γ M d C S q (a0 :: a1 :: a2 :: a3 :: a4 :: a5 :: a6 :: a7 :: a8 :: a9 :: a10 :: a11 :: some (.ref x) :: r) (.ref x :: st) h z Q X) : Go Γ M d C S pc (a0 :: a1 :: a2 :: a3 :: a4 :: a5 :: a6 :: a7 :: a8 :: a9 :: a10 :: a11 :: some (.ref x) :: r) st h z Q X := by
  subst hq
  exact Go.pure k (fun hx hb hl k => lv_aload hx hb hd (lvp_at hl (k := 12) rfl) k)
theorem Go.astore_12 {a0 a1 a2 a3 a4 a5 a6 a7 a8 a9 a10 a11 b0 : Option Value} {r : List (Option Value)} {x : Nat} (hd : decode M.2.1 pc = .ok (.astore 12, 2)) (hq : pc + 2 = q) (hp : l_c1 (a0 :: a1 :: a2 :: a3 :: a4 :: a5 :: a6 :: a7 :: a8 :: a9 :: a10 :: a11 :: b0 :: r) 12 = true) (k : Go Γ M d C S q (a0 :: a1 :: a2 :: a3 :: a4 :: a5 :: a6 :: a7 :: a8 :: a9 :: a10 :: a11 :: some (.ref x) :: r) st h z Q X) : Go Γ M d C S pc (a0 :: a1 :: a2 :: a3 :: a4 :: a5 :: a6 :: a7 :: a8 :: a9 :: a10 :: a11 :: b0 :: r) (.ref x :: st) h z Q X := by
  subst hq
  refine Go.sto k (by simp) (fun hx hb hn hl k => lv_astore (i := 12) hx hb hd hl (by rw [← hn]; simp) rfl (fun ls' hl' => k ls' (lv_fewer hl' (fun q hq => lvp_set1 (L := (a0 :: a1 :: a2 :: a3 :: a4 :: a5 :: a6 :: a7 :: a8 :: a9 :: a10 :: a11 :: b0 :: r)) (k := 12) hp q hq))))
theorem Go.aload_13 {a0 a1 a2 a3 a4 a5 a6 a7 a8 a9 a10 a11 a12 : Option Value} {r : List (Option Value)} {x : Nat} (hd : decode M.2.1 pc = .ok (.aload 13, 2)) (hq : pc + 2 = q) (k : Go Γ M d C S q (a0 :: a1 :: a2 :: a3 :: a4 :: a5 :: a6 :: a7 :: a8 :: a9 :: a10 :: a11 :: a12 :: some (.ref x) :: r) (.ref x :: st) h z Q X) : Go Γ M d C S pc (a0 :: a1 :: a2 :: a3 :: a4 :: a5 :: a6 :: a7 :: a8 :: a9 :: a10 :: a11 :: a12 :: some (.ref x) :: r) st h z Q X := by
  subst hq
  exact Go.pure k (fun hx hb hl k => lv_aload hx hb hd (lvp_at hl (k := 13) rfl) k)
theorem Go.astore_13 {a0 a1 a2 a3 a4 a5 a6 a7 a8 a9 a10 a11 a12 b0 : Option Value} {r : List (Option Value)} {x : Nat} (hd : decode M.2.1 pc = .ok (.astore 13, 2)) (hq : pc + 2 = q) (hp : l_c1 (a0 :: a1 :: a2 :: a3 :: a4 :: a5 :: a6 :: a7 :: a8 :: a9 :: a10 :: a11 :: a12 :: b0 :: r) 13 = true) (k : Go Γ M d C S q (a0 :: a1 :: a2 :: a3 :: a4 :: a5 :: a6 :: a7 :: a8 :: a9 :: a10 :: a11 :: a12 :: some (.ref x) :: r) st h z Q X) : Go Γ M d C S pc (a0 :: a1 :: a2 :: a3 :: a4 :: a5 :: a6 :: a7 :: a8 :: a9 :: a10 :: a11 :: a12 :: b0 :: r) (.ref x :: st) h z Q X := by
  subst hq
  refine Go.sto k (by simp) (fun hx hb hn hl k => lv_astore (i := 13) hx hb hd hl (by rw [← hn]; simp) rfl (fun ls' hl' => k ls' (lv_fewer hl' (fun q hq => lvp_set1 (L := (a0 :: a1 :: a2 :: a3 :: a4 :: a5 :: a6 :: a7 :: a8 :: a9 :: a10 :: a11 :: a12 :: b0 :: r)) (k := 13) hp q hq))))
theorem Go.aload_14 {a0 a1 a2 a3 a4 a5 a6 a7 a8 a9 a10 a11 a12 a13 : Option Value} {r : List (Option Value)} {x : Nat} (hd : decode M.2.1 pc = .ok (.aload 14, 2)) (hq : pc + 2 = q) (k : Go Γ M d C S q (a0 :: a1 :: a2 :: a3 :: a4 :: a5 :: a6 :: a7 :: a8 :: a9 :: a10 :: a11 :: a12 :: a13 :: some (.ref x) :: r) (.ref x :: st) h z Q X) : Go Γ M d C S pc (a0 :: a1 :: a2 :: a3 :: a4 :: a5 :: a6 :: a7 :: a8 :: a9 :: a10 :: a11 :: a12 :: a13 :: some (.ref x) :: r) st h z Q X := by
  subst hq
  exact Go.pure k (fun hx hb hl k => lv_aload hx hb hd (lvp_at hl (k := 14) rfl) k)
theorem Go.astore_14 {a0 a1 a2 a3 a4 a5 a6 a7 a8 a9 a10 a11 a12 a13 b0 : Option Value} {r : List (Option Value)} {x : Nat} (hd : decode M.2.1 pc = .ok (.astore 14, 2)) (hq : pc + 2 = q) (hp : l_c1 (a0 :: a1 :: a2 :: a3 :: a4 :: a5 :: a6 :: a7 :: a8 :: a9 :: a10 :: a11 :: a12 :: a13 :: b0 :: r) 14 = true) (k : Go Γ M d C S q (a0 :: a1 :: a2 :: a3 :: a4 :: a5 :: a6 :: a7 :: a8 :: a9 :: a10 :: a11 :: a12 :: a13 :: some (.ref x) :: r) st h z Q X) : Go Γ M d C S pc (a0 :: a1 :: a2 :: a3 :: a4 :: a5 :: a6 :: a7 :: a8 :: a9 :: a10 :: a11 :: a12 :: a13 :: b0 :: r) (.ref x :: st) h z Q X := by
  subst hq
  refine Go.sto k (by simp) (fun hx hb hn hl k => lv_astore (i := 14) hx hb hd hl (by rw [← hn]; simp) rfl (fun ls' hl' => k ls' (lv_fewer hl' (fun q hq => lvp_set1 (L := (a0 :: a1 :: a2 :: a3 :: a4 :: a5 :: a6 :: a7 :: a8 :: a9 :: a10 :: a11 :: a12 :: a13 :: b0 :: r)) (k := 14) hp q hq))))
theorem Go.aload_15 {a0 a1 a2 a3 a4 a5 a6 a7 a8 a9 a10 a11 a12 a13 a14 : Option Value} {r : List (Option Value)} {x : Nat} (hd : decode M.2.1 pc = .ok (.aload 15, 2)) (hq : pc + 2 = q) (k : Go Γ M d C S q (a0 :: a1 :: a2 :: a3 :: a4 :: a5 :: a6 :: a7 :: a8 :: a9 :: a10 :: a11 :: a12 :: a13 :: a14 :: some (.ref x) :: r) (.ref x :: st) h z Q X) : Go Γ M d C S pc (a0 :: a1 :: a2 :: a3 :: a4 :: a5 :: a6 :: a7 :: a8 :: a9 :: a10 :: a11 :: a12 :: a13 :: a14 :: some (.ref x) :: r) st h z Q X := by
  subst hq
  exact Go.pure k (fun hx hb hl k => lv_aload hx hb hd (lvp_at hl (k := 15) rfl) k)
theorem Go.astore_15 {a0 a1 a2 a3 a4 a5 a6 a7 a8 a9 a10 a11 a12 a13 a14 b0 : Option Value} {r : List (Option Value)} {x : Nat} (hd : decode M.2.1 pc = .ok (.astore 15, 2)) (hq : pc + 2 = q) (hp : l_c1 (a0 :: a1 :: a2 :: a3 :: a4 :: a5 :: a6 :: a7 :: a8 :: a9 :: a10 :: a11 :: a12 :: a13 :: a14 :: b0 :: r) 15 = true) (k : Go Γ M d C S q (a0 :: a1 :: a2 :: a3 :: a4 :: a5 :: a6 :: a7 :: a8 :: a9 :: a10 :: a11 :: a12 :: a13 :: a14 :: some (.ref x) :: r) st h z Q X) : Go Γ M d C S pc (a0 :: a1 :: a2 :: a3 :: a4 :: a5 :: a6 :: a7 :: a8 :: a9 :: a10 :: a11 :: a12 :: a13 :: a14 :: b0 :: r) (.ref x :: st) h z Q X := by
  subst hq
  refine Go.sto k (by simp) (fun hx hb hn hl k => lv_astore (i := 15) hx hb hd hl (by rw [← hn]; simp) rfl (fun ls' hl' => k ls' (lv_fewer hl' (fun q hq => lvp_set1 (L := (a0 :: a1 :: a2 :: a3 :: a4 :: a5 :: a6 :: a7 :: a8 :: a9 :: a10 :: a11 :: a12 :: a13 :: a14 :: b0 :: r)) (k := 15) hp q hq))))
theorem Go.aload_16 {a0 a1 a2 a3 a4 a5 a6 a7 a8 a9 a10 a11 a12 a13 a14 a15 : Option Value} {r : List (Option Value)} {x : Nat} (hd : decode M.2.1 pc = .ok (.aload 16, 2)) (hq : pc + 2 = q) (k : Go Γ M d C S q (a0 :: a1 :: a2 :: a3 :: a4 :: a5 :: a6 :: a7 :: a8 :: a9 :: a10 :: a11 :: a12 :: a13 :: a14 :: a15 :: some (.ref x) :: r) (.ref x :: st) h z Q X) : Go Γ M d C S pc (a0 :: a1 :: a2 :: a3 :: a4 :: a5 :: a6 :: a7 :: a8 :: a9 :: a10 :: a11 :: a12 :: a13 :: a14 :: a15 :: some (.ref x) :: r) st h z Q X := by
  subst hq
  exact Go.pure k (fun hx hb hl k => lv_aload hx hb hd (lvp_at hl (k := 16) rfl) k)
theorem Go.astore_16 {a0 a1 a2 a3 a4 a5 a6 a7 a8 a9 a10 a11 a12 a13 a14 a15 b0 : Option Value} {r : List (Option Value)} {x : Nat} (hd : decode M.2.1 pc = .ok (.astore 16, 2)) (hq : pc + 2 = q) (hp : l_c1 (a0 :: a1 :: a2 :: a3 :: a4 :: a5 :: a6 :: a7 :: a8 :: a9 :: a10 :: a11 :: a12 :: a13 :: a14 :: a15 :: b0 :: r) 16 = true) (k : Go Γ M d C S q (a0 :: a1 :: a2 :: a3 :: a4 :: a5 :: a6 :: a7 :: a8 :: a9 :: a10 :: a11 :: a12 :: a13 :: a14 :: a15 :: some (.ref x) :: r) st h z Q X) : Go Γ M d C S pc (a0 :: a1 :: a2 :: a3 :: a4 :: a5 :: a6 :: a7 :: a8 :: a9 :: a10 :: a11 :: a12 :: a13 :: a14 :: a15 :: b0 :: r) (.ref x :: st) h z Q X := by
  subst hq
  refine Go.sto k (by simp) (fun hx hb hn hl k => lv_astore (i := 16) hx hb hd hl (by rw [← hn]; simp) rfl (fun ls' hl' => k ls' (lv_fewer hl' (fun q hq => lvp_set1 (L := (a0 :: a1 :: a2 :: a3 :: a4 :: a5 :: a6 :: a7 :: a8 :: a9 :: a10 :: a11 :: a12 :: a13 :: a14 :: a15 :: b0 :: r)) (k := 16) hp q hq))))
theorem Go.aloadN_0 {r : List (Option Value)} (hd : decode M.2.1 pc = .ok (.aload_n 0, 1)) (hq : pc + 1 = q) (k : Go Γ M d C S q (some .null :: r) (.null :: st) h z Q X) : Go Γ M d C S pc (some .null :: r) st h z Q X := by
  subst hq
  exact Go.pure k (fun hx hb hl k => lv_aload_nN hx hb hd rfl (lvp_at hl (k := 0) rfl) k)
theorem Go.astoreN_0 {b0 : Option Value} {r : List (Option Value)} (hd : decode M.2.1 pc = .ok (.astore_n 0, 1)) (hq : pc + 1 = q)  (k : Go Γ M d C S q (some .null :: r) st h z Q X) : Go Γ M d C S pc (b0 :: r) (.null :: st) h z Q X := by
  subst hq
  refine Go.sto k (by simp) (fun hx hb hn hl k => lv_astore_nN (i := 0) hx hb hd rfl hl (by rw [← hn]; simp) rfl (fun ls' hl' => k ls' (lv_fewer hl' (fun q hq => lvp_set1 (L := (b0 :: r)) (k := 0) rfl q hq))))
theorem Go.aloadN_1 {a0 : Option Value} {r : List (Option Value)} (hd : decode M.2.1 pc = .ok (.aload_n 1, 1)) (hq : pc + 1 = q) (k : Go Γ M d C S q (a0 :: some .null :: r) (.null :: st) h z Q X) : Go Γ M d C S pc (a0 :: some .null :: r) st h z Q X := by
  subst hq
  exact Go.pure k (fun hx hb hl k => lv_aload_nN hx hb hd rfl (lvp_at hl (k := 1) rfl) k)
theorem Go.astoreN_1 {a0 b0 : Option Value} {r : List (Option Value)} (hd : decode M.2.1 pc = .ok (.astore_n 1, 1)) (hq : pc + 1 = q) (hp : l_c1 (a0 :: b0 :: r) 1 = true) (k : Go Γ M d C S q (a0 :: some .null :: r) st h z Q X) : Go Γ M d C S pc (a0 :: b0 :: r) (.null :: st) h z Q X := by
  subst hq
  refine Go.sto k (by simp) (fun hx hb hn hl k => lv_astore_nN (i := 1) hx hb hd rfl hl (by rw [← hn]; simp) rfl (fun ls' hl' => k ls' (lv_fewer hl' (fun q hq => lvp_set1 (L := (a0 :: b0 :: r)) (k := 1) hp q hq))))
theorem Go.aloadN_2 {a0 a1 : Option Value} {r : List (Option Value)} (hd : decode M.2.1 pc = .ok (.aload_n 2, 1)) (hq : pc + 1 = q) (k : Go Γ M d C S q (a0 :: a1 :: some .null :: r) (.null :: st) h z Q X) : Go Γ M d C S pc (a0 :: a1 :: some .null :: r) st h z Q X := by
  subst hq
  exact Go.pure k (fun hx hb hl k => lv_aload_nN hx hb hd rfl (lvp_at hl (k := 2) rfl) k)
theorem Go.astoreN_2 {a0 a1 b0 : Option Value} {r : List (Option Value)} (hd : decode M.2.1 pc = .ok (.astore_n 2, 1)) (hq : pc + 1 = q) (hp : l_c1 (a0 :: a1 :: b0 :: r) 2 = true) (k : Go Γ M d C S q (a0 :: a1 :: some .null :: r) st h z Q X) : Go Γ M d C S pc (a0 :: a1 :: b0 :: r) (.null :: st) h z Q X := by
  subst hq
  refine Go.sto k (by simp) (fun hx hb hn hl k => lv_astore_nN (i := 2) hx hb hd rfl hl (by rw [← hn]; simp) rfl (fun ls' hl' => k ls' (lv_fewer hl' (fun q hq => lvp_set1 (L := (a0 :: a1 :: b0 :: r)) (k := 2) hp q hq))))
theorem Go.aloadN_3 {a0 a1 a2 : Option Value} {r : List (Option Value)} (hd : decode M.2.1 pc = .ok (.aload_n 3, 1)) (hq : pc + 1 = q) (k : Go Γ M d C S q (a0 :: a1 :: a2 :: some .null :: r) (.null :: st) h z Q X) : Go Γ M d C S pc (a0 :: a1 :: a2 :: some .null :: r) st h z Q X := by
  subst hq
  exact Go.pure k (fun hx hb hl k => lv_aload_nN hx hb hd rfl (lvp_at hl (k := 3) rfl) k)
theorem Go.astoreN_3 {a0 a1 a2 b0 : Option Value} {r : List (Option Value)} (hd : decode M.2.1 pc = .ok (.astore_n 3, 1)) (hq : pc + 1 = q) (hp : l_c1 (a0 :: a1 :: a2 :: b0 :: r) 3 = true) (k : Go Γ M d C S q (a0 :: a1 :: a2 :: some .null :: r) st h z Q X) : Go Γ M d C S pc (a0 :: a1 :: a2 :: b0 :: r) (.null :: st) h z Q X := by
  subst hq
  refine Go.sto k (by simp) (fun hx hb hn hl k => lv_astore_nN (i := 3) hx hb hd rfl hl (by rw [← hn]; simp) rfl (fun ls' hl' => k ls' (lv_fewer hl' (fun q hq => lvp_set1 (L := (a0 :: a1 :: a2 :: b0 :: r)) (k := 3) hp q hq))))
theorem Go.aloadN_4 {a0 a1 a2 a3 : Option Value} {r : List (Option Value)} (hd : decode M.2.1 pc = .ok (.aload 4, 2)) (hq : pc + 2 = q) (k : Go Γ M d C S q (a0 :: a1 :: a2 :: a3 :: some .null :: r) (.null :: st) h z Q X) : Go Γ M d C S pc (a0 :: a1 :: a2 :: a3 :: some .null :: r) st h z Q X := by
  subst hq
  exact Go.pure k (fun hx hb hl k => lv_aloadN hx hb hd (lvp_at hl (k := 4) rfl) k)
theorem Go.astoreN_4 {a0 a1 a2 a3 b0 : Option Value} {r : List (Option Value)} (hd : decode M.2.1 pc = .ok (.astore 4, 2)) (hq : pc + 2 = q) (hp : l_c1 (a0 :: a1 :: a2 :: a3 :: b0 :: r) 4 = true) (k : Go Γ M d C S q (a0 :: a1 :: a2 :: a3 :: some .null :: r) st h z Q X) : Go Γ M d C S pc (a0 :: a1 :: a2 :: a3 :: b0 :: r) (.null :: st) h z Q X := by
  subst hq
  refine Go.sto k (by simp) (fun hx hb hn hl k => lv_astoreN (i := 4) hx hb hd hl (by rw [← hn]; simp) rfl (fun ls' hl' => k ls' (lv_fewer hl' (fun q hq => lvp_set1 (L := (a0 :: a1 :: a2 :: a3 :: b0 :: r)) (k := 4) hp q hq))))
theorem Go.aloadN_5 {a0 a1 a2 a3 a4 : Option Value} {r : List (Option Value)} (hd : decode M.2.1 pc = .ok (.aload 5, 2)) (hq : pc + 2 = q) (k : Go Γ M d C S q (a0 :: a1 :: a2 :: a3 :: a4 :: some .null :: r) (.null :: st) h z Q X) : Go Γ M d C S pc (a0 :: a1 :: a2 :: a3 :: a4 :: some .null :: r) st h z Q X := by
  subst hq
  exact Go.pure k (fun hx hb hl k => lv_aloadN hx hb hd (lvp_at hl (k := 5) rfl) k)
theorem Go.astoreN_5 {a0 a1 a2 a3 a4 b0 : Option Value} {r : List (Option Value)} (hd : decode M.2.1 pc = .ok (.astore 5, 2)) (hq : pc + 2 = q) (hp : l_c1 (a0 :: a1 :: a2 :: a3 :: a4 :: b0 :: r) 5 = true) (k : Go Γ M d C S q (a0 :: a1 :: a2 :: a3 :: a4 :: some .null :: r) st h z Q X) : Go Γ M d C S pc (a0 :: a1 :: a2 :: a3 :: a4 :: b0 :: r) (.null :: st) h z Q X := by
  subst hq
  refine Go.sto k (by simp) (fun hx hb hn hl k => lv_astoreN (i := 5) hx hb hd hl (by rw [← hn]; simp) rfl (fun ls' hl' => k ls' (lv_fewer hl' (fun q hq => lvp_set1 (L := (a0 :: a1 :: a2 :: a3 :: a4 :: b0 :: r)) (k := 5) hp q hq))))
theorem Go.aloadN_6 {a0 a1 a2 a3 a4 a5 : Option Value} {r : List (Option Value)} (hd : decode M.2.1 pc = .ok (.aload 6, 2)) (hq : pc + 2 = q) (k : Go Γ M d C S q (a0 :: a1 :: a2 :: a3 :: a4 :: a5 :: some .null :: r) (.null :: st) h z Q X) : Go Γ M d C S pc (a0 :: a1 :: a2 :: a3 :: a4 :: a5 :: some .null :: r) st h z Q X := by
  subst hq
  exact Go.pure k (fun hx hb hl k => lv_aloadN hx hb hd (lvp_at hl (k := 6) rfl) k)
theorem Go.astoreN_6 {a0 a1 a2 a3 a4 a5 b0 : Option Value} {r : List (Option Value)} (hd : decode M.2.1 pc = .ok (.astore 6, 2)) (hq : pc + 2 = q) (hp : l_c1 (a0 :: a1 :: a2 :: a3 :: a4 :: a5 :: b0 :: r) 6 = true) (k : Go Γ M d C S q (a0 :: a1 :: a2 :: a3 :: a4 :: a5 :: some .null :: r) st h z Q X) : Go Γ M d C S pc (a0 :: a1 :: a2 :: a3 :: a4 :: a5 :: b0 :: r) (.null :: st) h z Q X := by
  subst hq
  refine Go.sto k (by simp) (fun hx hb hn hl k => lv_astoreN (i := 6) hx hb hd hl (by rw [← hn]; simp) rfl (fun ls' hl' => k ls' (lv_fewer hl' (fun q hq => lvp_set1 (L := (a0 :: a1 :: a2 :: a3 :: a4 :: a5 :: b0 :: r)) (k := 6) hp q hq))))
theorem Go.aloadN_7 {a0 a1 a2 a3 a4 a5 a6 : Option Value} {r : List (Option Value)} (hd : decode M.2.1 pc = .ok (.aload 7, 2)) (hq : pc + 2 = q) (k : Go Γ M d C S q (a0 :: a1 :: a2 :: a3 :: a4 :: a5 :: a6 :: some .null :: r) (.null :: st) h z Q X) : Go Γ M d C S pc (a0 :: a1 :: a2 :: a3 :: a4 :: a5 :: a6 :: some .null :: r) st h z Q X := by
  subst hq
  exact Go.pure k (fun hx hb hl k => lv_aloadN hx hb hd (lvp_at hl (k := 7) rfl) k)
theorem Go.astoreN_7 {a0 a1 a2 a3 a4 a5 a6 b0 : Option Value} {r : List (Option Value)} (hd : decode M.2.1 pc = .ok (.astore 7, 2)) (hq : pc + 2 = q) (hp : l_c1 (a0 :: a1 :: a2 :: a3 :: a4 :: a5 :: a6 :: b0 :: r) 7 = true) (k : Go Γ M d C S q (a0 :: a1 :: a2 :: a3 :: a4 :: a5 :: a6 :: some .null :: r) st h z Q X) : Go Γ M d C S pc (a0 :: a1 :: a2 :: a3 :: a4 :: a5 :: a6 :: b0 :: r) (.null :: st) h z Q X := by
  subst hq
  refine Go.sto k (by simp) (fun hx hb hn hl k => lv_astoreN (i := 7) hx hb hd hl (by rw [← hn]; simp) rfl (fun ls' hl' => k ls' (lv_fewer hl' (fun q hq => lvp_set1 (L := (a0 :: a1 :: a2 :: a3 :: a4 :: a5 :: a6 :: b0 :: r)) (k := 7) hp q hq))))
theorem Go.aloadN_8 {a0 a1 a2 a3 a4 a5 a6 a7 : Option Value} {r : List (Option Value)} (hd : decode M.2.1 pc = .ok (.aload 8, 2)) (hq : pc + 2 = q) (k : Go Γ M d C S q (a0 :: a1 :: a2 :: a3 :: a4 :: a5 :: a6 :: a7 :: some .null :: r) (.null :: st) h z Q X) : Go Γ M d C S pc (a0 :: a1 :: a2 :: a3 :: a4 :: a5 :: a6 :: a7 :: some .null :: r) st h z Q X := by
  subst hq
  exact Go.pure k (fun hx hb hl k => lv_aloadN hx hb hd (lvp_at hl (k := 8) rfl) k)
theorem Go.astoreN_8 {a0 a1 a2 a3 a4 a5 a6 a7 b0 : Option Value} {r : List (Option Value)} (hd : decode M.2.1 pc = .ok (.astore 8, 2)) (hq : pc + 2 = q) (hp : l_c1 (a0 :: a1 :: a2 :: a3 :: a4 :: a5 :: a6 :: a7 :: b0 :: r) 8 = true) (k : Go Γ M d C S q (a0 :: a1 :: a2 :: a3 :: a4 :: a5 :: a6 :: a7 :: some .null :: r) st h z Q X) : Go Γ M d C S pc (a0 :: a1 :: a2 :: a3 :: a4 :: a5 :: a6 :: a7 :: b0 :: r) (.null :: st) h z Q X := by
  subst hq
  refine Go.sto k (by simp) (fun hx hb hn hl k => lv_astoreN (i := 8) hx hb hd hl (by rw [← hn]; simp) rfl (fun ls' hl' => k ls' (lv_fewer hl' (fun q hq => lvp_set1 (L := (a0 :: a1 :: a2 :: a3 :: a4 :: a5 :: a6 :: a7 :: b0 :: r)) (k := 8) hp q hq))))
theorem Go.aloadN_9 {a0 a1 a2 a3 a4 a5 a6 a7 a8 : Option Value} {r : List (Option Value)} (hd : decode M.2.1 pc = .ok (.aload 9, 2)) (hq : pc + 2 = q) (k : Go Γ M d C S q (a0 :: a1 :: a2 :: a3 :: a4 :: a5 :: a6 :: a7 :: a8 :: some .null :: r) (.null :: st) h z Q X) : Go Γ M d C S pc (a0 :: a1 :: a2 :: a3 :: a4 :: a5 :: a6 :: a7 :: a8 :: some .null :: r) st h z Q X := by
  subst hq
  exact Go.pure k (fun hx hb hl k => lv_aloadN hx hb hd (lvp_at hl (k := 9) rfl) k)
theorem Go.astoreN_9 {a0 a1 a2 a3 a4 a5 a6 a7 a8 b0 : Option Value} {r : List (Option Value)} (hd : decode M.2.1 pc = .ok (.astore 9, 2)) (hq : pc + 2 = q) (hp : l_c1 (a0 :: a1 :: a2 :: a3 :: a4 :: a5 :: a6 :: a7 :: a8 :: b0 :: r) 9 = true) (k : Go Γ M d C S q (a0 :: a1 :: a2 :: a3 :: a4 :: a5 :: a6 :: a7 :: a8 :: some .null :: r) st h z Q X) : Go Γ M d C S pc (a0 :: a1 :: a2 :: a3 :: a4 :: a5 :: a6 :: a7 :: a8 :: b0 :: r) (.null :: st) h z Q X := by
  subst hq
  refine Go.sto k (by simp) (fun hx hb hn hl k => lv_astoreN (i := 9) hx hb hd hl (by rw [← hn]; simp) rfl (fun ls' hl' => k ls' (lv_fewer hl' (fun q hq => lvp_set1 (L := (a0 :: a1 :: a2 :: a3 :: a4 :: a5 :: a6 :: a7 :: a8 :: b0 :: r)) (k := 9) hp q hq))))
theorem Go.aloadN_10 {a0 a1 a2 a3 a4 a5 a6 a7 a8 a9 : Option Value} {r : List (Option Value)} (hd : decode M.2.1 pc = .ok (.aload 10, 2)) (hq : pc + 2 = q) (k : Go Γ M d C S q (a0 :: a1 :: a2 :: a3 :: a4 :: a5 :: a6 :: a7 :: a8 :: a9 :: some .null :: r) (.null :: st) h z Q X) : Go Γ M d C S pc (a0 :: a1 :: a2 :: a3 :: a4 :: a5 :: a6 :: a7 :: a8 :: a9 :: some .null :: r) st h z Q X := by
  subst hq
  exact Go.pure k (fun hx hb hl k => lv_aloadN hx hb hd (lvp_at hl (k := 10) rfl) k)
theorem Go.astoreN_10 {a0 a1 a2 a3 a4 a5 a6 a7 a8 a9 b0 : Option Value} {r : List (Option Value)} (hd : decode M.2.1 pc = .ok (.astore 10, 2)) (hq : pc + 2 = q) (hp : l_c1 (a0 :: a1 :: a2 :: a3 :: a4 :: a5 :: a6 :: a7 :: a8 :: a9 :: b0 :: r) 10 = true) (k : Go Γ M d C S q (a0 :: a1 :: a2 :: a3 :: a4 :: a5 :: a6 :: a7 :: a8 :: a9 :: some .null :: r) st h z Q X) : Go Γ M d C S pc (a0 :: a1 :: a2 :: a3 :: a4 :: a5 :: a6 :: a7 :: a8 :: a9 :: b0 :: r) (.null :: st) h z Q X := by
  subst hq
  refine Go.sto k (by simp) (fun hx hb hn hl k => lv_astoreN (i := 10) hx hb hd hl (by rw [← hn]; simp) rfl (fun ls' hl' => k ls' (lv_fewer hl' (fun q hq => lvp_set1 (L := (a0 :: a1 :: a2 :: a3 :: a4 :: a5 :: a6 :: a7 :: a8 :: a9 :: b0 :: r)) (k := 10) hp q hq))))
theorem Go.aloadN_11 {a0 a1 a2 a3 a4 a5 a6 a7 a8 a9 a10 : Option Value} {r : List (Option Value)} (hd : decode M.2.1 pc = .ok (.aload 11, 2)) (hq : pc + 2 = q) (k : Go Γ M d C S q (a0 :: a1 :: a2 :: a3 :: a4 :: a5 :: a6 :: a7 :: a8 :: a9 :: a10 :: some .null :: r) (.null :: st) h z Q X) : Go Γ M d C S pc (a0 :: a1 :: a2 :: a3 :: a4 :: a5 :: a6 :: a7 :: a8 :: a9 :: a10 :: some .null :: r) st h z Q X := by
  subst hq
  exact Go.pure k (fun hx hb hl k => lv_aloadN hx hb hd (lvp_at hl (k := 11) rfl) k)
theorem Go.astoreN_11 {a0 a1 a2 a3 a4 a5 a6 a7 a8 a9 a10 b0 : Option Value} {r : List (Option Value)} (hd : decode M.2.1 pc = .ok (.astore 11, 2)) (hq : pc + 2 = q) (hp : l_c1 (a0 :: a1 :: a2 :: a3 :: a4 :: a5 :: a6 :: a7 :: a8 :: a9 :: a10 :: b0 :: r) 11 = true) (k : Go Γ M d C S q (a0 :: a1 :: a2 :: a3 :: a4 :: a5 :: a6 :: a7 :: a8 :: a9 :: a10 :: some .null :: r) st h z Q X) : Go Γ M d C S pc (a0 :: a1 :: a2 :: a3 :: a4 :: a5 :: a6 :: a7 :: a8 :: a9 :: a10 :: b0 :: r) (.null :: st) h z Q X := by
  subst hq
  refine Go.sto k (by simp) (fun hx hb hn hl k => lv_astoreN (i := 11) hx hb hd hl (by rw [← hn]; simp) rfl (fun ls' hl' => k ls' (lv_fewer hl' (fun q hq => lvp_set1 (L := (a0 :: a1 :: a2 :: a3 :: a4 :: a5 :: a6 :: a7 :: a8 :: a9 :: a10 :: b0 :: r)) (k := 11) hp q hq))))
theorem Go.aloadN_12 {a0 a1 a2 a3 a4 a5 a6 a7 a8 a9 a10 a11 : Option Value} {r : List (Option Value)} (hd : decode M.2.1 pc = .ok (.aload 12, 2)) (hq : pc + 2 = q) (k : Go Γ M d C S q (a0 :: a1 :: a2 :: a3 :: a4 :: a5 :: a6 :: a7 :: a8 :: a9 :: a10 :: a11 :: some .null :: r) (.null :: st) h z Q X) : Go Γ M d C S pc (a0 :: a1 :: a2 :: a3 :: a4 :: a5 :: a6 :: a7 :: a8 :: a9 :: a10 :: a11 :: some .null :: r) st h z Q X := by
  subst hq
  exact Go.pure k (fun hx hb hl k => lv_aloadN hx hb hd (lvp_at hl (k := 12) rfl) k)
theorem Go.astoreN_12 {a0 a1 a2 a3 a4 a5 a6 a7 a8 a9 a10 a11 b0 : Option Value} {r : List (Option Value)} (hd : decode M.2.1 pc = .ok (.astore 12, 2)) (hq : pc + 2 = q) (hp : l_c1 (a0 :: a1 :: a2 :: a3 :: a4 :: a5 :: a6 :: a7 :: a8 :: a9 :: a10 :: a11 :: b0 :: r) 12 = true) (k : Go Γ M d C S q (a0 :: a1 :: a2 :: a3 :: a4 :: a5 :: a6 :: a7 :: a8 :: a9 :: a10 :: a11 :: some .null :: r) st h z Q X) : Go Γ M d C S pc (a0 :: a1 :: a2 :: a3 :: a4 :: a5 :: a6 :: a7 :: a8 :: a9 :: a10 :: a11 :: b0 :: r) (.null :: st) h z Q X := by
  subst hq
  refine Go.sto k (by simp) (fun hx hb hn hl k => lv_astoreN (i := 12) hx hb hd hl (by rw [← hn]; simp) rfl (fun ls' hl' => k ls' (lv_fewer hl' (fun q hq => lvp_set1 (L := (a0 :: a1 :: a2 :: a3 :: a4 :: a5 :: a6 :: a7 :: a8 :: a9 :: a10 :: a11 :: b0 :: r)) (k := 12) hp q hq))))
theorem Go.aloadN_13 {a0 a1 a2 a3 a4 a5 a6 a7 a8 a9 a10 a11 a12 : Option Value} {r : List (Option Value)} (hd : decode M.2.1 pc = .ok (.aload 13, 2)) (hq : pc + 2 = q) (k : Go Γ M d C S q (a0 :: a1 :: a2 :: a3 :: a4 :: a5 :: a6 :: a7 :: a8 :: a9 :: a10 :: a11 :: a12 :: some .null :: r) (.null :: st) h z Q X) : Go Γ M d C S pc (a0 :: a1 :: a2 :: a3 :: a4 :: a5 :: a6 :: a7 :: a8 :: a9 :: a10 :: a11 :: a12 :: some .null :: r) st h z Q X := by
  subst hq
  exact Go.pure k (fun hx hb hl k => lv_aloadN hx hb hd (lvp_at hl (k := 13) rfl) k)
theorem Go.astoreN_13 {a0 a1 a2 a3 a4 a5 a6 a7 a8 a9 a10 a11 a12 b0 : Option Value} {r : List (Option Value)} (hd : decode M.2.1 pc = .ok (.astore 13, 2)) (hq : pc + 2 = q) (hp : l_c1 (a0 :: a1 :: a2 :: a3 :: a4 :: a5 :: a6 :: a7 :: a8 :: a9 :: a10 :: a11 :: a12 :: b0 :: r) 13 = true) (k : Go Γ M d C S q (a0 :: a1 :: a2 :: a3 :: a4 :: a5 :: a6 :: a7 :: a8 :: a9 :: a10 :: a11 :: a12 :: some .null :: r) st h z Q X) : Go Γ M d C S pc (a0 :: a1 :: a2 :: a3 :: a4 :: a5 :: a6 :: a7 :: a8 :: a9 :: a10 :: a11 :: a12 :: b0 :: r) (.null :: st) h z Q X := by
  subst hq
  refine Go.sto k (by simp) (fun hx hb hn hl k => lv_astoreN (i := 13) hx hb hd hl (by rw [← hn]; simp) rfl (fun ls' hl' => k ls' (lv_fewer hl' (fun q hq => lvp_set1 (L := (a0 :: a1 :: a2 :: a3 :: a4 :: a5 :: a6 :: a7 :: a8 :: a9 :: a10 :: a11 :: a12 :: b0 :: r)) (k := 13) hp q hq))))
theorem Go.aloadN_14 {a0 a1 a2 a3 a4 a5 a6 a7 a8 a9 a10 a11 a12 a13 : Option Value} {r : List (Option Value)} (hd : decode M.2.1 pc = .ok (.aload 14, 2)) (hq : pc + 2 = q) (k : Go Γ M d C S q (a0 :: a1 :: a2 :: a3 :: a4 :: a5 :: a6 :: a7 :: a8 :: a9 :: a10 :: a11 :: a12 :: a13 :: some .null :: r) (.null :: st) h z Q X) : Go Γ M d C S pc (a0 :: a1 :: a2 :: a3 :: a4 :: a5 :: a6 :: a7 :: a8 :: a9 :: a10 :: a11 :: a12 :: a13 :: some .null :: r) st h z Q X := by
  subst hq
  exact Go.pure k (fun hx hb hl k => lv_aloadN hx hb hd (lvp_at hl (k := 14) rfl) k)
theorem Go.astoreN_14 {a0 a1 a2 a3 a4 a5 a6 a7 a8 a9 a10 a11 a12 a13 b0 : Option Value} {r : List (Option Value)} (hd : decode M.2.1 pc = .ok (.astore 14, 2)) (hq : pc + 2 = q) (hp : l_c1 (a0 :: a1 :: a2 :: a3 :: a4 :: a5 :: a6 :: a7 :: a8 :: a9 :: a10 :: a11 :: a12 :: a13 :: b0 :: r) 14 = true) (k : Go Γ M d C S q (a0 :: a1 :: a2 :: a3 :: a4 :: a5 :: a6 :: a7 :: a8 :: a9 :: a10 :: a11 :: a12 :: a13 :: some .null :: r) st h z Q X) : Go Γ M d C S pc (a0 :: a1 :: a2 :: a3 :: a4 :: a5 :: a6 :: a7 :: a8 :: a9 :: a10 :: a11 :: a12 :: a13 :: b0 :: r) (.null :: st) h z Q X := by
  subst hq
  refine Go.sto k (by simp) (fun hx hb hn hl k => lv_astoreN (i := 14) hx hb hd hl (by rw [← hn]; simp) rfl (fun ls' hl' => k ls' (lv_fewer hl' (fun q hq => lvp_set1 (L := (a0 :: a1 :: a2 :: a3 :: a4 :: a5 :: a6 :: a7 :: a8 :: a9 :: a10 :: a11 :: a12 :: a13 :: b0 :: r)) (k := 14) hp q hq))))
theorem Go.aloadN_15 {a0 a1 a2 a3 a4 a5 a6 a7 a8 a9 a10 a11 a12 a13 a14 : Option Value} {r : List (Option Value)} (hd : decode M.2.1 pc = .ok (.aload 15, 2)) (hq : pc + 2 = q) (k : Go Γ M d C S q (a0 :: a1 :: a2 :: a3 :: a4 :: a5 :: a6 :: a7 :: a8 :: a9 :: a10 :: a11 :: a12 :: a13 :: a14 :: some .null :: r) (.null :: st) h z Q X) : Go Γ M d C S pc (a0 :: a1 :: a2 :: a3 :: a4 :: a5 :: a6 :: a7 :: a8 :: a9 :: a10 :: a11 :: a12 :: a13 :: a14 :: some .null :: r) st h z Q X := by
  subst hq
  exact Go.pure k (fun hx hb hl k => lv_aloadN hx hb hd (lvp_at hl (k := 15) rfl) k)
theorem Go.astoreN_15 {a0 a1 a2 a3 a4 a5 a6 a7 a8 a9 a10 a11 a12 a13 a14 b0 : Option Value} {r : List (Option Value)} (hd : decode M.2.1 pc = .ok (.astore 15, 2)) (hq : pc + 2 = q) (hp : l_c1 (a0 :: a1 :: a2 :: a3 :: a4 :: a5 :: a6 :: a7 :: a8 :: a9 :: a10 :: a11 :: a12 :: a13 :: a14 :: b0 :: r) 15 = true) (k : Go Γ M d C S q (a0 :: a1 :: a2 :: a3 :: a4 :: a5 :: a6 :: a7 :: a8 :: a9 :: a10 :: a11 :: a12 :: a13 :: a14 :: some .null :: r) st h z Q X) : Go Γ M d C S pc (a0 :: a1 :: a2 :: a3 :: a4 :: a5 :: a6 :: a7 :: a8 :: a9 :: a10 :: a11 :: a12 :: a13 :: a14 :: b0 :: r) (.null :: st) h z Q X := by
  subst hq
  refine Go.sto k (by simp) (fun hx hb hn hl k => lv_astoreN (i := 15) hx hb hd hl (by rw [← hn]; simp) rfl (fun ls' hl' => k ls' (lv_fewer hl' (fun q hq => lvp_set1 (L := (a0 :: a1 :: a2 :: a3 :: a4 :: a5 :: a6 :: a7 :: a8 :: a9 :: a10 :: a11 :: a12 :: a13 :: a14 :: b0 :: r)) (k := 15) hp q hq))))
theorem Go.aloadN_16 {a0 a1 a2 a3 a4 a5 a6 a7 a8 a9 a10 a11 a12 a13 a14 a15 : Option Value} {r : List (Option Value)} (hd : decode M.2.1 pc = .ok (.aload 16, 2)) (hq : pc + 2 = q) (k : Go Γ M d C S q (a0 :: a1 :: a2 :: a3 :: a4 :: a5 :: a6 :: a7 :: a8 :: a9 :: a10 :: a11 :: a12 :: a13 :: a14 :: a15 :: some .null :: r) (.null :: st) h z Q X) : Go Γ M d C S pc (a0 :: a1 :: a2 :: a3 :: a4 :: a5 :: a6 :: a7 :: a8 :: a9 :: a10 :: a11 :: a12 :: a13 :: a14 :: a15 :: some .null :: r) st h z Q X := by
  subst hq
  exact Go.pure k (fun hx hb hl k => lv_aloadN hx hb hd (lvp_at hl (k := 16) rfl) k)
theorem Go.astoreN_16 {a0 a1 a2 a3 a4 a5 a6 a7 a8 a9 a10 a11 a12 a13 a14 a15 b0 : Option Value} {r : List (Option Value)} (hd : decode M.2.1 pc = .ok (.astore 16, 2)) (hq : pc + 2 = q) (hp : l_c1 (a0 :: a1 :: a2 :: a3 :: a4 :: a5 :: a6 :: a7 :: a8 :: a9 :: a10 :: a11 :: a12 :: a13 :: a14 :: a15 :: b0 :: r) 16 = true) (k : Go Γ M d C S q (a0 :: a1 :: a2 :: a3 :: a4 :: a5 :: a6 :: a7 :: a8 :: a9 :: a10 :: a11 :: a12 :: a13 :: a14 :: a15 :: some .null :: r) st h z Q X) : Go Γ M d C S pc (a0 :: a1 :: a2 :: a3 :: a4 :: a5 :: a6 :: a7 :: a8 :: a9 :: a10 :: a11 :: a12 :: a13 :: a14 :: a15 :: b0 :: r) (.null :: st) h z Q X := by
  subst hq
  refine Go.sto k (by simp) (fun hx hb hn hl k => lv_astoreN (i := 16) hx hb hd hl (by rw [← hn]; simp) rfl (fun ls' hl' => k ls' (lv_fewer hl' (fun q hq => lvp_set1 (L := (a0 :: a1 :: a2 :: a3 :: a4 :: a5 :: a6 :: a7 :: a8 :: a9 :: a10 :: a11 :: a12 :: a13 :: a14 :: a15 :: b0 :: r)) (k := 16) hp q hq))))
theorem Go.iret {x : Int32} {ty : FieldType} (hd : decode M.2.1 pc = .ok (.ireturn, 1)) (hr : M.2.2.2.1 = some ty) (hn : narrow ty (.int x) = .int x) (hq : Q (some (.int x)) h z) : Go Γ M d C S pc L [.int x] h z Q X := Go.ret (v := some (.int x)) ⟨hd, ty, hr, hn⟩ hq
theorem Go.lret {x : Int64} (hd : decode M.2.1 pc = .ok (.lreturn, 1)) (hr : M.2.2.2.1 = some .long) (hq : Q (some (.long x)) h z) : Go Γ M d C S pc L [.long x] h z Q X := Go.ret (v := some (.long x)) ⟨hd, hr⟩ hq
theorem Go.dret {x : UInt64} (hd : decode M.2.1 pc = .ok (.dreturn, 1)) (hr : M.2.2.2.1 = some .double) (hq : Q (some (.double x)) h z) : Go Γ M d C S pc L [.double x] h z Q X := Go.ret (v := some (.double x)) ⟨hd, hr⟩ hq
theorem Go.aret {x : Nat} {n : String} (hd : decode M.2.1 pc = .ok (.areturn, 1)) (hr : M.2.2.2.1 = some (.object n)) (hq : Q (some (.ref x)) h z) : Go Γ M d C S pc L [.ref x] h z Q X := Go.ret (v := some (.ref x)) ⟨hd, _, hr, Or.inl ⟨n, rfl⟩⟩ hq
theorem Go.aretA {x : Nat} {n : FieldType} (hd : decode M.2.1 pc = .ok (.areturn, 1)) (hr : M.2.2.2.1 = some (.array n)) (hq : Q (some (.ref x)) h z) : Go Γ M d C S pc L [.ref x] h z Q X := Go.ret (v := some (.ref x)) ⟨hd, _, hr, Or.inr ⟨n, rfl⟩⟩ hq
theorem Go.aretN {n : FieldType} (hd : decode M.2.1 pc = .ok (.areturn, 1)) (hr : M.2.2.2.1 = some (.array n)) (hq : Q (some .null) h z) : Go Γ M d C S pc L [.null] h z Q X := Go.ret (v := some .null) ⟨hd, _, hr, Or.inr ⟨n, rfl⟩⟩ hq
theorem Go.vret (hd : decode M.2.1 pc = .ok (.return_, 1)) (hr : M.2.2.2.1 = none) (hq : Q none h z) : Go Γ M d C S pc L [] h z Q X := Go.ret (v := none) ⟨hd, hr⟩ hq
end GoOps
