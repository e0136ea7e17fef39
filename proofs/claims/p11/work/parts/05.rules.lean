section RU
variable {M : MT} {d pc : Nat} {la : List (Option Value)} {st : List Value} {h : Hp} {Q : Option Value → Hp → Prop}
theorem v_iconst {n : Int} {v : Int32} (hd : decode M.2.1 pc = .ok (.iconst n, 1)) (hv : Int32.ofInt n = v) (k : V M d (pc + 1) la (.int v :: st) h Q) : V M d pc la (st) h Q := V.go1 (fun C _ w => lv_iconst C.1 C.2.1 hd hv w) k
theorem v_bipush {n : Int} {v : Int32} (hd : decode M.2.1 pc = .ok (.bipush n, 2)) (hv : (Int8.ofInt n).toInt32 = v) (k : V M d (pc + 2) la (.int v :: st) h Q) : V M d pc la (st) h Q := V.go1 (fun C _ w => lv_bipush C.1 C.2.1 hd hv w) k
theorem v_sipush {n : Int} {v : Int32} (hd : decode M.2.1 pc = .ok (.sipush n, 3)) (hv : (Int16.ofInt n).toInt32 = v) (k : V M d (pc + 3) la (.int v :: st) h Q) : V M d pc la (st) h Q := V.go1 (fun C _ w => lv_sipush C.1 C.2.1 hd hv w) k
theorem v_lconst {n : Fin 2} {v : Int64} (hd : decode M.2.1 pc = .ok (.lconst n, 1)) (hv : Int64.ofNat (n : Nat) = v) (k : V M d (pc + 1) la (.long v :: st) h Q) : V M d pc la (st) h Q := V.go1 (fun C _ w => lv_lconst C.1 C.2.1 hd hv w) k
theorem v_iadd {x y : Int32} (hd : decode M.2.1 pc = .ok (.iadd, 1))  (k : V M d (pc + 1) la (.int (x + y) :: st) h Q) : V M d pc la (.int y :: .int x :: st) h Q := V.go1 (fun C _ w => lv_iadd C.1 C.2.1 hd  w) k
theorem v_isub {x y : Int32} (hd : decode M.2.1 pc = .ok (.isub, 1))  (k : V M d (pc + 1) la (.int (x - y) :: st) h Q) : V M d pc la (.int y :: .int x :: st) h Q := V.go1 (fun C _ w => lv_isub C.1 C.2.1 hd  w) k
theorem v_imul {x y : Int32} (hd : decode M.2.1 pc = .ok (.imul, 1))  (k : V M d (pc + 1) la (.int (x * y) :: st) h Q) : V M d pc la (.int y :: .int x :: st) h Q := V.go1 (fun C _ w => lv_imul C.1 C.2.1 hd  w) k
theorem v_iand {x y : Int32} (hd : decode M.2.1 pc = .ok (.iand, 1))  (k : V M d (pc + 1) la (.int (x &&& y) :: st) h Q) : V M d pc la (.int y :: .int x :: st) h Q := V.go1 (fun C _ w => lv_iand C.1 C.2.1 hd  w) k
theorem v_ior {x y : Int32} (hd : decode M.2.1 pc = .ok (.ior, 1))  (k : V M d (pc + 1) la (.int (x ||| y) :: st) h Q) : V M d pc la (.int y :: .int x :: st) h Q := V.go1 (fun C _ w => lv_ior C.1 C.2.1 hd  w) k
theorem v_ixor {x y : Int32} (hd : decode M.2.1 pc = .ok (.ixor, 1))  (k : V M d (pc + 1) la (.int (x ^^^ y) :: st) h Q) : V M d pc la (.int y :: .int x :: st) h Q := V.go1 (fun C _ w => lv_ixor C.1 C.2.1 hd  w) k
theorem v_ishl {x y : Int32} (hd : decode M.2.1 pc = .ok (.ishl, 1))  (k : V M d (pc + 1) la (.int (x <<< (y &&& 31)) :: st) h Q) : V M d pc la (.int y :: .int x :: st) h Q := V.go1 (fun C _ w => lv_ishl C.1 C.2.1 hd  w) k
theorem v_ishr {x y : Int32} (hd : decode M.2.1 pc = .ok (.ishr, 1))  (k : V M d (pc + 1) la (.int (x >>> (y &&& 31)) :: st) h Q) : V M d pc la (.int y :: .int x :: st) h Q := V.go1 (fun C _ w => lv_ishr C.1 C.2.1 hd  w) k
theorem v_idiv {x y : Int32} (hd : decode M.2.1 pc = .ok (.idiv, 1)) (hne : ¬ y = 0) (k : V M d (pc + 1) la (.int (x / y) :: st) h Q) : V M d pc la (.int y :: .int x :: st) h Q := V.go1 (fun C _ w => lv_idiv C.1 C.2.1 hd hne w) k
theorem v_irem {x y : Int32} (hd : decode M.2.1 pc = .ok (.irem, 1)) (hne : ¬ y = 0) (k : V M d (pc + 1) la (.int (x - x / y * y) :: st) h Q) : V M d pc la (.int y :: .int x :: st) h Q := V.go1 (fun C _ w => lv_irem C.1 C.2.1 hd hne w) k
theorem v_ineg {x : Int32} (hd : decode M.2.1 pc = .ok (.ineg, 1))  (k : V M d (pc + 1) la (.int (-x) :: st) h Q) : V M d pc la (.int x :: st) h Q := V.go1 (fun C _ w => lv_ineg C.1 C.2.1 hd  w) k
theorem v_iushr {x y : Int32} (hd : decode M.2.1 pc = .ok (.iushr, 1))  (k : V M d (pc + 1) la (.int ((x.toUInt32 >>> (y.toUInt32 &&& Int32.toUInt32 31)).toInt32) :: st) h Q) : V M d pc la (.int y :: .int x :: st) h Q := V.go1 (fun C _ w => lv_iushr C.1 C.2.1 hd rfl w) k
theorem v_ladd {x y : Int64} (hd : decode M.2.1 pc = .ok (.ladd, 1))  (k : V M d (pc + 1) la (.long (x + y) :: st) h Q) : V M d pc la (.long y :: .long x :: st) h Q := V.go1 (fun C _ w => lv_ladd C.1 C.2.1 hd  w) k
theorem v_lmul {x y : Int64} (hd : decode M.2.1 pc = .ok (.lmul, 1))  (k : V M d (pc + 1) la (.long (x * y) :: st) h Q) : V M d pc la (.long y :: .long x :: st) h Q := V.go1 (fun C _ w => lv_lmul C.1 C.2.1 hd  w) k
theorem v_i2l {x : Int32} (hd : decode M.2.1 pc = .ok (.i2l, 1))  (k : V M d (pc + 1) la (.long x.toInt64 :: st) h Q) : V M d pc la (.int x :: st) h Q := V.go1 (fun C _ w => lv_i2l C.1 C.2.1 hd rfl w) k
theorem v_l2i {x : Int64} (hd : decode M.2.1 pc = .ok (.l2i, 1))  (k : V M d (pc + 1) la (.int x.toInt32 :: st) h Q) : V M d pc la (.long x :: st) h Q := V.go1 (fun C _ w => lv_l2i C.1 C.2.1 hd rfl w) k
theorem v_i2b {x : Int32} (hd : decode M.2.1 pc = .ok (.i2b, 1))  (k : V M d (pc + 1) la (.int x.toInt8.toInt32 :: st) h Q) : V M d pc la (.int x :: st) h Q := V.go1 (fun C _ w => lv_i2b C.1 C.2.1 hd rfl w) k
theorem v_i2s {x : Int32} (hd : decode M.2.1 pc = .ok (.i2s, 1))  (k : V M d (pc + 1) la (.int x.toInt16.toInt32 :: st) h Q) : V M d pc la (.int x :: st) h Q := V.go1 (fun C _ w => lv_i2s C.1 C.2.1 hd rfl w) k
theorem v_lcmp {x y : Int64} (hd : decode M.2.1 pc = .ok (.lcmp, 1))  (k : V M d (pc + 1) la (.int (lg_cmp x y) :: st) h Q) : V M d pc la (.long y :: .long x :: st) h Q := V.go1 (fun C _ w => W.lcmp C.1 C.2.1 hd  w) k
theorem v_dup {v : Value} (hd : decode M.2.1 pc = .ok (.dup, 1)) (hv : v.category = 1) (k : V M d (pc + 1) la (v :: v :: st) h Q) : V M d pc la (v :: st) h Q := V.go1 (fun {_ b _ _ _ _ _ _ _ _ _ _ _ _ _ _ _ _ _ _} C _ w => lv_dup C.1 C.2.1 hd (by rw [rl_cat b v]; exact hv) w) k
theorem v_pop {v : Value} (hd : decode M.2.1 pc = .ok (.pop, 1)) (hv : v.category = 1) (k : V M d (pc + 1) la st h Q) : V M d pc la (v :: st) h Q := V.go1 (fun {_ b _ _ _ _ _ _ _ _ _ _ _ _ _ _ _ _ _ _} C _ w => lv_pop C.1 C.2.1 hd (by rw [rl_cat b v]; exact hv) w) k
theorem v_dup2 {v w0 : Value} (hd : decode M.2.1 pc = .ok (.dup2, 1)) (hv : v.category = 1) (hw : w0.category = 1) (k : V M d (pc + 1) la (v :: w0 :: v :: w0 :: st) h Q) : V M d pc la (v :: w0 :: st) h Q := V.go1 (fun {_ b _ _ _ _ _ _ _ _ _ _ _ _ _ _ _ _ _ _} C _ w => lv_dup2_11 C.1 C.2.1 hd (by rw [rl_cat b v]; exact hv) (by rw [rl_cat b w0]; exact hw) w) k
theorem v_iload_n {i : Nat} {x : Int32} {kf : Fin 4} (hd : decode M.2.1 pc = .ok (.iload_n kf, 1)) (hi : (kf : Nat) = i) (hl : la[i]? = some (some (.int x))) (k : V M d (pc + 1) la (.int x :: st) h Q) : V M d pc la st h Q := V.go1 (fun C L w => lv_iload_n C.1 C.2.1 hd hi (L.2.2 i _ hl) w) k
theorem v_iload {i : Nat} {x : Int32} (hd : decode M.2.1 pc = .ok (.iload i, 2)) (hl : la[i]? = some (some (.int x))) (k : V M d (pc + 2) la (.int x :: st) h Q) : V M d pc la st h Q := V.go1 (fun C L w => lv_iload C.1 C.2.1 hd (L.2.2 i _ hl) w) k
theorem v_lload_n {i : Nat} {x : Int64} {kf : Fin 4} (hd : decode M.2.1 pc = .ok (.lload_n kf, 1)) (hi : (kf : Nat) = i) (hl : la[i]? = some (some (.long x))) (k : V M d (pc + 1) la (.long x :: st) h Q) : V M d pc la st h Q := V.go1 (fun C L w => lv_lload_n C.1 C.2.1 hd hi (L.2.2 i _ hl) w) k
theorem v_lload {i : Nat} {x : Int64} (hd : decode M.2.1 pc = .ok (.lload i, 2)) (hl : la[i]? = some (some (.long x))) (k : V M d (pc + 2) la (.long x :: st) h Q) : V M d pc la st h Q := V.go1 (fun C L w => lv_lload C.1 C.2.1 hd (L.2.2 i _ hl) w) k
theorem v_aload_n {i : Nat} {x : Nat} {kf : Fin 4} (hd : decode M.2.1 pc = .ok (.aload_n kf, 1)) (hi : (kf : Nat) = i) (hl : la[i]? = some (some (.ref x))) (k : V M d (pc + 1) la (.ref x :: st) h Q) : V M d pc la st h Q := V.go1 (fun C L w => lv_aload_n C.1 C.2.1 hd hi (L.2.2 i _ hl) w) k
theorem v_aload {i : Nat} {x : Nat} (hd : decode M.2.1 pc = .ok (.aload i, 2)) (hl : la[i]? = some (some (.ref x))) (k : V M d (pc + 2) la (.ref x :: st) h Q) : V M d pc la st h Q := V.go1 (fun C L w => lv_aload C.1 C.2.1 hd (L.2.2 i _ hl) w) k
theorem v_if_eq {x : Int32} {off : Int} (tgt : Nat) (hd : decode M.2.1 pc = .ok (.ifCond .eq off, 3)) (ht : (pc : Int) + off = (tgt : Int)) (kt : x = 0 → V M d tgt la st h Q) (kf : ¬ x = 0 → V M d (pc + 3) la st h Q) : V M d pc la (.int x :: st) h Q := by
  by_cases hc : x = 0
  · exact V.go1 (fun C _ w => lv_if_eq C.1 C.2.1 hd ht (fun _ => w) (fun q => absurd hc q)) (kt hc)
  · exact V.go1 (fun C _ w => lv_if_eq C.1 C.2.1 hd ht (fun q => absurd q hc) (fun _ => w)) (kf hc)
theorem v_icmp_eq {x y : Int32} {off : Int} (tgt : Nat) (hd : decode M.2.1 pc = .ok (.if_icmp .eq off, 3)) (ht : (pc : Int) + off = (tgt : Int)) (kt : x = y → V M d tgt la st h Q) (kf : ¬ x = y → V M d (pc + 3) la st h Q) : V M d pc la (.int y :: .int x :: st) h Q := by
  by_cases hc : x = y
  · exact V.go1 (fun C _ w => lv_icmp_eq C.1 C.2.1 hd ht (fun _ => w) (fun q => absurd hc q)) (kt hc)
  · exact V.go1 (fun C _ w => lv_icmp_eq C.1 C.2.1 hd ht (fun q => absurd q hc) (fun _ => w)) (kf hc)
theorem v_if_ne {x : Int32} {off : Int} (tgt : Nat) (hd : decode M.2.1 pc = .ok (.ifCond .ne off, 3)) (ht : (pc : Int) + off = (tgt : Int)) (kt : ¬ x = 0 → V M d tgt la st h Q) (kf : x = 0 → V M d (pc + 3) la st h Q) : V M d pc la (.int x :: st) h Q := by
  by_cases hc : x = 0
  · exact V.go1 (fun C _ w => lv_if_ne C.1 C.2.1 hd ht (fun q => absurd hc q) (fun _ => w)) (kf hc)
  · exact V.go1 (fun C _ w => lv_if_ne C.1 C.2.1 hd ht (fun _ => w) (fun q => absurd q hc)) (kt hc)
theorem v_icmp_ne {x y : Int32} {off : Int} (tgt : Nat) (hd : decode M.2.1 pc = .ok (.if_icmp .ne off, 3)) (ht : (pc : Int) + off = (tgt : Int)) (kt : ¬ x = y → V M d tgt la st h Q) (kf : x = y → V M d (pc + 3) la st h Q) : V M d pc la (.int y :: .int x :: st) h Q := by
  by_cases hc : x = y
  · exact V.go1 (fun C _ w => lv_icmp_ne C.1 C.2.1 hd ht (fun q => absurd hc q) (fun _ => w)) (kf hc)
  · exact V.go1 (fun C _ w => lv_icmp_ne C.1 C.2.1 hd ht (fun _ => w) (fun q => absurd q hc)) (kt hc)
theorem v_if_lt {x : Int32} {off : Int} (tgt : Nat) (hd : decode M.2.1 pc = .ok (.ifCond .lt off, 3)) (ht : (pc : Int) + off = (tgt : Int)) (kt : x < 0 → V M d tgt la st h Q) (kf : ¬ x < 0 → V M d (pc + 3) la st h Q) : V M d pc la (.int x :: st) h Q := by
  by_cases hc : x < 0
  · exact V.go1 (fun C _ w => lv_if_lt C.1 C.2.1 hd ht (fun _ => w) (fun q => absurd hc q)) (kt hc)
  · exact V.go1 (fun C _ w => lv_if_lt C.1 C.2.1 hd ht (fun q => absurd q hc) (fun _ => w)) (kf hc)
theorem v_icmp_lt {x y : Int32} {off : Int} (tgt : Nat) (hd : decode M.2.1 pc = .ok (.if_icmp .lt off, 3)) (ht : (pc : Int) + off = (tgt : Int)) (kt : x < y → V M d tgt la st h Q) (kf : ¬ x < y → V M d (pc + 3) la st h Q) : V M d pc la (.int y :: .int x :: st) h Q := by
  by_cases hc : x < y
  · exact V.go1 (fun C _ w => lv_icmp_lt C.1 C.2.1 hd ht (fun _ => w) (fun q => absurd hc q)) (kt hc)
  · exact V.go1 (fun C _ w => lv_icmp_lt C.1 C.2.1 hd ht (fun q => absurd q hc) (fun _ => w)) (kf hc)
theorem v_if_ge {x : Int32} {off : Int} (tgt : Nat) (hd : decode M.2.1 pc = .ok (.ifCond .ge off, 3)) (ht : (pc : Int) + off = (tgt : Int)) (kt : 0 ≤ x → V M d tgt la st h Q) (kf : ¬ 0 ≤ x → V M d (pc + 3) la st h Q) : V M d pc la (.int x :: st) h Q := by
  by_cases hc : 0 ≤ x
  · exact V.go1 (fun C _ w => lv_if_ge C.1 C.2.1 hd ht (fun _ => w) (fun q => absurd hc q)) (kt hc)
  · exact V.go1 (fun C _ w => lv_if_ge C.1 C.2.1 hd ht (fun q => absurd q hc) (fun _ => w)) (kf hc)
theorem v_icmp_ge {x y : Int32} {off : Int} (tgt : Nat) (hd : decode M.2.1 pc = .ok (.if_icmp .ge off, 3)) (ht : (pc : Int) + off = (tgt : Int)) (kt : y ≤ x → V M d tgt la st h Q) (kf : ¬ y ≤ x → V M d (pc + 3) la st h Q) : V M d pc la (.int y :: .int x :: st) h Q := by
  by_cases hc : y ≤ x
  · exact V.go1 (fun C _ w => lv_icmp_ge C.1 C.2.1 hd ht (fun _ => w) (fun q => absurd hc q)) (kt hc)
  · exact V.go1 (fun C _ w => lv_icmp_ge C.1 C.2.1 hd ht (fun q => absurd q hc) (fun _ => w)) (kf hc)
theorem v_if_gt {x : Int32} {off : Int} (tgt : Nat) (hd : decode M.2.1 pc = .ok (.ifCond .gt off, 3)) (ht : (pc : Int) + off = (tgt : Int)) (kt : 0 < x → V M d tgt la st h Q) (kf : ¬ 0 < x → V M d (pc + 3) la st h Q) : V M d pc la (.int x :: st) h Q := by
  by_cases hc : 0 < x
  · exact V.go1 (fun C _ w => lv_if_gt C.1 C.2.1 hd ht (fun _ => w) (fun q => absurd hc q)) (kt hc)
  · exact V.go1 (fun C _ w => lv_if_gt C.1 C.2.1 hd ht (fun q => absurd q hc) (fun _ => w)) (kf hc)
theorem v_icmp_gt {x y : Int32} {off : Int} (tgt : Nat) (hd : decode M.2.1 pc = .ok (.if_icmp .gt off, 3)) (ht : (pc : Int) + off = (tgt : Int)) (kt : y < x → V M d tgt la st h Q) (kf : ¬ y < x → V M d (pc + 3) la st h Q) : V M d pc la (.int y :: .int x :: st) h Q := by
  by_cases hc : y < x
  · exact V.go1 (fun C _ w => lv_icmp_gt C.1 C.2.1 hd ht (fun _ => w) (fun q => absurd hc q)) (kt hc)
  · exact V.go1 (fun C _ w => lv_icmp_gt C.1 C.2.1 hd ht (fun q => absurd q hc) (fun _ => w)) (kf hc)
theorem v_if_le {x : Int32} {off : Int} (tgt : Nat) (hd : decode M.2.1 pc = .ok (.ifCond .le off, 3)) (ht : (pc : Int) + off = (tgt : Int)) (kt : x ≤ 0 → V M d tgt la st h Q) (kf : ¬ x ≤ 0 → V M d (pc + 3) la st h Q) : V M d pc la (.int x :: st) h Q := by
  by_cases hc : x ≤ 0
  · exact V.go1 (fun C _ w => lv_if_le C.1 C.2.1 hd ht (fun _ => w) (fun q => absurd hc q)) (kt hc)
  · exact V.go1 (fun C _ w => lv_if_le C.1 C.2.1 hd ht (fun q => absurd q hc) (fun _ => w)) (kf hc)
theorem v_icmp_le {x y : Int32} {off : Int} (tgt : Nat) (hd : decode M.2.1 pc = .ok (.if_icmp .le off, 3)) (ht : (pc : Int) + off = (tgt : Int)) (kt : x ≤ y → V M d tgt la st h Q) (kf : ¬ x ≤ y → V M d (pc + 3) la st h Q) : V M d pc la (.int y :: .int x :: st) h Q := by
  by_cases hc : x ≤ y
  · exact V.go1 (fun C _ w => lv_icmp_le C.1 C.2.1 hd ht (fun _ => w) (fun q => absurd hc q)) (kt hc)
  · exact V.go1 (fun C _ w => lv_icmp_le C.1 C.2.1 hd ht (fun q => absurd q hc) (fun _ => w)) (kf hc)
theorem v_goto {off : Int} (tgt : Nat) (hd : decode M.2.1 pc = .ok (.goto off, 3)) (ht : (pc : Int) + off = (tgt : Int)) (k : V M d tgt la st h Q) : V M d pc la st h Q := V.go1 (fun C _ w => lv_goto C.1 C.2.1 hd ht w) k
theorem v_tableOut {dflt lo hi0 : Int} {offs : Array Int} {len : Nat} {x : Int32} (tgt : Nat) (hd : decode M.2.1 pc = .ok (.tableswitch dflt lo hi0 offs, len)) (hc : x.toInt < lo ∨ hi0 < x.toInt) (ht : (pc : Int) + dflt = (tgt : Int)) (k : V M d tgt la st h Q) : V M d pc la (.int x :: st) h Q := V.go1 (fun C _ w => lv_tableOut C.1 C.2.1 hd hc ht w) k
theorem v_tableIn {dflt lo hi0 : Int} {offs : Array Int} {len : Nat} {x : Int32} {off : Int} (tgt : Nat) (hd : decode M.2.1 pc = .ok (.tableswitch dflt lo hi0 offs, len)) (h1 : ¬ x.toInt < lo) (h2 : ¬ hi0 < x.toInt) (ho : offs[(x.toInt - lo).toNat]? = some off) (ht : (pc : Int) + off = (tgt : Int)) (k : V M d tgt la st h Q) : V M d pc la (.int x :: st) h Q := V.go1 (fun C _ w => lv_tableIn C.1 C.2.1 hd h1 h2 ho ht w) k
theorem v_ldc {index : Nat} (v : Int32) (hw : Cond.constant M.1.cls index v ∈ gw) (hd : decode M.2.1 pc = .ok (.ldc index, 2)) (k : V M d (pc + 2) la (.int v :: st) h Q) : V M d pc la st h Q := V.go1 (fun C _ w => lv_ldc C.1 C.2.1 C.2.2.2.2.2.1 (C.2.2.2.2.2.2.1 _ (List.mem_cons_of_mem _ hw)) hd w) k
theorem v_ldcw {index : Nat} (v : Int32) (hw : Cond.constant M.1.cls index v ∈ gw) (hd : decode M.2.1 pc = .ok (.ldc_w index, 3)) (k : V M d (pc + 3) la (.int v :: st) h Q) : V M d pc la st h Q := V.go1 (fun C _ w => lv_ldcw C.1 C.2.1 C.2.2.2.2.2.1 (C.2.2.2.2.2.2.1 _ (List.mem_cons_of_mem _ hw)) hd w) k
theorem v_ldc2 {index : Nat} (v : Int64) (hw : Cond.constantLong M.1.cls index v ∈ gw) (hd : decode M.2.1 pc = .ok (.ldc2_w index, 3)) (k : V M d (pc + 3) la (.long v :: st) h Q) : V M d pc la st h Q := V.go1 (fun C _ w => lv_ldc2 C.1 C.2.1 C.2.2.2.2.2.1 (C.2.2.2.2.2.2.1 _ (List.mem_cons_of_mem _ hw)) hd w) k
/-- the locals as the kit lists them -/
def lal (b : Nat) (la : List (Option Value)) : List (Nat × Value) := (List.range la.length).filterMap (fun i => (la.getD i none).map (fun v => (i, rl b v)))
theorem lal_mem {b : Nat} {la : List (Option Value)} {i : Nat} {w : Value} : (i, w) ∈ lal b la ↔ ∃ v, la[i]? = some (some v) ∧ w = rl b v := by
  unfold lal
  rw [List.mem_filterMap]
  constructor
  · rintro ⟨j, hj, hq⟩
    obtain ⟨v, hv, e⟩ := Option.map_eq_some_iff.mp hq
    obtain ⟨rfl, rfl⟩ := Prod.mk.inj e
    refine ⟨v, ?_, rfl⟩
    rw [List.getElem?_eq_getElem (List.mem_range.mp hj)]
    rw [List.getD_eq_getElem?_getD, List.getElem?_eq_getElem (List.mem_range.mp hj)] at hv
    exact congrArg some hv
  · rintro ⟨v, hv, rfl⟩
    have hlt : i < la.length := (List.getElem?_eq_some_iff.mp hv).1
    refine ⟨i, List.mem_range.mpr hlt, ?_⟩
    rw [List.getD_eq_getElem?_getD, hv]
    rfl
theorem lh.lv {b : Nat} {ls : Array Slot} {nL : Nat} {la : List (Option Value)} (h : lh b ls nL la) : lv_has ls nL (lal b la) := ⟨h.1, h.2.1, fun q hq => by
  obtain ⟨i, w⟩ := q
  obtain ⟨v, hv, rfl⟩ := lal_mem.mp hq
  exact h.2.2 i v hv⟩
/-- no long lies just ahead of place i -/
def nlA (la : List (Option Value)) (i : Nat) : Prop := ∀ (j : Nat) (w : Value), j + 1 = i → la[j]? = some (some w) → w.category = 1
theorem lh.of1 {b : Nat} {ls' : Array Slot} {nL i : Nat} {la : List (Option Value)} {v : Value} (hn : nlA la i) (h' : lv_has ls' nL ((i, rl b v) :: (lal b la).filter (fun q => !(q.1 == i) && !(q.1 + 1 == i && q.2.category == 2)))) : lh b ls' nL (la.set i (some v)) := by
  refine ⟨h'.1, h'.2.1, fun j w hj => ?_⟩
  rw [List.getElem?_set] at hj
  by_cases e : i = j
  · subst e
    rw [if_pos rfl] at hj
    split at hj
    · cases hj
      exact h'.2.2 (i, rl b v) List.mem_cons_self
    · cases hj
  · rw [if_neg e] at hj
    refine h'.2.2 (j, rl b w) (List.mem_cons_of_mem _ (List.mem_filter.mpr ⟨lal_mem.mpr ⟨w, hj, rfl⟩, ?_⟩))
    by_cases e2 : j + 1 = i
    · have := hn j w e2 hj
      simp [rl_cat, this, Ne.symm e]
    · simp [e2, Ne.symm e]
theorem lh.of2 {b : Nat} {ls' : Array Slot} {nL i : Nat} {la : List (Option Value)} {v : Value} (hn : nlA la i) (h' : lv_has ls' nL ((i, rl b v) :: (lal b la).filter (fun q => !(q.1 == i) && (!(q.1 == i + 1) && !(q.1 + 1 == i && q.2.category == 2))))) : lh b ls' nL ((la.set i (some v)).set (i + 1) none) := by
  refine ⟨h'.1, h'.2.1, fun j w hj => ?_⟩
  rw [List.getElem?_set] at hj
  by_cases e1 : i + 1 = j
  · rw [if_pos e1] at hj
    split at hj <;> cases hj
  rw [if_neg e1, List.getElem?_set] at hj
  by_cases e : i = j
  · subst e
    rw [if_pos rfl] at hj
    split at hj
    · cases hj
      exact h'.2.2 (i, rl b v) List.mem_cons_self
    · cases hj
  · rw [if_neg e] at hj
    refine h'.2.2 (j, rl b w) (List.mem_cons_of_mem _ (List.mem_filter.mpr ⟨lal_mem.mpr ⟨w, hj, rfl⟩, ?_⟩))
    by_cases e2 : j + 1 = i
    · have := hn j w e2 hj
      simp [rl_cat, this, Ne.symm e, Ne.symm e1]
    · simp [e2, Ne.symm e, Ne.symm e1]
theorem v_istore_n {i : Nat} {x : Int32} {kf : Fin 4} (hd : decode M.2.1 pc = .ok (.istore_n kf, 1)) (hi : (kf : Nat) = i) (hn : i < M.2.2.1) (hA : nlA la i) (k : V M d (pc + 1) (la.set i (some (.int x))) st h Q) : V M d pc la (.int x :: st) h Q := V.go2 (fun C L w => lv_istore_n C.1 C.2.1 hd hi L.lv hn rfl (fun ls' H => w ls' (lh.of1 (v := .int x) hA H))) k
theorem v_istore {i : Nat} {x : Int32} (hd : decode M.2.1 pc = .ok (.istore i, 2)) (hn : i < M.2.2.1) (hA : nlA la i) (k : V M d (pc + 2) (la.set i (some (.int x))) st h Q) : V M d pc la (.int x :: st) h Q := V.go2 (fun C L w => lv_istore C.1 C.2.1 hd L.lv hn rfl (fun ls' H => w ls' (lh.of1 (v := .int x) hA H))) k
theorem v_astore_n {i : Nat} {x : Nat} {kf : Fin 4} (hd : decode M.2.1 pc = .ok (.astore_n kf, 1)) (hi : (kf : Nat) = i) (hn : i < M.2.2.1) (hA : nlA la i) (k : V M d (pc + 1) (la.set i (some (.ref x))) st h Q) : V M d pc la (.ref x :: st) h Q := V.go2 (fun C L w => lv_astore_n C.1 C.2.1 hd hi L.lv hn rfl (fun ls' H => w ls' (lh.of1 (v := .ref x) hA H))) k
theorem v_astore {i : Nat} {x : Nat} (hd : decode M.2.1 pc = .ok (.astore i, 2)) (hn : i < M.2.2.1) (hA : nlA la i) (k : V M d (pc + 2) (la.set i (some (.ref x))) st h Q) : V M d pc la (.ref x :: st) h Q := V.go2 (fun C L w => lv_astore C.1 C.2.1 hd L.lv hn rfl (fun ls' H => w ls' (lh.of1 (v := .ref x) hA H))) k
theorem v_lstore_n {i : Nat} {x : Int64} {kf : Fin 4} (hd : decode M.2.1 pc = .ok (.lstore_n kf, 1)) (hi : (kf : Nat) = i) (hn : i + 1 < M.2.2.1) (hA : nlA la i) (k : V M d (pc + 1) ((la.set i (some (.long x))).set (i + 1) none) st h Q) : V M d pc la (.long x :: st) h Q := V.go2 (fun C L w => lv_lstore_n C.1 C.2.1 hd hi L.lv hn rfl (fun ls' H => w ls' (lh.of2 (v := .long x) hA H))) k
theorem v_lstore {i : Nat} {x : Int64} (hd : decode M.2.1 pc = .ok (.lstore i, 2)) (hn : i + 1 < M.2.2.1) (hA : nlA la i) (k : V M d (pc + 2) ((la.set i (some (.long x))).set (i + 1) none) st h Q) : V M d pc la (.long x :: st) h Q := V.go2 (fun C L w => lv_lstore C.1 C.2.1 hd L.lv hn rfl (fun ls' H => w ls' (lh.of2 (v := .long x) hA H))) k
theorem v_iinc {i : Nat} {x v : Int32} {n : Int} (hd : decode M.2.1 pc = .ok (.iinc i n, 3)) (hl : la[i]? = some (some (.int x))) (hv : x + Int32.ofInt n = v) (hn : i < M.2.2.1) (hA : nlA la i) (k : V M d (pc + 3) (la.set i (some (.int v))) st h Q) : V M d pc la st h Q := V.go2 (fun {_ b _ _ _ _ _ _ _ _ _ _ _ _ _ _ _ _ _ _} C L w => by
  obtain ⟨kk, hkk⟩ := List.getElem?_of_mem (lal_mem.mpr ⟨Value.int x, hl, rfl⟩ : (i, rl b (Value.int x)) ∈ lal b la)
  exact lv_iinc C.1 C.2.1 hd L.lv (k := kk) hkk hv hn rfl (fun ls' H => w ls' (lh.of1 (v := .int v) hA H))) k
end RU
