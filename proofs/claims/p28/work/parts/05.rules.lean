section
section RU
variable {M : MT} {d pc : Nat} {la : List (Option Value)} {st : List Value} {h : Hp} {Q : Option Value → Hp → Prop}
theorem v_iconst {n : Int} {v : Int32} (hd : decode M.2.1 pc = .ok (.iconst n, 1)) (hv : Int32.ofInt n = v) (k : V M d (pc + 1) la (.int v :: st) h Q) : V M d pc la (st) h Q := V.go1 (fun C _ w => lv_iconst C.1 C.2.1 hd hv w) k
theorem v_bipush {n : Int} {v : Int32} (hd : decode M.2.1 pc = .ok (.bipush n, 2)) (hv : (Int8.ofInt n).toInt32 = v) (k : V M d (pc + 2) la (.int v :: st) h Q) : V M d pc la (st) h Q := V.go1 (fun C _ w => lv_bipush C.1 C.2.1 hd hv w) k
theorem v_sipush {n : Int} {v : Int32} (hd : decode M.2.1 pc = .ok (.sipush n, 3)) (hv : (Int16.ofInt n).toInt32 = v) (k : V M d (pc + 3) la (.int v :: st) h Q) : V M d pc la (st) h Q := V.go1 (fun C _ w => lv_sipush C.1 C.2.1 hd hv w) k
theorem v_lconst {n : Fin 2} {v : Int64} (hd : decode M.2.1 pc = .ok (.lconst n, 1)) (hv : Int64.ofNat (n : Nat) = v) (k : V M d (pc + 1) la (.long v :: st) h Q) : V M d pc la (st) h Q := V.go1 (fun C _ w => lv_lconst C.1 C.2.1 hd hv w) k
theorem v_iadd {x y : Int32} (hd : decode M.2.1 pc = .ok (.iadd, 1))  (k : V M d (pc + 1) la (.int (x + y) :: st) h Q) : V M d pc la (.int y :: .int x :: st) h Q := V.go1 (fun C _ w => lv_iadd C.1 C.2.1 hd  w) k
theorem v_isub {x y : Int32} (hd : decode M.2.1 pc = .ok (.isub, 1))  (k : V M d (pc + 1) la (.int (x - y) :: st) h Q) : V M d pc la (.int y :: .int x :: st) h Q := V.go1 (fun C _ w => lv_isub C.1 C.2.1 hd  w) k
theorem v_imul {x y : Int32} (hd : decode M.2.1 pc = .ok (.imul, 1))  (k : V M d (pc + 1) la (.int (x * y) :: st) h Q) : V M d pc la (.int y :: .int x :: st) h Q := V.go1 (fun C _ w => lv_imul C.1 C.2.1 hd  w) k
theorem v_iand {x y : Int32} (hd : decode M.2.1 pc = .ok (.iand, 1))  (k : V M d (pc + 1) la (.int (x &&& y) :: st) h Q) : V M d pc la (.int y :: .int x :: st) h Q := V.go1 (fun C _ w => lv_iand C.1 C.2.1 hd  w) k
theorem v_ior {x y : Int32} (hd : decode M.2.1 pc = .ok (.ior, 1))  (k : V M d (pc + 1) la (.int (x ||| y) :: st) h Q) : V M d pc la (.int y :: .int x :: st) h Q := V.go1 (fun C _ w => lv_ior C.1 C.2.1 hd  w) k
theorem v_ixor {x y : Int32} (hd : decode M.2.1 pc = .ok (.ixor, 1))  (k : V M d (pc + 1) la (.int (x ^^^ y) :: st) h Q) : V M d pc la (.int y :: .int x :: st) h Q := V.go1 (fun C _ w => lv_ixor C.1 C.2.1 hd  w) k
theorem v_ishl {x y : Int32} (hd : decode M.2.1 pc = .ok (.ishl, 1))  (k : V M d (pc + 1) la (.int (x <<< (y &&& 31)) :: st) h Q) : V M d pc la (.int y :: .int x :: st) h Q := V.go1 (fun C _ w => lv_ishl C.1 C.2.1 hd  w) k
theorem v_ishr {x y : Int32} (hd : decode M.2.1 pc = .ok (.ishr, 1))  (k : V M d (pc + 1) la (.int (x >>> (y &&& 31)) :: st) h Q) : V M d pc la (.int y :: .int x :: st) h Q := V.go1 (fun C _ w => lv_ishr C.1 C.2.1 hd  w) k
theorem v_idiv {x y : Int32} (hd : decode M.2.1 pc = .ok (.idiv, 1)) (hne : ¬ y = 0) (k : V M d (pc + 1) la (.int (x / y) :: st) h Q) : V M d pc la (.int y :: .int x :: st) h Q := V.go1 (fun C _ w => lv_idiv C.1 C.2.1 hd hne w) k
theorem v_irem {x y : Int32} (hd : decode M.2.1 pc = .ok (.irem, 1)) (hne : ¬ y = 0) (k : V M d (pc + 1) la (.int (x - x / y * y) :: st) h Q) : V M d pc la (.int y :: .int x :: st) h Q := V.go1 (fun C _ w => lv_irem C.1 C.2.1 hd hne w) k
theorem v_ineg {x : Int32} (hd : decode M.2.1 pc = .ok (.ineg, 1))  (k : V M d (pc + 1) la (.int (-x) :: st) h Q) : V M d pc la (.int x :: st) h Q := V.go1 (fun C _ w => lv_ineg C.1 C.2.1 hd  w) k
theorem v_iushr {x y : Int32} (hd : decode M.2.1 pc = .ok (.iushr, 1))  (k : V M d (pc + 1) la (.int ((x.toUInt32 >>> (y.toUInt32 &&& Int32.toUInt32 31)).toInt32) :: st) h Q) : V M d pc la (.int y :: .int x :: st) h Q := V.go1 (fun C _ w => lv_iushr C.1 C.2.1 hd rfl w) k
theorem v_ladd {x y : Int64} (hd : decode M.2.1 pc = .ok (.ladd, 1))  (k : V M d (pc + 1) la (.long (x + y) :: st) h Q) : V M d pc la (.long y :: .long x :: st) h Q := V.go1 (fun C _ w => lv_ladd C.1 C.2.1 hd  w) k
theorem v_lmul {x y : Int64} (hd : decode M.2.1 pc = .ok (.lmul, 1))  (k : V M d (pc + 1) la (.long (x * y) :: st) h Q) : V M d pc la (.long y :: .long x :: st) h Q := V.go1 (fun C _ w => lv_lmul C.1 C.2.1 hd  w) k
theorem v_i2l {x : Int32} (hd : decode M.2.1 pc = .ok (.i2l, 1))  (k : V M d (pc + 1) la (.long x.toInt64 :: st) h Q) : V M d pc la (.int x :: st) h Q := V.go1 (fun C _ w => lv_i2l C.1 C.2.1 hd rfl w) k
theorem v_l2i {x : Int64} (hd : decode M.2.1 pc = .ok (.l2i, 1))  (k : V M d (pc + 1) la (.int x.toInt32 :: st) h Q) : V M d pc la (.long x :: st) h Q := V.go1 (fun C _ w => lv_l2i C.1 C.2.1 hd rfl w) k
theorem v_i2b {x : Int32} (hd : decode M.2.1 pc = .ok (.i2b, 1))  (k : V M d (pc + 1) la (.int x.toInt8.toInt32 :: st) h Q) : V M d pc la (.int x :: st) h Q := V.go1 (fun C _ w => lv_i2b C.1 C.2.1 hd rfl w) k
theorem v_i2s {x : Int32} (hd : decode M.2.1 pc = .ok (.i2s, 1))  (k : V M d (pc + 1) la (.int x.toInt16.toInt32 :: st) h Q) : V M d pc la (.int x :: st) h Q := V.go1 (fun C _ w => lv_i2s C.1 C.2.1 hd rfl w) k
theorem v_lcmp {x y : Int64} (hd : decode M.2.1 pc = .ok (.lcmp, 1))  (k : V M d (pc + 1) la (.int (lg_cmp x y) :: st) h Q) : V M d pc la (.long y :: .long x :: st) h Q := V.go1 (fun C _ w => W.lcmp C.1 C.2.1 hd  w) k
theorem v_dup {v : Value} (hd : decode M.2.1 pc = .ok (.dup, 1)) (hv : v.category = 1) (k : V M d (pc + 1) la (v :: v :: st) h Q) : V M d pc la (v :: st) h Q := V.go1 (fun {_ b _ _ _ _ _ _ _ _ _ _ _ _ _ _ _ _ _ _} C _ w => lv_dup C.1 C.2.1 hd (by rw [rl_cat b v]; exact hv) w) k
theorem v_pop {v : Value} (hd : decode M.2.1 pc = .ok (.pop, 1)) (hv : v.category = 1) (k : V M d (pc + 1) la st h Q) : V M d pc la (v :: st) h Q := V.go1 (fun {_ b _ _ _ _ _ _ _ _ _ _ _ _ _ _ _ _ _ _} C _ w => lv_pop C.1 C.2.1 hd (by rw [rl_cat b v]; exact hv) w) k
theorem v_dup2 {v w0 : Value} (hd : decode M.2.1 pc = .ok (.dup2, 1)) (hv : v.category = 1) (hw : w0.category = 1) (k : V M d (pc + 1) la (v :: w0 :: v :: w0 :: st) h Q) : V M d pc la (v :: w0 :: st) h Q := V.go1 (fun {_ b _ _ _ _ _ _ _ _ _ _ _ _ _ _ _ _ _ _} C _ w => lv_dup2_11 C.1 C.2.1 hd (by rw [rl_cat b v]; exact hv) (by rw [rl_cat b w0]; exact hw) w) k
theorem v_iload_n {i : Nat} {x : Int32} {kf : Fin 4} (hd : decode M.2.1 pc = .ok (.iload_n kf, 1)) (hi : (kf : Nat) = i) (hl : la[i]? = some (some (.int x))) (k : V M d (pc + 1) la (.int x :: st) h Q) : V M d pc la st h Q := V.go1 (fun C L w => lv_iload_n C.1 C.2.1 hd hi (L.2.2 i _ hl) w) k
theorem v_iload {i : Nat} {x : Int32} (hd : decode M.2.1 pc = .ok (.iload i, 2)) (hl : la[i]? = some (some (.int x))) (k : V M d (pc + 2) la (.int x :: st) h Q) : V M d pc la st h Q := V.go1 (fun C L w => lv_iload C.1 C.2.1 hd (L.2.2 i _ hl) w) k
theorem v_lload_n {i : Nat} {x : Int64} {kf : Fin 4} (hd : decode M.2.1 pc = .ok (.lload_n kf, 1)) (hi : (kf : Nat) = i) (hl : la[i]? = some (some (.long x))) (k : V M d (pc + 1) la (.long x :: st) h Q) : V M d pc la st h Q := V.go1 (fun C L w => lv_lload_n C.1 C.2.1 hd hi (L.2.2 i _ hl) w) k
theorem v_lload {i : Nat} {x : Int64} (hd : decode M.2.1 pc = .ok (.lload i, 2)) (hl : la[i]? = some (some (.long x))) (k : V M d (pc + 2) la (.long x :: st) h Q) : V M d pc la st h Q := V.go1 (fun C L w => lv_lload C.1 C.2.1 hd (L.2.2 i _ hl) w) k
theorem v_aload_n {i : Nat} {x : Nat} {kf : Fin 4} (hd : decode M.2.1 pc = .ok (.aload_n kf, 1)) (hi : (kf : Nat) = i) (hl : la[i]? = some (some (.ref x))) (k : V M d (pc + 1) la (.ref x :: st) h Q) : V M d pc la st h Q := V.go1 (fun C L w => lv_aload_n C.1 C.2.1 hd hi (L.2.2 i _ hl) w) k
theorem v_aload {i : Nat} {x : Nat} (hd : decode M.2.1 pc = .ok (.aload i, 2)) (hl : la[i]? = some (some (.ref x))) (k : V M d (pc + 2) la (.ref x :: st) h Q) : V M d pc la st h Q := V.go1 (fun C L w => lv_aload C.1 C.2.1 hd (L.2.2 i _ hl) w) k
theorem v_if_eq {x : Int32} {off : Int} (tgt : Nat) (hd : decode M.2.1 pc = .ok (.ifCond .eq off, 3)) (ht : (pc : Int) + off = (tgt : Int)) (kt : x = 0 → V M d tgt la st h Q) (kf : ¬ x = 0 → V M d (pc + 3) la st h Q) : V M d pc la (.int x :: st) h Q := by
  by_cases hc : x = 0
  · exact V.go1 (fun C _ w => lv_if_eq C.1 C.2.1 hd ht (fun _ => w) (fun q => absurd hc q)) (kt hc)
  · exact V.go1 (fun C _ w => lv_if_eq C.1 C.2.1 hd ht (fun q => absurd q hc) (fun _ => w)) (kf hc)
theorem v_icmp_eq {x y : Int32} {off : Int} (tgt : Nat) (hd : decode M.2.1 pc = .ok (.if_icmp .eq off, 3)) (ht : (pc : Int) + off = (tgt : Int)) (kt : x = y → V M d tgt la st h Q) (kf : ¬ x = y → V M d (pc + 3) la st h Q) : V M d pc la (.int y :: .int x :: st) h Q := by
  by_cases hc : x = y
  · exact V.go1 (fun C _ w => lv_icmp_eq C.1 C.2.1 hd ht (fun _ => w) (fun q => absurd hc q)) (kt hc)
  · exact V.go1 (fun C _ w => lv_icmp_eq C.1 C.2.1 hd ht (fun q => absurd q hc) (fun _ => w)) (kf hc)
theorem v_if_ne {x : Int32} {off : Int} (tgt : Nat) (hd : decode M.2.1 pc = .ok (.ifCond .ne off, 3)) (ht : (pc : Int) + off = (tgt : Int)) (kt : ¬ x = 0 → V M d tgt la st h Q) (kf : x = 0 → V M d (pc + 3) la st h Q) : V M d pc la (.int x :: st) h Q := by
  by_cases hc : x = 0
  · exact V.go1 (fun C _ w => lv_if_ne C.1 C.2.1 hd ht (fun q => absurd hc q) (fun _ => w)) (kf hc)
  · exact V.go1 (fun C _ w => lv_if_ne C.1 C.2.1 hd ht (fun _ => w) (fun q => absurd q hc)) (kt hc)
theorem v_icmp_ne {x y : Int32} {off : Int} (tgt : Nat) (hd : decode M.2.1 pc = .ok (.if_icmp .ne off, 3)) (ht : (pc : Int) + off = (tgt : Int)) (kt : ¬ x = y → V M d tgt la st h Q) (kf : x = y → V M d (pc + 3) la st h Q) : V M d pc la (.int y :: .int x :: st) h Q := by
  by_cases hc : x = y
  · exact V.go1 (fun C _ w => lv_icmp_ne C.1 C.2.1 hd ht (fun q => absurd hc q) (fun _ => w)) (kf hc)
  · exact V.go1 (fun C _ w => lv_icmp_ne C.1 C.2.1 hd ht (fun _ => w) (fun q => absurd q hc)) (kt hc)
theorem v_if_lt {x : Int32} {off : Int} (tgt : Nat) (hd : decode M.2.1 pc = .ok (.ifCond .lt off, 3)) (ht : (pc : Int) + off = (tgt : Int)) (kt : x < 0 → V M d tgt la st h Q) (kf : ¬ x < 0 → V M d (pc + 3) la st h Q) : V M d pc la (.int x :: st) h Q := by
  by_cases hc : x < 0
  · exact V.go1 (fun C _ w => lv_if_lt C.1 C.2.1 hd ht (fun _ => w) (fun q => absurd hc q)) (kt hc)
  · exact V.go1 (fun C _ w => lv_if_lt C.1 C.2.1 hd ht (fun q => absurd q hc) (fun _ => w)) (kf hc)
theorem v_icmp_lt {x y : Int32} {off : Int} (tgt : Nat) (hd : decode M.2.1 pc = .ok (.if_icmp .lt off, 3)) (ht : (pc : Int) + off = (tgt : Int)) (kt : x < y → V M d tgt la st h Q) (kf : ¬ x < y → V M d (pc + 3) la st h Q) : V M d pc la (.int y :: .int x :: st) h Q := by
  by_cases hc : x < y
  · exact V.go1 (fun C _ w => lv_icmp_lt C.1 C.2.1 hd ht (fun _ => w) (fun q => absurd hc q)) (kt hc)
  · exact V.go1 (fun C _ w => lv_icmp_lt C.1 C.2.1 hd ht (fun q => absurd q hc) (fun _ => w)) (kf hc)
theorem v_if_ge {x : Int32} {off : Int} (tgt : Nat) (hd : decode M.2.1 pc = .ok (.ifCond .ge off, 3)) (ht : (pc : Int) + off = (tgt : Int)) (kt : 0 ≤ x → V M d tgt la st h Q) (kf : ¬ 0 ≤ x → V M d (pc + 3) la st h Q) : V M d pc la (.int x :: st) h Q := by
  by_cases hc : 0 ≤ x
  · exact V.go1 (fun C _ w => lv_if_ge C.1 C.2.1 hd ht (fun _ => w) (fun q => absurd hc q)) (kt hc)
  · exact V.go1 (fun C _ w => lv_if_ge C.1 C.2.1 hd ht (fun q => absurd q hc) (fun _ => w)) (kf hc)
theorem v_icmp_ge {x y : Int32} {off : Int} (tgt : Nat) (hd : decode M.2.1 pc = .ok (.if_icmp .ge off, 3)) (ht : (pc : Int) + off = (tgt : Int)) (kt : y ≤ x → V M d tgt la st h Q) (kf : ¬ y ≤ x → V M d (pc + 3) la st h Q) : V M d pc la (.int y :: .int x :: st) h Q := by
  by_cases hc : y ≤ x
  · exact V.go1 (fun C _ w => lv_icmp_ge C.1 C.2.1 hd ht (fun _ => w) (fun q => absurd hc q)) (kt hc)
  · exact V.go1 (fun C _ w => lv_icmp_ge C.1 C.2.1 hd ht (fun q => absurd q hc) (fun _ => w)) (kf hc)
theorem v_if_gt {x : Int32} {off : Int} (tgt : Nat) (hd : decode M.2.1 pc = .ok (.ifCond .gt off, 3)) (ht : (pc : Int) + off = (tgt : Int)) (kt : 0 < x → V M d tgt la st h Q) (kf : ¬ 0 < x → V M d (pc + 3) la st h Q) : V M d pc la (.int x :: st) h Q := by
  by_cases hc : 0 < x
  · exact V.go1 (fun C _ w => lv_if_gt C.1 C.2.1 hd ht (fun _ => w) (fun q => absurd hc q)) (kt hc)
  · exact V.go1 (fun C _ w => lv_if_gt C.1 C.2.1 hd ht (fun q => absurd q hc) (fun _ => w)) (kf hc)
theorem v_icmp_gt {x y : Int32} {off : Int} (tgt : Nat) (hd : decode M.2.1 pc = .ok (.if_icmp .gt off, 3)) (ht : (pc : Int) + off = (tgt : Int)) (kt : y < x → V M d tgt la st h Q) (kf : ¬ y < x → V M d (pc + 3) la st h Q) : V M d pc la (.int y :: .int x :: st) h Q := by
  by_cases hc : y < x
  · exact V.go1 (fun C _ w => lv_icmp_gt C.1 C.2.1 hd ht (fun _ => w) (fun q => absurd hc q)) (kt hc)
  · exact V.go1 (fun C _ w => lv_icmp_gt C.1 C.2.1 hd ht (fun q => absurd q hc) (fun _ => w)) (kf hc)
theorem v_if_le {x : Int32} {off : Int} (tgt : Nat) (hd : decode M.2.1 pc = .ok (.ifCond .le off, 3)) (ht : (pc : Int) + off = (tgt : Int)) (kt : x ≤ 0 → V M d tgt la st h Q) (kf : ¬ x ≤ 0 → V M d (pc + 3) la st h Q) : V M d pc la (.int x :: st) h Q := by
  by_cases hc : x ≤ 0
  · exact V.go1 (fun C _ w => lv_if_le C.1 C.2.1 hd ht (fun _ => w) (fun q => absurd hc q)) (kt hc)
  · exact V.go1 (fun C _ w => lv_if_le C.1 C.2.1 hd ht (fun q => absurd q hc) (fun _ => w)) (kf hc)
theorem v_icmp_le {x y : Int32} {off : Int} (tgt : Nat) (hd : decode M.2.1 pc = .ok (.if_icmp .le off, 3)) (ht : (pc : Int) + off = (tgt : Int)) (kt : x ≤ y → V M d tgt la st h Q) (kf : ¬ x ≤ y → V M d (pc + 3) la st h Q) : V M d pc la (.int y :: .int x :: st) h Q := by
  by_cases hc : x ≤ y
  · exact V.go1 (fun C _ w => lv_icmp_le C.1 C.2.1 hd ht (fun _ => w) (fun q => absurd hc q)) (kt hc)
  · exact V.go1 (fun C _ w => lv_icmp_le C.1 C.2.1 hd ht (fun q => absurd q hc) (fun _ => w)) (kf hc)
theorem v_goto {off : Int} (tgt : Nat) (hd : decode M.2.1 pc = .ok (.goto off, 3)) (ht : (pc : Int) + off = (tgt : Int)) (k : V M d tgt la st h Q) : V M d pc la st h Q := V.go1 (fun C _ w => lv_goto C.1 C.2.1 hd ht w) k
theorem v_tableOut {dflt lo hi0 : Int} {offs : Array Int} {len : Nat} {x : Int32} (tgt : Nat) (hd : decode M.2.1 pc = .ok (.tableswitch dflt lo hi0 offs, len)) (hc : x.toInt < lo ∨ hi0 < x.toInt) (ht : (pc : Int) + dflt = (tgt : Int)) (k : V M d tgt la st h Q) : V M d pc la (.int x :: st) h Q := V.go1 (fun C _ w => lv_tableOut C.1 C.2.1 hd hc ht w) k
theorem v_tableIn {dflt lo hi0 : Int} {offs : Array Int} {len : Nat} {x : Int32} {off : Int} (tgt : Nat) (hd : decode M.2.1 pc = .ok (.tableswitch dflt lo hi0 offs, len)) (h1 : ¬ x.toInt < lo) (h2 : ¬ hi0 < x.toInt) (ho : offs[(x.toInt - lo).toNat]? = some off) (ht : (pc : Int) + off = (tgt : Int)) (k : V M d tgt la st h Q) : V M d pc la (.int x :: st) h Q := V.go1 (fun C _ w => lv_tableIn C.1 C.2.1 hd h1 h2 ho ht w) k
theorem v_ldc {index : Nat} (v : Int32) (hw : Cond.constant M.1.cls index v ∈ gw) (hd : decode M.2.1 pc = .ok (.ldc index, 2)) (k : V M d (pc + 2) la (.int v :: st) h Q) : V M d pc la st h Q := V.go1 (fun C _ w => lv_ldc C.1 C.2.1 C.2.2.2.2.2.1 (C.2.2.2.2.2.2.1 _ (List.mem_cons_of_mem _ hw)) hd w) k
theorem v_ldcw {index : Nat} (v : Int32) (hw : Cond.constant M.1.cls index v ∈ gw) (hd : decode M.2.1 pc = .ok (.ldc_w index, 3)) (k : V M d (pc + 3) la (.int v :: st) h Q) : V M d pc la st h Q := V.go1 (fun C _ w => lv_ldcw C.1 C.2.1 C.2.2.2.2.2.1 (C.2.2.2.2.2.2.1 _ (List.mem_cons_of_mem _ hw)) hd w) k
theorem v_ldc2 {index : Nat} (v : Int64) (hw : Cond.constantLong M.1.cls index v ∈ gw) (hd : decode M.2.1 pc = .ok (.ldc2_w index, 3)) (k : V M d (pc + 3) la (.long v :: st) h Q) : V M d pc la st h Q := V.go1 (fun C _ w => lv_ldc2 C.1 C.2.1 C.2.2.2.2.2.1 (C.2.2.2.2.2.2.1 _ (List.mem_cons_of_mem _ hw)) hd w) k
/-- the locals as the kit lists them -/
def lal (b : Nat) (la : List (Option Value)) : List (Nat × Value) := (List.range la.length).filterMap (fun i => (la.getD i none).map (fun v => (i, rl b v)))
theorem lal_mem {b : Nat} {la : List (Option Value)} {i : Nat} {w : Value} : (i, w) ∈ lal b la ↔ ∃ v, la[i]? = some (some v) ∧ w = rl b v := by
  unfold lal
  rw [List.mem_filterMap]
  constructor
  · rintro ⟨j, hj, hq⟩
    obtain ⟨v, hv, e⟩ := Option.map_eq_some_iff.mp hq
    obtain ⟨rfl, rfl⟩ := Prod.mk.inj e
    refine ⟨v, ?_, rfl⟩
    rw [List.getElem?_eq_getElem (List.mem_range.mp hj)]
    rw [List.getD_eq_getElem?_getD, List.getElem?_eq_getElem (List.mem_range.mp hj)] at hv
    exact congrArg some hv
  · rintro ⟨v, hv, rfl⟩
    have hlt : i < la.length := (List.getElem?_eq_some_iff.mp hv).1
    refine ⟨i, List.mem_range.mpr hlt, ?_⟩
    rw [List.getD_eq_getElem?_getD, hv]
    rfl
theorem lh.lv {b : Nat} {ls : Array Slot} {nL : Nat} {la : List (Option Value)} (h : lh b ls nL la) : lv_has ls nL (lal b la) := ⟨h.1, h.2.1, fun q hq => by
  obtain ⟨i, w⟩ := q
  obtain ⟨v, hv, rfl⟩ := lal_mem.mp hq
  exact h.2.2 i v hv⟩
/-- no long lies just ahead of place i -/
def nlA (la : List (Option Value)) (i : Nat) : Prop := ∀ (j : Nat) (w : Value), j + 1 = i → la[j]? = some (some w) → w.category = 1
theorem lh.of1 {b : Nat} {ls' : Array Slot} {nL i : Nat} {la : List (Option Value)} {v : Value} (hn : nlA la i) (h' : lv_has ls' nL ((i, rl b v) :: (lal b la).filter (fun q => !(q.1 == i) && !(q.1 + 1 == i && q.2.category == 2)))) : lh b ls' nL (la.set i (some v)) := by
  refine ⟨h'.1, h'.2.1, fun j w hj => ?_⟩
  rw [List.getElem?_set] at hj
  by_cases e : i = j
  · subst e
    rw [if_pos rfl] at hj
    split at hj
    · cases hj
      exact h'.2.2 (i, rl b v) List.mem_cons_self
    · cases hj
  · rw [if_neg e] at hj
    refine h'.2.2 (j, rl b w) (List.mem_cons_of_mem _ (List.mem_filter.mpr ⟨lal_mem.mpr ⟨w, hj, rfl⟩, ?_⟩))
    by_cases e2 : j + 1 = i
    · have := hn j w e2 hj
      simp [rl_cat, this, Ne.symm e]
    · simp [e2, Ne.symm e]
theorem lh.of2 {b : Nat} {ls' : Array Slot} {nL i : Nat} {la : List (Option Value)} {v : Value} (hn : nlA la i) (h' : lv_has ls' nL ((i, rl b v) :: (lal b la).filter (fun q => !(q.1 == i) && (!(q.1 == i + 1) && !(q.1 + 1 == i && q.2.category == 2))))) : lh b ls' nL ((la.set i (some v)).set (i + 1) none) := by
  refine ⟨h'.1, h'.2.1, fun j w hj => ?_⟩
  rw [List.getElem?_set] at hj
  by_cases e1 : i + 1 = j
  · rw [if_pos e1] at hj
    split at hj <;> cases hj
  rw [if_neg e1, List.getElem?_set] at hj
  by_cases e : i = j
  · subst e
    rw [if_pos rfl] at hj
    split at hj
    · cases hj
      exact h'.2.2 (i, rl b v) List.mem_cons_self
    · cases hj
  · rw [if_neg e] at hj
    refine h'.2.2 (j, rl b w) (List.mem_cons_of_mem _ (List.mem_filter.mpr ⟨lal_mem.mpr ⟨w, hj, rfl⟩, ?_⟩))
    by_cases e2 : j + 1 = i
    · have := hn j w e2 hj
      simp [rl_cat, this, Ne.symm e, Ne.symm e1]
    · simp [e2, Ne.symm e, Ne.symm e1]
theorem v_istore_n {i : Nat} {x : Int32} {kf : Fin 4} (hd : decode M.2.1 pc = .ok (.istore_n kf, 1)) (hi : (kf : Nat) = i) (hn : i < M.2.2.1) (hA : nlA la i) (k : V M d (pc + 1) (la.set i (some (.int x))) st h Q) : V M d pc la (.int x :: st) h Q := V.go2 (fun C L w => lv_istore_n C.1 C.2.1 hd hi L.lv hn rfl (fun ls' H => w ls' (lh.of1 (v := .int x) hA H))) k
theorem v_istore {i : Nat} {x : Int32} (hd : decode M.2.1 pc = .ok (.istore i, 2)) (hn : i < M.2.2.1) (hA : nlA la i) (k : V M d (pc + 2) (la.set i (some (.int x))) st h Q) : V M d pc la (.int x :: st) h Q := V.go2 (fun C L w => lv_istore C.1 C.2.1 hd L.lv hn rfl (fun ls' H => w ls' (lh.of1 (v := .int x) hA H))) k
theorem v_astore_n {i : Nat} {x : Nat} {kf : Fin 4} (hd : decode M.2.1 pc = .ok (.astore_n kf, 1)) (hi : (kf : Nat) = i) (hn : i < M.2.2.1) (hA : nlA la i) (k : V M d (pc + 1) (la.set i (some (.ref x))) st h Q) : V M d pc la (.ref x :: st) h Q := V.go2 (fun C L w => lv_astore_n C.1 C.2.1 hd hi L.lv hn rfl (fun ls' H => w ls' (lh.of1 (v := .ref x) hA H))) k
theorem v_astore {i : Nat} {x : Nat} (hd : decode M.2.1 pc = .ok (.astore i, 2)) (hn : i < M.2.2.1) (hA : nlA la i) (k : V M d (pc + 2) (la.set i (some (.ref x))) st h Q) : V M d pc la (.ref x :: st) h Q := V.go2 (fun C L w => lv_astore C.1 C.2.1 hd L.lv hn rfl (fun ls' H => w ls' (lh.of1 (v := .ref x) hA H))) k
theorem v_lstore_n {i : Nat} {x : Int64} {kf : Fin 4} (hd : decode M.2.1 pc = .ok (.lstore_n kf, 1)) (hi : (kf : Nat) = i) (hn : i + 1 < M.2.2.1) (hA : nlA la i) (k : V M d (pc + 1) ((la.set i (some (.long x))).set (i + 1) none) st h Q) : V M d pc la (.long x :: st) h Q := V.go2 (fun C L w => lv_lstore_n C.1 C.2.1 hd hi L.lv hn rfl (fun ls' H => w ls' (lh.of2 (v := .long x) hA H))) k
theorem v_lstore {i : Nat} {x : Int64} (hd : decode M.2.1 pc = .ok (.lstore i, 2)) (hn : i + 1 < M.2.2.1) (hA : nlA la i) (k : V M d (pc + 2) ((la.set i (some (.long x))).set (i + 1) none) st h Q) : V M d pc la (.long x :: st) h Q := V.go2 (fun C L w => lv_lstore C.1 C.2.1 hd L.lv hn rfl (fun ls' H => w ls' (lh.of2 (v := .long x) hA H))) k
theorem v_iinc {i : Nat} {x v : Int32} {n : Int} (hd : decode M.2.1 pc = .ok (.iinc i n, 3)) (hl : la[i]? = some (some (.int x))) (hv : x + Int32.ofInt n = v) (hn : i < M.2.2.1) (hA : nlA la i) (k : V M d (pc + 3) (la.set i (some (.int v))) st h Q) : V M d pc la st h Q := V.go2 (fun {_ b _ _ _ _ _ _ _ _ _ _ _ _ _ _ _ _ _ _} C L w => by
  obtain ⟨kk, hkk⟩ := List.getElem?_of_mem (lal_mem.mpr ⟨Value.int x, hl, rfl⟩ : (i, rl b (Value.int x)) ∈ lal b la)
  exact lv_iinc C.1 C.2.1 hd L.lv (k := kk) hkk hv hn rfl (fun ls' H => w ls' (lh.of1 (v := .int v) hA H))) k
end RU
end
section
/-! rows of V for instructions that read, write and make cells -/
def okT : FieldType → Bool
  | .float => false
  | .double => false
  | _ => true
def fvA (ty : FieldType) (h : Hp) (a k : Nat) : Value := match ty with
  | .int => .int (hi h a k)
  | .long => .long (hl h a k)
  | .object _ => va_rf (hr h a k)
  | .array _ => va_rf (hr h a k)
  | t => .int (vp_nar t (hi h a k))
theorem fv_rl (b : Nat) (ty : FieldType) (h : Hp) (a k : Nat) : fval b ty h a k = rl b (fvA ty h a k) := by
  cases ty <;> first | rfl | exact rl_rf b _
def okC (ci : Nat) (C : String) (T : u_T) (N : Nat) : Prop := vwCl[ci]? = some (C, T, N) ∧ clN ci = N ∧ (∀ w ∈ u_ws C T N, w ∈ gw) ∧ (∀ k, k < N → parseFieldDescriptor (T k).2.2.1 = some (clT ci k)) ∧ (∀ a, a < N → ∀ b, b < N → a ≠ b → (T a).2.1 ≠ (T b).2.1) ∧ (∀ k, k < N → okT (clT ci k) = true)
theorem cel_obj {b : Nat} {g : FieldType → ClassId} {h : Hp} {a ci : Nat} (hs : shp a = .inl ci) : cel b g h a = .inr (ci, (List.range (clN ci)).map (fun k => fval b (clT ci k) h a k)) := by
  unfold cel; rw [hs]
theorem cel_arr {b : Nat} {g : FieldType → ClassId} {h : Hp} {a n : Nat} {ty : FieldType} (hs : shp a = .inr (ty, n)) : cel b g h a = .inl (g ty, arE b ty n h a) := by
  unfold cel; rw [hs]
theorem up2_ne {α : Type} {f : Nat → Nat → α} {a a' k : Nat} {v : α} (h : a' ≠ a) : up2 f a k v a' = f a' := by
  funext k'; simp [up2, h]
theorem upA_ne {α : Type} {f : Nat → Nat → α} {a a' : Nat} {v : Nat → α} (h : a' ≠ a) : upA f a v a' = f a' := by
  funext k'; simp [upA, h]
theorem cel_wrI {b : Nat} {g : FieldType → ClassId} {h : Hp} {a k : Nat} {v : Int32} {a' : Nat} (h' : a' ≠ a) : cel b g (wrI h a k v) a' = cel b g h a' := cel_ext rfl (up2_ne h') rfl
theorem cel_wrL {b : Nat} {g : FieldType → ClassId} {h : Hp} {a k : Nat} {v : Int64} {a' : Nat} (h' : a' ≠ a) : cel b g (wrL h a k v) a' = cel b g h a' := cel_ext rfl rfl (up2_ne h')
theorem cel_wrR {b : Nat} {g : FieldType → ClassId} {h : Hp} {a k : Nat} {v : Option Nat} {a' : Nat} (h' : a' ≠ a) : cel b g (wrR h a k v) a' = cel b g h a' := cel_ext (up2_ne h') rfl rfl
theorem cel_wrA {b : Nat} {g : FieldType → ClassId} {h : Hp} {a : Nat} {f : Nat → Int32} {a' : Nat} (h' : a' ≠ a) : cel b g (wrA h a f) a' = cel b g h a' := cel_ext rfl (upA_ne h') rfl
theorem put_done {D : va_G} {b : Nat} {g : FieldType → ClassId} {h h2 : Hp} {s : State} {H H1 : Heap} {locs : List Loc} {a j : Nat} (hP : va_P D vwCl (wd b g h) H) (hS : va_S (fun q => b ≤ q) s.heap H locs) (ha : a < hn h) (hN : hn h2 = hn h) (ho : ∀ a', a' ≠ a → cel b g h2 a' = cel b g h a') (hc : va_at D vwCl (b + a, cel b g h2 a) H1) (z : H1.size = H.size) (oq : ∀ q : Nat, q ≠ b + a → H1[q]? = H[q]?) :
    va_P D vwCl (wd b g h2) H1 ∧ va_S (fun q => b ≤ q) s.heap H1 (locs ++ [⟨b + a, j⟩]) := by
  have h1 := hP.set wd_D (wd_at ha) hc oq
  rw [wd_set hN rfl ho] at h1
  exact ⟨h1, hS.put z oq (Nat.le_add_right _ _)⟩
theorem map_set {α : Type} (f f' : Nat → α) {N k : Nat} {v : α} (hv : f' k = v) (ho : ∀ j, j ≠ k → f' j = f j) : ((List.range N).map f).set k v = (List.range N).map f' := by
  apply List.ext_getElem?
  intro i
  rw [List.getElem?_set]
  by_cases e : k = i
  · subst e
    rw [if_pos rfl]
    by_cases hl : k < N
    · simp [hl, hv]
    · simp [hl]
  · rw [if_neg e]
    by_cases hl : i < N
    · simp [hl, ho i (fun q => e q.symm)]
    · simp [hl]
theorem map_at {α : Type} (f : Nat → α) {N k : Nat} (hk : k < N) : ((List.range N).map f)[k]? = some (f k) := by simp [hk]
section CE
variable {M : MT} {d pc : Nat} {la : List (Option Value)} {st : List Value} {h : Hp} {Q : Option Value → Hp → Prop}
theorem v_getf {C : String} {T : u_T} {N ci k idx a : Nat} {v : Value} (ok : okC ci C T N) (hs : shp a = .inl ci) (ha : a < hn h) (hk : k < N) (hw : Cond.fieldLink M.1.cls idx (T k).1 (T k).2.1 (T k).2.2.1 ∈ gw) (hv : fvA (clT ci k) h a k = v) (hd : decode M.2.1 pc = .ok (.getfield idx, 3)) (kk : V M d (pc + 3) la (v :: st) h Q) : V M d pc la (.ref a :: st) h Q := by
  obtain ⟨o1, o2, o3, o4, o5, o6⟩ := ok
  refine V.go3 (fun {_ b _ D g _ _ _ _ _ _ _ _ _ _ _ _ _ _ _} C0 hP w => ?_) kk
  obtain ⟨hx, hb, -, -, -, hown, hts, hK, -, -⟩ := C0
  exact va_get (D := D) (cl := vwCl) (C := C) (T := T) (N := N) (ci := ci) hx hb hts (fun w hw => List.mem_cons_of_mem _ (o3 w hw)) hown hK.1 hP a (by rw [wd_at ha, cel_obj hs]) o1 k hk (hts _ (List.mem_cons_of_mem _ hw)) (fun _ h9 => h9) (v := rl b v) (by rw [o2, map_at _ hk, fv_rl, hv]) hd w
theorem fv_wrI {ci a k j : Nat} {h : Hp} {x : Int32} {b : Nat} (hj : j ≠ k) : fval b (clT ci j) (wrI h a k x) a j = fval b (clT ci j) h a j := by
  have e : hi (wrI h a k x) a j = hi h a j := by simp [wrI, hi, up2, hj]
  unfold fval
  rw [e]
  rfl
theorem fv_wrR {ci a k j : Nat} {h : Hp} {x : Option Nat} {b : Nat} (hj : j ≠ k) : fval b (clT ci j) (wrR h a k x) a j = fval b (clT ci j) h a j := by
  have e : hr (wrR h a k x) a j = hr h a j := by simp [wrR, hr, up2, hj]
  unfold fval
  rw [e]
  rfl
/-- a field is written: h2 is h but for that field, which then holds v -/
theorem v_put {C : String} {T : u_T} {N ci k idx a : Nat} {v : Value} {h2 : Hp} (ok : okC ci C T N) (hs : shp a = .inl ci) (ha : a < hn h) (hk : k < N) (hw : Cond.fieldLink M.1.cls idx (T k).1 (T k).2.1 (T k).2.2.1 ∈ gw) (hfin : (T k).2.2.2 = false ∨ (M.1.name = "<init>" ∧ (T k).1 = M.1.cls ∧ (T k).2.2.2 = true)) (hN : hn h2 = hn h) (ho : ∀ (b : Nat) (g : FieldType → ClassId) (a' : Nat), a' ≠ a → cel b g h2 a' = cel b g h a') (hf : ∀ (b : Nat) (j : Nat), j ≠ k → fval b (clT ci j) h2 a j = fval b (clT ci j) h a j) (hv : fvA (clT ci k) h2 a k = v) (hn0 : ∀ b : Nat, narrow (clT ci k) (rl b v) = rl b v) (hfit : ∀ b : Nat, fits (clT ci k) (rl b v) = true) (hd : decode M.2.1 pc = .ok (.putfield idx, 3)) (kk : V M d (pc + 3) la st h2 Q) : V M d pc la (v :: .ref a :: st) h Q := by
  obtain ⟨o1, o2, o3, o4, o5, o6⟩ := ok
  refine V.go4 hN (fun {_ b _ D g p _ _ s m args _ meth c H locs _ _ _ ls} C0 hP hS _ w => ?_) kk
  obtain ⟨hx, hb, -, -, -, hown, hts, hK, -, hnm⟩ := C0
  have hin : ∀ w ∈ u_ws C T N, w ∈ wsM M := fun w hw => List.mem_cons_of_mem _ (o3 w hw)
  have hap := va_apart (own := M.1.cls) hts hin (clT ci) o4 o5 hK.1 o1
  obtain ⟨r, h1, cell, q1, q2, q3, q4⟩ := hP a _ (by rw [wd_at ha, cel_obj hs])
  have hr : r = (C, T, N) := Option.some.inj (h1.symm.trans o1)
  subst hr
  obtain ⟨hSl, hfc, kC, hkC, hkind⟩ := hK.1.1 ci _ o1
  obtain ⟨cf, kf, fi, f, hi0, hsl⟩ := hSl k hk
  have hst := (u_facts hfc hkC (u_lays hts hin hk) hi0).1
  have hl : k < ((List.range (clN ci)).map (fun k => fval b (clT ci k) h a k)).length := by simp [o2]; exact hk
  have fin : ∀ H' : Heap, H'[b + a]? = some (cell.setSlot (D.2 ci k) (rl b v)) → H'.size = H.size → (∀ q, q ≠ b + a → H'[q]? = H[q]?) → va_P D vwCl (wd b g h2) H' ∧ va_S (fun q => b ≤ q) s.heap H' (locs ++ [⟨b + a, D.2 ci k⟩]) := by
    intro H' e1 z oq
    refine put_done hP hS ha hN (fun a' h' => ho b g a' h') ?_ z oq
    rw [cel_obj hs]
    refine ⟨_, o1, t_OB.to (V := updV (vp_V ((List.range (clN ci)).map (fun k => fval b (clT ci k) h a k))) k (rl b v)) ⟨_, e1, q2, q3, t_set q4 hap hk (rl b v)⟩ (fun j _ => ?_)⟩
    rw [vp_updV_set hl]
    rw [map_set (fun k => fval b (clT ci k) h a k) (fun k => fval b (clT ci k) h2 a k) (by rw [fv_rl, hv]) (fun j hj => hf b j hj)]
  rcases hfin with hfin | ⟨hini, hdecl, hfin⟩
  · have hlay := hts _ (hin _ (u_in_lay hk))
    unfold u_lay at hlay
    rw [if_neg (by rw [hfin]; decide)] at hlay
    have h6 := u_store hfc hkC hkind hlay hi0 (o4 k hk) (hn0 b) (hfit b)
    refine W.putK hx hb (f := f) ⟨hown, hts _ (List.mem_cons_of_mem _ hw), ⟨_, _, _, hi0⟩, hst⟩ (by rw [q2]; exact h6) q1 q3 (by rw [hsl]; exact k2_hasslot (q4 k hk)) rfl rfl hd fun H' e1 e2 e3 => ?_
    rw [hsl] at e1 ⊢
    obtain ⟨z1, z2⟩ := fin H' e1 e2 e3
    exact w H' _ e2 z1 z2
  · have hlay := hts _ (hin _ (u_in_lay hk))
    unfold u_lay at hlay
    rw [if_pos hfin] at hlay
    have hcf : m.cls = cf := by
      obtain ⟨_, _, c', _, _, _, -, -, hf', -, -, -, hown2, -⟩ := Cond.laysFinal_spec hlay
      have e1 : c' = cf := by have := hi0.symm.trans hf'; simp at this; exact this.1.symm
      rw [hdecl] at hown2
      rw [← e1]; exact Option.some.inj (hown.symm.trans hown2)
    have h6 := u_fits hfc hkC hkind (Or.inr hlay) hi0 (o4 k hk) (hn0 b) (hfit b)
    refine W.putFinK hx hb hown (hts _ (List.mem_cons_of_mem _ hw)) hi0 hst hcf (hnm.trans hini) (by rw [q2]; exact h6) q1 q3 (by rw [hsl]; exact k2_hasslot (q4 k hk)) rfl rfl hd fun H' e1 e2 e3 => ?_
    rw [hsl] at e1 ⊢
    obtain ⟨z1, z2⟩ := fin H' e1 e2 e3
    exact w H' _ e2 z1 z2
theorem v_puti {C : String} {T : u_T} {N ci k idx a : Nat} {x : Int32} (ok : okC ci C T N) (hs : shp a = .inl ci) (ha : a < hn h) (hk : k < N) (hw : Cond.fieldLink M.1.cls idx (T k).1 (T k).2.1 (T k).2.2.1 ∈ gw) (hfin : (T k).2.2.2 = false) (hty : clT ci k = .int) (hd : decode M.2.1 pc = .ok (.putfield idx, 3)) (kk : V M d (pc + 3) la st (wrI h a k x) Q) : V M d pc la (.int x :: .ref a :: st) h Q :=
  v_put (h2 := wrI h a k x) ok hs ha hk hw (Or.inl hfin) rfl (fun b g a' h' => cel_wrI h') (fun b j hj => fv_wrI hj) (by rw [hty]; simp [fvA, wrI, hi, up2]) (fun b => by rw [hty]; rfl) (fun b => by rw [hty]; rfl) hd kk
theorem v_putz {C : String} {T : u_T} {N ci k idx a : Nat} {x : Int32} (ok : okC ci C T N) (hs : shp a = .inl ci) (ha : a < hn h) (hk : k < N) (hw : Cond.fieldLink M.1.cls idx (T k).1 (T k).2.1 (T k).2.2.1 ∈ gw) (hfin : (T k).2.2.2 = false) (hty : clT ci k = .boolean) (hx : x = 0 ∨ x = 1) (hd : decode M.2.1 pc = .ok (.putfield idx, 3)) (kk : V M d (pc + 3) la st (wrI h a k x) Q) : V M d pc la (.int x :: .ref a :: st) h Q :=
  v_put (h2 := wrI h a k x) ok hs ha hk hw (Or.inl hfin) rfl (fun b g a' h' => cel_wrI h') (fun b j hj => fv_wrI hj) (by rw [hty]; rcases hx with rfl | rfl <;> simp [fvA, wrI, hi, up2] <;> decide) (fun b => by rw [hty]; rcases hx with rfl | rfl <;> rfl) (fun b => by rw [hty]; rcases hx with rfl | rfl <;> rfl) hd kk
theorem v_putr {C : String} {T : u_T} {N ci k idx a q : Nat} (ok : okC ci C T N) (hs : shp a = .inl ci) (ha : a < hn h) (hk : k < N) (hw : Cond.fieldLink M.1.cls idx (T k).1 (T k).2.1 (T k).2.2.1 ∈ gw) (hfin : (T k).2.2.2 = false ∨ (M.1.name = "<init>" ∧ (T k).1 = M.1.cls ∧ (T k).2.2.2 = true)) (hty : (∃ n, clT ci k = .object n) ∨ ∃ t, clT ci k = .array t) (hd : decode M.2.1 pc = .ok (.putfield idx, 3)) (kk : V M d (pc + 3) la st (wrR h a k (some q)) Q) : V M d pc la (.ref q :: .ref a :: st) h Q :=
  v_put (h2 := wrR h a k (some q)) ok hs ha hk hw hfin rfl (fun b g a' h' => cel_wrR h') (fun b j hj => fv_wrR hj) (by rcases hty with ⟨n, e⟩ | ⟨t, e⟩ <;> rw [e] <;> simp [fvA, wrR, hr, up2, va_rf]) (fun b => by rcases hty with ⟨n, e⟩ | ⟨t, e⟩ <;> rw [e] <;> rfl) (fun b => by rcases hty with ⟨n, e⟩ | ⟨t, e⟩ <;> rw [e] <;> rfl) hd kk
end CE
end
section
/-! arrays -/
def ix (i : Int32) (n j : Nat) : Prop := vp_in i n ∧ i.toNatClampNeg = j
theorem ix_nI {j n : Nat} (hj : j < n) (hN : n < 2 ^ 31) : ix (nI j) n j := ⟨vp_in_nI hj hN, nI_clamp (Nat.lt_trans hj hN)⟩
section AR
variable {M : MT} {d pc : Nat} {la : List (Option Value)} {st : List Value} {h : Hp} {Q : Option Value → Hp → Prop}
theorem at_int {b : Nat} {g : FieldType → ClassId} {a n : Nat} (hs : shp a = .inr (.int, n)) (ha : a < hn h) : (wd b g h)[a]? = some (b + a, .inl (g .int, n, .inl (hi h a))) := by rw [wd_at ha, cel_arr hs]; rfl
theorem at_nar {b : Nat} {g : FieldType → ClassId} {a n : Nat} {ty : FieldType} (ht : ty = .byte ∨ ty = .boolean ∨ ty = .short) (hs : shp a = .inr (ty, n)) (ha : a < hn h) : (wd b g h)[a]? = some (b + a, .inl (g ty, n, .inl (fun i => vp_nar ty (hi h a i)))) := by
  rw [wd_at ha, cel_arr hs]
  rcases ht with rfl | rfl | rfl <;> rfl
theorem at_long {b : Nat} {g : FieldType → ClassId} {a n : Nat} (hs : shp a = .inr (.long, n)) (ha : a < hn h) : (wd b g h)[a]? = some (b + a, .inl (g .long, n, .inr (.inl (hl h a)))) := by rw [wd_at ha, cel_arr hs]; rfl
theorem at_ref {b : Nat} {g : FieldType → ClassId} {a n : Nat} (hs : shp a = .inr (.object RX8, n)) (ha : a < hn h) : (wd b g h)[a]? = some (b + a, .inl (g (.object RX8), n, .inr (.inr (.inr (.inr (fun i => (hr h a i).map (b + ·))))))) := by rw [wd_at ha, cel_arr hs]; rfl
theorem v_iaload {a n : Nat} {i : Int32} {j : Nat} (hs : shp a = .inr (.int, n)) (ha : a < hn h) (hj : ix i n j) (hd : decode M.2.1 pc = .ok (.iaload, 1)) (k : V M d (pc + 1) la (.int (hi h a j) :: st) h Q) : V M d pc la (.int i :: .ref a :: st) h Q := by
  obtain ⟨hin, rfl⟩ := hj
  exact V.go3 (fun C hP w => va_iald C.1 C.2.1 C.2.2.2.2.2.2.2.1.1 hP a 0 (at_int hs ha) rfl hin hd w) k
theorem v_baload {a n : Nat} {i : Int32} {j : Nat} (hs : shp a = .inr (.byte, n)) (ha : a < hn h) (hj : ix i n j) (hd : decode M.2.1 pc = .ok (.baload, 1)) (k : V M d (pc + 1) la (.int (vp_nar .byte (hi h a j)) :: st) h Q) : V M d pc la (.int i :: .ref a :: st) h Q := by
  obtain ⟨hin, rfl⟩ := hj
  exact V.go3 (fun C hP w => va_bald C.1 C.2.1 C.2.2.2.2.2.2.2.1.1 hP a 1 (at_nar (Or.inl rfl) hs ha) rfl hin hd w) k
theorem v_zaload {a n : Nat} {i : Int32} {j : Nat} (hs : shp a = .inr (.boolean, n)) (ha : a < hn h) (hj : ix i n j) (hd : decode M.2.1 pc = .ok (.baload, 1)) (k : V M d (pc + 1) la (.int (vp_nar .boolean (hi h a j)) :: st) h Q) : V M d pc la (.int i :: .ref a :: st) h Q := by
  obtain ⟨hin, rfl⟩ := hj
  exact V.go3 (fun C hP w => va_zald C.1 C.2.1 C.2.2.2.2.2.2.2.1.1 hP a 2 (at_nar (Or.inr (Or.inl rfl)) hs ha) rfl hin hd w) k
theorem v_saload {a n : Nat} {i : Int32} {j : Nat} (hs : shp a = .inr (.short, n)) (ha : a < hn h) (hj : ix i n j) (hd : decode M.2.1 pc = .ok (.saload, 1)) (k : V M d (pc + 1) la (.int (vp_nar .short (hi h a j)) :: st) h Q) : V M d pc la (.int i :: .ref a :: st) h Q := by
  obtain ⟨hin, rfl⟩ := hj
  exact V.go3 (fun C hP w => va_sald C.1 C.2.1 C.2.2.2.2.2.2.2.1.1 hP a 3 (at_nar (Or.inr (Or.inr rfl)) hs ha) rfl hin hd w) k
theorem v_laload {a n : Nat} {i : Int32} {j : Nat} (hs : shp a = .inr (.long, n)) (ha : a < hn h) (hj : ix i n j) (hd : decode M.2.1 pc = .ok (.laload, 1)) (k : V M d (pc + 1) la (.long (hl h a j) :: st) h Q) : V M d pc la (.int i :: .ref a :: st) h Q := by
  obtain ⟨hin, rfl⟩ := hj
  exact V.go3 (fun C hP w => va_lald C.1 C.2.1 C.2.2.2.2.2.2.2.1.1 hP a 4 (at_long hs ha) rfl hin hd w) k
theorem v_aaload {a n q : Nat} {i : Int32} {j : Nat} (hs : shp a = .inr (.object RX8, n)) (ha : a < hn h) (hj : ix i n j) (hq : hr h a j = some q) (hd : decode M.2.1 pc = .ok (.aaload, 1)) (k : V M d (pc + 1) la (.ref q :: st) h Q) : V M d pc la (.int i :: .ref a :: st) h Q := by
  obtain ⟨hin, rfl⟩ := hj
  refine V.go3 (fun {_ b _ _ _ _ _ _ _ _ _ _ _ _ _ _ _ _ _ _} C hP w => va_aldq C.1 C.2.1 C.2.2.2.2.2.2.2.1.1 hP a 5 (at_ref hs ha) rfl hin hd ?_) k
  rw [hq]
  exact w
theorem v_alen {a n : Nat} {ty : FieldType} {v : Int32} (hs : shp a = .inr (ty, n)) (ha : a < hn h) (t0 : Nat) (ht : ∀ g : FieldType → ClassId, (tyl g)[t0]? = some (g ty, ty)) (hv : Int32.ofNat n = v) (hd : decode M.2.1 pc = .ok (.arraylength, 1)) (k : V M d (pc + 1) la (.int v :: st) h Q) : V M d pc la (.ref a :: st) h Q :=
  V.go3 (fun {_ b _ _ g _ _ _ _ _ _ _ _ _ _ _ _ _ _ _} C hP w => va_alen C.1 C.2.1 C.2.2.2.2.2.2.2.1.1 hP a t0 (x := arE b ty n h a) (by rw [wd_at ha, cel_arr hs]) (ht g) (by show Int32.ofNat (arE b ty n h a).1 = v; exact hv) hd w) k
theorem v_iastore {a n : Nat} {i x : Int32} {j : Nat} (hs : shp a = .inr (.int, n)) (ha : a < hn h) (hj : ix i n j) (hd : decode M.2.1 pc = .ok (.iastore, 1)) (k : V M d (pc + 1) la st (wrI h a j x) Q) : V M d pc la (.int x :: .int i :: .ref a :: st) h Q := by
  obtain ⟨hin, rfl⟩ := hj
  refine V.go4 (h2 := wrI h a i.toNatClampNeg x) rfl (fun {_ b _ D g p _ _ s m args _ meth c H locs _ _ _ ls} C hP hS _ w => ?_) k
  have hc : H[b + a]? = some (vp_cell (g .int) (n, .inl (hi h a))) := hP a _ (at_int hs ha)
  refine W.iast C.1 C.2.1 hc ((C.2.2.2.2.2.2.2.1.1.2 0 _ rfl).1 n (fun j => .int (hi h a j))) (fun q => by cases q) (by show ¬ (i < 0 ∨ (arrV _ _ _).slots.size ≤ _); rw [arrV_size]; exact hin) rfl rfl hd fun H1 e z oq => ?_
  obtain ⟨z1, z2⟩ := put_done (h2 := wrI h a i.toNatClampNeg x) (j := i.toNatClampNeg) hP hS ha rfl (fun a' h' => cel_wrI h') (by
    rw [cel_arr hs]
    show H1[b + a]? = some (vp_cell _ _)
    rw [e]
    show some ((arrV _ _ _).setSlot _ _) = some (arrV (g .int) n (fun j => .int (hi (wrI h a i.toNatClampNeg x) a j)))
    rw [arrV_store]
    congr 2
    funext q
    by_cases hq : q = i.toNatClampNeg
    · subst hq; simp [updV, wrI, hi, up2]
    · simp [updV, wrI, hi, up2, hq]) z oq
  exact w H1 _ z z1 z2
theorem v_bastore {a n : Nat} {i x : Int32} {j : Nat} (hs : shp a = .inr (.byte, n)) (ha : a < hn h) (hj : ix i n j) (hd : decode M.2.1 pc = .ok (.bastore, 1)) (k : V M d (pc + 1) la st (wrI h a j x) Q) : V M d pc la (.int x :: .int i :: .ref a :: st) h Q := by
  obtain ⟨hin, rfl⟩ := hj
  refine V.go4 (h2 := wrI h a i.toNatClampNeg x) rfl (fun {_ b _ D g p _ _ s m args _ meth c H locs _ _ _ ls} C hP hS _ w => ?_) k
  have hc : H[b + a]? = some (vp_cell (g .byte) (n, .inl (fun i => vp_nar .byte (hi h a i)))) := hP a _ (at_nar (Or.inl rfl) hs ha)
  refine W.bast C.1 C.2.1 hc ((C.2.2.2.2.2.2.2.1.1.2 1 _ rfl).1 n (fun j => .int (vp_nar .byte (hi h a j)))) (fun q => by cases q) (by show ¬ (i < 0 ∨ (arrV _ _ _).slots.size ≤ _); rw [arrV_size]; exact hin) rfl rfl hd fun H1 e z oq => ?_
  obtain ⟨z1, z2⟩ := put_done (h2 := wrI h a i.toNatClampNeg x) (j := i.toNatClampNeg) hP hS ha rfl (fun a' h' => cel_wrI h') (by
    rw [cel_arr hs]
    show H1[b + a]? = some (vp_cell _ _)
    rw [e]
    show some ((arrV _ _ _).setSlot _ _) = some (arrV (g .byte) n (fun j => .int (vp_nar .byte (hi (wrI h a i.toNatClampNeg x) a j))))
    rw [arrV_store]
    congr 2
    funext q
    by_cases hq : q = i.toNatClampNeg
    · subst hq; simp [updV, wrI, hi, up2]; rfl
    · simp [updV, wrI, hi, up2, hq]) z oq
  exact w H1 _ z z1 z2
theorem v_zastore {a n : Nat} {i x : Int32} {j : Nat} (hs : shp a = .inr (.boolean, n)) (ha : a < hn h) (hj : ix i n j) (hd : decode M.2.1 pc = .ok (.bastore, 1)) (k : V M d (pc + 1) la st (wrI h a j x) Q) : V M d pc la (.int x :: .int i :: .ref a :: st) h Q := by
  obtain ⟨hin, rfl⟩ := hj
  refine V.go4 (h2 := wrI h a i.toNatClampNeg x) rfl (fun {_ b _ D g p _ _ s m args _ meth c H locs _ _ _ ls} C hP hS _ w => ?_) k
  have hc : H[b + a]? = some (vp_cell (g .boolean) (n, .inl (fun i => vp_nar .boolean (hi h a i)))) := hP a _ (at_nar (Or.inr (Or.inl rfl)) hs ha)
  refine W.zast C.1 C.2.1 hc ((C.2.2.2.2.2.2.2.1.1.2 2 _ rfl).1 n (fun j => .int (vp_nar .boolean (hi h a j)))) (fun q => by cases q) (by show ¬ (i < 0 ∨ (arrV _ _ _).slots.size ≤ _); rw [arrV_size]; exact hin) rfl rfl hd fun H1 e z oq => ?_
  obtain ⟨z1, z2⟩ := put_done (h2 := wrI h a i.toNatClampNeg x) (j := i.toNatClampNeg) hP hS ha rfl (fun a' h' => cel_wrI h') (by
    rw [cel_arr hs]
    show H1[b + a]? = some (vp_cell _ _)
    rw [e]
    show some ((arrV _ _ _).setSlot _ _) = some (arrV (g .boolean) n (fun j => .int (vp_nar .boolean (hi (wrI h a i.toNatClampNeg x) a j))))
    rw [arrV_store]
    congr 2
    funext q
    by_cases hq : q = i.toNatClampNeg
    · subst hq; simp [updV, wrI, hi, up2]; rfl
    · simp [updV, wrI, hi, up2, hq]) z oq
  exact w H1 _ z z1 z2
theorem v_sastore {a n : Nat} {i x : Int32} {j : Nat} (hs : shp a = .inr (.short, n)) (ha : a < hn h) (hj : ix i n j) (hd : decode M.2.1 pc = .ok (.sastore, 1)) (k : V M d (pc + 1) la st (wrI h a j x) Q) : V M d pc la (.int x :: .int i :: .ref a :: st) h Q := by
  obtain ⟨hin, rfl⟩ := hj
  refine V.go4 (h2 := wrI h a i.toNatClampNeg x) rfl (fun {_ b _ D g p _ _ s m args _ meth c H locs _ _ _ ls} C hP hS _ w => ?_) k
  have hc : H[b + a]? = some (vp_cell (g .short) (n, .inl (fun i => vp_nar .short (hi h a i)))) := hP a _ (at_nar (Or.inr (Or.inr rfl)) hs ha)
  refine W.sast C.1 C.2.1 hc ((C.2.2.2.2.2.2.2.1.1.2 3 _ rfl).1 n (fun j => .int (vp_nar .short (hi h a j)))) (fun q => by cases q) (by show ¬ (i < 0 ∨ (arrV _ _ _).slots.size ≤ _); rw [arrV_size]; exact hin) rfl rfl hd fun H1 e z oq => ?_
  obtain ⟨z1, z2⟩ := put_done (h2 := wrI h a i.toNatClampNeg x) (j := i.toNatClampNeg) hP hS ha rfl (fun a' h' => cel_wrI h') (by
    rw [cel_arr hs]
    show H1[b + a]? = some (vp_cell _ _)
    rw [e]
    show some ((arrV _ _ _).setSlot _ _) = some (arrV (g .short) n (fun j => .int (vp_nar .short (hi (wrI h a i.toNatClampNeg x) a j))))
    rw [arrV_store]
    congr 2
    funext q
    by_cases hq : q = i.toNatClampNeg
    · subst hq; simp [updV, wrI, hi, up2]; rfl
    · simp [updV, wrI, hi, up2, hq]) z oq
  exact w H1 _ z z1 z2
theorem v_lastore {a n : Nat} {i : Int32} {x : Int64} {j : Nat} (hs : shp a = .inr (.long, n)) (ha : a < hn h) (hj : ix i n j) (hd : decode M.2.1 pc = .ok (.lastore, 1)) (k : V M d (pc + 1) la st (wrL h a j x) Q) : V M d pc la (.long x :: .int i :: .ref a :: st) h Q := by
  obtain ⟨hin, rfl⟩ := hj
  refine V.go4 (h2 := wrL h a i.toNatClampNeg x) rfl (fun {_ b _ D g p _ _ s m args _ meth c H locs _ _ _ ls} C hP hS _ w => ?_) k
  have hc : H[b + a]? = some (vp_cell (g .long) (n, .inr (.inl (hl h a)))) := hP a _ (at_long hs ha)
  refine W.last C.1 C.2.1 hc ((C.2.2.2.2.2.2.2.1.1.2 4 _ rfl).1 n (fun j => .long (hl h a j))) (fun q => by cases q) (by show ¬ (i < 0 ∨ (arrV _ _ _).slots.size ≤ _); rw [arrV_size]; exact hin) rfl rfl hd fun H1 e z oq => ?_
  obtain ⟨z1, z2⟩ := put_done (h2 := wrL h a i.toNatClampNeg x) (j := i.toNatClampNeg) hP hS ha rfl (fun a' h' => cel_wrL h') (by
    rw [cel_arr hs]
    show H1[b + a]? = some (vp_cell _ _)
    rw [e]
    show some ((arrV _ _ _).setSlot _ _) = some (arrV (g .long) n (fun j => .long (hl (wrL h a i.toNatClampNeg x) a j)))
    rw [arrV_store]
    congr 2
    funext q
    by_cases hq : q = i.toNatClampNeg
    · subst hq; simp [updV, wrL, hl, up2]
    · simp [updV, wrL, hl, up2, hq]) z oq
  exact w H1 _ z z1 z2
theorem v_aastore {a n q : Nat} {i : Int32} {j : Nat} (hs : shp a = .inr (.object RX8, n)) (ha : a < hn h) (hq : shp q = .inl 8) (hqa : q < hn h) (hj : ix i n j) (hd : decode M.2.1 pc = .ok (.aastore, 1)) (k : V M d (pc + 1) la st (wrR h a j (some q)) Q) : V M d pc la (.ref q :: .int i :: .ref a :: st) h Q := by
  obtain ⟨hin, rfl⟩ := hj
  have hlt : i.toNatClampNeg < n := Nat.not_le.mp fun q => hin (Or.inr q)
  have h0 : ¬ i < 0 := fun q => hin (Or.inl q)
  refine V.go4 (h2 := wrR h a i.toNatClampNeg (some q)) rfl (fun {_ b _ D g p _ _ s m args _ meth c H locs _ _ _ ls} C hP hS _ w => ?_) k
  have hK := C.2.2.2.2.2.2.2.1.1
  have hc : H[b + a]? = some (vp_cell (g (.object RX8)) (n, .inr (.inr (.inr (.inr (fun i => (hr h a i).map (b + ·))))))) := hP a _ (at_ref hs ha)
  obtain ⟨r', hr', cellV, g1, g2, g3, -⟩ := hP q _ (by rw [wd_at hqa, cel_obj hq])
  have hcls := (hK.1 8 _ (rfl : vwCl[8]? = some (RX8, TX8, 7))).2
  obtain ⟨kA, comp, k1, k2, k3, -⟩ := (hK.2 5 _ (rfl : (tyl g)[5]? = some (g (.object RX8), .object RX8))).2
  have hcomp : comp = D.1 8 := Option.some.inj (k3.symm.trans hcls.1)
  subst hcomp
  obtain ⟨kC, hkC, -⟩ := hcls.2
  refine W.aast C.1 C.2.1 hc (fun q h => by cases h) (fun h => by cases h) k1 k2 rfl hkC ⟨h0, by show _ < (arrV _ _ _).slots.size; rw [arrV_size]; exact hlt⟩ g1 (fun q h => by rw [g3] at h; cases h) (by rw [g2]; exact hkC) (by rw [g2]; exact va_assign hcls) rfl rfl hd fun H1 e z oq => ?_
  obtain ⟨z1, z2⟩ := put_done (h2 := wrR h a i.toNatClampNeg (some q)) (j := i.toNatClampNeg) hP hS ha rfl (fun a' h' => cel_wrR h') (by
    rw [cel_arr hs]
    show H1[b + a]? = some (vp_cell _ _)
    rw [e]
    show some ((arrV _ _ _).setSlot _ _) = some (arrV (g (.object RX8)) n (fun j => va_rf ((hr (wrR h a i.toNatClampNeg (some q)) a j).map (b + ·))))
    rw [arrV_store]
    congr 2
    funext q'
    by_cases hq' : q' = i.toNatClampNeg
    · subst hq'; simp [updV, wrR, hr, up2, va_rf]
    · simp [updV, wrR, hr, up2, hq']) z oq
  exact w H1 _ z z1 z2
end AR
end
section
/-! making cells, calls, answers, the entry -/
theorem fv_new (b : Nat) (ty : FieldType) (h : Hp) (k : Nat) (ht : okT ty = true) : fval b ty (mkH h) (hn h) k = defaultValue ty := by
  have e1 : hi (mkH h) (hn h) k = 0 := by simp [mkH, hi, upA]
  have e2 : hr (mkH h) (hn h) k = none := by simp [mkH, hr, upA]
  have e3 : hl (mkH h) (hn h) k = 0 := by simp [mkH, hl, upA]
  unfold fval
  rw [e1, e2, e3]
  cases ty <;> first | rfl | (simp [okT] at ht; done)
theorem cel_mkH {b : Nat} {g : FieldType → ClassId} {h : Hp} {a : Nat} (ha : a < hn h) : cel b g (mkH h) a = cel b g h a := cel_ext (upA_ne (Nat.ne_of_lt ha)) (upA_ne (Nat.ne_of_lt ha)) (upA_ne (Nat.ne_of_lt ha))
/-- a step that makes one cell -/
theorem V.go5 {M : MT} {d pc pc2 : Nat} {la : List (Option Value)} {st st2 : List Value} {h : Hp} {Q : Option Value → Hp → Prop}
    (f : ∀ {l : Launch} {b n0 : Nat} {D : va_G} {g : FieldType → ClassId} {p : Program} {e : Env} {R : Room} {s : State} {m : MethodId} {args : Array Value} {below : List Frame} {meth : Method} {c : Code} {H : Heap} {locs : List Loc} {cells slots : Nat} {Qm : State → Prop} {ls : Array Slot},
      Cx M b n0 D g p s m args meth c → H.size = b + hn h → va_P D vwCl (wd b g h) H → va_S (fun q => b ≤ q) s.heap H locs → lh b ls M.2.2.1 la → cells + 1 ≤ R.cells → slots + szS (hn h) ≤ R.slots → (∀ H1 : Heap, H1.size = b + hn h + 1 → va_P D vwCl (wd b g (mkH h)) H1 → va_S (fun q => b ≤ q) s.heap H1 locs → W p l e R s m args below meth c H1 locs (cells + 1) (slots + szS (hn h)) Qm (F0 m pc2 ls (st2.map (rl b)))) → W p l e R s m args below meth c H locs cells slots Qm (F0 m pc ls (st.map (rl b))))
    (k : V M d pc2 la st2 (mkH h) Q) : V M d pc la st h Q := by
  obtain ⟨r, h', hQ, hle, hX⟩ := k
  have hle' : hn h + 1 ≤ hn h' := hle
  refine ⟨r, h', hQ, Nat.le_of_succ_le hle', fun l b n0 D g p e s m args below meth c H locs ls C hn0 hz hP hS hl => ?_⟩
  have hm : sl (hn h + 1) ≤ sl (hn h') := sl_mono hle'
  have hm0 : sl n0 ≤ sl (hn h) := sl_mono hn0
  have e1 : sl (hn h + 1) = sl (hn h) + szS (hn h) := rfl
  refine f C hz hP hS hl (by show hn h - n0 + 1 ≤ hn h' - n0; omega) (by show sl (hn h) - sl n0 + szS (hn h) ≤ sl (hn h') - sl n0; omega) (fun H1 hz1 hP1 hS1 => ?_)
  have := hX l b n0 D g p e s m args below meth c H1 locs ls C (Nat.le_succ_of_le hn0) (by rw [hz1]; rfl) hP1 hS1 hl
  have e2 : hn (mkH h) - n0 = hn h - n0 + 1 := by show hn h + 1 - n0 = _; omega
  have e3 : sl (hn (mkH h)) - sl n0 = sl (hn h) - sl n0 + szS (hn h) := by show sl (hn h + 1) - sl n0 = _; omega
  rw [e2, e3] at this
  exact this
theorem made {D : va_G} {b : Nat} {g : FieldType → ClassId} {h : Hp} {s : State} {H H1 : Heap} {locs : List Loc} (hz : H.size = b + hn h) (hP : va_P D vwCl (wd b g h) H) (hS : va_S (fun q => b ≤ q) s.heap H locs) (z : H1.size = b + hn h + 1) (o : ∀ q, q < b + hn h → H1[q]? = H[q]?) (hc : va_at D vwCl (b + hn h, cel b g (mkH h) (hn h)) H1) : va_P D vwCl (wd b g (mkH h)) H1 ∧ va_S (fun q => b ≤ q) s.heap H1 locs := by
  have hk : ∀ (k : Nat) (x : Nat × va_E), (wd b g h)[k]? = some x → H1[x.1]? = H[x.1]? := fun k x hx => o x.1 (by rw [← hz]; exact (hP k x hx).lt)
  refine ⟨?_, ⟨Nat.le_trans hS.1 (by omega), fun x h1 h2 => (o x (by rw [← hz]; exact Nat.lt_of_lt_of_le h1 hS.1)).trans (hS.2.1 x h1 h2), hS.2.2⟩⟩
  rw [← wd_push (h := h) (h' := mkH h) rfl rfl (fun a' ha' => cel_mkH ha')]
  refine (hP.kept hk).app (fun k x hx => ?_)
  have hz : k < 1 := (List.getElem?_eq_some_iff.mp hx).1
  rw [show k = 0 by omega] at hx
  cases hx
  exact hc
section CA
variable {M : MT} {d pc : Nat} {la : List (Option Value)} {st : List Value} {h : Hp} {Q : Option Value → Hp → Prop}
theorem v_new {C : String} {T : u_T} {N ci idx : Nat} (ok : okC ci C T N) (hs : shp (hn h) = .inl ci) (h1 : Cond.classLink M.1.cls idx C ∈ gw) (h2 : Cond.instantiable C N ∈ gw) (h3 : Cond.initialized C ∈ gw) (hd : decode M.2.1 pc = .ok (.new idx, 3)) (k : V M d (pc + 3) la (.ref (hn h) :: st) (mkH h) Q) : V M d pc la st h Q := by
  obtain ⟨o1, o2, o3, o4, o5, o6⟩ := ok
  refine V.go5 (fun {_ b _ D g p _ _ s m args _ meth c H locs _ _ _ ls} C0 hz hP hS _ hc hsl w => ?_) k
  obtain ⟨hx, hb, -, -, -, hown, hts, hK, -, -⟩ := C0
  have hin : ∀ w ∈ u_ws C T N, w ∈ wsM M := fun w hw => List.mem_cons_of_mem _ (o3 w hw)
  have hsz : szS (hn h) = N := by unfold szS; rw [hs]; exact o2
  rw [hsz] at hsl w
  have hKn := hK.1.1 ci _ o1
  refine W.newcK hx hb hown (hts _ (List.mem_cons_of_mem _ h1)) (hts _ (List.mem_cons_of_mem _ h2)) (hts _ (List.mem_cons_of_mem _ h3)) rfl hd hc hsl hKn.2.1 hz fun H1 kC hkC e1 z1 o1' => ?_
  obtain ⟨p1, p2⟩ := made hz hP hS z1 o1' (by
    rw [cel_obj hs]
    refine ⟨_, o1, (u_born (clT ci) hts hin hKn hkC e1 o4).to (fun j hj => ?_)⟩
    show defaultValue (clT ci j) = List.getD _ _ _
    rw [List.getD_eq_getElem?_getD, map_at _ (by rw [o2]; exact hj)]
    exact (fv_new b (clT ci j) h j (o6 j hj)).symm)
  exact w H1 z1 p1 p2
theorem v_newarray {n : Int32} {N : Nat} {atype : ArrayType} {ty : FieldType} (hty : newarray.typeOf atype = ty) (t0 : Nat) (ht : ∀ g : FieldType → ClassId, (tyl g)[t0]? = some (g ty, ty)) (hs : shp (hn h) = .inr (ty, N)) (hw : Cond.arrayClass ty ∈ gw) (hp : ty ≠ .float ∧ ty ≠ .double) (hr0 : ∀ C, ty ≠ .object C) (hr1 : ∀ C, ty ≠ .array C) (hn0 : ¬ n < 0) (hN : n.toNatClampNeg = N) (hbytes : N * componentBytes ty ≤ 536870912) (hd : decode M.2.1 pc = .ok (.newarray atype, 2)) (k : V M d (pc + 2) la (.ref (hn h) :: st) (mkH h) Q) : V M d pc la (.int n :: st) h Q := by
  subst hty
  refine V.go5 (fun {_ b _ D g p _ _ s m args _ meth c H locs _ _ _ ls} C0 hz hP hS _ hc hsl w => ?_) k
  obtain ⟨hx, hb, -, -, -, hown, hts, hK, -, -⟩ := C0
  have hsz : szS (hn h) = N := by unfold szS; rw [hs]
  rw [hsz] at hsl w
  refine va_newaK hx hb (hts _ (List.mem_cons_of_mem _ hw)) rfl hd rfl hn0 hN hbytes hc hsl hz fun H1 cA e1 z1 o1 hAr hNm => ?_
  have hg : cA = g (newarray.typeOf atype) := by
    have h2 := (hK.1.2 t0 _ (ht g)).2
    have h3 : s.vm.findClass ("[" ++ (newarray.typeOf atype).toString) = some (g (newarray.typeOf atype)) := by
      cases atype <;> exact h2
    exact Option.some.inj (hNm.symm.trans h3)
  obtain ⟨p1, p2⟩ := made hz hP hS z1 o1 (by
    rw [cel_arr hs]
    show H1[b + hn h]? = some (vp_cell _ _)
    rw [e1, hg]
    have e1' : hi (mkH h) (hn h) = fun _ => 0 := by funext k; simp [mkH, hi, upA]
    have e3' : hl (mkH h) (hn h) = fun _ => 0 := by funext k; simp [mkH, hl, upA]
    unfold arE
    rw [e1', e3']
    revert hp hr0 hr1
    cases atype <;> intro hp hr0 hr1 <;> first | rfl | (show some (arrV _ N (fun _ => Value.int 0)) = some (arrV _ N (fun _ => Value.int (vp_nar .boolean 0))); rw [show vp_nar .boolean 0 = 0 by decide]; done) | exact absurd rfl hp.1 | exact absurd rfl hp.2)
  exact w H1 z1 p1 p2
theorem v_anewarray {n : Int32} {N idx : Nat} (hs : shp (hn h) = .inr (.object RX8, N)) (h1 : Cond.classLink M.1.cls idx RX8 ∈ gw) (hn0 : ¬ n < 0) (hN : n.toNatClampNeg = N) (hbytes : N * 4 ≤ 536870912) (hd : decode M.2.1 pc = .ok (.anewarray idx, 3)) (k : V M d (pc + 3) la (.ref (hn h) :: st) (mkH h) Q) : V M d pc la (.int n :: st) h Q := by
  subst hN
  refine V.go5 (fun {_ b _ D g p _ _ s m args _ meth c H locs _ _ _ ls} C0 hz hP hS _ hc hsl w => ?_) k
  obtain ⟨hx, hb, -, -, -, hown, hts, hK, -, -⟩ := C0
  have hsz : szS (hn h) = n.toNatClampNeg := by unfold szS; rw [hs]
  rw [hsz] at hsl w
  refine W.anew hx hb hown (hts _ (List.mem_cons_of_mem _ h1)) (va_AO.use hK.2.2.1) rfl hd rfl hn0 hbytes hc hsl fun cA kA comp f1 f2 f3 f4 => ?_
  generalize hH1 : H.push ({ cls := cA, slots := Array.replicate n.toNatClampNeg .null, vm := .none } : Cell) = H1
  have z1 : H1.size = b + hn h + 1 := by rw [← hH1, Array.size_push, hz]
  have e1 : H1[b + hn h]? = some (arrV cA n.toNatClampNeg (fun _ => .null)) := by rw [← hz, ← hH1, Array.getElem?_push_size, ← arrV_new]
  have o1 : ∀ q : Nat, q < b + hn h → H1[q]? = H[q]? := fun q hq => by rw [← hH1, Array.getElem?_push, if_neg (by rw [hz]; exact Nat.ne_of_lt hq)]
  have hg : cA = g (.object RX8) := by
    obtain ⟨kA', comp', k1, k2, k3, k4⟩ := (hK.1.2 5 _ (rfl : (tyl g)[5]? = some (g (.object RX8), .object RX8))).2
    exact Option.some.inj (f1.symm.trans k4)
  obtain ⟨p1, p2⟩ := made hz hP hS z1 o1 (by
    rw [cel_arr hs]
    show H1[b + hn h]? = some (vp_cell _ _)
    rw [e1, hg]
    have e1' : hr (mkH h) (hn h) = fun _ => none := by funext k; simp [mkH, hr, upA]
    unfold arE
    rw [e1']
    rfl)
  rw [hz]
  exact w H1 z1 p1 p2
/-- answers -/
theorem v_end {r : Option Value} (hQ : Q r h) (f : ∀ {l : Launch} {b n0 : Nat} {D : va_G} {g : FieldType → ClassId} {p : Program} {e : Env} {s : State} {m : MethodId} {args : Array Value} {below : List Frame} {meth : Method} {c : Code} {H : Heap} {locs : List Loc} {R : Room} {cells slots : Nat} {ls : Array Slot}, Cx M b n0 D g p s m args meth c → (∀ t : State, t.heap = H → s.WarmedH t.vm → Qx b D g r h args s (.returned (r.map (rl b))) t) → (∀ q ∈ locs, b ≤ q.base) → W p l e R s m args below meth c H locs cells slots (MQ below (Qx b D g r h) args s cells slots (fun q => b ≤ q)) (F0 m pc ls (st.map (rl b)))) : V M d pc la st h Q :=
  ⟨r, h, hQ, Nat.le_refl _, fun l b n0 D g p e s m args below meth c H locs ls C hn0 hz hP hS hl => f C (fun t ht hW => ⟨rfl, by rw [ht]; exact hz, by rw [ht]; exact hP, hS.F ht⟩) hS.2.2⟩
theorem v_ireturn {x : Int32} (hr : M.2.2.2 = some .int) (hd : decode M.2.1 pc = .ok (.ireturn, 1)) (hQ : Q (some (.int x)) h) : V M d pc la [.int x] h Q :=
  v_end hQ (fun C hq hf => W.iret C.1 C.2.1 (C.2.2.1.trans hr) hq hf hd (hlocks := C.2.2.2.1))
theorem v_zreturn {x : Int32} (hr : M.2.2.2 = some .boolean) (hx : x = 0 ∨ x = 1) (hd : decode M.2.1 pc = .ok (.ireturn, 1)) (hQ : Q (some (.int x)) h) : V M d pc la [.int x] h Q :=
  v_end hQ (fun C hq hf => W.zret (ty := .boolean) C.1 C.2.1 (C.2.2.1.trans hr) (by rcases hx with rfl | rfl <;> rfl) hq hf hd (hlocks := C.2.2.2.1))
theorem v_lreturn {x : Int64} (hr : M.2.2.2 = some .long) (hd : decode M.2.1 pc = .ok (.lreturn, 1)) (hQ : Q (some (.long x)) h) : V M d pc la [.long x] h Q :=
  v_end hQ (fun C hq hf => W.lret C.1 C.2.1 (C.2.2.1.trans hr) hq hf hd (hlocks := C.2.2.2.1))
theorem v_return (hr : M.2.2.2 = none) (hd : decode M.2.1 pc = .ok (.return_, 1)) (hQ : Q none h) : V M d pc la [] h Q :=
  v_end hQ (fun C hq hf => W.vret C.1 C.2.1 (C.2.2.1.trans hr) hq hf hd (hlocks := C.2.2.2.1))
end CA
/-! the entry -/
def enL : List Value → List (Option Value)
  | [] => []
  | v :: vs => if v.category = 2 then some v :: none :: enL vs else some v :: enL vs
theorem enL_args (b : Nat) (n : Nat) : ∀ (vs : List Value) (off i : Nat) (v : Value), (enL vs ++ List.replicate n none)[i]? = some (some v) → (off + i, rl b v) ∈ lv_args off (vs.map (rl b))
  | [], off, i, v, h => by
    simp only [enL, List.nil_append] at h
    rw [List.getElem?_replicate] at h
    split at h <;> cases h
  | w :: vs, off, i, v, h => by
    simp only [enL] at h
    show _ ∈ (off, rl b w) :: lv_args (if (rl b w).category = 2 then off + 2 else off + 1) (vs.map (rl b))
    rw [rl_cat]
    by_cases hc : w.category = 2
    · rw [if_pos hc] at h ⊢
      match i with
      | 0 => simp only [List.cons_append, List.getElem?_cons_zero] at h; cases h; exact List.mem_cons_self
      | 1 => simp only [List.cons_append, List.getElem?_cons_succ, List.getElem?_cons_zero] at h; cases h
      | i + 2 =>
        simp only [List.cons_append, List.getElem?_cons_succ] at h
        have := enL_args b n vs (off + 2) i v h
        rw [show off + (i + 2) = off + 2 + i by omega]
        exact List.mem_cons_of_mem _ this
    · rw [if_neg hc] at h ⊢
      match i with
      | 0 => simp only [List.cons_append, List.getElem?_cons_zero] at h; cases h; exact List.mem_cons_self
      | i + 1 =>
        simp only [List.cons_append, List.getElem?_cons_succ] at h
        have := enL_args b n vs (off + 1) i v h
        rw [show off + (i + 1) = off + 1 + i by omega]
        exact List.mem_cons_of_mem _ this
theorem lg_len (b : Nat) : ∀ vs : List Value, (lg_sl (vs.map (rl b))).length = (enL vs).length
  | [] => rfl
  | w :: vs => by
    have ih := lg_len b vs
    show ((if (rl b w).category = 2 then [Slot.val (rl b w), Slot.second] else [Slot.val (rl b w)]) ++ lg_sl (vs.map (rl b))).length = (if w.category = 2 then some w :: none :: enL vs else some w :: enL vs).length
    rw [rl_cat, List.length_append, ih]
    split <;> simp <;> omega
/-- a contract out of the walk of its body -/
theorem Kc.of {M : MT} {d : Nat} {as : List Value} {h : Hp} {Q : Option Value → Hp → Prop} (la : List (Option Value)) (ok : okM M) (hla : enL as ++ List.replicate (M.2.2.1 - (enL as).length) none = la) (hlen : (enL as).length ≤ M.2.2.1) (k : V M d 0 la [] h Q) : Kc M d as h Q := by
  obtain ⟨r, h', hQ, hle, hX⟩ := k
  refine ⟨r, h', hQ, hle, fun l b D g => ?_⟩
  refine Met.ofW (cc := M.2.1) (maxL := M.2.2.1) (ret := M.2.2.2) ok.2.2.2.2.1 rfl ?_
  intro p e s m args below meth c s₁ B hml hv
  obtain ⟨rfl, hsz, hP, hK⟩ := hv
  have hts := atoms_spec (ws := wsM M) B.pre
  have hown : s.vm.findClass M.1.cls = some m.cls := findClass_of_methodNamed B.named
  rw [lg_entry_eq]
  have hl := lv_entry (as.map (rl b)) (n := M.2.2.1) (by rw [lg_len]; exact hlen)
  have := hX l b (hn h) D g p e s m (as.map (rl b)).toArray below meth c s.heap [] _ ⟨B.exec, B.bytes, B.returns, B.notSynchronized, hml, hown, hts, hK, hsz, (name_of_methodNamed B.named B.method).1⟩ (Nat.le_refl _) hsz hP va_S.rf (⟨hl.1, hl.2.1, fun i v hi => hl.2.2 (i, rl b v) (by
    rw [← hla] at hi
    have := enL_args b _ as 0 i v hi
    rwa [Nat.zero_add] at this)⟩ : lh b _ M.2.2.1 la)
  rw [Nat.sub_self, Nat.sub_self] at this
  exact this
/-! calls -/
theorem W.ofRun {p : Program} {l : Launch} {e : Env} {R : Room} {s : State} {m : MethodId} {args : Array Value} {below : List Frame} {meth : Method} {c : Code} {H : Heap} {locs : List Loc} {cells slots mc ms pc : Nat} {Q : State → Prop} {ls : Array Slot} {st0 rest : List Value} {Qa : State → Outcome → State → Prop} {free : Addr → Prop}
    (hr : va_Run p l e R s m args below meth c H locs cells slots mc ms (F0 m pc ls st0) rest Qa free)
    (kk : ∀ (v : Option Value) (st₀ t : State) (L : List Loc), st₀.heap = H → Qa st₀ (.returned v) t → (∀ q ∈ L, free q.base) → W p l e R s m args below meth c t.heap (locs ++ L) (cells + mc) (slots + ms) Q (F0 m (pc + 3) ls (v.toList ++ rest))) : W p l e R s m args below meth c H locs cells slots Q (F0 m pc ls st0) := by
  intro T hT X
  obtain ⟨v, st₀, t, T', L, h0, X', hL, e1, e2, hq, st⟩ := hr T hT X
  obtain ⟨t2, a1, b1⟩ := kk v st₀ t L h0 hq hL T' e1 X'
  exact ⟨t2, st t2 a1, b1⟩
theorem good_all {x : Cond} {N : MT} (hN : Cond.code N.1 N.2.1 N.2.2.1 N.2.2.2 ∈ gw) : GoodIn (x :: gw) (wsM N) := by
  intro w hw
  rcases List.mem_cons.mp hw with rfl | hw
  · exact ⟨List.mem_cons_of_mem _ hN, good_of_word (List.mem_filter.mp hN).2⟩
  · exact ⟨List.mem_cons_of_mem _ hw, good_of_word (List.mem_filter.mp hw).2⟩
def lnk (own : String) (idx : Nat) (y : MethodName) : Prop := Cond.methodLink own idx y ∈ gw ∨ ∃ host : String, Cond.methodLinkNest own idx y host ∈ nestW
theorem opt_map (b : Nat) (r : Option Value) (st : List Value) : (r.map (rl b)).toList ++ st.map (rl b) = (r.toList ++ st).map (rl b) := by cases r <;> rfl
theorem Pc_blind {b : Nat} {D : va_G} {g : FieldType → ClassId} {h : Hp} {as : List Value} : FrameBlind (va_Pc as (fun U => U.heap.size = b + hn h ∧ va_P D vwCl (wd b g h) U.heap ∧ Kx b D g U)) := fun a U f mk q => ⟨q.1, q.2.1, q.2.2.1, q.2.2.2.call⟩
/-- a call, over what its run gives -/
theorem V.call {M N : MT} {d pc : Nat} {la : List (Option Value)} {st0 st : List Value} {as : List Value} {h : Hp} {Q Qk : Option Value → Hp → Prop} (hk : Kc N d as h Qk)
    (f : ∀ {l : Launch} {b n0 : Nat} {D : va_G} {g : FieldType → ClassId} {p : Program} {e : Env} {R : Room} {s : State} {m : MethodId} {args : Array Value} {below : List Frame} {meth : Method} {c : Code} {H : Heap} {locs : List Loc} {cells slots : Nat} {ls : Array Slot} {r1 : Option Value} {h1 : Hp},
      Cx M b n0 D g p s m args meth c → H.size = b + hn h → va_P D vwCl (wd b g h) H → va_S (fun q => b ≤ q) s.heap H locs → lh b ls M.2.2.1 la → (rmd d (hn h) (hn h1)).frames + 1 ≤ R.frames → 80 + (rmd d (hn h) (hn h1)).locals ≤ R.locals → cells + (hn h1 - hn h) ≤ R.cells → slots + (sl (hn h1) - sl (hn h)) ≤ R.slots →
      Met l N.1 (wsM N) (rmd d (hn h) (hn h1)) (va_Pc (as.map (rl b)) (fun U => U.heap.size = b + hn h ∧ va_P D vwCl (wd b g h) U.heap ∧ Kx b D g U)) (Qx b D g r1 h1) (hn h1 - hn h) (sl (hn h1) - sl (hn h)) (fun q => b ≤ q) →
      va_Run p l e R s m args below meth c H locs cells slots (hn h1 - hn h) (sl (hn h1) - sl (hn h)) (F0 m pc ls (st0.map (rl b))) (st.map (rl b)) (Qx b D g r1 h1 (as.map (rl b)).toArray) (fun q => b ≤ q))
    (kk : ∀ (r1 : Option Value) (h1 : Hp), Qk r1 h1 → V M (d + 1) (pc + 3) la (r1.toList ++ st) h1 Q) : V M (d + 1) pc la st0 h Q := by
  obtain ⟨r1, h1, hq1, hle1, hM⟩ := hk
  obtain ⟨r, h', hQ, hle, hX⟩ := kk r1 h1 hq1
  refine ⟨r, h', hQ, Nat.le_trans hle1 hle, fun l b n0 D g p e s m args below meth c H locs ls C hn0 hz hP hS hl => ?_⟩
  have hm1 : sl (hn h) ≤ sl (hn h1) := sl_mono hle1
  have hm2 : sl (hn h1) ≤ sl (hn h') := sl_mono hle
  have hm0 : sl n0 ≤ sl (hn h) := sl_mono hn0
  refine W.ofRun (f C hz hP hS hl (Nat.le_refl _) (by show 80 + 80 * d ≤ 80 * (d + 1); omega) (by show hn h - n0 + (hn h1 - hn h) ≤ hn h' - n0; omega) (by show sl (hn h) - sl n0 + (sl (hn h1) - sl (hn h)) ≤ sl (hn h') - sl n0; omega) (hM l b D g)) (fun v st₀ t L h0 hq hL => ?_)
  obtain ⟨hv, hz1, hP1, hF1, hF2⟩ := hq
  cases hv
  rw [opt_map, show hn h - n0 + (hn h1 - hn h) = hn h1 - n0 by omega, show sl (hn h) - sl n0 + (sl (hn h1) - sl (hn h)) = sl (hn h1) - sl n0 by omega]
  rw [h0] at hF1 hF2
  refine hX l b n0 D g p e s m args below meth c t.heap (locs ++ L) ls C (Nat.le_trans hn0 hle1) hz1 hP1 ⟨Nat.le_trans hS.1 hF1, fun q g1 g2 => (hF2 q (Nat.lt_of_lt_of_le g1 hS.1) g2).trans (hS.2.1 q g1 g2), fun q hq => ?_⟩ hl
  rcases List.mem_append.mp hq with h | h
  · exact hS.2.2 q h
  · exact hL q h
def catS (st : List Value) : Nat := (st.map fun v => v.category).sum
theorem catS_rl (b : Nat) (st : List Value) : ((st.map (rl b)).map fun v => v.category).sum = catS st := by
  unfold catS
  rw [List.map_map]
  congr 1
  apply List.map_congr_left
  intro v _
  exact rl_cat b v
theorem rev_rl (b : Nat) (as st : List Value) : (as.reverse ++ st).map (rl b) = (as.map (rl b)).reverse ++ st.map (rl b) := by simp
theorem v_callV {M N : MT} {d pc ci a idx n : Nat} {la : List (Option Value)} {st : List Value} {h : Hp} {Q Qk : Option Value → Hp → Prop} (As : List Value) {st0 : List Value} (h0 : st0 = As.reverse ++ .ref a :: st) (ok : okM N) (hl : lnk M.1.cls idx N.1) (h1 : Cond.instanceMethod N.1 ∈ gw) (h2 : Cond.selects N.1.cls N.1 N.1 ∈ gw) (hn1 : (parseMethodDescriptor N.1.desc).map (fun d => d.parameters.length) = some n) (hn2 : As.length = n) {T : u_T} {NN : Nat} (hcl : vwCl[ci]? = some (N.1.cls, T, NN)) (hs : shp a = .inl ci) (ha : a < hn h) (hcat : catS st ≤ 8) (hd : decode M.2.1 pc = .ok (.invokevirtual idx, 3)) (hk : Kc N d (.ref a :: As) h Qk) (kk : ∀ (r1 : Option Value) (h1 : Hp), Qk r1 h1 → V M (d + 1) (pc + 3) la (r1.toList ++ st) h1 Q) : V M (d + 1) pc la st0 h Q := by
  subst h0
  refine V.call (st := st) hk (fun {l b n0 D g p e R s m args below meth c H locs cells slots ls r1 h1'} C hz hP hS hL hf1 hf2 hf3 hf4 hM => ?_) kk
  obtain ⟨hx, hb, -, -, hml, hown, hts, hK, -, -⟩ := C
  obtain ⟨k1, k2, k3, k4, k5, k6⟩ := ok
  rw [rev_rl]
  have hrc : ∃ cell : Cell, H[b + a]? = some cell ∧ cell.vm.isStatics = false ∧ s.vm.findClass N.1.cls = some cell.cls := va_recv hK.1 hP hcl (by rw [wd_at ha, cel_obj hs])
  have hPr : PreV s H N.1.cls (b + a) (va_Pc (((.ref a :: As) : List Value).map (rl b)) (fun U => U.heap.size = b + hn h ∧ va_P D vwCl (wd b g h) U.heap ∧ Kx b D g U)) (As.map (rl b)) := ⟨Pc_blind, hrc, fun U hU hW => ⟨rfl, by rw [hU]; exact hz, by rw [hU]; exact hP, hK.warm hW (by rw [hU]; exact hS.2.1)⟩⟩
  have hsg : ∀ sig, parseMethodDescriptor N.1.desc = some sig → n = sig.parameters.length := fun sig h => by rw [h] at hn1; exact (Option.some.inj hn1).symm
  have hlo : 8 + (N.2.2.1 + 11) + (rmd d (hn h) (hn h1')).locals ≤ R.locals := by omega
  rcases hl with hl | ⟨host, hl⟩
  · exact va_runV (cc := M.2.1) (bytes := N.2.1) (maxL := N.2.2.1) (ret := N.2.2.2) (As := As.map (rl b)) ⟨hx, hb, hml, hown, hts⟩ hM ⟨⟨rfl, rfl, hf1, hlo, pay_in hts (good_all k1), List.mem_cons_self, hts _ (List.mem_cons_of_mem _ k1), hts _ (List.mem_cons_of_mem _ k2), ⟨k3, k4⟩, hsg, hts _ (List.mem_cons_of_mem _ hl)⟩, hts _ (List.mem_cons_of_mem _ h1), hts _ (List.mem_cons_of_mem _ h2)⟩ hPr rfl (by rw [List.length_map]; exact hn2) hL.1 rfl (lv_room (by rw [catS_rl]; exact hcat)) hd ⟨hf3, hf4⟩
  · exact va_runVN (cc := M.2.1) (bytes := N.2.1) (maxL := N.2.2.1) (ret := N.2.2.2) (host := host) (As := As.map (rl b)) ⟨hx, hb, hml, hown, hts⟩ hM ⟨⟨⟨rfl, rfl, hf1, hlo, pay_in hts (good_all k1), List.mem_cons_self⟩, hts _ (List.mem_cons_of_mem _ k1), hts _ (List.mem_cons_of_mem _ k2), ⟨k3, k4⟩, hsg, va_Nw.use rfl (hK.2.1 _ hl)⟩, hts _ (List.mem_cons_of_mem _ h1), hts _ (List.mem_cons_of_mem _ h2)⟩ hPr rfl (by rw [List.length_map]; exact hn2) hL.1 rfl (lv_room (by rw [catS_rl]; exact hcat)) hd ⟨hf3, hf4⟩
theorem v_callS {M N : MT} {d pc idx n : Nat} {la : List (Option Value)} {st : List Value} {h : Hp} {Q Qk : Option Value → Hp → Prop} (As : List Value) {st0 : List Value} (h0 : st0 = As.reverse ++ st) (ok : okM N) (hl : lnk M.1.cls idx N.1) (h1 : Cond.static N.1 ∈ gw) (hn1 : (parseMethodDescriptor N.1.desc).map (fun d => d.parameters.length) = some n) (hn2 : As.length = n) (hcat : catS st ≤ 8) (hd : decode M.2.1 pc = .ok (.invokestatic idx, 3)) (hk : Kc N d As h Qk) (kk : ∀ (r1 : Option Value) (h1 : Hp), Qk r1 h1 → V M (d + 1) (pc + 3) la (r1.toList ++ st) h1 Q) : V M (d + 1) pc la st0 h Q := by
  subst h0
  refine V.call (st := st) hk (fun {l b n0 D g p e R s m args below meth c H locs cells slots ls r1 h1'} C hz hP hS hL hf1 hf2 hf3 hf4 hM => ?_) kk
  obtain ⟨hx, hb, -, -, hml, hown, hts, hK, -, -⟩ := C
  obtain ⟨k1, k2, k3, k4, k5, k6⟩ := ok
  rw [rev_rl]
  have hPr : PreS s H (va_Pc (As.map (rl b)) (fun U => U.heap.size = b + hn h ∧ va_P D vwCl (wd b g h) U.heap ∧ Kx b D g U)) (As.map (rl b)) := ⟨Pc_blind, fun U hU hW => ⟨rfl, by rw [hU]; exact hz, by rw [hU]; exact hP, hK.warm hW (by rw [hU]; exact hS.2.1)⟩⟩
  have hsg : ∀ sig, parseMethodDescriptor N.1.desc = some sig → n = sig.parameters.length := fun sig h => by rw [h] at hn1; exact (Option.some.inj hn1).symm
  have hlo : 8 + (N.2.2.1 + 11) + (rmd d (hn h) (hn h1')).locals ≤ R.locals := by omega
  rcases hl with hl | ⟨host, hl⟩
  · exact va_runS (cc := M.2.1) (bytes := N.2.1) (maxL := N.2.2.1) (ret := N.2.2.2) (As := As.map (rl b)) ⟨hx, hb, hml, hown, hts⟩ hM ⟨⟨rfl, rfl, hf1, hlo, pay_in hts (good_all k1), List.mem_cons_self, hts _ (List.mem_cons_of_mem _ k1), hts _ (List.mem_cons_of_mem _ k2), ⟨k3, k4⟩, hsg, hts _ (List.mem_cons_of_mem _ hl)⟩, hts _ (List.mem_cons_of_mem _ h1)⟩ hPr rfl (by rw [List.length_map]; exact hn2) hL.1 rfl (lv_room (by rw [catS_rl]; exact hcat)) hd ⟨hf3, hf4⟩
  · exact va_runSN (cc := M.2.1) (bytes := N.2.1) (maxL := N.2.2.1) (ret := N.2.2.2) (host := host) (As := As.map (rl b)) ⟨hx, hb, hml, hown, hts⟩ hM ⟨⟨⟨rfl, rfl, hf1, hlo, pay_in hts (good_all k1), List.mem_cons_self⟩, hts _ (List.mem_cons_of_mem _ k1), hts _ (List.mem_cons_of_mem _ k2), ⟨k3, k4⟩, hsg, va_Nw.use rfl (hK.2.1 _ hl)⟩, hts _ (List.mem_cons_of_mem _ h1), trivial⟩ hPr rfl (by rw [List.length_map]; exact hn2) hL.1 rfl (lv_room (by rw [catS_rl]; exact hcat)) hd ⟨hf3, hf4⟩
theorem v_callI {M N : MT} {d pc a idx n : Nat} {la : List (Option Value)} {st : List Value} {h : Hp} {Q Qk : Option Value → Hp → Prop} (As : List Value) {st0 : List Value} (h0 : st0 = As.reverse ++ .ref a :: st) (ok : okM N) (hl : lnk M.1.cls idx N.1) (h1 : Cond.instanceMethod N.1 ∈ gw) (hret : N.2.2.2 = none) (hnm : N.1.name = "<init>") (hn1 : (parseMethodDescriptor N.1.desc).map (fun d => d.parameters.length) = some n) (hn2 : As.length = n) (hcat : catS st ≤ 8) (hd : decode M.2.1 pc = .ok (.invokespecial idx, 3)) (hk : Kc N d (.ref a :: As) h Qk) (kk : ∀ (r1 : Option Value) (h1 : Hp), Qk r1 h1 → V M (d + 1) (pc + 3) la (r1.toList ++ st) h1 Q) : V M (d + 1) pc la st0 h Q := by
  subst h0
  obtain ⟨yN, cN, lN0, rN⟩ := N
  have hret : rN = none := hret
  subst hret
  refine V.call (st := st) hk (fun {l b n0 D g p e R s m args below meth c H locs cells slots ls r1 h1'} C hz hP hS hL hf1 hf2 hf3 hf4 hM => ?_) kk
  obtain ⟨hx, hb, -, -, hml, hown, hts, hK, -, -⟩ := C
  obtain ⟨k1, k2, k3, k4, k5, k6⟩ := ok
  rw [rev_rl]
  have hPr : PreS s H (va_Pc (((.ref a :: As) : List Value).map (rl b)) (fun U => U.heap.size = b + hn h ∧ va_P D vwCl (wd b g h) U.heap ∧ Kx b D g U)) (.ref (b + a) :: As.map (rl b)) := ⟨Pc_blind, fun U hU hW => ⟨rfl, by rw [hU]; exact hz, by rw [hU]; exact hP, hK.warm hW (by rw [hU]; exact hS.2.1)⟩⟩
  have hsg : ∀ sig, parseMethodDescriptor yN.desc = some sig → n = sig.parameters.length := fun sig h => by rw [h] at hn1; exact (Option.some.inj hn1).symm
  have hlo : 8 + (lN0 + 11) + (rmd d (hn h) (hn h1')).locals ≤ R.locals := by
    have : lN0 ≤ 60 := k6
    omega
  rcases hl with hl | ⟨host, hl⟩
  · exact va_runI (cc := M.2.1) (bytes := cN) (maxL := lN0) (As := As.map (rl b)) ⟨hx, hb, hml, hown, hts⟩ hM ⟨⟨rfl, rfl, hf1, hlo, pay_in hts (good_all (N := (yN, cN, lN0, none)) k1), List.mem_cons_self, hts _ (List.mem_cons_of_mem _ k1), hts _ (List.mem_cons_of_mem _ k2), ⟨k3, k4⟩, hsg, hts _ (List.mem_cons_of_mem _ hl)⟩, hnm, hts _ (List.mem_cons_of_mem _ h1)⟩ hPr rfl (by rw [List.length_map]; exact hn2) hL.1 rfl (lv_room (by rw [catS_rl]; exact hcat)) hd ⟨hf3, hf4⟩
  · exact va_runIN (cc := M.2.1) (bytes := cN) (maxL := lN0) (host := host) (As := As.map (rl b)) ⟨hx, hb, hml, hown, hts⟩ hM ⟨⟨⟨rfl, rfl, hf1, hlo, pay_in hts (good_all (N := (yN, cN, lN0, none)) k1), List.mem_cons_self⟩, hts _ (List.mem_cons_of_mem _ k1), hts _ (List.mem_cons_of_mem _ k2), ⟨k3, k4⟩, hsg, va_Nw.use rfl (hK.2.1 _ hl)⟩, hnm, hts _ (List.mem_cons_of_mem _ h1)⟩ hPr rfl (by rw [List.length_map]; exact hn2) hL.1 rfl (lv_room (by rw [catS_rl]; exact hcat)) hd ⟨hf3, hf4⟩
end
section
/-! calls of the JDK that the kit has rows for -/
theorem V.go6 {M : MT} {d pc pc2 : Nat} {la : List (Option Value)} {st st2 : List Value} {h h2 : Hp} {Q : Option Value → Hp → Prop} (hN : hn h2 = hn h)
    (f : ∀ {l : Launch} {b n0 : Nat} {D : va_G} {g : FieldType → ClassId} {p : Program} {e : Env} {R : Room} {s : State} {m : MethodId} {args : Array Value} {below : List Frame} {meth : Method} {c : Code} {H : Heap} {locs : List Loc} {cells slots : Nat} {Qm : State → Prop} {ls : Array Slot},
      Cx M b n0 D g p s m args meth c → va_P D vwCl (wd b g h) H → va_S (fun q => b ≤ q) s.heap H locs → lh b ls M.2.2.1 la → 1 ≤ R.frames → 80 ≤ R.locals → cells ≤ R.cells → slots ≤ R.slots → (∀ (H1 : Heap) (locs1 : List Loc), H1.size = H.size → va_P D vwCl (wd b g h2) H1 → va_S (fun q => b ≤ q) s.heap H1 locs1 → W p l e R s m args below meth c H1 locs1 cells slots Qm (F0 m pc2 ls (st2.map (rl b)))) → W p l e R s m args below meth c H locs cells slots Qm (F0 m pc ls (st.map (rl b))))
    (k : V M (d + 1) pc2 la st2 h2 Q) : V M (d + 1) pc la st h Q := by
  obtain ⟨r, h', hQ, hle, hX⟩ := k
  have hle0 : hn h ≤ hn h' := by rw [← hN]; exact hle
  refine ⟨r, h', hQ, hle0, fun l b n0 D g p e s m args below meth c H locs ls C hn0 hz hP hS hl => f C hP hS hl (by show 1 ≤ d + 1; omega) (by show 80 ≤ 80 * (d + 1); omega) (by show hn h - n0 ≤ hn h' - n0; omega) (by
    have := sl_mono hle0
    show sl (hn h) - sl n0 ≤ sl (hn h') - sl n0; omega) (fun H1 locs1 hz1 hP1 hS1 => ?_)⟩
  have := hX l b n0 D g p e s m args below meth c H1 locs1 ls C (by rw [hN]; exact hn0) (by rw [hz1, hN]; exact hz) hP1 hS1 hl
  rw [hN] at this
  exact this
section JD
variable {M : MT} {d pc : Nat} {la : List (Option Value)} {st : List Value} {h : Hp} {Q : Option Value → Hp → Prop}
theorem v_objInit {a idx : Nat} (h1 : Cond.methodLink M.1.cls idx Lib.objectInit ∈ gw) (h2 : Cond.instanceMethod Lib.objectInit ∈ gw) (h3 : Cond.code Lib.objectInit ⟨#[0xb1]⟩ 1 none ∈ gw) (hcat : catS st ≤ 8) (hd : decode M.2.1 pc = .ok (.invokespecial idx, 3)) (k : V M (d + 1) (pc + 3) la st h Q) : V M (d + 1) pc la (.ref a :: st) h Q := by
  refine V.go6 rfl (fun {_ b _ D g p _ _ s m args _ meth c H locs _ _ _ ls} C hP hS L hf hl0 _ _ w => ?_) k
  obtain ⟨hx, hb, -, -, hml, hown, hts, hK, -, -⟩ := C
  exact W.objInit hx hb hown (hts _ (List.mem_cons_of_mem _ h1)) (hts _ (List.mem_cons_of_mem _ h2)) (hts _ (List.mem_cons_of_mem _ h3)) rfl (L.1.trans hml.symm) rfl hd hf (by show 2 * 0 + _ + 12 ≤ _; rw [catS_rl]; omega) (w H locs rfl hP hS)
theorem v_max {x y : Int32} {idx : Nat} (h1 : Cond.methodLink M.1.cls idx Lib.Math.max.name ∈ gw) (h2 : Cond.static Lib.Math.max.name ∈ gw) (h3 : Cond.initialized "java/lang/Math" ∈ gw) (h4 : Cond.code Lib.Math.max.name Lib.Math.max.code 2 (some .int) ∈ gw) (hcat : catS st ≤ 8) (hd : decode M.2.1 pc = .ok (.invokestatic idx, 3)) (k : V M (d + 1) (pc + 3) la (.int (if x < y then y else x) :: st) h Q) : V M (d + 1) pc la (.int y :: .int x :: st) h Q := by
  refine V.go6 rfl (fun {_ b _ D g p _ _ s m args _ meth c H locs _ _ _ ls} C hP hS L hf hl0 hc hs w => ?_) k
  obtain ⟨hx, hb, -, -, hml, hown, hts, hK, -, -⟩ := C
  exact va_mmax hx hb (hml.trans L.1.symm) hown (hts _ (List.mem_cons_of_mem _ h1)) (hts _ (List.mem_cons_of_mem _ h2)) (hts _ (List.mem_cons_of_mem _ h3)) (hts _ (List.mem_cons_of_mem _ h4)) hf (by rw [catS_rl]; omega) hc hs hd (w H locs rfl hP hS)
theorem v_min {x y : Int32} {idx : Nat} (h1 : Cond.methodLink M.1.cls idx Lib.Math.min.name ∈ gw) (h2 : Cond.static Lib.Math.min.name ∈ gw) (h3 : Cond.initialized "java/lang/Math" ∈ gw) (h4 : Cond.code Lib.Math.min.name Lib.Math.min.code 2 (some .int) ∈ gw) (hcat : catS st ≤ 8) (hd : decode M.2.1 pc = .ok (.invokestatic idx, 3)) (k : V M (d + 1) (pc + 3) la (.int (if y < x then y else x) :: st) h Q) : V M (d + 1) pc la (.int y :: .int x :: st) h Q := by
  refine V.go6 rfl (fun {_ b _ D g p _ _ s m args _ meth c H locs _ _ _ ls} C hP hS L hf hl0 hc hs w => ?_) k
  obtain ⟨hx, hb, -, -, hml, hown, hts, hK, -, -⟩ := C
  exact va_mmin hx hb (hml.trans L.1.symm) hown (hts _ (List.mem_cons_of_mem _ h1)) (hts _ (List.mem_cons_of_mem _ h2)) (hts _ (List.mem_cons_of_mem _ h3)) (hts _ (List.mem_cons_of_mem _ h4)) hf (by rw [catS_rl]; omega) hc hs hd (w H locs rfl hP hS)
theorem v_abs {x : Int32} {idx : Nat} (h1 : Cond.methodLink M.1.cls idx Lib.Math.abs.name ∈ gw) (h2 : Cond.static Lib.Math.abs.name ∈ gw) (h3 : Cond.initialized "java/lang/Math" ∈ gw) (h4 : Cond.code Lib.Math.abs.name Lib.Math.abs.code 1 (some .int) ∈ gw) (hcat : catS st ≤ 8) (hd : decode M.2.1 pc = .ok (.invokestatic idx, 3)) (k : V M (d + 1) (pc + 3) la (.int (if 0 ≤ x then x else 0 - x) :: st) h Q) : V M (d + 1) pc la (.int x :: st) h Q := by
  refine V.go6 rfl (fun {_ b _ D g p _ _ s m args _ meth c H locs _ _ _ ls} C hP hS L hf hl0 hc hs w => ?_) k
  obtain ⟨hx, hb, -, -, hml, hown, hts, hK, -, -⟩ := C
  exact va_mabs hx hb (hml.trans L.1.symm) hown (hts _ (List.mem_cons_of_mem _ h1)) (hts _ (List.mem_cons_of_mem _ h2)) (hts _ (List.mem_cons_of_mem _ h3)) (hts _ (List.mem_cons_of_mem _ h4)) hf (by rw [catS_rl]; omega) hc hs hd (w H locs rfl hP hS)
end JD
end
section
/-! System.arraycopy from the beginning of one row to that of another -/
def nrT (ty : FieldType) (x : Int32) : Int32 := match ty with
  | .int => x
  | t => vp_nar t x
theorem nrT_fits {ty : FieldType} (ht : ty = .int ∨ ty = .byte) (x : Int32) : fits ty (.int (nrT ty x)) = true := by
  rcases ht with rfl | rfl
  · rfl
  · show fits .byte (.int (vp_nar .byte x)) = true
    rw [vp_nar_byte]; exact pk_fb x
theorem at_nr {b : Nat} {g : FieldType → ClassId} {h : Hp} {a n : Nat} {ty : FieldType} (ht : ty = .int ∨ ty = .byte) (hs : shp a = .inr (ty, n)) (ha : a < hn h) : (wd b g h)[a]? = some (b + a, .inl (g ty, n, .inl (fun i => nrT ty (hi h a i)))) := by
  rw [wd_at ha, cel_arr hs]
  rcases ht with rfl | rfl <;> rfl
def cpF (h : Hp) (a0 a1 N : Nat) : Nat → Int32 := fun k => if k < N then hi h a0 k else hi h a1 k
theorem toNN {z : Int32} (hz : ¬ z < 0) : z.toInt = (z.toNatClampNeg : Int) := by
  have hz0 : (0 : Int) ≤ z.toInt := by simpa using Int32.le_iff_toInt_le.mp (Int32.not_lt.mp hz)
  show z.toInt = ((z.toInt.toNat : Nat) : Int)
  omega
theorem v_copy {M : MT} {d pc : Nat} {la : List (Option Value)} {st : List Value} {h : Hp} {Q : Option Value → Hp → Prop} {a0 a1 n0 n1 N idx : Nat} {n : Int32} {ty : FieldType} (t0 : Nat) (ht : ∀ g : FieldType → ClassId, (tyl g)[t0]? = some (g ty, ty)) (hty : ty = .int ∨ ty = .byte) (hs0 : shp a0 = .inr (ty, n0)) (hs1 : shp a1 = .inr (ty, n1)) (ha0 : a0 < hn h) (ha1 : a1 < hn h) (hn0 : ¬ n < 0) (hN : n.toNatClampNeg = N) (h4 : N ≤ n0) (h5 : N ≤ n1)
    (h1 : Cond.methodLink M.1.cls idx arraycopyName ∈ gw) (h2 : Cond.native arraycopyName ∈ gw) (h3 : Cond.static arraycopyName ∈ gw) (h6 : Cond.initialized "java/lang/System" ∈ gw) (hcat : catS st ≤ 8) (hd : decode M.2.1 pc = .ok (.invokestatic idx, 3)) (k : V M (d + 1) (pc + 3) la st (wrA h a1 (cpF h a0 a1 N)) Q) : V M (d + 1) pc la (.int n :: .int 0 :: .ref a1 :: .int 0 :: .ref a0 :: st) h Q := by
  subst hN
  refine V.go6 (h2 := wrA h a1 (cpF h a0 a1 n.toNatClampNeg)) rfl (fun {l b _ D g p e R s m args below meth c H locs cells slots Qm ls} C hP hS L hf hl0 hc hs w => ?_) k
  obtain ⟨hx, hb, -, -, hml, hown, hts, hK, -, -⟩ := C
  intro T hT X
  have hc0 : H[b + a0]? = some (vp_cell (g ty) (n0, .inl (fun i => nrT ty (hi h a0 i)))) := hP a0 _ (at_nr hty hs0 ha0)
  have hc1 : H[b + a1]? = some (vp_cell (g ty) (n1, .inl (fun i => nrT ty (hi h a1 i)))) := hP a1 _ (at_nr hty hs1 ha1)
  have hprim : refKind ty = false := by rcases hty with rfl | rfl <;> rfl
  obtain ⟨-, k0, hk0, cm0, hkk0⟩ := (hK.1.2 t0 _ (ht g)).1 n0 (fun j => .int (nrT ty (hi h a0 j)))
  have z0 : ¬ (0 : Int32) < 0 := by decide
  have y0 : (0 : Int32).toNatClampNeg = 0 := by decide
  have w0 : (0 : Int32).toInt = 0 := by decide
  obtain ⟨vm', X', step⟩ := X.arraycopy hx hown (hts _ (List.mem_cons_of_mem _ h1)) (hts _ (List.mem_cons_of_mem _ h2)) (hts _ (List.mem_cons_of_mem _ h3)) (hts _ (List.mem_cons_of_mem _ h6)) (src := b + a0) (dst := b + a1) (cs := vp_cell (g ty) (n0, .inl (fun i => nrT ty (hi h a0 i)))) (cd := vp_cell (g ty) (n1, .inl (fun i => nrT ty (hi h a1 i)))) (srcPos := 0) (destPos := 0) (n := n) (by rw [hT]; exact hc0) (by rw [hT]; exact hc1)
    (fun _ h => by cases h) (fun _ h => by cases h) (fun h => by cases h) (fun h => by cases h) hk0 hk0 hkk0 hkk0 (by simp [hprim]) z0 z0 hn0
    (by rw [w0, toNN hn0]; show ¬ _ > ((arrV (g ty) n0 (fun j => .int (nrT ty (hi h a0 j)))).slots.size : Int); rw [arrV_size]; omega)
    (by rw [w0, toNN hn0]; show ¬ _ > ((arrV (g ty) n1 (fun j => .int (nrT ty (hi h a1 j)))).slots.size : Int); rw [arrV_size]; omega)
    (fun vm₁ _ i hi0 => by
      have e : (vp_cell (g ty) (n0, .inl (fun i => nrT ty (hi h a0 i)))).slots.getD ((0 : Int32).toNatClampNeg + i) .null = .int (nrT ty (hi h a0 i)) := by
        show (arrV (g ty) n0 (fun j => .int (nrT ty (hi h a0 j)))).slots.getD _ _ = _
        rw [y0, Nat.zero_add, Array.getD_eq_getD_getElem?, arrV_read _ _ (by omega)]
        rfl
      rw [e]
      exact ⟨nrT_fits hty _, trivial⟩)
    (g := F0 m pc ls (.int n :: .int 0 :: .ref (b + a1) :: .int 0 :: .ref (b + a0) :: st.map (rl b))) rfl (L.1.trans hml.symm) (rest := st.map (rl b)) rfl (by rw [hb]; exact hd) hf (by
      have : nativeFrameWords "java/lang/System" "arraycopy" 5 + 11 ≤ 60 := by decide +kernel
      show 2 * 0 + _ + _ ≤ _
      rw [catS_rl]; omega)
  have e1 : copied (vp_cell (g ty) (n0, .inl (fun i => nrT ty (hi h a0 i)))) (vp_cell (g ty) (n1, .inl (fun i => nrT ty (hi h a1 i)))) 0 0 n = vp_cell (g ty) (n1, .inl (fun i => nrT ty (hi (wrA h a1 (cpF h a0 a1 n.toNatClampNeg)) a1 i))) := by
    have e := va_copied (fun z => Value.int z) (g ty) (g ty) (n0 := n0) (n1 := n1) (sp := (0 : Int32).toNatClampNeg) (dp := (0 : Int32).toNatClampNeg) (n := n.toNatClampNeg) (fun i => nrT ty (hi h a0 i)) (fun i => nrT ty (hi h a1 i)) (by rw [y0]; omega)
    refine Eq.trans e ?_
    rw [vp_cell_i]
    congr 1
    funext q
    rw [y0]
    by_cases hq : q < n.toNatClampNeg
    · simp [va_cpy, hq, wrA, hi, upA, cpF]
    · simp [va_cpy, hq, wrA, hi, upA, cpF]
  rw [e1] at X' step
  have hl : b + a1 < H.size := (Array.getElem?_eq_some_iff.mp hc1).1
  generalize hcc : vp_cell (g ty) (n1, .inl (fun i => nrT ty (hi (wrA h a1 (cpF h a0 a1 n.toNatClampNeg)) a1 i))) = cc at X' step
  have hheap : ((T.setVm vm').setCell (b + a1) cc).heap = H.setIfInBounds (b + a1) cc := by rw [← hT]; rfl
  have oq : ∀ q : Nat, q ≠ b + a1 → (H.setIfInBounds (b + a1) cc)[q]? = H[q]? := fun q hq => by simp [Array.getElem?_setIfInBounds, Ne.symm hq]
  have p1 := hP.set wd_D (wd_at ha1) (e := cel b g (wrA h a1 (cpF h a0 a1 n.toNatClampNeg)) a1) (H1 := H.setIfInBounds (b + a1) cc) (by
    rw [cel_arr hs1]
    show (H.setIfInBounds (b + a1) cc)[b + a1]? = some (vp_cell _ _)
    rw [← hcc]
    have e2 : arE b ty n1 (wrA h a1 (cpF h a0 a1 n.toNatClampNeg)) a1 = (n1, .inl (fun i => nrT ty (hi (wrA h a1 (cpF h a0 a1 n.toNatClampNeg)) a1 i))) := by rcases hty with rfl | rfl <;> rfl
    rw [e2]
    simp [Array.getElem?_setIfInBounds, hl]) oq
  rw [wd_set (b := b) (g := g) (h := h) (h' := wrA h a1 (cpF h a0 a1 n.toNatClampNeg)) (a := a1) rfl rfl (fun a' h' => cel_wrA h')] at p1
  obtain ⟨t, a2, b2⟩ := w _ _ (by simp) p1 ⟨by simp; exact hS.1, fun q g1 g2 => by
      rw [oq q (fun e => g2 (by rw [e]; exact Nat.le_add_right _ _))]
      exact hS.2.1 q g1 g2, fun q hq => by
      rcases List.mem_append.mp hq with h | h
      · exact hS.2.2 q h
      · obtain ⟨z, -, hz⟩ := List.mem_map.mp h
        rw [← hz]
        exact Nat.le_add_right _ _⟩ _ hheap X'
  exact ⟨t, step t a2, b2⟩
end
