/-! THE CLAIM OUT OF ONE WALK OF THE LAW'S BODY. Your part is whole_start (and what it stands on); all else here is the same for every law, but numbers. -/
def R_law : String := "BandstandLawnLaw"
def lw_P (b : Addr) (xs : List Int32) (args : Array Value) (s : State) : Prop := args = #[.ref b] ∧ s.IntsAt b xs ∧ xs.length ≤ 3072 ∧ (Jvm.Cond.and given_1 narrow_1).before args s = true
def lw_Q (_ : Array Value) (s : State) (o : Outcome) (t : State) : Prop := o = .returned (some (.int 1)) ∧ Framed s o t [] 600000 7302250
def lw_Z (below : List Frame) (a : Array Value) (s : State) : State → Prop := fun t => ∃ o, t.status = .running ∧ Ended t below o ∧ lw_Q a s o t
/-- the law's own end, with 1 on the stack, nothing written that was there before, its room as the claim has it -/
theorem lw_ret {p : Program} {l : Launch} {e : Env} {s : State} {m : MethodId} {below : List Frame} {meth : Method} {c : Code} {b : Nat} (hx : p.tables.exec = Jvm.exec) (hb : c.code = code) (hr : meth.sig.returnType = ret) (hlocks : meth.locks = false) {pc : Nat} {H : Heap} {ls : Array Slot} (hdg : decode code pc = .ok (.ireturn, 1)) : W p l e room_1 s m #[Value.ref b] below meth c H [] 600000 7302250 (lw_Z below #[Value.ref b] s) (F0 m pc ls [.int 1]) := by
  intro T hT X
  obtain ⟨fs, hret, hrun, hended, hW, hframe⟩ := X.leave (v := some (.int 1)) (hlocks := hlocks) (fun h => by rw [hr] at h; cases h)
  have hmeth' : T.vm.method? m = some meth := X.method'
  refine ⟨T.setFrames fs, ?_, .returned (some (.int 1)), hrun, hended, rfl, ⟨_, rfl⟩, hW, hframe⟩
  jvm_step X.here [X.here.top, hx, hb, hdg, hmeth', hr, ret, narrow_b1]
  (try refine ⟨rfl, ?_⟩); (try refine ⟨rfl, ?_⟩)
  first | (intro acts; rw [hret _ acts rfl rfl rfl]) | rw [hret _ _ rfl rfl rfl]
  exact Steps.refl _
/-- what holds at the law's entry: the machine, the code, the tables' words (any of lw_tbl by 'hts w (by decide +kernel)'), the script of L ints xs at the cell b, what the Statement gives of the start (any of its parts by flat_of_before) -/
def lw_At (p : Program) (s : State) (m : MethodId) (meth : Method) (c : Code) (b L : Nat) (xs : Nat → Int32) : Prop :=
  p.tables.exec = Jvm.exec ∧ c.code = code ∧ meth.sig.returnType = ret ∧ c.maxLocals = 4 ∧ s.vm.findClass R_law = some m.cls ∧ (∀ w ∈ lw_tbl, w.before #[Value.ref b] s = true) ∧ va_X b L xs s s.heap ∧ b < s.heap.size ∧ meth.locks = false ∧ (Jvm.Cond.and given_1 narrow_1).before #[Value.ref b] s = true
/-! THE LAW'S WALK -/
def LX (b : Nat) (D : va_G) (g : FieldType → ClassId) (p : Program) (s : State) (m : MethodId) (meth : Method) (c : Code) (sc L : Nat) (xs : Nat → Int32) : Prop :=
  p.tables.exec = Jvm.exec ∧ c.code = code ∧ meth.sig.returnType = ret ∧ c.maxLocals = 4 ∧ s.vm.findClass RL = some m.cls ∧ (∀ w ∈ lw_tbl, w.before #[Value.ref sc] s = true) ∧ va_X sc L xs s s.heap ∧ sc < s.heap.size ∧ meth.locks = false ∧ Kx b D g s ∧ s.heap.size = b
def VL (L : Nat) (xs : Nat → Int32) (lv : Nat → Nat → List (Nat × Value)) (pc : Nat) (st : List Value) (h : Hp) : Prop :=
  ∀ (l : Launch) (b : Nat) (D : va_G) (g : FieldType → ClassId) (p : Program) (e : Env) (s : State) (m : MethodId) (below : List Frame) (meth : Method) (c : Code) (sc : Nat) (H : Heap) (locs : List Loc) (ls : Array Slot),
    LX b D g p s m meth c sc L xs → H.size = b + hn h → va_P D vwCl (wd b g h) H → va_S (fun q => b ≤ q) s.heap H locs → lv_has ls 4 (lv b sc) →
    W p l e room_1 s m #[Value.ref sc] below meth c H locs (hn h) (sl (hn h)) (lw_Z below #[Value.ref sc] s) (F0 m pc ls (st.map (rl b)))
theorem gw_tbl {w : Cond} (h : w ∈ gw) : w ∈ lw_tbl := (List.mem_filter.mp h).1
theorem good_law {N : MT} (hN : Cond.code N.1 N.2.1 N.2.2.1 N.2.2.2 ∈ gw) : GoodIn lw_tbl (wsM N) := by
  intro w hw
  rcases List.mem_cons.mp hw with rfl | hw
  · exact ⟨gw_tbl hN, good_of_word (List.mem_filter.mp hN).2⟩
  · exact ⟨gw_tbl hw, good_of_word (List.mem_filter.mp hw).2⟩
theorem sl_le {n : Nat} (h : n ≤ 275) : sl n ≤ 7302250 := Nat.le_trans (sl_mono h) (by decide +kernel)
section LR
variable {L : Nat} {xs : Nat → Int32} {lv : Nat → Nat → List (Nat × Value)} {pc : Nat} {st : List Value} {h : Hp}
theorem L_go {pc2 : Nat} {st2 : List Value} (f : ∀ {l : Launch} {b : Nat} {D : va_G} {g : FieldType → ClassId} {p : Program} {e : Env} {R : Room} {s : State} {m : MethodId} {below : List Frame} {meth : Method} {c : Code} {sc : Nat} {H : Heap} {locs : List Loc} {cells slots : Nat} {Q : State → Prop} {ls : Array Slot},
    LX b D g p s m meth c sc L xs → va_S (fun q => b ≤ q) s.heap H locs → lv_has ls 4 (lv b sc) → W p l e R s m #[Value.ref sc] below meth c H locs cells slots Q (F0 m pc2 ls (st2.map (rl b))) → W p l e R s m #[Value.ref sc] below meth c H locs cells slots Q (F0 m pc ls (st.map (rl b)))) (k : VL L xs lv pc2 st2 h) : VL L xs lv pc st h :=
  fun l b D g p e s m below meth c sc H locs ls C hz hP hS hl => f C hS hl (k l b D g p e s m below meth c sc H locs ls C hz hP hS hl)
theorem L_iconst {n : Int} {v : Int32} (hd : decode code pc = .ok (.iconst n, 1)) (hv : Int32.ofInt n = v) (k : VL L xs lv (pc + 1) (.int v :: st) h) : VL L xs lv pc st h := L_go (fun C _ _ w => lv_iconst C.1 C.2.1 hd hv w) k
theorem L_bipush {n : Int} {v : Int32} (hd : decode code pc = .ok (.bipush n, 2)) (hv : (Int8.ofInt n).toInt32 = v) (k : VL L xs lv (pc + 2) (.int v :: st) h) : VL L xs lv pc st h := L_go (fun C _ _ w => lv_bipush C.1 C.2.1 hd hv w) k
theorem L_iand {x y : Int32} (hd : decode code pc = .ok (.iand, 1)) (k : VL L xs lv (pc + 1) (.int (x &&& y) :: st) h) : VL L xs lv pc (.int y :: .int x :: st) h := L_go (fun C _ _ w => lv_iand C.1 C.2.1 hd w) k
theorem L_goto {off : Int} (tgt : Nat) (hd : decode code pc = .ok (.goto off, 3)) (ht : (pc : Int) + off = (tgt : Int)) (k : VL L xs lv tgt st h) : VL L xs lv pc st h := L_go (fun C _ _ w => lv_goto C.1 C.2.1 hd ht w) k
theorem L_dup {v : Value} (hd : decode code pc = .ok (.dup, 1)) (hv : v.category = 1) (k : VL L xs lv (pc + 1) (v :: v :: st) h) : VL L xs lv pc (v :: st) h := L_go (fun {_ b _ _ _ _ _ _ _ _ _ _ _ _ _ _ _ _ _} C _ _ w => lv_dup C.1 C.2.1 hd (by rw [rl_cat b v]; exact hv) w) k
theorem L_ifeq {x : Int32} {off : Int} (tgt : Nat) (hd : decode code pc = .ok (.ifCond .eq off, 3)) (ht : (pc : Int) + off = (tgt : Int)) (kt : x = 0 → VL L xs lv tgt st h) (kf : ¬ x = 0 → VL L xs lv (pc + 3) st h) : VL L xs lv pc (.int x :: st) h := by
  by_cases hc : x = 0
  · exact L_go (fun C _ _ w => lv_if_eq C.1 C.2.1 hd ht (fun _ => w) (fun q => absurd hc q)) (kt hc)
  · exact L_go (fun C _ _ w => lv_if_eq C.1 C.2.1 hd ht (fun q => absurd q hc) (fun _ => w)) (kf hc)
theorem L_same {x y : Int32} {off : Int} (tgt : Nat) (hxy : x = y) (hd : decode code pc = .ok (.if_icmp .eq off, 3)) (ht : (pc : Int) + off = (tgt : Int)) (kt : VL L xs lv tgt st h) : VL L xs lv pc (.int y :: .int x :: st) h := L_go (fun C _ _ w => lv_icmp_eq C.1 C.2.1 hd ht (fun _ => w) (fun q => absurd hxy q)) kt
theorem L_tableOut {dflt lo hi0 : Int} {offs : Array Int} {len : Nat} {x : Int32} (tgt : Nat) (hd : decode code pc = .ok (.tableswitch dflt lo hi0 offs, len)) (hc : x.toInt < lo ∨ hi0 < x.toInt) (ht : (pc : Int) + dflt = (tgt : Int)) (k : VL L xs lv tgt st h) : VL L xs lv pc (.int x :: st) h := L_go (fun C _ _ w => lv_tableOut C.1 C.2.1 hd hc ht w) k
theorem L_tableIn {dflt lo hi0 : Int} {offs : Array Int} {len : Nat} {x : Int32} {off : Int} (tgt : Nat) (hd : decode code pc = .ok (.tableswitch dflt lo hi0 offs, len)) (h1 : ¬ x.toInt < lo) (h2 : ¬ hi0 < x.toInt) (ho : offs[(x.toInt - lo).toNat]? = some off) (ht : (pc : Int) + off = (tgt : Int)) (k : VL L xs lv tgt st h) : VL L xs lv pc (.int x :: st) h := L_go (fun C _ _ w => lv_tableIn C.1 C.2.1 hd h1 h2 ho ht w) k
theorem L_aload {i x : Nat} (j : Nat) {kf : Fin 4} (hd : decode code pc = .ok (.aload_n kf, 1)) (hi : (kf : Nat) = i) (hj : ∀ b sc : Nat, (lv b sc)[j]? = some (i, .ref (b + x))) (k : VL L xs lv (pc + 1) (.ref x :: st) h) : VL L xs lv pc st h := L_go (fun {_ b _ _ _ _ _ _ _ _ _ _ sc _ _ _ _ _ _} C _ hl w => lv_aload_n C.1 C.2.1 hd hi (lv_at hl j (hj b sc)) w) k
end LR
/-- once both are made: the script, the lawn, the model, the counter -/
def lvC (i : Int32) : Nat → Nat → List (Nat × Value) := fun b sc => [(3, .int i), (2, .ref (b + 226)), (1, .ref (b + 0)), (0, .ref sc)]
section LF
variable {L : Nat} {xs : Nat → Int32} {i : Int32} {pc : Nat} {st : List Value} {h : Hp}
theorem L_pop {v : Value} (hd : decode code pc = .ok (.pop, 1)) (hv : v.category = 1) (k : VL L xs (lvC i) (pc + 1) st h) : VL L xs (lvC i) pc (v :: st) h := L_go (fun {_ b _ _ _ _ _ _ _ _ _ _ _ _ _ _ _ _ _} C _ _ w => lv_pop C.1 C.2.1 hd (by rw [rl_cat b v]; exact hv) w) k
/-- script[i + j] -/
theorem L_at {j : Int} {v : Int32} (h0 : decode code pc = .ok (.aload_n 0, 1)) (h1 : decode code (pc + 1) = .ok (.iload_n 3, 1)) (h2 : decode code (pc + 2) = .ok (.iconst j, 1)) (hv : Int32.ofInt j = v) (h3 : decode code (pc + 3) = .ok (.iadd, 1)) (h4 : decode code (pc + 4) = .ok (.iaload, 1)) (hin : vp_in (i + v) L) (k : VL L xs (lvC i) (pc + 5) (.int (xs (Int32.toNatClampNeg (i + v))) :: st) h) : VL L xs (lvC i) pc st h := by
  refine L_go (fun {_ b _ _ _ _ _ s _ _ _ _ sc _ _ _ _ _ ls} C hS hl w => ?_) k
  refine lv_aload_n C.1 C.2.1 h0 rfl (lv_at hl 3 rfl) ?_
  refine lv_iload_n C.1 C.2.1 h1 rfl (lv_at hl 0 rfl) ?_
  refine lv_iconst C.1 C.2.1 h2 hv ?_
  refine lv_iadd C.1 C.2.1 h3 ?_
  have hb : s.heap.size = b := C.2.2.2.2.2.2.2.2.2.2
  exact va_sld C.1 C.2.1 C.2.2.2.2.2.2.1 C.2.2.2.2.2.2.2.1 (Nat.not_le.mpr (by rw [← hb]; exact C.2.2.2.2.2.2.2.1)) hS hin h4 w
/-- script[i] -/
theorem L_at0 (h0 : decode code pc = .ok (.aload_n 0, 1)) (h1 : decode code (pc + 1) = .ok (.iload_n 3, 1)) (h4 : decode code (pc + 2) = .ok (.iaload, 1)) (hin : vp_in i L) (k : VL L xs (lvC i) (pc + 3) (.int (xs (Int32.toNatClampNeg i)) :: st) h) : VL L xs (lvC i) pc st h := by
  refine L_go (fun {_ b _ _ _ _ _ s _ _ _ _ sc _ _ _ _ _ ls} C hS hl w => ?_) k
  refine lv_aload_n C.1 C.2.1 h0 rfl (lv_at hl 3 rfl) ?_
  refine lv_iload_n C.1 C.2.1 h1 rfl (lv_at hl 0 rfl) ?_
  have hb : s.heap.size = b := C.2.2.2.2.2.2.2.2.2.2
  exact va_sld C.1 C.2.1 C.2.2.2.2.2.2.1 C.2.2.2.2.2.2.2.1 (Nat.not_le.mpr (by rw [← hb]; exact C.2.2.2.2.2.2.2.1)) hS hin h4 w
end LF
theorem VL.call {L : Nat} {xs : Nat → Int32} {lv : Nat → Nat → List (Nat × Value)} {N : MT} {d pc : Nat} {st0 st : List Value} {as : List Value} {h : Hp} {Qk : Option Value → Hp → Prop} (hk : Kc N d as h Qk) (hq : ∀ r1 h1, Qk r1 h1 → hn h1 ≤ 275)
    (f : ∀ {l : Launch} {b : Nat} {D : va_G} {g : FieldType → ClassId} {p : Program} {e : Env} {s : State} {m : MethodId} {below : List Frame} {meth : Method} {c : Code} {sc : Nat} {H : Heap} {locs : List Loc} {cells slots : Nat} {ls : Array Slot} {r1 : Option Value} {h1 : Hp},
      LX b D g p s m meth c sc L xs → H.size = b + hn h → va_P D vwCl (wd b g h) H → va_S (fun q => b ≤ q) s.heap H locs → lv_has ls 4 (lv b sc) → cells + (hn h1 - hn h) ≤ room_1.cells → slots + (sl (hn h1) - sl (hn h)) ≤ room_1.slots →
      Met l N.1 (wsM N) (rmd d (hn h) (hn h1)) (va_Pc (as.map (rl b)) (fun U => U.heap.size = b + hn h ∧ va_P D vwCl (wd b g h) U.heap ∧ Kx b D g U)) (Qx b D g r1 h1) (hn h1 - hn h) (sl (hn h1) - sl (hn h)) (fun q => b ≤ q) →
      va_Run p l e room_1 s m #[Value.ref sc] below meth c H locs cells slots (hn h1 - hn h) (sl (hn h1) - sl (hn h)) (F0 m pc ls (st0.map (rl b))) (st.map (rl b)) (Qx b D g r1 h1 (as.map (rl b)).toArray) (fun q => b ≤ q))
    (kk : ∀ (r1 : Option Value) (h1 : Hp), Qk r1 h1 → VL L xs lv (pc + 3) (r1.toList ++ st) h1) : VL L xs lv pc st0 h := by
  obtain ⟨r1, h1, hq1, hle1, hM⟩ := hk
  intro l b D g p e s m below meth c sc H locs ls C hz hP hS hl
  have hm1 : sl (hn h) ≤ sl (hn h1) := sl_mono hle1
  have hb1 := hq r1 h1 hq1
  have hs1 := sl_le hb1
  refine W.ofRun (f C hz hP hS hl (by show hn h + (hn h1 - hn h) ≤ 600000; omega) (by show sl (hn h) + (sl (hn h1) - sl (hn h)) ≤ 7302250; omega) (hM l b D g)) (fun v st₀ t L1 h0 hqq hL => ?_)
  obtain ⟨hv, hz1, hP1, hF1, hF2⟩ := hqq
  cases hv
  rw [opt_map, show hn h + (hn h1 - hn h) = hn h1 by omega, show sl (hn h) + (sl (hn h1) - sl (hn h)) = sl (hn h1) by omega]
  rw [h0] at hF1 hF2
  refine kk r1 h1 hq1 l b D g p e s m below meth c sc t.heap (locs ++ L1) ls C hz1 hP1 ⟨Nat.le_trans hS.1 hF1, fun q g1 g2 => (hF2 q (Nat.lt_of_lt_of_le g1 hS.1) g2).trans (hS.2.1 q g1 g2), fun q hq => ?_⟩ hl
  rcases List.mem_append.mp hq with h | h
  · exact hS.2.2 q h
  · exact hL q h
theorem L_callV {L : Nat} {xs : Nat → Int32} {lv : Nat → Nat → List (Nat × Value)} {N : MT} {d pc ci a idx n : Nat} {st : List Value} {h : Hp} {Qk : Option Value → Hp → Prop} (As : List Value) {st0 : List Value} (h0 : st0 = As.reverse ++ .ref a :: st) (ok : okM N) (hl : lnk RL idx N.1) (h1 : Cond.instanceMethod N.1 ∈ gw) (h2 : Cond.selects N.1.cls N.1 N.1 ∈ gw) (hn1 : (parseMethodDescriptor N.1.desc).map (fun d => d.parameters.length) = some n) (hn2 : As.length = n) {T : u_T} {NN : Nat} (hcl : vwCl[ci]? = some (N.1.cls, T, NN)) (hs : shp a = .inl ci) (ha : a < hn h) (hcat : catS st ≤ 8) (hd : decode code pc = .ok (.invokevirtual idx, 3)) (hd0 : d ≤ 1000) (hk : Kc N d (.ref a :: As) h Qk) (hq : ∀ r1 h1, Qk r1 h1 → hn h1 ≤ 275) (kk : ∀ (r1 : Option Value) (h1 : Hp), Qk r1 h1 → VL L xs lv (pc + 3) (r1.toList ++ st) h1) : VL L xs lv pc st0 h := by
  subst h0
  refine VL.call (st := st) hk hq (fun {l b D g p e s m below meth c sc H locs cells slots ls r1 h1'} C hz hP hS hL hf3 hf4 hM => ?_) kk
  obtain ⟨hx, hb, -, hml, hown, hts, -, -, -, hK, -⟩ := C
  obtain ⟨k1, k2, k3, k4, k5, k6⟩ := ok
  rw [rev_rl]
  have hrc : ∃ cell : Cell, H[b + a]? = some cell ∧ cell.vm.isStatics = false ∧ s.vm.findClass N.1.cls = some cell.cls := va_recv hK.1 hP hcl (by rw [wd_at ha, cel_obj hs])
  have hPr : PreV s H N.1.cls (b + a) (va_Pc (((.ref a :: As) : List Value).map (rl b)) (fun U => U.heap.size = b + hn h ∧ va_P D vwCl (wd b g h) U.heap ∧ Kx b D g U)) (As.map (rl b)) := ⟨Pc_blind, hrc, fun U hU hW => ⟨rfl, by rw [hU]; exact hz, by rw [hU]; exact hP, hK.warm hW (by rw [hU]; exact hS.2.1)⟩⟩
  have hsg : ∀ sig, parseMethodDescriptor N.1.desc = some sig → n = sig.parameters.length := fun sig h => by rw [h] at hn1; exact (Option.some.inj hn1).symm
  have hfr : (rmd d (hn h) (hn h1')).frames + 1 ≤ room_1.frames := by show d + 1 ≤ 2048; omega
  have hlo : 8 + (N.2.2.1 + 11) + (rmd d (hn h) (hn h1')).locals ≤ room_1.locals := by show 8 + (N.2.2.1 + 11) + 80 * d ≤ 84000; omega
  rcases hl with hl | ⟨host, hl⟩
  · exact va_runV (cc := code) (bytes := N.2.1) (maxL := N.2.2.1) (ret := N.2.2.2) (As := As.map (rl b)) ⟨hx, hb, hml, hown, hts⟩ hM ⟨⟨rfl, rfl, hfr, hlo, pay_in hts (good_law k1), List.mem_cons_self, hts _ (gw_tbl k1), hts _ (gw_tbl k2), ⟨k3, k4⟩, hsg, hts _ (gw_tbl hl)⟩, hts _ (gw_tbl h1), hts _ (gw_tbl h2)⟩ hPr rfl (by rw [List.length_map]; exact hn2) hL.1 rfl (lv_room (by rw [catS_rl]; exact hcat)) hd ⟨hf3, hf4⟩
  · exact va_runVN (cc := code) (bytes := N.2.1) (maxL := N.2.2.1) (ret := N.2.2.2) (host := host) (As := As.map (rl b)) ⟨hx, hb, hml, hown, hts⟩ hM ⟨⟨⟨rfl, rfl, hfr, hlo, pay_in hts (good_law k1), List.mem_cons_self⟩, hts _ (gw_tbl k1), hts _ (gw_tbl k2), ⟨k3, k4⟩, hsg, va_Nw.use rfl (hK.2.1 _ hl)⟩, hts _ (gw_tbl h1), hts _ (gw_tbl h2)⟩ hPr rfl (by rw [List.length_map]; exact hn2) hL.1 rfl (lv_room (by rw [catS_rl]; exact hcat)) hd ⟨hf3, hf4⟩
theorem L_callI {L : Nat} {xs : Nat → Int32} {lv : Nat → Nat → List (Nat × Value)} {N : MT} {d pc a idx n : Nat} {st : List Value} {h : Hp} {Qk : Option Value → Hp → Prop} (As : List Value) {st0 : List Value} (h0 : st0 = As.reverse ++ .ref a :: st) (ok : okM N) (hl : lnk RL idx N.1) (h1 : Cond.instanceMethod N.1 ∈ gw) (hret : N.2.2.2 = none) (hnm : N.1.name = "<init>") (hn1 : (parseMethodDescriptor N.1.desc).map (fun d => d.parameters.length) = some n) (hn2 : As.length = n) (hcat : catS st ≤ 8) (hd : decode code pc = .ok (.invokespecial idx, 3)) (hd0 : d ≤ 1000) (hk : Kc N d (.ref a :: As) h Qk) (hq : ∀ r1 h1, Qk r1 h1 → hn h1 ≤ 275) (kk : ∀ (r1 : Option Value) (h1 : Hp), Qk r1 h1 → VL L xs lv (pc + 3) (r1.toList ++ st) h1) : VL L xs lv pc st0 h := by
  subst h0
  obtain ⟨yN, cN, lN0, rN⟩ := N
  have hret : rN = none := hret
  subst hret
  refine VL.call (st := st) hk hq (fun {l b D g p e s m below meth c sc H locs cells slots ls r1 h1'} C hz hP hS hL hf3 hf4 hM => ?_) kk
  obtain ⟨hx, hb, -, hml, hown, hts, -, -, -, hK, -⟩ := C
  obtain ⟨k1, k2, k3, k4, k5, k6⟩ := ok
  rw [rev_rl]
  have hPr : PreS s H (va_Pc (((.ref a :: As) : List Value).map (rl b)) (fun U => U.heap.size = b + hn h ∧ va_P D vwCl (wd b g h) U.heap ∧ Kx b D g U)) (.ref (b + a) :: As.map (rl b)) := ⟨Pc_blind, fun U hU hW => ⟨rfl, by rw [hU]; exact hz, by rw [hU]; exact hP, hK.warm hW (by rw [hU]; exact hS.2.1)⟩⟩
  have hsg : ∀ sig, parseMethodDescriptor yN.desc = some sig → n = sig.parameters.length := fun sig h => by rw [h] at hn1; exact (Option.some.inj hn1).symm
  have hk6 : lN0 ≤ 60 := k6
  have hfr : (rmd d (hn h) (hn h1')).frames + 1 ≤ room_1.frames := by show d + 1 ≤ 2048; omega
  have hlo : 8 + (lN0 + 11) + (rmd d (hn h) (hn h1')).locals ≤ room_1.locals := by show 8 + (lN0 + 11) + 80 * d ≤ 84000; omega
  rcases hl with hl | ⟨host, hl⟩
  · exact va_runI (cc := code) (bytes := cN) (maxL := lN0) (As := As.map (rl b)) ⟨hx, hb, hml, hown, hts⟩ hM ⟨⟨rfl, rfl, hfr, hlo, pay_in hts (good_law (N := (yN, cN, lN0, none)) k1), List.mem_cons_self, hts _ (gw_tbl k1), hts _ (gw_tbl k2), ⟨k3, k4⟩, hsg, hts _ (gw_tbl hl)⟩, hnm, hts _ (gw_tbl h1)⟩ hPr rfl (by rw [List.length_map]; exact hn2) hL.1 rfl (lv_room (by rw [catS_rl]; exact hcat)) hd ⟨hf3, hf4⟩
  · exact va_runIN (cc := code) (bytes := cN) (maxL := lN0) (host := host) (As := As.map (rl b)) ⟨hx, hb, hml, hown, hts⟩ hM ⟨⟨⟨rfl, rfl, hfr, hlo, pay_in hts (good_law (N := (yN, cN, lN0, none)) k1), List.mem_cons_self⟩, hts _ (gw_tbl k1), hts _ (gw_tbl k2), ⟨k3, k4⟩, hsg, va_Nw.use rfl (hK.2.1 _ hl)⟩, hnm, hts _ (gw_tbl h1)⟩ hPr rfl (by rw [List.length_map]; exact hn2) hL.1 rfl (lv_room (by rw [catS_rl]; exact hcat)) hd ⟨hf3, hf4⟩
theorem L_new {L : Nat} {xs : Nat → Int32} {lv : Nat → Nat → List (Nat × Value)} {pc : Nat} {st : List Value} {h : Hp} {C : String} {T : u_T} {N ci idx q : Nat} (hq : hn h = q) (hb : q < 275) (ok : okC ci C T N) (hs : shp q = .inl ci) (h1 : Cond.classLink RL idx C ∈ gw) (h2 : Cond.instantiable C N ∈ gw) (h3 : Cond.initialized C ∈ gw) (hd : decode code pc = .ok (.new idx, 3)) (k : VL L xs lv (pc + 3) (.ref q :: st) (mkH h)) : VL L xs lv pc st h := by
  subst hq
  obtain ⟨o1, o2, o3, o4, o5, o6⟩ := ok
  intro l b D g p e s m below meth c sc H locs ls C0 hz hP hS hl
  have C1 := C0
  obtain ⟨hx, hbc, -, -, hown, hts, -, -, -, hK, -⟩ := C0
  have hin : ∀ w ∈ u_ws C T N, w ∈ lw_tbl := fun w hw => gw_tbl (o3 w hw)
  have hsz : szS (hn h) = N := by unfold szS; rw [hs]; exact o2
  have hKn := hK.1.1 ci _ o1
  have hsl := sl_le (n := hn h + 1) (by omega)
  have e1 : sl (hn h + 1) = sl (hn h) + szS (hn h) := rfl
  refine W.newcK hx hbc hown (hts _ (gw_tbl h1)) (hts _ (gw_tbl h2)) (hts _ (gw_tbl h3)) rfl hd (by show hn h + 1 ≤ 600000; omega) (by show sl (hn h) + N ≤ 7302250; omega) hKn.2.1 hz fun H1 kC hkC e1 z1 o1' => ?_
  obtain ⟨p1, p2⟩ := made hz hP hS z1 o1' (by
    rw [cel_obj hs]
    refine ⟨_, o1, (u_born (clT ci) hts hin hKn hkC e1 o4).to (fun j hj => ?_)⟩
    show defaultValue (clT ci j) = List.getD _ _ _
    rw [List.getD_eq_getElem?_getD, map_at _ (by rw [o2]; exact hj)]
    exact (fv_new b (clT ci j) h j (o6 j hj)).symm)
  have := k l b D g p e s m below meth c sc H1 locs ls C1 z1 p1 p2 hl
  have e2 : sl (hn (mkH h)) = sl (hn h) + N := by rw [← hsz]; rfl
  rw [e2] at this
  exact this
theorem L_astore {L : Nat} {xs : Nat → Int32} {lv lv2 : Nat → Nat → List (Nat × Value)} {pc i x : Nat} {st : List Value} {h : Hp} {kf : Fin 4} (hd : decode code pc = .ok (.astore_n kf, 1)) (hi : (kf : Nat) = i) (hn4 : i < 4) (hl2 : ∀ b sc : Nat, (i, Value.ref (b + x)) :: (lv b sc).filter (fun q => !(q.1 == i) && !(q.1 + 1 == i && q.2.category == 2)) = lv2 b sc) (k : VL L xs lv2 (pc + 1) st h) : VL L xs lv pc (.ref x :: st) h :=
  fun l b D g p e s m below meth c sc H locs ls C hz hP hS hl => lv_astore_n C.1 C.2.1 hd hi hl hn4 (hl2 b sc) (fun ls' hl' => k l b D g p e s m below meth c sc H locs ls' C hz hP hS hl')
theorem L_istore {L : Nat} {xs : Nat → Int32} {lv lv2 : Nat → Nat → List (Nat × Value)} {pc i : Nat} {x : Int32} {st : List Value} {h : Hp} {kf : Fin 4} (hd : decode code pc = .ok (.istore_n kf, 1)) (hi : (kf : Nat) = i) (hn4 : i < 4) (hl2 : ∀ b sc : Nat, (i, Value.int x) :: (lv b sc).filter (fun q => !(q.1 == i) && !(q.1 + 1 == i && q.2.category == 2)) = lv2 b sc) (k : VL L xs lv2 (pc + 1) st h) : VL L xs lv pc (.int x :: st) h :=
  fun l b D g p e s m below meth c sc H locs ls C hz hP hS hl => lv_istore_n C.1 C.2.1 hd hi hl hn4 (hl2 b sc) (fun ls' hl' => k l b D g p e s m below meth c sc H locs ls' C hz hP hS hl')
theorem L_sub {L : Nat} {xs : Nat → Int32} {lv lv2 : Nat → Nat → List (Nat × Value)} {pc : Nat} {st : List Value} {h : Hp} (hs : ∀ b sc : Nat, ∀ q ∈ lv2 b sc, q ∈ lv b sc) (k : VL L xs lv2 pc st h) : VL L xs lv pc st h :=
  fun l b D g p e s m below meth c sc H locs ls C hz hP hS hl => k l b D g p e s m below meth c sc H locs ls C hz hP hS ⟨hl.1, hl.2.1, fun q hq => hl.2.2 q (hs b sc q hq)⟩
/-- at the loop's head, when it is not gone through (again) -/
theorem L_out {L : Nat} {xs : Nat → Int32} {lv : Nat → Nat → List (Nat × Value)} {h : Hp} {i : Int32} (j0 j3 : Nat) (hb : hn h ≤ 275) (h0 : ∀ b sc : Nat, (lv b sc)[j0]? = some (0, .ref sc)) (h3 : ∀ b sc : Nat, (lv b sc)[j3]? = some (3, .int i)) (hc : Int32.ofNat L - 6 < i) : VL L xs lv 18 [] h := by
  intro l b D g p e s m below meth c sc H locs ls C hz hP hS hl
  obtain ⟨hx, hbc, hr, hml, hown, hts, hX, hbl, hlocks, hK, hsb⟩ := C
  have hbA : ¬ (fun q => b ≤ q) sc := Nat.not_le.mpr (by rw [← hsb]; exact hbl)
  refine lv_iload_n hx hbc dL_law_18 rfl (lv_at hl j3 (h3 b sc)) ?_
  refine lv_aload_n hx hbc dL_law_19 rfl (lv_at hl j0 (h0 b sc)) ?_
  refine va_slen hx hbc hX hbl hbA hS dL_law_20 ?_
  refine lv_bipush (v := 6) hx hbc dL_law_21 (by decide) ?_
  refine lv_isub hx hbc dL_law_23 ?_
  refine lv_icmp_gt (tgt := 1342) hx hbc dL_law_24 (by decide) (fun _ => ?_) (fun q => absurd hc q)
  refine lv_iconst (v := 1) hx hbc dL_law_1342 (by decide) ?_
  refine va_forget (fun q hq => by rw [hsb]; exact hS.2.2 q hq) ?_
  refine W.widen (k := 600000) (n := 7302250) (by omega) (sl_le hb) ?_
  exact lw_ret hx hbc hr hlocks dL_law_1343
/-- a case's end: round again -/
theorem L_end {L : Nat} {xs : Nat → Int32} {i j : Int32} {h : Hp} (hj : i + 6 = j) (k : VL L xs (lvC j) 18 [] h) : VL L xs (lvC i) 1336 [] h := by
  intro l b D g p e s m below meth c sc H locs ls C hz hP hS hl
  refine lv_iinc (v := j) (lv' := lvC j b sc) C.1 C.2.1 dL_law_1336 hl (k := 0) rfl hj (by decide) rfl (fun ls' hl' => ?_)
  refine lv_goto (tgt := 18) C.1 C.2.1 dL_law_1339 (by decide) ?_
  exact k l b D g p e s m below meth c sc H locs ls' C hz hP hS hl'
