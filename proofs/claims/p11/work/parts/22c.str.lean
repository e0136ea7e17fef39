theorem dJ0_length_8abf5_0 : decode cJ0_length_8abf5 0 = .ok (.aload_n 0, 1) := by decide +kernel
theorem dJ0_length_8abf5_1 : decode cJ0_length_8abf5 1 = .ok (.getfield 9, 3) := by decide +kernel
theorem dJ0_length_8abf5_4 : decode cJ0_length_8abf5 4 = .ok (.arraylength, 1) := by decide +kernel
theorem dJ0_length_8abf5_5 : decode cJ0_length_8abf5 5 = .ok (.aload_n 0, 1) := by decide +kernel
theorem dJ0_length_8abf5_6 : decode cJ0_length_8abf5 6 = .ok (.invokevirtual 335, 3) := by decide +kernel
theorem dJ0_length_8abf5_9 : decode cJ0_length_8abf5 9 = .ok (.ishr, 1) := by decide +kernel
theorem dJ0_length_8abf5_10 : decode cJ0_length_8abf5 10 = .ok (.ireturn, 1) := by decide +kernel
theorem dJ0_charAt_5068e_0 : decode cJ0_charAt_5068e 0 = .ok (.aload_n 0, 1) := by decide +kernel
theorem dJ0_charAt_5068e_1 : decode cJ0_charAt_5068e 1 = .ok (.invokevirtual 492, 3) := by decide +kernel
theorem dJ0_charAt_5068e_4 : decode cJ0_charAt_5068e 4 = .ok (.ifCond .eq 12, 3) := by decide +kernel
theorem dJ0_charAt_5068e_7 : decode cJ0_charAt_5068e 7 = .ok (.aload_n 0, 1) := by decide +kernel
theorem dJ0_charAt_5068e_8 : decode cJ0_charAt_5068e 8 = .ok (.getfield 9, 3) := by decide +kernel
theorem dJ0_charAt_5068e_11 : decode cJ0_charAt_5068e 11 = .ok (.iload_n 1, 1) := by decide +kernel
theorem dJ0_charAt_5068e_12 : decode cJ0_charAt_5068e 12 = .ok (.invokestatic 495, 3) := by decide +kernel
theorem dJ0_charAt_5068e_15 : decode cJ0_charAt_5068e 15 = .ok (.ireturn, 1) := by decide +kernel
theorem dJ0_charAt_5068e_16 : decode cJ0_charAt_5068e 16 = .ok (.aload_n 0, 1) := by decide +kernel
theorem dJ0_charAt_5068e_17 : decode cJ0_charAt_5068e 17 = .ok (.getfield 9, 3) := by decide +kernel
theorem dJ0_charAt_5068e_20 : decode cJ0_charAt_5068e 20 = .ok (.iload_n 1, 1) := by decide +kernel
theorem dJ0_charAt_5068e_21 : decode cJ0_charAt_5068e 21 = .ok (.invokestatic 498, 3) := by decide +kernel
theorem dJ0_charAt_5068e_24 : decode cJ0_charAt_5068e 24 = .ok (.ireturn, 1) := by decide +kernel
theorem dJ0_coder_7d493_0 : decode cJ0_coder_7d493 0 = .ok (.getstatic 38, 3) := by decide +kernel
theorem dJ0_coder_7d493_3 : decode cJ0_coder_7d493 3 = .ok (.ifCond .eq 10, 3) := by decide +kernel
theorem dJ0_coder_7d493_6 : decode cJ0_coder_7d493 6 = .ok (.aload_n 0, 1) := by decide +kernel
theorem dJ0_coder_7d493_7 : decode cJ0_coder_7d493 7 = .ok (.getfield 15, 3) := by decide +kernel
theorem dJ0_coder_7d493_10 : decode cJ0_coder_7d493 10 = .ok (.goto 4, 3) := by decide +kernel
theorem dJ0_coder_7d493_13 : decode cJ0_coder_7d493 13 = .ok (.iconst 1, 1) := by decide +kernel
theorem dJ0_coder_7d493_14 : decode cJ0_coder_7d493 14 = .ok (.ireturn, 1) := by decide +kernel
theorem dJ0_isLatin1_aae02_0 : decode cJ0_isLatin1_aae02 0 = .ok (.getstatic 38, 3) := by decide +kernel
theorem dJ0_isLatin1_aae02_3 : decode cJ0_isLatin1_aae02 3 = .ok (.ifCond .eq 14, 3) := by decide +kernel
theorem dJ0_isLatin1_aae02_6 : decode cJ0_isLatin1_aae02 6 = .ok (.aload_n 0, 1) := by decide +kernel
theorem dJ0_isLatin1_aae02_7 : decode cJ0_isLatin1_aae02 7 = .ok (.getfield 15, 3) := by decide +kernel
theorem dJ0_isLatin1_aae02_10 : decode cJ0_isLatin1_aae02 10 = .ok (.ifCond .ne 7, 3) := by decide +kernel
theorem dJ0_isLatin1_aae02_13 : decode cJ0_isLatin1_aae02 13 = .ok (.iconst 1, 1) := by decide +kernel
theorem dJ0_isLatin1_aae02_14 : decode cJ0_isLatin1_aae02 14 = .ok (.goto 4, 3) := by decide +kernel
theorem dJ0_isLatin1_aae02_17 : decode cJ0_isLatin1_aae02 17 = .ok (.iconst 0, 1) := by decide +kernel
theorem dJ0_isLatin1_aae02_18 : decode cJ0_isLatin1_aae02 18 = .ok (.ireturn, 1) := by decide +kernel
theorem dJ0_checkIndex_df160_0 : decode cJ0_checkIndex_df160 0 = .ok (.iload_n 0, 1) := by decide +kernel
theorem dJ0_checkIndex_df160_1 : decode cJ0_checkIndex_df160 1 = .ok (.iload_n 1, 1) := by decide +kernel
theorem dJ0_checkIndex_df160_2 : decode cJ0_checkIndex_df160 2 = .ok (.getstatic 1053, 3) := by decide +kernel
theorem dJ0_checkIndex_df160_5 : decode cJ0_checkIndex_df160 5 = .ok (.invokestatic 1059, 3) := by decide +kernel
theorem dJ0_checkIndex_df160_8 : decode cJ0_checkIndex_df160 8 = .ok (.pop, 1) := by decide +kernel
theorem dJ0_checkIndex_df160_9 : decode cJ0_checkIndex_df160 9 = .ok (.return_, 1) := by decide +kernel
theorem dJ1_charAt_3b067_0 : decode cJ1_charAt_3b067 0 = .ok (.iload_n 1, 1) := by decide +kernel
theorem dJ1_charAt_3b067_1 : decode cJ1_charAt_3b067 1 = .ok (.aload_n 0, 1) := by decide +kernel
theorem dJ1_charAt_3b067_2 : decode cJ1_charAt_3b067 2 = .ok (.arraylength, 1) := by decide +kernel
theorem dJ1_charAt_3b067_3 : decode cJ1_charAt_3b067 3 = .ok (.invokestatic 9, 3) := by decide +kernel
theorem dJ1_charAt_3b067_6 : decode cJ1_charAt_3b067 6 = .ok (.aload_n 0, 1) := by decide +kernel
theorem dJ1_charAt_3b067_7 : decode cJ1_charAt_3b067 7 = .ok (.iload_n 1, 1) := by decide +kernel
theorem dJ1_charAt_3b067_8 : decode cJ1_charAt_3b067 8 = .ok (.baload, 1) := by decide +kernel
theorem dJ1_charAt_3b067_9 : decode cJ1_charAt_3b067 9 = .ok (.sipush 255, 3) := by decide +kernel
theorem dJ1_charAt_3b067_12 : decode cJ1_charAt_3b067 12 = .ok (.iand, 1) := by decide +kernel
theorem dJ1_charAt_3b067_13 : decode cJ1_charAt_3b067 13 = .ok (.i2c, 1) := by decide +kernel
theorem dJ1_charAt_3b067_14 : decode cJ1_charAt_3b067 14 = .ok (.ireturn, 1) := by decide +kernel
theorem dJ3_checkIndex_8e157_0 : decode cJ3_checkIndex_8e157 0 = .ok (.iload_n 0, 1) := by decide +kernel
theorem dJ3_checkIndex_8e157_1 : decode cJ3_checkIndex_8e157 1 = .ok (.ifCond .lt 8, 3) := by decide +kernel
theorem dJ3_checkIndex_8e157_4 : decode cJ3_checkIndex_8e157 4 = .ok (.iload_n 0, 1) := by decide +kernel
theorem dJ3_checkIndex_8e157_5 : decode cJ3_checkIndex_8e157 5 = .ok (.iload_n 1, 1) := by decide +kernel
theorem dJ3_checkIndex_8e157_6 : decode cJ3_checkIndex_8e157 6 = .ok (.if_icmp .lt 10, 3) := by decide +kernel
theorem dJ3_checkIndex_8e157_9 : decode cJ3_checkIndex_8e157 9 = .ok (.aload_n 2, 1) := by decide +kernel
theorem dJ3_checkIndex_8e157_10 : decode cJ3_checkIndex_8e157 10 = .ok (.iload_n 0, 1) := by decide +kernel
theorem dJ3_checkIndex_8e157_11 : decode cJ3_checkIndex_8e157 11 = .ok (.iload_n 1, 1) := by decide +kernel
theorem dJ3_checkIndex_8e157_12 : decode cJ3_checkIndex_8e157 12 = .ok (.invokestatic 95, 3) := by decide +kernel
theorem dJ3_checkIndex_8e157_15 : decode cJ3_checkIndex_8e157 15 = .ok (.athrow, 1) := by decide +kernel
theorem dJ3_checkIndex_8e157_16 : decode cJ3_checkIndex_8e157 16 = .ok (.iload_n 0, 1) := by decide +kernel
theorem dJ3_checkIndex_8e157_17 : decode cJ3_checkIndex_8e157 17 = .ok (.ireturn, 1) := by decide +kernel
set_option maxRecDepth 100000 in
theorem fl_J0_9 : Cond.fieldLink RJ0 9 "java/lang/String" "value" "[B" ∈ gw := gw_T8 175 rfl rfl
set_option maxRecDepth 100000 in
theorem fl_J0_15 : Cond.fieldLink RJ0 15 "java/lang/String" "coder" "B" ∈ gw := gw_T8 176 rfl rfl
set_option maxRecDepth 100000 in
theorem fl_J0_38 : Cond.fieldLink RJ0 38 "java/lang/String" "COMPACT_STRINGS" "Z" ∈ gw := gw_T1 177 rfl rfl
set_option maxRecDepth 100000 in
theorem fl_J0_1053 : Cond.fieldLink RJ0 1053 "jdk/internal/util/Preconditions" "SIOOBE_FORMATTER" "Ljava/util/function/BiFunction;" ∈ gw := gw_T1 193 rfl rfl
/-! String.length and String.charAt at the one constant: walks that read cells below the base and write none -/
def Sb (b k v : Nat) (f : Value) (U : State) : Prop := va_O "java/lang/String" k (fun q => b ≤ q) U U.heap ∧ va_OF "java/lang/String" "coder" "B" (.int 0) k (fun q => b ≤ q) U U.heap ∧ va_OF "java/lang/String" "value" "[B" (.ref v) k (fun q => b ≤ q) U U.heap ∧ va_T .byte v 115 (fun j => .int (wByt.getD j 0)) (fun q => b ≤ q) U U.heap ∧ va_Z "java/lang/String" "COMPACT_STRINGS" "Z" (.int 1) (fun q => b ≤ q) U U.heap ∧ va_Z "jdk/internal/util/Preconditions" "SIOOBE_FORMATTER" "Ljava/util/function/BiFunction;" f (fun q => b ≤ q) U U.heap
theorem Sb.warm {b k v : Nat} {f : Value} {s U : State} (h : Sb b k v f s) (hW : s.WarmedH U.vm) (hH : ∀ q : Nat, q < s.heap.size → ¬ b ≤ q → U.heap[q]? = s.heap[q]?) : Sb b k v f U := by
  obtain ⟨h1, h2, h3, h4, h5, h6⟩ := h
  exact ⟨(va_O.moved hW.alike h1).kept hH, (va_OF.moved hW.alike h2).kept hH, (va_OF.moved hW.alike h3).kept hH, (va_T.moved hW.alike h4).kept hH, (va_Z.moved hW.alike h5).kept hH, (va_Z.moved hW.alike h6).kept hH⟩
theorem Sb.call {b k v : Nat} {f : Value} {U : State} {g : JFrame} {mk : MethodId} {a : Array Value} (h : Sb b k v f U) : Sb b k v f (U.calling g mk a) := by
  obtain ⟨h1, h2, h3, h4, h5, h6⟩ := h
  have hA : U.vm.Alike (U.calling g mk a).vm := Vm.Alike.refl U.vm
  exact ⟨va_O.moved (u := U) (U := U.calling g mk a) hA h1, va_OF.moved (u := U) (U := U.calling g mk a) hA h2, va_OF.moved (u := U) (U := U.calling g mk a) hA h3, va_T.moved (u := U) (U := U.calling g mk a) hA h4, va_Z.moved (u := U) (U := U.calling g mk a) hA h5, va_Z.moved (u := U) (U := U.calling g mk a) hA h6⟩
theorem SK.get {b : Nat} {U : State} (h : SK b U) : ∃ (k v : Nat) (f : Value), (f = .null ∨ ∃ t : Nat, f = .ref t) ∧ Sb b k v f U ∧ vk_R RX9 36 wTx k U := by
  obtain ⟨adK, adV, fv, h0, h1, h2, h3, h4⟩ := h
  obtain ⟨g1, g2, g3, g4⟩ := h1.1 0 (by decide)
  exact ⟨adK 0, adV 0, fv, h0, ⟨g1, g2, g3, g4, h3, h4⟩, h2⟩
def QS (r : Option Value) : Array Value → State → Outcome → State → Prop := fun _ st o t => o = .returned r ∧ t.heap = st.heap
def MS (b k v : Nat) (f : Value) (N : MT) (d : Nat) (as : List Value) (r : Option Value) : Prop := ∀ l : Launch, Met l N.1 (wsM N) (rmd d 0 0) (va_Pc as (Sb b k v f)) (QS r) 0 0 (fun q => b ≤ q)
def CS (b k v : Nat) (f : Value) (M : MT) (p : Program) (s : State) (m : MethodId) (args : Array Value) (meth : Method) (c : Code) : Prop := p.tables.exec = Jvm.exec ∧ c.code = M.2.1 ∧ meth.sig.returnType = M.2.2.2 ∧ meth.locks = false ∧ c.maxLocals = M.2.2.1 ∧ s.vm.findClass M.1.cls = some m.cls ∧ (∀ w ∈ wsM M, w.before args s = true) ∧ Sb b k v f s
def lS (ls : Array Slot) (nL : Nat) (la : List (Option Value)) : Prop := ls.size = nL ∧ lv_wf ls ∧ ∀ (i : Nat) (w : Value), la[i]? = some (some w) → ls[i]? = some (.val w)
def XS (b k v : Nat) (f : Value) (M : MT) (d pc : Nat) (la : List (Option Value)) (st : List Value) (r : Option Value) : Prop :=
  ∀ (l : Launch) (p : Program) (e : Env) (s : State) (m : MethodId) (args : Array Value) (below : List Frame) (meth : Method) (c : Code) (ls : Array Slot) (H : Heap) (locs : List Loc),
    CS b k v f M p s m args meth c → lS ls M.2.2.1 la → H = s.heap → (∀ q ∈ locs, b ≤ q.base) → W p l e (rmd d 0 0) s m args below meth c H locs 0 0 (MQ below (QS r) args s 0 0 (fun q => b ≤ q)) (F0 m pc ls st)
theorem vS {A : Nat → Prop} {H0 H : Heap} {locs : List Loc} (h : H = H0) (hl : ∀ q ∈ locs, A q.base) : va_S A H0 H locs := by
  subst h
  exact ⟨Nat.le_refl _, fun _ _ _ => rfl, hl⟩
theorem enS_args (n : Nat) : ∀ (vs : List Value) (off i : Nat) (v : Value), (enL vs ++ List.replicate n none)[i]? = some (some v) → (off + i, v) ∈ lv_args off vs
  | [], off, i, v, h => by
    simp only [enL, List.nil_append] at h
    rw [List.getElem?_replicate] at h
    split at h <;> cases h
  | w :: vs, off, i, v, h => by
    simp only [enL] at h
    show _ ∈ (off, w) :: lv_args (if w.category = 2 then off + 2 else off + 1) vs
    by_cases hc : w.category = 2
    · rw [if_pos hc] at h ⊢
      match i with
      | 0 => simp only [List.cons_append, List.getElem?_cons_zero] at h; cases h; exact List.mem_cons_self
      | 1 => simp only [List.cons_append, List.getElem?_cons_succ, List.getElem?_cons_zero] at h; cases h
      | i + 2 =>
        simp only [List.cons_append, List.getElem?_cons_succ] at h
        have := enS_args n vs (off + 2) i v h
        rw [show off + (i + 2) = off + 2 + i by omega]
        exact List.mem_cons_of_mem _ this
    · rw [if_neg hc] at h ⊢
      match i with
      | 0 => simp only [List.cons_append, List.getElem?_cons_zero] at h; cases h; exact List.mem_cons_self
      | i + 1 =>
        simp only [List.cons_append, List.getElem?_cons_succ] at h
        have := enS_args n vs (off + 1) i v h
        rw [show off + (i + 1) = off + 1 + i by omega]
        exact List.mem_cons_of_mem _ this
theorem lgS_len : ∀ vs : List Value, (lg_sl vs).length = (enL vs).length
  | [] => rfl
  | w :: vs => by
    have ih := lgS_len vs
    show ((if w.category = 2 then [Slot.val w, Slot.second] else [Slot.val w]) ++ lg_sl vs).length = (if w.category = 2 then some w :: none :: enL vs else some w :: enL vs).length
    rw [List.length_append, ih]
    split <;> simp <;> omega
theorem MS.of {b k v : Nat} {f : Value} {M : MT} {d : Nat} {as : List Value} {r : Option Value} (la : List (Option Value)) (ok : okM M) (hla : enL as ++ List.replicate (M.2.2.1 - (enL as).length) none = la) (hlen : (enL as).length ≤ M.2.2.1) (kk : XS b k v f M d 0 la [] r) : MS b k v f M d as r := by
  intro l
  refine Met.ofW (cc := M.2.1) (maxL := M.2.2.1) (ret := M.2.2.2) ok.2.2.2.2.1 rfl ?_
  intro p e s m args below meth c s₁ B hml hv
  obtain ⟨rfl, hK⟩ := hv
  have hts := atoms_spec (ws := wsM M) B.pre
  have hown : s.vm.findClass M.1.cls = some m.cls := findClass_of_methodNamed B.named
  rw [lg_entry_eq]
  have hl := lv_entry as (n := M.2.2.1) (by rw [lgS_len]; exact hlen)
  exact kk l p e s m as.toArray below meth c _ s.heap [] ⟨B.exec, B.bytes, B.returns, B.notSynchronized, hml, hown, hts, hK⟩ ⟨hl.1, hl.2.1, fun i w hi => hl.2.2 (i, w) (by
    rw [← hla] at hi
    have := enS_args _ as 0 i w hi
    rwa [Nat.zero_add] at this)⟩ rfl (fun _ h => by cases h)
section XR
variable {b k v : Nat} {f : Value} {M : MT} {d pc : Nat} {la : List (Option Value)} {st : List Value} {r : Option Value}
theorem x_go {pc2 : Nat} {st2 : List Value} (F : ∀ {l : Launch} {p : Program} {e : Env} {R : Room} {s : State} {m : MethodId} {args : Array Value} {below : List Frame} {meth : Method} {c : Code} {ls : Array Slot} {H : Heap} {locs : List Loc} {Q : State → Prop},
    CS b k v f M p s m args meth c → lS ls M.2.2.1 la → va_S (fun q => b ≤ q) s.heap H locs → W p l e R s m args below meth c H locs 0 0 Q (F0 m pc2 ls st2) → W p l e R s m args below meth c H locs 0 0 Q (F0 m pc ls st)) (kk : XS b k v f M d pc2 la st2 r) : XS b k v f M d pc la st r :=
  fun l p e s m args below meth c ls H locs C L hH hL => F C L (vS hH hL) (kk l p e s m args below meth c ls H locs C L hH hL)
theorem x_aload {i x : Nat} {kf : Fin 4} (hd : decode M.2.1 pc = .ok (.aload_n kf, 1)) (hi : (kf : Nat) = i) (hl : la[i]? = some (some (.ref x))) (kk : XS b k v f M d (pc + 1) la (.ref x :: st) r) : XS b k v f M d pc la st r := x_go (fun C L _ w => lv_aload_n C.1 C.2.1 hd hi (L.2.2 i _ hl) w) kk
theorem x_iload {i : Nat} {x : Int32} {kf : Fin 4} (hd : decode M.2.1 pc = .ok (.iload_n kf, 1)) (hi : (kf : Nat) = i) (hl : la[i]? = some (some (.int x))) (kk : XS b k v f M d (pc + 1) la (.int x :: st) r) : XS b k v f M d pc la st r := x_go (fun C L _ w => lv_iload_n C.1 C.2.1 hd hi (L.2.2 i _ hl) w) kk
theorem x_coder (hM : M.1.cls = RJ0) (hd : decode M.2.1 pc = .ok (.getfield 15, 3)) (kk : XS b k v f M d (pc + 3) la (.int 0 :: st) r) : XS b k v f M d pc la (.ref k :: st) r := x_go (fun C _ S w => vk_getf C.1 C.2.1 C.2.2.2.2.2.2.2.2.1 S C.2.2.2.2.2.1 (hM ▸ C.2.2.2.2.2.2.1 _ (List.mem_cons_of_mem _ fl_J0_15)) (fun _ h => h) hd w) kk
theorem x_value (hM : M.1.cls = RJ0) (hd : decode M.2.1 pc = .ok (.getfield 9, 3)) (kk : XS b k v f M d (pc + 3) la (.ref v :: st) r) : XS b k v f M d pc la (.ref k :: st) r := x_go (fun C _ S w => vk_getf C.1 C.2.1 C.2.2.2.2.2.2.2.2.2.1 S C.2.2.2.2.2.1 (hM ▸ C.2.2.2.2.2.2.1 _ (List.mem_cons_of_mem _ fl_J0_9)) (fun _ h => h) hd w) kk
theorem x_len (hd : decode M.2.1 pc = .ok (.arraylength, 1)) (kk : XS b k v f M d (pc + 1) la (.int 115 :: st) r) : XS b k v f M d pc la (.ref v :: st) r := x_go (fun C _ S w => va_tlen C.1 C.2.1 C.2.2.2.2.2.2.2.2.2.2.1 S (by decide) hd w) kk
theorem x_byte {i : Int32} {j : Nat} (hj : vp_in i 115) (he : i.toNatClampNeg = j) (hd : decode M.2.1 pc = .ok (.baload, 1)) (kk : XS b k v f M d (pc + 1) la (.int (wByt.getD j 0) :: st) r) : XS b k v f M d pc la (.int i :: .ref v :: st) r := x_go (fun C _ S w => va_tb C.1 C.2.1 C.2.2.2.2.2.2.2.2.2.2.1 S hj (by rw [he]) hd w) kk
theorem x_compact (hM : M.1.cls = RJ0) (hd : decode M.2.1 pc = .ok (.getstatic 38, 3)) (kk : XS b k v f M d (pc + 3) la (.int 1 :: st) r) : XS b k v f M d pc la st r := x_go (fun C _ S w => va_gets C.1 C.2.1 C.2.2.2.2.2.2.2.2.2.2.2.1 S C.2.2.2.2.2.1 (hM ▸ C.2.2.2.2.2.2.1 _ (List.mem_cons_of_mem _ fl_J0_38)) (fun _ h => h) hd w) kk
theorem x_form (hM : M.1.cls = RJ0) (hd : decode M.2.1 pc = .ok (.getstatic 1053, 3)) (kk : XS b k v f M d (pc + 3) la (f :: st) r) : XS b k v f M d pc la st r := x_go (fun C _ S w => va_gets C.1 C.2.1 C.2.2.2.2.2.2.2.2.2.2.2.2 S C.2.2.2.2.2.1 (hM ▸ C.2.2.2.2.2.2.1 _ (List.mem_cons_of_mem _ fl_J0_1053)) (fun _ h => h) hd w) kk
theorem x_iconst {n : Int} {w0 : Int32} (hd : decode M.2.1 pc = .ok (.iconst n, 1)) (hv : Int32.ofInt n = w0) (kk : XS b k v f M d (pc + 1) la (.int w0 :: st) r) : XS b k v f M d pc la st r := x_go (fun C _ _ w => lv_iconst C.1 C.2.1 hd hv w) kk
theorem x_sipush {n : Int} {w0 : Int32} (hd : decode M.2.1 pc = .ok (.sipush n, 3)) (hv : (Int16.ofInt n).toInt32 = w0) (kk : XS b k v f M d (pc + 3) la (.int w0 :: st) r) : XS b k v f M d pc la st r := x_go (fun C _ _ w => lv_sipush C.1 C.2.1 hd hv w) kk
theorem x_goto {off : Int} (tgt : Nat) (hd : decode M.2.1 pc = .ok (.goto off, 3)) (ht : (pc : Int) + off = (tgt : Int)) (kk : XS b k v f M d tgt la st r) : XS b k v f M d pc la st r := x_go (fun C _ _ w => lv_goto C.1 C.2.1 hd ht w) kk
theorem x_ifeqN {x : Int32} {off : Int} (tgt : Nat) (hx : ¬ x = 0) (hd : decode M.2.1 pc = .ok (.ifCond .eq off, 3)) (ht : (pc : Int) + off = (tgt : Int)) (kk : XS b k v f M d (pc + 3) la st r) : XS b k v f M d pc la (.int x :: st) r := x_go (fun C _ _ w => lv_if_eq C.1 C.2.1 hd ht (fun q => absurd q hx) (fun _ => w)) kk
theorem x_ifneN {x : Int32} {off : Int} (tgt : Nat) (hx : x = 0) (hd : decode M.2.1 pc = .ok (.ifCond .ne off, 3)) (ht : (pc : Int) + off = (tgt : Int)) (kk : XS b k v f M d (pc + 3) la st r) : XS b k v f M d pc la (.int x :: st) r := x_go (fun C _ _ w => lv_if_ne C.1 C.2.1 hd ht (fun q => absurd hx q) (fun _ => w)) kk
theorem x_ifltN {x : Int32} {off : Int} (tgt : Nat) (hx : ¬ x < 0) (hd : decode M.2.1 pc = .ok (.ifCond .lt off, 3)) (ht : (pc : Int) + off = (tgt : Int)) (kk : XS b k v f M d (pc + 3) la st r) : XS b k v f M d pc la (.int x :: st) r := x_go (fun C _ _ w => lv_if_lt C.1 C.2.1 hd ht (fun q => absurd q hx) (fun _ => w)) kk
theorem x_icmplt {x y : Int32} {off : Int} (tgt : Nat) (hx : x < y) (hd : decode M.2.1 pc = .ok (.if_icmp .lt off, 3)) (ht : (pc : Int) + off = (tgt : Int)) (kk : XS b k v f M d tgt la st r) : XS b k v f M d pc la (.int y :: .int x :: st) r := x_go (fun C _ _ w => lv_icmp_lt C.1 C.2.1 hd ht (fun _ => w) (fun q => absurd hx q)) kk
theorem x_ishr {x y : Int32} (hd : decode M.2.1 pc = .ok (.ishr, 1)) (kk : XS b k v f M d (pc + 1) la (.int (x >>> (y &&& 31)) :: st) r) : XS b k v f M d pc la (.int y :: .int x :: st) r := x_go (fun C _ _ w => lv_ishr C.1 C.2.1 hd w) kk
theorem x_iand {x y : Int32} (hd : decode M.2.1 pc = .ok (.iand, 1)) (kk : XS b k v f M d (pc + 1) la (.int (x &&& y) :: st) r) : XS b k v f M d pc la (.int y :: .int x :: st) r := x_go (fun C _ _ w => lv_iand C.1 C.2.1 hd w) kk
theorem x_i2c {x w0 : Int32} (hd : decode M.2.1 pc = .ok (.i2c, 1)) (hv : (x.toUInt32 % 65536).toInt32 = w0) (kk : XS b k v f M d (pc + 1) la (.int w0 :: st) r) : XS b k v f M d pc la (.int x :: st) r := x_go (fun C _ _ w => lv_i2c C.1 C.2.1 hd hv w) kk
theorem x_pop {x : Value} (hd : decode M.2.1 pc = .ok (.pop, 1)) (hx : x.category = 1) (kk : XS b k v f M d (pc + 1) la st r) : XS b k v f M d pc la (x :: st) r := x_go (fun C _ _ w => lv_pop C.1 C.2.1 hd hx w) kk
theorem x_end (F : ∀ {l : Launch} {p : Program} {e : Env} {R : Room} {s : State} {m : MethodId} {args : Array Value} {below : List Frame} {meth : Method} {c : Code} {ls : Array Slot} {H : Heap} {locs : List Loc}, CS b k v f M p s m args meth c → (∀ t : State, t.heap = H → s.WarmedH t.vm → QS r args s (.returned r) t) → (∀ q ∈ locs, b ≤ q.base) → W p l e R s m args below meth c H locs 0 0 (MQ below (QS r) args s 0 0 (fun q => b ≤ q)) (F0 m pc ls st)) : XS b k v f M d pc la st r :=
  fun l p e s m args below meth c ls H locs C L hH hL => F C (fun t ht _ => ⟨rfl, ht.trans hH⟩) hL
theorem x_iret {x : Int32} (hr : M.2.2.2 = some .int) (hd : decode M.2.1 pc = .ok (.ireturn, 1)) : XS b k v f M d pc la [.int x] (some (.int x)) := x_end (fun C hq hf => W.iret C.1 C.2.1 (C.2.2.1.trans hr) hq hf hd (hlocks := C.2.2.2.1))
theorem x_nret {x : Int32} (ty : FieldType) (hr : M.2.2.2 = some ty) (hn : narrow ty (.int x) = .int x) (hd : decode M.2.1 pc = .ok (.ireturn, 1)) : XS b k v f M d pc la [.int x] (some (.int x)) := x_end (fun C hq hf => W.zret (ty := ty) C.1 C.2.1 (C.2.2.1.trans hr) hn hq hf hd (hlocks := C.2.2.2.1))
theorem x_vret (hr : M.2.2.2 = none) (hd : decode M.2.1 pc = .ok (.return_, 1)) : XS b k v f M d pc la [] none := x_end (fun C hq hf => W.vret C.1 C.2.1 (C.2.2.1.trans hr) hq hf hd (hlocks := C.2.2.2.1))
end XR
theorem Sb_blind {b k v : Nat} {f : Value} {as : List Value} : FrameBlind (va_Pc as (Sb b k v f)) := fun _ _ _ _ q => ⟨q.1, q.2.call⟩
theorem x_callV {b k v : Nat} {f : Value} {M N : MT} {d pc idx n : Nat} {la : List (Option Value)} {st : List Value} {r r1 : Option Value} (As : List Value) {st0 : List Value} (h0 : st0 = As.reverse ++ .ref k :: st) (ok : okM N) (hc : N.1.cls = "java/lang/String") (hl : Cond.methodLink M.1.cls idx N.1 ∈ gw) (h1 : Cond.instanceMethod N.1 ∈ gw) (h2 : Cond.selects N.1.cls N.1 N.1 ∈ gw) (hn1 : (parseMethodDescriptor N.1.desc).map (fun d => d.parameters.length) = some n) (hn2 : As.length = n) (hcat : catS st ≤ 8) (hd : decode M.2.1 pc = .ok (.invokevirtual idx, 3)) (hk : MS b k v f N d (.ref k :: As) r1) (kk : XS b k v f M (d + 1) (pc + 3) la (r1.toList ++ st) r) : XS b k v f M (d + 1) pc la st0 r := by
  subst h0
  intro l p e s m args below meth c ls H locs C L hH hL
  obtain ⟨hx, hb, hret, hlk, hml, hown, hts, hS⟩ := C
  obtain ⟨k1, k2, k3, k4, k5, k6⟩ := ok
  have hrc : ∃ cell : Cell, H[k]? = some cell ∧ cell.vm.isStatics = false ∧ s.vm.findClass N.1.cls = some cell.cls := by
    obtain ⟨cell, g1, g2, g3, -⟩ := hS.1
    exact ⟨cell, by rw [hH]; exact g1, g2, by rw [hc]; exact g3⟩
  have hPr : PreV s H N.1.cls k (va_Pc (.ref k :: As) (Sb b k v f)) As := ⟨Sb_blind, hrc, fun U hU hW => ⟨rfl, hS.warm hW (fun q _ _ => by rw [hU, hH])⟩⟩
  have hsg : ∀ sig, parseMethodDescriptor N.1.desc = some sig → n = sig.parameters.length := fun sig h => by rw [h] at hn1; exact (Option.some.inj hn1).symm
  have hlo : 8 + (N.2.2.1 + 11) + (rmd d 0 0).locals ≤ (rmd (d + 1) 0 0).locals := by
    show 8 + (N.2.2.1 + 11) + 80 * d ≤ 80 * (d + 1)
    omega
  refine W.ofRun (va_runV (cc := M.2.1) (bytes := N.2.1) (maxL := N.2.2.1) (ret := N.2.2.2) (As := As) ⟨hx, hb, hml, hown, hts⟩ (hk l) ⟨⟨rfl, rfl, Nat.le_refl _, hlo, pay_in hts (good_all k1), List.mem_cons_self, hts _ (List.mem_cons_of_mem _ k1), hts _ (List.mem_cons_of_mem _ k2), ⟨k3, k4⟩, hsg, hts _ (List.mem_cons_of_mem _ hl)⟩, hts _ (List.mem_cons_of_mem _ h1), hts _ (List.mem_cons_of_mem _ h2)⟩ hPr rfl hn2 L.1 rfl (lv_room hcat) hd ⟨Nat.le_refl _, Nat.le_refl _⟩) (fun w st₀ t L1 e0 hq hL1 => ?_)
  obtain ⟨hw, ht⟩ := hq
  cases hw
  exact kk l p e s m args below meth c ls t.heap (locs ++ L1) ⟨hx, hb, hret, hlk, hml, hown, hts, hS⟩ L (by rw [ht, e0, hH]) (fun q hq => by
    rcases List.mem_append.mp hq with h | h
    · exact hL q h
    · exact hL1 q h)
theorem x_callS {b k v : Nat} {f : Value} {M N : MT} {d pc idx n : Nat} {la : List (Option Value)} {st : List Value} {r r1 : Option Value} (As : List Value) {st0 : List Value} (h0 : st0 = As.reverse ++ st) (ok : okM N) (hl : Cond.methodLink M.1.cls idx N.1 ∈ gw) (h1 : Cond.static N.1 ∈ gw) (hn1 : (parseMethodDescriptor N.1.desc).map (fun d => d.parameters.length) = some n) (hn2 : As.length = n) (hcat : catS st ≤ 8) (hd : decode M.2.1 pc = .ok (.invokestatic idx, 3)) (hk : MS b k v f N d As r1) (kk : XS b k v f M (d + 1) (pc + 3) la (r1.toList ++ st) r) : XS b k v f M (d + 1) pc la st0 r := by
  subst h0
  intro l p e s m args below meth c ls H locs C L hH hL
  obtain ⟨hx, hb, hret, hlk, hml, hown, hts, hS⟩ := C
  obtain ⟨k1, k2, k3, k4, k5, k6⟩ := ok
  have hPr : PreS s H (va_Pc As (Sb b k v f)) As := ⟨Sb_blind, fun U hU hW => ⟨rfl, hS.warm hW (fun q _ _ => by rw [hU, hH])⟩⟩
  have hsg : ∀ sig, parseMethodDescriptor N.1.desc = some sig → n = sig.parameters.length := fun sig h => by rw [h] at hn1; exact (Option.some.inj hn1).symm
  have hlo : 8 + (N.2.2.1 + 11) + (rmd d 0 0).locals ≤ (rmd (d + 1) 0 0).locals := by
    show 8 + (N.2.2.1 + 11) + 80 * d ≤ 80 * (d + 1)
    omega
  refine W.ofRun (va_runS (cc := M.2.1) (bytes := N.2.1) (maxL := N.2.2.1) (ret := N.2.2.2) (As := As) ⟨hx, hb, hml, hown, hts⟩ (hk l) ⟨⟨rfl, rfl, Nat.le_refl _, hlo, pay_in hts (good_all k1), List.mem_cons_self, hts _ (List.mem_cons_of_mem _ k1), hts _ (List.mem_cons_of_mem _ k2), ⟨k3, k4⟩, hsg, hts _ (List.mem_cons_of_mem _ hl)⟩, hts _ (List.mem_cons_of_mem _ h1)⟩ hPr rfl hn2 L.1 rfl (lv_room hcat) hd ⟨Nat.le_refl _, Nat.le_refl _⟩) (fun w st₀ t L1 e0 hq hL1 => ?_)
  obtain ⟨hw, ht⟩ := hq
  cases hw
  exact kk l p e s m args below meth c ls t.heap (locs ++ L1) ⟨hx, hb, hret, hlk, hml, hown, hts, hS⟩ L (by rw [ht, e0, hH]) (fun q hq => by
    rcases List.mem_append.mp hq with h | h
    · exact hL q h
    · exact hL1 q h)
section MSS
variable {b k v : Nat} {f : Value}
set_option maxRecDepth 100000 in
theorem kl_J0_335 : Cond.methodLink RJ0 335 yJ0_coder_7d493 ∈ gw := gw_T1 173 rfl rfl
set_option maxRecDepth 100000 in
theorem kl_J0_492 : Cond.methodLink RJ0 492 yJ0_isLatin1_aae02 ∈ gw := gw_T1 183 rfl rfl
set_option maxRecDepth 100000 in
theorem kl_J0_495 : Cond.methodLink RJ0 495 yJ1_charAt_3b067 ∈ gw := gw_T1 187 rfl rfl
set_option maxRecDepth 100000 in
theorem kl_J1_9 : Cond.methodLink RJ1 9 yJ0_checkIndex_df160 ∈ gw := gw_T1 190 rfl rfl
set_option maxRecDepth 100000 in
theorem kl_J0_1059 : Cond.methodLink RJ0 1059 yJ3_checkIndex_8e157 ∈ gw := gw_T1 195 rfl rfl
set_option maxRecDepth 100000 in
theorem kl_X9_38 : Cond.methodLink RX9 38 yJ0_length_8abf5 ∈ gw := gw_T1 169 rfl rfl
set_option maxRecDepth 100000 in
theorem kl_X9_43 : Cond.methodLink RX9 43 yJ0_charAt_5068e ∈ gw := gw_T1 179 rfl rfl
theorem ms_coder (d : Nat) : MS b k v f mJ0_coder_7d493 d [.ref k] (some (.int 0)) := by
  refine MS.of [some (.ref k)] ok_J0_coder_7d493 rfl (Nat.le_of_ble_eq_true rfl) ?_
  refine x_compact rfl dJ0_coder_7d493_0 ?_
  refine x_ifeqN 13 (by decide) dJ0_coder_7d493_3 (by decide) ?_
  refine x_aload (i := 0) dJ0_coder_7d493_6 rfl rfl ?_
  refine x_coder rfl dJ0_coder_7d493_7 ?_
  refine x_goto 14 dJ0_coder_7d493_10 (by decide) ?_
  exact x_nret .byte rfl rfl dJ0_coder_7d493_14
theorem ms_isLatin1 (d : Nat) : MS b k v f mJ0_isLatin1_aae02 d [.ref k] (some (.int 1)) := by
  refine MS.of [some (.ref k)] ok_J0_isLatin1_aae02 rfl (Nat.le_of_ble_eq_true rfl) ?_
  refine x_compact rfl dJ0_isLatin1_aae02_0 ?_
  refine x_ifeqN 17 (by decide) dJ0_isLatin1_aae02_3 (by decide) ?_
  refine x_aload (i := 0) dJ0_isLatin1_aae02_6 rfl rfl ?_
  refine x_coder rfl dJ0_isLatin1_aae02_7 ?_
  refine x_ifneN 17 rfl dJ0_isLatin1_aae02_10 (by decide) ?_
  refine x_iconst (w0 := 1) dJ0_isLatin1_aae02_13 (by decide) ?_
  refine x_goto 18 dJ0_isLatin1_aae02_14 (by decide) ?_
  exact x_nret .boolean rfl rfl dJ0_isLatin1_aae02_18
theorem ms_length (d : Nat) : MS b k v f mJ0_length_8abf5 (d + 1) [.ref k] (some (.int 115)) := by
  refine MS.of [some (.ref k)] ok_J0_length_8abf5 rfl (Nat.le_of_ble_eq_true rfl) ?_
  refine x_aload (i := 0) dJ0_length_8abf5_0 rfl rfl ?_
  refine x_value rfl dJ0_length_8abf5_1 ?_
  refine x_len dJ0_length_8abf5_4 ?_
  refine x_aload (i := 0) dJ0_length_8abf5_5 rfl rfl ?_
  refine x_callV (N := mJ0_coder_7d493) (n := 0) [] rfl ok_J0_coder_7d493 rfl kl_J0_335 im_J0_coder_7d493 se_J0_coder_7d493 (by decide +kernel) rfl (Nat.le_of_ble_eq_true rfl) dJ0_length_8abf5_6 (ms_coder d) ?_
  show XS _ _ _ _ _ _ _ _ (_ :: _) _
  refine x_ishr dJ0_length_8abf5_9 ?_
  exact x_iret (x := 115 >>> ((0 : Int32) &&& 31)) rfl dJ0_length_8abf5_10
theorem ms_check3 (d : Nat) {i : Int32} (hf : f = .null ∨ ∃ t : Nat, f = .ref t) (h0 : ¬ i < 0) (h1 : i < 115) : MS b k v f mJ3_checkIndex_8e157 d [.int i, .int 115, f] (some (.int i)) := by
  have hc : enL [.int i, .int 115, f] = [some (.int i), some (.int 115), some f] := by rcases hf with rfl | ⟨t, rfl⟩ <;> rfl
  refine MS.of [some (.int i), some (.int 115), some f] ok_J3_checkIndex_8e157 (by rw [hc]; rfl) (by rw [hc]; exact Nat.le_of_ble_eq_true rfl) ?_
  refine x_iload (i := 0) dJ3_checkIndex_8e157_0 rfl rfl ?_
  refine x_ifltN 9 h0 dJ3_checkIndex_8e157_1 (by decide) ?_
  refine x_iload (i := 0) dJ3_checkIndex_8e157_4 rfl rfl ?_
  refine x_iload (i := 1) dJ3_checkIndex_8e157_5 rfl rfl ?_
  refine x_icmplt 16 h1 dJ3_checkIndex_8e157_6 (by decide) ?_
  refine x_iload (i := 0) dJ3_checkIndex_8e157_16 rfl rfl ?_
  exact x_iret rfl dJ3_checkIndex_8e157_17
theorem ms_check0 (d : Nat) {i : Int32} (hf : f = .null ∨ ∃ t : Nat, f = .ref t) (h0 : ¬ i < 0) (h1 : i < 115) : MS b k v f mJ0_checkIndex_df160 (d + 1) [.int i, .int 115] none := by
  refine MS.of [some (.int i), some (.int 115)] ok_J0_checkIndex_df160 rfl (Nat.le_of_ble_eq_true rfl) ?_
  refine x_iload (i := 0) dJ0_checkIndex_df160_0 rfl rfl ?_
  refine x_iload (i := 1) dJ0_checkIndex_df160_1 rfl rfl ?_
  refine x_form rfl dJ0_checkIndex_df160_2 ?_
  refine x_callS (N := mJ3_checkIndex_8e157) (n := 3) [.int i, .int 115, f] rfl ok_J3_checkIndex_8e157 kl_J0_1059 sm_J3_checkIndex_8e157 (by decide +kernel) rfl (Nat.le_of_ble_eq_true rfl) dJ0_checkIndex_df160_5 (ms_check3 d hf h0 h1) ?_
  show XS _ _ _ _ _ _ _ _ (_ :: _) _
  refine x_pop dJ0_checkIndex_df160_8 rfl ?_
  exact x_vret rfl dJ0_checkIndex_df160_9
/-- the char at j -/
def wCh (j : Nat) : Int32 := wByt.getD j 0
theorem wCh_ok : ∀ j, j < 115 → ((wByt.getD j 0 &&& 255).toUInt32 % 65536).toInt32 = wCh j ∧ narrow .char (.int (wCh j)) = .int (wCh j) := by decide +kernel
theorem ms_charAt1 (d : Nat) {i : Int32} {j : Nat} (hf : f = .null ∨ ∃ t : Nat, f = .ref t) (h0 : ¬ i < 0) (h1 : i < 115) (hj : i.toNatClampNeg = j) (hv : vp_in i 115) (hl : j < 115) : MS b k v f mJ1_charAt_3b067 (d + 2) [.ref v, .int i] (some (.int (wCh j))) := by
  refine MS.of [some (.ref v), some (.int i)] ok_J1_charAt_3b067 rfl (Nat.le_of_ble_eq_true rfl) ?_
  refine x_iload (i := 1) dJ1_charAt_3b067_0 rfl rfl ?_
  refine x_aload (i := 0) dJ1_charAt_3b067_1 rfl rfl ?_
  refine x_len dJ1_charAt_3b067_2 ?_
  refine x_callS (N := mJ0_checkIndex_df160) (n := 2) [.int i, .int 115] rfl ok_J0_checkIndex_df160 kl_J1_9 sm_J0_checkIndex_df160 (by decide +kernel) rfl (Nat.le_of_ble_eq_true rfl) dJ1_charAt_3b067_3 (ms_check0 d hf h0 h1) ?_
  show XS _ _ _ _ _ _ _ _ [] _
  refine x_aload (i := 0) dJ1_charAt_3b067_6 rfl rfl ?_
  refine x_iload (i := 1) dJ1_charAt_3b067_7 rfl rfl ?_
  refine x_byte hv hj dJ1_charAt_3b067_8 ?_
  refine x_sipush (w0 := 255) dJ1_charAt_3b067_9 (by decide) ?_
  refine x_iand dJ1_charAt_3b067_12 ?_
  refine x_i2c dJ1_charAt_3b067_13 (wCh_ok j hl).1 ?_
  exact x_nret .char rfl (wCh_ok j hl).2 dJ1_charAt_3b067_14
theorem ms_charAt (d : Nat) {i : Int32} {j : Nat} (hf : f = .null ∨ ∃ t : Nat, f = .ref t) (h0 : ¬ i < 0) (h1 : i < 115) (hj : i.toNatClampNeg = j) (hv : vp_in i 115) (hl : j < 115) : MS b k v f mJ0_charAt_5068e (d + 3) [.ref k, .int i] (some (.int (wCh j))) := by
  refine MS.of [some (.ref k), some (.int i)] ok_J0_charAt_5068e rfl (Nat.le_of_ble_eq_true rfl) ?_
  refine x_aload (i := 0) dJ0_charAt_5068e_0 rfl rfl ?_
  refine x_callV (N := mJ0_isLatin1_aae02) (n := 0) [] rfl ok_J0_isLatin1_aae02 rfl kl_J0_492 im_J0_isLatin1_aae02 se_J0_isLatin1_aae02 (by decide +kernel) rfl (Nat.le_of_ble_eq_true rfl) dJ0_charAt_5068e_1 (ms_isLatin1 (d + 2)) ?_
  show XS _ _ _ _ _ _ _ _ (_ :: _) _
  refine x_ifeqN 16 (by decide) dJ0_charAt_5068e_4 (by decide) ?_
  refine x_aload (i := 0) dJ0_charAt_5068e_7 rfl rfl ?_
  refine x_value rfl dJ0_charAt_5068e_8 ?_
  refine x_iload (i := 1) dJ0_charAt_5068e_11 rfl rfl ?_
  refine x_callS (N := mJ1_charAt_3b067) (n := 2) [.ref v, .int i] rfl ok_J1_charAt_3b067 kl_J0_495 sm_J1_charAt_3b067 (by decide +kernel) rfl (Nat.le_of_ble_eq_true rfl) dJ0_charAt_5068e_12 (ms_charAt1 d hf h0 h1 hj hv hl) ?_
  show XS _ _ _ _ _ _ _ _ (_ :: _) _
  exact x_nret .char rfl (wCh_ok j hl).2 dJ0_charAt_5068e_15
end MSS
/-- ldc of the constant, some loads, and a call on it -/
theorem V.str {M N : MT} {d d0 pc pc1 pc2 : Nat} {la : List (Option Value)} {st : List Value} {h : Hp} {Q : Option Value → Hp → Prop} {idx n : Nat} {x : Value} (As : List Value) (hM : M.1.cls = RX9) (hAs : ∀ b : Nat, As.map (rl b) = As) (ok : okM N) (hc : N.1.cls = "java/lang/String") (hl : Cond.methodLink RX9 idx N.1 ∈ gw) (h1 : Cond.instanceMethod N.1 ∈ gw) (h2 : Cond.selects N.1.cls N.1 N.1 ∈ gw) (hn1 : (parseMethodDescriptor N.1.desc).map (fun d => d.parameters.length) = some n) (hn2 : As.length = n) (hcat : catS st ≤ 8) (hx : ∀ b : Nat, rl b x = x) (hd0 : decode M.2.1 pc = .ok (.ldc 36, 2)) (hd : decode M.2.1 pc1 = .ok (.invokevirtual idx, 3)) (hpc : pc1 + 3 = pc2) (hdd : d0 ≤ d) (hk : ∀ (b k v : Nat) (f : Value), (f = .null ∨ ∃ t : Nat, f = .ref t) → MS b k v f N d0 (.ref k :: As) (some x))
    (fw : ∀ {l : Launch} {b n0 : Nat} {D : va_G} {g : FieldType → ClassId} {p : Program} {e : Env} {R : Room} {s : State} {m : MethodId} {args : Array Value} {below : List Frame} {meth : Method} {c : Code} {H : Heap} {locs : List Loc} {cells slots k : Nat} {Qm : State → Prop} {ls : Array Slot}, Cx M b n0 D g p s m args meth c → lh b ls M.2.2.1 la → W p l e R s m args below meth c H locs cells slots Qm (F0 m pc1 ls (As.reverse ++ .ref k :: st.map (rl b))) → W p l e R s m args below meth c H locs cells slots Qm (F0 m (pc + 2) ls (.ref k :: st.map (rl b))))
    (kk : V M (d + 1) pc2 la (x :: st) h Q) : V M (d + 1) pc la st h Q := by
  obtain ⟨r, h', hQ, hle, hX⟩ := kk
  refine ⟨r, h', hQ, hle, fun l b n0 D g p e s m args below meth c H locs ls C hn0 hz hP hS hl0 => ?_⟩
  have C0 := C
  obtain ⟨hx0, hb, -, -, hml, hown, hts, hK, hsz, -⟩ := C
  obtain ⟨k1, k2, k3, k4, k5, k6⟩ := ok
  obtain ⟨k, v, f, hf, hSb, hR⟩ := hK.2.2.2.get
  refine va_ldcS hx0 hb (hM ▸ hown) hR hd0 ?_
  refine fw C0 hl0 ?_
  have hrc : ∃ cell : Cell, H[k]? = some cell ∧ cell.vm.isStatics = false ∧ s.vm.findClass N.1.cls = some cell.cls := by
    obtain ⟨cell, g1, g2, g3, -⟩ := hSb.1.kept hS.2.1
    exact ⟨cell, g1, g2, by rw [hc]; exact g3⟩
  have hPr : PreV s H N.1.cls k (va_Pc (.ref k :: As) (Sb b k v f)) As := ⟨Sb_blind, hrc, fun U hU hW => ⟨rfl, hSb.warm hW (by rw [hU]; exact hS.2.1)⟩⟩
  have hsg : ∀ sig, parseMethodDescriptor N.1.desc = some sig → n = sig.parameters.length := fun sig h => by rw [h] at hn1; exact (Option.some.inj hn1).symm
  have hlo : 8 + (N.2.2.1 + 11) + (rmd d0 0 0).locals ≤ (rmd (d + 1) n0 (hn h')).locals := by
    show 8 + (N.2.2.1 + 11) + 80 * d0 ≤ 80 * (d + 1)
    omega
  have hmm := sl_mono hle
  refine W.ofRun (va_runV (cc := M.2.1) (bytes := N.2.1) (maxL := N.2.2.1) (ret := N.2.2.2) (As := As) ⟨hx0, hb, hml, hown, hts⟩ (hk b k v f hf l) ⟨⟨rfl, rfl, (by show d0 + 1 ≤ d + 1; omega), hlo, pay_in hts (good_all k1), List.mem_cons_self, hts _ (List.mem_cons_of_mem _ k1), hts _ (List.mem_cons_of_mem _ k2), ⟨k3, k4⟩, hsg, hM ▸ hts _ (List.mem_cons_of_mem _ hl)⟩, hts _ (List.mem_cons_of_mem _ h1), hts _ (List.mem_cons_of_mem _ h2)⟩ hPr rfl hn2 hl0.1 rfl (lv_room (by rw [catS_rl]; exact hcat)) hd ⟨(by show hn h - n0 + 0 ≤ hn h' - n0; omega), (by show sl (hn h) - sl n0 + 0 ≤ sl (hn h') - sl n0; omega)⟩) (fun w st₀ t L1 e0 hq hL1 => ?_)
  obtain ⟨hw, ht⟩ := hq
  cases hw
  have e1 : t.heap = H := ht.trans e0
  have := hX l b n0 D g p e s m args below meth c H (locs ++ L1) ls C0 hn0 hz hP ⟨hS.1, hS.2.1, fun q hq => by
    rcases List.mem_append.mp hq with h | h
    · exact hS.2.2 q h
    · exact hL1 q h⟩ hl0
  rw [e1, hpc]
  simp only [List.map_cons, hx] at this
  exact this
theorem v_strLen {M : MT} {d pc : Nat} {la : List (Option Value)} {st : List Value} {h : Hp} {Q : Option Value → Hp → Prop} (hM : M.1.cls = RX9) (hcat : catS st ≤ 8) (hd0 : decode M.2.1 pc = .ok (.ldc 36, 2)) (hd : decode M.2.1 (pc + 2) = .ok (.invokevirtual 38, 3)) (kk : V M (d + 5) (pc + 5) la (.int 115 :: st) h Q) : V M (d + 5) pc la st h Q :=
  V.str (N := mJ0_length_8abf5) (d0 := d + 1) (n := 0) [] hM (fun _ => rfl) ok_J0_length_8abf5 rfl kl_X9_38 im_J0_length_8abf5 se_J0_length_8abf5 (by decide +kernel) rfl hcat (fun _ => rfl) hd0 hd rfl (by omega) (fun _ _ _ _ _ => ms_length d) (fun _ _ w => w) kk
theorem v_strAt {M : MT} {d pc : Nat} {la : List (Option Value)} {st : List Value} {h : Hp} {Q : Option Value → Hp → Prop} {i : Int32} (hM : M.1.cls = RX9) (hi : ixOK i 115 = true) (hla : la[3]? = some (some (.int i))) (hcat : catS st ≤ 8) (hd0 : decode M.2.1 pc = .ok (.ldc 36, 2)) (hd1 : decode M.2.1 (pc + 2) = .ok (.iload_n 3, 1)) (hd : decode M.2.1 (pc + 3) = .ok (.invokevirtual 43, 3)) (kk : V M (d + 5) (pc + 6) la (.int (wCh i.toNatClampNeg) :: st) h Q) : V M (d + 5) pc la st h Q := by
  have hv : vp_in i 115 := (ixO hi).1
  have hlt := ixO_lt hi
  have h0 : 0 ≤ i := by
    simp only [ixOK, Bool.and_eq_true, decide_eq_true_eq] at hi
    exact hi.1
  have h1 : i < 115 := by
    obtain ⟨j, hj, rfl⟩ := nI_of (Int32.not_lt.mpr h0)
    have e : (nI j).toNatClampNeg = j := nI_clamp hj
    rw [e] at hlt
    exact nI_lt (b := 115) hlt (by decide)
  exact V.str (N := mJ0_charAt_5068e) (d0 := d + 3) (n := 1) [.int i] hM (fun _ => rfl) ok_J0_charAt_5068e rfl kl_X9_43 im_J0_charAt_5068e se_J0_charAt_5068e (by decide +kernel) rfl hcat (fun _ => rfl) hd0 hd rfl (by omega) (fun _ _ _ _ hf => ms_charAt d hf (Int32.not_lt.mpr h0) h1 rfl hv hlt) (fun C L w => lv_iload_n C.1 C.2.1 hd1 rfl (L.2.2 3 _ hla) w) kk
