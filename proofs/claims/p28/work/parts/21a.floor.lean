/-! Math.floorMod: a method of a class that has rows of its own among the natives, but not for this one -/
def okF (M : MT) : Prop := Cond.code M.1 M.2.1 M.2.2.1 M.2.2.2 ∈ gw ∧ Cond.initialized M.1.cls ∈ gw ∧ M.1.cls ≠ "java/lang/invoke/MethodHandle" ∧ M.1.cls ≠ "java/lang/invoke/VarHandle" ∧ plainFor M.1 = true ∧ M.2.2.1 ≤ 60
theorem ofWF {l : Launch} {y : MethodName} {ws ws' : List Cond} {rm : Room} {Pc : Array Value → State → Prop} {Qc : Array Value → State → Outcome → State → Prop} {mc ms : Nat} {free : Addr → Prop} {cc : ByteArray} {maxL : Nat} {ret : Option FieldType}
    (hy : plainFor y = true) (hw : ws = Cond.code y cc maxL ret :: ws')
    (body : ∀ p e s m args below meth c s₁, BodyLoose p l y (headSpec ws rm) cc maxL ret e s m args below meth c s₁ → c.maxLocals = maxL → Pc args s →
      W p l e (headSpec ws rm).room s m args below meth c s.heap [] 0 0 (MQ below Qc args s mc ms free) (entryFrame m args maxL)) : Met l y ws rm Pc Qc mc ms free := by
  refine MetFree.of_bodySF (code := cc) (maxLocals := maxL) (ret := ret) hy (fun args s m h hn => ?_) (fun p e s m args below meth c s₁ B hml hP _ => ?_)
  · obtain ⟨meth, c, h1, h2, h3, h4, h5, h6, -, -⟩ := Cond.code_spec hn (atoms_spec (ws := ws) h _ (by rw [hw]; exact List.mem_cons_self))
    exact ⟨meth, c, h1, h2, h3, h4, h5, h6⟩
  · have hh0 : s₁.heap = s.heap := by rw [B.state]; rfl
    obtain ⟨t, a1, o, b1, b2, b3⟩ := body p e s m args below meth c s₁ B hml hP s₁ hh0 (Stand.of_body B)
    exact ⟨t, o, a1, b1, b2, ⟨b3.1, b3.2⟩⟩
theorem Kc.ofF {M : MT} {d : Nat} {as : List Value} {h : Hp} {Q : Option Value → Hp → Prop} (la : List (Option Value)) (ok : okF M) (hla : enL as ++ List.replicate (M.2.2.1 - (enL as).length) none = la) (hlen : (enL as).length ≤ M.2.2.1) (k : V M d 0 la [] h Q) : Kc M d as h Q := by
  obtain ⟨r, h', hQ, hle, hX⟩ := k
  refine ⟨r, h', hQ, hle, fun l b D g => ?_⟩
  refine ofWF (cc := M.2.1) (maxL := M.2.2.1) (ret := M.2.2.2) ok.2.2.2.2.1 rfl ?_
  intro p e s m args below meth c s₁ B hml hv
  obtain ⟨rfl, hsz, hP, hK⟩ := hv
  have hts := atoms_spec (ws := wsM M) B.pre
  have hown : s.vm.findClass M.1.cls = some m.cls := findClass_of_methodNamed B.named
  rw [lg_entry_eq]
  have hl := lv_entry (as.map (rl b)) (n := M.2.2.1) (by rw [lg_len]; exact hlen)
  have := hX l b (hn h) D g p e s m (as.map (rl b)).toArray below meth c s.heap [] _ ⟨B.exec, B.bytes, B.returns, B.notSynchronized, hml, hown, hts, hK, hsz, (name_of_methodNamed B.named B.method).1⟩ (Nat.le_refl _) hsz hP va_S.rf (⟨hl.1, hl.2.1, fun i v hi => hl.2.2 (i, rl b v) (by
    rw [← hla] at hi
    have := enL_args b _ as 0 i v hi
    rwa [Nat.zero_add] at this)⟩ : lh b _ M.2.2.1 la)
  rw [Nat.sub_self, Nat.sub_self] at this
  exact this
theorem v_callSF {M N : MT} {d pc idx n : Nat} {la : List (Option Value)} {st : List Value} {h : Hp} {Q Qk : Option Value → Hp → Prop} (As : List Value) {st0 : List Value} (h0 : st0 = As.reverse ++ st) (ok : okF N) (hl : lnk M.1.cls idx N.1) (h1 : Cond.static N.1 ∈ gw) (hn1 : (parseMethodDescriptor N.1.desc).map (fun d => d.parameters.length) = some n) (hn2 : As.length = n) (hcat : catS st ≤ 8) (hd : decode M.2.1 pc = .ok (.invokestatic idx, 3)) (hk : Kc N d As h Qk) (kk : ∀ (r1 : Option Value) (h1 : Hp), Qk r1 h1 → V M (d + 1) (pc + 3) la (r1.toList ++ st) h1 Q) : V M (d + 1) pc la st0 h Q := by
  subst h0
  refine V.call (st := st) hk (fun {l b n0 D g p e R s m args below meth c H locs cells slots ls r1 h1'} C hz hP hS hL hf1 hf2 hf3 hf4 hM => ?_) kk
  obtain ⟨hx, hb, -, -, hml, hown, hts, hK, -, -⟩ := C
  obtain ⟨k1, k2, k3, k4, k5, k6⟩ := ok
  rw [rev_rl]
  have hPr : PreS s H (va_Pc (As.map (rl b)) (fun U => U.heap.size = b + hn h ∧ va_P D vwCl (wd b g h) U.heap ∧ Kx b D g U)) (As.map (rl b)) := ⟨Pc_blind, fun U hU hW => ⟨rfl, by rw [hU]; exact hz, by rw [hU]; exact hP, hK.warm hW (by rw [hU]; exact hS.2.1)⟩⟩
  have hsg : ∀ sig, parseMethodDescriptor N.1.desc = some sig → n = sig.parameters.length := fun sig h => by rw [h] at hn1; exact (Option.some.inj hn1).symm
  have hlo : 8 + (N.2.2.1 + 11) + (rmd d (hn h) (hn h1')).locals ≤ R.locals := by omega
  rcases hl with hl | ⟨host, hl⟩
  · exact va_runS (cc := M.2.1) (bytes := N.2.1) (maxL := N.2.2.1) (ret := N.2.2.2) (As := As.map (rl b)) ⟨hx, hb, hml, hown, hts⟩ hM ⟨⟨rfl, rfl, hf1, hlo, pay_in hts (good_all k1), List.mem_cons_self, hts _ (List.mem_cons_of_mem _ k1), hts _ (List.mem_cons_of_mem _ k2), ⟨k3, k4⟩, hsg, hts _ (List.mem_cons_of_mem _ hl)⟩, hts _ (List.mem_cons_of_mem _ h1)⟩ hPr rfl (by rw [List.length_map]; exact hn2) hL.1 rfl (lv_room (by rw [catS_rl]; exact hcat)) hd ⟨hf3, hf4⟩
  · exact va_runSN (cc := M.2.1) (bytes := N.2.1) (maxL := N.2.2.1) (ret := N.2.2.2) (host := host) (As := As.map (rl b)) ⟨hx, hb, hml, hown, hts⟩ hM ⟨⟨⟨rfl, rfl, hf1, hlo, pay_in hts (good_all k1), List.mem_cons_self⟩, hts _ (List.mem_cons_of_mem _ k1), hts _ (List.mem_cons_of_mem _ k2), ⟨k3, k4⟩, hsg, va_Nw.use rfl (hK.2.1 _ hl)⟩, hts _ (List.mem_cons_of_mem _ h1), trivial⟩ hPr rfl (by rw [List.length_map]; exact hn2) hL.1 rfl (lv_room (by rw [catS_rl]; exact hcat)) hd ⟨hf3, hf4⟩
theorem okf_floorMod : okF mJ9_floorMod_7cf53 := ⟨cw_J9_floorMod_7cf53, in_J9, by decide +kernel, by decide +kernel, by decide +kernel, by decide +kernel⟩
theorem lk_X10_67 : lnk RX10 67 yJ9_floorMod_7cf53 := Or.inl ml_X10_67
theorem c_X10_67 {M : MT} {d pc : Nat} {la : List (Option Value)} {st : List Value} {h : Hp} {Q : Option Value → Hp → Prop} {Qk : Option Value → Hp → Prop} (hM : M.1.cls = RX10) {x1 x2 : Value} (hcat : catS st ≤ 8) (hd : decode M.2.1 pc = .ok (.invokestatic 67, 3)) (hk : Kc mJ9_floorMod_7cf53 d [x1, x2] h Qk) (kk : ∀ (r1 : Option Value) (h1 : Hp), Qk r1 h1 → V M (d + 1) (pc + 3) la (r1.toList ++ st) h1 Q) : V M (d + 1) pc la (x2 :: x1 :: st) h Q := v_callSF (N := mJ9_floorMod_7cf53) (n := 2) [x1, x2] rfl okf_floorMod (hM ▸ lk_X10_67) sm_J9_floorMod_7cf53 (by decide +kernel) rfl hcat hd hk kk
