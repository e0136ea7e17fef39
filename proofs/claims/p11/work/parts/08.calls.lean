/-! making cells, calls, answers, the entry -/
theorem fv_new (b : Nat) (ty : FieldType) (h : Hp) (k : Nat) (ht : okT ty = true) : fval b ty (mkH h) (hn h) k = defaultValue ty := by
  have e1 : hi (mkH h) (hn h) k = 0 := by simp [mkH, hi, upA]
  have e2 : hr (mkH h) (hn h) k = none := by simp [mkH, hr, upA]
  have e3 : hl (mkH h) (hn h) k = 0 := by simp [mkH, hl, upA]
  unfold fval
  rw [e1, e2, e3]
  cases ty <;> first | rfl | (simp [okT] at ht; done)
theorem cel_mkH {b : Nat} {g : FieldType → ClassId} {h : Hp} {a : Nat} (ha : a < hn h) : cel b g (mkH h) a = cel b g h a := cel_ext (upA_ne (Nat.ne_of_lt ha)) (upA_ne (Nat.ne_of_lt ha)) (upA_ne (Nat.ne_of_lt ha))
/-- a step that makes one cell -/
theorem V.go5 {M : MT} {d pc pc2 : Nat} {la : List (Option Value)} {st st2 : List Value} {h : Hp} {Q : Option Value → Hp → Prop}
    (f : ∀ {l : Launch} {b n0 : Nat} {D : va_G} {g : FieldType → ClassId} {p : Program} {e : Env} {R : Room} {s : State} {m : MethodId} {args : Array Value} {below : List Frame} {meth : Method} {c : Code} {H : Heap} {locs : List Loc} {cells slots : Nat} {Qm : State → Prop} {ls : Array Slot},
      Cx M b n0 D g p s m args meth c → H.size = b + hn h → va_P D vwCl (wd b g h) H → va_S (fun q => b ≤ q) s.heap H locs → lh b ls M.2.2.1 la → cells + 1 ≤ R.cells → slots + szS (hn h) ≤ R.slots → (∀ H1 : Heap, H1.size = b + hn h + 1 → va_P D vwCl (wd b g (mkH h)) H1 → va_S (fun q => b ≤ q) s.heap H1 locs → W p l e R s m args below meth c H1 locs (cells + 1) (slots + szS (hn h)) Qm (F0 m pc2 ls (st2.map (rl b)))) → W p l e R s m args below meth c H locs cells slots Qm (F0 m pc ls (st.map (rl b))))
    (k : V M d pc2 la st2 (mkH h) Q) : V M d pc la st h Q := by
  obtain ⟨r, h', hQ, hle, hX⟩ := k
  have hle' : hn h + 1 ≤ hn h' := hle
  refine ⟨r, h', hQ, Nat.le_of_succ_le hle', fun l b n0 D g p e s m args below meth c H locs ls C hn0 hz hP hS hl => ?_⟩
  have hm : sl (hn h + 1) ≤ sl (hn h') := sl_mono hle'
  have hm0 : sl n0 ≤ sl (hn h) := sl_mono hn0
  have e1 : sl (hn h + 1) = sl (hn h) + szS (hn h) := rfl
  refine f C hz hP hS hl (by show hn h - n0 + 1 ≤ hn h' - n0; omega) (by show sl (hn h) - sl n0 + szS (hn h) ≤ sl (hn h') - sl n0; omega) (fun H1 hz1 hP1 hS1 => ?_)
  have := hX l b n0 D g p e s m args below meth c H1 locs ls C (Nat.le_succ_of_le hn0) (by rw [hz1]; rfl) hP1 hS1 hl
  have e2 : hn (mkH h) - n0 = hn h - n0 + 1 := by show hn h + 1 - n0 = _; omega
  have e3 : sl (hn (mkH h)) - sl n0 = sl (hn h) - sl n0 + szS (hn h) := by show sl (hn h + 1) - sl n0 = _; omega
  rw [e2, e3] at this
  exact this
theorem made {D : va_G} {b : Nat} {g : FieldType → ClassId} {h : Hp} {s : State} {H H1 : Heap} {locs : List Loc} (hz : H.size = b + hn h) (hP : va_P D vwCl (wd b g h) H) (hS : va_S (fun q => b ≤ q) s.heap H locs) (z : H1.size = b + hn h + 1) (o : ∀ q, q < b + hn h → H1[q]? = H[q]?) (hc : va_at D vwCl (b + hn h, cel b g (mkH h) (hn h)) H1) : va_P D vwCl (wd b g (mkH h)) H1 ∧ va_S (fun q => b ≤ q) s.heap H1 locs := by
  have hk : ∀ (k : Nat) (x : Nat × va_E), (wd b g h)[k]? = some x → H1[x.1]? = H[x.1]? := fun k x hx => o x.1 (by rw [← hz]; exact (hP k x hx).lt)
  refine ⟨?_, ⟨Nat.le_trans hS.1 (by omega), fun x h1 h2 => (o x (by rw [← hz]; exact Nat.lt_of_lt_of_le h1 hS.1)).trans (hS.2.1 x h1 h2), hS.2.2⟩⟩
  rw [← wd_push (h := h) (h' := mkH h) rfl rfl (fun a' ha' => cel_mkH ha')]
  refine (hP.kept hk).app (fun k x hx => ?_)
  have hz : k < 1 := (List.getElem?_eq_some_iff.mp hx).1
  rw [show k = 0 by omega] at hx
  cases hx
  exact hc
section CA
variable {M : MT} {d pc : Nat} {la : List (Option Value)} {st : List Value} {h : Hp} {Q : Option Value → Hp → Prop}
theorem v_new {C : String} {T : u_T} {N ci idx : Nat} (ok : okC ci C T N) (hs : shp (hn h) = .inl ci) (h1 : Cond.classLink M.1.cls idx C ∈ gw) (h2 : Cond.instantiable C N ∈ gw) (h3 : Cond.initialized C ∈ gw) (hd : decode M.2.1 pc = .ok (.new idx, 3)) (k : V M d (pc + 3) la (.ref (hn h) :: st) (mkH h) Q) : V M d pc la st h Q := by
  obtain ⟨o1, o2, o3, o4, o5, o6⟩ := ok
  refine V.go5 (fun {_ b _ D g p _ _ s m args _ meth c H locs _ _ _ ls} C0 hz hP hS _ hc hsl w => ?_) k
  obtain ⟨hx, hb, -, -, -, hown, hts, hK, -, -⟩ := C0
  have hin : ∀ w ∈ u_ws C T N, w ∈ wsM M := fun w hw => List.mem_cons_of_mem _ (o3 w hw)
  have hsz : szS (hn h) = N := by unfold szS; rw [hs]; exact o2
  rw [hsz] at hsl w
  have hKn := hK.1.1 ci _ o1
  refine W.newcK hx hb hown (hts _ (List.mem_cons_of_mem _ h1)) (hts _ (List.mem_cons_of_mem _ h2)) (hts _ (List.mem_cons_of_mem _ h3)) rfl hd hc hsl hKn.2.1 hz fun H1 kC hkC e1 z1 o1' => ?_
  obtain ⟨p1, p2⟩ := made hz hP hS z1 o1' (by
    rw [cel_obj hs]
    refine ⟨_, o1, (u_born (clT ci) hts hin hKn hkC e1 o4).to (fun j hj => ?_)⟩
    show defaultValue (clT ci j) = List.getD _ _ _
    rw [List.getD_eq_getElem?_getD, map_at _ (by rw [o2]; exact hj)]
    exact (fv_new b (clT ci j) h j (o6 j hj)).symm)
  exact w H1 z1 p1 p2
theorem v_newarray {n : Int32} {N : Nat} {atype : ArrayType} {ty : FieldType} (hty : newarray.typeOf atype = ty) (t0 : Nat) (ht : ∀ g : FieldType → ClassId, (tyl g)[t0]? = some (g ty, ty)) (hs : shp (hn h) = .inr (ty, N)) (hw : Cond.arrayClass ty ∈ gw) (hp : ty ≠ .float ∧ ty ≠ .double) (hr0 : ∀ C, ty ≠ .object C) (hr1 : ∀ C, ty ≠ .array C) (hn0 : ¬ n < 0) (hN : n.toNatClampNeg = N) (hbytes : N * componentBytes ty ≤ 536870912) (hd : decode M.2.1 pc = .ok (.newarray atype, 2)) (k : V M d (pc + 2) la (.ref (hn h) :: st) (mkH h) Q) : V M d pc la (.int n :: st) h Q := by
  subst hty
  refine V.go5 (fun {_ b _ D g p _ _ s m args _ meth c H locs _ _ _ ls} C0 hz hP hS _ hc hsl w => ?_) k
  obtain ⟨hx, hb, -, -, -, hown, hts, hK, -, -⟩ := C0
  have hsz : szS (hn h) = N := by unfold szS; rw [hs]
  rw [hsz] at hsl w
  refine va_newaK hx hb (hts _ (List.mem_cons_of_mem _ hw)) rfl hd rfl hn0 hN hbytes hc hsl hz fun H1 cA e1 z1 o1 hAr hNm => ?_
  have hg : cA = g (newarray.typeOf atype) := by
    have h2 := (hK.1.2 t0 _ (ht g)).2
    have h3 : s.vm.findClass ("[" ++ (newarray.typeOf atype).toString) = some (g (newarray.typeOf atype)) := by
      cases atype <;> exact h2
    exact Option.some.inj (hNm.symm.trans h3)
  obtain ⟨p1, p2⟩ := made hz hP hS z1 o1 (by
    rw [cel_arr hs]
    show H1[b + hn h]? = some (vp_cell _ _)
    rw [e1, hg]
    have e1' : hi (mkH h) (hn h) = fun _ => 0 := by funext k; simp [mkH, hi, upA]
    have e3' : hl (mkH h) (hn h) = fun _ => 0 := by funext k; simp [mkH, hl, upA]
    unfold arE
    rw [e1', e3']
    revert hp hr0 hr1
    cases atype <;> intro hp hr0 hr1 <;> first | rfl | (show some (arrV _ N (fun _ => Value.int 0)) = some (arrV _ N (fun _ => Value.int (vp_nar .boolean 0))); rw [show vp_nar .boolean 0 = 0 by decide]; done) | exact absurd rfl hp.1 | exact absurd rfl hp.2)
  exact w H1 z1 p1 p2
theorem v_anewarray {n : Int32} {N idx : Nat} (hs : shp (hn h) = .inr (.object RX8, N)) (h1 : Cond.classLink M.1.cls idx RX8 ∈ gw) (hn0 : ¬ n < 0) (hN : n.toNatClampNeg = N) (hbytes : N * 4 ≤ 536870912) (hd : decode M.2.1 pc = .ok (.anewarray idx, 3)) (k : V M d (pc + 3) la (.ref (hn h) :: st) (mkH h) Q) : V M d pc la (.int n :: st) h Q := by
  subst hN
  refine V.go5 (fun {_ b _ D g p _ _ s m args _ meth c H locs _ _ _ ls} C0 hz hP hS _ hc hsl w => ?_) k
  obtain ⟨hx, hb, -, -, -, hown, hts, hK, -, -⟩ := C0
  have hsz : szS (hn h) = n.toNatClampNeg := by unfold szS; rw [hs]
  rw [hsz] at hsl w
  refine W.anew hx hb hown (hts _ (List.mem_cons_of_mem _ h1)) (va_AO.use hK.2.2.1) rfl hd rfl hn0 hbytes hc hsl fun cA kA comp f1 f2 f3 f4 => ?_
  generalize hH1 : H.push ({ cls := cA, slots := Array.replicate n.toNatClampNeg .null, vm := .none } : Cell) = H1
  have z1 : H1.size = b + hn h + 1 := by rw [← hH1, Array.size_push, hz]
  have e1 : H1[b + hn h]? = some (arrV cA n.toNatClampNeg (fun _ => .null)) := by rw [← hz, ← hH1, Array.getElem?_push_size, ← arrV_new]
  have o1 : ∀ q : Nat, q < b + hn h → H1[q]? = H[q]? := fun q hq => by rw [← hH1, Array.getElem?_push, if_neg (by rw [hz]; exact Nat.ne_of_lt hq)]
  have hg : cA = g (.object RX8) := by
    obtain ⟨kA', comp', k1, k2, k3, k4⟩ := (hK.1.2 5 _ (rfl : (tyl g)[5]? = some (g (.object RX8), .object RX8))).2
    exact Option.some.inj (f1.symm.trans k4)
  obtain ⟨p1, p2⟩ := made hz hP hS z1 o1 (by
    rw [cel_arr hs]
    show H1[b + hn h]? = some (vp_cell _ _)
    rw [e1, hg]
    have e1' : hr (mkH h) (hn h) = fun _ => none := by funext k; simp [mkH, hr, upA]
    unfold arE
    rw [e1']
    rfl)
  rw [hz]
  exact w H1 z1 p1 p2
/-- answers -/
theorem v_end {r : Option Value} (hQ : Q r h) (f : ∀ {l : Launch} {b n0 : Nat} {D : va_G} {g : FieldType → ClassId} {p : Program} {e : Env} {s : State} {m : MethodId} {args : Array Value} {below : List Frame} {meth : Method} {c : Code} {H : Heap} {locs : List Loc} {R : Room} {cells slots : Nat} {ls : Array Slot}, Cx M b n0 D g p s m args meth c → (∀ t : State, t.heap = H → s.WarmedH t.vm → Qx b D g r h args s (.returned (r.map (rl b))) t) → (∀ q ∈ locs, b ≤ q.base) → W p l e R s m args below meth c H locs cells slots (MQ below (Qx b D g r h) args s cells slots (fun q => b ≤ q)) (F0 m pc ls (st.map (rl b)))) : V M d pc la st h Q :=
  ⟨r, h, hQ, Nat.le_refl _, fun l b n0 D g p e s m args below meth c H locs ls C hn0 hz hP hS hl => f C (fun t ht hW => ⟨rfl, by rw [ht]; exact hz, by rw [ht]; exact hP, hS.F ht⟩) hS.2.2⟩
theorem v_ireturn {x : Int32} (hr : M.2.2.2 = some .int) (hd : decode M.2.1 pc = .ok (.ireturn, 1)) (hQ : Q (some (.int x)) h) : V M d pc la [.int x] h Q :=
  v_end hQ (fun C hq hf => W.iret C.1 C.2.1 (C.2.2.1.trans hr) hq hf hd (hlocks := C.2.2.2.1))
theorem v_zreturn {x : Int32} (hr : M.2.2.2 = some .boolean) (hx : x = 0 ∨ x = 1) (hd : decode M.2.1 pc = .ok (.ireturn, 1)) (hQ : Q (some (.int x)) h) : V M d pc la [.int x] h Q :=
  v_end hQ (fun C hq hf => W.zret (ty := .boolean) C.1 C.2.1 (C.2.2.1.trans hr) (by rcases hx with rfl | rfl <;> rfl) hq hf hd (hlocks := C.2.2.2.1))
theorem v_lreturn {x : Int64} (hr : M.2.2.2 = some .long) (hd : decode M.2.1 pc = .ok (.lreturn, 1)) (hQ : Q (some (.long x)) h) : V M d pc la [.long x] h Q :=
  v_end hQ (fun C hq hf => W.lret C.1 C.2.1 (C.2.2.1.trans hr) hq hf hd (hlocks := C.2.2.2.1))
theorem v_return (hr : M.2.2.2 = none) (hd : decode M.2.1 pc = .ok (.return_, 1)) (hQ : Q none h) : V M d pc la [] h Q :=
  v_end hQ (fun C hq hf => W.vret C.1 C.2.1 (C.2.2.1.trans hr) hq hf hd (hlocks := C.2.2.2.1))
end CA
/-! the entry -/
def enL : List Value → List (Option Value)
  | [] => []
  | v :: vs => if v.category = 2 then some v :: none :: enL vs else some v :: enL vs
theorem enL_args (b : Nat) (n : Nat) : ∀ (vs : List Value) (off i : Nat) (v : Value), (enL vs ++ List.replicate n none)[i]? = some (some v) → (off + i, rl b v) ∈ lv_args off (vs.map (rl b))
  | [], off, i, v, h => by
    simp only [enL, List.nil_append] at h
    rw [List.getElem?_replicate] at h
    split at h <;> cases h
  | w :: vs, off, i, v, h => by
    simp only [enL] at h
    show _ ∈ (off, rl b w) :: lv_args (if (rl b w).category = 2 then off + 2 else off + 1) (vs.map (rl b))
    rw [rl_cat]
    by_cases hc : w.category = 2
    · rw [if_pos hc] at h ⊢
      match i with
      | 0 => simp only [List.cons_append, List.getElem?_cons_zero] at h; cases h; exact List.mem_cons_self
      | 1 => simp only [List.cons_append, List.getElem?_cons_succ, List.getElem?_cons_zero] at h; cases h
      | i + 2 =>
        simp only [List.cons_append, List.getElem?_cons_succ] at h
        have := enL_args b n vs (off + 2) i v h
        rw [show off + (i + 2) = off + 2 + i by omega]
        exact List.mem_cons_of_mem _ this
    · rw [if_neg hc] at h ⊢
      match i with
      | 0 => simp only [List.cons_append, List.getElem?_cons_zero] at h; cases h; exact List.mem_cons_self
      | i + 1 =>
        simp only [List.cons_append, List.getElem?_cons_succ] at h
        have := enL_args b n vs (off + 1) i v h
        rw [show off + (i + 1) = off + 1 + i by omega]
        exact List.mem_cons_of_mem _ this
theorem lg_len (b : Nat) : ∀ vs : List Value, (lg_sl (vs.map (rl b))).length = (enL vs).length
  | [] => rfl
  | w :: vs => by
    have ih := lg_len b vs
    show ((if (rl b w).category = 2 then [Slot.val (rl b w), Slot.second] else [Slot.val (rl b w)]) ++ lg_sl (vs.map (rl b))).length = (if w.category = 2 then some w :: none :: enL vs else some w :: enL vs).length
    rw [rl_cat, List.length_append, ih]
    split <;> simp <;> omega
/-- a contract out of the walk of its body -/
theorem Kc.of {M : MT} {d : Nat} {as : List Value} {h : Hp} {Q : Option Value → Hp → Prop} (la : List (Option Value)) (ok : okM M) (hla : enL as ++ List.replicate (M.2.2.1 - (enL as).length) none = la) (hlen : (enL as).length ≤ M.2.2.1) (k : V M d 0 la [] h Q) : Kc M d as h Q := by
  obtain ⟨r, h', hQ, hle, hX⟩ := k
  refine ⟨r, h', hQ, hle, fun l b D g => ?_⟩
  refine Met.ofW (cc := M.2.1) (maxL := M.2.2.1) (ret := M.2.2.2) ok.2.2.2.2.1 rfl ?_
  intro p e s m args below meth c s₁ B hml hv
  obtain ⟨rfl, hsz, hP, hK⟩ := hv
  have hts := atoms_spec (ws := wsM M) B.pre
  have hown : s.vm.findClass M.1.cls = some m.cls := findClass_of_methodNamed B.named
  rw [lg_entry_eq]
  have hl := lv_entry (as.map (rl b)) (n := M.2.2.1) (by rw [lg_len]; exact hlen)
  have := hX l b (hn h) D g p e s m (as.map (rl b)).toArray below meth c s.heap [] _ ⟨B.exec, B.bytes, B.returns, B.notSynchronized, hml, hown, hts, hK, hsz, (name_of_methodNamed B.named B.method).1⟩ (Nat.le_refl _) hsz hP va_S.rf (⟨hl.1, hl.2.1, fun i v hi => hl.2.2 (i, rl b v) (by
    rw [← hla] at hi
    have := enL_args b _ as 0 i v hi
    rwa [Nat.zero_add] at this)⟩ : lh b _ M.2.2.1 la)
  rw [Nat.sub_self, Nat.sub_self] at this
  exact this
/-! calls -/
theorem W.ofRun {p : Program} {l : Launch} {e : Env} {R : Room} {s : State} {m : MethodId} {args : Array Value} {below : List Frame} {meth : Method} {c : Code} {H : Heap} {locs : List Loc} {cells slots mc ms pc : Nat} {Q : State → Prop} {ls : Array Slot} {st0 rest : List Value} {Qa : State → Outcome → State → Prop} {free : Addr → Prop}
    (hr : va_Run p l e R s m args below meth c H locs cells slots mc ms (F0 m pc ls st0) rest Qa free)
    (kk : ∀ (v : Option Value) (st₀ t : State) (L : List Loc), st₀.heap = H → Qa st₀ (.returned v) t → (∀ q ∈ L, free q.base) → W p l e R s m args below meth c t.heap (locs ++ L) (cells + mc) (slots + ms) Q (F0 m (pc + 3) ls (v.toList ++ rest))) : W p l e R s m args below meth c H locs cells slots Q (F0 m pc ls st0) := by
  intro T hT X
  obtain ⟨v, st₀, t, T', L, h0, X', hL, e1, e2, hq, st⟩ := hr T hT X
  obtain ⟨t2, a1, b1⟩ := kk v st₀ t L h0 hq hL T' e1 X'
  exact ⟨t2, st t2 a1, b1⟩
theorem good_all {x : Cond} {N : MT} (hN : Cond.code N.1 N.2.1 N.2.2.1 N.2.2.2 ∈ gw) : GoodIn (x :: gw) (wsM N) := by
  intro w hw
  rcases List.mem_cons.mp hw with rfl | hw
  · exact ⟨List.mem_cons_of_mem _ hN, good_of_word (List.mem_filter.mp hN).2⟩
  · exact ⟨List.mem_cons_of_mem _ hw, good_of_word (List.mem_filter.mp hw).2⟩
def lnk (own : String) (idx : Nat) (y : MethodName) : Prop := Cond.methodLink own idx y ∈ gw ∨ ∃ host : String, Cond.methodLinkNest own idx y host ∈ nestW
theorem opt_map (b : Nat) (r : Option Value) (st : List Value) : (r.map (rl b)).toList ++ st.map (rl b) = (r.toList ++ st).map (rl b) := by cases r <;> rfl
theorem Pc_blind {b : Nat} {D : va_G} {g : FieldType → ClassId} {h : Hp} {as : List Value} : FrameBlind (va_Pc as (fun U => U.heap.size = b + hn h ∧ va_P D vwCl (wd b g h) U.heap ∧ Kx b D g U)) := fun a U f mk q => ⟨q.1, q.2.1, q.2.2.1, q.2.2.2.call⟩
/-- a call, over what its run gives -/
theorem V.call {M N : MT} {d pc : Nat} {la : List (Option Value)} {st0 st : List Value} {as : List Value} {h : Hp} {Q Qk : Option Value → Hp → Prop} (hk : Kc N d as h Qk)
    (f : ∀ {l : Launch} {b n0 : Nat} {D : va_G} {g : FieldType → ClassId} {p : Program} {e : Env} {R : Room} {s : State} {m : MethodId} {args : Array Value} {below : List Frame} {meth : Method} {c : Code} {H : Heap} {locs : List Loc} {cells slots : Nat} {ls : Array Slot} {r1 : Option Value} {h1 : Hp},
      Cx M b n0 D g p s m args meth c → H.size = b + hn h → va_P D vwCl (wd b g h) H → va_S (fun q => b ≤ q) s.heap H locs → lh b ls M.2.2.1 la → (rmd d (hn h) (hn h1)).frames + 1 ≤ R.frames → 80 + (rmd d (hn h) (hn h1)).locals ≤ R.locals → cells + (hn h1 - hn h) ≤ R.cells → slots + (sl (hn h1) - sl (hn h)) ≤ R.slots →
      Met l N.1 (wsM N) (rmd d (hn h) (hn h1)) (va_Pc (as.map (rl b)) (fun U => U.heap.size = b + hn h ∧ va_P D vwCl (wd b g h) U.heap ∧ Kx b D g U)) (Qx b D g r1 h1) (hn h1 - hn h) (sl (hn h1) - sl (hn h)) (fun q => b ≤ q) →
      va_Run p l e R s m args below meth c H locs cells slots (hn h1 - hn h) (sl (hn h1) - sl (hn h)) (F0 m pc ls (st0.map (rl b))) (st.map (rl b)) (Qx b D g r1 h1 (as.map (rl b)).toArray) (fun q => b ≤ q))
    (kk : ∀ (r1 : Option Value) (h1 : Hp), Qk r1 h1 → V M (d + 1) (pc + 3) la (r1.toList ++ st) h1 Q) : V M (d + 1) pc la st0 h Q := by
  obtain ⟨r1, h1, hq1, hle1, hM⟩ := hk
  obtain ⟨r, h', hQ, hle, hX⟩ := kk r1 h1 hq1
  refine ⟨r, h', hQ, Nat.le_trans hle1 hle, fun l b n0 D g p e s m args below meth c H locs ls C hn0 hz hP hS hl => ?_⟩
  have hm1 : sl (hn h) ≤ sl (hn h1) := sl_mono hle1
  have hm2 : sl (hn h1) ≤ sl (hn h') := sl_mono hle
  have hm0 : sl n0 ≤ sl (hn h) := sl_mono hn0
  refine W.ofRun (f C hz hP hS hl (Nat.le_refl _) (by show 80 + 80 * d ≤ 80 * (d + 1); omega) (by show hn h - n0 + (hn h1 - hn h) ≤ hn h' - n0; omega) (by show sl (hn h) - sl n0 + (sl (hn h1) - sl (hn h)) ≤ sl (hn h') - sl n0; omega) (hM l b D g)) (fun v st₀ t L h0 hq hL => ?_)
  obtain ⟨hv, hz1, hP1, hF1, hF2⟩ := hq
  cases hv
  rw [opt_map, show hn h - n0 + (hn h1 - hn h) = hn h1 - n0 by omega, show sl (hn h) - sl n0 + (sl (hn h1) - sl (hn h)) = sl (hn h1) - sl n0 by omega]
  rw [h0] at hF1 hF2
  refine hX l b n0 D g p e s m args below meth c t.heap (locs ++ L) ls C (Nat.le_trans hn0 hle1) hz1 hP1 ⟨Nat.le_trans hS.1 hF1, fun q g1 g2 => (hF2 q (Nat.lt_of_lt_of_le g1 hS.1) g2).trans (hS.2.1 q g1 g2), fun q hq => ?_⟩ hl
  rcases List.mem_append.mp hq with h | h
  · exact hS.2.2 q h
  · exact hL q h
def catS (st : List Value) : Nat := (st.map fun v => v.category).sum
theorem catS_rl (b : Nat) (st : List Value) : ((st.map (rl b)).map fun v => v.category).sum = catS st := by
  unfold catS
  rw [List.map_map]
  congr 1
  apply List.map_congr_left
  intro v _
  exact rl_cat b v
theorem rev_rl (b : Nat) (as st : List Value) : (as.reverse ++ st).map (rl b) = (as.map (rl b)).reverse ++ st.map (rl b) := by simp
theorem v_callV {M N : MT} {d pc ci a idx n : Nat} {la : List (Option Value)} {st : List Value} {h : Hp} {Q Qk : Option Value → Hp → Prop} (As : List Value) {st0 : List Value} (h0 : st0 = As.reverse ++ .ref a :: st) (ok : okM N) (hl : lnk M.1.cls idx N.1) (h1 : Cond.instanceMethod N.1 ∈ gw) (h2 : Cond.selects N.1.cls N.1 N.1 ∈ gw) (hn1 : (parseMethodDescriptor N.1.desc).map (fun d => d.parameters.length) = some n) (hn2 : As.length = n) {T : u_T} {NN : Nat} (hcl : vwCl[ci]? = some (N.1.cls, T, NN)) (hs : shp a = .inl ci) (ha : a < hn h) (hcat : catS st ≤ 8) (hd : decode M.2.1 pc = .ok (.invokevirtual idx, 3)) (hk : Kc N d (.ref a :: As) h Qk) (kk : ∀ (r1 : Option Value) (h1 : Hp), Qk r1 h1 → V M (d + 1) (pc + 3) la (r1.toList ++ st) h1 Q) : V M (d + 1) pc la st0 h Q := by
  subst h0
  refine V.call (st := st) hk (fun {l b n0 D g p e R s m args below meth c H locs cells slots ls r1 h1'} C hz hP hS hL hf1 hf2 hf3 hf4 hM => ?_) kk
  obtain ⟨hx, hb, -, -, hml, hown, hts, hK, -, -⟩ := C
  obtain ⟨k1, k2, k3, k4, k5, k6⟩ := ok
  rw [rev_rl]
  have hrc : ∃ cell : Cell, H[b + a]? = some cell ∧ cell.vm.isStatics = false ∧ s.vm.findClass N.1.cls = some cell.cls := va_recv hK.1 hP hcl (by rw [wd_at ha, cel_obj hs])
  have hPr : PreV s H N.1.cls (b + a) (va_Pc (((.ref a :: As) : List Value).map (rl b)) (fun U => U.heap.size = b + hn h ∧ va_P D vwCl (wd b g h) U.heap ∧ Kx b D g U)) (As.map (rl b)) := ⟨Pc_blind, hrc, fun U hU hW => ⟨rfl, by rw [hU]; exact hz, by rw [hU]; exact hP, hK.warm hW (by rw [hU]; exact hS.2.1)⟩⟩
  have hsg : ∀ sig, parseMethodDescriptor N.1.desc = some sig → n = sig.parameters.length := fun sig h => by rw [h] at hn1; exact (Option.some.inj hn1).symm
  have hlo : 8 + (N.2.2.1 + 11) + (rmd d (hn h) (hn h1')).locals ≤ R.locals := by omega
  rcases hl with hl | ⟨host, hl⟩
  · exact va_runV (cc := M.2.1) (bytes := N.2.1) (maxL := N.2.2.1) (ret := N.2.2.2) (As := As.map (rl b)) ⟨hx, hb, hml, hown, hts⟩ hM ⟨⟨rfl, rfl, hf1, hlo, pay_in hts (good_all k1), List.mem_cons_self, hts _ (List.mem_cons_of_mem _ k1), hts _ (List.mem_cons_of_mem _ k2), ⟨k3, k4⟩, hsg, hts _ (List.mem_cons_of_mem _ hl)⟩, hts _ (List.mem_cons_of_mem _ h1), hts _ (List.mem_cons_of_mem _ h2)⟩ hPr rfl (by rw [List.length_map]; exact hn2) hL.1 rfl (lv_room (by rw [catS_rl]; exact hcat)) hd ⟨hf3, hf4⟩
  · exact va_runVN (cc := M.2.1) (bytes := N.2.1) (maxL := N.2.2.1) (ret := N.2.2.2) (host := host) (As := As.map (rl b)) ⟨hx, hb, hml, hown, hts⟩ hM ⟨⟨⟨rfl, rfl, hf1, hlo, pay_in hts (good_all k1), List.mem_cons_self⟩, hts _ (List.mem_cons_of_mem _ k1), hts _ (List.mem_cons_of_mem _ k2), ⟨k3, k4⟩, hsg, va_Nw.use rfl (hK.2.1 _ hl)⟩, hts _ (List.mem_cons_of_mem _ h1), hts _ (List.mem_cons_of_mem _ h2)⟩ hPr rfl (by rw [List.length_map]; exact hn2) hL.1 rfl (lv_room (by rw [catS_rl]; exact hcat)) hd ⟨hf3, hf4⟩
theorem v_callS {M N : MT} {d pc idx n : Nat} {la : List (Option Value)} {st : List Value} {h : Hp} {Q Qk : Option Value → Hp → Prop} (As : List Value) {st0 : List Value} (h0 : st0 = As.reverse ++ st) (ok : okM N) (hl : lnk M.1.cls idx N.1) (h1 : Cond.static N.1 ∈ gw) (hn1 : (parseMethodDescriptor N.1.desc).map (fun d => d.parameters.length) = some n) (hn2 : As.length = n) (hcat : catS st ≤ 8) (hd : decode M.2.1 pc = .ok (.invokestatic idx, 3)) (hk : Kc N d As h Qk) (kk : ∀ (r1 : Option Value) (h1 : Hp), Qk r1 h1 → V M (d + 1) (pc + 3) la (r1.toList ++ st) h1 Q) : V M (d + 1) pc la st0 h Q := by
  subst h0
  refine V.call (st := st) hk (fun {l b n0 D g p e R s m args below meth c H locs cells slots ls r1 h1'} C hz hP hS hL hf1 hf2 hf3 hf4 hM => ?_) kk
  obtain ⟨hx, hb, -, -, hml, hown, hts, hK, -, -⟩ := C
  obtain ⟨k1, k2, k3, k4, k5, k6⟩ := ok
  rw [rev_rl]
  have hPr : PreS s H (va_Pc (As.map (rl b)) (fun U => U.heap.size = b + hn h ∧ va_P D vwCl (wd b g h) U.heap ∧ Kx b D g U)) (As.map (rl b)) := ⟨Pc_blind, fun U hU hW => ⟨rfl, by rw [hU]; exact hz, by rw [hU]; exact hP, hK.warm hW (by rw [hU]; exact hS.2.1)⟩⟩
  have hsg : ∀ sig, parseMethodDescriptor N.1.desc = some sig → n = sig.parameters.length := fun sig h => by rw [h] at hn1; exact (Option.some.inj hn1).symm
  have hlo : 8 + (N.2.2.1 + 11) + (rmd d (hn h) (hn h1')).locals ≤ R.locals := by omega
  rcases hl with hl | ⟨host, hl⟩
  · exact va_runS (cc := M.2.1) (bytes := N.2.1) (maxL := N.2.2.1) (ret := N.2.2.2) (As := As.map (rl b)) ⟨hx, hb, hml, hown, hts⟩ hM ⟨⟨rfl, rfl, hf1, hlo, pay_in hts (good_all k1), List.mem_cons_self, hts _ (List.mem_cons_of_mem _ k1), hts _ (List.mem_cons_of_mem _ k2), ⟨k3, k4⟩, hsg, hts _ (List.mem_cons_of_mem _ hl)⟩, hts _ (List.mem_cons_of_mem _ h1)⟩ hPr rfl (by rw [List.length_map]; exact hn2) hL.1 rfl (lv_room (by rw [catS_rl]; exact hcat)) hd ⟨hf3, hf4⟩
  · exact va_runSN (cc := M.2.1) (bytes := N.2.1) (maxL := N.2.2.1) (ret := N.2.2.2) (host := host) (As := As.map (rl b)) ⟨hx, hb, hml, hown, hts⟩ hM ⟨⟨⟨rfl, rfl, hf1, hlo, pay_in hts (good_all k1), List.mem_cons_self⟩, hts _ (List.mem_cons_of_mem _ k1), hts _ (List.mem_cons_of_mem _ k2), ⟨k3, k4⟩, hsg, va_Nw.use rfl (hK.2.1 _ hl)⟩, hts _ (List.mem_cons_of_mem _ h1), trivial⟩ hPr rfl (by rw [List.length_map]; exact hn2) hL.1 rfl (lv_room (by rw [catS_rl]; exact hcat)) hd ⟨hf3, hf4⟩
theorem v_callI {M N : MT} {d pc a idx n : Nat} {la : List (Option Value)} {st : List Value} {h : Hp} {Q Qk : Option Value → Hp → Prop} (As : List Value) {st0 : List Value} (h0 : st0 = As.reverse ++ .ref a :: st) (ok : okM N) (hl : lnk M.1.cls idx N.1) (h1 : Cond.instanceMethod N.1 ∈ gw) (hret : N.2.2.2 = none) (hnm : N.1.name = "<init>") (hn1 : (parseMethodDescriptor N.1.desc).map (fun d => d.parameters.length) = some n) (hn2 : As.length = n) (hcat : catS st ≤ 8) (hd : decode M.2.1 pc = .ok (.invokespecial idx, 3)) (hk : Kc N d (.ref a :: As) h Qk) (kk : ∀ (r1 : Option Value) (h1 : Hp), Qk r1 h1 → V M (d + 1) (pc + 3) la (r1.toList ++ st) h1 Q) : V M (d + 1) pc la st0 h Q := by
  subst h0
  obtain ⟨yN, cN, lN0, rN⟩ := N
  have hret : rN = none := hret
  subst hret
  refine V.call (st := st) hk (fun {l b n0 D g p e R s m args below meth c H locs cells slots ls r1 h1'} C hz hP hS hL hf1 hf2 hf3 hf4 hM => ?_) kk
  obtain ⟨hx, hb, -, -, hml, hown, hts, hK, -, -⟩ := C
  obtain ⟨k1, k2, k3, k4, k5, k6⟩ := ok
  rw [rev_rl]
  have hPr : PreS s H (va_Pc (((.ref a :: As) : List Value).map (rl b)) (fun U => U.heap.size = b + hn h ∧ va_P D vwCl (wd b g h) U.heap ∧ Kx b D g U)) (.ref (b + a) :: As.map (rl b)) := ⟨Pc_blind, fun U hU hW => ⟨rfl, by rw [hU]; exact hz, by rw [hU]; exact hP, hK.warm hW (by rw [hU]; exact hS.2.1)⟩⟩
  have hsg : ∀ sig, parseMethodDescriptor yN.desc = some sig → n = sig.parameters.length := fun sig h => by rw [h] at hn1; exact (Option.some.inj hn1).symm
  have hlo : 8 + (lN0 + 11) + (rmd d (hn h) (hn h1')).locals ≤ R.locals := by
    have : lN0 ≤ 60 := k6
    omega
  rcases hl with hl | ⟨host, hl⟩
  · exact va_runI (cc := M.2.1) (bytes := cN) (maxL := lN0) (As := As.map (rl b)) ⟨hx, hb, hml, hown, hts⟩ hM ⟨⟨rfl, rfl, hf1, hlo, pay_in hts (good_all (N := (yN, cN, lN0, none)) k1), List.mem_cons_self, hts _ (List.mem_cons_of_mem _ k1), hts _ (List.mem_cons_of_mem _ k2), ⟨k3, k4⟩, hsg, hts _ (List.mem_cons_of_mem _ hl)⟩, hnm, hts _ (List.mem_cons_of_mem _ h1)⟩ hPr rfl (by rw [List.length_map]; exact hn2) hL.1 rfl (lv_room (by rw [catS_rl]; exact hcat)) hd ⟨hf3, hf4⟩
  · exact va_runIN (cc := M.2.1) (bytes := cN) (maxL := lN0) (host := host) (As := As.map (rl b)) ⟨hx, hb, hml, hown, hts⟩ hM ⟨⟨⟨rfl, rfl, hf1, hlo, pay_in hts (good_all (N := (yN, cN, lN0, none)) k1), List.mem_cons_self⟩, hts _ (List.mem_cons_of_mem _ k1), hts _ (List.mem_cons_of_mem _ k2), ⟨k3, k4⟩, hsg, va_Nw.use rfl (hK.2.1 _ hl)⟩, hnm, hts _ (List.mem_cons_of_mem _ h1)⟩ hPr rfl (by rw [List.length_map]; exact hn2) hL.1 rfl (lv_room (by rw [catS_rl]; exact hcat)) hd ⟨hf3, hf4⟩
