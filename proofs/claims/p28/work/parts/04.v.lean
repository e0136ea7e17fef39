/-! THE LIGHT JUDGEMENT: V M d pc la st h Q: method M, at pc, with locals la, stack st and the two systems' cells h, comes to its end, and its answer and the cells then have Q; d bounds how deep it calls. -/
abbrev Hp : Type := Nat × (Nat → Nat → Option Nat) × (Nat → Nat → Int32) × (Nat → Nat → Int64)
def hn (h : Hp) : Nat := h.1
def hr (h : Hp) : Nat → Nat → Option Nat := h.2.1
def hi (h : Hp) : Nat → Nat → Int32 := h.2.2.1
def hl (h : Hp) : Nat → Nat → Int64 := h.2.2.2
def up2 {α : Type} (f : Nat → Nat → α) (a k : Nat) (v : α) : Nat → Nat → α := fun a' k' => if a' = a ∧ k' = k then v else f a' k'
def upA {α : Type} (f : Nat → Nat → α) (a : Nat) (v : Nat → α) : Nat → Nat → α := fun a' k' => if a' = a then v k' else f a' k'
def wrI (h : Hp) (a k : Nat) (v : Int32) : Hp := (hn h, hr h, up2 (hi h) a k v, hl h)
def wrL (h : Hp) (a k : Nat) (v : Int64) : Hp := (hn h, hr h, hi h, up2 (hl h) a k v)
def wrR (h : Hp) (a k : Nat) (v : Option Nat) : Hp := (hn h, up2 (hr h) a k v, hi h, hl h)
def wrA (h : Hp) (a : Nat) (f : Nat → Int32) : Hp := (hn h, hr h, upA (hi h) a f, hl h)
def mkH (h : Hp) : Hp := (hn h + 1, upA (hr h) (hn h) (fun _ => none), upA (hi h) (hn h) (fun _ => 0), upA (hl h) (hn h) (fun _ => 0))
def szS (a : Nat) : Nat := match shp a with
  | .inl c => clN c
  | .inr q => q.2
def sl : Nat → Nat
  | 0 => 0
  | n + 1 => sl n + szS n
theorem sl_mono {a b : Nat} (h : a ≤ b) : sl a ≤ sl b := by
  induction h with
  | refl => exact Nat.le_refl _
  | step _ ih => exact Nat.le_trans ih (Nat.le_add_right _ _)
def rl (b : Nat) : Value → Value
  | .ref a => .ref (b + a)
  | v => v
theorem rl_cat (b : Nat) (v : Value) : (rl b v).category = v.category := by cases v <;> rfl
theorem rl_rf (b : Nat) (x : Option Nat) : va_rf (x.map (b + ·)) = rl b (va_rf x) := by cases x <;> rfl
def fval (b : Nat) (ty : FieldType) (h : Hp) (a k : Nat) : Value := match ty with
  | .int => .int (hi h a k)
  | .long => .long (hl h a k)
  | .object _ => va_rf ((hr h a k).map (b + ·))
  | .array _ => va_rf ((hr h a k).map (b + ·))
  | t => .int (vp_nar t (hi h a k))
def arE (b : Nat) (ty : FieldType) (n : Nat) (h : Hp) (a : Nat) : vp_A := (n, match ty with
  | .int => .inl (hi h a)
  | .long => .inr (.inl (hl h a))
  | .object _ => .inr (.inr (.inr (.inr (fun i => (hr h a i).map (b + ·)))))
  | .array _ => .inr (.inr (.inr (.inr (fun i => (hr h a i).map (b + ·)))))
  | t => .inl (fun i => vp_nar t (hi h a i)))
def cel (b : Nat) (g : FieldType → ClassId) (h : Hp) (a : Nat) : va_E := match shp a with
  | .inl c => .inr (c, (List.range (clN c)).map (fun k => fval b (clT c k) h a k))
  | .inr q => .inl (g q.1, arE b q.1 q.2 h a)
def wd (b : Nat) (g : FieldType → ClassId) (h : Hp) : va_W := (List.range (hn h)).map (fun a => (b + a, cel b g h a))
theorem wd_at {b : Nat} {g : FieldType → ClassId} {h : Hp} {a : Nat} (ha : a < hn h) : (wd b g h)[a]? = some (b + a, cel b g h a) := by
  simp [wd, ha]
theorem wd_inv {b : Nat} {g : FieldType → ClassId} {h : Hp} {k : Nat} {q : Nat × va_E} (hk : (wd b g h)[k]? = some q) : k < hn h ∧ q = (b + k, cel b g h k) := by
  have hlt : k < hn h := by
    have := (List.getElem?_eq_some_iff.mp hk).1
    simpa [wd] using this
  rw [wd_at hlt] at hk
  exact ⟨hlt, (Option.some.inj hk).symm⟩
theorem wd_D {b : Nat} {g : FieldType → ClassId} {h : Hp} : va_D (fun q => b ≤ q) (wd b g h) := by
  refine ⟨fun i j p q hp hq e => ?_, fun k q hk => ?_⟩
  · obtain ⟨-, rfl⟩ := wd_inv hp
    obtain ⟨-, rfl⟩ := wd_inv hq
    exact Nat.add_left_cancel e
  · obtain ⟨-, rfl⟩ := wd_inv hk
    exact Nat.le_add_right _ _
theorem cel_ext {b : Nat} {g : FieldType → ClassId} {h h' : Hp} {a : Nat} (e1 : hr h' a = hr h a) (e2 : hi h' a = hi h a) (e3 : hl h' a = hl h a) : cel b g h' a = cel b g h a := by
  unfold cel
  cases hs : shp a with
  | inl c =>
    simp only
    congr 2
    apply List.map_congr_left
    intro k _
    unfold fval
    rw [e1, e2, e3]
  | inr q =>
    simp only
    unfold arE
    rw [e1, e2, e3]
theorem wd_set {b : Nat} {g : FieldType → ClassId} {h h' : Hp} {a : Nat} {e : va_E} (hN : hn h' = hn h) (he : e = cel b g h' a) (ho : ∀ a', a' ≠ a → cel b g h' a' = cel b g h a') : (wd b g h).set a (b + a, e) = wd b g h' := by
  apply List.ext_getElem?
  intro i
  subst he
  rw [List.getElem?_set]
  by_cases hi : a = i
  · subst hi
    rw [if_pos rfl]
    by_cases hl : a < hn h
    · rw [if_pos (by simpa [wd] using hl), wd_at (by rw [hN]; exact hl)]
    · rw [if_neg (by simpa [wd] using hl)]
      symm
      rw [List.getElem?_eq_none_iff]
      simp [wd, hN]; omega
  · rw [if_neg hi]
    by_cases hl : i < hn h
    · rw [wd_at hl, wd_at (by rw [hN]; exact hl), ho i (fun q => hi q.symm)]
    · have h1 : (wd b g h)[i]? = none := by rw [List.getElem?_eq_none_iff]; simp [wd]; omega
      have h2 : (wd b g h')[i]? = none := by rw [List.getElem?_eq_none_iff]; simp [wd, hN]; omega
      rw [h1, h2]
theorem wd_push {b : Nat} {g : FieldType → ClassId} {h h' : Hp} {e : va_E} (hN : hn h' = hn h + 1) (he : e = cel b g h' (hn h)) (ho : ∀ a', a' < hn h → cel b g h' a' = cel b g h a') : wd b g h ++ [(b + hn h, e)] = wd b g h' := by
  subst he
  unfold wd
  rw [hN, List.range_succ, List.map_append]
  congr 1
  apply List.map_congr_left
  intro a ha
  rw [ho a (List.mem_range.mp ha)]
/-- the words -/
def gw : List Cond := lw_tbl.filter goodWord
theorem gw_T {w : Cond} (i : Nat) (h : tables_1[i]? = some w) (hg : goodWord w = true) : w ∈ gw := List.mem_filter.mpr ⟨List.mem_append_right _ (List.mem_of_getElem? h), hg⟩
theorem gw_S {w : Cond} (i : Nat) (h : (k2_sels lw_privs)[i]? = some w) (hg : goodWord w = true) : w ∈ gw := List.mem_filter.mpr ⟨List.mem_append_left _ (List.mem_of_getElem? h), hg⟩
def isNest : Cond → Bool
  | .methodLinkNest _ _ _ _ => true
  | _ => false
def nestW : List Cond := tables_1.filter isNest
theorem nest_T {w : Cond} (i : Nat) (h : tables_1[i]? = some w) (hg : isNest w = true) : w ∈ nestW := List.mem_filter.mpr ⟨List.mem_of_getElem? h, hg⟩
theorem nest_warm {s U : State} (h : ∀ w ∈ nestW, va_Nw w s) (hW : s.WarmedH U.vm) : ∀ w ∈ nestW, va_Nw w U := by
  intro w hw
  have h1 := (List.mem_filter.mp hw).2
  have h2 := h w hw
  cases w <;> first | exact va_Nw.warmM hW h2 | (simp [isNest] at h1; done)
def tyl (g : FieldType → ClassId) : List (ClassId × FieldType) := [(g .int, .int), (g .byte, .byte), (g .boolean, .boolean), (g .short, .short), (g .long, .long), (g (.object RX8), .object RX8)]
/-- the one String constant, and what String.length and String.charAt look at besides -/
def wTx : String := "left top time beat moved which wide high tunes lawn tune goer rope steps moves spreads costs wet seed if then else "
def wByt : List Int32 := [108, 101, 102, 116, 32, 116, 111, 112, 32, 116, 105, 109, 101, 32, 98, 101, 97, 116, 32, 109, 111, 118, 101, 100, 32, 119, 104, 105, 99, 104, 32, 119, 105, 100, 101, 32, 104, 105, 103, 104, 32, 116, 117, 110, 101, 115, 32, 108, 97, 119, 110, 32, 116, 117, 110, 101, 32, 103, 111, 101, 114, 32, 114, 111, 112, 101, 32, 115, 116, 101, 112, 115, 32, 109, 111, 118, 101, 115, 32, 115, 112, 114, 101, 97, 100, 115, 32, 99, 111, 115, 116, 115, 32, 119, 101, 116, 32, 115, 101, 101, 100, 32, 105, 102, 32, 116, 104, 101, 110, 32, 101, 108, 115, 101, 32]
def SK (b : Nat) (U : State) : Prop := ∃ (adK adV : Nat → Nat) (fv : Value), (fv = .null ∨ ∃ t : Nat, fv = .ref t) ∧ vk_S 1 [115] [wByt] adK adV (fun q => b ≤ q) U U.heap ∧ vk_R RX9 36 wTx (adK 0) U ∧ va_Z "java/lang/String" "COMPACT_STRINGS" "Z" (.int 1) (fun q => b ≤ q) U U.heap ∧ va_Z "jdk/internal/util/Preconditions" "SIOOBE_FORMATTER" "Ljava/util/function/BiFunction;" fv (fun q => b ≤ q) U U.heap
theorem SK.warm {b : Nat} {s U : State} (h : SK b s) (hW : s.WarmedH U.vm) (hH : ∀ q : Nat, q < s.heap.size → ¬ b ≤ q → U.heap[q]? = s.heap[q]?) : SK b U := by
  obtain ⟨adK, adV, fv, h0, h1, h2, h3, h4⟩ := h
  exact ⟨adK, adV, fv, h0, vk_S.kept (vk_S.moved hW.alike h1) hH, vk_R.warm hW h2, va_Z.kept (va_Z.moved hW.alike h3) hH, va_Z.kept (va_Z.moved hW.alike h4) hH⟩
theorem SK.call {b : Nat} {U : State} {f : JFrame} {mk : MethodId} {a : Array Value} (h : SK b U) : SK b (U.calling f mk a) := by
  obtain ⟨adK, adV, fv, h0, h1, h2, h3, h4⟩ := h
  exact ⟨adK, adV, fv, h0, vk_S.moved (u := U) (U := U.calling f mk a) (Vm.Alike.refl U.vm) h1, vk_R.same (u := U) (U := U.calling f mk a) rfl h2, va_Z.moved (u := U) (U := U.calling f mk a) (Vm.Alike.refl U.vm) h3, va_Z.moved (u := U) (U := U.calling f mk a) (Vm.Alike.refl U.vm) h4⟩
def Kx (b : Nat) (D : va_G) (g : FieldType → ClassId) (U : State) : Prop := va_K D vwCl (tyl g) U ∧ (∀ w ∈ nestW, va_Nw w U) ∧ va_AO RX8 U ∧ SK b U
theorem Kx.warm {b : Nat} {D : va_G} {g : FieldType → ClassId} {s U : State} (h : Kx b D g s) (hW : s.WarmedH U.vm) (hH : ∀ q : Nat, q < s.heap.size → ¬ b ≤ q → U.heap[q]? = s.heap[q]?) : Kx b D g U := ⟨va_K.moved hW.alike h.1, nest_warm h.2.1 hW, va_AO.moved hW.alike h.2.2.1, h.2.2.2.warm hW hH⟩
theorem nest_tabs {w : Cond} (hw : w ∈ nestW) : w.onTables = true := by
  have h1 := (List.mem_filter.mp hw).2
  cases w <;> first | rfl | (simp [isNest] at h1; done)
theorem Kx.call {b : Nat} {D : va_G} {g : FieldType → ClassId} {U : State} {f : JFrame} {mk : MethodId} {a : Array Value} (h : Kx b D g U) : Kx b D g (U.calling f mk a) := ⟨va_K.moved (u := U) (U := U.calling f mk a) (Vm.Alike.refl U.vm) h.1, fun w hw => va_Nw.same (nest_tabs hw) (u := U) (U := U.calling f mk a) rfl (h.2.1 w hw), va_AO.moved (u := U) (U := U.calling f mk a) (Vm.Alike.refl U.vm) h.2.2.1, h.2.2.2.call⟩
def wsM (M : MT) : List Cond := Cond.code M.1 M.2.1 M.2.2.1 M.2.2.2 :: gw
def Cx (M : MT) (b n0 : Nat) (D : va_G) (g : FieldType → ClassId) (p : Program) (s : State) (m : MethodId) (args : Array Value) (meth : Method) (c : Code) : Prop :=
  p.tables.exec = Jvm.exec ∧ c.code = M.2.1 ∧ meth.sig.returnType = M.2.2.2 ∧ meth.locks = false ∧ c.maxLocals = M.2.2.1 ∧ s.vm.findClass M.1.cls = some m.cls ∧ (∀ w ∈ wsM M, w.before args s = true) ∧ Kx b D g s ∧ s.heap.size = b + n0 ∧ meth.name = M.1.name
def lh (b : Nat) (ls : Array Slot) (nL : Nat) (la : List (Option Value)) : Prop := ls.size = nL ∧ lv_wf ls ∧ ∀ (i : Nat) (v : Value), la[i]? = some (some v) → ls[i]? = some (.val (rl b v))
def rmd (d n0 n1 : Nat) : Room := { frames := d, cells := n1 - n0, slots := sl n1 - sl n0, locals := 80 * d }
def Qx (b : Nat) (D : va_G) (g : FieldType → ClassId) (r : Option Value) (h' : Hp) : Array Value → State → Outcome → State → Prop := fun _ st o t => o = .returned (r.map (rl b)) ∧ t.heap.size = b + hn h' ∧ va_P D vwCl (wd b g h') t.heap ∧ va_F (fun q => b ≤ q) st t
def Xr (M : MT) (d pc : Nat) (la : List (Option Value)) (st : List Value) (h : Hp) (r : Option Value) (h' : Hp) : Prop :=
  hn h ≤ hn h' ∧ ∀ (l : Launch) (b n0 : Nat) (D : va_G) (g : FieldType → ClassId) (p : Program) (e : Env) (s : State) (m : MethodId) (args : Array Value) (below : List Frame) (meth : Method) (c : Code) (H : Heap) (locs : List Loc) (ls : Array Slot),
    Cx M b n0 D g p s m args meth c → n0 ≤ hn h → H.size = b + hn h → va_P D vwCl (wd b g h) H → va_S (fun q => b ≤ q) s.heap H locs → lh b ls M.2.2.1 la →
    W p l e (rmd d n0 (hn h')) s m args below meth c H locs (hn h - n0) (sl (hn h) - sl n0) (MQ below (Qx b D g r h') args s (hn h' - n0) (sl (hn h') - sl n0) (fun q => b ≤ q)) (F0 m pc ls (st.map (rl b)))
def V (M : MT) (d pc : Nat) (la : List (Option Value)) (st : List Value) (h : Hp) (Q : Option Value → Hp → Prop) : Prop := ∃ (r : Option Value) (h' : Hp), Q r h' ∧ Xr M d pc la st h r h'
/-- the contract of a method at arguments and cells -/
def Kc (M : MT) (d : Nat) (as : List Value) (h : Hp) (Q : Option Value → Hp → Prop) : Prop := ∃ (r : Option Value) (h' : Hp), Q r h' ∧ hn h ≤ hn h' ∧ ∀ (l : Launch) (b : Nat) (D : va_G) (g : FieldType → ClassId),
  Met l M.1 (wsM M) (rmd d (hn h) (hn h')) (va_Pc (as.map (rl b)) (fun U => U.heap.size = b + hn h ∧ va_P D vwCl (wd b g h) U.heap ∧ Kx b D g U)) (Qx b D g r h') (hn h' - hn h) (sl (hn h') - sl (hn h)) (fun q => b ≤ q)
def okM (M : MT) : Prop := Cond.code M.1 M.2.1 M.2.2.1 M.2.2.2 ∈ gw ∧ Cond.initialized M.1.cls ∈ gw ∧ M.1.cls ≠ "java/lang/invoke/MethodHandle" ∧ M.1.cls ≠ "java/lang/invoke/VarHandle" ∧ plainName M.1.cls = true ∧ M.2.2.1 ≤ 60
/-- a step that changes neither locals nor cells -/
theorem V.go1 {M : MT} {d pc pc2 : Nat} {la : List (Option Value)} {st st2 : List Value} {h : Hp} {Q : Option Value → Hp → Prop}
    (f : ∀ {l : Launch} {b n0 : Nat} {D : va_G} {g : FieldType → ClassId} {p : Program} {e : Env} {R : Room} {s : State} {m : MethodId} {args : Array Value} {below : List Frame} {meth : Method} {c : Code} {H : Heap} {locs : List Loc} {cells slots : Nat} {Qm : State → Prop} {ls : Array Slot},
      Cx M b n0 D g p s m args meth c → lh b ls M.2.2.1 la → W p l e R s m args below meth c H locs cells slots Qm (F0 m pc2 ls (st2.map (rl b))) → W p l e R s m args below meth c H locs cells slots Qm (F0 m pc ls (st.map (rl b))))
    (k : V M d pc2 la st2 h Q) : V M d pc la st h Q := by
  obtain ⟨r, h', hQ, hle, hX⟩ := k
  exact ⟨r, h', hQ, hle, fun l b n0 D g p e s m args below meth c H locs ls C hn0 hz hP hS hl => f C hl (hX l b n0 D g p e s m args below meth c H locs ls C hn0 hz hP hS hl)⟩
/-- a step that changes the locals -/
theorem V.go2 {M : MT} {d pc pc2 : Nat} {la la2 : List (Option Value)} {st st2 : List Value} {h : Hp} {Q : Option Value → Hp → Prop}
    (f : ∀ {l : Launch} {b n0 : Nat} {D : va_G} {g : FieldType → ClassId} {p : Program} {e : Env} {R : Room} {s : State} {m : MethodId} {args : Array Value} {below : List Frame} {meth : Method} {c : Code} {H : Heap} {locs : List Loc} {cells slots : Nat} {Qm : State → Prop} {ls : Array Slot},
      Cx M b n0 D g p s m args meth c → lh b ls M.2.2.1 la → (∀ ls' : Array Slot, lh b ls' M.2.2.1 la2 → W p l e R s m args below meth c H locs cells slots Qm (F0 m pc2 ls' (st2.map (rl b)))) → W p l e R s m args below meth c H locs cells slots Qm (F0 m pc ls (st.map (rl b))))
    (k : V M d pc2 la2 st2 h Q) : V M d pc la st h Q := by
  obtain ⟨r, h', hQ, hle, hX⟩ := k
  exact ⟨r, h', hQ, hle, fun l b n0 D g p e s m args below meth c H locs ls C hn0 hz hP hS hl => f C hl (fun ls' hl' => hX l b n0 D g p e s m args below meth c H locs ls' C hn0 hz hP hS hl')⟩
/-- a step that reads the cells -/
theorem V.go3 {M : MT} {d pc pc2 : Nat} {la : List (Option Value)} {st st2 : List Value} {h : Hp} {Q : Option Value → Hp → Prop}
    (f : ∀ {l : Launch} {b n0 : Nat} {D : va_G} {g : FieldType → ClassId} {p : Program} {e : Env} {R : Room} {s : State} {m : MethodId} {args : Array Value} {below : List Frame} {meth : Method} {c : Code} {H : Heap} {locs : List Loc} {cells slots : Nat} {Qm : State → Prop} {ls : Array Slot},
      Cx M b n0 D g p s m args meth c → va_P D vwCl (wd b g h) H → W p l e R s m args below meth c H locs cells slots Qm (F0 m pc2 ls (st2.map (rl b))) → W p l e R s m args below meth c H locs cells slots Qm (F0 m pc ls (st.map (rl b))))
    (k : V M d pc2 la st2 h Q) : V M d pc la st h Q := by
  obtain ⟨r, h', hQ, hle, hX⟩ := k
  exact ⟨r, h', hQ, hle, fun l b n0 D g p e s m args below meth c H locs ls C hn0 hz hP hS hl => f C hP (hX l b n0 D g p e s m args below meth c H locs ls C hn0 hz hP hS hl)⟩
/-- a step that writes a cell -/
theorem V.go4 {M : MT} {d pc pc2 : Nat} {la : List (Option Value)} {st st2 : List Value} {h h2 : Hp} {Q : Option Value → Hp → Prop} (hN : hn h2 = hn h)
    (f : ∀ {l : Launch} {b n0 : Nat} {D : va_G} {g : FieldType → ClassId} {p : Program} {e : Env} {R : Room} {s : State} {m : MethodId} {args : Array Value} {below : List Frame} {meth : Method} {c : Code} {H : Heap} {locs : List Loc} {cells slots : Nat} {Qm : State → Prop} {ls : Array Slot},
      Cx M b n0 D g p s m args meth c → va_P D vwCl (wd b g h) H → va_S (fun q => b ≤ q) s.heap H locs → lh b ls M.2.2.1 la → (∀ (H1 : Heap) (locs1 : List Loc), H1.size = H.size → va_P D vwCl (wd b g h2) H1 → va_S (fun q => b ≤ q) s.heap H1 locs1 → W p l e R s m args below meth c H1 locs1 cells slots Qm (F0 m pc2 ls (st2.map (rl b)))) → W p l e R s m args below meth c H locs cells slots Qm (F0 m pc ls (st.map (rl b))))
    (k : V M d pc2 la st2 h2 Q) : V M d pc la st h Q := by
  obtain ⟨r, h', hQ, hle, hX⟩ := k
  refine ⟨r, h', hQ, by rw [← hN]; exact hle, fun l b n0 D g p e s m args below meth c H locs ls C hn0 hz hP hS hl => f C hP hS hl (fun H1 locs1 hz1 hP1 hS1 => ?_)⟩
  have := hX l b n0 D g p e s m args below meth c H1 locs1 ls C (by rw [hN]; exact hn0) (by rw [hz1, hN]; exact hz) hP1 hS1 hl
  rw [hN] at this
  exact this
