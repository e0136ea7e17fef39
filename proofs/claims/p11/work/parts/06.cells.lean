/-! rows of V for instructions that read, write and make cells -/
def okT : FieldType → Bool
  | .float => false
  | .double => false
  | _ => true
def fvA (ty : FieldType) (h : Hp) (a k : Nat) : Value := match ty with
  | .int => .int (hi h a k)
  | .long => .long (hl h a k)
  | .object _ => va_rf (hr h a k)
  | .array _ => va_rf (hr h a k)
  | t => .int (vp_nar t (hi h a k))
theorem fv_rl (b : Nat) (ty : FieldType) (h : Hp) (a k : Nat) : fval b ty h a k = rl b (fvA ty h a k) := by
  cases ty <;> first | rfl | exact rl_rf b _
def okC (ci : Nat) (C : String) (T : u_T) (N : Nat) : Prop := vwCl[ci]? = some (C, T, N) ∧ clN ci = N ∧ (∀ w ∈ u_ws C T N, w ∈ gw) ∧ (∀ k, k < N → parseFieldDescriptor (T k).2.2.1 = some (clT ci k)) ∧ (∀ a, a < N → ∀ b, b < N → a ≠ b → (T a).2.1 ≠ (T b).2.1) ∧ (∀ k, k < N → okT (clT ci k) = true)
theorem cel_obj {b : Nat} {g : FieldType → ClassId} {h : Hp} {a ci : Nat} (hs : shp a = .inl ci) : cel b g h a = .inr (ci, (List.range (clN ci)).map (fun k => fval b (clT ci k) h a k)) := by
  unfold cel; rw [hs]
theorem cel_arr {b : Nat} {g : FieldType → ClassId} {h : Hp} {a n : Nat} {ty : FieldType} (hs : shp a = .inr (ty, n)) : cel b g h a = .inl (g ty, arE b ty n h a) := by
  unfold cel; rw [hs]
theorem up2_ne {α : Type} {f : Nat → Nat → α} {a a' k : Nat} {v : α} (h : a' ≠ a) : up2 f a k v a' = f a' := by
  funext k'; simp [up2, h]
theorem upA_ne {α : Type} {f : Nat → Nat → α} {a a' : Nat} {v : Nat → α} (h : a' ≠ a) : upA f a v a' = f a' := by
  funext k'; simp [upA, h]
theorem cel_wrI {b : Nat} {g : FieldType → ClassId} {h : Hp} {a k : Nat} {v : Int32} {a' : Nat} (h' : a' ≠ a) : cel b g (wrI h a k v) a' = cel b g h a' := cel_ext rfl (up2_ne h') rfl
theorem cel_wrL {b : Nat} {g : FieldType → ClassId} {h : Hp} {a k : Nat} {v : Int64} {a' : Nat} (h' : a' ≠ a) : cel b g (wrL h a k v) a' = cel b g h a' := cel_ext rfl rfl (up2_ne h')
theorem cel_wrR {b : Nat} {g : FieldType → ClassId} {h : Hp} {a k : Nat} {v : Option Nat} {a' : Nat} (h' : a' ≠ a) : cel b g (wrR h a k v) a' = cel b g h a' := cel_ext (up2_ne h') rfl rfl
theorem cel_wrA {b : Nat} {g : FieldType → ClassId} {h : Hp} {a : Nat} {f : Nat → Int32} {a' : Nat} (h' : a' ≠ a) : cel b g (wrA h a f) a' = cel b g h a' := cel_ext rfl (upA_ne h') rfl
theorem put_done {D : va_G} {b : Nat} {g : FieldType → ClassId} {h h2 : Hp} {s : State} {H H1 : Heap} {locs : List Loc} {a j : Nat} (hP : va_P D vwCl (wd b g h) H) (hS : va_S (fun q => b ≤ q) s.heap H locs) (ha : a < hn h) (hN : hn h2 = hn h) (ho : ∀ a', a' ≠ a → cel b g h2 a' = cel b g h a') (hc : va_at D vwCl (b + a, cel b g h2 a) H1) (z : H1.size = H.size) (oq : ∀ q : Nat, q ≠ b + a → H1[q]? = H[q]?) :
    va_P D vwCl (wd b g h2) H1 ∧ va_S (fun q => b ≤ q) s.heap H1 (locs ++ [⟨b + a, j⟩]) := by
  have h1 := hP.set wd_D (wd_at ha) hc oq
  rw [wd_set hN rfl ho] at h1
  exact ⟨h1, hS.put z oq (Nat.le_add_right _ _)⟩
theorem map_set {α : Type} (f f' : Nat → α) {N k : Nat} {v : α} (hv : f' k = v) (ho : ∀ j, j ≠ k → f' j = f j) : ((List.range N).map f).set k v = (List.range N).map f' := by
  apply List.ext_getElem?
  intro i
  rw [List.getElem?_set]
  by_cases e : k = i
  · subst e
    rw [if_pos rfl]
    by_cases hl : k < N
    · simp [hl, hv]
    · simp [hl]
  · rw [if_neg e]
    by_cases hl : i < N
    · simp [hl, ho i (fun q => e q.symm)]
    · simp [hl]
theorem map_at {α : Type} (f : Nat → α) {N k : Nat} (hk : k < N) : ((List.range N).map f)[k]? = some (f k) := by simp [hk]
section CE
variable {M : MT} {d pc : Nat} {la : List (Option Value)} {st : List Value} {h : Hp} {Q : Option Value → Hp → Prop}
theorem v_getf {C : String} {T : u_T} {N ci k idx a : Nat} {v : Value} (ok : okC ci C T N) (hs : shp a = .inl ci) (ha : a < hn h) (hk : k < N) (hw : Cond.fieldLink M.1.cls idx (T k).1 (T k).2.1 (T k).2.2.1 ∈ gw) (hv : fvA (clT ci k) h a k = v) (hd : decode M.2.1 pc = .ok (.getfield idx, 3)) (kk : V M d (pc + 3) la (v :: st) h Q) : V M d pc la (.ref a :: st) h Q := by
  obtain ⟨o1, o2, o3, o4, o5, o6⟩ := ok
  refine V.go3 (fun {_ b _ D g _ _ _ _ _ _ _ _ _ _ _ _ _ _ _} C0 hP w => ?_) kk
  obtain ⟨hx, hb, -, -, -, hown, hts, hK, -, -⟩ := C0
  exact va_get (D := D) (cl := vwCl) (C := C) (T := T) (N := N) (ci := ci) hx hb hts (fun w hw => List.mem_cons_of_mem _ (o3 w hw)) hown hK.1 hP a (by rw [wd_at ha, cel_obj hs]) o1 k hk (hts _ (List.mem_cons_of_mem _ hw)) (fun _ h9 => h9) (v := rl b v) (by rw [o2, map_at _ hk, fv_rl, hv]) hd w
theorem fv_wrI {ci a k j : Nat} {h : Hp} {x : Int32} {b : Nat} (hj : j ≠ k) : fval b (clT ci j) (wrI h a k x) a j = fval b (clT ci j) h a j := by
  have e : hi (wrI h a k x) a j = hi h a j := by simp [wrI, hi, up2, hj]
  unfold fval
  rw [e]
  rfl
theorem fv_wrR {ci a k j : Nat} {h : Hp} {x : Option Nat} {b : Nat} (hj : j ≠ k) : fval b (clT ci j) (wrR h a k x) a j = fval b (clT ci j) h a j := by
  have e : hr (wrR h a k x) a j = hr h a j := by simp [wrR, hr, up2, hj]
  unfold fval
  rw [e]
  rfl
/-- a field is written: h2 is h but for that field, which then holds v -/
theorem v_put {C : String} {T : u_T} {N ci k idx a : Nat} {v : Value} {h2 : Hp} (ok : okC ci C T N) (hs : shp a = .inl ci) (ha : a < hn h) (hk : k < N) (hw : Cond.fieldLink M.1.cls idx (T k).1 (T k).2.1 (T k).2.2.1 ∈ gw) (hfin : (T k).2.2.2 = false ∨ (M.1.name = "<init>" ∧ (T k).1 = M.1.cls ∧ (T k).2.2.2 = true)) (hN : hn h2 = hn h) (ho : ∀ (b : Nat) (g : FieldType → ClassId) (a' : Nat), a' ≠ a → cel b g h2 a' = cel b g h a') (hf : ∀ (b : Nat) (j : Nat), j ≠ k → fval b (clT ci j) h2 a j = fval b (clT ci j) h a j) (hv : fvA (clT ci k) h2 a k = v) (hn0 : ∀ b : Nat, narrow (clT ci k) (rl b v) = rl b v) (hfit : ∀ b : Nat, fits (clT ci k) (rl b v) = true) (hd : decode M.2.1 pc = .ok (.putfield idx, 3)) (kk : V M d (pc + 3) la st h2 Q) : V M d pc la (v :: .ref a :: st) h Q := by
  obtain ⟨o1, o2, o3, o4, o5, o6⟩ := ok
  refine V.go4 hN (fun {_ b _ D g p _ _ s m args _ meth c H locs _ _ _ ls} C0 hP hS _ w => ?_) kk
  obtain ⟨hx, hb, -, -, -, hown, hts, hK, -, hnm⟩ := C0
  have hin : ∀ w ∈ u_ws C T N, w ∈ wsM M := fun w hw => List.mem_cons_of_mem _ (o3 w hw)
  have hap := va_apart (own := M.1.cls) hts hin (clT ci) o4 o5 hK.1 o1
  obtain ⟨r, h1, cell, q1, q2, q3, q4⟩ := hP a _ (by rw [wd_at ha, cel_obj hs])
  have hr : r = (C, T, N) := Option.some.inj (h1.symm.trans o1)
  subst hr
  obtain ⟨hSl, hfc, kC, hkC, hkind⟩ := hK.1.1 ci _ o1
  obtain ⟨cf, kf, fi, f, hi0, hsl⟩ := hSl k hk
  have hst := (u_facts hfc hkC (u_lays hts hin hk) hi0).1
  have hl : k < ((List.range (clN ci)).map (fun k => fval b (clT ci k) h a k)).length := by simp [o2]; exact hk
  have fin : ∀ H' : Heap, H'[b + a]? = some (cell.setSlot (D.2 ci k) (rl b v)) → H'.size = H.size → (∀ q, q ≠ b + a → H'[q]? = H[q]?) → va_P D vwCl (wd b g h2) H' ∧ va_S (fun q => b ≤ q) s.heap H' (locs ++ [⟨b + a, D.2 ci k⟩]) := by
    intro H' e1 z oq
    refine put_done hP hS ha hN (fun a' h' => ho b g a' h') ?_ z oq
    rw [cel_obj hs]
    refine ⟨_, o1, t_OB.to (V := updV (vp_V ((List.range (clN ci)).map (fun k => fval b (clT ci k) h a k))) k (rl b v)) ⟨_, e1, q2, q3, t_set q4 hap hk (rl b v)⟩ (fun j _ => ?_)⟩
    rw [vp_updV_set hl]
    rw [map_set (fun k => fval b (clT ci k) h a k) (fun k => fval b (clT ci k) h2 a k) (by rw [fv_rl, hv]) (fun j hj => hf b j hj)]
  rcases hfin with hfin | ⟨hini, hdecl, hfin⟩
  · have hlay := hts _ (hin _ (u_in_lay hk))
    unfold u_lay at hlay
    rw [if_neg (by rw [hfin]; decide)] at hlay
    have h6 := u_store hfc hkC hkind hlay hi0 (o4 k hk) (hn0 b) (hfit b)
    refine W.putK hx hb (f := f) ⟨hown, hts _ (List.mem_cons_of_mem _ hw), ⟨_, _, _, hi0⟩, hst⟩ (by rw [q2]; exact h6) q1 q3 (by rw [hsl]; exact k2_hasslot (q4 k hk)) rfl rfl hd fun H' e1 e2 e3 => ?_
    rw [hsl] at e1 ⊢
    obtain ⟨z1, z2⟩ := fin H' e1 e2 e3
    exact w H' _ e2 z1 z2
  · have hlay := hts _ (hin _ (u_in_lay hk))
    unfold u_lay at hlay
    rw [if_pos hfin] at hlay
    have hcf : m.cls = cf := by
      obtain ⟨_, _, c', _, _, _, -, -, hf', -, -, -, hown2, -⟩ := Cond.laysFinal_spec hlay
      have e1 : c' = cf := by have := hi0.symm.trans hf'; simp at this; exact this.1.symm
      rw [hdecl] at hown2
      rw [← e1]; exact Option.some.inj (hown.symm.trans hown2)
    have h6 := u_fits hfc hkC hkind (Or.inr hlay) hi0 (o4 k hk) (hn0 b) (hfit b)
    refine W.putFinK hx hb hown (hts _ (List.mem_cons_of_mem _ hw)) hi0 hst hcf (hnm.trans hini) (by rw [q2]; exact h6) q1 q3 (by rw [hsl]; exact k2_hasslot (q4 k hk)) rfl rfl hd fun H' e1 e2 e3 => ?_
    rw [hsl] at e1 ⊢
    obtain ⟨z1, z2⟩ := fin H' e1 e2 e3
    exact w H' _ e2 z1 z2
theorem v_puti {C : String} {T : u_T} {N ci k idx a : Nat} {x : Int32} (ok : okC ci C T N) (hs : shp a = .inl ci) (ha : a < hn h) (hk : k < N) (hw : Cond.fieldLink M.1.cls idx (T k).1 (T k).2.1 (T k).2.2.1 ∈ gw) (hfin : (T k).2.2.2 = false) (hty : clT ci k = .int) (hd : decode M.2.1 pc = .ok (.putfield idx, 3)) (kk : V M d (pc + 3) la st (wrI h a k x) Q) : V M d pc la (.int x :: .ref a :: st) h Q :=
  v_put (h2 := wrI h a k x) ok hs ha hk hw (Or.inl hfin) rfl (fun b g a' h' => cel_wrI h') (fun b j hj => fv_wrI hj) (by rw [hty]; simp [fvA, wrI, hi, up2]) (fun b => by rw [hty]; rfl) (fun b => by rw [hty]; rfl) hd kk
theorem v_putz {C : String} {T : u_T} {N ci k idx a : Nat} {x : Int32} (ok : okC ci C T N) (hs : shp a = .inl ci) (ha : a < hn h) (hk : k < N) (hw : Cond.fieldLink M.1.cls idx (T k).1 (T k).2.1 (T k).2.2.1 ∈ gw) (hfin : (T k).2.2.2 = false) (hty : clT ci k = .boolean) (hx : x = 0 ∨ x = 1) (hd : decode M.2.1 pc = .ok (.putfield idx, 3)) (kk : V M d (pc + 3) la st (wrI h a k x) Q) : V M d pc la (.int x :: .ref a :: st) h Q :=
  v_put (h2 := wrI h a k x) ok hs ha hk hw (Or.inl hfin) rfl (fun b g a' h' => cel_wrI h') (fun b j hj => fv_wrI hj) (by rw [hty]; rcases hx with rfl | rfl <;> simp [fvA, wrI, hi, up2] <;> decide) (fun b => by rw [hty]; rcases hx with rfl | rfl <;> rfl) (fun b => by rw [hty]; rcases hx with rfl | rfl <;> rfl) hd kk
theorem v_putr {C : String} {T : u_T} {N ci k idx a q : Nat} (ok : okC ci C T N) (hs : shp a = .inl ci) (ha : a < hn h) (hk : k < N) (hw : Cond.fieldLink M.1.cls idx (T k).1 (T k).2.1 (T k).2.2.1 ∈ gw) (hfin : (T k).2.2.2 = false ∨ (M.1.name = "<init>" ∧ (T k).1 = M.1.cls ∧ (T k).2.2.2 = true)) (hty : (∃ n, clT ci k = .object n) ∨ ∃ t, clT ci k = .array t) (hd : decode M.2.1 pc = .ok (.putfield idx, 3)) (kk : V M d (pc + 3) la st (wrR h a k (some q)) Q) : V M d pc la (.ref q :: .ref a :: st) h Q :=
  v_put (h2 := wrR h a k (some q)) ok hs ha hk hw hfin rfl (fun b g a' h' => cel_wrR h') (fun b j hj => fv_wrR hj) (by rcases hty with ⟨n, e⟩ | ⟨t, e⟩ <;> rw [e] <;> simp [fvA, wrR, hr, up2, va_rf]) (fun b => by rcases hty with ⟨n, e⟩ | ⟨t, e⟩ <;> rw [e] <;> rfl) (fun b => by rcases hty with ⟨n, e⟩ | ⟨t, e⟩ <;> rw [e] <;> rfl) hd kk
end CE
