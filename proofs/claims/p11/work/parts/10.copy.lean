/-! System.arraycopy from the beginning of one row to that of another -/
def nrT (ty : FieldType) (x : Int32) : Int32 := match ty with
  | .int => x
  | t => vp_nar t x
theorem nrT_fits {ty : FieldType} (ht : ty = .int ∨ ty = .byte) (x : Int32) : fits ty (.int (nrT ty x)) = true := by
  rcases ht with rfl | rfl
  · rfl
  · show fits .byte (.int (vp_nar .byte x)) = true
    rw [vp_nar_byte]; exact pk_fb x
theorem at_nr {b : Nat} {g : FieldType → ClassId} {h : Hp} {a n : Nat} {ty : FieldType} (ht : ty = .int ∨ ty = .byte) (hs : shp a = .inr (ty, n)) (ha : a < hn h) : (wd b g h)[a]? = some (b + a, .inl (g ty, n, .inl (fun i => nrT ty (hi h a i)))) := by
  rw [wd_at ha, cel_arr hs]
  rcases ht with rfl | rfl <;> rfl
def cpF (h : Hp) (a0 a1 N : Nat) : Nat → Int32 := fun k => if k < N then hi h a0 k else hi h a1 k
theorem toNN {z : Int32} (hz : ¬ z < 0) : z.toInt = (z.toNatClampNeg : Int) := by
  have hz0 : (0 : Int) ≤ z.toInt := by simpa using Int32.le_iff_toInt_le.mp (Int32.not_lt.mp hz)
  show z.toInt = ((z.toInt.toNat : Nat) : Int)
  omega
theorem v_copy {M : MT} {d pc : Nat} {la : List (Option Value)} {st : List Value} {h : Hp} {Q : Option Value → Hp → Prop} {a0 a1 n0 n1 N idx : Nat} {n : Int32} {ty : FieldType} (t0 : Nat) (ht : ∀ g : FieldType → ClassId, (tyl g)[t0]? = some (g ty, ty)) (hty : ty = .int ∨ ty = .byte) (hs0 : shp a0 = .inr (ty, n0)) (hs1 : shp a1 = .inr (ty, n1)) (ha0 : a0 < hn h) (ha1 : a1 < hn h) (hn0 : ¬ n < 0) (hN : n.toNatClampNeg = N) (h4 : N ≤ n0) (h5 : N ≤ n1)
    (h1 : Cond.methodLink M.1.cls idx arraycopyName ∈ gw) (h2 : Cond.native arraycopyName ∈ gw) (h3 : Cond.static arraycopyName ∈ gw) (h6 : Cond.initialized "java/lang/System" ∈ gw) (hcat : catS st ≤ 8) (hd : decode M.2.1 pc = .ok (.invokestatic idx, 3)) (k : V M (d + 1) (pc + 3) la st (wrA h a1 (cpF h a0 a1 N)) Q) : V M (d + 1) pc la (.int n :: .int 0 :: .ref a1 :: .int 0 :: .ref a0 :: st) h Q := by
  subst hN
  refine V.go6 (h2 := wrA h a1 (cpF h a0 a1 n.toNatClampNeg)) rfl (fun {l b _ D g p e R s m args below meth c H locs cells slots Qm ls} C hP hS L hf hl0 hc hs w => ?_) k
  obtain ⟨hx, hb, -, -, hml, hown, hts, hK, -, -⟩ := C
  intro T hT X
  have hc0 : H[b + a0]? = some (vp_cell (g ty) (n0, .inl (fun i => nrT ty (hi h a0 i)))) := hP a0 _ (at_nr hty hs0 ha0)
  have hc1 : H[b + a1]? = some (vp_cell (g ty) (n1, .inl (fun i => nrT ty (hi h a1 i)))) := hP a1 _ (at_nr hty hs1 ha1)
  have hprim : refKind ty = false := by rcases hty with rfl | rfl <;> rfl
  obtain ⟨-, k0, hk0, cm0, hkk0⟩ := (hK.1.2 t0 _ (ht g)).1 n0 (fun j => .int (nrT ty (hi h a0 j)))
  have z0 : ¬ (0 : Int32) < 0 := by decide
  have y0 : (0 : Int32).toNatClampNeg = 0 := by decide
  have w0 : (0 : Int32).toInt = 0 := by decide
  obtain ⟨vm', X', step⟩ := X.arraycopy hx hown (hts _ (List.mem_cons_of_mem _ h1)) (hts _ (List.mem_cons_of_mem _ h2)) (hts _ (List.mem_cons_of_mem _ h3)) (hts _ (List.mem_cons_of_mem _ h6)) (src := b + a0) (dst := b + a1) (cs := vp_cell (g ty) (n0, .inl (fun i => nrT ty (hi h a0 i)))) (cd := vp_cell (g ty) (n1, .inl (fun i => nrT ty (hi h a1 i)))) (srcPos := 0) (destPos := 0) (n := n) (by rw [hT]; exact hc0) (by rw [hT]; exact hc1)
    (fun _ h => by cases h) (fun _ h => by cases h) (fun h => by cases h) (fun h => by cases h) hk0 hk0 hkk0 hkk0 (by simp [hprim]) z0 z0 hn0
    (by rw [w0, toNN hn0]; show ¬ _ > ((arrV (g ty) n0 (fun j => .int (nrT ty (hi h a0 j)))).slots.size : Int); rw [arrV_size]; omega)
    (by rw [w0, toNN hn0]; show ¬ _ > ((arrV (g ty) n1 (fun j => .int (nrT ty (hi h a1 j)))).slots.size : Int); rw [arrV_size]; omega)
    (fun vm₁ _ i hi0 => by
      have e : (vp_cell (g ty) (n0, .inl (fun i => nrT ty (hi h a0 i)))).slots.getD ((0 : Int32).toNatClampNeg + i) .null = .int (nrT ty (hi h a0 i)) := by
        show (arrV (g ty) n0 (fun j => .int (nrT ty (hi h a0 j)))).slots.getD _ _ = _
        rw [y0, Nat.zero_add, Array.getD_eq_getD_getElem?, arrV_read _ _ (by omega)]
        rfl
      rw [e]
      exact ⟨nrT_fits hty _, trivial⟩)
    (g := F0 m pc ls (.int n :: .int 0 :: .ref (b + a1) :: .int 0 :: .ref (b + a0) :: st.map (rl b))) rfl (L.1.trans hml.symm) (rest := st.map (rl b)) rfl (by rw [hb]; exact hd) hf (by
      have : nativeFrameWords "java/lang/System" "arraycopy" 5 + 11 ≤ 60 := by decide +kernel
      show 2 * 0 + _ + _ ≤ _
      rw [catS_rl]; omega)
  have e1 : copied (vp_cell (g ty) (n0, .inl (fun i => nrT ty (hi h a0 i)))) (vp_cell (g ty) (n1, .inl (fun i => nrT ty (hi h a1 i)))) 0 0 n = vp_cell (g ty) (n1, .inl (fun i => nrT ty (hi (wrA h a1 (cpF h a0 a1 n.toNatClampNeg)) a1 i))) := by
    have e := va_copied (fun z => Value.int z) (g ty) (g ty) (n0 := n0) (n1 := n1) (sp := (0 : Int32).toNatClampNeg) (dp := (0 : Int32).toNatClampNeg) (n := n.toNatClampNeg) (fun i => nrT ty (hi h a0 i)) (fun i => nrT ty (hi h a1 i)) (by rw [y0]; omega)
    refine Eq.trans e ?_
    rw [vp_cell_i]
    congr 1
    funext q
    rw [y0]
    by_cases hq : q < n.toNatClampNeg
    · simp [va_cpy, hq, wrA, hi, upA, cpF]
    · simp [va_cpy, hq, wrA, hi, upA, cpF]
  rw [e1] at X' step
  have hl : b + a1 < H.size := (Array.getElem?_eq_some_iff.mp hc1).1
  generalize hcc : vp_cell (g ty) (n1, .inl (fun i => nrT ty (hi (wrA h a1 (cpF h a0 a1 n.toNatClampNeg)) a1 i))) = cc at X' step
  have hheap : ((T.setVm vm').setCell (b + a1) cc).heap = H.setIfInBounds (b + a1) cc := by rw [← hT]; rfl
  have oq : ∀ q : Nat, q ≠ b + a1 → (H.setIfInBounds (b + a1) cc)[q]? = H[q]? := fun q hq => by simp [Array.getElem?_setIfInBounds, Ne.symm hq]
  have p1 := hP.set wd_D (wd_at ha1) (e := cel b g (wrA h a1 (cpF h a0 a1 n.toNatClampNeg)) a1) (H1 := H.setIfInBounds (b + a1) cc) (by
    rw [cel_arr hs1]
    show (H.setIfInBounds (b + a1) cc)[b + a1]? = some (vp_cell _ _)
    rw [← hcc]
    have e2 : arE b ty n1 (wrA h a1 (cpF h a0 a1 n.toNatClampNeg)) a1 = (n1, .inl (fun i => nrT ty (hi (wrA h a1 (cpF h a0 a1 n.toNatClampNeg)) a1 i))) := by rcases hty with rfl | rfl <;> rfl
    rw [e2]
    simp [Array.getElem?_setIfInBounds, hl]) oq
  rw [wd_set (b := b) (g := g) (h := h) (h' := wrA h a1 (cpF h a0 a1 n.toNatClampNeg)) (a := a1) rfl rfl (fun a' h' => cel_wrA h')] at p1
  obtain ⟨t, a2, b2⟩ := w _ _ (by simp) p1 ⟨by simp; exact hS.1, fun q g1 g2 => by
      rw [oq q (fun e => g2 (by rw [e]; exact Nat.le_add_right _ _))]
      exact hS.2.1 q g1 g2, fun q hq => by
      rcases List.mem_append.mp hq with h | h
      · exact hS.2.2 q h
      · obtain ⟨z, -, hz⟩ := List.mem_map.mp h
        rw [← hz]
        exact Nat.le_add_right _ _⟩ _ hheap X'
  exact ⟨t, step t a2, b2⟩
