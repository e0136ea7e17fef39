/-! calls of the JDK that the kit has rows for -/
theorem V.go6 {M : MT} {d pc pc2 : Nat} {la : List (Option Value)} {st st2 : List Value} {h h2 : Hp} {Q : Option Value → Hp → Prop} (hN : hn h2 = hn h)
    (f : ∀ {l : Launch} {b n0 : Nat} {D : va_G} {g : FieldType → ClassId} {p : Program} {e : Env} {R : Room} {s : State} {m : MethodId} {args : Array Value} {below : List Frame} {meth : Method} {c : Code} {H : Heap} {locs : List Loc} {cells slots : Nat} {Qm : State → Prop} {ls : Array Slot},
      Cx M b n0 D g p s m args meth c → va_P D vwCl (wd b g h) H → va_S (fun q => b ≤ q) s.heap H locs → lh b ls M.2.2.1 la → 1 ≤ R.frames → 80 ≤ R.locals → cells ≤ R.cells → slots ≤ R.slots → (∀ (H1 : Heap) (locs1 : List Loc), H1.size = H.size → va_P D vwCl (wd b g h2) H1 → va_S (fun q => b ≤ q) s.heap H1 locs1 → W p l e R s m args below meth c H1 locs1 cells slots Qm (F0 m pc2 ls (st2.map (rl b)))) → W p l e R s m args below meth c H locs cells slots Qm (F0 m pc ls (st.map (rl b))))
    (k : V M (d + 1) pc2 la st2 h2 Q) : V M (d + 1) pc la st h Q := by
  obtain ⟨r, h', hQ, hle, hX⟩ := k
  have hle0 : hn h ≤ hn h' := by rw [← hN]; exact hle
  refine ⟨r, h', hQ, hle0, fun l b n0 D g p e s m args below meth c H locs ls C hn0 hz hP hS hl => f C hP hS hl (by show 1 ≤ d + 1; omega) (by show 80 ≤ 80 * (d + 1); omega) (by show hn h - n0 ≤ hn h' - n0; omega) (by
    have := sl_mono hle0
    show sl (hn h) - sl n0 ≤ sl (hn h') - sl n0; omega) (fun H1 locs1 hz1 hP1 hS1 => ?_)⟩
  have := hX l b n0 D g p e s m args below meth c H1 locs1 ls C (by rw [hN]; exact hn0) (by rw [hz1, hN]; exact hz) hP1 hS1 hl
  rw [hN] at this
  exact this
section JD
variable {M : MT} {d pc : Nat} {la : List (Option Value)} {st : List Value} {h : Hp} {Q : Option Value → Hp → Prop}
theorem v_objInit {a idx : Nat} (h1 : Cond.methodLink M.1.cls idx Lib.objectInit ∈ gw) (h2 : Cond.instanceMethod Lib.objectInit ∈ gw) (h3 : Cond.code Lib.objectInit ⟨#[0xb1]⟩ 1 none ∈ gw) (hcat : catS st ≤ 8) (hd : decode M.2.1 pc = .ok (.invokespecial idx, 3)) (k : V M (d + 1) (pc + 3) la st h Q) : V M (d + 1) pc la (.ref a :: st) h Q := by
  refine V.go6 rfl (fun {_ b _ D g p _ _ s m args _ meth c H locs _ _ _ ls} C hP hS L hf hl0 _ _ w => ?_) k
  obtain ⟨hx, hb, -, -, hml, hown, hts, hK, -, -⟩ := C
  exact W.objInit hx hb hown (hts _ (List.mem_cons_of_mem _ h1)) (hts _ (List.mem_cons_of_mem _ h2)) (hts _ (List.mem_cons_of_mem _ h3)) rfl (L.1.trans hml.symm) rfl hd hf (by show 2 * 0 + _ + 12 ≤ _; rw [catS_rl]; omega) (w H locs rfl hP hS)
theorem v_max {x y : Int32} {idx : Nat} (h1 : Cond.methodLink M.1.cls idx Lib.Math.max.name ∈ gw) (h2 : Cond.static Lib.Math.max.name ∈ gw) (h3 : Cond.initialized "java/lang/Math" ∈ gw) (h4 : Cond.code Lib.Math.max.name Lib.Math.max.code 2 (some .int) ∈ gw) (hcat : catS st ≤ 8) (hd : decode M.2.1 pc = .ok (.invokestatic idx, 3)) (k : V M (d + 1) (pc + 3) la (.int (if x < y then y else x) :: st) h Q) : V M (d + 1) pc la (.int y :: .int x :: st) h Q := by
  refine V.go6 rfl (fun {_ b _ D g p _ _ s m args _ meth c H locs _ _ _ ls} C hP hS L hf hl0 hc hs w => ?_) k
  obtain ⟨hx, hb, -, -, hml, hown, hts, hK, -, -⟩ := C
  exact va_mmax hx hb (hml.trans L.1.symm) hown (hts _ (List.mem_cons_of_mem _ h1)) (hts _ (List.mem_cons_of_mem _ h2)) (hts _ (List.mem_cons_of_mem _ h3)) (hts _ (List.mem_cons_of_mem _ h4)) hf (by rw [catS_rl]; omega) hc hs hd (w H locs rfl hP hS)
theorem v_min {x y : Int32} {idx : Nat} (h1 : Cond.methodLink M.1.cls idx Lib.Math.min.name ∈ gw) (h2 : Cond.static Lib.Math.min.name ∈ gw) (h3 : Cond.initialized "java/lang/Math" ∈ gw) (h4 : Cond.code Lib.Math.min.name Lib.Math.min.code 2 (some .int) ∈ gw) (hcat : catS st ≤ 8) (hd : decode M.2.1 pc = .ok (.invokestatic idx, 3)) (k : V M (d + 1) (pc + 3) la (.int (if y < x then y else x) :: st) h Q) : V M (d + 1) pc la (.int y :: .int x :: st) h Q := by
  refine V.go6 rfl (fun {_ b _ D g p _ _ s m args _ meth c H locs _ _ _ ls} C hP hS L hf hl0 hc hs w => ?_) k
  obtain ⟨hx, hb, -, -, hml, hown, hts, hK, -, -⟩ := C
  exact va_mmin hx hb (hml.trans L.1.symm) hown (hts _ (List.mem_cons_of_mem _ h1)) (hts _ (List.mem_cons_of_mem _ h2)) (hts _ (List.mem_cons_of_mem _ h3)) (hts _ (List.mem_cons_of_mem _ h4)) hf (by rw [catS_rl]; omega) hc hs hd (w H locs rfl hP hS)
theorem v_abs {x : Int32} {idx : Nat} (h1 : Cond.methodLink M.1.cls idx Lib.Math.abs.name ∈ gw) (h2 : Cond.static Lib.Math.abs.name ∈ gw) (h3 : Cond.initialized "java/lang/Math" ∈ gw) (h4 : Cond.code Lib.Math.abs.name Lib.Math.abs.code 1 (some .int) ∈ gw) (hcat : catS st ≤ 8) (hd : decode M.2.1 pc = .ok (.invokestatic idx, 3)) (k : V M (d + 1) (pc + 3) la (.int (if 0 ≤ x then x else 0 - x) :: st) h Q) : V M (d + 1) pc la (.int x :: st) h Q := by
  refine V.go6 rfl (fun {_ b _ D g p _ _ s m args _ meth c H locs _ _ _ ls} C hP hS L hf hl0 hc hs w => ?_) k
  obtain ⟨hx, hb, -, -, hml, hown, hts, hK, -, -⟩ := C
  exact va_mabs hx hb (hml.trans L.1.symm) hown (hts _ (List.mem_cons_of_mem _ h1)) (hts _ (List.mem_cons_of_mem _ h2)) (hts _ (List.mem_cons_of_mem _ h3)) (hts _ (List.mem_cons_of_mem _ h4)) hf (by rw [catS_rl]; omega) hc hs hd (w H locs rfl hP hS)
end JD
