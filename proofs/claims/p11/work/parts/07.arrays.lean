/-! arrays -/
def ix (i : Int32) (n j : Nat) : Prop := vp_in i n ∧ i.toNatClampNeg = j
theorem ix_nI {j n : Nat} (hj : j < n) (hN : n < 2 ^ 31) : ix (nI j) n j := ⟨vp_in_nI hj hN, nI_clamp (Nat.lt_trans hj hN)⟩
section AR
variable {M : MT} {d pc : Nat} {la : List (Option Value)} {st : List Value} {h : Hp} {Q : Option Value → Hp → Prop}
theorem at_int {b : Nat} {g : FieldType → ClassId} {a n : Nat} (hs : shp a = .inr (.int, n)) (ha : a < hn h) : (wd b g h)[a]? = some (b + a, .inl (g .int, n, .inl (hi h a))) := by rw [wd_at ha, cel_arr hs]; rfl
theorem at_nar {b : Nat} {g : FieldType → ClassId} {a n : Nat} {ty : FieldType} (ht : ty = .byte ∨ ty = .boolean ∨ ty = .short) (hs : shp a = .inr (ty, n)) (ha : a < hn h) : (wd b g h)[a]? = some (b + a, .inl (g ty, n, .inl (fun i => vp_nar ty (hi h a i)))) := by
  rw [wd_at ha, cel_arr hs]
  rcases ht with rfl | rfl | rfl <;> rfl
theorem at_long {b : Nat} {g : FieldType → ClassId} {a n : Nat} (hs : shp a = .inr (.long, n)) (ha : a < hn h) : (wd b g h)[a]? = some (b + a, .inl (g .long, n, .inr (.inl (hl h a)))) := by rw [wd_at ha, cel_arr hs]; rfl
theorem at_ref {b : Nat} {g : FieldType → ClassId} {a n : Nat} (hs : shp a = .inr (.object RX8, n)) (ha : a < hn h) : (wd b g h)[a]? = some (b + a, .inl (g (.object RX8), n, .inr (.inr (.inr (.inr (fun i => (hr h a i).map (b + ·))))))) := by rw [wd_at ha, cel_arr hs]; rfl
theorem v_iaload {a n : Nat} {i : Int32} {j : Nat} (hs : shp a = .inr (.int, n)) (ha : a < hn h) (hj : ix i n j) (hd : decode M.2.1 pc = .ok (.iaload, 1)) (k : V M d (pc + 1) la (.int (hi h a j) :: st) h Q) : V M d pc la (.int i :: .ref a :: st) h Q := by
  obtain ⟨hin, rfl⟩ := hj
  exact V.go3 (fun C hP w => va_iald C.1 C.2.1 C.2.2.2.2.2.2.2.1.1 hP a 0 (at_int hs ha) rfl hin hd w) k
theorem v_baload {a n : Nat} {i : Int32} {j : Nat} (hs : shp a = .inr (.byte, n)) (ha : a < hn h) (hj : ix i n j) (hd : decode M.2.1 pc = .ok (.baload, 1)) (k : V M d (pc + 1) la (.int (vp_nar .byte (hi h a j)) :: st) h Q) : V M d pc la (.int i :: .ref a :: st) h Q := by
  obtain ⟨hin, rfl⟩ := hj
  exact V.go3 (fun C hP w => va_bald C.1 C.2.1 C.2.2.2.2.2.2.2.1.1 hP a 1 (at_nar (Or.inl rfl) hs ha) rfl hin hd w) k
theorem v_zaload {a n : Nat} {i : Int32} {j : Nat} (hs : shp a = .inr (.boolean, n)) (ha : a < hn h) (hj : ix i n j) (hd : decode M.2.1 pc = .ok (.baload, 1)) (k : V M d (pc + 1) la (.int (vp_nar .boolean (hi h a j)) :: st) h Q) : V M d pc la (.int i :: .ref a :: st) h Q := by
  obtain ⟨hin, rfl⟩ := hj
  exact V.go3 (fun C hP w => va_zald C.1 C.2.1 C.2.2.2.2.2.2.2.1.1 hP a 2 (at_nar (Or.inr (Or.inl rfl)) hs ha) rfl hin hd w) k
theorem v_saload {a n : Nat} {i : Int32} {j : Nat} (hs : shp a = .inr (.short, n)) (ha : a < hn h) (hj : ix i n j) (hd : decode M.2.1 pc = .ok (.saload, 1)) (k : V M d (pc + 1) la (.int (vp_nar .short (hi h a j)) :: st) h Q) : V M d pc la (.int i :: .ref a :: st) h Q := by
  obtain ⟨hin, rfl⟩ := hj
  exact V.go3 (fun C hP w => va_sald C.1 C.2.1 C.2.2.2.2.2.2.2.1.1 hP a 3 (at_nar (Or.inr (Or.inr rfl)) hs ha) rfl hin hd w) k
theorem v_laload {a n : Nat} {i : Int32} {j : Nat} (hs : shp a = .inr (.long, n)) (ha : a < hn h) (hj : ix i n j) (hd : decode M.2.1 pc = .ok (.laload, 1)) (k : V M d (pc + 1) la (.long (hl h a j) :: st) h Q) : V M d pc la (.int i :: .ref a :: st) h Q := by
  obtain ⟨hin, rfl⟩ := hj
  exact V.go3 (fun C hP w => va_lald C.1 C.2.1 C.2.2.2.2.2.2.2.1.1 hP a 4 (at_long hs ha) rfl hin hd w) k
theorem v_aaload {a n q : Nat} {i : Int32} {j : Nat} (hs : shp a = .inr (.object RX8, n)) (ha : a < hn h) (hj : ix i n j) (hq : hr h a j = some q) (hd : decode M.2.1 pc = .ok (.aaload, 1)) (k : V M d (pc + 1) la (.ref q :: st) h Q) : V M d pc la (.int i :: .ref a :: st) h Q := by
  obtain ⟨hin, rfl⟩ := hj
  refine V.go3 (fun {_ b _ _ _ _ _ _ _ _ _ _ _ _ _ _ _ _ _ _} C hP w => va_aldq C.1 C.2.1 C.2.2.2.2.2.2.2.1.1 hP a 5 (at_ref hs ha) rfl hin hd ?_) k
  rw [hq]
  exact w
theorem v_alen {a n : Nat} {ty : FieldType} {v : Int32} (hs : shp a = .inr (ty, n)) (ha : a < hn h) (t0 : Nat) (ht : ∀ g : FieldType → ClassId, (tyl g)[t0]? = some (g ty, ty)) (hv : Int32.ofNat n = v) (hd : decode M.2.1 pc = .ok (.arraylength, 1)) (k : V M d (pc + 1) la (.int v :: st) h Q) : V M d pc la (.ref a :: st) h Q :=
  V.go3 (fun {_ b _ _ g _ _ _ _ _ _ _ _ _ _ _ _ _ _ _} C hP w => va_alen C.1 C.2.1 C.2.2.2.2.2.2.2.1.1 hP a t0 (x := arE b ty n h a) (by rw [wd_at ha, cel_arr hs]) (ht g) (by show Int32.ofNat (arE b ty n h a).1 = v; exact hv) hd w) k
theorem v_iastore {a n : Nat} {i x : Int32} {j : Nat} (hs : shp a = .inr (.int, n)) (ha : a < hn h) (hj : ix i n j) (hd : decode M.2.1 pc = .ok (.iastore, 1)) (k : V M d (pc + 1) la st (wrI h a j x) Q) : V M d pc la (.int x :: .int i :: .ref a :: st) h Q := by
  obtain ⟨hin, rfl⟩ := hj
  refine V.go4 (h2 := wrI h a i.toNatClampNeg x) rfl (fun {_ b _ D g p _ _ s m args _ meth c H locs _ _ _ ls} C hP hS _ w => ?_) k
  have hc : H[b + a]? = some (vp_cell (g .int) (n, .inl (hi h a))) := hP a _ (at_int hs ha)
  refine W.iast C.1 C.2.1 hc ((C.2.2.2.2.2.2.2.1.1.2 0 _ rfl).1 n (fun j => .int (hi h a j))) (fun q => by cases q) (by show ¬ (i < 0 ∨ (arrV _ _ _).slots.size ≤ _); rw [arrV_size]; exact hin) rfl rfl hd fun H1 e z oq => ?_
  obtain ⟨z1, z2⟩ := put_done (h2 := wrI h a i.toNatClampNeg x) (j := i.toNatClampNeg) hP hS ha rfl (fun a' h' => cel_wrI h') (by
    rw [cel_arr hs]
    show H1[b + a]? = some (vp_cell _ _)
    rw [e]
    show some ((arrV _ _ _).setSlot _ _) = some (arrV (g .int) n (fun j => .int (hi (wrI h a i.toNatClampNeg x) a j)))
    rw [arrV_store]
    congr 2
    funext q
    by_cases hq : q = i.toNatClampNeg
    · subst hq; simp [updV, wrI, hi, up2]
    · simp [updV, wrI, hi, up2, hq]) z oq
  exact w H1 _ z z1 z2
theorem v_bastore {a n : Nat} {i x : Int32} {j : Nat} (hs : shp a = .inr (.byte, n)) (ha : a < hn h) (hj : ix i n j) (hd : decode M.2.1 pc = .ok (.bastore, 1)) (k : V M d (pc + 1) la st (wrI h a j x) Q) : V M d pc la (.int x :: .int i :: .ref a :: st) h Q := by
  obtain ⟨hin, rfl⟩ := hj
  refine V.go4 (h2 := wrI h a i.toNatClampNeg x) rfl (fun {_ b _ D g p _ _ s m args _ meth c H locs _ _ _ ls} C hP hS _ w => ?_) k
  have hc : H[b + a]? = some (vp_cell (g .byte) (n, .inl (fun i => vp_nar .byte (hi h a i)))) := hP a _ (at_nar (Or.inl rfl) hs ha)
  refine W.bast C.1 C.2.1 hc ((C.2.2.2.2.2.2.2.1.1.2 1 _ rfl).1 n (fun j => .int (vp_nar .byte (hi h a j)))) (fun q => by cases q) (by show ¬ (i < 0 ∨ (arrV _ _ _).slots.size ≤ _); rw [arrV_size]; exact hin) rfl rfl hd fun H1 e z oq => ?_
  obtain ⟨z1, z2⟩ := put_done (h2 := wrI h a i.toNatClampNeg x) (j := i.toNatClampNeg) hP hS ha rfl (fun a' h' => cel_wrI h') (by
    rw [cel_arr hs]
    show H1[b + a]? = some (vp_cell _ _)
    rw [e]
    show some ((arrV _ _ _).setSlot _ _) = some (arrV (g .byte) n (fun j => .int (vp_nar .byte (hi (wrI h a i.toNatClampNeg x) a j))))
    rw [arrV_store]
    congr 2
    funext q
    by_cases hq : q = i.toNatClampNeg
    · subst hq; simp [updV, wrI, hi, up2]; rfl
    · simp [updV, wrI, hi, up2, hq]) z oq
  exact w H1 _ z z1 z2
theorem v_zastore {a n : Nat} {i x : Int32} {j : Nat} (hs : shp a = .inr (.boolean, n)) (ha : a < hn h) (hj : ix i n j) (hd : decode M.2.1 pc = .ok (.bastore, 1)) (k : V M d (pc + 1) la st (wrI h a j x) Q) : V M d pc la (.int x :: .int i :: .ref a :: st) h Q := by
  obtain ⟨hin, rfl⟩ := hj
  refine V.go4 (h2 := wrI h a i.toNatClampNeg x) rfl (fun {_ b _ D g p _ _ s m args _ meth c H locs _ _ _ ls} C hP hS _ w => ?_) k
  have hc : H[b + a]? = some (vp_cell (g .boolean) (n, .inl (fun i => vp_nar .boolean (hi h a i)))) := hP a _ (at_nar (Or.inr (Or.inl rfl)) hs ha)
  refine W.zast C.1 C.2.1 hc ((C.2.2.2.2.2.2.2.1.1.2 2 _ rfl).1 n (fun j => .int (vp_nar .boolean (hi h a j)))) (fun q => by cases q) (by show ¬ (i < 0 ∨ (arrV _ _ _).slots.size ≤ _); rw [arrV_size]; exact hin) rfl rfl hd fun H1 e z oq => ?_
  obtain ⟨z1, z2⟩ := put_done (h2 := wrI h a i.toNatClampNeg x) (j := i.toNatClampNeg) hP hS ha rfl (fun a' h' => cel_wrI h') (by
    rw [cel_arr hs]
    show H1[b + a]? = some (vp_cell _ _)
    rw [e]
    show some ((arrV _ _ _).setSlot _ _) = some (arrV (g .boolean) n (fun j => .int (vp_nar .boolean (hi (wrI h a i.toNatClampNeg x) a j))))
    rw [arrV_store]
    congr 2
    funext q
    by_cases hq : q = i.toNatClampNeg
    · subst hq; simp [updV, wrI, hi, up2]; rfl
    · simp [updV, wrI, hi, up2, hq]) z oq
  exact w H1 _ z z1 z2
theorem v_sastore {a n : Nat} {i x : Int32} {j : Nat} (hs : shp a = .inr (.short, n)) (ha : a < hn h) (hj : ix i n j) (hd : decode M.2.1 pc = .ok (.sastore, 1)) (k : V M d (pc + 1) la st (wrI h a j x) Q) : V M d pc la (.int x :: .int i :: .ref a :: st) h Q := by
  obtain ⟨hin, rfl⟩ := hj
  refine V.go4 (h2 := wrI h a i.toNatClampNeg x) rfl (fun {_ b _ D g p _ _ s m args _ meth c H locs _ _ _ ls} C hP hS _ w => ?_) k
  have hc : H[b + a]? = some (vp_cell (g .short) (n, .inl (fun i => vp_nar .short (hi h a i)))) := hP a _ (at_nar (Or.inr (Or.inr rfl)) hs ha)
  refine W.sast C.1 C.2.1 hc ((C.2.2.2.2.2.2.2.1.1.2 3 _ rfl).1 n (fun j => .int (vp_nar .short (hi h a j)))) (fun q => by cases q) (by show ¬ (i < 0 ∨ (arrV _ _ _).slots.size ≤ _); rw [arrV_size]; exact hin) rfl rfl hd fun H1 e z oq => ?_
  obtain ⟨z1, z2⟩ := put_done (h2 := wrI h a i.toNatClampNeg x) (j := i.toNatClampNeg) hP hS ha rfl (fun a' h' => cel_wrI h') (by
    rw [cel_arr hs]
    show H1[b + a]? = some (vp_cell _ _)
    rw [e]
    show some ((arrV _ _ _).setSlot _ _) = some (arrV (g .short) n (fun j => .int (vp_nar .short (hi (wrI h a i.toNatClampNeg x) a j))))
    rw [arrV_store]
    congr 2
    funext q
    by_cases hq : q = i.toNatClampNeg
    · subst hq; simp [updV, wrI, hi, up2]; rfl
    · simp [updV, wrI, hi, up2, hq]) z oq
  exact w H1 _ z z1 z2
theorem v_lastore {a n : Nat} {i : Int32} {x : Int64} {j : Nat} (hs : shp a = .inr (.long, n)) (ha : a < hn h) (hj : ix i n j) (hd : decode M.2.1 pc = .ok (.lastore, 1)) (k : V M d (pc + 1) la st (wrL h a j x) Q) : V M d pc la (.long x :: .int i :: .ref a :: st) h Q := by
  obtain ⟨hin, rfl⟩ := hj
  refine V.go4 (h2 := wrL h a i.toNatClampNeg x) rfl (fun {_ b _ D g p _ _ s m args _ meth c H locs _ _ _ ls} C hP hS _ w => ?_) k
  have hc : H[b + a]? = some (vp_cell (g .long) (n, .inr (.inl (hl h a)))) := hP a _ (at_long hs ha)
  refine W.last C.1 C.2.1 hc ((C.2.2.2.2.2.2.2.1.1.2 4 _ rfl).1 n (fun j => .long (hl h a j))) (fun q => by cases q) (by show ¬ (i < 0 ∨ (arrV _ _ _).slots.size ≤ _); rw [arrV_size]; exact hin) rfl rfl hd fun H1 e z oq => ?_
  obtain ⟨z1, z2⟩ := put_done (h2 := wrL h a i.toNatClampNeg x) (j := i.toNatClampNeg) hP hS ha rfl (fun a' h' => cel_wrL h') (by
    rw [cel_arr hs]
    show H1[b + a]? = some (vp_cell _ _)
    rw [e]
    show some ((arrV _ _ _).setSlot _ _) = some (arrV (g .long) n (fun j => .long (hl (wrL h a i.toNatClampNeg x) a j)))
    rw [arrV_store]
    congr 2
    funext q
    by_cases hq : q = i.toNatClampNeg
    · subst hq; simp [updV, wrL, hl, up2]
    · simp [updV, wrL, hl, up2, hq]) z oq
  exact w H1 _ z z1 z2
theorem v_aastore {a n q : Nat} {i : Int32} {j : Nat} (hs : shp a = .inr (.object RX8, n)) (ha : a < hn h) (hq : shp q = .inl 8) (hqa : q < hn h) (hj : ix i n j) (hd : decode M.2.1 pc = .ok (.aastore, 1)) (k : V M d (pc + 1) la st (wrR h a j (some q)) Q) : V M d pc la (.ref q :: .int i :: .ref a :: st) h Q := by
  obtain ⟨hin, rfl⟩ := hj
  have hlt : i.toNatClampNeg < n := Nat.not_le.mp fun q => hin (Or.inr q)
  have h0 : ¬ i < 0 := fun q => hin (Or.inl q)
  refine V.go4 (h2 := wrR h a i.toNatClampNeg (some q)) rfl (fun {_ b _ D g p _ _ s m args _ meth c H locs _ _ _ ls} C hP hS _ w => ?_) k
  have hK := C.2.2.2.2.2.2.2.1.1
  have hc : H[b + a]? = some (vp_cell (g (.object RX8)) (n, .inr (.inr (.inr (.inr (fun i => (hr h a i).map (b + ·))))))) := hP a _ (at_ref hs ha)
  obtain ⟨r', hr', cellV, g1, g2, g3, -⟩ := hP q _ (by rw [wd_at hqa, cel_obj hq])
  have hcls := (hK.1 8 _ (rfl : vwCl[8]? = some (RX8, TX8, 7))).2
  obtain ⟨kA, comp, k1, k2, k3, -⟩ := (hK.2 5 _ (rfl : (tyl g)[5]? = some (g (.object RX8), .object RX8))).2
  have hcomp : comp = D.1 8 := Option.some.inj (k3.symm.trans hcls.1)
  subst hcomp
  obtain ⟨kC, hkC, -⟩ := hcls.2
  refine W.aast C.1 C.2.1 hc (fun q h => by cases h) (fun h => by cases h) k1 k2 rfl hkC ⟨h0, by show _ < (arrV _ _ _).slots.size; rw [arrV_size]; exact hlt⟩ g1 (fun q h => by rw [g3] at h; cases h) (by rw [g2]; exact hkC) (by rw [g2]; exact va_assign hcls) rfl rfl hd fun H1 e z oq => ?_
  obtain ⟨z1, z2⟩ := put_done (h2 := wrR h a i.toNatClampNeg (some q)) (j := i.toNatClampNeg) hP hS ha rfl (fun a' h' => cel_wrR h') (by
    rw [cel_arr hs]
    show H1[b + a]? = some (vp_cell _ _)
    rw [e]
    show some ((arrV _ _ _).setSlot _ _) = some (arrV (g (.object RX8)) n (fun j => va_rf ((hr (wrR h a i.toNatClampNeg (some q)) a j).map (b + ·))))
    rw [arrV_store]
    congr 2
    funext q'
    by_cases hq' : q' = i.toNatClampNeg
    · subst hq'; simp [updV, wrR, hr, up2, va_rf]
    · simp [updV, wrR, hr, up2, hq']) z oq
  exact w H1 _ z z1 z2
end AR
