/-! SUMS: the orders that the reference lays down -/
/-- those that wait, as they lie there -/
def wsR (g : Nat → Int32) : List Int → Prop
  | [] => True
  | w :: r => (g r.length).toInt = rk w ∧ wsR g r
def wOK (W : List Int) : Prop := ∀ w ∈ W, w = 40 ∨ isOp w
theorem wsR.cg {g g' : Nat → Int32} : ∀ {W : List Int}, wsR g W → (∀ k, k < W.length → g' k = g k) → wsR g' W := by
  intro W
  induction W with
  | nil => intro _ _; trivial
  | cons x r ih =>
    intro h e
    have l : (x :: r).length = r.length + 1 := rfl
    exact ⟨by rw [e r.length (by omega)]; exact h.1, ih h.2 (fun k hk => e k (by omega))⟩
/-- how many ( wait -/
def n40 : List Int → Nat
  | [] => 0
  | w :: r => (if w = 40 then 1 else 0) + n40 r
theorem pop_n {s : Bool} : ∀ {W : List Int}, n40 (popW s W).2 = n40 W := by
  intro W
  induction W with
  | nil => rfl
  | cons w r ih =>
    unfold popW
    by_cases h : w = 40 ∨ (s = true ∧ (w = 43 ∨ w = 45))
    · rw [if_pos h]
    · rw [if_neg h]
      show n40 (popW s r).2 = (if w = 40 then 1 else 0) + n40 r
      rw [ih, if_neg (fun z => h (Or.inl z))]; omega
theorem pop_f : ∀ {W : List Int}, (popW false W).2 = [] ∨ ∃ V, (popW false W).2 = 40 :: V := by
  intro W
  induction W with
  | nil => exact Or.inl rfl
  | cons w r ih =>
    unfold popW
    by_cases h : w = 40 ∨ (false = true ∧ (w = 43 ∨ w = 45))
    · rw [if_pos h]
      rcases h with h | ⟨h, _⟩
      · exact Or.inr ⟨r, by rw [h]⟩
      · cases h
    · rw [if_neg h]
      exact ih
theorem pop_e {W : List Int} : (popW false W).2 = [] ↔ n40 W = 0 := by
  have e := pop_n (s := false) (W := W)
  rcases pop_f (W := W) with h | ⟨V, h⟩
  · rw [h] at e
    exact ⟨fun _ => e.symm, fun _ => h⟩
  · rw [h] at e
    have : n40 (40 :: V) = 1 + n40 V := by show (if (40 : Int) = 40 then 1 else 0) + n40 V = _; rw [if_pos rfl]
    exact ⟨fun z => (by rw [h] at z; cases z), fun z => by omega⟩
theorem pop_ok {s : Bool} : ∀ {W : List Int}, wOK W → wOK (popW s W).2 := by
  intro W
  induction W with
  | nil => intro h; exact h
  | cons w r ih =>
    intro h
    unfold popW
    by_cases c : w = 40 ∨ (s = true ∧ (w = 43 ∨ w = 45))
    · rw [if_pos c]; exact h
    · rw [if_neg c]
      exact ih (fun x hx => h x (List.mem_cons_of_mem _ hx))
/-- codes have been laid down from c on -/
def ocP (h q : Hp) (c : Nat) (C : List Int32) : Prop := (hi q 226 45).toInt = ((c + C.length : Nat) : Int) ∧ rcA (hi q 257) (hi q 258) c C ∧ ∀ k, k < c → hi q 257 k = hi h 257 k ∧ hi q 258 k = hi h 258 k
theorem ocP.nil {h q : Hp} {c : Nat} (o : (hi q 226 45).toInt = (c : Int)) (e : ∀ k, k < c → hi q 257 k = hi h 257 k ∧ hi q 258 k = hi h 258 k) : ocP h q c [] := ⟨o, trivial, e⟩
theorem ocP.tr {h q r : Hp} {c : Nat} {C D : List Int32} (a : ocP h q c C) (b : ocP q r (c + C.length) D) : ocP h r c (C ++ D) := by
  refine ⟨?_, rcA.app.mpr ⟨a.2.1.cg (fun k _ h2 => b.2.2 k h2), b.2.1⟩, fun k hk => ⟨(b.2.2 k (by omega)).1.trans (a.2.2 k hk).1, (b.2.2 k (by omega)).2.trans (a.2.2 k hk).2⟩⟩
  have := b.1
  rw [Nat.add_assoc, ← List.length_append] at this
  exact this
theorem ocP.k {h q r : Hp} {c : Nat} {C : List Int32} (a : ocP h q c C) (e45 : hi r 226 45 = hi q 226 45) (e7 : ∀ k, hi r 257 k = hi q 257 k) (e8 : ∀ k, hi r 258 k = hi q 258 k) : ocP h r c C := ⟨by rw [e45]; exact a.1, a.2.1.cg (fun k _ _ => ⟨e7 k, e8 k⟩), fun k hk => ⟨(e7 k).trans (a.2.2 k hk).1, (e8 k).trans (a.2.2 k hk).2⟩⟩
theorem ocP.l {h q r : Hp} {c : Nat} {C : List Int32} (a : ocP q r c C) (e7 : ∀ k, hi q 257 k = hi h 257 k) (e8 : ∀ k, hi q 258 k = hi h 258 k) : ocP h r c C := ⟨a.1, a.2.1, fun k hk => ⟨(a.2.2 k hk).1.trans (e7 k), (a.2.2 k hk).2.trans (e8 k)⟩⟩
theorem ocP.lk {h q r : Hp} {c : Nat} {C : List Int32} (a : ocP q r c C) (f : frQ h q) : ocP h r c C := a.l (fun k => f.1 257 k (by omega)) (fun k => f.1 258 k (by omega))
theorem ocP.kk {h q r : Hp} {c : Nat} {C : List Int32} (a : ocP h q c C) (f : frQ q r) : ocP h r c C := a.k (f.1 226 45 (by decide)) (fun k => f.1 257 k (by omega)) (fun k => f.1 258 k (by omega))
/-- those that wait lie there -/
def wtP (h : Hp) (W : List Int) : Prop := wsR (hi h 259) W ∧ (hi h 226 49).toInt = (W.length : Int) ∧ wOK W
theorem wtP.k {h q : Hp} {W : List Int} (a : wtP h W) (e49 : hi q 226 49 = hi h 226 49) (e9 : ∀ k, hi q 259 k = hi h 259 k) : wtP q W := ⟨a.1.cg (fun k _ => e9 k), by rw [e49]; exact a.2.1, a.2.2⟩
theorem wtP.q {h q : Hp} {W : List Int} (a : wtP h W) (f : frQ h q) : wtP q W := a.k (f.1 226 49 (by decide)) (fun k => f.1 259 k (by omega))
theorem oc_emit {n : Nat} {h : Hp} {x1 x2 c : Int32} {p : Nat} (o : (hi h 226 45).toInt = (p : Int)) (r : rcO c x1 x2) : Pc (F_X12_emit n h x1 x2) (fun q => ocP h q p [c] ∧ frN h q ∧ hi q 226 49 = hi h 226 49 ∧ ∀ k, hi q 259 k = hi h 259 k) := by
  have f1 := lit_1
  have n5 := ncT (show 0 ≤ (hi h 226 45).toInt by omega)
  have n5' : Int32.toNatClampNeg (hi h 226 45) = p := by omega
  unfold F_X12_emit
  refine Pc.chk (fun c1 => ?_)
  have p84 := ixO_lt c1
  have a1 := adT (hi h 226 45) 1 (by omega) (by omega)
  have e45 (v : Int32) : hi (wrI h 257 (Int32.toNatClampNeg (hi h 226 45)) v) 226 45 = hi h 226 45 := hiA rfl 226 45 (by decide)
  have e46 (v u : Int32) (k : Nat) : hi (wrI (wrI h 257 (Int32.toNatClampNeg (hi h 226 45)) v) 258 k u) 226 45 = hi h 226 45 := (hiA rfl 226 45 (by decide)).trans (e45 v)
  rw [e45, e46, n5']
  refine Pc.chk (fun _ => Pc.ret ⟨⟨?_, ?_, fun k hk => ⟨?_, ?_⟩⟩, ⟨fun a k n1 n2 n3 n4 => ?_, fun a k => rfl⟩, ?_, fun k => ?_⟩)
  · rw [hiE rfl]
    show (hi h 226 45 + 1).toInt = ((p + 1 : Nat) : Int)
    omega
  · refine ⟨?_, trivial⟩
    rw [hi_wrI, if_neg (by omega), hi_wrI, if_neg (by omega), hi_wrI, if_pos ⟨rfl, rfl⟩, hi_wrI, if_neg (by omega), hi_wrI, if_pos ⟨rfl, rfl⟩]
    exact r
  · rw [hi_wrI, if_neg (by omega), hi_wrI, if_neg (by omega), hi_wrI, if_neg (by omega)]
  · rw [hi_wrI, if_neg (by omega), hi_wrI, if_neg (by omega), hi_wrI, if_neg (by omega)]
  · rw [hi_wrI, if_neg (by omega), hi_wrI, if_neg (by omega), hi_wrI, if_neg (by omega)]
  · rw [hi_wrI, if_neg (by decide), hi_wrI, if_neg (by omega), hi_wrI, if_neg (by omega)]
  · rw [hi_wrI, if_neg (by omega), hi_wrI, if_neg (by omega), hi_wrI, if_neg (by omega)]
theorem lit_6' : (6 : Int32).toInt = 6 := by decide
theorem rk_vals : rk 40 = 6 ∧ rk 43 = 8 ∧ rk 45 = 9 ∧ rk 42 = 10 ∧ rk 47 = 15 := by decide
set_option maxHeartbeats 4000000 in
theorem oc_pops {l1 : Int32} {s : Bool} (hs : s = true ↔ l1 ≠ 0) : ∀ (W : List Int) (n : Nat) (h : Hp) (c : Nat), wtP h W → (hi h 226 45).toInt = (c : Int) → Pc (W_X12_comesOut n 0 h l1) (fun q => frN h q ∧ ocP h q c (popW s W).1 ∧ wtP q (popW s W).2 ∧ ∀ k, hi q 259 k = hi h 259 k) := by
  have f0 := lit_0
  have f1 := lit_1
  have f6 := lit_6'
  have f8 := lit_8
  have f9 := lit_9
  have f10 := lit_10
  obtain ⟨r40, r43, r45, r42, r47⟩ := rk_vals
  have me (h : Hp) : frN h h := ⟨fun _ _ _ _ _ _ => rfl, fun _ _ => rfl⟩
  intro W
  induction W with
  | nil =>
    intro n h c w o
    cases n with
    | zero => exact Pc.no
    | succ n =>
      have w2 := w.2.1
      have l0 : (([] : List Int).length : Int) = 0 := rfl
      rw [u_X12_comesOut]
      refine Pc.pos rfl ?_
      exact Pc.le (fun _ => Pc.ret ⟨me h, ocP.nil o (fun _ _ => ⟨rfl, rfl⟩), w, fun _ => rfl⟩) (fun q => by exfalso; omega)
  | cons w r ih =>
    intro n h c ww o
    cases n with
    | zero => exact Pc.no
    | succ n =>
      obtain ⟨w1, w2, w3⟩ := ww
      have l0 : ((w :: r).length : Int) = r.length + 1 := by simp
      have r49 := rgT (hi h 226 49)
      generalize e49' : (hi h 226 49 - 1 : Int32) = v49
      have sb := sbG e49' (w2.trans l0) f1 (by omega) (by omega)
      have n9 := ncT (show 0 ≤ v49.toInt by omega)
      have n9' : Int32.toNatClampNeg v49 = r.length := by omega
      have wv : (hi h 259 r.length).toInt = rk w := w1.1
      have wo := w3 w (List.mem_cons_self ..)
      have st (y : popW s (w :: r) = ([], w :: r)) : Pc (some h) (fun q => frN h q ∧ ocP h q c (popW s (w :: r)).1 ∧ wtP q (popW s (w :: r)).2 ∧ ∀ k, hi q 259 k = hi h 259 k) := by
        rw [y]
        exact Pc.ret ⟨me h, ocP.nil o (fun _ _ => ⟨rfl, rfl⟩), ⟨w1, w2, w3⟩, fun _ => rfl⟩
      have go (a : Int32) (hw : w ≠ 40) (hn : ¬ (s = true ∧ (w = 43 ∨ w = 45))) (ra : rcO (opc w) a 0) : Pc ((F_X12_emit n (wrI h 226 49 v49) a 0).bind (fun q => W_X12_comesOut n 0 q l1)) (fun q => frN h q ∧ ocP h q c (popW s (w :: r)).1 ∧ wtP q (popW s (w :: r)).2 ∧ ∀ k, hi q 259 k = hi h 259 k) := by
        have pe : popW s (w :: r) = (opc w :: (popW s r).1, (popW s r).2) := by
          conv => lhs; unfold popW
          rw [if_neg (fun z => z.elim hw hn)]
        rw [pe]
        have e45 : hi (wrI h 226 49 v49) 226 45 = hi h 226 45 := hiK rfl 226 45 (by decide)
        refine Pc.bind (oc_emit (by rw [e45]; exact o) ra) (fun q hq => ?_)
        obtain ⟨q1, q2, q3, q4⟩ := hq
        have k9 (k : Nat) : hi q 259 k = hi h 259 k := by rw [q4 k, hi_wrI, if_neg (by omega)]
        have wq : wtP q r := by
          refine ⟨w1.2.cg (fun k _ => k9 k), ?_, fun x hx => w3 x (List.mem_cons_of_mem _ hx)⟩
          rw [q3, hiE rfl]; omega
        have q1' := q1.l (h := h) (fun k => by rw [hi_wrI, if_neg (by omega)]) (fun k => by rw [hi_wrI, if_neg (by omega)])
        have fq : frN h q := (show frN h (wrI h 226 49 v49) from ⟨fun a k n1 n2 n3 n4 => by rw [hi_wrI, if_neg (by omega)], fun _ _ => rfl⟩).tr q2
        refine (ih n q (c + 1) wq q1.1).mono (fun u hu => ?_)
        obtain ⟨u1, u2, u3, u4⟩ := hu
        exact ⟨fq.tr u1, q1'.tr u2, u3, fun k => (u4 k).trans (k9 k)⟩
      rw [u_X12_comesOut, e49', n9']
      refine Pc.pos rfl ?_
      refine Pc.le (fun q => by exfalso; omega) (fun _ => Pc.chk (fun _ => ?_))
      unfold isOp at wo
      refine Pc.eq (fun q => ?_) (fun q => ?_)
      · have e40 : w = 40 := by
          rcases wo with z | z | z | z | z
          · exact z
          all_goals (rw [z] at wv; omega)
        refine st ?_
        conv => lhs; unfold popW
        rw [if_pos (Or.inl e40)]
      · have e40 : w ≠ 40 := fun z => by rw [z] at wv; omega
        refine Pc.eq (fun q0 => ?_) (fun q0 => ?_)
        · have sf : ¬ s = true := fun z => hs.mp z (Int32.toInt_inj.mp q0)
          have hn : ¬ (s = true ∧ (w = 43 ∨ w = 45)) := fun z => sf z.1
          refine Pc.eq (fun q8 => ?_) (fun q8 => ?_)
          · have e : w = 43 := by
              rcases wo with z | z | z | z | z
              · exact absurd z e40
              · rw [z] at wv; omega
              · exact z
              all_goals (rw [z] at wv; omega)
            exact go 2 e40 hn (by rw [e]; unfold rcO; decide)
          · refine Pc.eq (fun q9 => ?_) (fun q9 => ?_)
            · have e : w = 45 := by
                rcases wo with z | z | z | z | z
                · exact absurd z e40
                · rw [z] at wv; omega
                · rw [z] at wv; omega
                · exact z
                all_goals (rw [z] at wv; omega)
              exact go 3 e40 hn (by rw [e]; unfold rcO; decide)
            · refine Pc.eq (fun qx => ?_) (fun qx => ?_)
              · have e : w = 42 := by
                  rcases wo with z | z | z | z | z
                  · exact absurd z e40
                  · exact z
                  all_goals (rw [z] at wv; omega)
                exact go 4 e40 hn (by rw [e]; unfold rcO; decide)
              · have e : w = 47 := by
                  rcases wo with z | z | z | z | z
                  · exact absurd z e40
                  · rw [z] at wv; omega
                  · rw [z] at wv; omega
                  · rw [z] at wv; omega
                  · exact z
                exact go 5 e40 hn (by rw [e]; unfold rcO; decide)
        · have sf : s = true := hs.mpr (fun z => q0 (by rw [z]))
          refine Pc.eq (fun q8 => ?_) (fun q8 => ?_)
          · have e : w = 43 := by
              rcases wo with z | z | z | z | z
              · exact absurd z e40
              · rw [z] at wv; omega
              · exact z
              all_goals (rw [z] at wv; omega)
            refine st ?_
            conv => lhs; unfold popW
            rw [if_pos (Or.inr ⟨sf, Or.inl e⟩)]
          · refine Pc.eq (fun q9 => ?_) (fun q9 => ?_)
            · have e : w = 45 := by
                rcases wo with z | z | z | z | z
                · exact absurd z e40
                · rw [z] at wv; omega
                · rw [z] at wv; omega
                · exact z
                all_goals (rw [z] at wv; omega)
              refine st ?_
              conv => lhs; unfold popW
              rw [if_pos (Or.inr ⟨sf, Or.inr e⟩)]
            · have n4 : ¬ (w = 43 ∨ w = 45) := by
                intro z
                rcases z with z | z <;> rw [z] at wv <;> omega
              have hn : ¬ (s = true ∧ (w = 43 ∨ w = 45)) := fun z => n4 z.2
              refine Pc.eq (fun y => absurd y q8) (fun _ => Pc.eq (fun y => absurd y q9) (fun _ => ?_))
              refine Pc.eq (fun qx => ?_) (fun qx => ?_)
              · have e : w = 42 := by
                  rcases wo with z | z | z | z | z
                  · exact absurd z e40
                  · exact z
                  all_goals (rw [z] at wv; omega)
                exact go 4 e40 hn (by rw [e]; unfold rcO; decide)
              · have e : w = 47 := by
                  rcases wo with z | z | z | z | z
                  · exact absurd z e40
                  · rw [z] at wv; omega
                  · exact absurd (Or.inl z) n4
                  · exact absurd (Or.inr z) n4
                  · exact z
                exact go 5 e40 hn (by rw [e]; unfold rcO; decide)
