/-! READING, both: statement by statement to the end -/
/-- what the reference keeps to while it reads (K is what safety gives) -/
def KE (s : Nat) (K : Hp → Prop) : Prop := (∀ h, K h → 0 ≤ (hi h 226 15).toInt) ∧ (∀ m h, 9000 ≤ m → K h → (hi h 226 13).toInt = 0 → Pc (F_X12_tellOne m h) K) ∧ (∀ m h, K h → Pc (F_X12_wrong m h 6 (hi h 226 11)) K) ∧ ∀ m h p, 2000 ≤ m → K h → ((hi h 226 13).toInt = 0 → (hi h 226 15).toInt = 0 → ¬ BR s h) → Pc (rdE m h p) (fun q => hi q.2 226 17 = p ∧ ((hi h 226 13).toInt ≠ 0 → q.1 = hi h 226 13) ∧ ((hi h 226 13).toInt = 0 → (hi h 226 15).toInt ≠ 0 → q.1 = hi h 226 15) ∧ ((hi h 226 13).toInt = 0 → (hi h 226 15).toInt = 0 → q.1.toInt = 0))
/-- both answer alike, and name the same place -/
def rjP (qc qr : Int32 × Hp) : Prop := qc.1 = qr.1 ∧ (qc.1.toInt ≠ 0 → hi qc.2 2 2 = hi qr.2 226 17) ∧ (qc.1.toInt = 0 → hi qr.2 226 17 = -1)
section RE
variable {N : Nat} {kd pl vl nm : Nat → Int} {s : Nat} {hc hr h : Hp} {st : Int × Nat × Int × Int} {n m : Nat} {K : Hp → Prop}
theorem r_fault (E : KE s K) (k : K h) (hm : 2000 ≤ m) (f1 : 0 < (hi h 226 13).toInt) : Pc (rdT m h) (fun q => q.1 = hi h 226 13 ∧ hi q.2 226 17 = hi h 226 14) := by
  have f0 := lit_0
  unfold rdT
  refine Pc.le (fun c => by exfalso; omega) (fun c => ?_)
  exact (E.2.2.2 m h _ hm k (fun z => by exfalso; omega)).mono (fun q hq => ⟨hq.2.1 (by omega), hq.1⟩)
theorem r_worst (E : KE s K) (k : K h) (hm : 2000 ≤ m) (f1 : (hi h 226 13).toInt = 0) (w : (hi h 226 15).toInt ≠ 0) : Pc (rdT m h) (fun q => q.1 = hi h 226 15 ∧ hi q.2 226 17 = hi h 226 16) := by
  have f0 := lit_0
  have w0 := E.1 h k
  unfold rdT
  refine Pc.le (fun c => ?_) (fun c => by exfalso; omega)
  refine Pc.le (fun c => by exfalso; omega) (fun c => ?_)
  exact (E.2.2.2 m h _ hm k (fun _ z => absurd z w)).mono (fun q hq => ⟨hq.2.2.1 f1 w, hq.1⟩)
theorem r_good (E : KE s K) (k : K h) (hm : 2000 ≤ m) (f1 : (hi h 226 13).toInt = 0) (w : (hi h 226 15).toInt = 0) (nb : ¬ BR s h) : Pc (rdT m h) (fun q => q.1.toInt = 0 ∧ hi q.2 226 17 = -1) := by
  have f0 := lit_0
  unfold rdT
  refine Pc.le (fun c => ?_) (fun c => by exfalso; omega)
  refine Pc.le (fun c => ?_) (fun c => by exfalso; omega)
  exact (E.2.2.2 m h _ hm k (fun _ _ => nb)).mono (fun q hq => ⟨hq.2.2.2 f1 w, hq.1⟩)
/-- how it ends: e says that something lies beyond the lawn -/
def enQ (w p t : Int) (e : Prop) (a b : Int) : Prop := (w ≠ 0 → a = w ∧ b = p) ∧ (w = 0 → (e → a = 6 ∧ b = t) ∧ (¬ e → a = 0))
theorem r_end (E : KE s K) (k : K hr) (hm : 2000 ≤ m) (hs : s ≤ 1) (j : JA N kd pl vl nm s hc hr st) (fz : st.1 = 0) : Pc (rdB m hr) (fun q => enQ st.2.2.1 st.2.2.2 (pl st.2.1) (BR s hr) q.1.toInt (hi q.2 226 17).toInt ∧ (q.1.toInt = 0 → hi q.2 226 17 = -1)) := by
  obtain ⟨⟨-, R, -, sd⟩, T, -, S, Z⟩ := j
  obtain ⟨-, ⟨c1, c2, c3, -⟩, -, -⟩ := Z fz
  have f0 := lit_0
  have f6 := lit_6
  obtain ⟨r1, r2⟩ := S
  have r2 := r2 fz
  have r1' := r1
  rw [fz] at r1'
  have x13 : (hi hr 226 13).toInt = 0 := r1'.2.1
  have x11 := r1'.2.2.1 rfl
  unfold rdB
  refine Pc.bind (br_beyond (s := s) ⟨hs, sd, c1.2, c2.2, c3.2⟩) (fun q hq => ?_)
  obtain ⟨q1, q2⟩ := hq
  rw [q1]
  -- the worst, as it was
  have old (g : Hp) (kg : K g) (e13 : (hi g 226 13).toInt = 0) (e15 : (hi g 226 15).toInt = st.2.2.1) (e16 : (hi g 226 16).toInt = st.2.2.2) (w : st.2.2.1 ≠ 0) (b : Prop) : Pc (rdT m g) (fun q => enQ st.2.2.1 st.2.2.2 (pl st.2.1) b q.1.toInt (hi q.2 226 17).toInt ∧ (q.1.toInt = 0 → hi q.2 226 17 = -1)) := by
    refine (r_worst E kg hm e13 (by omega)).mono (fun q hq => ?_)
    rw [hq.1, hq.2]
    exact ⟨⟨fun _ => ⟨e15, e16⟩, fun z => absurd z w⟩, fun z => by exfalso; omega⟩
  refine Pc.eq (fun c => ?_) (fun c => ?_)
  · have nb : ¬ BR s hr := fun z => q2.mpr z (c.trans f0)
    by_cases w : st.2.2.1 = 0
    · refine (r_good E k hm x13 (by omega) nb).mono (fun q hq => ⟨⟨fun z => absurd w z, fun _ => ⟨fun z => absurd z nb, fun _ => hq.1⟩⟩, fun _ => hq.2⟩)
    · exact old hr k x13 r2.1 (r2.2 w).1 w _
  · have yb : BR s hr := q2.mp (by omega)
    refine Pc.bind (fun g eg => And.intro (E.2.2.1 m hr k g eg) (pr_wrong R T r1' x11 g eg)) (fun g hg => ?_)
    obtain ⟨kg, ⟨-, hg1⟩, hg2, hg3⟩ := hg
    have y13 : (hi g 226 13).toInt = 0 := hg1.2.1
    by_cases w : st.2.2.1 = 0
    · have y := hg2 (by omega)
      refine (r_worst E kg hm y13 (by omega)).mono (fun q hq => ?_)
      rw [hq.1, hq.2]
      exact ⟨⟨fun z => absurd w z, fun _ => ⟨fun _ => ⟨by omega, y.2⟩, fun z => absurd yb z⟩⟩, fun z => by exfalso; omega⟩
    · have a := r2.2 w
      have y := hg3 (by omega) (by omega)
      exact old g kg y13 (by rw [y.1]; exact r2.1) (by rw [y.2]; exact a.1) w _
/-- the class's end -/
theorem c_end {x1 : Int32} (j : JA N kd pl vl nm s hc hr st) (fz : st.1 = 0) : Pc ((F_X7_layOut n hc x1).bind (fun q3 => some ((hi (wrI q3 2 2 (hi q3 2 7)) 2 6), (wrI q3 2 2 (hi q3 2 7))))) (fun q => enQ st.2.2.1 st.2.2.2 x1.toInt (BR s hr) q.1.toInt (hi q.2 2 2).toInt) := by
  obtain ⟨-, -, S, -, Z⟩ := j
  obtain ⟨-, c, -, D⟩ := Z fz
  obtain ⟨-, s2⟩ := S
  have s2 := s2 fz
  have f6 := lit_6
  refine Pc.bind (ly_out (fun z => (by_br c (D (by omega))).2)) (fun q hq => Pc.ret ?_)
  obtain ⟨b, l, hb⟩ := hq
  have e6 : hi (wrI q 2 2 (hi q 2 7)) 2 6 = hi q 2 6 := by rw [hi_wrI, if_neg (by decide)]
  have e2 : hi (wrI q 2 2 (hi q 2 7)) 2 2 = hi q 2 7 := by rw [hi_wrI, if_pos ⟨rfl, rfl⟩]
  show enQ st.2.2.1 st.2.2.2 x1.toInt (BR s hr) (hi (wrI q 2 2 (hi q 2 7)) 2 6).toInt (hi (wrI q 2 2 (hi q 2 7)) 2 2).toInt
  rw [e6, e2]
  refine ⟨fun w => ?_, fun w => ?_⟩
  · have y := l.2.1 (Or.inl (by omega))
    rw [y.1, y.2]
    exact ⟨s2.1, s2.2 w⟩
  · have z : (hi hc 2 6).toInt = 0 := by omega
    have br := (by_br c (D w)).1
    have hb := hb z
    refine ⟨fun y => ?_, fun y => ?_⟩
    · have u := l.2.2 z (hb.mpr (br.mpr y))
      rw [u.1, u.2]
      exact ⟨f6, rfl⟩
    · have bf : b = false := by
        cases b with
        | false => rfl
        | true => exact absurd (br.mp (hb.mp rfl)) y
      rw [(l.2.1 (Or.inr bf)).1]
      exact z
theorem en_same {w p t : Int} {e : Prop} {qc qr : Int32 × Hp} (a : enQ w p t e qc.1.toInt (hi qc.2 2 2).toInt) (b : enQ w p t e qr.1.toInt (hi qr.2 226 17).toInt ∧ (qr.1.toInt = 0 → hi qr.2 226 17 = -1)) : rjP qc qr := by
  obtain ⟨⟨b1, b2⟩, b3⟩ := b
  obtain ⟨a1, a2⟩ := a
  by_cases w0 : w = 0
  · by_cases y : e
    · have a := (a2 w0).1 y
      have b := (b2 w0).1 y
      exact ⟨Int32.toInt_inj.mp (by omega), fun _ => Int32.toInt_inj.mp (by omega), fun z => by exfalso; omega⟩
    · have a := (a2 w0).2 y
      have b := (b2 w0).2 y
      exact ⟨Int32.toInt_inj.mp (by omega), fun z => absurd a z, fun _ => b3 b⟩
  · have a := a1 w0
    have b := b1 w0
    exact ⟨Int32.toInt_inj.mp (by omega), fun _ => Int32.toInt_inj.mp (by omega), fun z => by exfalso; omega⟩
/-- the reference's loop: there was a fault -/
theorem r_112f (E : KE s K) (k : K hr) (f1 : 0 < (hi hr 226 13).toInt) {l1 : Int32} (hm : 3000 ≤ m) : Pc (W_X12_read m 112 hr l1) (fun q => q.1 = hi hr 226 13 ∧ hi q.2 226 17 = hi hr 226 14) := by
  obtain ⟨m', rfl⟩ : ∃ m', m = m' + 1 := ⟨m - 1, by omega⟩
  have f0 := lit_0
  rw [u_X12_read]
  refine Pc.neg (by decide) (Pc.pos rfl ?_)
  refine Pc.eq (fun c1 => by exfalso; omega) (fun c1 => ?_)
  refine Pc.eq (fun c1 => by exfalso; omega) (fun c1 => ?_)
  exact r_fault E k (by omega) f1
set_option maxHeartbeats 4000000 in
theorem j_loop (X : TX N kd pl vl) (Y : TN N kd vl nm) (hs : s ≤ 1) (E : KE s K) {x1 : Int32} (hx : x1.toInt = pl N) {l1 : Int32} : ∀ (n : Nat) (hc hr : Hp) (st : Int × Nat × Int × Int) (l2 : Int32), JA N kd pl vl nm s hc hr st → K hr → 0 ≤ l2.toInt → l2.toInt ≤ 401 → (st.1 = 0 → l2.toInt ≤ st.2.1) → Pc (W_X7_readText n 14 hc x1 l2) (fun qc => ∀ m : Nat, (9500 : Int) < m → (st.1 = 0 → (10000 : Int) + (402 - (st.2.1 : Int)) < m) → Pc (W_X12_read m 112 hr l1) (rjP qc)) := by
  intro n
  induction n with
  | zero => intro hc hr st l2 j k a b c; exact Pc.no
  | succ n ih =>
    intro hc hr st l2 j k a b c
    have f0 := lit_0
    have f1 := lit_1
    have f32 := lit_32
    have f400 := lit_400
    have T := j.2.1
    have C := j.1.1
    have R := j.1.2.1
    have S := j.2.2.1.1
    have S2 := j.2.2.2.1.1
    have s1 := S.1
    have T2 := T.2
    rw [u_X7_readText]
    refine Pc.pos rfl ?_
    -- a fault
    have bad (fz : st.1 ≠ 0) : Pc ((F_X9_placeOf n hc (hi hc 2 4)).bind (fun q5 => some ((hi (wrI q5.2 2 2 q5.1) 2 5), (wrI q5.2 2 2 q5.1)))) (fun qc => ∀ m : Nat, (9500 : Int) < m → (st.1 = 0 → (10000 : Int) + (402 - (st.2.1 : Int)) < m) → Pc (W_X12_read m 112 hr l1) (rjP qc)) := by
      refine Pc.bind (pc_placeOf C T S.2) (fun q hq => Pc.ret (fun m hm _ => ?_))
      obtain ⟨q1, q2⟩ := hq
      rw [q1]
      have e5 : hi (wrI hc 2 2 q.1) 2 5 = hi hc 2 5 := by rw [hi_wrI, if_neg (by decide)]
      have e2 : hi (wrI hc 2 2 q.1) 2 2 = q.1 := by rw [hi_wrI, if_pos ⟨rfl, rfl⟩]
      have p0 := S2.1
      have p1 := S2.2.1
      have p3 := S2.2.2.2 fz
      refine (r_112f E k (by omega) (by omega)).mono (fun r hr' => ?_)
      unfold rjP
      show hi (wrI hc 2 2 q.1) 2 5 = r.1 ∧ ((hi (wrI hc 2 2 q.1) 2 5).toInt ≠ 0 → hi (wrI hc 2 2 q.1) 2 2 = hi r.2 226 17) ∧ ((hi (wrI hc 2 2 q.1) 2 5).toInt = 0 → hi r.2 226 17 = -1)
      rw [e5, e2, hr'.1, hr'.2]
      exact ⟨Int32.toInt_inj.mp (by omega), fun _ => Int32.toInt_inj.mp (by omega), fun z => by exfalso; omega⟩
    refine Pc.lt (fun c1 => ?_) (fun c1 => ?_)
    · -- more statements than TOKENS: there is a fault
      have fz : st.1 ≠ 0 := fun z => by have := c z; omega
      exact Pc.eq (fun c2 => by exfalso; omega) (fun _ => bad fz)
    · refine Pc.eq (fun c2 => ?_) (fun c2 => ?_)
      · have fz : st.1 = 0 := by omega
        have kk : Pc (F_X7_kind n hc) (fun q => q.2 = hc ∧ q.1.toInt = kd st.2.1) := by
          unfold F_X7_kind
          exact Pc.bind (pc_kindOf X C T S.2) (fun q hq => Pc.ret hq)
        have p1 := S2.2.1
        have p2 := S2.2.2.1 fz
        refine Pc.bind kk (fun q hq => ?_)
        obtain ⟨q1, q2⟩ := hq
        rw [q1]
        refine Pc.eq (fun c3 => ?_) (fun c3 => ?_)
        · -- END
          refine Pc.eq (fun c4 => ?_) (fun c4 => by exfalso; omega)
          have ek : kd st.2.1 = 32 := by omega
          have et : st.2.1 = N := X.end T ek
          refine (c_end j fz).mono (fun qc hqc m _ hm => ?_)
          have hm := hm fz
          obtain ⟨m', rfl⟩ : ∃ m', m = m' + 1 := ⟨m - 1, by omega⟩
          rw [u_X12_read]
          refine Pc.neg (by decide) (Pc.pos rfl ?_)
          refine Pc.eq (fun c5 => ?_) (fun c5 => by exfalso; omega)
          refine Pc.bind (pr_is X R T S2 32 (by decide) (by decide)) (fun r hr' => ?_)
          rw [hr'.1]
          have y := hr'.2.mpr ⟨fz, ek⟩
          refine Pc.eq (fun c6 => by exfalso; omega) (fun _ => ?_)
          refine Pc.eq (fun c7 => ?_) (fun c7 => by exfalso; omega)
          have re := r_end E k (m := m') (by omega) hs j fz
          rw [et, ← hx] at re
          exact re.mono (fun qr b => en_same hqc b)
        · -- a statement
          have nk : kd st.2.1 ≠ 32 := by omega
          refine Pc.bind kk (fun r hr' => ?_)
          obtain ⟨r1, r2⟩ := hr'
          rw [r1]
          have a1 := adT l2 1 (by omega) (by omega)
          have jt (m : Nat) := j_tell (n := n) (m := m) X Y j hs fz nk (x1 := r.1) r2
          refine Pc.bind (fun qc eqc => (fun m => jt m qc eqc)) (fun qc hqc => ?_)
          intro qe hqe m _ hm
          have hm := hm fz
          obtain ⟨m', rfl⟩ : ∃ m', m = m' + 1 := ⟨m - 1, by omega⟩
          rw [u_X12_read]
          refine Pc.neg (by decide) (Pc.pos rfl ?_)
          refine Pc.eq (fun c5 => ?_) (fun c5 => by exfalso; omega)
          refine Pc.bind (pr_is X R T S2 32 (by decide) (by decide)) (fun w hw => ?_)
          rw [hw.1]
          refine Pc.eq (fun c6 => ?_) (fun c6 => absurd (hw.2.mp (by omega)).2 nk)
          refine Pc.bind (fun g eg => And.intro (hqc m' g eg) (E.2.1 m' hr (by omega) k (by omega) g eg)) (fun g hg => ?_)
          obtain ⟨⟨st', j', pg⟩, kg⟩ := hg
          by_cases z : st'.1 = 0
          · have lt := pg z
            exact ih qc g st' (l2 + 1) j' kg (by omega) (by omega) (fun _ => by have := c fz; omega) qe hqe m' (by omega) (fun _ => by omega)
          · have T' := j'.2.1.2
            exact ih qc g st' (l2 + 1) j' kg (by omega) (by omega) (fun y => absurd y z) qe hqe m' (by omega) (fun y => absurd y z)
      · exact Pc.eq (fun c3 => by exfalso; omega) (fun _ => bad (by omega))
end RE
