/-! GOER of both: the reference, and both -/
def tgT (n : Nat) (h : Hp) (l1 l2 : Int32) : Option Hp := ((F_X12_bounded n h 0 4).bind (fun q2 => (if ixOK l1 10 = true then ((F_X12_bounded n (wrI q2.2 243 (Int32.toNatClampNeg l1) q2.1) 0 4).bind (fun q5 => (if ixOK l1 10 = true then ((F_X12_must n (wrI q5.2 244 (Int32.toNatClampNeg l1) q5.1) 4).bind (fun q8 => (if ((hi q8 226 13) : Int32) ≤ 0 then (if ixOK l2 403 = true then (if ixOK (hi q8 226 20) 5 = true then (if ixOK (hi (wrI (wrL q8 234 (Int32.toNatClampNeg (hi q8 226 20)) (hl q8 232 (Int32.toNatClampNeg l2))) 226 20 ((hi (wrL q8 234 (Int32.toNatClampNeg (hi q8 226 20)) (hl q8 232 (Int32.toNatClampNeg l2))) 226 20) + 1)) 226 19) 2 = true then (if ixOK (hi (wrI (wrL q8 234 (Int32.toNatClampNeg (hi q8 226 20)) (hl q8 232 (Int32.toNatClampNeg l2))) 226 20 ((hi (wrL q8 234 (Int32.toNatClampNeg (hi q8 226 20)) (hl q8 232 (Int32.toNatClampNeg l2))) 226 20) + 1)) 226 19) 2 = true then some (wrI (wrI (wrL q8 234 (Int32.toNatClampNeg (hi q8 226 20)) (hl q8 232 (Int32.toNatClampNeg l2))) 226 20 ((hi (wrL q8 234 (Int32.toNatClampNeg (hi q8 226 20)) (hl q8 232 (Int32.toNatClampNeg l2))) 226 20) + 1)) 242 (Int32.toNatClampNeg (hi (wrI (wrL q8 234 (Int32.toNatClampNeg (hi q8 226 20)) (hl q8 232 (Int32.toNatClampNeg l2))) 226 20 ((hi (wrL q8 234 (Int32.toNatClampNeg (hi q8 226 20)) (hl q8 232 (Int32.toNatClampNeg l2))) 226 20) + 1)) 226 19)) ((hi (wrI (wrL q8 234 (Int32.toNatClampNeg (hi q8 226 20)) (hl q8 232 (Int32.toNatClampNeg l2))) 226 20 ((hi (wrL q8 234 (Int32.toNatClampNeg (hi q8 226 20)) (hl q8 232 (Int32.toNatClampNeg l2))) 226 20) + 1)) 242 (Int32.toNatClampNeg (hi (wrI (wrL q8 234 (Int32.toNatClampNeg (hi q8 226 20)) (hl q8 232 (Int32.toNatClampNeg l2))) 226 20 ((hi (wrL q8 234 (Int32.toNatClampNeg (hi q8 226 20)) (hl q8 232 (Int32.toNatClampNeg l2))) 226 20) + 1)) 226 19))) + 1)) else none) else none) else none) else none) else some q8))) else none))) else none)))
section GR
variable {N : Nat} {kd pl vl nm : Nat → Int} {s : Nat} {hc hr h : Hp} {st : Int × Nat × Int × Int} {n : Nat}
theorem pr_wrongK (R : RT N kd pl vl h) {t0 : Nat} (T0 : tI2 N t0) {x1 x2 : Int32} (hx : x2.toInt = (t0 : Int)) (w : (hi h 226 15).toInt ≠ 0) (le : (hi h 226 16).toInt < pl t0 ∨ ((hi h 226 16).toInt = pl t0 ∧ (hi h 226 15).toInt ≤ x1.toInt)) : Pc (F_X12_wrong n h x1 x2) (fun q => q = h) := by
  have f0 := lit_0
  unfold F_X12_wrong
  have n1 := ncT (show 0 ≤ x2.toInt by omega)
  have n2 : Int32.toNatClampNeg x2 = t0 := by omega
  rw [n2]
  have rp := (R t0 T0).2.1
  refine Pc.chk (fun _ => ?_)
  refine Pc.lt (fun _ => Pc.ret rfl) (fun _ => ?_)
  refine Pc.eq (fun c => by exfalso; omega) (fun c => ?_)
  refine Pc.lt (fun _ => Pc.ret rfl) (fun c2 => ?_)
  exact Pc.eq (fun c3 => Pc.lt (fun c4 => by exfalso; omega) (fun _ => Pc.ret rfl)) (fun c3 => by exfalso; omega)
/-- the end of a goer: K where it is kept, t0 where its name stands -/
def tgP (kd pl vl : Nat → Int) (s K t0 : Nat) (s3 : Int × Nat × Int × Int) (h q : Hp) : Prop := fT h q ∧ (∀ a k : Nat, (((235 ≤ a ∧ a ≤ 241) ∨ (245 ≤ a ∧ a ≤ 247)) ∨ ((a = 243 ∨ a = 244) ∧ k ≠ K) ∨ (a = 226 ∧ k = 12)) → hi q a k = hi h a k) ∧ (∀ k : Nat, (k : Int) ≠ (hi h 226 20).toInt → hl q 234 k = hl h 234 k) ∧ rQ pl q (tkQ kd 59 (nbQ kd pl vl 0 4 (nbQ kd pl vl 0 4 s3))) ∧ ((tkQ kd 59 (nbQ kd pl vl 0 4 (nbQ kd pl vl 0 4 s3))).1 = 0 → hi q 242 s = hi h 242 s + 1 ∧ hi q 226 20 = hi h 226 20 + 1 ∧ (∀ k : Nat, (k : Int) = (hi h 226 20).toInt → hl q 234 k = hl h 232 t0) ∧ (hi q 243 K).toInt = vl s3.2.1 ∧ (hi q 244 K).toInt = vl (s3.2.1 + 1))
set_option maxHeartbeats 4000000 in
theorem rq_tail (X : TX N kd pl vl) (hs : s ≤ 1) (R : RT N kd pl vl h) {s3 : Int × Nat × Int × Int} (T : tI2 N s3.2.1) (S : rQ pl h s3) (sd : (hi h 226 19).toInt = (s : Int)) {l1 l2 : Int32} {K t0 : Nat} (hK : l1.toInt = (K : Int)) (ht : l2.toInt = (t0 : Int)) (g0 : 0 ≤ (hi h 226 20).toInt) (g5 : (hi h 226 20).toInt < 5) : Pc (tgT n h l1 l2) (tgP kd pl vl s K t0 s3 h) := by
  have f0 := lit_0
  have f1 := lit_1
  have f4 := lit_4
  have nK := ncT (show 0 ≤ l1.toInt by omega)
  have eK : Int32.toNatClampNeg l1 = K := by omega
  have nt := ncT (show 0 ≤ l2.toInt by omega)
  have et : Int32.toNatClampNeg l2 = t0 := by omega
  have ns := ncT (show 0 ≤ (hi h 226 19).toInt by omega)
  have es : Int32.toNatClampNeg (hi h 226 19) = s := by omega
  have ng := ncT g0
  unfold tgT
  rw [eK, et]
  refine Pc.bind (rq_number X R T S) (fun q2 h2 => ?_)
  rw [f0, f4] at h2
  have T2 := nb_in X T (lo := 0) (up := 4)
  refine Pc.chk (fun _ => ?_)
  generalize eg : wrI q2.2 243 K q2.1 = g
  have ft1 : fT h g := by rw [← eg]; exact h2.1.t.tr (fT.w (by decide))
  have rg : rQ pl g (nbQ kd pl vl 0 4 s3) := by rw [← eg]; exact h2.2.1.w (by decide)
  refine Pc.bind (rq_number X (R.cg ft1.1) T2 rg) (fun q5 h5 => ?_)
  rw [f0, f4] at h5
  have T3 := nb_in X T2 (lo := 0) (up := 4)
  refine Pc.chk (fun _ => ?_)
  generalize ev : wrI q5.2 244 K q5.1 = v
  have ft2 : fT h v := by rw [← ev]; exact (ft1.tr h5.1.t).tr (fT.w (by decide))
  have rv : rQ pl v (nbQ kd pl vl 0 4 (nbQ kd pl vl 0 4 s3)) := by rw [← ev]; exact h5.2.1.w (by decide)
  refine Pc.bind (rq_must X (R.cg ft2.1) T3 rv 59 (by decide) (by decide) (by decide)) (fun q8 h8 => ?_)
  have ft3 := ft2.tr h8.1.t
  have r8 (a z : Nat) (n1 : ¬ ((a = 243 ∨ a = 244) ∧ z = K)) (n2 : ¬ (a = 226 ∧ (z = 11 ∨ z = 13 ∨ z = 14 ∨ z = 15 ∨ z = 16))) : hi q8 a z = hi h a z := by
    rw [h8.1.1 a z (by omega), ← ev, hi_wrI, if_neg (by omega), h5.1.1 a z n2, ← eg, hi_wrI, if_neg (by omega), h2.1.1 a z n2]
  have l8 (a z : Nat) : hl q8 a z = hl h a z := by
    rw [h8.1.2, ← ev, hl_wrI, h5.1.2, ← eg, hl_wrI, h2.1.2]
  have e43 : hi q8 243 K = q2.1 := by rw [h8.1.1 243 K (by omega), ← ev, hi_wrI, if_neg (by omega), h5.1.1 243 K (by omega)]; exact hiE eg
  have e44 : hi q8 244 K = q5.1 := by rw [h8.1.1 244 K (by omega)]; exact hiE ev
  have s8 := h8.2.1.2.1
  have s0 := h8.2.1.1
  refine Pc.le (fun c => ?_) (fun c => Pc.ret ⟨ft3, fun a z n1 => r8 a z (by omega) (by omega), fun z _ => l8 234 z, h8.2, fun z => ?_⟩)
  · have e20 : hi q8 226 20 = hi h 226 20 := r8 226 20 (by omega) (by omega)
    have e19 : hi q8 226 19 = hi h 226 19 := r8 226 19 (by omega) (by omega)
    rw [e20, l8]
    generalize ew : wrL q8 234 (Int32.toNatClampNeg (hi h 226 20)) (hl h 232 t0) = w
    have hw (a z : Nat) : hi w a z = hi q8 a z := by rw [← ew]; rfl
    rw [hw, e20]
    generalize ex : wrI w 226 20 (hi h 226 20 + 1) = x
    have x19 : hi x 226 19 = hi h 226 19 := by rw [← ex, hi_wrI, if_neg (by decide), hw, e19]
    have x42 : hi x 242 s = hi h 242 s := by rw [← ex, hi_wrI, if_neg (by omega), hw]; exact r8 242 s (by omega) (by omega)
    rw [x19, es, x42]
    have lw (a z : Nat) : hl w a z = if a = 234 ∧ z = Int32.toNatClampNeg (hi h 226 20) then hl h 232 t0 else hl h a z := by rw [← ew, hl_wrL, l8]
    refine Pc.chk (fun _ => Pc.chk (fun _ => Pc.chk (fun _ => Pc.chk (fun _ => Pc.ret ?_))))
    have hx (a z : Nat) (n0 : ¬ (a = 226 ∧ z = 20)) : hi x a z = hi q8 a z := by rw [← ex, hi_wrI, if_neg n0, hw]
    have lx (a z : Nat) : hl x a z = hl w a z := by rw [← ex, hl_wrI]
    refine ⟨⟨⟨fun z => ?_, fun z => ?_, fun z => ?_⟩, fun z => ?_, ?_⟩, fun a z n1 => ?_, fun z nz => ?_, ?_, fun z => ⟨?_, ?_, fun k hk => ?_, ?_, ?_⟩⟩
    · rw [hi_wrI, if_neg (by omega), hx 229 z (by omega)]; exact ft3.1.1 z
    · rw [hi_wrI, if_neg (by omega), hx 230 z (by omega)]; exact ft3.1.2.1 z
    · rw [hi_wrI, if_neg (by omega), hx 231 z (by omega)]; exact ft3.1.2.2 z
    · rw [hl_wrI, lx, lw, if_neg (by omega)]
    · rw [hi_wrI, if_neg (by omega), x19]
    · rw [hi_wrI, if_neg (by omega), hx a z (by omega)]; exact r8 a z (by omega) (by omega)
    · rw [hl_wrI, lx, lw, if_neg (by omega)]
    · have q := h8.2
      unfold rQ rT at q ⊢
      rw [hi_wrI, if_neg (by omega), hi_wrI, if_neg (by omega), hi_wrI, if_neg (by omega), hi_wrI, if_neg (by omega), hi_wrI, if_neg (by omega), hx 226 13 (by decide), hx 226 11 (by decide), hx 226 14 (by decide), hx 226 15 (by decide), hx 226 16 (by decide)]
      exact q
    · rw [hi_wrI, if_pos ⟨rfl, rfl⟩]
    · rw [hi_wrI, if_neg (by omega)]; exact hiE ex
    · rw [hl_wrI, lx, lw, if_pos ⟨rfl, by omega⟩]
    · have z1 := (tq_0 z).1
      rw [hi_wrI, if_neg (by omega), hx 243 K (by omega), e43, h2.2.2 (nq_0 z1).1]
    · have z1 := (tq_0 z).1
      have e2 := (nq_0 (nq_0 z1).1).2.2
      rw [hi_wrI, if_neg (by omega), hx 244 K (by omega), e44, h5.2.2 z1, e2]
  · exfalso
    have z' : (hi q8 226 13).toInt = (tkQ kd 59 (nbQ kd pl vl 0 4 (nbQ kd pl vl 0 4 s3))).1 := s8
    omega
def frX (h h' : Hp) : Prop := (∀ a k, ¬ (a = 226 ∧ (k = 15 ∨ k = 16)) → hi h' a k = hi h a k) ∧ ∀ a k, hl h' a k = hl h a k
theorem pr_wrongX (R : RT N kd pl vl h) {t0 : Nat} (T0 : tI2 N t0) {x1 x2 : Int32} (hx : x2.toInt = (t0 : Int)) (fz : (hi h 226 13).toInt = 0) (w : (hi h 226 15).toInt = 0) : Pc (F_X12_wrong n h x1 x2) (fun q => frX h q ∧ hi q 226 15 = x1 ∧ (hi q 226 16).toInt = pl t0) := by
  have f0 := lit_0
  unfold F_X12_wrong
  have n1 := ncT (show 0 ≤ x2.toInt by omega)
  have n2 : Int32.toNatClampNeg x2 = t0 := by omega
  rw [n2]
  have rp := (R t0 T0).2.1
  refine Pc.chk (fun _ => ?_)
  refine Pc.lt (fun c => by exfalso; omega) (fun _ => ?_)
  refine Pc.eq (fun c => Pc.ret ⟨⟨fun a k n => by rw [hi_wrI, if_neg (by omega), hi_wrI, if_neg (by omega)], fun a k => rfl⟩, ?_, ?_⟩) (fun c => by exfalso; omega)
  · rw [hi_wrI, if_neg (by decide), hi_wrI, if_pos ⟨rfl, rfl⟩]
  · rw [hi_wrI, if_pos ⟨rfl, rfl⟩]; exact rp
def grL (kd pl vl : Nat → Int) (s K t0 g : Nat) (s2 : Int × Nat × Int × Int) (h q : Hp) : Prop := ∃ b : Bool, (s2.1 = 0 → (b = true ↔ ∃ o, o < g ∧ (hl h 234 o).toInt = (hl h 232 t0).toInt)) ∧ tgP kd pl vl s K t0 (twQ b (pl t0) s2) h q
theorem tgP.cg {K t0 : Nat} {s3 : Int × Nat × Int × Int} {h0 q : Hp} (f : frX h0 h) (a : tgP kd pl vl s K t0 s3 h q) : tgP kd pl vl s K t0 s3 h0 q := by
  obtain ⟨a1, a2, a3, a4, a5⟩ := a
  have ft : fT h0 h := ⟨⟨fun k => f.1 229 k (by omega), fun k => f.1 230 k (by omega), fun k => f.1 231 k (by omega)⟩, fun k => f.2 232 k, f.1 226 19 (by decide)⟩
  have e20 := f.1 226 20 (by decide)
  refine ⟨ft.tr a1, fun x k n => (a2 x k n).trans (f.1 x k (by omega)), fun k n => ?_, a4, fun z => ?_⟩
  · rw [a3 k (by rw [e20]; exact n), f.2]
  · obtain ⟨b1, b2, b3, b4, b5⟩ := a5 z
    rw [f.1 242 s (by omega)] at b1
    rw [e20] at b2 b3
    exact ⟨b1, b2, fun k hk => by rw [b3 k hk, f.2], b4, b5⟩
set_option maxHeartbeats 4000000 in
theorem rq_goerL (X : TX N kd pl vl) (hs : s ≤ 1) {h0 : Hp} (R0 : RT N kd pl vl h0) {l1 l2 : Int32} {K t0 g : Nat} (hK : l1.toInt = (K : Int)) (ht : l2.toInt = (t0 : Int)) {s2 : Int × Nat × Int × Int} (T : tI2 N s2.2.1) (T0 : tI2 N t0) (sd : (hi h0 226 19).toInt = (s : Int)) (hg : (hi h0 226 20).toInt = (g : Int)) (g5 : g < 5) (p0 : s2.1 = 0 → pl t0 < pl s2.2.1) (wl : s2.1 = 0 → s2.2.2.1 ≠ 0 → s2.2.2.2 < pl t0) : ∀ (n : Nat) (h : Hp) (l3 : Int32) (i : Nat) (b : Bool), frX h0 h → rQ pl h (twQ b (pl t0) s2) → l3.toInt = (i : Int) → i ≤ g → (s2.1 = 0 → (b = true ↔ ∃ o, o < i ∧ (hl h0 234 o).toInt = (hl h0 232 t0).toInt)) → (s2.1 ≠ 0 → b = false) → Pc (W_X12_tellGoer n 29 h l1 l2 l3) (grL kd pl vl s K t0 g s2 h0) := by
  have f0 := lit_0
  have f1 := lit_1
  have f3 := lit_3
  intro n
  induction n with
  | zero => intro h l3 i b fr S a c d d'; exact Pc.no
  | succ n ih =>
    intro h l3 i b fr S a c d d'
    have R : RT N kd pl vl h := R0.cg ⟨fun k => fr.1 229 k (by omega), fun k => fr.1 230 k (by omega), fun k => fr.1 231 k (by omega)⟩
    have e20 := fr.1 226 20 (by decide)
    have e19 := fr.1 226 19 (by decide)
    have T' : tI2 N (twQ b (pl t0) s2).2.1 := T
    have tl (ok : s2.1 = 0 → (b = true ↔ ∃ o, o < g ∧ (hl h0 234 o).toInt = (hl h0 232 t0).toInt)) : Pc (tgT n h l1 l2) (grL kd pl vl s K t0 g s2 h0) := by
      refine (rq_tail X hs R T' S (by rw [e19]; exact sd) hK ht (by rw [e20]; omega) (by rw [e20]; omega)).mono (fun q hq => ⟨b, ok, hq.cg fr⟩)
    rw [u_X12_tellGoer]
    refine Pc.pos rfl ?_
    rw [e20]
    refine Pc.le (fun c1 => ?_) (fun c1 => ?_)
    · have ig : i = g := by omega
      subst ig
      exact tl d
    · have s1 := S.1.2.1
      have s1' : (hi h 226 13).toInt = s2.1 := s1
      refine Pc.eq (fun c2 => ?_) (fun c2 => ?_)
      · have fz : s2.1 = 0 := by omega
        have ni := ncT (show 0 ≤ l3.toInt by omega)
        have ei : Int32.toNatClampNeg l3 = i := by omega
        have nt := ncT (show 0 ≤ l2.toInt by omega)
        have et : Int32.toNatClampNeg l2 = t0 := by omega
        have a1 := adT l3 1 (by omega) (by omega)
        rw [ei, et]
        refine Pc.chk (fun _ => Pc.chk (fun _ => ?_))
        have lz := lgz (hl h 234 i) (hl h 232 t0)
        rw [fr.2 234 i, fr.2 232 t0] at lz ⊢
        refine Pc.eq (fun c3 => ?_) (fun c3 => ?_)
        · have eq := lz.mp (c3.trans f0)
          have nx : (s2.1 = 0 → (true = true ↔ ∃ o, o < i + 1 ∧ (hl h0 234 o).toInt = (hl h0 232 t0).toInt)) := fun _ => ⟨fun _ => ⟨i, by omega, eq⟩, fun _ => rfl⟩
          have sw := S.2 fz
          by_cases w : s2.2.2.1 = 0
          · have e1 : (twQ true (pl t0) s2).2.2 = (3, pl t0) := if_pos ⟨rfl, fz, w⟩
            by_cases bb : b = true
            · have e2 : (twQ b (pl t0) s2).2.2 = (3, pl t0) := if_pos ⟨bb, fz, w⟩
              rw [e2] at sw
              have w3 : (hi h 226 15).toInt = 3 := sw.1
              have p3 := (sw.2 (show (3 : Int) ≠ 0 by decide)).1
              have p3' : (hi h 226 16).toInt = pl t0 := p3
              refine Pc.bind (pr_wrongK R T0 ht (by omega) (Or.inr ⟨p3', by omega⟩)) (fun q hq => ?_)
              rw [hq]
              refine ih h (l3 + 1) (i + 1) true fr ?_ (by omega) (by omega) nx (fun z => absurd fz z)
              rw [bb] at S
              exact S
            · have e2 : (twQ b (pl t0) s2).2.2 = s2.2.2 := if_neg (fun u => bb u.1)
              rw [e2] at sw
              have S1 : rT pl h s2.1 s2.2.1 := S.1
              rw [fz] at S1
              refine Pc.bind (pr_wrongX R T0 ht (by omega) (by rw [sw.1]; exact w)) (fun q hq => ?_)
              obtain ⟨x1, x2, x3⟩ := hq
              refine ih q (l3 + 1) (i + 1) true ⟨fun x k n => (x1.1 x k n).trans (fr.1 x k n), fun x k => (x1.2 x k).trans (fr.2 x k)⟩ ⟨?_, fun _ => ?_⟩ (by omega) (by omega) nx (fun z => absurd fz z)
              · have S1' : rT pl h s2.1 s2.2.1 := S.1
                show rT pl q s2.1 s2.2.1
                unfold rT at S1' ⊢
                rw [x1.1 226 13 (by decide), x1.1 226 11 (by decide), x1.1 226 14 (by decide)]
                exact S1'
              · rw [e1, x2]
                exact ⟨f3, fun _ => ⟨x3, p0 fz⟩⟩
          · have e2 : (twQ b (pl t0) s2).2.2 = s2.2.2 := if_neg (fun u => w u.2.2)
            have e1 : (twQ true (pl t0) s2).2.2 = s2.2.2 := if_neg (fun u => w u.2.2)
            have sw' := sw
            rw [e2] at sw'
            have p3 := (sw'.2 w).1
            refine Pc.bind (pr_wrongK R T0 ht (by rw [sw'.1]; exact w) (Or.inl (by rw [p3]; exact wl fz w))) (fun q hq => ?_)
            rw [hq]
            refine ih h (l3 + 1) (i + 1) true fr ⟨S.1, fun z => ?_⟩ (by omega) (by omega) nx (fun z => absurd fz z)
            rw [e1]
            exact sw'
        · refine ih h (l3 + 1) (i + 1) b fr S (by omega) (by omega) (fun z => ?_) d'
          rw [d z]
          constructor
          · intro ⟨o, o1, o2⟩
            exact ⟨o, by omega, o2⟩
          · intro ⟨o, o1, o2⟩
            by_cases q : o = i
            · subst q
              exact absurd ((lz.mpr o2).trans f0.symm) c3
            · exact ⟨o, by omega, o2⟩
      · exact tl (fun z => by exfalso; omega)
end GR
