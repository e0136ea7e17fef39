/-! A WHOLE TEXT: the reference from its first byte -/
section R55D
variable {s : Nat} {h : Hp} {n : Nat}
theorem pl_51 : ∀ (n : Nat) (h : Hp) (l1 l2 : Int32), hi h 248 s = 0 → hi h 249 s = 0 → Pc (W_X12_plain n 51 h l1 l2) (fun q => hi q 248 s = 0 ∧ hi q 249 s = 0) := by
  intro n
  induction n with
  | zero => intro h l1 l2 a b; exact Pc.no
  | succ n ih =>
    intro h l1 l2 a b
    rw [u_X12_plain]
    refine Pc.pos rfl ?_
    refine Pc.le (fun _ => Pc.ret ⟨a, b⟩) (fun _ => Pc.chk (fun _ => Pc.chk (fun _ => ih _ l1 (l2 + 1) ?_ ?_)))
    · rw [hi_wrI, if_neg (by omega), hi_wrI, if_neg (by omega)]; exact a
    · rw [hi_wrI, if_neg (by omega), hi_wrI, if_neg (by omega)]; exact b
theorem pl_ws {x1 : Int32} (hx : x1.toInt = (s : Int)) : Pc (F_X12_plain n h x1) (fun q => hi q 248 s = 0 ∧ hi q 249 s = 0) := by
  have n1 := ncT (show 0 ≤ x1.toInt by omega)
  have n2 : Int32.toNatClampNeg x1 = s := by omega
  unfold F_X12_plain
  rw [n2]
  refine Pc.chk (fun _ => Pc.chk (fun _ => Pc.chk (fun _ => Pc.chk (fun _ => Pc.chk (fun _ => Pc.chk (fun _ => Pc.chk (fun _ => ?_)))))))
  refine pl_51 n _ x1 0 ?_ ?_
  · rw [hi_wrI, if_neg (by omega), hi_wrI, if_pos ⟨rfl, rfl⟩]
  · rw [hi_wrI, if_pos ⟨rfl, rfl⟩]
end R55D
/-- both hold what the text tells -/
def bothQ (qc qr : Int32 × Hp) : Prop := qc.1.toInt = 0 → qr.1.toInt = 0 → ∃ s, s ≤ 1 ∧ ∃ T, CF T qc.2 ∧ RF s T qr.2
section R55E
variable {hS : Hp}
set_option maxHeartbeats 4000000 in
theorem rd_10b (d : dI hS) (kd : ∀ k, 0 ≤ (hi hS 229 k).toInt) {bs : Nat → Int} {m : Nat} (B : BS bs m) (Y : KY hS) (tm : (hi hS 226 2).toInt = (m : Int)) (hb : ∀ i, i < m → ((vp_nar .byte (hi hS 227 i) : Int32) &&& 255).toInt = bs i) {qc : Int32 × Hp} (Q : rdJ2 bs m qc) {g0 : Hp} (e0 : wrI hS 226 4 (hi hS 226 2) = g0) : ∀ (n : Nat) (h : Hp) (l1 : Int32) (i : Nat), l1.toInt = (i : Int) → i ≤ m → (∀ a k, a ≠ 228 → hi h a k = hi g0 a k) → (∀ a k, hl h a k = hl g0 a k) → (∀ k, k < i → ((vp_nar .byte (hi h 228 k) : Int32) &&& 255).toInt = bs k) → (68719500000 : Int) + (2001 - l1.toInt) < n → Pc (W_X12_read n 10 h l1) (bothQ qc) := by
  intro n
  induction n with
  | zero => intro h l1 i a a' b c z e; exact Pc.no
  | succ n ih =>
    intro h l1 i a a' b c z e
    have f0 := lit_0
    have f1 := lit_1
    have tp := d.2.1
    have e4 : hi h 226 4 = hi hS 226 2 := (b 226 4 (by decide)).trans (hiE e0)
    rw [u_X12_read]
    refine Pc.pos rfl ?_
    rw [e4]
    refine Pc.le (fun c1 => ?_) (fun c1 => ?_)
    · have im : i = m := by omega
      subst im
      generalize eC : wrI h 226 2 0 = gC
      have rC (x k : Nat) (n0 : x ≠ 228) (n1 : ¬ (x = 226 ∧ (k = 2 ∨ k = 4))) : hi gC x k = hi hS x k := by
        rw [← eC, hi_wrI, if_neg (by omega), b x k n0, ← e0, hi_wrI, if_neg (by omega)]
      have lC (x k : Nat) : hl gC x k = hl hS x k := by
        rw [← eC, hl_wrI, c x k, ← e0, hl_wrI]
      have z4 : hi gC 226 4 = hi hS 226 2 := (hiK eC 226 4 (by decide)).trans e4
      have z2 : (hi gC 226 2).toInt = 0 := by rw [hiE eC]; exact f0
      have sr : SR bs i gC := ⟨by rw [z4]; exact tm, fun k hk => by rw [hiA eC 228 k (by decide)]; exact z k hk⟩
      have ky : KY gC := fun k hk => by rw [lC 233 k]; exact Y k hk
      refine Pc.bind (fun q2 eq2 => And.intro ((sf_X12_cut (h0 := gC) (by rw [z4]; exact tp) n gC (by omega) ⟨fun _ _ _ _ _ _ => rfl, fun _ _ _ => rfl, fun k => by rw [rC 229 k (by decide) (by omega)]; exact kd k⟩).pc q2 eq2) (pr_cut B sr ky q2 eq2)) (fun q2 hq2 => ?_)
      obtain ⟨⟨jc, -⟩, ct⟩ := hq2
      have e18 : hi (wrI (wrI (wrI (wrI q2 226 11 0) 226 12 0) 226 13 0) 226 15 0) 226 18 = hi hS 226 18 := by
        rw [hi_wrI, if_neg (by decide), hi_wrI, if_neg (by decide), hi_wrI, if_neg (by decide), hi_wrI, if_neg (by decide), jc.1 226 18 (by decide) (by decide) (by decide) (by decide)]
        exact rC 226 18 (by decide) (by decide)
      rw [e18]
      have l01 := d.1.1
      generalize ev : (1 - hi hS 226 18 : Int32) = v
      have fv := sbG ev lit_1 rfl (by omega) (by omega)
      obtain ⟨s, hs⟩ : ∃ s : Nat, v.toInt = (s : Int) := ⟨v.toInt.toNat, by omega⟩
      have hs1 : s ≤ 1 := by omega
      generalize e6 : wrI (wrI (wrI (wrI (wrI (wrI q2 226 11 0) 226 12 0) 226 13 0) 226 15 0) 226 19 v) 226 20 0 = g6
      have w19 : hi g6 226 19 = v := by rw [← e6]; exact (rd_w6 q2 v).2.2.2.2.1
      rw [w19]
      refine Pc.bind (fun q4 eq4 => And.intro ((sf_X12_plain (s := s) (by omega) hs1 hs).pc q4 eq4) (pl_ws hs q4 eq4)) (fun q4 plw => ?_)
      obtain ⟨pl, ws⟩ := plw
      have x19 : hi q4 226 19 = v := (pl.1.1.1 226 19 (by unfold plW; omega)).trans w19
      rw [x19]
      have y19 : hi (wrI q4 226 39 (130 * v)) 226 19 = v := (hiK rfl 226 19 (by decide)).trans x19
      rw [y19]
      have m1 := mlT 130 v 130 lit_130 (by omega) (by omega)
      have m2 := mlT 420 v 420 lit_420 (by omega) (by omega)
      generalize eH : wrI (wrI q4 226 39 (130 * v)) 226 45 (420 * v) = hC
      obtain ⟨jr, rc⟩ := rd_begin hs1 rC lC z2 jc hs e6 pl (by omega) (by omega) eH
      have rC' (a k : Nat) (n : ¬ (a = 226 ∧ (k = 39 ∨ k = 45))) : hi hC a k = hi q4 a k := by
        rw [← eH, hi_wrI, if_neg (by omega), hi_wrI, if_neg (by omega)]
      have r2 : rB2 s q2 hC := by
        refine ⟨rd_rB hs e6 pl eH, ⟨?_, ?_⟩, fun k hk => ?_, ?_, ?_⟩
        · rw [rC' 248 s (by omega), ws.1]; exact f0
        · rw [rC' 249 s (by omega), ws.2]; exact f0
        · rw [rC' 250 _ (by omega), rC' 251 _ (by omega)]
          exact pl.2 k (by omega)
        · rw [← eH, hi_wrI, if_neg (by decide), hi_wrI, if_pos ⟨rfl, rfl⟩]
          omega
        · rw [hiE eH]
          omega
      exact (Q s hS hC gC q2 hC l1 hs1 ct r2 rc jr n (by omega)).mono (fun r hr y1 y2 => ⟨s, hs1, hr y1 y2⟩)
    · refine Pc.chk (fun _ => Pc.chk (fun _ => ?_))
      have n1 := ncT (show 0 ≤ l1.toInt by omega)
      have n2 : Int32.toNatClampNeg l1 = i := by omega
      have B2 := B.1
      have a1 := adT l1 1 (by omega) (by omega)
      rw [n2]
      refine ih _ (l1 + 1) (i + 1) (by omega) (by omega) (fun x k q => ?_) (fun x k => c x k) (fun k hk => ?_) (by omega)
      · rw [hi_wrI, if_neg (fun w => q w.1)]
        exact b x k q
      · rw [hi_wrI]
        by_cases y : k = i
        · rw [if_pos ⟨rfl, y⟩, y, narB, narB, i8i8, ← narB, b 227 i (by decide), ← e0, hi_wrI, if_neg (by omega)]
          exact hb i (by omega)
        · rw [if_neg (fun w => y w.2)]
          exact z k (by omega)
theorem sj_X12_read2 {n : Nat} (hn : 68719600000 ≤ n) (d : dI hS) (kd : ∀ k, 0 ≤ (hi hS 229 k).toInt) {bs : Nat → Int} {m : Nat} (B : BS bs m) (Y : KY hS) (tm : (hi hS 226 2).toInt = (m : Int)) (hb : ∀ i, i < m → ((vp_nar .byte (hi hS 227 i) : Int32) &&& 255).toInt = bs i) {qc : Int32 × Hp} (Q : rdJ2 bs m qc) : Pc (F_X12_read n hS) (bothQ qc) := by
  have f0 := lit_0
  unfold F_X12_read
  exact rd_10b d kd B Y tm hb Q rfl n _ 0 0 f0 (Nat.zero_le m) (fun _ _ _ => rfl) (fun _ _ => rfl) (fun k hk => absurd hk (Nat.not_lt_zero k)) (by omega)
end R55E
