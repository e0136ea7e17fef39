/-! READING: the whole of it -/
def rdE (n : Nat) (x : Hp) (p : Int32) : Option (Int32 × Hp) := (if ((hi (wrI x 226 17 p) 226 13) : Int32) ≤ (0 : Int32) then (if ((hi (wrI x 226 17 p) 226 15) : Int32) ≤ (0 : Int32) then ((F_X12_begins n (wrI (wrI x 226 17 p) 226 18 (hi (wrI x 226 17 p) 226 19))).bind (fun q106 => ((F_X12_keepsRow n q106).bind (fun q108 => W_X12_read n 243 (wrI (wrI q108 226 59 0) 226 65 0) 0)))) else some ((hi (wrI x 226 17 p) 226 15), (wrI x 226 17 p))) else some ((hi (wrI x 226 17 p) 226 13), (wrI x 226 17 p)))
def rdT (n : Nat) (x : Hp) : Option (Int32 × Hp) := (if ((hi x 226 13) : Int32) ≤ (0 : Int32) then (if ((hi x 226 15) : Int32) ≤ (0 : Int32) then rdE n x (-1) else rdE n x (hi x 226 16)) else rdE n x (hi x 226 14))
def rdB (n : Nat) (x : Hp) : Option (Int32 × Hp) := ((F_X12_isBeyond n x).bind (fun q99 => (if (q99.1 : Int32) = (0 : Int32) then rdT n q99.2 else ((F_X12_wrong n q99.2 6 (hi q99.2 226 11)).bind (fun q122 => rdT n q122)))))
section RR
variable {s : Nat} {hS hC x : Hp}
theorem rd_E (hs : s ≤ 1) (d : dI hS) (hv : (hi hS 226 18).toInt = 1 - s) (c : rdC s hS hC) (j : jR s hC x) {n : Nat} (hn : 2000 ≤ n) (bz : (hi x 226 13).toInt = 0 → (hi x 226 15).toInt = 0 → offT s x (hi x 237 s).toInt ∧ offG s x (hi x 242 s).toInt) (p : Int32) : Ok (rdE n x p) (rdP hS) := by
  have f0 := lit_0
  have t2 := j.1.2.2.1.2
  have e13 : hi (wrI x 226 17 p) 226 13 = hi x 226 13 := hiK rfl 226 13 (by decide)
  have e15 : hi (wrI x 226 17 p) 226 15 = hi x 226 15 := hiK rfl 226 15 (by decide)
  have e19 : hi (wrI x 226 17 p) 226 19 = hi x 226 19 := hiK rfl 226 19 (by decide)
  unfold rdE
  rw [e13, e15, e19]
  refine Ok.le (fun c1 => ?_) (fun c1 => Ok.ret (rd_bad d hv c j))
  refine Ok.le (fun c2 => ?_) (fun c2 => Ok.ret (rd_bad d hv c j))
  have fz : (hi x 226 13).toInt = 0 := by omega
  have wz : (hi x 226 15).toInt = 0 := by omega
  obtain ⟨ot, og⟩ := bz fz wz
  obtain ⟨v1, v2, -⟩ := (j.2 fz).2.2.2.2.1 wz
  generalize eg1 : wrI x 226 17 p = g1
  generalize eg2 : wrI g1 226 18 (hi x 226 19) = g2
  have r2 (a k : Nat) (n1 : ¬ (a = 226 ∧ (k = 17 ∨ k = 18))) : hi g2 a k = hi x a k := by
    rw [← eg2, hi_wrI, if_neg (by omega), ← eg1, hi_wrI, if_neg (by omega)]
  have H : bgH s (hi x 235 s).toInt.toNat (hi x 236 s).toInt.toNat g2 := rd_bgH hs j fz wz ot og (fun a k n1 => r2 a k (by omega)) (hiE eg2)
  refine Ok.bind (sf_X12_begins (by omega) H) (fun q106 hq106 => ?_)
  obtain ⟨h1, v, hb, hp⟩ := hq106
  refine Ok.bind (sf_X12_keepsRow (by omega)) (fun q108 cp => ?_)
  have r6 (a k : Nat) (n1 : a ≠ 263) (n2 : a ≠ 264) (n3 : ¬ (a = 226 ∧ (k = 55 ∨ k = 56))) : hi q106 a k = hi g2 a k := by
    rw [hp.1.1 a k n2, hi_wrI, if_neg (by omega), hi_wrI, if_neg (by omega)]
    exact hb.1.1 a k n1
  have l6 (a k : Nat) : hl q106 a k = hl x a k := by
    rw [hp.1.2 a k]
    show hl h1 a k = _
    rw [hb.1.2 a k, ← eg2]
    show hl g1 a k = _
    rw [← eg1]
    rfl
  have r8 (a k : Nat) (n0 : a ≠ 262) (n1 : a ≠ 263) (n2 : a ≠ 264) (n3 : ¬ (a = 226 ∧ (k = 55 ∨ k = 56))) : hi q108 a k = hi g2 a k := by
    rw [cp.1.1 a k n0]
    exact r6 a k n1 n2 n3
  have e63 (k : Nat) : hi q106 263 k = hi h1 263 k := by
    rw [hp.1.1 263 k (by decide), hi_wrI, if_neg (by omega), hi_wrI, if_neg (by omega)]
  generalize eg3 : wrI (wrI q108 226 59 0) 226 65 0 = g3
  have r9 (a k : Nat) (n1 : ¬ (a = 226 ∧ (k = 59 ∨ k = 65))) : hi g3 a k = hi q108 a k := by
    rw [← eg3, hi_wrI, if_neg (by omega), hi_wrI, if_neg (by omega)]
  have e59 : hi g3 226 59 = 0 := by
    rw [← eg3, hi_wrI, if_neg (by decide), hi_wrI, if_pos ⟨rfl, rfl⟩]
  have e65 : hi g3 226 65 = 0 := by
    rw [← eg3, hi_wrI, if_pos ⟨rfl, rfl⟩]
  refine rd_243 (g3 := g3) (fun q b1 b2 b3 => ?_) n g3 0 (by omega) (fun _ _ _ => rfl) (fun _ _ => rfl) (fun k hk => by omega) (by omega) (by omega)
  refine rd_dI (h1 := h1) hs d c j fz wz (w := (hi x 235 s).toInt.toNat) (g := (hi x 236 s).toInt.toNat) (by omega) (by omega) (fun a k n1 n2 n3 n4 n5 => ?_) (fun a k => ?_) ?_ ?_ ?_ ?_ (fun k hk => ?_) (fun k hk => ?_) hb.2.1 hb.2.2 (fun m hm k hk => ?_) b3
  · rw [b1 a k n5, r9 a k (by omega), r8 a k n2 n3 n4 (by omega)]
    exact r2 a k (by omega)
  · rw [b2 a k, ← eg3]
    show hl q108 a k = _
    rw [cp.1.2 a k]
    exact l6 a k
  · rw [b1 226 2 (by decide), r9 226 2 (by decide), r8 226 2 (by decide) (by decide) (by decide) (by decide)]
    exact r2 226 2 (by decide)
  · rw [b1 226 18 (by decide), r9 226 18 (by decide), r8 226 18 (by decide) (by decide) (by decide) (by decide)]
    exact hiE eg2
  · rw [b1 226 59 (by decide)]
    exact e59
  · rw [b1 226 65 (by decide)]
    exact e65
  · rw [b1 262 k (by decide), r9 262 k (by omega), cp.2.1 k hk]
    exact e63 k
  · rw [b1 263 k (by decide), r9 263 k (by omega), cp.1.1 263 k (by decide)]
    exact e63 k
  · rw [b1 264 _ (by decide), r9 264 _ (by omega), cp.1.1 264 _ (by decide)]
    exact hp.2 m hm k hk
theorem rd_T (hs : s ≤ 1) (d : dI hS) (hv : (hi hS 226 18).toInt = 1 - s) (c : rdC s hS hC) (j : jR s hC x) {n : Nat} (hn : 2000 ≤ n) (bz : (hi x 226 13).toInt = 0 → (hi x 226 15).toInt = 0 → offT s x (hi x 237 s).toInt ∧ offG s x (hi x 242 s).toInt) : Ok (rdT n x) (rdP hS) := by
  unfold rdT
  exact Ok.le (fun _ => Ok.le (fun _ => rd_E hs d hv c j hn bz _) (fun _ => rd_E hs d hv c j hn bz _)) (fun _ => rd_E hs d hv c j hn bz _)
theorem rd_B (hs : s ≤ 1) (d : dI hS) (hv : (hi hS 226 18).toInt = 1 - s) (c : rdC s hS hC) (j : jR s hC x) {n : Nat} (hn : 2000 ≤ n) (fz : (hi x 226 13).toInt = 0) : Ok (rdB n x) (rdP hS) := by
  have f0 := lit_0
  unfold rdB
  refine Ok.bind (sf_X12_isBeyond (s := s) (by omega) ⟨hs, j.1.2.1.2, j.1.2.2.2.1⟩) (fun q99 hq => ?_)
  obtain ⟨e9, hb⟩ := hq
  rw [e9]
  refine Ok.eq (fun c1 => rd_T hs d hv c j hn (fun _ _ => hb (by omega))) (fun _ => ?_)
  have t := j.1.2.2.1
  refine Ok.bind (sr_wrong t (by decide) t.1.1 t.1.2) (fun q hq => ?_)
  have jq := j.p hq.1
  exact rd_T hs d hv c jq hn (fun z1 z2 => absurd z2 (hq.2.2.2 z1))
theorem rd_112a (hs : s ≤ 1) (d : dI hS) (hv : (hi hS 226 18).toInt = 1 - s) (c : rdC s hS hC) {l1 : Int32} {n : Nat} {h : Hp} (j : jR s hC h) (fz : (hi h 226 13).toInt ≠ 0) (hn : 3000 ≤ n) : Ok (W_X12_read n 112 h l1) (rdP hS) := by
  obtain ⟨m, rfl⟩ : ∃ m, n = m + 1 := ⟨n - 1, by omega⟩
  have f0 := lit_0
  rw [u_X12_read]
  refine Ok.neg (by decide) (Ok.pos rfl ?_)
  refine Ok.eq (fun c1 => by omega) (fun c1 => ?_)
  refine Ok.eq (fun c1 => by omega) (fun c1 => ?_)
  exact rd_T hs d hv c j (by omega) (fun z => absurd z fz)
theorem rd_112 (hs : s ≤ 1) (d : dI hS) (hv : (hi hS 226 18).toInt = 1 - s) (c : rdC s hS hC) {l1 : Int32} : ∀ n : Nat, ∀ h : Hp, jR s hC h → (hi h 226 13).toInt = 0 → (10000 : Int) + (402 - (hi h 226 11).toInt) < n → Ok (W_X12_read n 112 h l1) (rdP hS) := by
  intro n
  induction n with
  | zero =>
    intro h j fz e
    have t := j.1.2.2.1.1
    exfalso; omega
  | succ n ih =>
    intro h j fz e
    have f0 := lit_0
    have t := j.1.2.2.1.1
    rw [u_X12_read]
    refine Ok.neg (by decide) (Ok.pos rfl ?_)
    refine Ok.eq (fun c1 => ?_) (fun c1 => by omega)
    refine Ok.bind (sr_is j.1.2.2.1) (fun q75 hq => ?_)
    obtain ⟨e7, -, -⟩ := hq
    rw [e7]
    refine Ok.ite (fun _ => ?_) (fun _ => ?_)
    · refine Ok.bind (sr_one (by omega) hs j fz ((rd_x c j).2.2 _)) (fun q hq => ?_)
      by_cases z : (hi q 226 13).toInt = 0
      · have t2 := hq.2 z
        exact ih q hq.1 z (by omega)
      · exact rd_112a hs d hv c hq.1 z (by omega)
    · refine Ok.eq (fun c1 => ?_) (fun c1 => by omega)
      exact rd_B hs d hv c j (by omega) fz
end RR
