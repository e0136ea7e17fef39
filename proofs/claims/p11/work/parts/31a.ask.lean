/-! THE REFERENCE, ASKED: what a call that only asks may write, and what it keeps to -/
def sA (a k : Nat) : Bool := a == 260 || a == 261 || a == 263 || a == 265 || a == 267 || a == 268 || a == 269 || a == 270 || (a == 226 && (k == 52 || k == 55 || k == 56))
def wdN (h : Hp) : Int := (hi h 235 (Int32.toNatClampNeg (hi h 226 18))).toInt
def hgN (h : Hp) : Int := (hi h 236 (Int32.toNatClampNeg (hi h 226 18))).toInt
def gnN (h : Hp) : Int := (hi h 242 (Int32.toNatClampNeg (hi h 226 18))).toInt
def cnN (h : Hp) : Int := wdN h * hgN h
/-- a row: BEATS, cells of goers -/
def rwO (c : Int) (f : Nat → Int32) : Prop := (∀ k, k < 25 → 0 ≤ (f k).toInt ∧ (f k).toInt ≤ 6) ∧ (∀ k, 51 ≤ k → k < 56 → 0 ≤ (f k).toInt ∧ (f k).toInt < c)
/-- an offset is below its beat -/
def ovO (f : Nat → Int32) : Prop := ∀ k, k < 25 → 0 < (f k).toInt → 0 ≤ (f (25 + k)).toInt ∧ (f (25 + k)).toInt < (f k).toInt
/-- the cell on a side -/
def sdv (w g c k : Nat) : Nat := if k = 1 then (if c % w + 1 < w then c + 1 else c) else if k = 2 then (if c + w < w * g then c + w else c) else if k = 3 then (if 0 < c % w then c - 1 else c) else if k = 4 then (if w ≤ c then c - w else c) else c
def sdO (h : Hp) : Prop := ∀ c k : Nat, (c : Int) < cnN h → k < 5 → (hi h 264 (5 * c + k)).toInt = ((sdv (wdN h).toNat (hgN h).toNat c k : Nat) : Int)
/-- how many lie on the pile behind m orders from s on -/
def dpO (c : Nat → Int32) (s : Nat) : Nat → Int
  | 0 => 0
  | m + 1 => dpO c s m + (if (c (s + m)).toInt < 2 then 1 else -1)
/-- the orders s .. e - 1 can be gone through -/
def ocO (c ci : Nat → Int32) (s e : Nat) : Prop := s ≤ e ∧ e ≤ 840 ∧ ∀ m, m < e - s → 0 ≤ dpO c s m ∧ dpO c s m ≤ 300 ∧ (2 ≤ (c (s + m)).toInt → 2 ≤ dpO c s m ∧ (c (s + m)).toInt ≤ 5) ∧ ((c (s + m)).toInt ≠ 0 → (c (s + m)).toInt < 2 → 0 ≤ (ci (s + m)).toInt ∧ (ci (s + m)).toInt < 9)
def oiO (c ci : Nat → Int32) (x y : Int32) : Prop := 0 ≤ x.toInt ∧ 0 ≤ y.toInt ∧ ocO c ci (Int32.toNatClampNeg x) (Int32.toNatClampNeg y)
/-- a branch's orders lie in the window of one side, whose number is L -/
def obO (L : Int) (h : Hp) (b : Nat) : Prop := ((vp_nar .boolean (hi h 252 b)).toInt ≠ 0 → oiO (hi h 257) (hi h 258) (hi h 253 b) (hi h 254 b) ∧ oiO (hi h 257) (hi h 258) (hi h 254 b) (hi h 255 b)) ∧ oiO (hi h 257) (hi h 258) (hi h 255 b) (hi h 256 b) ∧ 420 * L ≤ (hi h 255 b).toInt ∧ ((vp_nar .boolean (hi h 252 b)).toInt ≠ 0 → 420 * L ≤ (hi h 253 b).toInt) ∧ (hi h 256 b).toInt ≤ 420 * L + 420
def olO (L : Int) (h : Hp) (i : Nat) : Prop := (hi h 250 i).toInt = (hi h 251 i).toInt ∨ (130 * L ≤ (hi h 250 i).toInt ∧ (hi h 251 i).toInt ≤ 130 * L + 130 ∧ ∀ b : Nat, (hi h 250 i).toInt ≤ b → (b : Int) < (hi h 251 i).toInt → obO L h b)
def lwsO (h : Hp) : Prop := ∀ i : Nat, 4 * (hi h 226 18).toInt ≤ i → (i : Int) < 4 * (hi h 226 18).toInt + 4 → olO (hi h 226 18).toInt h i
def rS (h : Hp) : Prop := (0 ≤ (hi h 226 18).toInt ∧ (hi h 226 18).toInt ≤ 1) ∧ (2 ≤ wdN h ∧ wdN h ≤ 5) ∧ (2 ≤ hgN h ∧ hgN h ≤ 5) ∧ (0 ≤ gnN h ∧ gnN h ≤ 5) ∧ sdO h ∧ lwsO h ∧ rwO (cnN h) (hi h 262) ∧ ovO (hi h 262) ∧ (0 ≤ (hi h 226 65).toInt ∧ (hi h 226 65).toInt ≤ 20) ∧ (0 ≤ (hi h 226 59).toInt ∧ (hi h 226 59).toInt ≤ 40)
/-- what no asking changes -/
def kS (h0 h : Hp) : Prop := ∀ a k, sA a k = false → hi h a k = hi h0 a k
def sD (a k : Nat) : Bool := a == 260 || a == 261 || (a == 226 && k == 52)
/-- what a law's telling changes: nothing else -/
def jD (h0 h : Hp) : Prop := (∀ a k, sD a k = false → hi h a k = hi h0 a k) ∧ (∀ a k, hl h a k = hl h0 a k)
def jA (h0 h : Hp) : Prop := kS h0 h ∧ (∀ a k, hl h a k = hl h0 a k) ∧ rwO (cnN h0) (hi h 263) ∧ ovO (hi h 263) ∧ (∀ k, -1 ≤ (hi h 265 k).toInt ∧ (hi h 265 k).toInt < 25)
theorem sDA {a k : Nat} (h : sA a k = false) : sD a k = false := by
  simp only [sA, sD, Bool.or_eq_false_iff, Bool.and_eq_false_iff, beq_eq_false_iff_ne] at h ⊢
  obtain ⟨⟨⟨⟨⟨⟨⟨⟨h1, h2⟩, -⟩, -⟩, -⟩, -⟩, -⟩, -⟩, h3⟩ := h
  refine ⟨⟨h1, h2⟩, ?_⟩
  rcases h3 with h3 | h3
  · exact Or.inl h3
  · exact Or.inr h3.1.1
theorem jD.ks {h0 h : Hp} (j : jD h0 h) : kS h0 h := fun a k q => j.1 a k (sDA q)
theorem jA.ks {h0 h : Hp} (j : jA h0 h) : kS h0 h := j.1
theorem jD.rf (h : Hp) : jD h h := ⟨fun _ _ _ => rfl, fun _ _ => rfl⟩
theorem jD.tr {h0 h1 h2 : Hp} (a : jD h0 h1) (b : jD h1 h2) : jD h0 h2 := ⟨fun x k q => (b.1 x k q).trans (a.1 x k q), fun x k => (b.2 x k).trans (a.2 x k)⟩
theorem jD.at {h0 h : Hp} (j : jD h0 h) (a : Nat) (n : ∀ k, sD a k = false) : hi h a = hi h0 a := funext fun k => j.1 a k (n k)
theorem jD.rw {h0 h : Hp} (j : jD h0 h) (r : rwO (cnN h0) (hi h0 263)) : rwO (cnN h0) (hi h 263) := by
  rw [j.at 263 (fun _ => rfl)]
  exact r
theorem cnR {h : Hp} (s : rS h) : 4 ≤ cnN h ∧ cnN h ≤ 25 := by
  have h1 := s.2.1
  have h2 := s.2.2.1
  unfold cnN
  generalize wdN h = w at h1
  generalize hgN h = g at h2
  rcases (show w = 2 ∨ w = 3 ∨ w = 4 ∨ w = 5 by omega) with rfl | rfl | rfl | rfl <;> omega
theorem cnNat {h : Hp} (s : rS h) : (((wdN h).toNat * (hgN h).toNat : Nat) : Int) = cnN h := by
  have h1 := s.2.1
  have h2 := s.2.2.1
  unfold cnN
  rw [Int.natCast_mul, Int.toNat_of_nonneg (by omega), Int.toNat_of_nonneg (by omega)]
def sdOk (w g c k : Nat) : Bool := !decide (c < w * g) || (decide (sdv w g c k < w * g) && ((decide (sdv w g (sdv w g c k) 0 = c) || (decide (sdv w g (sdv w g c k) 1 = c) || (decide (sdv w g (sdv w g c k) 2 = c) || (decide (sdv w g (sdv w g c k) 3 = c) || decide (sdv w g (sdv w g c k) 4 = c))))) && ((!decide (k = 0) || decide (sdv w g c k = c)) && (!decide (k = 1) || (decide (sdv w g c k = c) || decide (sdv w g c k = c + 1))))))
set_option maxRecDepth 100000 in
theorem sdOk_all : ∀ w, w < 6 → ∀ g, g < 6 → ∀ c, c < 25 → ∀ k, k < 5 → sdOk w g c k = true := by decide +kernel
theorem sdv_all (w : Nat) (hw : w < 6) (g : Nat) (hg : g < 6) (c : Nat) (hc : c < 25) (k : Nat) (hk : k < 5) (h : c < w * g) : sdv w g c k < w * g ∧ (sdv w g (sdv w g c k) 0 = c ∨ sdv w g (sdv w g c k) 1 = c ∨ sdv w g (sdv w g c k) 2 = c ∨ sdv w g (sdv w g c k) 3 = c ∨ sdv w g (sdv w g c k) 4 = c) ∧ (k = 0 → sdv w g c k = c) ∧ (k = 1 → sdv w g c k = c ∨ sdv w g c k = c + 1) := by
  have q := sdOk_all w hw g hg c hc k hk
  simp only [sdOk, Bool.or_eq_true, Bool.and_eq_true, decide_eq_true_eq, Bool.not_eq_true', decide_eq_false_iff_not] at q
  rcases q with q | ⟨q1, q2, q3, q4⟩
  · exact absurd h q
  · exact ⟨q1, q2, fun z => q3.resolve_left (fun w => w z), fun z => q4.resolve_left (fun w => w z)⟩
theorem sdv_at {h : Hp} (s : rS h) {c k : Nat} (hc : (c : Int) < cnN h) (hk : k < 5) : ((sdv (wdN h).toNat (hgN h).toNat c k : Nat) : Int) < cnN h ∧ (∃ k', k' < 5 ∧ sdv (wdN h).toNat (hgN h).toNat (sdv (wdN h).toNat (hgN h).toNat c k) k' = c) ∧ (k = 0 → sdv (wdN h).toNat (hgN h).toNat c k = c) ∧ (k = 1 → sdv (wdN h).toNat (hgN h).toNat c k = c ∨ sdv (wdN h).toNat (hgN h).toNat c k = c + 1) := by
  have h1 := s.2.1
  have h2 := s.2.2.1
  have h3 := cnR s
  have h4 := cnNat s
  have h5 := sdv_all (wdN h).toNat (by omega) (hgN h).toNat (by omega) c (by omega) k hk (by omega)
  refine ⟨by have := h5.1; omega, ?_, h5.2.2⟩
  rcases h5.2.1 with q | q | q | q | q
  · exact ⟨0, by decide, q⟩
  · exact ⟨1, by decide, q⟩
  · exact ⟨2, by decide, q⟩
  · exact ⟨3, by decide, q⟩
  · exact ⟨4, by decide, q⟩
section JAr
variable {h0 h : Hp}
theorem liR (s : rS h0) (j : kS h0 h) : 0 ≤ (hi h 226 18).toInt ∧ (hi h 226 18).toInt ≤ 1 := by
  rw [j 226 18 (by decide)]
  exact s.1
theorem wdR (s : rS h0) (j : kS h0 h) : (hi h 235 (Int32.toNatClampNeg (hi h 226 18))).toInt = wdN h0 ∧ 2 ≤ wdN h0 ∧ wdN h0 ≤ 5 := by
  rw [j 226 18 (by decide), j 235 _ rfl]
  exact ⟨rfl, s.2.1⟩
theorem hgR (s : rS h0) (j : kS h0 h) : (hi h 236 (Int32.toNatClampNeg (hi h 226 18))).toInt = hgN h0 ∧ 2 ≤ hgN h0 ∧ hgN h0 ≤ 5 := by
  rw [j 226 18 (by decide), j 236 _ rfl]
  exact ⟨rfl, s.2.2.1⟩
theorem gnR (s : rS h0) (j : kS h0 h) : (hi h 242 (Int32.toNatClampNeg (hi h 226 18))).toInt = gnN h0 ∧ 0 ≤ gnN h0 ∧ gnN h0 ≤ 5 := by
  rw [j 226 18 (by decide), j 242 _ rfl]
  exact ⟨rfl, s.2.2.2.1⟩
theorem toR (s : rS h0) (j : kS h0 h) : 0 ≤ (hi h 226 65).toInt ∧ (hi h 226 65).toInt ≤ 20 := by
  rw [j 226 65 (by decide)]
  exact s.2.2.2.2.2.2.2.2.1
theorem unR (s : rS h0) (j : kS h0 h) : 0 ≤ (hi h 226 59).toInt ∧ (hi h 226 59).toInt ≤ 40 := by
  rw [j 226 59 (by decide)]
  exact s.2.2.2.2.2.2.2.2.2
theorem rwO.at {c : Int} {f : Nat → Int32} (r : rwO c f) (x : Int32) : (0 ≤ x.toInt → x.toInt < 25 → 0 ≤ (f (Int32.toNatClampNeg x)).toInt ∧ (f (Int32.toNatClampNeg x)).toInt ≤ 6) ∧ (51 ≤ x.toInt → x.toInt < 56 → 0 ≤ (f (Int32.toNatClampNeg x)).toInt ∧ (f (Int32.toNatClampNeg x)).toInt < c) := by
  refine ⟨fun h1 h2 => r.1 _ ?_, fun h1 h2 => r.2 _ ?_ ?_⟩
  · have := ncT h1; omega
  · have := ncT (show 0 ≤ x.toInt by omega); omega
  · have := ncT (show 0 ≤ x.toInt by omega); omega
theorem rwR {c : Int} (r : rwO c (hi h 263)) (x : Int32) : (0 ≤ x.toInt → x.toInt < 25 → 0 ≤ (hi h 263 (Int32.toNatClampNeg x)).toInt ∧ (hi h 263 (Int32.toNatClampNeg x)).toInt ≤ 6) ∧ (51 ≤ x.toInt → x.toInt < 56 → 0 ≤ (hi h 263 (Int32.toNatClampNeg x)).toInt ∧ (hi h 263 (Int32.toNatClampNeg x)).toInt < c) := rwO.at r x
theorem nwR (s : rS h0) (j : kS h0 h) (x : Int32) : (0 ≤ x.toInt → x.toInt < 25 → 0 ≤ (hi h 262 (Int32.toNatClampNeg x)).toInt ∧ (hi h 262 (Int32.toNatClampNeg x)).toInt ≤ 6) ∧ (51 ≤ x.toInt → x.toInt < 56 → 0 ≤ (hi h 262 (Int32.toNatClampNeg x)).toInt ∧ (hi h 262 (Int32.toNatClampNeg x)).toInt < cnN h0) := by
  rw [j 262 _ rfl]
  exact rwO.at s.2.2.2.2.2.2.1 x
theorem rwR1 {c : Int} (r : rwO c (hi h 263)) (x : Int32) : 0 ≤ x.toInt → x.toInt < 25 → 0 ≤ (hi h 263 (Int32.toNatClampNeg x)).toInt ∧ (hi h 263 (Int32.toNatClampNeg x)).toInt ≤ 6 := (rwR r x).1
theorem rwR2 {c : Int} (r : rwO c (hi h 263)) (x : Int32) : 51 ≤ x.toInt → x.toInt < 56 → 0 ≤ (hi h 263 (Int32.toNatClampNeg x)).toInt ∧ (hi h 263 (Int32.toNatClampNeg x)).toInt < c := (rwR r x).2
theorem nwR1 (s : rS h0) (j : kS h0 h) (x : Int32) : 0 ≤ x.toInt → x.toInt < 25 → 0 ≤ (hi h 262 (Int32.toNatClampNeg x)).toInt ∧ (hi h 262 (Int32.toNatClampNeg x)).toInt ≤ 6 := (nwR s j x).1
theorem nwR2 (s : rS h0) (j : kS h0 h) (x : Int32) : 51 ≤ x.toInt → x.toInt < 56 → 0 ≤ (hi h 262 (Int32.toNatClampNeg x)).toInt ∧ (hi h 262 (Int32.toNatClampNeg x)).toInt < cnN h0 := (nwR s j x).2
theorem tnR (j : jA h0 h) (k : Nat) : -1 ≤ (hi h 265 k).toInt ∧ (hi h 265 k).toInt < 25 := j.2.2.2.2 k
theorem sdE (s : rS h0) (j : kS h0 h) {c k : Nat} (hc : (c : Int) < cnN h0) (hk : k < 5) : (hi h 264 (5 * c + k)).toInt = ((sdv (wdN h0).toNat (hgN h0).toNat c k : Nat) : Int) := by
  rw [j 264 _ rfl]
  exact s.2.2.2.2.1 c k hc hk
theorem sdR (s : rS h0) (j : kS h0 h) (x : Int32) : 0 ≤ x.toInt → x.toInt < 5 * cnN h0 → 0 ≤ (hi h 264 (Int32.toNatClampNeg x)).toInt ∧ (hi h 264 (Int32.toNatClampNeg x)).toInt < cnN h0 := by
  intro h1 h2
  have h3 := ncT h1
  have h4 : Int32.toNatClampNeg x = 5 * (Int32.toNatClampNeg x / 5) + Int32.toNatClampNeg x % 5 := by omega
  have h5 : ((Int32.toNatClampNeg x / 5 : Nat) : Int) < cnN h0 := by omega
  have h6 := sdE s j h5 (k := Int32.toNatClampNeg x % 5) (by omega)
  rw [← h4] at h6
  have h7 := (sdv_at s h5 (k := Int32.toNatClampNeg x % 5) (by omega)).1
  omega
theorem JAw {h1 : Hp} {a k : Nat} {v : Int32} (e : wrI h a k v = h1) (j : jA h0 h) (n : sA a k = true) (n1 : a ≠ 263) (n2 : a ≠ 265) : jA h0 h1 := by
  subst e
  have e1 : hi (wrI h a k v) 263 = hi h 263 := funext fun k' => by rw [hi_wrI, if_neg (fun z => n1 z.1.symm)]
  have e2 : hi (wrI h a k v) 265 = hi h 265 := funext fun k' => by rw [hi_wrI, if_neg (fun z => n2 z.1.symm)]
  refine ⟨fun a' k' q => ?_, fun a' k' => j.2.1 a' k', ?_, ?_, ?_⟩
  · rw [hi_wrI, if_neg (fun z => by rw [z.1, z.2, n] at q; cases q)]
    exact j.1 a' k' q
  · rw [e1]; exact j.2.2.1
  · rw [e1]; exact j.2.2.2.1
  · rw [e2]; exact j.2.2.2.2
theorem JA63 {h1 : Hp} {k : Nat} {v : Int32} (e : wrI h 263 k v = h1) (j : jA h0 h) (c1 : k < 25 → 0 ≤ v.toInt ∧ v.toInt ≤ 6) (c2 : 51 ≤ k → k < 56 → 0 ≤ v.toInt ∧ v.toInt < cnN h0) (c3 : k < 25 → 0 < v.toInt → 0 ≤ (hi h 263 (25 + k)).toInt ∧ (hi h 263 (25 + k)).toInt < v.toInt) (c4 : ∀ i, i < 25 → k = 25 + i → 0 < (hi h 263 i).toInt → 0 ≤ v.toInt ∧ v.toInt < (hi h 263 i).toInt) : jA h0 h1 := by
  subst e
  have e0 (i : Nat) : hi (wrI h 263 k v) 263 i = if i = k then v else hi h 263 i := by
    rw [hi_wrI]
    by_cases q : i = k
    · rw [if_pos q, if_pos ⟨rfl, q⟩]
    · rw [if_neg q, if_neg (fun z => q z.2)]
  refine ⟨fun a' k' q => ?_, fun a' k' => j.2.1 a' k', ⟨fun i il => ?_, fun i h1 h2 => ?_⟩, fun i il h1 => ?_, fun k' => ?_⟩
  · rw [hi_wrI, if_neg (fun z => by rw [z.1] at q; cases q)]
    exact j.1 a' k' q
  · rw [e0]
    by_cases q : i = k
    · rw [if_pos q]; exact c1 (by omega)
    · rw [if_neg q]; exact j.2.2.1.1 i il
  · rw [e0]
    by_cases q : i = k
    · rw [if_pos q]; exact c2 (by omega) (by omega)
    · rw [if_neg q]; exact j.2.2.1.2 i h1 h2
  · rw [e0] at h1 ⊢
    rw [e0]
    by_cases q : i = k
    · subst q
      rw [if_pos rfl] at h1 ⊢
      rw [if_neg (by omega)]
      exact c3 il h1
    · rw [if_neg q] at h1 ⊢
      by_cases q2 : 25 + i = k
      · rw [if_pos q2]
        exact c4 i il q2.symm h1
      · rw [if_neg q2]
        exact j.2.2.2.1 i il h1
  · rw [hi_wrI, if_neg (fun z => absurd z.1 (by decide))]
    exact j.2.2.2.2 k'
/-- a write to a row, no BEAT, no OFFSET -/
theorem JA63g {h1 : Hp} {k : Nat} {v : Int32} (e : wrI h 263 k v = h1) (j : jA h0 h) (c0 : 50 ≤ k) (c2 : 51 ≤ k → k < 56 → 0 ≤ v.toInt ∧ v.toInt < cnN h0) : jA h0 h1 :=
  JA63 e j (fun q => by omega) c2 (fun q => by omega) (fun i il q => by omega)
/-- a TUNE is taken away -/
theorem JA63z {h1 : Hp} {k : Nat} {v : Int32} (e : wrI h 263 k v = h1) (j : jA h0 h) (c0 : k < 25) (c1 : v.toInt = 0) : jA h0 h1 :=
  JA63 e j (fun q => by omega) (fun q => by omega) (fun q => by omega) (fun i il q => by omega)
theorem JA65 {h1 : Hp} {k : Nat} {v : Int32} (e : wrI h 265 k v = h1) (j : jA h0 h) (c1 : -1 ≤ v.toInt) (c2 : v.toInt < 25) : jA h0 h1 := by
  subst e
  have e1 : hi (wrI h 265 k v) 263 = hi h 263 := funext fun k' => by rw [hi_wrI, if_neg (fun z => absurd z.1 (by decide))]
  refine ⟨fun a' k' q => ?_, fun a' k' => j.2.1 a' k', ?_, ?_, fun k' => ?_⟩
  · rw [hi_wrI, if_neg (fun z => by rw [z.1] at q; cases q)]
    exact j.1 a' k' q
  · rw [e1]; exact j.2.2.1
  · rw [e1]; exact j.2.2.2.1
  · rw [hi_wrI]
    by_cases q : (265 : Nat) = 265 ∧ k' = k
    · rw [if_pos q]; exact ⟨c1, c2⟩
    · rw [if_neg q]; exact j.2.2.2.2 k'
theorem JDw {h1 : Hp} {a k : Nat} {v : Int32} (e : wrI h a k v = h1) (j : jD h0 h) (n : sD a k = true) : jD h0 h1 := by
  subst e
  refine ⟨fun a' k' q => ?_, fun a' k' => j.2 a' k'⟩
  rw [hi_wrI, if_neg (fun z => by rw [z.1, z.2, n] at q; cases q)]
  exact j.1 a' k' q
theorem kS.at (j : kS h0 h) (a : Nat) (n : ∀ k, sA a k = false) : hi h a = hi h0 a := funext fun k => j a k (n k)
theorem kS.wd (j : kS h0 h) : wdN h = wdN h0 := by
  unfold wdN
  rw [j 226 18 (by decide), j 235 _ rfl]
theorem kS.hg (j : kS h0 h) : hgN h = hgN h0 := by
  unfold hgN
  rw [j 226 18 (by decide), j 236 _ rfl]
theorem kS.gn (j : kS h0 h) : gnN h = gnN h0 := by
  unfold gnN
  rw [j 226 18 (by decide), j 242 _ rfl]
theorem kS.cn (j : kS h0 h) : cnN h = cnN h0 := by
  unfold cnN
  rw [j.wd, j.hg]
theorem kS.ob (j : kS h0 h) {L : Int} {b : Nat} (o : obO L h0 b) : obO L h b := by
  unfold obO
  rw [j.at 252 (fun _ => rfl), j.at 253 (fun _ => rfl), j.at 254 (fun _ => rfl), j.at 255 (fun _ => rfl), j.at 256 (fun _ => rfl), j.at 257 (fun _ => rfl), j.at 258 (fun _ => rfl)]
  exact o
theorem kS.st (j : kS h0 h) (s : rS h0) : rS h := by
  show (0 ≤ (hi h 226 18).toInt ∧ (hi h 226 18).toInt ≤ 1) ∧ (2 ≤ wdN h ∧ wdN h ≤ 5) ∧ (2 ≤ hgN h ∧ hgN h ≤ 5) ∧ (0 ≤ gnN h ∧ gnN h ≤ 5) ∧ sdO h ∧ lwsO h ∧ rwO (cnN h) (hi h 262) ∧ ovO (hi h 262) ∧ (0 ≤ (hi h 226 65).toInt ∧ (hi h 226 65).toInt ≤ 20) ∧ (0 ≤ (hi h 226 59).toInt ∧ (hi h 226 59).toInt ≤ 40)
  rw [j.wd, j.hg, j.gn, j.cn, j 226 18 (by decide), j.at 262 (fun _ => rfl), j 226 65 (by decide), j 226 59 (by decide)]
  refine ⟨s.1, s.2.1, s.2.2.1, s.2.2.2.1, fun c k hc hk => ?_, fun i h1 h2 => ?_, s.2.2.2.2.2.2⟩
  · rw [j.wd, j.hg, j.at 264 (fun _ => rfl)]
    rw [j.cn] at hc
    exact s.2.2.2.2.1 c k hc hk
  · rw [j 226 18 (by decide)] at h1 h2 ⊢
    have := s.2.2.2.2.2.1 i h1 h2
    unfold olO at this ⊢
    rw [j.at 250 (fun _ => rfl), j.at 251 (fun _ => rfl)]
    rcases this with q | ⟨q1, q2, q3⟩
    · exact Or.inl q
    · exact Or.inr ⟨q1, q2, fun b b1 b2 => j.ob (q3 b b1 b2)⟩
theorem jA.rw (j : jA h0 h) : rwO (cnN h0) (hi h 263) := j.2.2.1
theorem jA.deep {h1 : Hp} (j : jA h0 h) (d : jD h h1) : jA h0 h1 := by
  refine ⟨fun a k q => (d.1 a k (sDA q)).trans (j.1 a k q), fun a k => (d.2 a k).trans (j.2.1 a k), ?_, ?_, ?_⟩
  · rw [d.at 263 (fun _ => rfl)]; exact j.2.2.1
  · rw [d.at 263 (fun _ => rfl)]; exact j.2.2.2.1
  · rw [d.at 265 (fun _ => rfl)]; exact j.2.2.2.2
theorem jA.r0 (j : jA h0 h) : rwO (cnN h) (hi h 263) := by
  rw [j.1.cn]; exact j.2.2.1
end JAr
theorem rmG (x y : Int32) : 0 ≤ x.toInt → 0 < y.toInt → 0 ≤ (x - x / y * y).toInt ∧ (x - x / y * y).toInt < y.toInt := by
  intro h0 h1
  by_cases q : y.toInt = 1
  · have hy : y = 1 := Int32.toInt_inj.mp (by rw [q]; decide)
    subst hy
    rw [Int32.div_one, Int32.mul_one, Int32.sub_self]
    decide
  · rw [rmT x y y.toInt rfl (by omega) h0]
    exact ⟨Int.emod_nonneg _ (by omega), Int.emod_lt_of_pos _ h1⟩
theorem anL (x y : Int32) : 0 ≤ x.toInt → 0 ≤ (x &&& y).toInt ∧ (x &&& y).toInt ≤ x.toInt := by
  intro h
  rw [Int32.and_comm]
  exact and_rg y x x.toInt rfl h
theorem anR (x y : Int32) : 0 ≤ y.toInt → 0 ≤ (x &&& y).toInt ∧ (x &&& y).toInt ≤ y.toInt := fun h => and_rg x y y.toInt rfl h
