/-! the same, as the asked ones take it -/
theorem sa_X12_in {h0 : Hp} (s0 : rS h0) (n : Nat) (h : Hp) (x1 : Int32) (x2 : Int32) (x3 : Int32) (hn : 1 ≤ n) (j : jA h0 h) : Ok (F_X12_in n h x1 x2 x3) (fun q => q.2 = h ∧ (0 ≤ q.1.toInt ∧ q.1.toInt ≤ 1 ∧ (q.1.toInt ≠ 0 → x2.toInt ≤ x1.toInt ∧ x1.toInt ≤ x3.toInt))) := by
  have e1 := j.ks.cn
  have e2 := j.ks.gn
  exact (sf_X12_in (h0 := h) (j.ks.st s0) j.r0 n h x1 x2 x3 hn (jD.rf h)).mono (fun q hq => ⟨hq.1, hq.2⟩)
theorem sa_X12_within {h0 : Hp} (s0 : rS h0) (n : Nat) (h : Hp) (x1 : Int32) (x2 : Int32) (x3 : Int32) (hn : 1 ≤ n) (j : jA h0 h) : Ok (F_X12_within n h x1 x2 x3) (fun q => q.2 = h ∧ True) := by
  have e1 := j.ks.cn
  have e2 := j.ks.gn
  exact (sf_X12_within (h0 := h) (j.ks.st s0) j.r0 n h x1 x2 x3 hn (jD.rf h)).mono (fun q hq => ⟨hq.1, hq.2⟩)
theorem sa_X12_bits {h0 : Hp} (s0 : rS h0) (n : Nat) (h : Hp) (x1 : Int32) (hn : 17179869185 ≤ n) (j : jA h0 h) : Ok (F_X12_bits n h x1) (fun q => q.2 = h ∧ True) := by
  have e1 := j.ks.cn
  have e2 := j.ks.gn
  exact (sf_X12_bits (h0 := h) (j.ks.st s0) j.r0 n h x1 hn (jD.rf h)).mono (fun q hq => ⟨hq.1, hq.2⟩)
theorem sa_X12_off {h0 : Hp} (s0 : rS h0) (n : Nat) (h : Hp) (x1 : Int32) (x2 : Int32) (hn : 1 ≤ n) (j : jA h0 h) : Ok (F_X12_off n h x1 x2) (fun q => q.2 = h ∧ True) := by
  have e1 := j.ks.cn
  have e2 := j.ks.gn
  exact (sf_X12_off (h0 := h) (j.ks.st s0) j.r0 n h x1 x2 hn (jD.rf h)).mono (fun q hq => ⟨hq.1, hq.2⟩)
theorem sa_X12_cells {h0 : Hp} (s0 : rS h0) (n : Nat) (h : Hp) (hn : 1 ≤ n) (j : jA h0 h) : Ok (F_X12_cells n h) (fun q => q.2 = h ∧ q.1.toInt = cnN h0) := by
  have e1 := j.ks.cn
  have e2 := j.ks.gn
  exact (sf_X12_cells (h0 := h) (j.ks.st s0) j.r0 n h hn (jD.rf h)).mono (fun q hq => ⟨hq.1, by have z := hq.2; rw [e1] at z; exact z⟩)
theorem sa_X12_isCell {h0 : Hp} (s0 : rS h0) (n : Nat) (h : Hp) (x1 : Int32) (hn : 1 ≤ n) (j : jA h0 h) : Ok (F_X12_isCell n h x1) (fun q => q.2 = h ∧ (0 ≤ q.1.toInt ∧ q.1.toInt ≤ 1 ∧ (q.1.toInt ≠ 0 → 0 ≤ x1.toInt ∧ x1.toInt < cnN h0))) := by
  have e1 := j.ks.cn
  have e2 := j.ks.gn
  exact (sf_X12_isCell (h0 := h) (j.ks.st s0) j.r0 n h x1 hn (jD.rf h)).mono (fun q hq => ⟨hq.1, by have z := hq.2; rw [e1] at z; exact z⟩)
theorem sa_X12_isGoer {h0 : Hp} (s0 : rS h0) (n : Nat) (h : Hp) (x1 : Int32) (hn : 1 ≤ n) (j : jA h0 h) : Ok (F_X12_isGoer n h x1) (fun q => q.2 = h ∧ (0 ≤ q.1.toInt ∧ q.1.toInt ≤ 1 ∧ (q.1.toInt ≠ 0 → 0 ≤ x1.toInt ∧ x1.toInt < gnN h0))) := by
  have e1 := j.ks.cn
  have e2 := j.ks.gn
  exact (sf_X12_isGoer (h0 := h) (j.ks.st s0) j.r0 n h x1 hn (jD.rf h)).mono (fun q hq => ⟨hq.1, by have z := hq.2; rw [e2] at z; exact z⟩)
theorem sa_X12_isLong {h0 : Hp} (s0 : rS h0) (n : Nat) (h : Hp) (x1 : Int32) (hn : 1 ≤ n) (j : jA h0 h) : Ok (F_X12_isLong n h x1) (fun q => q.2 = h ∧ (0 ≤ q.1.toInt ∧ q.1.toInt ≤ 1 ∧ (q.1.toInt ≠ 0 → 0 ≤ x1.toInt ∧ x1.toInt ≤ 100))) := by
  have e1 := j.ks.cn
  have e2 := j.ks.gn
  exact (sf_X12_isLong (h0 := h) (j.ks.st s0) j.r0 n h x1 hn (jD.rf h)).mono (fun q hq => ⟨hq.1, hq.2⟩)
theorem sa_X12_isTime {h0 : Hp} (s0 : rS h0) (n : Nat) (h : Hp) (x1 : Int32) (hn : 1 ≤ n) (j : jA h0 h) : Ok (F_X12_isTime n h x1) (fun q => q.2 = h ∧ (0 ≤ q.1.toInt ∧ q.1.toInt ≤ 1 ∧ (q.1.toInt ≠ 0 → 0 ≤ x1.toInt ∧ x1.toInt ≤ 59))) := by
  have e1 := j.ks.cn
  have e2 := j.ks.gn
  exact (sf_X12_isTime (h0 := h) (j.ks.st s0) j.r0 n h x1 hn (jD.rf h)).mono (fun q hq => ⟨hq.1, hq.2⟩)
theorem sa_X12_isRoped {h0 : Hp} (s0 : rS h0) (n : Nat) (h : Hp) (x1 : Int32) (hn : 1 ≤ n) (j : jA h0 h) : Ok (F_X12_isRoped n h x1) (fun q => q.2 = h ∧ True) := by
  have e1 := j.ks.cn
  have e2 := j.ks.gn
  exact (sf_X12_isRoped (h0 := h) (j.ks.st s0) j.r0 n h x1 hn (jD.rf h)).mono (fun q hq => ⟨hq.1, hq.2⟩)
theorem sa_X12_isLoud {h0 : Hp} (s0 : rS h0) (n : Nat) (h : Hp) (x1 : Int32) (x2 : Int32) (hn : 1 ≤ n) (j : jA h0 h) (p0 : 0 ≤ x1.toInt) (p1 : x1.toInt < 25) : Ok (F_X12_isLoud n h x1 x2) (fun q => q.2 = h ∧ True) := by
  have e1 := j.ks.cn
  have e2 := j.ks.gn
  exact (sf_X12_isLoud (h0 := h) (j.ks.st s0) j.r0 n h x1 x2 hn (jD.rf h) (by omega) (by omega)).mono (fun q hq => ⟨hq.1, hq.2⟩)
theorem sa_X12_loudBits {h0 : Hp} (s0 : rS h0) (n : Nat) (h : Hp) (x1 : Int32) (hn : 17179869185 ≤ n) (j : jA h0 h) : Ok (F_X12_loudBits n h x1) (fun q => q.2 = h ∧ True) := by
  have e1 := j.ks.cn
  have e2 := j.ks.gn
  exact (sf_X12_loudBits (h0 := h) (j.ks.st s0) j.r0 n h x1 hn (jD.rf h)).mono (fun q hq => ⟨hq.1, hq.2⟩)
theorem sa_X12_tuneBits {h0 : Hp} (s0 : rS h0) (n : Nat) (h : Hp) (hn : 17179869185 ≤ n) (j : jA h0 h) : Ok (F_X12_tuneBits n h) (fun q => q.2 = h ∧ True) := by
  have e1 := j.ks.cn
  have e2 := j.ks.gn
  exact (sf_X12_tuneBits (h0 := h) (j.ks.st s0) j.r0 n h hn (jD.rf h)).mono (fun q hq => ⟨hq.1, hq.2⟩)
theorem sa_X12_goerBits {h0 : Hp} (s0 : rS h0) (n : Nat) (h : Hp) (hn : 17179869185 ≤ n) (j : jA h0 h) : Ok (F_X12_goerBits n h) (fun q => q.2 = h ∧ True) := by
  have e1 := j.ks.cn
  have e2 := j.ks.gn
  exact (sf_X12_goerBits (h0 := h) (j.ks.st s0) j.r0 n h hn (jD.rf h)).mono (fun q hq => ⟨hq.1, hq.2⟩)
theorem sa_X12_whoAt {h0 : Hp} (s0 : rS h0) (n : Nat) (h : Hp) (x1 : Int32) (hn : 17179869185 ≤ n) (j : jA h0 h) : Ok (F_X12_whoAt n h x1) (fun q => q.2 = h ∧ True) := by
  have e1 := j.ks.cn
  have e2 := j.ks.gn
  exact (sf_X12_whoAt (h0 := h) (j.ks.st s0) j.r0 n h x1 hn (jD.rf h)).mono (fun q hq => ⟨hq.1, hq.2⟩)
theorem sa_X12_mixed {h0 : Hp} (s0 : rS h0) (n : Nat) (h : Hp) (x1 : Int32) (x2 : Int32) (hn : 1 ≤ n) (j : jA h0 h) : Ok (F_X12_mixed n h x1 x2) (fun q => q.2 = h ∧ True) := by
  have e1 := j.ks.cn
  have e2 := j.ks.gn
  exact (sf_X12_mixed (h0 := h) (j.ks.st s0) j.r0 n h x1 x2 hn (jD.rf h)).mono (fun q hq => ⟨hq.1, hq.2⟩)
theorem sa_X12_lotOf {h0 : Hp} (s0 : rS h0) (n : Nat) (h : Hp) (x1 : Int32) (hn : 1 ≤ n) (j : jA h0 h) : Ok (F_X12_lotOf n h x1) (fun q => q.2 = h ∧ True) := by
  have e1 := j.ks.cn
  have e2 := j.ks.gn
  exact (sf_X12_lotOf (h0 := h) (j.ks.st s0) j.r0 n h x1 hn (jD.rf h)).mono (fun q hq => ⟨hq.1, hq.2⟩)
theorem sa_X12_freeBits {h0 : Hp} (s0 : rS h0) (n : Nat) (h : Hp) (hn : 1 ≤ n) (j : jA h0 h) : Ok (F_X12_freeBits n h) (fun q => q.2 = h ∧ True) := by
  have e1 := j.ks.cn
  have e2 := j.ks.gn
  exact (sf_X12_freeBits (h0 := h) (j.ks.st s0) j.r0 n h hn (jD.rf h)).mono (fun q hq => ⟨hq.1, hq.2⟩)
theorem sa_X12_safeBits {h0 : Hp} (s0 : rS h0) (n : Nat) (h : Hp) (x1 : Int32) (hn : 17179869185 ≤ n) (j : jA h0 h) : Ok (F_X12_safeBits n h x1) (fun q => q.2 = h ∧ True) := by
  have e1 := j.ks.cn
  have e2 := j.ks.gn
  exact (sf_X12_safeBits (h0 := h) (j.ks.st s0) j.r0 n h x1 hn (jD.rf h)).mono (fun q hq => ⟨hq.1, hq.2⟩)
theorem sa_X12_isOther {h0 : Hp} (s0 : rS h0) (n : Nat) (h : Hp) (x1 : Int32) (x2 : Int32) (x3 : Int32) (hn : 1 ≤ n) (j : jA h0 h) : Ok (F_X12_isOther n h x1 x2 x3) (fun q => q.2 = h ∧ (q.1.toInt ≠ 0 → x1.toInt ≠ x2.toInt ∧ x1.toInt ≠ x3.toInt)) := by
  have e1 := j.ks.cn
  have e2 := j.ks.gn
  exact (sf_X12_isOther (h0 := h) (j.ks.st s0) j.r0 n h x1 x2 x3 hn (jD.rf h)).mono (fun q hq => ⟨hq.1, hq.2⟩)
theorem sa_X12_areFree {h0 : Hp} (s0 : rS h0) (n : Nat) (h : Hp) (x1 : Int32) (x2 : Int32) (hn : 1 ≤ n) (j : jA h0 h) : Ok (F_X12_areFree n h x1 x2) (fun q => q.2 = h ∧ (q.1.toInt ≠ 0 → 0 ≤ x1.toInt ∧ x1.toInt < cnN h0 ∧ 0 ≤ x2.toInt ∧ x2.toInt < cnN h0)) := by
  have e1 := j.ks.cn
  have e2 := j.ks.gn
  exact (sf_X12_areFree (h0 := h) (j.ks.st s0) j.r0 n h x1 x2 hn (jD.rf h)).mono (fun q hq => ⟨hq.1, by have z := hq.2; rw [e1] at z; exact z⟩)
theorem sa_X12_firstAt {h0 : Hp} (s0 : rS h0) (n : Nat) (h : Hp) (x1 : Int32) (x2 : Int32) (hn : 17179869185 ≤ n) (j : jA h0 h) (p0 : x2.toInt ≤ 100) : Ok (F_X12_firstAt n h x1 x2) (fun q => q.2 = h ∧ q.1.toInt ≤ 100) := by
  have e1 := j.ks.cn
  have e2 := j.ks.gn
  exact (sf_X12_firstAt (h0 := h) (j.ks.st s0) j.r0 n h x1 x2 hn (jD.rf h) (by omega)).mono (fun q hq => ⟨hq.1, hq.2⟩)
theorem sa_X12_tunesBy {h0 : Hp} (s0 : rS h0) (n : Nat) (h : Hp) (x1 : Int32) (hn : 17179869185 ≤ n) (j : jA h0 h) : Ok (F_X12_tunesBy n h x1) (fun q => q.2 = h ∧ True) := by
  have e1 := j.ks.cn
  have e2 := j.ks.gn
  exact (sf_X12_tunesBy (h0 := h) (j.ks.st s0) j.r0 n h x1 hn (jD.rf h)).mono (fun q hq => ⟨hq.1, hq.2⟩)
theorem sa_X12_doesFit {h0 : Hp} (s0 : rS h0) (n : Nat) (h : Hp) (x1 : Int32) (x2 : Int32) (x3 : Int32) (hn : 17179869185 ≤ n) (j : jA h0 h) (p0 : 2 ≤ x1.toInt) (p1 : x3.toInt ≤ 20) : Ok (F_X12_doesFit n h x1 x2 x3) (fun q => q.2 = h ∧ True) := by
  have e1 := j.ks.cn
  have e2 := j.ks.gn
  exact (sf_X12_doesFit (h0 := h) (j.ks.st s0) j.r0 n h x1 x2 x3 hn (jD.rf h) (by omega) (by omega)).mono (fun q hq => ⟨hq.1, hq.2⟩)
theorem sa_X12_fitting {h0 : Hp} (s0 : rS h0) (n : Nat) (h : Hp) (x1 : Int32) (x2 : Int32) (hn : 51539607553 ≤ n) (j : jA h0 h) (p0 : x1.toInt ≤ 20) : Ok (F_X12_fitting n h x1 x2) (fun q => q.2 = h ∧ True) := by
  have e1 := j.ks.cn
  have e2 := j.ks.gn
  exact (sf_X12_fitting (h0 := h) (j.ks.st s0) j.r0 n h x1 x2 hn (jD.rf h) (by omega)).mono (fun q hq => ⟨hq.1, hq.2⟩)
theorem sa_X12_firstFit {h0 : Hp} (s0 : rS h0) (n : Nat) (h : Hp) (x1 : Int32) (hn : 51539607553 ≤ n) (j : jA h0 h) (p0 : x1.toInt ≤ 20) : Ok (F_X12_firstFit n h x1) (fun q => q.2 = h ∧ True) := by
  have e1 := j.ks.cn
  have e2 := j.ks.gn
  exact (sf_X12_firstFit (h0 := h) (j.ks.st s0) j.r0 n h x1 hn (jD.rf h) (by omega)).mono (fun q hq => ⟨hq.1, hq.2⟩)
theorem sa_X12_fits {h0 : Hp} (s0 : rS h0) (n : Nat) (h : Hp) (x1 : Int32) (x2 : Int32) (hn : 51539607553 ≤ n) (j : jA h0 h) : Ok (F_X12_fits n h x1 x2) (fun q => q.2 = h ∧ True) := by
  have e1 := j.ks.cn
  have e2 := j.ks.gn
  exact (sf_X12_fits (h0 := h) (j.ks.st s0) j.r0 n h x1 x2 hn (jD.rf h)).mono (fun q hq => ⟨hq.1, hq.2⟩)
theorem sa_X12_listen {h0 : Hp} (s0 : rS h0) (n : Nat) (h : Hp) (x1 : Int32) (hn : 68719476737 ≤ n) (j : jA h0 h) : Ok (F_X12_listen n h x1) (fun q => q.2 = h ∧ True) := by
  have e1 := j.ks.cn
  have e2 := j.ks.gn
  exact (sf_X12_listen (h0 := h) (j.ks.st s0) j.r0 n h x1 hn (jD.rf h)).mono (fun q hq => ⟨hq.1, hq.2⟩)
theorem sa_X12_farOf {h0 : Hp} (s0 : rS h0) (n : Nat) (h : Hp) (x1 : Int32) (x2 : Int32) (hn : 17179869484 ≤ n) (j : jA h0 h) : Ok (F_X12_farOf n h x1 x2) (fun q => q.2 = h ∧ True) := by
  have e1 := j.ks.cn
  have e2 := j.ks.gn
  exact (sf_X12_farOf (h0 := h) (j.ks.st s0) j.r0 n h x1 x2 hn (jD.rf h)).mono (fun q hq => ⟨hq.1, hq.2⟩)
theorem sa_X12_farthestFrom {h0 : Hp} (s0 : rS h0) (n : Nat) (h : Hp) (x1 : Int32) (hn : 34359738668 ≤ n) (j : jA h0 h) : Ok (F_X12_farthestFrom n h x1) (fun q => q.2 = h ∧ True) := by
  have e1 := j.ks.cn
  have e2 := j.ks.gn
  exact (sf_X12_farthestFrom (h0 := h) (j.ks.st s0) j.r0 n h x1 hn (jD.rf h)).mono (fun q hq => ⟨hq.1, hq.2⟩)
theorem sa_X12_unlike {h0 : Hp} (s0 : rS h0) (n : Nat) (h : Hp) (x1 : Int32) (x2 : Int32) (hn : 1 ≤ n) (j : jA h0 h) (p0 : 0 ≤ x1.toInt) (p1 : x1.toInt < 5) (p2 : 0 ≤ x2.toInt) (p3 : x2.toInt < 5) : Ok (F_X12_unlike n h x1 x2) (fun q => q.2 = h ∧ True) := by
  have e1 := j.ks.cn
  have e2 := j.ks.gn
  exact (sf_X12_unlike (h0 := h) (j.ks.st s0) j.r0 n h x1 x2 hn (jD.rf h) (by omega) (by omega) (by omega) (by omega)).mono (fun q hq => ⟨hq.1, hq.2⟩)
theorem sa_X12_pairedWith {h0 : Hp} (s0 : rS h0) (n : Nat) (h : Hp) (x1 : Int32) (x2 : Int32) (x3 : Int32) (hn : 1 ≤ n) (j : jA h0 h) (p0 : 0 ≤ x1.toInt) (p1 : x1.toInt < 5) (p2 : 0 ≤ x2.toInt) (p3 : x2.toInt < 5) (p4 : 0 ≤ x3.toInt) (p5 : x3.toInt < 32) : Ok (F_X12_pairedWith n h x1 x2 x3) (fun q => q.2 = h ∧ True) := by
  have e1 := j.ks.cn
  have e2 := j.ks.gn
  exact (sf_X12_pairedWith (h0 := h) (j.ks.st s0) j.r0 n h x1 x2 x3 hn (jD.rf h) (by omega) (by omega) (by omega) (by omega) (by omega) (by omega)).mono (fun q hq => ⟨hq.1, hq.2⟩)
theorem sa_X12_toldOf {h0 : Hp} (s0 : rS h0) (n : Nat) (h : Hp) (x1 : Int32) (x2 : Int32) (x3 : Int32) (x4 : Int32) (x5 : Int32) (hn : 17179869185 ≤ n) (j : jA h0 h) (p0 : 0 ≤ x1.toInt) (p1 : x1.toInt < cnN h0) (p2 : 0 ≤ x4.toInt) (p3 : x4.toInt < 4) : Ok (F_X12_toldOf n h x1 x2 x3 x4 x5) (fun q => jA h0 q.2 ∧ (jD h q.2 ∧ True)) := by
  have e1 := j.ks.cn
  have e2 := j.ks.gn
  exact (sf_X12_toldOf (h0 := h) (j.ks.st s0) j.r0 n h x1 x2 x3 x4 x5 hn (jD.rf h) (by omega) (by omega) (by omega) (by omega)).mono (fun q hq => ⟨j.deep hq.1, ⟨hq.1, hq.2⟩⟩)
theorem sa_X12_wayOf {h0 : Hp} (s0 : rS h0) (n : Nat) (h : Hp) (x1 : Int32) (x2 : Int32) (x3 : Int32) (x4 : Int32) (hn : 17179869185 ≤ n) (j : jA h0 h) (p0 : 0 ≤ x1.toInt) (p1 : x1.toInt < 5) (p2 : 0 ≤ x2.toInt) (p3 : x2.toInt < cnN h0) (p4 : 0 ≤ x3.toInt) (p5 : x3.toInt < 4) : Ok (F_X12_wayOf n h x1 x2 x3 x4) (fun q => jA h0 q.2 ∧ (jD h q.2 ∧ (0 ≤ q.1.toInt ∧ q.1.toInt < cnN h0))) := by
  have e1 := j.ks.cn
  have e2 := j.ks.gn
  exact (sf_X12_wayOf (h0 := h) (j.ks.st s0) j.r0 n h x1 x2 x3 x4 hn (jD.rf h) (by omega) (by omega) (by omega) (by omega) (by omega) (by omega)).mono (fun q hq => ⟨j.deep hq.1, ⟨hq.1, by have z := hq.2; rw [e1] at z; exact z⟩⟩)
theorem sa_X12_stepOf {h0 : Hp} (s0 : rS h0) (n : Nat) (h : Hp) (x1 : Int32) (hn : 17179869185 ≤ n) (j : jA h0 h) (p0 : 0 ≤ x1.toInt) (p1 : x1.toInt < gnN h0) : Ok (F_X12_stepOf n h x1) (fun q => jA h0 q.2 ∧ (jD h q.2 ∧ (0 ≤ q.1.toInt ∧ q.1.toInt < cnN h0))) := by
  have e1 := j.ks.cn
  have e2 := j.ks.gn
  exact (sf_X12_stepOf (h0 := h) (j.ks.st s0) j.r0 n h x1 hn (jD.rf h) (by omega) (by omega)).mono (fun q hq => ⟨j.deep hq.1, ⟨hq.1, by have z := hq.2; rw [e1] at z; exact z⟩⟩)
theorem sa_X12_moveOf {h0 : Hp} (s0 : rS h0) (n : Nat) (h : Hp) (x1 : Int32) (hn : 17179869185 ≤ n) (j : jA h0 h) (p0 : 0 ≤ x1.toInt) (p1 : x1.toInt < gnN h0) : Ok (F_X12_moveOf n h x1) (fun q => jA h0 q.2 ∧ (jD h q.2 ∧ (0 ≤ q.1.toInt ∧ q.1.toInt < cnN h0))) := by
  have e1 := j.ks.cn
  have e2 := j.ks.gn
  exact (sf_X12_moveOf (h0 := h) (j.ks.st s0) j.r0 n h x1 hn (jD.rf h) (by omega) (by omega)).mono (fun q hq => ⟨j.deep hq.1, ⟨hq.1, by have z := hq.2; rw [e1] at z; exact z⟩⟩)
theorem sa_X12_costsOf {h0 : Hp} (s0 : rS h0) (n : Nat) (h : Hp) (x1 : Int32) (hn : 17179869185 ≤ n) (j : jA h0 h) (p0 : 0 ≤ x1.toInt) (p1 : x1.toInt < cnN h0) : Ok (F_X12_costsOf n h x1) (fun q => jA h0 q.2 ∧ (jD h q.2 ∧ True)) := by
  have e1 := j.ks.cn
  have e2 := j.ks.gn
  exact (sf_X12_costsOf (h0 := h) (j.ks.st s0) j.r0 n h x1 hn (jD.rf h) (by omega) (by omega)).mono (fun q hq => ⟨j.deep hq.1, ⟨hq.1, hq.2⟩⟩)
theorem sa_X12_costsAll {h0 : Hp} (s0 : rS h0) (n : Nat) (h : Hp) (hn : 34359738369 ≤ n) (j : jA h0 h) : Ok (F_X12_costsAll n h) (fun q => jA h0 q.2 ∧ (jD h q.2 ∧ True)) := by
  have e1 := j.ks.cn
  have e2 := j.ks.gn
  exact (sf_X12_costsAll (h0 := h) (j.ks.st s0) j.r0 n h hn (jD.rf h)).mono (fun q hq => ⟨j.deep hq.1, ⟨hq.1, hq.2⟩⟩)
theorem sa_X12_cellAt {h0 : Hp} (s0 : rS h0) (n : Nat) (h : Hp) (x1 : Int32) (x2 : Int32) (hn : 1 ≤ n) (j : jA h0 h) : Ok (F_X12_cellAt n h x1 x2) (fun q => q.2 = h ∧ True) := by
  have e1 := j.ks.cn
  have e2 := j.ks.gn
  exact (sf_X12_cellAt (h0 := h) (j.ks.st s0) j.r0 n h x1 x2 hn (jD.rf h)).mono (fun q hq => ⟨hq.1, hq.2⟩)
