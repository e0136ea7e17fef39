section
/-! the same, as the asked ones take it -/
theorem sa_X12_in {h0 : Hp} (s0 : rS h0) (n : Nat) (h : Hp) (x1 : Int32) (x2 : Int32) (x3 : Int32) (hn : 1 ≤ n) (j : jA h0 h) : Ok (F_X12_in n h x1 x2 x3) (fun q => q.2 = h ∧ (0 ≤ q.1.toInt ∧ q.1.toInt ≤ 1 ∧ (q.1.toInt ≠ 0 → x2.toInt ≤ x1.toInt ∧ x1.toInt ≤ x3.toInt))) := by
  have e1 := j.ks.cn
  have e2 := j.ks.gn
  exact (sf_X12_in (h0 := h) (j.ks.st s0) j.r0 n h x1 x2 x3 hn (jD.rf h)).mono (fun q hq => ⟨hq.1, hq.2⟩)
theorem sa_X12_within {h0 : Hp} (s0 : rS h0) (n : Nat) (h : Hp) (x1 : Int32) (x2 : Int32) (x3 : Int32) (hn : 1 ≤ n) (j : jA h0 h) : Ok (F_X12_within n h x1 x2 x3) (fun q => q.2 = h ∧ True) := by
  have e1 := j.ks.cn
  have e2 := j.ks.gn
  exact (sf_X12_within (h0 := h) (j.ks.st s0) j.r0 n h x1 x2 x3 hn (jD.rf h)).mono (fun q hq => ⟨hq.1, hq.2⟩)
theorem sa_X12_bits {h0 : Hp} (s0 : rS h0) (n : Nat) (h : Hp) (x1 : Int32) (hn : 17179869185 ≤ n) (j : jA h0 h) : Ok (F_X12_bits n h x1) (fun q => q.2 = h ∧ True) := by
  have e1 := j.ks.cn
  have e2 := j.ks.gn
  exact (sf_X12_bits (h0 := h) (j.ks.st s0) j.r0 n h x1 hn (jD.rf h)).mono (fun q hq => ⟨hq.1, hq.2⟩)
theorem sa_X12_off {h0 : Hp} (s0 : rS h0) (n : Nat) (h : Hp) (x1 : Int32) (x2 : Int32) (hn : 1 ≤ n) (j : jA h0 h) : Ok (F_X12_off n h x1 x2) (fun q => q.2 = h ∧ True) := by
  have e1 := j.ks.cn
  have e2 := j.ks.gn
  exact (sf_X12_off (h0 := h) (j.ks.st s0) j.r0 n h x1 x2 hn (jD.rf h)).mono (fun q hq => ⟨hq.1, hq.2⟩)
theorem sa_X12_cells {h0 : Hp} (s0 : rS h0) (n : Nat) (h : Hp) (hn : 1 ≤ n) (j : jA h0 h) : Ok (F_X12_cells n h) (fun q => q.2 = h ∧ q.1.toInt = cnN h0) := by
  have e1 := j.ks.cn
  have e2 := j.ks.gn
  exact (sf_X12_cells (h0 := h) (j.ks.st s0) j.r0 n h hn (jD.rf h)).mono (fun q hq => ⟨hq.1, by have z := hq.2; rw [e1] at z; exact z⟩)
theorem sa_X12_isCell {h0 : Hp} (s0 : rS h0) (n : Nat) (h : Hp) (x1 : Int32) (hn : 1 ≤ n) (j : jA h0 h) : Ok (F_X12_isCell n h x1) (fun q => q.2 = h ∧ (0 ≤ q.1.toInt ∧ q.1.toInt ≤ 1 ∧ (q.1.toInt ≠ 0 → 0 ≤ x1.toInt ∧ x1.toInt < cnN h0))) := by
  have e1 := j.ks.cn
  have e2 := j.ks.gn
  exact (sf_X12_isCell (h0 := h) (j.ks.st s0) j.r0 n h x1 hn (jD.rf h)).mono (fun q hq => ⟨hq.1, by have z := hq.2; rw [e1] at z; exact z⟩)
theorem sa_X12_isGoer {h0 : Hp} (s0 : rS h0) (n : Nat) (h : Hp) (x1 : Int32) (hn : 1 ≤ n) (j : jA h0 h) : Ok (F_X12_isGoer n h x1) (fun q => q.2 = h ∧ (0 ≤ q.1.toInt ∧ q.1.toInt ≤ 1 ∧ (q.1.toInt ≠ 0 → 0 ≤ x1.toInt ∧ x1.toInt < gnN h0))) := by
  have e1 := j.ks.cn
  have e2 := j.ks.gn
  exact (sf_X12_isGoer (h0 := h) (j.ks.st s0) j.r0 n h x1 hn (jD.rf h)).mono (fun q hq => ⟨hq.1, by have z := hq.2; rw [e2] at z; exact z⟩)
theorem sa_X12_isLong {h0 : Hp} (s0 : rS h0) (n : Nat) (h : Hp) (x1 : Int32) (hn : 1 ≤ n) (j : jA h0 h) : Ok (F_X12_isLong n h x1) (fun q => q.2 = h ∧ (0 ≤ q.1.toInt ∧ q.1.toInt ≤ 1 ∧ (q.1.toInt ≠ 0 → 0 ≤ x1.toInt ∧ x1.toInt ≤ 100))) := by
  have e1 := j.ks.cn
  have e2 := j.ks.gn
  exact (sf_X12_isLong (h0 := h) (j.ks.st s0) j.r0 n h x1 hn (jD.rf h)).mono (fun q hq => ⟨hq.1, hq.2⟩)
theorem sa_X12_isTime {h0 : Hp} (s0 : rS h0) (n : Nat) (h : Hp) (x1 : Int32) (hn : 1 ≤ n) (j : jA h0 h) : Ok (F_X12_isTime n h x1) (fun q => q.2 = h ∧ (0 ≤ q.1.toInt ∧ q.1.toInt ≤ 1 ∧ (q.1.toInt ≠ 0 → 0 ≤ x1.toInt ∧ x1.toInt ≤ 59))) := by
  have e1 := j.ks.cn
  have e2 := j.ks.gn
  exact (sf_X12_isTime (h0 := h) (j.ks.st s0) j.r0 n h x1 hn (jD.rf h)).mono (fun q hq => ⟨hq.1, hq.2⟩)
theorem sa_X12_isRoped {h0 : Hp} (s0 : rS h0) (n : Nat) (h : Hp) (x1 : Int32) (hn : 1 ≤ n) (j : jA h0 h) : Ok (F_X12_isRoped n h x1) (fun q => q.2 = h ∧ True) := by
  have e1 := j.ks.cn
  have e2 := j.ks.gn
  exact (sf_X12_isRoped (h0 := h) (j.ks.st s0) j.r0 n h x1 hn (jD.rf h)).mono (fun q hq => ⟨hq.1, hq.2⟩)
theorem sa_X12_isLoud {h0 : Hp} (s0 : rS h0) (n : Nat) (h : Hp) (x1 : Int32) (x2 : Int32) (hn : 1 ≤ n) (j : jA h0 h) (p0 : 0 ≤ x1.toInt) (p1 : x1.toInt < 25) : Ok (F_X12_isLoud n h x1 x2) (fun q => q.2 = h ∧ True) := by
  have e1 := j.ks.cn
  have e2 := j.ks.gn
  exact (sf_X12_isLoud (h0 := h) (j.ks.st s0) j.r0 n h x1 x2 hn (jD.rf h) (by omega) (by omega)).mono (fun q hq => ⟨hq.1, hq.2⟩)
theorem sa_X12_loudBits {h0 : Hp} (s0 : rS h0) (n : Nat) (h : Hp) (x1 : Int32) (hn : 17179869185 ≤ n) (j : jA h0 h) : Ok (F_X12_loudBits n h x1) (fun q => q.2 = h ∧ True) := by
  have e1 := j.ks.cn
  have e2 := j.ks.gn
  exact (sf_X12_loudBits (h0 := h) (j.ks.st s0) j.r0 n h x1 hn (jD.rf h)).mono (fun q hq => ⟨hq.1, hq.2⟩)
theorem sa_X12_tuneBits {h0 : Hp} (s0 : rS h0) (n : Nat) (h : Hp) (hn : 17179869185 ≤ n) (j : jA h0 h) : Ok (F_X12_tuneBits n h) (fun q => q.2 = h ∧ True) := by
  have e1 := j.ks.cn
  have e2 := j.ks.gn
  exact (sf_X12_tuneBits (h0 := h) (j.ks.st s0) j.r0 n h hn (jD.rf h)).mono (fun q hq => ⟨hq.1, hq.2⟩)
theorem sa_X12_goerBits {h0 : Hp} (s0 : rS h0) (n : Nat) (h : Hp) (hn : 17179869185 ≤ n) (j : jA h0 h) : Ok (F_X12_goerBits n h) (fun q => q.2 = h ∧ True) := by
  have e1 := j.ks.cn
  have e2 := j.ks.gn
  exact (sf_X12_goerBits (h0 := h) (j.ks.st s0) j.r0 n h hn (jD.rf h)).mono (fun q hq => ⟨hq.1, hq.2⟩)
theorem sa_X12_whoAt {h0 : Hp} (s0 : rS h0) (n : Nat) (h : Hp) (x1 : Int32) (hn : 17179869185 ≤ n) (j : jA h0 h) : Ok (F_X12_whoAt n h x1) (fun q => q.2 = h ∧ True) := by
  have e1 := j.ks.cn
  have e2 := j.ks.gn
  exact (sf_X12_whoAt (h0 := h) (j.ks.st s0) j.r0 n h x1 hn (jD.rf h)).mono (fun q hq => ⟨hq.1, hq.2⟩)
theorem sa_X12_mixed {h0 : Hp} (s0 : rS h0) (n : Nat) (h : Hp) (x1 : Int32) (x2 : Int32) (hn : 1 ≤ n) (j : jA h0 h) : Ok (F_X12_mixed n h x1 x2) (fun q => q.2 = h ∧ True) := by
  have e1 := j.ks.cn
  have e2 := j.ks.gn
  exact (sf_X12_mixed (h0 := h) (j.ks.st s0) j.r0 n h x1 x2 hn (jD.rf h)).mono (fun q hq => ⟨hq.1, hq.2⟩)
theorem sa_X12_lotOf {h0 : Hp} (s0 : rS h0) (n : Nat) (h : Hp) (x1 : Int32) (hn : 1 ≤ n) (j : jA h0 h) : Ok (F_X12_lotOf n h x1) (fun q => q.2 = h ∧ True) := by
  have e1 := j.ks.cn
  have e2 := j.ks.gn
  exact (sf_X12_lotOf (h0 := h) (j.ks.st s0) j.r0 n h x1 hn (jD.rf h)).mono (fun q hq => ⟨hq.1, hq.2⟩)
theorem sa_X12_freeBits {h0 : Hp} (s0 : rS h0) (n : Nat) (h : Hp) (hn : 1 ≤ n) (j : jA h0 h) : Ok (F_X12_freeBits n h) (fun q => q.2 = h ∧ True) := by
  have e1 := j.ks.cn
  have e2 := j.ks.gn
  exact (sf_X12_freeBits (h0 := h) (j.ks.st s0) j.r0 n h hn (jD.rf h)).mono (fun q hq => ⟨hq.1, hq.2⟩)
theorem sa_X12_safeBits {h0 : Hp} (s0 : rS h0) (n : Nat) (h : Hp) (x1 : Int32) (hn : 17179869185 ≤ n) (j : jA h0 h) : Ok (F_X12_safeBits n h x1) (fun q => q.2 = h ∧ True) := by
  have e1 := j.ks.cn
  have e2 := j.ks.gn
  exact (sf_X12_safeBits (h0 := h) (j.ks.st s0) j.r0 n h x1 hn (jD.rf h)).mono (fun q hq => ⟨hq.1, hq.2⟩)
theorem sa_X12_isOther {h0 : Hp} (s0 : rS h0) (n : Nat) (h : Hp) (x1 : Int32) (x2 : Int32) (x3 : Int32) (hn : 1 ≤ n) (j : jA h0 h) : Ok (F_X12_isOther n h x1 x2 x3) (fun q => q.2 = h ∧ (q.1.toInt ≠ 0 → x1.toInt ≠ x2.toInt ∧ x1.toInt ≠ x3.toInt)) := by
  have e1 := j.ks.cn
  have e2 := j.ks.gn
  exact (sf_X12_isOther (h0 := h) (j.ks.st s0) j.r0 n h x1 x2 x3 hn (jD.rf h)).mono (fun q hq => ⟨hq.1, hq.2⟩)
theorem sa_X12_areFree {h0 : Hp} (s0 : rS h0) (n : Nat) (h : Hp) (x1 : Int32) (x2 : Int32) (hn : 1 ≤ n) (j : jA h0 h) : Ok (F_X12_areFree n h x1 x2) (fun q => q.2 = h ∧ (q.1.toInt ≠ 0 → 0 ≤ x1.toInt ∧ x1.toInt < cnN h0 ∧ 0 ≤ x2.toInt ∧ x2.toInt < cnN h0)) := by
  have e1 := j.ks.cn
  have e2 := j.ks.gn
  exact (sf_X12_areFree (h0 := h) (j.ks.st s0) j.r0 n h x1 x2 hn (jD.rf h)).mono (fun q hq => ⟨hq.1, by have z := hq.2; rw [e1] at z; exact z⟩)
theorem sa_X12_firstAt {h0 : Hp} (s0 : rS h0) (n : Nat) (h : Hp) (x1 : Int32) (x2 : Int32) (hn : 17179869185 ≤ n) (j : jA h0 h) (p0 : x2.toInt ≤ 100) : Ok (F_X12_firstAt n h x1 x2) (fun q => q.2 = h ∧ q.1.toInt ≤ 100) := by
  have e1 := j.ks.cn
  have e2 := j.ks.gn
  exact (sf_X12_firstAt (h0 := h) (j.ks.st s0) j.r0 n h x1 x2 hn (jD.rf h) (by omega)).mono (fun q hq => ⟨hq.1, hq.2⟩)
theorem sa_X12_tunesBy {h0 : Hp} (s0 : rS h0) (n : Nat) (h : Hp) (x1 : Int32) (hn : 17179869185 ≤ n) (j : jA h0 h) : Ok (F_X12_tunesBy n h x1) (fun q => q.2 = h ∧ True) := by
  have e1 := j.ks.cn
  have e2 := j.ks.gn
  exact (sf_X12_tunesBy (h0 := h) (j.ks.st s0) j.r0 n h x1 hn (jD.rf h)).mono (fun q hq => ⟨hq.1, hq.2⟩)
theorem sa_X12_doesFit {h0 : Hp} (s0 : rS h0) (n : Nat) (h : Hp) (x1 : Int32) (x2 : Int32) (x3 : Int32) (hn : 17179869185 ≤ n) (j : jA h0 h) (p0 : 2 ≤ x1.toInt) (p1 : x3.toInt ≤ 20) : Ok (F_X12_doesFit n h x1 x2 x3) (fun q => q.2 = h ∧ True) := by
  have e1 := j.ks.cn
  have e2 := j.ks.gn
  exact (sf_X12_doesFit (h0 := h) (j.ks.st s0) j.r0 n h x1 x2 x3 hn (jD.rf h) (by omega) (by omega)).mono (fun q hq => ⟨hq.1, hq.2⟩)
theorem sa_X12_fitting {h0 : Hp} (s0 : rS h0) (n : Nat) (h : Hp) (x1 : Int32) (x2 : Int32) (hn : 51539607553 ≤ n) (j : jA h0 h) (p0 : x1.toInt ≤ 20) : Ok (F_X12_fitting n h x1 x2) (fun q => q.2 = h ∧ True) := by
  have e1 := j.ks.cn
  have e2 := j.ks.gn
  exact (sf_X12_fitting (h0 := h) (j.ks.st s0) j.r0 n h x1 x2 hn (jD.rf h) (by omega)).mono (fun q hq => ⟨hq.1, hq.2⟩)
theorem sa_X12_firstFit {h0 : Hp} (s0 : rS h0) (n : Nat) (h : Hp) (x1 : Int32) (hn : 51539607553 ≤ n) (j : jA h0 h) (p0 : x1.toInt ≤ 20) : Ok (F_X12_firstFit n h x1) (fun q => q.2 = h ∧ True) := by
  have e1 := j.ks.cn
  have e2 := j.ks.gn
  exact (sf_X12_firstFit (h0 := h) (j.ks.st s0) j.r0 n h x1 hn (jD.rf h) (by omega)).mono (fun q hq => ⟨hq.1, hq.2⟩)
theorem sa_X12_fits {h0 : Hp} (s0 : rS h0) (n : Nat) (h : Hp) (x1 : Int32) (x2 : Int32) (hn : 51539607553 ≤ n) (j : jA h0 h) : Ok (F_X12_fits n h x1 x2) (fun q => q.2 = h ∧ True) := by
  have e1 := j.ks.cn
  have e2 := j.ks.gn
  exact (sf_X12_fits (h0 := h) (j.ks.st s0) j.r0 n h x1 x2 hn (jD.rf h)).mono (fun q hq => ⟨hq.1, hq.2⟩)
theorem sa_X12_listen {h0 : Hp} (s0 : rS h0) (n : Nat) (h : Hp) (x1 : Int32) (hn : 68719476737 ≤ n) (j : jA h0 h) : Ok (F_X12_listen n h x1) (fun q => q.2 = h ∧ True) := by
  have e1 := j.ks.cn
  have e2 := j.ks.gn
  exact (sf_X12_listen (h0 := h) (j.ks.st s0) j.r0 n h x1 hn (jD.rf h)).mono (fun q hq => ⟨hq.1, hq.2⟩)
theorem sa_X12_farOf {h0 : Hp} (s0 : rS h0) (n : Nat) (h : Hp) (x1 : Int32) (x2 : Int32) (hn : 17179869484 ≤ n) (j : jA h0 h) : Ok (F_X12_farOf n h x1 x2) (fun q => q.2 = h ∧ True) := by
  have e1 := j.ks.cn
  have e2 := j.ks.gn
  exact (sf_X12_farOf (h0 := h) (j.ks.st s0) j.r0 n h x1 x2 hn (jD.rf h)).mono (fun q hq => ⟨hq.1, hq.2⟩)
theorem sa_X12_farthestFrom {h0 : Hp} (s0 : rS h0) (n : Nat) (h : Hp) (x1 : Int32) (hn : 34359738668 ≤ n) (j : jA h0 h) : Ok (F_X12_farthestFrom n h x1) (fun q => q.2 = h ∧ True) := by
  have e1 := j.ks.cn
  have e2 := j.ks.gn
  exact (sf_X12_farthestFrom (h0 := h) (j.ks.st s0) j.r0 n h x1 hn (jD.rf h)).mono (fun q hq => ⟨hq.1, hq.2⟩)
theorem sa_X12_unlike {h0 : Hp} (s0 : rS h0) (n : Nat) (h : Hp) (x1 : Int32) (x2 : Int32) (hn : 1 ≤ n) (j : jA h0 h) (p0 : 0 ≤ x1.toInt) (p1 : x1.toInt < 5) (p2 : 0 ≤ x2.toInt) (p3 : x2.toInt < 5) : Ok (F_X12_unlike n h x1 x2) (fun q => q.2 = h ∧ True) := by
  have e1 := j.ks.cn
  have e2 := j.ks.gn
  exact (sf_X12_unlike (h0 := h) (j.ks.st s0) j.r0 n h x1 x2 hn (jD.rf h) (by omega) (by omega) (by omega) (by omega)).mono (fun q hq => ⟨hq.1, hq.2⟩)
theorem sa_X12_pairedWith {h0 : Hp} (s0 : rS h0) (n : Nat) (h : Hp) (x1 : Int32) (x2 : Int32) (x3 : Int32) (hn : 1 ≤ n) (j : jA h0 h) (p0 : 0 ≤ x1.toInt) (p1 : x1.toInt < 5) (p2 : 0 ≤ x2.toInt) (p3 : x2.toInt < 5) (p4 : 0 ≤ x3.toInt) (p5 : x3.toInt < 32) : Ok (F_X12_pairedWith n h x1 x2 x3) (fun q => q.2 = h ∧ True) := by
  have e1 := j.ks.cn
  have e2 := j.ks.gn
  exact (sf_X12_pairedWith (h0 := h) (j.ks.st s0) j.r0 n h x1 x2 x3 hn (jD.rf h) (by omega) (by omega) (by omega) (by omega) (by omega) (by omega)).mono (fun q hq => ⟨hq.1, hq.2⟩)
theorem sa_X12_toldOf {h0 : Hp} (s0 : rS h0) (n : Nat) (h : Hp) (x1 : Int32) (x2 : Int32) (x3 : Int32) (x4 : Int32) (x5 : Int32) (hn : 17179869185 ≤ n) (j : jA h0 h) (p0 : 0 ≤ x1.toInt) (p1 : x1.toInt < cnN h0) (p2 : 0 ≤ x4.toInt) (p3 : x4.toInt < 4) : Ok (F_X12_toldOf n h x1 x2 x3 x4 x5) (fun q => jA h0 q.2 ∧ (jD h q.2 ∧ True)) := by
  have e1 := j.ks.cn
  have e2 := j.ks.gn
  exact (sf_X12_toldOf (h0 := h) (j.ks.st s0) j.r0 n h x1 x2 x3 x4 x5 hn (jD.rf h) (by omega) (by omega) (by omega) (by omega)).mono (fun q hq => ⟨j.deep hq.1, ⟨hq.1, hq.2⟩⟩)
theorem sa_X12_wayOf {h0 : Hp} (s0 : rS h0) (n : Nat) (h : Hp) (x1 : Int32) (x2 : Int32) (x3 : Int32) (x4 : Int32) (hn : 17179869185 ≤ n) (j : jA h0 h) (p0 : 0 ≤ x1.toInt) (p1 : x1.toInt < 5) (p2 : 0 ≤ x2.toInt) (p3 : x2.toInt < cnN h0) (p4 : 0 ≤ x3.toInt) (p5 : x3.toInt < 4) : Ok (F_X12_wayOf n h x1 x2 x3 x4) (fun q => jA h0 q.2 ∧ (jD h q.2 ∧ (0 ≤ q.1.toInt ∧ q.1.toInt < cnN h0))) := by
  have e1 := j.ks.cn
  have e2 := j.ks.gn
  exact (sf_X12_wayOf (h0 := h) (j.ks.st s0) j.r0 n h x1 x2 x3 x4 hn (jD.rf h) (by omega) (by omega) (by omega) (by omega) (by omega) (by omega)).mono (fun q hq => ⟨j.deep hq.1, ⟨hq.1, by have z := hq.2; rw [e1] at z; exact z⟩⟩)
theorem sa_X12_stepOf {h0 : Hp} (s0 : rS h0) (n : Nat) (h : Hp) (x1 : Int32) (hn : 17179869185 ≤ n) (j : jA h0 h) (p0 : 0 ≤ x1.toInt) (p1 : x1.toInt < gnN h0) : Ok (F_X12_stepOf n h x1) (fun q => jA h0 q.2 ∧ (jD h q.2 ∧ (0 ≤ q.1.toInt ∧ q.1.toInt < cnN h0))) := by
  have e1 := j.ks.cn
  have e2 := j.ks.gn
  exact (sf_X12_stepOf (h0 := h) (j.ks.st s0) j.r0 n h x1 hn (jD.rf h) (by omega) (by omega)).mono (fun q hq => ⟨j.deep hq.1, ⟨hq.1, by have z := hq.2; rw [e1] at z; exact z⟩⟩)
theorem sa_X12_moveOf {h0 : Hp} (s0 : rS h0) (n : Nat) (h : Hp) (x1 : Int32) (hn : 17179869185 ≤ n) (j : jA h0 h) (p0 : 0 ≤ x1.toInt) (p1 : x1.toInt < gnN h0) : Ok (F_X12_moveOf n h x1) (fun q => jA h0 q.2 ∧ (jD h q.2 ∧ (0 ≤ q.1.toInt ∧ q.1.toInt < cnN h0))) := by
  have e1 := j.ks.cn
  have e2 := j.ks.gn
  exact (sf_X12_moveOf (h0 := h) (j.ks.st s0) j.r0 n h x1 hn (jD.rf h) (by omega) (by omega)).mono (fun q hq => ⟨j.deep hq.1, ⟨hq.1, by have z := hq.2; rw [e1] at z; exact z⟩⟩)
theorem sa_X12_costsOf {h0 : Hp} (s0 : rS h0) (n : Nat) (h : Hp) (x1 : Int32) (hn : 17179869185 ≤ n) (j : jA h0 h) (p0 : 0 ≤ x1.toInt) (p1 : x1.toInt < cnN h0) : Ok (F_X12_costsOf n h x1) (fun q => jA h0 q.2 ∧ (jD h q.2 ∧ True)) := by
  have e1 := j.ks.cn
  have e2 := j.ks.gn
  exact (sf_X12_costsOf (h0 := h) (j.ks.st s0) j.r0 n h x1 hn (jD.rf h) (by omega) (by omega)).mono (fun q hq => ⟨j.deep hq.1, ⟨hq.1, hq.2⟩⟩)
theorem sa_X12_costsAll {h0 : Hp} (s0 : rS h0) (n : Nat) (h : Hp) (hn : 34359738369 ≤ n) (j : jA h0 h) : Ok (F_X12_costsAll n h) (fun q => jA h0 q.2 ∧ (jD h q.2 ∧ True)) := by
  have e1 := j.ks.cn
  have e2 := j.ks.gn
  exact (sf_X12_costsAll (h0 := h) (j.ks.st s0) j.r0 n h hn (jD.rf h)).mono (fun q hq => ⟨j.deep hq.1, ⟨hq.1, hq.2⟩⟩)
theorem sa_X12_cellAt {h0 : Hp} (s0 : rS h0) (n : Nat) (h : Hp) (x1 : Int32) (x2 : Int32) (hn : 1 ≤ n) (j : jA h0 h) : Ok (F_X12_cellAt n h x1 x2) (fun q => q.2 = h ∧ True) := by
  have e1 := j.ks.cn
  have e2 := j.ks.gn
  exact (sf_X12_cellAt (h0 := h) (j.ks.st s0) j.r0 n h x1 x2 hn (jD.rf h)).mono (fun q hq => ⟨hq.1, hq.2⟩)
end
section
/-! sets of cells, by hand: free ones, cells with a TUNE, those that spread, PART -/
theorem shC : ∀ c, c < 26 → ∀ i, i < 32 → bt (((1 : Int32) <<< (Int32.ofNat c &&& 31)) - 1) i = decide (i < c) := by decide +kernel
theorem bt25 : ∀ i, i < 32 → bt 33554431 i = decide (i < 25) := by decide +kernel
theorem bt_small {x : Int32} (h : ∀ i, i < 32 → bt x i = true → i < 25) : 0 ≤ x.toInt ∧ x.toInt ≤ 33554431 := by
  have e : x &&& 33554431 = x := bt_ext (fun i il => by
    rw [bt_and, bt25 i il]
    cases q : bt x i with
    | false => rfl
    | true => rw [decide_eq_true (h i il q)]; rfl)
  have := and_rg x 33554431 33554431 (by decide) (by decide)
  rw [e] at this
  exact this
theorem bt_le {x y : Int32} (h : ∀ i, i < 32 → bt x i = true → bt y i = true) (hy : 0 ≤ y.toInt) : x.toInt ≤ y.toInt := by
  have e : x &&& y = x := bt_ext (fun i il => by
    rw [bt_and]
    cases q : bt x i with
    | false => rfl
    | true => rw [h i il q]; rfl)
  have := and_rg x y y.toInt rfl hy
  rw [e] at this
  exact this.2
theorem sb_free {h0 : Hp} (s0 : rS h0) (r0 : rwO (cnN h0) (hi h0 263)) (n : Nat) (h : Hp) (hn : 1 ≤ n) (j : jD h0 h) : Ok (F_X12_freeBits n h) (fun q => q.2 = h ∧ ∀ i, i < 32 → bt q.1 i = (decide ((i : Int) < cnN h0) && !bt (hi h 263 50) i)) := by
  have f0 := cnR s0
  unfold F_X12_freeBits
  refine Ok.bind (sf_X12_cells s0 r0 n h hn j) (fun q1 hq1 => ?_)
  obtain ⟨e1, x1⟩ := hq1
  rw [e1]
  refine Ok.ret ⟨rfl, fun i il => ?_⟩
  have f1 := ncT (show 0 ≤ q1.1.toInt by omega)
  have f2 := shC (Int32.toNatClampNeg q1.1) (by omega) i il
  rw [nc32 (show 0 ≤ q1.1.toInt by omega)] at f2
  show bt (((1 : Int32) <<< (q1.1 &&& 31) - 1) &&& (hi h 263 50 ^^^ (-1))) i = _
  rw [bt_and, f2, bt_not _ il]
  congr 1
  exact decide_eq_decide.mpr (by omega)
theorem sb_tune {h0 : Hp} (s0 : rS h0) (r0 : rwO (cnN h0) (hi h0 263)) : ∀ n : Nat, ∀ (h : Hp) (l1 l2 : Int32), jD h0 h → 0 ≤ l2.toInt → l2.toInt ≤ cnN h0 → (∀ i, i < 32 → (bt l1 i = true ↔ (i : Int) < l2.toInt ∧ 0 < (hi h 263 i).toInt)) → (1 : Int) + (26 - l2.toInt) < n → Ok (W_X12_tuneBits n 4 h l1 l2) (fun q => q.2 = h ∧ ∀ i, i < 32 → (bt q.1 i = true ↔ (i : Int) < cnN h0 ∧ 0 < (hi h 263 i).toInt)) := by
  have f0 := cnR s0
  intro n
  induction n with
  | zero => intro h l1 l2 j a b c d; exfalso; omega
  | succ n ih =>
    intro h l1 l2 j a b c d
    have f1 := ncT a
    rw [u_X12_tuneBits]
    refine Ok.pos rfl ?_
    refine Ok.bind (sf_X12_cells s0 r0 n h (by omega) j) (fun q1 hq1 => ?_)
    obtain ⟨e1, x1⟩ := hq1
    rw [e1]
    refine Ok.le (fun c1 => ?_) (fun c1 => ?_)
    · refine Ok.ret ⟨rfl, fun i il => ?_⟩
      show bt l1 i = true ↔ _
      rw [c i il]
      constructor
      · intro q; exact ⟨by omega, q.2⟩
      · intro q; exact ⟨by omega, q.2⟩
    · refine Ok.chk (ixT (by omega) (by omega)) (fun c2 => ?_)
      have f2 := adT l2 1
      have f3 := lit_1
      have f4 := lit_0
      refine Ok.le (fun c3 => ?_) (fun c3 => ?_)
      · refine ih h l1 (l2 + 1) j (by omega) (by omega) (fun i il => ?_) (by omega)
        rw [c i il]
        constructor
        · intro q; exact ⟨by omega, q.2⟩
        · intro q
          refine ⟨?_, q.2⟩
          by_cases z : i = Int32.toNatClampNeg l2
          · have := q.2; rw [z] at this; omega
          · omega
      · refine ih h _ (l2 + 1) j (by omega) (by omega) (fun i il => ?_) (by omega)
        rw [bt_add (v := Int32.toNatClampNeg l2) (by omega) (by omega), Bool.or_eq_true, decide_eq_true_eq, c i il]
        constructor
        · rintro (q | q)
          · exact ⟨by omega, q.2⟩
          · subst q; exact ⟨by omega, by omega⟩
        · intro q
          by_cases z : i = Int32.toNatClampNeg l2
          · exact Or.inr z
          · exact Or.inl ⟨by omega, q.2⟩
theorem sb_X12_tuneBits {h0 : Hp} (s0 : rS h0) (r0 : rwO (cnN h0) (hi h0 263)) (n : Nat) (h : Hp) (hn : 100 ≤ n) (j : jD h0 h) : Ok (F_X12_tuneBits n h) (fun q => q.2 = h ∧ ∀ i, i < 32 → (bt q.1 i = true ↔ (i : Int) < cnN h0 ∧ 0 < (hi h 263 i).toInt)) := by
  have f0 := cnR s0
  have f1 := lit_0
  unfold F_X12_tuneBits
  refine sb_tune s0 r0 n h 0 0 j (by omega) (by omega) (fun i il => ?_) (by omega)
  rw [bt_zero]
  constructor
  · intro q; cases q
  · intro q; omega
set_option maxHeartbeats 4000000 in
theorem sb_spread {h0 : Hp} (s0 : rS h0) (r0 : rwO (cnN h0) (hi h0 263)) : ∀ n : Nat, ∀ (h : Hp) (l1 l2 l3 : Int32), jD h0 h → 0 ≤ l3.toInt → (∀ i, i < 32 → (bt l1 i = true ↔ (i : Int) < cnN h0 ∧ 0 < (hi h0 263 i).toInt)) → (∀ i, i < 32 → bt l2 i = true → (i : Int) + 1 < cnN h0 ∧ 0 < (hi h0 263 i).toInt) → (17179869185 : Int) < n → (17179869185 : Int) + (26 - l3.toInt) < n → Ok (W_X12_spreadBits n 9 h l1 l2 l3) (fun q => jD h0 q.2 ∧ ∀ i, i < 32 → bt q.1 i = true → (i : Int) + 1 < cnN h0 ∧ 0 < (hi h0 263 i).toInt) := by
  have f0 := cnR s0
  intro n
  induction n with
  | zero => intro h l1 l2 l3 j a b c e d; exfalso; omega
  | succ n ih =>
    intro h l1 l2 l3 j a b c e d
    have f1 := ncT a
    rw [u_X12_spreadBits]
    refine Ok.pos rfl ?_
    refine Ok.bind (sf_X12_cells s0 r0 n h (by omega) j) (fun q1 hq1 => ?_)
    obtain ⟨e1, x1⟩ := hq1
    rw [e1]
    refine Ok.le (fun c1 => Ok.ret ⟨j, c⟩) (fun c1 => ?_)
    have f2 := adT l3 1
    have f3 := lit_1
    have f4 := lit_0
    have m1 := mlT 5 l3 5 lit_5
    have m2 := adT (5 * l3) 1
    have f5 := lit_5
    have k1 : (5 * l3 + 1 : Int32).toInt = 5 * l3.toInt + 1 := by omega
    have k2 : Int32.toNatClampNeg (5 * l3 + 1) = 5 * Int32.toNatClampNeg l3 + 1 := by
      have := ncT (show 0 ≤ (5 * l3 + 1 : Int32).toInt by omega)
      omega
    refine Ok.chk (ixT (by omega) (by omega)) (fun c2 => ?_)
    have go (hh : Hp) (jj : jD h0 hh) : (1 : Nat) ≤ 1 → Ok (W_X12_spreadBits n 9 hh l1 l2 (l3 + 1)) (fun q => jD h0 q.2 ∧ ∀ i, i < 32 → bt q.1 i = true → (i : Int) + 1 < cnN h0 ∧ 0 < (hi h0 263 i).toInt) := fun _ => ih hh l1 l2 (l3 + 1) jj (by omega) b c (by omega) (by omega)
    refine Ok.ite (fun _ => go h j (Nat.le_refl 1)) (fun c3 => ?_)
    have z := btS0 l1 a (by omega)
    have c4 : bt l1 (Int32.toNatClampNeg l3) = true := by
      cases q : bt l1 (Int32.toNatClampNeg l3) with
      | true => rfl
      | false => exact absurd (Int32.toInt_inj.mp ((z.mpr q).trans lit_0.symm)) c3
    have k3 := sdE s0 j.ks (c := Int32.toNatClampNeg l3) (k := 1) (by omega) (by decide)
    have k4 := sdv_at s0 (c := Int32.toNatClampNeg l3) (k := 1) (by omega) (by decide)
    rw [← k2] at k3
    refine Ok.ite (fun _ => go h j (Nat.le_refl 1)) (fun c5 => ?_)
    have z2 := btS1 l1 (c := hi h 264 (Int32.toNatClampNeg (5 * l3 + 1))) (by omega) (by have := k4.1; omega)
    have k5 : (Int32.toNatClampNeg l3 : Int) + 1 < cnN h0 := by
      rcases k4.2.2.2 rfl with q | q
      · exfalso
        apply c5
        apply Int32.toInt_inj.mp
        rw [lit_1]
        apply z2.mpr
        have := ncT (show 0 ≤ (hi h 264 (Int32.toNatClampNeg (5 * l3 + 1))).toInt by omega)
        rw [show Int32.toNatClampNeg (hi h 264 (Int32.toNatClampNeg (5 * l3 + 1))) = Int32.toNatClampNeg l3 by omega]
        exact c4
      · have := k4.1; omega
    refine Ok.bind (sf_X12_toldOf s0 r0 n h l3 0 0 2 0 (by omega) j a (by omega) (by decide) (by decide)) (fun q7 hq7 => ?_)
    refine Ok.ite (fun _ => go q7.2 hq7.1 (Nat.le_refl 1)) (fun _ => ?_)
    refine Ok.bind (sf_X12_lotOf s0 r0 n q7.2 _ (by omega) hq7.1) (fun q10 hq10 => ?_)
    rw [hq10.1]
    have f6 := liR s0 hq7.1.ks
    refine Ok.chk (ixT (by omega) (by omega)) (fun c6 => ?_)
    refine Ok.ite (fun _ => go q7.2 hq7.1 (Nat.le_refl 1)) (fun _ => ?_)
    refine ih q7.2 l1 _ (l3 + 1) hq7.1 (by omega) b (fun i il q => ?_) (by omega) (by omega)
    rw [bt_add (v := Int32.toNatClampNeg l3) (by omega) (by omega), Bool.or_eq_true, decide_eq_true_eq] at q
    rcases q with q | q
    · exact c i il q
    · subst q
      exact ⟨k5, ((b _ il).mp c4).2⟩
theorem sf_X12_spreadBits {h0 : Hp} (s0 : rS h0) (r0 : rwO (cnN h0) (hi h0 263)) (n : Nat) (h : Hp) (hn : 17179869300 ≤ n) (j : jD h0 h) : Ok (F_X12_spreadBits n h) (fun q => jD h0 q.2 ∧ ∀ i, i < 32 → bt q.1 i = true → (i : Int) + 1 < cnN h0 ∧ 0 < (hi h0 263 i).toInt) := by
  have f1 := lit_0
  unfold F_X12_spreadBits
  refine Ok.bind (sb_X12_tuneBits s0 r0 n h (by omega) j) (fun q1 hq1 => ?_)
  obtain ⟨e1, x1⟩ := hq1
  rw [e1]
  have k1 : hi h 263 = hi h0 263 := j.at 263 (fun _ => rfl)
  rw [k1] at x1
  exact sb_spread s0 r0 n h q1.1 0 0 j (by omega) x1 (fun i il q => by rw [bt_zero] at q; cases q) (by omega) (by omega)
/-! PART -/
set_option maxHeartbeats 4000000 in
theorem sb_part {h0 : Hp} (s0 : rS h0) (r0 : rwO (cnN h0) (hi h0 263)) {h : Hp} (j : jD h0 h) {x1 x2 o : Int32} : ∀ n : Nat, ∀ l4 l5 : Int32, (∀ i, i < 32 → bt l4 i = true → (i : Int) < cnN h0 ∧ bt (hi h 263 50) i = false ∧ bt o i = false) → (300 : Int) + 2 * (67108864 - l4.toInt) + (if l4 = l5 then 0 else 1) < n → Ok (W_X12_isParted n 8 h x1 x2 o l4 l5) (fun q => q.2 = h ∧ True) := by
  have f0 := cnR s0
  intro n
  induction n with
  | zero =>
    intro l4 l5 a b
    exfalso
    have := bt_small (x := l4) (fun i il q => by have := (a i il q).1; omega)
    split at b <;> omega
  | succ n ih =>
    intro l4 l5 a b
    have s1 := bt_small (x := l4) (fun i il q => by have := (a i il q).1; omega)
    rw [u_X12_isParted]
    refine Ok.pos rfl ?_
    refine Ok.ite (fun _ => Ok.ite (fun _ => Ok.ret ⟨rfl, trivial⟩) (fun _ => Ok.ret ⟨rfl, trivial⟩)) (fun c1 => ?_)
    rw [if_neg c1] at b
    refine Ok.bind (sf_X12_nearBits s0 r0 n h l4 (by omega) j) (fun q3 hq3 => ?_)
    obtain ⟨e3, x3⟩ := hq3
    rw [e3]
    refine Ok.bind (sb_free s0 r0 n h (by omega) j) (fun q5 hq5 => ?_)
    obtain ⟨e5, x5⟩ := hq5
    rw [e5]
    have a2 : ∀ i, i < 32 → bt (q3.1 &&& q5.1 &&& (o ^^^ (-1))) i = true → (i : Int) < cnN h0 ∧ bt (hi h 263 50) i = false ∧ bt o i = false := by
      intro i il q
      rw [bt_and, bt_and, x5 i il, bt_not _ il] at q
      simp only [Bool.and_eq_true, decide_eq_true_eq, Bool.not_eq_true'] at q
      exact ⟨q.1.2.1, q.1.2.2, q.2⟩
    have sub : ∀ i, i < 32 → bt l4 i = true → bt (q3.1 &&& q5.1 &&& (o ^^^ (-1))) i = true := by
      intro i il q
      obtain ⟨q1, q2, q4⟩ := a i il q
      rw [bt_and, bt_and, x5 i il, bt_not _ il, decide_eq_true q1, q2, q4]
      have : bt q3.1 i = true := (x3 i il).mpr ⟨i, 0, by omega, by decide, q, (sdv_at s0 q1 (by decide)).2.2.1 rfl⟩
      rw [this]
      rfl
    have s2 := bt_small (x := q3.1 &&& q5.1 &&& (o ^^^ (-1))) (fun i il q => by have := (a2 i il q).1; omega)
    have s3 := bt_le sub s2.1
    refine ih _ l4 a2 ?_
    by_cases z : (q3.1 &&& q5.1 &&& (o ^^^ (-1))) = l4
    · rw [if_pos z, z]; omega
    · rw [if_neg z]
      have : (q3.1 &&& q5.1 &&& (o ^^^ (-1))).toInt ≠ l4.toInt := fun q => z (Int32.toInt_inj.mp q)
      omega
theorem sf_X12_isParted {h0 : Hp} (s0 : rS h0) (r0 : rwO (cnN h0) (hi h0 263)) (n : Nat) (h : Hp) (x1 x2 x3 : Int32) (hn : 17179869184 ≤ n) (j : jD h0 h) (p0 : 0 ≤ x1.toInt) (p1 : x1.toInt < cnN h0) (p2 : bt (hi h 263 50) (Int32.toNatClampNeg x1) = false) (p3 : bt x3 (Int32.toNatClampNeg x1) = false) : Ok (F_X12_isParted n h x1 x2 x3) (fun q => q.2 = h ∧ True) := by
  have f0 := cnR s0
  have f1 := ncT p0
  unfold F_X12_isParted
  have a : ∀ i, i < 32 → bt ((1 : Int32) <<< (x1 &&& 31)) i = true → (i : Int) < cnN h0 ∧ bt (hi h 263 50) i = false ∧ bt x3 i = false := by
    intro i il q
    rw [btL p0 (by omega), decide_eq_true_eq] at q
    subst q
    exact ⟨by omega, p2, p3⟩
  have s1 := bt_small (fun i il q => by have := (a i il q).1; omega)
  refine sb_part s0 r0 j n _ 0 a ?_
  split <;> omega
theorem bN1 {a f : Int32} (a0 : 0 ≤ a.toInt) (a1 : a.toInt < 32) (f0 : 0 ≤ f.toInt) (nn : a.toInt ≠ f.toInt) : bt ((1 : Int32) <<< (a &&& 31)) (Int32.toNatClampNeg f) = false := by
  rw [btL a0 a1]
  have h1 := ncT a0
  have h2 := ncT f0
  exact decide_eq_false (by omega)
theorem bNo {x y : Int32} {i : Nat} (h1 : bt x i = false) (h2 : bt y i = false) : bt (x ||| y) i = false := by
  rw [bt_or, h1, h2]
  rfl
end
section
/-! the reference asked: by hand -/
theorem JAb {h0 h h1 : Hp} {a k : Nat} {v : Int32} (p : a = 267 ∨ a = 268) (e : wrI h a k v = h1) (j : jA h0 h) : jA h0 h1 := by
  rcases p with rfl | rfl
  · exact JAw e j rfl (by decide) (by decide)
  · exact JAw e j rfl (by decide) (by decide)
theorem sf_copy {h0 : Hp} (s0 : rS h0) : ∀ n : Nat, ∀ (h : Hp) (l1 : Int32), kS h0 h → (∀ a k, hl h a k = hl h0 a k) → (∀ k, -1 ≤ (hi h 265 k).toInt ∧ (hi h 265 k).toInt < 25) → 0 ≤ l1.toInt → (∀ k : Nat, (k : Int) < l1.toInt → hi h 263 k = hi h0 262 k) → (1 : Int) < n → (1 : Int) + (63 - l1.toInt) < n → Ok (W_X12_copies n 2 h l1) (fun q => jA h0 q ∧ ∀ k, k < 63 → hi q 263 k = hi h0 262 k) := by
  intro n
  induction n with
  | zero => intro h l1 a b c d e f g; exfalso; omega
  | succ n ih =>
    intro h l1 a b c d e f g
    have f1 := ncT d
    have f63 := lit_63
    rw [u_X12_copies]
    refine Ok.pos rfl ?_
    refine Ok.le (fun c1 => ?_) (fun c1 => ?_)
    · have f2 := liR s0 a
      refine Ok.chk (ixT (by omega) (by omega)) (fun c2 => ?_)
      have w (k : Nat) (hk : k < 63) : hi h 263 k = hi h0 262 k := e k (by omega)
      have j : jA h0 h := by
        refine ⟨a, b, ⟨fun k hk => ?_, fun k h1 h2 => ?_⟩, fun k hk h1 => ?_, c⟩
        · rw [w k (by omega)]; exact s0.2.2.2.2.2.2.1.1 k hk
        · rw [w k (by omega)]; exact s0.2.2.2.2.2.2.1.2 k h1 h2
        · rw [w k (by omega)] at h1 ⊢
          rw [w (25 + k) (by omega)]
          exact s0.2.2.2.2.2.2.2.1 k hk h1
      refine Ok.ret ⟨JAw rfl (JAw rfl j (by decide) (by decide) (by decide)) (by decide) (by decide) (by decide), fun k hk => ?_⟩
      rw [hi_wrI, if_neg (fun z => absurd z.1 (by decide)), hi_wrI, if_neg (fun z => absurd z.1 (by decide))]
      exact w k hk
    · refine Ok.chk (ixT (by omega) (by omega)) (fun c2 => ?_)
      refine Ok.pos c2 ?_
      have f2 := adT l1 1
      have f3 := lit_1
      refine ih _ (l1 + 1) (fun a' k' q => ?_) (fun a' k' => b a' k') (fun k' => ?_) (by omega) (fun k' hk => ?_) (by omega) (by omega)
      · rw [hi_wrI, if_neg (fun z => by rw [z.1] at q; cases q)]
        exact a a' k' q
      · rw [hi_wrI, if_neg (fun z => absurd z.1 (by decide))]
        exact c k'
      · rw [hi_wrI]
        by_cases q : k' = Int32.toNatClampNeg l1
        · rw [if_pos ⟨rfl, q⟩, q]
          exact a 262 _ rfl
        · rw [if_neg (fun z => q z.2)]
          exact e k' (by omega)
theorem sf_X12_copies {h0 : Hp} (s0 : rS h0) (n : Nat) (h : Hp) (hn : 100 ≤ n) (j : jA h0 h) : Ok (F_X12_copies n h) (fun q => jA h0 q ∧ ∀ k, k < 63 → hi q 263 k = hi h0 262 k) := by
  have f1 := lit_0
  unfold F_X12_copies
  exact sf_copy s0 n h 0 j.1 j.2.1 j.2.2.2.2 (by omega) (fun k hk => by omega) (by omega) (by omega)
/-! Euclid -/
theorem sf_gcd : ∀ n : Nat, ∀ (h : Hp) (l0 l1 l2 l3 : Int32), (l2.toInt ≠ 0 ∨ l3.toInt ≠ 0) → 1 + l3.toInt.natAbs < n → Ok (W_X12_greatest n 4 h l0 l1 l2 l3) (fun q => q.2 = h ∧ q.1.toInt ≠ 0) := by
  intro n
  induction n with
  | zero => intro h l0 l1 l2 l3 a b; exfalso; omega
  | succ n ih =>
    intro h l0 l1 l2 l3 a b
    have f1 := lit_0
    rw [u_X12_greatest]
    refine Ok.pos rfl ?_
    refine Ok.eq (fun c1 => ?_) (fun c1 => ?_)
    · refine Ok.ret ⟨rfl, ?_⟩
      show l2.toInt ≠ 0
      omega
    · refine Ok.div (by omega) ?_
      have f2 := rmA l2 l3
      have f3 := Int.natAbs_tmod l2.toInt l3.toInt
      have f4 := Nat.mod_lt l2.toInt.natAbs (show 0 < l3.toInt.natAbs by omega)
      exact ih h l0 l1 l3 _ (Or.inl (by omega)) (by omega)
theorem sa_X12_greatest {h0 : Hp} (s0 : rS h0) (n : Nat) (h : Hp) (x1 x2 : Int32) (hn : 17179869184 ≤ n) (j : jA h0 h) (p0 : x2.toInt ≠ 0) : Ok (F_X12_greatest n h x1 x2) (fun q => q.2 = h ∧ q.1.toInt ≠ 0) := by
  have f1 := rgT x2
  unfold F_X12_greatest
  exact sf_gcd n h x1 x2 x1 x2 (Or.inr p0) (by omega)
/-! NEXT -/
theorem sf_loud {n : Nat} {h : Hp} {x1 x2 : Int32} (h1 : 0 ≤ x1.toInt) (h2 : x1.toInt < 25) (h3 : 0 < (hi h 263 (Int32.toNatClampNeg x1)).toInt) : Ok (F_X12_isLoud n h x1 x2) (fun q => q.2 = h ∧ (q.1.toInt = 0 → ¬ x2.toInt.tmod (hi h 263 (Int32.toNatClampNeg x1)).toInt = (hi h 263 (25 + Int32.toNatClampNeg x1)).toInt)) := by
  have f1 := lit_25
  have f2 := adT 25 x1
  have f0 := lit_0
  have f3 := ncT h1
  have f4 := ncT (show 0 ≤ (25 + x1 : Int32).toInt by omega)
  have f5 : Int32.toNatClampNeg (25 + x1) = 25 + Int32.toNatClampNeg x1 := by omega
  unfold F_X12_isLoud
  refine Ok.chk (ixT (by omega) (by omega)) (fun c1 => ?_)
  refine Ok.le (fun c2 => ?_) (fun c2 => ?_)
  · exfalso; omega
  · refine Ok.pos c1 ?_
    refine Ok.div (by omega) ?_
    refine Ok.chk (ixT (by omega) (by omega)) (fun c3 => ?_)
    refine Ok.eq (fun c4 => ?_) (fun c4 => ?_)
    · refine Ok.ret ⟨rfl, fun q => ?_⟩
      exact absurd q (show ¬ (1 : Int32).toInt = 0 by decide)
    · refine Ok.ret ⟨rfl, fun q => ?_⟩
      rw [rmA, f5] at c4
      exact c4
theorem u32_step (d : Int32) (h : d ≠ 0) : (d - 1).toBitVec.toNat + 1 = d.toBitVec.toNat := by
  have h1 : d.toBitVec.toNat ≠ 0 := fun q => h (Int32.toBitVec_inj.mp (BitVec.eq_of_toNat_eq (q.trans (by decide))))
  have h2 := d.toBitVec.isLt
  rw [Int32.toBitVec_sub, BitVec.toNat_sub, show (Int32.toBitVec 1).toNat = 1 by decide]
  omega
theorem sf_next {h : Hp} {x1 : Int32} (h1 : 0 ≤ x1.toInt) (h2 : x1.toInt < 25) (h3 : 0 < (hi h 263 (Int32.toNatClampNeg x1)).toInt) (h4 : 0 ≤ (hi h 263 (25 + Int32.toNatClampNeg x1)).toInt) (h5 : (hi h 263 (25 + Int32.toNatClampNeg x1)).toInt < (hi h 263 (Int32.toNatClampNeg x1)).toInt) : ∀ n : Nat, ∀ l2 : Int32, 2 + (hi h 263 (25 + Int32.toNatClampNeg x1) - hi h 263 61 - l2).toBitVec.toNat < n → Ok (W_X12_next n 28 h x1 l2) (fun q => q.2 = h ∧ True) := by
  intro n
  induction n with
  | zero => intro l2 a; exfalso; omega
  | succ n ih =>
    intro l2 a
    rw [u_X12_next]
    refine Ok.pos rfl ?_
    refine Ok.bind (sf_loud h1 h2 h3) (fun q1 hq1 => ?_)
    obtain ⟨e1, x1'⟩ := hq1
    rw [e1]
    have f0 := lit_0
    refine Ok.eq (fun c1 => ?_) (fun c1 => Ok.ret ⟨rfl, trivial⟩)
    have c2 := x1' (by omega)
    have c3 : hi h 263 (25 + Int32.toNatClampNeg x1) - hi h 263 61 - l2 ≠ 0 := by
      intro q
      apply c2
      have q2 : hi h 263 61 + l2 = hi h 263 (25 + Int32.toNatClampNeg x1) := by
        have q3 := Int32.sub_eq_iff_eq_add.mp q
        have q4 := Int32.sub_eq_iff_eq_add.mp q3
        rw [q4, Int32.zero_add, Int32.add_comm]
      rw [q2]
      exact Int.tmod_eq_of_lt h4 h5
    have c4 := u32_step _ c3
    refine ih (l2 + 1) ?_
    rw [← Int32.sub_sub (hi h 263 (25 + Int32.toNatClampNeg x1) - hi h 263 61) l2 1]
    omega
theorem sf_X12_next {h0 : Hp} (s0 : rS h0) (n : Nat) (h : Hp) (x1 : Int32) (hn : 17179869185 ≤ n) (j : jA h0 h) : Ok (F_X12_next n h x1) (fun q => jA h0 q.2 ∧ True) := by
  have f0 := cnR s0
  have f1 := lit_0
  unfold F_X12_next
  refine Ok.bind (sa_X12_isCell s0 n h x1 (by omega) j) (fun q4 hq4 => ?_)
  obtain ⟨e4, x4⟩ := hq4
  rw [e4]
  refine Ok.eq (fun c1 => Ok.ret ⟨j, trivial⟩) (fun c1 => ?_)
  have c2 := x4.2.2 (by omega)
  have f2 := ncT c2.1
  refine Ok.chk (ixT (by omega) (by omega)) (fun c3 => ?_)
  have k1 : hi h 262 = hi h0 262 := j.1.at 262 (fun _ => rfl)
  rw [k1]
  refine Ok.eq (fun c4 => Ok.ret ⟨j, trivial⟩) (fun c4 => ?_)
  refine Ok.bind (sf_X12_copies s0 n h (by omega) j) (fun q9 hq9 => ?_)
  obtain ⟨j9, x9⟩ := hq9
  have k2 := s0.2.2.2.2.2.2.1.1 (Int32.toNatClampNeg x1) (by omega)
  have k3 := s0.2.2.2.2.2.2.2.1 (Int32.toNatClampNeg x1) (by omega) (by omega)
  have k4 := x9 (Int32.toNatClampNeg x1) (by omega)
  have k5 := x9 (25 + Int32.toNatClampNeg x1) (by omega)
  have k6 := (hi q9 263 (25 + Int32.toNatClampNeg x1) - hi q9 263 61 - 1).toBitVec.isLt
  refine (sf_next (h := q9) (x1 := x1) c2.1 (by omega) (by rw [k4]; omega) (by rw [k5]; omega) (by rw [k4, k5]; omega) n 1 (by omega)).mono (fun q hq => ⟨?_, trivial⟩)
  rw [hq.1]
  exact j9
end
section
/-! spreading, WAY, PAIRS: by hand -/
theorem sa_spreadBits {h0 : Hp} (s0 : rS h0) (n : Nat) (h : Hp) (hn : 17179869300 ≤ n) (j : jA h0 h) : Ok (F_X12_spreadBits n h) (fun q => jA h0 q.2 ∧ (jD h q.2 ∧ ∀ i, i < 32 → bt q.1 i = true → (i : Int) + 1 < cnN h0 ∧ 0 < (hi h 263 i).toInt)) := by
  have e1 := j.ks.cn
  exact (sf_X12_spreadBits (h0 := h) (j.ks.st s0) j.r0 n h hn (jD.rf h)).mono (fun q hq => ⟨j.deep hq.1, hq.1, fun i il z => by have := hq.2 i il z; rw [e1] at this; exact this⟩)
theorem JAsp {h0 h h1 h2 : Hp} {c k1 k2 : Nat} {b v : Int32} (e1 : wrI h 263 k1 b = h1) (e2 : wrI h1 263 k2 v = h2) (j : jA h0 h) (hc : c + 1 < 25) (hk1 : k1 = c + 1) (hk2 : k2 = c + 26) (hb : b = hi h 263 c) (hp : 0 < b.toInt) (hv : 0 ≤ v.toInt ∧ v.toInt < b.toInt) : jA h0 h2 ∧ (∀ i, 0 < (hi h 263 i).toInt → i < 25 → 0 < (hi h2 263 i).toInt) := by
  subst e1 e2 hk1 hk2
  have e0 (i : Nat) : hi (wrI (wrI h 263 (c + 1) b) 263 (c + 26) v) 263 i = if i = c + 26 then v else if i = c + 1 then b else hi h 263 i := by
    rw [hi_wrI, hi_wrI]
    by_cases q : i = c + 26
    · rw [if_pos q, if_pos ⟨rfl, q⟩]
    · rw [if_neg q, if_neg (fun z => q z.2)]
      by_cases q2 : i = c + 1
      · rw [if_pos q2, if_pos ⟨rfl, q2⟩]
      · rw [if_neg q2, if_neg (fun z => q2 z.2)]
  have hb6 := j.2.2.1.1 c (by omega)
  rw [← hb] at hb6
  refine ⟨⟨fun a' k' q => ?_, fun a' k' => j.2.1 a' k', ⟨fun i il => ?_, fun i h1 h2 => ?_⟩, fun i il h1 => ?_, fun k' => ?_⟩, fun i h1 il => ?_⟩
  · rw [hi_wrI, if_neg (fun z => by rw [z.1] at q; cases q), hi_wrI, if_neg (fun z => by rw [z.1] at q; cases q)]
    exact j.1 a' k' q
  · rw [e0, if_neg (by omega)]
    by_cases q : i = c + 1
    · rw [if_pos q]; exact hb6
    · rw [if_neg q]; exact j.2.2.1.1 i il
  · rw [e0, if_neg (by omega), if_neg (by omega)]
    exact j.2.2.1.2 i h1 h2
  · have a1 : hi (wrI (wrI h 263 (c + 1) b) 263 (c + 26) v) 263 i = if i = c + 1 then b else hi h 263 i := by rw [e0, if_neg (by omega)]
    have a2 := e0 (25 + i)
    rw [a1] at h1 ⊢
    rw [a2]
    by_cases q : i = c + 1
    · rw [if_pos q] at h1 ⊢
      rw [if_pos (by omega)]
      exact hv
    · rw [if_neg q] at h1 ⊢
      rw [if_neg (by omega), if_neg (by omega)]
      exact j.2.2.2.1 i il h1
  · rw [hi_wrI, if_neg (fun z => absurd z.1 (by decide)), hi_wrI, if_neg (fun z => absurd z.1 (by decide))]
    exact j.2.2.2.2 k'
  · rw [e0, if_neg (by omega)]
    by_cases q : i = c + 1
    · rw [if_pos q]; exact hp
    · rw [if_neg q]; exact h1
set_option maxHeartbeats 4000000 in
theorem sf_spr {h0 : Hp} (s0 : rS h0) : ∀ n : Nat, ∀ (h : Hp) (l1 l2 : Int32), jA h0 h → 0 ≤ l2.toInt → (∀ i, i < 32 → bt l1 i = true → (i : Int) + 1 < cnN h0 ∧ 0 < (hi h 263 i).toInt) → (17179869185 : Int) < n → (17179869185 : Int) + (26 - l2.toInt) < n → Ok (W_X12_spreads n 7 h l1 l2) (fun q => jA h0 q ∧ True) := by
  have f0 := cnR s0
  intro n
  induction n with
  | zero => intro h l1 l2 j a b e d; exfalso; omega
  | succ n ih =>
    intro h l1 l2 j a b e d
    have f1 := ncT a
    have f4 := lit_0
    have f3 := lit_1
    have f2 := adT l2 1
    rw [u_X12_spreads]
    refine Ok.pos rfl ?_
    refine Ok.bind (sa_X12_cells s0 n h (by omega) j) (fun q1 hq1 => ?_)
    obtain ⟨e1, x1⟩ := hq1
    rw [e1]
    refine Ok.le (fun c1 => Ok.ret ⟨j, trivial⟩) (fun c1 => ?_)
    have z := btS0 l1 a (by omega)
    refine Ok.ite (fun _ => ih h l1 (l2 + 1) j (by omega) b (by omega) (by omega)) (fun c2 => ?_)
    have c3 : bt l1 (Int32.toNatClampNeg l2) = true := by
      cases q : bt l1 (Int32.toNatClampNeg l2) with
      | true => rfl
      | false => exact absurd (Int32.toInt_inj.mp ((z.mpr q).trans lit_0.symm)) c2
    obtain ⟨k1, k2⟩ := b _ (by omega) c3
    refine Ok.bind (sa_X12_tuneBits s0 n h (by omega) j) (fun q5 hq5 => ?_)
    rw [hq5.1]
    refine Ok.bind (sa_X12_bits s0 n h q5.1 (by omega) j) (fun q7 hq7 => ?_)
    rw [hq7.1]
    refine Ok.ite (fun _ => ?_) (fun _ => ih h l1 (l2 + 1) j (by omega) b (by omega) (by omega))
    have g25 := lit_25
    have g26 := lit_26
    have m1 := adT 25 l2
    have m2 := adT l2 26
    have n1 := ncT (show 0 ≤ (l2 + 1 : Int32).toInt by omega)
    have n2 := ncT (show 0 ≤ (25 + l2 : Int32).toInt by omega)
    have n3 := ncT (show 0 ≤ (l2 + 26 : Int32).toInt by omega)
    refine Ok.chk (ixT (by omega) (by omega)) (fun c5 => ?_)
    refine Ok.chk (ixT (by omega) (by omega)) (fun c6 => ?_)
    refine Ok.chk (ixT (by omega) (by omega)) (fun c7 => ?_)
    refine Ok.pos c5 ?_
    generalize eg : wrI h 263 (Int32.toNatClampNeg (l2 + 1)) (hi h 263 (Int32.toNatClampNeg l2)) = g
    have r1 : hi g 263 (Int32.toNatClampNeg l2) = hi h 263 (Int32.toNatClampNeg l2) := hiK eg 263 _ (by omega)
    have r2 : hi g 263 (Int32.toNatClampNeg (25 + l2)) = hi h 263 (Int32.toNatClampNeg (25 + l2)) := hiK eg 263 _ (by omega)
    have o1 := j.2.2.2.1 (Int32.toNatClampNeg l2) (by omega) k2
    have b6 := j.2.2.1.1 (Int32.toNatClampNeg l2) (by omega)
    rw [show 25 + Int32.toNatClampNeg l2 = Int32.toNatClampNeg (25 + l2) by omega] at o1
    rw [r1, r2]
    refine Ok.div (by omega) ?_
    refine Ok.chk (ixT (by omega) (by omega)) (fun c8 => ?_)
    have a1 := adT (hi h 263 (Int32.toNatClampNeg (25 + l2))) 1
    have rm := rmG (hi h 263 (Int32.toNatClampNeg (25 + l2)) + 1) (hi h 263 (Int32.toNatClampNeg l2)) (by omega) k2
    obtain ⟨jn, pn⟩ := JAsp (c := Int32.toNatClampNeg l2) eg rfl j (by omega) (by omega) (show Int32.toNatClampNeg (l2 + 26) = _ by omega) rfl k2 rm
    exact ih _ l1 (l2 + 1) jn (by omega) (fun i il q => ⟨(b i il q).1, pn i (b i il q).2 (by have := (b i il q).1; omega)⟩) (by omega) (by omega)
theorem sf_X12_spreads {h0 : Hp} (s0 : rS h0) (n : Nat) (h : Hp) (hn : 34359738369 ≤ n) (j : jA h0 h) : Ok (F_X12_spreads n h) (fun q => jA h0 q ∧ True) := by
  have f0 := cnR s0
  have f1 := lit_0
  unfold F_X12_spreads
  refine Ok.bind (sa_spreadBits s0 n h (by omega) j) (fun q1 hq1 => ?_)
  obtain ⟨j1, d1, x1⟩ := hq1
  refine sf_spr s0 n q1.2 q1.1 0 j1 (by omega) (fun i il q => ?_) (by omega) (by omega)
  rw [d1.at 263 (fun _ => rfl)]
  exact x1 i il q
/-! who goes where -/
theorem tnS {h q g : Hp} {x v y : Int32} {c : Int} (e : wrI q 265 (Int32.toNatClampNeg x) v = g) (d : jD h q) (i : ∀ k : Nat, (k : Int) < x.toInt → 0 ≤ (hi h 265 k).toInt ∧ (hi h 265 k).toInt < c) (hx : 0 ≤ x.toInt) (hv : 0 ≤ v.toInt) (hv2 : v.toInt < c) (hy : y.toInt = x.toInt + 1) : ∀ k : Nat, (k : Int) < y.toInt → 0 ≤ (hi g 265 k).toInt ∧ (hi g 265 k).toInt < c := by
  intro k hk
  subst e
  have f := ncT hx
  rw [hi_wrI]
  by_cases z : k = Int32.toNatClampNeg x
  · rw [if_pos ⟨rfl, z⟩]; exact ⟨hv, hv2⟩
  · rw [if_neg (fun w => z w.2), d.at 265 (fun _ => rfl)]
    exact i k (by omega)
theorem tnW {h q g : Hp} {k0 : Nat} {v : Int32} {c m : Int} (e : wrI q 265 k0 v = g) (d : ∀ k, hi q 265 k = hi h 265 k) (i : ∀ k : Nat, (k : Int) < m → (hi h 265 k).toInt < c) (hv : v.toInt < c) : ∀ k : Nat, (k : Int) < m → (hi g 265 k).toInt < c := by
  intro k hk
  subst e
  rw [hi_wrI]
  by_cases z : k = k0
  · rw [if_pos ⟨rfl, z⟩]; exact hv
  · rw [if_neg (fun w => z w.2), d]
    exact i k hk
/-! WAY -/
def nearC (h0 : Hp) (c i : Nat) : Prop := ∃ k, k < 5 ∧ sdv (wdN h0).toNat (hgN h0).toNat c k = i
theorem near_sym {h0 : Hp} (s0 : rS h0) {c i : Nat} (hc : (c : Int) < cnN h0) (hn : nearC h0 c i) : nearC h0 i c ∧ (i : Int) < cnN h0 := by
  obtain ⟨k, h1, h2⟩ := hn
  have h3 := sdv_at s0 hc h1
  rw [h2] at h3
  exact ⟨h3.2.1, h3.1⟩
theorem nbO_iff {h0 : Hp} {x y : Int32} (s0 : rS h0) (h : nbO h0 x y) {i : Nat} (il : i < 32) : bt y i = true ↔ ∃ c : Nat, (c : Int) < cnN h0 ∧ bt x c = true ∧ nearC h0 c i := by
  have f0 := cnR s0
  rw [h i il]
  constructor
  · rintro ⟨c, k, h1, h2, h3, h4⟩
    exact ⟨c, by omega, h3, k, h2, h4⟩
  · rintro ⟨c, h1, h2, k, h3, h4⟩
    exact ⟨c, k, by omega, h3, h2, h4⟩
/-- behind each BEAT one is beside where one was; all on the lawn -/
def rchO (h0 : Hp) (f : Nat → Int32) (x : Int32) (m : Nat) : Prop := f 0 = (1 : Int32) <<< (x &&& 31) ∧ ∀ k, k < m → ∀ i, i < 32 → bt (f (k + 1)) i = true → ∃ c : Nat, (c : Int) < cnN h0 ∧ bt (f k) c = true ∧ nearC h0 c i
theorem sa_X12_nearBits {h0 : Hp} (s0 : rS h0) (n : Nat) (h : Hp) (x1 : Int32) (hn : 300 ≤ n) (j : jA h0 h) : Ok (F_X12_nearBits n h x1) (fun q => q.2 = h ∧ nbO h0 x1 q.1) := by
  have e1 := j.ks.cn
  have e2 := j.ks.wd
  have e3 := j.ks.hg
  refine (sf_X12_nearBits (h0 := h) (j.ks.st s0) j.r0 n h x1 hn (jD.rf h)).mono (fun q hq => ⟨hq.1, ?_⟩)
  have z := hq.2
  unfold nbO nbP at z ⊢
  rw [e1, e2, e3] at z
  exact z
set_option maxHeartbeats 4000000 in
theorem sf_reach {h0 : Hp} (s0 : rS h0) {x : Int32} : ∀ n : Nat, ∀ (h : Hp) (b1 : Nat) (l2 l3 l4 : Int32), jA h0 h → (b1 = 267 ∨ b1 = 268) → 1 ≤ l4.toInt → l4.toInt ≤ 101 → rchO h0 (hi h b1) x (Int32.toNatClampNeg l4 - 1) → (17179869185 : Int) < n → (17179869185 : Int) + (101 - l4.toInt) < n → Ok (W_X12_fillsReach n 9 h b1 l2 l3 l4) (fun q => jA h0 q ∧ (rchO h0 (hi q b1) x 100)) := by
  intro n
  induction n with
  | zero => intro h b1 l2 l3 l4 j p a b c e d; exfalso; omega
  | succ n ih =>
    intro h b1 l2 l3 l4 j p a b c e d
    have f1 := ncT (show 0 ≤ l4.toInt by omega)
    have f2 := lit_100
    have f3 := lit_1
    have f5 := adT l4 1 (by omega) (by omega)
    rw [u_X12_fillsReach]
    refine Ok.pos rfl ?_
    generalize ey : (l4 - 1 : Int32) = y
    have f4 := sbG ey rfl lit_1 (by omega) (by omega)
    refine Ok.lt (fun c1 => ?_) (fun c1 => ?_)
    · refine Ok.ret ⟨j, ?_⟩
      rw [show Int32.toNatClampNeg l4 - 1 = 100 by omega] at c
      exact c
    · refine Ok.chk (ixT (by omega) (by omega)) (fun c2 => ?_)
      have g1 := ncT (show 0 ≤ y.toInt by omega)
      refine Ok.bind (sa_X12_nearBits s0 n h _ (by omega) j) (fun q3 hq3 => ?_)
      obtain ⟨e3, x3⟩ := hq3
      rw [e3]
      refine Ok.bind (sa_X12_safeBits s0 n h _ (by omega) j) (fun q5 hq5 => ?_)
      rw [hq5.1]
      refine Ok.chk (ixT (by omega) (by omega)) (fun c4 => ?_)
      have g2 := ncT (show 0 ≤ (l4 + 1 : Int32).toInt by omega)
      refine ih _ b1 l2 l3 (l4 + 1) (JAb p rfl j) p (by omega) (by omega) ?_ (by omega) (by omega)
      have ra (k : Nat) (hk : k ≠ Int32.toNatClampNeg l4) : hi (wrI h b1 (Int32.toNatClampNeg l4) (q3.1 &&& q5.1)) b1 k = hi h b1 k := by
        rw [hi_wrI, if_neg (fun z => hk z.2)]
      have rb : hi (wrI h b1 (Int32.toNatClampNeg l4) (q3.1 &&& q5.1)) b1 (Int32.toNatClampNeg l4) = q3.1 &&& q5.1 := by
        rw [hi_wrI, if_pos ⟨rfl, rfl⟩]
      refine ⟨by rw [ra 0 (by omega)]; exact c.1, fun k hk i il q => ?_⟩
      by_cases z : k + 1 = Int32.toNatClampNeg l4
      · rw [z, rb, bt_and, Bool.and_eq_true] at q
        rw [ra k (by omega), show k = Int32.toNatClampNeg y by omega]
        exact (nbO_iff s0 x3 il).mp q.1
      · rw [ra (k + 1) z] at q
        rw [ra k (by omega)]
        exact c.2 k (by omega) i il q
theorem sf_X12_fillsReach {h0 : Hp} (s0 : rS h0) (n : Nat) (h : Hp) (b1 : Nat) (x2 x3 : Int32) (hn : 34359738369 ≤ n) (j : jA h0 h) (p0 : b1 = 267 ∨ b1 = 268) : Ok (F_X12_fillsReach n h b1 x2 x3) (fun q => jA h0 q ∧ rchO h0 (hi q b1) x2 100) := by
  have f1 := lit_1
  have f2 := ncT (show 0 ≤ (1 : Int32).toInt by omega)
  unfold F_X12_fillsReach
  refine sf_reach s0 n _ b1 x2 x3 1 (JAb p0 rfl j) p0 (by omega) (by omega) ⟨?_, fun k hk => by omega⟩ (by omega) (by omega)
  rw [hi_wrI, if_pos ⟨rfl, rfl⟩]
theorem sb_first {h : Hp} {l1 l2 : Int32} (a : 0 ≤ l1.toInt) (b : l1.toInt < 32) (c : l2.toInt ≤ 100) : ∀ n : Nat, ∀ l3 : Int32, 0 ≤ l3.toInt → l3.toInt ≤ 101 → (1 : Int) + (101 - l3.toInt) < n → Ok (W_X12_firstAt n 2 h l1 l2 l3) (fun q => q.2 = h ∧ q.1.toInt ≤ 100 ∧ (0 ≤ q.1.toInt → bt (hi h 267 (Int32.toNatClampNeg q.1)) (Int32.toNatClampNeg l1) = true)) := by
  intro n
  induction n with
  | zero => intro l3 d e f; exfalso; omega
  | succ n ih =>
    intro l3 d e f
    have f1 := ncT d
    have f2 := lit_1
    have f3 := adT l3 1
    rw [u_X12_firstAt]
    refine Ok.pos rfl ?_
    refine Ok.lt (fun c1 => ?_) (fun c1 => ?_)
    · exact Ok.ret ⟨rfl, show (-2 : Int32).toInt ≤ 100 by decide, fun q => absurd q (show ¬ 0 ≤ (-2 : Int32).toInt by decide)⟩
    · refine Ok.chk (ixT (by omega) (by omega)) (fun c2 => ?_)
      refine Ok.eq (fun c3 => ?_) (fun c3 => ih (l3 + 1) (by omega) (by omega) (by omega))
      refine Ok.ret ⟨rfl, ?_, fun _ => ?_⟩
      · show l3.toInt ≤ 100; omega
      · rw [lit_1] at c3
        exact (btS1 _ a b).mp c3
theorem sb_X12_firstAt {n : Nat} {h : Hp} {x1 : Int32} (hn : 200 ≤ n) (a : 0 ≤ x1.toInt) (b : x1.toInt < 32) : Ok (F_X12_firstAt n h x1 100) (fun q => q.2 = h ∧ q.1.toInt ≤ 100 ∧ (0 ≤ q.1.toInt → bt (hi h 267 (Int32.toNatClampNeg q.1)) (Int32.toNatClampNeg x1) = true)) := by
  have f1 := lit_0
  unfold F_X12_firstAt
  exact sb_first a b (by decide) n 0 (by omega) (by omega) (by omega)
/-- behind k BEATS, of a way of n -/
def bckO (h0 : Hp) (r b : Nat → Int32) (lo n : Nat) : Prop := ∀ k, lo ≤ k → k ≤ n → (∀ i, i < 32 → bt (b k) i = true → bt (r k) i = true) ∧ (∃ i : Nat, (i : Int) < cnN h0 ∧ bt (b k) i = true) ∧ (k < n → ∀ i, i < 32 → bt (b k) i = true → ∃ c : Nat, (c : Int) < cnN h0 ∧ bt (b (k + 1)) c = true ∧ nearC h0 c i)
set_option maxHeartbeats 4000000 in
theorem sf_beh2 {h0 : Hp} (s0 : rS h0) {h : Hp} (j : jA h0 h) {N : Nat} (bk : bckO h0 (hi h 267) (hi h 269) 0 N) (hN : N ≤ 100) {l1 l2 l3 l4 : Int32} (h4 : l4.toInt ≤ N) : ∀ n : Nat, ∀ l5 l6 : Int32, 1 ≤ l6.toInt → l6.toInt ≤ 101 → 0 ≤ l5.toInt → l5.toInt < cnN h0 → (l6.toInt ≤ N + 1) → bt (hi h 269 (Int32.toNatClampNeg l6 - 1)) (Int32.toNatClampNeg l5) = true → (400 : Int) + (101 - l6.toInt) < n → Ok (W_X12_cellBehind n 59 h l1 l2 l3 l4 l5 l6) (fun q => jA h0 q.2 ∧ True) := by
  have f0 := cnR s0
  intro n
  induction n with
  | zero => intro l5 l6 a b c d e f g; exfalso; omega
  | succ n ih =>
    intro l5 l6 a b c d e f g
    have f1 := ncT c
    have f2 := ncT (show 0 ≤ l6.toInt by omega)
    have f3 := lit_1
    have f4 := adT l6 1
    rw [u_X12_cellBehind]
    refine Ok.neg (by decide) ?_
    refine Ok.pos rfl ?_
    refine Ok.lt (fun c1 => Ok.ret ⟨j, trivial⟩) (fun c1 => ?_)
    refine Ok.bind (sa_X12_nearBits s0 n h _ (by omega) j) (fun q8 hq8 => ?_)
    obtain ⟨e8, x8⟩ := hq8
    rw [e8]
    refine Ok.chk (ixT (by omega) (by omega)) (fun c2 => ?_)
    obtain ⟨-, -, b3⟩ := bk (Int32.toNatClampNeg l6 - 1) (by omega) (by omega)
    obtain ⟨y, y1, y2, y3⟩ := b3 (by omega) _ (by omega) f
    rw [show Int32.toNatClampNeg l6 - 1 + 1 = Int32.toNatClampNeg l6 by omega] at y2
    have y4 := near_sym s0 y1 y3
    have y5 : bt q8.1 y = true := (nbO_iff s0 x8 (by omega)).mpr ⟨Int32.toNatClampNeg l5, by omega, btLc c (by omega), y4.1⟩
    have y6 : q8.1 &&& hi h 269 (Int32.toNatClampNeg l6) ≠ 0 := ne_bt (i := y) (by rw [bt_and, y5, y2]; rfl)
    refine Ok.bind (sf_X12_lowestOf (by omega) y6) (fun q11 hq11 => ?_)
    obtain ⟨e11, w1, w2, w3, -⟩ := hq11
    rw [e11]
    have w4 := ncT w1
    have g2 := ncT (show 0 ≤ (l6 + 1 : Int32).toInt by omega)
    rw [bt_and, Bool.and_eq_true] at w3
    obtain ⟨c', v1, -, v3⟩ := (nbO_iff s0 x8 (by omega)).mp w3.1
    have v4 := (near_sym s0 v1 v3).2
    refine ih q11.1 (l6 + 1) (by omega) (by omega) w1 (by omega) (by omega) ?_ (by omega)
    rw [show Int32.toNatClampNeg (l6 + 1) - 1 = Int32.toNatClampNeg l6 by omega]
    exact w3.2
set_option maxHeartbeats 4000000 in
theorem sf_beh1 {h0 : Hp} (s0 : rS h0) {N : Nat} (hN : N ≤ 100) {l1 l2 l3 l4 : Int32} (h4 : l4.toInt ≤ N) (a1 : 0 ≤ l1.toInt) (a2 : l1.toInt < cnN h0) : ∀ n : Nat, ∀ (h : Hp) (l5 : Int32), jA h0 h → rchO h0 (hi h 267) l1 100 → -1 ≤ l5.toInt → l5.toInt < N → bckO h0 (hi h 267) (hi h 269) (l5.toInt + 1).toNat N → (1000 : Int) + (l5.toInt + 1) < n → Ok (W_X12_cellBehind n 14 h l1 l2 l3 l4 l5 0) (fun q => jA h0 q.2 ∧ True) := by
  have f0 := cnR s0
  intro n
  induction n with
  | zero => intro h l5 j r a b c d; exfalso; omega
  | succ n ih =>
    intro h l5 j r a b c d
    have f3 := lit_1
    have f9 := lit_0
    have f4 := adT l5 1
    rw [u_X12_cellBehind]
    refine Ok.pos rfl ?_
    refine Ok.lt (fun c1 => ?_) (fun c1 => ?_)
    · have c2 : (l5.toInt + 1).toNat = 0 := by omega
      rw [c2] at c
      have f1 := ncT a1
      have f2 := ncT (show 0 ≤ (1 : Int32).toInt by omega)
      refine sf_beh2 s0 j c hN h4 n l1 1 (by omega) (by omega) a1 a2 (by omega) ?_ (by omega)
      rw [show Int32.toNatClampNeg 1 - 1 = 0 by omega]
      obtain ⟨b1, ⟨i, i1, i2⟩, -⟩ := c 0 (Nat.le_refl 0) (Nat.zero_le _)
      have b2 := b1 i (by omega) i2
      rw [r.1, btL a1 (by omega), decide_eq_true_eq] at b2
      rw [← b2]
      exact i2
    · generalize ey : (l5 + (-1) : Int32) = y
      have f5 := adG ey rfl lit_m1 (by omega) (by omega)
      have f1 := ncT (show 0 ≤ l5.toInt by omega)
      have g1 := ncT (show 0 ≤ (l5 + 1 : Int32).toInt by omega)
      have g3 : Int32.toNatClampNeg (l5 + 1) = Int32.toNatClampNeg l5 + 1 := by omega
      refine Ok.chk (ixT (by omega) (by omega)) (fun c2 => ?_)
      refine Ok.bind (sa_X12_nearBits s0 n h _ (by omega) j) (fun q3 hq3 => ?_)
      obtain ⟨e3, x3⟩ := hq3
      rw [e3]
      refine Ok.chk (ixT (by omega) (by omega)) (fun c3 => ?_)
      refine Ok.pos c3 ?_
      generalize eg : wrI h 269 (Int32.toNatClampNeg l5) (q3.1 &&& hi h 267 (Int32.toNatClampNeg l5)) = g
      have r1 : hi g 267 = hi h 267 := funext fun k => hiA eg 267 k (by decide)
      have ra (k : Nat) (hk : k ≠ Int32.toNatClampNeg l5) : hi g 269 k = hi h 269 k := hiK eg 269 k hk
      have rb : hi g 269 (Int32.toNatClampNeg l5) = q3.1 &&& hi h 267 (Int32.toNatClampNeg l5) := hiE eg
      refine ih g y (JAw eg j rfl (by decide) (by decide)) (by rw [r1]; exact r) (by omega) (by omega) ?_ (by omega)
      intro k k1 k2
      by_cases z : k = Int32.toNatClampNeg l5
      · subst z
        have c5 := c (Int32.toNatClampNeg l5 + 1) (by omega) (by omega)
        refine ⟨fun i il q => ?_, ?_, fun _ i il q => ?_⟩
        · rw [rb, bt_and, Bool.and_eq_true] at q
          rw [r1]; exact q.2
        · obtain ⟨i, i1, i2⟩ := c5.2.1
          have i3 := c5.1 i (by omega) i2
          obtain ⟨y, y1, y2, y3⟩ := r.2 _ (by omega) i (by omega) i3
          have y4 := near_sym s0 y1 y3
          refine ⟨y, y1, ?_⟩
          rw [rb, bt_and, y2, Bool.and_true]
          refine (nbO_iff s0 x3 (by omega)).mpr ⟨i, i1, ?_, y4.1⟩
          rw [g3]; exact i2
        · rw [rb, bt_and, Bool.and_eq_true] at q
          obtain ⟨y, y1, y2, y3⟩ := (nbO_iff s0 x3 il).mp q.1
          refine ⟨y, y1, ?_, y3⟩
          rw [ra _ (by omega), ← g3]
          exact y2
      · have c5 := c k (by omega) k2
        rw [r1, ra k z]
        refine ⟨c5.1, c5.2.1, fun q i il w => ?_⟩
        rw [ra (k + 1) (by omega)]
        exact c5.2.2 q i il w
theorem sf_X12_cellBehind {h0 : Hp} (s0 : rS h0) (n : Nat) (h : Hp) (x1 x2 x3 x4 : Int32) (hn : 2000 ≤ n) (j : jA h0 h) (a1 : 0 ≤ x1.toInt) (a2 : x1.toInt < cnN h0) (b1 : 0 ≤ x2.toInt) (b2 : x2.toInt < cnN h0) (c1 : 0 ≤ x3.toInt) (c2 : x3.toInt ≤ 100) (d : x4.toInt ≤ x3.toInt) (r : rchO h0 (hi h 267) x1 100) (t : bt (hi h 267 (Int32.toNatClampNeg x3)) (Int32.toNatClampNeg x2) = true) : Ok (F_X12_cellBehind n h x1 x2 x3 x4) (fun q => jA h0 q.2 ∧ True) := by
  have f0 := cnR s0
  have f1 := ncT c1
  have f2 := ncT b1
  have f3 := lit_1
  unfold F_X12_cellBehind
  generalize ey : (x3 - 1 : Int32) = y
  have f4 := sbG ey rfl lit_1 (by omega) (by omega)
  refine Ok.chk (ixT (by omega) (by omega)) (fun c3 => ?_)
  generalize eg : wrI h 269 (Int32.toNatClampNeg x3) ((1 : Int32) <<< (x2 &&& 31)) = g
  have r1 : hi g 267 = hi h 267 := funext fun k => hiA eg 267 k (by decide)
  have rb : hi g 269 (Int32.toNatClampNeg x3) = (1 : Int32) <<< (x2 &&& 31) := hiE eg
  refine sf_beh1 s0 (N := Int32.toNatClampNeg x3) (by omega) (by omega) a1 a2 n g y (JAw eg j rfl (by decide) (by decide)) (by rw [r1]; exact r) (by omega) (by omega) ?_ (by omega)
  intro k k1 k2
  have z : k = Int32.toNatClampNeg x3 := by omega
  subst z
  rw [r1, rb]
  refine ⟨fun i il q => ?_, ⟨Int32.toNatClampNeg x2, by omega, btLc b1 (by omega)⟩, fun q => absurd q (Nat.lt_irrefl _)⟩
  rw [btL b1 (by omega), decide_eq_true_eq] at q
  rw [q]
  exact t
theorem sf_X12_way {h0 : Hp} (s0 : rS h0) (n : Nat) (h : Hp) (x1 x2 x3 : Int32) (hn : 51539607552 ≤ n) (j : jA h0 h) : Ok (F_X12_way n h x1 x2 x3) (fun q => jA h0 q.2 ∧ True) := by
  have f0 := cnR s0
  have f1 := lit_0
  unfold F_X12_way
  refine Ok.bind (sa_X12_areFree s0 n h x1 x2 (by omega) j) (fun q1 hq1 => ?_)
  obtain ⟨e1, x1'⟩ := hq1
  rw [e1]
  refine Ok.eq (fun _ => Ok.ret ⟨j, trivial⟩) (fun c1 => ?_)
  obtain ⟨a1, a2, a3, a4⟩ := x1' (by omega)
  refine Ok.ite (fun _ => ?_) (fun _ => Ok.ret ⟨j, trivial⟩)
  refine Ok.bind (sf_X12_copies s0 n h (by omega) j) (fun q5 hq5 => ?_)
  refine Ok.bind (sf_X12_fillsReach s0 n q5 267 x1 _ (by omega) hq5.1 (Or.inl rfl)) (fun q7 hq7 => ?_)
  refine Ok.bind (sb_X12_firstAt (by omega) a3 (by omega)) (fun q9 hq9 => ?_)
  obtain ⟨e9, y1, y2⟩ := hq9
  rw [e9]
  refine Ok.lt (fun _ => Ok.ret ⟨hq7.1, trivial⟩) (fun c2 => ?_)
  refine Ok.ite (fun _ => Ok.ret ⟨hq7.1, trivial⟩) (fun _ => ?_)
  refine Ok.le (fun c3 => ?_) (fun _ => Ok.ret ⟨hq7.1, trivial⟩)
  refine Ok.bind (sf_X12_cellBehind s0 n q7 x1 x2 q9.1 x3 (by omega) hq7.1 a1 a2 a3 a4 (by omega) y1 c3 hq7.2 (y2 (by omega))) (fun q14 hq14 => ?_)
  exact Ok.ret ⟨hq14.1, trivial⟩
end
section
/-! PAIRS -/
theorem bt5 : ∀ m, m < 32 → ∀ i, i < 32 → bt (Int32.ofNat m) i = true → i < 5 := by decide +kernel
theorem low5 {x : Int32} (h0 : 0 ≤ x.toInt) (h1 : x.toInt < 32) {i : Nat} (il : i < 32) (hb : bt x i = true) : i < 5 := by
  have f := ncT h0
  have g := bt5 (Int32.toNatClampNeg x) (by omega) i il
  rw [nc32 h0] at g
  exact g hb
theorem sh5A : ∀ m, m < 6 → 1 ≤ ((1 : Int32) <<< (Int32.ofNat m &&& 31)).toInt ∧ ((1 : Int32) <<< (Int32.ofNat m &&& 31)).toInt ≤ 32 := by decide +kernel
theorem sh5 {g : Int32} (h0 : 0 ≤ g.toInt) (h1 : g.toInt ≤ 5) : 1 ≤ ((1 : Int32) <<< (g &&& 31)).toInt ∧ ((1 : Int32) <<< (g &&& 31)).toInt ≤ 32 := by
  have f := ncT h0
  have e := sh5A (Int32.toNatClampNeg g) (by omega)
  rw [nc32 h0] at e
  exact e
theorem sh5bA : ∀ m, m < 6 → ∀ i, i < m → bt (((1 : Int32) <<< (Int32.ofNat m &&& 31)) - 1) i = true := by decide +kernel
theorem sh5b {g : Int32} (h0 : 0 ≤ g.toInt) (h1 : g.toInt ≤ 5) {i : Nat} (hi5 : (i : Int) < g.toInt) : bt (((1 : Int32) <<< (g &&& 31)) - 1) i = true := by
  have f := ncT h0
  have e := sh5bA (Int32.toNatClampNeg g) (by omega) i (by omega)
  rw [nc32 h0] at e
  exact e
theorem low_lt {x : Int32} (h0 : 0 ≤ x.toInt) (h1 : x.toInt < 32) {q : Int32 × Hp} (a : 0 ≤ q.1.toInt) (b : q.1.toInt < 32) (c : bt x (Int32.toNatClampNeg q.1) = true) : q.1.toInt < 5 := by
  have f := ncT a
  have := low5 h0 h1 (by omega) c
  omega
theorem nz1 {x : Int32} (h : 1 ≤ x.toInt) : x ≠ 0 := fun q => by
  rw [q] at h
  exact absurd h (by decide)
set_option maxHeartbeats 4000000 in
theorem sf_paired {h0 : Hp} (s0 : rS h0) : ∀ n : Nat, (∀ (h : Hp) (l1 : Int32), jA h0 h → 1 ≤ l1.toInt → l1.toInt ≤ 32 → (1000 : Int) + 20 * (33 - l1.toInt) < n → Ok (W_X12_fillsPaired n 9 h l1 0 0 0) (fun q => jA h0 q ∧ True)) ∧ (∀ (h : Hp) (l1 l2 l3 l4 : Int32), jA h0 h → 1 ≤ l1.toInt → l1.toInt < 32 → 0 ≤ l2.toInt → l2.toInt < 5 → 0 ≤ l3.toInt → l3.toInt < 32 → 0 ≤ l4.toInt → l4.toInt ≤ 6 → (1000 : Int) + 20 * (33 - l1.toInt) - 1 - l4.toInt < n → Ok (W_X12_fillsPaired n 54 h l1 l2 l3 l4) (fun q => jA h0 q ∧ True)) := by
  have g0 := s0.2.2.2.1
  intro n
  induction n with
  | zero => exact ⟨by intro h l1 j a b c; exfalso; omega, by intro h l1 l2 l3 l4 j a b c d e f g i k; exfalso; omega⟩
  | succ n ih =>
    refine ⟨?_, ?_⟩
    · intro h l1 j a b c
      have f1 := liR s0 j.ks
      have f2 := gnR s0 j.ks
      have f3 := sh5 (g := hi h 242 (Int32.toNatClampNeg (hi h 226 18))) (by omega) (by omega)
      have f9 := lit_1
      rw [u_X12_fillsPaired]
      refine Ok.pos rfl ?_
      refine Ok.chk (ixT (by omega) (by omega)) (fun c1 => ?_)
      refine Ok.le (fun _ => Ok.ret ⟨j, trivial⟩) (fun c2 => ?_)
      refine Ok.bind (sf_X12_lowestOf (by omega) (nz1 a)) (fun q3 hq3 => ?_)
      obtain ⟨e3, w1, w2, w3, -⟩ := hq3
      rw [e3]
      have w4 := low_lt (by omega) (by omega) w1 w2 w3
      have w5 := anL l1 (((1 : Int32) <<< (q3.1 &&& 31)) ^^^ (-1)) (by omega)
      have w6 := adT q3.1 1
      refine Ok.chk (ixT (by omega) (by omega)) (fun c3 => ?_)
      refine Ok.chk (ixT (by omega) (by omega)) (fun c4 => ?_)
      exact ih.2 _ l1 q3.1 _ (q3.1 + 1) (JAw rfl j rfl (by decide) (by decide)) a (by omega) w1 w4 w5.1 (by omega) (by omega) (by omega) (by omega)
    · intro h l1 l2 l3 l4 j a b c d e f g i k
      have f9 := lit_1
      have f5 := lit_5
      have f6 := adT l4 1
      have f7 := adT l1 1
      rw [u_X12_fillsPaired]
      refine Ok.neg (by decide) ?_
      refine Ok.pos rfl ?_
      refine Ok.le (fun c1 => ?_) (fun c1 => ?_)
      · exact ih.1 h (l1 + 1) j (by omega) (by omega) (by omega)
      · refine Ok.ite (fun _ => ?_) (fun _ => ih.2 h l1 l2 l3 (l4 + 1) j a b c d e f (by omega) (by omega) (by omega))
        refine Ok.bind (sa_X12_pairedWith s0 n h l2 l4 l3 (by omega) j c d g (by omega) e f) (fun q9 hq9 => ?_)
        rw [hq9.1]
        refine Ok.chk (ixT (by omega) (by omega)) (fun c3 => ?_)
        refine Ok.ite (fun _ => ih.2 h l1 l2 l3 (l4 + 1) j a b c d e f (by omega) (by omega) (by omega)) (fun _ => ?_)
        refine Ok.bind (sa_X12_pairedWith s0 n h l2 l4 l3 (by omega) j c d g (by omega) e f) (fun q13 hq13 => ?_)
        rw [hq13.1]
        refine Ok.pos c3 ?_
        exact ih.2 _ l1 l2 l3 (l4 + 1) (JAw rfl j rfl (by decide) (by decide)) a b c d e f (by omega) (by omega) (by omega)
theorem sf_X12_fillsPaired {h0 : Hp} (s0 : rS h0) (n : Nat) (h : Hp) (hn : 2000 ≤ n) (j : jA h0 h) : Ok (F_X12_fillsPaired n h) (fun q => jA h0 q ∧ True) := by
  have f1 := lit_1
  unfold F_X12_fillsPaired
  exact (sf_paired s0 n).1 _ 1 (JAw rfl j rfl (by decide) (by decide)) (by omega) (by omega) (by omega)
theorem sf_pOf {h0 : Hp} (s0 : rS h0) {h : Hp} (j : jA h0 h) {l1 l2 l3 : Int32} (a : 1 ≤ l1.toInt) (b : l1.toInt < 32) (c : 0 ≤ l2.toInt) (d : l2.toInt < 5) (e : 0 ≤ l3.toInt) (f : l3.toInt < 32) : ∀ n : Nat, ∀ l4 : Int32, 0 ≤ l4.toInt → l4.toInt ≤ 6 → (1000 : Int) + (6 - l4.toInt) < n → Ok (W_X12_pairedOf n 18 h l1 l2 l3 l4) (fun q => q.2 = h ∧ (q.1.toInt < 0 ∨ (0 ≤ q.1.toInt ∧ q.1.toInt < 5))) := by
  intro n
  induction n with
  | zero => intro l4 g i k; exfalso; omega
  | succ n ih =>
    intro l4 g i k
    have f9 := lit_1
    have f5 := lit_5
    have f6 := adT l4 1
    rw [u_X12_pairedOf]
    refine Ok.pos rfl ?_
    refine Ok.le (fun _ => Ok.ret ⟨rfl, Or.inl (show (-2 : Int32).toInt < 0 by decide)⟩) (fun c1 => ?_)
    refine Ok.ite (fun _ => ?_) (fun _ => ih (l4 + 1) (by omega) (by omega) (by omega))
    refine Ok.bind (sa_X12_pairedWith s0 n h l2 l4 l3 (by omega) j c d g (by omega) e f) (fun q3 hq3 => ?_)
    rw [hq3.1]
    refine Ok.chk (ixT (by omega) (by omega)) (fun c3 => ?_)
    refine Ok.ite (fun _ => Ok.ret ⟨rfl, Or.inr ⟨g, ?_⟩⟩) (fun _ => ih (l4 + 1) (by omega) (by omega) (by omega))
    show l4.toInt < 5
    omega
theorem sf_X12_pairedOf {h0 : Hp} (s0 : rS h0) (n : Nat) (h : Hp) (x1 : Int32) (hn : 2000 ≤ n) (j : jA h0 h) (a : 1 ≤ x1.toInt) (b : x1.toInt < 32) : Ok (F_X12_pairedOf n h x1) (fun q => q.2 = h ∧ (q.1.toInt < 0 ∨ (0 ≤ q.1.toInt ∧ q.1.toInt < 5))) := by
  have f9 := lit_1
  unfold F_X12_pairedOf
  refine Ok.bind (sf_X12_lowestOf (by omega) (nz1 a)) (fun q3 hq3 => ?_)
  obtain ⟨e3, w1, w2, w3, -⟩ := hq3
  rw [e3]
  have w4 := low_lt (by omega) (by omega) w1 w2 w3
  have w5 := anL x1 (((1 : Int32) <<< (q3.1 &&& 31)) ^^^ (-1)) (by omega)
  have w6 := adT q3.1 1
  exact sf_pOf s0 j a b w1 w4 w5.1 (by omega) n _ (by omega) (by omega) (by omega)
theorem bt_rm {x a f : Int32} (a0 : 0 ≤ a.toInt) (a1 : a.toInt < 32) (f0 : 0 ≤ f.toInt) (f1 : f.toInt < 32) (nn : a.toInt ≠ f.toInt) (h : bt x (Int32.toNatClampNeg f) = true) : bt (x &&& (((1 : Int32) <<< (a &&& 31)) ^^^ (-1))) (Int32.toNatClampNeg f) = true := by
  have g := ncT f0
  rw [bt_and, h, bt_not _ (by omega), bN1 a0 a1 f0 nn]
  rfl
theorem bt_pos {x : Int32} {i : Nat} (h0 : 0 ≤ x.toInt) (h : bt x i = true) : 1 ≤ x.toInt := by
  have : x.toInt ≠ 0 := fun q => ne_bt h (Int32.toInt_inj.mp (q.trans lit_0.symm))
  omega
/-- a lowest one taken away: less is left -/
theorem rm_lt {x a : Int32} (h0 : 0 ≤ x.toInt) (a0 : 0 ≤ a.toInt) (a1 : a.toInt < 32) (h : bt x (Int32.toNatClampNeg a) = true) : (x &&& (((1 : Int32) <<< (a &&& 31)) ^^^ (-1))).toInt < x.toInt := by
  have g := ncT a0
  have w := anL x (((1 : Int32) <<< (a &&& 31)) ^^^ (-1)) h0
  have : (x &&& (((1 : Int32) <<< (a &&& 31)) ^^^ (-1))).toInt ≠ x.toInt := by
    intro q
    have q2 := Int32.toInt_inj.mp q
    have q3 : bt (x &&& (((1 : Int32) <<< (a &&& 31)) ^^^ (-1))) (Int32.toNatClampNeg a) = true := by rw [q2]; exact h
    rw [bt_and, bt_not _ (by omega), btLc a0 a1, Bool.not_true, Bool.and_false] at q3
    cases q3
  omega
set_option maxHeartbeats 4000000 in
theorem sf_prs {h0 : Hp} (s0 : rS h0) {h : Hp} (j : jA h0 h) {l1 : Int32} (a : 0 ≤ l1.toInt) (b : l1.toInt < 5) : ∀ n : Nat, ∀ l2 : Int32, 0 ≤ l2.toInt → l2.toInt < 32 → bt l2 (Int32.toNatClampNeg l1) = true → (3000 : Int) + l2.toInt < n → Ok (W_X12_pairs n 61 h l1 l2) (fun q => q.2 = h ∧ True) := by
  intro n
  induction n with
  | zero => intro l2 c d e f; exfalso; omega
  | succ n ih =>
    intro l2 c d e f
    have p1 := bt_pos c e
    rw [u_X12_pairs]
    refine Ok.pos rfl ?_
    refine Ok.bind (sf_X12_lowestOf (by omega) (nz1 p1)) (fun q1 hq1 => ?_)
    obtain ⟨e1, w1, w2, w3, -⟩ := hq1
    rw [e1]
    refine Ok.bind (sf_X12_pairedOf s0 n h l2 (by omega) j p1 d) (fun q3 hq3 => ?_)
    obtain ⟨e3, v1⟩ := hq3
    rw [e3]
    refine Ok.eq (fun _ => Ok.ret ⟨rfl, trivial⟩) (fun c1 => ?_)
    refine Ok.eq (fun _ => Ok.ret ⟨rfl, trivial⟩) (fun c2 => ?_)
    have f1 := lit_0
    have r1 := rm_lt c w1 w2 w3
    have r2 := anL l2 (((1 : Int32) <<< (q1.1 &&& 31)) ^^^ (-1)) c
    have r3 := bt_rm w1 w2 a (by omega) c1 e
    refine Ok.lt (fun c3 => ih _ r2.1 (by omega) r3 (by omega)) (fun c3 => ?_)
    have r4 := anL (l2 &&& (((1 : Int32) <<< (q1.1 &&& 31)) ^^^ (-1))) (((1 : Int32) <<< (q3.1 &&& 31)) ^^^ (-1)) r2.1
    exact ih _ r4.1 (by omega) (bt_rm (by omega) (by omega) a (by omega) c2 r3) (by omega)
theorem sf_X12_pairs {h0 : Hp} (s0 : rS h0) (n : Nat) (h : Hp) (x1 : Int32) (hn : 17179869184 ≤ n) (j : jA h0 h) : Ok (F_X12_pairs n h x1) (fun q => jA h0 q.2 ∧ True) := by
  have f0 := lit_0
  have fm := lit_m1
  have f1 := lit_1
  have tl (q9 : Hp) (jq : jA h0 q9) (hx : x1.toInt = -1 ∨ (0 ≤ x1.toInt ∧ x1.toInt < gnN h0)) : Ok (if ixOK (hi q9 226 18) 2 = true then (if (x1 : Int32) = ((-1) : Int32) then (if ixOK (((1 : Int32) <<< (((hi q9 242 (Int32.toNatClampNeg (hi q9 226 18))) : Int32) &&& 31)) - 1) 32 = true then (if ixOK (hi q9 226 18) 2 = true then some (((hi q9 270 (Int32.toNatClampNeg (((1 : Int32) <<< (((hi q9 242 (Int32.toNatClampNeg (hi q9 226 18))) : Int32) &&& 31)) - 1))) + (10000 * ((hi q9 242 (Int32.toNatClampNeg (hi q9 226 18))) / 2))), q9) else none) else none) else W_X12_pairs n 61 q9 x1 (((1 : Int32) <<< (((hi q9 242 (Int32.toNatClampNeg (hi q9 226 18))) : Int32) &&& 31)) - 1)) else none) (fun q => jA h0 q.2 ∧ True) := by
    have g1 := liR s0 jq.ks
    have g2 := gnR s0 jq.ks
    have g3 := sh5 (g := hi q9 242 (Int32.toNatClampNeg (hi q9 226 18))) (by omega) (by omega)
    have g4 := sbT ((1 : Int32) <<< ((hi q9 242 (Int32.toNatClampNeg (hi q9 226 18))) &&& 31)) 1
    refine Ok.chk (ixT (by omega) (by omega)) (fun c1 => ?_)
    refine Ok.eq (fun c2 => ?_) (fun c2 => ?_)
    · refine Ok.chk (ixT (by omega) (by omega)) (fun c3 => ?_)
      exact Ok.pos c1 (Ok.ret ⟨jq, trivial⟩)
    · have g5 : 0 ≤ x1.toInt ∧ x1.toInt < gnN h0 := by omega
      have g6 := ncT g5.1
      refine (sf_prs s0 jq g5.1 (by omega) n _ (by omega) (by omega) (sh5b (by omega) (by omega) (by omega)) (by omega)).mono (fun q hq => ⟨?_, trivial⟩)
      rw [hq.1]
      exact jq
  unfold F_X12_pairs
  refine Ok.eq (fun c1 => ?_) (fun c1 => ?_)
  · refine Ok.bind (sf_X12_fillsPaired s0 n h (by omega) j) (fun q9 hq9 => ?_)
    exact tl q9 hq9.1 (Or.inl (by omega))
  · refine Ok.bind (sa_X12_isGoer s0 n h x1 (by omega) j) (fun q15 hq15 => ?_)
    obtain ⟨e15, y1⟩ := hq15
    rw [e15]
    refine Ok.eq (fun _ => Ok.ret ⟨j, trivial⟩) (fun c2 => ?_)
    refine Ok.bind (sf_X12_fillsPaired s0 n h (by omega) j) (fun q18 hq18 => ?_)
    exact tl q18 hq18.1 (Or.inr (y1.2.2 (by omega)))
end
section
/-! PART, the whole of it -/
theorem sb_areFree {h0 : Hp} (s0 : rS h0) (n : Nat) (h : Hp) (x1 x2 : Int32) (hn : 1 ≤ n) (j : jA h0 h) : Ok (F_X12_areFree n h x1 x2) (fun q => q.2 = h ∧ (q.1.toInt ≠ 0 → 0 ≤ x1.toInt ∧ x1.toInt < cnN h0 ∧ 0 ≤ x2.toInt ∧ x2.toInt < cnN h0 ∧ bt (hi h0 262 50) (Int32.toNatClampNeg x1) = false)) := by
  have f0 := cnR s0
  have f1 := lit_0
  unfold F_X12_areFree
  refine Ok.bind (sa_X12_isCell s0 n h x1 hn j) (fun q1 hq1 => ?_)
  obtain ⟨e1, y1⟩ := hq1
  rw [e1]
  refine Ok.eq (fun _ => Ok.ret ⟨rfl, fun q => absurd rfl q⟩) (fun c1 => ?_)
  have c2 := y1.2.2 (by omega)
  refine Ok.bind (sa_X12_isCell s0 n h x2 hn j) (fun q4 hq4 => ?_)
  obtain ⟨e4, y4⟩ := hq4
  rw [e4]
  refine Ok.eq (fun _ => Ok.ret ⟨rfl, fun q => absurd rfl q⟩) (fun c3 => ?_)
  have c4 := y4.2.2 (by omega)
  have k1 : hi h 262 50 = hi h0 262 50 := j.1 262 50 (by decide)
  rw [k1]
  refine Ok.eq (fun c5 => ?_) (fun _ => Ok.ret ⟨rfl, fun q => absurd rfl q⟩)
  refine Ok.ite (fun _ => Ok.ret ⟨rfl, fun _ => ⟨c2.1, c2.2, c4.1, c4.2, ?_⟩⟩) (fun _ => Ok.ret ⟨rfl, fun q => absurd rfl q⟩)
  rw [lit_0] at c5
  exact (btS0 _ c2.1 (by omega)).mp c5
theorem sa_X12_isParted {h0 : Hp} (s0 : rS h0) (n : Nat) (h : Hp) (x1 x2 x3 : Int32) (hn : 17179869184 ≤ n) (j : jA h0 h) (p0 : 0 ≤ x1.toInt) (p1 : x1.toInt < cnN h0) (p2 : bt (hi h 263 50) (Int32.toNatClampNeg x1) = false) (p3 : bt x3 (Int32.toNatClampNeg x1) = false) : Ok (F_X12_isParted n h x1 x2 x3) (fun q => q.2 = h ∧ True) := by
  have e1 := j.ks.cn
  exact sf_X12_isParted (h0 := h) (j.ks.st s0) j.r0 n h x1 x2 x3 hn (jD.rf h) p0 (by omega) p2 p3
end
