/-! TOKENS of both are alike -/
def vdL : List Int := [0, 1, 2, 3, 4, 5, 6, 7, 8, 9, 10, 11, 12, 13, 14, 15, 16, 17, 18, 19, 20, 21, 30, 31, 32, 33, 40, 41, 42, 43, 45, 47, 59, 60, 61]
/-- a kind of the class's as the reference numbers it -/
def rk (k : Int) : Int := if k < 9 then 33 + k else if k < 22 then 11 + k else if k = 30 then 2 else if k = 31 then 1 else if k = 32 then 0 else if k = 33 then 3 else sgK k
theorem rk_inj : ∀ k ∈ vdL, ∀ j ∈ vdL, rk k = rk j → k = j := by decide
theorem rk_not : ∀ k ∈ vdL, rk k ≤ 41 ∧ 0 ≤ rk k := by decide
def kb (j : Nat) : Nat → Int := fun x => (kyW.getD j []).getD x 0
def kn (j : Nat) : Nat := (kyW.getD j []).length
def rot (k : Nat) : Nat := if k < 9 then 13 + k else k - 9
def tor (j : Nat) : Nat := if j < 13 then j + 9 else j - 13
theorem ky_wn : ∀ j, j < 22 → kyN j = wnR 27 96 (kb j) 0 (kn j) := by decide
theorem wd_wn : ∀ j, j < 22 → wdN32 (tor j) = wnR 32 96 (kb j) 0 (kn j) := by decide
theorem kb_lt : ∀ j, j < 22 → ∀ x, x < kn j → 97 ≤ kb j (0 + x) ∧ kb j (0 + x) ≤ 122 := by decide
theorem ky_in : ∀ j, j < 22 → ∀ j', j' < 22 → kyN j = kyN j' → j = j' := by decide
theorem rot_in : ∀ k, k < 22 → rot k < 22 ∧ tor (rot k) = k ∧ rk (k : Int) = 20 + (rot k : Int) := by decide
theorem tor_in : ∀ j, j < 22 → tor j < 22 := by decide
section TT
variable {bs : Nat → Int} {m : Nat}
theorem kl_rl {i k : Nat} (hl : ∀ j, j < k → isLt (bs (i + j))) {kd r : Int} (a : KL (wnR 32 96 bs i k) kd) (b : RLk (wnR 27 96 bs i k) r) : r = rk kd ∧ ((0 ≤ kd ∧ kd < 22) ∨ kd = 31) := by
  have up (j : Nat) (hj : j < 22) (e : wnR 32 96 bs i k = wdN32 (tor j)) : wnR 27 96 bs i k = kyN j := by
    rw [wd_wn j hj] at e
    rw [ky_wn j hj]
    exact wn_inj (by decide) k (kn j) hl (fun x hx => kb_lt j hj x hx) e
  have dn (j : Nat) (hj : j < 22) (e : wnR 27 96 bs i k = kyN j) : wnR 32 96 bs i k = wdN32 (tor j) := by
    rw [ky_wn j hj] at e
    rw [wd_wn j hj]
    exact wn_inj (by decide) k (kn j) hl (fun x hx => kb_lt j hj x hx) e
  rcases a with ⟨z, z1, z2, z3, -⟩ | ⟨z1, z2⟩
  · obtain ⟨r1, r2, r3⟩ := rot_in z z1
    have u := up (rot z) r1 (by rw [r2]; exact z3)
    refine ⟨?_, Or.inl (by omega)⟩
    rcases b with ⟨y, y1, y2, y3⟩ | ⟨y1, y2⟩
    · have := ky_in y y1 (rot z) r1 (y3.symm.trans u)
      rw [z2, r3, y2, this]
    · exact absurd u (y2 (rot z) r1)
  · refine ⟨?_, Or.inr z1⟩
    rcases b with ⟨y, y1, y2, y3⟩ | ⟨y1, y2⟩
    · exact absurd (dn y y1 y3) (z2 (tor y) (tor_in y y1))
    · rw [z1, y1]
      decide
theorem TkE.uniq {i e e' : Nat} (a : TkE bs i e) (b : TkE bs i e') : e = e' := by
  rcases a with ⟨a1, a2⟩ | ⟨a1, a2⟩ | ⟨a1, a2, a3⟩ <;> rcases b with ⟨b1, b2⟩ | ⟨b1, b2⟩ | ⟨b1, b2, b3⟩
  · exact a2.uniq b2
  · exact absurd b1 (lt_dg a1)
  · exact absurd a1 b1
  · exact absurd a1 (lt_dg b1)
  · exact a2.uniq b2
  · exact absurd a1 b2
  · exact absurd b1 a1
  · exact absurd b1 a2
  · rw [a3, b3]
/-- what is alike of one TOKEN -/
def TkB (bs : Nat → Int) (i e : Nat) (kd v kd' v' nm : Int) : Prop := kd' = rk kd ∧ kd ∈ vdL ∧ kd ≠ 32 ∧ (kd = 30 → v = v' ∧ 0 ≤ v ∧ v ≤ 9999) ∧ (kd = 31 → e ≤ i + 8 ∧ (∀ j, j < e - i → isLt (bs (i + j))) ∧ v = wnR 32 96 bs i (e - i) ∧ nm = wnR 27 96 bs i (e - i))
theorem vd_w {k : Int} (h1 : 0 ≤ k) (h2 : k < 22) : k ∈ vdL := by
  have : ∀ z : Nat, z < 22 → (z : Int) ∈ vdL := by decide
  have e : k = ((k.toNat : Nat) : Int) := by omega
  rw [e]
  exact this k.toNat (by omega)
theorem sg_v {k : Int} (h : isSg k) : k ∈ vdL ∧ rk k = sgK k ∧ k ≠ 30 ∧ k ≠ 31 ∧ k ≠ 32 := by
  unfold isSg at h
  rcases h with rfl | rfl | rfl | rfl | rfl | rfl | rfl | rfl | rfl <;> decide
theorem tk_both {i e : Nat} {kd v kd' v' nm : Int} (te : TkE bs i e) (a : TkC bs i e kd v) (b : TkR bs i e kd' v' nm) : TkB bs i e kd v kd' v' nm := by
  have d33 : (33 : Int) ∈ vdL := by decide
  have d30 : (30 : Int) ∈ vdL := by decide
  have d31 : (31 : Int) ∈ vdL := by decide
  have r33 : rk 33 = 3 := by decide
  have r30 : rk 30 = 2 := by decide
  rcases a with ⟨a1, a2⟩ | ⟨a1, a2⟩ | ⟨a1, a2⟩ | ⟨a1, a2, a3, a4⟩
  · have b' : (i + 8 < e ∧ kd' = 3) ∨ (e ≤ i + 8 ∧ RLk (wnR 27 96 bs i (e - i)) kd' ∧ nm = wnR 27 96 bs i (e - i)) := by
      rcases b with ⟨-, b2⟩ | ⟨b1, -⟩ | ⟨b1, -, -⟩
      · exact b2
      · exact absurd b1 (lt_dg a1)
      · exact absurd a1 b1
    have rn : RunE isLt bs i e := by
      rcases te with ⟨-, t2⟩ | ⟨t1, -⟩ | ⟨t1, -, -⟩
      · exact t2
      · exact absurd t1 (lt_dg a1)
      · exact absurd a1 t1
    rcases a2 with ⟨x1, x2⟩ | ⟨x1, x2, x3⟩
    · rcases b' with ⟨y1, y2⟩ | ⟨y1, -, -⟩
      · exact ⟨by rw [x2, y2, r33], by rw [x2]; exact d33, by omega, fun z => by omega, fun z => by omega⟩
      · omega
    · rcases b' with ⟨y1, -⟩ | ⟨y1, y2, y3⟩
      · omega
      · have hl (j : Nat) (hj : j < e - i) : isLt (bs (i + j)) := rn.2.1 (i + j) (by omega) (by omega)
        obtain ⟨z1, z2⟩ := kl_rl hl x2 y2
        refine ⟨z1, ?_, by omega, fun z => by omega, fun _ => ⟨x1, hl, x3, y3⟩⟩
        rcases z2 with z2 | z2
        · exact vd_w z2.1 z2.2
        · rw [z2]; exact d31
  · have b' : (i + 4 < e ∧ kd' = 3) ∨ (e ≤ i + 4 ∧ kd' = 2 ∧ v' = wnR 10 48 bs i (e - i)) := by
      rcases b with ⟨b1, -⟩ | ⟨-, b2⟩ | ⟨-, b1, -⟩
      · exact absurd a1 (lt_dg b1)
      · exact b2
      · exact absurd a1 b1
    have rn : RunE isDg bs i e := by
      rcases te with ⟨t1, -⟩ | ⟨-, t2⟩ | ⟨-, t1, -⟩
      · exact absurd a1 (lt_dg t1)
      · exact t2
      · exact absurd a1 t1
    rcases a2 with ⟨x1, x2⟩ | ⟨x1, x2, x3⟩
    · rcases b' with ⟨y1, y2⟩ | ⟨y1, -, -⟩
      · exact ⟨by rw [x2, y2, r33], by rw [x2]; exact d33, by omega, fun z => by omega, fun z => by omega⟩
      · omega
    · rcases b' with ⟨y1, -⟩ | ⟨y1, y2, y3⟩
      · omega
      · have wb := wn_10 (bs := bs) (i := i) (k := e - i) (by omega) (fun j p q => rn.2.1 j p (by omega))
        exact ⟨by rw [x2, y2, r30], by rw [x2]; exact d30, by omega, fun _ => ⟨by rw [x3, y3], by omega, by omega⟩, fun z => by omega⟩
  · obtain ⟨s1, s2, s3, s4, s5⟩ := sg_v a1
    have nl : ¬ isLt (bs i) := by unfold isSg at a1; unfold isLt; omega
    have nd : ¬ isDg (bs i) := by unfold isSg at a1; unfold isDg; omega
    rcases b with ⟨b1, -⟩ | ⟨b1, -⟩ | ⟨-, -, b3⟩
    · exact absurd b1 nl
    · exact absurd b1 nd
    · rw [a2]
      exact ⟨by rw [b3, s2], s1, s5, fun z => absurd z s3, fun z => absurd z s4⟩
  · rcases b with ⟨b1, -⟩ | ⟨b1, -⟩ | ⟨-, -, b3⟩
    · exact absurd b1 a1
    · exact absurd b1 a2
    · have : sgK (bs i) = 3 := by
        unfold isSg at a3
        unfold sgK
        rw [if_neg (by omega), if_neg (by omega), if_neg (by omega), if_neg (by omega), if_neg (by omega), if_neg (by omega), if_neg (by omega), if_neg (by omega), if_neg (by omega)]
      exact ⟨by rw [b3, a4, this, r33], by rw [a4]; exact d33, by omega, fun z => by omega, fun z => by omega⟩
theorem run_ex (B : BS bs m) : ∀ d E : Nat, m ≤ E + d → ∃ p, RunE isBl bs E p := by
  intro d
  induction d with
  | zero =>
    intro E h
    exact ⟨E, RunE.stop (by rw [B.2.1 E (by omega)]; unfold isBl; omega)⟩
  | succ d ih =>
    intro E h
    by_cases z : isBl (bs E)
    · obtain ⟨p, r⟩ := ih (E + 1) (by omega)
      exact ⟨p, r.step z⟩
    · exact ⟨E, RunE.stop z⟩
/-- where TOKENS begin -/
def RN (bs : Nat → Int) (N : Nat) (P : Nat → Nat) : Prop := RunE isBl bs 0 (P 0) ∧ ∀ t, t < N → ∃ e, TkE bs (P t) e ∧ RunE isBl bs e (P (t + 1))
theorem RN.eq {N N' : Nat} {P P' : Nat → Nat} (a : RN bs N P) (b : RN bs N' P') : ∀ t, t ≤ N → t ≤ N' → P t = P' t := by
  intro t
  induction t with
  | zero => intro _ _; exact a.1.uniq b.1
  | succ t ih =>
    intro h1 h2
    have e := ih (by omega) (by omega)
    obtain ⟨x, x1, x2⟩ := a.2 t (by omega)
    obtain ⟨y, y1, y2⟩ := b.2 t (by omega)
    rw [e] at x1
    rw [x1.uniq y1] at x2
    exact x2.uniq y2
/-- the TOKENS of both, N of them -/
def TQ (bs : Nat → Int) (m : Nat) (hc hr : Hp) (N : Nat) : Prop := N ≤ 401 ∧ (hi hc 18 5).toInt = (N : Int) ∧ (hi hc 18 6).toInt = (m : Int) ∧ (N ≤ 400 → (hi hr 229 N).toInt = 0 ∧ (hi hr 230 N).toInt = (m : Int)) ∧ ∃ P : Nat → Nat, RN bs N P ∧ ∀ t, t < N → P t < m ∧ ∃ e kd v v' nm, TkE bs (P t) e ∧ enC hc t (P t) kd v ∧ enR hr t (P t) (rk kd) v' nm ∧ TkB bs (P t) e kd v (rk kd) v' nm
theorem tok_both (B : BS bs m) {h0 hc g0 hr : Hp} (a : ScP bs m h0 hc) (b : CtP bs m g0 hr) : ∃ N, TQ bs m hc hr N := by
  obtain ⟨-, a1, N, P, a2, a3, a4, a5⟩ := a
  obtain ⟨-, N', P', E, b1, b2, b3⟩ := b
  have ra : RN bs N P := ⟨a4.1, fun t ht => by
    obtain ⟨-, e, x, y, -⟩ := a4.2 t ht
    exact ⟨e, x, y⟩⟩
  obtain ⟨p, hp⟩ := run_ex B m E (by omega)
  have rb : RN bs N' (updP P' N' p) := by
    refine ⟨?_, fun t ht => ?_⟩
    · by_cases z : 0 < N'
      · rw [updP_ne (by omega)]; exact b2.2.1 z
      · have z0 : N' = 0 := by omega
        rw [z0, updP_eq]
        rw [b2.1 z0] at hp
        exact hp
    · obtain ⟨-, e, x1, x2, x3, -⟩ := b2.2.2 t ht
      rw [updP_ne (t := t) (by omega)]
      refine ⟨e, x1, ?_⟩
      by_cases z : t + 1 < N'
      · rw [updP_ne (by omega)]; exact x3 z
      · have z1 : t + 1 = N' := by omega
        rw [z1, updP_eq, ← x2 z1]; exact hp
  have eq := ra.eq rb
  have nn : N = N' := by
    rcases Nat.lt_trichotomy N N' with z | z | z
    · exfalso
      have e := eq N (Nat.le_refl N) (by omega)
      rw [updP_ne (by omega)] at e
      have l := (b2.2.2 N z).1
      rcases a5 with q | q
      · omega
      · omega
    · exact z
    · exfalso
      have e := eq N' (by omega) (Nat.le_refl N')
      rw [updP_eq] at e
      have l := (a4.2 N' z).1
      rcases b3 with q | ⟨-, -, -, q⟩
      · omega
      · have := hp.uniq q
        omega
  subst nn
  refine ⟨N, a3, a2, a1, fun z => ?_, P, ra, fun t ht => ?_⟩
  · rcases b3 with q | ⟨-, q1, q2, -⟩
    · omega
    · exact ⟨q1, q2⟩
  · obtain ⟨x1, e, x2, x3, kd, v, x4, x5⟩ := a4.2 t ht
    obtain ⟨y1, e', y2, -, -, kd', v', nm, y5, y6⟩ := b2.2.2 t ht
    have ep := eq t (by omega) (by omega)
    rw [updP_ne (by omega)] at ep
    rw [← ep] at y2 y5 y6
    rw [← x2.uniq y2] at y5
    have tb := tk_both x2 x4 y5
    rw [tb.1] at y6
    exact ⟨x1, e, kd, v, v', nm, x2, x5, y6, by have := tb; rw [tb.1] at this; exact this⟩
end TT
