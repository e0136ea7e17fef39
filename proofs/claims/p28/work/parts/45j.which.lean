section
/-! A STATEMENT, of both: which -/
section JU
variable {N : Nat} {kd pl vl nm : Nat → Int} {s : Nat} {hc hr : Hp} {st : Int × Nat × Int × Int} {n m : Nat}
theorem lit_21 : (21 : Int32).toInt = 21 := by decide
theorem lit_23 : (23 : Int32).toInt = 23 := by decide
theorem lit_24 : (24 : Int32).toInt = 24 := by decide
theorem lit_27 : (27 : Int32).toInt = 27 := by decide
theorem lit_28 : (28 : Int32).toInt = 28 := by decide
theorem lit_29 : (29 : Int32).toInt = 29 := by decide
set_option maxHeartbeats 4000000 in
theorem rt_lawn (X : TX N kd pl vl) (j : JA N kd pl vl nm s hc hr st) (hs : s ≤ 1) (fz : st.1 = 0) (hk : kd st.2.1 = 9) {qc : Hp} (a : clP kd pl vl st hc qc) : Pc (F_X12_tellOne m hr) (jtP N kd pl vl nm s st qc) := by
  have f0 := lit_0
  have S1 := j.2.2.2.1.1
  rw [fz] at S1
  have st11 := S1.2.2.1 rfl
  have n1 := ncT (show 0 ≤ (hi hr 226 11).toInt by omega)
  have n2 : Int32.toNatClampNeg (hi hr 226 11) = st.2.1 := by omega
  have rt := (j.1.2.1 _ j.2.1).1
  rw [hk] at rt
  have l20 := lit_20
  have l21 := lit_21
  have l22 := lit_22
  have l23 := lit_23
  have l24 := lit_24
  have l25 := lit_25
  have l26 := lit_26
  have l27 := lit_27
  have l28 := lit_28
  have l29 := lit_29
  unfold F_X12_tellOne
  rw [n2]
  refine Pc.chk (fun _ => ?_)
  have rk' : rk 9 = 20 := by decide
  rw [rk'] at rt
  exact Pc.eq (fun _ => (rq_lawn X j.1.2.1 j.2.1 j.2.2.2.1 fz hk j.1.2.2.2).mono (fun qr b => ⟨_, j_lawn X j a b, jl_t⟩)) (fun c => by exfalso; omega)
set_option maxHeartbeats 4000000 in
theorem rt_tune (X : TX N kd pl vl) (j : JA N kd pl vl nm s hc hr st) (hs : s ≤ 1) (fz : st.1 = 0) (hk : kd st.2.1 = 10) {qc : Hp} (a : ctP kd pl vl st hc qc) : Pc (F_X12_tellOne m hr) (jtP N kd pl vl nm s st qc) := by
  have f0 := lit_0
  have S1 := j.2.2.2.1.1
  rw [fz] at S1
  have st11 := S1.2.2.1 rfl
  have n1 := ncT (show 0 ≤ (hi hr 226 11).toInt by omega)
  have n2 : Int32.toNatClampNeg (hi hr 226 11) = st.2.1 := by omega
  have rt := (j.1.2.1 _ j.2.1).1
  rw [hk] at rt
  have l20 := lit_20
  have l21 := lit_21
  have l22 := lit_22
  have l23 := lit_23
  have l24 := lit_24
  have l25 := lit_25
  have l26 := lit_26
  have l27 := lit_27
  have l28 := lit_28
  have l29 := lit_29
  unfold F_X12_tellOne
  rw [n2]
  refine Pc.chk (fun _ => ?_)
  have rk' : rk 10 = 21 := by decide
  rw [rk'] at rt
  refine Pc.eq (fun c => by exfalso; omega) (fun _ => ?_)
  have z := j.2.2.2.2 fz
  exact Pc.eq (fun _ => (rq_tune X hs j.1.2.1 j.2.1 j.2.2.2.1 fz hk j.1.2.2.2 z.2.1.1.2.1 z.2.1.1.2.2).mono (fun qr b => j_tune X j fz a b)) (fun c => by exfalso; omega)
set_option maxHeartbeats 4000000 in
theorem rt_goer (X : TX N kd pl vl) (Y : TN N kd vl nm) (j : JA N kd pl vl nm s hc hr st) (hs : s ≤ 1) (fz : st.1 = 0) (hk : kd st.2.1 = 11) {qc : Hp} (a : cgP kd pl vl st hc qc) : Pc (F_X12_tellOne m hr) (jtP N kd pl vl nm s st qc) := by
  have f0 := lit_0
  have S1 := j.2.2.2.1.1
  rw [fz] at S1
  have st11 := S1.2.2.1 rfl
  have n1 := ncT (show 0 ≤ (hi hr 226 11).toInt by omega)
  have n2 : Int32.toNatClampNeg (hi hr 226 11) = st.2.1 := by omega
  have rt := (j.1.2.1 _ j.2.1).1
  rw [hk] at rt
  have l20 := lit_20
  have l21 := lit_21
  have l22 := lit_22
  have l23 := lit_23
  have l24 := lit_24
  have l25 := lit_25
  have l26 := lit_26
  have l27 := lit_27
  have l28 := lit_28
  have l29 := lit_29
  unfold F_X12_tellOne
  rw [n2]
  refine Pc.chk (fun _ => ?_)
  have rk' : rk 11 = 22 := by decide
  rw [rk'] at rt
  refine Pc.eq (fun c => by exfalso; omega) (fun _ => ?_)
  refine Pc.eq (fun c => by exfalso; omega) (fun _ => ?_)
  have z := j.2.2.2.2 fz
  exact Pc.eq (fun _ => (rq_goer X hs j.1.2.1 j.2.1 j.2.2.2.1 fz hk j.1.2.2.2 z.2.1.2.1.2.1 z.2.1.2.1.2.2 z.2.1.2.2.2).mono (fun qr b => j_goer X Y j fz a b)) (fun c => by exfalso; omega)
set_option maxHeartbeats 4000000 in
theorem rt_rope (X : TX N kd pl vl) (j : JA N kd pl vl nm s hc hr st) (hs : s ≤ 1) (fz : st.1 = 0) (hk : kd st.2.1 = 12) {qc : Hp} (a : crP kd pl vl st hc qc) : Pc (F_X12_tellOne m hr) (jtP N kd pl vl nm s st qc) := by
  have f0 := lit_0
  have S1 := j.2.2.2.1.1
  rw [fz] at S1
  have st11 := S1.2.2.1 rfl
  have n1 := ncT (show 0 ≤ (hi hr 226 11).toInt by omega)
  have n2 : Int32.toNatClampNeg (hi hr 226 11) = st.2.1 := by omega
  have rt := (j.1.2.1 _ j.2.1).1
  rw [hk] at rt
  have l20 := lit_20
  have l21 := lit_21
  have l22 := lit_22
  have l23 := lit_23
  have l24 := lit_24
  have l25 := lit_25
  have l26 := lit_26
  have l27 := lit_27
  have l28 := lit_28
  have l29 := lit_29
  unfold F_X12_tellOne
  rw [n2]
  refine Pc.chk (fun _ => ?_)
  have rk' : rk 12 = 23 := by decide
  rw [rk'] at rt
  refine Pc.eq (fun c => by exfalso; omega) (fun _ => ?_)
  refine Pc.eq (fun c => by exfalso; omega) (fun _ => ?_)
  refine Pc.eq (fun c => by exfalso; omega) (fun _ => ?_)
  have z := j.2.2.2.2 fz
  refine Pc.eq (fun _ => (rq_rope X hs j.1.2.1 j.2.1 j.2.2.2.1 fz hk j.1.2.2.2 z.2.1.2.2.1.2.1 z.2.1.2.2.1.2.2).mono (fun qr b => ?_)) (fun c => by exfalso; omega)
  rcases j_rope X j fz a b with y | y
  · exact ⟨_, y, jr_t⟩
  · exact ⟨_, y, fun z => absurd z (show ¬ (2 : Int) = 0 by decide)⟩
set_option maxHeartbeats 4000000 in
theorem rt_law13 (X : TX N kd pl vl) (j : JA N kd pl vl nm s hc hr st) (hs : s ≤ 1) (fz : st.1 = 0) (hk : kd st.2.1 = 13) {qc : Hp} (a : tkK hc qc ∧ fC hc qc ∧ ∃ f1 t1 i, lwF kd i 0 (tkS kd 61 (tkQ kd 13 st).1 (tkQ kd 13 st).2.1).1 (tkS kd 61 (tkQ kd 13 st).1 (tkQ kd 13 st).2.1).2 f1 t1 ∧ cQ qc (laE kd f1 t1 st) ∧ tI2 N t1) : Pc (F_X12_tellOne m hr) (jtP N kd pl vl nm s st qc) := by
  have f0 := lit_0
  have S1 := j.2.2.2.1.1
  rw [fz] at S1
  have st11 := S1.2.2.1 rfl
  have n1 := ncT (show 0 ≤ (hi hr 226 11).toInt by omega)
  have n2 : Int32.toNatClampNeg (hi hr 226 11) = st.2.1 := by omega
  have rt := (j.1.2.1 _ j.2.1).1
  rw [hk] at rt
  have l20 := lit_20
  have l21 := lit_21
  have l22 := lit_22
  have l23 := lit_23
  have l24 := lit_24
  have l25 := lit_25
  have l26 := lit_26
  have l27 := lit_27
  have l28 := lit_28
  have l29 := lit_29
  unfold F_X12_tellOne
  rw [n2]
  refine Pc.chk (fun _ => ?_)
  have rk' : rk 13 = 24 := by decide
  rw [rk'] at rt
  refine Pc.eq (fun c => by exfalso; omega) (fun _ => ?_)
  refine Pc.eq (fun c => by exfalso; omega) (fun _ => ?_)
  refine Pc.eq (fun c => by exfalso; omega) (fun _ => ?_)
  refine Pc.eq (fun c => by exfalso; omega) (fun _ => ?_)
  have od := (j.2.2.2.2 fz).1
  have sb := sbT (hi hr 229 st.2.1) 24 (by omega) (by omega)
  have s13 := S1.2.1
  refine Pc.eq (fun _ => ?_) (fun c => by exfalso; omega)
  refine Pc.chk (fun _ => ?_)
  refine Pc.lt (fun c => by exfalso; omega) (fun _ => ?_)
  refine Pc.chk (fun _ => ?_)
  refine Pc.le (fun _ => ?_) (fun c => by exfalso; omega)
  exact Pc.le (fun _ => (rq_law X j.1.2.1 j.2.1 j.2.2.2.1 fz od 13 hk (by decide)).mono (fun qr b => j_law X j fz a b hk)) (fun c => by exfalso; omega)
set_option maxHeartbeats 4000000 in
theorem rt_law14 (X : TX N kd pl vl) (j : JA N kd pl vl nm s hc hr st) (hs : s ≤ 1) (fz : st.1 = 0) (hk : kd st.2.1 = 14) {qc : Hp} (a : tkK hc qc ∧ fC hc qc ∧ ∃ f1 t1 i, lwF kd i 0 (tkS kd 61 (tkQ kd 14 st).1 (tkQ kd 14 st).2.1).1 (tkS kd 61 (tkQ kd 14 st).1 (tkQ kd 14 st).2.1).2 f1 t1 ∧ cQ qc (laE kd f1 t1 st) ∧ tI2 N t1) : Pc (F_X12_tellOne m hr) (jtP N kd pl vl nm s st qc) := by
  have f0 := lit_0
  have S1 := j.2.2.2.1.1
  rw [fz] at S1
  have st11 := S1.2.2.1 rfl
  have n1 := ncT (show 0 ≤ (hi hr 226 11).toInt by omega)
  have n2 : Int32.toNatClampNeg (hi hr 226 11) = st.2.1 := by omega
  have rt := (j.1.2.1 _ j.2.1).1
  rw [hk] at rt
  have l20 := lit_20
  have l21 := lit_21
  have l22 := lit_22
  have l23 := lit_23
  have l24 := lit_24
  have l25 := lit_25
  have l26 := lit_26
  have l27 := lit_27
  have l28 := lit_28
  have l29 := lit_29
  unfold F_X12_tellOne
  rw [n2]
  refine Pc.chk (fun _ => ?_)
  have rk' : rk 14 = 25 := by decide
  rw [rk'] at rt
  refine Pc.eq (fun c => by exfalso; omega) (fun _ => ?_)
  refine Pc.eq (fun c => by exfalso; omega) (fun _ => ?_)
  refine Pc.eq (fun c => by exfalso; omega) (fun _ => ?_)
  refine Pc.eq (fun c => by exfalso; omega) (fun _ => ?_)
  refine Pc.eq (fun c => by exfalso; omega) (fun _ => ?_)
  have od := (j.2.2.2.2 fz).1
  have sb := sbT (hi hr 229 st.2.1) 24 (by omega) (by omega)
  have s13 := S1.2.1
  refine Pc.eq (fun _ => ?_) (fun c => by exfalso; omega)
  refine Pc.chk (fun _ => ?_)
  refine Pc.lt (fun c => by exfalso; omega) (fun _ => ?_)
  refine Pc.chk (fun _ => ?_)
  refine Pc.le (fun _ => ?_) (fun c => by exfalso; omega)
  exact Pc.le (fun _ => (rq_law X j.1.2.1 j.2.1 j.2.2.2.1 fz od 14 hk (by decide)).mono (fun qr b => j_law X j fz a b hk)) (fun c => by exfalso; omega)
set_option maxHeartbeats 4000000 in
theorem rt_law15 (X : TX N kd pl vl) (j : JA N kd pl vl nm s hc hr st) (hs : s ≤ 1) (fz : st.1 = 0) (hk : kd st.2.1 = 15) {qc : Hp} (a : tkK hc qc ∧ fC hc qc ∧ ∃ f1 t1 i, lwF kd i 0 (tkS kd 61 (tkQ kd 15 st).1 (tkQ kd 15 st).2.1).1 (tkS kd 61 (tkQ kd 15 st).1 (tkQ kd 15 st).2.1).2 f1 t1 ∧ cQ qc (laE kd f1 t1 st) ∧ tI2 N t1) : Pc (F_X12_tellOne m hr) (jtP N kd pl vl nm s st qc) := by
  have f0 := lit_0
  have S1 := j.2.2.2.1.1
  rw [fz] at S1
  have st11 := S1.2.2.1 rfl
  have n1 := ncT (show 0 ≤ (hi hr 226 11).toInt by omega)
  have n2 : Int32.toNatClampNeg (hi hr 226 11) = st.2.1 := by omega
  have rt := (j.1.2.1 _ j.2.1).1
  rw [hk] at rt
  have l20 := lit_20
  have l21 := lit_21
  have l22 := lit_22
  have l23 := lit_23
  have l24 := lit_24
  have l25 := lit_25
  have l26 := lit_26
  have l27 := lit_27
  have l28 := lit_28
  have l29 := lit_29
  unfold F_X12_tellOne
  rw [n2]
  refine Pc.chk (fun _ => ?_)
  have rk' : rk 15 = 26 := by decide
  rw [rk'] at rt
  refine Pc.eq (fun c => by exfalso; omega) (fun _ => ?_)
  refine Pc.eq (fun c => by exfalso; omega) (fun _ => ?_)
  refine Pc.eq (fun c => by exfalso; omega) (fun _ => ?_)
  refine Pc.eq (fun c => by exfalso; omega) (fun _ => ?_)
  refine Pc.eq (fun c => by exfalso; omega) (fun _ => ?_)
  refine Pc.eq (fun c => by exfalso; omega) (fun _ => ?_)
  have od := (j.2.2.2.2 fz).1
  have sb := sbT (hi hr 229 st.2.1) 24 (by omega) (by omega)
  have s13 := S1.2.1
  refine Pc.eq (fun _ => ?_) (fun c => by exfalso; omega)
  refine Pc.chk (fun _ => ?_)
  refine Pc.lt (fun c => by exfalso; omega) (fun _ => ?_)
  refine Pc.chk (fun _ => ?_)
  refine Pc.le (fun _ => ?_) (fun c => by exfalso; omega)
  exact Pc.le (fun _ => (rq_law X j.1.2.1 j.2.1 j.2.2.2.1 fz od 15 hk (by decide)).mono (fun qr b => j_law X j fz a b hk)) (fun c => by exfalso; omega)
set_option maxHeartbeats 4000000 in
theorem rt_law16 (X : TX N kd pl vl) (j : JA N kd pl vl nm s hc hr st) (hs : s ≤ 1) (fz : st.1 = 0) (hk : kd st.2.1 = 16) {qc : Hp} (a : tkK hc qc ∧ fC hc qc ∧ ∃ f1 t1 i, lwF kd i 0 (tkS kd 61 (tkQ kd 16 st).1 (tkQ kd 16 st).2.1).1 (tkS kd 61 (tkQ kd 16 st).1 (tkQ kd 16 st).2.1).2 f1 t1 ∧ cQ qc (laE kd f1 t1 st) ∧ tI2 N t1) : Pc (F_X12_tellOne m hr) (jtP N kd pl vl nm s st qc) := by
  have f0 := lit_0
  have S1 := j.2.2.2.1.1
  rw [fz] at S1
  have st11 := S1.2.2.1 rfl
  have n1 := ncT (show 0 ≤ (hi hr 226 11).toInt by omega)
  have n2 : Int32.toNatClampNeg (hi hr 226 11) = st.2.1 := by omega
  have rt := (j.1.2.1 _ j.2.1).1
  rw [hk] at rt
  have l20 := lit_20
  have l21 := lit_21
  have l22 := lit_22
  have l23 := lit_23
  have l24 := lit_24
  have l25 := lit_25
  have l26 := lit_26
  have l27 := lit_27
  have l28 := lit_28
  have l29 := lit_29
  unfold F_X12_tellOne
  rw [n2]
  refine Pc.chk (fun _ => ?_)
  have rk' : rk 16 = 27 := by decide
  rw [rk'] at rt
  refine Pc.eq (fun c => by exfalso; omega) (fun _ => ?_)
  refine Pc.eq (fun c => by exfalso; omega) (fun _ => ?_)
  refine Pc.eq (fun c => by exfalso; omega) (fun _ => ?_)
  refine Pc.eq (fun c => by exfalso; omega) (fun _ => ?_)
  refine Pc.eq (fun c => by exfalso; omega) (fun _ => ?_)
  refine Pc.eq (fun c => by exfalso; omega) (fun _ => ?_)
  refine Pc.eq (fun c => by exfalso; omega) (fun _ => ?_)
  have od := (j.2.2.2.2 fz).1
  have sb := sbT (hi hr 229 st.2.1) 24 (by omega) (by omega)
  have s13 := S1.2.1
  refine Pc.eq (fun _ => ?_) (fun c => by exfalso; omega)
  refine Pc.chk (fun _ => ?_)
  refine Pc.lt (fun c => by exfalso; omega) (fun _ => ?_)
  refine Pc.chk (fun _ => ?_)
  refine Pc.le (fun _ => ?_) (fun c => by exfalso; omega)
  exact Pc.le (fun _ => (rq_law X j.1.2.1 j.2.1 j.2.2.2.1 fz od 16 hk (by decide)).mono (fun qr b => j_law X j fz a b hk)) (fun c => by exfalso; omega)
set_option maxHeartbeats 4000000 in
theorem rt_wet (X : TX N kd pl vl) (j : JA N kd pl vl nm s hc hr st) (hs : s ≤ 1) (fz : st.1 = 0) (hk : kd st.2.1 = 17) {qc : Hp} (a : tkK hc qc ∧ fC hc qc ∧ cQ qc (tkQ kd 59 (nbQ kd pl vl (0 : Int32).toInt (100 : Int32).toInt (tkQ kd 17 st)))) : Pc (F_X12_tellOne m hr) (jtP N kd pl vl nm s st qc) := by
  have f0 := lit_0
  have S1 := j.2.2.2.1.1
  rw [fz] at S1
  have st11 := S1.2.2.1 rfl
  have n1 := ncT (show 0 ≤ (hi hr 226 11).toInt by omega)
  have n2 : Int32.toNatClampNeg (hi hr 226 11) = st.2.1 := by omega
  have rt := (j.1.2.1 _ j.2.1).1
  rw [hk] at rt
  have l20 := lit_20
  have l21 := lit_21
  have l22 := lit_22
  have l23 := lit_23
  have l24 := lit_24
  have l25 := lit_25
  have l26 := lit_26
  have l27 := lit_27
  have l28 := lit_28
  have l29 := lit_29
  unfold F_X12_tellOne
  rw [n2]
  refine Pc.chk (fun _ => ?_)
  have rk' : rk 17 = 28 := by decide
  rw [rk'] at rt
  refine Pc.eq (fun c => by exfalso; omega) (fun _ => ?_)
  refine Pc.eq (fun c => by exfalso; omega) (fun _ => ?_)
  refine Pc.eq (fun c => by exfalso; omega) (fun _ => ?_)
  refine Pc.eq (fun c => by exfalso; omega) (fun _ => ?_)
  refine Pc.eq (fun c => by exfalso; omega) (fun _ => ?_)
  refine Pc.eq (fun c => by exfalso; omega) (fun _ => ?_)
  refine Pc.eq (fun c => by exfalso; omega) (fun _ => ?_)
  refine Pc.eq (fun c => by exfalso; omega) (fun _ => ?_)
  refine Pc.eq (fun _ => (rq_one X j.1.2.1 j.2.1 j.2.2.2.1 fz 17 hk (by decide) (by decide)).mono (fun qr b => ?_)) (fun c => by exfalso; omega)
  refine ⟨_, j_one X j (by decide) a b, fun z => ?_⟩
  have e0 : (0 : Int32).toInt = 0 := by decide
  have e1 : (100 : Int32).toInt = 100 := by decide
  rw [e0, e1] at z ⊢
  exact jd_t z
set_option maxHeartbeats 4000000 in
theorem rt_seed (X : TX N kd pl vl) (j : JA N kd pl vl nm s hc hr st) (hs : s ≤ 1) (fz : st.1 = 0) (hk : kd st.2.1 = 18) {qc : Hp} (a : tkK hc qc ∧ fC hc qc ∧ cQ qc (tkQ kd 59 (nbQ kd pl vl (0 : Int32).toInt (9999 : Int32).toInt (tkQ kd 18 st)))) : Pc (F_X12_tellOne m hr) (jtP N kd pl vl nm s st qc) := by
  have f0 := lit_0
  have S1 := j.2.2.2.1.1
  rw [fz] at S1
  have st11 := S1.2.2.1 rfl
  have n1 := ncT (show 0 ≤ (hi hr 226 11).toInt by omega)
  have n2 : Int32.toNatClampNeg (hi hr 226 11) = st.2.1 := by omega
  have rt := (j.1.2.1 _ j.2.1).1
  rw [hk] at rt
  have l20 := lit_20
  have l21 := lit_21
  have l22 := lit_22
  have l23 := lit_23
  have l24 := lit_24
  have l25 := lit_25
  have l26 := lit_26
  have l27 := lit_27
  have l28 := lit_28
  have l29 := lit_29
  unfold F_X12_tellOne
  rw [n2]
  refine Pc.chk (fun _ => ?_)
  have rk' : rk 18 = 29 := by decide
  rw [rk'] at rt
  refine Pc.eq (fun c => by exfalso; omega) (fun _ => ?_)
  refine Pc.eq (fun c => by exfalso; omega) (fun _ => ?_)
  refine Pc.eq (fun c => by exfalso; omega) (fun _ => ?_)
  refine Pc.eq (fun c => by exfalso; omega) (fun _ => ?_)
  refine Pc.eq (fun c => by exfalso; omega) (fun _ => ?_)
  refine Pc.eq (fun c => by exfalso; omega) (fun _ => ?_)
  refine Pc.eq (fun c => by exfalso; omega) (fun _ => ?_)
  refine Pc.eq (fun c => by exfalso; omega) (fun _ => ?_)
  refine Pc.eq (fun c => by exfalso; omega) (fun _ => ?_)
  refine Pc.eq (fun _ => (rq_one X j.1.2.1 j.2.1 j.2.2.2.1 fz 18 hk (by decide) (by decide)).mono (fun qr b => ?_)) (fun c => by exfalso; omega)
  refine ⟨_, j_one X j (by decide) a b, fun z => ?_⟩
  have e0 : (0 : Int32).toInt = 0 := by decide
  have e1 : (9999 : Int32).toInt = 9999 := by decide
  rw [e0, e1] at z ⊢
  exact js_t z
set_option maxHeartbeats 8000000 in
/-- one statement: both -/
theorem j_tell (X : TX N kd pl vl) (Y : TN N kd vl nm) (j : JA N kd pl vl nm s hc hr st) (hs : s ≤ 1) (fz : st.1 = 0) (k2 : kd st.2.1 ≠ 32) {x1 : Int32} (hx : x1.toInt = kd st.2.1) : Pc (F_X7_readTell n hc x1) (fun qc => Pc (F_X12_tellOne m hr) (jtP N kd pl vl nm s st qc)) := by
  have f9 := lit_9
  have f10 := lit_10
  have f11 := lit_11
  have f12 := lit_12
  have f13 := lit_13
  have f14 := lit_14
  have f15 := lit_15
  have f16 := lit_16
  have f17 := lit_17
  have f18 := lit_18
  have f1 := lit_1
  have C := j.1.1
  have T := j.2.1
  have S := j.2.2.1
  have z := j.2.2.2.2 fz
  have bad (nk : kd st.2.1 < 9 ∨ 18 < kd st.2.1) : Pc ((F_X7_stop n hc 1).bind (fun q => some q)) (fun qc => Pc (F_X12_tellOne m hr) (jtP N kd pl vl nm s st qc)) := by
    have S1 := S.1
    refine Pc.bind (pc_stop S1) (fun q hq => Pc.ret ?_)
    have w := hq.2
    rw [if_pos fz, f1] at w
    exact (rq_bad X j fz nk k2).mono (fun qr b => j_bad X j fz ⟨hq.1, w⟩ b)
  unfold F_X7_readTell
  refine Pc.eq (fun c => (cq_lawn X C T S).mono (fun qc a => rt_lawn X j hs fz (by omega) a)) (fun c9 => ?_)
  refine Pc.eq (fun c => (cq_tune X C T S fz).mono (fun qc a => rt_tune X j hs fz (by omega) a)) (fun c10 => ?_)
  refine Pc.eq (fun c => (cq_goer X C T S fz (by have := z.2.1.2.1; omega)).mono (fun qc a => rt_goer X Y j hs fz (by omega) a)) (fun c11 => ?_)
  refine Pc.eq (fun c => (cq_rope X C T S fz).mono (fun qc a => rt_rope X j hs fz (by omega) a)) (fun c12 => ?_)
  refine Pc.eq (fun c => ?_) (fun c13 => ?_)
  · refine Pc.lt (fun c' => by exfalso; omega) (fun _ => ?_)
    exact Pc.le (fun _ => (cq_law X C T S 13 (by omega) (by decide)).mono (fun qc a => rt_law13 X j hs fz (by omega) a)) (fun c' => by exfalso; omega)
  refine Pc.eq (fun c => ?_) (fun c14 => ?_)
  · refine Pc.lt (fun c' => by exfalso; omega) (fun _ => ?_)
    exact Pc.le (fun _ => (cq_law X C T S 14 (by omega) (by decide)).mono (fun qc a => rt_law14 X j hs fz (by omega) a)) (fun c' => by exfalso; omega)
  refine Pc.eq (fun c => ?_) (fun c15 => ?_)
  · refine Pc.lt (fun c' => by exfalso; omega) (fun _ => ?_)
    exact Pc.le (fun _ => (cq_law X C T S 15 (by omega) (by decide)).mono (fun qc a => rt_law15 X j hs fz (by omega) a)) (fun c' => by exfalso; omega)
  refine Pc.eq (fun c => ?_) (fun c16 => ?_)
  · refine Pc.lt (fun c' => by exfalso; omega) (fun _ => ?_)
    exact Pc.le (fun _ => (cq_law X C T S 16 (by omega) (by decide)).mono (fun qc a => rt_law16 X j hs fz (by omega) a)) (fun c' => by exfalso; omega)
  refine Pc.eq (fun c => (cq_one X C T S 17 (by omega) (by decide) (by decide) (by decide)).mono (fun qc a => rt_wet X j hs fz (by omega) a)) (fun c17 => ?_)
  refine Pc.eq (fun c => (cq_one X C T S 18 (by omega) (by decide) (by decide) (by decide)).mono (fun qc a => rt_seed X j hs fz (by omega) a)) (fun c18 => ?_)
  refine Pc.lt (fun c' => bad (by omega)) (fun c' => ?_)
  exact Pc.le (fun c'' => by exfalso; omega) (fun c'' => bad (by omega))
end JU
end
section
/-! BEYOND THE LAWN: the class -/
theorem sh_bit (x : Int32) (y : Int32) (k : Nat) (hk : k < 25) (hy : y.toInt = (k : Int)) : (((x.toUInt32 >>> (y.toUInt32 &&& Int32.toUInt32 31)).toInt32 &&& 1) : Int32) = 0 ↔ ¬ x.toBitVec.getLsbD k = true := by
  have e : y = Int32.ofNat k := by
    apply Int32.toInt_inj.mp
    rw [hy, Int32.toInt_ofNat_of_lt (by omega)]
  subst e
  have key : ∀ k : Fin 25, (((Int32.ofNat k.val).toUInt32 &&& Int32.toUInt32 31).toBitVec % 32#32).toNat = k.val := by decide
  have z := key ⟨k, hk⟩
  rw [← Int32.toBitVec_inj]
  show ((x.toUInt32 >>> ((Int32.ofNat k).toUInt32 &&& Int32.toUInt32 31)).toBitVec &&& 1#32) = 0#32 ↔ _
  rw [UInt32.toBitVec_shiftRight]
  have e1 : (x.toUInt32.toBitVec >>> (((Int32.ofNat k).toUInt32 &&& Int32.toUInt32 31).toBitVec % 32#32)) = x.toBitVec >>> k := by
    show x.toBitVec >>> (((Int32.ofNat k).toUInt32 &&& Int32.toUInt32 31).toBitVec % 32#32).toNat = _
    rw [z]
  have e2 : (x.toUInt32.toBitVec >>> (((Int32.ofNat k).toUInt32 &&& Int32.toUInt32 31).toBitVec % 32)) = x.toBitVec >>> k := e1
  rw [e2, BitVec.and_one_eq_setWidth_ofBool_getLsbD, BitVec.getLsbD_ushiftRight, Nat.add_zero]
  cases x.toBitVec.getLsbD k
  · exact ⟨fun _ z => Bool.noConfusion z, fun _ => by decide⟩
  · exact ⟨fun z => absurd z (by decide), fun z => absurd rfl z⟩
theorem mod5 (x : Int32) (k : Nat) (hk : k < 25) (hx : x.toInt = (k : Int)) : (x - x / 5 * 5).toInt = ((k % 5 : Nat) : Int) ∧ (x / 5).toInt = ((k / 5 : Nat) : Int) := by
  have e : x = Int32.ofNat k := by
    apply Int32.toInt_inj.mp
    rw [hx, Int32.toInt_ofNat_of_lt (by omega)]
  subst e
  have key : ∀ k : Fin 25, (Int32.ofNat k.val - Int32.ofNat k.val / 5 * 5).toInt = ((k.val % 5 : Nat) : Int) ∧ (Int32.ofNat k.val / 5).toInt = ((k.val / 5 : Nat) : Int) := by decide
  exact key ⟨k, hk⟩
/-- off a lawn of w by g -/
def offC (w g : Int) (c : Nat) : Prop := w ≤ ((c % 5 : Nat) : Int) ∨ g ≤ ((c / 5 : Nat) : Int)
def rpB (h : Hp) (c : Nat) : Prop := (hi h 2 12).toBitVec.getLsbD c = true
/-- a rope or a tune off the lawn -/
def BC (h : Hp) (c : Nat) : Prop := (rpB h c ∨ 0 < (hi h 16 c).toInt) ∧ offC (hi h 4 0).toInt (hi h 4 1).toInt c
/-- a goer off the lawn or on a rope -/
def BG (h : Hp) (g : Nat) : Prop := offC (hi h 4 0).toInt (hi h 4 1).toInt (hi h 15 g).toInt.toNat ∨ rpB h (hi h 15 g).toInt.toNat
def BY (h : Hp) : Prop := (∃ c, c < 25 ∧ BC h c) ∨ ∃ g : Nat, (g : Int) < (hi h 3 2).toInt ∧ g < 5 ∧ BG h g
/-- what laying out leaves: b says that something was blamed -/
def lyS (h0 : Hp) (x1 : Int32) (b : Bool) (h : Hp) : Prop := (∀ a k, ¬ (a = 2 ∧ (k = 6 ∨ k = 7)) → a ≠ 10 → a ≠ 11 → a ≠ 12 → hi h a k = hi h0 a k) ∧ (((hi h0 2 6).toInt ≠ 0 ∨ b = false) → hi h 2 6 = hi h0 2 6 ∧ hi h 2 7 = hi h0 2 7) ∧ ((hi h0 2 6).toInt = 0 → b = true → hi h 2 6 = 6 ∧ hi h 2 7 = x1)
section LY
variable {h0 h : Hp} {x1 : Int32} {b : Bool} {n : Nat}
theorem lyS.rf : lyS h0 x1 false h0 := ⟨fun _ _ _ _ _ _ => rfl, fun _ => ⟨rfl, rfl⟩, fun _ z => Bool.noConfusion z⟩
theorem lyS.w (s : lyS h0 x1 b h) {a k : Nat} {v : Int32} (q : a = 10 ∨ a = 11 ∨ a = 12) : lyS h0 x1 b (wrI h a k v) := by
  have e (k' : Nat) : hi (wrI h a k v) 2 k' = hi h 2 k' := by rw [hi_wrI, if_neg (by omega)]
  refine ⟨fun x y n1 n2 n3 n4 => ?_, ?_, ?_⟩
  · rw [hi_wrI, if_neg (by omega)]; exact s.1 x y n1 n2 n3 n4
  · rw [e 6, e 7]; exact s.2.1
  · rw [e 6, e 7]; exact s.2.2
theorem ly_blame (s : lyS h0 x1 b h) : Pc (F_X7_blame n h 6 x1) (lyS h0 x1 true) := by
  refine pc_blame.mono (fun q hq => ?_)
  obtain ⟨b1, b2, b3, b4⟩ := hq
  have f6 := lit_6
  refine ⟨fun a k n1 n2 n3 n4 => ?_, fun z => ?_, fun z _ => ?_⟩
  · by_cases y : a = 2
    · subst y
      rw [b2 k (by omega) (by omega)]
      exact s.1 2 k n1 n2 n3 n4
    · rw [b1.1 a k (by omega)]
      exact s.1 a k n1 n2 n3 n4
  · have z' : (hi h0 2 6).toInt ≠ 0 := by
      rcases z with z | z
      · exact z
      · exact Bool.noConfusion z
    have y := s.2.1 (Or.inl z')
    rw [b4 (by rw [y.1]; exact z')]
    exact y
  · cases b with
    | true =>
      have y := s.2.2 z rfl
      rw [b4 (by rw [y.1]; omega)]
      exact y
    | false =>
      have y := s.2.1 (Or.inr rfl)
      exact b3 (by rw [y.1]; exact z)
theorem ly_on {x : Int32} : Pc (F_X7_onLawn n h x) (fun q => q.2 = h ∧ ∀ k : Nat, k < 25 → x.toInt = (k : Int) → (q.1.toInt = 0 ↔ offC (hi h 4 0).toInt (hi h 4 1).toInt k)) := by
  have f0 := lit_0
  have f1 := lit_1
  unfold F_X7_onLawn
  refine Pc.le (fun c => Pc.ret ⟨rfl, fun k hk hx => ⟨fun _ => Or.inl ?_, fun _ => f0⟩⟩) (fun c => ?_)
  · have := (mod5 x k hk hx).1
    omega
  · refine Pc.le (fun c' => Pc.ret ⟨rfl, fun k hk hx => ⟨fun _ => Or.inr ?_, fun _ => f0⟩⟩) (fun c' => Pc.ret ⟨rfl, fun k hk hx => ⟨fun z => ?_, fun z => ?_⟩⟩)
    · have := (mod5 x k hk hx).2
      omega
    · have z' : (1 : Int32).toInt = 0 := z
      exfalso; omega
    · have := mod5 x k hk hx
      unfold offC at z
      exfalso; omega
theorem ly_sound (s : lyS h0 x1 b h) {x y z : Int32} : Pc (F_X8_soundIn n h 10 x y z) (lyS h0 x1 b) := by
  unfold F_X8_soundIn
  refine Pc.lt (fun _ => Pc.ret s) (fun _ => Pc.le (fun _ => Pc.ret s) (fun _ => Pc.chk (fun _ => Pc.ret ?_)))
  exact (s.w (Or.inr (Or.inl rfl))).w (Or.inl rfl)
theorem ly_cell {x : Int32} : Pc (F_X7_cellOf n h x) (fun q => q.2 = h) := by
  unfold F_X7_cellOf
  exact Pc.ret rfl
/-- a goer is laid out -/
theorem ly_128 (sp : (hi h0 2 6).toInt = 0 → ∀ g : Nat, (g : Int) < (hi h0 3 2).toInt → 0 ≤ (hi h0 15 g).toInt ∧ (hi h0 15 g).toInt ≤ 24) : ∀ (n : Nat) (h : Hp) (l2 : Int32) (i : Nat) (b : Bool), lyS h0 x1 b h → l2.toInt = (i : Int) → i ≤ 5 → ((hi h0 2 6).toInt = 0 → (b = true ↔ (∃ c, c < 25 ∧ BC h0 c) ∨ ∃ g : Nat, (g : Int) < (hi h0 3 2).toInt ∧ g < i ∧ BG h0 g)) → Pc (W_X7_layOut n 128 h x1 l2) (fun q => ∃ b, lyS h0 x1 b q ∧ ((hi h0 2 6).toInt = 0 → (b = true ↔ BY h0))) := by
  intro n
  induction n with
  | zero => intro h l2 i b s hi' i5 hb; exact Pc.no
  | succ n ih =>
    intro h l2 i b s hi' i5 hb
    have f0 := lit_0
    have f1 := lit_1
    have f5 := lit_5
    have e32 : hi h 3 2 = hi h0 3 2 := s.1 3 2 (by decide) (by decide) (by decide) (by decide)
    have n1 := ncT (show 0 ≤ l2.toInt by omega)
    have n2 : Int32.toNatClampNeg l2 = i := by omega
    have e15 : hi h 15 i = hi h0 15 i := s.1 15 i (by omega) (by decide) (by decide) (by decide)
    have e12 : hi h 2 12 = hi h0 2 12 := s.1 2 12 (by decide) (by decide) (by decide) (by decide)
    have e40 : hi h 4 0 = hi h0 4 0 := s.1 4 0 (by decide) (by decide) (by decide) (by decide)
    have e41 : hi h 4 1 = hi h0 4 1 := s.1 4 1 (by decide) (by decide) (by decide) (by decide)
    have a1 := adT l2 1 (by omega) (by omega)
    rw [u_X7_layOut]
    refine Pc.neg (by decide) (Pc.pos rfl ?_)
    rw [e32, n2, e15]
    have done (k : i = 5 ∨ (hi h0 3 2).toInt ≤ (i : Int)) : Pc (some h) (fun q => ∃ b, lyS h0 x1 b q ∧ ((hi h0 2 6).toInt = 0 → (b = true ↔ BY h0))) := by
      refine Pc.ret ⟨b, s, fun z => (hb z).trans ⟨fun y => ?_, fun y => ?_⟩⟩
      · rcases y with y | ⟨g, y1, y2, y3⟩
        · exact Or.inl y
        · exact Or.inr ⟨g, y1, by omega, y3⟩
      · rcases y with y | ⟨g, y1, y2, y3⟩
        · exact Or.inl y
        · exact Or.inr ⟨g, y1, by omega, y3⟩
    refine Pc.le (fun c => done (Or.inr (by omega))) (fun c => ?_)
    refine Pc.le (fun c' => done (Or.inl (by omega))) (fun c' => ?_)
    have next (b' : Bool) (g : Hp) (s' : lyS h0 x1 b' g) (hb' : (hi h0 2 6).toInt = 0 → (b' = true ↔ b = true ∨ BG h0 i)) : Pc (W_X7_layOut n 128 g x1 (l2 + 1)) (fun q => ∃ b, lyS h0 x1 b q ∧ ((hi h0 2 6).toInt = 0 → (b = true ↔ BY h0))) := by
      refine ih g (l2 + 1) (i + 1) b' s' (by omega) (by omega) (fun z => (hb' z).trans ?_)
      rw [hb z]
      constructor
      · rintro ((y | ⟨g, y1, y2, y3⟩) | y)
        · exact Or.inl y
        · exact Or.inr ⟨g, y1, by omega, y3⟩
        · exact Or.inr ⟨i, by omega, by omega, y⟩
      · rintro (y | ⟨g, y1, y2, y3⟩)
        · exact Or.inl (Or.inl y)
        · by_cases w : g = i
          · subst w; exact Or.inr y3
          · exact Or.inl (Or.inr ⟨g, y1, by omega, y3⟩)
    have cell (b' : Bool) (g : Hp) (s' : lyS h0 x1 b' g) (hb' : (hi h0 2 6).toInt = 0 → (b' = true ↔ b = true ∨ BG h0 i)) : Pc ((F_X7_cellOf n g (hi h0 15 i)).bind (fun q323 => (if ixOK l2 5 = true then W_X7_layOut n 128 (wrI q323.2 12 i q323.1) x1 (l2 + 1) else none))) (fun q => ∃ b, lyS h0 x1 b q ∧ ((hi h0 2 6).toInt = 0 → (b = true ↔ BY h0))) := by
      refine Pc.bind ly_cell (fun q hq => Pc.chk (fun _ => ?_))
      rw [hq]
      exact next b' _ (s'.w (Or.inr (Or.inr rfl))) hb'
    refine Pc.chk (fun _ => ?_)
    refine Pc.bind ly_on (fun q hq => ?_)
    obtain ⟨q1, q2⟩ := hq
    rw [q1, e12]
    rw [e40, e41] at q2
    have ln (z : (hi h0 2 6).toInt = 0) : (hi h0 15 i).toInt = ((hi h0 15 i).toInt.toNat : Int) ∧ (hi h0 15 i).toInt.toNat < 25 := by
      have := sp z i (by omega)
      omega
    have bl (z : (hi h0 2 6).toInt = 0 → BG h0 i) : Pc ((F_X7_blame n h 6 x1).bind (fun q321 => ((F_X7_cellOf n q321 (hi h0 15 i)).bind (fun q323 => (if ixOK l2 5 = true then W_X7_layOut n 128 (wrI q323.2 12 i q323.1) x1 (l2 + 1) else none))))) (fun q => ∃ b, lyS h0 x1 b q ∧ ((hi h0 2 6).toInt = 0 → (b = true ↔ BY h0))) :=
      Pc.bind (ly_blame s) (fun g hg => cell true g hg (fun y => ⟨fun _ => Or.inr (z y), fun _ => rfl⟩))
    refine Pc.eq (fun c2 => bl (fun z => Or.inl ((q2 _ (ln z).2 (ln z).1).mp (c2.trans f0)))) (fun c2 => ?_)
    refine Pc.ite (fun c3 => cell b h s (fun z => ⟨fun y => Or.inl y, fun y => ?_⟩)) (fun c3 => bl (fun z => Or.inr ?_))
    · rcases y with y | y | y
      · exact y
      · exact absurd (((q2 _ (ln z).2 (ln z).1).mpr y).trans f0.symm) c2
      · exact absurd y ((sh_bit _ _ _ (ln z).2 (ln z).1).mp c3)
    · by_cases w : rpB h0 (hi h0 15 i).toInt.toNat
      · exact w
      · exact absurd ((sh_bit _ _ _ (ln z).2 (ln z).1).mpr w) c3
def lyR (h0 : Hp) (x1 : Int32) (q : Hp) : Prop := ∃ b, lyS h0 x1 b q ∧ ((hi h0 2 6).toInt = 0 → (b = true ↔ BY h0))
set_option maxHeartbeats 8000000 in
/-- the spots are laid out -/
theorem ly_2 (sp : (hi h0 2 6).toInt = 0 → ∀ g : Nat, (g : Int) < (hi h0 3 2).toInt → 0 ≤ (hi h0 15 g).toInt ∧ (hi h0 15 g).toInt ≤ 24) : ∀ (n : Nat) (h : Hp) (l2 : Int32) (i : Nat) (b : Bool), lyS h0 x1 b h → l2.toInt = (i : Int) → i ≤ 25 → ((hi h0 2 6).toInt = 0 → (b = true ↔ ∃ c, c < i ∧ BC h0 c)) → Pc (W_X7_layOut n 2 h x1 l2) (lyR h0 x1) := by
  intro n
  induction n with
  | zero => intro h l2 i b s hi' i5 hb; exact Pc.no
  | succ n ih =>
    intro h l2 i b s hi' i5 hb
    have f0 := lit_0
    have f1 := lit_1
    have f25 := lit_25
    have n1 := ncT (show 0 ≤ l2.toInt by omega)
    have n2 : Int32.toNatClampNeg l2 = i := by omega
    have e12 : hi h 2 12 = hi h0 2 12 := s.1 2 12 (by decide) (by decide) (by decide) (by decide)
    have e16 : hi h 16 i = hi h0 16 i := s.1 16 i (by omega) (by decide) (by decide) (by decide)
    have e40 : hi h 4 0 = hi h0 4 0 := s.1 4 0 (by decide) (by decide) (by decide) (by decide)
    have e41 : hi h 4 1 = hi h0 4 1 := s.1 4 1 (by decide) (by decide) (by decide) (by decide)
    have a1 := adT l2 1 (by omega) (by omega)
    rw [u_X7_layOut]
    refine Pc.pos rfl ?_
    refine Pc.le (fun c => ?_) (fun c => ?_)
    · have i25 : i = 25 := by omega
      subst i25
      refine ly_128 sp n h 0 0 b s f0 (by decide) (fun z => (hb z).trans ⟨fun y => Or.inl y, fun y => ?_⟩)
      rcases y with y | ⟨g, -, y, -⟩
      · exact y
      · exact absurd y (Nat.not_lt_zero g)
    · have il : i < 25 := by omega
      have sb := sh_bit (hi h0 2 12) l2 i il hi'
      have next (b' : Bool) (g : Hp) (s' : lyS h0 x1 b' g) (hb' : (hi h0 2 6).toInt = 0 → (b' = true ↔ b = true ∨ BC h0 i)) : Pc (W_X7_layOut n 2 g x1 (l2 + 1)) (lyR h0 x1) := by
        refine ih g (l2 + 1) (i + 1) b' s' (by omega) (by omega) (fun z => (hb' z).trans ?_)
        rw [hb z]
        constructor
        · rintro (⟨g, y2, y3⟩ | y)
          · exact ⟨g, by omega, y3⟩
          · exact ⟨i, by omega, y⟩
        · rintro ⟨g, y2, y3⟩
          by_cases w : g = i
          · subst w; exact Or.inr y3
          · exact Or.inl ⟨g, by omega, y3⟩
      have nw (g : Hp) (s' : lyS h0 x1 b g) (nb : ¬ BC h0 i) : Pc (W_X7_layOut n 2 g x1 (l2 + 1)) (lyR h0 x1) := next b g s' (fun _ => ⟨fun y => Or.inl y, fun y => y.elim (fun y => y) (fun y => absurd y nb)⟩)
      have yw (g : Hp) (s' : lyS h0 x1 true g) (nb : BC h0 i) : Pc (W_X7_layOut n 2 g x1 (l2 + 1)) (lyR h0 x1) := next true g s' (fun _ => ⟨fun _ => Or.inr nb, fun _ => rfl⟩)
      -- a tune is laid down there
      have sound (b' : Bool) (g : Hp) (s' : lyS h0 x1 b' g) (k : ∀ g', lyS h0 x1 b' g' → Pc (W_X7_layOut n 2 g' x1 (l2 + 1)) (lyR h0 x1)) : Pc ((F_X7_cellOf n g l2).bind (fun q => (if ixOK l2 25 = true then (if ixOK l2 25 = true then ((F_X8_soundIn n q.2 10 q.1 (hi q.2 16 (Int32.toNatClampNeg l2)) (hi q.2 17 (Int32.toNatClampNeg l2))).bind (fun q' => W_X7_layOut n 2 q' x1 (l2 + 1))) else none) else none))) (lyR h0 x1) := by
        refine Pc.bind ly_cell (fun q hq => Pc.chk (fun _ => Pc.chk (fun _ => ?_)))
        rw [hq]
        exact Pc.bind (ly_sound s') (fun q' hq' => k q' hq')
      refine Pc.ite (fun c1 => ?_) (fun c1 => ?_)
      · rw [e12] at c1
        have nr : ¬ rpB h0 i := sb.mp c1
        refine Pc.chk (fun _ => ?_)
        refine Pc.le (fun c2 => ?_) (fun c2 => ?_)
        · rw [n2, e16] at c2
          refine Pc.pos rfl (Pc.pos rfl (Pc.pos rfl (Pc.pos rfl (nw h s (fun z => ?_)))))
          rcases z.1 with z | z
          · exact nr z
          · omega
        · rw [n2, e16] at c2
          refine Pc.pos rfl (Pc.neg (by decide) (Pc.bind ly_on (fun q hq => ?_)))
          obtain ⟨q1, q2⟩ := hq
          rw [q1]
          rw [e40, e41] at q2
          have q3 := q2 i il hi'
          refine Pc.eq (fun c3 => ?_) (fun c3 => ?_)
          · refine Pc.bind (ly_blame s) (fun g hg => Pc.neg (by decide) (sound true g hg (fun g' s' => yw g' s' ⟨Or.inr (by omega), q3.mp (c3.trans f0)⟩)))
          · refine Pc.pos rfl (Pc.neg (by decide) (sound b h s (fun g' s' => nw g' s' (fun z => ?_))))
            exact absurd ((q3.mpr z.2).trans f0.symm) c3
      · rw [e12] at c1
        have yr : rpB h0 i := by
          by_cases w : rpB h0 i
          · exact w
          · exact absurd (sb.mpr w) c1
        refine Pc.chk (fun _ => ?_)
        refine Pc.le (fun c2 => ?_) (fun c2 => ?_)
        · refine Pc.neg (by decide) (Pc.bind ly_on (fun q hq => ?_))
          obtain ⟨q1, q2⟩ := hq
          rw [q1]
          rw [e40, e41] at q2
          have q3 := q2 i il hi'
          refine Pc.eq (fun c3 => ?_) (fun c3 => ?_)
          · refine Pc.bind (ly_blame s) (fun g hg => Pc.pos rfl (yw g hg ⟨Or.inl yr, q3.mp (c3.trans f0)⟩))
          · refine Pc.neg (by decide) (Pc.bind ly_cell (fun g hg => Pc.pos rfl ?_))
            rw [hg]
            exact nw _ (s.w (Or.inl rfl)) (fun z => absurd ((q3.mpr z.2).trans f0.symm) c3)
        · refine Pc.neg (by decide) (Pc.bind ly_on (fun q hq => ?_))
          obtain ⟨q1, q2⟩ := hq
          rw [q1]
          rw [e40, e41] at q2
          have q3 := q2 i il hi'
          refine Pc.eq (fun c3 => ?_) (fun c3 => ?_)
          · refine Pc.bind (ly_blame s) (fun g hg => Pc.neg (by decide) (sound true g hg (fun g' s' => yw g' s' ⟨Or.inl yr, q3.mp (c3.trans f0)⟩)))
          · refine Pc.neg (by decide) (Pc.bind ly_cell (fun g hg => Pc.neg (by decide) ?_))
            rw [hg]
            exact sound b _ (s.w (Or.inl rfl)) (fun g' s' => nw g' s' (fun z => absurd ((q3.mpr z.2).trans f0.symm) c3))
theorem ly_out (sp : (hi h0 2 6).toInt = 0 → ∀ g : Nat, (g : Int) < (hi h0 3 2).toInt → 0 ≤ (hi h0 15 g).toInt ∧ (hi h0 15 g).toInt ≤ 24) : Pc (F_X7_layOut n h0 x1) (lyR h0 x1) := by
  unfold F_X7_layOut
  exact ly_2 sp n h0 0 0 false lyS.rf lit_0 (by decide) (fun _ => ⟨fun z => Bool.noConfusion z, fun ⟨c, y, _⟩ => absurd y (Nat.not_lt_zero c)⟩)
end LY
end
section
/-! BEYOND THE LAWN: the reference -/
def offR (s : Nat) (h : Hp) (x y : Int32) : Prop := (hi h 235 s).toInt ≤ x.toInt ∨ (hi h 236 s).toInt ≤ y.toInt
def tnF (s : Nat) (h : Hp) (k : Nat) : Prop := offR s h (hi h 238 (8 * s + k)) (hi h 239 (8 * s + k))
def rpO (s : Nat) (h : Hp) (k : Nat) : Prop := offR s h (hi h 246 (8 * s + k)) (hi h 247 (8 * s + k))
def grP (s : Nat) (h : Hp) (g k : Nat) : Prop := (hi h 246 (8 * s + k)).toInt = (hi h 243 (5 * s + g)).toInt ∧ (hi h 247 (8 * s + k)).toInt = (hi h 244 (5 * s + g)).toInt
def grO (s : Nat) (h : Hp) (g : Nat) : Prop := offR s h (hi h 243 (5 * s + g)) (hi h 244 (5 * s + g)) ∨ ∃ k : Nat, (k : Int) < (hi h 245 s).toInt ∧ grP s h g k
def BR (s : Nat) (h : Hp) : Prop := (∃ k : Nat, (k : Int) < (hi h 237 s).toInt ∧ tnF s h k) ∨ (∃ k : Nat, (k : Int) < (hi h 245 s).toInt ∧ rpO s h k) ∨ ∃ g : Nat, (g : Int) < (hi h 242 s).toInt ∧ grO s h g
def brP (s : Nat) (h : Hp) (q : Int32 × Hp) : Prop := q.2 = h ∧ (q.1.toInt ≠ 0 ↔ BR s h)
section BE
variable {s : Nat} {h : Hp}
theorem br_off (hs : s ≤ 1) (sd : (hi h 226 19).toInt = (s : Int)) {n : Nat} {x y : Int32} : Pc (F_X12_isOff n h x y) (fun q => q.2 = h ∧ (q.1.toInt = 0 ↔ ¬ offR s h x y)) := by
  have f0 := lit_0
  have f1 := lit_1
  have n1 := ncT (show 0 ≤ (hi h 226 19).toInt by omega)
  have n2 : Int32.toNatClampNeg (hi h 226 19) = s := by omega
  have o1 : ¬ (1 : Int32).toInt = 0 := by omega
  unfold F_X12_isOff
  rw [n2]
  refine Pc.chk (fun _ => Pc.le (fun c => Pc.ret ⟨rfl, fun z => absurd z o1, fun z => absurd (Or.inl c) z⟩) (fun c => Pc.chk (fun _ => Pc.lt (fun c2 => Pc.ret ⟨rfl, fun _ z => ?_, fun _ => f0⟩) (fun c2 => Pc.ret ⟨rfl, fun z => absurd z o1, fun z => absurd (Or.inr c2) z⟩))))
  unfold offR at z
  omega
def brI (s : Nat) (h : Hp) : Prop := s ≤ 1 ∧ (hi h 226 19).toInt = (s : Int) ∧ (0 ≤ (hi h 237 s).toInt ∧ (hi h 237 s).toInt ≤ 8) ∧ (0 ≤ (hi h 242 s).toInt ∧ (hi h 242 s).toInt ≤ 5) ∧ 0 ≤ (hi h 245 s).toInt ∧ (hi h 245 s).toInt ≤ 8
set_option maxHeartbeats 4000000 in
theorem bq_g (I : brI s h) (nt : ¬ ∃ k : Nat, (k : Int) < (hi h 237 s).toInt ∧ tnF s h k) (nr : ¬ ∃ k : Nat, (k : Int) < (hi h 245 s).toInt ∧ rpO s h k) : ∀ n : Nat, (∀ (l1 l2 : Int32) (g : Nat), l1.toInt = 5 * s + g → (g : Int) ≤ (hi h 242 s).toInt → (∀ g', g' < g → ¬ grO s h g') → Pc (W_X12_isBeyond n 119 h l1 l2) (brP s h)) ∧ (∀ (l1 l2 : Int32) (g k : Nat), l1.toInt = 5 * s + g → (g : Int) < (hi h 242 s).toInt → (∀ g', g' < g → ¬ grO s h g') → ¬ offR s h (hi h 243 (5 * s + g)) (hi h 244 (5 * s + g)) → l2.toInt = 8 * s + k → (k : Int) ≤ (hi h 245 s).toInt → (∀ k', k' < k → ¬ grP s h g k') → Pc (W_X12_isBeyond n 168 h l1 l2) (brP s h)) := by
  obtain ⟨hs, sd, c1, c2, c3⟩ := I
  intro n
  induction n with
  | zero => exact ⟨fun _ _ _ _ _ _ => Pc.no, fun _ _ _ _ _ _ _ _ _ _ _ => Pc.no⟩
  | succ n ih =>
    have f0 := lit_0
    have f1 := lit_1
    have f5 := lit_5
    have f8 := lit_8
    have n1 := ncT (show 0 ≤ (hi h 226 19).toInt by omega)
    have n2 : Int32.toNatClampNeg (hi h 226 19) = s := by omega
    have m5 := mlT 5 (hi h 226 19) 5 f5 (by omega) (by omega)
    have m8 := mlT 8 (hi h 226 19) 8 f8 (by omega) (by omega)
    have p5 := adT (5 * hi h 226 19) (hi h 242 s) (by omega) (by omega)
    have p8 := adT (8 * hi h 226 19) (hi h 245 s) (by omega) (by omega)
    have o1 : (1 : Int32).toInt ≠ 0 := by omega
    refine ⟨fun l1 l2 g hl gl ng => ?_, fun l1 l2 g k hl gl ng nf hl2 kl nk => ?_⟩
    · have q1 := ncT (show 0 ≤ l1.toInt by omega)
      have q2 : Int32.toNatClampNeg l1 = 5 * s + g := by omega
      rw [u_X12_isBeyond]
      refine Pc.neg (by decide) (Pc.neg (by decide) (Pc.pos rfl ?_))
      rw [n2, q2]
      refine Pc.chk (fun _ => Pc.le (fun c => Pc.ret ⟨rfl, fun z => absurd f0 z, fun z => ?_⟩) (fun c => Pc.chk (fun _ => Pc.chk (fun _ => ?_))))
      · rcases z with z | z | ⟨g', z1, z2⟩
        · exact absurd z nt
        · exact absurd z nr
        · exact absurd z2 (ng g' (by omega))
      · refine Pc.bind (br_off hs sd) (fun q hq => ?_)
        obtain ⟨hq1, hq2⟩ := hq
        rw [hq1]
        refine Pc.eq (fun c3' => ?_) (fun c3' => Pc.ret ⟨rfl, fun _ => Or.inr (Or.inr ⟨g, by omega, Or.inl ?_⟩), fun _ => o1⟩)
        · refine ih.2 l1 _ g 0 hl (by omega) ng (hq2.mp (c3'.trans f0)) (by omega) (by omega) (fun k' hk' => absurd hk' (Nat.not_lt_zero k'))
        · by_cases w : offR s h (hi h 243 (5 * s + g)) (hi h 244 (5 * s + g))
          · exact w
          · exact absurd ((hq2.mpr w).trans f0.symm) c3'
    · have q1 := ncT (show 0 ≤ l1.toInt by omega)
      have q2 : Int32.toNatClampNeg l1 = 5 * s + g := by omega
      have q3 := ncT (show 0 ≤ l2.toInt by omega)
      have q4 : Int32.toNatClampNeg l2 = 8 * s + k := by omega
      have a1 := adT l1 1 (by omega) (by omega)
      have a2 := adT l2 1 (by omega) (by omega)
      rw [u_X12_isBeyond]
      refine Pc.neg (by decide) (Pc.neg (by decide) (Pc.neg (by decide) (Pc.pos rfl ?_)))
      rw [n2, q2, q4]
      have on (nk' : ¬ grP s h g k) (kk : (k : Int) < (hi h 245 s).toInt) : Pc (W_X12_isBeyond n 168 h l1 (l2 + 1)) (brP s h) := by
        refine ih.2 l1 (l2 + 1) g (k + 1) hl gl ng nf (by omega) (by omega) (fun k' hk' => ?_)
        by_cases w : k' = k
        · rw [w]; exact nk'
        · exact nk k' (by omega)
      refine Pc.chk (fun _ => Pc.le (fun c => ?_) (fun c => Pc.chk (fun _ => Pc.chk (fun _ => ?_))))
      · refine ih.1 (l1 + 1) 0 (g + 1) (by omega) (by omega) (fun g' hg' => ?_)
        by_cases w : g' = g
        · rw [w]
          rintro (z | ⟨k', z1, z2⟩)
          · exact nf z
          · exact nk k' (by omega) z2
        · exact ng g' (by omega)
      · refine Pc.eq (fun d1 => Pc.chk (fun _ => Pc.chk (fun _ => ?_))) (fun d1 => on (fun z => d1 z.1) (by omega))
        refine Pc.eq (fun d2 => Pc.ret ⟨rfl, fun _ => Or.inr (Or.inr ⟨g, gl, Or.inr ⟨k, by omega, d1, d2⟩⟩), fun _ => o1⟩) (fun d2 => on (fun z => d2 z.2) (by omega))
set_option maxHeartbeats 4000000 in
theorem bq_r (I : brI s h) (nt : ¬ ∃ k : Nat, (k : Int) < (hi h 237 s).toInt ∧ tnF s h k) : ∀ (n : Nat) (l1 l2 : Int32) (k : Nat), l1.toInt = 8 * s + k → (k : Int) ≤ (hi h 245 s).toInt → (∀ k', k' < k → ¬ rpO s h k') → Pc (W_X12_isBeyond n 64 h l1 l2) (brP s h) := by
  have I' := I
  obtain ⟨hs, sd, c1, c2, c3⟩ := I
  intro n
  induction n with
  | zero => intro _ _ _ _ _ _; exact Pc.no
  | succ n ih =>
    intro l1 l2 k hl kl nk
    have f0 := lit_0
    have f1 := lit_1
    have f5 := lit_5
    have f8 := lit_8
    have n1 := ncT (show 0 ≤ (hi h 226 19).toInt by omega)
    have n2 : Int32.toNatClampNeg (hi h 226 19) = s := by omega
    have m5 := mlT 5 (hi h 226 19) 5 f5 (by omega) (by omega)
    have m8 := mlT 8 (hi h 226 19) 8 f8 (by omega) (by omega)
    have p8 := adT (8 * hi h 226 19) (hi h 245 s) (by omega) (by omega)
    have o1 : (1 : Int32).toInt ≠ 0 := by omega
    have q1 := ncT (show 0 ≤ l1.toInt by omega)
    have q2 : Int32.toNatClampNeg l1 = 8 * s + k := by omega
    have a1 := adT l1 1 (by omega) (by omega)
    rw [u_X12_isBeyond]
    refine Pc.neg (by decide) (Pc.pos rfl ?_)
    rw [n2, q2]
    refine Pc.chk (fun _ => Pc.le (fun c => ?_) (fun c => Pc.chk (fun _ => Pc.chk (fun _ => ?_))))
    · refine (bq_g I' nt ?_ n).1 _ 0 0 (by omega) (by omega) (fun g' hg' => absurd hg' (Nat.not_lt_zero g'))
      rintro ⟨k', z1, z2⟩
      exact nk k' (by omega) z2
    · refine Pc.bind (br_off hs sd) (fun q hq => ?_)
      obtain ⟨hq1, hq2⟩ := hq
      rw [hq1]
      refine Pc.eq (fun c3' => ?_) (fun c3' => Pc.ret ⟨rfl, fun _ => Or.inr (Or.inl ⟨k, by omega, ?_⟩), fun _ => o1⟩)
      · refine ih (l1 + 1) 0 (k + 1) (by omega) (by omega) (fun k' hk' => ?_)
        by_cases w : k' = k
        · rw [w]; exact hq2.mp (c3'.trans f0)
        · exact nk k' (by omega)
      · by_cases w : rpO s h k
        · exact w
        · exact absurd ((hq2.mpr w).trans f0.symm) c3'
set_option maxHeartbeats 4000000 in
theorem bq_t (I : brI s h) : ∀ (n : Nat) (l1 l2 : Int32) (k : Nat), l1.toInt = 8 * s + k → (k : Int) ≤ (hi h 237 s).toInt → (∀ k', k' < k → ¬ tnF s h k') → Pc (W_X12_isBeyond n 8 h l1 l2) (brP s h) := by
  have I' := I
  obtain ⟨hs, sd, c1, c2, c3⟩ := I
  intro n
  induction n with
  | zero => intro _ _ _ _ _ _; exact Pc.no
  | succ n ih =>
    intro l1 l2 k hl kl nk
    have f0 := lit_0
    have f1 := lit_1
    have f8 := lit_8
    have n1 := ncT (show 0 ≤ (hi h 226 19).toInt by omega)
    have n2 : Int32.toNatClampNeg (hi h 226 19) = s := by omega
    have m8 := mlT 8 (hi h 226 19) 8 f8 (by omega) (by omega)
    have p8 := adT (8 * hi h 226 19) (hi h 237 s) (by omega) (by omega)
    have o1 : (1 : Int32).toInt ≠ 0 := by omega
    have q1 := ncT (show 0 ≤ l1.toInt by omega)
    have q2 : Int32.toNatClampNeg l1 = 8 * s + k := by omega
    have a1 := adT l1 1 (by omega) (by omega)
    rw [u_X12_isBeyond]
    refine Pc.pos rfl ?_
    rw [n2, q2]
    refine Pc.chk (fun _ => Pc.le (fun c => ?_) (fun c => Pc.chk (fun _ => Pc.chk (fun _ => ?_))))
    · refine bq_r I' ?_ n _ 0 0 (by omega) (by omega) (fun g' hg' => absurd hg' (Nat.not_lt_zero g'))
      rintro ⟨k', z1, z2⟩
      exact nk k' (by omega) z2
    · refine Pc.bind (br_off hs sd) (fun q hq => ?_)
      obtain ⟨hq1, hq2⟩ := hq
      rw [hq1]
      refine Pc.eq (fun c3' => ?_) (fun c3' => Pc.ret ⟨rfl, fun _ => Or.inl ⟨k, by omega, ?_⟩, fun _ => o1⟩)
      · refine ih (l1 + 1) 0 (k + 1) (by omega) (by omega) (fun k' hk' => ?_)
        by_cases w : k' = k
        · rw [w]; exact hq2.mp (c3'.trans f0)
        · exact nk k' (by omega)
      · by_cases w : tnF s h k
        · exact w
        · exact absurd ((hq2.mpr w).trans f0.symm) c3'
theorem br_beyond (I : brI s h) {n : Nat} : Pc (F_X12_isBeyond n h) (brP s h) := by
  have f8 := lit_8
  have hs := I.1
  have sd := I.2.1
  have m8 := mlT 8 (hi h 226 19) 8 f8 (by omega) (by omega)
  unfold F_X12_isBeyond
  exact bq_t I n _ 0 0 (by omega) (by have := I.2.2.1; omega) (fun k' hk' => absurd hk' (Nat.not_lt_zero k'))
end BE
/-! of both -/
theorem by_br {s : Nat} {hc hr : Hp} (c : CN s hc hr) (d : DR s hc hr) : (BY hc ↔ BR s hr) ∧ ∀ g : Nat, (g : Int) < (hi hc 3 2).toInt → 0 ≤ (hi hc 15 g).toInt ∧ (hi hc 15 g).toInt ≤ 24 := by
  obtain ⟨⟨d1, d2⟩, ⟨d3, d4⟩, ⟨d5, d6⟩, d7⟩ := d
  obtain ⟨-, c2, -, -⟩ := c
  have xy (x y : Int32) (c : Nat) (p : sp4 x y) (e : (c : Int) = x.toInt + 5 * y.toInt) : c < 25 ∧ (offC (hi hc 4 0).toInt (hi hc 4 1).toInt c ↔ offR s hr x y) := by
    unfold sp4 at p
    unfold offC offR
    rw [d1, d2]
    omega
  have gs (g : Nat) (hg : (g : Int) < (hi hc 3 2).toInt) : 0 ≤ (hi hc 15 g).toInt ∧ (hi hc 15 g).toInt ≤ 24 := by
    have := d7 g (by omega)
    unfold sp4 at this
    omega
  refine ⟨⟨?_, ?_⟩, gs⟩
  · rintro (⟨c, h1, h2 | h2, h3⟩ | ⟨g, h1, h2, h3⟩)
    · obtain ⟨k, k1, k2⟩ := (d5 c h1).mp h2
      exact Or.inr (Or.inl ⟨k, k1, (xy _ _ c (d6 k k1) k2).2.mp h3⟩)
    · obtain ⟨k, k1, k2⟩ := (d3 c h1).mp h2
      exact Or.inl ⟨k, k1, (xy _ _ c (d4 k k1) k2).2.mp h3⟩
    · obtain ⟨g1, g2⟩ := d7 g (by omega)
      have gg := gs g h1
      have e : (((hi hc 15 g).toInt.toNat : Nat) : Int) = (hi hc 15 g).toInt := by omega
      refine Or.inr (Or.inr ⟨g, by omega, ?_⟩)
      rcases h3 with h3 | h3
      · exact Or.inl ((xy _ _ _ g2 (by omega)).2.mp h3)
      · obtain ⟨k, k1, k2⟩ := (d5 _ (by omega)).mp h3
        have k3 := d6 k k1
        refine Or.inr ⟨k, k1, ?_⟩
        unfold sp4 at k3 g2
        unfold grP
        omega
  · rintro (⟨k, k1, k2⟩ | ⟨k, k1, k2⟩ | ⟨g, g1, g2⟩)
    · have p := d4 k k1
      have e : ((((hi hr 238 (8 * s + k)).toInt + 5 * (hi hr 239 (8 * s + k)).toInt).toNat : Nat) : Int) = (hi hr 238 (8 * s + k)).toInt + 5 * (hi hr 239 (8 * s + k)).toInt := by unfold sp4 at p; omega
      have z := xy _ _ _ p e
      exact Or.inl ⟨_, z.1, Or.inr ((d3 _ z.1).mpr ⟨k, k1, e⟩), z.2.mpr k2⟩
    · have p := d6 k k1
      have e : ((((hi hr 246 (8 * s + k)).toInt + 5 * (hi hr 247 (8 * s + k)).toInt).toNat : Nat) : Int) = (hi hr 246 (8 * s + k)).toInt + 5 * (hi hr 247 (8 * s + k)).toInt := by unfold sp4 at p; omega
      have z := xy _ _ _ p e
      exact Or.inl ⟨_, z.1, Or.inl ((d5 _ z.1).mpr ⟨k, k1, e⟩), z.2.mpr k2⟩
    · obtain ⟨p1, p2⟩ := d7 g g1
      have gg := gs g (by omega)
      have e : (((hi hc 15 g).toInt.toNat : Nat) : Int) = (hi hc 15 g).toInt := by omega
      refine Or.inr ⟨g, by omega, by omega, ?_⟩
      rcases g2 with g2 | ⟨k, k1, k2⟩
      · exact Or.inl ((xy _ _ _ p2 (by omega)).2.mpr g2)
      · refine Or.inr ((d5 _ (by omega)).mpr ⟨k, k1, ?_⟩)
        unfold grP at k2
        omega
end
section
/-! READING, both: statement by statement to the end -/
/-- what the reference keeps to while it reads (K is what safety gives) -/
def KE (s : Nat) (K : Hp → Prop) : Prop := (∀ h, K h → 0 ≤ (hi h 226 15).toInt) ∧ (∀ m h, 9000 ≤ m → K h → (hi h 226 13).toInt = 0 → Pc (F_X12_tellOne m h) K) ∧ (∀ m h, K h → Pc (F_X12_wrong m h 6 (hi h 226 11)) K) ∧ ∀ m h p, 2000 ≤ m → K h → ((hi h 226 13).toInt = 0 → (hi h 226 15).toInt = 0 → ¬ BR s h) → Pc (rdE m h p) (fun q => hi q.2 226 17 = p ∧ ((hi h 226 13).toInt ≠ 0 → q.1 = hi h 226 13) ∧ ((hi h 226 13).toInt = 0 → (hi h 226 15).toInt ≠ 0 → q.1 = hi h 226 15) ∧ ((hi h 226 13).toInt = 0 → (hi h 226 15).toInt = 0 → q.1.toInt = 0))
/-- both answer alike, and name the same place -/
def rjP (qc qr : Int32 × Hp) : Prop := qc.1 = qr.1 ∧ (qc.1.toInt ≠ 0 → hi qc.2 2 2 = hi qr.2 226 17) ∧ (qc.1.toInt = 0 → hi qr.2 226 17 = -1)
section RE
variable {N : Nat} {kd pl vl nm : Nat → Int} {s : Nat} {hc hr h : Hp} {st : Int × Nat × Int × Int} {n m : Nat} {K : Hp → Prop}
theorem r_fault (E : KE s K) (k : K h) (hm : 2000 ≤ m) (f1 : 0 < (hi h 226 13).toInt) : Pc (rdT m h) (fun q => q.1 = hi h 226 13 ∧ hi q.2 226 17 = hi h 226 14) := by
  have f0 := lit_0
  unfold rdT
  refine Pc.le (fun c => by exfalso; omega) (fun c => ?_)
  exact (E.2.2.2 m h _ hm k (fun z => by exfalso; omega)).mono (fun q hq => ⟨hq.2.1 (by omega), hq.1⟩)
theorem r_worst (E : KE s K) (k : K h) (hm : 2000 ≤ m) (f1 : (hi h 226 13).toInt = 0) (w : (hi h 226 15).toInt ≠ 0) : Pc (rdT m h) (fun q => q.1 = hi h 226 15 ∧ hi q.2 226 17 = hi h 226 16) := by
  have f0 := lit_0
  have w0 := E.1 h k
  unfold rdT
  refine Pc.le (fun c => ?_) (fun c => by exfalso; omega)
  refine Pc.le (fun c => by exfalso; omega) (fun c => ?_)
  exact (E.2.2.2 m h _ hm k (fun _ z => absurd z w)).mono (fun q hq => ⟨hq.2.2.1 f1 w, hq.1⟩)
theorem r_good (E : KE s K) (k : K h) (hm : 2000 ≤ m) (f1 : (hi h 226 13).toInt = 0) (w : (hi h 226 15).toInt = 0) (nb : ¬ BR s h) : Pc (rdT m h) (fun q => q.1.toInt = 0 ∧ hi q.2 226 17 = -1) := by
  have f0 := lit_0
  unfold rdT
  refine Pc.le (fun c => ?_) (fun c => by exfalso; omega)
  refine Pc.le (fun c => ?_) (fun c => by exfalso; omega)
  exact (E.2.2.2 m h _ hm k (fun _ _ => nb)).mono (fun q hq => ⟨hq.2.2.2 f1 w, hq.1⟩)
/-- how it ends: e says that something lies beyond the lawn -/
def enQ (w p t : Int) (e : Prop) (a b : Int) : Prop := (w ≠ 0 → a = w ∧ b = p) ∧ (w = 0 → (e → a = 6 ∧ b = t) ∧ (¬ e → a = 0))
theorem r_end (E : KE s K) (k : K hr) (hm : 2000 ≤ m) (hs : s ≤ 1) (j : JA N kd pl vl nm s hc hr st) (fz : st.1 = 0) : Pc (rdB m hr) (fun q => enQ st.2.2.1 st.2.2.2 (pl st.2.1) (BR s hr) q.1.toInt (hi q.2 226 17).toInt ∧ (q.1.toInt = 0 → hi q.2 226 17 = -1)) := by
  obtain ⟨⟨-, R, -, sd⟩, T, -, S, Z⟩ := j
  obtain ⟨-, ⟨c1, c2, c3, -⟩, -, -⟩ := Z fz
  have f0 := lit_0
  have f6 := lit_6
  obtain ⟨r1, r2⟩ := S
  have r2 := r2 fz
  have r1' := r1
  rw [fz] at r1'
  have x13 : (hi hr 226 13).toInt = 0 := r1'.2.1
  have x11 := r1'.2.2.1 rfl
  unfold rdB
  refine Pc.bind (br_beyond (s := s) ⟨hs, sd, c1.2, c2.2, c3.2⟩) (fun q hq => ?_)
  obtain ⟨q1, q2⟩ := hq
  rw [q1]
  -- the worst, as it was
  have old (g : Hp) (kg : K g) (e13 : (hi g 226 13).toInt = 0) (e15 : (hi g 226 15).toInt = st.2.2.1) (e16 : (hi g 226 16).toInt = st.2.2.2) (w : st.2.2.1 ≠ 0) (b : Prop) : Pc (rdT m g) (fun q => enQ st.2.2.1 st.2.2.2 (pl st.2.1) b q.1.toInt (hi q.2 226 17).toInt ∧ (q.1.toInt = 0 → hi q.2 226 17 = -1)) := by
    refine (r_worst E kg hm e13 (by omega)).mono (fun q hq => ?_)
    rw [hq.1, hq.2]
    exact ⟨⟨fun _ => ⟨e15, e16⟩, fun z => absurd z w⟩, fun z => by exfalso; omega⟩
  refine Pc.eq (fun c => ?_) (fun c => ?_)
  · have nb : ¬ BR s hr := fun z => q2.mpr z (c.trans f0)
    by_cases w : st.2.2.1 = 0
    · refine (r_good E k hm x13 (by omega) nb).mono (fun q hq => ⟨⟨fun z => absurd w z, fun _ => ⟨fun z => absurd z nb, fun _ => hq.1⟩⟩, fun _ => hq.2⟩)
    · exact old hr k x13 r2.1 (r2.2 w).1 w _
  · have yb : BR s hr := q2.mp (by omega)
    refine Pc.bind (fun g eg => And.intro (E.2.2.1 m hr k g eg) (pr_wrong R T r1' x11 g eg)) (fun g hg => ?_)
    obtain ⟨kg, ⟨-, hg1⟩, hg2, hg3⟩ := hg
    have y13 : (hi g 226 13).toInt = 0 := hg1.2.1
    by_cases w : st.2.2.1 = 0
    · have y := hg2 (by omega)
      refine (r_worst E kg hm y13 (by omega)).mono (fun q hq => ?_)
      rw [hq.1, hq.2]
      exact ⟨⟨fun z => absurd w z, fun _ => ⟨fun _ => ⟨by omega, y.2⟩, fun z => absurd yb z⟩⟩, fun z => by exfalso; omega⟩
    · have a := r2.2 w
      have y := hg3 (by omega) (by omega)
      exact old g kg y13 (by rw [y.1]; exact r2.1) (by rw [y.2]; exact a.1) w _
/-- the class's end -/
theorem c_end {x1 : Int32} (j : JA N kd pl vl nm s hc hr st) (fz : st.1 = 0) : Pc ((F_X7_layOut n hc x1).bind (fun q3 => some ((hi (wrI q3 2 2 (hi q3 2 7)) 2 6), (wrI q3 2 2 (hi q3 2 7))))) (fun q => enQ st.2.2.1 st.2.2.2 x1.toInt (BR s hr) q.1.toInt (hi q.2 2 2).toInt) := by
  obtain ⟨-, -, S, -, Z⟩ := j
  obtain ⟨-, c, -, D⟩ := Z fz
  obtain ⟨-, s2⟩ := S
  have s2 := s2 fz
  have f6 := lit_6
  refine Pc.bind (ly_out (fun z => (by_br c (D (by omega))).2)) (fun q hq => Pc.ret ?_)
  obtain ⟨b, l, hb⟩ := hq
  have e6 : hi (wrI q 2 2 (hi q 2 7)) 2 6 = hi q 2 6 := by rw [hi_wrI, if_neg (by decide)]
  have e2 : hi (wrI q 2 2 (hi q 2 7)) 2 2 = hi q 2 7 := by rw [hi_wrI, if_pos ⟨rfl, rfl⟩]
  show enQ st.2.2.1 st.2.2.2 x1.toInt (BR s hr) (hi (wrI q 2 2 (hi q 2 7)) 2 6).toInt (hi (wrI q 2 2 (hi q 2 7)) 2 2).toInt
  rw [e6, e2]
  refine ⟨fun w => ?_, fun w => ?_⟩
  · have y := l.2.1 (Or.inl (by omega))
    rw [y.1, y.2]
    exact ⟨s2.1, s2.2 w⟩
  · have z : (hi hc 2 6).toInt = 0 := by omega
    have br := (by_br c (D w)).1
    have hb := hb z
    refine ⟨fun y => ?_, fun y => ?_⟩
    · have u := l.2.2 z (hb.mpr (br.mpr y))
      rw [u.1, u.2]
      exact ⟨f6, rfl⟩
    · have bf : b = false := by
        cases b with
        | false => rfl
        | true => exact absurd (br.mp (hb.mp rfl)) y
      rw [(l.2.1 (Or.inr bf)).1]
      exact z
theorem en_same {w p t : Int} {e : Prop} {qc qr : Int32 × Hp} (a : enQ w p t e qc.1.toInt (hi qc.2 2 2).toInt) (b : enQ w p t e qr.1.toInt (hi qr.2 226 17).toInt ∧ (qr.1.toInt = 0 → hi qr.2 226 17 = -1)) : rjP qc qr := by
  obtain ⟨⟨b1, b2⟩, b3⟩ := b
  obtain ⟨a1, a2⟩ := a
  by_cases w0 : w = 0
  · by_cases y : e
    · have a := (a2 w0).1 y
      have b := (b2 w0).1 y
      exact ⟨Int32.toInt_inj.mp (by omega), fun _ => Int32.toInt_inj.mp (by omega), fun z => by exfalso; omega⟩
    · have a := (a2 w0).2 y
      have b := (b2 w0).2 y
      exact ⟨Int32.toInt_inj.mp (by omega), fun z => absurd a z, fun _ => b3 b⟩
  · have a := a1 w0
    have b := b1 w0
    exact ⟨Int32.toInt_inj.mp (by omega), fun _ => Int32.toInt_inj.mp (by omega), fun z => by exfalso; omega⟩
/-- the reference's loop: there was a fault -/
theorem r_112f (E : KE s K) (k : K hr) (f1 : 0 < (hi hr 226 13).toInt) {l1 : Int32} (hm : 3000 ≤ m) : Pc (W_X12_read m 112 hr l1) (fun q => q.1 = hi hr 226 13 ∧ hi q.2 226 17 = hi hr 226 14) := by
  obtain ⟨m', rfl⟩ : ∃ m', m = m' + 1 := ⟨m - 1, by omega⟩
  have f0 := lit_0
  rw [u_X12_read]
  refine Pc.neg (by decide) (Pc.pos rfl ?_)
  refine Pc.eq (fun c1 => by exfalso; omega) (fun c1 => ?_)
  refine Pc.eq (fun c1 => by exfalso; omega) (fun c1 => ?_)
  exact r_fault E k (by omega) f1
set_option maxHeartbeats 4000000 in
theorem j_loop (X : TX N kd pl vl) (Y : TN N kd vl nm) (hs : s ≤ 1) (E : KE s K) {x1 : Int32} (hx : x1.toInt = pl N) {l1 : Int32} : ∀ (n : Nat) (hc hr : Hp) (st : Int × Nat × Int × Int) (l2 : Int32), JA N kd pl vl nm s hc hr st → K hr → 0 ≤ l2.toInt → l2.toInt ≤ 401 → (st.1 = 0 → l2.toInt ≤ st.2.1) → Pc (W_X7_readText n 14 hc x1 l2) (fun qc => ∀ m : Nat, (9500 : Int) < m → (st.1 = 0 → (10000 : Int) + (402 - (st.2.1 : Int)) < m) → Pc (W_X12_read m 112 hr l1) (rjP qc)) := by
  intro n
  induction n with
  | zero => intro hc hr st l2 j k a b c; exact Pc.no
  | succ n ih =>
    intro hc hr st l2 j k a b c
    have f0 := lit_0
    have f1 := lit_1
    have f32 := lit_32
    have f400 := lit_400
    have T := j.2.1
    have C := j.1.1
    have R := j.1.2.1
    have S := j.2.2.1.1
    have S2 := j.2.2.2.1.1
    have s1 := S.1
    have T2 := T.2
    rw [u_X7_readText]
    refine Pc.pos rfl ?_
    -- a fault
    have bad (fz : st.1 ≠ 0) : Pc ((F_X9_placeOf n hc (hi hc 2 4)).bind (fun q5 => some ((hi (wrI q5.2 2 2 q5.1) 2 5), (wrI q5.2 2 2 q5.1)))) (fun qc => ∀ m : Nat, (9500 : Int) < m → (st.1 = 0 → (10000 : Int) + (402 - (st.2.1 : Int)) < m) → Pc (W_X12_read m 112 hr l1) (rjP qc)) := by
      refine Pc.bind (pc_placeOf C T S.2) (fun q hq => Pc.ret (fun m hm _ => ?_))
      obtain ⟨q1, q2⟩ := hq
      rw [q1]
      have e5 : hi (wrI hc 2 2 q.1) 2 5 = hi hc 2 5 := by rw [hi_wrI, if_neg (by decide)]
      have e2 : hi (wrI hc 2 2 q.1) 2 2 = q.1 := by rw [hi_wrI, if_pos ⟨rfl, rfl⟩]
      have p0 := S2.1
      have p1 := S2.2.1
      have p3 := S2.2.2.2 fz
      refine (r_112f E k (by omega) (by omega)).mono (fun r hr' => ?_)
      unfold rjP
      show hi (wrI hc 2 2 q.1) 2 5 = r.1 ∧ ((hi (wrI hc 2 2 q.1) 2 5).toInt ≠ 0 → hi (wrI hc 2 2 q.1) 2 2 = hi r.2 226 17) ∧ ((hi (wrI hc 2 2 q.1) 2 5).toInt = 0 → hi r.2 226 17 = -1)
      rw [e5, e2, hr'.1, hr'.2]
      exact ⟨Int32.toInt_inj.mp (by omega), fun _ => Int32.toInt_inj.mp (by omega), fun z => by exfalso; omega⟩
    refine Pc.lt (fun c1 => ?_) (fun c1 => ?_)
    · -- more statements than TOKENS: there is a fault
      have fz : st.1 ≠ 0 := fun z => by have := c z; omega
      exact Pc.eq (fun c2 => by exfalso; omega) (fun _ => bad fz)
    · refine Pc.eq (fun c2 => ?_) (fun c2 => ?_)
      · have fz : st.1 = 0 := by omega
        have kk : Pc (F_X7_kind n hc) (fun q => q.2 = hc ∧ q.1.toInt = kd st.2.1) := by
          unfold F_X7_kind
          exact Pc.bind (pc_kindOf X C T S.2) (fun q hq => Pc.ret hq)
        have p1 := S2.2.1
        have p2 := S2.2.2.1 fz
        refine Pc.bind kk (fun q hq => ?_)
        obtain ⟨q1, q2⟩ := hq
        rw [q1]
        refine Pc.eq (fun c3 => ?_) (fun c3 => ?_)
        · -- END
          refine Pc.eq (fun c4 => ?_) (fun c4 => by exfalso; omega)
          have ek : kd st.2.1 = 32 := by omega
          have et : st.2.1 = N := X.end T ek
          refine (c_end j fz).mono (fun qc hqc m _ hm => ?_)
          have hm := hm fz
          obtain ⟨m', rfl⟩ : ∃ m', m = m' + 1 := ⟨m - 1, by omega⟩
          rw [u_X12_read]
          refine Pc.neg (by decide) (Pc.pos rfl ?_)
          refine Pc.eq (fun c5 => ?_) (fun c5 => by exfalso; omega)
          refine Pc.bind (pr_is X R T S2 32 (by decide) (by decide)) (fun r hr' => ?_)
          rw [hr'.1]
          have y := hr'.2.mpr ⟨fz, ek⟩
          refine Pc.eq (fun c6 => by exfalso; omega) (fun _ => ?_)
          refine Pc.eq (fun c7 => ?_) (fun c7 => by exfalso; omega)
          have re := r_end E k (m := m') (by omega) hs j fz
          rw [et, ← hx] at re
          exact re.mono (fun qr b => en_same hqc b)
        · -- a statement
          have nk : kd st.2.1 ≠ 32 := by omega
          refine Pc.bind kk (fun r hr' => ?_)
          obtain ⟨r1, r2⟩ := hr'
          rw [r1]
          have a1 := adT l2 1 (by omega) (by omega)
          have jt (m : Nat) := j_tell (n := n) (m := m) X Y j hs fz nk (x1 := r.1) r2
          refine Pc.bind (fun qc eqc => (fun m => jt m qc eqc)) (fun qc hqc => ?_)
          intro qe hqe m _ hm
          have hm := hm fz
          obtain ⟨m', rfl⟩ : ∃ m', m = m' + 1 := ⟨m - 1, by omega⟩
          rw [u_X12_read]
          refine Pc.neg (by decide) (Pc.pos rfl ?_)
          refine Pc.eq (fun c5 => ?_) (fun c5 => by exfalso; omega)
          refine Pc.bind (pr_is X R T S2 32 (by decide) (by decide)) (fun w hw => ?_)
          rw [hw.1]
          refine Pc.eq (fun c6 => ?_) (fun c6 => absurd (hw.2.mp (by omega)).2 nk)
          refine Pc.bind (fun g eg => And.intro (hqc m' g eg) (E.2.1 m' hr (by omega) k (by omega) g eg)) (fun g hg => ?_)
          obtain ⟨⟨st', j', pg⟩, kg⟩ := hg
          by_cases z : st'.1 = 0
          · have lt := pg z
            exact ih qc g st' (l2 + 1) j' kg (by omega) (by omega) (fun _ => by have := c fz; omega) qe hqe m' (by omega) (fun _ => by omega)
          · have T' := j'.2.1.2
            exact ih qc g st' (l2 + 1) j' kg (by omega) (by omega) (fun y => absurd y z) qe hqe m' (by omega) (fun y => absurd y z)
      · exact Pc.eq (fun c3 => by exfalso; omega) (fun _ => bad (by omega))
end RE
end
section
/-! READING, both: TOKENS as both keep them -/
section TD
variable {bs : Nat → Int} {m N : Nat} {hc hr : Hp}
theorem TkE.lt {i e : Nat} (a : TkE bs i e) : i < e := by
  rcases a with ⟨a1, a2, -, a3⟩ | ⟨a1, a2, -, a3⟩ | ⟨-, -, a3⟩
  · by_cases z : i = e
    · rw [z] at a1; exact absurd a1 a3
    · omega
  · by_cases z : i = e
    · rw [z] at a1; exact absurd a1 a3
    · omega
  · omega
theorem RN.lt {P : Nat → Nat} (a : RN bs N P) : ∀ d t, t + d + 1 ≤ N → P t < P (t + d + 1) := by
  have st (t : Nat) (ht : t < N) : P t < P (t + 1) := by
    obtain ⟨e, e1, e2⟩ := a.2 t ht
    have := e1.lt
    have := e2.1
    omega
  intro d
  induction d with
  | zero => intro t h; exact st t (by omega)
  | succ d ih =>
    intro t h
    have h1 := ih t (by omega)
    have h2 := st (t + d + 1) (by omega)
    have e : t + (d + 1) + 1 = t + d + 1 + 1 := by omega
    rw [e]
    omega
/-- TOKENS of both, as numbers -/
theorem tq_all (q : TQ bs m hc hr N) : ∃ kd pl vl nm, TX N kd pl vl ∧ CT N kd pl vl hc ∧ RT N kd pl vl hr ∧ NM N nm hr ∧ TN N kd vl nm ∧ pl N = (m : Int) := by
  obtain ⟨q1, q2, q3, q4, P, q5, q6⟩ := q
  let kd : Nat → Int := fun t => if t < N then (vp_nar .byte (hi hc 20 t)).toInt else 32
  let pl : Nat → Int := fun t => if t < N then (vp_nar .short (hi hc 21 t)).toInt else (m : Int)
  let vl : Nat → Int := fun t => (hl hc 22 t).toInt
  let nm : Nat → Int := fun t => (hl hr 232 t).toInt
  have kN : kd N = 32 := if_neg (Nat.lt_irrefl N)
  have pN : pl N = (m : Int) := if_neg (Nat.lt_irrefl N)
  have kt (t : Nat) (h : t < N) : kd t = (vp_nar .byte (hi hc 20 t)).toInt := if_pos h
  have pt (t : Nat) (h : t < N) : pl t = (vp_nar .short (hi hc 21 t)).toInt := if_pos h
  have key (t : Nat) (h : t < N) : P t < m ∧ ∃ e v' , TkE bs (P t) e ∧ pl t = (P t : Int) ∧ ((hi hr 229 t).toInt = rk (kd t) ∧ (hi hr 230 t).toInt = (P t : Int) ∧ (hi hr 231 t).toInt = v') ∧ TkB bs (P t) e (kd t) (vl t) (rk (kd t)) v' (nm t) := by
    obtain ⟨a1, e, k, v, v', n', b1, ⟨b2, b3, b4⟩, ⟨b5, b6, b7, b8⟩, b9⟩ := q6 t h
    have ek : kd t = k := (kt t h).trans b2
    have en : nm t = n' := b8
    have ev : vl t = v := b4
    refine ⟨a1, e, v', b1, (pt t h).trans b3, ⟨by rw [ek]; exact b5, b6, b7⟩, ?_⟩
    rw [ek, en, ev]
    exact b9
  refine ⟨kd, pl, vl, nm, ⟨fun t h => ?_, kN, fun t h z => ?_, fun t t' h h' => ?_⟩, ⟨q2, by rw [q3, pN], fun t h => ⟨(kt t h).symm, (pt t h).symm, rfl⟩⟩, fun t h => ?_, fun t _ => rfl, fun t t' h h' z z' => ?_, pN⟩
  · obtain ⟨-, e, v', -, -, -, b⟩ := key t h
    exact ⟨b.2.1, b.2.2.1⟩
  · obtain ⟨-, e, v', -, -, -, b⟩ := key t h
    exact (b.2.2.2.1 z).2
  · obtain ⟨a1, e, v', -, b1, -, -⟩ := key t (by omega)
    by_cases w : t' = N
    · rw [w, pN, b1]; omega
    · obtain ⟨-, -, -, -, b2, -, -⟩ := key t' (by omega)
      rw [b1, b2]
      have := q5.lt (t' - t - 1) t (by omega)
      have e : t + (t' - t - 1) + 1 = t' := by omega
      rw [e] at this
      omega
  · by_cases w : t < N
    · obtain ⟨-, e, v', -, b1, ⟨c1, c2, c3⟩, b⟩ := key t w
      refine ⟨c1, by rw [c2, b1], fun z => ?_⟩
      rw [c3, (b.2.2.2.1 z).1]
    · have : t = N := by unfold tI2 at h; omega
      subst this
      obtain ⟨c1, c2⟩ := q4 h.2
      refine ⟨by rw [c1, kN]; decide, by rw [c2, pN], fun z => ?_⟩
      rw [kN] at z
      exact absurd z (by decide)
  · obtain ⟨-, e, v', -, -, -, b⟩ := key t h
    obtain ⟨-, e', w', -, -, -, b'⟩ := key t' h'
    obtain ⟨-, x1, x2, x3⟩ := b.2.2.2.2 z
    obtain ⟨-, y1, y2, y3⟩ := b'.2.2.2.2 z'
    rw [x2, x3, y2, y3]
    exact ⟨wn_inj (by decide) _ _ x1 y1, wn_inj (by decide) _ _ x1 y1⟩
end TD
/-! READING, both: how the class begins -/
section CB
variable {h : Hp} {n : Nat}
/-- cells that stay -/
def frA (A : Nat → Prop) (h q : Hp) : Prop := (∀ a k, ¬ A a → hi q a k = hi h a k) ∧ ∀ a k, hl q a k = hl h a k
theorem frA.rf {A : Nat → Prop} (h : Hp) : frA A h h := ⟨fun _ _ _ => rfl, fun _ _ => rfl⟩
theorem frA.tr {A : Nat → Prop} {h0 h1 h2 : Hp} (a : frA A h0 h1) (b : frA A h1 h2) : frA A h0 h2 := ⟨fun x k n => (b.1 x k n).trans (a.1 x k n), fun x k => (b.2 x k).trans (a.2 x k)⟩
theorem frA.w {A : Nat → Prop} {h q : Hp} (f : frA A h q) {a k : Nat} {v : Int32} (n : A a) : frA A h (wrI q a k v) := ⟨fun x y m => by rw [hi_wrI, if_neg (fun z : x = a ∧ y = k => m (by rw [z.1]; exact n))]; exact f.1 x y m, fun x y => f.2 x y⟩
theorem frA.sub {A B : Nat → Prop} {h q : Hp} (f : frA A h q) (s : ∀ a, A a → B a) : frA B h q := ⟨fun x k n => f.1 x k (fun z => n (s x z)), f.2⟩
theorem pc_fill25 {b : Nat} {x : Int32} : ∀ (n : Nat) (h : Hp) (l2 l3 : Int32) (i : Nat), l2.toInt = (i : Int) → l3.toInt = 25 → i ≤ 25 → (∀ k, k < i → hi h b k = x) → Pc (W_J7_fill_25 n 5 h b x l2 l3) (fun q => frA (fun a => a = b) h q ∧ ∀ k, k < 25 → hi q b k = x) := by
  intro n
  induction n with
  | zero => intro h l2 l3 i a b' c d; exact Pc.no
  | succ n ih =>
    intro h l2 l3 i e e3 e5 z
    have n1 := ncT (show 0 ≤ l2.toInt by omega)
    have n2 : Int32.toNatClampNeg l2 = i := by omega
    have f1 := lit_1
    rw [u_J7_fill_25, n2]
    refine Pc.pos rfl ?_
    refine Pc.le (fun c => Pc.ret ⟨frA.rf h, fun k hk => z k (by omega)⟩) (fun c => Pc.chk (fun _ => ?_))
    have a1 := adT l2 1 (by omega) (by omega)
    refine (ih (wrI h b i x) (l2 + 1) l3 (i + 1) (by omega) e3 (by omega) (fun k hk => ?_)).mono (fun q hq => ⟨frA.tr (h1 := wrI h b i x) (frA.w (frA.rf h) (show b = b from rfl)) hq.1, hq.2⟩)
    rw [hi_wrI]
    by_cases y : k = i
    · rw [if_pos ⟨rfl, y⟩]
    · rw [if_neg (fun w => y w.2)]
      exact z k (by omega)
theorem pc_fill5 {b : Nat} {x : Int32} : ∀ (n : Nat) (h : Hp) (l2 l3 : Int32), Pc (W_J7_fill_5 n 5 h b x l2 l3) (fun q => frA (fun a => a = b) h q) := by
  intro n
  induction n with
  | zero => intro h l2 l3; exact Pc.no
  | succ n ih =>
    intro h l2 l3
    rw [u_J7_fill_5]
    refine Pc.pos rfl ?_
    refine Pc.le (fun c => Pc.ret (frA.rf h)) (fun c => Pc.chk (fun _ => ?_))
    exact (ih _ (l2 + 1) l3).mono (fun q hq => frA.tr (A := fun a => a = b) (frA.w (frA.rf h) (show b = b from rfl)) hq)
theorem pc_clear8 {a : Nat} : Pc (F_X8_clear n h a) (fun q => frA (fun x => x = a ∨ x = a + 3) h q) := by
  unfold F_X8_clear F_J7_fill_5
  refine Pc.bind (pc_fill5 n _ 0 5) (fun q hq => Pc.ret ?_)
  exact ((((frA.rf h).w (Or.inl rfl)).w (Or.inl rfl)).w (Or.inl rfl)).w (Or.inl rfl) |>.tr (hq.sub (fun a' z => Or.inr z))
theorem pc_lay4 {a : Nat} {l1 l2 : Int32} : ∀ (n : Nat) (h : Hp) (l3 : Int32), Pc (W_X3_lay n 17 h a l1 l2 l3) (fun q => (∀ x k, ¬ (x = a ∧ (k = 2 ∨ k = 3)) → hi q x k = hi h x k) ∧ ∀ x k, hl q x k = hl h x k) := by
  intro n
  induction n with
  | zero => intro h l3; exact Pc.no
  | succ n ih =>
    intro h l3
    rw [u_X3_lay]
    refine Pc.pos rfl ?_
    refine Pc.le (fun c => Pc.ret ⟨fun x k n => by rw [hi_wrI, if_neg (by omega)], fun _ _ => rfl⟩) (fun c => ?_)
    refine (ih _ (l3 + 1)).mono (fun q hq => ⟨fun x k n => ?_, fun x k => hq.2 x k⟩)
    rw [hq.1 x k n, hi_wrI, if_neg (by omega)]
def laC (a x : Nat) : Prop := x = a ∨ x = a + 1 ∨ x = a + 2
theorem pc_begin4 {a : Nat} {x : Int32} : Pc (F_X4_begin n h a x) (fun q => frA (laC a) h q) := by
  unfold F_X4_begin
  exact Pc.lt (fun _ => Pc.ret (frA.rf h)) (fun _ => Pc.le (fun _ => Pc.ret (frA.rf h)) (fun _ => Pc.chk (fun _ => Pc.ret ((frA.rf h).w (Or.inr (Or.inr rfl))))))
theorem pc_add4 {a : Nat} {x : Int32} : Pc (F_X4_add n h a x) (fun q => frA (laC a) h q) := by
  unfold F_X4_add
  exact Pc.le (fun _ => Pc.ret (frA.rf h)) (fun _ => Pc.chk (fun _ => Pc.ret (((frA.rf h).w (Or.inr (Or.inl rfl))).w (Or.inl rfl))))
theorem pc_clear4 {a : Nat} : Pc (F_X4_clear n h a) (fun q => frA (laC a) h q) := by
  unfold F_X4_clear
  have f0 : frA (laC a) h (wrI h a 3 0) := (frA.rf h).w (Or.inl rfl)
  refine Pc.bind pc_begin4 (fun q1 h1 => ?_)
  have f1 := f0.tr h1
  refine Pc.bind pc_begin4 (fun q2 h2 => ?_)
  have f2 := f1.tr h2
  refine Pc.bind pc_add4 (fun q3 h3 => ?_)
  have f3 := f2.tr h3
  refine Pc.bind pc_add4 (fun q4 h4 => ?_)
  have f4 := f3.tr h4
  refine Pc.bind pc_begin4 (fun q5 h5 => ?_)
  have f5 := f4.tr h5
  refine Pc.bind pc_begin4 (fun q6 h6 => ?_)
  have f6 := f5.tr h6
  refine Pc.bind pc_add4 (fun q7 h7 => ?_)
  have f7 := f6.tr h7
  refine Pc.bind pc_add4 (fun q8 h8 => ?_)
  exact Pc.ret (f7.tr h8)
def clA (x : Nat) : Prop := x = 2 ∨ x = 3 ∨ x = 4 ∨ x = 5 ∨ x = 6 ∨ x = 7 ∨ x = 10 ∨ x = 13 ∨ x = 16
theorem pc_clear0 : Pc (F_X0_clear n h 3) (fun q => frA (fun x => x = 3 ∨ x = 4 ∨ x = 5 ∨ x = 6 ∨ x = 7) h q ∧ hi q 3 2 = 0 ∧ hi q 4 0 = 4 ∧ hi q 4 1 = 4) := by
  unfold F_X0_clear F_X3_lay
  refine Pc.bind (pc_lay4 n _ 0) (fun q1 h1 => ?_)
  refine Pc.bind pc_clear4 (fun q2 h2 => Pc.ret ⟨⟨fun x k m => ?_, fun x k => ?_⟩, ?_, ?_, ?_⟩)
  · rw [hi_wrI, if_neg (by omega), hi_wrI, if_neg (by omega), hi_wrI, if_neg (by omega), h2.1 x k (by unfold laC; omega), h1.1 x k (by omega), hi_wrI, if_neg (by omega), hi_wrI, if_neg (by omega), hi_wrI, if_neg (by omega)]
  · rw [hl_wrI, hl_wrI, hl_wrI, h2.2 x k, h1.2 x k, hl_wrI, hl_wrI, hl_wrI]
  · rw [hi_wrI, if_neg (by omega), hi_wrI, if_neg (by omega), hi_wrI, if_pos ⟨rfl, rfl⟩]
  · rw [hi_wrI, if_neg (by omega), hi_wrI, if_neg (by omega), hi_wrI, if_neg (by omega), h2.1 4 0 (by unfold laC; omega), h1.1 4 0 (by omega), hi_wrI, if_neg (by omega), hi_wrI, if_neg (by omega), hi_wrI, if_pos ⟨rfl, rfl⟩]
  · rw [hi_wrI, if_neg (by omega), hi_wrI, if_neg (by omega), hi_wrI, if_neg (by omega), h2.1 4 1 (by unfold laC; omega), h1.1 4 1 (by omega), hi_wrI, if_neg (by omega), hi_wrI, if_pos ⟨rfl, rfl⟩]
/-- the class, cleared -/
def bgC (q : Hp) : Prop := cS q 0 0 ∧ (hi q 2 6).toInt = 0 ∧ (hi q 2 12 = 0 ∧ (hi q 2 13).toInt = 0 ∧ (hi q 2 14).toInt = 0) ∧ (hi q 3 2).toInt = 0 ∧ ((hi q 4 0).toInt = 4 ∧ (hi q 4 1).toInt = 4) ∧ ∀ k, k < 25 → (hi q 16 k).toInt = 0
theorem bgC.cg {q q' : Hp} (b : bgC q) (f : ∀ a k, a ≤ 16 → hi q' a k = hi q a k) : bgC q' := by
  unfold bgC cS
  rw [f 2 5 (by decide), f 2 4 (by decide), f 2 6 (by decide), f 2 12 (by decide), f 2 13 (by decide), f 2 14 (by decide), f 3 2 (by decide), f 4 0 (by decide), f 4 1 (by decide)]
  refine ⟨b.1, b.2.1, b.2.2.1, b.2.2.2.1, b.2.2.2.2.1, fun k hk => ?_⟩
  rw [f 16 k (by decide)]
  exact b.2.2.2.2.2 k hk
theorem pc_clear7 : Pc (F_X7_clear n h) (fun q => frA clA h q ∧ bgC q) := by
  have f0 := lit_0
  have f4 := lit_4
  unfold F_X7_clear F_J7_fill_25
  refine Pc.bind pc_clear0 (fun q1 h1 => ?_)
  obtain ⟨a1, a2, a3, a4⟩ := h1
  refine Pc.bind pc_clear8 (fun q2 h2 => ?_)
  refine Pc.bind (pc_fill25 n _ 0 25 0 f0 lit_25 (by decide) (fun k hk => absurd hk (Nat.not_lt_zero k))) (fun q3 h3 => Pc.ret ?_)
  obtain ⟨b1, b2⟩ := h3
  have r3 (k : Nat) (n2 : ¬ (k = 12 ∨ k = 13 ∨ k = 14)) : hi (wrI (wrI (wrI q3 2 12 0) 2 13 0) 2 14 0) 2 k = hi (wrI (wrI (wrI (wrI (wrI q2 2 2 (-1)) 2 4 0) 2 5 0) 2 6 0) 2 7 (-1)) 2 k := by
    rw [hi_wrI, if_neg (by omega), hi_wrI, if_neg (by omega), hi_wrI, if_neg (by omega)]
    exact b1.1 2 k (by decide)
  have rn (a k : Nat) (n2 : a ≠ 2) : hi (wrI (wrI (wrI q3 2 12 0) 2 13 0) 2 14 0) a k = hi q3 a k := by
    rw [hi_wrI, if_neg (by omega), hi_wrI, if_neg (by omega), hi_wrI, if_neg (by omega)]
  have rm (a k : Nat) (n2 : a ≠ 2) (n3 : a ≠ 16) : hi q3 a k = hi q2 a k := by
    rw [b1.1 a k n3, hi_wrI, if_neg (by omega), hi_wrI, if_neg (by omega), hi_wrI, if_neg (by omega), hi_wrI, if_neg (by omega), hi_wrI, if_neg (by omega)]
  refine ⟨⟨fun a k m => ?_, fun a k => ?_⟩, ⟨?_, ?_⟩, ?_, ⟨?_, ?_, ?_⟩, ?_, ⟨?_, ?_⟩, fun k hk => ?_⟩
  · unfold clA at m
    rw [rn a k (by omega), rm a k (by omega) (by omega), h2.1 a k (by omega)]
    exact a1.1 a k (by omega)
  · rw [hl_wrI, hl_wrI, hl_wrI, b1.2 a k, hl_wrI, hl_wrI, hl_wrI, hl_wrI, hl_wrI, h2.2 a k]
    exact a1.2 a k
  · rw [r3 5 (by decide), hi_wrI, if_neg (by omega), hi_wrI, if_neg (by omega), hi_wrI, if_pos ⟨rfl, rfl⟩]
    exact f0
  · rw [r3 4 (by decide), hi_wrI, if_neg (by omega), hi_wrI, if_neg (by omega), hi_wrI, if_neg (by omega), hi_wrI, if_pos ⟨rfl, rfl⟩]
    exact f0
  · rw [r3 6 (by decide), hi_wrI, if_neg (by omega), hi_wrI, if_pos ⟨rfl, rfl⟩]
    exact f0
  · rw [hi_wrI, if_neg (by omega), hi_wrI, if_neg (by omega), hi_wrI, if_pos ⟨rfl, rfl⟩]
  · rw [hi_wrI, if_neg (by omega), hi_wrI, if_pos ⟨rfl, rfl⟩]; exact f0
  · rw [hi_wrI, if_pos ⟨rfl, rfl⟩]; exact f0
  · rw [rn 3 2 (by decide), rm 3 2 (by decide) (by decide), h2.1 3 2 (by decide), a2]; exact f0
  · rw [rn 4 0 (by decide), rm 4 0 (by decide) (by decide), h2.1 4 0 (by decide), a3]; exact f4
  · rw [rn 4 1 (by decide), rm 4 1 (by decide) (by decide), h2.1 4 1 (by decide), a4]; exact f4
  · rw [rn 16 k (by decide), b2 k hk]; exact f0
end CB
end
section
/-! READING, both: the text of the class, and whatever the reference makes of the same bytes -/
/-- the reference's side is plain, and it stands at the first TOKEN -/
def rB (s : Nat) (g2 hr : Hp) : Prop := (∀ k, hi hr 229 k = hi g2 229 k) ∧ (∀ k, hi hr 230 k = hi g2 230 k) ∧ (∀ k, hi hr 231 k = hi g2 231 k) ∧ (∀ k, hl hr 232 k = hl g2 232 k) ∧ ((hi hr 226 11).toInt = 0 ∧ (hi hr 226 12).toInt = 0 ∧ (hi hr 226 13).toInt = 0 ∧ (hi hr 226 15).toInt = 0 ∧ (hi hr 226 19).toInt = (s : Int) ∧ (hi hr 226 20).toInt = 0) ∧ (hi hr 235 s).toInt = 4 ∧ (hi hr 236 s).toInt = 4 ∧ (hi hr 237 s).toInt = 0 ∧ (hi hr 242 s).toInt = 0 ∧ (hi hr 245 s).toInt = 0
def rdJ (bs : Nat → Int) (m : Nat) (qc : Int32 × Hp) : Prop := ∀ (s : Nat) (K : Hp → Prop) (g0 g2 hr : Hp) (l1 : Int32), s ≤ 1 → KE s K → CtP bs m g0 g2 → rB s g2 hr → K hr → ∀ m', 11000 ≤ m' → Pc (W_X12_read m' 112 hr l1) (rjP qc)
theorem j_begin {N : Nat} {kd pl vl nm : Nat → Int} {s : Nat} {hc g2 hr : Hp} (C : CT N kd pl vl hc) (R : RT N kd pl vl g2) (M : NM N nm g2) (b : bgC hc) (r : rB s g2 hr) : JA N kd pl vl nm s hc hr (0, 0, 0, 0) := by
  obtain ⟨r1, r2, r3, r4, ⟨x11, x12, x13, x15, x19, x20⟩, y5, y6, y7, y42, y45⟩ := r
  obtain ⟨b1, b2, ⟨b3, b4, b5⟩, b6, ⟨b7, b8⟩, b9⟩ := b
  refine ⟨⟨C, R.cg ⟨r1, r2, r3⟩, fun t ht => by rw [r4]; exact M t ht, x19⟩, ⟨Nat.zero_le _, Nat.zero_le _⟩, ⟨b1, fun _ => ⟨b2, fun z => absurd rfl z⟩⟩, ⟨⟨Int.le_refl 0, x13, fun _ => x11, fun z => absurd rfl z⟩, fun _ => ⟨x15, fun z => absurd rfl z⟩⟩, fun _ => ⟨x12, ⟨⟨by omega, by omega, by omega⟩, ⟨by omega, by omega, by omega⟩, ⟨by omega, by omega, by omega⟩, by omega⟩, ⟨fun _ => 0, fun g hg => by exfalso; omega⟩, fun _ => ⟨⟨Int32.toInt_inj.mp (by omega), Int32.toInt_inj.mp (by omega)⟩, ⟨fun c hc' => ⟨fun z => ?_, fun ⟨k, k1, _⟩ => by exfalso; omega⟩, fun k hk => by exfalso; omega⟩, ⟨fun c hc' => ⟨fun z => ?_, fun ⟨k, k1, _⟩ => by exfalso; omega⟩, fun k hk => by exfalso; omega⟩, fun g hg => by exfalso; omega⟩⟩⟩
  · have := b9 c hc'
    exfalso; omega
  · rw [b3] at z
    have : (0 : Int32).toBitVec.getLsbD c = false := BitVec.getLsbD_zero
    rw [this] at z
    exact Bool.noConfusion z
theorem c_text {bs : Nat → Int} {m n : Nat} {h : Hp} {x1 : Int32} (B : BS bs m) (hx : x1.toInt = (m : Int)) (W : WD h) (hb : ∀ i, i < m → ((vp_nar .byte (hi h 1 i) : Int32) &&& 255).toInt = bs i) : Pc (F_X7_readText n h x1) (rdJ bs m) := by
  unfold F_X7_readText
  refine Pc.bind pc_clear7 (fun q25 h25 => ?_)
  obtain ⟨a1, a2⟩ := h25
  have f0 := lit_0
  refine Pc.bind (pc_scan B hx (fun k hk => by rw [a1.2 19 k]; exact W k hk) (fun i hi' => by rw [a1.1 1 i (by unfold clA; omega)]; exact hb i hi')) (fun q27 h27 => ?_)
  intro qc eqc s K g0 g2 hr l1 hs E c r k m' hm
  obtain ⟨N, q⟩ := tok_both B h27 c
  obtain ⟨kd, pl, vl, nm, X, C, R, M, Y, pN⟩ := tq_all q
  have bc : bgC q27 := a2.cg (fun a k' ha => h27.1.1 a k' (by omega) (by omega) (by omega))
  have j := j_begin (s := s) C R M bc r
  exact j_loop X Y hs E (hx.trans pN.symm) n q27 hr (0, 0, 0, 0) 0 j k (by omega) (by omega) (fun _ => by show (0 : Int32).toInt ≤ ((0 : Nat) : Int); omega) qc eqc m' (by omega) (fun _ => by show (10000 : Int) + (402 - ((0 : Nat) : Int)) < (m' : Int); omega)
end
section
/-! READING, both: the whole of it -/
theorem and255 (x : Int32) : 0 ≤ (x &&& 255).toInt ∧ (x &&& 255).toInt ≤ 255 := by
  have h : (x &&& 255).toBitVec.toNat ≤ 255 := by
    show (x.toBitVec &&& 255#32).toNat ≤ 255
    rw [BitVec.toNat_and]
    exact Nat.and_le_right
  have e : (x &&& 255).toInt = ((x &&& 255).toBitVec.toNat : Int) := by
    show (x &&& 255).toBitVec.toInt = _
    rw [BitVec.toInt_eq_toNat_cond, if_pos (by omega)]
  omega
theorem i8i8 (x : Int32) : x.toInt8.toInt32.toInt8 = x.toInt8 := Int8.toInt8_toInt32 x.toInt8
section RF
variable {s : Nat} {hS hC x : Hp}
/-- how it answers at the end, and the place -/
theorem rd_E17 (hs : s ≤ 1) (j : jR s hC x) {n : Nat} (hn : 2000 ≤ n) (bz : (hi x 226 13).toInt = 0 → (hi x 226 15).toInt = 0 → offT s x (hi x 237 s).toInt ∧ offG s x (hi x 242 s).toInt) (p : Int32) : Ok (rdE n x p) (fun q => hi q.2 226 17 = p ∧ ((hi x 226 13).toInt ≠ 0 → q.1 = hi x 226 13) ∧ ((hi x 226 13).toInt = 0 → (hi x 226 15).toInt ≠ 0 → q.1 = hi x 226 15) ∧ ((hi x 226 13).toInt = 0 → (hi x 226 15).toInt = 0 → q.1.toInt = 0)) := by
  have f0 := lit_0
  have t2 := j.1.2.2.1.2
  have e13 : hi (wrI x 226 17 p) 226 13 = hi x 226 13 := hiK rfl 226 13 (by decide)
  have e15 : hi (wrI x 226 17 p) 226 15 = hi x 226 15 := hiK rfl 226 15 (by decide)
  have e19 : hi (wrI x 226 17 p) 226 19 = hi x 226 19 := hiK rfl 226 19 (by decide)
  have e17 : hi (wrI x 226 17 p) 226 17 = p := hiE rfl
  unfold rdE
  rw [e13, e15, e19]
  refine Ok.le (fun c1 => ?_) (fun c1 => Ok.ret ⟨e17, fun _ => rfl, fun z => by exfalso; omega, fun z => by exfalso; omega⟩)
  refine Ok.le (fun c2 => ?_) (fun c2 => Ok.ret ⟨e17, fun z => by exfalso; omega, fun _ _ => rfl, fun _ z => by exfalso; omega⟩)
  have fz : (hi x 226 13).toInt = 0 := by omega
  have wz : (hi x 226 15).toInt = 0 := by omega
  obtain ⟨ot, og⟩ := bz fz wz
  generalize eg1 : wrI x 226 17 p = g1
  generalize eg2 : wrI g1 226 18 (hi x 226 19) = g2
  have r2 (a k : Nat) (n1 : ¬ (a = 226 ∧ (k = 17 ∨ k = 18))) : hi g2 a k = hi x a k := by
    rw [← eg2, hi_wrI, if_neg (by omega), ← eg1, hi_wrI, if_neg (by omega)]
  have y17 : hi g2 226 17 = p := by
    rw [← eg2, hi_wrI, if_neg (by decide), ← eg1, hi_wrI, if_pos ⟨rfl, rfl⟩]
  have H : bgH s (hi x 235 s).toInt.toNat (hi x 236 s).toInt.toNat g2 := rd_bgH hs j fz wz ot og (fun a k n1 => r2 a k (by omega)) (hiE eg2)
  refine Ok.bind (sf_X12_begins (by omega) H) (fun q106 hq106 => ?_)
  obtain ⟨h1, v, hb, hp⟩ := hq106
  refine Ok.bind (sf_X12_keepsRow (by omega)) (fun q108 cp => ?_)
  have z17 : hi q108 226 17 = p := by
    rw [cp.1.1 226 17 (by decide), hp.1.1 226 17 (by decide), hi_wrI, if_neg (by decide), hi_wrI, if_neg (by decide), hb.1.1 226 17 (by decide)]
    exact y17
  generalize eg3 : wrI (wrI q108 226 59 0) 226 65 0 = g3
  have w17 : hi g3 226 17 = p := by
    rw [← eg3, hi_wrI, if_neg (by decide), hi_wrI, if_neg (by decide)]
    exact z17
  refine rd_243 (g3 := g3) (fun q b1 b2 b3 => ?_) n g3 0 (by omega) (fun _ _ _ => rfl) (fun _ _ => rfl) (fun k hk => by omega) (by omega) (by omega)
  refine ⟨?_, fun z => absurd fz z, fun _ z => absurd wz z, fun _ _ => f0⟩
  show hi q 226 17 = p
  rw [b1 226 17 (by decide)]
  exact w17
theorem no_off (nb : ¬ BR s x) : offT s x (hi x 237 s).toInt ∧ offG s x (hi x 242 s).toInt := by
  refine ⟨fun k hk => ?_, fun g hg => ?_⟩
  · have y : ¬ tnF s x k := fun z => nb (Or.inl ⟨k, hk, z⟩)
    unfold tnF offR at y
    omega
  · have y : ¬ offR s x (hi x 243 (5 * s + g)) (hi x 244 (5 * s + g)) := fun z => nb (Or.inr (Or.inr ⟨g, hg, Or.inl z⟩))
    unfold offR at y
    omega
theorem ke_jR (hs : s ≤ 1) (c : rdC s hS hC) : KE s (jR s hC) := by
  refine ⟨fun h j => j.1.2.2.1.2.2, fun m h hm j fz => ((sr_one (by omega) hs j fz ((rd_x c j).2.2 _)).pc).mono (fun q hq => hq.1), fun m h j => ?_, fun m h p hm j nb => (rd_E17 hs j hm (fun z1 z2 => no_off (nb z1 z2)) p).pc⟩
  have t := j.1.2.2.1
  exact ((sr_wrong t (by decide) t.1.1 t.1.2).pc).mono (fun q hq => j.p hq.1)
/-- the reference's side is plain -/
theorem rd_rB {q2 g6 q4 : Hp} {v : Int32} (hv : v.toInt = (s : Int)) (e6 : wrI (wrI (wrI (wrI (wrI (wrI q2 226 11 0) 226 12 0) 226 13 0) 226 15 0) 226 19 v) 226 20 0 = g6) (pl : plQ s g6 q4 4) {b c : Int32} (eC : wrI (wrI q4 226 39 b) 226 45 c = hC) : rB s q2 hC := by
  have f0 := lit_0
  obtain ⟨w1, w2, w3, w4, w5, w6⟩ := rd_w6 q2 v
  rw [e6] at w1 w2 w3 w4 w5 w6
  have wn (a k : Nat) (n : ¬ (a = 226 ∧ (k = 11 ∨ k = 12 ∨ k = 13 ∨ k = 15 ∨ k = 19 ∨ k = 20))) : hi g6 a k = hi q2 a k := by
    rw [← e6]; exact rd_w6n q2 v a k n
  obtain ⟨⟨⟨p1, p2⟩, p3, p4, p5, p6, p7⟩, p8⟩ := pl
  have rC (a k : Nat) (n : ¬ (a = 226 ∧ (k = 39 ∨ k = 45))) : hi hC a k = hi q4 a k := by
    rw [← eC, hi_wrI, if_neg (by omega), hi_wrI, if_neg (by omega)]
  have rf (k : Nat) (n : ¬ (k = 39 ∨ k = 45)) : hi hC 226 k = hi g6 226 k := by
    rw [rC 226 k (by omega)]; exact p1 226 k (by unfold plW; omega)
  have rt (a k : Nat) (n1 : 229 ≤ a) (n2 : a ≤ 231) : hi hC a k = hi q2 a k := by
    rw [rC a k (by omega), p1 a k (by unfold plW; omega), wn a k (by omega)]
  refine ⟨fun k => rt 229 k (by decide) (by decide), fun k => rt 230 k (by decide) (by decide), fun k => rt 231 k (by decide) (by decide), fun k => ?_, ⟨?_, ?_, ?_, ?_, ?_, ?_⟩, ?_, ?_, ?_, ?_, ?_⟩
  · rw [← eC, hl_wrI, hl_wrI, p2 232 k, ← e6, hl_wrI, hl_wrI, hl_wrI, hl_wrI, hl_wrI, hl_wrI]
  · rw [rf 11 (by decide), w1]; exact f0
  · rw [rf 12 (by decide), w2]; exact f0
  · rw [rf 13 (by decide), w3]; exact f0
  · rw [rf 15 (by decide), w4]; exact f0
  · rw [rf 19 (by decide), w5]; exact hv
  · rw [rf 20 (by decide), w6]; exact f0
  · rw [rC 235 s (by omega)]; exact p3
  · rw [rC 236 s (by omega)]; exact p4
  · rw [rC 237 s (by omega)]; exact p5
  · rw [rC 242 s (by omega)]; exact p6
  · rw [rC 245 s (by omega)]; exact p7
set_option maxHeartbeats 4000000 in
theorem rd_10j (d : dI hS) (kd : ∀ k, 0 ≤ (hi hS 229 k).toInt) {bs : Nat → Int} {m : Nat} (B : BS bs m) (Y : KY hS) (tm : (hi hS 226 2).toInt = (m : Int)) (hb : ∀ i, i < m → ((vp_nar .byte (hi hS 227 i) : Int32) &&& 255).toInt = bs i) {qc : Int32 × Hp} (Q : rdJ bs m qc) {g0 : Hp} (e0 : wrI hS 226 4 (hi hS 226 2) = g0) : ∀ (n : Nat) (h : Hp) (l1 : Int32) (i : Nat), l1.toInt = (i : Int) → i ≤ m → (∀ a k, a ≠ 228 → hi h a k = hi g0 a k) → (∀ a k, hl h a k = hl g0 a k) → (∀ k, k < i → ((vp_nar .byte (hi h 228 k) : Int32) &&& 255).toInt = bs k) → (68719500000 : Int) + (2001 - l1.toInt) < n → Pc (W_X12_read n 10 h l1) (rjP qc) := by
  intro n
  induction n with
  | zero => intro h l1 i a a' b c z e; exact Pc.no
  | succ n ih =>
    intro h l1 i a a' b c z e
    have f0 := lit_0
    have f1 := lit_1
    have tp := d.2.1
    have e4 : hi h 226 4 = hi hS 226 2 := (b 226 4 (by decide)).trans (hiE e0)
    rw [u_X12_read]
    refine Pc.pos rfl ?_
    rw [e4]
    refine Pc.le (fun c1 => ?_) (fun c1 => ?_)
    · have im : i = m := by omega
      subst im
      generalize eC : wrI h 226 2 0 = gC
      have rC (x k : Nat) (n0 : x ≠ 228) (n1 : ¬ (x = 226 ∧ (k = 2 ∨ k = 4))) : hi gC x k = hi hS x k := by
        rw [← eC, hi_wrI, if_neg (by omega), b x k n0, ← e0, hi_wrI, if_neg (by omega)]
      have lC (x k : Nat) : hl gC x k = hl hS x k := by
        rw [← eC, hl_wrI, c x k, ← e0, hl_wrI]
      have z4 : hi gC 226 4 = hi hS 226 2 := (hiK eC 226 4 (by decide)).trans e4
      have z2 : (hi gC 226 2).toInt = 0 := by rw [hiE eC]; exact f0
      have sr : SR bs i gC := ⟨by rw [z4]; exact tm, fun k hk => by rw [hiA eC 228 k (by decide)]; exact z k hk⟩
      have ky : KY gC := fun k hk => by rw [lC 233 k]; exact Y k hk
      refine Pc.bind (fun q2 eq2 => And.intro ((sf_X12_cut (h0 := gC) (by rw [z4]; exact tp) n gC (by omega) ⟨fun _ _ _ _ _ _ => rfl, fun _ _ _ => rfl, fun k => by rw [rC 229 k (by decide) (by omega)]; exact kd k⟩).pc q2 eq2) (pr_cut B sr ky q2 eq2)) (fun q2 hq2 => ?_)
      obtain ⟨⟨jc, -⟩, ct⟩ := hq2
      have e18 : hi (wrI (wrI (wrI (wrI q2 226 11 0) 226 12 0) 226 13 0) 226 15 0) 226 18 = hi hS 226 18 := by
        rw [hi_wrI, if_neg (by decide), hi_wrI, if_neg (by decide), hi_wrI, if_neg (by decide), hi_wrI, if_neg (by decide), jc.1 226 18 (by decide) (by decide) (by decide) (by decide)]
        exact rC 226 18 (by decide) (by decide)
      rw [e18]
      have l01 := d.1.1
      generalize ev : (1 - hi hS 226 18 : Int32) = v
      have fv := sbG ev lit_1 rfl (by omega) (by omega)
      obtain ⟨s, hs⟩ : ∃ s : Nat, v.toInt = (s : Int) := ⟨v.toInt.toNat, by omega⟩
      have hs1 : s ≤ 1 := by omega
      generalize e6 : wrI (wrI (wrI (wrI (wrI (wrI q2 226 11 0) 226 12 0) 226 13 0) 226 15 0) 226 19 v) 226 20 0 = g6
      have w19 : hi g6 226 19 = v := by rw [← e6]; exact (rd_w6 q2 v).2.2.2.2.1
      rw [w19]
      refine Pc.bind (sf_X12_plain (s := s) (by omega) hs1 hs).pc (fun q4 pl => ?_)
      have x19 : hi q4 226 19 = v := (pl.1.1.1 226 19 (by unfold plW; omega)).trans w19
      rw [x19]
      have y19 : hi (wrI q4 226 39 (130 * v)) 226 19 = v := (hiK rfl 226 19 (by decide)).trans x19
      rw [y19]
      have m1 := mlT 130 v 130 lit_130 (by omega) (by omega)
      have m2 := mlT 420 v 420 lit_420 (by omega) (by omega)
      generalize eH : wrI (wrI q4 226 39 (130 * v)) 226 45 (420 * v) = hC
      obtain ⟨jr, rc⟩ := rd_begin hs1 rC lC z2 jc hs e6 pl (by omega) (by omega) eH
      exact Q s (jR s hC) gC q2 hC l1 hs1 (ke_jR hs1 rc) ct (rd_rB hs e6 pl eH) jr n (by omega)
    · refine Pc.chk (fun _ => Pc.chk (fun _ => ?_))
      have n1 := ncT (show 0 ≤ l1.toInt by omega)
      have n2 : Int32.toNatClampNeg l1 = i := by omega
      have B2 := B.1
      have a1 := adT l1 1 (by omega) (by omega)
      rw [n2]
      refine ih _ (l1 + 1) (i + 1) (by omega) (by omega) (fun x k q => ?_) (fun x k => c x k) (fun k hk => ?_) (by omega)
      · rw [hi_wrI, if_neg (fun w => q w.1)]
        exact b x k q
      · rw [hi_wrI]
        by_cases y : k = i
        · rw [if_pos ⟨rfl, y⟩, y, narB, narB, i8i8, ← narB, b 227 i (by decide), ← e0, hi_wrI, if_neg (by omega)]
          exact hb i (by omega)
        · rw [if_neg (fun w => y w.2)]
          exact z k (by omega)
theorem sj_X12_read {n : Nat} (hn : 68719600000 ≤ n) (d : dI hS) (kd : ∀ k, 0 ≤ (hi hS 229 k).toInt) {bs : Nat → Int} {m : Nat} (B : BS bs m) (Y : KY hS) (tm : (hi hS 226 2).toInt = (m : Int)) (hb : ∀ i, i < m → ((vp_nar .byte (hi hS 227 i) : Int32) &&& 255).toInt = bs i) {qc : Int32 × Hp} (Q : rdJ bs m qc) : Ok (F_X12_read n hS) (fun q => rdP hS q ∧ rjP qc q) := by
  refine (sf_X12_read hn d kd).and ?_
  have f0 := lit_0
  unfold F_X12_read
  exact rd_10j d kd B Y tm hb Q rfl n _ 0 0 f0 (Nat.zero_le m) (fun _ _ _ => rfl) (fun _ _ => rfl) (fun k hk => absurd hk (Nat.not_lt_zero k)) (by omega)
end RF
/-- the class's reading: its answer and place are the text's -/
def crJ (bs : Nat → Int) (m : Nat) (q : Int32 × Hp) : Prop := ∃ qt : Int32 × Hp, rdJ bs m qt ∧ q.1 = qt.1 ∧ (qt.1.toInt = 0 → hi q.2 0 2 = -1) ∧ (qt.1.toInt ≠ 0 → hi q.2 0 2 = hi qt.2 2 2)
theorem sj_X11_read {h : Hp} {n : Nat} (hn : 618475290624 ≤ n) (ix : IX h) {bs : Nat → Int} {m : Nat} (B : BS bs m) (W : WD h) (tm : (hi h 0 1).toInt = (m : Int)) (hb : ∀ i, i < m → ((vp_nar .byte (hi h 1 i) : Int32) &&& 255).toInt = bs i) : Ok (F_X11_read n h) (fun q => (IX q.2 ∧ kM h q.2 ∧ (hi q.2 0 1).toInt = 0 ∧ ∀ k, hl q.2 19 k = hl h 19 k) ∧ crJ bs m q) := by
  refine (sf_X11_read hn ix).and ?_
  have f0 := lit_0
  unfold F_X11_read
  refine Pc.bind (fun q1 e1 => And.intro ((sf_X7_readText (h0 := h) n h (hi h 0 1) hn ⟨ix, kM.rfl' h, kT.rf h⟩).pc q1 e1) (c_text B tm W hb q1 e1)) (fun q1 hq1 => ?_)
  obtain ⟨⟨j1, -⟩, Q⟩ := hq1
  generalize eg1 : wrI q1.2 0 1 0 = g1
  obtain ⟨y1, y2, y3⟩ := tp01 eg1 j1.1 j1.2.1 (by omega)
  have e22 : hi g1 2 2 = hi q1.2 2 2 := hiA eg1 2 2 (by decide)
  refine Pc.eq (fun c1 => ?_) (fun c1 => ?_)
  · refine Pc.eq (fun _ => ?_) (fun c2 => absurd c1 c2)
    generalize eg2 : wrI g1 0 2 (-1) = g2
    obtain ⟨v1, v2, v3⟩ := tp02 eg2 y1 y2
    have j2 : J g2 g2 := ⟨v1, kM.rfl' g2, kT.rf g2⟩
    refine Pc.bind (sf_X0_become (h0 := g2) n g2 23 3 (by omega) j2 bd_23 bd_3).pc (fun q14 h14 => ?_)
    refine Pc.bind (sf_X8_become (h0 := g2) n q14 30 10 (by omega) h14.1 sc_30 sc_10).pc (fun q16 h16 => ?_)
    refine Pc.bind (sf_X6_clear (h0 := g2) n q16 (by omega) h16.1).pc (fun q18 h18 => ?_)
    refine Pc.bind (sf_X2_clear (h0 := g2) n q18 (by omega) h18.1).pc (fun q20 h20 => ?_)
    generalize eg3 : wrI q20 0 10 0 = g3
    have j3 : J g2 g3 := JwI eg3 h20.1 (by decide)
    refine Pc.ret ⟨q1, Q, rfl, fun _ => ?_, fun z => absurd (c1.trans f0) z⟩
    show hi g3 0 2 = -1
    rw [j3.2.2.2.1]
    exact hiE eg2
  · refine Pc.eq (fun c2 => absurd c2 c1) (fun _ => Pc.ret ⟨q1, Q, rfl, fun z => absurd (z.trans f0.symm) c1, fun _ => ?_⟩)
    show hi (wrI g1 0 2 (hi g1 2 2)) 0 2 = _
    rw [e22]
    exact hiE rfl
/-- the bytes of a tape -/
def tpB (h : Hp) (m i : Nat) : Int := if i < m then ((vp_nar .byte (hi h 1 i) : Int32) &&& 255).toInt else 0
theorem tpB_bs {h : Hp} {m : Nat} (hm : m ≤ 2000) : BS (tpB h m) m := by
  refine ⟨hm, fun i hi' => if_neg (by omega), fun i => ?_⟩
  unfold tpB
  by_cases z : i < m
  · rw [if_pos z]; exact and255 _
  · rw [if_neg z]; decide
theorem rd_both {h0 : Hp} (w : Iw h0) : ∃ (n1 : Nat) (q1 : Int32 × Hp) (n2 : Nat) (q2 : Int32 × Hp), F_X11_read n1 h0 = some q1 ∧ F_X12_read n2 q1.2 = some q2 ∧ q1.1 = q2.1 ∧ Iw q2.2 := by
  obtain ⟨⟨w1, w2, w3, w4⟩, v1, v2, v3, v4⟩ := w
  have t0 : 0 ≤ (hi h0 0 1).toInt ∧ (hi h0 0 1).toInt ≤ 2000 := w1.1 (0, 1, 0, 2000) (by decide)
  obtain ⟨m, hm⟩ : ∃ m : Nat, (hi h0 0 1).toInt = (m : Int) := ⟨(hi h0 0 1).toInt.toNat, by omega⟩
  have B : BS (tpB h0 m) m := tpB_bs (by omega)
  obtain ⟨q1, e1, ⟨i1, k1, r1, l1⟩, qt, Q, c1, c2, c3⟩ := sj_X11_read (n := 10000000000000) (by decide) w1 B v3 hm (fun i hi' => (if_pos hi').symm)
  obtain ⟨q2, e2, ⟨d2, k2, t2, l2, g2⟩, a1, a2, a3⟩ := sj_X12_read (n := 10000000000000) (by decide) (w2.km k1) (fun k => by rw [(k1 229 k (by decide)).1]; exact w4 k) B (fun k hk => by rw [(k1 233 k (by decide)).2]; exact v4 k hk) (by rw [(k1 226 2 (by decide)).1, ← w3]; exact hm) (fun i hi' => by rw [(k1 227 i (by decide)).1, ← v2 i (by omega)]; exact (if_pos hi').symm) Q
  refine ⟨_, q1, _, q2, e1, e2, c1.trans a1, ⟨i1.kX k2, d2, Int32.toInt_inj.mp ?_, g2⟩, ?_, fun k hk => ?_, fun k hk => ?_, fun k hk => ?_⟩
  · rw [(k2 0 1 (by decide)).1, r1, t2]
  · rw [(k2 0 2 (by decide)).1]
    by_cases z : qt.1.toInt = 0
    · rw [c2 z, a3 z]
    · rw [c3 z, a2 z]
  · exfalso
    rw [(k2 0 1 (by decide)).1, r1] at hk
    omega
  · rw [(k2 19 k (by decide)).2, l1 k]
    exact v3 k hk
  · rw [l2 k, (k1 233 k (by decide)).2]
    exact v4 k hk
end
