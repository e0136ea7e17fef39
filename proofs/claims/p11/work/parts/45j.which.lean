/-! A STATEMENT, of both: which -/
section JU
variable {N : Nat} {kd pl vl nm : Nat → Int} {s : Nat} {hc hr : Hp} {st : Int × Nat × Int × Int} {n m : Nat}
theorem lit_21 : (21 : Int32).toInt = 21 := by decide
theorem lit_23 : (23 : Int32).toInt = 23 := by decide
theorem lit_24 : (24 : Int32).toInt = 24 := by decide
theorem lit_27 : (27 : Int32).toInt = 27 := by decide
theorem lit_28 : (28 : Int32).toInt = 28 := by decide
theorem lit_29 : (29 : Int32).toInt = 29 := by decide
set_option maxHeartbeats 4000000 in
theorem rt_lawn (X : TX N kd pl vl) (j : JA N kd pl vl nm s hc hr st) (hs : s ≤ 1) (fz : st.1 = 0) (hk : kd st.2.1 = 9) {qc : Hp} (a : clP kd pl vl st hc qc) : Pc (F_X12_tellOne m hr) (jtP N kd pl vl nm s st qc) := by
  have f0 := lit_0
  have S1 := j.2.2.2.1.1
  rw [fz] at S1
  have st11 := S1.2.2.1 rfl
  have n1 := ncT (show 0 ≤ (hi hr 226 11).toInt by omega)
  have n2 : Int32.toNatClampNeg (hi hr 226 11) = st.2.1 := by omega
  have rt := (j.1.2.1 _ j.2.1).1
  rw [hk] at rt
  have l20 := lit_20
  have l21 := lit_21
  have l22 := lit_22
  have l23 := lit_23
  have l24 := lit_24
  have l25 := lit_25
  have l26 := lit_26
  have l27 := lit_27
  have l28 := lit_28
  have l29 := lit_29
  unfold F_X12_tellOne
  rw [n2]
  refine Pc.chk (fun _ => ?_)
  have rk' : rk 9 = 20 := by decide
  rw [rk'] at rt
  exact Pc.eq (fun _ => (rq_lawn X j.1.2.1 j.2.1 j.2.2.2.1 fz hk j.1.2.2.2).mono (fun qr b => ⟨_, j_lawn X j a b, jl_t⟩)) (fun c => by exfalso; omega)
set_option maxHeartbeats 4000000 in
theorem rt_tune (X : TX N kd pl vl) (j : JA N kd pl vl nm s hc hr st) (hs : s ≤ 1) (fz : st.1 = 0) (hk : kd st.2.1 = 10) {qc : Hp} (a : ctP kd pl vl st hc qc) : Pc (F_X12_tellOne m hr) (jtP N kd pl vl nm s st qc) := by
  have f0 := lit_0
  have S1 := j.2.2.2.1.1
  rw [fz] at S1
  have st11 := S1.2.2.1 rfl
  have n1 := ncT (show 0 ≤ (hi hr 226 11).toInt by omega)
  have n2 : Int32.toNatClampNeg (hi hr 226 11) = st.2.1 := by omega
  have rt := (j.1.2.1 _ j.2.1).1
  rw [hk] at rt
  have l20 := lit_20
  have l21 := lit_21
  have l22 := lit_22
  have l23 := lit_23
  have l24 := lit_24
  have l25 := lit_25
  have l26 := lit_26
  have l27 := lit_27
  have l28 := lit_28
  have l29 := lit_29
  unfold F_X12_tellOne
  rw [n2]
  refine Pc.chk (fun _ => ?_)
  have rk' : rk 10 = 21 := by decide
  rw [rk'] at rt
  refine Pc.eq (fun c => by exfalso; omega) (fun _ => ?_)
  have z := j.2.2.2.2 fz
  exact Pc.eq (fun _ => (rq_tune X hs j.1.2.1 j.2.1 j.2.2.2.1 fz hk j.1.2.2.2 z.2.1.1.2.1 z.2.1.1.2.2).mono (fun qr b => j_tune X j fz a b)) (fun c => by exfalso; omega)
set_option maxHeartbeats 4000000 in
theorem rt_goer (X : TX N kd pl vl) (Y : TN N kd vl nm) (j : JA N kd pl vl nm s hc hr st) (hs : s ≤ 1) (fz : st.1 = 0) (hk : kd st.2.1 = 11) {qc : Hp} (a : cgP kd pl vl st hc qc) : Pc (F_X12_tellOne m hr) (jtP N kd pl vl nm s st qc) := by
  have f0 := lit_0
  have S1 := j.2.2.2.1.1
  rw [fz] at S1
  have st11 := S1.2.2.1 rfl
  have n1 := ncT (show 0 ≤ (hi hr 226 11).toInt by omega)
  have n2 : Int32.toNatClampNeg (hi hr 226 11) = st.2.1 := by omega
  have rt := (j.1.2.1 _ j.2.1).1
  rw [hk] at rt
  have l20 := lit_20
  have l21 := lit_21
  have l22 := lit_22
  have l23 := lit_23
  have l24 := lit_24
  have l25 := lit_25
  have l26 := lit_26
  have l27 := lit_27
  have l28 := lit_28
  have l29 := lit_29
  unfold F_X12_tellOne
  rw [n2]
  refine Pc.chk (fun _ => ?_)
  have rk' : rk 11 = 22 := by decide
  rw [rk'] at rt
  refine Pc.eq (fun c => by exfalso; omega) (fun _ => ?_)
  refine Pc.eq (fun c => by exfalso; omega) (fun _ => ?_)
  have z := j.2.2.2.2 fz
  exact Pc.eq (fun _ => (rq_goer X hs j.1.2.1 j.2.1 j.2.2.2.1 fz hk j.1.2.2.2 z.2.1.2.1.2.1 z.2.1.2.1.2.2 z.2.1.2.2.2).mono (fun qr b => j_goer X Y j fz a b)) (fun c => by exfalso; omega)
set_option maxHeartbeats 4000000 in
theorem rt_rope (X : TX N kd pl vl) (j : JA N kd pl vl nm s hc hr st) (hs : s ≤ 1) (fz : st.1 = 0) (hk : kd st.2.1 = 12) {qc : Hp} (a : crP kd pl vl st hc qc) : Pc (F_X12_tellOne m hr) (jtP N kd pl vl nm s st qc) := by
  have f0 := lit_0
  have S1 := j.2.2.2.1.1
  rw [fz] at S1
  have st11 := S1.2.2.1 rfl
  have n1 := ncT (show 0 ≤ (hi hr 226 11).toInt by omega)
  have n2 : Int32.toNatClampNeg (hi hr 226 11) = st.2.1 := by omega
  have rt := (j.1.2.1 _ j.2.1).1
  rw [hk] at rt
  have l20 := lit_20
  have l21 := lit_21
  have l22 := lit_22
  have l23 := lit_23
  have l24 := lit_24
  have l25 := lit_25
  have l26 := lit_26
  have l27 := lit_27
  have l28 := lit_28
  have l29 := lit_29
  unfold F_X12_tellOne
  rw [n2]
  refine Pc.chk (fun _ => ?_)
  have rk' : rk 12 = 23 := by decide
  rw [rk'] at rt
  refine Pc.eq (fun c => by exfalso; omega) (fun _ => ?_)
  refine Pc.eq (fun c => by exfalso; omega) (fun _ => ?_)
  refine Pc.eq (fun c => by exfalso; omega) (fun _ => ?_)
  have z := j.2.2.2.2 fz
  refine Pc.eq (fun _ => (rq_rope X hs j.1.2.1 j.2.1 j.2.2.2.1 fz hk j.1.2.2.2 z.2.1.2.2.1.2.1 z.2.1.2.2.1.2.2).mono (fun qr b => ?_)) (fun c => by exfalso; omega)
  rcases j_rope X j fz a b with y | y
  · exact ⟨_, y, jr_t⟩
  · exact ⟨_, y, fun z => absurd z (show ¬ (2 : Int) = 0 by decide)⟩
set_option maxHeartbeats 4000000 in
theorem rt_law13 (X : TX N kd pl vl) (j : JA N kd pl vl nm s hc hr st) (hs : s ≤ 1) (fz : st.1 = 0) (hk : kd st.2.1 = 13) {qc : Hp} (a : tkK hc qc ∧ fC hc qc ∧ ∃ f1 t1 i, lwF kd i 0 (tkS kd 61 (tkQ kd 13 st).1 (tkQ kd 13 st).2.1).1 (tkS kd 61 (tkQ kd 13 st).1 (tkQ kd 13 st).2.1).2 f1 t1 ∧ cQ qc (laE kd f1 t1 st) ∧ tI2 N t1) : Pc (F_X12_tellOne m hr) (jtP N kd pl vl nm s st qc) := by
  have f0 := lit_0
  have S1 := j.2.2.2.1.1
  rw [fz] at S1
  have st11 := S1.2.2.1 rfl
  have n1 := ncT (show 0 ≤ (hi hr 226 11).toInt by omega)
  have n2 : Int32.toNatClampNeg (hi hr 226 11) = st.2.1 := by omega
  have rt := (j.1.2.1 _ j.2.1).1
  rw [hk] at rt
  have l20 := lit_20
  have l21 := lit_21
  have l22 := lit_22
  have l23 := lit_23
  have l24 := lit_24
  have l25 := lit_25
  have l26 := lit_26
  have l27 := lit_27
  have l28 := lit_28
  have l29 := lit_29
  unfold F_X12_tellOne
  rw [n2]
  refine Pc.chk (fun _ => ?_)
  have rk' : rk 13 = 24 := by decide
  rw [rk'] at rt
  refine Pc.eq (fun c => by exfalso; omega) (fun _ => ?_)
  refine Pc.eq (fun c => by exfalso; omega) (fun _ => ?_)
  refine Pc.eq (fun c => by exfalso; omega) (fun _ => ?_)
  refine Pc.eq (fun c => by exfalso; omega) (fun _ => ?_)
  have od := (j.2.2.2.2 fz).1
  have sb := sbT (hi hr 229 st.2.1) 24 (by omega) (by omega)
  have s13 := S1.2.1
  refine Pc.eq (fun _ => ?_) (fun c => by exfalso; omega)
  refine Pc.chk (fun _ => ?_)
  refine Pc.lt (fun c => by exfalso; omega) (fun _ => ?_)
  refine Pc.chk (fun _ => ?_)
  refine Pc.le (fun _ => ?_) (fun c => by exfalso; omega)
  exact Pc.le (fun _ => (rq_law X j.1.2.1 j.2.1 j.2.2.2.1 fz od 13 hk (by decide)).mono (fun qr b => j_law X j fz a b hk)) (fun c => by exfalso; omega)
set_option maxHeartbeats 4000000 in
theorem rt_law14 (X : TX N kd pl vl) (j : JA N kd pl vl nm s hc hr st) (hs : s ≤ 1) (fz : st.1 = 0) (hk : kd st.2.1 = 14) {qc : Hp} (a : tkK hc qc ∧ fC hc qc ∧ ∃ f1 t1 i, lwF kd i 0 (tkS kd 61 (tkQ kd 14 st).1 (tkQ kd 14 st).2.1).1 (tkS kd 61 (tkQ kd 14 st).1 (tkQ kd 14 st).2.1).2 f1 t1 ∧ cQ qc (laE kd f1 t1 st) ∧ tI2 N t1) : Pc (F_X12_tellOne m hr) (jtP N kd pl vl nm s st qc) := by
  have f0 := lit_0
  have S1 := j.2.2.2.1.1
  rw [fz] at S1
  have st11 := S1.2.2.1 rfl
  have n1 := ncT (show 0 ≤ (hi hr 226 11).toInt by omega)
  have n2 : Int32.toNatClampNeg (hi hr 226 11) = st.2.1 := by omega
  have rt := (j.1.2.1 _ j.2.1).1
  rw [hk] at rt
  have l20 := lit_20
  have l21 := lit_21
  have l22 := lit_22
  have l23 := lit_23
  have l24 := lit_24
  have l25 := lit_25
  have l26 := lit_26
  have l27 := lit_27
  have l28 := lit_28
  have l29 := lit_29
  unfold F_X12_tellOne
  rw [n2]
  refine Pc.chk (fun _ => ?_)
  have rk' : rk 14 = 25 := by decide
  rw [rk'] at rt
  refine Pc.eq (fun c => by exfalso; omega) (fun _ => ?_)
  refine Pc.eq (fun c => by exfalso; omega) (fun _ => ?_)
  refine Pc.eq (fun c => by exfalso; omega) (fun _ => ?_)
  refine Pc.eq (fun c => by exfalso; omega) (fun _ => ?_)
  refine Pc.eq (fun c => by exfalso; omega) (fun _ => ?_)
  have od := (j.2.2.2.2 fz).1
  have sb := sbT (hi hr 229 st.2.1) 24 (by omega) (by omega)
  have s13 := S1.2.1
  refine Pc.eq (fun _ => ?_) (fun c => by exfalso; omega)
  refine Pc.chk (fun _ => ?_)
  refine Pc.lt (fun c => by exfalso; omega) (fun _ => ?_)
  refine Pc.chk (fun _ => ?_)
  refine Pc.le (fun _ => ?_) (fun c => by exfalso; omega)
  exact Pc.le (fun _ => (rq_law X j.1.2.1 j.2.1 j.2.2.2.1 fz od 14 hk (by decide)).mono (fun qr b => j_law X j fz a b hk)) (fun c => by exfalso; omega)
set_option maxHeartbeats 4000000 in
theorem rt_law15 (X : TX N kd pl vl) (j : JA N kd pl vl nm s hc hr st) (hs : s ≤ 1) (fz : st.1 = 0) (hk : kd st.2.1 = 15) {qc : Hp} (a : tkK hc qc ∧ fC hc qc ∧ ∃ f1 t1 i, lwF kd i 0 (tkS kd 61 (tkQ kd 15 st).1 (tkQ kd 15 st).2.1).1 (tkS kd 61 (tkQ kd 15 st).1 (tkQ kd 15 st).2.1).2 f1 t1 ∧ cQ qc (laE kd f1 t1 st) ∧ tI2 N t1) : Pc (F_X12_tellOne m hr) (jtP N kd pl vl nm s st qc) := by
  have f0 := lit_0
  have S1 := j.2.2.2.1.1
  rw [fz] at S1
  have st11 := S1.2.2.1 rfl
  have n1 := ncT (show 0 ≤ (hi hr 226 11).toInt by omega)
  have n2 : Int32.toNatClampNeg (hi hr 226 11) = st.2.1 := by omega
  have rt := (j.1.2.1 _ j.2.1).1
  rw [hk] at rt
  have l20 := lit_20
  have l21 := lit_21
  have l22 := lit_22
  have l23 := lit_23
  have l24 := lit_24
  have l25 := lit_25
  have l26 := lit_26
  have l27 := lit_27
  have l28 := lit_28
  have l29 := lit_29
  unfold F_X12_tellOne
  rw [n2]
  refine Pc.chk (fun _ => ?_)
  have rk' : rk 15 = 26 := by decide
  rw [rk'] at rt
  refine Pc.eq (fun c => by exfalso; omega) (fun _ => ?_)
  refine Pc.eq (fun c => by exfalso; omega) (fun _ => ?_)
  refine Pc.eq (fun c => by exfalso; omega) (fun _ => ?_)
  refine Pc.eq (fun c => by exfalso; omega) (fun _ => ?_)
  refine Pc.eq (fun c => by exfalso; omega) (fun _ => ?_)
  refine Pc.eq (fun c => by exfalso; omega) (fun _ => ?_)
  have od := (j.2.2.2.2 fz).1
  have sb := sbT (hi hr 229 st.2.1) 24 (by omega) (by omega)
  have s13 := S1.2.1
  refine Pc.eq (fun _ => ?_) (fun c => by exfalso; omega)
  refine Pc.chk (fun _ => ?_)
  refine Pc.lt (fun c => by exfalso; omega) (fun _ => ?_)
  refine Pc.chk (fun _ => ?_)
  refine Pc.le (fun _ => ?_) (fun c => by exfalso; omega)
  exact Pc.le (fun _ => (rq_law X j.1.2.1 j.2.1 j.2.2.2.1 fz od 15 hk (by decide)).mono (fun qr b => j_law X j fz a b hk)) (fun c => by exfalso; omega)
set_option maxHeartbeats 4000000 in
theorem rt_law16 (X : TX N kd pl vl) (j : JA N kd pl vl nm s hc hr st) (hs : s ≤ 1) (fz : st.1 = 0) (hk : kd st.2.1 = 16) {qc : Hp} (a : tkK hc qc ∧ fC hc qc ∧ ∃ f1 t1 i, lwF kd i 0 (tkS kd 61 (tkQ kd 16 st).1 (tkQ kd 16 st).2.1).1 (tkS kd 61 (tkQ kd 16 st).1 (tkQ kd 16 st).2.1).2 f1 t1 ∧ cQ qc (laE kd f1 t1 st) ∧ tI2 N t1) : Pc (F_X12_tellOne m hr) (jtP N kd pl vl nm s st qc) := by
  have f0 := lit_0
  have S1 := j.2.2.2.1.1
  rw [fz] at S1
  have st11 := S1.2.2.1 rfl
  have n1 := ncT (show 0 ≤ (hi hr 226 11).toInt by omega)
  have n2 : Int32.toNatClampNeg (hi hr 226 11) = st.2.1 := by omega
  have rt := (j.1.2.1 _ j.2.1).1
  rw [hk] at rt
  have l20 := lit_20
  have l21 := lit_21
  have l22 := lit_22
  have l23 := lit_23
  have l24 := lit_24
  have l25 := lit_25
  have l26 := lit_26
  have l27 := lit_27
  have l28 := lit_28
  have l29 := lit_29
  unfold F_X12_tellOne
  rw [n2]
  refine Pc.chk (fun _ => ?_)
  have rk' : rk 16 = 27 := by decide
  rw [rk'] at rt
  refine Pc.eq (fun c => by exfalso; omega) (fun _ => ?_)
  refine Pc.eq (fun c => by exfalso; omega) (fun _ => ?_)
  refine Pc.eq (fun c => by exfalso; omega) (fun _ => ?_)
  refine Pc.eq (fun c => by exfalso; omega) (fun _ => ?_)
  refine Pc.eq (fun c => by exfalso; omega) (fun _ => ?_)
  refine Pc.eq (fun c => by exfalso; omega) (fun _ => ?_)
  refine Pc.eq (fun c => by exfalso; omega) (fun _ => ?_)
  have od := (j.2.2.2.2 fz).1
  have sb := sbT (hi hr 229 st.2.1) 24 (by omega) (by omega)
  have s13 := S1.2.1
  refine Pc.eq (fun _ => ?_) (fun c => by exfalso; omega)
  refine Pc.chk (fun _ => ?_)
  refine Pc.lt (fun c => by exfalso; omega) (fun _ => ?_)
  refine Pc.chk (fun _ => ?_)
  refine Pc.le (fun _ => ?_) (fun c => by exfalso; omega)
  exact Pc.le (fun _ => (rq_law X j.1.2.1 j.2.1 j.2.2.2.1 fz od 16 hk (by decide)).mono (fun qr b => j_law X j fz a b hk)) (fun c => by exfalso; omega)
set_option maxHeartbeats 4000000 in
theorem rt_wet (X : TX N kd pl vl) (j : JA N kd pl vl nm s hc hr st) (hs : s ≤ 1) (fz : st.1 = 0) (hk : kd st.2.1 = 17) {qc : Hp} (a : tkK hc qc ∧ fC hc qc ∧ cQ qc (tkQ kd 59 (nbQ kd pl vl (0 : Int32).toInt (100 : Int32).toInt (tkQ kd 17 st)))) : Pc (F_X12_tellOne m hr) (jtP N kd pl vl nm s st qc) := by
  have f0 := lit_0
  have S1 := j.2.2.2.1.1
  rw [fz] at S1
  have st11 := S1.2.2.1 rfl
  have n1 := ncT (show 0 ≤ (hi hr 226 11).toInt by omega)
  have n2 : Int32.toNatClampNeg (hi hr 226 11) = st.2.1 := by omega
  have rt := (j.1.2.1 _ j.2.1).1
  rw [hk] at rt
  have l20 := lit_20
  have l21 := lit_21
  have l22 := lit_22
  have l23 := lit_23
  have l24 := lit_24
  have l25 := lit_25
  have l26 := lit_26
  have l27 := lit_27
  have l28 := lit_28
  have l29 := lit_29
  unfold F_X12_tellOne
  rw [n2]
  refine Pc.chk (fun _ => ?_)
  have rk' : rk 17 = 28 := by decide
  rw [rk'] at rt
  refine Pc.eq (fun c => by exfalso; omega) (fun _ => ?_)
  refine Pc.eq (fun c => by exfalso; omega) (fun _ => ?_)
  refine Pc.eq (fun c => by exfalso; omega) (fun _ => ?_)
  refine Pc.eq (fun c => by exfalso; omega) (fun _ => ?_)
  refine Pc.eq (fun c => by exfalso; omega) (fun _ => ?_)
  refine Pc.eq (fun c => by exfalso; omega) (fun _ => ?_)
  refine Pc.eq (fun c => by exfalso; omega) (fun _ => ?_)
  refine Pc.eq (fun c => by exfalso; omega) (fun _ => ?_)
  refine Pc.eq (fun _ => (rq_one X j.1.2.1 j.2.1 j.2.2.2.1 fz 17 hk (by decide) (by decide)).mono (fun qr b => ?_)) (fun c => by exfalso; omega)
  refine ⟨_, j_one X j (by decide) a b, fun z => ?_⟩
  have e0 : (0 : Int32).toInt = 0 := by decide
  have e1 : (100 : Int32).toInt = 100 := by decide
  rw [e0, e1] at z ⊢
  exact jd_t z
set_option maxHeartbeats 4000000 in
theorem rt_seed (X : TX N kd pl vl) (j : JA N kd pl vl nm s hc hr st) (hs : s ≤ 1) (fz : st.1 = 0) (hk : kd st.2.1 = 18) {qc : Hp} (a : tkK hc qc ∧ fC hc qc ∧ cQ qc (tkQ kd 59 (nbQ kd pl vl (0 : Int32).toInt (9999 : Int32).toInt (tkQ kd 18 st)))) : Pc (F_X12_tellOne m hr) (jtP N kd pl vl nm s st qc) := by
  have f0 := lit_0
  have S1 := j.2.2.2.1.1
  rw [fz] at S1
  have st11 := S1.2.2.1 rfl
  have n1 := ncT (show 0 ≤ (hi hr 226 11).toInt by omega)
  have n2 : Int32.toNatClampNeg (hi hr 226 11) = st.2.1 := by omega
  have rt := (j.1.2.1 _ j.2.1).1
  rw [hk] at rt
  have l20 := lit_20
  have l21 := lit_21
  have l22 := lit_22
  have l23 := lit_23
  have l24 := lit_24
  have l25 := lit_25
  have l26 := lit_26
  have l27 := lit_27
  have l28 := lit_28
  have l29 := lit_29
  unfold F_X12_tellOne
  rw [n2]
  refine Pc.chk (fun _ => ?_)
  have rk' : rk 18 = 29 := by decide
  rw [rk'] at rt
  refine Pc.eq (fun c => by exfalso; omega) (fun _ => ?_)
  refine Pc.eq (fun c => by exfalso; omega) (fun _ => ?_)
  refine Pc.eq (fun c => by exfalso; omega) (fun _ => ?_)
  refine Pc.eq (fun c => by exfalso; omega) (fun _ => ?_)
  refine Pc.eq (fun c => by exfalso; omega) (fun _ => ?_)
  refine Pc.eq (fun c => by exfalso; omega) (fun _ => ?_)
  refine Pc.eq (fun c => by exfalso; omega) (fun _ => ?_)
  refine Pc.eq (fun c => by exfalso; omega) (fun _ => ?_)
  refine Pc.eq (fun c => by exfalso; omega) (fun _ => ?_)
  refine Pc.eq (fun _ => (rq_one X j.1.2.1 j.2.1 j.2.2.2.1 fz 18 hk (by decide) (by decide)).mono (fun qr b => ?_)) (fun c => by exfalso; omega)
  refine ⟨_, j_one X j (by decide) a b, fun z => ?_⟩
  have e0 : (0 : Int32).toInt = 0 := by decide
  have e1 : (9999 : Int32).toInt = 9999 := by decide
  rw [e0, e1] at z ⊢
  exact js_t z
set_option maxHeartbeats 8000000 in
/-- one statement: both -/
theorem j_tell (X : TX N kd pl vl) (Y : TN N kd vl nm) (j : JA N kd pl vl nm s hc hr st) (hs : s ≤ 1) (fz : st.1 = 0) (k2 : kd st.2.1 ≠ 32) {x1 : Int32} (hx : x1.toInt = kd st.2.1) : Pc (F_X7_readTell n hc x1) (fun qc => Pc (F_X12_tellOne m hr) (jtP N kd pl vl nm s st qc)) := by
  have f9 := lit_9
  have f10 := lit_10
  have f11 := lit_11
  have f12 := lit_12
  have f13 := lit_13
  have f14 := lit_14
  have f15 := lit_15
  have f16 := lit_16
  have f17 := lit_17
  have f18 := lit_18
  have f1 := lit_1
  have C := j.1.1
  have T := j.2.1
  have S := j.2.2.1
  have z := j.2.2.2.2 fz
  have bad (nk : kd st.2.1 < 9 ∨ 18 < kd st.2.1) : Pc ((F_X7_stop n hc 1).bind (fun q => some q)) (fun qc => Pc (F_X12_tellOne m hr) (jtP N kd pl vl nm s st qc)) := by
    have S1 := S.1
    refine Pc.bind (pc_stop S1) (fun q hq => Pc.ret ?_)
    have w := hq.2
    rw [if_pos fz, f1] at w
    exact (rq_bad X j fz nk k2).mono (fun qr b => j_bad X j fz ⟨hq.1, w⟩ b)
  unfold F_X7_readTell
  refine Pc.eq (fun c => (cq_lawn X C T S).mono (fun qc a => rt_lawn X j hs fz (by omega) a)) (fun c9 => ?_)
  refine Pc.eq (fun c => (cq_tune X C T S fz).mono (fun qc a => rt_tune X j hs fz (by omega) a)) (fun c10 => ?_)
  refine Pc.eq (fun c => (cq_goer X C T S fz (by have := z.2.1.2.1; omega)).mono (fun qc a => rt_goer X Y j hs fz (by omega) a)) (fun c11 => ?_)
  refine Pc.eq (fun c => (cq_rope X C T S fz).mono (fun qc a => rt_rope X j hs fz (by omega) a)) (fun c12 => ?_)
  refine Pc.eq (fun c => ?_) (fun c13 => ?_)
  · refine Pc.lt (fun c' => by exfalso; omega) (fun _ => ?_)
    exact Pc.le (fun _ => (cq_law X C T S 13 (by omega) (by decide)).mono (fun qc a => rt_law13 X j hs fz (by omega) a)) (fun c' => by exfalso; omega)
  refine Pc.eq (fun c => ?_) (fun c14 => ?_)
  · refine Pc.lt (fun c' => by exfalso; omega) (fun _ => ?_)
    exact Pc.le (fun _ => (cq_law X C T S 14 (by omega) (by decide)).mono (fun qc a => rt_law14 X j hs fz (by omega) a)) (fun c' => by exfalso; omega)
  refine Pc.eq (fun c => ?_) (fun c15 => ?_)
  · refine Pc.lt (fun c' => by exfalso; omega) (fun _ => ?_)
    exact Pc.le (fun _ => (cq_law X C T S 15 (by omega) (by decide)).mono (fun qc a => rt_law15 X j hs fz (by omega) a)) (fun c' => by exfalso; omega)
  refine Pc.eq (fun c => ?_) (fun c16 => ?_)
  · refine Pc.lt (fun c' => by exfalso; omega) (fun _ => ?_)
    exact Pc.le (fun _ => (cq_law X C T S 16 (by omega) (by decide)).mono (fun qc a => rt_law16 X j hs fz (by omega) a)) (fun c' => by exfalso; omega)
  refine Pc.eq (fun c => (cq_one X C T S 17 (by omega) (by decide) (by decide) (by decide)).mono (fun qc a => rt_wet X j hs fz (by omega) a)) (fun c17 => ?_)
  refine Pc.eq (fun c => (cq_one X C T S 18 (by omega) (by decide) (by decide) (by decide)).mono (fun qc a => rt_seed X j hs fz (by omega) a)) (fun c18 => ?_)
  refine Pc.lt (fun c' => bad (by omega)) (fun c' => ?_)
  exact Pc.le (fun c'' => by exfalso; omega) (fun c'' => bad (by omega))
end JU
