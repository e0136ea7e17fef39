/-! THE CASES: what each one needs -/
def PU_feed : Prop := ∀ h0 : Hp, G h0 → Ir h0 → ∀ (x1 : Int32) (x2 : Int32) (x3 : Int32) (x4 : Int32) (x5 : Int32), ∃ (n1 : Nat) (q1 : Int32 × Hp) (n2 : Nat) (q2 : Int32 × Hp), F_X11_feed n1 h0 x1 x2 x3 x4 x5 = some q1 ∧ F_X12_feed n2 q1.2 x1 x2 x3 x4 x5 = some q2 ∧ Ir q2.2
def PU_back : Prop := ∀ h0 : Hp, G h0 → Ir h0 → ∀ (x1 : Int32), ∃ (n1 : Nat) (q1 : Int32 × Hp) (n2 : Nat) (q2 : Int32 × Hp), F_X11_back n1 h0 x1 = some q1 ∧ F_X12_back n2 q1.2 x1 = some q2 ∧ Ir q2.2
def PU_read : Prop := ∀ h0 : Hp, G h0 → Ir h0 → ∃ (n1 : Nat) (q1 : Int32 × Hp) (n2 : Nat) (q2 : Int32 × Hp), F_X11_read n1 h0 = some q1 ∧ F_X12_read n2 q1.2 = some q2 ∧ Ir q2.2
def PU_place : Prop := ∀ h0 : Hp, G h0 → Ir h0 → ∃ (n1 : Nat) (q1 : Int32 × Hp) (n2 : Nat) (q2 : Int32 × Hp), F_X11_place n1 h0 = some q1 ∧ F_X12_place n2 q1.2 = some q2 ∧ Ir q2.2
def PU_cell : Prop := ∀ h0 : Hp, G h0 → Ir h0 → ∀ (x1 : Int32) (x2 : Int32), ∃ (n1 : Nat) (q1 : Int32 × Hp) (n2 : Nat) (q2 : Int32 × Hp), F_X11_cell n1 h0 x1 x2 = some q1 ∧ F_X12_cell n2 q1.2 x1 x2 = some q2 ∧ Ir q2.2
def PU_goer : Prop := ∀ h0 : Hp, G h0 → Ir h0 → ∀ (x1 : Int32) (x2 : Int32), ∃ (n1 : Nat) (q1 : Int32 × Hp) (n2 : Nat) (q2 : Int32 × Hp), F_X11_goer n1 h0 x1 x2 = some q1 ∧ F_X12_goer n2 q1.2 x1 x2 = some q2 ∧ Ir q2.2
def PU_mow : Prop := ∀ h0 : Hp, G h0 → Ir h0 → ∀ (x1 : Int32), ∃ (n1 : Nat) (q1 : Int32 × Hp) (n2 : Nat) (q2 : Int32 × Hp), F_X11_mow n1 h0 x1 = some q1 ∧ F_X12_mow n2 q1.2 x1 = some q2 ∧ Ir q2.2
def PU_rope : Prop := ∀ h0 : Hp, G h0 → Ir h0 → ∀ (x1 : Int32) (x2 : Int32), (x2 = 0 ∨ x2 = 1) → ∃ (n1 : Nat) (q1 : Int32 × Hp) (n2 : Nat) (q2 : Int32 × Hp), F_X11_rope n1 h0 x1 x2 = some q1 ∧ F_X12_rope n2 q1.2 x1 x2 = some q2 ∧ Ir q2.2
def PU_carry : Prop := ∀ h0 : Hp, G h0 → Ir h0 → ∀ (x1 : Int32) (x2 : Int32), ∃ (n1 : Nat) (q1 : Int32 × Hp) (n2 : Nat) (q2 : Int32 × Hp), F_X11_carry n1 h0 x1 x2 = some q1 ∧ F_X12_carry n2 q1.2 x1 x2 = some q2 ∧ Ir q2.2
def PU_beats : Prop := ∀ h0 : Hp, G h0 → Ir h0 → ∀ (x1 : Int32), ∃ (n1 : Nat) (q1 : Int32 × Hp) (n2 : Nat) (q2 : Int32 × Hp), F_X11_beats n1 h0 x1 = some q1 ∧ F_X12_beats n2 q1.2 x1 = some q2 ∧ Ir q2.2
def PU_undo : Prop := ∀ h0 : Hp, G h0 → Ir h0 → ∃ (n1 : Nat) (q1 : Int32 × Hp) (n2 : Nat) (q2 : Int32 × Hp), F_X11_undo n1 h0 = some q1 ∧ F_X12_undo n2 q1.2 = some q2 ∧ Ir q2.2
def PU_next : Prop := ∀ h0 : Hp, G h0 → Ir h0 → ∀ (x1 : Int32), ∃ (n1 : Nat) (q1 : Int32 × Hp) (n2 : Nat) (q2 : Int32 × Hp), F_X11_next n1 h0 x1 = some q1 ∧ F_X12_next n2 q1.2 x1 = some q2 ∧ Ir q2.2
def PU_together : Prop := ∀ h0 : Hp, G h0 → Ir h0 → ∀ (x1 : Int32) (x2 : Int32), ∃ (n1 : Nat) (q1 : Int32 × Hp) (n2 : Nat) (q2 : Int32 × Hp), F_X11_together n1 h0 x1 x2 = some q1 ∧ F_X12_together n2 q1.2 x1 x2 = some q2 ∧ Ir q2.2
def PU_way : Prop := ∀ h0 : Hp, G h0 → Ir h0 → ∀ (x1 : Int32) (x2 : Int32) (x3 : Int32), ∃ (n1 : Nat) (q1 : Int32 × Hp) (n2 : Nat) (q2 : Int32 × Hp), F_X11_way n1 h0 x1 x2 x3 = some q1 ∧ F_X12_way n2 q1.2 x1 x2 x3 = some q2 ∧ Ir q2.2
def PU_leave : Prop := ∀ h0 : Hp, G h0 → Ir h0 → ∀ (x1 : Int32) (x2 : Int32) (x3 : Int32), ∃ (n1 : Nat) (q1 : Int32 × Hp) (n2 : Nat) (q2 : Int32 × Hp), F_X11_leave n1 h0 x1 x2 x3 = some q1 ∧ F_X12_leave n2 q1.2 x1 x2 x3 = some q2 ∧ Ir q2.2
def PU_mows : Prop := ∀ h0 : Hp, G h0 → Ir h0 → ∀ (x1 : Int32) (x2 : Int32) (x3 : Int32) (x4 : Int32), ∃ (n1 : Nat) (q1 : Int32 × Hp) (n2 : Nat) (q2 : Int32 × Hp), F_X11_mows n1 h0 x1 x2 x3 x4 = some q1 ∧ F_X12_mows n2 q1.2 x1 x2 x3 x4 = some q2 ∧ Ir q2.2
def PU_part : Prop := ∀ h0 : Hp, G h0 → Ir h0 → ∀ (x1 : Int32) (x2 : Int32), ∃ (n1 : Nat) (q1 : Int32 × Hp) (n2 : Nat) (q2 : Int32 × Hp), F_X11_part n1 h0 x1 x2 = some q1 ∧ F_X12_part n2 q1.2 x1 x2 = some q2 ∧ Ir q2.2
def PU_meet : Prop := ∀ h0 : Hp, G h0 → Ir h0 → ∀ (x1 : Int32) (x2 : Int32) (x3 : Int32), ∃ (n1 : Nat) (q1 : Int32 × Hp) (n2 : Nat) (q2 : Int32 × Hp), F_X11_meet n1 h0 x1 x2 x3 = some q1 ∧ F_X12_meet n2 q1.2 x1 x2 x3 = some q2 ∧ Ir q2.2
def PU_returns : Prop := ∀ h0 : Hp, G h0 → Ir h0 → ∀ (x1 : Int32), ∃ (n1 : Nat) (q1 : Int32 × Hp) (n2 : Nat) (q2 : Int32 × Hp), F_X11_returns n1 h0 x1 = some q1 ∧ F_X12_returns n2 q1.2 x1 = some q2 ∧ Ir q2.2
def PU_never : Prop := ∀ h0 : Hp, G h0 → Ir h0 → ∀ (x1 : Int32), ∃ (n1 : Nat) (q1 : Int32 × Hp) (n2 : Nat) (q2 : Int32 × Hp), F_X11_never n1 h0 x1 = some q1 ∧ F_X12_never n2 q1.2 x1 = some q2 ∧ Ir q2.2
def PU_stood : Prop := ∀ h0 : Hp, G h0 → Ir h0 → ∀ (x1 : Int32) (x2 : Int32) (x3 : Int32), ∃ (n1 : Nat) (q1 : Int32 × Hp) (n2 : Nat) (q2 : Int32 × Hp), F_X11_stood n1 h0 x1 x2 x3 = some q1 ∧ F_X12_stood n2 q1.2 x1 x2 x3 = some q2 ∧ Ir q2.2
def PU_loud : Prop := ∀ h0 : Hp, G h0 → Ir h0 → ∀ (x1 : Int32), ∃ (n1 : Nat) (q1 : Int32 × Hp) (n2 : Nat) (q2 : Int32 × Hp), F_X11_loud n1 h0 x1 = some q1 ∧ F_X12_loud n2 q1.2 x1 = some q2 ∧ Ir q2.2
def PU_silence : Prop := ∀ h0 : Hp, G h0 → Ir h0 → ∀ (x1 : Int32), ∃ (n1 : Nat) (q1 : Int32 × Hp) (n2 : Nat) (q2 : Int32 × Hp), F_X11_silence n1 h0 x1 = some q1 ∧ F_X12_silence n2 q1.2 x1 = some q2 ∧ Ir q2.2
def PU_chorus : Prop := ∀ h0 : Hp, G h0 → Ir h0 → ∀ (x1 : Int32), ∃ (n1 : Nat) (q1 : Int32 × Hp) (n2 : Nat) (q2 : Int32 × Hp), F_X11_chorus n1 h0 x1 = some q1 ∧ F_X12_chorus n2 q1.2 x1 = some q2 ∧ Ir q2.2
def PU_period : Prop := ∀ h0 : Hp, G h0 → Ir h0 → ∃ (n1 : Nat) (q1 : Int32 × Hp) (n2 : Nat) (q2 : Int32 × Hp), F_X11_period n1 h0 = some q1 ∧ F_X12_period n2 q1.2 = some q2 ∧ Ir q2.2
def PU_centre : Prop := ∀ h0 : Hp, G h0 → Ir h0 → ∀ (x1 : Int32), ∃ (n1 : Nat) (q1 : Int32 × Hp) (n2 : Nat) (q2 : Int32 × Hp), F_X11_centre n1 h0 x1 = some q1 ∧ F_X12_centre n2 q1.2 x1 = some q2 ∧ Ir q2.2
def PU_far : Prop := ∀ h0 : Hp, G h0 → Ir h0 → ∀ (x1 : Int32) (x2 : Int32), ∃ (n1 : Nat) (q1 : Int32 × Hp) (n2 : Nat) (q2 : Int32 × Hp), F_X11_far n1 h0 x1 x2 = some q1 ∧ F_X12_far n2 q1.2 x1 x2 = some q2 ∧ q1.1 = q2.1 ∧ Ir q2.2
def PU_pairs : Prop := ∀ h0 : Hp, G h0 → Ir h0 → ∀ (x1 : Int32), ∃ (n1 : Nat) (q1 : Int32 × Hp) (n2 : Nat) (q2 : Int32 × Hp), F_X11_pairs n1 h0 x1 = some q1 ∧ F_X12_pairs n2 q1.2 x1 = some q2 ∧ Ir q2.2
def PU_then : Prop := ∀ h0 : Hp, G h0 → Ir h0 → ∀ (x1 : Int32) (x2 : Int32) (x3 : Int32), ∃ (n1 : Nat) (q1 : Int32 × Hp) (n2 : Nat) (q2 : Int32 × Hp), F_X11_then n1 h0 x1 x2 x3 = some q1 ∧ F_X12_then n2 q1.2 x1 x2 x3 = some q2 ∧ Ir q2.2
def PU_tunesIn : Prop := ∀ h0 : Hp, G h0 → Ir h0 → ∀ (x1 : Int32), ∃ (n1 : Nat) (q1 : Int32 × Hp) (n2 : Nat) (q2 : Int32 × Hp), F_X11_tunesIn n1 h0 x1 = some q1 ∧ F_X12_tunesIn n2 q1.2 x1 = some q2 ∧ Ir q2.2
def PU_year : Prop := ∀ h0 : Hp, G h0 → Ir h0 → ∀ (x1 : Int32) (x2 : Int32) (x3 : Int32), ∃ (n1 : Nat) (q1 : Int32 × Hp) (n2 : Nat) (q2 : Int32 × Hp), F_X11_year n1 h0 x1 x2 x3 = some q1 ∧ F_X12_year n2 q1.2 x1 x2 x3 = some q2 ∧ Ir q2.2
def PU_tell : Prop := ∀ h0 : Hp, G h0 → Ir h0 → ∀ (x1 : Int32) (x2 : Int32), (x2 = 0 ∨ x2 = 1) → ∃ (n1 : Nat) (q1 : Int32 × Hp) (n2 : Nat) (q2 : Int32 × Hp), F_X11_tell n1 h0 x1 x2 = some q1 ∧ F_X12_tell n2 q1.2 x1 x2 = some q2 ∧ Ir q2.2
def PU_forget : Prop := ∀ h0 : Hp, G h0 → Ir h0 → ∃ (n1 : Nat) (q1 : Int32 × Hp) (n2 : Nat) (q2 : Int32 × Hp), F_X11_forget n1 h0 = some q1 ∧ F_X12_forget n2 q1.2 = some q2 ∧ Ir q2.2
def PU_fits : Prop := ∀ h0 : Hp, G h0 → Ir h0 → ∀ (x1 : Int32) (x2 : Int32), ∃ (n1 : Nat) (q1 : Int32 × Hp) (n2 : Nat) (q2 : Int32 × Hp), F_X11_fits n1 h0 x1 x2 = some q1 ∧ F_X12_fits n2 q1.2 x1 x2 = some q2 ∧ Ir q2.2
def PU_listen : Prop := ∀ h0 : Hp, G h0 → Ir h0 → ∀ (x1 : Int32), ∃ (n1 : Nat) (q1 : Int32 × Hp) (n2 : Nat) (q2 : Int32 × Hp), F_X11_listen n1 h0 x1 = some q1 ∧ F_X12_listen n2 q1.2 x1 = some q2 ∧ Ir q2.2
def PU_hold : Prop := ∀ h0 : Hp, G h0 → Ir h0 → ∀ (x1 : Int32), ∃ (n1 : Nat) (q1 : Int32 × Hp) (n2 : Nat) (q2 : Int32 × Hp), F_X11_hold n1 h0 x1 = some q1 ∧ F_X12_hold n2 q1.2 x1 = some q2 ∧ Ir q2.2
def PU_restore : Prop := ∀ h0 : Hp, G h0 → Ir h0 → ∀ (x1 : Int32), ∃ (n1 : Nat) (q1 : Int32 × Hp) (n2 : Nat) (q2 : Int32 × Hp), F_X11_restore n1 h0 x1 = some q1 ∧ F_X12_restore n2 q1.2 x1 = some q2 ∧ Ir q2.2
def PU_count : Prop := ∀ h0 : Hp, G h0 → Ir h0 → ∀ (x1 : Int32), ∃ (n1 : Nat) (q1 : Int32 × Hp) (n2 : Nat) (q2 : Int32 × Hp), F_X11_count n1 h0 x1 = some q1 ∧ F_X12_count n2 q1.2 x1 = some q2 ∧ Ir q2.2
theorem case_0 {L : Nat} {xs : Nat → Int32} {i : Int32} {h0 : Hp} (hG : G h0) (hw : Ir h0) (hv : ∀ v : Int32, 0 ≤ v.toInt → v.toInt < 6 → vp_in (i + v) L) (pu : PU_feed) (kk : ∀ h : Hp, G h → Ir h → VL L xs (lvC i) 1336 [] h) : VL L xs (lvC i) 200 [] h0 := by
  refine L_aload (x := 0) 2 dL_law_200 rfl (fun _ _ => rfl) ?_
  refine L_at (v := 1) dL_law_201 dL_law_202 dL_law_203 (by decide) dL_law_204 dL_law_205 (hv 1 (by decide) (by decide)) ?_
  refine L_at (v := 2) dL_law_206 dL_law_207 dL_law_208 (by decide) dL_law_209 dL_law_210 (hv 2 (by decide) (by decide)) ?_
  refine L_at (v := 3) dL_law_211 dL_law_212 dL_law_213 (by decide) dL_law_214 dL_law_215 (hv 3 (by decide) (by decide)) ?_
  refine L_at (v := 4) dL_law_216 dL_law_217 dL_law_218 (by decide) dL_law_219 dL_law_220 (hv 4 (by decide) (by decide)) ?_
  refine L_at (v := 5) dL_law_221 dL_law_222 dL_law_223 (by decide) dL_law_224 dL_law_225 (hv 5 (by decide) (by decide)) ?_
  obtain ⟨n1, q1, n2, q2, e1, e2, e4⟩ := pu h0 hG hw (xs (Int32.toNatClampNeg (i + 1))) (xs (Int32.toNatClampNeg (i + 2))) (xs (Int32.toNatClampNeg (i + 3))) (xs (Int32.toNatClampNeg (i + 4))) (xs (Int32.toNatClampNeg (i + 5)))
  refine L_callV (N := mX11_feed) (n := 5) (a := 0) [.int (xs (Int32.toNatClampNeg (i + 1))), .int (xs (Int32.toNatClampNeg (i + 2))), .int (xs (Int32.toNatClampNeg (i + 3))), .int (xs (Int32.toNatClampNeg (i + 4))), .int (xs (Int32.toNatClampNeg (i + 5)))] rfl ok_X11_feed lk_L_13 im_X11_feed se_X11_feed (by decide +kernel) rfl okC_11.1 sh_0 (by exact ltG hG (by decide)) (Nat.le_of_ble_eq_true rfl) dL_law_226 (by decide) (s_X11_feed 0 e1 hG) (fun r1 h1 q => by rw [q.2.1]; exact Nat.le_of_eq q.2.2.1) (fun r1 h1 hq => ?_)
  obtain ⟨rfl, hq, hG⟩ := hq
  replace hq := hq.symm
  subst hq
  show VL _ _ _ _ (_ :: _) _
  refine L_pop dL_law_229 rfl ?_
  refine L_aload (x := 226) 1 dL_law_230 rfl (fun _ _ => rfl) ?_
  refine L_at (v := 1) dL_law_231 dL_law_232 dL_law_233 (by decide) dL_law_234 dL_law_235 (hv 1 (by decide) (by decide)) ?_
  refine L_at (v := 2) dL_law_236 dL_law_237 dL_law_238 (by decide) dL_law_239 dL_law_240 (hv 2 (by decide) (by decide)) ?_
  refine L_at (v := 3) dL_law_241 dL_law_242 dL_law_243 (by decide) dL_law_244 dL_law_245 (hv 3 (by decide) (by decide)) ?_
  refine L_at (v := 4) dL_law_246 dL_law_247 dL_law_248 (by decide) dL_law_249 dL_law_250 (hv 4 (by decide) (by decide)) ?_
  refine L_at (v := 5) dL_law_251 dL_law_252 dL_law_253 (by decide) dL_law_254 dL_law_255 (hv 5 (by decide) (by decide)) ?_
  refine L_callV (N := mX12_feed) (n := 5) (a := 226) [.int (xs (Int32.toNatClampNeg (i + 1))), .int (xs (Int32.toNatClampNeg (i + 2))), .int (xs (Int32.toNatClampNeg (i + 3))), .int (xs (Int32.toNatClampNeg (i + 4))), .int (xs (Int32.toNatClampNeg (i + 5)))] rfl ok_X12_feed lk_L_17 im_X12_feed se_X12_feed (by decide +kernel) rfl okC_12.1 sh_226 (by exact ltG hG (by decide)) (Nat.le_of_ble_eq_true rfl) dL_law_256 (by decide) (s_X12_feed 0 e2 hG) (fun r1 h1 q => by rw [q.2.1]; exact Nat.le_of_eq q.2.2.1) (fun r1 h1 hq => ?_)
  obtain ⟨rfl, hq, hG⟩ := hq
  replace hq := hq.symm
  subst hq
  show VL _ _ _ _ (_ :: _) _
  refine L_pop dL_law_259 rfl ?_
  refine L_goto 1336 dL_law_260 (by decide) ?_
  exact kk _ hG e4
theorem case_1 {L : Nat} {xs : Nat → Int32} {i : Int32} {h0 : Hp} (hG : G h0) (hw : Ir h0) (hv : ∀ v : Int32, 0 ≤ v.toInt → v.toInt < 6 → vp_in (i + v) L) (pu : PU_back) (kk : ∀ h : Hp, G h → Ir h → VL L xs (lvC i) 1336 [] h) : VL L xs (lvC i) 263 [] h0 := by
  refine L_aload (x := 0) 2 dL_law_263 rfl (fun _ _ => rfl) ?_
  refine L_at (v := 1) dL_law_264 dL_law_265 dL_law_266 (by decide) dL_law_267 dL_law_268 (hv 1 (by decide) (by decide)) ?_
  obtain ⟨n1, q1, n2, q2, e1, e2, e4⟩ := pu h0 hG hw (xs (Int32.toNatClampNeg (i + 1)))
  refine L_callV (N := mX11_back) (n := 1) (a := 0) [.int (xs (Int32.toNatClampNeg (i + 1)))] rfl ok_X11_back lk_L_18 im_X11_back se_X11_back (by decide +kernel) rfl okC_11.1 sh_0 (by exact ltG hG (by decide)) (Nat.le_of_ble_eq_true rfl) dL_law_269 (by decide) (s_X11_back 0 e1 hG) (fun r1 h1 q => by rw [q.2.1]; exact Nat.le_of_eq q.2.2.1) (fun r1 h1 hq => ?_)
  obtain ⟨rfl, hq, hG⟩ := hq
  replace hq := hq.symm
  subst hq
  show VL _ _ _ _ (_ :: _) _
  refine L_pop dL_law_272 rfl ?_
  refine L_aload (x := 226) 1 dL_law_273 rfl (fun _ _ => rfl) ?_
  refine L_at (v := 1) dL_law_274 dL_law_275 dL_law_276 (by decide) dL_law_277 dL_law_278 (hv 1 (by decide) (by decide)) ?_
  refine L_callV (N := mX12_back) (n := 1) (a := 226) [.int (xs (Int32.toNatClampNeg (i + 1)))] rfl ok_X12_back lk_L_22 im_X12_back se_X12_back (by decide +kernel) rfl okC_12.1 sh_226 (by exact ltG hG (by decide)) (Nat.le_of_ble_eq_true rfl) dL_law_279 (by decide) (s_X12_back 0 e2 hG) (fun r1 h1 q => by rw [q.2.1]; exact Nat.le_of_eq q.2.2.1) (fun r1 h1 hq => ?_)
  obtain ⟨rfl, hq, hG⟩ := hq
  replace hq := hq.symm
  subst hq
  show VL _ _ _ _ (_ :: _) _
  refine L_pop dL_law_282 rfl ?_
  refine L_goto 1336 dL_law_283 (by decide) ?_
  exact kk _ hG e4
theorem case_2 {L : Nat} {xs : Nat → Int32} {i : Int32} {h0 : Hp} (hG : G h0) (hw : Ir h0) (hv : ∀ v : Int32, 0 ≤ v.toInt → v.toInt < 6 → vp_in (i + v) L) (pu : PU_read) (kk : ∀ h : Hp, G h → Ir h → VL L xs (lvC i) 1336 [] h) : VL L xs (lvC i) 286 [] h0 := by
  refine L_aload (x := 0) 2 dL_law_286 rfl (fun _ _ => rfl) ?_
  obtain ⟨n1, q1, n2, q2, e1, e2, e4⟩ := pu h0 hG hw
  refine L_callV (N := mX11_read) (n := 0) (a := 0) [] rfl ok_X11_read lk_L_23 im_X11_read se_X11_read (by decide +kernel) rfl okC_11.1 sh_0 (by exact ltG hG (by decide)) (Nat.le_of_ble_eq_true rfl) dL_law_287 (by decide) (s_X11_read 0 e1 hG) (fun r1 h1 q => by rw [q.2.1]; exact Nat.le_of_eq q.2.2.1) (fun r1 h1 hq => ?_)
  obtain ⟨rfl, hq, hG⟩ := hq
  replace hq := hq.symm
  subst hq
  show VL _ _ _ _ (_ :: _) _
  refine L_pop dL_law_290 rfl ?_
  refine L_aload (x := 226) 1 dL_law_291 rfl (fun _ _ => rfl) ?_
  refine L_callV (N := mX12_read) (n := 0) (a := 226) [] rfl ok_X12_read lk_L_27 im_X12_read se_X12_read (by decide +kernel) rfl okC_12.1 sh_226 (by exact ltG hG (by decide)) (Nat.le_of_ble_eq_true rfl) dL_law_292 (by decide) (s_X12_read 0 e2 hG) (fun r1 h1 q => by rw [q.2.1]; exact Nat.le_of_eq q.2.2.1) (fun r1 h1 hq => ?_)
  obtain ⟨rfl, hq, hG⟩ := hq
  replace hq := hq.symm
  subst hq
  show VL _ _ _ _ (_ :: _) _
  refine L_pop dL_law_295 rfl ?_
  refine L_goto 1336 dL_law_296 (by decide) ?_
  exact kk _ hG e4
theorem case_3 {L : Nat} {xs : Nat → Int32} {i : Int32} {h0 : Hp} (hG : G h0) (hw : Ir h0) (hv : ∀ v : Int32, 0 ≤ v.toInt → v.toInt < 6 → vp_in (i + v) L) (pu : PU_place) (kk : ∀ h : Hp, G h → Ir h → VL L xs (lvC i) 1336 [] h) : VL L xs (lvC i) 299 [] h0 := by
  refine L_aload (x := 0) 2 dL_law_299 rfl (fun _ _ => rfl) ?_
  obtain ⟨n1, q1, n2, q2, e1, e2, e4⟩ := pu h0 hG hw
  refine L_callV (N := mX11_place) (n := 0) (a := 0) [] rfl ok_X11_place lk_L_28 im_X11_place se_X11_place (by decide +kernel) rfl okC_11.1 sh_0 (by exact ltG hG (by decide)) (Nat.le_of_ble_eq_true rfl) dL_law_300 (by decide) (s_X11_place 0 e1 hG) (fun r1 h1 q => by rw [q.2.1]; exact Nat.le_of_eq q.2.2.1) (fun r1 h1 hq => ?_)
  obtain ⟨rfl, hq, hG⟩ := hq
  replace hq := hq.symm
  subst hq
  show VL _ _ _ _ (_ :: _) _
  refine L_pop dL_law_303 rfl ?_
  refine L_aload (x := 226) 1 dL_law_304 rfl (fun _ _ => rfl) ?_
  refine L_callV (N := mX12_place) (n := 0) (a := 226) [] rfl ok_X12_place lk_L_31 im_X12_place se_X12_place (by decide +kernel) rfl okC_12.1 sh_226 (by exact ltG hG (by decide)) (Nat.le_of_ble_eq_true rfl) dL_law_305 (by decide) (s_X12_place 0 e2 hG) (fun r1 h1 q => by rw [q.2.1]; exact Nat.le_of_eq q.2.2.1) (fun r1 h1 hq => ?_)
  obtain ⟨rfl, hq, hG⟩ := hq
  replace hq := hq.symm
  subst hq
  show VL _ _ _ _ (_ :: _) _
  refine L_pop dL_law_308 rfl ?_
  refine L_goto 1336 dL_law_309 (by decide) ?_
  exact kk _ hG e4
theorem case_4 {L : Nat} {xs : Nat → Int32} {i : Int32} {h0 : Hp} (hG : G h0) (hw : Ir h0) (hv : ∀ v : Int32, 0 ≤ v.toInt → v.toInt < 6 → vp_in (i + v) L) (pu : PU_cell) (kk : ∀ h : Hp, G h → Ir h → VL L xs (lvC i) 1336 [] h) : VL L xs (lvC i) 312 [] h0 := by
  refine L_aload (x := 0) 2 dL_law_312 rfl (fun _ _ => rfl) ?_
  refine L_at (v := 1) dL_law_313 dL_law_314 dL_law_315 (by decide) dL_law_316 dL_law_317 (hv 1 (by decide) (by decide)) ?_
  refine L_at (v := 2) dL_law_318 dL_law_319 dL_law_320 (by decide) dL_law_321 dL_law_322 (hv 2 (by decide) (by decide)) ?_
  obtain ⟨n1, q1, n2, q2, e1, e2, e4⟩ := pu h0 hG hw (xs (Int32.toNatClampNeg (i + 1))) (xs (Int32.toNatClampNeg (i + 2)))
  refine L_callV (N := mX11_cell) (n := 2) (a := 0) [.int (xs (Int32.toNatClampNeg (i + 1))), .int (xs (Int32.toNatClampNeg (i + 2)))] rfl ok_X11_cell lk_L_32 im_X11_cell se_X11_cell (by decide +kernel) rfl okC_11.1 sh_0 (by exact ltG hG (by decide)) (Nat.le_of_ble_eq_true rfl) dL_law_323 (by decide) (s_X11_cell 0 e1 hG) (fun r1 h1 q => by rw [q.2.1]; exact Nat.le_of_eq q.2.2.1) (fun r1 h1 hq => ?_)
  obtain ⟨rfl, hq, hG⟩ := hq
  replace hq := hq.symm
  subst hq
  show VL _ _ _ _ (_ :: _) _
  refine L_pop dL_law_326 rfl ?_
  refine L_aload (x := 226) 1 dL_law_327 rfl (fun _ _ => rfl) ?_
  refine L_at (v := 1) dL_law_328 dL_law_329 dL_law_330 (by decide) dL_law_331 dL_law_332 (hv 1 (by decide) (by decide)) ?_
  refine L_at (v := 2) dL_law_333 dL_law_334 dL_law_335 (by decide) dL_law_336 dL_law_337 (hv 2 (by decide) (by decide)) ?_
  refine L_callV (N := mX12_cell) (n := 2) (a := 226) [.int (xs (Int32.toNatClampNeg (i + 1))), .int (xs (Int32.toNatClampNeg (i + 2)))] rfl ok_X12_cell lk_L_36 im_X12_cell se_X12_cell (by decide +kernel) rfl okC_12.1 sh_226 (by exact ltG hG (by decide)) (Nat.le_of_ble_eq_true rfl) dL_law_338 (by decide) (s_X12_cell 0 e2 hG) (fun r1 h1 q => by rw [q.2.1]; exact Nat.le_of_eq q.2.2.1) (fun r1 h1 hq => ?_)
  obtain ⟨rfl, hq, hG⟩ := hq
  replace hq := hq.symm
  subst hq
  show VL _ _ _ _ (_ :: _) _
  refine L_pop dL_law_341 rfl ?_
  refine L_goto 1336 dL_law_342 (by decide) ?_
  exact kk _ hG e4
theorem case_5 {L : Nat} {xs : Nat → Int32} {i : Int32} {h0 : Hp} (hG : G h0) (hw : Ir h0) (hv : ∀ v : Int32, 0 ≤ v.toInt → v.toInt < 6 → vp_in (i + v) L) (pu : PU_goer) (kk : ∀ h : Hp, G h → Ir h → VL L xs (lvC i) 1336 [] h) : VL L xs (lvC i) 345 [] h0 := by
  refine L_aload (x := 0) 2 dL_law_345 rfl (fun _ _ => rfl) ?_
  refine L_at (v := 1) dL_law_346 dL_law_347 dL_law_348 (by decide) dL_law_349 dL_law_350 (hv 1 (by decide) (by decide)) ?_
  refine L_at (v := 2) dL_law_351 dL_law_352 dL_law_353 (by decide) dL_law_354 dL_law_355 (hv 2 (by decide) (by decide)) ?_
  obtain ⟨n1, q1, n2, q2, e1, e2, e4⟩ := pu h0 hG hw (xs (Int32.toNatClampNeg (i + 1))) (xs (Int32.toNatClampNeg (i + 2)))
  refine L_callV (N := mX11_goer) (n := 2) (a := 0) [.int (xs (Int32.toNatClampNeg (i + 1))), .int (xs (Int32.toNatClampNeg (i + 2)))] rfl ok_X11_goer lk_L_37 im_X11_goer se_X11_goer (by decide +kernel) rfl okC_11.1 sh_0 (by exact ltG hG (by decide)) (Nat.le_of_ble_eq_true rfl) dL_law_356 (by decide) (s_X11_goer 0 e1 hG) (fun r1 h1 q => by rw [q.2.1]; exact Nat.le_of_eq q.2.2.1) (fun r1 h1 hq => ?_)
  obtain ⟨rfl, hq, hG⟩ := hq
  replace hq := hq.symm
  subst hq
  show VL _ _ _ _ (_ :: _) _
  refine L_pop dL_law_359 rfl ?_
  refine L_aload (x := 226) 1 dL_law_360 rfl (fun _ _ => rfl) ?_
  refine L_at (v := 1) dL_law_361 dL_law_362 dL_law_363 (by decide) dL_law_364 dL_law_365 (hv 1 (by decide) (by decide)) ?_
  refine L_at (v := 2) dL_law_366 dL_law_367 dL_law_368 (by decide) dL_law_369 dL_law_370 (hv 2 (by decide) (by decide)) ?_
  refine L_callV (N := mX12_goer) (n := 2) (a := 226) [.int (xs (Int32.toNatClampNeg (i + 1))), .int (xs (Int32.toNatClampNeg (i + 2)))] rfl ok_X12_goer lk_L_40 im_X12_goer se_X12_goer (by decide +kernel) rfl okC_12.1 sh_226 (by exact ltG hG (by decide)) (Nat.le_of_ble_eq_true rfl) dL_law_371 (by decide) (s_X12_goer 0 e2 hG) (fun r1 h1 q => by rw [q.2.1]; exact Nat.le_of_eq q.2.2.1) (fun r1 h1 hq => ?_)
  obtain ⟨rfl, hq, hG⟩ := hq
  replace hq := hq.symm
  subst hq
  show VL _ _ _ _ (_ :: _) _
  refine L_pop dL_law_374 rfl ?_
  refine L_goto 1336 dL_law_375 (by decide) ?_
  exact kk _ hG e4
theorem case_6 {L : Nat} {xs : Nat → Int32} {i : Int32} {h0 : Hp} (hG : G h0) (hw : Ir h0) (hv : ∀ v : Int32, 0 ≤ v.toInt → v.toInt < 6 → vp_in (i + v) L) (pu : PU_mow) (kk : ∀ h : Hp, G h → Ir h → VL L xs (lvC i) 1336 [] h) : VL L xs (lvC i) 378 [] h0 := by
  refine L_aload (x := 0) 2 dL_law_378 rfl (fun _ _ => rfl) ?_
  refine L_at (v := 1) dL_law_379 dL_law_380 dL_law_381 (by decide) dL_law_382 dL_law_383 (hv 1 (by decide) (by decide)) ?_
  obtain ⟨n1, q1, n2, q2, e1, e2, e4⟩ := pu h0 hG hw (xs (Int32.toNatClampNeg (i + 1)))
  refine L_callV (N := mX11_mow) (n := 1) (a := 0) [.int (xs (Int32.toNatClampNeg (i + 1)))] rfl ok_X11_mow lk_L_41 im_X11_mow se_X11_mow (by decide +kernel) rfl okC_11.1 sh_0 (by exact ltG hG (by decide)) (Nat.le_of_ble_eq_true rfl) dL_law_384 (by decide) (s_X11_mow 0 e1 hG) (fun r1 h1 q => by rw [q.2.1]; exact Nat.le_of_eq q.2.2.1) (fun r1 h1 hq => ?_)
  obtain ⟨rfl, hq, hG⟩ := hq
  replace hq := hq.symm
  subst hq
  show VL _ _ _ _ (_ :: _) _
  refine L_pop dL_law_387 rfl ?_
  refine L_aload (x := 226) 1 dL_law_388 rfl (fun _ _ => rfl) ?_
  refine L_at (v := 1) dL_law_389 dL_law_390 dL_law_391 (by decide) dL_law_392 dL_law_393 (hv 1 (by decide) (by decide)) ?_
  refine L_callV (N := mX12_mow) (n := 1) (a := 226) [.int (xs (Int32.toNatClampNeg (i + 1)))] rfl ok_X12_mow lk_L_44 im_X12_mow se_X12_mow (by decide +kernel) rfl okC_12.1 sh_226 (by exact ltG hG (by decide)) (Nat.le_of_ble_eq_true rfl) dL_law_394 (by decide) (s_X12_mow 0 e2 hG) (fun r1 h1 q => by rw [q.2.1]; exact Nat.le_of_eq q.2.2.1) (fun r1 h1 hq => ?_)
  obtain ⟨rfl, hq, hG⟩ := hq
  replace hq := hq.symm
  subst hq
  show VL _ _ _ _ (_ :: _) _
  refine L_pop dL_law_397 rfl ?_
  refine L_goto 1336 dL_law_398 (by decide) ?_
  exact kk _ hG e4
theorem case_7 {L : Nat} {xs : Nat → Int32} {i : Int32} {h0 : Hp} (hG : G h0) (hw : Ir h0) (hv : ∀ v : Int32, 0 ≤ v.toInt → v.toInt < 6 → vp_in (i + v) L) (pu : PU_rope) (kk : ∀ h : Hp, G h → Ir h → VL L xs (lvC i) 1336 [] h) : VL L xs (lvC i) 401 [] h0 := by
  refine L_aload (x := 0) 2 dL_law_401 rfl (fun _ _ => rfl) ?_
  refine L_at (v := 1) dL_law_402 dL_law_403 dL_law_404 (by decide) dL_law_405 dL_law_406 (hv 1 (by decide) (by decide)) ?_
  refine L_at (v := 2) dL_law_407 dL_law_408 dL_law_409 (by decide) dL_law_410 dL_law_411 (hv 2 (by decide) (by decide)) ?_
  refine L_ifeq 419 dL_law_412 (by decide) (fun cz => ?_) (fun cz => ?_)
  · refine L_iconst (v := 0) dL_law_419 (by decide) ?_
    obtain ⟨n1, q1, n2, q2, e1, e2, e4⟩ := pu h0 hG hw (xs (Int32.toNatClampNeg (i + 1))) 0 (Or.inl rfl)
    refine L_callV (N := mX11_rope) (n := 2) (a := 0) [.int (xs (Int32.toNatClampNeg (i + 1))), .int 0] rfl ok_X11_rope lk_L_45 im_X11_rope se_X11_rope (by decide +kernel) rfl okC_11.1 sh_0 (by exact ltG hG (by decide)) (Nat.le_of_ble_eq_true rfl) dL_law_420 (by decide) (s_X11_rope 0 e1 hG) (fun r1 h1 q => by rw [q.2.1]; exact Nat.le_of_eq q.2.2.1) (fun r1 h1 hq => ?_)
    obtain ⟨rfl, hq, hG⟩ := hq
    replace hq := hq.symm
    subst hq
    show VL _ _ _ _ (_ :: _) _
    refine L_pop dL_law_423 rfl ?_
    refine L_aload (x := 226) 1 dL_law_424 rfl (fun _ _ => rfl) ?_
    refine L_at (v := 1) dL_law_425 dL_law_426 dL_law_427 (by decide) dL_law_428 dL_law_429 (hv 1 (by decide) (by decide)) ?_
    refine L_at (v := 2) dL_law_430 dL_law_431 dL_law_432 (by decide) dL_law_433 dL_law_434 (hv 2 (by decide) (by decide)) ?_
    refine L_ifeq 442 dL_law_435 (by decide) (fun _ => ?_) (fun q => absurd cz q)
    refine L_iconst (v := 0) dL_law_442 (by decide) ?_
    refine L_callV (N := mX12_rope) (n := 2) (a := 226) [.int (xs (Int32.toNatClampNeg (i + 1))), .int 0] rfl ok_X12_rope lk_L_49 im_X12_rope se_X12_rope (by decide +kernel) rfl okC_12.1 sh_226 (by exact ltG hG (by decide)) (Nat.le_of_ble_eq_true rfl) dL_law_443 (by decide) (s_X12_rope 0 e2 hG) (fun r1 h1 q => by rw [q.2.1]; exact Nat.le_of_eq q.2.2.1) (fun r1 h1 hq => ?_)
    obtain ⟨rfl, hq, hG⟩ := hq
    replace hq := hq.symm
    subst hq
    show VL _ _ _ _ (_ :: _) _
    refine L_pop dL_law_446 rfl ?_
    refine L_goto 1336 dL_law_447 (by decide) ?_
    exact kk _ hG e4
  · refine L_iconst (v := 1) dL_law_415 (by decide) ?_
    refine L_goto 420 dL_law_416 (by decide) ?_
    obtain ⟨n1, q1, n2, q2, e1, e2, e4⟩ := pu h0 hG hw (xs (Int32.toNatClampNeg (i + 1))) 1 (Or.inr rfl)
    refine L_callV (N := mX11_rope) (n := 2) (a := 0) [.int (xs (Int32.toNatClampNeg (i + 1))), .int 1] rfl ok_X11_rope lk_L_45 im_X11_rope se_X11_rope (by decide +kernel) rfl okC_11.1 sh_0 (by exact ltG hG (by decide)) (Nat.le_of_ble_eq_true rfl) dL_law_420 (by decide) (s_X11_rope 0 e1 hG) (fun r1 h1 q => by rw [q.2.1]; exact Nat.le_of_eq q.2.2.1) (fun r1 h1 hq => ?_)
    obtain ⟨rfl, hq, hG⟩ := hq
    replace hq := hq.symm
    subst hq
    show VL _ _ _ _ (_ :: _) _
    refine L_pop dL_law_423 rfl ?_
    refine L_aload (x := 226) 1 dL_law_424 rfl (fun _ _ => rfl) ?_
    refine L_at (v := 1) dL_law_425 dL_law_426 dL_law_427 (by decide) dL_law_428 dL_law_429 (hv 1 (by decide) (by decide)) ?_
    refine L_at (v := 2) dL_law_430 dL_law_431 dL_law_432 (by decide) dL_law_433 dL_law_434 (hv 2 (by decide) (by decide)) ?_
    refine L_ifeq 442 dL_law_435 (by decide) (fun q => absurd q cz) (fun _ => ?_)
    refine L_iconst (v := 1) dL_law_438 (by decide) ?_
    refine L_goto 443 dL_law_439 (by decide) ?_
    refine L_callV (N := mX12_rope) (n := 2) (a := 226) [.int (xs (Int32.toNatClampNeg (i + 1))), .int 1] rfl ok_X12_rope lk_L_49 im_X12_rope se_X12_rope (by decide +kernel) rfl okC_12.1 sh_226 (by exact ltG hG (by decide)) (Nat.le_of_ble_eq_true rfl) dL_law_443 (by decide) (s_X12_rope 0 e2 hG) (fun r1 h1 q => by rw [q.2.1]; exact Nat.le_of_eq q.2.2.1) (fun r1 h1 hq => ?_)
    obtain ⟨rfl, hq, hG⟩ := hq
    replace hq := hq.symm
    subst hq
    show VL _ _ _ _ (_ :: _) _
    refine L_pop dL_law_446 rfl ?_
    refine L_goto 1336 dL_law_447 (by decide) ?_
    exact kk _ hG e4
theorem case_8 {L : Nat} {xs : Nat → Int32} {i : Int32} {h0 : Hp} (hG : G h0) (hw : Ir h0) (hv : ∀ v : Int32, 0 ≤ v.toInt → v.toInt < 6 → vp_in (i + v) L) (pu : PU_carry) (kk : ∀ h : Hp, G h → Ir h → VL L xs (lvC i) 1336 [] h) : VL L xs (lvC i) 450 [] h0 := by
  refine L_aload (x := 0) 2 dL_law_450 rfl (fun _ _ => rfl) ?_
  refine L_at (v := 1) dL_law_451 dL_law_452 dL_law_453 (by decide) dL_law_454 dL_law_455 (hv 1 (by decide) (by decide)) ?_
  refine L_at (v := 2) dL_law_456 dL_law_457 dL_law_458 (by decide) dL_law_459 dL_law_460 (hv 2 (by decide) (by decide)) ?_
  obtain ⟨n1, q1, n2, q2, e1, e2, e4⟩ := pu h0 hG hw (xs (Int32.toNatClampNeg (i + 1))) (xs (Int32.toNatClampNeg (i + 2)))
  refine L_callV (N := mX11_carry) (n := 2) (a := 0) [.int (xs (Int32.toNatClampNeg (i + 1))), .int (xs (Int32.toNatClampNeg (i + 2)))] rfl ok_X11_carry lk_L_50 im_X11_carry se_X11_carry (by decide +kernel) rfl okC_11.1 sh_0 (by exact ltG hG (by decide)) (Nat.le_of_ble_eq_true rfl) dL_law_461 (by decide) (s_X11_carry 0 e1 hG) (fun r1 h1 q => by rw [q.2.1]; exact Nat.le_of_eq q.2.2.1) (fun r1 h1 hq => ?_)
  obtain ⟨rfl, hq, hG⟩ := hq
  replace hq := hq.symm
  subst hq
  show VL _ _ _ _ (_ :: _) _
  refine L_pop dL_law_464 rfl ?_
  refine L_aload (x := 226) 1 dL_law_465 rfl (fun _ _ => rfl) ?_
  refine L_at (v := 1) dL_law_466 dL_law_467 dL_law_468 (by decide) dL_law_469 dL_law_470 (hv 1 (by decide) (by decide)) ?_
  refine L_at (v := 2) dL_law_471 dL_law_472 dL_law_473 (by decide) dL_law_474 dL_law_475 (hv 2 (by decide) (by decide)) ?_
  refine L_callV (N := mX12_carry) (n := 2) (a := 226) [.int (xs (Int32.toNatClampNeg (i + 1))), .int (xs (Int32.toNatClampNeg (i + 2)))] rfl ok_X12_carry lk_L_54 im_X12_carry se_X12_carry (by decide +kernel) rfl okC_12.1 sh_226 (by exact ltG hG (by decide)) (Nat.le_of_ble_eq_true rfl) dL_law_476 (by decide) (s_X12_carry 0 e2 hG) (fun r1 h1 q => by rw [q.2.1]; exact Nat.le_of_eq q.2.2.1) (fun r1 h1 hq => ?_)
  obtain ⟨rfl, hq, hG⟩ := hq
  replace hq := hq.symm
  subst hq
  show VL _ _ _ _ (_ :: _) _
  refine L_pop dL_law_479 rfl ?_
  refine L_goto 1336 dL_law_480 (by decide) ?_
  exact kk _ hG e4
theorem case_9 {L : Nat} {xs : Nat → Int32} {i : Int32} {h0 : Hp} (hG : G h0) (hw : Ir h0) (hv : ∀ v : Int32, 0 ≤ v.toInt → v.toInt < 6 → vp_in (i + v) L) (pu : PU_beats) (kk : ∀ h : Hp, G h → Ir h → VL L xs (lvC i) 1336 [] h) : VL L xs (lvC i) 483 [] h0 := by
  refine L_aload (x := 0) 2 dL_law_483 rfl (fun _ _ => rfl) ?_
  refine L_at (v := 1) dL_law_484 dL_law_485 dL_law_486 (by decide) dL_law_487 dL_law_488 (hv 1 (by decide) (by decide)) ?_
  obtain ⟨n1, q1, n2, q2, e1, e2, e4⟩ := pu h0 hG hw (xs (Int32.toNatClampNeg (i + 1)))
  refine L_callV (N := mX11_beats) (n := 1) (a := 0) [.int (xs (Int32.toNatClampNeg (i + 1)))] rfl ok_X11_beats lk_L_55 im_X11_beats se_X11_beats (by decide +kernel) rfl okC_11.1 sh_0 (by exact ltG hG (by decide)) (Nat.le_of_ble_eq_true rfl) dL_law_489 (by decide) (s_X11_beats 0 e1 hG) (fun r1 h1 q => by rw [q.2.1]; exact Nat.le_of_eq q.2.2.1) (fun r1 h1 hq => ?_)
  obtain ⟨rfl, hq, hG⟩ := hq
  replace hq := hq.symm
  subst hq
  show VL _ _ _ _ (_ :: _) _
  refine L_pop dL_law_492 rfl ?_
  refine L_aload (x := 226) 1 dL_law_493 rfl (fun _ _ => rfl) ?_
  refine L_at (v := 1) dL_law_494 dL_law_495 dL_law_496 (by decide) dL_law_497 dL_law_498 (hv 1 (by decide) (by decide)) ?_
  refine L_callV (N := mX12_beats) (n := 1) (a := 226) [.int (xs (Int32.toNatClampNeg (i + 1)))] rfl ok_X12_beats lk_L_58 im_X12_beats se_X12_beats (by decide +kernel) rfl okC_12.1 sh_226 (by exact ltG hG (by decide)) (Nat.le_of_ble_eq_true rfl) dL_law_499 (by decide) (s_X12_beats 0 e2 hG) (fun r1 h1 q => by rw [q.2.1]; exact Nat.le_of_eq q.2.2.1) (fun r1 h1 hq => ?_)
  obtain ⟨rfl, hq, hG⟩ := hq
  replace hq := hq.symm
  subst hq
  show VL _ _ _ _ (_ :: _) _
  refine L_pop dL_law_502 rfl ?_
  refine L_goto 1336 dL_law_503 (by decide) ?_
  exact kk _ hG e4
theorem case_10 {L : Nat} {xs : Nat → Int32} {i : Int32} {h0 : Hp} (hG : G h0) (hw : Ir h0) (hv : ∀ v : Int32, 0 ≤ v.toInt → v.toInt < 6 → vp_in (i + v) L) (pu : PU_undo) (kk : ∀ h : Hp, G h → Ir h → VL L xs (lvC i) 1336 [] h) : VL L xs (lvC i) 506 [] h0 := by
  refine L_aload (x := 0) 2 dL_law_506 rfl (fun _ _ => rfl) ?_
  obtain ⟨n1, q1, n2, q2, e1, e2, e4⟩ := pu h0 hG hw
  refine L_callV (N := mX11_undo) (n := 0) (a := 0) [] rfl ok_X11_undo lk_L_59 im_X11_undo se_X11_undo (by decide +kernel) rfl okC_11.1 sh_0 (by exact ltG hG (by decide)) (Nat.le_of_ble_eq_true rfl) dL_law_507 (by decide) (s_X11_undo 0 e1 hG) (fun r1 h1 q => by rw [q.2.1]; exact Nat.le_of_eq q.2.2.1) (fun r1 h1 hq => ?_)
  obtain ⟨rfl, hq, hG⟩ := hq
  replace hq := hq.symm
  subst hq
  show VL _ _ _ _ (_ :: _) _
  refine L_pop dL_law_510 rfl ?_
  refine L_aload (x := 226) 1 dL_law_511 rfl (fun _ _ => rfl) ?_
  refine L_callV (N := mX12_undo) (n := 0) (a := 226) [] rfl ok_X12_undo lk_L_63 im_X12_undo se_X12_undo (by decide +kernel) rfl okC_12.1 sh_226 (by exact ltG hG (by decide)) (Nat.le_of_ble_eq_true rfl) dL_law_512 (by decide) (s_X12_undo 0 e2 hG) (fun r1 h1 q => by rw [q.2.1]; exact Nat.le_of_eq q.2.2.1) (fun r1 h1 hq => ?_)
  obtain ⟨rfl, hq, hG⟩ := hq
  replace hq := hq.symm
  subst hq
  show VL _ _ _ _ (_ :: _) _
  refine L_pop dL_law_515 rfl ?_
  refine L_goto 1336 dL_law_516 (by decide) ?_
  exact kk _ hG e4
theorem case_11 {L : Nat} {xs : Nat → Int32} {i : Int32} {h0 : Hp} (hG : G h0) (hw : Ir h0) (hv : ∀ v : Int32, 0 ≤ v.toInt → v.toInt < 6 → vp_in (i + v) L) (pu : PU_next) (kk : ∀ h : Hp, G h → Ir h → VL L xs (lvC i) 1336 [] h) : VL L xs (lvC i) 519 [] h0 := by
  refine L_aload (x := 0) 2 dL_law_519 rfl (fun _ _ => rfl) ?_
  refine L_at (v := 1) dL_law_520 dL_law_521 dL_law_522 (by decide) dL_law_523 dL_law_524 (hv 1 (by decide) (by decide)) ?_
  obtain ⟨n1, q1, n2, q2, e1, e2, e4⟩ := pu h0 hG hw (xs (Int32.toNatClampNeg (i + 1)))
  refine L_callV (N := mX11_next) (n := 1) (a := 0) [.int (xs (Int32.toNatClampNeg (i + 1)))] rfl ok_X11_next lk_L_64 im_X11_next se_X11_next (by decide +kernel) rfl okC_11.1 sh_0 (by exact ltG hG (by decide)) (Nat.le_of_ble_eq_true rfl) dL_law_525 (by decide) (s_X11_next 0 e1 hG) (fun r1 h1 q => by rw [q.2.1]; exact Nat.le_of_eq q.2.2.1) (fun r1 h1 hq => ?_)
  obtain ⟨rfl, hq, hG⟩ := hq
  replace hq := hq.symm
  subst hq
  show VL _ _ _ _ (_ :: _) _
  refine L_pop dL_law_528 rfl ?_
  refine L_aload (x := 226) 1 dL_law_529 rfl (fun _ _ => rfl) ?_
  refine L_at (v := 1) dL_law_530 dL_law_531 dL_law_532 (by decide) dL_law_533 dL_law_534 (hv 1 (by decide) (by decide)) ?_
  refine L_callV (N := mX12_next) (n := 1) (a := 226) [.int (xs (Int32.toNatClampNeg (i + 1)))] rfl ok_X12_next lk_L_67 im_X12_next se_X12_next (by decide +kernel) rfl okC_12.1 sh_226 (by exact ltG hG (by decide)) (Nat.le_of_ble_eq_true rfl) dL_law_535 (by decide) (s_X12_next 0 e2 hG) (fun r1 h1 q => by rw [q.2.1]; exact Nat.le_of_eq q.2.2.1) (fun r1 h1 hq => ?_)
  obtain ⟨rfl, hq, hG⟩ := hq
  replace hq := hq.symm
  subst hq
  show VL _ _ _ _ (_ :: _) _
  refine L_pop dL_law_538 rfl ?_
  refine L_goto 1336 dL_law_539 (by decide) ?_
  exact kk _ hG e4
theorem case_12 {L : Nat} {xs : Nat → Int32} {i : Int32} {h0 : Hp} (hG : G h0) (hw : Ir h0) (hv : ∀ v : Int32, 0 ≤ v.toInt → v.toInt < 6 → vp_in (i + v) L) (pu : PU_together) (kk : ∀ h : Hp, G h → Ir h → VL L xs (lvC i) 1336 [] h) : VL L xs (lvC i) 542 [] h0 := by
  refine L_aload (x := 0) 2 dL_law_542 rfl (fun _ _ => rfl) ?_
  refine L_at (v := 1) dL_law_543 dL_law_544 dL_law_545 (by decide) dL_law_546 dL_law_547 (hv 1 (by decide) (by decide)) ?_
  refine L_at (v := 2) dL_law_548 dL_law_549 dL_law_550 (by decide) dL_law_551 dL_law_552 (hv 2 (by decide) (by decide)) ?_
  obtain ⟨n1, q1, n2, q2, e1, e2, e4⟩ := pu h0 hG hw (xs (Int32.toNatClampNeg (i + 1))) (xs (Int32.toNatClampNeg (i + 2)))
  refine L_callV (N := mX11_together) (n := 2) (a := 0) [.int (xs (Int32.toNatClampNeg (i + 1))), .int (xs (Int32.toNatClampNeg (i + 2)))] rfl ok_X11_together lk_L_68 im_X11_together se_X11_together (by decide +kernel) rfl okC_11.1 sh_0 (by exact ltG hG (by decide)) (Nat.le_of_ble_eq_true rfl) dL_law_553 (by decide) (s_X11_together 0 e1 hG) (fun r1 h1 q => by rw [q.2.1]; exact Nat.le_of_eq q.2.2.1) (fun r1 h1 hq => ?_)
  obtain ⟨rfl, hq, hG⟩ := hq
  replace hq := hq.symm
  subst hq
  show VL _ _ _ _ (_ :: _) _
  refine L_pop dL_law_556 rfl ?_
  refine L_aload (x := 226) 1 dL_law_557 rfl (fun _ _ => rfl) ?_
  refine L_at (v := 1) dL_law_558 dL_law_559 dL_law_560 (by decide) dL_law_561 dL_law_562 (hv 1 (by decide) (by decide)) ?_
  refine L_at (v := 2) dL_law_563 dL_law_564 dL_law_565 (by decide) dL_law_566 dL_law_567 (hv 2 (by decide) (by decide)) ?_
  refine L_callV (N := mX12_together) (n := 2) (a := 226) [.int (xs (Int32.toNatClampNeg (i + 1))), .int (xs (Int32.toNatClampNeg (i + 2)))] rfl ok_X12_together lk_L_71 im_X12_together se_X12_together (by decide +kernel) rfl okC_12.1 sh_226 (by exact ltG hG (by decide)) (Nat.le_of_ble_eq_true rfl) dL_law_568 (by decide) (s_X12_together 0 e2 hG) (fun r1 h1 q => by rw [q.2.1]; exact Nat.le_of_eq q.2.2.1) (fun r1 h1 hq => ?_)
  obtain ⟨rfl, hq, hG⟩ := hq
  replace hq := hq.symm
  subst hq
  show VL _ _ _ _ (_ :: _) _
  refine L_pop dL_law_571 rfl ?_
  refine L_goto 1336 dL_law_572 (by decide) ?_
  exact kk _ hG e4
theorem case_13 {L : Nat} {xs : Nat → Int32} {i : Int32} {h0 : Hp} (hG : G h0) (hw : Ir h0) (hv : ∀ v : Int32, 0 ≤ v.toInt → v.toInt < 6 → vp_in (i + v) L) (pu : PU_way) (kk : ∀ h : Hp, G h → Ir h → VL L xs (lvC i) 1336 [] h) : VL L xs (lvC i) 575 [] h0 := by
  refine L_aload (x := 0) 2 dL_law_575 rfl (fun _ _ => rfl) ?_
  refine L_at (v := 1) dL_law_576 dL_law_577 dL_law_578 (by decide) dL_law_579 dL_law_580 (hv 1 (by decide) (by decide)) ?_
  refine L_at (v := 2) dL_law_581 dL_law_582 dL_law_583 (by decide) dL_law_584 dL_law_585 (hv 2 (by decide) (by decide)) ?_
  refine L_at (v := 3) dL_law_586 dL_law_587 dL_law_588 (by decide) dL_law_589 dL_law_590 (hv 3 (by decide) (by decide)) ?_
  obtain ⟨n1, q1, n2, q2, e1, e2, e4⟩ := pu h0 hG hw (xs (Int32.toNatClampNeg (i + 1))) (xs (Int32.toNatClampNeg (i + 2))) (xs (Int32.toNatClampNeg (i + 3)))
  refine L_callV (N := mX11_way) (n := 3) (a := 0) [.int (xs (Int32.toNatClampNeg (i + 1))), .int (xs (Int32.toNatClampNeg (i + 2))), .int (xs (Int32.toNatClampNeg (i + 3)))] rfl ok_X11_way lk_L_72 im_X11_way se_X11_way (by decide +kernel) rfl okC_11.1 sh_0 (by exact ltG hG (by decide)) (Nat.le_of_ble_eq_true rfl) dL_law_591 (by decide) (s_X11_way 0 e1 hG) (fun r1 h1 q => by rw [q.2.1]; exact Nat.le_of_eq q.2.2.1) (fun r1 h1 hq => ?_)
  obtain ⟨rfl, hq, hG⟩ := hq
  replace hq := hq.symm
  subst hq
  show VL _ _ _ _ (_ :: _) _
  refine L_pop dL_law_594 rfl ?_
  refine L_aload (x := 226) 1 dL_law_595 rfl (fun _ _ => rfl) ?_
  refine L_at (v := 1) dL_law_596 dL_law_597 dL_law_598 (by decide) dL_law_599 dL_law_600 (hv 1 (by decide) (by decide)) ?_
  refine L_at (v := 2) dL_law_601 dL_law_602 dL_law_603 (by decide) dL_law_604 dL_law_605 (hv 2 (by decide) (by decide)) ?_
  refine L_at (v := 3) dL_law_606 dL_law_607 dL_law_608 (by decide) dL_law_609 dL_law_610 (hv 3 (by decide) (by decide)) ?_
  refine L_callV (N := mX12_way) (n := 3) (a := 226) [.int (xs (Int32.toNatClampNeg (i + 1))), .int (xs (Int32.toNatClampNeg (i + 2))), .int (xs (Int32.toNatClampNeg (i + 3)))] rfl ok_X12_way lk_L_76 im_X12_way se_X12_way (by decide +kernel) rfl okC_12.1 sh_226 (by exact ltG hG (by decide)) (Nat.le_of_ble_eq_true rfl) dL_law_611 (by decide) (s_X12_way 0 e2 hG) (fun r1 h1 q => by rw [q.2.1]; exact Nat.le_of_eq q.2.2.1) (fun r1 h1 hq => ?_)
  obtain ⟨rfl, hq, hG⟩ := hq
  replace hq := hq.symm
  subst hq
  show VL _ _ _ _ (_ :: _) _
  refine L_pop dL_law_614 rfl ?_
  refine L_goto 1336 dL_law_615 (by decide) ?_
  exact kk _ hG e4
theorem case_14 {L : Nat} {xs : Nat → Int32} {i : Int32} {h0 : Hp} (hG : G h0) (hw : Ir h0) (hv : ∀ v : Int32, 0 ≤ v.toInt → v.toInt < 6 → vp_in (i + v) L) (pu : PU_leave) (kk : ∀ h : Hp, G h → Ir h → VL L xs (lvC i) 1336 [] h) : VL L xs (lvC i) 618 [] h0 := by
  refine L_aload (x := 0) 2 dL_law_618 rfl (fun _ _ => rfl) ?_
  refine L_at (v := 1) dL_law_619 dL_law_620 dL_law_621 (by decide) dL_law_622 dL_law_623 (hv 1 (by decide) (by decide)) ?_
  refine L_at (v := 2) dL_law_624 dL_law_625 dL_law_626 (by decide) dL_law_627 dL_law_628 (hv 2 (by decide) (by decide)) ?_
  refine L_at (v := 3) dL_law_629 dL_law_630 dL_law_631 (by decide) dL_law_632 dL_law_633 (hv 3 (by decide) (by decide)) ?_
  obtain ⟨n1, q1, n2, q2, e1, e2, e4⟩ := pu h0 hG hw (xs (Int32.toNatClampNeg (i + 1))) (xs (Int32.toNatClampNeg (i + 2))) (xs (Int32.toNatClampNeg (i + 3)))
  refine L_callV (N := mX11_leave) (n := 3) (a := 0) [.int (xs (Int32.toNatClampNeg (i + 1))), .int (xs (Int32.toNatClampNeg (i + 2))), .int (xs (Int32.toNatClampNeg (i + 3)))] rfl ok_X11_leave lk_L_77 im_X11_leave se_X11_leave (by decide +kernel) rfl okC_11.1 sh_0 (by exact ltG hG (by decide)) (Nat.le_of_ble_eq_true rfl) dL_law_634 (by decide) (s_X11_leave 0 e1 hG) (fun r1 h1 q => by rw [q.2.1]; exact Nat.le_of_eq q.2.2.1) (fun r1 h1 hq => ?_)
  obtain ⟨rfl, hq, hG⟩ := hq
  replace hq := hq.symm
  subst hq
  show VL _ _ _ _ (_ :: _) _
  refine L_pop dL_law_637 rfl ?_
  refine L_aload (x := 226) 1 dL_law_638 rfl (fun _ _ => rfl) ?_
  refine L_at (v := 1) dL_law_639 dL_law_640 dL_law_641 (by decide) dL_law_642 dL_law_643 (hv 1 (by decide) (by decide)) ?_
  refine L_at (v := 2) dL_law_644 dL_law_645 dL_law_646 (by decide) dL_law_647 dL_law_648 (hv 2 (by decide) (by decide)) ?_
  refine L_at (v := 3) dL_law_649 dL_law_650 dL_law_651 (by decide) dL_law_652 dL_law_653 (hv 3 (by decide) (by decide)) ?_
  refine L_callV (N := mX12_leave) (n := 3) (a := 226) [.int (xs (Int32.toNatClampNeg (i + 1))), .int (xs (Int32.toNatClampNeg (i + 2))), .int (xs (Int32.toNatClampNeg (i + 3)))] rfl ok_X12_leave lk_L_80 im_X12_leave se_X12_leave (by decide +kernel) rfl okC_12.1 sh_226 (by exact ltG hG (by decide)) (Nat.le_of_ble_eq_true rfl) dL_law_654 (by decide) (s_X12_leave 0 e2 hG) (fun r1 h1 q => by rw [q.2.1]; exact Nat.le_of_eq q.2.2.1) (fun r1 h1 hq => ?_)
  obtain ⟨rfl, hq, hG⟩ := hq
  replace hq := hq.symm
  subst hq
  show VL _ _ _ _ (_ :: _) _
  refine L_pop dL_law_657 rfl ?_
  refine L_goto 1336 dL_law_658 (by decide) ?_
  exact kk _ hG e4
theorem case_15 {L : Nat} {xs : Nat → Int32} {i : Int32} {h0 : Hp} (hG : G h0) (hw : Ir h0) (hv : ∀ v : Int32, 0 ≤ v.toInt → v.toInt < 6 → vp_in (i + v) L) (pu : PU_mows) (kk : ∀ h : Hp, G h → Ir h → VL L xs (lvC i) 1336 [] h) : VL L xs (lvC i) 661 [] h0 := by
  refine L_aload (x := 0) 2 dL_law_661 rfl (fun _ _ => rfl) ?_
  refine L_at (v := 1) dL_law_662 dL_law_663 dL_law_664 (by decide) dL_law_665 dL_law_666 (hv 1 (by decide) (by decide)) ?_
  refine L_at (v := 2) dL_law_667 dL_law_668 dL_law_669 (by decide) dL_law_670 dL_law_671 (hv 2 (by decide) (by decide)) ?_
  refine L_at (v := 3) dL_law_672 dL_law_673 dL_law_674 (by decide) dL_law_675 dL_law_676 (hv 3 (by decide) (by decide)) ?_
  refine L_at (v := 4) dL_law_677 dL_law_678 dL_law_679 (by decide) dL_law_680 dL_law_681 (hv 4 (by decide) (by decide)) ?_
  obtain ⟨n1, q1, n2, q2, e1, e2, e4⟩ := pu h0 hG hw (xs (Int32.toNatClampNeg (i + 1))) (xs (Int32.toNatClampNeg (i + 2))) (xs (Int32.toNatClampNeg (i + 3))) (xs (Int32.toNatClampNeg (i + 4)))
  refine L_callV (N := mX11_mows) (n := 4) (a := 0) [.int (xs (Int32.toNatClampNeg (i + 1))), .int (xs (Int32.toNatClampNeg (i + 2))), .int (xs (Int32.toNatClampNeg (i + 3))), .int (xs (Int32.toNatClampNeg (i + 4)))] rfl ok_X11_mows lk_L_81 im_X11_mows se_X11_mows (by decide +kernel) rfl okC_11.1 sh_0 (by exact ltG hG (by decide)) (Nat.le_of_ble_eq_true rfl) dL_law_682 (by decide) (s_X11_mows 0 e1 hG) (fun r1 h1 q => by rw [q.2.1]; exact Nat.le_of_eq q.2.2.1) (fun r1 h1 hq => ?_)
  obtain ⟨rfl, hq, hG⟩ := hq
  replace hq := hq.symm
  subst hq
  show VL _ _ _ _ (_ :: _) _
  refine L_pop dL_law_685 rfl ?_
  refine L_aload (x := 226) 1 dL_law_686 rfl (fun _ _ => rfl) ?_
  refine L_at (v := 1) dL_law_687 dL_law_688 dL_law_689 (by decide) dL_law_690 dL_law_691 (hv 1 (by decide) (by decide)) ?_
  refine L_at (v := 2) dL_law_692 dL_law_693 dL_law_694 (by decide) dL_law_695 dL_law_696 (hv 2 (by decide) (by decide)) ?_
  refine L_at (v := 3) dL_law_697 dL_law_698 dL_law_699 (by decide) dL_law_700 dL_law_701 (hv 3 (by decide) (by decide)) ?_
  refine L_at (v := 4) dL_law_702 dL_law_703 dL_law_704 (by decide) dL_law_705 dL_law_706 (hv 4 (by decide) (by decide)) ?_
  refine L_callV (N := mX12_mows) (n := 4) (a := 226) [.int (xs (Int32.toNatClampNeg (i + 1))), .int (xs (Int32.toNatClampNeg (i + 2))), .int (xs (Int32.toNatClampNeg (i + 3))), .int (xs (Int32.toNatClampNeg (i + 4)))] rfl ok_X12_mows lk_L_85 im_X12_mows se_X12_mows (by decide +kernel) rfl okC_12.1 sh_226 (by exact ltG hG (by decide)) (Nat.le_of_ble_eq_true rfl) dL_law_707 (by decide) (s_X12_mows 0 e2 hG) (fun r1 h1 q => by rw [q.2.1]; exact Nat.le_of_eq q.2.2.1) (fun r1 h1 hq => ?_)
  obtain ⟨rfl, hq, hG⟩ := hq
  replace hq := hq.symm
  subst hq
  show VL _ _ _ _ (_ :: _) _
  refine L_pop dL_law_710 rfl ?_
  refine L_goto 1336 dL_law_711 (by decide) ?_
  exact kk _ hG e4
theorem case_16 {L : Nat} {xs : Nat → Int32} {i : Int32} {h0 : Hp} (hG : G h0) (hw : Ir h0) (hv : ∀ v : Int32, 0 ≤ v.toInt → v.toInt < 6 → vp_in (i + v) L) (pu : PU_part) (kk : ∀ h : Hp, G h → Ir h → VL L xs (lvC i) 1336 [] h) : VL L xs (lvC i) 714 [] h0 := by
  refine L_aload (x := 0) 2 dL_law_714 rfl (fun _ _ => rfl) ?_
  refine L_at (v := 1) dL_law_715 dL_law_716 dL_law_717 (by decide) dL_law_718 dL_law_719 (hv 1 (by decide) (by decide)) ?_
  refine L_at (v := 2) dL_law_720 dL_law_721 dL_law_722 (by decide) dL_law_723 dL_law_724 (hv 2 (by decide) (by decide)) ?_
  obtain ⟨n1, q1, n2, q2, e1, e2, e4⟩ := pu h0 hG hw (xs (Int32.toNatClampNeg (i + 1))) (xs (Int32.toNatClampNeg (i + 2)))
  refine L_callV (N := mX11_part) (n := 2) (a := 0) [.int (xs (Int32.toNatClampNeg (i + 1))), .int (xs (Int32.toNatClampNeg (i + 2)))] rfl ok_X11_part lk_L_86 im_X11_part se_X11_part (by decide +kernel) rfl okC_11.1 sh_0 (by exact ltG hG (by decide)) (Nat.le_of_ble_eq_true rfl) dL_law_725 (by decide) (s_X11_part 0 e1 hG) (fun r1 h1 q => by rw [q.2.1]; exact Nat.le_of_eq q.2.2.1) (fun r1 h1 hq => ?_)
  obtain ⟨rfl, hq, hG⟩ := hq
  replace hq := hq.symm
  subst hq
  show VL _ _ _ _ (_ :: _) _
  refine L_pop dL_law_728 rfl ?_
  refine L_aload (x := 226) 1 dL_law_729 rfl (fun _ _ => rfl) ?_
  refine L_at (v := 1) dL_law_730 dL_law_731 dL_law_732 (by decide) dL_law_733 dL_law_734 (hv 1 (by decide) (by decide)) ?_
  refine L_at (v := 2) dL_law_735 dL_law_736 dL_law_737 (by decide) dL_law_738 dL_law_739 (hv 2 (by decide) (by decide)) ?_
  refine L_callV (N := mX12_part) (n := 2) (a := 226) [.int (xs (Int32.toNatClampNeg (i + 1))), .int (xs (Int32.toNatClampNeg (i + 2)))] rfl ok_X12_part lk_L_89 im_X12_part se_X12_part (by decide +kernel) rfl okC_12.1 sh_226 (by exact ltG hG (by decide)) (Nat.le_of_ble_eq_true rfl) dL_law_740 (by decide) (s_X12_part 0 e2 hG) (fun r1 h1 q => by rw [q.2.1]; exact Nat.le_of_eq q.2.2.1) (fun r1 h1 hq => ?_)
  obtain ⟨rfl, hq, hG⟩ := hq
  replace hq := hq.symm
  subst hq
  show VL _ _ _ _ (_ :: _) _
  refine L_pop dL_law_743 rfl ?_
  refine L_goto 1336 dL_law_744 (by decide) ?_
  exact kk _ hG e4
theorem case_17 {L : Nat} {xs : Nat → Int32} {i : Int32} {h0 : Hp} (hG : G h0) (hw : Ir h0) (hv : ∀ v : Int32, 0 ≤ v.toInt → v.toInt < 6 → vp_in (i + v) L) (pu : PU_meet) (kk : ∀ h : Hp, G h → Ir h → VL L xs (lvC i) 1336 [] h) : VL L xs (lvC i) 747 [] h0 := by
  refine L_aload (x := 0) 2 dL_law_747 rfl (fun _ _ => rfl) ?_
  refine L_at (v := 1) dL_law_748 dL_law_749 dL_law_750 (by decide) dL_law_751 dL_law_752 (hv 1 (by decide) (by decide)) ?_
  refine L_at (v := 2) dL_law_753 dL_law_754 dL_law_755 (by decide) dL_law_756 dL_law_757 (hv 2 (by decide) (by decide)) ?_
  refine L_at (v := 3) dL_law_758 dL_law_759 dL_law_760 (by decide) dL_law_761 dL_law_762 (hv 3 (by decide) (by decide)) ?_
  obtain ⟨n1, q1, n2, q2, e1, e2, e4⟩ := pu h0 hG hw (xs (Int32.toNatClampNeg (i + 1))) (xs (Int32.toNatClampNeg (i + 2))) (xs (Int32.toNatClampNeg (i + 3)))
  refine L_callV (N := mX11_meet) (n := 3) (a := 0) [.int (xs (Int32.toNatClampNeg (i + 1))), .int (xs (Int32.toNatClampNeg (i + 2))), .int (xs (Int32.toNatClampNeg (i + 3)))] rfl ok_X11_meet lk_L_90 im_X11_meet se_X11_meet (by decide +kernel) rfl okC_11.1 sh_0 (by exact ltG hG (by decide)) (Nat.le_of_ble_eq_true rfl) dL_law_763 (by decide) (s_X11_meet 0 e1 hG) (fun r1 h1 q => by rw [q.2.1]; exact Nat.le_of_eq q.2.2.1) (fun r1 h1 hq => ?_)
  obtain ⟨rfl, hq, hG⟩ := hq
  replace hq := hq.symm
  subst hq
  show VL _ _ _ _ (_ :: _) _
  refine L_pop dL_law_766 rfl ?_
  refine L_aload (x := 226) 1 dL_law_767 rfl (fun _ _ => rfl) ?_
  refine L_at (v := 1) dL_law_768 dL_law_769 dL_law_770 (by decide) dL_law_771 dL_law_772 (hv 1 (by decide) (by decide)) ?_
  refine L_at (v := 2) dL_law_773 dL_law_774 dL_law_775 (by decide) dL_law_776 dL_law_777 (hv 2 (by decide) (by decide)) ?_
  refine L_at (v := 3) dL_law_778 dL_law_779 dL_law_780 (by decide) dL_law_781 dL_law_782 (hv 3 (by decide) (by decide)) ?_
  refine L_callV (N := mX12_meet) (n := 3) (a := 226) [.int (xs (Int32.toNatClampNeg (i + 1))), .int (xs (Int32.toNatClampNeg (i + 2))), .int (xs (Int32.toNatClampNeg (i + 3)))] rfl ok_X12_meet lk_L_93 im_X12_meet se_X12_meet (by decide +kernel) rfl okC_12.1 sh_226 (by exact ltG hG (by decide)) (Nat.le_of_ble_eq_true rfl) dL_law_783 (by decide) (s_X12_meet 0 e2 hG) (fun r1 h1 q => by rw [q.2.1]; exact Nat.le_of_eq q.2.2.1) (fun r1 h1 hq => ?_)
  obtain ⟨rfl, hq, hG⟩ := hq
  replace hq := hq.symm
  subst hq
  show VL _ _ _ _ (_ :: _) _
  refine L_pop dL_law_786 rfl ?_
  refine L_goto 1336 dL_law_787 (by decide) ?_
  exact kk _ hG e4
theorem case_18 {L : Nat} {xs : Nat → Int32} {i : Int32} {h0 : Hp} (hG : G h0) (hw : Ir h0) (hv : ∀ v : Int32, 0 ≤ v.toInt → v.toInt < 6 → vp_in (i + v) L) (pu : PU_returns) (kk : ∀ h : Hp, G h → Ir h → VL L xs (lvC i) 1336 [] h) : VL L xs (lvC i) 790 [] h0 := by
  refine L_aload (x := 0) 2 dL_law_790 rfl (fun _ _ => rfl) ?_
  refine L_at (v := 1) dL_law_791 dL_law_792 dL_law_793 (by decide) dL_law_794 dL_law_795 (hv 1 (by decide) (by decide)) ?_
  obtain ⟨n1, q1, n2, q2, e1, e2, e4⟩ := pu h0 hG hw (xs (Int32.toNatClampNeg (i + 1)))
  refine L_callV (N := mX11_returns) (n := 1) (a := 0) [.int (xs (Int32.toNatClampNeg (i + 1)))] rfl ok_X11_returns lk_L_94 im_X11_returns se_X11_returns (by decide +kernel) rfl okC_11.1 sh_0 (by exact ltG hG (by decide)) (Nat.le_of_ble_eq_true rfl) dL_law_796 (by decide) (s_X11_returns 0 e1 hG) (fun r1 h1 q => by rw [q.2.1]; exact Nat.le_of_eq q.2.2.1) (fun r1 h1 hq => ?_)
  obtain ⟨rfl, hq, hG⟩ := hq
  replace hq := hq.symm
  subst hq
  show VL _ _ _ _ (_ :: _) _
  refine L_pop dL_law_799 rfl ?_
  refine L_aload (x := 226) 1 dL_law_800 rfl (fun _ _ => rfl) ?_
  refine L_at (v := 1) dL_law_801 dL_law_802 dL_law_803 (by decide) dL_law_804 dL_law_805 (hv 1 (by decide) (by decide)) ?_
  refine L_callV (N := mX12_returns) (n := 1) (a := 226) [.int (xs (Int32.toNatClampNeg (i + 1)))] rfl ok_X12_returns lk_L_97 im_X12_returns se_X12_returns (by decide +kernel) rfl okC_12.1 sh_226 (by exact ltG hG (by decide)) (Nat.le_of_ble_eq_true rfl) dL_law_806 (by decide) (s_X12_returns 0 e2 hG) (fun r1 h1 q => by rw [q.2.1]; exact Nat.le_of_eq q.2.2.1) (fun r1 h1 hq => ?_)
  obtain ⟨rfl, hq, hG⟩ := hq
  replace hq := hq.symm
  subst hq
  show VL _ _ _ _ (_ :: _) _
  refine L_pop dL_law_809 rfl ?_
  refine L_goto 1336 dL_law_810 (by decide) ?_
  exact kk _ hG e4
theorem case_19 {L : Nat} {xs : Nat → Int32} {i : Int32} {h0 : Hp} (hG : G h0) (hw : Ir h0) (hv : ∀ v : Int32, 0 ≤ v.toInt → v.toInt < 6 → vp_in (i + v) L) (pu : PU_never) (kk : ∀ h : Hp, G h → Ir h → VL L xs (lvC i) 1336 [] h) : VL L xs (lvC i) 813 [] h0 := by
  refine L_aload (x := 0) 2 dL_law_813 rfl (fun _ _ => rfl) ?_
  refine L_at (v := 1) dL_law_814 dL_law_815 dL_law_816 (by decide) dL_law_817 dL_law_818 (hv 1 (by decide) (by decide)) ?_
  obtain ⟨n1, q1, n2, q2, e1, e2, e4⟩ := pu h0 hG hw (xs (Int32.toNatClampNeg (i + 1)))
  refine L_callV (N := mX11_never) (n := 1) (a := 0) [.int (xs (Int32.toNatClampNeg (i + 1)))] rfl ok_X11_never lk_L_98 im_X11_never se_X11_never (by decide +kernel) rfl okC_11.1 sh_0 (by exact ltG hG (by decide)) (Nat.le_of_ble_eq_true rfl) dL_law_819 (by decide) (s_X11_never 0 e1 hG) (fun r1 h1 q => by rw [q.2.1]; exact Nat.le_of_eq q.2.2.1) (fun r1 h1 hq => ?_)
  obtain ⟨rfl, hq, hG⟩ := hq
  replace hq := hq.symm
  subst hq
  show VL _ _ _ _ (_ :: _) _
  refine L_pop dL_law_822 rfl ?_
  refine L_aload (x := 226) 1 dL_law_823 rfl (fun _ _ => rfl) ?_
  refine L_at (v := 1) dL_law_824 dL_law_825 dL_law_826 (by decide) dL_law_827 dL_law_828 (hv 1 (by decide) (by decide)) ?_
  refine L_callV (N := mX12_never) (n := 1) (a := 226) [.int (xs (Int32.toNatClampNeg (i + 1)))] rfl ok_X12_never lk_L_101 im_X12_never se_X12_never (by decide +kernel) rfl okC_12.1 sh_226 (by exact ltG hG (by decide)) (Nat.le_of_ble_eq_true rfl) dL_law_829 (by decide) (s_X12_never 0 e2 hG) (fun r1 h1 q => by rw [q.2.1]; exact Nat.le_of_eq q.2.2.1) (fun r1 h1 hq => ?_)
  obtain ⟨rfl, hq, hG⟩ := hq
  replace hq := hq.symm
  subst hq
  show VL _ _ _ _ (_ :: _) _
  refine L_pop dL_law_832 rfl ?_
  refine L_goto 1336 dL_law_833 (by decide) ?_
  exact kk _ hG e4
theorem case_20 {L : Nat} {xs : Nat → Int32} {i : Int32} {h0 : Hp} (hG : G h0) (hw : Ir h0) (hv : ∀ v : Int32, 0 ≤ v.toInt → v.toInt < 6 → vp_in (i + v) L) (pu : PU_stood) (kk : ∀ h : Hp, G h → Ir h → VL L xs (lvC i) 1336 [] h) : VL L xs (lvC i) 836 [] h0 := by
  refine L_aload (x := 0) 2 dL_law_836 rfl (fun _ _ => rfl) ?_
  refine L_at (v := 1) dL_law_837 dL_law_838 dL_law_839 (by decide) dL_law_840 dL_law_841 (hv 1 (by decide) (by decide)) ?_
  refine L_at (v := 2) dL_law_842 dL_law_843 dL_law_844 (by decide) dL_law_845 dL_law_846 (hv 2 (by decide) (by decide)) ?_
  refine L_at (v := 3) dL_law_847 dL_law_848 dL_law_849 (by decide) dL_law_850 dL_law_851 (hv 3 (by decide) (by decide)) ?_
  obtain ⟨n1, q1, n2, q2, e1, e2, e4⟩ := pu h0 hG hw (xs (Int32.toNatClampNeg (i + 1))) (xs (Int32.toNatClampNeg (i + 2))) (xs (Int32.toNatClampNeg (i + 3)))
  refine L_callV (N := mX11_stood) (n := 3) (a := 0) [.int (xs (Int32.toNatClampNeg (i + 1))), .int (xs (Int32.toNatClampNeg (i + 2))), .int (xs (Int32.toNatClampNeg (i + 3)))] rfl ok_X11_stood lk_L_102 im_X11_stood se_X11_stood (by decide +kernel) rfl okC_11.1 sh_0 (by exact ltG hG (by decide)) (Nat.le_of_ble_eq_true rfl) dL_law_852 (by decide) (s_X11_stood 0 e1 hG) (fun r1 h1 q => by rw [q.2.1]; exact Nat.le_of_eq q.2.2.1) (fun r1 h1 hq => ?_)
  obtain ⟨rfl, hq, hG⟩ := hq
  replace hq := hq.symm
  subst hq
  show VL _ _ _ _ (_ :: _) _
  refine L_pop dL_law_855 rfl ?_
  refine L_aload (x := 226) 1 dL_law_856 rfl (fun _ _ => rfl) ?_
  refine L_at (v := 1) dL_law_857 dL_law_858 dL_law_859 (by decide) dL_law_860 dL_law_861 (hv 1 (by decide) (by decide)) ?_
  refine L_at (v := 2) dL_law_862 dL_law_863 dL_law_864 (by decide) dL_law_865 dL_law_866 (hv 2 (by decide) (by decide)) ?_
  refine L_at (v := 3) dL_law_867 dL_law_868 dL_law_869 (by decide) dL_law_870 dL_law_871 (hv 3 (by decide) (by decide)) ?_
  refine L_callV (N := mX12_stood) (n := 3) (a := 226) [.int (xs (Int32.toNatClampNeg (i + 1))), .int (xs (Int32.toNatClampNeg (i + 2))), .int (xs (Int32.toNatClampNeg (i + 3)))] rfl ok_X12_stood lk_L_105 im_X12_stood se_X12_stood (by decide +kernel) rfl okC_12.1 sh_226 (by exact ltG hG (by decide)) (Nat.le_of_ble_eq_true rfl) dL_law_872 (by decide) (s_X12_stood 0 e2 hG) (fun r1 h1 q => by rw [q.2.1]; exact Nat.le_of_eq q.2.2.1) (fun r1 h1 hq => ?_)
  obtain ⟨rfl, hq, hG⟩ := hq
  replace hq := hq.symm
  subst hq
  show VL _ _ _ _ (_ :: _) _
  refine L_pop dL_law_875 rfl ?_
  refine L_goto 1336 dL_law_876 (by decide) ?_
  exact kk _ hG e4
theorem case_21 {L : Nat} {xs : Nat → Int32} {i : Int32} {h0 : Hp} (hG : G h0) (hw : Ir h0) (hv : ∀ v : Int32, 0 ≤ v.toInt → v.toInt < 6 → vp_in (i + v) L) (pu : PU_loud) (kk : ∀ h : Hp, G h → Ir h → VL L xs (lvC i) 1336 [] h) : VL L xs (lvC i) 879 [] h0 := by
  refine L_aload (x := 0) 2 dL_law_879 rfl (fun _ _ => rfl) ?_
  refine L_at (v := 1) dL_law_880 dL_law_881 dL_law_882 (by decide) dL_law_883 dL_law_884 (hv 1 (by decide) (by decide)) ?_
  obtain ⟨n1, q1, n2, q2, e1, e2, e4⟩ := pu h0 hG hw (xs (Int32.toNatClampNeg (i + 1)))
  refine L_callV (N := mX11_loud) (n := 1) (a := 0) [.int (xs (Int32.toNatClampNeg (i + 1)))] rfl ok_X11_loud lk_L_106 im_X11_loud se_X11_loud (by decide +kernel) rfl okC_11.1 sh_0 (by exact ltG hG (by decide)) (Nat.le_of_ble_eq_true rfl) dL_law_885 (by decide) (s_X11_loud 0 e1 hG) (fun r1 h1 q => by rw [q.2.1]; exact Nat.le_of_eq q.2.2.1) (fun r1 h1 hq => ?_)
  obtain ⟨rfl, hq, hG⟩ := hq
  replace hq := hq.symm
  subst hq
  show VL _ _ _ _ (_ :: _) _
  refine L_pop dL_law_888 rfl ?_
  refine L_aload (x := 226) 1 dL_law_889 rfl (fun _ _ => rfl) ?_
  refine L_at (v := 1) dL_law_890 dL_law_891 dL_law_892 (by decide) dL_law_893 dL_law_894 (hv 1 (by decide) (by decide)) ?_
  refine L_callV (N := mX12_loud) (n := 1) (a := 226) [.int (xs (Int32.toNatClampNeg (i + 1)))] rfl ok_X12_loud lk_L_109 im_X12_loud se_X12_loud (by decide +kernel) rfl okC_12.1 sh_226 (by exact ltG hG (by decide)) (Nat.le_of_ble_eq_true rfl) dL_law_895 (by decide) (s_X12_loud 0 e2 hG) (fun r1 h1 q => by rw [q.2.1]; exact Nat.le_of_eq q.2.2.1) (fun r1 h1 hq => ?_)
  obtain ⟨rfl, hq, hG⟩ := hq
  replace hq := hq.symm
  subst hq
  show VL _ _ _ _ (_ :: _) _
  refine L_pop dL_law_898 rfl ?_
  refine L_goto 1336 dL_law_899 (by decide) ?_
  exact kk _ hG e4
theorem case_22 {L : Nat} {xs : Nat → Int32} {i : Int32} {h0 : Hp} (hG : G h0) (hw : Ir h0) (hv : ∀ v : Int32, 0 ≤ v.toInt → v.toInt < 6 → vp_in (i + v) L) (pu : PU_silence) (kk : ∀ h : Hp, G h → Ir h → VL L xs (lvC i) 1336 [] h) : VL L xs (lvC i) 902 [] h0 := by
  refine L_aload (x := 0) 2 dL_law_902 rfl (fun _ _ => rfl) ?_
  refine L_at (v := 1) dL_law_903 dL_law_904 dL_law_905 (by decide) dL_law_906 dL_law_907 (hv 1 (by decide) (by decide)) ?_
  obtain ⟨n1, q1, n2, q2, e1, e2, e4⟩ := pu h0 hG hw (xs (Int32.toNatClampNeg (i + 1)))
  refine L_callV (N := mX11_silence) (n := 1) (a := 0) [.int (xs (Int32.toNatClampNeg (i + 1)))] rfl ok_X11_silence lk_L_110 im_X11_silence se_X11_silence (by decide +kernel) rfl okC_11.1 sh_0 (by exact ltG hG (by decide)) (Nat.le_of_ble_eq_true rfl) dL_law_908 (by decide) (s_X11_silence 0 e1 hG) (fun r1 h1 q => by rw [q.2.1]; exact Nat.le_of_eq q.2.2.1) (fun r1 h1 hq => ?_)
  obtain ⟨rfl, hq, hG⟩ := hq
  replace hq := hq.symm
  subst hq
  show VL _ _ _ _ (_ :: _) _
  refine L_pop dL_law_911 rfl ?_
  refine L_aload (x := 226) 1 dL_law_912 rfl (fun _ _ => rfl) ?_
  refine L_at (v := 1) dL_law_913 dL_law_914 dL_law_915 (by decide) dL_law_916 dL_law_917 (hv 1 (by decide) (by decide)) ?_
  refine L_callV (N := mX12_silence) (n := 1) (a := 226) [.int (xs (Int32.toNatClampNeg (i + 1)))] rfl ok_X12_silence lk_L_113 im_X12_silence se_X12_silence (by decide +kernel) rfl okC_12.1 sh_226 (by exact ltG hG (by decide)) (Nat.le_of_ble_eq_true rfl) dL_law_918 (by decide) (s_X12_silence 0 e2 hG) (fun r1 h1 q => by rw [q.2.1]; exact Nat.le_of_eq q.2.2.1) (fun r1 h1 hq => ?_)
  obtain ⟨rfl, hq, hG⟩ := hq
  replace hq := hq.symm
  subst hq
  show VL _ _ _ _ (_ :: _) _
  refine L_pop dL_law_921 rfl ?_
  refine L_goto 1336 dL_law_922 (by decide) ?_
  exact kk _ hG e4
theorem case_23 {L : Nat} {xs : Nat → Int32} {i : Int32} {h0 : Hp} (hG : G h0) (hw : Ir h0) (hv : ∀ v : Int32, 0 ≤ v.toInt → v.toInt < 6 → vp_in (i + v) L) (pu : PU_chorus) (kk : ∀ h : Hp, G h → Ir h → VL L xs (lvC i) 1336 [] h) : VL L xs (lvC i) 925 [] h0 := by
  refine L_aload (x := 0) 2 dL_law_925 rfl (fun _ _ => rfl) ?_
  refine L_at (v := 1) dL_law_926 dL_law_927 dL_law_928 (by decide) dL_law_929 dL_law_930 (hv 1 (by decide) (by decide)) ?_
  obtain ⟨n1, q1, n2, q2, e1, e2, e4⟩ := pu h0 hG hw (xs (Int32.toNatClampNeg (i + 1)))
  refine L_callV (N := mX11_chorus) (n := 1) (a := 0) [.int (xs (Int32.toNatClampNeg (i + 1)))] rfl ok_X11_chorus lk_L_114 im_X11_chorus se_X11_chorus (by decide +kernel) rfl okC_11.1 sh_0 (by exact ltG hG (by decide)) (Nat.le_of_ble_eq_true rfl) dL_law_931 (by decide) (s_X11_chorus 0 e1 hG) (fun r1 h1 q => by rw [q.2.1]; exact Nat.le_of_eq q.2.2.1) (fun r1 h1 hq => ?_)
  obtain ⟨rfl, hq, hG⟩ := hq
  replace hq := hq.symm
  subst hq
  show VL _ _ _ _ (_ :: _) _
  refine L_pop dL_law_934 rfl ?_
  refine L_aload (x := 226) 1 dL_law_935 rfl (fun _ _ => rfl) ?_
  refine L_at (v := 1) dL_law_936 dL_law_937 dL_law_938 (by decide) dL_law_939 dL_law_940 (hv 1 (by decide) (by decide)) ?_
  refine L_callV (N := mX12_chorus) (n := 1) (a := 226) [.int (xs (Int32.toNatClampNeg (i + 1)))] rfl ok_X12_chorus lk_L_117 im_X12_chorus se_X12_chorus (by decide +kernel) rfl okC_12.1 sh_226 (by exact ltG hG (by decide)) (Nat.le_of_ble_eq_true rfl) dL_law_941 (by decide) (s_X12_chorus 0 e2 hG) (fun r1 h1 q => by rw [q.2.1]; exact Nat.le_of_eq q.2.2.1) (fun r1 h1 hq => ?_)
  obtain ⟨rfl, hq, hG⟩ := hq
  replace hq := hq.symm
  subst hq
  show VL _ _ _ _ (_ :: _) _
  refine L_pop dL_law_944 rfl ?_
  refine L_goto 1336 dL_law_945 (by decide) ?_
  exact kk _ hG e4
theorem case_24 {L : Nat} {xs : Nat → Int32} {i : Int32} {h0 : Hp} (hG : G h0) (hw : Ir h0) (hv : ∀ v : Int32, 0 ≤ v.toInt → v.toInt < 6 → vp_in (i + v) L) (pu : PU_period) (kk : ∀ h : Hp, G h → Ir h → VL L xs (lvC i) 1336 [] h) : VL L xs (lvC i) 948 [] h0 := by
  refine L_aload (x := 0) 2 dL_law_948 rfl (fun _ _ => rfl) ?_
  obtain ⟨n1, q1, n2, q2, e1, e2, e4⟩ := pu h0 hG hw
  refine L_callV (N := mX11_period) (n := 0) (a := 0) [] rfl ok_X11_period lk_L_118 im_X11_period se_X11_period (by decide +kernel) rfl okC_11.1 sh_0 (by exact ltG hG (by decide)) (Nat.le_of_ble_eq_true rfl) dL_law_949 (by decide) (s_X11_period 0 e1 hG) (fun r1 h1 q => by rw [q.2.1]; exact Nat.le_of_eq q.2.2.1) (fun r1 h1 hq => ?_)
  obtain ⟨rfl, hq, hG⟩ := hq
  replace hq := hq.symm
  subst hq
  show VL _ _ _ _ (_ :: _) _
  refine L_pop dL_law_952 rfl ?_
  refine L_aload (x := 226) 1 dL_law_953 rfl (fun _ _ => rfl) ?_
  refine L_callV (N := mX12_period) (n := 0) (a := 226) [] rfl ok_X12_period lk_L_121 im_X12_period se_X12_period (by decide +kernel) rfl okC_12.1 sh_226 (by exact ltG hG (by decide)) (Nat.le_of_ble_eq_true rfl) dL_law_954 (by decide) (s_X12_period 0 e2 hG) (fun r1 h1 q => by rw [q.2.1]; exact Nat.le_of_eq q.2.2.1) (fun r1 h1 hq => ?_)
  obtain ⟨rfl, hq, hG⟩ := hq
  replace hq := hq.symm
  subst hq
  show VL _ _ _ _ (_ :: _) _
  refine L_pop dL_law_957 rfl ?_
  refine L_goto 1336 dL_law_958 (by decide) ?_
  exact kk _ hG e4
theorem case_25 {L : Nat} {xs : Nat → Int32} {i : Int32} {h0 : Hp} (hG : G h0) (hw : Ir h0) (hv : ∀ v : Int32, 0 ≤ v.toInt → v.toInt < 6 → vp_in (i + v) L) (pu : PU_centre) (kk : ∀ h : Hp, G h → Ir h → VL L xs (lvC i) 1336 [] h) : VL L xs (lvC i) 961 [] h0 := by
  refine L_aload (x := 0) 2 dL_law_961 rfl (fun _ _ => rfl) ?_
  refine L_at (v := 1) dL_law_962 dL_law_963 dL_law_964 (by decide) dL_law_965 dL_law_966 (hv 1 (by decide) (by decide)) ?_
  obtain ⟨n1, q1, n2, q2, e1, e2, e4⟩ := pu h0 hG hw (xs (Int32.toNatClampNeg (i + 1)))
  refine L_callV (N := mX11_centre) (n := 1) (a := 0) [.int (xs (Int32.toNatClampNeg (i + 1)))] rfl ok_X11_centre lk_L_122 im_X11_centre se_X11_centre (by decide +kernel) rfl okC_11.1 sh_0 (by exact ltG hG (by decide)) (Nat.le_of_ble_eq_true rfl) dL_law_967 (by decide) (s_X11_centre 0 e1 hG) (fun r1 h1 q => by rw [q.2.1]; exact Nat.le_of_eq q.2.2.1) (fun r1 h1 hq => ?_)
  obtain ⟨rfl, hq, hG⟩ := hq
  replace hq := hq.symm
  subst hq
  show VL _ _ _ _ (_ :: _) _
  refine L_pop dL_law_970 rfl ?_
  refine L_aload (x := 226) 1 dL_law_971 rfl (fun _ _ => rfl) ?_
  refine L_at (v := 1) dL_law_972 dL_law_973 dL_law_974 (by decide) dL_law_975 dL_law_976 (hv 1 (by decide) (by decide)) ?_
  refine L_callV (N := mX12_centre) (n := 1) (a := 226) [.int (xs (Int32.toNatClampNeg (i + 1)))] rfl ok_X12_centre lk_L_125 im_X12_centre se_X12_centre (by decide +kernel) rfl okC_12.1 sh_226 (by exact ltG hG (by decide)) (Nat.le_of_ble_eq_true rfl) dL_law_977 (by decide) (s_X12_centre 0 e2 hG) (fun r1 h1 q => by rw [q.2.1]; exact Nat.le_of_eq q.2.2.1) (fun r1 h1 hq => ?_)
  obtain ⟨rfl, hq, hG⟩ := hq
  replace hq := hq.symm
  subst hq
  show VL _ _ _ _ (_ :: _) _
  refine L_pop dL_law_980 rfl ?_
  refine L_goto 1336 dL_law_981 (by decide) ?_
  exact kk _ hG e4
theorem case_26 {L : Nat} {xs : Nat → Int32} {i : Int32} {h0 : Hp} (hG : G h0) (hw : Ir h0) (hv : ∀ v : Int32, 0 ≤ v.toInt → v.toInt < 6 → vp_in (i + v) L) (pu : PU_far) (kk : ∀ h : Hp, G h → Ir h → VL L xs (lvC i) 1336 [] h) : VL L xs (lvC i) 984 [] h0 := by
  refine L_aload (x := 0) 2 dL_law_984 rfl (fun _ _ => rfl) ?_
  refine L_at (v := 1) dL_law_985 dL_law_986 dL_law_987 (by decide) dL_law_988 dL_law_989 (hv 1 (by decide) (by decide)) ?_
  refine L_at (v := 2) dL_law_990 dL_law_991 dL_law_992 (by decide) dL_law_993 dL_law_994 (hv 2 (by decide) (by decide)) ?_
  obtain ⟨n1, q1, n2, q2, e1, e2, e3, e4⟩ := pu h0 hG hw (xs (Int32.toNatClampNeg (i + 1))) (xs (Int32.toNatClampNeg (i + 2)))
  refine L_callV (N := mX11_far) (n := 2) (a := 0) [.int (xs (Int32.toNatClampNeg (i + 1))), .int (xs (Int32.toNatClampNeg (i + 2)))] rfl ok_X11_far lk_L_126 im_X11_far se_X11_far (by decide +kernel) rfl okC_11.1 sh_0 (by exact ltG hG (by decide)) (Nat.le_of_ble_eq_true rfl) dL_law_995 (by decide) (s_X11_far 0 e1 hG) (fun r1 h1 q => by rw [q.2.1]; exact Nat.le_of_eq q.2.2.1) (fun r1 h1 hq => ?_)
  obtain ⟨rfl, hq, hG⟩ := hq
  replace hq := hq.symm
  subst hq
  show VL _ _ _ _ (_ :: _) _
  refine L_aload (x := 226) 1 dL_law_998 rfl (fun _ _ => rfl) ?_
  refine L_at (v := 1) dL_law_999 dL_law_1000 dL_law_1001 (by decide) dL_law_1002 dL_law_1003 (hv 1 (by decide) (by decide)) ?_
  refine L_at (v := 2) dL_law_1004 dL_law_1005 dL_law_1006 (by decide) dL_law_1007 dL_law_1008 (hv 2 (by decide) (by decide)) ?_
  refine L_callV (N := mX12_far) (n := 2) (a := 226) [.int (xs (Int32.toNatClampNeg (i + 1))), .int (xs (Int32.toNatClampNeg (i + 2)))] rfl ok_X12_far lk_L_129 im_X12_far se_X12_far (by decide +kernel) rfl okC_12.1 sh_226 (by exact ltG hG (by decide)) (Nat.le_of_ble_eq_true rfl) dL_law_1009 (by decide) (s_X12_far 0 e2 hG) (fun r1 h1 q => by rw [q.2.1]; exact Nat.le_of_eq q.2.2.1) (fun r1 h1 hq => ?_)
  obtain ⟨rfl, hq, hG⟩ := hq
  replace hq := hq.symm
  subst hq
  show VL _ _ _ _ (_ :: _) _
  refine L_same 1336 e3 dL_law_1012 (by decide) ?_
  exact kk _ hG e4
theorem case_27 {L : Nat} {xs : Nat → Int32} {i : Int32} {h0 : Hp} (hG : G h0) (hw : Ir h0) (hv : ∀ v : Int32, 0 ≤ v.toInt → v.toInt < 6 → vp_in (i + v) L) (pu : PU_pairs) (kk : ∀ h : Hp, G h → Ir h → VL L xs (lvC i) 1336 [] h) : VL L xs (lvC i) 1017 [] h0 := by
  refine L_aload (x := 0) 2 dL_law_1017 rfl (fun _ _ => rfl) ?_
  refine L_at (v := 1) dL_law_1018 dL_law_1019 dL_law_1020 (by decide) dL_law_1021 dL_law_1022 (hv 1 (by decide) (by decide)) ?_
  obtain ⟨n1, q1, n2, q2, e1, e2, e4⟩ := pu h0 hG hw (xs (Int32.toNatClampNeg (i + 1)))
  refine L_callV (N := mX11_pairs) (n := 1) (a := 0) [.int (xs (Int32.toNatClampNeg (i + 1)))] rfl ok_X11_pairs lk_L_130 im_X11_pairs se_X11_pairs (by decide +kernel) rfl okC_11.1 sh_0 (by exact ltG hG (by decide)) (Nat.le_of_ble_eq_true rfl) dL_law_1023 (by decide) (s_X11_pairs 0 e1 hG) (fun r1 h1 q => by rw [q.2.1]; exact Nat.le_of_eq q.2.2.1) (fun r1 h1 hq => ?_)
  obtain ⟨rfl, hq, hG⟩ := hq
  replace hq := hq.symm
  subst hq
  show VL _ _ _ _ (_ :: _) _
  refine L_pop dL_law_1026 rfl ?_
  refine L_aload (x := 226) 1 dL_law_1027 rfl (fun _ _ => rfl) ?_
  refine L_at (v := 1) dL_law_1028 dL_law_1029 dL_law_1030 (by decide) dL_law_1031 dL_law_1032 (hv 1 (by decide) (by decide)) ?_
  refine L_callV (N := mX12_pairs) (n := 1) (a := 226) [.int (xs (Int32.toNatClampNeg (i + 1)))] rfl ok_X12_pairs lk_L_133 im_X12_pairs se_X12_pairs (by decide +kernel) rfl okC_12.1 sh_226 (by exact ltG hG (by decide)) (Nat.le_of_ble_eq_true rfl) dL_law_1033 (by decide) (s_X12_pairs 0 e2 hG) (fun r1 h1 q => by rw [q.2.1]; exact Nat.le_of_eq q.2.2.1) (fun r1 h1 hq => ?_)
  obtain ⟨rfl, hq, hG⟩ := hq
  replace hq := hq.symm
  subst hq
  show VL _ _ _ _ (_ :: _) _
  refine L_pop dL_law_1036 rfl ?_
  refine L_goto 1336 dL_law_1037 (by decide) ?_
  exact kk _ hG e4
theorem case_28 {L : Nat} {xs : Nat → Int32} {i : Int32} {h0 : Hp} (hG : G h0) (hw : Ir h0) (hv : ∀ v : Int32, 0 ≤ v.toInt → v.toInt < 6 → vp_in (i + v) L) (pu : PU_then) (kk : ∀ h : Hp, G h → Ir h → VL L xs (lvC i) 1336 [] h) : VL L xs (lvC i) 1040 [] h0 := by
  refine L_aload (x := 0) 2 dL_law_1040 rfl (fun _ _ => rfl) ?_
  refine L_at (v := 1) dL_law_1041 dL_law_1042 dL_law_1043 (by decide) dL_law_1044 dL_law_1045 (hv 1 (by decide) (by decide)) ?_
  refine L_at (v := 2) dL_law_1046 dL_law_1047 dL_law_1048 (by decide) dL_law_1049 dL_law_1050 (hv 2 (by decide) (by decide)) ?_
  refine L_at (v := 3) dL_law_1051 dL_law_1052 dL_law_1053 (by decide) dL_law_1054 dL_law_1055 (hv 3 (by decide) (by decide)) ?_
  obtain ⟨n1, q1, n2, q2, e1, e2, e4⟩ := pu h0 hG hw (xs (Int32.toNatClampNeg (i + 1))) (xs (Int32.toNatClampNeg (i + 2))) (xs (Int32.toNatClampNeg (i + 3)))
  refine L_callV (N := mX11_then) (n := 3) (a := 0) [.int (xs (Int32.toNatClampNeg (i + 1))), .int (xs (Int32.toNatClampNeg (i + 2))), .int (xs (Int32.toNatClampNeg (i + 3)))] rfl ok_X11_then lk_L_134 im_X11_then se_X11_then (by decide +kernel) rfl okC_11.1 sh_0 (by exact ltG hG (by decide)) (Nat.le_of_ble_eq_true rfl) dL_law_1056 (by decide) (s_X11_then 0 e1 hG) (fun r1 h1 q => by rw [q.2.1]; exact Nat.le_of_eq q.2.2.1) (fun r1 h1 hq => ?_)
  obtain ⟨rfl, hq, hG⟩ := hq
  replace hq := hq.symm
  subst hq
  show VL _ _ _ _ (_ :: _) _
  refine L_pop dL_law_1059 rfl ?_
  refine L_aload (x := 226) 1 dL_law_1060 rfl (fun _ _ => rfl) ?_
  refine L_at (v := 1) dL_law_1061 dL_law_1062 dL_law_1063 (by decide) dL_law_1064 dL_law_1065 (hv 1 (by decide) (by decide)) ?_
  refine L_at (v := 2) dL_law_1066 dL_law_1067 dL_law_1068 (by decide) dL_law_1069 dL_law_1070 (hv 2 (by decide) (by decide)) ?_
  refine L_at (v := 3) dL_law_1071 dL_law_1072 dL_law_1073 (by decide) dL_law_1074 dL_law_1075 (hv 3 (by decide) (by decide)) ?_
  refine L_callV (N := mX12_then) (n := 3) (a := 226) [.int (xs (Int32.toNatClampNeg (i + 1))), .int (xs (Int32.toNatClampNeg (i + 2))), .int (xs (Int32.toNatClampNeg (i + 3)))] rfl ok_X12_then lk_L_137 im_X12_then se_X12_then (by decide +kernel) rfl okC_12.1 sh_226 (by exact ltG hG (by decide)) (Nat.le_of_ble_eq_true rfl) dL_law_1076 (by decide) (s_X12_then 0 e2 hG) (fun r1 h1 q => by rw [q.2.1]; exact Nat.le_of_eq q.2.2.1) (fun r1 h1 hq => ?_)
  obtain ⟨rfl, hq, hG⟩ := hq
  replace hq := hq.symm
  subst hq
  show VL _ _ _ _ (_ :: _) _
  refine L_pop dL_law_1079 rfl ?_
  refine L_goto 1336 dL_law_1080 (by decide) ?_
  exact kk _ hG e4
theorem case_29 {L : Nat} {xs : Nat → Int32} {i : Int32} {h0 : Hp} (hG : G h0) (hw : Ir h0) (hv : ∀ v : Int32, 0 ≤ v.toInt → v.toInt < 6 → vp_in (i + v) L) (pu : PU_tunesIn) (kk : ∀ h : Hp, G h → Ir h → VL L xs (lvC i) 1336 [] h) : VL L xs (lvC i) 1083 [] h0 := by
  refine L_aload (x := 0) 2 dL_law_1083 rfl (fun _ _ => rfl) ?_
  refine L_at (v := 1) dL_law_1084 dL_law_1085 dL_law_1086 (by decide) dL_law_1087 dL_law_1088 (hv 1 (by decide) (by decide)) ?_
  obtain ⟨n1, q1, n2, q2, e1, e2, e4⟩ := pu h0 hG hw (xs (Int32.toNatClampNeg (i + 1)))
  refine L_callV (N := mX11_tunesIn) (n := 1) (a := 0) [.int (xs (Int32.toNatClampNeg (i + 1)))] rfl ok_X11_tunesIn lk_L_138 im_X11_tunesIn se_X11_tunesIn (by decide +kernel) rfl okC_11.1 sh_0 (by exact ltG hG (by decide)) (Nat.le_of_ble_eq_true rfl) dL_law_1089 (by decide) (s_X11_tunesIn 0 e1 hG) (fun r1 h1 q => by rw [q.2.1]; exact Nat.le_of_eq q.2.2.1) (fun r1 h1 hq => ?_)
  obtain ⟨rfl, hq, hG⟩ := hq
  replace hq := hq.symm
  subst hq
  show VL _ _ _ _ (_ :: _) _
  refine L_pop dL_law_1092 rfl ?_
  refine L_aload (x := 226) 1 dL_law_1093 rfl (fun _ _ => rfl) ?_
  refine L_at (v := 1) dL_law_1094 dL_law_1095 dL_law_1096 (by decide) dL_law_1097 dL_law_1098 (hv 1 (by decide) (by decide)) ?_
  refine L_callV (N := mX12_tunesIn) (n := 1) (a := 226) [.int (xs (Int32.toNatClampNeg (i + 1)))] rfl ok_X12_tunesIn lk_L_141 im_X12_tunesIn se_X12_tunesIn (by decide +kernel) rfl okC_12.1 sh_226 (by exact ltG hG (by decide)) (Nat.le_of_ble_eq_true rfl) dL_law_1099 (by decide) (s_X12_tunesIn 0 e2 hG) (fun r1 h1 q => by rw [q.2.1]; exact Nat.le_of_eq q.2.2.1) (fun r1 h1 hq => ?_)
  obtain ⟨rfl, hq, hG⟩ := hq
  replace hq := hq.symm
  subst hq
  show VL _ _ _ _ (_ :: _) _
  refine L_pop dL_law_1102 rfl ?_
  refine L_goto 1336 dL_law_1103 (by decide) ?_
  exact kk _ hG e4
theorem case_30 {L : Nat} {xs : Nat → Int32} {i : Int32} {h0 : Hp} (hG : G h0) (hw : Ir h0) (hv : ∀ v : Int32, 0 ≤ v.toInt → v.toInt < 6 → vp_in (i + v) L) (pu : PU_year) (kk : ∀ h : Hp, G h → Ir h → VL L xs (lvC i) 1336 [] h) : VL L xs (lvC i) 1106 [] h0 := by
  refine L_aload (x := 0) 2 dL_law_1106 rfl (fun _ _ => rfl) ?_
  refine L_at (v := 1) dL_law_1107 dL_law_1108 dL_law_1109 (by decide) dL_law_1110 dL_law_1111 (hv 1 (by decide) (by decide)) ?_
  refine L_at (v := 2) dL_law_1112 dL_law_1113 dL_law_1114 (by decide) dL_law_1115 dL_law_1116 (hv 2 (by decide) (by decide)) ?_
  refine L_at (v := 3) dL_law_1117 dL_law_1118 dL_law_1119 (by decide) dL_law_1120 dL_law_1121 (hv 3 (by decide) (by decide)) ?_
  obtain ⟨n1, q1, n2, q2, e1, e2, e4⟩ := pu h0 hG hw (xs (Int32.toNatClampNeg (i + 1))) (xs (Int32.toNatClampNeg (i + 2))) (xs (Int32.toNatClampNeg (i + 3)))
  refine L_callV (N := mX11_year) (n := 3) (a := 0) [.int (xs (Int32.toNatClampNeg (i + 1))), .int (xs (Int32.toNatClampNeg (i + 2))), .int (xs (Int32.toNatClampNeg (i + 3)))] rfl ok_X11_year lk_L_142 im_X11_year se_X11_year (by decide +kernel) rfl okC_11.1 sh_0 (by exact ltG hG (by decide)) (Nat.le_of_ble_eq_true rfl) dL_law_1122 (by decide) (s_X11_year 0 e1 hG) (fun r1 h1 q => by rw [q.2.1]; exact Nat.le_of_eq q.2.2.1) (fun r1 h1 hq => ?_)
  obtain ⟨rfl, hq, hG⟩ := hq
  replace hq := hq.symm
  subst hq
  show VL _ _ _ _ (_ :: _) _
  refine L_pop dL_law_1125 rfl ?_
  refine L_aload (x := 226) 1 dL_law_1126 rfl (fun _ _ => rfl) ?_
  refine L_at (v := 1) dL_law_1127 dL_law_1128 dL_law_1129 (by decide) dL_law_1130 dL_law_1131 (hv 1 (by decide) (by decide)) ?_
  refine L_at (v := 2) dL_law_1132 dL_law_1133 dL_law_1134 (by decide) dL_law_1135 dL_law_1136 (hv 2 (by decide) (by decide)) ?_
  refine L_at (v := 3) dL_law_1137 dL_law_1138 dL_law_1139 (by decide) dL_law_1140 dL_law_1141 (hv 3 (by decide) (by decide)) ?_
  refine L_callV (N := mX12_year) (n := 3) (a := 226) [.int (xs (Int32.toNatClampNeg (i + 1))), .int (xs (Int32.toNatClampNeg (i + 2))), .int (xs (Int32.toNatClampNeg (i + 3)))] rfl ok_X12_year lk_L_145 im_X12_year se_X12_year (by decide +kernel) rfl okC_12.1 sh_226 (by exact ltG hG (by decide)) (Nat.le_of_ble_eq_true rfl) dL_law_1142 (by decide) (s_X12_year 0 e2 hG) (fun r1 h1 q => by rw [q.2.1]; exact Nat.le_of_eq q.2.2.1) (fun r1 h1 hq => ?_)
  obtain ⟨rfl, hq, hG⟩ := hq
  replace hq := hq.symm
  subst hq
  show VL _ _ _ _ (_ :: _) _
  refine L_pop dL_law_1145 rfl ?_
  refine L_goto 1336 dL_law_1146 (by decide) ?_
  exact kk _ hG e4
theorem case_31 {L : Nat} {xs : Nat → Int32} {i : Int32} {h0 : Hp} (hG : G h0) (hw : Ir h0) (hv : ∀ v : Int32, 0 ≤ v.toInt → v.toInt < 6 → vp_in (i + v) L) (pu : PU_tell) (kk : ∀ h : Hp, G h → Ir h → VL L xs (lvC i) 1336 [] h) : VL L xs (lvC i) 1149 [] h0 := by
  refine L_aload (x := 0) 2 dL_law_1149 rfl (fun _ _ => rfl) ?_
  refine L_at (v := 1) dL_law_1150 dL_law_1151 dL_law_1152 (by decide) dL_law_1153 dL_law_1154 (hv 1 (by decide) (by decide)) ?_
  refine L_at (v := 2) dL_law_1155 dL_law_1156 dL_law_1157 (by decide) dL_law_1158 dL_law_1159 (hv 2 (by decide) (by decide)) ?_
  refine L_ifeq 1167 dL_law_1160 (by decide) (fun cz => ?_) (fun cz => ?_)
  · refine L_iconst (v := 0) dL_law_1167 (by decide) ?_
    obtain ⟨n1, q1, n2, q2, e1, e2, e4⟩ := pu h0 hG hw (xs (Int32.toNatClampNeg (i + 1))) 0 (Or.inl rfl)
    refine L_callV (N := mX11_tell) (n := 2) (a := 0) [.int (xs (Int32.toNatClampNeg (i + 1))), .int 0] rfl ok_X11_tell lk_L_146 im_X11_tell se_X11_tell (by decide +kernel) rfl okC_11.1 sh_0 (by exact ltG hG (by decide)) (Nat.le_of_ble_eq_true rfl) dL_law_1168 (by decide) (s_X11_tell 0 e1 hG) (fun r1 h1 q => by rw [q.2.1]; exact Nat.le_of_eq q.2.2.1) (fun r1 h1 hq => ?_)
    obtain ⟨rfl, hq, hG⟩ := hq
    replace hq := hq.symm
    subst hq
    show VL _ _ _ _ (_ :: _) _
    refine L_pop dL_law_1171 rfl ?_
    refine L_aload (x := 226) 1 dL_law_1172 rfl (fun _ _ => rfl) ?_
    refine L_at (v := 1) dL_law_1173 dL_law_1174 dL_law_1175 (by decide) dL_law_1176 dL_law_1177 (hv 1 (by decide) (by decide)) ?_
    refine L_at (v := 2) dL_law_1178 dL_law_1179 dL_law_1180 (by decide) dL_law_1181 dL_law_1182 (hv 2 (by decide) (by decide)) ?_
    refine L_ifeq 1190 dL_law_1183 (by decide) (fun _ => ?_) (fun q => absurd cz q)
    refine L_iconst (v := 0) dL_law_1190 (by decide) ?_
    refine L_callV (N := mX12_tell) (n := 2) (a := 226) [.int (xs (Int32.toNatClampNeg (i + 1))), .int 0] rfl ok_X12_tell lk_L_150 im_X12_tell se_X12_tell (by decide +kernel) rfl okC_12.1 sh_226 (by exact ltG hG (by decide)) (Nat.le_of_ble_eq_true rfl) dL_law_1191 (by decide) (s_X12_tell 0 e2 hG) (fun r1 h1 q => by rw [q.2.1]; exact Nat.le_of_eq q.2.2.1) (fun r1 h1 hq => ?_)
    obtain ⟨rfl, hq, hG⟩ := hq
    replace hq := hq.symm
    subst hq
    show VL _ _ _ _ (_ :: _) _
    refine L_pop dL_law_1194 rfl ?_
    refine L_goto 1336 dL_law_1195 (by decide) ?_
    exact kk _ hG e4
  · refine L_iconst (v := 1) dL_law_1163 (by decide) ?_
    refine L_goto 1168 dL_law_1164 (by decide) ?_
    obtain ⟨n1, q1, n2, q2, e1, e2, e4⟩ := pu h0 hG hw (xs (Int32.toNatClampNeg (i + 1))) 1 (Or.inr rfl)
    refine L_callV (N := mX11_tell) (n := 2) (a := 0) [.int (xs (Int32.toNatClampNeg (i + 1))), .int 1] rfl ok_X11_tell lk_L_146 im_X11_tell se_X11_tell (by decide +kernel) rfl okC_11.1 sh_0 (by exact ltG hG (by decide)) (Nat.le_of_ble_eq_true rfl) dL_law_1168 (by decide) (s_X11_tell 0 e1 hG) (fun r1 h1 q => by rw [q.2.1]; exact Nat.le_of_eq q.2.2.1) (fun r1 h1 hq => ?_)
    obtain ⟨rfl, hq, hG⟩ := hq
    replace hq := hq.symm
    subst hq
    show VL _ _ _ _ (_ :: _) _
    refine L_pop dL_law_1171 rfl ?_
    refine L_aload (x := 226) 1 dL_law_1172 rfl (fun _ _ => rfl) ?_
    refine L_at (v := 1) dL_law_1173 dL_law_1174 dL_law_1175 (by decide) dL_law_1176 dL_law_1177 (hv 1 (by decide) (by decide)) ?_
    refine L_at (v := 2) dL_law_1178 dL_law_1179 dL_law_1180 (by decide) dL_law_1181 dL_law_1182 (hv 2 (by decide) (by decide)) ?_
    refine L_ifeq 1190 dL_law_1183 (by decide) (fun q => absurd q cz) (fun _ => ?_)
    refine L_iconst (v := 1) dL_law_1186 (by decide) ?_
    refine L_goto 1191 dL_law_1187 (by decide) ?_
    refine L_callV (N := mX12_tell) (n := 2) (a := 226) [.int (xs (Int32.toNatClampNeg (i + 1))), .int 1] rfl ok_X12_tell lk_L_150 im_X12_tell se_X12_tell (by decide +kernel) rfl okC_12.1 sh_226 (by exact ltG hG (by decide)) (Nat.le_of_ble_eq_true rfl) dL_law_1191 (by decide) (s_X12_tell 0 e2 hG) (fun r1 h1 q => by rw [q.2.1]; exact Nat.le_of_eq q.2.2.1) (fun r1 h1 hq => ?_)
    obtain ⟨rfl, hq, hG⟩ := hq
    replace hq := hq.symm
    subst hq
    show VL _ _ _ _ (_ :: _) _
    refine L_pop dL_law_1194 rfl ?_
    refine L_goto 1336 dL_law_1195 (by decide) ?_
    exact kk _ hG e4
theorem case_32 {L : Nat} {xs : Nat → Int32} {i : Int32} {h0 : Hp} (hG : G h0) (hw : Ir h0) (hv : ∀ v : Int32, 0 ≤ v.toInt → v.toInt < 6 → vp_in (i + v) L) (pu : PU_forget) (kk : ∀ h : Hp, G h → Ir h → VL L xs (lvC i) 1336 [] h) : VL L xs (lvC i) 1198 [] h0 := by
  refine L_aload (x := 0) 2 dL_law_1198 rfl (fun _ _ => rfl) ?_
  obtain ⟨n1, q1, n2, q2, e1, e2, e4⟩ := pu h0 hG hw
  refine L_callV (N := mX11_forget) (n := 0) (a := 0) [] rfl ok_X11_forget lk_L_151 im_X11_forget se_X11_forget (by decide +kernel) rfl okC_11.1 sh_0 (by exact ltG hG (by decide)) (Nat.le_of_ble_eq_true rfl) dL_law_1199 (by decide) (s_X11_forget 0 e1 hG) (fun r1 h1 q => by rw [q.2.1]; exact Nat.le_of_eq q.2.2.1) (fun r1 h1 hq => ?_)
  obtain ⟨rfl, hq, hG⟩ := hq
  replace hq := hq.symm
  subst hq
  show VL _ _ _ _ (_ :: _) _
  refine L_pop dL_law_1202 rfl ?_
  refine L_aload (x := 226) 1 dL_law_1203 rfl (fun _ _ => rfl) ?_
  refine L_callV (N := mX12_forget) (n := 0) (a := 226) [] rfl ok_X12_forget lk_L_154 im_X12_forget se_X12_forget (by decide +kernel) rfl okC_12.1 sh_226 (by exact ltG hG (by decide)) (Nat.le_of_ble_eq_true rfl) dL_law_1204 (by decide) (s_X12_forget 0 e2 hG) (fun r1 h1 q => by rw [q.2.1]; exact Nat.le_of_eq q.2.2.1) (fun r1 h1 hq => ?_)
  obtain ⟨rfl, hq, hG⟩ := hq
  replace hq := hq.symm
  subst hq
  show VL _ _ _ _ (_ :: _) _
  refine L_pop dL_law_1207 rfl ?_
  refine L_goto 1336 dL_law_1208 (by decide) ?_
  exact kk _ hG e4
theorem case_33 {L : Nat} {xs : Nat → Int32} {i : Int32} {h0 : Hp} (hG : G h0) (hw : Ir h0) (hv : ∀ v : Int32, 0 ≤ v.toInt → v.toInt < 6 → vp_in (i + v) L) (pu : PU_fits) (kk : ∀ h : Hp, G h → Ir h → VL L xs (lvC i) 1336 [] h) : VL L xs (lvC i) 1211 [] h0 := by
  refine L_aload (x := 0) 2 dL_law_1211 rfl (fun _ _ => rfl) ?_
  refine L_at (v := 1) dL_law_1212 dL_law_1213 dL_law_1214 (by decide) dL_law_1215 dL_law_1216 (hv 1 (by decide) (by decide)) ?_
  refine L_at (v := 2) dL_law_1217 dL_law_1218 dL_law_1219 (by decide) dL_law_1220 dL_law_1221 (hv 2 (by decide) (by decide)) ?_
  obtain ⟨n1, q1, n2, q2, e1, e2, e4⟩ := pu h0 hG hw (xs (Int32.toNatClampNeg (i + 1))) (xs (Int32.toNatClampNeg (i + 2)))
  refine L_callV (N := mX11_fits) (n := 2) (a := 0) [.int (xs (Int32.toNatClampNeg (i + 1))), .int (xs (Int32.toNatClampNeg (i + 2)))] rfl ok_X11_fits lk_L_155 im_X11_fits se_X11_fits (by decide +kernel) rfl okC_11.1 sh_0 (by exact ltG hG (by decide)) (Nat.le_of_ble_eq_true rfl) dL_law_1222 (by decide) (s_X11_fits 0 e1 hG) (fun r1 h1 q => by rw [q.2.1]; exact Nat.le_of_eq q.2.2.1) (fun r1 h1 hq => ?_)
  obtain ⟨rfl, hq, hG⟩ := hq
  replace hq := hq.symm
  subst hq
  show VL _ _ _ _ (_ :: _) _
  refine L_pop dL_law_1225 rfl ?_
  refine L_aload (x := 226) 1 dL_law_1226 rfl (fun _ _ => rfl) ?_
  refine L_at (v := 1) dL_law_1227 dL_law_1228 dL_law_1229 (by decide) dL_law_1230 dL_law_1231 (hv 1 (by decide) (by decide)) ?_
  refine L_at (v := 2) dL_law_1232 dL_law_1233 dL_law_1234 (by decide) dL_law_1235 dL_law_1236 (hv 2 (by decide) (by decide)) ?_
  refine L_callV (N := mX12_fits) (n := 2) (a := 226) [.int (xs (Int32.toNatClampNeg (i + 1))), .int (xs (Int32.toNatClampNeg (i + 2)))] rfl ok_X12_fits lk_L_158 im_X12_fits se_X12_fits (by decide +kernel) rfl okC_12.1 sh_226 (by exact ltG hG (by decide)) (Nat.le_of_ble_eq_true rfl) dL_law_1237 (by decide) (s_X12_fits 0 e2 hG) (fun r1 h1 q => by rw [q.2.1]; exact Nat.le_of_eq q.2.2.1) (fun r1 h1 hq => ?_)
  obtain ⟨rfl, hq, hG⟩ := hq
  replace hq := hq.symm
  subst hq
  show VL _ _ _ _ (_ :: _) _
  refine L_pop dL_law_1240 rfl ?_
  refine L_goto 1336 dL_law_1241 (by decide) ?_
  exact kk _ hG e4
theorem case_34 {L : Nat} {xs : Nat → Int32} {i : Int32} {h0 : Hp} (hG : G h0) (hw : Ir h0) (hv : ∀ v : Int32, 0 ≤ v.toInt → v.toInt < 6 → vp_in (i + v) L) (pu : PU_listen) (kk : ∀ h : Hp, G h → Ir h → VL L xs (lvC i) 1336 [] h) : VL L xs (lvC i) 1244 [] h0 := by
  refine L_aload (x := 0) 2 dL_law_1244 rfl (fun _ _ => rfl) ?_
  refine L_at (v := 1) dL_law_1245 dL_law_1246 dL_law_1247 (by decide) dL_law_1248 dL_law_1249 (hv 1 (by decide) (by decide)) ?_
  obtain ⟨n1, q1, n2, q2, e1, e2, e4⟩ := pu h0 hG hw (xs (Int32.toNatClampNeg (i + 1)))
  refine L_callV (N := mX11_listen) (n := 1) (a := 0) [.int (xs (Int32.toNatClampNeg (i + 1)))] rfl ok_X11_listen lk_L_159 im_X11_listen se_X11_listen (by decide +kernel) rfl okC_11.1 sh_0 (by exact ltG hG (by decide)) (Nat.le_of_ble_eq_true rfl) dL_law_1250 (by decide) (s_X11_listen 0 e1 hG) (fun r1 h1 q => by rw [q.2.1]; exact Nat.le_of_eq q.2.2.1) (fun r1 h1 hq => ?_)
  obtain ⟨rfl, hq, hG⟩ := hq
  replace hq := hq.symm
  subst hq
  show VL _ _ _ _ (_ :: _) _
  refine L_pop dL_law_1253 rfl ?_
  refine L_aload (x := 226) 1 dL_law_1254 rfl (fun _ _ => rfl) ?_
  refine L_at (v := 1) dL_law_1255 dL_law_1256 dL_law_1257 (by decide) dL_law_1258 dL_law_1259 (hv 1 (by decide) (by decide)) ?_
  refine L_callV (N := mX12_listen) (n := 1) (a := 226) [.int (xs (Int32.toNatClampNeg (i + 1)))] rfl ok_X12_listen lk_L_162 im_X12_listen se_X12_listen (by decide +kernel) rfl okC_12.1 sh_226 (by exact ltG hG (by decide)) (Nat.le_of_ble_eq_true rfl) dL_law_1260 (by decide) (s_X12_listen 0 e2 hG) (fun r1 h1 q => by rw [q.2.1]; exact Nat.le_of_eq q.2.2.1) (fun r1 h1 hq => ?_)
  obtain ⟨rfl, hq, hG⟩ := hq
  replace hq := hq.symm
  subst hq
  show VL _ _ _ _ (_ :: _) _
  refine L_pop dL_law_1263 rfl ?_
  refine L_goto 1336 dL_law_1264 (by decide) ?_
  exact kk _ hG e4
theorem case_35 {L : Nat} {xs : Nat → Int32} {i : Int32} {h0 : Hp} (hG : G h0) (hw : Ir h0) (hv : ∀ v : Int32, 0 ≤ v.toInt → v.toInt < 6 → vp_in (i + v) L) (pu : PU_hold) (kk : ∀ h : Hp, G h → Ir h → VL L xs (lvC i) 1336 [] h) : VL L xs (lvC i) 1267 [] h0 := by
  refine L_aload (x := 0) 2 dL_law_1267 rfl (fun _ _ => rfl) ?_
  refine L_at (v := 1) dL_law_1268 dL_law_1269 dL_law_1270 (by decide) dL_law_1271 dL_law_1272 (hv 1 (by decide) (by decide)) ?_
  obtain ⟨n1, q1, n2, q2, e1, e2, e4⟩ := pu h0 hG hw (xs (Int32.toNatClampNeg (i + 1)))
  refine L_callV (N := mX11_hold) (n := 1) (a := 0) [.int (xs (Int32.toNatClampNeg (i + 1)))] rfl ok_X11_hold lk_L_163 im_X11_hold se_X11_hold (by decide +kernel) rfl okC_11.1 sh_0 (by exact ltG hG (by decide)) (Nat.le_of_ble_eq_true rfl) dL_law_1273 (by decide) (s_X11_hold 0 e1 hG) (fun r1 h1 q => by rw [q.2.1]; exact Nat.le_of_eq q.2.2.1) (fun r1 h1 hq => ?_)
  obtain ⟨rfl, hq, hG⟩ := hq
  replace hq := hq.symm
  subst hq
  show VL _ _ _ _ (_ :: _) _
  refine L_pop dL_law_1276 rfl ?_
  refine L_aload (x := 226) 1 dL_law_1277 rfl (fun _ _ => rfl) ?_
  refine L_at (v := 1) dL_law_1278 dL_law_1279 dL_law_1280 (by decide) dL_law_1281 dL_law_1282 (hv 1 (by decide) (by decide)) ?_
  refine L_callV (N := mX12_hold) (n := 1) (a := 226) [.int (xs (Int32.toNatClampNeg (i + 1)))] rfl ok_X12_hold lk_L_167 im_X12_hold se_X12_hold (by decide +kernel) rfl okC_12.1 sh_226 (by exact ltG hG (by decide)) (Nat.le_of_ble_eq_true rfl) dL_law_1283 (by decide) (s_X12_hold 0 e2 hG) (fun r1 h1 q => by rw [q.2.1]; exact Nat.le_of_eq q.2.2.1) (fun r1 h1 hq => ?_)
  obtain ⟨rfl, hq, hG⟩ := hq
  replace hq := hq.symm
  subst hq
  show VL _ _ _ _ (_ :: _) _
  refine L_pop dL_law_1286 rfl ?_
  refine L_goto 1336 dL_law_1287 (by decide) ?_
  exact kk _ hG e4
theorem case_36 {L : Nat} {xs : Nat → Int32} {i : Int32} {h0 : Hp} (hG : G h0) (hw : Ir h0) (hv : ∀ v : Int32, 0 ≤ v.toInt → v.toInt < 6 → vp_in (i + v) L) (pu : PU_restore) (kk : ∀ h : Hp, G h → Ir h → VL L xs (lvC i) 1336 [] h) : VL L xs (lvC i) 1290 [] h0 := by
  refine L_aload (x := 0) 2 dL_law_1290 rfl (fun _ _ => rfl) ?_
  refine L_at (v := 1) dL_law_1291 dL_law_1292 dL_law_1293 (by decide) dL_law_1294 dL_law_1295 (hv 1 (by decide) (by decide)) ?_
  obtain ⟨n1, q1, n2, q2, e1, e2, e4⟩ := pu h0 hG hw (xs (Int32.toNatClampNeg (i + 1)))
  refine L_callV (N := mX11_restore) (n := 1) (a := 0) [.int (xs (Int32.toNatClampNeg (i + 1)))] rfl ok_X11_restore lk_L_168 im_X11_restore se_X11_restore (by decide +kernel) rfl okC_11.1 sh_0 (by exact ltG hG (by decide)) (Nat.le_of_ble_eq_true rfl) dL_law_1296 (by decide) (s_X11_restore 0 e1 hG) (fun r1 h1 q => by rw [q.2.1]; exact Nat.le_of_eq q.2.2.1) (fun r1 h1 hq => ?_)
  obtain ⟨rfl, hq, hG⟩ := hq
  replace hq := hq.symm
  subst hq
  show VL _ _ _ _ (_ :: _) _
  refine L_pop dL_law_1299 rfl ?_
  refine L_aload (x := 226) 1 dL_law_1300 rfl (fun _ _ => rfl) ?_
  refine L_at (v := 1) dL_law_1301 dL_law_1302 dL_law_1303 (by decide) dL_law_1304 dL_law_1305 (hv 1 (by decide) (by decide)) ?_
  refine L_callV (N := mX12_restore) (n := 1) (a := 226) [.int (xs (Int32.toNatClampNeg (i + 1)))] rfl ok_X12_restore lk_L_171 im_X12_restore se_X12_restore (by decide +kernel) rfl okC_12.1 sh_226 (by exact ltG hG (by decide)) (Nat.le_of_ble_eq_true rfl) dL_law_1306 (by decide) (s_X12_restore 0 e2 hG) (fun r1 h1 q => by rw [q.2.1]; exact Nat.le_of_eq q.2.2.1) (fun r1 h1 hq => ?_)
  obtain ⟨rfl, hq, hG⟩ := hq
  replace hq := hq.symm
  subst hq
  show VL _ _ _ _ (_ :: _) _
  refine L_pop dL_law_1309 rfl ?_
  refine L_goto 1336 dL_law_1310 (by decide) ?_
  exact kk _ hG e4
theorem case_37 {L : Nat} {xs : Nat → Int32} {i : Int32} {h0 : Hp} (hG : G h0) (hw : Ir h0) (hv : ∀ v : Int32, 0 ≤ v.toInt → v.toInt < 6 → vp_in (i + v) L) (pu : PU_count) (kk : ∀ h : Hp, G h → Ir h → VL L xs (lvC i) 1336 [] h) : VL L xs (lvC i) 1313 [] h0 := by
  refine L_aload (x := 0) 2 dL_law_1313 rfl (fun _ _ => rfl) ?_
  refine L_at (v := 1) dL_law_1314 dL_law_1315 dL_law_1316 (by decide) dL_law_1317 dL_law_1318 (hv 1 (by decide) (by decide)) ?_
  obtain ⟨n1, q1, n2, q2, e1, e2, e4⟩ := pu h0 hG hw (xs (Int32.toNatClampNeg (i + 1)))
  refine L_callV (N := mX11_count) (n := 1) (a := 0) [.int (xs (Int32.toNatClampNeg (i + 1)))] rfl ok_X11_count lk_L_172 im_X11_count se_X11_count (by decide +kernel) rfl okC_11.1 sh_0 (by exact ltG hG (by decide)) (Nat.le_of_ble_eq_true rfl) dL_law_1319 (by decide) (s_X11_count 0 e1 hG) (fun r1 h1 q => by rw [q.2.1]; exact Nat.le_of_eq q.2.2.1) (fun r1 h1 hq => ?_)
  obtain ⟨rfl, hq, hG⟩ := hq
  replace hq := hq.symm
  subst hq
  show VL _ _ _ _ (_ :: _) _
  refine L_pop dL_law_1322 rfl ?_
  refine L_aload (x := 226) 1 dL_law_1323 rfl (fun _ _ => rfl) ?_
  refine L_at (v := 1) dL_law_1324 dL_law_1325 dL_law_1326 (by decide) dL_law_1327 dL_law_1328 (hv 1 (by decide) (by decide)) ?_
  refine L_callV (N := mX12_count) (n := 1) (a := 226) [.int (xs (Int32.toNatClampNeg (i + 1)))] rfl ok_X12_count lk_L_175 im_X12_count se_X12_count (by decide +kernel) rfl okC_12.1 sh_226 (by exact ltG hG (by decide)) (Nat.le_of_ble_eq_true rfl) dL_law_1329 (by decide) (s_X12_count 0 e2 hG) (fun r1 h1 q => by rw [q.2.1]; exact Nat.le_of_eq q.2.2.1) (fun r1 h1 hq => ?_)
  obtain ⟨rfl, hq, hG⟩ := hq
  replace hq := hq.symm
  subst hq
  show VL _ _ _ _ (_ :: _) _
  refine L_pop dL_law_1332 rfl ?_
  refine L_goto 1336 dL_law_1333 (by decide) ?_
  exact kk _ hG e4
