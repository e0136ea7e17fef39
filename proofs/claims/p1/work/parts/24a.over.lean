/-! THE FRESH STATE, with quick answers -/
/-- the five ways from a cell of the 4 by 4 lawn -/
def sideT : Nat → Int32 := fun k => ([0, 1, 4, 0, 0, 1, 2, 5, 0, 1, 2, 3, 6, 1, 2, 3, 3, 7, 2, 3, 4, 5, 8, 4, 0, 5, 6, 9, 4, 1, 6, 7, 10, 5, 2, 7, 7, 11, 6, 3, 8, 9, 12, 8, 4, 9, 10, 13, 8, 5, 10, 11, 14, 9, 6, 11, 11, 15, 10, 7, 12, 13, 12, 12, 8, 13, 14, 13, 12, 9, 14, 15, 14, 13, 10, 15, 15, 15, 14, 11] : List Int32).getD k 0
def ovI (f : Nat → Nat → Int32) (a k : Nat) : Int32 := (if a < 208 then (if a < 31 then (if a < 24 then (if a < 4 then (if a < 2 then (if a = 0 then (if k < 15 then ([0, 0, -1] : List Int32).getD k 0 else f a k) else f a k) else (if a < 3 then (if a = 2 then (if k < 15 then ([0, 0, -1, 0, 0, 0, 0, -1] : List Int32).getD k 0 else f a k) else f a k) else (if a = 3 then (if k < 6 then 0 else f a k) else f a k))) else (if a < 10 then (if a < 5 then (if a = 4 then (if k < 4 then 0 else f a k) else f a k) else (if a = 5 then (if k < 4 then 0 else f a k) else f a k)) else (if a < 23 then (if a = 10 then (if k < 7 then 0 else f a k) else f a k) else (if a = 23 then (if k < 6 then 0 else f a k) else f a k)))) else (if a < 27 then (if a < 25 then (if a = 24 then (if k < 4 then ([4, 4, 65535, 4369] : List Int32).getD k 0 else f a k) else f a k) else (if a < 26 then (if a = 25 then (if k < 4 then ([0, 0, 0, 4] : List Int32).getD k 0 else f a k) else f a k) else (if a = 26 then (if k < 4 then ([0, -15, 1, -15] : List Int32).getD k 0 else f a k) else f a k))) else (if a < 29 then (if a < 28 then (if a = 27 then (if k < 4 then ([0, 2, 0, 2] : List Int32).getD k 0 else f a k) else f a k) else (if a = 28 then (if k < 16 then 0 else f a k) else f a k)) else (if a < 30 then (if a = 29 then (if k < 9 then 0 else f a k) else f a k) else (if a = 30 then (if k < 7 then 0 else f a k) else f a k))))) else (if a < 38 then (if a < 34 then (if a < 32 then (if a = 31 then (if k < 25 then 0 else f a k) else f a k) else (if a < 33 then (if a = 32 then (if k < 5 then 0 else f a k) else f a k) else (if a = 33 then (if k < 5 then 0 else f a k) else f a k))) else (if a < 36 then (if a < 35 then (if a = 34 then (if k < 7 then 0 else f a k) else f a k) else (if a = 35 then (if k < 25 then 0 else f a k) else f a k)) else (if a < 37 then (if a = 36 then (if k < 5 then 0 else f a k) else f a k) else (if a = 37 then (if k < 5 then 0 else f a k) else f a k)))) else (if a < 204 then (if a < 202 then (if a < 201 then (if a = 38 then (if k < 3 then 0 else f a k) else f a k) else (if a = 201 then (if k < 3 then 0 else f a k) else f a k)) else (if a < 203 then (if a = 202 then (if k < 20 then 0 else f a k) else f a k) else (if a = 203 then (if k < 20 then 0 else f a k) else f a k))) else (if a < 206 then (if a < 205 then (if a = 204 then (if k < 7 then ([0, 0, 0, 0, 0, -1, -1] : List Int32).getD k 0 else f a k) else f a k) else (if a = 205 then (if k < 60 then 0 else f a k) else f a k)) else (if a < 207 then (if a = 206 then (if k < 101 then 0 else f a k) else f a k) else (if a = 207 then (if k < 5 then 0 else f a k) else f a k)))))) else (if a < 250 then (if a < 235 then (if a < 211 then (if a < 209 then (if a = 208 then (if k < 25 then 0 else f a k) else f a k) else (if a < 210 then (if a = 209 then (if k < 50 then 0 else f a k) else f a k) else (if a = 210 then (if k < 50 then 0 else f a k) else f a k))) else (if a < 213 then (if a < 212 then (if a = 211 then (if k < 4 then 0 else f a k) else f a k) else (if a = 212 then (if k < 5 then 0 else f a k) else f a k)) else (if a < 226 then (if a = 213 then (if k < 5 then 0 else f a k) else f a k) else (if a = 226 then (if k < 70 then if k = 17 then -1 else 0 else f a k) else f a k)))) else (if a < 242 then (if a < 236 then (if a = 235 then (if k < 2 then 4 else f a k) else f a k) else (if a < 237 then (if a = 236 then (if k < 2 then 4 else f a k) else f a k) else (if a = 237 then (if k < 2 then 0 else f a k) else f a k))) else (if a < 248 then (if a < 245 then (if a = 242 then (if k < 2 then 0 else f a k) else f a k) else (if a = 245 then (if k < 2 then 0 else f a k) else f a k)) else (if a < 249 then (if a = 248 then (if k < 2 then 0 else f a k) else f a k) else (if a = 249 then (if k < 2 then 0 else f a k) else f a k))))) else (if a < 267 then (if a < 262 then (if a < 251 then (if a = 250 then (if k < 8 then 0 else f a k) else f a k) else (if a < 260 then (if a = 251 then (if k < 8 then 0 else f a k) else f a k) else (if a = 260 then (if k < 9 then 0 else f a k) else f a k))) else (if a < 264 then (if a < 263 then (if a = 262 then (if k < 63 then 0 else f a k) else f a k) else (if a = 263 then (if k < 63 then 0 else f a k) else f a k)) else (if a < 265 then (if a = 264 then (if k < 125 then sideT k else f a k) else f a k) else (if a = 265 then (if k < 5 then 0 else f a k) else f a k)))) else (if a < 271 then (if a < 269 then (if a < 268 then (if a = 267 then (if k < 101 then 0 else f a k) else f a k) else (if a = 268 then (if k < 101 then 0 else f a k) else f a k)) else (if a < 270 then (if a = 269 then (if k < 101 then 0 else f a k) else f a k) else (if a = 270 then (if k < 32 then 0 else f a k) else f a k))) else (if a < 273 then (if a < 272 then (if a = 271 then (if k < 20 then 0 else f a k) else f a k) else (if a = 272 then (if k < 20 then 0 else f a k) else f a k)) else (if a < 274 then (if a = 273 then (if k < 3 then 0 else f a k) else f a k) else (if a = 274 then (if k < 189 then 0 else f a k) else f a k)))))))
theorem lf_0 : ∀ k, k < 15 → hi hk_Z 0 k = ([0, 0, -1] : List Int32).getD k 0 := by decide +kernel
theorem lf_2 : ∀ k, k < 15 → hi hk_Z 2 k = ([0, 0, -1, 0, 0, 0, 0, -1] : List Int32).getD k 0 := by decide +kernel
theorem lf_3 : ∀ k, k < 6 → hi hk_Z 3 k = 0 := by decide +kernel
theorem lf_4 : ∀ k, k < 4 → hi hk_Z 4 k = 0 := by decide +kernel
theorem lf_5 : ∀ k, k < 4 → hi hk_Z 5 k = 0 := by decide +kernel
theorem lf_10 : ∀ k, k < 7 → hi hk_Z 10 k = 0 := by decide +kernel
theorem lf_23 : ∀ k, k < 6 → hi hk_Z 23 k = 0 := by decide +kernel
theorem lf_24 : ∀ k, k < 4 → hi hk_Z 24 k = ([4, 4, 65535, 4369] : List Int32).getD k 0 := by decide +kernel
theorem lf_25 : ∀ k, k < 4 → hi hk_Z 25 k = ([0, 0, 0, 4] : List Int32).getD k 0 := by decide +kernel
theorem lf_26 : ∀ k, k < 4 → hi hk_Z 26 k = ([0, -15, 1, -15] : List Int32).getD k 0 := by decide +kernel
theorem lf_27 : ∀ k, k < 4 → hi hk_Z 27 k = ([0, 2, 0, 2] : List Int32).getD k 0 := by decide +kernel
theorem lf_28 : ∀ k, k < 16 → hi hk_Z 28 k = 0 := by decide +kernel
theorem lf_29 : ∀ k, k < 9 → hi hk_Z 29 k = 0 := by decide +kernel
theorem lf_30 : ∀ k, k < 7 → hi hk_Z 30 k = 0 := by decide +kernel
theorem lf_31 : ∀ k, k < 25 → hi hk_Z 31 k = 0 := by decide +kernel
theorem lf_32 : ∀ k, k < 5 → hi hk_Z 32 k = 0 := by decide +kernel
theorem lf_33 : ∀ k, k < 5 → hi hk_Z 33 k = 0 := by decide +kernel
theorem lf_34 : ∀ k, k < 7 → hi hk_Z 34 k = 0 := by decide +kernel
theorem lf_35 : ∀ k, k < 25 → hi hk_Z 35 k = 0 := by decide +kernel
theorem lf_36 : ∀ k, k < 5 → hi hk_Z 36 k = 0 := by decide +kernel
theorem lf_37 : ∀ k, k < 5 → hi hk_Z 37 k = 0 := by decide +kernel
theorem lf_38 : ∀ k, k < 3 → hi hk_Z 38 k = 0 := by decide +kernel
theorem lf_201 : ∀ k, k < 3 → hi hk_Z 201 k = 0 := by decide +kernel
theorem lf_202 : ∀ k, k < 20 → hi hk_Z 202 k = 0 := by decide +kernel
theorem lf_203 : ∀ k, k < 20 → hi hk_Z 203 k = 0 := by decide +kernel
theorem lf_204 : ∀ k, k < 7 → hi hk_Z 204 k = ([0, 0, 0, 0, 0, -1, -1] : List Int32).getD k 0 := by decide +kernel
theorem lf_205 : ∀ k, k < 60 → hi hk_Z 205 k = 0 := by decide +kernel
theorem lf_206 : ∀ k, k < 101 → hi hk_Z 206 k = 0 := by decide +kernel
theorem lf_207 : ∀ k, k < 5 → hi hk_Z 207 k = 0 := by decide +kernel
theorem lf_208 : ∀ k, k < 25 → hi hk_Z 208 k = 0 := by decide +kernel
theorem lf_209 : ∀ k, k < 50 → hi hk_Z 209 k = 0 := by decide +kernel
theorem lf_210 : ∀ k, k < 50 → hi hk_Z 210 k = 0 := by decide +kernel
theorem lf_211 : ∀ k, k < 4 → hi hk_Z 211 k = 0 := by decide +kernel
theorem lf_212 : ∀ k, k < 5 → hi hk_Z 212 k = 0 := by decide +kernel
theorem lf_213 : ∀ k, k < 5 → hi hk_Z 213 k = 0 := by decide +kernel
theorem lf_226 : ∀ k, k < 70 → hi hk_Z 226 k = if k = 17 then -1 else 0 := by decide +kernel
theorem lf_235 : ∀ k, k < 2 → hi hk_Z 235 k = 4 := by decide +kernel
theorem lf_236 : ∀ k, k < 2 → hi hk_Z 236 k = 4 := by decide +kernel
theorem lf_237 : ∀ k, k < 2 → hi hk_Z 237 k = 0 := by decide +kernel
theorem lf_242 : ∀ k, k < 2 → hi hk_Z 242 k = 0 := by decide +kernel
theorem lf_245 : ∀ k, k < 2 → hi hk_Z 245 k = 0 := by decide +kernel
theorem lf_248 : ∀ k, k < 2 → hi hk_Z 248 k = 0 := by decide +kernel
theorem lf_249 : ∀ k, k < 2 → hi hk_Z 249 k = 0 := by decide +kernel
theorem lf_250 : ∀ k, k < 8 → hi hk_Z 250 k = 0 := by decide +kernel
theorem lf_251 : ∀ k, k < 8 → hi hk_Z 251 k = 0 := by decide +kernel
theorem lf_260 : ∀ k, k < 9 → hi hk_Z 260 k = 0 := by decide +kernel
theorem lf_262 : ∀ k, k < 63 → hi hk_Z 262 k = 0 := by decide +kernel
theorem lf_263 : ∀ k, k < 63 → hi hk_Z 263 k = 0 := by decide +kernel
theorem lf_264 : ∀ k, k < 125 → hi hk_Z 264 k = sideT k := by decide +kernel
theorem lf_265 : ∀ k, k < 5 → hi hk_Z 265 k = 0 := by decide +kernel
theorem lf_267 : ∀ k, k < 101 → hi hk_Z 267 k = 0 := by decide +kernel
theorem lf_268 : ∀ k, k < 101 → hi hk_Z 268 k = 0 := by decide +kernel
theorem lf_269 : ∀ k, k < 101 → hi hk_Z 269 k = 0 := by decide +kernel
theorem lf_270 : ∀ k, k < 32 → hi hk_Z 270 k = 0 := by decide +kernel
theorem lf_271 : ∀ k, k < 20 → hi hk_Z 271 k = 0 := by decide +kernel
theorem lf_272 : ∀ k, k < 20 → hi hk_Z 272 k = 0 := by decide +kernel
theorem lf_273 : ∀ k, k < 3 → hi hk_Z 273 k = 0 := by decide +kernel
theorem lf_274 : ∀ k, k < 189 → hi hk_Z 274 k = 0 := by decide +kernel
theorem ov_all (a k : Nat) : ovI (hi hk_Z) a k = hi hk_Z a k := by
  unfold ovI
  by_cases t208 : a < 208
  · rw [if_pos t208]
    by_cases t31 : a < 31
    · rw [if_pos t31]
      by_cases t24 : a < 24
      · rw [if_pos t24]
        by_cases t4 : a < 4
        · rw [if_pos t4]
          by_cases t2 : a < 2
          · rw [if_pos t2]
            by_cases c0 : a = 0
            · subst c0
              rw [if_pos rfl]
              by_cases d : k < 15
              · rw [if_pos d]; exact (lf_0 k d).symm
              · rw [if_neg d]
            · rw [if_neg c0]
          · rw [if_neg t2]
            by_cases t3 : a < 3
            · rw [if_pos t3]
              by_cases c2 : a = 2
              · subst c2
                rw [if_pos rfl]
                by_cases d : k < 15
                · rw [if_pos d]; exact (lf_2 k d).symm
                · rw [if_neg d]
              · rw [if_neg c2]
            · rw [if_neg t3]
              by_cases c3 : a = 3
              · subst c3
                rw [if_pos rfl]
                by_cases d : k < 6
                · rw [if_pos d]; exact (lf_3 k d).symm
                · rw [if_neg d]
              · rw [if_neg c3]
        · rw [if_neg t4]
          by_cases t10 : a < 10
          · rw [if_pos t10]
            by_cases t5 : a < 5
            · rw [if_pos t5]
              by_cases c4 : a = 4
              · subst c4
                rw [if_pos rfl]
                by_cases d : k < 4
                · rw [if_pos d]; exact (lf_4 k d).symm
                · rw [if_neg d]
              · rw [if_neg c4]
            · rw [if_neg t5]
              by_cases c5 : a = 5
              · subst c5
                rw [if_pos rfl]
                by_cases d : k < 4
                · rw [if_pos d]; exact (lf_5 k d).symm
                · rw [if_neg d]
              · rw [if_neg c5]
          · rw [if_neg t10]
            by_cases t23 : a < 23
            · rw [if_pos t23]
              by_cases c10 : a = 10
              · subst c10
                rw [if_pos rfl]
                by_cases d : k < 7
                · rw [if_pos d]; exact (lf_10 k d).symm
                · rw [if_neg d]
              · rw [if_neg c10]
            · rw [if_neg t23]
              by_cases c23 : a = 23
              · subst c23
                rw [if_pos rfl]
                by_cases d : k < 6
                · rw [if_pos d]; exact (lf_23 k d).symm
                · rw [if_neg d]
              · rw [if_neg c23]
      · rw [if_neg t24]
        by_cases t27 : a < 27
        · rw [if_pos t27]
          by_cases t25 : a < 25
          · rw [if_pos t25]
            by_cases c24 : a = 24
            · subst c24
              rw [if_pos rfl]
              by_cases d : k < 4
              · rw [if_pos d]; exact (lf_24 k d).symm
              · rw [if_neg d]
            · rw [if_neg c24]
          · rw [if_neg t25]
            by_cases t26 : a < 26
            · rw [if_pos t26]
              by_cases c25 : a = 25
              · subst c25
                rw [if_pos rfl]
                by_cases d : k < 4
                · rw [if_pos d]; exact (lf_25 k d).symm
                · rw [if_neg d]
              · rw [if_neg c25]
            · rw [if_neg t26]
              by_cases c26 : a = 26
              · subst c26
                rw [if_pos rfl]
                by_cases d : k < 4
                · rw [if_pos d]; exact (lf_26 k d).symm
                · rw [if_neg d]
              · rw [if_neg c26]
        · rw [if_neg t27]
          by_cases t29 : a < 29
          · rw [if_pos t29]
            by_cases t28 : a < 28
            · rw [if_pos t28]
              by_cases c27 : a = 27
              · subst c27
                rw [if_pos rfl]
                by_cases d : k < 4
                · rw [if_pos d]; exact (lf_27 k d).symm
                · rw [if_neg d]
              · rw [if_neg c27]
            · rw [if_neg t28]
              by_cases c28 : a = 28
              · subst c28
                rw [if_pos rfl]
                by_cases d : k < 16
                · rw [if_pos d]; exact (lf_28 k d).symm
                · rw [if_neg d]
              · rw [if_neg c28]
          · rw [if_neg t29]
            by_cases t30 : a < 30
            · rw [if_pos t30]
              by_cases c29 : a = 29
              · subst c29
                rw [if_pos rfl]
                by_cases d : k < 9
                · rw [if_pos d]; exact (lf_29 k d).symm
                · rw [if_neg d]
              · rw [if_neg c29]
            · rw [if_neg t30]
              by_cases c30 : a = 30
              · subst c30
                rw [if_pos rfl]
                by_cases d : k < 7
                · rw [if_pos d]; exact (lf_30 k d).symm
                · rw [if_neg d]
              · rw [if_neg c30]
    · rw [if_neg t31]
      by_cases t38 : a < 38
      · rw [if_pos t38]
        by_cases t34 : a < 34
        · rw [if_pos t34]
          by_cases t32 : a < 32
          · rw [if_pos t32]
            by_cases c31 : a = 31
            · subst c31
              rw [if_pos rfl]
              by_cases d : k < 25
              · rw [if_pos d]; exact (lf_31 k d).symm
              · rw [if_neg d]
            · rw [if_neg c31]
          · rw [if_neg t32]
            by_cases t33 : a < 33
            · rw [if_pos t33]
              by_cases c32 : a = 32
              · subst c32
                rw [if_pos rfl]
                by_cases d : k < 5
                · rw [if_pos d]; exact (lf_32 k d).symm
                · rw [if_neg d]
              · rw [if_neg c32]
            · rw [if_neg t33]
              by_cases c33 : a = 33
              · subst c33
                rw [if_pos rfl]
                by_cases d : k < 5
                · rw [if_pos d]; exact (lf_33 k d).symm
                · rw [if_neg d]
              · rw [if_neg c33]
        · rw [if_neg t34]
          by_cases t36 : a < 36
          · rw [if_pos t36]
            by_cases t35 : a < 35
            · rw [if_pos t35]
              by_cases c34 : a = 34
              · subst c34
                rw [if_pos rfl]
                by_cases d : k < 7
                · rw [if_pos d]; exact (lf_34 k d).symm
                · rw [if_neg d]
              · rw [if_neg c34]
            · rw [if_neg t35]
              by_cases c35 : a = 35
              · subst c35
                rw [if_pos rfl]
                by_cases d : k < 25
                · rw [if_pos d]; exact (lf_35 k d).symm
                · rw [if_neg d]
              · rw [if_neg c35]
          · rw [if_neg t36]
            by_cases t37 : a < 37
            · rw [if_pos t37]
              by_cases c36 : a = 36
              · subst c36
                rw [if_pos rfl]
                by_cases d : k < 5
                · rw [if_pos d]; exact (lf_36 k d).symm
                · rw [if_neg d]
              · rw [if_neg c36]
            · rw [if_neg t37]
              by_cases c37 : a = 37
              · subst c37
                rw [if_pos rfl]
                by_cases d : k < 5
                · rw [if_pos d]; exact (lf_37 k d).symm
                · rw [if_neg d]
              · rw [if_neg c37]
      · rw [if_neg t38]
        by_cases t204 : a < 204
        · rw [if_pos t204]
          by_cases t202 : a < 202
          · rw [if_pos t202]
            by_cases t201 : a < 201
            · rw [if_pos t201]
              by_cases c38 : a = 38
              · subst c38
                rw [if_pos rfl]
                by_cases d : k < 3
                · rw [if_pos d]; exact (lf_38 k d).symm
                · rw [if_neg d]
              · rw [if_neg c38]
            · rw [if_neg t201]
              by_cases c201 : a = 201
              · subst c201
                rw [if_pos rfl]
                by_cases d : k < 3
                · rw [if_pos d]; exact (lf_201 k d).symm
                · rw [if_neg d]
              · rw [if_neg c201]
          · rw [if_neg t202]
            by_cases t203 : a < 203
            · rw [if_pos t203]
              by_cases c202 : a = 202
              · subst c202
                rw [if_pos rfl]
                by_cases d : k < 20
                · rw [if_pos d]; exact (lf_202 k d).symm
                · rw [if_neg d]
              · rw [if_neg c202]
            · rw [if_neg t203]
              by_cases c203 : a = 203
              · subst c203
                rw [if_pos rfl]
                by_cases d : k < 20
                · rw [if_pos d]; exact (lf_203 k d).symm
                · rw [if_neg d]
              · rw [if_neg c203]
        · rw [if_neg t204]
          by_cases t206 : a < 206
          · rw [if_pos t206]
            by_cases t205 : a < 205
            · rw [if_pos t205]
              by_cases c204 : a = 204
              · subst c204
                rw [if_pos rfl]
                by_cases d : k < 7
                · rw [if_pos d]; exact (lf_204 k d).symm
                · rw [if_neg d]
              · rw [if_neg c204]
            · rw [if_neg t205]
              by_cases c205 : a = 205
              · subst c205
                rw [if_pos rfl]
                by_cases d : k < 60
                · rw [if_pos d]; exact (lf_205 k d).symm
                · rw [if_neg d]
              · rw [if_neg c205]
          · rw [if_neg t206]
            by_cases t207 : a < 207
            · rw [if_pos t207]
              by_cases c206 : a = 206
              · subst c206
                rw [if_pos rfl]
                by_cases d : k < 101
                · rw [if_pos d]; exact (lf_206 k d).symm
                · rw [if_neg d]
              · rw [if_neg c206]
            · rw [if_neg t207]
              by_cases c207 : a = 207
              · subst c207
                rw [if_pos rfl]
                by_cases d : k < 5
                · rw [if_pos d]; exact (lf_207 k d).symm
                · rw [if_neg d]
              · rw [if_neg c207]
  · rw [if_neg t208]
    by_cases t250 : a < 250
    · rw [if_pos t250]
      by_cases t235 : a < 235
      · rw [if_pos t235]
        by_cases t211 : a < 211
        · rw [if_pos t211]
          by_cases t209 : a < 209
          · rw [if_pos t209]
            by_cases c208 : a = 208
            · subst c208
              rw [if_pos rfl]
              by_cases d : k < 25
              · rw [if_pos d]; exact (lf_208 k d).symm
              · rw [if_neg d]
            · rw [if_neg c208]
          · rw [if_neg t209]
            by_cases t210 : a < 210
            · rw [if_pos t210]
              by_cases c209 : a = 209
              · subst c209
                rw [if_pos rfl]
                by_cases d : k < 50
                · rw [if_pos d]; exact (lf_209 k d).symm
                · rw [if_neg d]
              · rw [if_neg c209]
            · rw [if_neg t210]
              by_cases c210 : a = 210
              · subst c210
                rw [if_pos rfl]
                by_cases d : k < 50
                · rw [if_pos d]; exact (lf_210 k d).symm
                · rw [if_neg d]
              · rw [if_neg c210]
        · rw [if_neg t211]
          by_cases t213 : a < 213
          · rw [if_pos t213]
            by_cases t212 : a < 212
            · rw [if_pos t212]
              by_cases c211 : a = 211
              · subst c211
                rw [if_pos rfl]
                by_cases d : k < 4
                · rw [if_pos d]; exact (lf_211 k d).symm
                · rw [if_neg d]
              · rw [if_neg c211]
            · rw [if_neg t212]
              by_cases c212 : a = 212
              · subst c212
                rw [if_pos rfl]
                by_cases d : k < 5
                · rw [if_pos d]; exact (lf_212 k d).symm
                · rw [if_neg d]
              · rw [if_neg c212]
          · rw [if_neg t213]
            by_cases t226 : a < 226
            · rw [if_pos t226]
              by_cases c213 : a = 213
              · subst c213
                rw [if_pos rfl]
                by_cases d : k < 5
                · rw [if_pos d]; exact (lf_213 k d).symm
                · rw [if_neg d]
              · rw [if_neg c213]
            · rw [if_neg t226]
              by_cases c226 : a = 226
              · subst c226
                rw [if_pos rfl]
                by_cases d : k < 70
                · rw [if_pos d]; exact (lf_226 k d).symm
                · rw [if_neg d]
              · rw [if_neg c226]
      · rw [if_neg t235]
        by_cases t242 : a < 242
        · rw [if_pos t242]
          by_cases t236 : a < 236
          · rw [if_pos t236]
            by_cases c235 : a = 235
            · subst c235
              rw [if_pos rfl]
              by_cases d : k < 2
              · rw [if_pos d]; exact (lf_235 k d).symm
              · rw [if_neg d]
            · rw [if_neg c235]
          · rw [if_neg t236]
            by_cases t237 : a < 237
            · rw [if_pos t237]
              by_cases c236 : a = 236
              · subst c236
                rw [if_pos rfl]
                by_cases d : k < 2
                · rw [if_pos d]; exact (lf_236 k d).symm
                · rw [if_neg d]
              · rw [if_neg c236]
            · rw [if_neg t237]
              by_cases c237 : a = 237
              · subst c237
                rw [if_pos rfl]
                by_cases d : k < 2
                · rw [if_pos d]; exact (lf_237 k d).symm
                · rw [if_neg d]
              · rw [if_neg c237]
        · rw [if_neg t242]
          by_cases t248 : a < 248
          · rw [if_pos t248]
            by_cases t245 : a < 245
            · rw [if_pos t245]
              by_cases c242 : a = 242
              · subst c242
                rw [if_pos rfl]
                by_cases d : k < 2
                · rw [if_pos d]; exact (lf_242 k d).symm
                · rw [if_neg d]
              · rw [if_neg c242]
            · rw [if_neg t245]
              by_cases c245 : a = 245
              · subst c245
                rw [if_pos rfl]
                by_cases d : k < 2
                · rw [if_pos d]; exact (lf_245 k d).symm
                · rw [if_neg d]
              · rw [if_neg c245]
          · rw [if_neg t248]
            by_cases t249 : a < 249
            · rw [if_pos t249]
              by_cases c248 : a = 248
              · subst c248
                rw [if_pos rfl]
                by_cases d : k < 2
                · rw [if_pos d]; exact (lf_248 k d).symm
                · rw [if_neg d]
              · rw [if_neg c248]
            · rw [if_neg t249]
              by_cases c249 : a = 249
              · subst c249
                rw [if_pos rfl]
                by_cases d : k < 2
                · rw [if_pos d]; exact (lf_249 k d).symm
                · rw [if_neg d]
              · rw [if_neg c249]
    · rw [if_neg t250]
      by_cases t267 : a < 267
      · rw [if_pos t267]
        by_cases t262 : a < 262
        · rw [if_pos t262]
          by_cases t251 : a < 251
          · rw [if_pos t251]
            by_cases c250 : a = 250
            · subst c250
              rw [if_pos rfl]
              by_cases d : k < 8
              · rw [if_pos d]; exact (lf_250 k d).symm
              · rw [if_neg d]
            · rw [if_neg c250]
          · rw [if_neg t251]
            by_cases t260 : a < 260
            · rw [if_pos t260]
              by_cases c251 : a = 251
              · subst c251
                rw [if_pos rfl]
                by_cases d : k < 8
                · rw [if_pos d]; exact (lf_251 k d).symm
                · rw [if_neg d]
              · rw [if_neg c251]
            · rw [if_neg t260]
              by_cases c260 : a = 260
              · subst c260
                rw [if_pos rfl]
                by_cases d : k < 9
                · rw [if_pos d]; exact (lf_260 k d).symm
                · rw [if_neg d]
              · rw [if_neg c260]
        · rw [if_neg t262]
          by_cases t264 : a < 264
          · rw [if_pos t264]
            by_cases t263 : a < 263
            · rw [if_pos t263]
              by_cases c262 : a = 262
              · subst c262
                rw [if_pos rfl]
                by_cases d : k < 63
                · rw [if_pos d]; exact (lf_262 k d).symm
                · rw [if_neg d]
              · rw [if_neg c262]
            · rw [if_neg t263]
              by_cases c263 : a = 263
              · subst c263
                rw [if_pos rfl]
                by_cases d : k < 63
                · rw [if_pos d]; exact (lf_263 k d).symm
                · rw [if_neg d]
              · rw [if_neg c263]
          · rw [if_neg t264]
            by_cases t265 : a < 265
            · rw [if_pos t265]
              by_cases c264 : a = 264
              · subst c264
                rw [if_pos rfl]
                by_cases d : k < 125
                · rw [if_pos d]; exact (lf_264 k d).symm
                · rw [if_neg d]
              · rw [if_neg c264]
            · rw [if_neg t265]
              by_cases c265 : a = 265
              · subst c265
                rw [if_pos rfl]
                by_cases d : k < 5
                · rw [if_pos d]; exact (lf_265 k d).symm
                · rw [if_neg d]
              · rw [if_neg c265]
      · rw [if_neg t267]
        by_cases t271 : a < 271
        · rw [if_pos t271]
          by_cases t269 : a < 269
          · rw [if_pos t269]
            by_cases t268 : a < 268
            · rw [if_pos t268]
              by_cases c267 : a = 267
              · subst c267
                rw [if_pos rfl]
                by_cases d : k < 101
                · rw [if_pos d]; exact (lf_267 k d).symm
                · rw [if_neg d]
              · rw [if_neg c267]
            · rw [if_neg t268]
              by_cases c268 : a = 268
              · subst c268
                rw [if_pos rfl]
                by_cases d : k < 101
                · rw [if_pos d]; exact (lf_268 k d).symm
                · rw [if_neg d]
              · rw [if_neg c268]
          · rw [if_neg t269]
            by_cases t270 : a < 270
            · rw [if_pos t270]
              by_cases c269 : a = 269
              · subst c269
                rw [if_pos rfl]
                by_cases d : k < 101
                · rw [if_pos d]; exact (lf_269 k d).symm
                · rw [if_neg d]
              · rw [if_neg c269]
            · rw [if_neg t270]
              by_cases c270 : a = 270
              · subst c270
                rw [if_pos rfl]
                by_cases d : k < 32
                · rw [if_pos d]; exact (lf_270 k d).symm
                · rw [if_neg d]
              · rw [if_neg c270]
        · rw [if_neg t271]
          by_cases t273 : a < 273
          · rw [if_pos t273]
            by_cases t272 : a < 272
            · rw [if_pos t272]
              by_cases c271 : a = 271
              · subst c271
                rw [if_pos rfl]
                by_cases d : k < 20
                · rw [if_pos d]; exact (lf_271 k d).symm
                · rw [if_neg d]
              · rw [if_neg c271]
            · rw [if_neg t272]
              by_cases c272 : a = 272
              · subst c272
                rw [if_pos rfl]
                by_cases d : k < 20
                · rw [if_pos d]; exact (lf_272 k d).symm
                · rw [if_neg d]
              · rw [if_neg c272]
          · rw [if_neg t273]
            by_cases t274 : a < 274
            · rw [if_pos t274]
              by_cases c273 : a = 273
              · subst c273
                rw [if_pos rfl]
                by_cases d : k < 3
                · rw [if_pos d]; exact (lf_273 k d).symm
                · rw [if_neg d]
              · rw [if_neg c273]
            · rw [if_neg t274]
              by_cases c274 : a = 274
              · subst c274
                rw [if_pos rfl]
                by_cases d : k < 189
                · rw [if_pos d]; exact (lf_274 k d).symm
                · rw [if_neg d]
              · rw [if_neg c274]
def hk_F : Hp := (275, hr hk_Z, ovI (hi hk_Z), hl hk_Z)
theorem hp_eta (h : Hp) : h = (hn h, hr h, hi h, hl h) := rfl
theorem ov_eq {h : Hp} {f : Nat → Nat → Int32} (e1 : hn h = 275) (e2 : f = hi h) : h = (275, hr h, f, hl h) := by
  subst e2
  rw [← e1]
  exact hp_eta h
theorem hk_eq : hk_Z = hk_F := ov_eq gZ.1 (funext fun a => funext fun k => ov_all a k)
theorem gF : G hk_F := by
  rw [← hk_eq]
  exact gZ
