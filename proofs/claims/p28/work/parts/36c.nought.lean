/-! WHAT IS MADE: rows of nought -/
def Z0 (a : Nat) (h : Hp) : Prop := ∀ k, hi h a k = 0
section ZZ
variable {a : Nat} {h : Hp}
theorem z_E : Z0 a hE := fun _ => rfl
theorem z_mk (z : Z0 a h) : Z0 a (mkH h) := by
  intro k
  show upA (hi h) (hn h) (fun _ => 0) a k = 0
  unfold upA
  by_cases q : a = hn h
  · rw [if_pos q]
  · rw [if_neg q]; exact z k
theorem z_R {x k : Nat} {v : Option Nat} (z : Z0 a h) : Z0 a (wrR h x k v) := fun k' => z k'
theorem z_I {x k : Nat} {v : Int32} (n : a ≠ x) (z : Z0 a h) : Z0 a (wrI h x k v) := by
  intro k'
  rw [hi_wrI, if_neg (fun w => n w.1)]
  exact z k'
theorem z_P {w : Nat → Int64} (z : Z0 a h) : Z0 a (hn h, hr h, hi h, upA (hl h) 19 w) := fun k => z k
theorem z_8 {x : Nat} (n : a ≠ x) (z : Z0 a h) : Z0 a (K8 h x) := by
  unfold K8
  exact z_R (z_mk (z_R (z_mk (z_R (z_mk (z_I n (z_I n (z_I n (z_I n z)))))))))
theorem z_lay (ha : a ≠ 24) : ∀ (n : Nat) (h : Hp) (l1 l2 l3 : Int32) (q : Hp), W2_X3_lay n 17 h l1 l2 l3 = some q → Z0 a h → Z0 a q := by
  intro n
  induction n with
  | zero => intro h l1 l2 l3 q e z; cases e
  | succ n ih =>
    intro h l1 l2 l3 q e z
    unfold W2_X3_lay at e
    rw [if_pos rfl] at e
    split at e
    · obtain rfl := Option.some.inj e
      exact z_I ha z
    · exact ih _ _ _ _ _ e (z_I ha z)
theorem z_begin {n : Nat} {x : Int32} {q : Hp} (ha : a ≠ 27) (e : F2_X4_begin n h x = some q) (z : Z0 a h) : Z0 a q := by
  unfold F2_X4_begin at e
  split at e
  · obtain rfl := Option.some.inj e; exact z
  · split at e
    · obtain rfl := Option.some.inj e; exact z
    · split at e
      · obtain rfl := Option.some.inj e; exact z_I ha z
      · cases e
theorem z_add {n : Nat} {x : Int32} {q : Hp} (ha : a ≠ 25) (hb : a ≠ 26) (e : F2_X4_add n h x = some q) (z : Z0 a h) : Z0 a q := by
  unfold F2_X4_add at e
  split at e
  · obtain rfl := Option.some.inj e; exact z
  · split at e
    · obtain rfl := Option.some.inj e; exact z_I ha (z_I hb z)
    · cases e
theorem z_clear {n : Nat} {q : Hp} (ha : 29 < a) (e : F2_X0_clear n h = some q) (z : Z0 a h) : Z0 a q := by
  unfold F2_X0_clear at e
  obtain ⟨q1, e1, e⟩ := Option.bind_eq_some_iff.mp e
  obtain ⟨q3, e3, e⟩ := Option.bind_eq_some_iff.mp e
  obtain rfl := Option.some.inj e
  have z1 : Z0 a q1 := z_lay (by omega) n _ _ _ _ q1 e1 (z_I (by omega) (z_I (by omega) (z_I (by omega) z)))
  unfold F2_X4_clear at e3
  obtain ⟨p1, f1, e3⟩ := Option.bind_eq_some_iff.mp e3
  obtain ⟨p2, f2, e3⟩ := Option.bind_eq_some_iff.mp e3
  obtain ⟨p3, f3, e3⟩ := Option.bind_eq_some_iff.mp e3
  obtain ⟨p4, f4, e3⟩ := Option.bind_eq_some_iff.mp e3
  obtain ⟨p5, f5, e3⟩ := Option.bind_eq_some_iff.mp e3
  obtain ⟨p6, f6, e3⟩ := Option.bind_eq_some_iff.mp e3
  obtain ⟨p7, f7, e3⟩ := Option.bind_eq_some_iff.mp e3
  obtain ⟨p8, f8, e3⟩ := Option.bind_eq_some_iff.mp e3
  obtain rfl := Option.some.inj e3
  have y0 : Z0 a (wrI q1 25 3 0) := z_I (by omega) z1
  have y1 := z_begin (by omega) f1 y0
  have y2 := z_begin (by omega) f2 y1
  have y3 := z_add (by omega) (by omega) f3 y2
  have y4 := z_add (by omega) (by omega) f4 y3
  have y5 := z_begin (by omega) f5 y4
  have y6 := z_begin (by omega) f6 y5
  have y7 := z_add (by omega) (by omega) f7 y6
  have y8 := z_add (by omega) (by omega) f8 y7
  exact z_I (by omega) (z_I (by omega) (z_I (by omega) y8))
end ZZ
def z4 (a : Nat) : Prop := a = 209 ∨ a = 210 ∨ a = 229 ∨ a = 265
theorem ne_0 {a : Nat} (c : z4 a) : a ≠ 0 := by unfold z4 at c; omega
theorem ne_2 {a : Nat} (c : z4 a) : a ≠ 2 := by unfold z4 at c; omega
theorem ne_3 {a : Nat} (c : z4 a) : a ≠ 3 := by unfold z4 at c; omega
theorem ne_4 {a : Nat} (c : z4 a) : a ≠ 4 := by unfold z4 at c; omega
theorem ne_5 {a : Nat} (c : z4 a) : a ≠ 5 := by unfold z4 at c; omega
theorem ne_10 {a : Nat} (c : z4 a) : a ≠ 10 := by unfold z4 at c; omega
theorem ne_18 {a : Nat} (c : z4 a) : a ≠ 18 := by unfold z4 at c; omega
theorem ne_23 {a : Nat} (c : z4 a) : a ≠ 23 := by unfold z4 at c; omega
theorem ne_24 {a : Nat} (c : z4 a) : a ≠ 24 := by unfold z4 at c; omega
theorem ne_25 {a : Nat} (c : z4 a) : a ≠ 25 := by unfold z4 at c; omega
theorem ne_30 {a : Nat} (c : z4 a) : a ≠ 30 := by unfold z4 at c; omega
theorem ne_34 {a : Nat} (c : z4 a) : a ≠ 34 := by unfold z4 at c; omega
theorem ne_38 {a : Nat} (c : z4 a) : a ≠ 38 := by unfold z4 at c; omega
theorem ne_40 {a : Nat} (c : z4 a) : a ≠ 40 := by unfold z4 at c; omega
theorem ne_44 {a : Nat} (c : z4 a) : a ≠ 44 := by unfold z4 at c; omega
theorem ne_48 {a : Nat} (c : z4 a) : a ≠ 48 := by unfold z4 at c; omega
theorem ne_52 {a : Nat} (c : z4 a) : a ≠ 52 := by unfold z4 at c; omega
theorem ne_56 {a : Nat} (c : z4 a) : a ≠ 56 := by unfold z4 at c; omega
theorem ne_60 {a : Nat} (c : z4 a) : a ≠ 60 := by unfold z4 at c; omega
theorem ne_64 {a : Nat} (c : z4 a) : a ≠ 64 := by unfold z4 at c; omega
theorem ne_68 {a : Nat} (c : z4 a) : a ≠ 68 := by unfold z4 at c; omega
theorem ne_72 {a : Nat} (c : z4 a) : a ≠ 72 := by unfold z4 at c; omega
theorem ne_76 {a : Nat} (c : z4 a) : a ≠ 76 := by unfold z4 at c; omega
theorem ne_80 {a : Nat} (c : z4 a) : a ≠ 80 := by unfold z4 at c; omega
theorem ne_84 {a : Nat} (c : z4 a) : a ≠ 84 := by unfold z4 at c; omega
theorem ne_88 {a : Nat} (c : z4 a) : a ≠ 88 := by unfold z4 at c; omega
theorem ne_92 {a : Nat} (c : z4 a) : a ≠ 92 := by unfold z4 at c; omega
theorem ne_96 {a : Nat} (c : z4 a) : a ≠ 96 := by unfold z4 at c; omega
theorem ne_100 {a : Nat} (c : z4 a) : a ≠ 100 := by unfold z4 at c; omega
theorem ne_104 {a : Nat} (c : z4 a) : a ≠ 104 := by unfold z4 at c; omega
theorem ne_108 {a : Nat} (c : z4 a) : a ≠ 108 := by unfold z4 at c; omega
theorem ne_112 {a : Nat} (c : z4 a) : a ≠ 112 := by unfold z4 at c; omega
theorem ne_116 {a : Nat} (c : z4 a) : a ≠ 116 := by unfold z4 at c; omega
theorem ne_120 {a : Nat} (c : z4 a) : a ≠ 120 := by unfold z4 at c; omega
theorem ne_124 {a : Nat} (c : z4 a) : a ≠ 124 := by unfold z4 at c; omega
theorem ne_128 {a : Nat} (c : z4 a) : a ≠ 128 := by unfold z4 at c; omega
theorem ne_132 {a : Nat} (c : z4 a) : a ≠ 132 := by unfold z4 at c; omega
theorem ne_136 {a : Nat} (c : z4 a) : a ≠ 136 := by unfold z4 at c; omega
theorem ne_140 {a : Nat} (c : z4 a) : a ≠ 140 := by unfold z4 at c; omega
theorem ne_144 {a : Nat} (c : z4 a) : a ≠ 144 := by unfold z4 at c; omega
theorem ne_148 {a : Nat} (c : z4 a) : a ≠ 148 := by unfold z4 at c; omega
theorem ne_152 {a : Nat} (c : z4 a) : a ≠ 152 := by unfold z4 at c; omega
theorem ne_156 {a : Nat} (c : z4 a) : a ≠ 156 := by unfold z4 at c; omega
theorem ne_160 {a : Nat} (c : z4 a) : a ≠ 160 := by unfold z4 at c; omega
theorem ne_164 {a : Nat} (c : z4 a) : a ≠ 164 := by unfold z4 at c; omega
theorem ne_168 {a : Nat} (c : z4 a) : a ≠ 168 := by unfold z4 at c; omega
theorem ne_172 {a : Nat} (c : z4 a) : a ≠ 172 := by unfold z4 at c; omega
theorem ne_176 {a : Nat} (c : z4 a) : a ≠ 176 := by unfold z4 at c; omega
theorem ne_180 {a : Nat} (c : z4 a) : a ≠ 180 := by unfold z4 at c; omega
theorem ne_184 {a : Nat} (c : z4 a) : a ≠ 184 := by unfold z4 at c; omega
theorem ne_188 {a : Nat} (c : z4 a) : a ≠ 188 := by unfold z4 at c; omega
theorem ne_192 {a : Nat} (c : z4 a) : a ≠ 192 := by unfold z4 at c; omega
theorem ne_196 {a : Nat} (c : z4 a) : a ≠ 196 := by unfold z4 at c; omega
theorem ne_201 {a : Nat} (c : z4 a) : a ≠ 201 := by unfold z4 at c; omega
theorem ne_204 {a : Nat} (c : z4 a) : a ≠ 204 := by unfold z4 at c; omega
theorem ne_207 {a : Nat} (c : z4 a) : a ≠ 207 := by unfold z4 at c; omega
theorem ne_211 {a : Nat} (c : z4 a) : a ≠ 211 := by unfold z4 at c; omega
theorem ne_214 {a : Nat} (c : z4 a) : a ≠ 214 := by unfold z4 at c; omega
theorem ne_218 {a : Nat} (c : z4 a) : a ≠ 218 := by unfold z4 at c; omega
theorem ne_222 {a : Nat} (c : z4 a) : a ≠ 222 := by unfold z4 at c; omega
theorem ne_226 {a : Nat} (c : z4 a) : a ≠ 226 := by unfold z4 at c; omega
theorem zh_0 {a : Nat} (c : z4 a) : Z0 a hk_0 := z_mk (z_E)
theorem zh_1 {a : Nat} (c : z4 a) : Z0 a hk_1 := z_mk (z_I (ne_0 c) (z_I (ne_0 c) (z_R (z_mk (zh_0 c)))))
theorem zh_2 {a : Nat} (c : z4 a) : Z0 a hk_2 := z_mk (zh_1 c)
theorem zh_3 {a : Nat} (c : z4 a) : Z0 a hk_3 := z_mk (zh_2 c)
theorem zh_4 {a : Nat} (c : z4 a) : Z0 a hk_4 := z_I (ne_4 c) (z_I (ne_4 c) (z_I (ne_4 c) (z_I (ne_4 c) (zh_3 c))))
theorem zh_5 {a : Nat} (c : z4 a) : Z0 a hk_5 := z_mk (z_R (zh_4 c))
theorem zh_6 {a : Nat} (c : z4 a) : Z0 a hk_6 := z_I (ne_5 c) (z_R (z_mk (z_R (z_mk (z_R (z_mk (zh_5 c)))))))
theorem zh_7 {a : Nat} (c : z4 a) : Z0 a hk_7 := z_R (z_mk (z_I (ne_3 c) (z_I (ne_3 c) (z_I (ne_3 c) (z_R (zh_6 c))))))
theorem zh_8 {a : Nat} (c : z4 a) : Z0 a hk_8 := z_mk (z_I (ne_2 c) (z_I (ne_2 c) (z_I (ne_2 c) (z_R (z_mk (z_R (z_mk (z_R (z_mk (z_R (z_mk (z_I (ne_2 c) (z_I (ne_2 c) (z_I (ne_2 c) (z_I (ne_2 c) (z_I (ne_2 c) (z_R (z_8 (ne_10 c) (z_mk (z_R (zh_7 c)))))))))))))))))))))
theorem zh_P {a : Nat} (c : z4 a) : Z0 a hk_P := z_R (z_I (ne_18 c) (z_I (ne_18 c) (z_R (z_mk (z_R (z_mk (z_R (z_mk (z_R (z_mk (zh_8 c)))))))))))
theorem zh_T {a : Nat} (c : z4 a) : Z0 a hk_T := z_P (zh_P c)
theorem zh_9 {a : Nat} (c : z4 a) : Z0 a hk_9 := z_R (zh_T c)
theorem zh_10 {a : Nat} (c : z4 a) : Z0 a hk_10 := z_mk (z_R (zh_9 c))
theorem zh_11 {a : Nat} (c : z4 a) : Z0 a hk_11 := z_mk (zh_10 c)
theorem zh_12 {a : Nat} (c : z4 a) : Z0 a hk_12 := z_I (ne_24 c) (z_I (ne_24 c) (z_I (ne_24 c) (z_I (ne_24 c) (zh_11 c))))
theorem zh_13 {a : Nat} (c : z4 a) : Z0 a hk_13 := z_mk (z_R (zh_12 c))
theorem zh_14 {a : Nat} (c : z4 a) : Z0 a hk_14 := z_I (ne_25 c) (z_R (z_mk (z_R (z_mk (z_R (z_mk (zh_13 c)))))))
theorem zh_15 {a : Nat} (c : z4 a) : Z0 a hk_15 := z_R (z_mk (z_I (ne_23 c) (z_I (ne_23 c) (z_I (ne_23 c) (z_R (zh_14 c))))))
theorem zh_16 {a : Nat} (c : z4 a) : Z0 a hk_16 := z_mk (z_R (z_8 (ne_34 c) (z_mk (z_R (z_8 (ne_30 c) (z_mk (z_R (z_R (zh_15 c)))))))))
theorem zh_17 {a : Nat} (c : z4 a) : Z0 a hk_17 := z_8 (ne_80 c) (z_mk (z_R (z_8 (ne_76 c) (z_mk (z_R (z_8 (ne_72 c) (z_mk (z_R (z_8 (ne_68 c) (z_mk (z_R (z_8 (ne_64 c) (z_mk (z_R (z_8 (ne_60 c) (z_mk (z_R (z_8 (ne_56 c) (z_mk (z_R (z_8 (ne_52 c) (z_mk (z_R (z_8 (ne_48 c) (z_mk (z_R (z_8 (ne_44 c) (z_mk (z_R (z_8 (ne_40 c) (z_mk (z_I (ne_38 c) (z_I (ne_38 c) (z_R (z_mk (zh_16 c))))))))))))))))))))))))))))))))))))
theorem zh_18 {a : Nat} (c : z4 a) : Z0 a hk_18 := z_8 (ne_124 c) (z_mk (z_R (z_8 (ne_120 c) (z_mk (z_R (z_8 (ne_116 c) (z_mk (z_R (z_8 (ne_112 c) (z_mk (z_R (z_8 (ne_108 c) (z_mk (z_R (z_8 (ne_104 c) (z_mk (z_R (z_8 (ne_100 c) (z_mk (z_R (z_8 (ne_96 c) (z_mk (z_R (z_8 (ne_92 c) (z_mk (z_R (z_8 (ne_88 c) (z_mk (z_R (z_8 (ne_84 c) (z_mk (z_R (zh_17 c)))))))))))))))))))))))))))))))))
theorem zh_19 {a : Nat} (c : z4 a) : Z0 a hk_19 := z_8 (ne_168 c) (z_mk (z_R (z_8 (ne_164 c) (z_mk (z_R (z_8 (ne_160 c) (z_mk (z_R (z_8 (ne_156 c) (z_mk (z_R (z_8 (ne_152 c) (z_mk (z_R (z_8 (ne_148 c) (z_mk (z_R (z_8 (ne_144 c) (z_mk (z_R (z_8 (ne_140 c) (z_mk (z_R (z_8 (ne_136 c) (z_mk (z_R (z_8 (ne_132 c) (z_mk (z_R (z_8 (ne_128 c) (z_mk (z_R (zh_18 c)))))))))))))))))))))))))))))))))
theorem zh_20 {a : Nat} (c : z4 a) : Z0 a hk_20 := z_R (z_8 (ne_196 c) (z_mk (z_R (z_8 (ne_192 c) (z_mk (z_R (z_8 (ne_188 c) (z_mk (z_R (z_8 (ne_184 c) (z_mk (z_R (z_8 (ne_180 c) (z_mk (z_R (z_8 (ne_176 c) (z_mk (z_R (z_8 (ne_172 c) (z_mk (z_R (zh_19 c))))))))))))))))))))))
theorem zh_21 {a : Nat} (c : z4 a) : Z0 a hk_21 := z_mk (z_I (ne_0 c) (z_R (z_mk (z_R (zh_20 c)))))
theorem zh_22 {a : Nat} (c : z4 a) : Z0 a hk_22 := z_I (ne_201 c) (z_R (z_mk (z_R (z_mk (zh_21 c)))))
theorem zh_23 {a : Nat} (c : z4 a) : Z0 a hk_23 := z_mk (z_R (zh_22 c))
theorem zh_24 {a : Nat} (c : z4 a) : Z0 a hk_24 := z_R (z_I (ne_204 c) (z_I (ne_204 c) (z_I (ne_204 c) (z_I (ne_204 c) (z_R (z_mk (z_R (z_mk (zh_23 c)))))))))
theorem zh_25 {a : Nat} (c : z4 a) : Z0 a hk_25 := z_mk (z_R (zh_24 c))
theorem zh_26 {a : Nat} (c : z4 a) : Z0 a hk_26 := z_R (z_I (ne_207 c) (z_R (z_mk (z_R (z_mk (z_R (z_mk (zh_25 c))))))))
theorem zh_27 {a : Nat} (c : z4 a) : Z0 a hk_27 := z_mk (z_R (zh_26 c))
theorem zh_28 {a : Nat} (c : z4 a) : Z0 a hk_28 := z_R (z_I (ne_211 c) (z_R (z_mk (z_R (z_mk (zh_27 c))))))
theorem zh_29 {a : Nat} (c : z4 a) : Z0 a hk_29 := z_R (z_8 (ne_222 c) (z_mk (z_R (z_8 (ne_218 c) (z_mk (z_R (z_8 (ne_214 c) (z_mk (z_R (zh_28 c))))))))))
theorem zh_C {a : Nat} (c : z4 a) : Z0 a hk_C := z_clear (by unfold z4 at c; omega) (ogetD hE some0) (zh_29 c)
theorem zh_30 {a : Nat} (c : z4 a) : Z0 a hk_30 := zh_C c
theorem zh_500 {a : Nat} (c : z4 a) : Z0 a hk_500 := z_mk (zh_30 c)
theorem zh_501 {a : Nat} (c : z4 a) : Z0 a hk_501 := z_R (z_mk (z_R (z_mk (z_R (z_mk (z_I (ne_226 c) (z_R (z_mk (z_R (z_mk (z_R (z_mk (z_R (z_mk (z_R (z_mk (z_R (z_mk (z_R (z_mk (zh_500 c)))))))))))))))))))))
theorem zh_502 {a : Nat} (c : z4 a) : Z0 a hk_502 := z_R (z_mk (z_R (z_mk (z_R (z_mk (z_R (z_mk (z_R (z_mk (z_R (z_mk (z_R (z_mk (z_R (z_mk (z_R (z_mk (z_R (z_mk (zh_501 c))))))))))))))))))))
theorem zh_503 {a : Nat} (c : z4 a) : Z0 a hk_503 := z_R (z_mk (z_R (z_mk (z_R (z_mk (z_R (z_mk (z_R (z_mk (z_R (z_mk (z_R (z_mk (z_R (z_mk (z_R (z_mk (z_R (z_mk (zh_502 c))))))))))))))))))))
theorem zh_504 {a : Nat} (c : z4 a) : Z0 a hk_504 := z_R (z_mk (z_R (z_mk (z_R (z_mk (z_R (z_mk (z_R (z_mk (z_R (z_mk (z_R (z_mk (z_R (z_mk (z_R (z_mk (z_R (z_mk (zh_503 c))))))))))))))))))))
theorem zh_505 {a : Nat} (c : z4 a) : Z0 a hk_505 := z_R (z_mk (z_R (z_mk (z_R (z_mk (z_R (z_mk (z_R (z_mk (z_R (z_mk (z_R (z_mk (z_R (z_mk (zh_504 c))))))))))))))))
