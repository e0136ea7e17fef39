/-! WHAT A TEXT TELLS: the reference, a statement each -/
theorem Pc.yt {α : Type} {o : Option α} {F : α → Hp} {A : α → Prop} {f : α → Option Hp} {P : Hp → Prop} (h1 : Pc o (fun x => ZR (F x) → A x)) (h2 : ∀ x, ZR (F x) → A x → Pc (f x) (fun q => ZR q → P q)) (h3 : ∀ x, Pc (f x) (fun q => zr (F x) q)) : Pc (o.bind f) (fun q => ZR q → P q) := by
  refine Pc.bind h1 (fun x a => ?_)
  by_cases z : ZR (F x)
  · exact h2 x z (a z)
  · exact (h3 x).mono (fun q m y => absurd (m.1 y) z)
/-- where the reference stands -/
def rX (N : Nat) (kd pl vl : Nat → Int) (s t B c : Nat) (h : Hp) : Prop := rlI N kd pl vl s t B c h ∧ (hi h 226 15).toInt = 0
def rtW (s : Nat) (p : Int × Int) (h : Hp) : Prop := (hi h 235 s).toInt = p.1 ∧ (hi h 236 s).toInt = p.2
def rtT (s : Nat) (l : List ((Int × Int) × (Int × Int))) (h : Hp) : Prop := (hi h 237 s).toInt = (l.length : Int) ∧ ∀ k, k < l.length → (hi h 238 (8 * s + k)).toInt = (l.getD k ((0, 0), (0, 0))).1.1 ∧ (hi h 239 (8 * s + k)).toInt = (l.getD k ((0, 0), (0, 0))).1.2 ∧ (hi h 240 (8 * s + k)).toInt = (l.getD k ((0, 0), (0, 0))).2.1 ∧ (hi h 241 (8 * s + k)).toInt = (l.getD k ((0, 0), (0, 0))).2.2
def rtG (s : Nat) (l : List (Int × Int)) (h : Hp) : Prop := (hi h 242 s).toInt = (l.length : Int) ∧ (hi h 226 20).toInt = (l.length : Int) ∧ ∀ k, k < l.length → (hi h 243 (5 * s + k)).toInt = (l.getD k (0, 0)).1 ∧ (hi h 244 (5 * s + k)).toInt = (l.getD k (0, 0)).2
def rtR (s : Nat) (l : List (Int × Int)) (h : Hp) : Prop := (hi h 245 s).toInt = (l.length : Int) ∧ ∀ k, k < l.length → (hi h 246 (8 * s + k)).toInt = (l.getD k (0, 0)).1 ∧ (hi h 247 (8 * s + k)).toInt = (l.getD k (0, 0)).2
def rtN (s : Nat) (p : Int × Int) (h : Hp) : Prop := (hi h 248 s).toInt = p.1 ∧ (hi h 249 s).toInt = p.2
/-- the laws: not told, or laid down below branch B and code c -/
def rtL (s : Nat) (f : Nat → Option LWS) (B c : Nat) (h : Hp) : Prop := ∀ k, k < 4 → (f k = none → (hi h 250 (4 * s + k)).toInt = (hi h 251 (4 * s + k)).toInt) ∧ ∀ b, f k = some b → ∃ D : Nat, (hi h 250 (4 * s + k)).toInt = (D : Int) ∧ (hi h 251 (4 * s + k)).toInt = ((D + b.1.length + 1 : Nat) : Int) ∧ D + b.1.length + 1 ≤ B ∧ rlB h c D b.1 b.2
def rD (s : Nat) (T : TT) (B c : Nat) (h : Hp) : Prop := (rtW s T.lw h ∧ rtT s T.tn h ∧ rtG s T.go h ∧ rtR s T.ro h ∧ rtN s T.ws h) ∧ rtL s T.la B c h ∧ T.tn.length ≤ 8 ∧ T.go.length ≤ 5 ∧ T.ro.length ≤ 8
section RDs
variable {h q : Hp} {s : Nat}
theorem rtW.cg {p : Int × Int} (a : rtW s p h) (e : hi q 235 s = hi h 235 s) (e2 : hi q 236 s = hi h 236 s) : rtW s p q := by unfold rtW at *; rw [e, e2]; exact a
theorem rtT.cg {l : List ((Int × Int) × (Int × Int))} (a : rtT s l h) (e : ∀ x k, 237 ≤ x → x ≤ 241 → hi q x k = hi h x k) : rtT s l q := ⟨by rw [e 237 _ (by decide) (by decide)]; exact a.1, fun k hk => by rw [e 238 _ (by decide) (by decide), e 239 _ (by decide) (by decide), e 240 _ (by decide) (by decide), e 241 _ (by decide) (by decide)]; exact a.2 k hk⟩
theorem rtG.cg {l : List (Int × Int)} (a : rtG s l h) (e : ∀ x k, 242 ≤ x → x ≤ 244 → hi q x k = hi h x k) (e2 : hi q 226 20 = hi h 226 20) : rtG s l q := ⟨by rw [e 242 _ (by decide) (by decide)]; exact a.1, by rw [e2]; exact a.2.1, fun k hk => by rw [e 243 _ (by decide) (by decide), e 244 _ (by decide) (by decide)]; exact a.2.2 k hk⟩
theorem rtR.cg {l : List (Int × Int)} (a : rtR s l h) (e : ∀ x k, 245 ≤ x → x ≤ 247 → hi q x k = hi h x k) : rtR s l q := ⟨by rw [e 245 _ (by decide) (by decide)]; exact a.1, fun k hk => by rw [e 246 _ (by decide) (by decide), e 247 _ (by decide) (by decide)]; exact a.2 k hk⟩
theorem rtN.cg {p : Int × Int} (a : rtN s p h) (e : hi q 248 s = hi h 248 s) (e2 : hi q 249 s = hi h 249 s) : rtN s p q := by unfold rtN at *; rw [e, e2]; exact a
theorem rtL.cg {f : Nat → Option LWS} {B c B' c' : Nat} (a : rtL s f B c h) (hB : B ≤ B') (hc : c ≤ c') (e0 : ∀ k, k < 4 → hi q 250 (4 * s + k) = hi h 250 (4 * s + k) ∧ hi q 251 (4 * s + k) = hi h 251 (4 * s + k)) (e1 : ∀ x j, 252 ≤ x → x ≤ 256 → j < B → hi q x j = hi h x j) (e2 : ∀ j, j < c → hi q 257 j = hi h 257 j ∧ hi q 258 j = hi h 258 j) : rtL s f B' c' q := by
  intro k hk
  rw [(e0 k hk).1, (e0 k hk).2]
  refine ⟨(a k hk).1, fun b hb => ?_⟩
  obtain ⟨D, d1, d2, d3, d4⟩ := (a k hk).2 b hb
  exact ⟨D, d1, d2, by omega, d4.cg hc (fun x j h1 h2 h3 h4 => e1 x j h1 h2 (by omega)) e2⟩
end RDs
section RS
variable {N : Nat} {kd pl vl : Nat → Int} {s t B c : Nat} {h : Hp} {n : Nat}
theorem rX.w (a : rX N kd pl vl s t B c h) {x k : Nat} {v : Int32} (hx : 233 ≤ x) : rX N kd pl vl s t B c (wrI h x k v) := by
  have e (y z : Nat) (n : y < 233) : hi (wrI h x k v) y z = hi h y z := by rw [hi_wrI, if_neg (by omega)]
  obtain ⟨⟨⟨a1, a2, a3, a4⟩, a5, a6, a7⟩, a8⟩ := a
  refine ⟨⟨⟨a1.cg ⟨fun z => e 229 z (by decide), fun z => e 230 z (by decide), fun z => e 231 z (by decide)⟩, a2, ?_, ?_⟩, ?_, ?_, ?_⟩, ?_⟩
  · unfold rT
    rw [e 226 13 (by decide), e 226 11 (by decide), e 226 14 (by decide)]
    exact a3
  · rw [e 226 12 (by decide)]; exact a4
  · rw [e 226 39 (by decide)]; exact a5
  · rw [e 226 45 (by decide)]; exact a6
  · rw [e 226 19 (by decide)]; exact a7
  · rw [e 226 15 (by decide)]; exact a8
theorem yz_must (X : TX N kd pl vl) (a : rX N kd pl vl s t B c h) {x1 : Int32} (k : Int) (hk : k ∈ vdL) (hx : x1.toInt = rk k) (k2 : k ≠ 32) : Pc (F_X12_must n h x1) (fun q => ZR q → rX N kd pl vl s (t + 1) B c q ∧ kd t = k ∧ frQ h q ∧ t < 400) := (rz_must X a.1 k hk hx k2).mono (fun q hq z => by
  obtain ⟨b1, b2, b3, b4⟩ := hq z.1
  exact ⟨⟨b1, z.2⟩, b2, b3, b4⟩)
theorem yz_goes (X : TX N kd pl vl) (a : rX N kd pl vl s t B c h) (k2 : kd t ≠ 32) : Pc (F_X12_goesOn n h) (fun q => ZR q → rX N kd pl vl s (t + 1) B c q ∧ frQ h q ∧ t < 400) := (rz_goes X a.1 k2).mono (fun q hq z => by
  obtain ⟨b1, b2, b3⟩ := hq z.1
  exact ⟨⟨b1, z.2⟩, b2, b3⟩)
theorem yz_num (X : TX N kd pl vl) (a : rX N kd pl vl s t B c h) {x1 x2 : Int32} {lo up : Int} (h1 : x1.toInt = lo) (h2 : x2.toInt = up) : Pc (F_X12_bounded n h x1 x2) (fun q => ZR q.2 → rX N kd pl vl s (t + 1) B c q.2 ∧ kd t = 30 ∧ frW h q.2 ∧ q.1.toInt = vl t) := by
  refine (rq_number (s := (0, t, 0, 0)) X a.1.1.1 a.1.1.2.1 ⟨a.1.1.2.2.1, fun _ => ⟨a.2, fun z => absurd rfl z⟩⟩ (x1 := x1) (x2 := x2)).mono (fun q hq z => ?_)
  obtain ⟨b1, b2, b3⟩ := hq
  rw [h1, h2] at b2 b3
  have z1 : (nbQ kd pl vl lo up (0, t, 0, 0)).1 = 0 := by have := b2.1.2.1; have := z.1; omega
  have n1 := nq_0 z1
  have T' := nb_in (s := (0, t, 0, 0)) X a.1.1.2.1 (lo := lo) (up := up)
  rw [n1.2.2] at T'
  have S' := b2.1
  rw [z1, n1.2.2] at S'
  refine ⟨⟨⟨⟨a.1.1.1.cg b1.rt, T', S', ?_⟩, ?_, ?_, ?_⟩, z.2⟩, n1.2.1, b1, b3 z1⟩
  · rw [b1.1 226 12 (by decide)]; exact a.1.1.2.2.2
  · rw [b1.1 226 39 (by decide)]; exact a.1.2.1
  · rw [b1.1 226 45 (by decide)]; exact a.1.2.2.1
  · rw [b1.1 226 19 (by decide)]; exact a.1.2.2.2
/-- a statement told: the reference -/
def rTell (N : Nat) (kd pl vl : Nat → Int) (s : Nat) (T : TT) (t : Nat) (q : Hp) : Prop := ∃ T' t' B' c', STP kd vl T t T' t' ∧ t < t' ∧ rX N kd pl vl s t' B' c' q ∧ rD s T' B' c' q
theorem snd_lt {α : Type} {l : List α} {x d : α} {k : Nat} (h : k < (l ++ [x]).length) : (k = l.length ∧ (l ++ [x]).getD k d = x) ∨ (k < l.length ∧ (l ++ [x]).getD k d = l.getD k d) := by
  have e : (l ++ [x]).length = l.length + 1 := by simp
  by_cases y : k = l.length
  · left
    refine ⟨y, ?_⟩
    rw [y, List.getD_eq_getElem?_getD, List.getElem?_append_right (Nat.le_refl _)]
    simp
  · right
    refine ⟨by omega, ?_⟩
    rw [List.getD_eq_getElem?_getD, List.getD_eq_getElem?_getD, List.getElem?_append_left (by omega)]
theorem side_n (a : rX N kd pl vl s t B c h) : Int32.toNatClampNeg (hi h 226 19) = s := by
  have := a.1.2.2.2
  have := ncT (show 0 ≤ (hi h 226 19).toInt by omega)
  omega
theorem yt_lawn (X : TX N kd pl vl) (a : rX N kd pl vl s t B c h) {T : TT} (d : rD s T B c h) (k9 : kd t = 9) : Pc ((F_X12_goesOn n h).bind (fun q3 => ((F_X12_bounded n q3 2 5).bind (fun q5 => (if ixOK (hi q3 226 19) 2 = true then ((F_X12_bounded n (wrI q5.2 235 (Int32.toNatClampNeg (hi q3 226 19)) q5.1) 2 5).bind (fun q8 => (if ixOK (hi (wrI q5.2 235 (Int32.toNatClampNeg (hi q3 226 19)) q5.1) 226 19) 2 = true then ((F_X12_must n (wrI q8.2 236 (Int32.toNatClampNeg (hi (wrI q5.2 235 (Int32.toNatClampNeg (hi q3 226 19)) q5.1) 226 19)) q8.1) 4).bind (fun q11 => some q11)) else none))) else none))))) (fun q => ZR q → rTell N kd pl vl s T t q) := by
  refine Pc.yt (yz_goes X a (by omega)) (fun q3 _ b => ?_) (fun q => ?_)
  rotate_left
  · (repeat (first | exact Pc.ret (zr.rf _) | exact Pc.ret ((zr.rf _).w (by omega)) | exact Pc.ret (((zr.rf _).w (by omega)).w (by omega)) | exact Pc.ret (((zr.rf _).wL.w (by omega)).w (by omega)) | refine Pc.yb zb_X12_must (fun _ => ?_) | refine Pc.yb zb_X12_bounded (fun _ => ?_) | refine Pc.yb zb_X12_goesOn (fun _ => ?_) | refine Pc.yb zb_X12_tellLaw (fun _ => ?_) | refine Pc.yb zb_X12_tellTune (fun _ => ?_) | refine Pc.yb zb_X12_tellGoer (fun _ => ?_) | refine Pc.yb zb_X12_tellRope (fun _ => ?_) | refine Pc.yb ((zb_X12_must).mono (fun _ m => (((zr.rf _).w (by omega)).tr m))) (fun _ => ?_) | refine Pc.yb ((zb_X12_bounded).mono (fun _ m => (((zr.rf _).w (by omega)).tr m))) (fun _ => ?_) | refine Pc.ite (fun _ => ?_) (fun _ => ?_) | exact Pc.no))
  obtain ⟨b1, b2, b3⟩ := b
  rw [side_n b1]
  refine Pc.yt (yz_num X b1 lit_2 lit_5) (fun q5 _ e => ?_) (fun q => ?_)
  rotate_left
  · (repeat (first | exact Pc.ret (zr.rf _) | exact Pc.ret ((zr.rf _).w (by omega)) | exact Pc.ret (((zr.rf _).w (by omega)).w (by omega)) | exact Pc.ret (((zr.rf _).wL.w (by omega)).w (by omega)) | refine Pc.yb zb_X12_must (fun _ => ?_) | refine Pc.yb zb_X12_bounded (fun _ => ?_) | refine Pc.yb zb_X12_goesOn (fun _ => ?_) | refine Pc.yb zb_X12_tellLaw (fun _ => ?_) | refine Pc.yb zb_X12_tellTune (fun _ => ?_) | refine Pc.yb zb_X12_tellGoer (fun _ => ?_) | refine Pc.yb zb_X12_tellRope (fun _ => ?_) | refine Pc.yb ((zb_X12_must).mono (fun _ m => (((zr.rf _).w (by omega)).tr m))) (fun _ => ?_) | refine Pc.yb ((zb_X12_bounded).mono (fun _ m => (((zr.rf _).w (by omega)).tr m))) (fun _ => ?_) | refine Pc.ite (fun _ => ?_) (fun _ => ?_) | exact Pc.no))
  obtain ⟨e1, e2, e3, e4⟩ := e
  refine Pc.chk (fun _ => ?_)
  have w5 := e1.w (x := 235) (k := s) (v := q5.1) (by decide)
  rw [side_n w5]
  refine Pc.yt (yz_num X w5 lit_2 lit_5) (fun q8 _ g => ?_) (fun q => ?_)
  rotate_left
  · (repeat (first | exact Pc.ret (zr.rf _) | exact Pc.ret ((zr.rf _).w (by omega)) | exact Pc.ret (((zr.rf _).w (by omega)).w (by omega)) | exact Pc.ret (((zr.rf _).wL.w (by omega)).w (by omega)) | refine Pc.yb zb_X12_must (fun _ => ?_) | refine Pc.yb zb_X12_bounded (fun _ => ?_) | refine Pc.yb zb_X12_goesOn (fun _ => ?_) | refine Pc.yb zb_X12_tellLaw (fun _ => ?_) | refine Pc.yb zb_X12_tellTune (fun _ => ?_) | refine Pc.yb zb_X12_tellGoer (fun _ => ?_) | refine Pc.yb zb_X12_tellRope (fun _ => ?_) | refine Pc.yb ((zb_X12_must).mono (fun _ m => (((zr.rf _).w (by omega)).tr m))) (fun _ => ?_) | refine Pc.yb ((zb_X12_bounded).mono (fun _ m => (((zr.rf _).w (by omega)).tr m))) (fun _ => ?_) | refine Pc.ite (fun _ => ?_) (fun _ => ?_) | exact Pc.no))
  obtain ⟨g1, g2, g3, g4⟩ := g
  refine Pc.chk (fun _ => ?_)
  refine Pc.bind (yz_must X (g1.w (x := 236) (k := s) (v := q8.1) (by decide)) 59 (by decide) (by decide) (by decide)) (fun q hq => Pc.ret (fun z => ?_))
  obtain ⟨i1, i2, i3, i4⟩ := hq z
  have r (x k : Nat) (m : 227 ≤ x ∧ x ≠ 235 ∧ x ≠ 236) : hi q x k = hi h x k := by
    rw [i3.1 x k (by omega), hi_wrI, if_neg (by omega), g3.1 x k (by omega), hi_wrI, if_neg (by omega), e3.1 x k (by omega), b2.1 x k (by omega)]
  have r20 : hi q 226 20 = hi h 226 20 := by
    rw [i3.1 226 20 (by decide), hi_wrI, if_neg (by omega), g3.1 226 20 (by decide), hi_wrI, if_neg (by omega), e3.1 226 20 (by decide), b2.1 226 20 (by decide)]
  obtain ⟨⟨d1, d2, d3, d4, d5⟩, d6, d7⟩ := d
  refine ⟨TT.mk (vl (t + 1), vl (t + 2)) T.tn T.go T.ro T.ws T.la, t + 4, B, c, Or.inl ⟨k9, rfl, rfl⟩, by omega, i1, ⟨⟨?_, ?_⟩, d2.cg (fun x k h1 h2 => r x k (by omega)), d3.cg (fun x k h1 h2 => r x k (by omega)) r20, d4.cg (fun x k h1 h2 => r x k (by omega)), d5.cg (r 248 s (by omega)) (r 249 s (by omega))⟩, d6.cg (Nat.le_refl B) (Nat.le_refl c) (fun k _ => ⟨r 250 _ (by omega), r 251 _ (by omega)⟩) (fun x j h1 h2 _ => r x j (by omega)) (fun j _ => ⟨r 257 j (by omega), r 258 j (by omega)⟩), d7⟩
  · rw [i3.1 235 s (by omega), hi_wrI, if_neg (by omega), g3.1 235 s (by omega), hi_wrI, if_pos ⟨rfl, rfl⟩]; exact e4
  · rw [i3.1 236 s (by omega), hi_wrI, if_pos ⟨rfl, rfl⟩]; exact g4
theorem yt_one (X : TX N kd pl vl) (a : rX N kd pl vl s t B c h) {T : TT} (d : rD s T B c h) {lo up : Int32} (k : Int) (hk : kd t = k) {b : Nat} (hb : (k = 17 ∧ b = 248) ∨ (k = 18 ∧ b = 249)) : Pc ((F_X12_goesOn n h).bind (fun q131 => ((F_X12_bounded n q131 lo up).bind (fun q133 => (if ixOK (hi q131 226 19) 2 = true then ((F_X12_must n (wrI q133.2 b (Int32.toNatClampNeg (hi q131 226 19)) q133.1) 4).bind (fun q136 => some q136)) else none))))) (fun q => ZR q → rTell N kd pl vl s T t q) := by
  refine Pc.yt (yz_goes X a (by omega)) (fun q3 _ e => ?_) (fun q => ?_)
  rotate_left
  · (repeat (first | exact Pc.ret (zr.rf _) | exact Pc.ret ((zr.rf _).w (by omega)) | exact Pc.ret (((zr.rf _).w (by omega)).w (by omega)) | exact Pc.ret (((zr.rf _).wL.w (by omega)).w (by omega)) | refine Pc.yb zb_X12_must (fun _ => ?_) | refine Pc.yb zb_X12_bounded (fun _ => ?_) | refine Pc.yb zb_X12_goesOn (fun _ => ?_) | refine Pc.yb zb_X12_tellLaw (fun _ => ?_) | refine Pc.yb zb_X12_tellTune (fun _ => ?_) | refine Pc.yb zb_X12_tellGoer (fun _ => ?_) | refine Pc.yb zb_X12_tellRope (fun _ => ?_) | refine Pc.yb ((zb_X12_must).mono (fun _ m => (((zr.rf _).w (by omega)).tr m))) (fun _ => ?_) | refine Pc.yb ((zb_X12_bounded).mono (fun _ m => (((zr.rf _).w (by omega)).tr m))) (fun _ => ?_) | refine Pc.ite (fun _ => ?_) (fun _ => ?_) | exact Pc.no))
  obtain ⟨b1, b2, b3⟩ := e
  rw [side_n b1]
  refine Pc.yt (yz_num X b1 rfl rfl) (fun q5 _ e => ?_) (fun q => ?_)
  rotate_left
  · (repeat (first | exact Pc.ret (zr.rf _) | exact Pc.ret ((zr.rf _).w (by omega)) | exact Pc.ret (((zr.rf _).w (by omega)).w (by omega)) | exact Pc.ret (((zr.rf _).wL.w (by omega)).w (by omega)) | refine Pc.yb zb_X12_must (fun _ => ?_) | refine Pc.yb zb_X12_bounded (fun _ => ?_) | refine Pc.yb zb_X12_goesOn (fun _ => ?_) | refine Pc.yb zb_X12_tellLaw (fun _ => ?_) | refine Pc.yb zb_X12_tellTune (fun _ => ?_) | refine Pc.yb zb_X12_tellGoer (fun _ => ?_) | refine Pc.yb zb_X12_tellRope (fun _ => ?_) | refine Pc.yb ((zb_X12_must).mono (fun _ m => (((zr.rf _).w (by omega)).tr m))) (fun _ => ?_) | refine Pc.yb ((zb_X12_bounded).mono (fun _ m => (((zr.rf _).w (by omega)).tr m))) (fun _ => ?_) | refine Pc.ite (fun _ => ?_) (fun _ => ?_) | exact Pc.no))
  obtain ⟨e1, e2, e3, e4⟩ := e
  refine Pc.chk (fun _ => ?_)
  refine Pc.bind (yz_must X (e1.w (x := b) (k := s) (v := q5.1) (by omega)) 59 (by decide) (by decide) (by decide)) (fun q hq => Pc.ret (fun z => ?_))
  obtain ⟨i1, i2, i3, i4⟩ := hq z
  have r (x k : Nat) (m : 227 ≤ x ∧ x ≠ b) : hi q x k = hi h x k := by
    rw [i3.1 x k (by omega), hi_wrI, if_neg (by omega), e3.1 x k (by omega), b2.1 x k (by omega)]
  have r20 : hi q 226 20 = hi h 226 20 := by
    rw [i3.1 226 20 (by decide), hi_wrI, if_neg (by omega), e3.1 226 20 (by decide), b2.1 226 20 (by decide)]
  have rb : hi q b s = q5.1 := by rw [i3.1 b s (by omega), hi_wrI, if_pos ⟨rfl, rfl⟩]
  obtain ⟨⟨d1, d2, d3, d4, d5⟩, d6, d7⟩ := d
  have e1' := d1.cg (q := q) (r 235 s (by omega)) (r 236 s (by omega))
  have e2' := d2.cg (q := q) (fun x k h1 h2 => r x k (by omega))
  have e3' := d3.cg (q := q) (fun x k h1 h2 => r x k (by omega)) r20
  have e4' := d4.cg (q := q) (fun x k h1 h2 => r x k (by omega))
  have e6' := d6.cg (q := q) (Nat.le_refl B) (Nat.le_refl c) (fun k _ => ⟨r 250 _ (by omega), r 251 _ (by omega)⟩) (fun x j h1 h2 _ => r x j (by omega)) (fun j _ => ⟨r 257 j (by omega), r 258 j (by omega)⟩)
  rcases hb with ⟨y1, y2⟩ | ⟨y1, y2⟩
  · subst y2
    refine ⟨TT.mk T.lw T.tn T.go T.ro (vl (t + 1), T.ws.2) T.la, t + 3, B, c, Or.inr (Or.inr (Or.inr (Or.inr (Or.inl ⟨by omega, rfl, rfl⟩)))), by omega, i1, ⟨e1', e2', e3', e4', ⟨by rw [rb]; exact e4, by rw [r 249 s (by omega)]; exact d5.2⟩⟩, e6', d7⟩
  · subst y2
    refine ⟨TT.mk T.lw T.tn T.go T.ro (T.ws.1, vl (t + 1)) T.la, t + 3, B, c, Or.inr (Or.inr (Or.inr (Or.inr (Or.inr (Or.inl ⟨by omega, rfl, rfl⟩))))), by omega, i1, ⟨e1', e2', e3', e4', ⟨by rw [r 248 s (by omega)]; exact d5.1, by rw [rb]; exact e4⟩⟩, e6', d7⟩
/-- room for one more -/
theorem yz_room (X : TX N kd pl vl) (a : rX N kd pl vl s t B c h) (k2 : kd t ≠ 32) {x1 x2 : Int32} : Pc (F_X12_roomFor n h x1 x2) (fun q => ZR q → rX N kd pl vl s (t + 1) B c q ∧ frQ h q ∧ t < 400 ∧ x1.toInt ≠ x2.toInt) := by
  have f0 := lit_0
  have f2 := lit_2
  have s1 := a.1.1.2.2.1.2.1
  unfold F_X12_roomFor
  refine Pc.eq (fun e => ?_) (fun e => ?_)
  · refine Pc.bind (pr_fail a.1.1.1 a.1.1.2.1 a.1.1.2.2.1 (by decide)) (fun q5 h5 => ?_)
    have s5 := h5.2
    rw [if_pos rfl, f2] at s5
    have g1 := s5.2.1
    refine Pc.eq (fun c3 => by exfalso; omega) (fun c3 => Pc.ret (fun z => ?_))
    exfalso
    have := z.1
    omega
  · refine Pc.eq (fun _ => ?_) (fun c3 => by exfalso; omega)
    exact Pc.bind (yz_goes X a k2) (fun q3 h3 => Pc.ret (fun z => ⟨(h3 z).1, (h3 z).2.1, (h3 z).2.2, e⟩))
theorem yt_rope (X : TX N kd pl vl) (a : rX N kd pl vl s t B c h) {T : TT} (d : rD s T B c h) (l8 : T.ro.length < 8) (hs : s ≤ 1) {g : Hp} (ag : rX N kd pl vl s (t + 1) B c g) (fg : frQ h g) (k12 : kd t = 12) : Pc (F_X12_tellRope n g) (fun q => ZR q → rTell N kd pl vl s T t q) := by
  have f1 := lit_1
  have f8 := lit_8
  obtain ⟨⟨d1, d2, d3, d4, d5⟩, d6, d7⟩ := d
  have l0 := d4.1
  have g45 : hi g 245 s = hi h 245 s := fg.1 245 s (by omega)
  have g19 := ag.1.2.2.2
  unfold F_X12_tellRope
  rw [side_n ag, g45]
  have m8 := mlT 8 (hi g 226 19) 8 f8 (by omega) (by omega)
  have ad := adT (8 * hi g 226 19) (hi h 245 s) (by omega) (by omega)
  have nn := ncT (show 0 ≤ (8 * hi g 226 19 + hi h 245 s).toInt by omega)
  have nn' : Int32.toNatClampNeg (8 * hi g 226 19 + hi h 245 s) = 8 * s + T.ro.length := by omega
  rw [nn']
  refine Pc.chk (fun _ => ?_)
  refine Pc.yt (yz_num X ag lit_0 lit_4) (fun q2 _ e => ?_) (fun q => ?_)
  rotate_left
  · (repeat (first | exact Pc.ret (zr.rf _) | exact Pc.ret ((zr.rf _).w (by omega)) | exact Pc.ret (((zr.rf _).w (by omega)).w (by omega)) | exact Pc.ret (((zr.rf _).wL.w (by omega)).w (by omega)) | refine Pc.yb zb_X12_must (fun _ => ?_) | refine Pc.yb zb_X12_bounded (fun _ => ?_) | refine Pc.yb zb_X12_goesOn (fun _ => ?_) | refine Pc.yb zb_X12_tellLaw (fun _ => ?_) | refine Pc.yb zb_X12_tellTune (fun _ => ?_) | refine Pc.yb zb_X12_tellGoer (fun _ => ?_) | refine Pc.yb zb_X12_tellRope (fun _ => ?_) | refine Pc.yb ((zb_X12_must).mono (fun _ m => (((zr.rf _).w (by omega)).tr m))) (fun _ => ?_) | refine Pc.yb ((zb_X12_bounded).mono (fun _ m => (((zr.rf _).w (by omega)).tr m))) (fun _ => ?_) | refine Pc.ite (fun _ => ?_) (fun _ => ?_) | exact Pc.no))
  obtain ⟨e1, e2, e3, e4⟩ := e
  refine Pc.chk (fun _ => ?_)
  refine Pc.yt (yz_num X (e1.w (x := 246) (by decide)) lit_0 lit_4) (fun q5 _ e => ?_) (fun q => ?_)
  rotate_left
  · (repeat (first | exact Pc.ret (zr.rf _) | exact Pc.ret ((zr.rf _).w (by omega)) | exact Pc.ret (((zr.rf _).w (by omega)).w (by omega)) | exact Pc.ret (((zr.rf _).wL.w (by omega)).w (by omega)) | refine Pc.yb zb_X12_must (fun _ => ?_) | refine Pc.yb zb_X12_bounded (fun _ => ?_) | refine Pc.yb zb_X12_goesOn (fun _ => ?_) | refine Pc.yb zb_X12_tellLaw (fun _ => ?_) | refine Pc.yb zb_X12_tellTune (fun _ => ?_) | refine Pc.yb zb_X12_tellGoer (fun _ => ?_) | refine Pc.yb zb_X12_tellRope (fun _ => ?_) | refine Pc.yb ((zb_X12_must).mono (fun _ m => (((zr.rf _).w (by omega)).tr m))) (fun _ => ?_) | refine Pc.yb ((zb_X12_bounded).mono (fun _ m => (((zr.rf _).w (by omega)).tr m))) (fun _ => ?_) | refine Pc.ite (fun _ => ?_) (fun _ => ?_) | exact Pc.no))
  obtain ⟨i1, i2, i3, i4⟩ := e
  refine Pc.chk (fun _ => ?_)
  refine Pc.yt (yz_must X (i1.w (x := 247) (by decide)) 59 (by decide) (by decide) (by decide)) (fun q8 z8 e => ?_) (fun q => ?_)
  rotate_left
  · (repeat (first | exact Pc.ret (zr.rf _) | exact Pc.ret ((zr.rf _).w (by omega)) | exact Pc.ret (((zr.rf _).w (by omega)).w (by omega)) | exact Pc.ret (((zr.rf _).wL.w (by omega)).w (by omega)) | refine Pc.yb zb_X12_must (fun _ => ?_) | refine Pc.yb zb_X12_bounded (fun _ => ?_) | refine Pc.yb zb_X12_goesOn (fun _ => ?_) | refine Pc.yb zb_X12_tellLaw (fun _ => ?_) | refine Pc.yb zb_X12_tellTune (fun _ => ?_) | refine Pc.yb zb_X12_tellGoer (fun _ => ?_) | refine Pc.yb zb_X12_tellRope (fun _ => ?_) | refine Pc.yb ((zb_X12_must).mono (fun _ m => (((zr.rf _).w (by omega)).tr m))) (fun _ => ?_) | refine Pc.yb ((zb_X12_bounded).mono (fun _ m => (((zr.rf _).w (by omega)).tr m))) (fun _ => ?_) | refine Pc.ite (fun _ => ?_) (fun _ => ?_) | exact Pc.no))
  obtain ⟨j1, j2, j3, j4⟩ := e
  refine Pc.eq (fun _ => ?_) (fun y => absurd (z8.1.trans lit_0.symm) y)
  rw [side_n j1]
  refine Pc.chk (fun _ => Pc.chk (fun _ => Pc.ret (fun _ => ?_)))
  have r8 (x k : Nat) (m : 227 ≤ x) (m2 : ¬ ((x = 246 ∨ x = 247) ∧ k = 8 * s + T.ro.length)) : hi q8 x k = hi h x k := by
    rw [j3.1 x k (by omega), hi_wrI, if_neg (by omega), i3.1 x k (by omega), hi_wrI, if_neg (by omega), e3.1 x k (by omega), fg.1 x k (by omega)]
  have e8 : hi q8 245 s = hi h 245 s := r8 245 s (by omega) (by omega)
  rw [e8]
  generalize eu : wrI q8 245 s (hi h 245 s + 1) = u
  have ru (x k : Nat) (m : x ≠ 245) : hi u x k = hi q8 x k := hiA eu x k m
  have r (x k : Nat) (m : 227 ≤ x) (m2 : x ≠ 246 ∧ x ≠ 247 ∧ x ≠ 245) : hi u x k = hi h x k := by rw [ru x k m2.2.2, r8 x k m (by omega)]
  have r20 : hi u 226 20 = hi h 226 20 := by
    rw [ru 226 20 (by decide), j3.1 226 20 (by decide), hi_wrI, if_neg (by omega), i3.1 226 20 (by decide), hi_wrI, if_neg (by omega), e3.1 226 20 (by decide), fg.1 226 20 (by decide)]
  have au : rX N kd pl vl s (t + 4) B c u := by rw [← eu]; exact j1.w (by decide)
  have a1 := adT (hi h 245 s) 1 (by omega) (by omega)
  have ll : (T.ro ++ [(vl (t + 1), vl (t + 2))]).length = T.ro.length + 1 := by simp
  refine ⟨TT.mk T.lw T.tn T.go (T.ro ++ [(vl (t + 1), vl (t + 2))]) T.ws T.la, t + 4, B, c, Or.inr (Or.inr (Or.inr (Or.inl ⟨k12, rfl, rfl⟩))), by omega, au, ⟨d1.cg (r 235 s (by omega) (by omega)) (r 236 s (by omega) (by omega)), d2.cg (fun x k h1 h2 => r x k (by omega) (by omega)), d3.cg (fun x k h1 h2 => r x k (by omega) (by omega)) r20, ⟨?_, fun k hk => ?_⟩, d5.cg (r 248 s (by omega) (by omega)) (r 249 s (by omega) (by omega))⟩, d6.cg (Nat.le_refl B) (Nat.le_refl c) (fun k _ => ⟨r 250 _ (by omega) (by omega), r 251 _ (by omega) (by omega)⟩) (fun x j h1 h2 _ => r x j (by omega) (by omega)) (fun j _ => ⟨r 257 j (by omega) (by omega), r 258 j (by omega) (by omega)⟩), d7.1, d7.2.1, (show (T.ro ++ [(vl (t + 1), vl (t + 2))]).length ≤ 8 by omega)⟩
  · show (hi u 245 s).toInt = ((T.ro ++ [(vl (t + 1), vl (t + 2))]).length : Int)
    rw [hiE eu, ll]; omega
  · show (hi u 246 (8 * s + k)).toInt = ((T.ro ++ [(vl (t + 1), vl (t + 2))]).getD k (0, 0)).1 ∧ (hi u 247 (8 * s + k)).toInt = ((T.ro ++ [(vl (t + 1), vl (t + 2))]).getD k (0, 0)).2
    rw [ru 246 _ (by decide), ru 247 _ (by decide)]
    rcases snd_lt (d := ((0 : Int), (0 : Int))) hk with ⟨y1, y2⟩ | ⟨y1, y2⟩
    · rw [y2, y1]
      refine ⟨?_, ?_⟩
      · rw [j3.1 246 _ (by omega), hi_wrI, if_neg (by omega), i3.1 246 _ (by omega), hi_wrI, if_pos ⟨rfl, rfl⟩]; exact e4
      · rw [j3.1 247 _ (by omega), hi_wrI, if_pos ⟨rfl, rfl⟩]; exact i4
    · rw [y2, r8 246 _ (by omega) (by omega), r8 247 _ (by omega) (by omega)]
      exact d4.2 k y1
end RS
