theorem lay_S {sc : Nat} {s : State} (hts : ∀ w ∈ lw_tbl, w.before #[Value.ref sc] s = true) (hgv : (Jvm.Cond.and given_1 narrow_1).before #[Value.ref sc] s = true) : SK s.heap.size s := by
  have hs := flat_of_before _ hgv
  have hA : ∀ a : Nat, a < s.heap.size → ¬ (fun q : Nat => s.heap.size ≤ q) a := fun a ha => Nat.not_le.mpr ha
  obtain ⟨adK, adV, hS, hT⟩ := vk_Sof (args := #[Value.ref sc]) (s := s) (N := 1) (tm := fun _ => .string "BandstandLawn$Tokens" 36) (len := [115]) (byt := [wByt]) (A := fun q : Nat => s.heap.size ≤ q)
    (fun i hi => by rw [show i = 0 by omega]; decide)
    (fun i _ => hs _ (by decide +kernel))
    (fun i _ => hs _ (by decide +kernel))
    (fun i _ => hs _ (by decide +kernel))
    (fun i hi => by rw [show i = 0 by omega]; exact hs _ (by decide +kernel))
    (fun i hi j hj => by
      have hi0 : i = 0 := by omega
      subst hi0
      exact hs _ (el_all j hj))
    (fun i j hi hj hij => absurd (show i = j by omega) hij) hA
  have h1 := va_Zof (v := .int 1) (hts _ ls_compact) (hts _ (gw_tbl in_J0)) (va_eqt (hs (Cond.eq (.static "java/lang/String" "COMPACT_STRINGS" "Z") (.int 1)) (by decide +kernel))) hA
  have h2 := va_Zqof (hts _ (ls_form)) (hts _ (gw_tbl in_J3)) (hs (Cond.isRef (.static "jdk/internal/util/Preconditions" "SIOOBE_FORMATTER" "Ljava/util/function/BiFunction;")) (by decide +kernel)) hA
  have h3 : vk_R RX9 36 wTx (adK 0) s := vk_R.of (hts _ (sr_X9)) (hT 0 (by decide))
  rcases h2 with h2 | ⟨t, h2⟩
  · exact ⟨adK, adV, .null, Or.inl rfl, hS, h3, h1, h2⟩
  · exact ⟨adK, adV, .ref t, Or.inr ⟨t, rfl⟩, hS, h3, h1, h2⟩
theorem start_of {p : Program} {e : Env} {s : State} {m : MethodId} {below : List Frame} {meth : Method} {c : Code} (l : Launch) {b L : Nat} {xs : Nat → Int32} (C0 : lw_At p s m meth c b L xs) (k : VL L xs lv0 0 [] hE) : W p l e room_1 s m #[Value.ref b] below meth c s.heap [] 0 0 (lw_Z below #[Value.ref b] s) (entryFrame m ([Value.ref b] : List Value).toArray 4) := by
  obtain ⟨hx, hb, hr, hml, hown, hts, hX, hbl, hlocks, hgv⟩ := C0
  obtain ⟨D, g, hK⟩ := lay_K hts
  have hSK := lay_S hts hgv
  have hN : ∀ w ∈ nestW, va_Nw w s := fun w hw => va_Nw.of (nest_tabs hw) (hts w (List.mem_append_right _ (List.mem_filter.mp hw).1))
  have hKx : Kx s.heap.size D g s := ⟨hK, hN, va_AO.of (hts _ ao_X8), hSK⟩
  have hl := lv_entry ([.ref b]) (n := 4) (Nat.le_of_ble_eq_true rfl)
  rw [lg_entry_eq]
  exact k l s.heap.size D g p e s m below meth c b s.heap [] _ ⟨hx, hb, hr, hml, hown, hts, hX, hbl, hlocks, hKx, rfl⟩ rfl (fun k q h => by simp [wd, hn, hE] at h) va_S.rf hl
