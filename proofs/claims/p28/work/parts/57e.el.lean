def elC (j : Nat) : Cond := Cond.eq (.elem (.field (.string "BandstandLawn$Tokens" 36) "java/lang/String" "value" "[B") (.int (Int32.ofNat j))) (.int (wByt.getD j 0))
theorem el_drop : (flatC (Jvm.Cond.and given_1 narrow_1)).drop 13 = (List.range 115).map elC := by decide +kernel
theorem el_all (j : Nat) (hj : j < 115) : elC j ∈ flatC (Jvm.Cond.and given_1 narrow_1) := by
  refine List.mem_of_mem_drop (i := 13) ?_
  rw [el_drop]
  exact List.mem_map_of_mem (List.mem_range.mpr hj)

