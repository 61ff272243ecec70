-- ===== words at the law's entry =====
theorem z_nl_in : ∀ q ∈ z_nl, Cond.fieldLinkNest q.1 q.2.1 q.2.2.1 q.2.2.2.1 q.2.2.2.2 "HouseBells" ∈ lw_tbl := by decide +kernel
theorem z_sl_in : ∀ q ∈ z_sl, Cond.stringRef "HouseBells" q.1 q.2 ∈ lw_tbl := by decide +kernel
theorem z_sl_ex : ∀ q ∈ z_sl, Cond.exactly (Term.string "HouseBells" q.1) "java/lang/String" ∈ flatC (Jvm.Cond.and given_1 narrow_1) := by decide +kernel
theorem z_dl_in : ∀ y ∈ z_dl, Cond.declares y ∈ lw_tbl := by decide +kernel
theorem z_ca_in : ∀ k, k < 3 → Cond.castable (z_en k) (z_en k) ∈ lw_tbl := by decide +kernel
theorem z_nc_in : ∀ q ∈ [((0 : Nat), (1 : Nat)), (2, 1)], Cond.not (.castable (z_en q.1) (z_en q.2)) ∈ flatC (Jvm.Cond.and given_1 narrow_1) := by decide +kernel
theorem z_ls_in : Cond.laysStatic Bundle.tN "UNASSIGNED_STACK" Bundle.steD ∈ lw_tbl ∧ Cond.laysStatic Bundle.tN "SUPPRESSED_SENTINEL" Bundle.listD ∈ lw_tbl ∧ Cond.initialized Bundle.tN ∈ lw_tbl := by decide +kernel
theorem z_is_in : Cond.isRef (.static Bundle.tN "UNASSIGNED_STACK" Bundle.steD) ∈ flatC (Jvm.Cond.and given_1 narrow_1) ∧ Cond.isRef (.static Bundle.tN "SUPPRESSED_SENTINEL" Bundle.listD) ∈ flatC (Jvm.Cond.and given_1 narrow_1) := by decide +kernel
theorem z_in_in : Cond.instantiable RX0 15 ∈ lw_tbl ∧ Cond.instantiable RX1 2 ∈ lw_tbl ∧ Cond.instantiable RX2 1 ∈ lw_tbl ∧ Cond.instantiable RX3 6 ∈ lw_tbl ∧ Cond.instantiable RX4 2 ∈ lw_tbl ∧ Cond.instantiable RX5 9 ∈ lw_tbl := by decide +kernel
theorem z_ac_in : Cond.arrayClass .int ∈ lw_tbl ∧ Cond.arrayClass .boolean ∈ lw_tbl ∧ Cond.arrayOver (.array .int) ∈ lw_tbl := by decide +kernel
theorem z_lw_in : Cond.classLink RL 29 RX4 ∈ lw_tbl ∧ Cond.initialized RX4 ∈ lw_tbl ∧ Cond.methodLink RL 95 yX4_init ∈ lw_tbl ∧ Cond.instanceMethod yX4_init ∈ lw_tbl ∧ Cond.methodLinkNest RL 85 yX5_init "HouseBellsLaw" ∈ lw_tbl ∧ Cond.castable "[I" "java/lang/Cloneable" ∈ lw_tbl := by decide +kernel
