-- ===== the law from its entry =====
theorem z_arr {ty : FieldType} {args : Array Value} {s : State} (h : (Cond.arrayClass ty).before args s = true) (hno : ∀ C, ty ≠ .object C) : ∃ cA, ArrOfT s cA ty ∧ va_RA s cA ty := by
  obtain ⟨cA, kA, comp, h1, h2, h3⟩ := Cond.arrayClass_spec h
  refine ⟨cA, fun n z => ⟨fun k h => (by cases h), kA, h2, comp, h3⟩, ?_⟩
  cases ty with
  | object C => exact absurd rfl (hno C)
  | _ => exact h1
theorem z_nl_in : ∀ q ∈ z_nl, Cond.fieldLinkNest q.1 q.2.1 q.2.2.1 q.2.2.2.1 q.2.2.2.2 "HouseBells" ∈ lw_tbl := by decide +kernel
theorem z_sl_in : ∀ q ∈ z_sl, Cond.stringRef "HouseBells" q.1 q.2 ∈ lw_tbl := by decide +kernel
theorem z_sl_ex : ∀ q ∈ z_sl, Cond.exactly (Term.string "HouseBells" q.1) "java/lang/String" ∈ flatC (Jvm.Cond.and given_1 narrow_1) := by decide +kernel
theorem z_dl_in : ∀ y ∈ z_dl, Cond.declares y ∈ lw_tbl := by decide +kernel
theorem z_ca_in : ∀ k, k < 3 → Cond.castable (z_en k) (z_en k) ∈ lw_tbl := by decide +kernel
theorem z_nc_in : ∀ q ∈ [((1 : Nat), (0 : Nat)), (0, 2), (1, 2)], Cond.not (.castable (z_en q.1) (z_en q.2)) ∈ flatC (Jvm.Cond.and given_1 narrow_1) := by decide +kernel
theorem z_ls_in : Cond.laysStatic Bundle.tN "UNASSIGNED_STACK" Bundle.steD ∈ lw_tbl ∧ Cond.laysStatic Bundle.tN "SUPPRESSED_SENTINEL" Bundle.listD ∈ lw_tbl ∧ Cond.initialized Bundle.tN ∈ lw_tbl := by decide +kernel
theorem z_is_in : Cond.isRef (.static Bundle.tN "UNASSIGNED_STACK" Bundle.steD) ∈ flatC (Jvm.Cond.and given_1 narrow_1) ∧ Cond.isRef (.static Bundle.tN "SUPPRESSED_SENTINEL" Bundle.listD) ∈ flatC (Jvm.Cond.and given_1 narrow_1) := by decide +kernel
theorem z_in_in : Cond.instantiable RX0 15 ∈ lw_tbl ∧ Cond.instantiable RX1 2 ∈ lw_tbl ∧ Cond.instantiable RX2 1 ∈ lw_tbl ∧ Cond.instantiable RX3 6 ∈ lw_tbl ∧ Cond.instantiable RX4 2 ∈ lw_tbl ∧ Cond.instantiable RX5 11 ∈ lw_tbl := by decide +kernel
theorem z_ac_in : Cond.arrayClass .int ∈ lw_tbl ∧ Cond.arrayClass .boolean ∈ lw_tbl ∧ Cond.arrayClass .long ∈ lw_tbl := by decide +kernel
theorem z_lw_in : Cond.classLink RL 8 RX4 ∈ lw_tbl ∧ Cond.classLink RL 95 RX5 ∈ lw_tbl ∧ Cond.initialized RX4 ∈ lw_tbl ∧ Cond.initialized RX5 ∈ lw_tbl ∧ Cond.methodLink RL 94 yX4_init ∈ lw_tbl ∧ Cond.methodLink RL 97 yX5_init ∈ lw_tbl ∧ Cond.instanceMethod yX4_init ∈ lw_tbl ∧ Cond.instanceMethod yX5_init ∈ lw_tbl := by decide +kernel
/-- what the entry gives, gathered -/
theorem z_LC_of {p : Program} {s : State} {m : MethodId} {meth : Method} {c : Code} {l : Launch} (hflags : l.flags = flags0) {b L : Nat} {xs : Nat → Int32} (hL : L ≤ 2048) (C0 : lw_At p s m meth c b L xs) : ∃ X : z_X, z_LC p l s m meth c X b L xs := by
  obtain ⟨hx, hb, hr, hml, hown, hts, hX, hbl, hlocks, hgv⟩ := C0
  have hfl := flat_of_before _ hgv
  obtain ⟨i0, i1, i2, i3, i4, i5⟩ := z_in_in
  obtain ⟨c0, iS0, hKn0⟩ := u_known (C := RX0) (T := TX0) (N := 15) (n := 15) hts inX0 (hts _ i0)
  obtain ⟨c1, iS1, hKn1⟩ := u_known (C := RX1) (T := TX1) (N := 2) (n := 2) hts inX1 (hts _ i1)
  obtain ⟨c2, iS2, hKn2⟩ := u_known (C := RX2) (T := TX2) (N := 1) (n := 1) hts inX2 (hts _ i2)
  obtain ⟨c3, iS3, hKn3⟩ := u_known (C := RX3) (T := TX3) (N := 6) (n := 6) hts inX3 (hts _ i3)
  obtain ⟨c4, iS4, hKn4⟩ := u_known (C := RX4) (T := TX4) (N := 2) (n := 2) hts inX4 (hts _ i4)
  obtain ⟨c5, iS5, hKn5⟩ := u_known (C := RX5) (T := TX5) (N := 11) (n := 11) hts inX5 (hts _ i5)
  obtain ⟨dC, dI, hKc⟩ : ∃ (dC : Nat → ClassId) (dI : Nat → Nat → Nat), ∀ (k : Nat) (q : vw_C), vwCl[k]? = some q → u_Kn s q.1 q.2.1 q.2.2 (dC k) (dI k) := by
    refine ⟨fun k => match k with | 0 => c0 | 1 => c1 | 2 => c2 | 3 => c3 | 4 => c4 | _ => c5, fun k => match k with | 0 => iS0 | 1 => iS1 | 2 => iS2 | 3 => iS3 | 4 => iS4 | _ => iS5, ?_⟩
    intro k q hq
    match k, hq with
    | 0, hq => cases hq; exact hKn0
    | 1, hq => cases hq; exact hKn1
    | 2, hq => cases hq; exact hKn2
    | 3, hq => cases hq; exact hKn3
    | 4, hq => cases hq; exact hKn4
    | 5, hq => cases hq; exact hKn5
    | k + 6, hq => simp [vwCl] at hq
  obtain ⟨a0, a1, a2⟩ := z_ac_in
  obtain ⟨cI, hcI⟩ := z_arr (hts _ a0) (fun _ h => nomatch h)
  obtain ⟨cZ, hcZ⟩ := z_arr (hts _ a1) (fun _ h => nomatch h)
  obtain ⟨cJ, hcJ⟩ := z_arr (hts _ a2) (fun _ h => nomatch h)
  obtain ⟨l1, l2, l3⟩ := z_ls_in
  obtain ⟨r1, r2⟩ := z_is_in
  refine ⟨((dC, dI), cI, cZ, cJ), hx, hb, hml, hown, fun w h => hts w (wsL_law_in w h), ⟨hKc, fun k q hq => ?_⟩, fun q hq => va_Nw.of rfl (hts _ (z_nl_in q hq)), hX, hbl, ⟨⟨fun y hy => va_Nw.of rfl (hts _ (z_dl_in y hy)), fun k hk => va_Nw.of rfl (hts _ (z_ca_in k hk)), ⟨va_Nc.of (hfl _ (z_nc_in (1, 0) (by decide))), va_Nc.of (hfl _ (z_nc_in (0, 2) (by decide))), va_Nc.of (hfl _ (z_nc_in (1, 2) (by decide)))⟩, fun q hq => ?_⟩, vx_Zqof (hts _ l1) (hts _ l3) (hfl _ r1) (fun a h => Nat.not_le.mpr h), vx_Zqof (hts _ l2) (hts _ l3) (hfl _ r2) (fun a h => Nat.not_le.mpr h)⟩, by unfold Launch.stackTraces; rw [hflags]; decide, hL⟩
  · match k, hq with
    | 0, hq => cases hq; exact hcI
    | 1, hq => cases hq; exact hcZ
    | 2, hq => cases hq; exact hcJ
    | k + 3, hq => simp [z_ty] at hq
  · obtain ⟨a, _, _, _, he, _⟩ := Cond.exactly_spec (hfl _ (z_sl_ex q hq))
    exact ⟨a, vk_R.of (hts _ (z_sl_in q hq)) he⟩
set_option maxHeartbeats 4000000 in
set_option maxRecDepth 100000 in
theorem whole_start_of {p : Program} {e : Env} {s : State} {m : MethodId} {below : List Frame} {meth : Method} {c : Code} (l : Launch) {b L : Nat} {xs : Nat → Int32} {X : z_X} (C : z_LC p l s m meth c X b L xs) (Rl : z_B → z_M → Prop) (hsim : z_Sim Rl) (hR0 : Rl (z_h0, z_h0) z_m0) {Q : State → Prop} (hini : ∀ w ∈ [Cond.instantiable RX4 2, Cond.instantiable RX5 11, Cond.arrayClass .long, Cond.classLink RL 8 RX4, Cond.classLink RL 95 RX5, Cond.initialized RX4, Cond.initialized RX5, Cond.methodLink RL 94 yX4_init, Cond.methodLink RL 97 yX5_init, Cond.instanceMethod yX4_init, Cond.instanceMethod yX5_init], w.before #[Value.ref b] s = true) (hend : ∀ (kc ks : Nat) (H : Heap) (locs : List Loc) (ls : Array Slot), kc ≤ room_1.cells → ks ≤ room_1.slots → va_S (fun q : Nat => s.heap.size ≤ q) s.heap H locs → W p l e room_1 s m #[Value.ref b] below meth c H locs kc ks Q (F0 m 1911 ls [])) : W p l e room_1 s m #[Value.ref b] below meth c s.heap [] 0 0 Q (entryFrame m ([Value.ref b] : List Value).toArray 9) := by
  obtain ⟨hx, hb, hml, hown, hts, hK, hN, hX, hbl, hT0, hl0, hL⟩ := id C
  have hA : ∀ q : Nat, s.heap.size ≤ q → (fun q : Nat => s.heap.size ≤ q) q := fun _ h => h
  have S : CallFix p m c cL_law 9 s #[Value.ref b] wsL_law RL := ⟨hx, hb, hml, hown, hts⟩
  have w0 : ∀ (i : Nat) {w : Cond}, ([Cond.instantiable RX4 2, Cond.instantiable RX5 11, Cond.arrayClass .long, Cond.classLink RL 8 RX4, Cond.classLink RL 95 RX5, Cond.initialized RX4, Cond.initialized RX5, Cond.methodLink RL 94 yX4_init, Cond.methodLink RL 97 yX5_init, Cond.instanceMethod yX4_init, Cond.instanceMethod yX5_init] : List Cond)[i]? = some w → w.before #[Value.ref b] s = true := fun i _ h => hini _ (List.mem_of_getElem? (i := i) h)
  have hS : va_S (fun q : Nat => s.heap.size ≤ q) s.heap s.heap [] := va_S.rf
  have hP : va_P X.1 vwCl [] s.heap := fun k q h => by simp at h
  have hD : va_D (fun q : Nat => s.heap.size ≤ q) [] := ⟨fun i j p q h => by simp at h, fun k q h => by simp at h⟩
  have hl := lv_entry ([.ref b]) (n := 9) (Nat.le_of_ble_eq_true rfl)
  rw [lg_entry_eq]
  generalize (lg_sl ([.ref b]) ++ List.replicate (9 - (lg_sl ([.ref b])).length) Slot.unset).toArray = ls at hl ⊢
  have hl : lv_has ls 9 [(0, .ref b)] := hl
  have in_X4 : ∀ w ∈ wsX40, w ∈ wsL_law := inlX4
  have in_X5 : ∀ w ∈ wsX50, w ∈ wsL_law := inlX5
  refine va_new (pc := 0) (ci := 4) (fs := [.null, .null]) (C := RX4) (T := TX4) (N := 2) hx hb hts in_X4 tyX4 tyX4_ok hown (w0 3 rfl) (w0 0 rfl) (w0 5 rfl) hK hP hD hS hA rfl (fun j hj => by rcases (show j = 0 ∨ j = 1 by omega) with rfl | rfl <;> rfl) (Nat.le_of_ble_eq_true rfl) (Nat.le_of_ble_eq_true rfl) dL_law_0 (fun a H hP hD hS => ?_)
  have hP : va_P X.1 vwCl [(a, .inr (4, [.null, .null]))] H := hP
  have hD : va_D (fun q : Nat => s.heap.size ≤ q) [(a, .inr (4, [.null, .null]))] := hD
  refine W.widen (k := 1) (n := 2) (Nat.le_of_ble_eq_true rfl) (Nat.le_of_ble_eq_true rfl) ?_
  refine lv_dup (pc := 3) hx hb dL_law_3 rfl ?_
  refine z_caV (pc := 4) (wr := []) S (m_X4_init l X a) (cwI 0 hts gL_law_X4_init rfl rfl rfl (w0 5 rfl) (w0 7 rfl) (w0 9 rfl) rfl hdX4_init ⟨Nat.le_of_ble_eq_true rfl, Nat.le_of_ble_eq_true rfl⟩) hP hK hN hD hS hA [0] [] rfl rfl rfl rfl (by decide) ⟨Nat.le_of_ble_eq_true rfl, Nat.le_of_ble_eq_true rfl⟩ rfl hl.1 rfl (Nat.le_of_ble_eq_true rfl) dL_law_4 (fun u H locs hu hP hD hS => ?_)
  obtain ⟨d, d2, rfl⟩ := hu
  have hP : va_P X.1 vwCl (z_wB X a d d2 (z_h0, z_h0)) H := hP
  have hD : va_D (fun q : Nat => s.heap.size ≤ q) (z_wB X a d d2 (z_h0, z_h0)) := hD
  refine W.widen (k := 53) (n := 358) (Nat.le_of_ble_eq_true rfl) (Nat.le_of_ble_eq_true rfl) ?_
  refine lv_astore_n (pc := 7) (lv' := [(1, .ref a), (0, .ref b)]) hx hb dL_law_7 rfl hl (by decide) rfl (fun ls hl => ?_)
  refine va_new (pc := 8) (ci := 5) (fs := [.int 0, .int 0, .int 0, .null, .null, .null, .null, .null, .null, .null, .null]) (C := RX5) (T := TX5) (N := 11) hx hb hts in_X5 tyX5 tyX5_ok hown (w0 4 rfl) (w0 1 rfl) (w0 6 rfl) hK hP hD hS hA rfl (fun j hj => by rcases (show j = 0 ∨ j = 1 ∨ j = 2 ∨ j = 3 ∨ j = 4 ∨ j = 5 ∨ j = 6 ∨ j = 7 ∨ j = 8 ∨ j = 9 ∨ j = 10 by omega) with rfl | rfl | rfl | rfl | rfl | rfl | rfl | rfl | rfl | rfl | rfl <;> rfl) (Nat.le_of_ble_eq_true rfl) (Nat.le_of_ble_eq_true rfl) dL_law_8 (fun am H hP hD hS => ?_)
  refine W.widen (k := 54) (n := 369) (Nat.le_of_ble_eq_true rfl) (Nat.le_of_ble_eq_true rfl) ?_
  refine lv_dup (pc := 11) hx hb dL_law_11 rfl ?_
  refine z_caV (pc := 12) (wr := z_wB X a d d2 (z_h0, z_h0)) S (m_X5_init l X am) (cwI 0 hts gL_law_X5_init rfl rfl rfl (w0 6 rfl) (w0 8 rfl) (w0 10 rfl) rfl hdX5_init ⟨Nat.le_of_ble_eq_true rfl, Nat.le_of_ble_eq_true rfl⟩) hP hK hN hD hS hA [53] [0, 1, 2, 3, 4, 5, 6, 7, 8, 9, 10, 11, 12, 13, 14, 15, 16, 17, 18, 19, 20, 21, 22, 23, 24, 25, 26, 27, 28, 29, 30, 31, 32, 33, 34, 35, 36, 37, 38, 39, 40, 41, 42, 43, 44, 45, 46, 47, 48, 49, 50, 51, 52] rfl rfl rfl rfl (by decide) ⟨Nat.le_of_ble_eq_true rfl, Nat.le_of_ble_eq_true rfl⟩ rfl hl.1 rfl (Nat.le_of_ble_eq_true rfl) dL_law_12 (fun u H locs hu hP1 hD1 hS1 => ?_)
  obtain ⟨dm, hdm, rfl⟩ := hu
  subst hdm
  have hP := hP1
  have hD := hD1
  have hS := hS1
  refine W.widen (k := 62) (n := 545) (Nat.le_of_ble_eq_true rfl) (Nat.le_of_ble_eq_true rfl) ?_
  refine lv_astore_n (pc := 15) (lv' := [(2, .ref (dm 0)), (1, .ref a), (0, .ref b)]) hx hb dL_law_15 rfl hl (by decide) rfl (fun ls hl => ?_)
  refine lv_iconst (v := 1) (pc := 16) hx hb dL_law_16 (by decide) ?_
  refine z_newa (pc := 17) (atype := .long) (ty := .long) (N' := 1) (a0 := (1, .inr (.inl (fun _ => 0)))) hx hb (w0 2 rfl) rfl hK hP hD hS hA 2 rfl (fun _ h => nomatch h) (fun _ => rfl) (by decide) rfl (by decide) (Nat.le_of_ble_eq_true rfl) (Nat.le_of_ble_eq_true rfl) dL_law_17 (fun o H hP hD hS => ?_)
  refine W.widen (k := 63) (n := 546) (Nat.le_of_ble_eq_true rfl) (Nat.le_of_ble_eq_true rfl) ?_
  have hP : va_P X.1 vwCl (z_wLw X a d d2 (z_h0, z_h0) o (fun _ => 0) dm z_m0) H := z_subP hP [0, 1, 2, 3, 4, 5, 6, 7, 8, 9, 10, 11, 12, 13, 14, 15, 16, 17, 18, 19, 20, 21, 22, 23, 24, 25, 26, 27, 28, 29, 30, 31, 32, 33, 34, 35, 36, 37, 38, 39, 40, 41, 42, 43, 44, 45, 46, 47, 48, 49, 50, 51, 52, 62, 53, 54, 55, 56, 57, 58, 59, 60, 61] rfl
  have hD : va_D (fun q : Nat => s.heap.size ≤ q) (z_wLw X a d d2 (z_h0, z_h0) o (fun _ => 0) dm z_m0) := hD.sub [0, 1, 2, 3, 4, 5, 6, 7, 8, 9, 10, 11, 12, 13, 14, 15, 16, 17, 18, 19, 20, 21, 22, 23, 24, 25, 26, 27, 28, 29, 30, 31, 32, 33, 34, 35, 36, 37, 38, 39, 40, 41, 42, 43, 44, 45, 46, 47, 48, 49, 50, 51, 52, 62, 53, 54, 55, 56, 57, 58, 59, 60, 61] rfl rfl
  refine lv_astore_n (pc := 19) (lv' := [(3, .ref o), (2, .ref (dm 0)), (1, .ref a), (0, .ref b)]) hx hb dL_law_19 rfl hl (by decide) rfl (fun ls hl => ?_)
  refine lv_iconst (v := 0) (pc := 20) hx hb dL_law_20 (by decide) ?_
  refine lv_istore (pc := 21) (lv' := [(4, .int (nI 0)), (3, .ref o), (2, .ref (dm 0)), (1, .ref a), (0, .ref b)]) hx hb dL_law_21 hl (by decide) rfl (fun ls hl => ?_)
  exact law_loop C Rl hsim hend 513 0 63 546 (z_h0, z_h0) (fun _ => 0) z_m0 H _ ls (Nat.zero_le L) (by omega) (Nat.le_of_ble_eq_true rfl) (Nat.le_of_ble_eq_true rfl) hR0 hP hD hS (lv_sub hl [4, 3, 2, 1, 0] rfl)
