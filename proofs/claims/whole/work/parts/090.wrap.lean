-- ===== the law's calls, each with its handlers =====
def z_wBO (X : z_X) (a : Nat) (d d2 : Nat → Nat) (B : z_B) (o : Nat) (g : Nat → Int64) : va_W := z_wB X a d d2 B ++ [(o, .inl (X.2.2.2, 1, .inr (.inl g)))]
set_option maxRecDepth 20000 in
theorem s_BO_B (X : z_X) (a : Nat) (d d2 : Nat → Nat) (B : z_B) (o : Nat) (g : Nat → Int64) : z_S (z_wBO X a d d2 B o g) (z_wB X a d d2 B) := ⟨[0, 1, 2, 3, 4, 5, 6, 7, 8, 9, 10, 11, 12, 13, 14, 15, 16, 17, 18, 19, 20, 21, 22, 23, 24, 25, 26, 27, 28, 29, 30, 31, 32, 33, 34, 35, 36, 37, 38, 39, 40, 41, 42, 43, 44, 45, 46, 47, 48, 49, 50, 51, 52], rfl, rfl⟩
set_option maxRecDepth 20000 in
theorem f_BO_B (X : z_X) (a : Nat) (d d2 : Nat → Nat) (B : z_B) (o : Nat) (g : Nat → Int64) (B2 : z_B) : z_F (z_wBO X a d d2 B o g) (z_wB X a d d2 B) (z_wBO X a d d2 B2 o g) (z_wB X a d d2 B2) := ⟨[0, 1, 2, 3, 4, 5, 6, 7, 8, 9, 10, 11, 12, 13, 14, 15, 16, 17, 18, 19, 20, 21, 22, 23, 24, 25, 26, 27, 28, 29, 30, 31, 32, 33, 34, 35, 36, 37, 38, 39, 40, 41, 42, 43, 44, 45, 46, 47, 48, 49, 50, 51, 52], [53], [1, 2, 3, 4, 5, 6, 7, 8, 9, 10, 11, 12, 13, 14, 15, 16, 17, 18, 19, 20, 21, 22, 23, 24, 25, 26, 27, 28, 29, 30, 31, 32, 33, 34, 35, 36, 37, 38, 39, 40, 41, 42, 43, 44, 45, 46, 47, 48, 49, 50, 51, 52, 53, 0], [(o, .inl (X.2.2.2, 1, .inr (.inl g)))], rfl, rfl, rfl, by decide, rfl, rfl⟩
def z_Pt (X : z_X) (w : va_W) (sz : Nat) : State → Prop := fun U => z_Pm X w sz U ∧ z_T z_no U U.heap
def z_eI (l : Launch) (y : MethodName) (ws : List Cond) (fr lo : Nat) (X : z_X) (av : List Value) (w : va_W) (r : Int32) : Prop := ∀ sz : Nat, Met l y ws (z_R1 fr lo) (va_Pc av (z_Pt X w sz)) (va_Qi (fun (z : Int32) (u : va_W) => z = r ∧ u = w) (z_Bm X (va_A w sz)) (va_A w sz)) 1 6 (va_A w sz)
theorem z_in01 : vp_in (0 : Int32) 1 := by unfold vp_in; decide
theorem hdL_addRoom : yL_addRoom.cls ≠ "java/lang/invoke/MethodHandle" ∧ yL_addRoom.cls ≠ "java/lang/invoke/VarHandle" ∧ (parseMethodDescriptor yL_addRoom.desc).map (fun d => d.parameters.length) = some 5 := by decide +kernel
theorem hdL_addServant : yL_addServant.cls ≠ "java/lang/invoke/MethodHandle" ∧ yL_addServant.cls ≠ "java/lang/invoke/VarHandle" ∧ (parseMethodDescriptor yL_addServant.desc).map (fun d => d.parameters.length) = some 3 := by decide +kernel
theorem hdL_ring : yL_ring.cls ≠ "java/lang/invoke/MethodHandle" ∧ yL_ring.cls ≠ "java/lang/invoke/VarHandle" ∧ (parseMethodDescriptor yL_ring.desc).map (fun d => d.parameters.length) = some 3 := by decide +kernel
theorem hdL_cross : yL_cross.cls ≠ "java/lang/invoke/MethodHandle" ∧ yL_cross.cls ≠ "java/lang/invoke/VarHandle" ∧ (parseMethodDescriptor yL_cross.desc).map (fun d => d.parameters.length) = some 4 := by decide +kernel
theorem hdL_cut : yL_cut.cls ≠ "java/lang/invoke/MethodHandle" ∧ yL_cut.cls ≠ "java/lang/invoke/VarHandle" ∧ (parseMethodDescriptor yL_cut.desc).map (fun d => d.parameters.length) = some 3 := by decide +kernel
theorem hdL_mend : yL_mend.cls ≠ "java/lang/invoke/MethodHandle" ∧ yL_mend.cls ≠ "java/lang/invoke/VarHandle" ∧ (parseMethodDescriptor yL_mend.desc).map (fun d => d.parameters.length) = some 3 := by decide +kernel
theorem hdL_recharge : yL_recharge.cls ≠ "java/lang/invoke/MethodHandle" ∧ yL_recharge.cls ≠ "java/lang/invoke/VarHandle" ∧ (parseMethodDescriptor yL_recharge.desc).map (fun d => d.parameters.length) = some 3 := by decide +kernel
theorem hdL_putUp : yL_putUp.cls ≠ "java/lang/invoke/MethodHandle" ∧ yL_putUp.cls ≠ "java/lang/invoke/VarHandle" ∧ (parseMethodDescriptor yL_putUp.desc).map (fun d => d.parameters.length) = some 3 := by decide +kernel
theorem hdL_pass : yL_pass.cls ≠ "java/lang/invoke/MethodHandle" ∧ yL_pass.cls ≠ "java/lang/invoke/VarHandle" ∧ (parseMethodDescriptor yL_pass.desc).map (fun d => d.parameters.length) = some 3 := by decide +kernel
theorem hdL_dropOf : yL_dropOf.cls ≠ "java/lang/invoke/MethodHandle" ∧ yL_dropOf.cls ≠ "java/lang/invoke/VarHandle" ∧ (parseMethodDescriptor yL_dropOf.desc).map (fun d => d.parameters.length) = some 3 := by decide +kernel
theorem hdL_roomOf : yL_roomOf.cls ≠ "java/lang/invoke/MethodHandle" ∧ yL_roomOf.cls ≠ "java/lang/invoke/VarHandle" ∧ (parseMethodDescriptor yL_roomOf.desc).map (fun d => d.parameters.length) = some 3 := by decide +kernel
theorem hdL_isCut : yL_isCut.cls ≠ "java/lang/invoke/MethodHandle" ∧ yL_isCut.cls ≠ "java/lang/invoke/VarHandle" ∧ (parseMethodDescriptor yL_isCut.desc).map (fun d => d.parameters.length) = some 3 := by decide +kernel
theorem hdL_waitedFor : yL_waitedFor.cls ≠ "java/lang/invoke/MethodHandle" ∧ yL_waitedFor.cls ≠ "java/lang/invoke/VarHandle" ∧ (parseMethodDescriptor yL_waitedFor.desc).map (fun d => d.parameters.length) = some 3 := by decide +kernel
theorem hdL_hasFallen : yL_hasFallen.cls ≠ "java/lang/invoke/MethodHandle" ∧ yL_hasFallen.cls ≠ "java/lang/invoke/VarHandle" ∧ (parseMethodDescriptor yL_hasFallen.desc).map (fun d => d.parameters.length) = some 3 := by decide +kernel
theorem hdL_placeInLine : yL_placeInLine.cls ≠ "java/lang/invoke/MethodHandle" ∧ yL_placeInLine.cls ≠ "java/lang/invoke/VarHandle" ∧ (parseMethodDescriptor yL_placeInLine.desc).map (fun d => d.parameters.length) = some 3 := by decide +kernel
theorem hdL_ringsLeft : yL_ringsLeft.cls ≠ "java/lang/invoke/MethodHandle" ∧ yL_ringsLeft.cls ≠ "java/lang/invoke/VarHandle" ∧ (parseMethodDescriptor yL_ringsLeft.desc).map (fun d => d.parameters.length) = some 3 := by decide +kernel
theorem hdL_floorOf : yL_floorOf.cls ≠ "java/lang/invoke/MethodHandle" ∧ yL_floorOf.cls ≠ "java/lang/invoke/VarHandle" ∧ (parseMethodDescriptor yL_floorOf.desc).map (fun d => d.parameters.length) = some 3 := by decide +kernel
theorem hdL_goesTo : yL_goesTo.cls ≠ "java/lang/invoke/MethodHandle" ∧ yL_goesTo.cls ≠ "java/lang/invoke/VarHandle" ∧ (parseMethodDescriptor yL_goesTo.desc).map (fun d => d.parameters.length) = some 3 := by decide +kernel
theorem hdL_serves : yL_serves.cls ≠ "java/lang/invoke/MethodHandle" ∧ yL_serves.cls ≠ "java/lang/invoke/VarHandle" ∧ (parseMethodDescriptor yL_serves.desc).map (fun d => d.parameters.length) = some 3 := by decide +kernel
theorem hdL_minutesLeft : yL_minutesLeft.cls ≠ "java/lang/invoke/MethodHandle" ∧ yL_minutesLeft.cls ≠ "java/lang/invoke/VarHandle" ∧ (parseMethodDescriptor yL_minutesLeft.desc).map (fun d => d.parameters.length) = some 3 := by decide +kernel
theorem hdL_wayTo : yL_wayTo.cls ≠ "java/lang/invoke/MethodHandle" ∧ yL_wayTo.cls ≠ "java/lang/invoke/VarHandle" ∧ (parseMethodDescriptor yL_wayTo.desc).map (fun d => d.parameters.length) = some 4 := by decide +kernel
theorem hdL_nearestIdle : yL_nearestIdle.cls ≠ "java/lang/invoke/MethodHandle" ∧ yL_nearestIdle.cls ≠ "java/lang/invoke/VarHandle" ∧ (parseMethodDescriptor yL_nearestIdle.desc).map (fun d => d.parameters.length) = some 3 := by decide +kernel
theorem hdL_minutesUntilServed : yL_minutesUntilServed.cls ≠ "java/lang/invoke/MethodHandle" ∧ yL_minutesUntilServed.cls ≠ "java/lang/invoke/VarHandle" ∧ (parseMethodDescriptor yL_minutesUntilServed.desc).map (fun d => d.parameters.length) = some 3 := by decide +kernel
theorem hdL_servedIn : yL_servedIn.cls ≠ "java/lang/invoke/MethodHandle" ∧ yL_servedIn.cls ≠ "java/lang/invoke/VarHandle" ∧ (parseMethodDescriptor yL_servedIn.desc).map (fun d => d.parameters.length) = some 3 := by decide +kernel
theorem hdL_bestToCross : yL_bestToCross.cls ≠ "java/lang/invoke/MethodHandle" ∧ yL_bestToCross.cls ≠ "java/lang/invoke/VarHandle" ∧ (parseMethodDescriptor yL_bestToCross.desc).map (fun d => d.parameters.length) = some 3 := by decide +kernel
set_option maxHeartbeats 4000000 in
set_option maxRecDepth 100000 in
theorem wn_addRoom (l : Launch) (X : z_X) (a : Nat) (d d2 : Nat → Nat) (B : z_B) (o : Nat) (g : Nat → Int64) (v1 : Int32) (v2 : Int32) (v3 : Int32) {RR : (Int32 × z_B)} (hf : f_X4_addRoom B v1 v2 v3 = some RR) : z_mI l yL_addRoom wsL_addRoom 3 69 X [.ref a, .int v1, .int v2, .int v3, .ref o] (z_wBO X a d d2 B o g) 0 (z_wBO X a d d2 RR.2 o (vp_updL g 0 (RR.1).toInt64)) := by
  intro sz
  refine va_MetW (cc := cL_addRoom) (maxL := 6) (ret := (some .int)) (by decide) rfl ?_
  intro p e s m args below meth c s₁ Bd hml hv
  obtain ⟨rfl, hsz, hP, hK, hN, hD0⟩ := hv
  have hx := Bd.exec
  have hb := Bd.bytes
  have hr := Bd.returns
  have hts := atoms_spec (ws := wsL_addRoom) Bd.pre
  have hown : s.vm.findClass RL = some m.cls := findClass_of_methodNamed Bd.named
  have hlocks := Bd.notSynchronized
  have S : CallFix p m c cL_addRoom 6 s _ wsL_addRoom RL := ⟨hx, hb, hml, hown, hts⟩
  subst hsz
  have hD := hD0.self (sz := s.heap.size)
  generalize hAe : va_A (z_wBO X a d d2 B o g) s.heap.size = A at hD ⊢
  have hA : ∀ q : Nat, s.heap.size ≤ q → A q := fun q h => by rw [← hAe]; exact Or.inr h
  have hS : va_S A s.heap s.heap [] := va_S.rf
  have hl := lv_entry ([.ref a, .int v1, .int v2, .int v3, .ref o]) (n := 6) (Nat.le_of_ble_eq_true rfl)
  rw [lg_entry_eq]
  generalize (lg_sl ([.ref a, .int v1, .int v2, .int v3, .ref o]) ++ List.replicate (6 - (lg_sl ([.ref a, .int v1, .int v2, .int v3, .ref o])).length) Slot.unset).toArray = ls at hl ⊢
  have hl : lv_has ls 6 [(0, .ref a), (1, .int v1), (2, .int v2), (3, .int v3), (4, .ref o)] := hl
  refine lv_aload (pc := 0) hx hb dL_addRoom_0 (lv_at hl 4 rfl) ?_
  refine lv_iconst (v := 0) (pc := 2) hx hb dL_addRoom_2 (by decide) ?_
  refine lv_aload_n (pc := 3) hx hb dL_addRoom_3 rfl (lv_at hl 0 rfl) ?_
  refine lv_iload_n (pc := 4) hx hb dL_addRoom_4 rfl (lv_at hl 1 rfl) ?_
  refine lv_iload_n (pc := 5) hx hb dL_addRoom_5 rfl (lv_at hl 2 rfl) ?_
  refine lv_iload_n (pc := 6) hx hb dL_addRoom_6 rfl (lv_at hl 3 rfl) ?_
  refine z_cmI (pc := 7) (W1 := (z_wBO X a d d2 RR.2 o g)) S (m_X4_addRoom l X a d d2 B v1 v2 v3 hf) (cwV 3 hts gL_addRoom_X4_addRoom rfl rfl rfl hdX4_addRoom ⟨Nat.le_of_ble_eq_true rfl, Nat.le_of_ble_eq_true rfl⟩) hP hK hN hD hS hA (s_BO_B X a d d2 B o g) (f_BO_B X a d d2 B o g RR.2) (ci := 4) rfl rfl rfl ⟨Nat.le_of_ble_eq_true rfl, Nat.le_of_ble_eq_true rfl⟩ rfl hl.1 rfl (Nat.le_of_ble_eq_true rfl) dL_addRoom_7 (fun H locs hP hD hS => ?_)
  refine lv_i2l (v := (RR.1).toInt64) (pc := 10) hx hb dL_addRoom_10 rfl ?_
  refine va_last (pc := 11) hx hb hK hP hD hS 53 2 rfl rfl z_in01 dL_addRoom_11 (fun H locs hP hD hS => ?_)
  have hP : va_P X.1 vwCl (z_wBO X a d d2 RR.2 o (vp_updL g 0 (RR.1).toInt64)) H := hP
  have hD : va_D A (z_wBO X a d d2 RR.2 o (vp_updL g 0 (RR.1).toInt64)) := hD
  refine lv_goto (pc := 12) (tgt := 23) hx hb dL_addRoom_12 (by decide) ?_
  refine lv_iconst (v := 0) (pc := 23) hx hb dL_addRoom_23 (by decide) ?_
  exact W.iret (pc := 24) (v := 0) hx hb hr (fun t ht hW => ⟨⟨_, (z_wBO X a d d2 RR.2 o (vp_updL g 0 (RR.1).toInt64)), rfl, ⟨rfl, rfl⟩, by rw [ht]; exact hP, hD⟩, hS.F ht⟩) hS.2.2 dL_addRoom_24
set_option maxHeartbeats 4000000 in
set_option maxRecDepth 100000 in
theorem wt_addRoom_0 (l : Launch) (hl0 : l.stackTraces = false) (X : z_X) (a : Nat) (d d2 : Nat → Nat) (B : z_B) (o : Nat) (g : Nat → Int64) (v1 : Int32) (v2 : Int32) (v3 : Int32) (hf : x_X4_addRoom B v1 v2 v3 = some 0) : z_eI l yL_addRoom wsL_addRoom 7 113 X [.ref a, .int v1, .int v2, .int v3, .ref o] (z_wBO X a d d2 B o g) 1 := by
  intro sz
  refine va_MetW (cc := cL_addRoom) (maxL := 6) (ret := (some .int)) (by decide) rfl ?_
  intro p e s m args below meth c s₁ Bd hml hv
  obtain ⟨rfl, ⟨hsz, hP, hK, hN, hD0⟩, hT⟩ := hv
  have hx := Bd.exec
  have hb := Bd.bytes
  have hr := Bd.returns
  have hts := atoms_spec (ws := wsL_addRoom) Bd.pre
  have hown : s.vm.findClass RL = some m.cls := findClass_of_methodNamed Bd.named
  have hlocks := Bd.notSynchronized
  have S : CallFix p m c cL_addRoom 6 s _ wsL_addRoom RL := ⟨hx, hb, hml, hown, hts⟩
  have htab := vx_table (x := yL_addRoom) Bd (hts _ List.mem_cons_self)
  subst hsz
  have hD := hD0.self (sz := s.heap.size)
  generalize hAe : va_A (z_wBO X a d d2 B o g) s.heap.size = A at hD ⊢
  have hA : ∀ q : Nat, s.heap.size ≤ q → A q := fun q h => by rw [← hAe]; exact Or.inr h
  have hS : va_S A s.heap s.heap [] := va_S.rf
  have hl := lv_entry ([.ref a, .int v1, .int v2, .int v3, .ref o]) (n := 6) (Nat.le_of_ble_eq_true rfl)
  rw [lg_entry_eq]
  generalize (lg_sl ([.ref a, .int v1, .int v2, .int v3, .ref o]) ++ List.replicate (6 - (lg_sl ([.ref a, .int v1, .int v2, .int v3, .ref o])).length) Slot.unset).toArray = ls at hl ⊢
  have hl : lv_has ls 6 [(0, .ref a), (1, .int v1), (2, .int v2), (3, .int v3), (4, .ref o)] := hl
  refine lv_aload (pc := 0) hx hb dL_addRoom_0 (lv_at hl 4 rfl) ?_
  refine lv_iconst (v := 0) (pc := 2) hx hb dL_addRoom_2 (by decide) ?_
  refine lv_aload_n (pc := 3) hx hb dL_addRoom_3 rfl (lv_at hl 0 rfl) ?_
  refine lv_iload_n (pc := 4) hx hb dL_addRoom_4 rfl (lv_at hl 1 rfl) ?_
  refine lv_iload_n (pc := 5) hx hb dL_addRoom_5 rfl (lv_at hl 2 rfl) ?_
  refine lv_iload_n (pc := 6) hx hb dL_addRoom_6 rfl (lv_at hl 3 rfl) ?_
  refine z_ctV (pc := 7) S (t_X4_addRoom l hl0 X a d d2 B v1 v2 v3 hf) (cwV 3 hts gL_addRoom_X4_addRoom rfl rfl rfl hdX4_addRoom ⟨Nat.le_of_ble_eq_true rfl, Nat.le_of_ble_eq_true rfl⟩) hP hK hN hT (s_BO_B X a d d2 B o g) hS (ci := 4) rfl rfl rfl ⟨Nat.le_of_ble_eq_true rfl, Nat.le_of_ble_eq_true rfl⟩ rfl hl.1 rfl (Nat.le_of_ble_eq_true rfl) dL_addRoom_7 (fun ce q9 H1 locs1 hz1 hk1 hS1 hce hcv hcl => ?_)
  refine vx_catch (pc := 7) hown [] ⟨0, 12, 15, 13⟩ [⟨0, 12, 19, 15⟩] (htab.trans rfl) (fun z hz => nomatch hz) rfl (by decide) (hts (.classLink RL 13 "java/lang/IllegalArgumentException") (List.mem_of_getElem? (i := 1) rfl)) (va_Nw.use rfl (hT.1.2.1 0 (by decide))) hce hcv hcl ?_
  have hP : va_P X.1 vwCl (z_wBO X a d d2 B o g) H1 := hP.kept (fun k q hk => hk1 q.1 ((hP k q hk).lt))
  refine lv_astore (pc := 15) (lv' := [(5, .ref q9), (0, .ref a), (1, .int v1), (2, .int v2), (3, .int v3), (4, .ref o)]) hx hb dL_addRoom_15 hl (by decide) rfl (fun ls hl => ?_)
  refine lv_iconst (v := 1) (pc := 17) hx hb dL_addRoom_17 (by decide) ?_
  exact W.iret (pc := 18) (v := 1) hx hb hr (fun t ht hW => ⟨⟨_, (z_wBO X a d d2 B o g), rfl, ⟨rfl, rfl⟩, by rw [ht]; exact hP, hD⟩, hS1.F ht⟩) hS1.2.2 dL_addRoom_18
set_option maxHeartbeats 4000000 in
set_option maxRecDepth 100000 in
theorem wt_addRoom_1 (l : Launch) (hl0 : l.stackTraces = false) (X : z_X) (a : Nat) (d d2 : Nat → Nat) (B : z_B) (o : Nat) (g : Nat → Int64) (v1 : Int32) (v2 : Int32) (v3 : Int32) (hf : x_X4_addRoom B v1 v2 v3 = some 1) : z_eI l yL_addRoom wsL_addRoom 7 113 X [.ref a, .int v1, .int v2, .int v3, .ref o] (z_wBO X a d d2 B o g) 2 := by
  intro sz
  refine va_MetW (cc := cL_addRoom) (maxL := 6) (ret := (some .int)) (by decide) rfl ?_
  intro p e s m args below meth c s₁ Bd hml hv
  obtain ⟨rfl, ⟨hsz, hP, hK, hN, hD0⟩, hT⟩ := hv
  have hx := Bd.exec
  have hb := Bd.bytes
  have hr := Bd.returns
  have hts := atoms_spec (ws := wsL_addRoom) Bd.pre
  have hown : s.vm.findClass RL = some m.cls := findClass_of_methodNamed Bd.named
  have hlocks := Bd.notSynchronized
  have S : CallFix p m c cL_addRoom 6 s _ wsL_addRoom RL := ⟨hx, hb, hml, hown, hts⟩
  have htab := vx_table (x := yL_addRoom) Bd (hts _ List.mem_cons_self)
  subst hsz
  have hD := hD0.self (sz := s.heap.size)
  generalize hAe : va_A (z_wBO X a d d2 B o g) s.heap.size = A at hD ⊢
  have hA : ∀ q : Nat, s.heap.size ≤ q → A q := fun q h => by rw [← hAe]; exact Or.inr h
  have hS : va_S A s.heap s.heap [] := va_S.rf
  have hl := lv_entry ([.ref a, .int v1, .int v2, .int v3, .ref o]) (n := 6) (Nat.le_of_ble_eq_true rfl)
  rw [lg_entry_eq]
  generalize (lg_sl ([.ref a, .int v1, .int v2, .int v3, .ref o]) ++ List.replicate (6 - (lg_sl ([.ref a, .int v1, .int v2, .int v3, .ref o])).length) Slot.unset).toArray = ls at hl ⊢
  have hl : lv_has ls 6 [(0, .ref a), (1, .int v1), (2, .int v2), (3, .int v3), (4, .ref o)] := hl
  refine lv_aload (pc := 0) hx hb dL_addRoom_0 (lv_at hl 4 rfl) ?_
  refine lv_iconst (v := 0) (pc := 2) hx hb dL_addRoom_2 (by decide) ?_
  refine lv_aload_n (pc := 3) hx hb dL_addRoom_3 rfl (lv_at hl 0 rfl) ?_
  refine lv_iload_n (pc := 4) hx hb dL_addRoom_4 rfl (lv_at hl 1 rfl) ?_
  refine lv_iload_n (pc := 5) hx hb dL_addRoom_5 rfl (lv_at hl 2 rfl) ?_
  refine lv_iload_n (pc := 6) hx hb dL_addRoom_6 rfl (lv_at hl 3 rfl) ?_
  refine z_ctV (pc := 7) S (t_X4_addRoom l hl0 X a d d2 B v1 v2 v3 hf) (cwV 3 hts gL_addRoom_X4_addRoom rfl rfl rfl hdX4_addRoom ⟨Nat.le_of_ble_eq_true rfl, Nat.le_of_ble_eq_true rfl⟩) hP hK hN hT (s_BO_B X a d d2 B o g) hS (ci := 4) rfl rfl rfl ⟨Nat.le_of_ble_eq_true rfl, Nat.le_of_ble_eq_true rfl⟩ rfl hl.1 rfl (Nat.le_of_ble_eq_true rfl) dL_addRoom_7 (fun ce q9 H1 locs1 hz1 hk1 hS1 hce hcv hcl => ?_)
  refine vx_catch (pc := 7) hown [⟨0, 12, 15, 13⟩] ⟨0, 12, 19, 15⟩ [] (htab.trans rfl) (fun z hz => by obtain rfl := List.mem_singleton.mp hz; exact Or.inr ⟨by decide, _, (hts (.classLink RL 13 "java/lang/IllegalArgumentException") (List.mem_of_getElem? (i := 1) rfl)), hT.1.2.2.1.1⟩) rfl (by decide) (hts (.classLink RL 15 "java/lang/IllegalStateException") (List.mem_of_getElem? (i := 2) rfl)) (va_Nw.use rfl (hT.1.2.1 1 (by decide))) hce hcv hcl ?_
  have hP : va_P X.1 vwCl (z_wBO X a d d2 B o g) H1 := hP.kept (fun k q hk => hk1 q.1 ((hP k q hk).lt))
  refine lv_astore (pc := 19) (lv' := [(5, .ref q9), (0, .ref a), (1, .int v1), (2, .int v2), (3, .int v3), (4, .ref o)]) hx hb dL_addRoom_19 hl (by decide) rfl (fun ls hl => ?_)
  refine lv_iconst (v := 2) (pc := 21) hx hb dL_addRoom_21 (by decide) ?_
  exact W.iret (pc := 22) (v := 2) hx hb hr (fun t ht hW => ⟨⟨_, (z_wBO X a d d2 B o g), rfl, ⟨rfl, rfl⟩, by rw [ht]; exact hP, hD⟩, hS1.F ht⟩) hS1.2.2 dL_addRoom_22
set_option maxHeartbeats 4000000 in
set_option maxRecDepth 100000 in
theorem wn_addServant (l : Launch) (X : z_X) (a : Nat) (d d2 : Nat → Nat) (B : z_B) (o : Nat) (g : Nat → Int64) (v1 : Int32) {RR : (Int32 × z_B)} (hf : f_X4_addServant B v1 = some RR) : z_mI l yL_addServant wsL_addServant 4 86 X [.ref a, .int v1, .ref o] (z_wBO X a d d2 B o g) 0 (z_wBO X a d d2 RR.2 o (vp_updL g 0 (RR.1).toInt64)) := by
  intro sz
  refine va_MetW (cc := cL_addServant) (maxL := 4) (ret := (some .int)) (by decide) rfl ?_
  intro p e s m args below meth c s₁ Bd hml hv
  obtain ⟨rfl, hsz, hP, hK, hN, hD0⟩ := hv
  have hx := Bd.exec
  have hb := Bd.bytes
  have hr := Bd.returns
  have hts := atoms_spec (ws := wsL_addServant) Bd.pre
  have hown : s.vm.findClass RL = some m.cls := findClass_of_methodNamed Bd.named
  have hlocks := Bd.notSynchronized
  have S : CallFix p m c cL_addServant 4 s _ wsL_addServant RL := ⟨hx, hb, hml, hown, hts⟩
  subst hsz
  have hD := hD0.self (sz := s.heap.size)
  generalize hAe : va_A (z_wBO X a d d2 B o g) s.heap.size = A at hD ⊢
  have hA : ∀ q : Nat, s.heap.size ≤ q → A q := fun q h => by rw [← hAe]; exact Or.inr h
  have hS : va_S A s.heap s.heap [] := va_S.rf
  have hl := lv_entry ([.ref a, .int v1, .ref o]) (n := 4) (Nat.le_of_ble_eq_true rfl)
  rw [lg_entry_eq]
  generalize (lg_sl ([.ref a, .int v1, .ref o]) ++ List.replicate (4 - (lg_sl ([.ref a, .int v1, .ref o])).length) Slot.unset).toArray = ls at hl ⊢
  have hl : lv_has ls 4 [(0, .ref a), (1, .int v1), (2, .ref o)] := hl
  refine lv_aload_n (pc := 0) hx hb dL_addServant_0 rfl (lv_at hl 2 rfl) ?_
  refine lv_iconst (v := 0) (pc := 1) hx hb dL_addServant_1 (by decide) ?_
  refine lv_aload_n (pc := 2) hx hb dL_addServant_2 rfl (lv_at hl 0 rfl) ?_
  refine lv_iload_n (pc := 3) hx hb dL_addServant_3 rfl (lv_at hl 1 rfl) ?_
  refine z_cmI (pc := 4) (W1 := (z_wBO X a d d2 RR.2 o g)) S (m_X4_addServant l X a d d2 B v1 hf) (cwV 1 hts gL_addServant_X4_addServant rfl rfl rfl hdX4_addServant ⟨Nat.le_of_ble_eq_true rfl, Nat.le_of_ble_eq_true rfl⟩) hP hK hN hD hS hA (s_BO_B X a d d2 B o g) (f_BO_B X a d d2 B o g RR.2) (ci := 4) rfl rfl rfl ⟨Nat.le_of_ble_eq_true rfl, Nat.le_of_ble_eq_true rfl⟩ rfl hl.1 rfl (Nat.le_of_ble_eq_true rfl) dL_addServant_4 (fun H locs hP hD hS => ?_)
  refine lv_i2l (v := (RR.1).toInt64) (pc := 7) hx hb dL_addServant_7 rfl ?_
  refine va_last (pc := 8) hx hb hK hP hD hS 53 2 rfl rfl z_in01 dL_addServant_8 (fun H locs hP hD hS => ?_)
  have hP : va_P X.1 vwCl (z_wBO X a d d2 RR.2 o (vp_updL g 0 (RR.1).toInt64)) H := hP
  have hD : va_D A (z_wBO X a d d2 RR.2 o (vp_updL g 0 (RR.1).toInt64)) := hD
  refine lv_goto (pc := 9) (tgt := 18) hx hb dL_addServant_9 (by decide) ?_
  refine lv_iconst (v := 0) (pc := 18) hx hb dL_addServant_18 (by decide) ?_
  exact W.iret (pc := 19) (v := 0) hx hb hr (fun t ht hW => ⟨⟨_, (z_wBO X a d d2 RR.2 o (vp_updL g 0 (RR.1).toInt64)), rfl, ⟨rfl, rfl⟩, by rw [ht]; exact hP, hD⟩, hS.F ht⟩) hS.2.2 dL_addServant_19
set_option maxHeartbeats 4000000 in
set_option maxRecDepth 100000 in
theorem wt_addServant_0 (l : Launch) (hl0 : l.stackTraces = false) (X : z_X) (a : Nat) (d d2 : Nat → Nat) (B : z_B) (o : Nat) (g : Nat → Int64) (v1 : Int32) (hf : x_X4_addServant B v1 = some 0) : z_eI l yL_addServant wsL_addServant 7 111 X [.ref a, .int v1, .ref o] (z_wBO X a d d2 B o g) 1 := by
  intro sz
  refine va_MetW (cc := cL_addServant) (maxL := 4) (ret := (some .int)) (by decide) rfl ?_
  intro p e s m args below meth c s₁ Bd hml hv
  obtain ⟨rfl, ⟨hsz, hP, hK, hN, hD0⟩, hT⟩ := hv
  have hx := Bd.exec
  have hb := Bd.bytes
  have hr := Bd.returns
  have hts := atoms_spec (ws := wsL_addServant) Bd.pre
  have hown : s.vm.findClass RL = some m.cls := findClass_of_methodNamed Bd.named
  have hlocks := Bd.notSynchronized
  have S : CallFix p m c cL_addServant 4 s _ wsL_addServant RL := ⟨hx, hb, hml, hown, hts⟩
  have htab := vx_table (x := yL_addServant) Bd (hts _ List.mem_cons_self)
  subst hsz
  have hD := hD0.self (sz := s.heap.size)
  generalize hAe : va_A (z_wBO X a d d2 B o g) s.heap.size = A at hD ⊢
  have hA : ∀ q : Nat, s.heap.size ≤ q → A q := fun q h => by rw [← hAe]; exact Or.inr h
  have hS : va_S A s.heap s.heap [] := va_S.rf
  have hl := lv_entry ([.ref a, .int v1, .ref o]) (n := 4) (Nat.le_of_ble_eq_true rfl)
  rw [lg_entry_eq]
  generalize (lg_sl ([.ref a, .int v1, .ref o]) ++ List.replicate (4 - (lg_sl ([.ref a, .int v1, .ref o])).length) Slot.unset).toArray = ls at hl ⊢
  have hl : lv_has ls 4 [(0, .ref a), (1, .int v1), (2, .ref o)] := hl
  refine lv_aload_n (pc := 0) hx hb dL_addServant_0 rfl (lv_at hl 2 rfl) ?_
  refine lv_iconst (v := 0) (pc := 1) hx hb dL_addServant_1 (by decide) ?_
  refine lv_aload_n (pc := 2) hx hb dL_addServant_2 rfl (lv_at hl 0 rfl) ?_
  refine lv_iload_n (pc := 3) hx hb dL_addServant_3 rfl (lv_at hl 1 rfl) ?_
  refine z_ctV (pc := 4) S (t_X4_addServant l hl0 X a d d2 B v1 hf) (cwV 1 hts gL_addServant_X4_addServant rfl rfl rfl hdX4_addServant ⟨Nat.le_of_ble_eq_true rfl, Nat.le_of_ble_eq_true rfl⟩) hP hK hN hT (s_BO_B X a d d2 B o g) hS (ci := 4) rfl rfl rfl ⟨Nat.le_of_ble_eq_true rfl, Nat.le_of_ble_eq_true rfl⟩ rfl hl.1 rfl (Nat.le_of_ble_eq_true rfl) dL_addServant_4 (fun ce q9 H1 locs1 hz1 hk1 hS1 hce hcv hcl => ?_)
  refine vx_catch (pc := 4) hown [] ⟨0, 9, 12, 13⟩ [⟨0, 9, 15, 15⟩] (htab.trans rfl) (fun z hz => nomatch hz) rfl (by decide) (hts (.classLink RL 13 "java/lang/IllegalArgumentException") (List.mem_of_getElem? (i := 1) rfl)) (va_Nw.use rfl (hT.1.2.1 0 (by decide))) hce hcv hcl ?_
  have hP : va_P X.1 vwCl (z_wBO X a d d2 B o g) H1 := hP.kept (fun k q hk => hk1 q.1 ((hP k q hk).lt))
  refine lv_astore_n (pc := 12) (lv' := [(3, .ref q9), (0, .ref a), (1, .int v1), (2, .ref o)]) hx hb dL_addServant_12 rfl hl (by decide) rfl (fun ls hl => ?_)
  refine lv_iconst (v := 1) (pc := 13) hx hb dL_addServant_13 (by decide) ?_
  exact W.iret (pc := 14) (v := 1) hx hb hr (fun t ht hW => ⟨⟨_, (z_wBO X a d d2 B o g), rfl, ⟨rfl, rfl⟩, by rw [ht]; exact hP, hD⟩, hS1.F ht⟩) hS1.2.2 dL_addServant_14
set_option maxHeartbeats 4000000 in
set_option maxRecDepth 100000 in
theorem wt_addServant_1 (l : Launch) (hl0 : l.stackTraces = false) (X : z_X) (a : Nat) (d d2 : Nat → Nat) (B : z_B) (o : Nat) (g : Nat → Int64) (v1 : Int32) (hf : x_X4_addServant B v1 = some 1) : z_eI l yL_addServant wsL_addServant 7 111 X [.ref a, .int v1, .ref o] (z_wBO X a d d2 B o g) 2 := by
  intro sz
  refine va_MetW (cc := cL_addServant) (maxL := 4) (ret := (some .int)) (by decide) rfl ?_
  intro p e s m args below meth c s₁ Bd hml hv
  obtain ⟨rfl, ⟨hsz, hP, hK, hN, hD0⟩, hT⟩ := hv
  have hx := Bd.exec
  have hb := Bd.bytes
  have hr := Bd.returns
  have hts := atoms_spec (ws := wsL_addServant) Bd.pre
  have hown : s.vm.findClass RL = some m.cls := findClass_of_methodNamed Bd.named
  have hlocks := Bd.notSynchronized
  have S : CallFix p m c cL_addServant 4 s _ wsL_addServant RL := ⟨hx, hb, hml, hown, hts⟩
  have htab := vx_table (x := yL_addServant) Bd (hts _ List.mem_cons_self)
  subst hsz
  have hD := hD0.self (sz := s.heap.size)
  generalize hAe : va_A (z_wBO X a d d2 B o g) s.heap.size = A at hD ⊢
  have hA : ∀ q : Nat, s.heap.size ≤ q → A q := fun q h => by rw [← hAe]; exact Or.inr h
  have hS : va_S A s.heap s.heap [] := va_S.rf
  have hl := lv_entry ([.ref a, .int v1, .ref o]) (n := 4) (Nat.le_of_ble_eq_true rfl)
  rw [lg_entry_eq]
  generalize (lg_sl ([.ref a, .int v1, .ref o]) ++ List.replicate (4 - (lg_sl ([.ref a, .int v1, .ref o])).length) Slot.unset).toArray = ls at hl ⊢
  have hl : lv_has ls 4 [(0, .ref a), (1, .int v1), (2, .ref o)] := hl
  refine lv_aload_n (pc := 0) hx hb dL_addServant_0 rfl (lv_at hl 2 rfl) ?_
  refine lv_iconst (v := 0) (pc := 1) hx hb dL_addServant_1 (by decide) ?_
  refine lv_aload_n (pc := 2) hx hb dL_addServant_2 rfl (lv_at hl 0 rfl) ?_
  refine lv_iload_n (pc := 3) hx hb dL_addServant_3 rfl (lv_at hl 1 rfl) ?_
  refine z_ctV (pc := 4) S (t_X4_addServant l hl0 X a d d2 B v1 hf) (cwV 1 hts gL_addServant_X4_addServant rfl rfl rfl hdX4_addServant ⟨Nat.le_of_ble_eq_true rfl, Nat.le_of_ble_eq_true rfl⟩) hP hK hN hT (s_BO_B X a d d2 B o g) hS (ci := 4) rfl rfl rfl ⟨Nat.le_of_ble_eq_true rfl, Nat.le_of_ble_eq_true rfl⟩ rfl hl.1 rfl (Nat.le_of_ble_eq_true rfl) dL_addServant_4 (fun ce q9 H1 locs1 hz1 hk1 hS1 hce hcv hcl => ?_)
  refine vx_catch (pc := 4) hown [⟨0, 9, 12, 13⟩] ⟨0, 9, 15, 15⟩ [] (htab.trans rfl) (fun z hz => by obtain rfl := List.mem_singleton.mp hz; exact Or.inr ⟨by decide, _, (hts (.classLink RL 13 "java/lang/IllegalArgumentException") (List.mem_of_getElem? (i := 1) rfl)), hT.1.2.2.1.1⟩) rfl (by decide) (hts (.classLink RL 15 "java/lang/IllegalStateException") (List.mem_of_getElem? (i := 2) rfl)) (va_Nw.use rfl (hT.1.2.1 1 (by decide))) hce hcv hcl ?_
  have hP : va_P X.1 vwCl (z_wBO X a d d2 B o g) H1 := hP.kept (fun k q hk => hk1 q.1 ((hP k q hk).lt))
  refine lv_astore_n (pc := 15) (lv' := [(3, .ref q9), (0, .ref a), (1, .int v1), (2, .ref o)]) hx hb dL_addServant_15 rfl hl (by decide) rfl (fun ls hl => ?_)
  refine lv_iconst (v := 2) (pc := 16) hx hb dL_addServant_16 (by decide) ?_
  exact W.iret (pc := 17) (v := 2) hx hb hr (fun t ht hW => ⟨⟨_, (z_wBO X a d d2 B o g), rfl, ⟨rfl, rfl⟩, by rw [ht]; exact hP, hD⟩, hS1.F ht⟩) hS1.2.2 dL_addServant_17
set_option maxHeartbeats 4000000 in
set_option maxRecDepth 100000 in
theorem wn_ring (l : Launch) (X : z_X) (a : Nat) (d d2 : Nat → Nat) (B : z_B) (o : Nat) (g : Nat → Int64) (v1 : Int32) {RR : (Int32 × z_B)} (hf : f_X4_ring B v1 = some RR) : z_mI l yL_ring wsL_ring 3 67 X [.ref a, .int v1, .ref o] (z_wBO X a d d2 B o g) 0 (z_wBO X a d d2 RR.2 o (vp_updL g 0 (if RR.1 = 0 then 0 else 1))) := by
  intro sz
  refine va_MetW (cc := cL_ring) (maxL := 4) (ret := (some .int)) (by decide) rfl ?_
  intro p e s m args below meth c s₁ Bd hml hv
  obtain ⟨rfl, hsz, hP, hK, hN, hD0⟩ := hv
  have hx := Bd.exec
  have hb := Bd.bytes
  have hr := Bd.returns
  have hts := atoms_spec (ws := wsL_ring) Bd.pre
  have hown : s.vm.findClass RL = some m.cls := findClass_of_methodNamed Bd.named
  have hlocks := Bd.notSynchronized
  have S : CallFix p m c cL_ring 4 s _ wsL_ring RL := ⟨hx, hb, hml, hown, hts⟩
  subst hsz
  have hD := hD0.self (sz := s.heap.size)
  generalize hAe : va_A (z_wBO X a d d2 B o g) s.heap.size = A at hD ⊢
  have hA : ∀ q : Nat, s.heap.size ≤ q → A q := fun q h => by rw [← hAe]; exact Or.inr h
  have hS : va_S A s.heap s.heap [] := va_S.rf
  have hl := lv_entry ([.ref a, .int v1, .ref o]) (n := 4) (Nat.le_of_ble_eq_true rfl)
  rw [lg_entry_eq]
  generalize (lg_sl ([.ref a, .int v1, .ref o]) ++ List.replicate (4 - (lg_sl ([.ref a, .int v1, .ref o])).length) Slot.unset).toArray = ls at hl ⊢
  have hl : lv_has ls 4 [(0, .ref a), (1, .int v1), (2, .ref o)] := hl
  refine lv_aload_n (pc := 0) hx hb dL_ring_0 rfl (lv_at hl 2 rfl) ?_
  refine lv_iconst (v := 0) (pc := 1) hx hb dL_ring_1 (by decide) ?_
  refine lv_aload_n (pc := 2) hx hb dL_ring_2 rfl (lv_at hl 0 rfl) ?_
  refine lv_iload_n (pc := 3) hx hb dL_ring_3 rfl (lv_at hl 1 rfl) ?_
  refine z_cmI (pc := 4) (W1 := (z_wBO X a d d2 RR.2 o g)) S (m_X4_ring l X a d d2 B v1 hf) (cwV 1 hts gL_ring_X4_ring rfl rfl rfl hdX4_ring ⟨Nat.le_of_ble_eq_true rfl, Nat.le_of_ble_eq_true rfl⟩) hP hK hN hD hS hA (s_BO_B X a d d2 B o g) (f_BO_B X a d d2 B o g RR.2) (ci := 4) rfl rfl rfl ⟨Nat.le_of_ble_eq_true rfl, Nat.le_of_ble_eq_true rfl⟩ rfl hl.1 rfl (Nat.le_of_ble_eq_true rfl) dL_ring_4 (fun H locs hP hD hS => ?_)
  refine lv_if_eq (pc := 7) (tgt := 14) hx hb dL_ring_7 (by decide) (fun c_7 => ?_) (fun c_7 => ?_)
  · refine lv_lconst (v := 0) (pc := 14) hx hb dL_ring_14 rfl ?_
    refine va_last (pc := 15) hx hb hK hP hD hS 53 2 rfl rfl z_in01 dL_ring_15 (fun H locs hP hD hS => ?_)
    have hP : va_P X.1 vwCl (z_wBO X a d d2 RR.2 o (vp_updL g 0 0)) H := hP
    have hD : va_D A (z_wBO X a d d2 RR.2 o (vp_updL g 0 0)) := hD
    refine lv_goto (pc := 16) (tgt := 22) hx hb dL_ring_16 (by decide) ?_
    refine lv_iconst (v := 0) (pc := 22) hx hb dL_ring_22 (by decide) ?_
    exact W.iret (pc := 23) (v := 0) hx hb hr (fun t ht hW => ⟨⟨_, (z_wBO X a d d2 RR.2 o (vp_updL g 0 0)), rfl, ⟨rfl, by rw [if_pos c_7]⟩, by rw [ht]; exact hP, hD⟩, hS.F ht⟩) hS.2.2 dL_ring_23
  · refine lv_lconst (v := 1) (pc := 10) hx hb dL_ring_10 rfl ?_
    refine lv_goto (pc := 11) (tgt := 15) hx hb dL_ring_11 (by decide) ?_
    refine va_last (pc := 15) hx hb hK hP hD hS 53 2 rfl rfl z_in01 dL_ring_15 (fun H locs hP hD hS => ?_)
    have hP : va_P X.1 vwCl (z_wBO X a d d2 RR.2 o (vp_updL g 0 1)) H := hP
    have hD : va_D A (z_wBO X a d d2 RR.2 o (vp_updL g 0 1)) := hD
    refine lv_goto (pc := 16) (tgt := 22) hx hb dL_ring_16 (by decide) ?_
    refine lv_iconst (v := 0) (pc := 22) hx hb dL_ring_22 (by decide) ?_
    exact W.iret (pc := 23) (v := 0) hx hb hr (fun t ht hW => ⟨⟨_, (z_wBO X a d d2 RR.2 o (vp_updL g 0 1)), rfl, ⟨rfl, by rw [if_neg c_7]⟩, by rw [ht]; exact hP, hD⟩, hS.F ht⟩) hS.2.2 dL_ring_23
set_option maxHeartbeats 4000000 in
set_option maxRecDepth 100000 in
theorem wt_ring_2 (l : Launch) (hl0 : l.stackTraces = false) (X : z_X) (a : Nat) (d d2 : Nat → Nat) (B : z_B) (o : Nat) (g : Nat → Int64) (v1 : Int32) (hf : x_X4_ring B v1 = some 2) : z_eI l yL_ring wsL_ring 8 133 X [.ref a, .int v1, .ref o] (z_wBO X a d d2 B o g) 1 := by
  intro sz
  refine va_MetW (cc := cL_ring) (maxL := 4) (ret := (some .int)) (by decide) rfl ?_
  intro p e s m args below meth c s₁ Bd hml hv
  obtain ⟨rfl, ⟨hsz, hP, hK, hN, hD0⟩, hT⟩ := hv
  have hx := Bd.exec
  have hb := Bd.bytes
  have hr := Bd.returns
  have hts := atoms_spec (ws := wsL_ring) Bd.pre
  have hown : s.vm.findClass RL = some m.cls := findClass_of_methodNamed Bd.named
  have hlocks := Bd.notSynchronized
  have S : CallFix p m c cL_ring 4 s _ wsL_ring RL := ⟨hx, hb, hml, hown, hts⟩
  have htab := vx_table (x := yL_ring) Bd (hts _ List.mem_cons_self)
  subst hsz
  have hD := hD0.self (sz := s.heap.size)
  generalize hAe : va_A (z_wBO X a d d2 B o g) s.heap.size = A at hD ⊢
  have hA : ∀ q : Nat, s.heap.size ≤ q → A q := fun q h => by rw [← hAe]; exact Or.inr h
  have hS : va_S A s.heap s.heap [] := va_S.rf
  have hl := lv_entry ([.ref a, .int v1, .ref o]) (n := 4) (Nat.le_of_ble_eq_true rfl)
  rw [lg_entry_eq]
  generalize (lg_sl ([.ref a, .int v1, .ref o]) ++ List.replicate (4 - (lg_sl ([.ref a, .int v1, .ref o])).length) Slot.unset).toArray = ls at hl ⊢
  have hl : lv_has ls 4 [(0, .ref a), (1, .int v1), (2, .ref o)] := hl
  refine lv_aload_n (pc := 0) hx hb dL_ring_0 rfl (lv_at hl 2 rfl) ?_
  refine lv_iconst (v := 0) (pc := 1) hx hb dL_ring_1 (by decide) ?_
  refine lv_aload_n (pc := 2) hx hb dL_ring_2 rfl (lv_at hl 0 rfl) ?_
  refine lv_iload_n (pc := 3) hx hb dL_ring_3 rfl (lv_at hl 1 rfl) ?_
  refine z_ctV (pc := 4) S (t_X4_ring l hl0 X a d d2 B v1 hf) (cwV 1 hts gL_ring_X4_ring rfl rfl rfl hdX4_ring ⟨Nat.le_of_ble_eq_true rfl, Nat.le_of_ble_eq_true rfl⟩) hP hK hN hT (s_BO_B X a d d2 B o g) hS (ci := 4) rfl rfl rfl ⟨Nat.le_of_ble_eq_true rfl, Nat.le_of_ble_eq_true rfl⟩ rfl hl.1 rfl (Nat.le_of_ble_eq_true rfl) dL_ring_4 (fun ce q9 H1 locs1 hz1 hk1 hS1 hce hcv hcl => ?_)
  refine vx_catch (pc := 4) hown [] ⟨0, 16, 19, 25⟩ [] (htab.trans rfl) (fun z hz => nomatch hz) rfl (by decide) (hts (.classLink RL 25 "java/lang/IndexOutOfBoundsException") (List.mem_of_getElem? (i := 1) rfl)) (va_Nw.use rfl (hT.1.2.1 2 (by decide))) hce hcv hcl ?_
  have hP : va_P X.1 vwCl (z_wBO X a d d2 B o g) H1 := hP.kept (fun k q hk => hk1 q.1 ((hP k q hk).lt))
  refine lv_astore_n (pc := 19) (lv' := [(3, .ref q9), (0, .ref a), (1, .int v1), (2, .ref o)]) hx hb dL_ring_19 rfl hl (by decide) rfl (fun ls hl => ?_)
  refine lv_iconst (v := 1) (pc := 20) hx hb dL_ring_20 (by decide) ?_
  exact W.iret (pc := 21) (v := 1) hx hb hr (fun t ht hW => ⟨⟨_, (z_wBO X a d d2 B o g), rfl, ⟨rfl, rfl⟩, by rw [ht]; exact hP, hD⟩, hS1.F ht⟩) hS1.2.2 dL_ring_21
set_option maxHeartbeats 4000000 in
set_option maxRecDepth 100000 in
theorem wn_cross (l : Launch) (X : z_X) (a : Nat) (d d2 : Nat → Nat) (B : z_B) (o : Nat) (g : Nat → Int64) (v1 : Int32) (v2 : Int32) {RR : (Int32 × z_B)} (hf : f_X4_cross B v1 v2 = some RR) : z_mI l yL_cross wsL_cross 3 67 X [.ref a, .int v1, .int v2, .ref o] (z_wBO X a d d2 B o g) 0 (z_wBO X a d d2 RR.2 o (vp_updL g 0 (RR.1).toInt64)) := by
  intro sz
  refine va_MetW (cc := cL_cross) (maxL := 5) (ret := (some .int)) (by decide) rfl ?_
  intro p e s m args below meth c s₁ Bd hml hv
  obtain ⟨rfl, hsz, hP, hK, hN, hD0⟩ := hv
  have hx := Bd.exec
  have hb := Bd.bytes
  have hr := Bd.returns
  have hts := atoms_spec (ws := wsL_cross) Bd.pre
  have hown : s.vm.findClass RL = some m.cls := findClass_of_methodNamed Bd.named
  have hlocks := Bd.notSynchronized
  have S : CallFix p m c cL_cross 5 s _ wsL_cross RL := ⟨hx, hb, hml, hown, hts⟩
  subst hsz
  have hD := hD0.self (sz := s.heap.size)
  generalize hAe : va_A (z_wBO X a d d2 B o g) s.heap.size = A at hD ⊢
  have hA : ∀ q : Nat, s.heap.size ≤ q → A q := fun q h => by rw [← hAe]; exact Or.inr h
  have hS : va_S A s.heap s.heap [] := va_S.rf
  have hl := lv_entry ([.ref a, .int v1, .int v2, .ref o]) (n := 5) (Nat.le_of_ble_eq_true rfl)
  rw [lg_entry_eq]
  generalize (lg_sl ([.ref a, .int v1, .int v2, .ref o]) ++ List.replicate (5 - (lg_sl ([.ref a, .int v1, .int v2, .ref o])).length) Slot.unset).toArray = ls at hl ⊢
  have hl : lv_has ls 5 [(0, .ref a), (1, .int v1), (2, .int v2), (3, .ref o)] := hl
  refine lv_aload_n (pc := 0) hx hb dL_cross_0 rfl (lv_at hl 3 rfl) ?_
  refine lv_iconst (v := 0) (pc := 1) hx hb dL_cross_1 (by decide) ?_
  refine lv_aload_n (pc := 2) hx hb dL_cross_2 rfl (lv_at hl 0 rfl) ?_
  refine lv_iload_n (pc := 3) hx hb dL_cross_3 rfl (lv_at hl 1 rfl) ?_
  refine lv_iload_n (pc := 4) hx hb dL_cross_4 rfl (lv_at hl 2 rfl) ?_
  refine z_cmI (pc := 5) (W1 := (z_wBO X a d d2 RR.2 o g)) S (m_X4_cross l X a d d2 B v1 v2 hf) (cwV 2 hts gL_cross_X4_cross rfl rfl rfl hdX4_cross ⟨Nat.le_of_ble_eq_true rfl, Nat.le_of_ble_eq_true rfl⟩) hP hK hN hD hS hA (s_BO_B X a d d2 B o g) (f_BO_B X a d d2 B o g RR.2) (ci := 4) rfl rfl rfl ⟨Nat.le_of_ble_eq_true rfl, Nat.le_of_ble_eq_true rfl⟩ rfl hl.1 rfl (Nat.le_of_ble_eq_true rfl) dL_cross_5 (fun H locs hP hD hS => ?_)
  refine lv_i2l (v := (RR.1).toInt64) (pc := 8) hx hb dL_cross_8 rfl ?_
  refine va_last (pc := 9) hx hb hK hP hD hS 53 2 rfl rfl z_in01 dL_cross_9 (fun H locs hP hD hS => ?_)
  have hP : va_P X.1 vwCl (z_wBO X a d d2 RR.2 o (vp_updL g 0 (RR.1).toInt64)) H := hP
  have hD : va_D A (z_wBO X a d d2 RR.2 o (vp_updL g 0 (RR.1).toInt64)) := hD
  refine lv_goto (pc := 10) (tgt := 21) hx hb dL_cross_10 (by decide) ?_
  refine lv_iconst (v := 0) (pc := 21) hx hb dL_cross_21 (by decide) ?_
  exact W.iret (pc := 22) (v := 0) hx hb hr (fun t ht hW => ⟨⟨_, (z_wBO X a d d2 RR.2 o (vp_updL g 0 (RR.1).toInt64)), rfl, ⟨rfl, rfl⟩, by rw [ht]; exact hP, hD⟩, hS.F ht⟩) hS.2.2 dL_cross_22
set_option maxHeartbeats 4000000 in
set_option maxRecDepth 100000 in
theorem wt_cross_2 (l : Launch) (hl0 : l.stackTraces = false) (X : z_X) (a : Nat) (d d2 : Nat → Nat) (B : z_B) (o : Nat) (g : Nat → Int64) (v1 : Int32) (v2 : Int32) (hf : x_X4_cross B v1 v2 = some 2) : z_eI l yL_cross wsL_cross 8 133 X [.ref a, .int v1, .int v2, .ref o] (z_wBO X a d d2 B o g) 1 := by
  intro sz
  refine va_MetW (cc := cL_cross) (maxL := 5) (ret := (some .int)) (by decide) rfl ?_
  intro p e s m args below meth c s₁ Bd hml hv
  obtain ⟨rfl, ⟨hsz, hP, hK, hN, hD0⟩, hT⟩ := hv
  have hx := Bd.exec
  have hb := Bd.bytes
  have hr := Bd.returns
  have hts := atoms_spec (ws := wsL_cross) Bd.pre
  have hown : s.vm.findClass RL = some m.cls := findClass_of_methodNamed Bd.named
  have hlocks := Bd.notSynchronized
  have S : CallFix p m c cL_cross 5 s _ wsL_cross RL := ⟨hx, hb, hml, hown, hts⟩
  have htab := vx_table (x := yL_cross) Bd (hts _ List.mem_cons_self)
  subst hsz
  have hD := hD0.self (sz := s.heap.size)
  generalize hAe : va_A (z_wBO X a d d2 B o g) s.heap.size = A at hD ⊢
  have hA : ∀ q : Nat, s.heap.size ≤ q → A q := fun q h => by rw [← hAe]; exact Or.inr h
  have hS : va_S A s.heap s.heap [] := va_S.rf
  have hl := lv_entry ([.ref a, .int v1, .int v2, .ref o]) (n := 5) (Nat.le_of_ble_eq_true rfl)
  rw [lg_entry_eq]
  generalize (lg_sl ([.ref a, .int v1, .int v2, .ref o]) ++ List.replicate (5 - (lg_sl ([.ref a, .int v1, .int v2, .ref o])).length) Slot.unset).toArray = ls at hl ⊢
  have hl : lv_has ls 5 [(0, .ref a), (1, .int v1), (2, .int v2), (3, .ref o)] := hl
  refine lv_aload_n (pc := 0) hx hb dL_cross_0 rfl (lv_at hl 3 rfl) ?_
  refine lv_iconst (v := 0) (pc := 1) hx hb dL_cross_1 (by decide) ?_
  refine lv_aload_n (pc := 2) hx hb dL_cross_2 rfl (lv_at hl 0 rfl) ?_
  refine lv_iload_n (pc := 3) hx hb dL_cross_3 rfl (lv_at hl 1 rfl) ?_
  refine lv_iload_n (pc := 4) hx hb dL_cross_4 rfl (lv_at hl 2 rfl) ?_
  refine z_ctV (pc := 5) S (t_X4_cross l hl0 X a d d2 B v1 v2 hf) (cwV 2 hts gL_cross_X4_cross rfl rfl rfl hdX4_cross ⟨Nat.le_of_ble_eq_true rfl, Nat.le_of_ble_eq_true rfl⟩) hP hK hN hT (s_BO_B X a d d2 B o g) hS (ci := 4) rfl rfl rfl ⟨Nat.le_of_ble_eq_true rfl, Nat.le_of_ble_eq_true rfl⟩ rfl hl.1 rfl (Nat.le_of_ble_eq_true rfl) dL_cross_5 (fun ce q9 H1 locs1 hz1 hk1 hS1 hce hcv hcl => ?_)
  refine vx_catch (pc := 5) hown [] ⟨0, 10, 13, 25⟩ [⟨0, 10, 17, 13⟩] (htab.trans rfl) (fun z hz => nomatch hz) rfl (by decide) (hts (.classLink RL 25 "java/lang/IndexOutOfBoundsException") (List.mem_of_getElem? (i := 1) rfl)) (va_Nw.use rfl (hT.1.2.1 2 (by decide))) hce hcv hcl ?_
  have hP : va_P X.1 vwCl (z_wBO X a d d2 B o g) H1 := hP.kept (fun k q hk => hk1 q.1 ((hP k q hk).lt))
  refine lv_astore (pc := 13) (lv' := [(4, .ref q9), (0, .ref a), (1, .int v1), (2, .int v2), (3, .ref o)]) hx hb dL_cross_13 hl (by decide) rfl (fun ls hl => ?_)
  refine lv_iconst (v := 1) (pc := 15) hx hb dL_cross_15 (by decide) ?_
  exact W.iret (pc := 16) (v := 1) hx hb hr (fun t ht hW => ⟨⟨_, (z_wBO X a d d2 B o g), rfl, ⟨rfl, rfl⟩, by rw [ht]; exact hP, hD⟩, hS1.F ht⟩) hS1.2.2 dL_cross_16
set_option maxHeartbeats 4000000 in
set_option maxRecDepth 100000 in
theorem wt_cross_0 (l : Launch) (hl0 : l.stackTraces = false) (X : z_X) (a : Nat) (d d2 : Nat → Nat) (B : z_B) (o : Nat) (g : Nat → Int64) (v1 : Int32) (v2 : Int32) (hf : x_X4_cross B v1 v2 = some 0) : z_eI l yL_cross wsL_cross 8 133 X [.ref a, .int v1, .int v2, .ref o] (z_wBO X a d d2 B o g) 2 := by
  intro sz
  refine va_MetW (cc := cL_cross) (maxL := 5) (ret := (some .int)) (by decide) rfl ?_
  intro p e s m args below meth c s₁ Bd hml hv
  obtain ⟨rfl, ⟨hsz, hP, hK, hN, hD0⟩, hT⟩ := hv
  have hx := Bd.exec
  have hb := Bd.bytes
  have hr := Bd.returns
  have hts := atoms_spec (ws := wsL_cross) Bd.pre
  have hown : s.vm.findClass RL = some m.cls := findClass_of_methodNamed Bd.named
  have hlocks := Bd.notSynchronized
  have S : CallFix p m c cL_cross 5 s _ wsL_cross RL := ⟨hx, hb, hml, hown, hts⟩
  have htab := vx_table (x := yL_cross) Bd (hts _ List.mem_cons_self)
  subst hsz
  have hD := hD0.self (sz := s.heap.size)
  generalize hAe : va_A (z_wBO X a d d2 B o g) s.heap.size = A at hD ⊢
  have hA : ∀ q : Nat, s.heap.size ≤ q → A q := fun q h => by rw [← hAe]; exact Or.inr h
  have hS : va_S A s.heap s.heap [] := va_S.rf
  have hl := lv_entry ([.ref a, .int v1, .int v2, .ref o]) (n := 5) (Nat.le_of_ble_eq_true rfl)
  rw [lg_entry_eq]
  generalize (lg_sl ([.ref a, .int v1, .int v2, .ref o]) ++ List.replicate (5 - (lg_sl ([.ref a, .int v1, .int v2, .ref o])).length) Slot.unset).toArray = ls at hl ⊢
  have hl : lv_has ls 5 [(0, .ref a), (1, .int v1), (2, .int v2), (3, .ref o)] := hl
  refine lv_aload_n (pc := 0) hx hb dL_cross_0 rfl (lv_at hl 3 rfl) ?_
  refine lv_iconst (v := 0) (pc := 1) hx hb dL_cross_1 (by decide) ?_
  refine lv_aload_n (pc := 2) hx hb dL_cross_2 rfl (lv_at hl 0 rfl) ?_
  refine lv_iload_n (pc := 3) hx hb dL_cross_3 rfl (lv_at hl 1 rfl) ?_
  refine lv_iload_n (pc := 4) hx hb dL_cross_4 rfl (lv_at hl 2 rfl) ?_
  refine z_ctV (pc := 5) S (t_X4_cross l hl0 X a d d2 B v1 v2 hf) (cwV 2 hts gL_cross_X4_cross rfl rfl rfl hdX4_cross ⟨Nat.le_of_ble_eq_true rfl, Nat.le_of_ble_eq_true rfl⟩) hP hK hN hT (s_BO_B X a d d2 B o g) hS (ci := 4) rfl rfl rfl ⟨Nat.le_of_ble_eq_true rfl, Nat.le_of_ble_eq_true rfl⟩ rfl hl.1 rfl (Nat.le_of_ble_eq_true rfl) dL_cross_5 (fun ce q9 H1 locs1 hz1 hk1 hS1 hce hcv hcl => ?_)
  refine vx_catch (pc := 5) hown [⟨0, 10, 13, 25⟩] ⟨0, 10, 17, 13⟩ [] (htab.trans rfl) (fun z hz => by obtain rfl := List.mem_singleton.mp hz; exact Or.inr ⟨by decide, _, (hts (.classLink RL 25 "java/lang/IndexOutOfBoundsException") (List.mem_of_getElem? (i := 1) rfl)), hT.1.2.2.1.2.1⟩) rfl (by decide) (hts (.classLink RL 13 "java/lang/IllegalArgumentException") (List.mem_of_getElem? (i := 2) rfl)) (va_Nw.use rfl (hT.1.2.1 0 (by decide))) hce hcv hcl ?_
  have hP : va_P X.1 vwCl (z_wBO X a d d2 B o g) H1 := hP.kept (fun k q hk => hk1 q.1 ((hP k q hk).lt))
  refine lv_astore (pc := 17) (lv' := [(4, .ref q9), (0, .ref a), (1, .int v1), (2, .int v2), (3, .ref o)]) hx hb dL_cross_17 hl (by decide) rfl (fun ls hl => ?_)
  refine lv_iconst (v := 2) (pc := 19) hx hb dL_cross_19 (by decide) ?_
  exact W.iret (pc := 20) (v := 2) hx hb hr (fun t ht hW => ⟨⟨_, (z_wBO X a d d2 B o g), rfl, ⟨rfl, rfl⟩, by rw [ht]; exact hP, hD⟩, hS1.F ht⟩) hS1.2.2 dL_cross_20
set_option maxHeartbeats 4000000 in
set_option maxRecDepth 100000 in
theorem wn_cut (l : Launch) (X : z_X) (a : Nat) (d d2 : Nat → Nat) (B : z_B) (o : Nat) (g : Nat → Int64) (v1 : Int32) {RR : (Int32 × z_B)} (hf : f_X4_cut B v1 = some RR) : z_mI l yL_cut wsL_cut 3 64 X [.ref a, .int v1, .ref o] (z_wBO X a d d2 B o g) 0 (z_wBO X a d d2 RR.2 o (vp_updL g 0 (RR.1).toInt64)) := by
  intro sz
  refine va_MetW (cc := cL_cut) (maxL := 4) (ret := (some .int)) (by decide) rfl ?_
  intro p e s m args below meth c s₁ Bd hml hv
  obtain ⟨rfl, hsz, hP, hK, hN, hD0⟩ := hv
  have hx := Bd.exec
  have hb := Bd.bytes
  have hr := Bd.returns
  have hts := atoms_spec (ws := wsL_cut) Bd.pre
  have hown : s.vm.findClass RL = some m.cls := findClass_of_methodNamed Bd.named
  have hlocks := Bd.notSynchronized
  have S : CallFix p m c cL_cut 4 s _ wsL_cut RL := ⟨hx, hb, hml, hown, hts⟩
  subst hsz
  have hD := hD0.self (sz := s.heap.size)
  generalize hAe : va_A (z_wBO X a d d2 B o g) s.heap.size = A at hD ⊢
  have hA : ∀ q : Nat, s.heap.size ≤ q → A q := fun q h => by rw [← hAe]; exact Or.inr h
  have hS : va_S A s.heap s.heap [] := va_S.rf
  have hl := lv_entry ([.ref a, .int v1, .ref o]) (n := 4) (Nat.le_of_ble_eq_true rfl)
  rw [lg_entry_eq]
  generalize (lg_sl ([.ref a, .int v1, .ref o]) ++ List.replicate (4 - (lg_sl ([.ref a, .int v1, .ref o])).length) Slot.unset).toArray = ls at hl ⊢
  have hl : lv_has ls 4 [(0, .ref a), (1, .int v1), (2, .ref o)] := hl
  refine lv_aload_n (pc := 0) hx hb dL_cut_0 rfl (lv_at hl 2 rfl) ?_
  refine lv_iconst (v := 0) (pc := 1) hx hb dL_cut_1 (by decide) ?_
  refine lv_aload_n (pc := 2) hx hb dL_cut_2 rfl (lv_at hl 0 rfl) ?_
  refine lv_iload_n (pc := 3) hx hb dL_cut_3 rfl (lv_at hl 1 rfl) ?_
  refine z_cmI (pc := 4) (W1 := (z_wBO X a d d2 RR.2 o g)) S (m_X4_cut l X a d d2 B v1 hf) (cwV 1 hts gL_cut_X4_cut rfl rfl rfl hdX4_cut ⟨Nat.le_of_ble_eq_true rfl, Nat.le_of_ble_eq_true rfl⟩) hP hK hN hD hS hA (s_BO_B X a d d2 B o g) (f_BO_B X a d d2 B o g RR.2) (ci := 4) rfl rfl rfl ⟨Nat.le_of_ble_eq_true rfl, Nat.le_of_ble_eq_true rfl⟩ rfl hl.1 rfl (Nat.le_of_ble_eq_true rfl) dL_cut_4 (fun H locs hP hD hS => ?_)
  refine lv_i2l (v := (RR.1).toInt64) (pc := 7) hx hb dL_cut_7 rfl ?_
  refine va_last (pc := 8) hx hb hK hP hD hS 53 2 rfl rfl z_in01 dL_cut_8 (fun H locs hP hD hS => ?_)
  have hP : va_P X.1 vwCl (z_wBO X a d d2 RR.2 o (vp_updL g 0 (RR.1).toInt64)) H := hP
  have hD : va_D A (z_wBO X a d d2 RR.2 o (vp_updL g 0 (RR.1).toInt64)) := hD
  refine lv_goto (pc := 9) (tgt := 18) hx hb dL_cut_9 (by decide) ?_
  refine lv_iconst (v := 0) (pc := 18) hx hb dL_cut_18 (by decide) ?_
  exact W.iret (pc := 19) (v := 0) hx hb hr (fun t ht hW => ⟨⟨_, (z_wBO X a d d2 RR.2 o (vp_updL g 0 (RR.1).toInt64)), rfl, ⟨rfl, rfl⟩, by rw [ht]; exact hP, hD⟩, hS.F ht⟩) hS.2.2 dL_cut_19
set_option maxHeartbeats 4000000 in
set_option maxRecDepth 100000 in
theorem wt_cut_2 (l : Launch) (hl0 : l.stackTraces = false) (X : z_X) (a : Nat) (d d2 : Nat → Nat) (B : z_B) (o : Nat) (g : Nat → Int64) (v1 : Int32) (hf : x_X4_cut B v1 = some 2) : z_eI l yL_cut wsL_cut 8 132 X [.ref a, .int v1, .ref o] (z_wBO X a d d2 B o g) 1 := by
  intro sz
  refine va_MetW (cc := cL_cut) (maxL := 4) (ret := (some .int)) (by decide) rfl ?_
  intro p e s m args below meth c s₁ Bd hml hv
  obtain ⟨rfl, ⟨hsz, hP, hK, hN, hD0⟩, hT⟩ := hv
  have hx := Bd.exec
  have hb := Bd.bytes
  have hr := Bd.returns
  have hts := atoms_spec (ws := wsL_cut) Bd.pre
  have hown : s.vm.findClass RL = some m.cls := findClass_of_methodNamed Bd.named
  have hlocks := Bd.notSynchronized
  have S : CallFix p m c cL_cut 4 s _ wsL_cut RL := ⟨hx, hb, hml, hown, hts⟩
  have htab := vx_table (x := yL_cut) Bd (hts _ List.mem_cons_self)
  subst hsz
  have hD := hD0.self (sz := s.heap.size)
  generalize hAe : va_A (z_wBO X a d d2 B o g) s.heap.size = A at hD ⊢
  have hA : ∀ q : Nat, s.heap.size ≤ q → A q := fun q h => by rw [← hAe]; exact Or.inr h
  have hS : va_S A s.heap s.heap [] := va_S.rf
  have hl := lv_entry ([.ref a, .int v1, .ref o]) (n := 4) (Nat.le_of_ble_eq_true rfl)
  rw [lg_entry_eq]
  generalize (lg_sl ([.ref a, .int v1, .ref o]) ++ List.replicate (4 - (lg_sl ([.ref a, .int v1, .ref o])).length) Slot.unset).toArray = ls at hl ⊢
  have hl : lv_has ls 4 [(0, .ref a), (1, .int v1), (2, .ref o)] := hl
  refine lv_aload_n (pc := 0) hx hb dL_cut_0 rfl (lv_at hl 2 rfl) ?_
  refine lv_iconst (v := 0) (pc := 1) hx hb dL_cut_1 (by decide) ?_
  refine lv_aload_n (pc := 2) hx hb dL_cut_2 rfl (lv_at hl 0 rfl) ?_
  refine lv_iload_n (pc := 3) hx hb dL_cut_3 rfl (lv_at hl 1 rfl) ?_
  refine z_ctV (pc := 4) S (t_X4_cut l hl0 X a d d2 B v1 hf) (cwV 1 hts gL_cut_X4_cut rfl rfl rfl hdX4_cut ⟨Nat.le_of_ble_eq_true rfl, Nat.le_of_ble_eq_true rfl⟩) hP hK hN hT (s_BO_B X a d d2 B o g) hS (ci := 4) rfl rfl rfl ⟨Nat.le_of_ble_eq_true rfl, Nat.le_of_ble_eq_true rfl⟩ rfl hl.1 rfl (Nat.le_of_ble_eq_true rfl) dL_cut_4 (fun ce q9 H1 locs1 hz1 hk1 hS1 hce hcv hcl => ?_)
  refine vx_catch (pc := 4) hown [] ⟨0, 9, 12, 25⟩ [⟨0, 9, 15, 15⟩] (htab.trans rfl) (fun z hz => nomatch hz) rfl (by decide) (hts (.classLink RL 25 "java/lang/IndexOutOfBoundsException") (List.mem_of_getElem? (i := 1) rfl)) (va_Nw.use rfl (hT.1.2.1 2 (by decide))) hce hcv hcl ?_
  have hP : va_P X.1 vwCl (z_wBO X a d d2 B o g) H1 := hP.kept (fun k q hk => hk1 q.1 ((hP k q hk).lt))
  refine lv_astore_n (pc := 12) (lv' := [(3, .ref q9), (0, .ref a), (1, .int v1), (2, .ref o)]) hx hb dL_cut_12 rfl hl (by decide) rfl (fun ls hl => ?_)
  refine lv_iconst (v := 1) (pc := 13) hx hb dL_cut_13 (by decide) ?_
  exact W.iret (pc := 14) (v := 1) hx hb hr (fun t ht hW => ⟨⟨_, (z_wBO X a d d2 B o g), rfl, ⟨rfl, rfl⟩, by rw [ht]; exact hP, hD⟩, hS1.F ht⟩) hS1.2.2 dL_cut_14
set_option maxHeartbeats 4000000 in
set_option maxRecDepth 100000 in
theorem wt_cut_1 (l : Launch) (hl0 : l.stackTraces = false) (X : z_X) (a : Nat) (d d2 : Nat → Nat) (B : z_B) (o : Nat) (g : Nat → Int64) (v1 : Int32) (hf : x_X4_cut B v1 = some 1) : z_eI l yL_cut wsL_cut 8 132 X [.ref a, .int v1, .ref o] (z_wBO X a d d2 B o g) 2 := by
  intro sz
  refine va_MetW (cc := cL_cut) (maxL := 4) (ret := (some .int)) (by decide) rfl ?_
  intro p e s m args below meth c s₁ Bd hml hv
  obtain ⟨rfl, ⟨hsz, hP, hK, hN, hD0⟩, hT⟩ := hv
  have hx := Bd.exec
  have hb := Bd.bytes
  have hr := Bd.returns
  have hts := atoms_spec (ws := wsL_cut) Bd.pre
  have hown : s.vm.findClass RL = some m.cls := findClass_of_methodNamed Bd.named
  have hlocks := Bd.notSynchronized
  have S : CallFix p m c cL_cut 4 s _ wsL_cut RL := ⟨hx, hb, hml, hown, hts⟩
  have htab := vx_table (x := yL_cut) Bd (hts _ List.mem_cons_self)
  subst hsz
  have hD := hD0.self (sz := s.heap.size)
  generalize hAe : va_A (z_wBO X a d d2 B o g) s.heap.size = A at hD ⊢
  have hA : ∀ q : Nat, s.heap.size ≤ q → A q := fun q h => by rw [← hAe]; exact Or.inr h
  have hS : va_S A s.heap s.heap [] := va_S.rf
  have hl := lv_entry ([.ref a, .int v1, .ref o]) (n := 4) (Nat.le_of_ble_eq_true rfl)
  rw [lg_entry_eq]
  generalize (lg_sl ([.ref a, .int v1, .ref o]) ++ List.replicate (4 - (lg_sl ([.ref a, .int v1, .ref o])).length) Slot.unset).toArray = ls at hl ⊢
  have hl : lv_has ls 4 [(0, .ref a), (1, .int v1), (2, .ref o)] := hl
  refine lv_aload_n (pc := 0) hx hb dL_cut_0 rfl (lv_at hl 2 rfl) ?_
  refine lv_iconst (v := 0) (pc := 1) hx hb dL_cut_1 (by decide) ?_
  refine lv_aload_n (pc := 2) hx hb dL_cut_2 rfl (lv_at hl 0 rfl) ?_
  refine lv_iload_n (pc := 3) hx hb dL_cut_3 rfl (lv_at hl 1 rfl) ?_
  refine z_ctV (pc := 4) S (t_X4_cut l hl0 X a d d2 B v1 hf) (cwV 1 hts gL_cut_X4_cut rfl rfl rfl hdX4_cut ⟨Nat.le_of_ble_eq_true rfl, Nat.le_of_ble_eq_true rfl⟩) hP hK hN hT (s_BO_B X a d d2 B o g) hS (ci := 4) rfl rfl rfl ⟨Nat.le_of_ble_eq_true rfl, Nat.le_of_ble_eq_true rfl⟩ rfl hl.1 rfl (Nat.le_of_ble_eq_true rfl) dL_cut_4 (fun ce q9 H1 locs1 hz1 hk1 hS1 hce hcv hcl => ?_)
  refine vx_catch (pc := 4) hown [⟨0, 9, 12, 25⟩] ⟨0, 9, 15, 15⟩ [] (htab.trans rfl) (fun z hz => by obtain rfl := List.mem_singleton.mp hz; exact Or.inr ⟨by decide, _, (hts (.classLink RL 25 "java/lang/IndexOutOfBoundsException") (List.mem_of_getElem? (i := 1) rfl)), hT.1.2.2.1.2.2⟩) rfl (by decide) (hts (.classLink RL 15 "java/lang/IllegalStateException") (List.mem_of_getElem? (i := 2) rfl)) (va_Nw.use rfl (hT.1.2.1 1 (by decide))) hce hcv hcl ?_
  have hP : va_P X.1 vwCl (z_wBO X a d d2 B o g) H1 := hP.kept (fun k q hk => hk1 q.1 ((hP k q hk).lt))
  refine lv_astore_n (pc := 15) (lv' := [(3, .ref q9), (0, .ref a), (1, .int v1), (2, .ref o)]) hx hb dL_cut_15 rfl hl (by decide) rfl (fun ls hl => ?_)
  refine lv_iconst (v := 2) (pc := 16) hx hb dL_cut_16 (by decide) ?_
  exact W.iret (pc := 17) (v := 2) hx hb hr (fun t ht hW => ⟨⟨_, (z_wBO X a d d2 B o g), rfl, ⟨rfl, rfl⟩, by rw [ht]; exact hP, hD⟩, hS1.F ht⟩) hS1.2.2 dL_cut_17
set_option maxHeartbeats 4000000 in
set_option maxRecDepth 100000 in
theorem wn_mend (l : Launch) (X : z_X) (a : Nat) (d d2 : Nat → Nat) (B : z_B) (o : Nat) (g : Nat → Int64) (v1 : Int32) {RR : (Int32 × z_B)} (hf : f_X4_mend B v1 = some RR) : z_mI l yL_mend wsL_mend 3 64 X [.ref a, .int v1, .ref o] (z_wBO X a d d2 B o g) 0 (z_wBO X a d d2 RR.2 o (vp_updL g 0 (RR.1).toInt64)) := by
  intro sz
  refine va_MetW (cc := cL_mend) (maxL := 4) (ret := (some .int)) (by decide) rfl ?_
  intro p e s m args below meth c s₁ Bd hml hv
  obtain ⟨rfl, hsz, hP, hK, hN, hD0⟩ := hv
  have hx := Bd.exec
  have hb := Bd.bytes
  have hr := Bd.returns
  have hts := atoms_spec (ws := wsL_mend) Bd.pre
  have hown : s.vm.findClass RL = some m.cls := findClass_of_methodNamed Bd.named
  have hlocks := Bd.notSynchronized
  have S : CallFix p m c cL_mend 4 s _ wsL_mend RL := ⟨hx, hb, hml, hown, hts⟩
  subst hsz
  have hD := hD0.self (sz := s.heap.size)
  generalize hAe : va_A (z_wBO X a d d2 B o g) s.heap.size = A at hD ⊢
  have hA : ∀ q : Nat, s.heap.size ≤ q → A q := fun q h => by rw [← hAe]; exact Or.inr h
  have hS : va_S A s.heap s.heap [] := va_S.rf
  have hl := lv_entry ([.ref a, .int v1, .ref o]) (n := 4) (Nat.le_of_ble_eq_true rfl)
  rw [lg_entry_eq]
  generalize (lg_sl ([.ref a, .int v1, .ref o]) ++ List.replicate (4 - (lg_sl ([.ref a, .int v1, .ref o])).length) Slot.unset).toArray = ls at hl ⊢
  have hl : lv_has ls 4 [(0, .ref a), (1, .int v1), (2, .ref o)] := hl
  refine lv_aload_n (pc := 0) hx hb dL_mend_0 rfl (lv_at hl 2 rfl) ?_
  refine lv_iconst (v := 0) (pc := 1) hx hb dL_mend_1 (by decide) ?_
  refine lv_aload_n (pc := 2) hx hb dL_mend_2 rfl (lv_at hl 0 rfl) ?_
  refine lv_iload_n (pc := 3) hx hb dL_mend_3 rfl (lv_at hl 1 rfl) ?_
  refine z_cmI (pc := 4) (W1 := (z_wBO X a d d2 RR.2 o g)) S (m_X4_mend l X a d d2 B v1 hf) (cwV 1 hts gL_mend_X4_mend rfl rfl rfl hdX4_mend ⟨Nat.le_of_ble_eq_true rfl, Nat.le_of_ble_eq_true rfl⟩) hP hK hN hD hS hA (s_BO_B X a d d2 B o g) (f_BO_B X a d d2 B o g RR.2) (ci := 4) rfl rfl rfl ⟨Nat.le_of_ble_eq_true rfl, Nat.le_of_ble_eq_true rfl⟩ rfl hl.1 rfl (Nat.le_of_ble_eq_true rfl) dL_mend_4 (fun H locs hP hD hS => ?_)
  refine lv_i2l (v := (RR.1).toInt64) (pc := 7) hx hb dL_mend_7 rfl ?_
  refine va_last (pc := 8) hx hb hK hP hD hS 53 2 rfl rfl z_in01 dL_mend_8 (fun H locs hP hD hS => ?_)
  have hP : va_P X.1 vwCl (z_wBO X a d d2 RR.2 o (vp_updL g 0 (RR.1).toInt64)) H := hP
  have hD : va_D A (z_wBO X a d d2 RR.2 o (vp_updL g 0 (RR.1).toInt64)) := hD
  refine lv_goto (pc := 9) (tgt := 18) hx hb dL_mend_9 (by decide) ?_
  refine lv_iconst (v := 0) (pc := 18) hx hb dL_mend_18 (by decide) ?_
  exact W.iret (pc := 19) (v := 0) hx hb hr (fun t ht hW => ⟨⟨_, (z_wBO X a d d2 RR.2 o (vp_updL g 0 (RR.1).toInt64)), rfl, ⟨rfl, rfl⟩, by rw [ht]; exact hP, hD⟩, hS.F ht⟩) hS.2.2 dL_mend_19
set_option maxHeartbeats 4000000 in
set_option maxRecDepth 100000 in
theorem wt_mend_2 (l : Launch) (hl0 : l.stackTraces = false) (X : z_X) (a : Nat) (d d2 : Nat → Nat) (B : z_B) (o : Nat) (g : Nat → Int64) (v1 : Int32) (hf : x_X4_mend B v1 = some 2) : z_eI l yL_mend wsL_mend 8 132 X [.ref a, .int v1, .ref o] (z_wBO X a d d2 B o g) 1 := by
  intro sz
  refine va_MetW (cc := cL_mend) (maxL := 4) (ret := (some .int)) (by decide) rfl ?_
  intro p e s m args below meth c s₁ Bd hml hv
  obtain ⟨rfl, ⟨hsz, hP, hK, hN, hD0⟩, hT⟩ := hv
  have hx := Bd.exec
  have hb := Bd.bytes
  have hr := Bd.returns
  have hts := atoms_spec (ws := wsL_mend) Bd.pre
  have hown : s.vm.findClass RL = some m.cls := findClass_of_methodNamed Bd.named
  have hlocks := Bd.notSynchronized
  have S : CallFix p m c cL_mend 4 s _ wsL_mend RL := ⟨hx, hb, hml, hown, hts⟩
  have htab := vx_table (x := yL_mend) Bd (hts _ List.mem_cons_self)
  subst hsz
  have hD := hD0.self (sz := s.heap.size)
  generalize hAe : va_A (z_wBO X a d d2 B o g) s.heap.size = A at hD ⊢
  have hA : ∀ q : Nat, s.heap.size ≤ q → A q := fun q h => by rw [← hAe]; exact Or.inr h
  have hS : va_S A s.heap s.heap [] := va_S.rf
  have hl := lv_entry ([.ref a, .int v1, .ref o]) (n := 4) (Nat.le_of_ble_eq_true rfl)
  rw [lg_entry_eq]
  generalize (lg_sl ([.ref a, .int v1, .ref o]) ++ List.replicate (4 - (lg_sl ([.ref a, .int v1, .ref o])).length) Slot.unset).toArray = ls at hl ⊢
  have hl : lv_has ls 4 [(0, .ref a), (1, .int v1), (2, .ref o)] := hl
  refine lv_aload_n (pc := 0) hx hb dL_mend_0 rfl (lv_at hl 2 rfl) ?_
  refine lv_iconst (v := 0) (pc := 1) hx hb dL_mend_1 (by decide) ?_
  refine lv_aload_n (pc := 2) hx hb dL_mend_2 rfl (lv_at hl 0 rfl) ?_
  refine lv_iload_n (pc := 3) hx hb dL_mend_3 rfl (lv_at hl 1 rfl) ?_
  refine z_ctV (pc := 4) S (t_X4_mend l hl0 X a d d2 B v1 hf) (cwV 1 hts gL_mend_X4_mend rfl rfl rfl hdX4_mend ⟨Nat.le_of_ble_eq_true rfl, Nat.le_of_ble_eq_true rfl⟩) hP hK hN hT (s_BO_B X a d d2 B o g) hS (ci := 4) rfl rfl rfl ⟨Nat.le_of_ble_eq_true rfl, Nat.le_of_ble_eq_true rfl⟩ rfl hl.1 rfl (Nat.le_of_ble_eq_true rfl) dL_mend_4 (fun ce q9 H1 locs1 hz1 hk1 hS1 hce hcv hcl => ?_)
  refine vx_catch (pc := 4) hown [] ⟨0, 9, 12, 25⟩ [⟨0, 9, 15, 15⟩] (htab.trans rfl) (fun z hz => nomatch hz) rfl (by decide) (hts (.classLink RL 25 "java/lang/IndexOutOfBoundsException") (List.mem_of_getElem? (i := 1) rfl)) (va_Nw.use rfl (hT.1.2.1 2 (by decide))) hce hcv hcl ?_
  have hP : va_P X.1 vwCl (z_wBO X a d d2 B o g) H1 := hP.kept (fun k q hk => hk1 q.1 ((hP k q hk).lt))
  refine lv_astore_n (pc := 12) (lv' := [(3, .ref q9), (0, .ref a), (1, .int v1), (2, .ref o)]) hx hb dL_mend_12 rfl hl (by decide) rfl (fun ls hl => ?_)
  refine lv_iconst (v := 1) (pc := 13) hx hb dL_mend_13 (by decide) ?_
  exact W.iret (pc := 14) (v := 1) hx hb hr (fun t ht hW => ⟨⟨_, (z_wBO X a d d2 B o g), rfl, ⟨rfl, rfl⟩, by rw [ht]; exact hP, hD⟩, hS1.F ht⟩) hS1.2.2 dL_mend_14
set_option maxHeartbeats 4000000 in
set_option maxRecDepth 100000 in
theorem wt_mend_1 (l : Launch) (hl0 : l.stackTraces = false) (X : z_X) (a : Nat) (d d2 : Nat → Nat) (B : z_B) (o : Nat) (g : Nat → Int64) (v1 : Int32) (hf : x_X4_mend B v1 = some 1) : z_eI l yL_mend wsL_mend 8 132 X [.ref a, .int v1, .ref o] (z_wBO X a d d2 B o g) 2 := by
  intro sz
  refine va_MetW (cc := cL_mend) (maxL := 4) (ret := (some .int)) (by decide) rfl ?_
  intro p e s m args below meth c s₁ Bd hml hv
  obtain ⟨rfl, ⟨hsz, hP, hK, hN, hD0⟩, hT⟩ := hv
  have hx := Bd.exec
  have hb := Bd.bytes
  have hr := Bd.returns
  have hts := atoms_spec (ws := wsL_mend) Bd.pre
  have hown : s.vm.findClass RL = some m.cls := findClass_of_methodNamed Bd.named
  have hlocks := Bd.notSynchronized
  have S : CallFix p m c cL_mend 4 s _ wsL_mend RL := ⟨hx, hb, hml, hown, hts⟩
  have htab := vx_table (x := yL_mend) Bd (hts _ List.mem_cons_self)
  subst hsz
  have hD := hD0.self (sz := s.heap.size)
  generalize hAe : va_A (z_wBO X a d d2 B o g) s.heap.size = A at hD ⊢
  have hA : ∀ q : Nat, s.heap.size ≤ q → A q := fun q h => by rw [← hAe]; exact Or.inr h
  have hS : va_S A s.heap s.heap [] := va_S.rf
  have hl := lv_entry ([.ref a, .int v1, .ref o]) (n := 4) (Nat.le_of_ble_eq_true rfl)
  rw [lg_entry_eq]
  generalize (lg_sl ([.ref a, .int v1, .ref o]) ++ List.replicate (4 - (lg_sl ([.ref a, .int v1, .ref o])).length) Slot.unset).toArray = ls at hl ⊢
  have hl : lv_has ls 4 [(0, .ref a), (1, .int v1), (2, .ref o)] := hl
  refine lv_aload_n (pc := 0) hx hb dL_mend_0 rfl (lv_at hl 2 rfl) ?_
  refine lv_iconst (v := 0) (pc := 1) hx hb dL_mend_1 (by decide) ?_
  refine lv_aload_n (pc := 2) hx hb dL_mend_2 rfl (lv_at hl 0 rfl) ?_
  refine lv_iload_n (pc := 3) hx hb dL_mend_3 rfl (lv_at hl 1 rfl) ?_
  refine z_ctV (pc := 4) S (t_X4_mend l hl0 X a d d2 B v1 hf) (cwV 1 hts gL_mend_X4_mend rfl rfl rfl hdX4_mend ⟨Nat.le_of_ble_eq_true rfl, Nat.le_of_ble_eq_true rfl⟩) hP hK hN hT (s_BO_B X a d d2 B o g) hS (ci := 4) rfl rfl rfl ⟨Nat.le_of_ble_eq_true rfl, Nat.le_of_ble_eq_true rfl⟩ rfl hl.1 rfl (Nat.le_of_ble_eq_true rfl) dL_mend_4 (fun ce q9 H1 locs1 hz1 hk1 hS1 hce hcv hcl => ?_)
  refine vx_catch (pc := 4) hown [⟨0, 9, 12, 25⟩] ⟨0, 9, 15, 15⟩ [] (htab.trans rfl) (fun z hz => by obtain rfl := List.mem_singleton.mp hz; exact Or.inr ⟨by decide, _, (hts (.classLink RL 25 "java/lang/IndexOutOfBoundsException") (List.mem_of_getElem? (i := 1) rfl)), hT.1.2.2.1.2.2⟩) rfl (by decide) (hts (.classLink RL 15 "java/lang/IllegalStateException") (List.mem_of_getElem? (i := 2) rfl)) (va_Nw.use rfl (hT.1.2.1 1 (by decide))) hce hcv hcl ?_
  have hP : va_P X.1 vwCl (z_wBO X a d d2 B o g) H1 := hP.kept (fun k q hk => hk1 q.1 ((hP k q hk).lt))
  refine lv_astore_n (pc := 15) (lv' := [(3, .ref q9), (0, .ref a), (1, .int v1), (2, .ref o)]) hx hb dL_mend_15 rfl hl (by decide) rfl (fun ls hl => ?_)
  refine lv_iconst (v := 2) (pc := 16) hx hb dL_mend_16 (by decide) ?_
  exact W.iret (pc := 17) (v := 2) hx hb hr (fun t ht hW => ⟨⟨_, (z_wBO X a d d2 B o g), rfl, ⟨rfl, rfl⟩, by rw [ht]; exact hP, hD⟩, hS1.F ht⟩) hS1.2.2 dL_mend_17
set_option maxHeartbeats 4000000 in
set_option maxRecDepth 100000 in
theorem wn_recharge (l : Launch) (X : z_X) (a : Nat) (d d2 : Nat → Nat) (B : z_B) (o : Nat) (g : Nat → Int64) (v1 : Int32) {RR : (Int32 × z_B)} (hf : f_X4_recharge B v1 = some RR) : z_mI l yL_recharge wsL_recharge 2 44 X [.ref a, .int v1, .ref o] (z_wBO X a d d2 B o g) 0 (z_wBO X a d d2 RR.2 o (vp_updL g 0 (RR.1).toInt64)) := by
  intro sz
  refine va_MetW (cc := cL_recharge) (maxL := 4) (ret := (some .int)) (by decide) rfl ?_
  intro p e s m args below meth c s₁ Bd hml hv
  obtain ⟨rfl, hsz, hP, hK, hN, hD0⟩ := hv
  have hx := Bd.exec
  have hb := Bd.bytes
  have hr := Bd.returns
  have hts := atoms_spec (ws := wsL_recharge) Bd.pre
  have hown : s.vm.findClass RL = some m.cls := findClass_of_methodNamed Bd.named
  have hlocks := Bd.notSynchronized
  have S : CallFix p m c cL_recharge 4 s _ wsL_recharge RL := ⟨hx, hb, hml, hown, hts⟩
  subst hsz
  have hD := hD0.self (sz := s.heap.size)
  generalize hAe : va_A (z_wBO X a d d2 B o g) s.heap.size = A at hD ⊢
  have hA : ∀ q : Nat, s.heap.size ≤ q → A q := fun q h => by rw [← hAe]; exact Or.inr h
  have hS : va_S A s.heap s.heap [] := va_S.rf
  have hl := lv_entry ([.ref a, .int v1, .ref o]) (n := 4) (Nat.le_of_ble_eq_true rfl)
  rw [lg_entry_eq]
  generalize (lg_sl ([.ref a, .int v1, .ref o]) ++ List.replicate (4 - (lg_sl ([.ref a, .int v1, .ref o])).length) Slot.unset).toArray = ls at hl ⊢
  have hl : lv_has ls 4 [(0, .ref a), (1, .int v1), (2, .ref o)] := hl
  refine lv_aload_n (pc := 0) hx hb dL_recharge_0 rfl (lv_at hl 2 rfl) ?_
  refine lv_iconst (v := 0) (pc := 1) hx hb dL_recharge_1 (by decide) ?_
  refine lv_aload_n (pc := 2) hx hb dL_recharge_2 rfl (lv_at hl 0 rfl) ?_
  refine lv_iload_n (pc := 3) hx hb dL_recharge_3 rfl (lv_at hl 1 rfl) ?_
  refine z_cmI (pc := 4) (W1 := (z_wBO X a d d2 RR.2 o g)) S (m_X4_recharge l X a d d2 B v1 hf) (cwV 1 hts gL_recharge_X4_recharge rfl rfl rfl hdX4_recharge ⟨Nat.le_of_ble_eq_true rfl, Nat.le_of_ble_eq_true rfl⟩) hP hK hN hD hS hA (s_BO_B X a d d2 B o g) (f_BO_B X a d d2 B o g RR.2) (ci := 4) rfl rfl rfl ⟨Nat.le_of_ble_eq_true rfl, Nat.le_of_ble_eq_true rfl⟩ rfl hl.1 rfl (Nat.le_of_ble_eq_true rfl) dL_recharge_4 (fun H locs hP hD hS => ?_)
  refine lv_i2l (v := (RR.1).toInt64) (pc := 7) hx hb dL_recharge_7 rfl ?_
  refine va_last (pc := 8) hx hb hK hP hD hS 53 2 rfl rfl z_in01 dL_recharge_8 (fun H locs hP hD hS => ?_)
  have hP : va_P X.1 vwCl (z_wBO X a d d2 RR.2 o (vp_updL g 0 (RR.1).toInt64)) H := hP
  have hD : va_D A (z_wBO X a d d2 RR.2 o (vp_updL g 0 (RR.1).toInt64)) := hD
  refine lv_goto (pc := 9) (tgt := 15) hx hb dL_recharge_9 (by decide) ?_
  refine lv_iconst (v := 0) (pc := 15) hx hb dL_recharge_15 (by decide) ?_
  exact W.iret (pc := 16) (v := 0) hx hb hr (fun t ht hW => ⟨⟨_, (z_wBO X a d d2 RR.2 o (vp_updL g 0 (RR.1).toInt64)), rfl, ⟨rfl, rfl⟩, by rw [ht]; exact hP, hD⟩, hS.F ht⟩) hS.2.2 dL_recharge_16
set_option maxHeartbeats 4000000 in
set_option maxRecDepth 100000 in
theorem wt_recharge_0 (l : Launch) (hl0 : l.stackTraces = false) (X : z_X) (a : Nat) (d d2 : Nat → Nat) (B : z_B) (o : Nat) (g : Nat → Int64) (v1 : Int32) (hf : x_X4_recharge B v1 = some 0) : z_eI l yL_recharge wsL_recharge 7 112 X [.ref a, .int v1, .ref o] (z_wBO X a d d2 B o g) 1 := by
  intro sz
  refine va_MetW (cc := cL_recharge) (maxL := 4) (ret := (some .int)) (by decide) rfl ?_
  intro p e s m args below meth c s₁ Bd hml hv
  obtain ⟨rfl, ⟨hsz, hP, hK, hN, hD0⟩, hT⟩ := hv
  have hx := Bd.exec
  have hb := Bd.bytes
  have hr := Bd.returns
  have hts := atoms_spec (ws := wsL_recharge) Bd.pre
  have hown : s.vm.findClass RL = some m.cls := findClass_of_methodNamed Bd.named
  have hlocks := Bd.notSynchronized
  have S : CallFix p m c cL_recharge 4 s _ wsL_recharge RL := ⟨hx, hb, hml, hown, hts⟩
  have htab := vx_table (x := yL_recharge) Bd (hts _ List.mem_cons_self)
  subst hsz
  have hD := hD0.self (sz := s.heap.size)
  generalize hAe : va_A (z_wBO X a d d2 B o g) s.heap.size = A at hD ⊢
  have hA : ∀ q : Nat, s.heap.size ≤ q → A q := fun q h => by rw [← hAe]; exact Or.inr h
  have hS : va_S A s.heap s.heap [] := va_S.rf
  have hl := lv_entry ([.ref a, .int v1, .ref o]) (n := 4) (Nat.le_of_ble_eq_true rfl)
  rw [lg_entry_eq]
  generalize (lg_sl ([.ref a, .int v1, .ref o]) ++ List.replicate (4 - (lg_sl ([.ref a, .int v1, .ref o])).length) Slot.unset).toArray = ls at hl ⊢
  have hl : lv_has ls 4 [(0, .ref a), (1, .int v1), (2, .ref o)] := hl
  refine lv_aload_n (pc := 0) hx hb dL_recharge_0 rfl (lv_at hl 2 rfl) ?_
  refine lv_iconst (v := 0) (pc := 1) hx hb dL_recharge_1 (by decide) ?_
  refine lv_aload_n (pc := 2) hx hb dL_recharge_2 rfl (lv_at hl 0 rfl) ?_
  refine lv_iload_n (pc := 3) hx hb dL_recharge_3 rfl (lv_at hl 1 rfl) ?_
  refine z_ctV (pc := 4) S (t_X4_recharge l hl0 X a d d2 B v1 hf) (cwV 1 hts gL_recharge_X4_recharge rfl rfl rfl hdX4_recharge ⟨Nat.le_of_ble_eq_true rfl, Nat.le_of_ble_eq_true rfl⟩) hP hK hN hT (s_BO_B X a d d2 B o g) hS (ci := 4) rfl rfl rfl ⟨Nat.le_of_ble_eq_true rfl, Nat.le_of_ble_eq_true rfl⟩ rfl hl.1 rfl (Nat.le_of_ble_eq_true rfl) dL_recharge_4 (fun ce q9 H1 locs1 hz1 hk1 hS1 hce hcv hcl => ?_)
  refine vx_catch (pc := 4) hown [] ⟨0, 9, 12, 13⟩ [] (htab.trans rfl) (fun z hz => nomatch hz) rfl (by decide) (hts (.classLink RL 13 "java/lang/IllegalArgumentException") (List.mem_of_getElem? (i := 1) rfl)) (va_Nw.use rfl (hT.1.2.1 0 (by decide))) hce hcv hcl ?_
  have hP : va_P X.1 vwCl (z_wBO X a d d2 B o g) H1 := hP.kept (fun k q hk => hk1 q.1 ((hP k q hk).lt))
  refine lv_astore_n (pc := 12) (lv' := [(3, .ref q9), (0, .ref a), (1, .int v1), (2, .ref o)]) hx hb dL_recharge_12 rfl hl (by decide) rfl (fun ls hl => ?_)
  refine lv_iconst (v := 1) (pc := 13) hx hb dL_recharge_13 (by decide) ?_
  exact W.iret (pc := 14) (v := 1) hx hb hr (fun t ht hW => ⟨⟨_, (z_wBO X a d d2 B o g), rfl, ⟨rfl, rfl⟩, by rw [ht]; exact hP, hD⟩, hS1.F ht⟩) hS1.2.2 dL_recharge_14
set_option maxHeartbeats 4000000 in
set_option maxRecDepth 100000 in
theorem wn_putUp (l : Launch) (X : z_X) (a : Nat) (d d2 : Nat → Nat) (B : z_B) (o : Nat) (g : Nat → Int64) (v1 : Int32) {RR : (Int32 × z_B)} (hf : f_X4_putUp B v1 = some RR) : z_mI l yL_putUp wsL_putUp 2 44 X [.ref a, .int v1, .ref o] (z_wBO X a d d2 B o g) 0 (z_wBO X a d d2 RR.2 o (vp_updL g 0 (RR.1).toInt64)) := by
  intro sz
  refine va_MetW (cc := cL_putUp) (maxL := 4) (ret := (some .int)) (by decide) rfl ?_
  intro p e s m args below meth c s₁ Bd hml hv
  obtain ⟨rfl, hsz, hP, hK, hN, hD0⟩ := hv
  have hx := Bd.exec
  have hb := Bd.bytes
  have hr := Bd.returns
  have hts := atoms_spec (ws := wsL_putUp) Bd.pre
  have hown : s.vm.findClass RL = some m.cls := findClass_of_methodNamed Bd.named
  have hlocks := Bd.notSynchronized
  have S : CallFix p m c cL_putUp 4 s _ wsL_putUp RL := ⟨hx, hb, hml, hown, hts⟩
  subst hsz
  have hD := hD0.self (sz := s.heap.size)
  generalize hAe : va_A (z_wBO X a d d2 B o g) s.heap.size = A at hD ⊢
  have hA : ∀ q : Nat, s.heap.size ≤ q → A q := fun q h => by rw [← hAe]; exact Or.inr h
  have hS : va_S A s.heap s.heap [] := va_S.rf
  have hl := lv_entry ([.ref a, .int v1, .ref o]) (n := 4) (Nat.le_of_ble_eq_true rfl)
  rw [lg_entry_eq]
  generalize (lg_sl ([.ref a, .int v1, .ref o]) ++ List.replicate (4 - (lg_sl ([.ref a, .int v1, .ref o])).length) Slot.unset).toArray = ls at hl ⊢
  have hl : lv_has ls 4 [(0, .ref a), (1, .int v1), (2, .ref o)] := hl
  refine lv_aload_n (pc := 0) hx hb dL_putUp_0 rfl (lv_at hl 2 rfl) ?_
  refine lv_iconst (v := 0) (pc := 1) hx hb dL_putUp_1 (by decide) ?_
  refine lv_aload_n (pc := 2) hx hb dL_putUp_2 rfl (lv_at hl 0 rfl) ?_
  refine lv_iload_n (pc := 3) hx hb dL_putUp_3 rfl (lv_at hl 1 rfl) ?_
  refine z_cmI (pc := 4) (W1 := (z_wBO X a d d2 RR.2 o g)) S (m_X4_putUp l X a d d2 B v1 hf) (cwV 1 hts gL_putUp_X4_putUp rfl rfl rfl hdX4_putUp ⟨Nat.le_of_ble_eq_true rfl, Nat.le_of_ble_eq_true rfl⟩) hP hK hN hD hS hA (s_BO_B X a d d2 B o g) (f_BO_B X a d d2 B o g RR.2) (ci := 4) rfl rfl rfl ⟨Nat.le_of_ble_eq_true rfl, Nat.le_of_ble_eq_true rfl⟩ rfl hl.1 rfl (Nat.le_of_ble_eq_true rfl) dL_putUp_4 (fun H locs hP hD hS => ?_)
  refine lv_i2l (v := (RR.1).toInt64) (pc := 7) hx hb dL_putUp_7 rfl ?_
  refine va_last (pc := 8) hx hb hK hP hD hS 53 2 rfl rfl z_in01 dL_putUp_8 (fun H locs hP hD hS => ?_)
  have hP : va_P X.1 vwCl (z_wBO X a d d2 RR.2 o (vp_updL g 0 (RR.1).toInt64)) H := hP
  have hD : va_D A (z_wBO X a d d2 RR.2 o (vp_updL g 0 (RR.1).toInt64)) := hD
  refine lv_goto (pc := 9) (tgt := 18) hx hb dL_putUp_9 (by decide) ?_
  refine lv_iconst (v := 0) (pc := 18) hx hb dL_putUp_18 (by decide) ?_
  exact W.iret (pc := 19) (v := 0) hx hb hr (fun t ht hW => ⟨⟨_, (z_wBO X a d d2 RR.2 o (vp_updL g 0 (RR.1).toInt64)), rfl, ⟨rfl, rfl⟩, by rw [ht]; exact hP, hD⟩, hS.F ht⟩) hS.2.2 dL_putUp_19
set_option maxHeartbeats 4000000 in
set_option maxRecDepth 100000 in
theorem wt_putUp_2 (l : Launch) (hl0 : l.stackTraces = false) (X : z_X) (a : Nat) (d d2 : Nat → Nat) (B : z_B) (o : Nat) (g : Nat → Int64) (v1 : Int32) (hf : x_X4_putUp B v1 = some 2) : z_eI l yL_putUp wsL_putUp 8 132 X [.ref a, .int v1, .ref o] (z_wBO X a d d2 B o g) 1 := by
  intro sz
  refine va_MetW (cc := cL_putUp) (maxL := 4) (ret := (some .int)) (by decide) rfl ?_
  intro p e s m args below meth c s₁ Bd hml hv
  obtain ⟨rfl, ⟨hsz, hP, hK, hN, hD0⟩, hT⟩ := hv
  have hx := Bd.exec
  have hb := Bd.bytes
  have hr := Bd.returns
  have hts := atoms_spec (ws := wsL_putUp) Bd.pre
  have hown : s.vm.findClass RL = some m.cls := findClass_of_methodNamed Bd.named
  have hlocks := Bd.notSynchronized
  have S : CallFix p m c cL_putUp 4 s _ wsL_putUp RL := ⟨hx, hb, hml, hown, hts⟩
  have htab := vx_table (x := yL_putUp) Bd (hts _ List.mem_cons_self)
  subst hsz
  have hD := hD0.self (sz := s.heap.size)
  generalize hAe : va_A (z_wBO X a d d2 B o g) s.heap.size = A at hD ⊢
  have hA : ∀ q : Nat, s.heap.size ≤ q → A q := fun q h => by rw [← hAe]; exact Or.inr h
  have hS : va_S A s.heap s.heap [] := va_S.rf
  have hl := lv_entry ([.ref a, .int v1, .ref o]) (n := 4) (Nat.le_of_ble_eq_true rfl)
  rw [lg_entry_eq]
  generalize (lg_sl ([.ref a, .int v1, .ref o]) ++ List.replicate (4 - (lg_sl ([.ref a, .int v1, .ref o])).length) Slot.unset).toArray = ls at hl ⊢
  have hl : lv_has ls 4 [(0, .ref a), (1, .int v1), (2, .ref o)] := hl
  refine lv_aload_n (pc := 0) hx hb dL_putUp_0 rfl (lv_at hl 2 rfl) ?_
  refine lv_iconst (v := 0) (pc := 1) hx hb dL_putUp_1 (by decide) ?_
  refine lv_aload_n (pc := 2) hx hb dL_putUp_2 rfl (lv_at hl 0 rfl) ?_
  refine lv_iload_n (pc := 3) hx hb dL_putUp_3 rfl (lv_at hl 1 rfl) ?_
  refine z_ctV (pc := 4) S (t_X4_putUp l hl0 X a d d2 B v1 hf) (cwV 1 hts gL_putUp_X4_putUp rfl rfl rfl hdX4_putUp ⟨Nat.le_of_ble_eq_true rfl, Nat.le_of_ble_eq_true rfl⟩) hP hK hN hT (s_BO_B X a d d2 B o g) hS (ci := 4) rfl rfl rfl ⟨Nat.le_of_ble_eq_true rfl, Nat.le_of_ble_eq_true rfl⟩ rfl hl.1 rfl (Nat.le_of_ble_eq_true rfl) dL_putUp_4 (fun ce q9 H1 locs1 hz1 hk1 hS1 hce hcv hcl => ?_)
  refine vx_catch (pc := 4) hown [] ⟨0, 9, 12, 25⟩ [⟨0, 9, 15, 15⟩] (htab.trans rfl) (fun z hz => nomatch hz) rfl (by decide) (hts (.classLink RL 25 "java/lang/IndexOutOfBoundsException") (List.mem_of_getElem? (i := 1) rfl)) (va_Nw.use rfl (hT.1.2.1 2 (by decide))) hce hcv hcl ?_
  have hP : va_P X.1 vwCl (z_wBO X a d d2 B o g) H1 := hP.kept (fun k q hk => hk1 q.1 ((hP k q hk).lt))
  refine lv_astore_n (pc := 12) (lv' := [(3, .ref q9), (0, .ref a), (1, .int v1), (2, .ref o)]) hx hb dL_putUp_12 rfl hl (by decide) rfl (fun ls hl => ?_)
  refine lv_iconst (v := 1) (pc := 13) hx hb dL_putUp_13 (by decide) ?_
  exact W.iret (pc := 14) (v := 1) hx hb hr (fun t ht hW => ⟨⟨_, (z_wBO X a d d2 B o g), rfl, ⟨rfl, rfl⟩, by rw [ht]; exact hP, hD⟩, hS1.F ht⟩) hS1.2.2 dL_putUp_14
set_option maxHeartbeats 4000000 in
set_option maxRecDepth 100000 in
theorem wt_putUp_1 (l : Launch) (hl0 : l.stackTraces = false) (X : z_X) (a : Nat) (d d2 : Nat → Nat) (B : z_B) (o : Nat) (g : Nat → Int64) (v1 : Int32) (hf : x_X4_putUp B v1 = some 1) : z_eI l yL_putUp wsL_putUp 8 132 X [.ref a, .int v1, .ref o] (z_wBO X a d d2 B o g) 2 := by
  intro sz
  refine va_MetW (cc := cL_putUp) (maxL := 4) (ret := (some .int)) (by decide) rfl ?_
  intro p e s m args below meth c s₁ Bd hml hv
  obtain ⟨rfl, ⟨hsz, hP, hK, hN, hD0⟩, hT⟩ := hv
  have hx := Bd.exec
  have hb := Bd.bytes
  have hr := Bd.returns
  have hts := atoms_spec (ws := wsL_putUp) Bd.pre
  have hown : s.vm.findClass RL = some m.cls := findClass_of_methodNamed Bd.named
  have hlocks := Bd.notSynchronized
  have S : CallFix p m c cL_putUp 4 s _ wsL_putUp RL := ⟨hx, hb, hml, hown, hts⟩
  have htab := vx_table (x := yL_putUp) Bd (hts _ List.mem_cons_self)
  subst hsz
  have hD := hD0.self (sz := s.heap.size)
  generalize hAe : va_A (z_wBO X a d d2 B o g) s.heap.size = A at hD ⊢
  have hA : ∀ q : Nat, s.heap.size ≤ q → A q := fun q h => by rw [← hAe]; exact Or.inr h
  have hS : va_S A s.heap s.heap [] := va_S.rf
  have hl := lv_entry ([.ref a, .int v1, .ref o]) (n := 4) (Nat.le_of_ble_eq_true rfl)
  rw [lg_entry_eq]
  generalize (lg_sl ([.ref a, .int v1, .ref o]) ++ List.replicate (4 - (lg_sl ([.ref a, .int v1, .ref o])).length) Slot.unset).toArray = ls at hl ⊢
  have hl : lv_has ls 4 [(0, .ref a), (1, .int v1), (2, .ref o)] := hl
  refine lv_aload_n (pc := 0) hx hb dL_putUp_0 rfl (lv_at hl 2 rfl) ?_
  refine lv_iconst (v := 0) (pc := 1) hx hb dL_putUp_1 (by decide) ?_
  refine lv_aload_n (pc := 2) hx hb dL_putUp_2 rfl (lv_at hl 0 rfl) ?_
  refine lv_iload_n (pc := 3) hx hb dL_putUp_3 rfl (lv_at hl 1 rfl) ?_
  refine z_ctV (pc := 4) S (t_X4_putUp l hl0 X a d d2 B v1 hf) (cwV 1 hts gL_putUp_X4_putUp rfl rfl rfl hdX4_putUp ⟨Nat.le_of_ble_eq_true rfl, Nat.le_of_ble_eq_true rfl⟩) hP hK hN hT (s_BO_B X a d d2 B o g) hS (ci := 4) rfl rfl rfl ⟨Nat.le_of_ble_eq_true rfl, Nat.le_of_ble_eq_true rfl⟩ rfl hl.1 rfl (Nat.le_of_ble_eq_true rfl) dL_putUp_4 (fun ce q9 H1 locs1 hz1 hk1 hS1 hce hcv hcl => ?_)
  refine vx_catch (pc := 4) hown [⟨0, 9, 12, 25⟩] ⟨0, 9, 15, 15⟩ [] (htab.trans rfl) (fun z hz => by obtain rfl := List.mem_singleton.mp hz; exact Or.inr ⟨by decide, _, (hts (.classLink RL 25 "java/lang/IndexOutOfBoundsException") (List.mem_of_getElem? (i := 1) rfl)), hT.1.2.2.1.2.2⟩) rfl (by decide) (hts (.classLink RL 15 "java/lang/IllegalStateException") (List.mem_of_getElem? (i := 2) rfl)) (va_Nw.use rfl (hT.1.2.1 1 (by decide))) hce hcv hcl ?_
  have hP : va_P X.1 vwCl (z_wBO X a d d2 B o g) H1 := hP.kept (fun k q hk => hk1 q.1 ((hP k q hk).lt))
  refine lv_astore_n (pc := 15) (lv' := [(3, .ref q9), (0, .ref a), (1, .int v1), (2, .ref o)]) hx hb dL_putUp_15 rfl hl (by decide) rfl (fun ls hl => ?_)
  refine lv_iconst (v := 2) (pc := 16) hx hb dL_putUp_16 (by decide) ?_
  exact W.iret (pc := 17) (v := 2) hx hb hr (fun t ht hW => ⟨⟨_, (z_wBO X a d d2 B o g), rfl, ⟨rfl, rfl⟩, by rw [ht]; exact hP, hD⟩, hS1.F ht⟩) hS1.2.2 dL_putUp_17
set_option maxHeartbeats 4000000 in
set_option maxRecDepth 100000 in
theorem wn_pass (l : Launch) (X : z_X) (a : Nat) (d d2 : Nat → Nat) (B : z_B) (o : Nat) (g : Nat → Int64) (v1 : Int32) {RR : (Int32 × z_B)} (hf : f_X4_pass B v1 = some RR) : z_mI l yL_pass wsL_pass 5 117 X [.ref a, .int v1, .ref o] (z_wBO X a d d2 B o g) 0 (z_wBO X a d d2 RR.2 o (vp_updL g 0 (RR.1).toInt64)) := by
  intro sz
  refine va_MetW (cc := cL_pass) (maxL := 4) (ret := (some .int)) (by decide) rfl ?_
  intro p e s m args below meth c s₁ Bd hml hv
  obtain ⟨rfl, hsz, hP, hK, hN, hD0⟩ := hv
  have hx := Bd.exec
  have hb := Bd.bytes
  have hr := Bd.returns
  have hts := atoms_spec (ws := wsL_pass) Bd.pre
  have hown : s.vm.findClass RL = some m.cls := findClass_of_methodNamed Bd.named
  have hlocks := Bd.notSynchronized
  have S : CallFix p m c cL_pass 4 s _ wsL_pass RL := ⟨hx, hb, hml, hown, hts⟩
  subst hsz
  have hD := hD0.self (sz := s.heap.size)
  generalize hAe : va_A (z_wBO X a d d2 B o g) s.heap.size = A at hD ⊢
  have hA : ∀ q : Nat, s.heap.size ≤ q → A q := fun q h => by rw [← hAe]; exact Or.inr h
  have hS : va_S A s.heap s.heap [] := va_S.rf
  have hl := lv_entry ([.ref a, .int v1, .ref o]) (n := 4) (Nat.le_of_ble_eq_true rfl)
  rw [lg_entry_eq]
  generalize (lg_sl ([.ref a, .int v1, .ref o]) ++ List.replicate (4 - (lg_sl ([.ref a, .int v1, .ref o])).length) Slot.unset).toArray = ls at hl ⊢
  have hl : lv_has ls 4 [(0, .ref a), (1, .int v1), (2, .ref o)] := hl
  refine lv_aload_n (pc := 0) hx hb dL_pass_0 rfl (lv_at hl 2 rfl) ?_
  refine lv_iconst (v := 0) (pc := 1) hx hb dL_pass_1 (by decide) ?_
  refine lv_aload_n (pc := 2) hx hb dL_pass_2 rfl (lv_at hl 0 rfl) ?_
  refine lv_iload_n (pc := 3) hx hb dL_pass_3 rfl (lv_at hl 1 rfl) ?_
  refine z_cmI (pc := 4) (W1 := (z_wBO X a d d2 RR.2 o g)) S (m_X4_pass l X a d d2 B v1 hf) (cwV 1 hts gL_pass_X4_pass rfl rfl rfl hdX4_pass ⟨Nat.le_of_ble_eq_true rfl, Nat.le_of_ble_eq_true rfl⟩) hP hK hN hD hS hA (s_BO_B X a d d2 B o g) (f_BO_B X a d d2 B o g RR.2) (ci := 4) rfl rfl rfl ⟨Nat.le_of_ble_eq_true rfl, Nat.le_of_ble_eq_true rfl⟩ rfl hl.1 rfl (Nat.le_of_ble_eq_true rfl) dL_pass_4 (fun H locs hP hD hS => ?_)
  refine lv_i2l (v := (RR.1).toInt64) (pc := 7) hx hb dL_pass_7 rfl ?_
  refine va_last (pc := 8) hx hb hK hP hD hS 53 2 rfl rfl z_in01 dL_pass_8 (fun H locs hP hD hS => ?_)
  have hP : va_P X.1 vwCl (z_wBO X a d d2 RR.2 o (vp_updL g 0 (RR.1).toInt64)) H := hP
  have hD : va_D A (z_wBO X a d d2 RR.2 o (vp_updL g 0 (RR.1).toInt64)) := hD
  refine lv_goto (pc := 9) (tgt := 15) hx hb dL_pass_9 (by decide) ?_
  refine lv_iconst (v := 0) (pc := 15) hx hb dL_pass_15 (by decide) ?_
  exact W.iret (pc := 16) (v := 0) hx hb hr (fun t ht hW => ⟨⟨_, (z_wBO X a d d2 RR.2 o (vp_updL g 0 (RR.1).toInt64)), rfl, ⟨rfl, rfl⟩, by rw [ht]; exact hP, hD⟩, hS.F ht⟩) hS.2.2 dL_pass_16
set_option maxHeartbeats 4000000 in
set_option maxRecDepth 100000 in
theorem wt_pass_0 (l : Launch) (hl0 : l.stackTraces = false) (X : z_X) (a : Nat) (d d2 : Nat → Nat) (B : z_B) (o : Nat) (g : Nat → Int64) (v1 : Int32) (hf : x_X4_pass B v1 = some 0) : z_eI l yL_pass wsL_pass 8 133 X [.ref a, .int v1, .ref o] (z_wBO X a d d2 B o g) 1 := by
  intro sz
  refine va_MetW (cc := cL_pass) (maxL := 4) (ret := (some .int)) (by decide) rfl ?_
  intro p e s m args below meth c s₁ Bd hml hv
  obtain ⟨rfl, ⟨hsz, hP, hK, hN, hD0⟩, hT⟩ := hv
  have hx := Bd.exec
  have hb := Bd.bytes
  have hr := Bd.returns
  have hts := atoms_spec (ws := wsL_pass) Bd.pre
  have hown : s.vm.findClass RL = some m.cls := findClass_of_methodNamed Bd.named
  have hlocks := Bd.notSynchronized
  have S : CallFix p m c cL_pass 4 s _ wsL_pass RL := ⟨hx, hb, hml, hown, hts⟩
  have htab := vx_table (x := yL_pass) Bd (hts _ List.mem_cons_self)
  subst hsz
  have hD := hD0.self (sz := s.heap.size)
  generalize hAe : va_A (z_wBO X a d d2 B o g) s.heap.size = A at hD ⊢
  have hA : ∀ q : Nat, s.heap.size ≤ q → A q := fun q h => by rw [← hAe]; exact Or.inr h
  have hS : va_S A s.heap s.heap [] := va_S.rf
  have hl := lv_entry ([.ref a, .int v1, .ref o]) (n := 4) (Nat.le_of_ble_eq_true rfl)
  rw [lg_entry_eq]
  generalize (lg_sl ([.ref a, .int v1, .ref o]) ++ List.replicate (4 - (lg_sl ([.ref a, .int v1, .ref o])).length) Slot.unset).toArray = ls at hl ⊢
  have hl : lv_has ls 4 [(0, .ref a), (1, .int v1), (2, .ref o)] := hl
  refine lv_aload_n (pc := 0) hx hb dL_pass_0 rfl (lv_at hl 2 rfl) ?_
  refine lv_iconst (v := 0) (pc := 1) hx hb dL_pass_1 (by decide) ?_
  refine lv_aload_n (pc := 2) hx hb dL_pass_2 rfl (lv_at hl 0 rfl) ?_
  refine lv_iload_n (pc := 3) hx hb dL_pass_3 rfl (lv_at hl 1 rfl) ?_
  refine z_ctV (pc := 4) S (t_X4_pass l hl0 X a d d2 B v1 hf) (cwV 1 hts gL_pass_X4_pass rfl rfl rfl hdX4_pass ⟨Nat.le_of_ble_eq_true rfl, Nat.le_of_ble_eq_true rfl⟩) hP hK hN hT (s_BO_B X a d d2 B o g) hS (ci := 4) rfl rfl rfl ⟨Nat.le_of_ble_eq_true rfl, Nat.le_of_ble_eq_true rfl⟩ rfl hl.1 rfl (Nat.le_of_ble_eq_true rfl) dL_pass_4 (fun ce q9 H1 locs1 hz1 hk1 hS1 hce hcv hcl => ?_)
  refine vx_catch (pc := 4) hown [] ⟨0, 9, 12, 13⟩ [] (htab.trans rfl) (fun z hz => nomatch hz) rfl (by decide) (hts (.classLink RL 13 "java/lang/IllegalArgumentException") (List.mem_of_getElem? (i := 1) rfl)) (va_Nw.use rfl (hT.1.2.1 0 (by decide))) hce hcv hcl ?_
  have hP : va_P X.1 vwCl (z_wBO X a d d2 B o g) H1 := hP.kept (fun k q hk => hk1 q.1 ((hP k q hk).lt))
  refine lv_astore_n (pc := 12) (lv' := [(3, .ref q9), (0, .ref a), (1, .int v1), (2, .ref o)]) hx hb dL_pass_12 rfl hl (by decide) rfl (fun ls hl => ?_)
  refine lv_iconst (v := 1) (pc := 13) hx hb dL_pass_13 (by decide) ?_
  exact W.iret (pc := 14) (v := 1) hx hb hr (fun t ht hW => ⟨⟨_, (z_wBO X a d d2 B o g), rfl, ⟨rfl, rfl⟩, by rw [ht]; exact hP, hD⟩, hS1.F ht⟩) hS1.2.2 dL_pass_14
set_option maxHeartbeats 4000000 in
set_option maxRecDepth 100000 in
theorem wn_dropOf (l : Launch) (X : z_X) (a : Nat) (d d2 : Nat → Nat) (B : z_B) (o : Nat) (g : Nat → Int64) (v1 : Int32) {RR : Int32} (hf : f_X4_dropOf B v1 = some RR) : z_mI l yL_dropOf wsL_dropOf 2 42 X [.ref a, .int v1, .ref o] (z_wBO X a d d2 B o g) 0 (z_wBO X a d d2 B o (vp_updL g 0 (RR).toInt64)) := by
  intro sz
  refine va_MetW (cc := cL_dropOf) (maxL := 4) (ret := (some .int)) (by decide) rfl ?_
  intro p e s m args below meth c s₁ Bd hml hv
  obtain ⟨rfl, hsz, hP, hK, hN, hD0⟩ := hv
  have hx := Bd.exec
  have hb := Bd.bytes
  have hr := Bd.returns
  have hts := atoms_spec (ws := wsL_dropOf) Bd.pre
  have hown : s.vm.findClass RL = some m.cls := findClass_of_methodNamed Bd.named
  have hlocks := Bd.notSynchronized
  have S : CallFix p m c cL_dropOf 4 s _ wsL_dropOf RL := ⟨hx, hb, hml, hown, hts⟩
  subst hsz
  have hD := hD0.self (sz := s.heap.size)
  generalize hAe : va_A (z_wBO X a d d2 B o g) s.heap.size = A at hD ⊢
  have hA : ∀ q : Nat, s.heap.size ≤ q → A q := fun q h => by rw [← hAe]; exact Or.inr h
  have hS : va_S A s.heap s.heap [] := va_S.rf
  have hl := lv_entry ([.ref a, .int v1, .ref o]) (n := 4) (Nat.le_of_ble_eq_true rfl)
  rw [lg_entry_eq]
  generalize (lg_sl ([.ref a, .int v1, .ref o]) ++ List.replicate (4 - (lg_sl ([.ref a, .int v1, .ref o])).length) Slot.unset).toArray = ls at hl ⊢
  have hl : lv_has ls 4 [(0, .ref a), (1, .int v1), (2, .ref o)] := hl
  refine lv_aload_n (pc := 0) hx hb dL_dropOf_0 rfl (lv_at hl 2 rfl) ?_
  refine lv_iconst (v := 0) (pc := 1) hx hb dL_dropOf_1 (by decide) ?_
  refine lv_aload_n (pc := 2) hx hb dL_dropOf_2 rfl (lv_at hl 0 rfl) ?_
  refine lv_iload_n (pc := 3) hx hb dL_dropOf_3 rfl (lv_at hl 1 rfl) ?_
  refine z_cpI (pc := 4) S (m_X4_dropOf l X a d d2 B v1 hf) (cwV 1 hts gL_dropOf_X4_dropOf rfl rfl rfl hdX4_dropOf ⟨Nat.le_of_ble_eq_true rfl, Nat.le_of_ble_eq_true rfl⟩) hP hK hN (s_BO_B X a d d2 B o g) (ci := 4) rfl rfl rfl ⟨Nat.le_of_ble_eq_true rfl, Nat.le_of_ble_eq_true rfl⟩ rfl hl.1 rfl (Nat.le_of_ble_eq_true rfl) dL_dropOf_4 ?_
  refine lv_i2l (v := (RR).toInt64) (pc := 7) hx hb dL_dropOf_7 rfl ?_
  refine va_last (pc := 8) hx hb hK hP hD hS 53 2 rfl rfl z_in01 dL_dropOf_8 (fun H locs hP hD hS => ?_)
  have hP : va_P X.1 vwCl (z_wBO X a d d2 B o (vp_updL g 0 (RR).toInt64)) H := hP
  have hD : va_D A (z_wBO X a d d2 B o (vp_updL g 0 (RR).toInt64)) := hD
  refine lv_goto (pc := 9) (tgt := 15) hx hb dL_dropOf_9 (by decide) ?_
  refine lv_iconst (v := 0) (pc := 15) hx hb dL_dropOf_15 (by decide) ?_
  exact W.iret (pc := 16) (v := 0) hx hb hr (fun t ht hW => ⟨⟨_, (z_wBO X a d d2 B o (vp_updL g 0 (RR).toInt64)), rfl, ⟨rfl, rfl⟩, by rw [ht]; exact hP, hD⟩, hS.F ht⟩) hS.2.2 dL_dropOf_16
set_option maxHeartbeats 4000000 in
set_option maxRecDepth 100000 in
theorem wt_dropOf_2 (l : Launch) (hl0 : l.stackTraces = false) (X : z_X) (a : Nat) (d d2 : Nat → Nat) (B : z_B) (o : Nat) (g : Nat → Int64) (v1 : Int32) (hf : x_X4_dropOf B v1 = some 2) : z_eI l yL_dropOf wsL_dropOf 8 132 X [.ref a, .int v1, .ref o] (z_wBO X a d d2 B o g) 1 := by
  intro sz
  refine va_MetW (cc := cL_dropOf) (maxL := 4) (ret := (some .int)) (by decide) rfl ?_
  intro p e s m args below meth c s₁ Bd hml hv
  obtain ⟨rfl, ⟨hsz, hP, hK, hN, hD0⟩, hT⟩ := hv
  have hx := Bd.exec
  have hb := Bd.bytes
  have hr := Bd.returns
  have hts := atoms_spec (ws := wsL_dropOf) Bd.pre
  have hown : s.vm.findClass RL = some m.cls := findClass_of_methodNamed Bd.named
  have hlocks := Bd.notSynchronized
  have S : CallFix p m c cL_dropOf 4 s _ wsL_dropOf RL := ⟨hx, hb, hml, hown, hts⟩
  have htab := vx_table (x := yL_dropOf) Bd (hts _ List.mem_cons_self)
  subst hsz
  have hD := hD0.self (sz := s.heap.size)
  generalize hAe : va_A (z_wBO X a d d2 B o g) s.heap.size = A at hD ⊢
  have hA : ∀ q : Nat, s.heap.size ≤ q → A q := fun q h => by rw [← hAe]; exact Or.inr h
  have hS : va_S A s.heap s.heap [] := va_S.rf
  have hl := lv_entry ([.ref a, .int v1, .ref o]) (n := 4) (Nat.le_of_ble_eq_true rfl)
  rw [lg_entry_eq]
  generalize (lg_sl ([.ref a, .int v1, .ref o]) ++ List.replicate (4 - (lg_sl ([.ref a, .int v1, .ref o])).length) Slot.unset).toArray = ls at hl ⊢
  have hl : lv_has ls 4 [(0, .ref a), (1, .int v1), (2, .ref o)] := hl
  refine lv_aload_n (pc := 0) hx hb dL_dropOf_0 rfl (lv_at hl 2 rfl) ?_
  refine lv_iconst (v := 0) (pc := 1) hx hb dL_dropOf_1 (by decide) ?_
  refine lv_aload_n (pc := 2) hx hb dL_dropOf_2 rfl (lv_at hl 0 rfl) ?_
  refine lv_iload_n (pc := 3) hx hb dL_dropOf_3 rfl (lv_at hl 1 rfl) ?_
  refine z_ctV (pc := 4) S (t_X4_dropOf l hl0 X a d d2 B v1 hf) (cwV 1 hts gL_dropOf_X4_dropOf rfl rfl rfl hdX4_dropOf ⟨Nat.le_of_ble_eq_true rfl, Nat.le_of_ble_eq_true rfl⟩) hP hK hN hT (s_BO_B X a d d2 B o g) hS (ci := 4) rfl rfl rfl ⟨Nat.le_of_ble_eq_true rfl, Nat.le_of_ble_eq_true rfl⟩ rfl hl.1 rfl (Nat.le_of_ble_eq_true rfl) dL_dropOf_4 (fun ce q9 H1 locs1 hz1 hk1 hS1 hce hcv hcl => ?_)
  refine vx_catch (pc := 4) hown [] ⟨0, 9, 12, 25⟩ [] (htab.trans rfl) (fun z hz => nomatch hz) rfl (by decide) (hts (.classLink RL 25 "java/lang/IndexOutOfBoundsException") (List.mem_of_getElem? (i := 1) rfl)) (va_Nw.use rfl (hT.1.2.1 2 (by decide))) hce hcv hcl ?_
  have hP : va_P X.1 vwCl (z_wBO X a d d2 B o g) H1 := hP.kept (fun k q hk => hk1 q.1 ((hP k q hk).lt))
  refine lv_astore_n (pc := 12) (lv' := [(3, .ref q9), (0, .ref a), (1, .int v1), (2, .ref o)]) hx hb dL_dropOf_12 rfl hl (by decide) rfl (fun ls hl => ?_)
  refine lv_iconst (v := 1) (pc := 13) hx hb dL_dropOf_13 (by decide) ?_
  exact W.iret (pc := 14) (v := 1) hx hb hr (fun t ht hW => ⟨⟨_, (z_wBO X a d d2 B o g), rfl, ⟨rfl, rfl⟩, by rw [ht]; exact hP, hD⟩, hS1.F ht⟩) hS1.2.2 dL_dropOf_14
set_option maxHeartbeats 4000000 in
set_option maxRecDepth 100000 in
theorem wn_roomOf (l : Launch) (X : z_X) (a : Nat) (d d2 : Nat → Nat) (B : z_B) (o : Nat) (g : Nat → Int64) (v1 : Int32) {RR : Int32} (hf : f_X4_roomOf B v1 = some RR) : z_mI l yL_roomOf wsL_roomOf 2 43 X [.ref a, .int v1, .ref o] (z_wBO X a d d2 B o g) 0 (z_wBO X a d d2 B o (vp_updL g 0 (RR).toInt64)) := by
  intro sz
  refine va_MetW (cc := cL_roomOf) (maxL := 4) (ret := (some .int)) (by decide) rfl ?_
  intro p e s m args below meth c s₁ Bd hml hv
  obtain ⟨rfl, hsz, hP, hK, hN, hD0⟩ := hv
  have hx := Bd.exec
  have hb := Bd.bytes
  have hr := Bd.returns
  have hts := atoms_spec (ws := wsL_roomOf) Bd.pre
  have hown : s.vm.findClass RL = some m.cls := findClass_of_methodNamed Bd.named
  have hlocks := Bd.notSynchronized
  have S : CallFix p m c cL_roomOf 4 s _ wsL_roomOf RL := ⟨hx, hb, hml, hown, hts⟩
  subst hsz
  have hD := hD0.self (sz := s.heap.size)
  generalize hAe : va_A (z_wBO X a d d2 B o g) s.heap.size = A at hD ⊢
  have hA : ∀ q : Nat, s.heap.size ≤ q → A q := fun q h => by rw [← hAe]; exact Or.inr h
  have hS : va_S A s.heap s.heap [] := va_S.rf
  have hl := lv_entry ([.ref a, .int v1, .ref o]) (n := 4) (Nat.le_of_ble_eq_true rfl)
  rw [lg_entry_eq]
  generalize (lg_sl ([.ref a, .int v1, .ref o]) ++ List.replicate (4 - (lg_sl ([.ref a, .int v1, .ref o])).length) Slot.unset).toArray = ls at hl ⊢
  have hl : lv_has ls 4 [(0, .ref a), (1, .int v1), (2, .ref o)] := hl
  refine lv_aload_n (pc := 0) hx hb dL_roomOf_0 rfl (lv_at hl 2 rfl) ?_
  refine lv_iconst (v := 0) (pc := 1) hx hb dL_roomOf_1 (by decide) ?_
  refine lv_aload_n (pc := 2) hx hb dL_roomOf_2 rfl (lv_at hl 0 rfl) ?_
  refine lv_iload_n (pc := 3) hx hb dL_roomOf_3 rfl (lv_at hl 1 rfl) ?_
  refine z_cpI (pc := 4) S (m_X4_roomOf l X a d d2 B v1 hf) (cwV 1 hts gL_roomOf_X4_roomOf rfl rfl rfl hdX4_roomOf ⟨Nat.le_of_ble_eq_true rfl, Nat.le_of_ble_eq_true rfl⟩) hP hK hN (s_BO_B X a d d2 B o g) (ci := 4) rfl rfl rfl ⟨Nat.le_of_ble_eq_true rfl, Nat.le_of_ble_eq_true rfl⟩ rfl hl.1 rfl (Nat.le_of_ble_eq_true rfl) dL_roomOf_4 ?_
  refine lv_i2l (v := (RR).toInt64) (pc := 7) hx hb dL_roomOf_7 rfl ?_
  refine va_last (pc := 8) hx hb hK hP hD hS 53 2 rfl rfl z_in01 dL_roomOf_8 (fun H locs hP hD hS => ?_)
  have hP : va_P X.1 vwCl (z_wBO X a d d2 B o (vp_updL g 0 (RR).toInt64)) H := hP
  have hD : va_D A (z_wBO X a d d2 B o (vp_updL g 0 (RR).toInt64)) := hD
  refine lv_goto (pc := 9) (tgt := 15) hx hb dL_roomOf_9 (by decide) ?_
  refine lv_iconst (v := 0) (pc := 15) hx hb dL_roomOf_15 (by decide) ?_
  exact W.iret (pc := 16) (v := 0) hx hb hr (fun t ht hW => ⟨⟨_, (z_wBO X a d d2 B o (vp_updL g 0 (RR).toInt64)), rfl, ⟨rfl, rfl⟩, by rw [ht]; exact hP, hD⟩, hS.F ht⟩) hS.2.2 dL_roomOf_16
set_option maxHeartbeats 4000000 in
set_option maxRecDepth 100000 in
theorem wt_roomOf_2 (l : Launch) (hl0 : l.stackTraces = false) (X : z_X) (a : Nat) (d d2 : Nat → Nat) (B : z_B) (o : Nat) (g : Nat → Int64) (v1 : Int32) (hf : x_X4_roomOf B v1 = some 2) : z_eI l yL_roomOf wsL_roomOf 8 133 X [.ref a, .int v1, .ref o] (z_wBO X a d d2 B o g) 1 := by
  intro sz
  refine va_MetW (cc := cL_roomOf) (maxL := 4) (ret := (some .int)) (by decide) rfl ?_
  intro p e s m args below meth c s₁ Bd hml hv
  obtain ⟨rfl, ⟨hsz, hP, hK, hN, hD0⟩, hT⟩ := hv
  have hx := Bd.exec
  have hb := Bd.bytes
  have hr := Bd.returns
  have hts := atoms_spec (ws := wsL_roomOf) Bd.pre
  have hown : s.vm.findClass RL = some m.cls := findClass_of_methodNamed Bd.named
  have hlocks := Bd.notSynchronized
  have S : CallFix p m c cL_roomOf 4 s _ wsL_roomOf RL := ⟨hx, hb, hml, hown, hts⟩
  have htab := vx_table (x := yL_roomOf) Bd (hts _ List.mem_cons_self)
  subst hsz
  have hD := hD0.self (sz := s.heap.size)
  generalize hAe : va_A (z_wBO X a d d2 B o g) s.heap.size = A at hD ⊢
  have hA : ∀ q : Nat, s.heap.size ≤ q → A q := fun q h => by rw [← hAe]; exact Or.inr h
  have hS : va_S A s.heap s.heap [] := va_S.rf
  have hl := lv_entry ([.ref a, .int v1, .ref o]) (n := 4) (Nat.le_of_ble_eq_true rfl)
  rw [lg_entry_eq]
  generalize (lg_sl ([.ref a, .int v1, .ref o]) ++ List.replicate (4 - (lg_sl ([.ref a, .int v1, .ref o])).length) Slot.unset).toArray = ls at hl ⊢
  have hl : lv_has ls 4 [(0, .ref a), (1, .int v1), (2, .ref o)] := hl
  refine lv_aload_n (pc := 0) hx hb dL_roomOf_0 rfl (lv_at hl 2 rfl) ?_
  refine lv_iconst (v := 0) (pc := 1) hx hb dL_roomOf_1 (by decide) ?_
  refine lv_aload_n (pc := 2) hx hb dL_roomOf_2 rfl (lv_at hl 0 rfl) ?_
  refine lv_iload_n (pc := 3) hx hb dL_roomOf_3 rfl (lv_at hl 1 rfl) ?_
  refine z_ctV (pc := 4) S (t_X4_roomOf l hl0 X a d d2 B v1 hf) (cwV 1 hts gL_roomOf_X4_roomOf rfl rfl rfl hdX4_roomOf ⟨Nat.le_of_ble_eq_true rfl, Nat.le_of_ble_eq_true rfl⟩) hP hK hN hT (s_BO_B X a d d2 B o g) hS (ci := 4) rfl rfl rfl ⟨Nat.le_of_ble_eq_true rfl, Nat.le_of_ble_eq_true rfl⟩ rfl hl.1 rfl (Nat.le_of_ble_eq_true rfl) dL_roomOf_4 (fun ce q9 H1 locs1 hz1 hk1 hS1 hce hcv hcl => ?_)
  refine vx_catch (pc := 4) hown [] ⟨0, 9, 12, 25⟩ [] (htab.trans rfl) (fun z hz => nomatch hz) rfl (by decide) (hts (.classLink RL 25 "java/lang/IndexOutOfBoundsException") (List.mem_of_getElem? (i := 1) rfl)) (va_Nw.use rfl (hT.1.2.1 2 (by decide))) hce hcv hcl ?_
  have hP : va_P X.1 vwCl (z_wBO X a d d2 B o g) H1 := hP.kept (fun k q hk => hk1 q.1 ((hP k q hk).lt))
  refine lv_astore_n (pc := 12) (lv' := [(3, .ref q9), (0, .ref a), (1, .int v1), (2, .ref o)]) hx hb dL_roomOf_12 rfl hl (by decide) rfl (fun ls hl => ?_)
  refine lv_iconst (v := 1) (pc := 13) hx hb dL_roomOf_13 (by decide) ?_
  exact W.iret (pc := 14) (v := 1) hx hb hr (fun t ht hW => ⟨⟨_, (z_wBO X a d d2 B o g), rfl, ⟨rfl, rfl⟩, by rw [ht]; exact hP, hD⟩, hS1.F ht⟩) hS1.2.2 dL_roomOf_14
set_option maxHeartbeats 4000000 in
set_option maxRecDepth 100000 in
theorem wn_isCut (l : Launch) (X : z_X) (a : Nat) (d d2 : Nat → Nat) (B : z_B) (o : Nat) (g : Nat → Int64) (v1 : Int32) {RR : Int32} (hf : f_X4_isCut B v1 = some RR) : z_mI l yL_isCut wsL_isCut 3 63 X [.ref a, .int v1, .ref o] (z_wBO X a d d2 B o g) 0 (z_wBO X a d d2 B o (vp_updL g 0 (if RR = 0 then 0 else 1))) := by
  intro sz
  refine va_MetW (cc := cL_isCut) (maxL := 4) (ret := (some .int)) (by decide) rfl ?_
  intro p e s m args below meth c s₁ Bd hml hv
  obtain ⟨rfl, hsz, hP, hK, hN, hD0⟩ := hv
  have hx := Bd.exec
  have hb := Bd.bytes
  have hr := Bd.returns
  have hts := atoms_spec (ws := wsL_isCut) Bd.pre
  have hown : s.vm.findClass RL = some m.cls := findClass_of_methodNamed Bd.named
  have hlocks := Bd.notSynchronized
  have S : CallFix p m c cL_isCut 4 s _ wsL_isCut RL := ⟨hx, hb, hml, hown, hts⟩
  subst hsz
  have hD := hD0.self (sz := s.heap.size)
  generalize hAe : va_A (z_wBO X a d d2 B o g) s.heap.size = A at hD ⊢
  have hA : ∀ q : Nat, s.heap.size ≤ q → A q := fun q h => by rw [← hAe]; exact Or.inr h
  have hS : va_S A s.heap s.heap [] := va_S.rf
  have hl := lv_entry ([.ref a, .int v1, .ref o]) (n := 4) (Nat.le_of_ble_eq_true rfl)
  rw [lg_entry_eq]
  generalize (lg_sl ([.ref a, .int v1, .ref o]) ++ List.replicate (4 - (lg_sl ([.ref a, .int v1, .ref o])).length) Slot.unset).toArray = ls at hl ⊢
  have hl : lv_has ls 4 [(0, .ref a), (1, .int v1), (2, .ref o)] := hl
  refine lv_aload_n (pc := 0) hx hb dL_isCut_0 rfl (lv_at hl 2 rfl) ?_
  refine lv_iconst (v := 0) (pc := 1) hx hb dL_isCut_1 (by decide) ?_
  refine lv_aload_n (pc := 2) hx hb dL_isCut_2 rfl (lv_at hl 0 rfl) ?_
  refine lv_iload_n (pc := 3) hx hb dL_isCut_3 rfl (lv_at hl 1 rfl) ?_
  refine z_cpI (pc := 4) S (m_X4_isCut l X a d d2 B v1 hf) (cwV 1 hts gL_isCut_X4_isCut rfl rfl rfl hdX4_isCut ⟨Nat.le_of_ble_eq_true rfl, Nat.le_of_ble_eq_true rfl⟩) hP hK hN (s_BO_B X a d d2 B o g) (ci := 4) rfl rfl rfl ⟨Nat.le_of_ble_eq_true rfl, Nat.le_of_ble_eq_true rfl⟩ rfl hl.1 rfl (Nat.le_of_ble_eq_true rfl) dL_isCut_4 ?_
  refine lv_if_eq (pc := 7) (tgt := 14) hx hb dL_isCut_7 (by decide) (fun c_7 => ?_) (fun c_7 => ?_)
  · refine lv_lconst (v := 0) (pc := 14) hx hb dL_isCut_14 rfl ?_
    refine va_last (pc := 15) hx hb hK hP hD hS 53 2 rfl rfl z_in01 dL_isCut_15 (fun H locs hP hD hS => ?_)
    have hP : va_P X.1 vwCl (z_wBO X a d d2 B o (vp_updL g 0 0)) H := hP
    have hD : va_D A (z_wBO X a d d2 B o (vp_updL g 0 0)) := hD
    refine lv_goto (pc := 16) (tgt := 22) hx hb dL_isCut_16 (by decide) ?_
    refine lv_iconst (v := 0) (pc := 22) hx hb dL_isCut_22 (by decide) ?_
    exact W.iret (pc := 23) (v := 0) hx hb hr (fun t ht hW => ⟨⟨_, (z_wBO X a d d2 B o (vp_updL g 0 0)), rfl, ⟨rfl, by rw [if_pos c_7]⟩, by rw [ht]; exact hP, hD⟩, hS.F ht⟩) hS.2.2 dL_isCut_23
  · refine lv_lconst (v := 1) (pc := 10) hx hb dL_isCut_10 rfl ?_
    refine lv_goto (pc := 11) (tgt := 15) hx hb dL_isCut_11 (by decide) ?_
    refine va_last (pc := 15) hx hb hK hP hD hS 53 2 rfl rfl z_in01 dL_isCut_15 (fun H locs hP hD hS => ?_)
    have hP : va_P X.1 vwCl (z_wBO X a d d2 B o (vp_updL g 0 1)) H := hP
    have hD : va_D A (z_wBO X a d d2 B o (vp_updL g 0 1)) := hD
    refine lv_goto (pc := 16) (tgt := 22) hx hb dL_isCut_16 (by decide) ?_
    refine lv_iconst (v := 0) (pc := 22) hx hb dL_isCut_22 (by decide) ?_
    exact W.iret (pc := 23) (v := 0) hx hb hr (fun t ht hW => ⟨⟨_, (z_wBO X a d d2 B o (vp_updL g 0 1)), rfl, ⟨rfl, by rw [if_neg c_7]⟩, by rw [ht]; exact hP, hD⟩, hS.F ht⟩) hS.2.2 dL_isCut_23
set_option maxHeartbeats 4000000 in
set_option maxRecDepth 100000 in
theorem wt_isCut_2 (l : Launch) (hl0 : l.stackTraces = false) (X : z_X) (a : Nat) (d d2 : Nat → Nat) (B : z_B) (o : Nat) (g : Nat → Int64) (v1 : Int32) (hf : x_X4_isCut B v1 = some 2) : z_eI l yL_isCut wsL_isCut 8 132 X [.ref a, .int v1, .ref o] (z_wBO X a d d2 B o g) 1 := by
  intro sz
  refine va_MetW (cc := cL_isCut) (maxL := 4) (ret := (some .int)) (by decide) rfl ?_
  intro p e s m args below meth c s₁ Bd hml hv
  obtain ⟨rfl, ⟨hsz, hP, hK, hN, hD0⟩, hT⟩ := hv
  have hx := Bd.exec
  have hb := Bd.bytes
  have hr := Bd.returns
  have hts := atoms_spec (ws := wsL_isCut) Bd.pre
  have hown : s.vm.findClass RL = some m.cls := findClass_of_methodNamed Bd.named
  have hlocks := Bd.notSynchronized
  have S : CallFix p m c cL_isCut 4 s _ wsL_isCut RL := ⟨hx, hb, hml, hown, hts⟩
  have htab := vx_table (x := yL_isCut) Bd (hts _ List.mem_cons_self)
  subst hsz
  have hD := hD0.self (sz := s.heap.size)
  generalize hAe : va_A (z_wBO X a d d2 B o g) s.heap.size = A at hD ⊢
  have hA : ∀ q : Nat, s.heap.size ≤ q → A q := fun q h => by rw [← hAe]; exact Or.inr h
  have hS : va_S A s.heap s.heap [] := va_S.rf
  have hl := lv_entry ([.ref a, .int v1, .ref o]) (n := 4) (Nat.le_of_ble_eq_true rfl)
  rw [lg_entry_eq]
  generalize (lg_sl ([.ref a, .int v1, .ref o]) ++ List.replicate (4 - (lg_sl ([.ref a, .int v1, .ref o])).length) Slot.unset).toArray = ls at hl ⊢
  have hl : lv_has ls 4 [(0, .ref a), (1, .int v1), (2, .ref o)] := hl
  refine lv_aload_n (pc := 0) hx hb dL_isCut_0 rfl (lv_at hl 2 rfl) ?_
  refine lv_iconst (v := 0) (pc := 1) hx hb dL_isCut_1 (by decide) ?_
  refine lv_aload_n (pc := 2) hx hb dL_isCut_2 rfl (lv_at hl 0 rfl) ?_
  refine lv_iload_n (pc := 3) hx hb dL_isCut_3 rfl (lv_at hl 1 rfl) ?_
  refine z_ctV (pc := 4) S (t_X4_isCut l hl0 X a d d2 B v1 hf) (cwV 1 hts gL_isCut_X4_isCut rfl rfl rfl hdX4_isCut ⟨Nat.le_of_ble_eq_true rfl, Nat.le_of_ble_eq_true rfl⟩) hP hK hN hT (s_BO_B X a d d2 B o g) hS (ci := 4) rfl rfl rfl ⟨Nat.le_of_ble_eq_true rfl, Nat.le_of_ble_eq_true rfl⟩ rfl hl.1 rfl (Nat.le_of_ble_eq_true rfl) dL_isCut_4 (fun ce q9 H1 locs1 hz1 hk1 hS1 hce hcv hcl => ?_)
  refine vx_catch (pc := 4) hown [] ⟨0, 16, 19, 25⟩ [] (htab.trans rfl) (fun z hz => nomatch hz) rfl (by decide) (hts (.classLink RL 25 "java/lang/IndexOutOfBoundsException") (List.mem_of_getElem? (i := 1) rfl)) (va_Nw.use rfl (hT.1.2.1 2 (by decide))) hce hcv hcl ?_
  have hP : va_P X.1 vwCl (z_wBO X a d d2 B o g) H1 := hP.kept (fun k q hk => hk1 q.1 ((hP k q hk).lt))
  refine lv_astore_n (pc := 19) (lv' := [(3, .ref q9), (0, .ref a), (1, .int v1), (2, .ref o)]) hx hb dL_isCut_19 rfl hl (by decide) rfl (fun ls hl => ?_)
  refine lv_iconst (v := 1) (pc := 20) hx hb dL_isCut_20 (by decide) ?_
  exact W.iret (pc := 21) (v := 1) hx hb hr (fun t ht hW => ⟨⟨_, (z_wBO X a d d2 B o g), rfl, ⟨rfl, rfl⟩, by rw [ht]; exact hP, hD⟩, hS1.F ht⟩) hS1.2.2 dL_isCut_21
set_option maxHeartbeats 4000000 in
set_option maxRecDepth 100000 in
theorem wn_waitedFor (l : Launch) (X : z_X) (a : Nat) (d d2 : Nat → Nat) (B : z_B) (o : Nat) (g : Nat → Int64) (v1 : Int32) {RR : Int32} (hf : f_X4_waitedFor B v1 = some RR) : z_mI l yL_waitedFor wsL_waitedFor 2 42 X [.ref a, .int v1, .ref o] (z_wBO X a d d2 B o g) 0 (z_wBO X a d d2 B o (vp_updL g 0 (RR).toInt64)) := by
  intro sz
  refine va_MetW (cc := cL_waitedFor) (maxL := 4) (ret := (some .int)) (by decide) rfl ?_
  intro p e s m args below meth c s₁ Bd hml hv
  obtain ⟨rfl, hsz, hP, hK, hN, hD0⟩ := hv
  have hx := Bd.exec
  have hb := Bd.bytes
  have hr := Bd.returns
  have hts := atoms_spec (ws := wsL_waitedFor) Bd.pre
  have hown : s.vm.findClass RL = some m.cls := findClass_of_methodNamed Bd.named
  have hlocks := Bd.notSynchronized
  have S : CallFix p m c cL_waitedFor 4 s _ wsL_waitedFor RL := ⟨hx, hb, hml, hown, hts⟩
  subst hsz
  have hD := hD0.self (sz := s.heap.size)
  generalize hAe : va_A (z_wBO X a d d2 B o g) s.heap.size = A at hD ⊢
  have hA : ∀ q : Nat, s.heap.size ≤ q → A q := fun q h => by rw [← hAe]; exact Or.inr h
  have hS : va_S A s.heap s.heap [] := va_S.rf
  have hl := lv_entry ([.ref a, .int v1, .ref o]) (n := 4) (Nat.le_of_ble_eq_true rfl)
  rw [lg_entry_eq]
  generalize (lg_sl ([.ref a, .int v1, .ref o]) ++ List.replicate (4 - (lg_sl ([.ref a, .int v1, .ref o])).length) Slot.unset).toArray = ls at hl ⊢
  have hl : lv_has ls 4 [(0, .ref a), (1, .int v1), (2, .ref o)] := hl
  refine lv_aload_n (pc := 0) hx hb dL_waitedFor_0 rfl (lv_at hl 2 rfl) ?_
  refine lv_iconst (v := 0) (pc := 1) hx hb dL_waitedFor_1 (by decide) ?_
  refine lv_aload_n (pc := 2) hx hb dL_waitedFor_2 rfl (lv_at hl 0 rfl) ?_
  refine lv_iload_n (pc := 3) hx hb dL_waitedFor_3 rfl (lv_at hl 1 rfl) ?_
  refine z_cpI (pc := 4) S (m_X4_waitedFor l X a d d2 B v1 hf) (cwV 1 hts gL_waitedFor_X4_waitedFor rfl rfl rfl hdX4_waitedFor ⟨Nat.le_of_ble_eq_true rfl, Nat.le_of_ble_eq_true rfl⟩) hP hK hN (s_BO_B X a d d2 B o g) (ci := 4) rfl rfl rfl ⟨Nat.le_of_ble_eq_true rfl, Nat.le_of_ble_eq_true rfl⟩ rfl hl.1 rfl (Nat.le_of_ble_eq_true rfl) dL_waitedFor_4 ?_
  refine lv_i2l (v := (RR).toInt64) (pc := 7) hx hb dL_waitedFor_7 rfl ?_
  refine va_last (pc := 8) hx hb hK hP hD hS 53 2 rfl rfl z_in01 dL_waitedFor_8 (fun H locs hP hD hS => ?_)
  have hP : va_P X.1 vwCl (z_wBO X a d d2 B o (vp_updL g 0 (RR).toInt64)) H := hP
  have hD : va_D A (z_wBO X a d d2 B o (vp_updL g 0 (RR).toInt64)) := hD
  refine lv_goto (pc := 9) (tgt := 15) hx hb dL_waitedFor_9 (by decide) ?_
  refine lv_iconst (v := 0) (pc := 15) hx hb dL_waitedFor_15 (by decide) ?_
  exact W.iret (pc := 16) (v := 0) hx hb hr (fun t ht hW => ⟨⟨_, (z_wBO X a d d2 B o (vp_updL g 0 (RR).toInt64)), rfl, ⟨rfl, rfl⟩, by rw [ht]; exact hP, hD⟩, hS.F ht⟩) hS.2.2 dL_waitedFor_16
set_option maxHeartbeats 4000000 in
set_option maxRecDepth 100000 in
theorem wt_waitedFor_2 (l : Launch) (hl0 : l.stackTraces = false) (X : z_X) (a : Nat) (d d2 : Nat → Nat) (B : z_B) (o : Nat) (g : Nat → Int64) (v1 : Int32) (hf : x_X4_waitedFor B v1 = some 2) : z_eI l yL_waitedFor wsL_waitedFor 8 132 X [.ref a, .int v1, .ref o] (z_wBO X a d d2 B o g) 1 := by
  intro sz
  refine va_MetW (cc := cL_waitedFor) (maxL := 4) (ret := (some .int)) (by decide) rfl ?_
  intro p e s m args below meth c s₁ Bd hml hv
  obtain ⟨rfl, ⟨hsz, hP, hK, hN, hD0⟩, hT⟩ := hv
  have hx := Bd.exec
  have hb := Bd.bytes
  have hr := Bd.returns
  have hts := atoms_spec (ws := wsL_waitedFor) Bd.pre
  have hown : s.vm.findClass RL = some m.cls := findClass_of_methodNamed Bd.named
  have hlocks := Bd.notSynchronized
  have S : CallFix p m c cL_waitedFor 4 s _ wsL_waitedFor RL := ⟨hx, hb, hml, hown, hts⟩
  have htab := vx_table (x := yL_waitedFor) Bd (hts _ List.mem_cons_self)
  subst hsz
  have hD := hD0.self (sz := s.heap.size)
  generalize hAe : va_A (z_wBO X a d d2 B o g) s.heap.size = A at hD ⊢
  have hA : ∀ q : Nat, s.heap.size ≤ q → A q := fun q h => by rw [← hAe]; exact Or.inr h
  have hS : va_S A s.heap s.heap [] := va_S.rf
  have hl := lv_entry ([.ref a, .int v1, .ref o]) (n := 4) (Nat.le_of_ble_eq_true rfl)
  rw [lg_entry_eq]
  generalize (lg_sl ([.ref a, .int v1, .ref o]) ++ List.replicate (4 - (lg_sl ([.ref a, .int v1, .ref o])).length) Slot.unset).toArray = ls at hl ⊢
  have hl : lv_has ls 4 [(0, .ref a), (1, .int v1), (2, .ref o)] := hl
  refine lv_aload_n (pc := 0) hx hb dL_waitedFor_0 rfl (lv_at hl 2 rfl) ?_
  refine lv_iconst (v := 0) (pc := 1) hx hb dL_waitedFor_1 (by decide) ?_
  refine lv_aload_n (pc := 2) hx hb dL_waitedFor_2 rfl (lv_at hl 0 rfl) ?_
  refine lv_iload_n (pc := 3) hx hb dL_waitedFor_3 rfl (lv_at hl 1 rfl) ?_
  refine z_ctV (pc := 4) S (t_X4_waitedFor l hl0 X a d d2 B v1 hf) (cwV 1 hts gL_waitedFor_X4_waitedFor rfl rfl rfl hdX4_waitedFor ⟨Nat.le_of_ble_eq_true rfl, Nat.le_of_ble_eq_true rfl⟩) hP hK hN hT (s_BO_B X a d d2 B o g) hS (ci := 4) rfl rfl rfl ⟨Nat.le_of_ble_eq_true rfl, Nat.le_of_ble_eq_true rfl⟩ rfl hl.1 rfl (Nat.le_of_ble_eq_true rfl) dL_waitedFor_4 (fun ce q9 H1 locs1 hz1 hk1 hS1 hce hcv hcl => ?_)
  refine vx_catch (pc := 4) hown [] ⟨0, 9, 12, 25⟩ [] (htab.trans rfl) (fun z hz => nomatch hz) rfl (by decide) (hts (.classLink RL 25 "java/lang/IndexOutOfBoundsException") (List.mem_of_getElem? (i := 1) rfl)) (va_Nw.use rfl (hT.1.2.1 2 (by decide))) hce hcv hcl ?_
  have hP : va_P X.1 vwCl (z_wBO X a d d2 B o g) H1 := hP.kept (fun k q hk => hk1 q.1 ((hP k q hk).lt))
  refine lv_astore_n (pc := 12) (lv' := [(3, .ref q9), (0, .ref a), (1, .int v1), (2, .ref o)]) hx hb dL_waitedFor_12 rfl hl (by decide) rfl (fun ls hl => ?_)
  refine lv_iconst (v := 1) (pc := 13) hx hb dL_waitedFor_13 (by decide) ?_
  exact W.iret (pc := 14) (v := 1) hx hb hr (fun t ht hW => ⟨⟨_, (z_wBO X a d d2 B o g), rfl, ⟨rfl, rfl⟩, by rw [ht]; exact hP, hD⟩, hS1.F ht⟩) hS1.2.2 dL_waitedFor_14
set_option maxHeartbeats 4000000 in
set_option maxRecDepth 100000 in
theorem wn_hasFallen (l : Launch) (X : z_X) (a : Nat) (d d2 : Nat → Nat) (B : z_B) (o : Nat) (g : Nat → Int64) (v1 : Int32) {RR : Int32} (hf : f_X4_hasFallen B v1 = some RR) : z_mI l yL_hasFallen wsL_hasFallen 2 43 X [.ref a, .int v1, .ref o] (z_wBO X a d d2 B o g) 0 (z_wBO X a d d2 B o (vp_updL g 0 (if RR = 0 then 0 else 1))) := by
  intro sz
  refine va_MetW (cc := cL_hasFallen) (maxL := 4) (ret := (some .int)) (by decide) rfl ?_
  intro p e s m args below meth c s₁ Bd hml hv
  obtain ⟨rfl, hsz, hP, hK, hN, hD0⟩ := hv
  have hx := Bd.exec
  have hb := Bd.bytes
  have hr := Bd.returns
  have hts := atoms_spec (ws := wsL_hasFallen) Bd.pre
  have hown : s.vm.findClass RL = some m.cls := findClass_of_methodNamed Bd.named
  have hlocks := Bd.notSynchronized
  have S : CallFix p m c cL_hasFallen 4 s _ wsL_hasFallen RL := ⟨hx, hb, hml, hown, hts⟩
  subst hsz
  have hD := hD0.self (sz := s.heap.size)
  generalize hAe : va_A (z_wBO X a d d2 B o g) s.heap.size = A at hD ⊢
  have hA : ∀ q : Nat, s.heap.size ≤ q → A q := fun q h => by rw [← hAe]; exact Or.inr h
  have hS : va_S A s.heap s.heap [] := va_S.rf
  have hl := lv_entry ([.ref a, .int v1, .ref o]) (n := 4) (Nat.le_of_ble_eq_true rfl)
  rw [lg_entry_eq]
  generalize (lg_sl ([.ref a, .int v1, .ref o]) ++ List.replicate (4 - (lg_sl ([.ref a, .int v1, .ref o])).length) Slot.unset).toArray = ls at hl ⊢
  have hl : lv_has ls 4 [(0, .ref a), (1, .int v1), (2, .ref o)] := hl
  refine lv_aload_n (pc := 0) hx hb dL_hasFallen_0 rfl (lv_at hl 2 rfl) ?_
  refine lv_iconst (v := 0) (pc := 1) hx hb dL_hasFallen_1 (by decide) ?_
  refine lv_aload_n (pc := 2) hx hb dL_hasFallen_2 rfl (lv_at hl 0 rfl) ?_
  refine lv_iload_n (pc := 3) hx hb dL_hasFallen_3 rfl (lv_at hl 1 rfl) ?_
  refine z_cpI (pc := 4) S (m_X4_hasFallen l X a d d2 B v1 hf) (cwV 1 hts gL_hasFallen_X4_hasFallen rfl rfl rfl hdX4_hasFallen ⟨Nat.le_of_ble_eq_true rfl, Nat.le_of_ble_eq_true rfl⟩) hP hK hN (s_BO_B X a d d2 B o g) (ci := 4) rfl rfl rfl ⟨Nat.le_of_ble_eq_true rfl, Nat.le_of_ble_eq_true rfl⟩ rfl hl.1 rfl (Nat.le_of_ble_eq_true rfl) dL_hasFallen_4 ?_
  refine lv_if_eq (pc := 7) (tgt := 14) hx hb dL_hasFallen_7 (by decide) (fun c_7 => ?_) (fun c_7 => ?_)
  · refine lv_lconst (v := 0) (pc := 14) hx hb dL_hasFallen_14 rfl ?_
    refine va_last (pc := 15) hx hb hK hP hD hS 53 2 rfl rfl z_in01 dL_hasFallen_15 (fun H locs hP hD hS => ?_)
    have hP : va_P X.1 vwCl (z_wBO X a d d2 B o (vp_updL g 0 0)) H := hP
    have hD : va_D A (z_wBO X a d d2 B o (vp_updL g 0 0)) := hD
    refine lv_goto (pc := 16) (tgt := 22) hx hb dL_hasFallen_16 (by decide) ?_
    refine lv_iconst (v := 0) (pc := 22) hx hb dL_hasFallen_22 (by decide) ?_
    exact W.iret (pc := 23) (v := 0) hx hb hr (fun t ht hW => ⟨⟨_, (z_wBO X a d d2 B o (vp_updL g 0 0)), rfl, ⟨rfl, by rw [if_pos c_7]⟩, by rw [ht]; exact hP, hD⟩, hS.F ht⟩) hS.2.2 dL_hasFallen_23
  · refine lv_lconst (v := 1) (pc := 10) hx hb dL_hasFallen_10 rfl ?_
    refine lv_goto (pc := 11) (tgt := 15) hx hb dL_hasFallen_11 (by decide) ?_
    refine va_last (pc := 15) hx hb hK hP hD hS 53 2 rfl rfl z_in01 dL_hasFallen_15 (fun H locs hP hD hS => ?_)
    have hP : va_P X.1 vwCl (z_wBO X a d d2 B o (vp_updL g 0 1)) H := hP
    have hD : va_D A (z_wBO X a d d2 B o (vp_updL g 0 1)) := hD
    refine lv_goto (pc := 16) (tgt := 22) hx hb dL_hasFallen_16 (by decide) ?_
    refine lv_iconst (v := 0) (pc := 22) hx hb dL_hasFallen_22 (by decide) ?_
    exact W.iret (pc := 23) (v := 0) hx hb hr (fun t ht hW => ⟨⟨_, (z_wBO X a d d2 B o (vp_updL g 0 1)), rfl, ⟨rfl, by rw [if_neg c_7]⟩, by rw [ht]; exact hP, hD⟩, hS.F ht⟩) hS.2.2 dL_hasFallen_23
set_option maxHeartbeats 4000000 in
set_option maxRecDepth 100000 in
theorem wt_hasFallen_2 (l : Launch) (hl0 : l.stackTraces = false) (X : z_X) (a : Nat) (d d2 : Nat → Nat) (B : z_B) (o : Nat) (g : Nat → Int64) (v1 : Int32) (hf : x_X4_hasFallen B v1 = some 2) : z_eI l yL_hasFallen wsL_hasFallen 8 132 X [.ref a, .int v1, .ref o] (z_wBO X a d d2 B o g) 1 := by
  intro sz
  refine va_MetW (cc := cL_hasFallen) (maxL := 4) (ret := (some .int)) (by decide) rfl ?_
  intro p e s m args below meth c s₁ Bd hml hv
  obtain ⟨rfl, ⟨hsz, hP, hK, hN, hD0⟩, hT⟩ := hv
  have hx := Bd.exec
  have hb := Bd.bytes
  have hr := Bd.returns
  have hts := atoms_spec (ws := wsL_hasFallen) Bd.pre
  have hown : s.vm.findClass RL = some m.cls := findClass_of_methodNamed Bd.named
  have hlocks := Bd.notSynchronized
  have S : CallFix p m c cL_hasFallen 4 s _ wsL_hasFallen RL := ⟨hx, hb, hml, hown, hts⟩
  have htab := vx_table (x := yL_hasFallen) Bd (hts _ List.mem_cons_self)
  subst hsz
  have hD := hD0.self (sz := s.heap.size)
  generalize hAe : va_A (z_wBO X a d d2 B o g) s.heap.size = A at hD ⊢
  have hA : ∀ q : Nat, s.heap.size ≤ q → A q := fun q h => by rw [← hAe]; exact Or.inr h
  have hS : va_S A s.heap s.heap [] := va_S.rf
  have hl := lv_entry ([.ref a, .int v1, .ref o]) (n := 4) (Nat.le_of_ble_eq_true rfl)
  rw [lg_entry_eq]
  generalize (lg_sl ([.ref a, .int v1, .ref o]) ++ List.replicate (4 - (lg_sl ([.ref a, .int v1, .ref o])).length) Slot.unset).toArray = ls at hl ⊢
  have hl : lv_has ls 4 [(0, .ref a), (1, .int v1), (2, .ref o)] := hl
  refine lv_aload_n (pc := 0) hx hb dL_hasFallen_0 rfl (lv_at hl 2 rfl) ?_
  refine lv_iconst (v := 0) (pc := 1) hx hb dL_hasFallen_1 (by decide) ?_
  refine lv_aload_n (pc := 2) hx hb dL_hasFallen_2 rfl (lv_at hl 0 rfl) ?_
  refine lv_iload_n (pc := 3) hx hb dL_hasFallen_3 rfl (lv_at hl 1 rfl) ?_
  refine z_ctV (pc := 4) S (t_X4_hasFallen l hl0 X a d d2 B v1 hf) (cwV 1 hts gL_hasFallen_X4_hasFallen rfl rfl rfl hdX4_hasFallen ⟨Nat.le_of_ble_eq_true rfl, Nat.le_of_ble_eq_true rfl⟩) hP hK hN hT (s_BO_B X a d d2 B o g) hS (ci := 4) rfl rfl rfl ⟨Nat.le_of_ble_eq_true rfl, Nat.le_of_ble_eq_true rfl⟩ rfl hl.1 rfl (Nat.le_of_ble_eq_true rfl) dL_hasFallen_4 (fun ce q9 H1 locs1 hz1 hk1 hS1 hce hcv hcl => ?_)
  refine vx_catch (pc := 4) hown [] ⟨0, 16, 19, 25⟩ [] (htab.trans rfl) (fun z hz => nomatch hz) rfl (by decide) (hts (.classLink RL 25 "java/lang/IndexOutOfBoundsException") (List.mem_of_getElem? (i := 1) rfl)) (va_Nw.use rfl (hT.1.2.1 2 (by decide))) hce hcv hcl ?_
  have hP : va_P X.1 vwCl (z_wBO X a d d2 B o g) H1 := hP.kept (fun k q hk => hk1 q.1 ((hP k q hk).lt))
  refine lv_astore_n (pc := 19) (lv' := [(3, .ref q9), (0, .ref a), (1, .int v1), (2, .ref o)]) hx hb dL_hasFallen_19 rfl hl (by decide) rfl (fun ls hl => ?_)
  refine lv_iconst (v := 1) (pc := 20) hx hb dL_hasFallen_20 (by decide) ?_
  exact W.iret (pc := 21) (v := 1) hx hb hr (fun t ht hW => ⟨⟨_, (z_wBO X a d d2 B o g), rfl, ⟨rfl, rfl⟩, by rw [ht]; exact hP, hD⟩, hS1.F ht⟩) hS1.2.2 dL_hasFallen_21
set_option maxHeartbeats 4000000 in
set_option maxRecDepth 100000 in
theorem wn_placeInLine (l : Launch) (X : z_X) (a : Nat) (d d2 : Nat → Nat) (B : z_B) (o : Nat) (g : Nat → Int64) (v1 : Int32) {RR : Int32} (hf : f_X4_placeInLine B v1 = some RR) : z_mI l yL_placeInLine wsL_placeInLine 2 43 X [.ref a, .int v1, .ref o] (z_wBO X a d d2 B o g) 0 (z_wBO X a d d2 B o (vp_updL g 0 (RR).toInt64)) := by
  intro sz
  refine va_MetW (cc := cL_placeInLine) (maxL := 4) (ret := (some .int)) (by decide) rfl ?_
  intro p e s m args below meth c s₁ Bd hml hv
  obtain ⟨rfl, hsz, hP, hK, hN, hD0⟩ := hv
  have hx := Bd.exec
  have hb := Bd.bytes
  have hr := Bd.returns
  have hts := atoms_spec (ws := wsL_placeInLine) Bd.pre
  have hown : s.vm.findClass RL = some m.cls := findClass_of_methodNamed Bd.named
  have hlocks := Bd.notSynchronized
  have S : CallFix p m c cL_placeInLine 4 s _ wsL_placeInLine RL := ⟨hx, hb, hml, hown, hts⟩
  subst hsz
  have hD := hD0.self (sz := s.heap.size)
  generalize hAe : va_A (z_wBO X a d d2 B o g) s.heap.size = A at hD ⊢
  have hA : ∀ q : Nat, s.heap.size ≤ q → A q := fun q h => by rw [← hAe]; exact Or.inr h
  have hS : va_S A s.heap s.heap [] := va_S.rf
  have hl := lv_entry ([.ref a, .int v1, .ref o]) (n := 4) (Nat.le_of_ble_eq_true rfl)
  rw [lg_entry_eq]
  generalize (lg_sl ([.ref a, .int v1, .ref o]) ++ List.replicate (4 - (lg_sl ([.ref a, .int v1, .ref o])).length) Slot.unset).toArray = ls at hl ⊢
  have hl : lv_has ls 4 [(0, .ref a), (1, .int v1), (2, .ref o)] := hl
  refine lv_aload_n (pc := 0) hx hb dL_placeInLine_0 rfl (lv_at hl 2 rfl) ?_
  refine lv_iconst (v := 0) (pc := 1) hx hb dL_placeInLine_1 (by decide) ?_
  refine lv_aload_n (pc := 2) hx hb dL_placeInLine_2 rfl (lv_at hl 0 rfl) ?_
  refine lv_iload_n (pc := 3) hx hb dL_placeInLine_3 rfl (lv_at hl 1 rfl) ?_
  refine z_cpI (pc := 4) S (m_X4_placeInLine l X a d d2 B v1 hf) (cwV 1 hts gL_placeInLine_X4_placeInLine rfl rfl rfl hdX4_placeInLine ⟨Nat.le_of_ble_eq_true rfl, Nat.le_of_ble_eq_true rfl⟩) hP hK hN (s_BO_B X a d d2 B o g) (ci := 4) rfl rfl rfl ⟨Nat.le_of_ble_eq_true rfl, Nat.le_of_ble_eq_true rfl⟩ rfl hl.1 rfl (Nat.le_of_ble_eq_true rfl) dL_placeInLine_4 ?_
  refine lv_i2l (v := (RR).toInt64) (pc := 7) hx hb dL_placeInLine_7 rfl ?_
  refine va_last (pc := 8) hx hb hK hP hD hS 53 2 rfl rfl z_in01 dL_placeInLine_8 (fun H locs hP hD hS => ?_)
  have hP : va_P X.1 vwCl (z_wBO X a d d2 B o (vp_updL g 0 (RR).toInt64)) H := hP
  have hD : va_D A (z_wBO X a d d2 B o (vp_updL g 0 (RR).toInt64)) := hD
  refine lv_goto (pc := 9) (tgt := 15) hx hb dL_placeInLine_9 (by decide) ?_
  refine lv_iconst (v := 0) (pc := 15) hx hb dL_placeInLine_15 (by decide) ?_
  exact W.iret (pc := 16) (v := 0) hx hb hr (fun t ht hW => ⟨⟨_, (z_wBO X a d d2 B o (vp_updL g 0 (RR).toInt64)), rfl, ⟨rfl, rfl⟩, by rw [ht]; exact hP, hD⟩, hS.F ht⟩) hS.2.2 dL_placeInLine_16
set_option maxHeartbeats 4000000 in
set_option maxRecDepth 100000 in
theorem wt_placeInLine_2 (l : Launch) (hl0 : l.stackTraces = false) (X : z_X) (a : Nat) (d d2 : Nat → Nat) (B : z_B) (o : Nat) (g : Nat → Int64) (v1 : Int32) (hf : x_X4_placeInLine B v1 = some 2) : z_eI l yL_placeInLine wsL_placeInLine 8 132 X [.ref a, .int v1, .ref o] (z_wBO X a d d2 B o g) 1 := by
  intro sz
  refine va_MetW (cc := cL_placeInLine) (maxL := 4) (ret := (some .int)) (by decide) rfl ?_
  intro p e s m args below meth c s₁ Bd hml hv
  obtain ⟨rfl, ⟨hsz, hP, hK, hN, hD0⟩, hT⟩ := hv
  have hx := Bd.exec
  have hb := Bd.bytes
  have hr := Bd.returns
  have hts := atoms_spec (ws := wsL_placeInLine) Bd.pre
  have hown : s.vm.findClass RL = some m.cls := findClass_of_methodNamed Bd.named
  have hlocks := Bd.notSynchronized
  have S : CallFix p m c cL_placeInLine 4 s _ wsL_placeInLine RL := ⟨hx, hb, hml, hown, hts⟩
  have htab := vx_table (x := yL_placeInLine) Bd (hts _ List.mem_cons_self)
  subst hsz
  have hD := hD0.self (sz := s.heap.size)
  generalize hAe : va_A (z_wBO X a d d2 B o g) s.heap.size = A at hD ⊢
  have hA : ∀ q : Nat, s.heap.size ≤ q → A q := fun q h => by rw [← hAe]; exact Or.inr h
  have hS : va_S A s.heap s.heap [] := va_S.rf
  have hl := lv_entry ([.ref a, .int v1, .ref o]) (n := 4) (Nat.le_of_ble_eq_true rfl)
  rw [lg_entry_eq]
  generalize (lg_sl ([.ref a, .int v1, .ref o]) ++ List.replicate (4 - (lg_sl ([.ref a, .int v1, .ref o])).length) Slot.unset).toArray = ls at hl ⊢
  have hl : lv_has ls 4 [(0, .ref a), (1, .int v1), (2, .ref o)] := hl
  refine lv_aload_n (pc := 0) hx hb dL_placeInLine_0 rfl (lv_at hl 2 rfl) ?_
  refine lv_iconst (v := 0) (pc := 1) hx hb dL_placeInLine_1 (by decide) ?_
  refine lv_aload_n (pc := 2) hx hb dL_placeInLine_2 rfl (lv_at hl 0 rfl) ?_
  refine lv_iload_n (pc := 3) hx hb dL_placeInLine_3 rfl (lv_at hl 1 rfl) ?_
  refine z_ctV (pc := 4) S (t_X4_placeInLine l hl0 X a d d2 B v1 hf) (cwV 1 hts gL_placeInLine_X4_placeInLine rfl rfl rfl hdX4_placeInLine ⟨Nat.le_of_ble_eq_true rfl, Nat.le_of_ble_eq_true rfl⟩) hP hK hN hT (s_BO_B X a d d2 B o g) hS (ci := 4) rfl rfl rfl ⟨Nat.le_of_ble_eq_true rfl, Nat.le_of_ble_eq_true rfl⟩ rfl hl.1 rfl (Nat.le_of_ble_eq_true rfl) dL_placeInLine_4 (fun ce q9 H1 locs1 hz1 hk1 hS1 hce hcv hcl => ?_)
  refine vx_catch (pc := 4) hown [] ⟨0, 9, 12, 25⟩ [] (htab.trans rfl) (fun z hz => nomatch hz) rfl (by decide) (hts (.classLink RL 25 "java/lang/IndexOutOfBoundsException") (List.mem_of_getElem? (i := 1) rfl)) (va_Nw.use rfl (hT.1.2.1 2 (by decide))) hce hcv hcl ?_
  have hP : va_P X.1 vwCl (z_wBO X a d d2 B o g) H1 := hP.kept (fun k q hk => hk1 q.1 ((hP k q hk).lt))
  refine lv_astore_n (pc := 12) (lv' := [(3, .ref q9), (0, .ref a), (1, .int v1), (2, .ref o)]) hx hb dL_placeInLine_12 rfl hl (by decide) rfl (fun ls hl => ?_)
  refine lv_iconst (v := 1) (pc := 13) hx hb dL_placeInLine_13 (by decide) ?_
  exact W.iret (pc := 14) (v := 1) hx hb hr (fun t ht hW => ⟨⟨_, (z_wBO X a d d2 B o g), rfl, ⟨rfl, rfl⟩, by rw [ht]; exact hP, hD⟩, hS1.F ht⟩) hS1.2.2 dL_placeInLine_14
set_option maxHeartbeats 4000000 in
set_option maxRecDepth 100000 in
theorem wn_ringsLeft (l : Launch) (X : z_X) (a : Nat) (d d2 : Nat → Nat) (B : z_B) (o : Nat) (g : Nat → Int64) (v1 : Int32) {RR : Int32} (hf : f_X4_ringsLeft B v1 = some RR) : z_mI l yL_ringsLeft wsL_ringsLeft 3 63 X [.ref a, .int v1, .ref o] (z_wBO X a d d2 B o g) 0 (z_wBO X a d d2 B o (vp_updL g 0 (RR).toInt64)) := by
  intro sz
  refine va_MetW (cc := cL_ringsLeft) (maxL := 4) (ret := (some .int)) (by decide) rfl ?_
  intro p e s m args below meth c s₁ Bd hml hv
  obtain ⟨rfl, hsz, hP, hK, hN, hD0⟩ := hv
  have hx := Bd.exec
  have hb := Bd.bytes
  have hr := Bd.returns
  have hts := atoms_spec (ws := wsL_ringsLeft) Bd.pre
  have hown : s.vm.findClass RL = some m.cls := findClass_of_methodNamed Bd.named
  have hlocks := Bd.notSynchronized
  have S : CallFix p m c cL_ringsLeft 4 s _ wsL_ringsLeft RL := ⟨hx, hb, hml, hown, hts⟩
  subst hsz
  have hD := hD0.self (sz := s.heap.size)
  generalize hAe : va_A (z_wBO X a d d2 B o g) s.heap.size = A at hD ⊢
  have hA : ∀ q : Nat, s.heap.size ≤ q → A q := fun q h => by rw [← hAe]; exact Or.inr h
  have hS : va_S A s.heap s.heap [] := va_S.rf
  have hl := lv_entry ([.ref a, .int v1, .ref o]) (n := 4) (Nat.le_of_ble_eq_true rfl)
  rw [lg_entry_eq]
  generalize (lg_sl ([.ref a, .int v1, .ref o]) ++ List.replicate (4 - (lg_sl ([.ref a, .int v1, .ref o])).length) Slot.unset).toArray = ls at hl ⊢
  have hl : lv_has ls 4 [(0, .ref a), (1, .int v1), (2, .ref o)] := hl
  refine lv_aload_n (pc := 0) hx hb dL_ringsLeft_0 rfl (lv_at hl 2 rfl) ?_
  refine lv_iconst (v := 0) (pc := 1) hx hb dL_ringsLeft_1 (by decide) ?_
  refine lv_aload_n (pc := 2) hx hb dL_ringsLeft_2 rfl (lv_at hl 0 rfl) ?_
  refine lv_iload_n (pc := 3) hx hb dL_ringsLeft_3 rfl (lv_at hl 1 rfl) ?_
  refine z_cpI (pc := 4) S (m_X4_ringsLeft l X a d d2 B v1 hf) (cwV 1 hts gL_ringsLeft_X4_ringsLeft rfl rfl rfl hdX4_ringsLeft ⟨Nat.le_of_ble_eq_true rfl, Nat.le_of_ble_eq_true rfl⟩) hP hK hN (s_BO_B X a d d2 B o g) (ci := 4) rfl rfl rfl ⟨Nat.le_of_ble_eq_true rfl, Nat.le_of_ble_eq_true rfl⟩ rfl hl.1 rfl (Nat.le_of_ble_eq_true rfl) dL_ringsLeft_4 ?_
  refine lv_i2l (v := (RR).toInt64) (pc := 7) hx hb dL_ringsLeft_7 rfl ?_
  refine va_last (pc := 8) hx hb hK hP hD hS 53 2 rfl rfl z_in01 dL_ringsLeft_8 (fun H locs hP hD hS => ?_)
  have hP : va_P X.1 vwCl (z_wBO X a d d2 B o (vp_updL g 0 (RR).toInt64)) H := hP
  have hD : va_D A (z_wBO X a d d2 B o (vp_updL g 0 (RR).toInt64)) := hD
  refine lv_goto (pc := 9) (tgt := 15) hx hb dL_ringsLeft_9 (by decide) ?_
  refine lv_iconst (v := 0) (pc := 15) hx hb dL_ringsLeft_15 (by decide) ?_
  exact W.iret (pc := 16) (v := 0) hx hb hr (fun t ht hW => ⟨⟨_, (z_wBO X a d d2 B o (vp_updL g 0 (RR).toInt64)), rfl, ⟨rfl, rfl⟩, by rw [ht]; exact hP, hD⟩, hS.F ht⟩) hS.2.2 dL_ringsLeft_16
set_option maxHeartbeats 4000000 in
set_option maxRecDepth 100000 in
theorem wt_ringsLeft_2 (l : Launch) (hl0 : l.stackTraces = false) (X : z_X) (a : Nat) (d d2 : Nat → Nat) (B : z_B) (o : Nat) (g : Nat → Int64) (v1 : Int32) (hf : x_X4_ringsLeft B v1 = some 2) : z_eI l yL_ringsLeft wsL_ringsLeft 8 132 X [.ref a, .int v1, .ref o] (z_wBO X a d d2 B o g) 1 := by
  intro sz
  refine va_MetW (cc := cL_ringsLeft) (maxL := 4) (ret := (some .int)) (by decide) rfl ?_
  intro p e s m args below meth c s₁ Bd hml hv
  obtain ⟨rfl, ⟨hsz, hP, hK, hN, hD0⟩, hT⟩ := hv
  have hx := Bd.exec
  have hb := Bd.bytes
  have hr := Bd.returns
  have hts := atoms_spec (ws := wsL_ringsLeft) Bd.pre
  have hown : s.vm.findClass RL = some m.cls := findClass_of_methodNamed Bd.named
  have hlocks := Bd.notSynchronized
  have S : CallFix p m c cL_ringsLeft 4 s _ wsL_ringsLeft RL := ⟨hx, hb, hml, hown, hts⟩
  have htab := vx_table (x := yL_ringsLeft) Bd (hts _ List.mem_cons_self)
  subst hsz
  have hD := hD0.self (sz := s.heap.size)
  generalize hAe : va_A (z_wBO X a d d2 B o g) s.heap.size = A at hD ⊢
  have hA : ∀ q : Nat, s.heap.size ≤ q → A q := fun q h => by rw [← hAe]; exact Or.inr h
  have hS : va_S A s.heap s.heap [] := va_S.rf
  have hl := lv_entry ([.ref a, .int v1, .ref o]) (n := 4) (Nat.le_of_ble_eq_true rfl)
  rw [lg_entry_eq]
  generalize (lg_sl ([.ref a, .int v1, .ref o]) ++ List.replicate (4 - (lg_sl ([.ref a, .int v1, .ref o])).length) Slot.unset).toArray = ls at hl ⊢
  have hl : lv_has ls 4 [(0, .ref a), (1, .int v1), (2, .ref o)] := hl
  refine lv_aload_n (pc := 0) hx hb dL_ringsLeft_0 rfl (lv_at hl 2 rfl) ?_
  refine lv_iconst (v := 0) (pc := 1) hx hb dL_ringsLeft_1 (by decide) ?_
  refine lv_aload_n (pc := 2) hx hb dL_ringsLeft_2 rfl (lv_at hl 0 rfl) ?_
  refine lv_iload_n (pc := 3) hx hb dL_ringsLeft_3 rfl (lv_at hl 1 rfl) ?_
  refine z_ctV (pc := 4) S (t_X4_ringsLeft l hl0 X a d d2 B v1 hf) (cwV 1 hts gL_ringsLeft_X4_ringsLeft rfl rfl rfl hdX4_ringsLeft ⟨Nat.le_of_ble_eq_true rfl, Nat.le_of_ble_eq_true rfl⟩) hP hK hN hT (s_BO_B X a d d2 B o g) hS (ci := 4) rfl rfl rfl ⟨Nat.le_of_ble_eq_true rfl, Nat.le_of_ble_eq_true rfl⟩ rfl hl.1 rfl (Nat.le_of_ble_eq_true rfl) dL_ringsLeft_4 (fun ce q9 H1 locs1 hz1 hk1 hS1 hce hcv hcl => ?_)
  refine vx_catch (pc := 4) hown [] ⟨0, 9, 12, 25⟩ [] (htab.trans rfl) (fun z hz => nomatch hz) rfl (by decide) (hts (.classLink RL 25 "java/lang/IndexOutOfBoundsException") (List.mem_of_getElem? (i := 1) rfl)) (va_Nw.use rfl (hT.1.2.1 2 (by decide))) hce hcv hcl ?_
  have hP : va_P X.1 vwCl (z_wBO X a d d2 B o g) H1 := hP.kept (fun k q hk => hk1 q.1 ((hP k q hk).lt))
  refine lv_astore_n (pc := 12) (lv' := [(3, .ref q9), (0, .ref a), (1, .int v1), (2, .ref o)]) hx hb dL_ringsLeft_12 rfl hl (by decide) rfl (fun ls hl => ?_)
  refine lv_iconst (v := 1) (pc := 13) hx hb dL_ringsLeft_13 (by decide) ?_
  exact W.iret (pc := 14) (v := 1) hx hb hr (fun t ht hW => ⟨⟨_, (z_wBO X a d d2 B o g), rfl, ⟨rfl, rfl⟩, by rw [ht]; exact hP, hD⟩, hS1.F ht⟩) hS1.2.2 dL_ringsLeft_14
set_option maxHeartbeats 4000000 in
set_option maxRecDepth 100000 in
theorem wn_floorOf (l : Launch) (X : z_X) (a : Nat) (d d2 : Nat → Nat) (B : z_B) (o : Nat) (g : Nat → Int64) (v1 : Int32) {RR : Int32} (hf : f_X4_floorOf B v1 = some RR) : z_mI l yL_floorOf wsL_floorOf 2 42 X [.ref a, .int v1, .ref o] (z_wBO X a d d2 B o g) 0 (z_wBO X a d d2 B o (vp_updL g 0 (RR).toInt64)) := by
  intro sz
  refine va_MetW (cc := cL_floorOf) (maxL := 4) (ret := (some .int)) (by decide) rfl ?_
  intro p e s m args below meth c s₁ Bd hml hv
  obtain ⟨rfl, hsz, hP, hK, hN, hD0⟩ := hv
  have hx := Bd.exec
  have hb := Bd.bytes
  have hr := Bd.returns
  have hts := atoms_spec (ws := wsL_floorOf) Bd.pre
  have hown : s.vm.findClass RL = some m.cls := findClass_of_methodNamed Bd.named
  have hlocks := Bd.notSynchronized
  have S : CallFix p m c cL_floorOf 4 s _ wsL_floorOf RL := ⟨hx, hb, hml, hown, hts⟩
  subst hsz
  have hD := hD0.self (sz := s.heap.size)
  generalize hAe : va_A (z_wBO X a d d2 B o g) s.heap.size = A at hD ⊢
  have hA : ∀ q : Nat, s.heap.size ≤ q → A q := fun q h => by rw [← hAe]; exact Or.inr h
  have hS : va_S A s.heap s.heap [] := va_S.rf
  have hl := lv_entry ([.ref a, .int v1, .ref o]) (n := 4) (Nat.le_of_ble_eq_true rfl)
  rw [lg_entry_eq]
  generalize (lg_sl ([.ref a, .int v1, .ref o]) ++ List.replicate (4 - (lg_sl ([.ref a, .int v1, .ref o])).length) Slot.unset).toArray = ls at hl ⊢
  have hl : lv_has ls 4 [(0, .ref a), (1, .int v1), (2, .ref o)] := hl
  refine lv_aload_n (pc := 0) hx hb dL_floorOf_0 rfl (lv_at hl 2 rfl) ?_
  refine lv_iconst (v := 0) (pc := 1) hx hb dL_floorOf_1 (by decide) ?_
  refine lv_aload_n (pc := 2) hx hb dL_floorOf_2 rfl (lv_at hl 0 rfl) ?_
  refine lv_iload_n (pc := 3) hx hb dL_floorOf_3 rfl (lv_at hl 1 rfl) ?_
  refine z_cpI (pc := 4) S (m_X4_floorOf l X a d d2 B v1 hf) (cwV 1 hts gL_floorOf_X4_floorOf rfl rfl rfl hdX4_floorOf ⟨Nat.le_of_ble_eq_true rfl, Nat.le_of_ble_eq_true rfl⟩) hP hK hN (s_BO_B X a d d2 B o g) (ci := 4) rfl rfl rfl ⟨Nat.le_of_ble_eq_true rfl, Nat.le_of_ble_eq_true rfl⟩ rfl hl.1 rfl (Nat.le_of_ble_eq_true rfl) dL_floorOf_4 ?_
  refine lv_i2l (v := (RR).toInt64) (pc := 7) hx hb dL_floorOf_7 rfl ?_
  refine va_last (pc := 8) hx hb hK hP hD hS 53 2 rfl rfl z_in01 dL_floorOf_8 (fun H locs hP hD hS => ?_)
  have hP : va_P X.1 vwCl (z_wBO X a d d2 B o (vp_updL g 0 (RR).toInt64)) H := hP
  have hD : va_D A (z_wBO X a d d2 B o (vp_updL g 0 (RR).toInt64)) := hD
  refine lv_goto (pc := 9) (tgt := 15) hx hb dL_floorOf_9 (by decide) ?_
  refine lv_iconst (v := 0) (pc := 15) hx hb dL_floorOf_15 (by decide) ?_
  exact W.iret (pc := 16) (v := 0) hx hb hr (fun t ht hW => ⟨⟨_, (z_wBO X a d d2 B o (vp_updL g 0 (RR).toInt64)), rfl, ⟨rfl, rfl⟩, by rw [ht]; exact hP, hD⟩, hS.F ht⟩) hS.2.2 dL_floorOf_16
set_option maxHeartbeats 4000000 in
set_option maxRecDepth 100000 in
theorem wt_floorOf_2 (l : Launch) (hl0 : l.stackTraces = false) (X : z_X) (a : Nat) (d d2 : Nat → Nat) (B : z_B) (o : Nat) (g : Nat → Int64) (v1 : Int32) (hf : x_X4_floorOf B v1 = some 2) : z_eI l yL_floorOf wsL_floorOf 8 132 X [.ref a, .int v1, .ref o] (z_wBO X a d d2 B o g) 1 := by
  intro sz
  refine va_MetW (cc := cL_floorOf) (maxL := 4) (ret := (some .int)) (by decide) rfl ?_
  intro p e s m args below meth c s₁ Bd hml hv
  obtain ⟨rfl, ⟨hsz, hP, hK, hN, hD0⟩, hT⟩ := hv
  have hx := Bd.exec
  have hb := Bd.bytes
  have hr := Bd.returns
  have hts := atoms_spec (ws := wsL_floorOf) Bd.pre
  have hown : s.vm.findClass RL = some m.cls := findClass_of_methodNamed Bd.named
  have hlocks := Bd.notSynchronized
  have S : CallFix p m c cL_floorOf 4 s _ wsL_floorOf RL := ⟨hx, hb, hml, hown, hts⟩
  have htab := vx_table (x := yL_floorOf) Bd (hts _ List.mem_cons_self)
  subst hsz
  have hD := hD0.self (sz := s.heap.size)
  generalize hAe : va_A (z_wBO X a d d2 B o g) s.heap.size = A at hD ⊢
  have hA : ∀ q : Nat, s.heap.size ≤ q → A q := fun q h => by rw [← hAe]; exact Or.inr h
  have hS : va_S A s.heap s.heap [] := va_S.rf
  have hl := lv_entry ([.ref a, .int v1, .ref o]) (n := 4) (Nat.le_of_ble_eq_true rfl)
  rw [lg_entry_eq]
  generalize (lg_sl ([.ref a, .int v1, .ref o]) ++ List.replicate (4 - (lg_sl ([.ref a, .int v1, .ref o])).length) Slot.unset).toArray = ls at hl ⊢
  have hl : lv_has ls 4 [(0, .ref a), (1, .int v1), (2, .ref o)] := hl
  refine lv_aload_n (pc := 0) hx hb dL_floorOf_0 rfl (lv_at hl 2 rfl) ?_
  refine lv_iconst (v := 0) (pc := 1) hx hb dL_floorOf_1 (by decide) ?_
  refine lv_aload_n (pc := 2) hx hb dL_floorOf_2 rfl (lv_at hl 0 rfl) ?_
  refine lv_iload_n (pc := 3) hx hb dL_floorOf_3 rfl (lv_at hl 1 rfl) ?_
  refine z_ctV (pc := 4) S (t_X4_floorOf l hl0 X a d d2 B v1 hf) (cwV 1 hts gL_floorOf_X4_floorOf rfl rfl rfl hdX4_floorOf ⟨Nat.le_of_ble_eq_true rfl, Nat.le_of_ble_eq_true rfl⟩) hP hK hN hT (s_BO_B X a d d2 B o g) hS (ci := 4) rfl rfl rfl ⟨Nat.le_of_ble_eq_true rfl, Nat.le_of_ble_eq_true rfl⟩ rfl hl.1 rfl (Nat.le_of_ble_eq_true rfl) dL_floorOf_4 (fun ce q9 H1 locs1 hz1 hk1 hS1 hce hcv hcl => ?_)
  refine vx_catch (pc := 4) hown [] ⟨0, 9, 12, 25⟩ [] (htab.trans rfl) (fun z hz => nomatch hz) rfl (by decide) (hts (.classLink RL 25 "java/lang/IndexOutOfBoundsException") (List.mem_of_getElem? (i := 1) rfl)) (va_Nw.use rfl (hT.1.2.1 2 (by decide))) hce hcv hcl ?_
  have hP : va_P X.1 vwCl (z_wBO X a d d2 B o g) H1 := hP.kept (fun k q hk => hk1 q.1 ((hP k q hk).lt))
  refine lv_astore_n (pc := 12) (lv' := [(3, .ref q9), (0, .ref a), (1, .int v1), (2, .ref o)]) hx hb dL_floorOf_12 rfl hl (by decide) rfl (fun ls hl => ?_)
  refine lv_iconst (v := 1) (pc := 13) hx hb dL_floorOf_13 (by decide) ?_
  exact W.iret (pc := 14) (v := 1) hx hb hr (fun t ht hW => ⟨⟨_, (z_wBO X a d d2 B o g), rfl, ⟨rfl, rfl⟩, by rw [ht]; exact hP, hD⟩, hS1.F ht⟩) hS1.2.2 dL_floorOf_14
set_option maxHeartbeats 4000000 in
set_option maxRecDepth 100000 in
theorem wn_goesTo (l : Launch) (X : z_X) (a : Nat) (d d2 : Nat → Nat) (B : z_B) (o : Nat) (g : Nat → Int64) (v1 : Int32) {RR : Int32} (hf : f_X4_goesTo B v1 = some RR) : z_mI l yL_goesTo wsL_goesTo 2 42 X [.ref a, .int v1, .ref o] (z_wBO X a d d2 B o g) 0 (z_wBO X a d d2 B o (vp_updL g 0 (RR).toInt64)) := by
  intro sz
  refine va_MetW (cc := cL_goesTo) (maxL := 4) (ret := (some .int)) (by decide) rfl ?_
  intro p e s m args below meth c s₁ Bd hml hv
  obtain ⟨rfl, hsz, hP, hK, hN, hD0⟩ := hv
  have hx := Bd.exec
  have hb := Bd.bytes
  have hr := Bd.returns
  have hts := atoms_spec (ws := wsL_goesTo) Bd.pre
  have hown : s.vm.findClass RL = some m.cls := findClass_of_methodNamed Bd.named
  have hlocks := Bd.notSynchronized
  have S : CallFix p m c cL_goesTo 4 s _ wsL_goesTo RL := ⟨hx, hb, hml, hown, hts⟩
  subst hsz
  have hD := hD0.self (sz := s.heap.size)
  generalize hAe : va_A (z_wBO X a d d2 B o g) s.heap.size = A at hD ⊢
  have hA : ∀ q : Nat, s.heap.size ≤ q → A q := fun q h => by rw [← hAe]; exact Or.inr h
  have hS : va_S A s.heap s.heap [] := va_S.rf
  have hl := lv_entry ([.ref a, .int v1, .ref o]) (n := 4) (Nat.le_of_ble_eq_true rfl)
  rw [lg_entry_eq]
  generalize (lg_sl ([.ref a, .int v1, .ref o]) ++ List.replicate (4 - (lg_sl ([.ref a, .int v1, .ref o])).length) Slot.unset).toArray = ls at hl ⊢
  have hl : lv_has ls 4 [(0, .ref a), (1, .int v1), (2, .ref o)] := hl
  refine lv_aload_n (pc := 0) hx hb dL_goesTo_0 rfl (lv_at hl 2 rfl) ?_
  refine lv_iconst (v := 0) (pc := 1) hx hb dL_goesTo_1 (by decide) ?_
  refine lv_aload_n (pc := 2) hx hb dL_goesTo_2 rfl (lv_at hl 0 rfl) ?_
  refine lv_iload_n (pc := 3) hx hb dL_goesTo_3 rfl (lv_at hl 1 rfl) ?_
  refine z_cpI (pc := 4) S (m_X4_goesTo l X a d d2 B v1 hf) (cwV 1 hts gL_goesTo_X4_goesTo rfl rfl rfl hdX4_goesTo ⟨Nat.le_of_ble_eq_true rfl, Nat.le_of_ble_eq_true rfl⟩) hP hK hN (s_BO_B X a d d2 B o g) (ci := 4) rfl rfl rfl ⟨Nat.le_of_ble_eq_true rfl, Nat.le_of_ble_eq_true rfl⟩ rfl hl.1 rfl (Nat.le_of_ble_eq_true rfl) dL_goesTo_4 ?_
  refine lv_i2l (v := (RR).toInt64) (pc := 7) hx hb dL_goesTo_7 rfl ?_
  refine va_last (pc := 8) hx hb hK hP hD hS 53 2 rfl rfl z_in01 dL_goesTo_8 (fun H locs hP hD hS => ?_)
  have hP : va_P X.1 vwCl (z_wBO X a d d2 B o (vp_updL g 0 (RR).toInt64)) H := hP
  have hD : va_D A (z_wBO X a d d2 B o (vp_updL g 0 (RR).toInt64)) := hD
  refine lv_goto (pc := 9) (tgt := 15) hx hb dL_goesTo_9 (by decide) ?_
  refine lv_iconst (v := 0) (pc := 15) hx hb dL_goesTo_15 (by decide) ?_
  exact W.iret (pc := 16) (v := 0) hx hb hr (fun t ht hW => ⟨⟨_, (z_wBO X a d d2 B o (vp_updL g 0 (RR).toInt64)), rfl, ⟨rfl, rfl⟩, by rw [ht]; exact hP, hD⟩, hS.F ht⟩) hS.2.2 dL_goesTo_16
set_option maxHeartbeats 4000000 in
set_option maxRecDepth 100000 in
theorem wt_goesTo_2 (l : Launch) (hl0 : l.stackTraces = false) (X : z_X) (a : Nat) (d d2 : Nat → Nat) (B : z_B) (o : Nat) (g : Nat → Int64) (v1 : Int32) (hf : x_X4_goesTo B v1 = some 2) : z_eI l yL_goesTo wsL_goesTo 8 132 X [.ref a, .int v1, .ref o] (z_wBO X a d d2 B o g) 1 := by
  intro sz
  refine va_MetW (cc := cL_goesTo) (maxL := 4) (ret := (some .int)) (by decide) rfl ?_
  intro p e s m args below meth c s₁ Bd hml hv
  obtain ⟨rfl, ⟨hsz, hP, hK, hN, hD0⟩, hT⟩ := hv
  have hx := Bd.exec
  have hb := Bd.bytes
  have hr := Bd.returns
  have hts := atoms_spec (ws := wsL_goesTo) Bd.pre
  have hown : s.vm.findClass RL = some m.cls := findClass_of_methodNamed Bd.named
  have hlocks := Bd.notSynchronized
  have S : CallFix p m c cL_goesTo 4 s _ wsL_goesTo RL := ⟨hx, hb, hml, hown, hts⟩
  have htab := vx_table (x := yL_goesTo) Bd (hts _ List.mem_cons_self)
  subst hsz
  have hD := hD0.self (sz := s.heap.size)
  generalize hAe : va_A (z_wBO X a d d2 B o g) s.heap.size = A at hD ⊢
  have hA : ∀ q : Nat, s.heap.size ≤ q → A q := fun q h => by rw [← hAe]; exact Or.inr h
  have hS : va_S A s.heap s.heap [] := va_S.rf
  have hl := lv_entry ([.ref a, .int v1, .ref o]) (n := 4) (Nat.le_of_ble_eq_true rfl)
  rw [lg_entry_eq]
  generalize (lg_sl ([.ref a, .int v1, .ref o]) ++ List.replicate (4 - (lg_sl ([.ref a, .int v1, .ref o])).length) Slot.unset).toArray = ls at hl ⊢
  have hl : lv_has ls 4 [(0, .ref a), (1, .int v1), (2, .ref o)] := hl
  refine lv_aload_n (pc := 0) hx hb dL_goesTo_0 rfl (lv_at hl 2 rfl) ?_
  refine lv_iconst (v := 0) (pc := 1) hx hb dL_goesTo_1 (by decide) ?_
  refine lv_aload_n (pc := 2) hx hb dL_goesTo_2 rfl (lv_at hl 0 rfl) ?_
  refine lv_iload_n (pc := 3) hx hb dL_goesTo_3 rfl (lv_at hl 1 rfl) ?_
  refine z_ctV (pc := 4) S (t_X4_goesTo l hl0 X a d d2 B v1 hf) (cwV 1 hts gL_goesTo_X4_goesTo rfl rfl rfl hdX4_goesTo ⟨Nat.le_of_ble_eq_true rfl, Nat.le_of_ble_eq_true rfl⟩) hP hK hN hT (s_BO_B X a d d2 B o g) hS (ci := 4) rfl rfl rfl ⟨Nat.le_of_ble_eq_true rfl, Nat.le_of_ble_eq_true rfl⟩ rfl hl.1 rfl (Nat.le_of_ble_eq_true rfl) dL_goesTo_4 (fun ce q9 H1 locs1 hz1 hk1 hS1 hce hcv hcl => ?_)
  refine vx_catch (pc := 4) hown [] ⟨0, 9, 12, 25⟩ [] (htab.trans rfl) (fun z hz => nomatch hz) rfl (by decide) (hts (.classLink RL 25 "java/lang/IndexOutOfBoundsException") (List.mem_of_getElem? (i := 1) rfl)) (va_Nw.use rfl (hT.1.2.1 2 (by decide))) hce hcv hcl ?_
  have hP : va_P X.1 vwCl (z_wBO X a d d2 B o g) H1 := hP.kept (fun k q hk => hk1 q.1 ((hP k q hk).lt))
  refine lv_astore_n (pc := 12) (lv' := [(3, .ref q9), (0, .ref a), (1, .int v1), (2, .ref o)]) hx hb dL_goesTo_12 rfl hl (by decide) rfl (fun ls hl => ?_)
  refine lv_iconst (v := 1) (pc := 13) hx hb dL_goesTo_13 (by decide) ?_
  exact W.iret (pc := 14) (v := 1) hx hb hr (fun t ht hW => ⟨⟨_, (z_wBO X a d d2 B o g), rfl, ⟨rfl, rfl⟩, by rw [ht]; exact hP, hD⟩, hS1.F ht⟩) hS1.2.2 dL_goesTo_14
set_option maxHeartbeats 4000000 in
set_option maxRecDepth 100000 in
theorem wn_serves (l : Launch) (X : z_X) (a : Nat) (d d2 : Nat → Nat) (B : z_B) (o : Nat) (g : Nat → Int64) (v1 : Int32) {RR : Int32} (hf : f_X4_serves B v1 = some RR) : z_mI l yL_serves wsL_serves 2 42 X [.ref a, .int v1, .ref o] (z_wBO X a d d2 B o g) 0 (z_wBO X a d d2 B o (vp_updL g 0 (RR).toInt64)) := by
  intro sz
  refine va_MetW (cc := cL_serves) (maxL := 4) (ret := (some .int)) (by decide) rfl ?_
  intro p e s m args below meth c s₁ Bd hml hv
  obtain ⟨rfl, hsz, hP, hK, hN, hD0⟩ := hv
  have hx := Bd.exec
  have hb := Bd.bytes
  have hr := Bd.returns
  have hts := atoms_spec (ws := wsL_serves) Bd.pre
  have hown : s.vm.findClass RL = some m.cls := findClass_of_methodNamed Bd.named
  have hlocks := Bd.notSynchronized
  have S : CallFix p m c cL_serves 4 s _ wsL_serves RL := ⟨hx, hb, hml, hown, hts⟩
  subst hsz
  have hD := hD0.self (sz := s.heap.size)
  generalize hAe : va_A (z_wBO X a d d2 B o g) s.heap.size = A at hD ⊢
  have hA : ∀ q : Nat, s.heap.size ≤ q → A q := fun q h => by rw [← hAe]; exact Or.inr h
  have hS : va_S A s.heap s.heap [] := va_S.rf
  have hl := lv_entry ([.ref a, .int v1, .ref o]) (n := 4) (Nat.le_of_ble_eq_true rfl)
  rw [lg_entry_eq]
  generalize (lg_sl ([.ref a, .int v1, .ref o]) ++ List.replicate (4 - (lg_sl ([.ref a, .int v1, .ref o])).length) Slot.unset).toArray = ls at hl ⊢
  have hl : lv_has ls 4 [(0, .ref a), (1, .int v1), (2, .ref o)] := hl
  refine lv_aload_n (pc := 0) hx hb dL_serves_0 rfl (lv_at hl 2 rfl) ?_
  refine lv_iconst (v := 0) (pc := 1) hx hb dL_serves_1 (by decide) ?_
  refine lv_aload_n (pc := 2) hx hb dL_serves_2 rfl (lv_at hl 0 rfl) ?_
  refine lv_iload_n (pc := 3) hx hb dL_serves_3 rfl (lv_at hl 1 rfl) ?_
  refine z_cpI (pc := 4) S (m_X4_serves l X a d d2 B v1 hf) (cwV 1 hts gL_serves_X4_serves rfl rfl rfl hdX4_serves ⟨Nat.le_of_ble_eq_true rfl, Nat.le_of_ble_eq_true rfl⟩) hP hK hN (s_BO_B X a d d2 B o g) (ci := 4) rfl rfl rfl ⟨Nat.le_of_ble_eq_true rfl, Nat.le_of_ble_eq_true rfl⟩ rfl hl.1 rfl (Nat.le_of_ble_eq_true rfl) dL_serves_4 ?_
  refine lv_i2l (v := (RR).toInt64) (pc := 7) hx hb dL_serves_7 rfl ?_
  refine va_last (pc := 8) hx hb hK hP hD hS 53 2 rfl rfl z_in01 dL_serves_8 (fun H locs hP hD hS => ?_)
  have hP : va_P X.1 vwCl (z_wBO X a d d2 B o (vp_updL g 0 (RR).toInt64)) H := hP
  have hD : va_D A (z_wBO X a d d2 B o (vp_updL g 0 (RR).toInt64)) := hD
  refine lv_goto (pc := 9) (tgt := 15) hx hb dL_serves_9 (by decide) ?_
  refine lv_iconst (v := 0) (pc := 15) hx hb dL_serves_15 (by decide) ?_
  exact W.iret (pc := 16) (v := 0) hx hb hr (fun t ht hW => ⟨⟨_, (z_wBO X a d d2 B o (vp_updL g 0 (RR).toInt64)), rfl, ⟨rfl, rfl⟩, by rw [ht]; exact hP, hD⟩, hS.F ht⟩) hS.2.2 dL_serves_16
set_option maxHeartbeats 4000000 in
set_option maxRecDepth 100000 in
theorem wt_serves_2 (l : Launch) (hl0 : l.stackTraces = false) (X : z_X) (a : Nat) (d d2 : Nat → Nat) (B : z_B) (o : Nat) (g : Nat → Int64) (v1 : Int32) (hf : x_X4_serves B v1 = some 2) : z_eI l yL_serves wsL_serves 8 132 X [.ref a, .int v1, .ref o] (z_wBO X a d d2 B o g) 1 := by
  intro sz
  refine va_MetW (cc := cL_serves) (maxL := 4) (ret := (some .int)) (by decide) rfl ?_
  intro p e s m args below meth c s₁ Bd hml hv
  obtain ⟨rfl, ⟨hsz, hP, hK, hN, hD0⟩, hT⟩ := hv
  have hx := Bd.exec
  have hb := Bd.bytes
  have hr := Bd.returns
  have hts := atoms_spec (ws := wsL_serves) Bd.pre
  have hown : s.vm.findClass RL = some m.cls := findClass_of_methodNamed Bd.named
  have hlocks := Bd.notSynchronized
  have S : CallFix p m c cL_serves 4 s _ wsL_serves RL := ⟨hx, hb, hml, hown, hts⟩
  have htab := vx_table (x := yL_serves) Bd (hts _ List.mem_cons_self)
  subst hsz
  have hD := hD0.self (sz := s.heap.size)
  generalize hAe : va_A (z_wBO X a d d2 B o g) s.heap.size = A at hD ⊢
  have hA : ∀ q : Nat, s.heap.size ≤ q → A q := fun q h => by rw [← hAe]; exact Or.inr h
  have hS : va_S A s.heap s.heap [] := va_S.rf
  have hl := lv_entry ([.ref a, .int v1, .ref o]) (n := 4) (Nat.le_of_ble_eq_true rfl)
  rw [lg_entry_eq]
  generalize (lg_sl ([.ref a, .int v1, .ref o]) ++ List.replicate (4 - (lg_sl ([.ref a, .int v1, .ref o])).length) Slot.unset).toArray = ls at hl ⊢
  have hl : lv_has ls 4 [(0, .ref a), (1, .int v1), (2, .ref o)] := hl
  refine lv_aload_n (pc := 0) hx hb dL_serves_0 rfl (lv_at hl 2 rfl) ?_
  refine lv_iconst (v := 0) (pc := 1) hx hb dL_serves_1 (by decide) ?_
  refine lv_aload_n (pc := 2) hx hb dL_serves_2 rfl (lv_at hl 0 rfl) ?_
  refine lv_iload_n (pc := 3) hx hb dL_serves_3 rfl (lv_at hl 1 rfl) ?_
  refine z_ctV (pc := 4) S (t_X4_serves l hl0 X a d d2 B v1 hf) (cwV 1 hts gL_serves_X4_serves rfl rfl rfl hdX4_serves ⟨Nat.le_of_ble_eq_true rfl, Nat.le_of_ble_eq_true rfl⟩) hP hK hN hT (s_BO_B X a d d2 B o g) hS (ci := 4) rfl rfl rfl ⟨Nat.le_of_ble_eq_true rfl, Nat.le_of_ble_eq_true rfl⟩ rfl hl.1 rfl (Nat.le_of_ble_eq_true rfl) dL_serves_4 (fun ce q9 H1 locs1 hz1 hk1 hS1 hce hcv hcl => ?_)
  refine vx_catch (pc := 4) hown [] ⟨0, 9, 12, 25⟩ [] (htab.trans rfl) (fun z hz => nomatch hz) rfl (by decide) (hts (.classLink RL 25 "java/lang/IndexOutOfBoundsException") (List.mem_of_getElem? (i := 1) rfl)) (va_Nw.use rfl (hT.1.2.1 2 (by decide))) hce hcv hcl ?_
  have hP : va_P X.1 vwCl (z_wBO X a d d2 B o g) H1 := hP.kept (fun k q hk => hk1 q.1 ((hP k q hk).lt))
  refine lv_astore_n (pc := 12) (lv' := [(3, .ref q9), (0, .ref a), (1, .int v1), (2, .ref o)]) hx hb dL_serves_12 rfl hl (by decide) rfl (fun ls hl => ?_)
  refine lv_iconst (v := 1) (pc := 13) hx hb dL_serves_13 (by decide) ?_
  exact W.iret (pc := 14) (v := 1) hx hb hr (fun t ht hW => ⟨⟨_, (z_wBO X a d d2 B o g), rfl, ⟨rfl, rfl⟩, by rw [ht]; exact hP, hD⟩, hS1.F ht⟩) hS1.2.2 dL_serves_14
set_option maxHeartbeats 4000000 in
set_option maxRecDepth 100000 in
theorem wn_minutesLeft (l : Launch) (X : z_X) (a : Nat) (d d2 : Nat → Nat) (B : z_B) (o : Nat) (g : Nat → Int64) (v1 : Int32) {RR : Int32} (hf : f_X4_minutesLeft B v1 = some RR) : z_mI l yL_minutesLeft wsL_minutesLeft 2 42 X [.ref a, .int v1, .ref o] (z_wBO X a d d2 B o g) 0 (z_wBO X a d d2 B o (vp_updL g 0 (RR).toInt64)) := by
  intro sz
  refine va_MetW (cc := cL_minutesLeft) (maxL := 4) (ret := (some .int)) (by decide) rfl ?_
  intro p e s m args below meth c s₁ Bd hml hv
  obtain ⟨rfl, hsz, hP, hK, hN, hD0⟩ := hv
  have hx := Bd.exec
  have hb := Bd.bytes
  have hr := Bd.returns
  have hts := atoms_spec (ws := wsL_minutesLeft) Bd.pre
  have hown : s.vm.findClass RL = some m.cls := findClass_of_methodNamed Bd.named
  have hlocks := Bd.notSynchronized
  have S : CallFix p m c cL_minutesLeft 4 s _ wsL_minutesLeft RL := ⟨hx, hb, hml, hown, hts⟩
  subst hsz
  have hD := hD0.self (sz := s.heap.size)
  generalize hAe : va_A (z_wBO X a d d2 B o g) s.heap.size = A at hD ⊢
  have hA : ∀ q : Nat, s.heap.size ≤ q → A q := fun q h => by rw [← hAe]; exact Or.inr h
  have hS : va_S A s.heap s.heap [] := va_S.rf
  have hl := lv_entry ([.ref a, .int v1, .ref o]) (n := 4) (Nat.le_of_ble_eq_true rfl)
  rw [lg_entry_eq]
  generalize (lg_sl ([.ref a, .int v1, .ref o]) ++ List.replicate (4 - (lg_sl ([.ref a, .int v1, .ref o])).length) Slot.unset).toArray = ls at hl ⊢
  have hl : lv_has ls 4 [(0, .ref a), (1, .int v1), (2, .ref o)] := hl
  refine lv_aload_n (pc := 0) hx hb dL_minutesLeft_0 rfl (lv_at hl 2 rfl) ?_
  refine lv_iconst (v := 0) (pc := 1) hx hb dL_minutesLeft_1 (by decide) ?_
  refine lv_aload_n (pc := 2) hx hb dL_minutesLeft_2 rfl (lv_at hl 0 rfl) ?_
  refine lv_iload_n (pc := 3) hx hb dL_minutesLeft_3 rfl (lv_at hl 1 rfl) ?_
  refine z_cpI (pc := 4) S (m_X4_minutesLeft l X a d d2 B v1 hf) (cwV 1 hts gL_minutesLeft_X4_minutesLeft rfl rfl rfl hdX4_minutesLeft ⟨Nat.le_of_ble_eq_true rfl, Nat.le_of_ble_eq_true rfl⟩) hP hK hN (s_BO_B X a d d2 B o g) (ci := 4) rfl rfl rfl ⟨Nat.le_of_ble_eq_true rfl, Nat.le_of_ble_eq_true rfl⟩ rfl hl.1 rfl (Nat.le_of_ble_eq_true rfl) dL_minutesLeft_4 ?_
  refine lv_i2l (v := (RR).toInt64) (pc := 7) hx hb dL_minutesLeft_7 rfl ?_
  refine va_last (pc := 8) hx hb hK hP hD hS 53 2 rfl rfl z_in01 dL_minutesLeft_8 (fun H locs hP hD hS => ?_)
  have hP : va_P X.1 vwCl (z_wBO X a d d2 B o (vp_updL g 0 (RR).toInt64)) H := hP
  have hD : va_D A (z_wBO X a d d2 B o (vp_updL g 0 (RR).toInt64)) := hD
  refine lv_goto (pc := 9) (tgt := 15) hx hb dL_minutesLeft_9 (by decide) ?_
  refine lv_iconst (v := 0) (pc := 15) hx hb dL_minutesLeft_15 (by decide) ?_
  exact W.iret (pc := 16) (v := 0) hx hb hr (fun t ht hW => ⟨⟨_, (z_wBO X a d d2 B o (vp_updL g 0 (RR).toInt64)), rfl, ⟨rfl, rfl⟩, by rw [ht]; exact hP, hD⟩, hS.F ht⟩) hS.2.2 dL_minutesLeft_16
set_option maxHeartbeats 4000000 in
set_option maxRecDepth 100000 in
theorem wt_minutesLeft_2 (l : Launch) (hl0 : l.stackTraces = false) (X : z_X) (a : Nat) (d d2 : Nat → Nat) (B : z_B) (o : Nat) (g : Nat → Int64) (v1 : Int32) (hf : x_X4_minutesLeft B v1 = some 2) : z_eI l yL_minutesLeft wsL_minutesLeft 8 132 X [.ref a, .int v1, .ref o] (z_wBO X a d d2 B o g) 1 := by
  intro sz
  refine va_MetW (cc := cL_minutesLeft) (maxL := 4) (ret := (some .int)) (by decide) rfl ?_
  intro p e s m args below meth c s₁ Bd hml hv
  obtain ⟨rfl, ⟨hsz, hP, hK, hN, hD0⟩, hT⟩ := hv
  have hx := Bd.exec
  have hb := Bd.bytes
  have hr := Bd.returns
  have hts := atoms_spec (ws := wsL_minutesLeft) Bd.pre
  have hown : s.vm.findClass RL = some m.cls := findClass_of_methodNamed Bd.named
  have hlocks := Bd.notSynchronized
  have S : CallFix p m c cL_minutesLeft 4 s _ wsL_minutesLeft RL := ⟨hx, hb, hml, hown, hts⟩
  have htab := vx_table (x := yL_minutesLeft) Bd (hts _ List.mem_cons_self)
  subst hsz
  have hD := hD0.self (sz := s.heap.size)
  generalize hAe : va_A (z_wBO X a d d2 B o g) s.heap.size = A at hD ⊢
  have hA : ∀ q : Nat, s.heap.size ≤ q → A q := fun q h => by rw [← hAe]; exact Or.inr h
  have hS : va_S A s.heap s.heap [] := va_S.rf
  have hl := lv_entry ([.ref a, .int v1, .ref o]) (n := 4) (Nat.le_of_ble_eq_true rfl)
  rw [lg_entry_eq]
  generalize (lg_sl ([.ref a, .int v1, .ref o]) ++ List.replicate (4 - (lg_sl ([.ref a, .int v1, .ref o])).length) Slot.unset).toArray = ls at hl ⊢
  have hl : lv_has ls 4 [(0, .ref a), (1, .int v1), (2, .ref o)] := hl
  refine lv_aload_n (pc := 0) hx hb dL_minutesLeft_0 rfl (lv_at hl 2 rfl) ?_
  refine lv_iconst (v := 0) (pc := 1) hx hb dL_minutesLeft_1 (by decide) ?_
  refine lv_aload_n (pc := 2) hx hb dL_minutesLeft_2 rfl (lv_at hl 0 rfl) ?_
  refine lv_iload_n (pc := 3) hx hb dL_minutesLeft_3 rfl (lv_at hl 1 rfl) ?_
  refine z_ctV (pc := 4) S (t_X4_minutesLeft l hl0 X a d d2 B v1 hf) (cwV 1 hts gL_minutesLeft_X4_minutesLeft rfl rfl rfl hdX4_minutesLeft ⟨Nat.le_of_ble_eq_true rfl, Nat.le_of_ble_eq_true rfl⟩) hP hK hN hT (s_BO_B X a d d2 B o g) hS (ci := 4) rfl rfl rfl ⟨Nat.le_of_ble_eq_true rfl, Nat.le_of_ble_eq_true rfl⟩ rfl hl.1 rfl (Nat.le_of_ble_eq_true rfl) dL_minutesLeft_4 (fun ce q9 H1 locs1 hz1 hk1 hS1 hce hcv hcl => ?_)
  refine vx_catch (pc := 4) hown [] ⟨0, 9, 12, 25⟩ [] (htab.trans rfl) (fun z hz => nomatch hz) rfl (by decide) (hts (.classLink RL 25 "java/lang/IndexOutOfBoundsException") (List.mem_of_getElem? (i := 1) rfl)) (va_Nw.use rfl (hT.1.2.1 2 (by decide))) hce hcv hcl ?_
  have hP : va_P X.1 vwCl (z_wBO X a d d2 B o g) H1 := hP.kept (fun k q hk => hk1 q.1 ((hP k q hk).lt))
  refine lv_astore_n (pc := 12) (lv' := [(3, .ref q9), (0, .ref a), (1, .int v1), (2, .ref o)]) hx hb dL_minutesLeft_12 rfl hl (by decide) rfl (fun ls hl => ?_)
  refine lv_iconst (v := 1) (pc := 13) hx hb dL_minutesLeft_13 (by decide) ?_
  exact W.iret (pc := 14) (v := 1) hx hb hr (fun t ht hW => ⟨⟨_, (z_wBO X a d d2 B o g), rfl, ⟨rfl, rfl⟩, by rw [ht]; exact hP, hD⟩, hS1.F ht⟩) hS1.2.2 dL_minutesLeft_14
set_option maxHeartbeats 4000000 in
set_option maxRecDepth 100000 in
theorem wn_wayTo (l : Launch) (X : z_X) (a : Nat) (d d2 : Nat → Nat) (B : z_B) (o : Nat) (g : Nat → Int64) (v1 : Int32) (v2 : Int32) {RR : Int32} (hf : f_X4_wayTo B v1 v2 = some RR) : z_mI l yL_wayTo wsL_wayTo 3 68 X [.ref a, .int v1, .int v2, .ref o] (z_wBO X a d d2 B o g) 0 (z_wBO X a d d2 B o (vp_updL g 0 (RR).toInt64)) := by
  intro sz
  refine va_MetW (cc := cL_wayTo) (maxL := 5) (ret := (some .int)) (by decide) rfl ?_
  intro p e s m args below meth c s₁ Bd hml hv
  obtain ⟨rfl, hsz, hP, hK, hN, hD0⟩ := hv
  have hx := Bd.exec
  have hb := Bd.bytes
  have hr := Bd.returns
  have hts := atoms_spec (ws := wsL_wayTo) Bd.pre
  have hown : s.vm.findClass RL = some m.cls := findClass_of_methodNamed Bd.named
  have hlocks := Bd.notSynchronized
  have S : CallFix p m c cL_wayTo 5 s _ wsL_wayTo RL := ⟨hx, hb, hml, hown, hts⟩
  subst hsz
  have hD := hD0.self (sz := s.heap.size)
  generalize hAe : va_A (z_wBO X a d d2 B o g) s.heap.size = A at hD ⊢
  have hA : ∀ q : Nat, s.heap.size ≤ q → A q := fun q h => by rw [← hAe]; exact Or.inr h
  have hS : va_S A s.heap s.heap [] := va_S.rf
  have hl := lv_entry ([.ref a, .int v1, .int v2, .ref o]) (n := 5) (Nat.le_of_ble_eq_true rfl)
  rw [lg_entry_eq]
  generalize (lg_sl ([.ref a, .int v1, .int v2, .ref o]) ++ List.replicate (5 - (lg_sl ([.ref a, .int v1, .int v2, .ref o])).length) Slot.unset).toArray = ls at hl ⊢
  have hl : lv_has ls 5 [(0, .ref a), (1, .int v1), (2, .int v2), (3, .ref o)] := hl
  refine lv_aload_n (pc := 0) hx hb dL_wayTo_0 rfl (lv_at hl 3 rfl) ?_
  refine lv_iconst (v := 0) (pc := 1) hx hb dL_wayTo_1 (by decide) ?_
  refine lv_aload_n (pc := 2) hx hb dL_wayTo_2 rfl (lv_at hl 0 rfl) ?_
  refine lv_iload_n (pc := 3) hx hb dL_wayTo_3 rfl (lv_at hl 1 rfl) ?_
  refine lv_iload_n (pc := 4) hx hb dL_wayTo_4 rfl (lv_at hl 2 rfl) ?_
  refine z_cpI (pc := 5) S (m_X4_wayTo l X a d d2 B v1 v2 hf) (cwV 2 hts gL_wayTo_X4_wayTo rfl rfl rfl hdX4_wayTo ⟨Nat.le_of_ble_eq_true rfl, Nat.le_of_ble_eq_true rfl⟩) hP hK hN (s_BO_B X a d d2 B o g) (ci := 4) rfl rfl rfl ⟨Nat.le_of_ble_eq_true rfl, Nat.le_of_ble_eq_true rfl⟩ rfl hl.1 rfl (Nat.le_of_ble_eq_true rfl) dL_wayTo_5 ?_
  refine lv_i2l (v := (RR).toInt64) (pc := 8) hx hb dL_wayTo_8 rfl ?_
  refine va_last (pc := 9) hx hb hK hP hD hS 53 2 rfl rfl z_in01 dL_wayTo_9 (fun H locs hP hD hS => ?_)
  have hP : va_P X.1 vwCl (z_wBO X a d d2 B o (vp_updL g 0 (RR).toInt64)) H := hP
  have hD : va_D A (z_wBO X a d d2 B o (vp_updL g 0 (RR).toInt64)) := hD
  refine lv_goto (pc := 10) (tgt := 17) hx hb dL_wayTo_10 (by decide) ?_
  refine lv_iconst (v := 0) (pc := 17) hx hb dL_wayTo_17 (by decide) ?_
  exact W.iret (pc := 18) (v := 0) hx hb hr (fun t ht hW => ⟨⟨_, (z_wBO X a d d2 B o (vp_updL g 0 (RR).toInt64)), rfl, ⟨rfl, rfl⟩, by rw [ht]; exact hP, hD⟩, hS.F ht⟩) hS.2.2 dL_wayTo_18
set_option maxHeartbeats 4000000 in
set_option maxRecDepth 100000 in
theorem wt_wayTo_2 (l : Launch) (hl0 : l.stackTraces = false) (X : z_X) (a : Nat) (d d2 : Nat → Nat) (B : z_B) (o : Nat) (g : Nat → Int64) (v1 : Int32) (v2 : Int32) (hf : x_X4_wayTo B v1 v2 = some 2) : z_eI l yL_wayTo wsL_wayTo 8 133 X [.ref a, .int v1, .int v2, .ref o] (z_wBO X a d d2 B o g) 1 := by
  intro sz
  refine va_MetW (cc := cL_wayTo) (maxL := 5) (ret := (some .int)) (by decide) rfl ?_
  intro p e s m args below meth c s₁ Bd hml hv
  obtain ⟨rfl, ⟨hsz, hP, hK, hN, hD0⟩, hT⟩ := hv
  have hx := Bd.exec
  have hb := Bd.bytes
  have hr := Bd.returns
  have hts := atoms_spec (ws := wsL_wayTo) Bd.pre
  have hown : s.vm.findClass RL = some m.cls := findClass_of_methodNamed Bd.named
  have hlocks := Bd.notSynchronized
  have S : CallFix p m c cL_wayTo 5 s _ wsL_wayTo RL := ⟨hx, hb, hml, hown, hts⟩
  have htab := vx_table (x := yL_wayTo) Bd (hts _ List.mem_cons_self)
  subst hsz
  have hD := hD0.self (sz := s.heap.size)
  generalize hAe : va_A (z_wBO X a d d2 B o g) s.heap.size = A at hD ⊢
  have hA : ∀ q : Nat, s.heap.size ≤ q → A q := fun q h => by rw [← hAe]; exact Or.inr h
  have hS : va_S A s.heap s.heap [] := va_S.rf
  have hl := lv_entry ([.ref a, .int v1, .int v2, .ref o]) (n := 5) (Nat.le_of_ble_eq_true rfl)
  rw [lg_entry_eq]
  generalize (lg_sl ([.ref a, .int v1, .int v2, .ref o]) ++ List.replicate (5 - (lg_sl ([.ref a, .int v1, .int v2, .ref o])).length) Slot.unset).toArray = ls at hl ⊢
  have hl : lv_has ls 5 [(0, .ref a), (1, .int v1), (2, .int v2), (3, .ref o)] := hl
  refine lv_aload_n (pc := 0) hx hb dL_wayTo_0 rfl (lv_at hl 3 rfl) ?_
  refine lv_iconst (v := 0) (pc := 1) hx hb dL_wayTo_1 (by decide) ?_
  refine lv_aload_n (pc := 2) hx hb dL_wayTo_2 rfl (lv_at hl 0 rfl) ?_
  refine lv_iload_n (pc := 3) hx hb dL_wayTo_3 rfl (lv_at hl 1 rfl) ?_
  refine lv_iload_n (pc := 4) hx hb dL_wayTo_4 rfl (lv_at hl 2 rfl) ?_
  refine z_ctV (pc := 5) S (t_X4_wayTo l hl0 X a d d2 B v1 v2 hf) (cwV 2 hts gL_wayTo_X4_wayTo rfl rfl rfl hdX4_wayTo ⟨Nat.le_of_ble_eq_true rfl, Nat.le_of_ble_eq_true rfl⟩) hP hK hN hT (s_BO_B X a d d2 B o g) hS (ci := 4) rfl rfl rfl ⟨Nat.le_of_ble_eq_true rfl, Nat.le_of_ble_eq_true rfl⟩ rfl hl.1 rfl (Nat.le_of_ble_eq_true rfl) dL_wayTo_5 (fun ce q9 H1 locs1 hz1 hk1 hS1 hce hcv hcl => ?_)
  refine vx_catch (pc := 5) hown [] ⟨0, 10, 13, 25⟩ [] (htab.trans rfl) (fun z hz => nomatch hz) rfl (by decide) (hts (.classLink RL 25 "java/lang/IndexOutOfBoundsException") (List.mem_of_getElem? (i := 1) rfl)) (va_Nw.use rfl (hT.1.2.1 2 (by decide))) hce hcv hcl ?_
  have hP : va_P X.1 vwCl (z_wBO X a d d2 B o g) H1 := hP.kept (fun k q hk => hk1 q.1 ((hP k q hk).lt))
  refine lv_astore (pc := 13) (lv' := [(4, .ref q9), (0, .ref a), (1, .int v1), (2, .int v2), (3, .ref o)]) hx hb dL_wayTo_13 hl (by decide) rfl (fun ls hl => ?_)
  refine lv_iconst (v := 1) (pc := 15) hx hb dL_wayTo_15 (by decide) ?_
  exact W.iret (pc := 16) (v := 1) hx hb hr (fun t ht hW => ⟨⟨_, (z_wBO X a d d2 B o g), rfl, ⟨rfl, rfl⟩, by rw [ht]; exact hP, hD⟩, hS1.F ht⟩) hS1.2.2 dL_wayTo_16
set_option maxHeartbeats 4000000 in
set_option maxRecDepth 100000 in
theorem wn_nearestIdle (l : Launch) (X : z_X) (a : Nat) (d d2 : Nat → Nat) (B : z_B) (o : Nat) (g : Nat → Int64) (v1 : Int32) {RR : Int32} (hf : f_X4_nearestIdle B v1 = some RR) : z_mI l yL_nearestIdle wsL_nearestIdle 3 70 X [.ref a, .int v1, .ref o] (z_wBO X a d d2 B o g) 0 (z_wBO X a d d2 B o (vp_updL g 0 (RR).toInt64)) := by
  intro sz
  refine va_MetW (cc := cL_nearestIdle) (maxL := 4) (ret := (some .int)) (by decide) rfl ?_
  intro p e s m args below meth c s₁ Bd hml hv
  obtain ⟨rfl, hsz, hP, hK, hN, hD0⟩ := hv
  have hx := Bd.exec
  have hb := Bd.bytes
  have hr := Bd.returns
  have hts := atoms_spec (ws := wsL_nearestIdle) Bd.pre
  have hown : s.vm.findClass RL = some m.cls := findClass_of_methodNamed Bd.named
  have hlocks := Bd.notSynchronized
  have S : CallFix p m c cL_nearestIdle 4 s _ wsL_nearestIdle RL := ⟨hx, hb, hml, hown, hts⟩
  subst hsz
  have hD := hD0.self (sz := s.heap.size)
  generalize hAe : va_A (z_wBO X a d d2 B o g) s.heap.size = A at hD ⊢
  have hA : ∀ q : Nat, s.heap.size ≤ q → A q := fun q h => by rw [← hAe]; exact Or.inr h
  have hS : va_S A s.heap s.heap [] := va_S.rf
  have hl := lv_entry ([.ref a, .int v1, .ref o]) (n := 4) (Nat.le_of_ble_eq_true rfl)
  rw [lg_entry_eq]
  generalize (lg_sl ([.ref a, .int v1, .ref o]) ++ List.replicate (4 - (lg_sl ([.ref a, .int v1, .ref o])).length) Slot.unset).toArray = ls at hl ⊢
  have hl : lv_has ls 4 [(0, .ref a), (1, .int v1), (2, .ref o)] := hl
  refine lv_aload_n (pc := 0) hx hb dL_nearestIdle_0 rfl (lv_at hl 2 rfl) ?_
  refine lv_iconst (v := 0) (pc := 1) hx hb dL_nearestIdle_1 (by decide) ?_
  refine lv_aload_n (pc := 2) hx hb dL_nearestIdle_2 rfl (lv_at hl 0 rfl) ?_
  refine lv_iload_n (pc := 3) hx hb dL_nearestIdle_3 rfl (lv_at hl 1 rfl) ?_
  refine z_cpI (pc := 4) S (m_X4_nearestIdle l X a d d2 B v1 hf) (cwV 1 hts gL_nearestIdle_X4_nearestIdle rfl rfl rfl hdX4_nearestIdle ⟨Nat.le_of_ble_eq_true rfl, Nat.le_of_ble_eq_true rfl⟩) hP hK hN (s_BO_B X a d d2 B o g) (ci := 4) rfl rfl rfl ⟨Nat.le_of_ble_eq_true rfl, Nat.le_of_ble_eq_true rfl⟩ rfl hl.1 rfl (Nat.le_of_ble_eq_true rfl) dL_nearestIdle_4 ?_
  refine lv_i2l (v := (RR).toInt64) (pc := 7) hx hb dL_nearestIdle_7 rfl ?_
  refine va_last (pc := 8) hx hb hK hP hD hS 53 2 rfl rfl z_in01 dL_nearestIdle_8 (fun H locs hP hD hS => ?_)
  have hP : va_P X.1 vwCl (z_wBO X a d d2 B o (vp_updL g 0 (RR).toInt64)) H := hP
  have hD : va_D A (z_wBO X a d d2 B o (vp_updL g 0 (RR).toInt64)) := hD
  refine lv_goto (pc := 9) (tgt := 15) hx hb dL_nearestIdle_9 (by decide) ?_
  refine lv_iconst (v := 0) (pc := 15) hx hb dL_nearestIdle_15 (by decide) ?_
  exact W.iret (pc := 16) (v := 0) hx hb hr (fun t ht hW => ⟨⟨_, (z_wBO X a d d2 B o (vp_updL g 0 (RR).toInt64)), rfl, ⟨rfl, rfl⟩, by rw [ht]; exact hP, hD⟩, hS.F ht⟩) hS.2.2 dL_nearestIdle_16
set_option maxHeartbeats 4000000 in
set_option maxRecDepth 100000 in
theorem wt_nearestIdle_2 (l : Launch) (hl0 : l.stackTraces = false) (X : z_X) (a : Nat) (d d2 : Nat → Nat) (B : z_B) (o : Nat) (g : Nat → Int64) (v1 : Int32) (hf : x_X4_nearestIdle B v1 = some 2) : z_eI l yL_nearestIdle wsL_nearestIdle 8 132 X [.ref a, .int v1, .ref o] (z_wBO X a d d2 B o g) 1 := by
  intro sz
  refine va_MetW (cc := cL_nearestIdle) (maxL := 4) (ret := (some .int)) (by decide) rfl ?_
  intro p e s m args below meth c s₁ Bd hml hv
  obtain ⟨rfl, ⟨hsz, hP, hK, hN, hD0⟩, hT⟩ := hv
  have hx := Bd.exec
  have hb := Bd.bytes
  have hr := Bd.returns
  have hts := atoms_spec (ws := wsL_nearestIdle) Bd.pre
  have hown : s.vm.findClass RL = some m.cls := findClass_of_methodNamed Bd.named
  have hlocks := Bd.notSynchronized
  have S : CallFix p m c cL_nearestIdle 4 s _ wsL_nearestIdle RL := ⟨hx, hb, hml, hown, hts⟩
  have htab := vx_table (x := yL_nearestIdle) Bd (hts _ List.mem_cons_self)
  subst hsz
  have hD := hD0.self (sz := s.heap.size)
  generalize hAe : va_A (z_wBO X a d d2 B o g) s.heap.size = A at hD ⊢
  have hA : ∀ q : Nat, s.heap.size ≤ q → A q := fun q h => by rw [← hAe]; exact Or.inr h
  have hS : va_S A s.heap s.heap [] := va_S.rf
  have hl := lv_entry ([.ref a, .int v1, .ref o]) (n := 4) (Nat.le_of_ble_eq_true rfl)
  rw [lg_entry_eq]
  generalize (lg_sl ([.ref a, .int v1, .ref o]) ++ List.replicate (4 - (lg_sl ([.ref a, .int v1, .ref o])).length) Slot.unset).toArray = ls at hl ⊢
  have hl : lv_has ls 4 [(0, .ref a), (1, .int v1), (2, .ref o)] := hl
  refine lv_aload_n (pc := 0) hx hb dL_nearestIdle_0 rfl (lv_at hl 2 rfl) ?_
  refine lv_iconst (v := 0) (pc := 1) hx hb dL_nearestIdle_1 (by decide) ?_
  refine lv_aload_n (pc := 2) hx hb dL_nearestIdle_2 rfl (lv_at hl 0 rfl) ?_
  refine lv_iload_n (pc := 3) hx hb dL_nearestIdle_3 rfl (lv_at hl 1 rfl) ?_
  refine z_ctV (pc := 4) S (t_X4_nearestIdle l hl0 X a d d2 B v1 hf) (cwV 1 hts gL_nearestIdle_X4_nearestIdle rfl rfl rfl hdX4_nearestIdle ⟨Nat.le_of_ble_eq_true rfl, Nat.le_of_ble_eq_true rfl⟩) hP hK hN hT (s_BO_B X a d d2 B o g) hS (ci := 4) rfl rfl rfl ⟨Nat.le_of_ble_eq_true rfl, Nat.le_of_ble_eq_true rfl⟩ rfl hl.1 rfl (Nat.le_of_ble_eq_true rfl) dL_nearestIdle_4 (fun ce q9 H1 locs1 hz1 hk1 hS1 hce hcv hcl => ?_)
  refine vx_catch (pc := 4) hown [] ⟨0, 9, 12, 25⟩ [] (htab.trans rfl) (fun z hz => nomatch hz) rfl (by decide) (hts (.classLink RL 25 "java/lang/IndexOutOfBoundsException") (List.mem_of_getElem? (i := 1) rfl)) (va_Nw.use rfl (hT.1.2.1 2 (by decide))) hce hcv hcl ?_
  have hP : va_P X.1 vwCl (z_wBO X a d d2 B o g) H1 := hP.kept (fun k q hk => hk1 q.1 ((hP k q hk).lt))
  refine lv_astore_n (pc := 12) (lv' := [(3, .ref q9), (0, .ref a), (1, .int v1), (2, .ref o)]) hx hb dL_nearestIdle_12 rfl hl (by decide) rfl (fun ls hl => ?_)
  refine lv_iconst (v := 1) (pc := 13) hx hb dL_nearestIdle_13 (by decide) ?_
  exact W.iret (pc := 14) (v := 1) hx hb hr (fun t ht hW => ⟨⟨_, (z_wBO X a d d2 B o g), rfl, ⟨rfl, rfl⟩, by rw [ht]; exact hP, hD⟩, hS1.F ht⟩) hS1.2.2 dL_nearestIdle_14
set_option maxHeartbeats 4000000 in
set_option maxRecDepth 100000 in
theorem wn_minutesUntilServed (l : Launch) (X : z_X) (a : Nat) (d d2 : Nat → Nat) (B : z_B) (o : Nat) (g : Nat → Int64) (v1 : Int32) {RR : (Int32 × z_B)} (hf : f_X4_minutesUntilServed B v1 = some RR) : z_mI l yL_minutesUntilServed wsL_minutesUntilServed 5 116 X [.ref a, .int v1, .ref o] (z_wBO X a d d2 B o g) 0 (z_wBO X a d d2 RR.2 o (vp_updL g 0 (RR.1).toInt64)) := by
  intro sz
  refine va_MetW (cc := cL_minutesUntilServed) (maxL := 4) (ret := (some .int)) (by decide) rfl ?_
  intro p e s m args below meth c s₁ Bd hml hv
  obtain ⟨rfl, hsz, hP, hK, hN, hD0⟩ := hv
  have hx := Bd.exec
  have hb := Bd.bytes
  have hr := Bd.returns
  have hts := atoms_spec (ws := wsL_minutesUntilServed) Bd.pre
  have hown : s.vm.findClass RL = some m.cls := findClass_of_methodNamed Bd.named
  have hlocks := Bd.notSynchronized
  have S : CallFix p m c cL_minutesUntilServed 4 s _ wsL_minutesUntilServed RL := ⟨hx, hb, hml, hown, hts⟩
  subst hsz
  have hD := hD0.self (sz := s.heap.size)
  generalize hAe : va_A (z_wBO X a d d2 B o g) s.heap.size = A at hD ⊢
  have hA : ∀ q : Nat, s.heap.size ≤ q → A q := fun q h => by rw [← hAe]; exact Or.inr h
  have hS : va_S A s.heap s.heap [] := va_S.rf
  have hl := lv_entry ([.ref a, .int v1, .ref o]) (n := 4) (Nat.le_of_ble_eq_true rfl)
  rw [lg_entry_eq]
  generalize (lg_sl ([.ref a, .int v1, .ref o]) ++ List.replicate (4 - (lg_sl ([.ref a, .int v1, .ref o])).length) Slot.unset).toArray = ls at hl ⊢
  have hl : lv_has ls 4 [(0, .ref a), (1, .int v1), (2, .ref o)] := hl
  refine lv_aload_n (pc := 0) hx hb dL_minutesUntilServed_0 rfl (lv_at hl 2 rfl) ?_
  refine lv_iconst (v := 0) (pc := 1) hx hb dL_minutesUntilServed_1 (by decide) ?_
  refine lv_aload_n (pc := 2) hx hb dL_minutesUntilServed_2 rfl (lv_at hl 0 rfl) ?_
  refine lv_iload_n (pc := 3) hx hb dL_minutesUntilServed_3 rfl (lv_at hl 1 rfl) ?_
  refine z_cmI (pc := 4) (W1 := (z_wBO X a d d2 RR.2 o g)) S (m_X4_minutesUntilServed l X a d d2 B v1 hf) (cwV 1 hts gL_minutesUntilServed_X4_minutesUntilServed rfl rfl rfl hdX4_minutesUntilServed ⟨Nat.le_of_ble_eq_true rfl, Nat.le_of_ble_eq_true rfl⟩) hP hK hN hD hS hA (s_BO_B X a d d2 B o g) (f_BO_B X a d d2 B o g RR.2) (ci := 4) rfl rfl rfl ⟨Nat.le_of_ble_eq_true rfl, Nat.le_of_ble_eq_true rfl⟩ rfl hl.1 rfl (Nat.le_of_ble_eq_true rfl) dL_minutesUntilServed_4 (fun H locs hP hD hS => ?_)
  refine lv_i2l (v := (RR.1).toInt64) (pc := 7) hx hb dL_minutesUntilServed_7 rfl ?_
  refine va_last (pc := 8) hx hb hK hP hD hS 53 2 rfl rfl z_in01 dL_minutesUntilServed_8 (fun H locs hP hD hS => ?_)
  have hP : va_P X.1 vwCl (z_wBO X a d d2 RR.2 o (vp_updL g 0 (RR.1).toInt64)) H := hP
  have hD : va_D A (z_wBO X a d d2 RR.2 o (vp_updL g 0 (RR.1).toInt64)) := hD
  refine lv_goto (pc := 9) (tgt := 15) hx hb dL_minutesUntilServed_9 (by decide) ?_
  refine lv_iconst (v := 0) (pc := 15) hx hb dL_minutesUntilServed_15 (by decide) ?_
  exact W.iret (pc := 16) (v := 0) hx hb hr (fun t ht hW => ⟨⟨_, (z_wBO X a d d2 RR.2 o (vp_updL g 0 (RR.1).toInt64)), rfl, ⟨rfl, rfl⟩, by rw [ht]; exact hP, hD⟩, hS.F ht⟩) hS.2.2 dL_minutesUntilServed_16
set_option maxHeartbeats 4000000 in
set_option maxRecDepth 100000 in
theorem wt_minutesUntilServed_2 (l : Launch) (hl0 : l.stackTraces = false) (X : z_X) (a : Nat) (d d2 : Nat → Nat) (B : z_B) (o : Nat) (g : Nat → Int64) (v1 : Int32) (hf : x_X4_minutesUntilServed B v1 = some 2) : z_eI l yL_minutesUntilServed wsL_minutesUntilServed 8 133 X [.ref a, .int v1, .ref o] (z_wBO X a d d2 B o g) 1 := by
  intro sz
  refine va_MetW (cc := cL_minutesUntilServed) (maxL := 4) (ret := (some .int)) (by decide) rfl ?_
  intro p e s m args below meth c s₁ Bd hml hv
  obtain ⟨rfl, ⟨hsz, hP, hK, hN, hD0⟩, hT⟩ := hv
  have hx := Bd.exec
  have hb := Bd.bytes
  have hr := Bd.returns
  have hts := atoms_spec (ws := wsL_minutesUntilServed) Bd.pre
  have hown : s.vm.findClass RL = some m.cls := findClass_of_methodNamed Bd.named
  have hlocks := Bd.notSynchronized
  have S : CallFix p m c cL_minutesUntilServed 4 s _ wsL_minutesUntilServed RL := ⟨hx, hb, hml, hown, hts⟩
  have htab := vx_table (x := yL_minutesUntilServed) Bd (hts _ List.mem_cons_self)
  subst hsz
  have hD := hD0.self (sz := s.heap.size)
  generalize hAe : va_A (z_wBO X a d d2 B o g) s.heap.size = A at hD ⊢
  have hA : ∀ q : Nat, s.heap.size ≤ q → A q := fun q h => by rw [← hAe]; exact Or.inr h
  have hS : va_S A s.heap s.heap [] := va_S.rf
  have hl := lv_entry ([.ref a, .int v1, .ref o]) (n := 4) (Nat.le_of_ble_eq_true rfl)
  rw [lg_entry_eq]
  generalize (lg_sl ([.ref a, .int v1, .ref o]) ++ List.replicate (4 - (lg_sl ([.ref a, .int v1, .ref o])).length) Slot.unset).toArray = ls at hl ⊢
  have hl : lv_has ls 4 [(0, .ref a), (1, .int v1), (2, .ref o)] := hl
  refine lv_aload_n (pc := 0) hx hb dL_minutesUntilServed_0 rfl (lv_at hl 2 rfl) ?_
  refine lv_iconst (v := 0) (pc := 1) hx hb dL_minutesUntilServed_1 (by decide) ?_
  refine lv_aload_n (pc := 2) hx hb dL_minutesUntilServed_2 rfl (lv_at hl 0 rfl) ?_
  refine lv_iload_n (pc := 3) hx hb dL_minutesUntilServed_3 rfl (lv_at hl 1 rfl) ?_
  refine z_ctV (pc := 4) S (t_X4_minutesUntilServed l hl0 X a d d2 B v1 hf) (cwV 1 hts gL_minutesUntilServed_X4_minutesUntilServed rfl rfl rfl hdX4_minutesUntilServed ⟨Nat.le_of_ble_eq_true rfl, Nat.le_of_ble_eq_true rfl⟩) hP hK hN hT (s_BO_B X a d d2 B o g) hS (ci := 4) rfl rfl rfl ⟨Nat.le_of_ble_eq_true rfl, Nat.le_of_ble_eq_true rfl⟩ rfl hl.1 rfl (Nat.le_of_ble_eq_true rfl) dL_minutesUntilServed_4 (fun ce q9 H1 locs1 hz1 hk1 hS1 hce hcv hcl => ?_)
  refine vx_catch (pc := 4) hown [] ⟨0, 9, 12, 25⟩ [] (htab.trans rfl) (fun z hz => nomatch hz) rfl (by decide) (hts (.classLink RL 25 "java/lang/IndexOutOfBoundsException") (List.mem_of_getElem? (i := 1) rfl)) (va_Nw.use rfl (hT.1.2.1 2 (by decide))) hce hcv hcl ?_
  have hP : va_P X.1 vwCl (z_wBO X a d d2 B o g) H1 := hP.kept (fun k q hk => hk1 q.1 ((hP k q hk).lt))
  refine lv_astore_n (pc := 12) (lv' := [(3, .ref q9), (0, .ref a), (1, .int v1), (2, .ref o)]) hx hb dL_minutesUntilServed_12 rfl hl (by decide) rfl (fun ls hl => ?_)
  refine lv_iconst (v := 1) (pc := 13) hx hb dL_minutesUntilServed_13 (by decide) ?_
  exact W.iret (pc := 14) (v := 1) hx hb hr (fun t ht hW => ⟨⟨_, (z_wBO X a d d2 B o g), rfl, ⟨rfl, rfl⟩, by rw [ht]; exact hP, hD⟩, hS1.F ht⟩) hS1.2.2 dL_minutesUntilServed_14
set_option maxHeartbeats 4000000 in
set_option maxRecDepth 100000 in
theorem wn_servedIn (l : Launch) (X : z_X) (a : Nat) (d d2 : Nat → Nat) (B : z_B) (o : Nat) (g : Nat → Int64) (v1 : Int32) {RR : (Int32 × z_B)} (hf : f_X4_servedIn B v1 = some RR) : z_mI l yL_servedIn wsL_servedIn 6 138 X [.ref a, .int v1, .ref o] (z_wBO X a d d2 B o g) 0 (z_wBO X a d d2 RR.2 o (vp_updL g 0 (RR.1).toInt64)) := by
  intro sz
  refine va_MetW (cc := cL_servedIn) (maxL := 4) (ret := (some .int)) (by decide) rfl ?_
  intro p e s m args below meth c s₁ Bd hml hv
  obtain ⟨rfl, hsz, hP, hK, hN, hD0⟩ := hv
  have hx := Bd.exec
  have hb := Bd.bytes
  have hr := Bd.returns
  have hts := atoms_spec (ws := wsL_servedIn) Bd.pre
  have hown : s.vm.findClass RL = some m.cls := findClass_of_methodNamed Bd.named
  have hlocks := Bd.notSynchronized
  have S : CallFix p m c cL_servedIn 4 s _ wsL_servedIn RL := ⟨hx, hb, hml, hown, hts⟩
  subst hsz
  have hD := hD0.self (sz := s.heap.size)
  generalize hAe : va_A (z_wBO X a d d2 B o g) s.heap.size = A at hD ⊢
  have hA : ∀ q : Nat, s.heap.size ≤ q → A q := fun q h => by rw [← hAe]; exact Or.inr h
  have hS : va_S A s.heap s.heap [] := va_S.rf
  have hl := lv_entry ([.ref a, .int v1, .ref o]) (n := 4) (Nat.le_of_ble_eq_true rfl)
  rw [lg_entry_eq]
  generalize (lg_sl ([.ref a, .int v1, .ref o]) ++ List.replicate (4 - (lg_sl ([.ref a, .int v1, .ref o])).length) Slot.unset).toArray = ls at hl ⊢
  have hl : lv_has ls 4 [(0, .ref a), (1, .int v1), (2, .ref o)] := hl
  refine lv_aload_n (pc := 0) hx hb dL_servedIn_0 rfl (lv_at hl 2 rfl) ?_
  refine lv_iconst (v := 0) (pc := 1) hx hb dL_servedIn_1 (by decide) ?_
  refine lv_aload_n (pc := 2) hx hb dL_servedIn_2 rfl (lv_at hl 0 rfl) ?_
  refine lv_iload_n (pc := 3) hx hb dL_servedIn_3 rfl (lv_at hl 1 rfl) ?_
  refine z_cmI (pc := 4) (W1 := (z_wBO X a d d2 RR.2 o g)) S (m_X4_servedIn l X a d d2 B v1 hf) (cwV 1 hts gL_servedIn_X4_servedIn rfl rfl rfl hdX4_servedIn ⟨Nat.le_of_ble_eq_true rfl, Nat.le_of_ble_eq_true rfl⟩) hP hK hN hD hS hA (s_BO_B X a d d2 B o g) (f_BO_B X a d d2 B o g RR.2) (ci := 4) rfl rfl rfl ⟨Nat.le_of_ble_eq_true rfl, Nat.le_of_ble_eq_true rfl⟩ rfl hl.1 rfl (Nat.le_of_ble_eq_true rfl) dL_servedIn_4 (fun H locs hP hD hS => ?_)
  refine lv_i2l (v := (RR.1).toInt64) (pc := 7) hx hb dL_servedIn_7 rfl ?_
  refine va_last (pc := 8) hx hb hK hP hD hS 53 2 rfl rfl z_in01 dL_servedIn_8 (fun H locs hP hD hS => ?_)
  have hP : va_P X.1 vwCl (z_wBO X a d d2 RR.2 o (vp_updL g 0 (RR.1).toInt64)) H := hP
  have hD : va_D A (z_wBO X a d d2 RR.2 o (vp_updL g 0 (RR.1).toInt64)) := hD
  refine lv_goto (pc := 9) (tgt := 15) hx hb dL_servedIn_9 (by decide) ?_
  refine lv_iconst (v := 0) (pc := 15) hx hb dL_servedIn_15 (by decide) ?_
  exact W.iret (pc := 16) (v := 0) hx hb hr (fun t ht hW => ⟨⟨_, (z_wBO X a d d2 RR.2 o (vp_updL g 0 (RR.1).toInt64)), rfl, ⟨rfl, rfl⟩, by rw [ht]; exact hP, hD⟩, hS.F ht⟩) hS.2.2 dL_servedIn_16
set_option maxHeartbeats 4000000 in
set_option maxRecDepth 100000 in
theorem wt_servedIn_0 (l : Launch) (hl0 : l.stackTraces = false) (X : z_X) (a : Nat) (d d2 : Nat → Nat) (B : z_B) (o : Nat) (g : Nat → Int64) (v1 : Int32) (hf : x_X4_servedIn B v1 = some 0) : z_eI l yL_servedIn wsL_servedIn 8 138 X [.ref a, .int v1, .ref o] (z_wBO X a d d2 B o g) 1 := by
  intro sz
  refine va_MetW (cc := cL_servedIn) (maxL := 4) (ret := (some .int)) (by decide) rfl ?_
  intro p e s m args below meth c s₁ Bd hml hv
  obtain ⟨rfl, ⟨hsz, hP, hK, hN, hD0⟩, hT⟩ := hv
  have hx := Bd.exec
  have hb := Bd.bytes
  have hr := Bd.returns
  have hts := atoms_spec (ws := wsL_servedIn) Bd.pre
  have hown : s.vm.findClass RL = some m.cls := findClass_of_methodNamed Bd.named
  have hlocks := Bd.notSynchronized
  have S : CallFix p m c cL_servedIn 4 s _ wsL_servedIn RL := ⟨hx, hb, hml, hown, hts⟩
  have htab := vx_table (x := yL_servedIn) Bd (hts _ List.mem_cons_self)
  subst hsz
  have hD := hD0.self (sz := s.heap.size)
  generalize hAe : va_A (z_wBO X a d d2 B o g) s.heap.size = A at hD ⊢
  have hA : ∀ q : Nat, s.heap.size ≤ q → A q := fun q h => by rw [← hAe]; exact Or.inr h
  have hS : va_S A s.heap s.heap [] := va_S.rf
  have hl := lv_entry ([.ref a, .int v1, .ref o]) (n := 4) (Nat.le_of_ble_eq_true rfl)
  rw [lg_entry_eq]
  generalize (lg_sl ([.ref a, .int v1, .ref o]) ++ List.replicate (4 - (lg_sl ([.ref a, .int v1, .ref o])).length) Slot.unset).toArray = ls at hl ⊢
  have hl : lv_has ls 4 [(0, .ref a), (1, .int v1), (2, .ref o)] := hl
  refine lv_aload_n (pc := 0) hx hb dL_servedIn_0 rfl (lv_at hl 2 rfl) ?_
  refine lv_iconst (v := 0) (pc := 1) hx hb dL_servedIn_1 (by decide) ?_
  refine lv_aload_n (pc := 2) hx hb dL_servedIn_2 rfl (lv_at hl 0 rfl) ?_
  refine lv_iload_n (pc := 3) hx hb dL_servedIn_3 rfl (lv_at hl 1 rfl) ?_
  refine z_ctV (pc := 4) S (t_X4_servedIn l hl0 X a d d2 B v1 hf) (cwV 1 hts gL_servedIn_X4_servedIn rfl rfl rfl hdX4_servedIn ⟨Nat.le_of_ble_eq_true rfl, Nat.le_of_ble_eq_true rfl⟩) hP hK hN hT (s_BO_B X a d d2 B o g) hS (ci := 4) rfl rfl rfl ⟨Nat.le_of_ble_eq_true rfl, Nat.le_of_ble_eq_true rfl⟩ rfl hl.1 rfl (Nat.le_of_ble_eq_true rfl) dL_servedIn_4 (fun ce q9 H1 locs1 hz1 hk1 hS1 hce hcv hcl => ?_)
  refine vx_catch (pc := 4) hown [] ⟨0, 9, 12, 13⟩ [] (htab.trans rfl) (fun z hz => nomatch hz) rfl (by decide) (hts (.classLink RL 13 "java/lang/IllegalArgumentException") (List.mem_of_getElem? (i := 1) rfl)) (va_Nw.use rfl (hT.1.2.1 0 (by decide))) hce hcv hcl ?_
  have hP : va_P X.1 vwCl (z_wBO X a d d2 B o g) H1 := hP.kept (fun k q hk => hk1 q.1 ((hP k q hk).lt))
  refine lv_astore_n (pc := 12) (lv' := [(3, .ref q9), (0, .ref a), (1, .int v1), (2, .ref o)]) hx hb dL_servedIn_12 rfl hl (by decide) rfl (fun ls hl => ?_)
  refine lv_iconst (v := 1) (pc := 13) hx hb dL_servedIn_13 (by decide) ?_
  exact W.iret (pc := 14) (v := 1) hx hb hr (fun t ht hW => ⟨⟨_, (z_wBO X a d d2 B o g), rfl, ⟨rfl, rfl⟩, by rw [ht]; exact hP, hD⟩, hS1.F ht⟩) hS1.2.2 dL_servedIn_14
set_option maxHeartbeats 4000000 in
set_option maxRecDepth 100000 in
theorem wn_bestToCross (l : Launch) (X : z_X) (a : Nat) (d d2 : Nat → Nat) (B : z_B) (o : Nat) (g : Nat → Int64) (v1 : Int32) {RR : (Int32 × z_B)} (hf : f_X4_bestToCross B v1 = some RR) : z_mI l yL_bestToCross wsL_bestToCross 6 142 X [.ref a, .int v1, .ref o] (z_wBO X a d d2 B o g) 0 (z_wBO X a d d2 RR.2 o (vp_updL g 0 (RR.1).toInt64)) := by
  intro sz
  refine va_MetW (cc := cL_bestToCross) (maxL := 4) (ret := (some .int)) (by decide) rfl ?_
  intro p e s m args below meth c s₁ Bd hml hv
  obtain ⟨rfl, hsz, hP, hK, hN, hD0⟩ := hv
  have hx := Bd.exec
  have hb := Bd.bytes
  have hr := Bd.returns
  have hts := atoms_spec (ws := wsL_bestToCross) Bd.pre
  have hown : s.vm.findClass RL = some m.cls := findClass_of_methodNamed Bd.named
  have hlocks := Bd.notSynchronized
  have S : CallFix p m c cL_bestToCross 4 s _ wsL_bestToCross RL := ⟨hx, hb, hml, hown, hts⟩
  subst hsz
  have hD := hD0.self (sz := s.heap.size)
  generalize hAe : va_A (z_wBO X a d d2 B o g) s.heap.size = A at hD ⊢
  have hA : ∀ q : Nat, s.heap.size ≤ q → A q := fun q h => by rw [← hAe]; exact Or.inr h
  have hS : va_S A s.heap s.heap [] := va_S.rf
  have hl := lv_entry ([.ref a, .int v1, .ref o]) (n := 4) (Nat.le_of_ble_eq_true rfl)
  rw [lg_entry_eq]
  generalize (lg_sl ([.ref a, .int v1, .ref o]) ++ List.replicate (4 - (lg_sl ([.ref a, .int v1, .ref o])).length) Slot.unset).toArray = ls at hl ⊢
  have hl : lv_has ls 4 [(0, .ref a), (1, .int v1), (2, .ref o)] := hl
  refine lv_aload_n (pc := 0) hx hb dL_bestToCross_0 rfl (lv_at hl 2 rfl) ?_
  refine lv_iconst (v := 0) (pc := 1) hx hb dL_bestToCross_1 (by decide) ?_
  refine lv_aload_n (pc := 2) hx hb dL_bestToCross_2 rfl (lv_at hl 0 rfl) ?_
  refine lv_iload_n (pc := 3) hx hb dL_bestToCross_3 rfl (lv_at hl 1 rfl) ?_
  refine z_cmI (pc := 4) (W1 := (z_wBO X a d d2 RR.2 o g)) S (m_X4_bestToCross l X a d d2 B v1 hf) (cwV 1 hts gL_bestToCross_X4_bestToCross rfl rfl rfl hdX4_bestToCross ⟨Nat.le_of_ble_eq_true rfl, Nat.le_of_ble_eq_true rfl⟩) hP hK hN hD hS hA (s_BO_B X a d d2 B o g) (f_BO_B X a d d2 B o g RR.2) (ci := 4) rfl rfl rfl ⟨Nat.le_of_ble_eq_true rfl, Nat.le_of_ble_eq_true rfl⟩ rfl hl.1 rfl (Nat.le_of_ble_eq_true rfl) dL_bestToCross_4 (fun H locs hP hD hS => ?_)
  refine lv_i2l (v := (RR.1).toInt64) (pc := 7) hx hb dL_bestToCross_7 rfl ?_
  refine va_last (pc := 8) hx hb hK hP hD hS 53 2 rfl rfl z_in01 dL_bestToCross_8 (fun H locs hP hD hS => ?_)
  have hP : va_P X.1 vwCl (z_wBO X a d d2 RR.2 o (vp_updL g 0 (RR.1).toInt64)) H := hP
  have hD : va_D A (z_wBO X a d d2 RR.2 o (vp_updL g 0 (RR.1).toInt64)) := hD
  refine lv_goto (pc := 9) (tgt := 15) hx hb dL_bestToCross_9 (by decide) ?_
  refine lv_iconst (v := 0) (pc := 15) hx hb dL_bestToCross_15 (by decide) ?_
  exact W.iret (pc := 16) (v := 0) hx hb hr (fun t ht hW => ⟨⟨_, (z_wBO X a d d2 RR.2 o (vp_updL g 0 (RR.1).toInt64)), rfl, ⟨rfl, rfl⟩, by rw [ht]; exact hP, hD⟩, hS.F ht⟩) hS.2.2 dL_bestToCross_16
set_option maxHeartbeats 4000000 in
set_option maxRecDepth 100000 in
theorem wt_bestToCross_2 (l : Launch) (hl0 : l.stackTraces = false) (X : z_X) (a : Nat) (d d2 : Nat → Nat) (B : z_B) (o : Nat) (g : Nat → Int64) (v1 : Int32) (hf : x_X4_bestToCross B v1 = some 2) : z_eI l yL_bestToCross wsL_bestToCross 8 142 X [.ref a, .int v1, .ref o] (z_wBO X a d d2 B o g) 1 := by
  intro sz
  refine va_MetW (cc := cL_bestToCross) (maxL := 4) (ret := (some .int)) (by decide) rfl ?_
  intro p e s m args below meth c s₁ Bd hml hv
  obtain ⟨rfl, ⟨hsz, hP, hK, hN, hD0⟩, hT⟩ := hv
  have hx := Bd.exec
  have hb := Bd.bytes
  have hr := Bd.returns
  have hts := atoms_spec (ws := wsL_bestToCross) Bd.pre
  have hown : s.vm.findClass RL = some m.cls := findClass_of_methodNamed Bd.named
  have hlocks := Bd.notSynchronized
  have S : CallFix p m c cL_bestToCross 4 s _ wsL_bestToCross RL := ⟨hx, hb, hml, hown, hts⟩
  have htab := vx_table (x := yL_bestToCross) Bd (hts _ List.mem_cons_self)
  subst hsz
  have hD := hD0.self (sz := s.heap.size)
  generalize hAe : va_A (z_wBO X a d d2 B o g) s.heap.size = A at hD ⊢
  have hA : ∀ q : Nat, s.heap.size ≤ q → A q := fun q h => by rw [← hAe]; exact Or.inr h
  have hS : va_S A s.heap s.heap [] := va_S.rf
  have hl := lv_entry ([.ref a, .int v1, .ref o]) (n := 4) (Nat.le_of_ble_eq_true rfl)
  rw [lg_entry_eq]
  generalize (lg_sl ([.ref a, .int v1, .ref o]) ++ List.replicate (4 - (lg_sl ([.ref a, .int v1, .ref o])).length) Slot.unset).toArray = ls at hl ⊢
  have hl : lv_has ls 4 [(0, .ref a), (1, .int v1), (2, .ref o)] := hl
  refine lv_aload_n (pc := 0) hx hb dL_bestToCross_0 rfl (lv_at hl 2 rfl) ?_
  refine lv_iconst (v := 0) (pc := 1) hx hb dL_bestToCross_1 (by decide) ?_
  refine lv_aload_n (pc := 2) hx hb dL_bestToCross_2 rfl (lv_at hl 0 rfl) ?_
  refine lv_iload_n (pc := 3) hx hb dL_bestToCross_3 rfl (lv_at hl 1 rfl) ?_
  refine z_ctV (pc := 4) S (t_X4_bestToCross l hl0 X a d d2 B v1 hf) (cwV 1 hts gL_bestToCross_X4_bestToCross rfl rfl rfl hdX4_bestToCross ⟨Nat.le_of_ble_eq_true rfl, Nat.le_of_ble_eq_true rfl⟩) hP hK hN hT (s_BO_B X a d d2 B o g) hS (ci := 4) rfl rfl rfl ⟨Nat.le_of_ble_eq_true rfl, Nat.le_of_ble_eq_true rfl⟩ rfl hl.1 rfl (Nat.le_of_ble_eq_true rfl) dL_bestToCross_4 (fun ce q9 H1 locs1 hz1 hk1 hS1 hce hcv hcl => ?_)
  refine vx_catch (pc := 4) hown [] ⟨0, 9, 12, 25⟩ [] (htab.trans rfl) (fun z hz => nomatch hz) rfl (by decide) (hts (.classLink RL 25 "java/lang/IndexOutOfBoundsException") (List.mem_of_getElem? (i := 1) rfl)) (va_Nw.use rfl (hT.1.2.1 2 (by decide))) hce hcv hcl ?_
  have hP : va_P X.1 vwCl (z_wBO X a d d2 B o g) H1 := hP.kept (fun k q hk => hk1 q.1 ((hP k q hk).lt))
  refine lv_astore_n (pc := 12) (lv' := [(3, .ref q9), (0, .ref a), (1, .int v1), (2, .ref o)]) hx hb dL_bestToCross_12 rfl hl (by decide) rfl (fun ls hl => ?_)
  refine lv_iconst (v := 1) (pc := 13) hx hb dL_bestToCross_13 (by decide) ?_
  exact W.iret (pc := 14) (v := 1) hx hb hr (fun t ht hW => ⟨⟨_, (z_wBO X a d d2 B o g), rfl, ⟨rfl, rfl⟩, by rw [ht]; exact hP, hD⟩, hS1.F ht⟩) hS1.2.2 dL_bestToCross_14
