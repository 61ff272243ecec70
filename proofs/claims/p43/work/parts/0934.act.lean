theorem hdL_below : yL_below.cls ≠ "java/lang/invoke/MethodHandle" ∧ yL_below.cls ≠ "java/lang/invoke/VarHandle" ∧ (parseMethodDescriptor yL_below.desc).map (fun d => d.parameters.length) = some 2 := by decide +kernel
theorem hdL_act : yL_act.cls ≠ "java/lang/invoke/MethodHandle" ∧ yL_act.cls ≠ "java/lang/invoke/VarHandle" ∧ (parseMethodDescriptor yL_act.desc).map (fun d => d.parameters.length) = some 3 := by decide +kernel
theorem z_le12 {n : Nat} {x : Unit} (h : (if 12 < n then none else some ()) = some x) : n ≤ 12 := by
  by_cases c : 12 < n
  · rw [if_pos c] at h; cases h
  · omega
def f_L_below (v0 v1 : Int32) : Option Int32 := (z_rm (v0 &&& 2147483647) v1).bind (fun x5 => some x5)
set_option maxHeartbeats 4000000 in
theorem m_L_below (l : Launch) (X : z_X) (v0 v1 : Int32) {RR : Int32} (hf : f_L_below v0 v1 = some RR) : z_pI l yL_below wsL_below 0 0 X [.int v0, .int v1] [] RR := by
  refine Met.ofW (cc := cL_below) (maxL := 2) (ret := (some .int)) (by decide) rfl ?_
  intro p e s m args below meth c s₁ Bd hml hv
  obtain ⟨rfl, hP, hK, hN⟩ := hv
  have hx := Bd.exec
  have hb := Bd.bytes
  have hr := Bd.returns
  have hts := atoms_spec (ws := wsL_below) Bd.pre
  have hown : s.vm.findClass RL = some m.cls := findClass_of_methodNamed Bd.named
  have hlocks := Bd.notSynchronized
  have hl := lv_entry ([.int v0, .int v1]) (n := 2) (Nat.le_of_ble_eq_true rfl)
  rw [lg_entry_eq]
  generalize (lg_sl ([.int v0, .int v1]) ++ List.replicate (2 - (lg_sl ([.int v0, .int v1])).length) Slot.unset).toArray = ls at hl ⊢
  have hl : lv_has ls 2 [(0, .int v0), (1, .int v1)] := hl
  unfold f_L_below at hf
  refine lv_iload_n (pc := 0) hx hb dL_below_0 rfl (lv_at hl 0 rfl) ?_
  refine lv_ldc (v := 2147483647) (pc := 1) hx hb hown (hts (.constant RL 7 (2147483647)) (List.mem_of_getElem? (i := 1) rfl)) dL_below_1 ?_
  refine lv_iand (pc := 3) hx hb dL_below_3 ?_
  refine lv_iload_n (pc := 4) hx hb dL_below_4 rfl (lv_at hl 1 rfl) ?_
  obtain ⟨x5, e5, hf⟩ := z_bd hf
  refine z_irem (pc := 5) hx hb e5 dL_below_5 ?_
  exact W.iret (pc := 6) (v := x5) hx hb hr (fun t ht hW => ⟨_, rfl, (Option.some.inj hf), ht⟩) (fun _ h => nomatch h) dL_below_6
def f_L_act (B : z_B) (Q : z_Q) (v2 : Int32) : Option (Int32 × z_B × z_Q) := (f_L_below v2 16).bind (fun x19 => (if (nI Q.2.1.1) = 0 then ((if 12 ≤ (nI Q.2.1.1) then some 0 else some 1)).bind (fun (y36 : Int32) => (f_L_below (v2 >>> (4 &&& 31)) 6).bind (fun x57 => (z_wr (fun _ => 0) 0 6 x57).bind (fun x60 => (f_L_below (v2 >>> (6 &&& 31)) 9).bind (fun x70 => (z_wr x60 1 6 (1 + x70)).bind (fun x74 => (f_L_below (v2 >>> (8 &&& 31)) 9).bind (fun x84 => (z_wr x74 2 6 (1 + x84)).bind (fun x88 => (z_wr x88 3 6 (-1)).bind (fun x92 => (z_wr x92 4 6 (nI Q.2.1.1)).bind (fun x96 => (z_wr x96 5 6 0).bind (fun x100 => (if y36 = 0 then (if x_X4_addRoom B (x100 0) (x100 1) (x100 2) = some 1 then ((if y36 = 0 then some 1 else some 0)).bind (fun (y647 : Int32) => (z_bo y647).bind (fun x655 => some (x655, B, Q))) else (f_X4_addRoom B (x100 0) (x100 1) (x100 2)).bind (fun x134 => ((if x134.1 = (nI Q.2.1.1) then (if y36 = 0 then some 0 else some 1) else some 0)).bind (fun (y138 : Int32) => (z_bo y138).bind (fun x151 => some (x151, x134.2, Q))))) else ((if 12 < Q.2.1.1 then none else some ())).bind (fun x115 => (if x_X4_addRoom B (x100 0) (x100 1) (x100 2) = some 1 then ((if y36 = 0 then some 1 else some 0)).bind (fun (y647 : Int32) => (z_bo y647).bind (fun x655 => some (x655, B, (z_qNR Q x100)))) else (f_X4_addRoom B (x100 0) (x100 1) (x100 2)).bind (fun x134 => ((if x134.1 = (nI Q.2.1.1) then (if y36 = 0 then some 0 else some 1) else some 0)).bind (fun (y138 : Int32) => (z_bo y138).bind (fun x151 => some (x151, x134.2, (z_qNR Q x100)))))))))))))))))) else (if x19 = 0 then ((if 12 ≤ (nI Q.2.1.1) then some 0 else some 1)).bind (fun (y36 : Int32) => (f_L_below (v2 >>> (4 &&& 31)) 6).bind (fun x57 => (z_wr (fun _ => 0) 0 6 x57).bind (fun x60 => (f_L_below (v2 >>> (6 &&& 31)) 9).bind (fun x70 => (z_wr x60 1 6 (1 + x70)).bind (fun x74 => (f_L_below (v2 >>> (8 &&& 31)) 9).bind (fun x84 => (z_wr x74 2 6 (1 + x84)).bind (fun x88 => (z_wr x88 3 6 (-1)).bind (fun x92 => (z_wr x92 4 6 (nI Q.2.1.1)).bind (fun x96 => (z_wr x96 5 6 0).bind (fun x100 => (if y36 = 0 then (if x_X4_addRoom B (x100 0) (x100 1) (x100 2) = some 1 then ((if y36 = 0 then some 1 else some 0)).bind (fun (y647 : Int32) => (z_bo y647).bind (fun x655 => some (x655, B, Q))) else (f_X4_addRoom B (x100 0) (x100 1) (x100 2)).bind (fun x134 => ((if x134.1 = (nI Q.2.1.1) then (if y36 = 0 then some 0 else some 1) else some 0)).bind (fun (y138 : Int32) => (z_bo y138).bind (fun x151 => some (x151, x134.2, Q))))) else ((if 12 < Q.2.1.1 then none else some ())).bind (fun x115 => (if x_X4_addRoom B (x100 0) (x100 1) (x100 2) = some 1 then ((if y36 = 0 then some 1 else some 0)).bind (fun (y647 : Int32) => (z_bo y647).bind (fun x655 => some (x655, B, (z_qNR Q x100)))) else (f_X4_addRoom B (x100 0) (x100 1) (x100 2)).bind (fun x134 => ((if x134.1 = (nI Q.2.1.1) then (if y36 = 0 then some 0 else some 1) else some 0)).bind (fun (y138 : Int32) => (z_bo y138).bind (fun x151 => some (x151, x134.2, (z_qNR Q x100)))))))))))))))))) else (f_L_below (v2 >>> (4 &&& 31)) (nI Q.2.1.1)).bind (fun x156 => (if x19 = 1 then ((if 6 ≤ (nI Q.2.2.1.1) then some 0 else some 1)).bind (fun (y224 : Int32) => (f_L_below (v2 >>> (5 &&& 31)) 4).bind (fun x239 => (if y224 = 0 then (if x_X4_addServant B (1 + x239) = some 1 then ((if y224 = 0 then some 1 else some 0)).bind (fun (y647 : Int32) => (z_bo y647).bind (fun x655 => some (x655, B, Q))) else (f_X4_addServant B (1 + x239)).bind (fun x288 => ((if x288.1 = (nI Q.2.2.1.1) then (if y224 = 0 then some 0 else some 1) else some 0)).bind (fun (y293 : Int32) => (z_bo y293).bind (fun x306 => some (x306, x288.2, Q))))) else (z_wr (fun _ => 0) 0 5 (1 + x239)).bind (fun x262 => (z_wr x262 1 5 0).bind (fun x266 => (z_wr x266 2 5 (-1)).bind (fun x270 => (z_wr x270 3 5 (-1)).bind (fun x274 => (z_wr x274 4 5 0).bind (fun x278 => ((if 12 < Q.2.2.1.1 then none else some ())).bind (fun x279 => (if x_X4_addServant B (1 + x239) = some 1 then ((if y224 = 0 then some 1 else some 0)).bind (fun (y647 : Int32) => (z_bo y647).bind (fun x655 => some (x655, B, (z_qNV Q x278)))) else (f_X4_addServant B (1 + x239)).bind (fun x288 => ((if x288.1 = (nI Q.2.2.1.1) then (if y224 = 0 then some 0 else some 1) else some 0)).bind (fun (y293 : Int32) => (z_bo y293).bind (fun x306 => some (x306, x288.2, (z_qNV Q x278))))))))))))))) else (if x19 = 2 then (f_X4_ring B x156).bind (fun x310 => (f_X5_ring Q x156).bind (fun x316 => ((if x310.1 = x316.1 then some 1 else some 0)).bind (fun (y319 : Int32) => (z_bo y319).bind (fun x327 => some (x327, x310.2, x316.2))))) else (if x19 = 3 then (f_X4_ring B x156).bind (fun x310 => (f_X5_ring Q x156).bind (fun x316 => ((if x310.1 = x316.1 then some 1 else some 0)).bind (fun (y319 : Int32) => (z_bo y319).bind (fun x327 => some (x327, x310.2, x316.2))))) else (if x19 = 4 then (f_X4_ring B x156).bind (fun x310 => (f_X5_ring Q x156).bind (fun x316 => ((if x310.1 = x316.1 then some 1 else some 0)).bind (fun (y319 : Int32) => (z_bo y319).bind (fun x327 => some (x327, x310.2, x316.2))))) else (if x19 = 5 then (f_X4_ring B x156).bind (fun x310 => (f_X5_ring Q x156).bind (fun x316 => ((if x310.1 = x316.1 then some 1 else some 0)).bind (fun (y319 : Int32) => (z_bo y319).bind (fun x327 => some (x327, x310.2, x316.2))))) else (if x19 = 6 then (f_L_below (v2 >>> (7 &&& 31)) (nI Q.2.1.1)).bind (fun x333 => (if x156 = x333 then some (1, B, Q) else (f_X5_cross Q x156 x333).bind (fun x352 => (f_X4_cross B x156 x333).bind (fun x360 => (z_ai x156 x352.2.1.1).bind (fun x369 => ((if x360.1 = (x352.2.1.2 x369 4) then some 1 else some 0)).bind (fun (y372 : Int32) => (z_bo y372).bind (fun x380 => some (x380, x360.2, x352)))))))) else (if x19 = 7 then (f_L_below (v2 >>> (7 &&& 31)) (nI Q.2.1.1)).bind (fun x333 => (if x156 = x333 then some (1, B, Q) else (f_X5_cross Q x156 x333).bind (fun x352 => (f_X4_cross B x156 x333).bind (fun x360 => (z_ai x156 x352.2.1.1).bind (fun x369 => ((if x360.1 = (x352.2.1.2 x369 4) then some 1 else some 0)).bind (fun (y372 : Int32) => (z_bo y372).bind (fun x380 => some (x380, x360.2, x352)))))))) else (if x19 = 8 then (z_ai x156 Q.2.1.1).bind (fun x387 => ((if (Q.2.1.2 x387 5) = 0 then some 1 else some 0)).bind (fun (y390 : Int32) => (z_wr (Q.2.1.2 x387) 5 6 1).bind (fun x409 => (if x_X4_cut B x156 = some 1 then ((if y390 = 0 then some 1 else some 0)).bind (fun (y647 : Int32) => (z_bo y647).bind (fun x655 => some (x655, B, (z_qR Q x387 x409)))) else (f_X4_cut B x156).bind (fun x413 => (f_X5_cut (z_qR Q x387 x409)).bind (fun x417 => ((if x413.1 = x417 then (if y390 = 0 then some 0 else some 1) else some 0)).bind (fun (y420 : Int32) => (z_bo y420).bind (fun x433 => some (x433, x413.2, (z_qR Q x387 x409)))))))))) else (if x19 = 9 then (z_ai x156 Q.2.1.1).bind (fun x440 => ((if (Q.2.1.2 x440 5) = 1 then some 1 else some 0)).bind (fun (y444 : Int32) => (z_wr (Q.2.1.2 x440) 5 6 0).bind (fun x463 => (if x_X4_mend B x156 = some 1 then ((if y444 = 0 then some 1 else some 0)).bind (fun (y647 : Int32) => (z_bo y647).bind (fun x655 => some (x655, B, (z_qR Q x440 x463)))) else (f_X4_mend B x156).bind (fun x467 => (f_X5_cut (z_qR Q x440 x463)).bind (fun x471 => ((if x467.1 = x471 then (if y444 = 0 then some 0 else some 1) else some 0)).bind (fun (y474 : Int32) => (z_bo y474).bind (fun x487 => some (x487, x467.2, (z_qR Q x440 x463)))))))))) else (if x19 = 10 then (f_L_below (v2 >>> (9 &&& 31)) 2).bind (fun x503 => ((if x503 = 0 then some 501 else some 30)).bind (fun (y506 : Int32) => (f_L_below (v2 >>> (5 &&& 31)) y506).bind (fun x517 => (f_X4_recharge B x517).bind (fun x528 => ((if x528.1 = (Q.1 1) then some 1 else some 0)).bind (fun (y533 : Int32) => (z_bo y533).bind (fun x541 => some (x541, x528.2, (z_qS Q 1 x517)))))))) else (if x19 = 11 then (f_X5_place Q x156).bind (fun x545 => ((if x545 < 0 then some 0 else some 1)).bind (fun (y548 : Int32) => ((if y548 = 0 then some Q else (f_X5_up Q x156).bind (fun x566 => some x566))).bind (fun (y560 : z_Q) => (if x_X4_putUp B x156 = some 1 then ((if y548 = 0 then some 1 else some 0)).bind (fun (y647 : Int32) => (z_bo y647).bind (fun x655 => some (x655, B, y560))) else (f_X4_putUp B x156).bind (fun x572 => ((if x572.1 = (nI y560.2.2.2.1) then (if y548 = 0 then some 0 else some 1) else some 0)).bind (fun (y580 : Int32) => (z_bo y580).bind (fun x593 => some (x593, x572.2, y560)))))))) else (f_L_below (v2 >>> (8 &&& 31)) 8).bind (fun x604 => ((if x604 = 0 then some 60 else some 5)).bind (fun (y607 : Int32) => (f_L_below (v2 >>> (4 &&& 31)) y607).bind (fun x616 => (f_X4_pass B (1 + x616)).bind (fun x625 => (f_X5_pass_ Q (1 + x616)).bind (fun x631 => ((if x625.1 = x631.1 then some 1 else some 0)).bind (fun (y634 : Int32) => (z_bo y634).bind (fun x642 => some (x642, x625.2, x631.2)))))))))))))))))))))))
set_option maxHeartbeats 16000000 in
set_option maxRecDepth 100000 in
theorem m_L_act (l : Launch) (hl0 : l.stackTraces = false) (X : z_X) (b : Nat) (d d2 : Nat → Nat) (B : z_B) (a : Nat) (D : z_D) (Q : z_Q) (v2 : Int32) {RR : (Int32 × z_B × z_Q)} (hf : f_L_act B Q v2 = some RR) : z_aI l yL_act wsL_act 8 160 1792 23296 X [.ref b, .ref a, .int v2] (z_W (z_wB X b d d2 B) X a D Q []) (fun (z : Int32) (u : va_W) => z = RR.1 ∧ ∃ D1 : z_D, u = z_W (z_wB X b d d2 RR.2.1) X a D1 RR.2.2 []) := by
  intro sz
  refine va_MetW (cc := cL_act) (maxL := 9) (ret := (some .boolean)) (by decide) rfl ?_
  intro p e s m args below meth c s₁ Bd hml hv
  obtain ⟨rfl, ⟨⟨hsz, hP, hK, hN, hD0⟩, hA2⟩, hT⟩ := hv
  have hx := Bd.exec
  have hb := Bd.bytes
  have hr := Bd.returns
  have hts := atoms_spec (ws := wsL_act) Bd.pre
  have hown : s.vm.findClass RL = some m.cls := findClass_of_methodNamed Bd.named
  have hlocks := Bd.notSynchronized
  have S : CallFix p m c cL_act 9 s _ wsL_act RL := ⟨hx, hb, hml, hown, hts⟩
  have htab := vx_table (x := yL_act) Bd (hts _ List.mem_cons_self)
  have lk_fi9 := hts (.fieldLink RL 9 "HouseBellsLaw$Sim" "rooms" "[[I") (List.mem_of_getElem? (i := 2) rfl)
  have lk_fi15 := hts (.fieldLink RL 15 "HouseBellsLaw$Sim" "servants" "[[I") (List.mem_of_getElem? (i := 3) rfl)
  have lk_cl83 := hts (.classLink RL 83 "java/lang/IllegalStateException") (List.mem_of_getElem? (i := 1) rfl)
  have lk_fi58 := hts (.fieldLink RL 58 "HouseBellsLaw$Sim" "charge" "I") (List.mem_of_getElem? (i := 5) rfl)
  have lk_fi75 := hts (.fieldLink RL 75 "HouseBellsLaw$Sim" "line" "[I") (List.mem_of_getElem? (i := 6) rfl)
  have in_X5 : ∀ w ∈ wsX50, w ∈ wsL_act := fun _ h => (List.mem_cons_of_mem _ (List.mem_append_left _ (List.mem_append_left _ (List.mem_append_left _ (List.mem_append_left _ (List.mem_append_left _ (List.mem_append_left _ (List.mem_append_left _ (List.mem_append_left _ (List.mem_append_right _ h))))))))))
  subst hsz
  have hD := hD0.self (sz := s.heap.size)
  generalize hAe : va_A (z_W (z_wB X b d d2 B) X a D Q []) s.heap.size = A at hT hD ⊢
  have hA : ∀ q : Nat, s.heap.size ≤ q → A q := fun q h => by rw [← hAe]; exact Or.inr h
  have hS : va_S A s.heap s.heap [] := va_S.rf
  have hl := lv_entry ([.ref b, .ref a, .int v2]) (n := 9) (Nat.le_of_ble_eq_true rfl)
  rw [lg_entry_eq]
  generalize (lg_sl ([.ref b, .ref a, .int v2]) ++ List.replicate (9 - (lg_sl ([.ref b, .ref a, .int v2])).length) Slot.unset).toArray = ls at hl ⊢
  have hl : lv_has ls 9 [(0, .ref b), (1, .ref a), (2, .int v2)] := hl
  suffices hgo : ∀ (H : Heap) (locs : List Loc), va_P X.1 vwCl (z_W (z_wB X b d d2 B) X a D Q []) H → va_D A (z_W (z_wB X b d d2 B) X a D Q []) → va_S A s.heap H locs → W p l e (headSpec wsL_act (z_R2 8 160 1792 23296)).room s m ([.ref b, .ref a, .int v2] : List Value).toArray below meth c H locs 0 0 (MQ below (va_Qi (fun (z : Int32) (u : va_W) => z = RR.1 ∧ ∃ D1 : z_D, u = z_W (z_wB X b d d2 RR.2.1) X a D1 RR.2.2 []) (z_Bm X A) A) ([.ref b, .ref a, .int v2] : List Value).toArray s 1792 23296 A) (F0 m 0 ls []) from hgo _ _ hP hD hS
  clear hP hD hS
  intro H locs hP hD hS
  unfold f_L_act at hf
  refine lv_aload_n (pc := 0) hx hb dL_act_0 rfl (lv_at hl 1 rfl) ?_
  refine va_get (pc := 1) (ci := 5) (C := RX5) (T := TX5) (N := 9) (v := .ref D.1.1) hx hb hts in_X5 hown hK hP _ zg_0 rfl 0 (by decide) lk_fi9 (fun _ h9 => h9) rfl dL_act_1 ?_
  refine va_alen (v := (nI Q.2.1.1)) (pc := 4) hx hb hK hP _ 2 zg_1 rfl rfl dL_act_4 ?_
  refine lv_istore_n (pc := 5) (lv' := [(3, .int (nI Q.2.1.1)), (0, .ref b), (1, .ref a), (2, .int v2)]) hx hb dL_act_5 rfl hl (by decide) rfl (fun ls hl => ?_)
  refine lv_aload_n (pc := 6) hx hb dL_act_6 rfl (lv_at hl 2 rfl) ?_
  refine va_get (pc := 7) (ci := 5) (C := RX5) (T := TX5) (N := 9) (v := .ref D.1.2.1) hx hb hts in_X5 hown hK hP _ zg_0 rfl 1 (by decide) lk_fi15 (fun _ h9 => h9) rfl dL_act_7 ?_
  refine va_alen (v := (nI Q.2.2.1.1)) (pc := 10) hx hb hK hP _ 2 zg_2 rfl rfl dL_act_10 ?_
  refine lv_istore (pc := 11) (lv' := [(4, .int (nI Q.2.2.1.1)), (3, .int (nI Q.2.1.1)), (0, .ref b), (1, .ref a), (2, .int v2)]) hx hb dL_act_11 hl (by decide) rfl (fun ls hl => ?_)
  refine lv_iconst (v := 1) (pc := 13) hx hb dL_act_13 (by decide) ?_
  refine lv_istore (pc := 14) (lv' := [(5, .int 1), (4, .int (nI Q.2.2.1.1)), (3, .int (nI Q.2.1.1)), (0, .ref b), (1, .ref a), (2, .int v2)]) hx hb dL_act_14 hl (by decide) rfl (fun ls hl => ?_)
  refine lv_iload_n (pc := 16) hx hb dL_act_16 rfl (lv_at hl 5 rfl) ?_
  refine lv_bipush (v := 16) (pc := 17) hx hb dL_act_17 (by decide) ?_
  obtain ⟨x19, e19, hf⟩ := z_bd hf
  refine z_csI (pc := 19) S (m_L_below l X v2 16 e19) (va_cwS 2 hts gL_act_L_below rfl rfl rfl hdL_below ⟨Nat.le_of_ble_eq_true rfl, Nat.le_of_ble_eq_true rfl⟩) hP hK hN (s_nil _) (show 0 ≤ 1792 ∧ 0 ≤ 23296 from ⟨by omega, by omega⟩) rfl hl.1 rfl (Nat.le_of_ble_eq_true rfl) dL_act_19 ?_
  refine lv_istore (pc := 22) (lv' := [(6, .int x19), (5, .int 1), (4, .int (nI Q.2.2.1.1)), (3, .int (nI Q.2.1.1)), (0, .ref b), (1, .ref a), (2, .int v2)]) hx hb dL_act_22 hl (by decide) rfl (fun ls hl => ?_)
  refine lv_iload_n (pc := 24) hx hb dL_act_24 rfl (lv_at hl 3 rfl) ?_
  refine lv_if_eq (pc := 25) (tgt := 33) hx hb dL_act_25 (by decide) (fun c_25 => ?_) (fun c_25 => ?_)
  · replace hf := z_ip c_25 hf
    refine lv_iload_n (pc := 33) hx hb dL_act_33 rfl (lv_at hl 3 rfl) ?_
    refine lv_bipush (v := 12) (pc := 34) hx hb dL_act_34 (by decide) ?_
    obtain ⟨y36, ey36, hf⟩ := z_bd hf
    suffices jp_36 : ∀ (H : Heap) (locs : List Loc) (_ : va_P X.1 vwCl (z_W (z_wB X b d d2 B) X a D Q []) H) (_ : va_D A (z_W (z_wB X b d d2 B) X a D Q [])) (_ : va_S A s.heap H locs) (ls : Array Slot) (_ : lv_has ls 9 [(0, .ref b), (1, .ref a), (2, .int v2), (3, .int (nI Q.2.1.1))]), W p l e (headSpec wsL_act (z_R2 8 160 1792 23296)).room s m ([.ref b, .ref a, .int v2] : List Value).toArray below meth c H locs 0 0 (MQ below (va_Qi (fun (z : Int32) (u : va_W) => z = RR.1 ∧ ∃ D1 : z_D, u = z_W (z_wB X b d d2 RR.2.1) X a D1 RR.2.2 []) (z_Bm X A) A) ([.ref b, .ref a, .int v2] : List Value).toArray s 1792 23296 A) (F0 m 44 ls [.int y36]) by
      have hf := ey36
      refine lv_icmp_ge (pc := 36) (tgt := 43) hx hb dL_act_36 (by decide) (fun c_36 => ?_) (fun c_36 => ?_)
      · replace hf := z_ip c_36 hf
        refine lv_iconst (v := 0) (pc := 43) hx hb dL_act_43 (by decide) ?_
        obtain rfl := Option.some.inj hf
        exact jp_36 H locs hP hD hS ls (lv_sub hl [4, 5, 6, 3] rfl)
      · replace hf := z_in c_36 hf
        refine lv_iconst (v := 1) (pc := 39) hx hb dL_act_39 (by decide) ?_
        refine lv_goto (pc := 40) (tgt := 44) hx hb dL_act_40 (by decide) ?_
        obtain rfl := Option.some.inj hf
        exact jp_36 H locs hP hD hS ls (lv_sub hl [4, 5, 6, 3] rfl)
    intro H locs hP hD hS ls hl
    refine lv_istore (pc := 44) (lv' := [(5, .int y36), (0, .ref b), (1, .ref a), (2, .int v2), (3, .int (nI Q.2.1.1))]) hx hb dL_act_44 hl (by decide) rfl (fun ls hl => ?_)
    refine lv_bipush (v := 6) (pc := 46) hx hb dL_act_46 (by decide) ?_
    refine z_newV (pc := 48) hx hb (hts (.arrayClass .int) (List.mem_of_getElem? (i := 4) rfl)) hK hP hD hS hA 0 rfl (show z_ln 6 = some 6 from rfl) (show 0 + 1 ≤ 1792 from by omega) (show 0 + 13 ≤ 23296 from by omega) dL_act_48 (fun q48 H hP hD hS => ?_)
    have hP : va_P X.1 vwCl (z_W (z_wB X b d d2 B) X a D Q [(q48, .inl (X.2.1, 6, .inl (fun _ => 0)))]) H := by rw [z_ext] at hP; exact hP
    have hD : va_D A (z_W (z_wB X b d d2 B) X a D Q [(q48, .inl (X.2.1, 6, .inl (fun _ => 0)))]) := by rw [z_ext] at hD; exact hD
    refine lv_dup (pc := 50) hx hb dL_act_50 rfl ?_
    refine lv_iconst (v := 0) (pc := 51) hx hb dL_act_51 (by decide) ?_
    refine lv_iload_n (pc := 52) hx hb dL_act_52 rfl (lv_at hl 3 rfl) ?_
    refine lv_iconst (v := 4) (pc := 53) hx hb dL_act_53 (by decide) ?_
    refine lv_ishr (pc := 54) hx hb dL_act_54 ?_
    refine lv_bipush (v := 6) (pc := 55) hx hb dL_act_55 (by decide) ?_
    obtain ⟨x57, e57, hf⟩ := z_bd hf
    refine z_csI (pc := 57) S (m_L_below l X (v2 >>> (4 &&& 31)) 6 e57) (va_cwS 2 hts gL_act_L_below rfl rfl rfl hdL_below ⟨Nat.le_of_ble_eq_true rfl, Nat.le_of_ble_eq_true rfl⟩) hP hK hN (s_nil _) (show (0 + 1) ≤ 1792 ∧ (0 + 13) ≤ 23296 from ⟨by omega, by omega⟩) rfl hl.1 rfl (Nat.le_of_ble_eq_true rfl) dL_act_57 ?_
    obtain ⟨x60, e60, hf⟩ := z_bd hf
    refine z_iast (pc := 60) (W1 := (z_W (z_wB X b d d2 B) X a D Q [(q48, .inl (X.2.1, 6, .inl x60))])) hx hb hK hP hD hS _ 0 ((zg_e 0).trans rfl) rfl e60 (zs_e (i := 0)) dL_act_60 (fun H locs hP hD hS => ?_)
    refine lv_dup (pc := 61) hx hb dL_act_61 rfl ?_
    refine lv_iconst (v := 1) (pc := 62) hx hb dL_act_62 (by decide) ?_
    refine lv_iconst (v := 1) (pc := 63) hx hb dL_act_63 (by decide) ?_
    refine lv_iload_n (pc := 64) hx hb dL_act_64 rfl (lv_at hl 3 rfl) ?_
    refine lv_bipush (v := 6) (pc := 65) hx hb dL_act_65 (by decide) ?_
    refine lv_ishr (pc := 67) hx hb dL_act_67 ?_
    refine lv_bipush (v := 9) (pc := 68) hx hb dL_act_68 (by decide) ?_
    obtain ⟨x70, e70, hf⟩ := z_bd hf
    refine z_csI (pc := 70) S (m_L_below l X (v2 >>> (6 &&& 31)) 9 e70) (va_cwS 2 hts gL_act_L_below rfl rfl rfl hdL_below ⟨Nat.le_of_ble_eq_true rfl, Nat.le_of_ble_eq_true rfl⟩) hP hK hN (s_nil _) (show (0 + 1) ≤ 1792 ∧ (0 + 13) ≤ 23296 from ⟨by omega, by omega⟩) rfl hl.1 rfl (Nat.le_of_ble_eq_true rfl) dL_act_70 ?_
    refine lv_iadd (pc := 73) hx hb dL_act_73 ?_
    obtain ⟨x74, e74, hf⟩ := z_bd hf
    refine z_iast (pc := 74) (W1 := (z_W (z_wB X b d d2 B) X a D Q [(q48, .inl (X.2.1, 6, .inl x74))])) hx hb hK hP hD hS _ 0 ((zg_e 0).trans rfl) rfl e74 (zs_e (i := 0)) dL_act_74 (fun H locs hP hD hS => ?_)
    refine lv_dup (pc := 75) hx hb dL_act_75 rfl ?_
    refine lv_iconst (v := 2) (pc := 76) hx hb dL_act_76 (by decide) ?_
    refine lv_iconst (v := 1) (pc := 77) hx hb dL_act_77 (by decide) ?_
    refine lv_iload_n (pc := 78) hx hb dL_act_78 rfl (lv_at hl 3 rfl) ?_
    refine lv_bipush (v := 8) (pc := 79) hx hb dL_act_79 (by decide) ?_
    refine lv_ishr (pc := 81) hx hb dL_act_81 ?_
    refine lv_bipush (v := 9) (pc := 82) hx hb dL_act_82 (by decide) ?_
    obtain ⟨x84, e84, hf⟩ := z_bd hf
    refine z_csI (pc := 84) S (m_L_below l X (v2 >>> (8 &&& 31)) 9 e84) (va_cwS 2 hts gL_act_L_below rfl rfl rfl hdL_below ⟨Nat.le_of_ble_eq_true rfl, Nat.le_of_ble_eq_true rfl⟩) hP hK hN (s_nil _) (show (0 + 1) ≤ 1792 ∧ (0 + 13) ≤ 23296 from ⟨by omega, by omega⟩) rfl hl.1 rfl (Nat.le_of_ble_eq_true rfl) dL_act_84 ?_
    refine lv_iadd (pc := 87) hx hb dL_act_87 ?_
    obtain ⟨x88, e88, hf⟩ := z_bd hf
    refine z_iast (pc := 88) (W1 := (z_W (z_wB X b d d2 B) X a D Q [(q48, .inl (X.2.1, 6, .inl x88))])) hx hb hK hP hD hS _ 0 ((zg_e 0).trans rfl) rfl e88 (zs_e (i := 0)) dL_act_88 (fun H locs hP hD hS => ?_)
    refine lv_dup (pc := 89) hx hb dL_act_89 rfl ?_
    refine lv_iconst (v := 3) (pc := 90) hx hb dL_act_90 (by decide) ?_
    refine lv_iconst (v := (-1)) (pc := 91) hx hb dL_act_91 (by decide) ?_
    obtain ⟨x92, e92, hf⟩ := z_bd hf
    refine z_iast (pc := 92) (W1 := (z_W (z_wB X b d d2 B) X a D Q [(q48, .inl (X.2.1, 6, .inl x92))])) hx hb hK hP hD hS _ 0 ((zg_e 0).trans rfl) rfl e92 (zs_e (i := 0)) dL_act_92 (fun H locs hP hD hS => ?_)
    refine lv_dup (pc := 93) hx hb dL_act_93 rfl ?_
    refine lv_iconst (v := 4) (pc := 94) hx hb dL_act_94 (by decide) ?_
    refine lv_iload_n (pc := 95) hx hb dL_act_95 rfl (lv_at hl 4 rfl) ?_
    obtain ⟨x96, e96, hf⟩ := z_bd hf
    refine z_iast (pc := 96) (W1 := (z_W (z_wB X b d d2 B) X a D Q [(q48, .inl (X.2.1, 6, .inl x96))])) hx hb hK hP hD hS _ 0 ((zg_e 0).trans rfl) rfl e96 (zs_e (i := 0)) dL_act_96 (fun H locs hP hD hS => ?_)
    refine lv_dup (pc := 97) hx hb dL_act_97 rfl ?_
    refine lv_iconst (v := 5) (pc := 98) hx hb dL_act_98 (by decide) ?_
    refine lv_iconst (v := 0) (pc := 99) hx hb dL_act_99 (by decide) ?_
    obtain ⟨x100, e100, hf⟩ := z_bd hf
    refine z_iast (pc := 100) (W1 := (z_W (z_wB X b d d2 B) X a D Q [(q48, .inl (X.2.1, 6, .inl x100))])) hx hb hK hP hD hS _ 0 ((zg_e 0).trans rfl) rfl e100 (zs_e (i := 0)) dL_act_100 (fun H locs hP hD hS => ?_)
    refine lv_astore (pc := 101) (lv' := [(7, .ref q48), (5, .int y36), (0, .ref b), (1, .ref a), (2, .int v2), (3, .int (nI Q.2.1.1))]) hx hb dL_act_101 hl (by decide) rfl (fun ls hl => ?_)
    refine lv_iload (pc := 103) hx hb dL_act_103 (lv_at hl 1 rfl) ?_
    refine lv_if_eq (pc := 105) (tgt := 121) hx hb dL_act_105 (by decide) (fun c_105 => ?_) (fun c_105 => ?_)
    · replace hf := z_ip c_105 hf
      refine lv_aload_n (pc := 121) hx hb dL_act_121 rfl (lv_at hl 2 rfl) ?_
      refine lv_aload (pc := 122) hx hb dL_act_122 (lv_at hl 0 rfl) ?_
      refine lv_iconst (v := 0) (pc := 124) hx hb dL_act_124 (by decide) ?_
      refine z_iald (pc := 125) hx hb hK hP _ 0 ((zg_e 0).trans rfl) rfl (show z_at _ 0 _ = some (x100 0) from rfl) dL_act_125 ?_
      refine lv_aload (pc := 126) hx hb dL_act_126 (lv_at hl 0 rfl) ?_
      refine lv_iconst (v := 1) (pc := 128) hx hb dL_act_128 (by decide) ?_
      refine z_iald (pc := 129) hx hb hK hP _ 0 ((zg_e 0).trans rfl) rfl (show z_at _ 1 _ = some (x100 1) from rfl) dL_act_129 ?_
      refine lv_aload (pc := 130) hx hb dL_act_130 (lv_at hl 0 rfl) ?_
      refine lv_iconst (v := 2) (pc := 132) hx hb dL_act_132 (by decide) ?_
      refine z_iald (pc := 133) hx hb hK hP _ 0 ((zg_e 0).trans rfl) rfl (show z_at _ 2 _ = some (x100 2) from rfl) dL_act_133 ?_
      by_cases hx134 : x_X4_addRoom B (x100 0) (x100 1) (x100 2) = some 1
      · replace hf := z_ip hx134 hf
        refine z_ctV (pc := 134) S (t_X4_addRoom l hl0 X b d d2 B (x100 0) (x100 1) (x100 2) hx134) (cwV 3 hts gL_act_X4_addRoom rfl rfl rfl hdX4_addRoom ⟨Nat.le_of_ble_eq_true rfl, Nat.le_of_ble_eq_true rfl⟩) hP hK hN ((hT.kept (fun q h1 h2 => hS.2.1 q h1 h2)).narrow (fun _ h => h.elim)) z_S_L hS (ci := 4) rfl rfl rfl (show (0 + 1) + 1 ≤ 1792 ∧ (0 + 13) + 6 ≤ 23296 from ⟨by omega, by omega⟩) rfl hl.1 rfl (Nat.le_of_ble_eq_true rfl) dL_act_134 (fun ce q9 H locs hz1 hk1 hS hce hcv hcl => ?_)
        refine vx_catch (pc := 134) hown [] ⟨16, 151, 643, 83⟩ [⟨152, 306, 643, 83⟩, ⟨307, 327, 643, 83⟩, ⟨328, 346, 643, 83⟩, ⟨347, 380, 643, 83⟩, ⟨381, 433, 643, 83⟩, ⟨434, 487, 643, 83⟩, ⟨488, 541, 643, 83⟩, ⟨542, 593, 643, 83⟩, ⟨594, 642, 643, 83⟩] (htab.trans rfl) (fun z hz => Or.inl ((by decide : ∀ z ∈ ([] : List ExceptionTableEntry), covers z 134 = false) z hz)) rfl (by decide) lk_cl83 (va_Nw.use rfl (hT.1.2.1 1 (by decide))) hce hcv hcl ?_
        have hP : va_P X.1 vwCl (z_W (z_wB X b d d2 B) X a D Q [(q48, .inl (X.2.1, 6, .inl x100))]) H := hP.kept (fun k q hk => hk1 q.1 ((hP k q hk).lt))
        refine lv_astore (pc := 643) (lv' := [(6, .ref q9), (7, .ref q48), (5, .int y36), (0, .ref b), (1, .ref a), (2, .int v2), (3, .int (nI Q.2.1.1))]) hx hb dL_act_643 hl (by decide) rfl (fun ls hl => ?_)
        refine lv_iload (pc := 645) hx hb dL_act_645 (lv_at hl 2 rfl) ?_
        obtain ⟨y647, ey647, hf⟩ := z_bd hf
        suffices jp_647 : ∀ (H : Heap) (locs : List Loc) (_ : va_P X.1 vwCl (z_W (z_wB X b d d2 B) X a D Q []) H) (_ : va_D A (z_W (z_wB X b d d2 B) X a D Q [])) (_ : va_S A s.heap H locs) (ls : Array Slot) (_ : lv_has ls 9 []), W p l e (headSpec wsL_act (z_R2 8 160 1792 23296)).room s m ([.ref b, .ref a, .int v2] : List Value).toArray below meth c H locs ((0 + 1) + 1) ((0 + 13) + 6) (MQ below (va_Qi (fun (z : Int32) (u : va_W) => z = RR.1 ∧ ∃ D1 : z_D, u = z_W (z_wB X b d d2 RR.2.1) X a D1 RR.2.2 []) (z_Bm X A) A) ([.ref b, .ref a, .int v2] : List Value).toArray s 1792 23296 A) (F0 m 655 ls [.int y647]) by
          have hf := ey647
          refine lv_if_ne (pc := 647) (tgt := 654) hx hb dL_act_647 (by decide) (fun c_647 => ?_) (fun c_647 => ?_)
          · replace hf := z_in c_647 hf
            refine lv_iconst (v := 0) (pc := 654) hx hb dL_act_654 (by decide) ?_
            have hP : va_P X.1 vwCl (z_W (z_wB X b d d2 B) X a D Q []) H := z_dropW hP
            have hD : va_D A (z_W (z_wB X b d d2 B) X a D Q []) := z_dropV hD
            obtain rfl := Option.some.inj hf
            exact jp_647 H locs hP hD hS ls (lv_sub hl [] rfl)
          · replace hf := z_ip c_647 hf
            refine lv_iconst (v := 1) (pc := 650) hx hb dL_act_650 (by decide) ?_
            refine lv_goto (pc := 651) (tgt := 655) hx hb dL_act_651 (by decide) ?_
            have hP : va_P X.1 vwCl (z_W (z_wB X b d d2 B) X a D Q []) H := z_dropW hP
            have hD : va_D A (z_W (z_wB X b d d2 B) X a D Q []) := z_dropV hD
            obtain rfl := Option.some.inj hf
            exact jp_647 H locs hP hD hS ls (lv_sub hl [] rfl)
        intro H locs hP hD hS ls hl
        refine W.widen (k := 1792) (n := 23296) (by omega) (by omega) ?_
        obtain ⟨x655, e655, hf⟩ := z_bd hf
        obtain ⟨e_bo, h_bo⟩ := z_bo_s e655
        exact W.zret (pc := 655) (v := y647) hx hb hr h_bo (fun t ht hW => ⟨⟨_, (z_W (z_wB X b d d2 B) X a D Q []), rfl, ⟨e_bo.trans (z_e1 hf), D, congrArg (fun z : z_B × z_Q => z_W (z_wB X b d d2 z.1) X a D z.2 []) (z_e2 hf)⟩, by rw [ht]; exact z_dropW hP, z_dropV hD⟩, hS.F ht⟩) hS.2.2 dL_act_655
      replace hf := z_in hx134 hf
      obtain ⟨x134, e134, hf⟩ := z_bd hf
      refine z_cbI (pc := 134) (wr := ((z_wS X a D Q) ++ [(q48, .inl (X.2.1, 6, .inl x100))])) S (m_X4_addRoom l X b d d2 B (x100 0) (x100 1) (x100 2) e134) (cwV 3 hts gL_act_X4_addRoom rfl rfl rfl hdX4_addRoom ⟨Nat.le_of_ble_eq_true rfl, Nat.le_of_ble_eq_true rfl⟩) hP hK hN hD hS hA (ci := 4) rfl rfl rfl (show (0 + 1) ≤ 1792 ∧ (0 + 13) ≤ 23296 from ⟨by omega, by omega⟩) rfl hl.1 rfl (Nat.le_of_ble_eq_true rfl) dL_act_134 (fun H locs hP hD hS => ?_)
      have hP : va_P X.1 vwCl (z_W (z_wB X b d d2 x134.2) X a D Q [(q48, .inl (X.2.1, 6, .inl x100))]) H := hP
      have hD : va_D A (z_W (z_wB X b d d2 x134.2) X a D Q [(q48, .inl (X.2.1, 6, .inl x100))]) := hD
      refine lv_iload_n (pc := 137) hx hb dL_act_137 rfl (lv_at hl 5 rfl) ?_
      obtain ⟨y138, ey138, hf⟩ := z_bd hf
      suffices jp_138 : ∀ (H : Heap) (locs : List Loc) (_ : va_P X.1 vwCl (z_W (z_wB X b d d2 x134.2) X a D Q []) H) (_ : va_D A (z_W (z_wB X b d d2 x134.2) X a D Q [])) (_ : va_S A s.heap H locs) (ls : Array Slot) (_ : lv_has ls 9 []), W p l e (headSpec wsL_act (z_R2 8 160 1792 23296)).room s m ([.ref b, .ref a, .int v2] : List Value).toArray below meth c H locs (0 + 1) (0 + 13) (MQ below (va_Qi (fun (z : Int32) (u : va_W) => z = RR.1 ∧ ∃ D1 : z_D, u = z_W (z_wB X b d d2 RR.2.1) X a D1 RR.2.2 []) (z_Bm X A) A) ([.ref b, .ref a, .int v2] : List Value).toArray s 1792 23296 A) (F0 m 151 ls [.int y138]) by
        have hf := ey138
        refine lv_icmp_ne (pc := 138) (tgt := 150) hx hb dL_act_138 (by decide) (fun c_138 => ?_) (fun c_138 => ?_)
        · replace hf := z_in c_138 hf
          refine lv_iconst (v := 0) (pc := 150) hx hb dL_act_150 (by decide) ?_
          have hP : va_P X.1 vwCl (z_W (z_wB X b d d2 x134.2) X a D Q []) H := z_dropW hP
          have hD : va_D A (z_W (z_wB X b d d2 x134.2) X a D Q []) := z_dropV hD
          obtain rfl := Option.some.inj hf
          exact jp_138 H locs hP hD hS ls (lv_sub hl [] rfl)
        · replace hf := z_ip c_138 hf
          refine lv_iload (pc := 141) hx hb dL_act_141 (lv_at hl 1 rfl) ?_
          refine lv_if_eq (pc := 143) (tgt := 150) hx hb dL_act_143 (by decide) (fun c_143 => ?_) (fun c_143 => ?_)
          · replace hf := z_ip c_143 hf
            refine lv_iconst (v := 0) (pc := 150) hx hb dL_act_150 (by decide) ?_
            have hP : va_P X.1 vwCl (z_W (z_wB X b d d2 x134.2) X a D Q []) H := z_dropW hP
            have hD : va_D A (z_W (z_wB X b d d2 x134.2) X a D Q []) := z_dropV hD
            obtain rfl := Option.some.inj hf
            exact jp_138 H locs hP hD hS ls (lv_sub hl [] rfl)
          · replace hf := z_in c_143 hf
            refine lv_iconst (v := 1) (pc := 146) hx hb dL_act_146 (by decide) ?_
            refine lv_goto (pc := 147) (tgt := 151) hx hb dL_act_147 (by decide) ?_
            have hP : va_P X.1 vwCl (z_W (z_wB X b d d2 x134.2) X a D Q []) H := z_dropW hP
            have hD : va_D A (z_W (z_wB X b d d2 x134.2) X a D Q []) := z_dropV hD
            obtain rfl := Option.some.inj hf
            exact jp_138 H locs hP hD hS ls (lv_sub hl [] rfl)
      intro H locs hP hD hS ls hl
      refine W.widen (k := 1792) (n := 23296) (by omega) (by omega) ?_
      obtain ⟨x151, e151, hf⟩ := z_bd hf
      obtain ⟨e_bo, h_bo⟩ := z_bo_s e151
      exact W.zret (pc := 151) (v := y138) hx hb hr h_bo (fun t ht hW => ⟨⟨_, (z_W (z_wB X b d d2 x134.2) X a D Q []), rfl, ⟨e_bo.trans (z_e1 hf), D, congrArg (fun z : z_B × z_Q => z_W (z_wB X b d d2 z.1) X a D z.2 []) (z_e2 hf)⟩, by rw [ht]; exact z_dropW hP, z_dropV hD⟩, hS.F ht⟩) hS.2.2 dL_act_151
    · replace hf := z_in c_105 hf
      refine lv_aload_n (pc := 108) hx hb dL_act_108 rfl (lv_at hl 3 rfl) ?_
      refine lv_aload_n (pc := 109) hx hb dL_act_109 rfl (lv_at hl 3 rfl) ?_
      refine va_get (pc := 110) (ci := 5) (C := RX5) (T := TX5) (N := 9) (v := .ref D.1.1) hx hb hts in_X5 hown hK hP _ zg_0 rfl 0 (by decide) lk_fi9 (fun _ h9 => h9) rfl dL_act_110 ?_
      refine lv_aload (pc := 113) hx hb dL_act_113 (lv_at hl 0 rfl) ?_
      obtain ⟨x115, e115, hf⟩ := z_bd hf
      have hle115 : Q.2.1.1 ≤ 12 := z_le12 e115
      refine z_ckRS (pc := 115) (wl := []) (wc := (z_W (z_wB X b d d2 B) X a D Q [(q48, .inl (X.2.1, 6, .inl x100))])) (wr := []) S (m_X5_with l X (z_W (z_wB X b d d2 B) X a D Q [(q48, .inl (X.2.1, 6, .inl x100))]) D.1.1 q48 Q.2.1.1 6 (D.2.1) x100 _ _ zg_1 ((zg_e 0).trans rfl) (fun i hi => ⟨_, _, _, zg_r hi⟩) hle115) (va_cwS 2 hts gL_act_X5_with rfl rfl rfl hdX5_with ⟨Nat.le_of_ble_eq_true rfl, Nat.le_of_ble_eq_true rfl⟩) (by rw [List.append_nil]; exact hP) hK hN hA2 (by rw [List.append_nil]; exact hD) hS hA (show (0 + 1) + 1 ≤ 1792 ∧ (0 + 13) + 13 ≤ 23296 from ⟨by omega, by omega⟩) rfl hl.1 rfl (Nat.le_of_ble_eq_true rfl) dL_act_115 (fun u qw115 H locs hu hP hD hS => ?_)
      subst hu
      have hP : va_P X.1 vwCl ((z_W (z_wB X b d d2 B) X a D Q [(q48, .inl (X.2.1, 6, .inl x100))]) ++ ([(qw115, .inl (X.2.2.2, z_ra (Q.2.1.1 + 1) (z_pa (z_up (D.2.1) Q.2.1.1 q48))))] : va_W)) H := by rw [List.append_nil] at hP; exact hP
      have hD : va_D A ((z_W (z_wB X b d d2 B) X a D Q [(q48, .inl (X.2.1, 6, .inl x100))]) ++ ([(qw115, .inl (X.2.2.2, z_ra (Q.2.1.1 + 1) (z_pa (z_up (D.2.1) Q.2.1.1 q48))))] : va_W)) := by rw [List.append_nil] at hD; exact hD
      refine va_put (pc := 118) (ci := 5) (C := RX5) (T := TX5) (N := 9) (v := .ref qw115) (ty := tyX5 0) hx hb hts in_X5 tyX5 tyX5_ok nmX5 hown hK hP hD hS _ (z_app_l zg_0) rfl 0 (by decide) lk_fi9 (fun _ h9 => h9) rfl (by decide +kernel) rfl rfl (Nat.le_of_ble_eq_true rfl) dL_act_118 (fun H locs hP hD hS => ?_)
      have hP : va_P X.1 vwCl (z_W (z_wB X b d d2 B) X a (z_oR D Q.2.1.1 qw115 q48) (z_qNR Q x100) []) H := zs_NRP hP
      have hD : va_D A (z_W (z_wB X b d d2 B) X a (z_oR D Q.2.1.1 qw115 q48) (z_qNR Q x100) []) := zs_NRD hD
      refine lv_aload_n (pc := 121) hx hb dL_act_121 rfl (lv_at hl 2 rfl) ?_
      refine lv_aload (pc := 122) hx hb dL_act_122 (lv_at hl 0 rfl) ?_
      refine lv_iconst (v := 0) (pc := 124) hx hb dL_act_124 (by decide) ?_
      refine z_iald (pc := 125) hx hb hK hP _ 0 zg_nR rfl (show z_at _ 0 _ = some (x100 0) from rfl) dL_act_125 ?_
      refine lv_aload (pc := 126) hx hb dL_act_126 (lv_at hl 0 rfl) ?_
      refine lv_iconst (v := 1) (pc := 128) hx hb dL_act_128 (by decide) ?_
      refine z_iald (pc := 129) hx hb hK hP _ 0 zg_nR rfl (show z_at _ 1 _ = some (x100 1) from rfl) dL_act_129 ?_
      refine lv_aload (pc := 130) hx hb dL_act_130 (lv_at hl 0 rfl) ?_
      refine lv_iconst (v := 2) (pc := 132) hx hb dL_act_132 (by decide) ?_
      refine z_iald (pc := 133) hx hb hK hP _ 0 zg_nR rfl (show z_at _ 2 _ = some (x100 2) from rfl) dL_act_133 ?_
      by_cases hx134 : x_X4_addRoom B (x100 0) (x100 1) (x100 2) = some 1
      · replace hf := z_ip hx134 hf
        refine z_ctV (pc := 134) S (t_X4_addRoom l hl0 X b d d2 B (x100 0) (x100 1) (x100 2) hx134) (cwV 3 hts gL_act_X4_addRoom rfl rfl rfl hdX4_addRoom ⟨Nat.le_of_ble_eq_true rfl, Nat.le_of_ble_eq_true rfl⟩) hP hK hN ((hT.kept (fun q h1 h2 => hS.2.1 q h1 h2)).narrow (fun _ h => h.elim)) z_S_L hS (ci := 4) rfl rfl rfl (show ((0 + 1) + 1) + 1 ≤ 1792 ∧ ((0 + 13) + 13) + 6 ≤ 23296 from ⟨by omega, by omega⟩) rfl hl.1 rfl (Nat.le_of_ble_eq_true rfl) dL_act_134 (fun ce q9 H locs hz1 hk1 hS hce hcv hcl => ?_)
        refine vx_catch (pc := 134) hown [] ⟨16, 151, 643, 83⟩ [⟨152, 306, 643, 83⟩, ⟨307, 327, 643, 83⟩, ⟨328, 346, 643, 83⟩, ⟨347, 380, 643, 83⟩, ⟨381, 433, 643, 83⟩, ⟨434, 487, 643, 83⟩, ⟨488, 541, 643, 83⟩, ⟨542, 593, 643, 83⟩, ⟨594, 642, 643, 83⟩] (htab.trans rfl) (fun z hz => Or.inl ((by decide : ∀ z ∈ ([] : List ExceptionTableEntry), covers z 134 = false) z hz)) rfl (by decide) lk_cl83 (va_Nw.use rfl (hT.1.2.1 1 (by decide))) hce hcv hcl ?_
        have hP : va_P X.1 vwCl (z_W (z_wB X b d d2 B) X a (z_oR D Q.2.1.1 qw115 q48) (z_qNR Q x100) []) H := hP.kept (fun k q hk => hk1 q.1 ((hP k q hk).lt))
        refine lv_astore (pc := 643) (lv' := [(6, .ref q9), (7, .ref q48), (5, .int y36), (0, .ref b), (1, .ref a), (2, .int v2), (3, .int (nI Q.2.1.1))]) hx hb dL_act_643 hl (by decide) rfl (fun ls hl => ?_)
        refine lv_iload (pc := 645) hx hb dL_act_645 (lv_at hl 2 rfl) ?_
        obtain ⟨y647, ey647, hf⟩ := z_bd hf
        suffices jp_647 : ∀ (H : Heap) (locs : List Loc) (_ : va_P X.1 vwCl (z_W (z_wB X b d d2 B) X a (z_oR D Q.2.1.1 qw115 q48) (z_qNR Q x100) []) H) (_ : va_D A (z_W (z_wB X b d d2 B) X a (z_oR D Q.2.1.1 qw115 q48) (z_qNR Q x100) [])) (_ : va_S A s.heap H locs) (ls : Array Slot) (_ : lv_has ls 9 []), W p l e (headSpec wsL_act (z_R2 8 160 1792 23296)).room s m ([.ref b, .ref a, .int v2] : List Value).toArray below meth c H locs (((0 + 1) + 1) + 1) (((0 + 13) + 13) + 6) (MQ below (va_Qi (fun (z : Int32) (u : va_W) => z = RR.1 ∧ ∃ D1 : z_D, u = z_W (z_wB X b d d2 RR.2.1) X a D1 RR.2.2 []) (z_Bm X A) A) ([.ref b, .ref a, .int v2] : List Value).toArray s 1792 23296 A) (F0 m 655 ls [.int y647]) by
          have hf := ey647
          refine lv_if_ne (pc := 647) (tgt := 654) hx hb dL_act_647 (by decide) (fun c_647 => ?_) (fun c_647 => ?_)
          · replace hf := z_in c_647 hf
            refine lv_iconst (v := 0) (pc := 654) hx hb dL_act_654 (by decide) ?_
            obtain rfl := Option.some.inj hf
            exact jp_647 H locs hP hD hS ls (lv_sub hl [] rfl)
          · replace hf := z_ip c_647 hf
            refine lv_iconst (v := 1) (pc := 650) hx hb dL_act_650 (by decide) ?_
            refine lv_goto (pc := 651) (tgt := 655) hx hb dL_act_651 (by decide) ?_
            obtain rfl := Option.some.inj hf
            exact jp_647 H locs hP hD hS ls (lv_sub hl [] rfl)
        intro H locs hP hD hS ls hl
        refine W.widen (k := 1792) (n := 23296) (by omega) (by omega) ?_
        obtain ⟨x655, e655, hf⟩ := z_bd hf
        obtain ⟨e_bo, h_bo⟩ := z_bo_s e655
        exact W.zret (pc := 655) (v := y647) hx hb hr h_bo (fun t ht hW => ⟨⟨_, (z_W (z_wB X b d d2 B) X a (z_oR D Q.2.1.1 qw115 q48) (z_qNR Q x100) []), rfl, ⟨e_bo.trans (z_e1 hf), (z_oR D Q.2.1.1 qw115 q48), congrArg (fun z : z_B × z_Q => z_W (z_wB X b d d2 z.1) X a (z_oR D Q.2.1.1 qw115 q48) z.2 []) (z_e2 hf)⟩, by rw [ht]; exact z_dropW hP, z_dropV hD⟩, hS.F ht⟩) hS.2.2 dL_act_655
      replace hf := z_in hx134 hf
      obtain ⟨x134, e134, hf⟩ := z_bd hf
      refine z_cbI (pc := 134) (wr := ((z_wS X a (z_oR D Q.2.1.1 qw115 q48) (z_qNR Q x100)) ++ [])) S (m_X4_addRoom l X b d d2 B (x100 0) (x100 1) (x100 2) e134) (cwV 3 hts gL_act_X4_addRoom rfl rfl rfl hdX4_addRoom ⟨Nat.le_of_ble_eq_true rfl, Nat.le_of_ble_eq_true rfl⟩) hP hK hN hD hS hA (ci := 4) rfl rfl rfl (show ((0 + 1) + 1) ≤ 1792 ∧ ((0 + 13) + 13) ≤ 23296 from ⟨by omega, by omega⟩) rfl hl.1 rfl (Nat.le_of_ble_eq_true rfl) dL_act_134 (fun H locs hP hD hS => ?_)
      have hP : va_P X.1 vwCl (z_W (z_wB X b d d2 x134.2) X a (z_oR D Q.2.1.1 qw115 q48) (z_qNR Q x100) []) H := hP
      have hD : va_D A (z_W (z_wB X b d d2 x134.2) X a (z_oR D Q.2.1.1 qw115 q48) (z_qNR Q x100) []) := hD
      refine lv_iload_n (pc := 137) hx hb dL_act_137 rfl (lv_at hl 5 rfl) ?_
      obtain ⟨y138, ey138, hf⟩ := z_bd hf
      suffices jp_138 : ∀ (H : Heap) (locs : List Loc) (_ : va_P X.1 vwCl (z_W (z_wB X b d d2 x134.2) X a (z_oR D Q.2.1.1 qw115 q48) (z_qNR Q x100) []) H) (_ : va_D A (z_W (z_wB X b d d2 x134.2) X a (z_oR D Q.2.1.1 qw115 q48) (z_qNR Q x100) [])) (_ : va_S A s.heap H locs) (ls : Array Slot) (_ : lv_has ls 9 []), W p l e (headSpec wsL_act (z_R2 8 160 1792 23296)).room s m ([.ref b, .ref a, .int v2] : List Value).toArray below meth c H locs ((0 + 1) + 1) ((0 + 13) + 13) (MQ below (va_Qi (fun (z : Int32) (u : va_W) => z = RR.1 ∧ ∃ D1 : z_D, u = z_W (z_wB X b d d2 RR.2.1) X a D1 RR.2.2 []) (z_Bm X A) A) ([.ref b, .ref a, .int v2] : List Value).toArray s 1792 23296 A) (F0 m 151 ls [.int y138]) by
        have hf := ey138
        refine lv_icmp_ne (pc := 138) (tgt := 150) hx hb dL_act_138 (by decide) (fun c_138 => ?_) (fun c_138 => ?_)
        · replace hf := z_in c_138 hf
          refine lv_iconst (v := 0) (pc := 150) hx hb dL_act_150 (by decide) ?_
          obtain rfl := Option.some.inj hf
          exact jp_138 H locs hP hD hS ls (lv_sub hl [] rfl)
        · replace hf := z_ip c_138 hf
          refine lv_iload (pc := 141) hx hb dL_act_141 (lv_at hl 1 rfl) ?_
          refine lv_if_eq (pc := 143) (tgt := 150) hx hb dL_act_143 (by decide) (fun c_143 => ?_) (fun c_143 => ?_)
          · replace hf := z_ip c_143 hf
            refine lv_iconst (v := 0) (pc := 150) hx hb dL_act_150 (by decide) ?_
            obtain rfl := Option.some.inj hf
            exact jp_138 H locs hP hD hS ls (lv_sub hl [] rfl)
          · replace hf := z_in c_143 hf
            refine lv_iconst (v := 1) (pc := 146) hx hb dL_act_146 (by decide) ?_
            refine lv_goto (pc := 147) (tgt := 151) hx hb dL_act_147 (by decide) ?_
            obtain rfl := Option.some.inj hf
            exact jp_138 H locs hP hD hS ls (lv_sub hl [] rfl)
      intro H locs hP hD hS ls hl
      refine W.widen (k := 1792) (n := 23296) (by omega) (by omega) ?_
      obtain ⟨x151, e151, hf⟩ := z_bd hf
      obtain ⟨e_bo, h_bo⟩ := z_bo_s e151
      exact W.zret (pc := 151) (v := y138) hx hb hr h_bo (fun t ht hW => ⟨⟨_, (z_W (z_wB X b d d2 x134.2) X a (z_oR D Q.2.1.1 qw115 q48) (z_qNR Q x100) []), rfl, ⟨e_bo.trans (z_e1 hf), (z_oR D Q.2.1.1 qw115 q48), congrArg (fun z : z_B × z_Q => z_W (z_wB X b d d2 z.1) X a (z_oR D Q.2.1.1 qw115 q48) z.2 []) (z_e2 hf)⟩, by rw [ht]; exact z_dropW hP, z_dropV hD⟩, hS.F ht⟩) hS.2.2 dL_act_151
  · replace hf := z_in c_25 hf
    refine lv_iload (pc := 28) hx hb dL_act_28 (lv_at hl 0 rfl) ?_
    refine lv_if_ne (pc := 30) (tgt := 152) hx hb dL_act_30 (by decide) (fun c_30 => ?_) (fun c_30 => ?_)
    · replace hf := z_in c_30 hf
      refine lv_iload_n (pc := 152) hx hb dL_act_152 rfl (lv_at hl 6 rfl) ?_
      refine lv_iconst (v := 4) (pc := 153) hx hb dL_act_153 (by decide) ?_
      refine lv_ishr (pc := 154) hx hb dL_act_154 ?_
      refine lv_iload_n (pc := 155) hx hb dL_act_155 rfl (lv_at hl 3 rfl) ?_
      obtain ⟨x156, e156, hf⟩ := z_bd hf
      refine z_csI (pc := 156) S (m_L_below l X (v2 >>> (4 &&& 31)) (nI Q.2.1.1) e156) (va_cwS 2 hts gL_act_L_below rfl rfl rfl hdL_below ⟨Nat.le_of_ble_eq_true rfl, Nat.le_of_ble_eq_true rfl⟩) hP hK hN (s_nil _) (show 0 ≤ 1792 ∧ 0 ≤ 23296 from ⟨by omega, by omega⟩) rfl hl.1 rfl (Nat.le_of_ble_eq_true rfl) dL_act_156 ?_
      refine lv_istore (pc := 159) (lv' := [(7, .int x156), (6, .int x19), (5, .int 1), (4, .int (nI Q.2.2.1.1)), (3, .int (nI Q.2.1.1)), (0, .ref b), (1, .ref a), (2, .int v2)]) hx hb dL_act_159 hl (by decide) rfl (fun ls hl => ?_)
      refine lv_iload (pc := 161) hx hb dL_act_161 (lv_at hl 1 rfl) ?_
      by_cases c_163_1 : x19 = 1
      · replace hf := z_ip c_163_1 hf
        rw [c_163_1]
        refine lv_tableIn (pc := 163) (tgt := 220) (off := 57) hx hb dL_act_163 (by decide) (by decide) rfl (by decide) ?_
        refine lv_iload (pc := 220) hx hb dL_act_220 (lv_at hl 3 rfl) ?_
        refine lv_bipush (v := 6) (pc := 222) hx hb dL_act_222 (by decide) ?_
        obtain ⟨y224, ey224, hf⟩ := z_bd hf
        suffices jp_224 : ∀ (H : Heap) (locs : List Loc) (_ : va_P X.1 vwCl (z_W (z_wB X b d d2 B) X a D Q []) H) (_ : va_D A (z_W (z_wB X b d d2 B) X a D Q [])) (_ : va_S A s.heap H locs) (ls : Array Slot) (_ : lv_has ls 9 [(0, .ref b), (1, .ref a), (2, .int v2), (4, .int (nI Q.2.2.1.1))]), W p l e (headSpec wsL_act (z_R2 8 160 1792 23296)).room s m ([.ref b, .ref a, .int v2] : List Value).toArray below meth c H locs 0 0 (MQ below (va_Qi (fun (z : Int32) (u : va_W) => z = RR.1 ∧ ∃ D1 : z_D, u = z_W (z_wB X b d d2 RR.2.1) X a D1 RR.2.2 []) (z_Bm X A) A) ([.ref b, .ref a, .int v2] : List Value).toArray s 1792 23296 A) (F0 m 232 ls [.int y224]) by
          have hf := ey224
          refine lv_icmp_ge (pc := 224) (tgt := 231) hx hb dL_act_224 (by decide) (fun c_224 => ?_) (fun c_224 => ?_)
          · replace hf := z_ip c_224 hf
            refine lv_iconst (v := 0) (pc := 231) hx hb dL_act_231 (by decide) ?_
            obtain rfl := Option.some.inj hf
            exact jp_224 H locs hP hD hS ls (lv_sub hl [5, 6, 7, 3] rfl)
          · replace hf := z_in c_224 hf
            refine lv_iconst (v := 1) (pc := 227) hx hb dL_act_227 (by decide) ?_
            refine lv_goto (pc := 228) (tgt := 232) hx hb dL_act_228 (by decide) ?_
            obtain rfl := Option.some.inj hf
            exact jp_224 H locs hP hD hS ls (lv_sub hl [5, 6, 7, 3] rfl)
        intro H locs hP hD hS ls hl
        refine lv_istore (pc := 232) (lv' := [(5, .int y224), (0, .ref b), (1, .ref a), (2, .int v2), (4, .int (nI Q.2.2.1.1))]) hx hb dL_act_232 hl (by decide) rfl (fun ls hl => ?_)
        refine lv_iconst (v := 1) (pc := 234) hx hb dL_act_234 (by decide) ?_
        refine lv_iload_n (pc := 235) hx hb dL_act_235 rfl (lv_at hl 3 rfl) ?_
        refine lv_iconst (v := 5) (pc := 236) hx hb dL_act_236 (by decide) ?_
        refine lv_ishr (pc := 237) hx hb dL_act_237 ?_
        refine lv_iconst (v := 4) (pc := 238) hx hb dL_act_238 (by decide) ?_
        obtain ⟨x239, e239, hf⟩ := z_bd hf
        refine z_csI (pc := 239) S (m_L_below l X (v2 >>> (5 &&& 31)) 4 e239) (va_cwS 2 hts gL_act_L_below rfl rfl rfl hdL_below ⟨Nat.le_of_ble_eq_true rfl, Nat.le_of_ble_eq_true rfl⟩) hP hK hN (s_nil _) (show 0 ≤ 1792 ∧ 0 ≤ 23296 from ⟨by omega, by omega⟩) rfl hl.1 rfl (Nat.le_of_ble_eq_true rfl) dL_act_239 ?_
        refine lv_iadd (pc := 242) hx hb dL_act_242 ?_
        refine lv_istore (pc := 243) (lv' := [(8, .int (1 + x239)), (5, .int y224), (0, .ref b), (1, .ref a), (2, .int v2), (4, .int (nI Q.2.2.1.1))]) hx hb dL_act_243 hl (by decide) rfl (fun ls hl => ?_)
        refine lv_iload (pc := 245) hx hb dL_act_245 (lv_at hl 1 rfl) ?_
        refine lv_if_eq (pc := 247) (tgt := 285) hx hb dL_act_247 (by decide) (fun c_247 => ?_) (fun c_247 => ?_)
        · replace hf := z_ip c_247 hf
          refine lv_aload_n (pc := 285) hx hb dL_act_285 rfl (lv_at hl 2 rfl) ?_
          refine lv_iload (pc := 286) hx hb dL_act_286 (lv_at hl 0 rfl) ?_
          by_cases hx288 : x_X4_addServant B (1 + x239) = some 1
          · replace hf := z_ip hx288 hf
            refine z_ctV (pc := 288) S (t_X4_addServant l hl0 X b d d2 B (1 + x239) hx288) (cwV 1 hts gL_act_X4_addServant rfl rfl rfl hdX4_addServant ⟨Nat.le_of_ble_eq_true rfl, Nat.le_of_ble_eq_true rfl⟩) hP hK hN ((hT.kept (fun q h1 h2 => hS.2.1 q h1 h2)).narrow (fun _ h => h.elim)) z_S_L hS (ci := 4) rfl rfl rfl (show 0 + 1 ≤ 1792 ∧ 0 + 6 ≤ 23296 from ⟨by omega, by omega⟩) rfl hl.1 rfl (Nat.le_of_ble_eq_true rfl) dL_act_288 (fun ce q9 H locs hz1 hk1 hS hce hcv hcl => ?_)
            refine vx_catch (pc := 288) hown [⟨16, 151, 643, 83⟩] ⟨152, 306, 643, 83⟩ [⟨307, 327, 643, 83⟩, ⟨328, 346, 643, 83⟩, ⟨347, 380, 643, 83⟩, ⟨381, 433, 643, 83⟩, ⟨434, 487, 643, 83⟩, ⟨488, 541, 643, 83⟩, ⟨542, 593, 643, 83⟩, ⟨594, 642, 643, 83⟩] (htab.trans rfl) (fun z hz => Or.inl ((by decide : ∀ z ∈ ([⟨16, 151, 643, 83⟩] : List ExceptionTableEntry), covers z 288 = false) z hz)) rfl (by decide) lk_cl83 (va_Nw.use rfl (hT.1.2.1 1 (by decide))) hce hcv hcl ?_
            have hP : va_P X.1 vwCl (z_W (z_wB X b d d2 B) X a D Q []) H := hP.kept (fun k q hk => hk1 q.1 ((hP k q hk).lt))
            refine lv_astore (pc := 643) (lv' := [(6, .ref q9), (8, .int (1 + x239)), (5, .int y224), (0, .ref b), (1, .ref a), (2, .int v2), (4, .int (nI Q.2.2.1.1))]) hx hb dL_act_643 hl (by decide) rfl (fun ls hl => ?_)
            refine lv_iload (pc := 645) hx hb dL_act_645 (lv_at hl 2 rfl) ?_
            obtain ⟨y647, ey647, hf⟩ := z_bd hf
            suffices jp_647 : ∀ (H : Heap) (locs : List Loc) (_ : va_P X.1 vwCl (z_W (z_wB X b d d2 B) X a D Q []) H) (_ : va_D A (z_W (z_wB X b d d2 B) X a D Q [])) (_ : va_S A s.heap H locs) (ls : Array Slot) (_ : lv_has ls 9 []), W p l e (headSpec wsL_act (z_R2 8 160 1792 23296)).room s m ([.ref b, .ref a, .int v2] : List Value).toArray below meth c H locs (0 + 1) (0 + 6) (MQ below (va_Qi (fun (z : Int32) (u : va_W) => z = RR.1 ∧ ∃ D1 : z_D, u = z_W (z_wB X b d d2 RR.2.1) X a D1 RR.2.2 []) (z_Bm X A) A) ([.ref b, .ref a, .int v2] : List Value).toArray s 1792 23296 A) (F0 m 655 ls [.int y647]) by
              have hf := ey647
              refine lv_if_ne (pc := 647) (tgt := 654) hx hb dL_act_647 (by decide) (fun c_647 => ?_) (fun c_647 => ?_)
              · replace hf := z_in c_647 hf
                refine lv_iconst (v := 0) (pc := 654) hx hb dL_act_654 (by decide) ?_
                obtain rfl := Option.some.inj hf
                exact jp_647 H locs hP hD hS ls (lv_sub hl [] rfl)
              · replace hf := z_ip c_647 hf
                refine lv_iconst (v := 1) (pc := 650) hx hb dL_act_650 (by decide) ?_
                refine lv_goto (pc := 651) (tgt := 655) hx hb dL_act_651 (by decide) ?_
                obtain rfl := Option.some.inj hf
                exact jp_647 H locs hP hD hS ls (lv_sub hl [] rfl)
            intro H locs hP hD hS ls hl
            refine W.widen (k := 1792) (n := 23296) (by omega) (by omega) ?_
            obtain ⟨x655, e655, hf⟩ := z_bd hf
            obtain ⟨e_bo, h_bo⟩ := z_bo_s e655
            exact W.zret (pc := 655) (v := y647) hx hb hr h_bo (fun t ht hW => ⟨⟨_, (z_W (z_wB X b d d2 B) X a D Q []), rfl, ⟨e_bo.trans (z_e1 hf), D, congrArg (fun z : z_B × z_Q => z_W (z_wB X b d d2 z.1) X a D z.2 []) (z_e2 hf)⟩, by rw [ht]; exact z_dropW hP, z_dropV hD⟩, hS.F ht⟩) hS.2.2 dL_act_655
          replace hf := z_in hx288 hf
          obtain ⟨x288, e288, hf⟩ := z_bd hf
          refine z_cbI (pc := 288) (wr := ((z_wS X a D Q) ++ [])) S (m_X4_addServant l X b d d2 B (1 + x239) e288) (cwV 1 hts gL_act_X4_addServant rfl rfl rfl hdX4_addServant ⟨Nat.le_of_ble_eq_true rfl, Nat.le_of_ble_eq_true rfl⟩) hP hK hN hD hS hA (ci := 4) rfl rfl rfl (show 0 ≤ 1792 ∧ 0 ≤ 23296 from ⟨by omega, by omega⟩) rfl hl.1 rfl (Nat.le_of_ble_eq_true rfl) dL_act_288 (fun H locs hP hD hS => ?_)
          have hP : va_P X.1 vwCl (z_W (z_wB X b d d2 x288.2) X a D Q []) H := hP
          have hD : va_D A (z_W (z_wB X b d d2 x288.2) X a D Q []) := hD
          refine lv_iload (pc := 291) hx hb dL_act_291 (lv_at hl 5 rfl) ?_
          obtain ⟨y293, ey293, hf⟩ := z_bd hf
          suffices jp_293 : ∀ (H : Heap) (locs : List Loc) (_ : va_P X.1 vwCl (z_W (z_wB X b d d2 x288.2) X a D Q []) H) (_ : va_D A (z_W (z_wB X b d d2 x288.2) X a D Q [])) (_ : va_S A s.heap H locs) (ls : Array Slot) (_ : lv_has ls 9 []), W p l e (headSpec wsL_act (z_R2 8 160 1792 23296)).room s m ([.ref b, .ref a, .int v2] : List Value).toArray below meth c H locs 0 0 (MQ below (va_Qi (fun (z : Int32) (u : va_W) => z = RR.1 ∧ ∃ D1 : z_D, u = z_W (z_wB X b d d2 RR.2.1) X a D1 RR.2.2 []) (z_Bm X A) A) ([.ref b, .ref a, .int v2] : List Value).toArray s 1792 23296 A) (F0 m 306 ls [.int y293]) by
            have hf := ey293
            refine lv_icmp_ne (pc := 293) (tgt := 305) hx hb dL_act_293 (by decide) (fun c_293 => ?_) (fun c_293 => ?_)
            · replace hf := z_in c_293 hf
              refine lv_iconst (v := 0) (pc := 305) hx hb dL_act_305 (by decide) ?_
              obtain rfl := Option.some.inj hf
              exact jp_293 H locs hP hD hS ls (lv_sub hl [] rfl)
            · replace hf := z_ip c_293 hf
              refine lv_iload (pc := 296) hx hb dL_act_296 (lv_at hl 1 rfl) ?_
              refine lv_if_eq (pc := 298) (tgt := 305) hx hb dL_act_298 (by decide) (fun c_298 => ?_) (fun c_298 => ?_)
              · replace hf := z_ip c_298 hf
                refine lv_iconst (v := 0) (pc := 305) hx hb dL_act_305 (by decide) ?_
                obtain rfl := Option.some.inj hf
                exact jp_293 H locs hP hD hS ls (lv_sub hl [] rfl)
              · replace hf := z_in c_298 hf
                refine lv_iconst (v := 1) (pc := 301) hx hb dL_act_301 (by decide) ?_
                refine lv_goto (pc := 302) (tgt := 306) hx hb dL_act_302 (by decide) ?_
                obtain rfl := Option.some.inj hf
                exact jp_293 H locs hP hD hS ls (lv_sub hl [] rfl)
          intro H locs hP hD hS ls hl
          refine W.widen (k := 1792) (n := 23296) (by omega) (by omega) ?_
          obtain ⟨x306, e306, hf⟩ := z_bd hf
          obtain ⟨e_bo, h_bo⟩ := z_bo_s e306
          exact W.zret (pc := 306) (v := y293) hx hb hr h_bo (fun t ht hW => ⟨⟨_, (z_W (z_wB X b d d2 x288.2) X a D Q []), rfl, ⟨e_bo.trans (z_e1 hf), D, congrArg (fun z : z_B × z_Q => z_W (z_wB X b d d2 z.1) X a D z.2 []) (z_e2 hf)⟩, by rw [ht]; exact z_dropW hP, z_dropV hD⟩, hS.F ht⟩) hS.2.2 dL_act_306
        · replace hf := z_in c_247 hf
          refine lv_aload_n (pc := 250) hx hb dL_act_250 rfl (lv_at hl 3 rfl) ?_
          refine lv_aload_n (pc := 251) hx hb dL_act_251 rfl (lv_at hl 3 rfl) ?_
          refine va_get (pc := 252) (ci := 5) (C := RX5) (T := TX5) (N := 9) (v := .ref D.1.2.1) hx hb hts in_X5 hown hK hP _ zg_0 rfl 1 (by decide) lk_fi15 (fun _ h9 => h9) rfl dL_act_252 ?_
          refine lv_iconst (v := 5) (pc := 255) hx hb dL_act_255 (by decide) ?_
          refine z_newV (pc := 256) hx hb (hts (.arrayClass .int) (List.mem_of_getElem? (i := 4) rfl)) hK hP hD hS hA 0 rfl (show z_ln 5 = some 5 from rfl) (show 0 + 1 ≤ 1792 from by omega) (show 0 + 13 ≤ 23296 from by omega) dL_act_256 (fun q256 H hP hD hS => ?_)
          have hP : va_P X.1 vwCl (z_W (z_wB X b d d2 B) X a D Q [(q256, .inl (X.2.1, 5, .inl (fun _ => 0)))]) H := by rw [z_ext] at hP; exact hP
          have hD : va_D A (z_W (z_wB X b d d2 B) X a D Q [(q256, .inl (X.2.1, 5, .inl (fun _ => 0)))]) := by rw [z_ext] at hD; exact hD
          refine lv_dup (pc := 258) hx hb dL_act_258 rfl ?_
          refine lv_iconst (v := 0) (pc := 259) hx hb dL_act_259 (by decide) ?_
          refine lv_iload (pc := 260) hx hb dL_act_260 (lv_at hl 0 rfl) ?_
          obtain ⟨x262, e262, hf⟩ := z_bd hf
          refine z_iast (pc := 262) (W1 := (z_W (z_wB X b d d2 B) X a D Q [(q256, .inl (X.2.1, 5, .inl x262))])) hx hb hK hP hD hS _ 0 ((zg_e 0).trans rfl) rfl e262 (zs_e (i := 0)) dL_act_262 (fun H locs hP hD hS => ?_)
          refine lv_dup (pc := 263) hx hb dL_act_263 rfl ?_
          refine lv_iconst (v := 1) (pc := 264) hx hb dL_act_264 (by decide) ?_
          refine lv_iconst (v := 0) (pc := 265) hx hb dL_act_265 (by decide) ?_
          obtain ⟨x266, e266, hf⟩ := z_bd hf
          refine z_iast (pc := 266) (W1 := (z_W (z_wB X b d d2 B) X a D Q [(q256, .inl (X.2.1, 5, .inl x266))])) hx hb hK hP hD hS _ 0 ((zg_e 0).trans rfl) rfl e266 (zs_e (i := 0)) dL_act_266 (fun H locs hP hD hS => ?_)
          refine lv_dup (pc := 267) hx hb dL_act_267 rfl ?_
          refine lv_iconst (v := 2) (pc := 268) hx hb dL_act_268 (by decide) ?_
          refine lv_iconst (v := (-1)) (pc := 269) hx hb dL_act_269 (by decide) ?_
          obtain ⟨x270, e270, hf⟩ := z_bd hf
          refine z_iast (pc := 270) (W1 := (z_W (z_wB X b d d2 B) X a D Q [(q256, .inl (X.2.1, 5, .inl x270))])) hx hb hK hP hD hS _ 0 ((zg_e 0).trans rfl) rfl e270 (zs_e (i := 0)) dL_act_270 (fun H locs hP hD hS => ?_)
          refine lv_dup (pc := 271) hx hb dL_act_271 rfl ?_
          refine lv_iconst (v := 3) (pc := 272) hx hb dL_act_272 (by decide) ?_
          refine lv_iconst (v := (-1)) (pc := 273) hx hb dL_act_273 (by decide) ?_
          obtain ⟨x274, e274, hf⟩ := z_bd hf
          refine z_iast (pc := 274) (W1 := (z_W (z_wB X b d d2 B) X a D Q [(q256, .inl (X.2.1, 5, .inl x274))])) hx hb hK hP hD hS _ 0 ((zg_e 0).trans rfl) rfl e274 (zs_e (i := 0)) dL_act_274 (fun H locs hP hD hS => ?_)
          refine lv_dup (pc := 275) hx hb dL_act_275 rfl ?_
          refine lv_iconst (v := 4) (pc := 276) hx hb dL_act_276 (by decide) ?_
          refine lv_iconst (v := 0) (pc := 277) hx hb dL_act_277 (by decide) ?_
          obtain ⟨x278, e278, hf⟩ := z_bd hf
          refine z_iast (pc := 278) (W1 := (z_W (z_wB X b d d2 B) X a D Q [(q256, .inl (X.2.1, 5, .inl x278))])) hx hb hK hP hD hS _ 0 ((zg_e 0).trans rfl) rfl e278 (zs_e (i := 0)) dL_act_278 (fun H locs hP hD hS => ?_)
          obtain ⟨x279, e279, hf⟩ := z_bd hf
          have hle279 : Q.2.2.1.1 ≤ 12 := z_le12 e279
          refine z_ckRS (pc := 279) (wl := []) (wc := (z_W (z_wB X b d d2 B) X a D Q [(q256, .inl (X.2.1, 5, .inl x278))])) (wr := []) S (m_X5_with l X (z_W (z_wB X b d d2 B) X a D Q [(q256, .inl (X.2.1, 5, .inl x278))]) D.1.2.1 q256 Q.2.2.1.1 5 (D.2.2) x278 _ _ zg_2 ((zg_e 0).trans rfl) (fun i hi => ⟨_, _, _, zg_v hi⟩) hle279) (va_cwS 2 hts gL_act_X5_with rfl rfl rfl hdX5_with ⟨Nat.le_of_ble_eq_true rfl, Nat.le_of_ble_eq_true rfl⟩) (by rw [List.append_nil]; exact hP) hK hN hA2 (by rw [List.append_nil]; exact hD) hS hA (show (0 + 1) + 1 ≤ 1792 ∧ (0 + 13) + 13 ≤ 23296 from ⟨by omega, by omega⟩) rfl hl.1 rfl (Nat.le_of_ble_eq_true rfl) dL_act_279 (fun u qw279 H locs hu hP hD hS => ?_)
          subst hu
          have hP : va_P X.1 vwCl ((z_W (z_wB X b d d2 B) X a D Q [(q256, .inl (X.2.1, 5, .inl x278))]) ++ ([(qw279, .inl (X.2.2.2, z_ra (Q.2.2.1.1 + 1) (z_pa (z_up (D.2.2) Q.2.2.1.1 q256))))] : va_W)) H := by rw [List.append_nil] at hP; exact hP
          have hD : va_D A ((z_W (z_wB X b d d2 B) X a D Q [(q256, .inl (X.2.1, 5, .inl x278))]) ++ ([(qw279, .inl (X.2.2.2, z_ra (Q.2.2.1.1 + 1) (z_pa (z_up (D.2.2) Q.2.2.1.1 q256))))] : va_W)) := by rw [List.append_nil] at hD; exact hD
          refine va_put (pc := 282) (ci := 5) (C := RX5) (T := TX5) (N := 9) (v := .ref qw279) (ty := tyX5 1) hx hb hts in_X5 tyX5 tyX5_ok nmX5 hown hK hP hD hS _ (z_app_l zg_0) rfl 1 (by decide) lk_fi15 (fun _ h9 => h9) rfl (by decide +kernel) rfl rfl (Nat.le_of_ble_eq_true rfl) dL_act_282 (fun H locs hP hD hS => ?_)
          have hP : va_P X.1 vwCl (z_W (z_wB X b d d2 B) X a (z_oV D Q.2.2.1.1 qw279 q256) (z_qNV Q x278) []) H := zs_NVP hP
          have hD : va_D A (z_W (z_wB X b d d2 B) X a (z_oV D Q.2.2.1.1 qw279 q256) (z_qNV Q x278) []) := zs_NVD hD
          refine lv_aload_n (pc := 285) hx hb dL_act_285 rfl (lv_at hl 2 rfl) ?_
          refine lv_iload (pc := 286) hx hb dL_act_286 (lv_at hl 0 rfl) ?_
          by_cases hx288 : x_X4_addServant B (1 + x239) = some 1
          · replace hf := z_ip hx288 hf
            refine z_ctV (pc := 288) S (t_X4_addServant l hl0 X b d d2 B (1 + x239) hx288) (cwV 1 hts gL_act_X4_addServant rfl rfl rfl hdX4_addServant ⟨Nat.le_of_ble_eq_true rfl, Nat.le_of_ble_eq_true rfl⟩) hP hK hN ((hT.kept (fun q h1 h2 => hS.2.1 q h1 h2)).narrow (fun _ h => h.elim)) z_S_L hS (ci := 4) rfl rfl rfl (show ((0 + 1) + 1) + 1 ≤ 1792 ∧ ((0 + 13) + 13) + 6 ≤ 23296 from ⟨by omega, by omega⟩) rfl hl.1 rfl (Nat.le_of_ble_eq_true rfl) dL_act_288 (fun ce q9 H locs hz1 hk1 hS hce hcv hcl => ?_)
            refine vx_catch (pc := 288) hown [⟨16, 151, 643, 83⟩] ⟨152, 306, 643, 83⟩ [⟨307, 327, 643, 83⟩, ⟨328, 346, 643, 83⟩, ⟨347, 380, 643, 83⟩, ⟨381, 433, 643, 83⟩, ⟨434, 487, 643, 83⟩, ⟨488, 541, 643, 83⟩, ⟨542, 593, 643, 83⟩, ⟨594, 642, 643, 83⟩] (htab.trans rfl) (fun z hz => Or.inl ((by decide : ∀ z ∈ ([⟨16, 151, 643, 83⟩] : List ExceptionTableEntry), covers z 288 = false) z hz)) rfl (by decide) lk_cl83 (va_Nw.use rfl (hT.1.2.1 1 (by decide))) hce hcv hcl ?_
            have hP : va_P X.1 vwCl (z_W (z_wB X b d d2 B) X a (z_oV D Q.2.2.1.1 qw279 q256) (z_qNV Q x278) []) H := hP.kept (fun k q hk => hk1 q.1 ((hP k q hk).lt))
            refine lv_astore (pc := 643) (lv' := [(6, .ref q9), (8, .int (1 + x239)), (5, .int y224), (0, .ref b), (1, .ref a), (2, .int v2), (4, .int (nI Q.2.2.1.1))]) hx hb dL_act_643 hl (by decide) rfl (fun ls hl => ?_)
            refine lv_iload (pc := 645) hx hb dL_act_645 (lv_at hl 2 rfl) ?_
            obtain ⟨y647, ey647, hf⟩ := z_bd hf
            suffices jp_647 : ∀ (H : Heap) (locs : List Loc) (_ : va_P X.1 vwCl (z_W (z_wB X b d d2 B) X a (z_oV D Q.2.2.1.1 qw279 q256) (z_qNV Q x278) []) H) (_ : va_D A (z_W (z_wB X b d d2 B) X a (z_oV D Q.2.2.1.1 qw279 q256) (z_qNV Q x278) [])) (_ : va_S A s.heap H locs) (ls : Array Slot) (_ : lv_has ls 9 []), W p l e (headSpec wsL_act (z_R2 8 160 1792 23296)).room s m ([.ref b, .ref a, .int v2] : List Value).toArray below meth c H locs (((0 + 1) + 1) + 1) (((0 + 13) + 13) + 6) (MQ below (va_Qi (fun (z : Int32) (u : va_W) => z = RR.1 ∧ ∃ D1 : z_D, u = z_W (z_wB X b d d2 RR.2.1) X a D1 RR.2.2 []) (z_Bm X A) A) ([.ref b, .ref a, .int v2] : List Value).toArray s 1792 23296 A) (F0 m 655 ls [.int y647]) by
              have hf := ey647
              refine lv_if_ne (pc := 647) (tgt := 654) hx hb dL_act_647 (by decide) (fun c_647 => ?_) (fun c_647 => ?_)
              · replace hf := z_in c_647 hf
                refine lv_iconst (v := 0) (pc := 654) hx hb dL_act_654 (by decide) ?_
                obtain rfl := Option.some.inj hf
                exact jp_647 H locs hP hD hS ls (lv_sub hl [] rfl)
              · replace hf := z_ip c_647 hf
                refine lv_iconst (v := 1) (pc := 650) hx hb dL_act_650 (by decide) ?_
                refine lv_goto (pc := 651) (tgt := 655) hx hb dL_act_651 (by decide) ?_
                obtain rfl := Option.some.inj hf
                exact jp_647 H locs hP hD hS ls (lv_sub hl [] rfl)
            intro H locs hP hD hS ls hl
            refine W.widen (k := 1792) (n := 23296) (by omega) (by omega) ?_
            obtain ⟨x655, e655, hf⟩ := z_bd hf
            obtain ⟨e_bo, h_bo⟩ := z_bo_s e655
            exact W.zret (pc := 655) (v := y647) hx hb hr h_bo (fun t ht hW => ⟨⟨_, (z_W (z_wB X b d d2 B) X a (z_oV D Q.2.2.1.1 qw279 q256) (z_qNV Q x278) []), rfl, ⟨e_bo.trans (z_e1 hf), (z_oV D Q.2.2.1.1 qw279 q256), congrArg (fun z : z_B × z_Q => z_W (z_wB X b d d2 z.1) X a (z_oV D Q.2.2.1.1 qw279 q256) z.2 []) (z_e2 hf)⟩, by rw [ht]; exact z_dropW hP, z_dropV hD⟩, hS.F ht⟩) hS.2.2 dL_act_655
          replace hf := z_in hx288 hf
          obtain ⟨x288, e288, hf⟩ := z_bd hf
          refine z_cbI (pc := 288) (wr := ((z_wS X a (z_oV D Q.2.2.1.1 qw279 q256) (z_qNV Q x278)) ++ [])) S (m_X4_addServant l X b d d2 B (1 + x239) e288) (cwV 1 hts gL_act_X4_addServant rfl rfl rfl hdX4_addServant ⟨Nat.le_of_ble_eq_true rfl, Nat.le_of_ble_eq_true rfl⟩) hP hK hN hD hS hA (ci := 4) rfl rfl rfl (show ((0 + 1) + 1) ≤ 1792 ∧ ((0 + 13) + 13) ≤ 23296 from ⟨by omega, by omega⟩) rfl hl.1 rfl (Nat.le_of_ble_eq_true rfl) dL_act_288 (fun H locs hP hD hS => ?_)
          have hP : va_P X.1 vwCl (z_W (z_wB X b d d2 x288.2) X a (z_oV D Q.2.2.1.1 qw279 q256) (z_qNV Q x278) []) H := hP
          have hD : va_D A (z_W (z_wB X b d d2 x288.2) X a (z_oV D Q.2.2.1.1 qw279 q256) (z_qNV Q x278) []) := hD
          refine lv_iload (pc := 291) hx hb dL_act_291 (lv_at hl 5 rfl) ?_
          obtain ⟨y293, ey293, hf⟩ := z_bd hf
          suffices jp_293 : ∀ (H : Heap) (locs : List Loc) (_ : va_P X.1 vwCl (z_W (z_wB X b d d2 x288.2) X a (z_oV D Q.2.2.1.1 qw279 q256) (z_qNV Q x278) []) H) (_ : va_D A (z_W (z_wB X b d d2 x288.2) X a (z_oV D Q.2.2.1.1 qw279 q256) (z_qNV Q x278) [])) (_ : va_S A s.heap H locs) (ls : Array Slot) (_ : lv_has ls 9 []), W p l e (headSpec wsL_act (z_R2 8 160 1792 23296)).room s m ([.ref b, .ref a, .int v2] : List Value).toArray below meth c H locs ((0 + 1) + 1) ((0 + 13) + 13) (MQ below (va_Qi (fun (z : Int32) (u : va_W) => z = RR.1 ∧ ∃ D1 : z_D, u = z_W (z_wB X b d d2 RR.2.1) X a D1 RR.2.2 []) (z_Bm X A) A) ([.ref b, .ref a, .int v2] : List Value).toArray s 1792 23296 A) (F0 m 306 ls [.int y293]) by
            have hf := ey293
            refine lv_icmp_ne (pc := 293) (tgt := 305) hx hb dL_act_293 (by decide) (fun c_293 => ?_) (fun c_293 => ?_)
            · replace hf := z_in c_293 hf
              refine lv_iconst (v := 0) (pc := 305) hx hb dL_act_305 (by decide) ?_
              obtain rfl := Option.some.inj hf
              exact jp_293 H locs hP hD hS ls (lv_sub hl [] rfl)
            · replace hf := z_ip c_293 hf
              refine lv_iload (pc := 296) hx hb dL_act_296 (lv_at hl 1 rfl) ?_
              refine lv_if_eq (pc := 298) (tgt := 305) hx hb dL_act_298 (by decide) (fun c_298 => ?_) (fun c_298 => ?_)
              · replace hf := z_ip c_298 hf
                refine lv_iconst (v := 0) (pc := 305) hx hb dL_act_305 (by decide) ?_
                obtain rfl := Option.some.inj hf
                exact jp_293 H locs hP hD hS ls (lv_sub hl [] rfl)
              · replace hf := z_in c_298 hf
                refine lv_iconst (v := 1) (pc := 301) hx hb dL_act_301 (by decide) ?_
                refine lv_goto (pc := 302) (tgt := 306) hx hb dL_act_302 (by decide) ?_
                obtain rfl := Option.some.inj hf
                exact jp_293 H locs hP hD hS ls (lv_sub hl [] rfl)
          intro H locs hP hD hS ls hl
          refine W.widen (k := 1792) (n := 23296) (by omega) (by omega) ?_
          obtain ⟨x306, e306, hf⟩ := z_bd hf
          obtain ⟨e_bo, h_bo⟩ := z_bo_s e306
          exact W.zret (pc := 306) (v := y293) hx hb hr h_bo (fun t ht hW => ⟨⟨_, (z_W (z_wB X b d d2 x288.2) X a (z_oV D Q.2.2.1.1 qw279 q256) (z_qNV Q x278) []), rfl, ⟨e_bo.trans (z_e1 hf), (z_oV D Q.2.2.1.1 qw279 q256), congrArg (fun z : z_B × z_Q => z_W (z_wB X b d d2 z.1) X a (z_oV D Q.2.2.1.1 qw279 q256) z.2 []) (z_e2 hf)⟩, by rw [ht]; exact z_dropW hP, z_dropV hD⟩, hS.F ht⟩) hS.2.2 dL_act_306
      replace hf := z_in c_163_1 hf
      by_cases c_163_2 : x19 = 2
      · replace hf := z_ip c_163_2 hf
        rw [c_163_2]
        refine lv_tableIn (pc := 163) (tgt := 307) (off := 144) hx hb dL_act_163 (by decide) (by decide) rfl (by decide) ?_
        refine lv_aload_n (pc := 307) hx hb dL_act_307 rfl (lv_at hl 5 rfl) ?_
        refine lv_iload (pc := 308) hx hb dL_act_308 (lv_at hl 0 rfl) ?_
        obtain ⟨x310, e310, hf⟩ := z_bd hf
        refine z_cbI (pc := 310) (wr := ((z_wS X a D Q) ++ [])) S (m_X4_ring l X b d d2 B x156 e310) (cwV 1 hts gL_act_X4_ring rfl rfl rfl hdX4_ring ⟨Nat.le_of_ble_eq_true rfl, Nat.le_of_ble_eq_true rfl⟩) hP hK hN hD hS hA (ci := 4) rfl rfl rfl (show 0 ≤ 1792 ∧ 0 ≤ 23296 from ⟨by omega, by omega⟩) rfl hl.1 rfl (Nat.le_of_ble_eq_true rfl) dL_act_310 (fun H locs hP hD hS => ?_)
        have hP : va_P X.1 vwCl (z_W (z_wB X b d d2 x310.2) X a D Q []) H := hP
        have hD : va_D A (z_W (z_wB X b d d2 x310.2) X a D Q []) := hD
        refine lv_aload_n (pc := 313) hx hb dL_act_313 rfl (lv_at hl 6 rfl) ?_
        refine lv_iload (pc := 314) hx hb dL_act_314 (lv_at hl 0 rfl) ?_
        obtain ⟨x316, e316, hf⟩ := z_bd hf
        refine z_ckI (pc := 316) (wl := (z_wB X b d d2 x310.2)) (wr := []) S (m_X5_ring l X a D Q x156 e316) (cwV 1 hts gL_act_X5_ring rfl rfl rfl hdX5_ring ⟨Nat.le_of_ble_eq_true rfl, Nat.le_of_ble_eq_true rfl⟩) hP hK hN hA2 hD hS hA (ci := 5) rfl rfl rfl (show 0 + 1 ≤ 1792 ∧ 0 + 13 ≤ 23296 from ⟨by omega, by omega⟩) rfl hl.1 rfl (Nat.le_of_ble_eq_true rfl) dL_act_316 (fun z u H locs hpost hP hD hS => ?_)
        obtain ⟨rfl, D316, rfl⟩ := hpost
        have hP : va_P X.1 vwCl (z_W (z_wB X b d d2 x310.2) X a D316 x316.2 []) H := hP
        have hD : va_D A (z_W (z_wB X b d d2 x310.2) X a D316 x316.2 []) := hD
        obtain ⟨y319, ey319, hf⟩ := z_bd hf
        suffices jp_319 : ∀ (H : Heap) (locs : List Loc) (_ : va_P X.1 vwCl (z_W (z_wB X b d d2 x310.2) X a D316 x316.2 []) H) (_ : va_D A (z_W (z_wB X b d d2 x310.2) X a D316 x316.2 [])) (_ : va_S A s.heap H locs) (ls : Array Slot) (_ : lv_has ls 9 []), W p l e (headSpec wsL_act (z_R2 8 160 1792 23296)).room s m ([.ref b, .ref a, .int v2] : List Value).toArray below meth c H locs (0 + 1) (0 + 13) (MQ below (va_Qi (fun (z : Int32) (u : va_W) => z = RR.1 ∧ ∃ D1 : z_D, u = z_W (z_wB X b d d2 RR.2.1) X a D1 RR.2.2 []) (z_Bm X A) A) ([.ref b, .ref a, .int v2] : List Value).toArray s 1792 23296 A) (F0 m 327 ls [.int y319]) by
          have hf := ey319
          refine lv_icmp_ne (pc := 319) (tgt := 326) hx hb dL_act_319 (by decide) (fun c_319 => ?_) (fun c_319 => ?_)
          · replace hf := z_in c_319 hf
            refine lv_iconst (v := 0) (pc := 326) hx hb dL_act_326 (by decide) ?_
            obtain rfl := Option.some.inj hf
            exact jp_319 H locs hP hD hS ls (lv_sub hl [] rfl)
          · replace hf := z_ip c_319 hf
            refine lv_iconst (v := 1) (pc := 322) hx hb dL_act_322 (by decide) ?_
            refine lv_goto (pc := 323) (tgt := 327) hx hb dL_act_323 (by decide) ?_
            obtain rfl := Option.some.inj hf
            exact jp_319 H locs hP hD hS ls (lv_sub hl [] rfl)
        intro H locs hP hD hS ls hl
        refine W.widen (k := 1792) (n := 23296) (by omega) (by omega) ?_
        obtain ⟨x327, e327, hf⟩ := z_bd hf
        obtain ⟨e_bo, h_bo⟩ := z_bo_s e327
        exact W.zret (pc := 327) (v := y319) hx hb hr h_bo (fun t ht hW => ⟨⟨_, (z_W (z_wB X b d d2 x310.2) X a D316 x316.2 []), rfl, ⟨e_bo.trans (z_e1 hf), D316, congrArg (fun z : z_B × z_Q => z_W (z_wB X b d d2 z.1) X a D316 z.2 []) (z_e2 hf)⟩, by rw [ht]; exact z_dropW hP, z_dropV hD⟩, hS.F ht⟩) hS.2.2 dL_act_327
      replace hf := z_in c_163_2 hf
      by_cases c_163_3 : x19 = 3
      · replace hf := z_ip c_163_3 hf
        rw [c_163_3]
        refine lv_tableIn (pc := 163) (tgt := 307) (off := 144) hx hb dL_act_163 (by decide) (by decide) rfl (by decide) ?_
        refine lv_aload_n (pc := 307) hx hb dL_act_307 rfl (lv_at hl 5 rfl) ?_
        refine lv_iload (pc := 308) hx hb dL_act_308 (lv_at hl 0 rfl) ?_
        obtain ⟨x310, e310, hf⟩ := z_bd hf
        refine z_cbI (pc := 310) (wr := ((z_wS X a D Q) ++ [])) S (m_X4_ring l X b d d2 B x156 e310) (cwV 1 hts gL_act_X4_ring rfl rfl rfl hdX4_ring ⟨Nat.le_of_ble_eq_true rfl, Nat.le_of_ble_eq_true rfl⟩) hP hK hN hD hS hA (ci := 4) rfl rfl rfl (show 0 ≤ 1792 ∧ 0 ≤ 23296 from ⟨by omega, by omega⟩) rfl hl.1 rfl (Nat.le_of_ble_eq_true rfl) dL_act_310 (fun H locs hP hD hS => ?_)
        have hP : va_P X.1 vwCl (z_W (z_wB X b d d2 x310.2) X a D Q []) H := hP
        have hD : va_D A (z_W (z_wB X b d d2 x310.2) X a D Q []) := hD
        refine lv_aload_n (pc := 313) hx hb dL_act_313 rfl (lv_at hl 6 rfl) ?_
        refine lv_iload (pc := 314) hx hb dL_act_314 (lv_at hl 0 rfl) ?_
        obtain ⟨x316, e316, hf⟩ := z_bd hf
        refine z_ckI (pc := 316) (wl := (z_wB X b d d2 x310.2)) (wr := []) S (m_X5_ring l X a D Q x156 e316) (cwV 1 hts gL_act_X5_ring rfl rfl rfl hdX5_ring ⟨Nat.le_of_ble_eq_true rfl, Nat.le_of_ble_eq_true rfl⟩) hP hK hN hA2 hD hS hA (ci := 5) rfl rfl rfl (show 0 + 1 ≤ 1792 ∧ 0 + 13 ≤ 23296 from ⟨by omega, by omega⟩) rfl hl.1 rfl (Nat.le_of_ble_eq_true rfl) dL_act_316 (fun z u H locs hpost hP hD hS => ?_)
        obtain ⟨rfl, D316, rfl⟩ := hpost
        have hP : va_P X.1 vwCl (z_W (z_wB X b d d2 x310.2) X a D316 x316.2 []) H := hP
        have hD : va_D A (z_W (z_wB X b d d2 x310.2) X a D316 x316.2 []) := hD
        obtain ⟨y319, ey319, hf⟩ := z_bd hf
        suffices jp_319 : ∀ (H : Heap) (locs : List Loc) (_ : va_P X.1 vwCl (z_W (z_wB X b d d2 x310.2) X a D316 x316.2 []) H) (_ : va_D A (z_W (z_wB X b d d2 x310.2) X a D316 x316.2 [])) (_ : va_S A s.heap H locs) (ls : Array Slot) (_ : lv_has ls 9 []), W p l e (headSpec wsL_act (z_R2 8 160 1792 23296)).room s m ([.ref b, .ref a, .int v2] : List Value).toArray below meth c H locs (0 + 1) (0 + 13) (MQ below (va_Qi (fun (z : Int32) (u : va_W) => z = RR.1 ∧ ∃ D1 : z_D, u = z_W (z_wB X b d d2 RR.2.1) X a D1 RR.2.2 []) (z_Bm X A) A) ([.ref b, .ref a, .int v2] : List Value).toArray s 1792 23296 A) (F0 m 327 ls [.int y319]) by
          have hf := ey319
          refine lv_icmp_ne (pc := 319) (tgt := 326) hx hb dL_act_319 (by decide) (fun c_319 => ?_) (fun c_319 => ?_)
          · replace hf := z_in c_319 hf
            refine lv_iconst (v := 0) (pc := 326) hx hb dL_act_326 (by decide) ?_
            obtain rfl := Option.some.inj hf
            exact jp_319 H locs hP hD hS ls (lv_sub hl [] rfl)
          · replace hf := z_ip c_319 hf
            refine lv_iconst (v := 1) (pc := 322) hx hb dL_act_322 (by decide) ?_
            refine lv_goto (pc := 323) (tgt := 327) hx hb dL_act_323 (by decide) ?_
            obtain rfl := Option.some.inj hf
            exact jp_319 H locs hP hD hS ls (lv_sub hl [] rfl)
        intro H locs hP hD hS ls hl
        refine W.widen (k := 1792) (n := 23296) (by omega) (by omega) ?_
        obtain ⟨x327, e327, hf⟩ := z_bd hf
        obtain ⟨e_bo, h_bo⟩ := z_bo_s e327
        exact W.zret (pc := 327) (v := y319) hx hb hr h_bo (fun t ht hW => ⟨⟨_, (z_W (z_wB X b d d2 x310.2) X a D316 x316.2 []), rfl, ⟨e_bo.trans (z_e1 hf), D316, congrArg (fun z : z_B × z_Q => z_W (z_wB X b d d2 z.1) X a D316 z.2 []) (z_e2 hf)⟩, by rw [ht]; exact z_dropW hP, z_dropV hD⟩, hS.F ht⟩) hS.2.2 dL_act_327
      replace hf := z_in c_163_3 hf
      by_cases c_163_4 : x19 = 4
      · replace hf := z_ip c_163_4 hf
        rw [c_163_4]
        refine lv_tableIn (pc := 163) (tgt := 307) (off := 144) hx hb dL_act_163 (by decide) (by decide) rfl (by decide) ?_
        refine lv_aload_n (pc := 307) hx hb dL_act_307 rfl (lv_at hl 5 rfl) ?_
        refine lv_iload (pc := 308) hx hb dL_act_308 (lv_at hl 0 rfl) ?_
        obtain ⟨x310, e310, hf⟩ := z_bd hf
        refine z_cbI (pc := 310) (wr := ((z_wS X a D Q) ++ [])) S (m_X4_ring l X b d d2 B x156 e310) (cwV 1 hts gL_act_X4_ring rfl rfl rfl hdX4_ring ⟨Nat.le_of_ble_eq_true rfl, Nat.le_of_ble_eq_true rfl⟩) hP hK hN hD hS hA (ci := 4) rfl rfl rfl (show 0 ≤ 1792 ∧ 0 ≤ 23296 from ⟨by omega, by omega⟩) rfl hl.1 rfl (Nat.le_of_ble_eq_true rfl) dL_act_310 (fun H locs hP hD hS => ?_)
        have hP : va_P X.1 vwCl (z_W (z_wB X b d d2 x310.2) X a D Q []) H := hP
        have hD : va_D A (z_W (z_wB X b d d2 x310.2) X a D Q []) := hD
        refine lv_aload_n (pc := 313) hx hb dL_act_313 rfl (lv_at hl 6 rfl) ?_
        refine lv_iload (pc := 314) hx hb dL_act_314 (lv_at hl 0 rfl) ?_
        obtain ⟨x316, e316, hf⟩ := z_bd hf
        refine z_ckI (pc := 316) (wl := (z_wB X b d d2 x310.2)) (wr := []) S (m_X5_ring l X a D Q x156 e316) (cwV 1 hts gL_act_X5_ring rfl rfl rfl hdX5_ring ⟨Nat.le_of_ble_eq_true rfl, Nat.le_of_ble_eq_true rfl⟩) hP hK hN hA2 hD hS hA (ci := 5) rfl rfl rfl (show 0 + 1 ≤ 1792 ∧ 0 + 13 ≤ 23296 from ⟨by omega, by omega⟩) rfl hl.1 rfl (Nat.le_of_ble_eq_true rfl) dL_act_316 (fun z u H locs hpost hP hD hS => ?_)
        obtain ⟨rfl, D316, rfl⟩ := hpost
        have hP : va_P X.1 vwCl (z_W (z_wB X b d d2 x310.2) X a D316 x316.2 []) H := hP
        have hD : va_D A (z_W (z_wB X b d d2 x310.2) X a D316 x316.2 []) := hD
        obtain ⟨y319, ey319, hf⟩ := z_bd hf
        suffices jp_319 : ∀ (H : Heap) (locs : List Loc) (_ : va_P X.1 vwCl (z_W (z_wB X b d d2 x310.2) X a D316 x316.2 []) H) (_ : va_D A (z_W (z_wB X b d d2 x310.2) X a D316 x316.2 [])) (_ : va_S A s.heap H locs) (ls : Array Slot) (_ : lv_has ls 9 []), W p l e (headSpec wsL_act (z_R2 8 160 1792 23296)).room s m ([.ref b, .ref a, .int v2] : List Value).toArray below meth c H locs (0 + 1) (0 + 13) (MQ below (va_Qi (fun (z : Int32) (u : va_W) => z = RR.1 ∧ ∃ D1 : z_D, u = z_W (z_wB X b d d2 RR.2.1) X a D1 RR.2.2 []) (z_Bm X A) A) ([.ref b, .ref a, .int v2] : List Value).toArray s 1792 23296 A) (F0 m 327 ls [.int y319]) by
          have hf := ey319
          refine lv_icmp_ne (pc := 319) (tgt := 326) hx hb dL_act_319 (by decide) (fun c_319 => ?_) (fun c_319 => ?_)
          · replace hf := z_in c_319 hf
            refine lv_iconst (v := 0) (pc := 326) hx hb dL_act_326 (by decide) ?_
            obtain rfl := Option.some.inj hf
            exact jp_319 H locs hP hD hS ls (lv_sub hl [] rfl)
          · replace hf := z_ip c_319 hf
            refine lv_iconst (v := 1) (pc := 322) hx hb dL_act_322 (by decide) ?_
            refine lv_goto (pc := 323) (tgt := 327) hx hb dL_act_323 (by decide) ?_
            obtain rfl := Option.some.inj hf
            exact jp_319 H locs hP hD hS ls (lv_sub hl [] rfl)
        intro H locs hP hD hS ls hl
        refine W.widen (k := 1792) (n := 23296) (by omega) (by omega) ?_
        obtain ⟨x327, e327, hf⟩ := z_bd hf
        obtain ⟨e_bo, h_bo⟩ := z_bo_s e327
        exact W.zret (pc := 327) (v := y319) hx hb hr h_bo (fun t ht hW => ⟨⟨_, (z_W (z_wB X b d d2 x310.2) X a D316 x316.2 []), rfl, ⟨e_bo.trans (z_e1 hf), D316, congrArg (fun z : z_B × z_Q => z_W (z_wB X b d d2 z.1) X a D316 z.2 []) (z_e2 hf)⟩, by rw [ht]; exact z_dropW hP, z_dropV hD⟩, hS.F ht⟩) hS.2.2 dL_act_327
      replace hf := z_in c_163_4 hf
      by_cases c_163_5 : x19 = 5
      · replace hf := z_ip c_163_5 hf
        rw [c_163_5]
        refine lv_tableIn (pc := 163) (tgt := 307) (off := 144) hx hb dL_act_163 (by decide) (by decide) rfl (by decide) ?_
        refine lv_aload_n (pc := 307) hx hb dL_act_307 rfl (lv_at hl 5 rfl) ?_
        refine lv_iload (pc := 308) hx hb dL_act_308 (lv_at hl 0 rfl) ?_
        obtain ⟨x310, e310, hf⟩ := z_bd hf
        refine z_cbI (pc := 310) (wr := ((z_wS X a D Q) ++ [])) S (m_X4_ring l X b d d2 B x156 e310) (cwV 1 hts gL_act_X4_ring rfl rfl rfl hdX4_ring ⟨Nat.le_of_ble_eq_true rfl, Nat.le_of_ble_eq_true rfl⟩) hP hK hN hD hS hA (ci := 4) rfl rfl rfl (show 0 ≤ 1792 ∧ 0 ≤ 23296 from ⟨by omega, by omega⟩) rfl hl.1 rfl (Nat.le_of_ble_eq_true rfl) dL_act_310 (fun H locs hP hD hS => ?_)
        have hP : va_P X.1 vwCl (z_W (z_wB X b d d2 x310.2) X a D Q []) H := hP
        have hD : va_D A (z_W (z_wB X b d d2 x310.2) X a D Q []) := hD
        refine lv_aload_n (pc := 313) hx hb dL_act_313 rfl (lv_at hl 6 rfl) ?_
        refine lv_iload (pc := 314) hx hb dL_act_314 (lv_at hl 0 rfl) ?_
        obtain ⟨x316, e316, hf⟩ := z_bd hf
        refine z_ckI (pc := 316) (wl := (z_wB X b d d2 x310.2)) (wr := []) S (m_X5_ring l X a D Q x156 e316) (cwV 1 hts gL_act_X5_ring rfl rfl rfl hdX5_ring ⟨Nat.le_of_ble_eq_true rfl, Nat.le_of_ble_eq_true rfl⟩) hP hK hN hA2 hD hS hA (ci := 5) rfl rfl rfl (show 0 + 1 ≤ 1792 ∧ 0 + 13 ≤ 23296 from ⟨by omega, by omega⟩) rfl hl.1 rfl (Nat.le_of_ble_eq_true rfl) dL_act_316 (fun z u H locs hpost hP hD hS => ?_)
        obtain ⟨rfl, D316, rfl⟩ := hpost
        have hP : va_P X.1 vwCl (z_W (z_wB X b d d2 x310.2) X a D316 x316.2 []) H := hP
        have hD : va_D A (z_W (z_wB X b d d2 x310.2) X a D316 x316.2 []) := hD
        obtain ⟨y319, ey319, hf⟩ := z_bd hf
        suffices jp_319 : ∀ (H : Heap) (locs : List Loc) (_ : va_P X.1 vwCl (z_W (z_wB X b d d2 x310.2) X a D316 x316.2 []) H) (_ : va_D A (z_W (z_wB X b d d2 x310.2) X a D316 x316.2 [])) (_ : va_S A s.heap H locs) (ls : Array Slot) (_ : lv_has ls 9 []), W p l e (headSpec wsL_act (z_R2 8 160 1792 23296)).room s m ([.ref b, .ref a, .int v2] : List Value).toArray below meth c H locs (0 + 1) (0 + 13) (MQ below (va_Qi (fun (z : Int32) (u : va_W) => z = RR.1 ∧ ∃ D1 : z_D, u = z_W (z_wB X b d d2 RR.2.1) X a D1 RR.2.2 []) (z_Bm X A) A) ([.ref b, .ref a, .int v2] : List Value).toArray s 1792 23296 A) (F0 m 327 ls [.int y319]) by
          have hf := ey319
          refine lv_icmp_ne (pc := 319) (tgt := 326) hx hb dL_act_319 (by decide) (fun c_319 => ?_) (fun c_319 => ?_)
          · replace hf := z_in c_319 hf
            refine lv_iconst (v := 0) (pc := 326) hx hb dL_act_326 (by decide) ?_
            obtain rfl := Option.some.inj hf
            exact jp_319 H locs hP hD hS ls (lv_sub hl [] rfl)
          · replace hf := z_ip c_319 hf
            refine lv_iconst (v := 1) (pc := 322) hx hb dL_act_322 (by decide) ?_
            refine lv_goto (pc := 323) (tgt := 327) hx hb dL_act_323 (by decide) ?_
            obtain rfl := Option.some.inj hf
            exact jp_319 H locs hP hD hS ls (lv_sub hl [] rfl)
        intro H locs hP hD hS ls hl
        refine W.widen (k := 1792) (n := 23296) (by omega) (by omega) ?_
        obtain ⟨x327, e327, hf⟩ := z_bd hf
        obtain ⟨e_bo, h_bo⟩ := z_bo_s e327
        exact W.zret (pc := 327) (v := y319) hx hb hr h_bo (fun t ht hW => ⟨⟨_, (z_W (z_wB X b d d2 x310.2) X a D316 x316.2 []), rfl, ⟨e_bo.trans (z_e1 hf), D316, congrArg (fun z : z_B × z_Q => z_W (z_wB X b d d2 z.1) X a D316 z.2 []) (z_e2 hf)⟩, by rw [ht]; exact z_dropW hP, z_dropV hD⟩, hS.F ht⟩) hS.2.2 dL_act_327
      replace hf := z_in c_163_5 hf
      by_cases c_163_6 : x19 = 6
      · replace hf := z_ip c_163_6 hf
        rw [c_163_6]
        refine lv_tableIn (pc := 163) (tgt := 328) (off := 165) hx hb dL_act_163 (by decide) (by decide) rfl (by decide) ?_
        refine lv_iload_n (pc := 328) hx hb dL_act_328 rfl (lv_at hl 7 rfl) ?_
        refine lv_bipush (v := 7) (pc := 329) hx hb dL_act_329 (by decide) ?_
        refine lv_ishr (pc := 331) hx hb dL_act_331 ?_
        refine lv_iload_n (pc := 332) hx hb dL_act_332 rfl (lv_at hl 4 rfl) ?_
        obtain ⟨x333, e333, hf⟩ := z_bd hf
        refine z_csI (pc := 333) S (m_L_below l X (v2 >>> (7 &&& 31)) (nI Q.2.1.1) e333) (va_cwS 2 hts gL_act_L_below rfl rfl rfl hdL_below ⟨Nat.le_of_ble_eq_true rfl, Nat.le_of_ble_eq_true rfl⟩) hP hK hN (s_nil _) (show 0 ≤ 1792 ∧ 0 ≤ 23296 from ⟨by omega, by omega⟩) rfl hl.1 rfl (Nat.le_of_ble_eq_true rfl) dL_act_333 ?_
        refine lv_istore (pc := 336) (lv' := [(8, .int x333), (7, .int x156), (6, .int x19), (5, .int 1), (4, .int (nI Q.2.2.1.1)), (3, .int (nI Q.2.1.1)), (0, .ref b), (1, .ref a), (2, .int v2)]) hx hb dL_act_336 hl (by decide) rfl (fun ls hl => ?_)
        refine lv_iload (pc := 338) hx hb dL_act_338 (lv_at hl 1 rfl) ?_
        refine lv_iload (pc := 340) hx hb dL_act_340 (lv_at hl 0 rfl) ?_
        refine lv_icmp_ne (pc := 342) (tgt := 347) hx hb dL_act_342 (by decide) (fun c_342 => ?_) (fun c_342 => ?_)
        · replace hf := z_in c_342 hf
          refine lv_aload_n (pc := 347) hx hb dL_act_347 rfl (lv_at hl 7 rfl) ?_
          refine lv_iload (pc := 348) hx hb dL_act_348 (lv_at hl 1 rfl) ?_
          refine lv_iload (pc := 350) hx hb dL_act_350 (lv_at hl 0 rfl) ?_
          obtain ⟨x352, e352, hf⟩ := z_bd hf
          refine z_ckV (pc := 352) (wl := (z_wB X b d d2 B)) (wr := []) S (m_X5_cross l X a D Q x156 x333 e352) (cwV 2 hts gL_act_X5_cross rfl rfl rfl hdX5_cross ⟨Nat.le_of_ble_eq_true rfl, Nat.le_of_ble_eq_true rfl⟩) hP hK hN hA2 hD hS hA (ci := 5) rfl rfl rfl (show 0 + 0 ≤ 1792 ∧ 0 + 0 ≤ 23296 from ⟨by omega, by omega⟩) rfl hl.1 rfl (Nat.le_of_ble_eq_true rfl) dL_act_352 (fun u H locs hpost hP hD hS => ?_)
          obtain rfl := hpost
          have hP : va_P X.1 vwCl (z_W (z_wB X b d d2 B) X a D x352 []) H := hP
          have hD : va_D A (z_W (z_wB X b d d2 B) X a D x352 []) := hD
          refine lv_aload_n (pc := 355) hx hb dL_act_355 rfl (lv_at hl 6 rfl) ?_
          refine lv_iload (pc := 356) hx hb dL_act_356 (lv_at hl 1 rfl) ?_
          refine lv_iload (pc := 358) hx hb dL_act_358 (lv_at hl 0 rfl) ?_
          obtain ⟨x360, e360, hf⟩ := z_bd hf
          refine z_cbI (pc := 360) (wr := ((z_wS X a D x352) ++ [])) S (m_X4_cross l X b d d2 B x156 x333 e360) (cwV 2 hts gL_act_X4_cross rfl rfl rfl hdX4_cross ⟨Nat.le_of_ble_eq_true rfl, Nat.le_of_ble_eq_true rfl⟩) hP hK hN hD hS hA (ci := 4) rfl rfl rfl (show 0 ≤ 1792 ∧ 0 ≤ 23296 from ⟨by omega, by omega⟩) rfl hl.1 rfl (Nat.le_of_ble_eq_true rfl) dL_act_360 (fun H locs hP hD hS => ?_)
          have hP : va_P X.1 vwCl (z_W (z_wB X b d d2 x360.2) X a D x352 []) H := hP
          have hD : va_D A (z_W (z_wB X b d d2 x360.2) X a D x352 []) := hD
          refine lv_aload_n (pc := 363) hx hb dL_act_363 rfl (lv_at hl 7 rfl) ?_
          refine va_get (pc := 364) (ci := 5) (C := RX5) (T := TX5) (N := 9) (v := .ref D.1.1) hx hb hts in_X5 hown hK hP _ zg_0 rfl 0 (by decide) lk_fi9 (fun _ h9 => h9) rfl dL_act_364 ?_
          refine lv_iload (pc := 367) hx hb dL_act_367 (lv_at hl 1 rfl) ?_
          obtain ⟨x369, e369, hf⟩ := z_bd hf
          refine z_aald (pc := 369) hx hb hK hP _ 2 zg_1 rfl e369 dL_act_369 ?_
          refine lv_iconst (v := 4) (pc := 370) hx hb dL_act_370 (by decide) ?_
          refine z_iald (pc := 371) hx hb hK hP _ 0 (zg_r (z_ai_lt e369)) rfl (show z_at _ 4 _ = some (x352.2.1.2 x369 4) from rfl) dL_act_371 ?_
          obtain ⟨y372, ey372, hf⟩ := z_bd hf
          suffices jp_372 : ∀ (H : Heap) (locs : List Loc) (_ : va_P X.1 vwCl (z_W (z_wB X b d d2 x360.2) X a D x352 []) H) (_ : va_D A (z_W (z_wB X b d d2 x360.2) X a D x352 [])) (_ : va_S A s.heap H locs) (ls : Array Slot) (_ : lv_has ls 9 []), W p l e (headSpec wsL_act (z_R2 8 160 1792 23296)).room s m ([.ref b, .ref a, .int v2] : List Value).toArray below meth c H locs 0 0 (MQ below (va_Qi (fun (z : Int32) (u : va_W) => z = RR.1 ∧ ∃ D1 : z_D, u = z_W (z_wB X b d d2 RR.2.1) X a D1 RR.2.2 []) (z_Bm X A) A) ([.ref b, .ref a, .int v2] : List Value).toArray s 1792 23296 A) (F0 m 380 ls [.int y372]) by
            have hf := ey372
            refine lv_icmp_ne (pc := 372) (tgt := 379) hx hb dL_act_372 (by decide) (fun c_372 => ?_) (fun c_372 => ?_)
            · replace hf := z_in c_372 hf
              refine lv_iconst (v := 0) (pc := 379) hx hb dL_act_379 (by decide) ?_
              obtain rfl := Option.some.inj hf
              exact jp_372 H locs hP hD hS ls (lv_sub hl [] rfl)
            · replace hf := z_ip c_372 hf
              refine lv_iconst (v := 1) (pc := 375) hx hb dL_act_375 (by decide) ?_
              refine lv_goto (pc := 376) (tgt := 380) hx hb dL_act_376 (by decide) ?_
              obtain rfl := Option.some.inj hf
              exact jp_372 H locs hP hD hS ls (lv_sub hl [] rfl)
          intro H locs hP hD hS ls hl
          refine W.widen (k := 1792) (n := 23296) (by omega) (by omega) ?_
          obtain ⟨x380, e380, hf⟩ := z_bd hf
          obtain ⟨e_bo, h_bo⟩ := z_bo_s e380
          exact W.zret (pc := 380) (v := y372) hx hb hr h_bo (fun t ht hW => ⟨⟨_, (z_W (z_wB X b d d2 x360.2) X a D x352 []), rfl, ⟨e_bo.trans (z_e1 hf), D, congrArg (fun z : z_B × z_Q => z_W (z_wB X b d d2 z.1) X a D z.2 []) (z_e2 hf)⟩, by rw [ht]; exact z_dropW hP, z_dropV hD⟩, hS.F ht⟩) hS.2.2 dL_act_380
        · replace hf := z_ip c_342 hf
          refine lv_iconst (v := 1) (pc := 345) hx hb dL_act_345 (by decide) ?_
          refine W.widen (k := 1792) (n := 23296) (by omega) (by omega) ?_
          exact W.zret (pc := 346) (v := 1) hx hb hr rfl (fun t ht hW => ⟨⟨_, (z_W (z_wB X b d d2 B) X a D Q []), rfl, ⟨z_e1 hf, D, congrArg (fun z : z_B × z_Q => z_W (z_wB X b d d2 z.1) X a D z.2 []) (z_e2 hf)⟩, by rw [ht]; exact z_dropW hP, z_dropV hD⟩, hS.F ht⟩) hS.2.2 dL_act_346
      replace hf := z_in c_163_6 hf
      by_cases c_163_7 : x19 = 7
      · replace hf := z_ip c_163_7 hf
        rw [c_163_7]
        refine lv_tableIn (pc := 163) (tgt := 328) (off := 165) hx hb dL_act_163 (by decide) (by decide) rfl (by decide) ?_
        refine lv_iload_n (pc := 328) hx hb dL_act_328 rfl (lv_at hl 7 rfl) ?_
        refine lv_bipush (v := 7) (pc := 329) hx hb dL_act_329 (by decide) ?_
        refine lv_ishr (pc := 331) hx hb dL_act_331 ?_
        refine lv_iload_n (pc := 332) hx hb dL_act_332 rfl (lv_at hl 4 rfl) ?_
        obtain ⟨x333, e333, hf⟩ := z_bd hf
        refine z_csI (pc := 333) S (m_L_below l X (v2 >>> (7 &&& 31)) (nI Q.2.1.1) e333) (va_cwS 2 hts gL_act_L_below rfl rfl rfl hdL_below ⟨Nat.le_of_ble_eq_true rfl, Nat.le_of_ble_eq_true rfl⟩) hP hK hN (s_nil _) (show 0 ≤ 1792 ∧ 0 ≤ 23296 from ⟨by omega, by omega⟩) rfl hl.1 rfl (Nat.le_of_ble_eq_true rfl) dL_act_333 ?_
        refine lv_istore (pc := 336) (lv' := [(8, .int x333), (7, .int x156), (6, .int x19), (5, .int 1), (4, .int (nI Q.2.2.1.1)), (3, .int (nI Q.2.1.1)), (0, .ref b), (1, .ref a), (2, .int v2)]) hx hb dL_act_336 hl (by decide) rfl (fun ls hl => ?_)
        refine lv_iload (pc := 338) hx hb dL_act_338 (lv_at hl 1 rfl) ?_
        refine lv_iload (pc := 340) hx hb dL_act_340 (lv_at hl 0 rfl) ?_
        refine lv_icmp_ne (pc := 342) (tgt := 347) hx hb dL_act_342 (by decide) (fun c_342 => ?_) (fun c_342 => ?_)
        · replace hf := z_in c_342 hf
          refine lv_aload_n (pc := 347) hx hb dL_act_347 rfl (lv_at hl 7 rfl) ?_
          refine lv_iload (pc := 348) hx hb dL_act_348 (lv_at hl 1 rfl) ?_
          refine lv_iload (pc := 350) hx hb dL_act_350 (lv_at hl 0 rfl) ?_
          obtain ⟨x352, e352, hf⟩ := z_bd hf
          refine z_ckV (pc := 352) (wl := (z_wB X b d d2 B)) (wr := []) S (m_X5_cross l X a D Q x156 x333 e352) (cwV 2 hts gL_act_X5_cross rfl rfl rfl hdX5_cross ⟨Nat.le_of_ble_eq_true rfl, Nat.le_of_ble_eq_true rfl⟩) hP hK hN hA2 hD hS hA (ci := 5) rfl rfl rfl (show 0 + 0 ≤ 1792 ∧ 0 + 0 ≤ 23296 from ⟨by omega, by omega⟩) rfl hl.1 rfl (Nat.le_of_ble_eq_true rfl) dL_act_352 (fun u H locs hpost hP hD hS => ?_)
          obtain rfl := hpost
          have hP : va_P X.1 vwCl (z_W (z_wB X b d d2 B) X a D x352 []) H := hP
          have hD : va_D A (z_W (z_wB X b d d2 B) X a D x352 []) := hD
          refine lv_aload_n (pc := 355) hx hb dL_act_355 rfl (lv_at hl 6 rfl) ?_
          refine lv_iload (pc := 356) hx hb dL_act_356 (lv_at hl 1 rfl) ?_
          refine lv_iload (pc := 358) hx hb dL_act_358 (lv_at hl 0 rfl) ?_
          obtain ⟨x360, e360, hf⟩ := z_bd hf
          refine z_cbI (pc := 360) (wr := ((z_wS X a D x352) ++ [])) S (m_X4_cross l X b d d2 B x156 x333 e360) (cwV 2 hts gL_act_X4_cross rfl rfl rfl hdX4_cross ⟨Nat.le_of_ble_eq_true rfl, Nat.le_of_ble_eq_true rfl⟩) hP hK hN hD hS hA (ci := 4) rfl rfl rfl (show 0 ≤ 1792 ∧ 0 ≤ 23296 from ⟨by omega, by omega⟩) rfl hl.1 rfl (Nat.le_of_ble_eq_true rfl) dL_act_360 (fun H locs hP hD hS => ?_)
          have hP : va_P X.1 vwCl (z_W (z_wB X b d d2 x360.2) X a D x352 []) H := hP
          have hD : va_D A (z_W (z_wB X b d d2 x360.2) X a D x352 []) := hD
          refine lv_aload_n (pc := 363) hx hb dL_act_363 rfl (lv_at hl 7 rfl) ?_
          refine va_get (pc := 364) (ci := 5) (C := RX5) (T := TX5) (N := 9) (v := .ref D.1.1) hx hb hts in_X5 hown hK hP _ zg_0 rfl 0 (by decide) lk_fi9 (fun _ h9 => h9) rfl dL_act_364 ?_
          refine lv_iload (pc := 367) hx hb dL_act_367 (lv_at hl 1 rfl) ?_
          obtain ⟨x369, e369, hf⟩ := z_bd hf
          refine z_aald (pc := 369) hx hb hK hP _ 2 zg_1 rfl e369 dL_act_369 ?_
          refine lv_iconst (v := 4) (pc := 370) hx hb dL_act_370 (by decide) ?_
          refine z_iald (pc := 371) hx hb hK hP _ 0 (zg_r (z_ai_lt e369)) rfl (show z_at _ 4 _ = some (x352.2.1.2 x369 4) from rfl) dL_act_371 ?_
          obtain ⟨y372, ey372, hf⟩ := z_bd hf
          suffices jp_372 : ∀ (H : Heap) (locs : List Loc) (_ : va_P X.1 vwCl (z_W (z_wB X b d d2 x360.2) X a D x352 []) H) (_ : va_D A (z_W (z_wB X b d d2 x360.2) X a D x352 [])) (_ : va_S A s.heap H locs) (ls : Array Slot) (_ : lv_has ls 9 []), W p l e (headSpec wsL_act (z_R2 8 160 1792 23296)).room s m ([.ref b, .ref a, .int v2] : List Value).toArray below meth c H locs 0 0 (MQ below (va_Qi (fun (z : Int32) (u : va_W) => z = RR.1 ∧ ∃ D1 : z_D, u = z_W (z_wB X b d d2 RR.2.1) X a D1 RR.2.2 []) (z_Bm X A) A) ([.ref b, .ref a, .int v2] : List Value).toArray s 1792 23296 A) (F0 m 380 ls [.int y372]) by
            have hf := ey372
            refine lv_icmp_ne (pc := 372) (tgt := 379) hx hb dL_act_372 (by decide) (fun c_372 => ?_) (fun c_372 => ?_)
            · replace hf := z_in c_372 hf
              refine lv_iconst (v := 0) (pc := 379) hx hb dL_act_379 (by decide) ?_
              obtain rfl := Option.some.inj hf
              exact jp_372 H locs hP hD hS ls (lv_sub hl [] rfl)
            · replace hf := z_ip c_372 hf
              refine lv_iconst (v := 1) (pc := 375) hx hb dL_act_375 (by decide) ?_
              refine lv_goto (pc := 376) (tgt := 380) hx hb dL_act_376 (by decide) ?_
              obtain rfl := Option.some.inj hf
              exact jp_372 H locs hP hD hS ls (lv_sub hl [] rfl)
          intro H locs hP hD hS ls hl
          refine W.widen (k := 1792) (n := 23296) (by omega) (by omega) ?_
          obtain ⟨x380, e380, hf⟩ := z_bd hf
          obtain ⟨e_bo, h_bo⟩ := z_bo_s e380
          exact W.zret (pc := 380) (v := y372) hx hb hr h_bo (fun t ht hW => ⟨⟨_, (z_W (z_wB X b d d2 x360.2) X a D x352 []), rfl, ⟨e_bo.trans (z_e1 hf), D, congrArg (fun z : z_B × z_Q => z_W (z_wB X b d d2 z.1) X a D z.2 []) (z_e2 hf)⟩, by rw [ht]; exact z_dropW hP, z_dropV hD⟩, hS.F ht⟩) hS.2.2 dL_act_380
        · replace hf := z_ip c_342 hf
          refine lv_iconst (v := 1) (pc := 345) hx hb dL_act_345 (by decide) ?_
          refine W.widen (k := 1792) (n := 23296) (by omega) (by omega) ?_
          exact W.zret (pc := 346) (v := 1) hx hb hr rfl (fun t ht hW => ⟨⟨_, (z_W (z_wB X b d d2 B) X a D Q []), rfl, ⟨z_e1 hf, D, congrArg (fun z : z_B × z_Q => z_W (z_wB X b d d2 z.1) X a D z.2 []) (z_e2 hf)⟩, by rw [ht]; exact z_dropW hP, z_dropV hD⟩, hS.F ht⟩) hS.2.2 dL_act_346
      replace hf := z_in c_163_7 hf
      by_cases c_163_8 : x19 = 8
      · replace hf := z_ip c_163_8 hf
        rw [c_163_8]
        refine lv_tableIn (pc := 163) (tgt := 381) (off := 218) hx hb dL_act_163 (by decide) (by decide) rfl (by decide) ?_
        refine lv_aload_n (pc := 381) hx hb dL_act_381 rfl (lv_at hl 6 rfl) ?_
        refine va_get (pc := 382) (ci := 5) (C := RX5) (T := TX5) (N := 9) (v := .ref D.1.1) hx hb hts in_X5 hown hK hP _ zg_0 rfl 0 (by decide) lk_fi9 (fun _ h9 => h9) rfl dL_act_382 ?_
        refine lv_iload (pc := 385) hx hb dL_act_385 (lv_at hl 0 rfl) ?_
        obtain ⟨x387, e387, hf⟩ := z_bd hf
        refine z_aald (pc := 387) hx hb hK hP _ 2 zg_1 rfl e387 dL_act_387 ?_
        refine lv_iconst (v := 5) (pc := 388) hx hb dL_act_388 (by decide) ?_
        refine z_iald (pc := 389) hx hb hK hP _ 0 (zg_r (z_ai_lt e387)) rfl (show z_at _ 5 _ = some (Q.2.1.2 x387 5) from rfl) dL_act_389 ?_
        obtain ⟨y390, ey390, hf⟩ := z_bd hf
        suffices jp_390 : ∀ (H : Heap) (locs : List Loc) (_ : va_P X.1 vwCl (z_W (z_wB X b d d2 B) X a D Q []) H) (_ : va_D A (z_W (z_wB X b d d2 B) X a D Q [])) (_ : va_S A s.heap H locs) (ls : Array Slot) (_ : lv_has ls 9 [(0, .ref b), (1, .ref a), (7, .int x156)]), W p l e (headSpec wsL_act (z_R2 8 160 1792 23296)).room s m ([.ref b, .ref a, .int v2] : List Value).toArray below meth c H locs 0 0 (MQ below (va_Qi (fun (z : Int32) (u : va_W) => z = RR.1 ∧ ∃ D1 : z_D, u = z_W (z_wB X b d d2 RR.2.1) X a D1 RR.2.2 []) (z_Bm X A) A) ([.ref b, .ref a, .int v2] : List Value).toArray s 1792 23296 A) (F0 m 398 ls [.int y390]) by
          have hf := ey390
          refine lv_if_ne (pc := 390) (tgt := 397) hx hb dL_act_390 (by decide) (fun c_390 => ?_) (fun c_390 => ?_)
          · replace hf := z_in c_390 hf
            refine lv_iconst (v := 0) (pc := 397) hx hb dL_act_397 (by decide) ?_
            obtain rfl := Option.some.inj hf
            exact jp_390 H locs hP hD hS ls (lv_sub hl [5, 6, 0] rfl)
          · replace hf := z_ip c_390 hf
            refine lv_iconst (v := 1) (pc := 393) hx hb dL_act_393 (by decide) ?_
            refine lv_goto (pc := 394) (tgt := 398) hx hb dL_act_394 (by decide) ?_
            obtain rfl := Option.some.inj hf
            exact jp_390 H locs hP hD hS ls (lv_sub hl [5, 6, 0] rfl)
        intro H locs hP hD hS ls hl
        refine lv_istore (pc := 398) (lv' := [(5, .int y390), (0, .ref b), (1, .ref a), (7, .int x156)]) hx hb dL_act_398 hl (by decide) rfl (fun ls hl => ?_)
        refine lv_aload_n (pc := 400) hx hb dL_act_400 rfl (lv_at hl 2 rfl) ?_
        refine va_get (pc := 401) (ci := 5) (C := RX5) (T := TX5) (N := 9) (v := .ref D.1.1) hx hb hts in_X5 hown hK hP _ zg_0 rfl 0 (by decide) lk_fi9 (fun _ h9 => h9) rfl dL_act_401 ?_
        refine lv_iload (pc := 404) hx hb dL_act_404 (lv_at hl 3 rfl) ?_
        refine z_aald (pc := 406) hx hb hK hP _ 2 zg_1 rfl e387 dL_act_406 ?_
        refine lv_iconst (v := 5) (pc := 407) hx hb dL_act_407 (by decide) ?_
        refine lv_iconst (v := 1) (pc := 408) hx hb dL_act_408 (by decide) ?_
        obtain ⟨x409, e409, hf⟩ := z_bd hf
        refine z_iast (pc := 409) (W1 := (z_W (z_wB X b d d2 B) X a D (z_qR Q x387 x409) [])) hx hb hK hP hD hS _ 0 (zg_r (z_ai_lt e387)) rfl e409 (zs_r (z_ai_lt e387)) dL_act_409 (fun H locs hP hD hS => ?_)
        refine lv_aload_n (pc := 410) hx hb dL_act_410 rfl (lv_at hl 1 rfl) ?_
        refine lv_iload (pc := 411) hx hb dL_act_411 (lv_at hl 3 rfl) ?_
        by_cases hx413 : x_X4_cut B x156 = some 1
        · replace hf := z_ip hx413 hf
          refine z_ctV (pc := 413) S (t_X4_cut l hl0 X b d d2 B x156 hx413) (cwV 1 hts gL_act_X4_cut rfl rfl rfl hdX4_cut ⟨Nat.le_of_ble_eq_true rfl, Nat.le_of_ble_eq_true rfl⟩) hP hK hN ((hT.kept (fun q h1 h2 => hS.2.1 q h1 h2)).narrow (fun _ h => h.elim)) z_S_L hS (ci := 4) rfl rfl rfl (show 0 + 1 ≤ 1792 ∧ 0 + 6 ≤ 23296 from ⟨by omega, by omega⟩) rfl hl.1 rfl (Nat.le_of_ble_eq_true rfl) dL_act_413 (fun ce q9 H locs hz1 hk1 hS hce hcv hcl => ?_)
          refine vx_catch (pc := 413) hown [⟨16, 151, 643, 83⟩, ⟨152, 306, 643, 83⟩, ⟨307, 327, 643, 83⟩, ⟨328, 346, 643, 83⟩, ⟨347, 380, 643, 83⟩] ⟨381, 433, 643, 83⟩ [⟨434, 487, 643, 83⟩, ⟨488, 541, 643, 83⟩, ⟨542, 593, 643, 83⟩, ⟨594, 642, 643, 83⟩] (htab.trans rfl) (fun z hz => Or.inl ((by decide : ∀ z ∈ ([⟨16, 151, 643, 83⟩, ⟨152, 306, 643, 83⟩, ⟨307, 327, 643, 83⟩, ⟨328, 346, 643, 83⟩, ⟨347, 380, 643, 83⟩] : List ExceptionTableEntry), covers z 413 = false) z hz)) rfl (by decide) lk_cl83 (va_Nw.use rfl (hT.1.2.1 1 (by decide))) hce hcv hcl ?_
          have hP : va_P X.1 vwCl (z_W (z_wB X b d d2 B) X a D (z_qR Q x387 x409) []) H := hP.kept (fun k q hk => hk1 q.1 ((hP k q hk).lt))
          refine lv_astore (pc := 643) (lv' := [(6, .ref q9), (5, .int y390), (0, .ref b), (1, .ref a), (7, .int x156)]) hx hb dL_act_643 hl (by decide) rfl (fun ls hl => ?_)
          refine lv_iload (pc := 645) hx hb dL_act_645 (lv_at hl 1 rfl) ?_
          obtain ⟨y647, ey647, hf⟩ := z_bd hf
          suffices jp_647 : ∀ (H : Heap) (locs : List Loc) (_ : va_P X.1 vwCl (z_W (z_wB X b d d2 B) X a D (z_qR Q x387 x409) []) H) (_ : va_D A (z_W (z_wB X b d d2 B) X a D (z_qR Q x387 x409) [])) (_ : va_S A s.heap H locs) (ls : Array Slot) (_ : lv_has ls 9 []), W p l e (headSpec wsL_act (z_R2 8 160 1792 23296)).room s m ([.ref b, .ref a, .int v2] : List Value).toArray below meth c H locs (0 + 1) (0 + 6) (MQ below (va_Qi (fun (z : Int32) (u : va_W) => z = RR.1 ∧ ∃ D1 : z_D, u = z_W (z_wB X b d d2 RR.2.1) X a D1 RR.2.2 []) (z_Bm X A) A) ([.ref b, .ref a, .int v2] : List Value).toArray s 1792 23296 A) (F0 m 655 ls [.int y647]) by
            have hf := ey647
            refine lv_if_ne (pc := 647) (tgt := 654) hx hb dL_act_647 (by decide) (fun c_647 => ?_) (fun c_647 => ?_)
            · replace hf := z_in c_647 hf
              refine lv_iconst (v := 0) (pc := 654) hx hb dL_act_654 (by decide) ?_
              obtain rfl := Option.some.inj hf
              exact jp_647 H locs hP hD hS ls (lv_sub hl [] rfl)
            · replace hf := z_ip c_647 hf
              refine lv_iconst (v := 1) (pc := 650) hx hb dL_act_650 (by decide) ?_
              refine lv_goto (pc := 651) (tgt := 655) hx hb dL_act_651 (by decide) ?_
              obtain rfl := Option.some.inj hf
              exact jp_647 H locs hP hD hS ls (lv_sub hl [] rfl)
          intro H locs hP hD hS ls hl
          refine W.widen (k := 1792) (n := 23296) (by omega) (by omega) ?_
          obtain ⟨x655, e655, hf⟩ := z_bd hf
          obtain ⟨e_bo, h_bo⟩ := z_bo_s e655
          exact W.zret (pc := 655) (v := y647) hx hb hr h_bo (fun t ht hW => ⟨⟨_, (z_W (z_wB X b d d2 B) X a D (z_qR Q x387 x409) []), rfl, ⟨e_bo.trans (z_e1 hf), D, congrArg (fun z : z_B × z_Q => z_W (z_wB X b d d2 z.1) X a D z.2 []) (z_e2 hf)⟩, by rw [ht]; exact z_dropW hP, z_dropV hD⟩, hS.F ht⟩) hS.2.2 dL_act_655
        replace hf := z_in hx413 hf
        obtain ⟨x413, e413, hf⟩ := z_bd hf
        refine z_cbI (pc := 413) (wr := ((z_wS X a D (z_qR Q x387 x409)) ++ [])) S (m_X4_cut l X b d d2 B x156 e413) (cwV 1 hts gL_act_X4_cut rfl rfl rfl hdX4_cut ⟨Nat.le_of_ble_eq_true rfl, Nat.le_of_ble_eq_true rfl⟩) hP hK hN hD hS hA (ci := 4) rfl rfl rfl (show 0 ≤ 1792 ∧ 0 ≤ 23296 from ⟨by omega, by omega⟩) rfl hl.1 rfl (Nat.le_of_ble_eq_true rfl) dL_act_413 (fun H locs hP hD hS => ?_)
        have hP : va_P X.1 vwCl (z_W (z_wB X b d d2 x413.2) X a D (z_qR Q x387 x409) []) H := hP
        have hD : va_D A (z_W (z_wB X b d d2 x413.2) X a D (z_qR Q x387 x409) []) := hD
        refine lv_aload_n (pc := 416) hx hb dL_act_416 rfl (lv_at hl 2 rfl) ?_
        obtain ⟨x417, e417, hf⟩ := z_bd hf
        refine z_cpI (pc := 417) S (m_X5_cut l X a D (z_qR Q x387 x409)  e417) (cwV 0 hts gL_act_X5_cut rfl rfl rfl hdX5_cut ⟨Nat.le_of_ble_eq_true rfl, Nat.le_of_ble_eq_true rfl⟩) hP hK hN z_S_W (ci := 5) rfl rfl rfl (show 0 ≤ 1792 ∧ 0 ≤ 23296 from ⟨by omega, by omega⟩) rfl hl.1 rfl (Nat.le_of_ble_eq_true rfl) dL_act_417 ?_
        obtain ⟨y420, ey420, hf⟩ := z_bd hf
        suffices jp_420 : ∀ (H : Heap) (locs : List Loc) (_ : va_P X.1 vwCl (z_W (z_wB X b d d2 x413.2) X a D (z_qR Q x387 x409) []) H) (_ : va_D A (z_W (z_wB X b d d2 x413.2) X a D (z_qR Q x387 x409) [])) (_ : va_S A s.heap H locs) (ls : Array Slot) (_ : lv_has ls 9 []), W p l e (headSpec wsL_act (z_R2 8 160 1792 23296)).room s m ([.ref b, .ref a, .int v2] : List Value).toArray below meth c H locs 0 0 (MQ below (va_Qi (fun (z : Int32) (u : va_W) => z = RR.1 ∧ ∃ D1 : z_D, u = z_W (z_wB X b d d2 RR.2.1) X a D1 RR.2.2 []) (z_Bm X A) A) ([.ref b, .ref a, .int v2] : List Value).toArray s 1792 23296 A) (F0 m 433 ls [.int y420]) by
          have hf := ey420
          refine lv_icmp_ne (pc := 420) (tgt := 432) hx hb dL_act_420 (by decide) (fun c_420 => ?_) (fun c_420 => ?_)
          · replace hf := z_in c_420 hf
            refine lv_iconst (v := 0) (pc := 432) hx hb dL_act_432 (by decide) ?_
            obtain rfl := Option.some.inj hf
            exact jp_420 H locs hP hD hS ls (lv_sub hl [] rfl)
          · replace hf := z_ip c_420 hf
            refine lv_iload (pc := 423) hx hb dL_act_423 (lv_at hl 0 rfl) ?_
            refine lv_if_eq (pc := 425) (tgt := 432) hx hb dL_act_425 (by decide) (fun c_425 => ?_) (fun c_425 => ?_)
            · replace hf := z_ip c_425 hf
              refine lv_iconst (v := 0) (pc := 432) hx hb dL_act_432 (by decide) ?_
              obtain rfl := Option.some.inj hf
              exact jp_420 H locs hP hD hS ls (lv_sub hl [] rfl)
            · replace hf := z_in c_425 hf
              refine lv_iconst (v := 1) (pc := 428) hx hb dL_act_428 (by decide) ?_
              refine lv_goto (pc := 429) (tgt := 433) hx hb dL_act_429 (by decide) ?_
              obtain rfl := Option.some.inj hf
              exact jp_420 H locs hP hD hS ls (lv_sub hl [] rfl)
        intro H locs hP hD hS ls hl
        refine W.widen (k := 1792) (n := 23296) (by omega) (by omega) ?_
        obtain ⟨x433, e433, hf⟩ := z_bd hf
        obtain ⟨e_bo, h_bo⟩ := z_bo_s e433
        exact W.zret (pc := 433) (v := y420) hx hb hr h_bo (fun t ht hW => ⟨⟨_, (z_W (z_wB X b d d2 x413.2) X a D (z_qR Q x387 x409) []), rfl, ⟨e_bo.trans (z_e1 hf), D, congrArg (fun z : z_B × z_Q => z_W (z_wB X b d d2 z.1) X a D z.2 []) (z_e2 hf)⟩, by rw [ht]; exact z_dropW hP, z_dropV hD⟩, hS.F ht⟩) hS.2.2 dL_act_433
      replace hf := z_in c_163_8 hf
      by_cases c_163_9 : x19 = 9
      · replace hf := z_ip c_163_9 hf
        rw [c_163_9]
        refine lv_tableIn (pc := 163) (tgt := 434) (off := 271) hx hb dL_act_163 (by decide) (by decide) rfl (by decide) ?_
        refine lv_aload_n (pc := 434) hx hb dL_act_434 rfl (lv_at hl 6 rfl) ?_
        refine va_get (pc := 435) (ci := 5) (C := RX5) (T := TX5) (N := 9) (v := .ref D.1.1) hx hb hts in_X5 hown hK hP _ zg_0 rfl 0 (by decide) lk_fi9 (fun _ h9 => h9) rfl dL_act_435 ?_
        refine lv_iload (pc := 438) hx hb dL_act_438 (lv_at hl 0 rfl) ?_
        obtain ⟨x440, e440, hf⟩ := z_bd hf
        refine z_aald (pc := 440) hx hb hK hP _ 2 zg_1 rfl e440 dL_act_440 ?_
        refine lv_iconst (v := 5) (pc := 441) hx hb dL_act_441 (by decide) ?_
        refine z_iald (pc := 442) hx hb hK hP _ 0 (zg_r (z_ai_lt e440)) rfl (show z_at _ 5 _ = some (Q.2.1.2 x440 5) from rfl) dL_act_442 ?_
        refine lv_iconst (v := 1) (pc := 443) hx hb dL_act_443 (by decide) ?_
        obtain ⟨y444, ey444, hf⟩ := z_bd hf
        suffices jp_444 : ∀ (H : Heap) (locs : List Loc) (_ : va_P X.1 vwCl (z_W (z_wB X b d d2 B) X a D Q []) H) (_ : va_D A (z_W (z_wB X b d d2 B) X a D Q [])) (_ : va_S A s.heap H locs) (ls : Array Slot) (_ : lv_has ls 9 [(0, .ref b), (1, .ref a), (7, .int x156)]), W p l e (headSpec wsL_act (z_R2 8 160 1792 23296)).room s m ([.ref b, .ref a, .int v2] : List Value).toArray below meth c H locs 0 0 (MQ below (va_Qi (fun (z : Int32) (u : va_W) => z = RR.1 ∧ ∃ D1 : z_D, u = z_W (z_wB X b d d2 RR.2.1) X a D1 RR.2.2 []) (z_Bm X A) A) ([.ref b, .ref a, .int v2] : List Value).toArray s 1792 23296 A) (F0 m 452 ls [.int y444]) by
          have hf := ey444
          refine lv_icmp_ne (pc := 444) (tgt := 451) hx hb dL_act_444 (by decide) (fun c_444 => ?_) (fun c_444 => ?_)
          · replace hf := z_in c_444 hf
            refine lv_iconst (v := 0) (pc := 451) hx hb dL_act_451 (by decide) ?_
            obtain rfl := Option.some.inj hf
            exact jp_444 H locs hP hD hS ls (lv_sub hl [5, 6, 0] rfl)
          · replace hf := z_ip c_444 hf
            refine lv_iconst (v := 1) (pc := 447) hx hb dL_act_447 (by decide) ?_
            refine lv_goto (pc := 448) (tgt := 452) hx hb dL_act_448 (by decide) ?_
            obtain rfl := Option.some.inj hf
            exact jp_444 H locs hP hD hS ls (lv_sub hl [5, 6, 0] rfl)
        intro H locs hP hD hS ls hl
        refine lv_istore (pc := 452) (lv' := [(5, .int y444), (0, .ref b), (1, .ref a), (7, .int x156)]) hx hb dL_act_452 hl (by decide) rfl (fun ls hl => ?_)
        refine lv_aload_n (pc := 454) hx hb dL_act_454 rfl (lv_at hl 2 rfl) ?_
        refine va_get (pc := 455) (ci := 5) (C := RX5) (T := TX5) (N := 9) (v := .ref D.1.1) hx hb hts in_X5 hown hK hP _ zg_0 rfl 0 (by decide) lk_fi9 (fun _ h9 => h9) rfl dL_act_455 ?_
        refine lv_iload (pc := 458) hx hb dL_act_458 (lv_at hl 3 rfl) ?_
        refine z_aald (pc := 460) hx hb hK hP _ 2 zg_1 rfl e440 dL_act_460 ?_
        refine lv_iconst (v := 5) (pc := 461) hx hb dL_act_461 (by decide) ?_
        refine lv_iconst (v := 0) (pc := 462) hx hb dL_act_462 (by decide) ?_
        obtain ⟨x463, e463, hf⟩ := z_bd hf
        refine z_iast (pc := 463) (W1 := (z_W (z_wB X b d d2 B) X a D (z_qR Q x440 x463) [])) hx hb hK hP hD hS _ 0 (zg_r (z_ai_lt e440)) rfl e463 (zs_r (z_ai_lt e440)) dL_act_463 (fun H locs hP hD hS => ?_)
        refine lv_aload_n (pc := 464) hx hb dL_act_464 rfl (lv_at hl 1 rfl) ?_
        refine lv_iload (pc := 465) hx hb dL_act_465 (lv_at hl 3 rfl) ?_
        by_cases hx467 : x_X4_mend B x156 = some 1
        · replace hf := z_ip hx467 hf
          refine z_ctV (pc := 467) S (t_X4_mend l hl0 X b d d2 B x156 hx467) (cwV 1 hts gL_act_X4_mend rfl rfl rfl hdX4_mend ⟨Nat.le_of_ble_eq_true rfl, Nat.le_of_ble_eq_true rfl⟩) hP hK hN ((hT.kept (fun q h1 h2 => hS.2.1 q h1 h2)).narrow (fun _ h => h.elim)) z_S_L hS (ci := 4) rfl rfl rfl (show 0 + 1 ≤ 1792 ∧ 0 + 6 ≤ 23296 from ⟨by omega, by omega⟩) rfl hl.1 rfl (Nat.le_of_ble_eq_true rfl) dL_act_467 (fun ce q9 H locs hz1 hk1 hS hce hcv hcl => ?_)
          refine vx_catch (pc := 467) hown [⟨16, 151, 643, 83⟩, ⟨152, 306, 643, 83⟩, ⟨307, 327, 643, 83⟩, ⟨328, 346, 643, 83⟩, ⟨347, 380, 643, 83⟩, ⟨381, 433, 643, 83⟩] ⟨434, 487, 643, 83⟩ [⟨488, 541, 643, 83⟩, ⟨542, 593, 643, 83⟩, ⟨594, 642, 643, 83⟩] (htab.trans rfl) (fun z hz => Or.inl ((by decide : ∀ z ∈ ([⟨16, 151, 643, 83⟩, ⟨152, 306, 643, 83⟩, ⟨307, 327, 643, 83⟩, ⟨328, 346, 643, 83⟩, ⟨347, 380, 643, 83⟩, ⟨381, 433, 643, 83⟩] : List ExceptionTableEntry), covers z 467 = false) z hz)) rfl (by decide) lk_cl83 (va_Nw.use rfl (hT.1.2.1 1 (by decide))) hce hcv hcl ?_
          have hP : va_P X.1 vwCl (z_W (z_wB X b d d2 B) X a D (z_qR Q x440 x463) []) H := hP.kept (fun k q hk => hk1 q.1 ((hP k q hk).lt))
          refine lv_astore (pc := 643) (lv' := [(6, .ref q9), (5, .int y444), (0, .ref b), (1, .ref a), (7, .int x156)]) hx hb dL_act_643 hl (by decide) rfl (fun ls hl => ?_)
          refine lv_iload (pc := 645) hx hb dL_act_645 (lv_at hl 1 rfl) ?_
          obtain ⟨y647, ey647, hf⟩ := z_bd hf
          suffices jp_647 : ∀ (H : Heap) (locs : List Loc) (_ : va_P X.1 vwCl (z_W (z_wB X b d d2 B) X a D (z_qR Q x440 x463) []) H) (_ : va_D A (z_W (z_wB X b d d2 B) X a D (z_qR Q x440 x463) [])) (_ : va_S A s.heap H locs) (ls : Array Slot) (_ : lv_has ls 9 []), W p l e (headSpec wsL_act (z_R2 8 160 1792 23296)).room s m ([.ref b, .ref a, .int v2] : List Value).toArray below meth c H locs (0 + 1) (0 + 6) (MQ below (va_Qi (fun (z : Int32) (u : va_W) => z = RR.1 ∧ ∃ D1 : z_D, u = z_W (z_wB X b d d2 RR.2.1) X a D1 RR.2.2 []) (z_Bm X A) A) ([.ref b, .ref a, .int v2] : List Value).toArray s 1792 23296 A) (F0 m 655 ls [.int y647]) by
            have hf := ey647
            refine lv_if_ne (pc := 647) (tgt := 654) hx hb dL_act_647 (by decide) (fun c_647 => ?_) (fun c_647 => ?_)
            · replace hf := z_in c_647 hf
              refine lv_iconst (v := 0) (pc := 654) hx hb dL_act_654 (by decide) ?_
              obtain rfl := Option.some.inj hf
              exact jp_647 H locs hP hD hS ls (lv_sub hl [] rfl)
            · replace hf := z_ip c_647 hf
              refine lv_iconst (v := 1) (pc := 650) hx hb dL_act_650 (by decide) ?_
              refine lv_goto (pc := 651) (tgt := 655) hx hb dL_act_651 (by decide) ?_
              obtain rfl := Option.some.inj hf
              exact jp_647 H locs hP hD hS ls (lv_sub hl [] rfl)
          intro H locs hP hD hS ls hl
          refine W.widen (k := 1792) (n := 23296) (by omega) (by omega) ?_
          obtain ⟨x655, e655, hf⟩ := z_bd hf
          obtain ⟨e_bo, h_bo⟩ := z_bo_s e655
          exact W.zret (pc := 655) (v := y647) hx hb hr h_bo (fun t ht hW => ⟨⟨_, (z_W (z_wB X b d d2 B) X a D (z_qR Q x440 x463) []), rfl, ⟨e_bo.trans (z_e1 hf), D, congrArg (fun z : z_B × z_Q => z_W (z_wB X b d d2 z.1) X a D z.2 []) (z_e2 hf)⟩, by rw [ht]; exact z_dropW hP, z_dropV hD⟩, hS.F ht⟩) hS.2.2 dL_act_655
        replace hf := z_in hx467 hf
        obtain ⟨x467, e467, hf⟩ := z_bd hf
        refine z_cbI (pc := 467) (wr := ((z_wS X a D (z_qR Q x440 x463)) ++ [])) S (m_X4_mend l X b d d2 B x156 e467) (cwV 1 hts gL_act_X4_mend rfl rfl rfl hdX4_mend ⟨Nat.le_of_ble_eq_true rfl, Nat.le_of_ble_eq_true rfl⟩) hP hK hN hD hS hA (ci := 4) rfl rfl rfl (show 0 ≤ 1792 ∧ 0 ≤ 23296 from ⟨by omega, by omega⟩) rfl hl.1 rfl (Nat.le_of_ble_eq_true rfl) dL_act_467 (fun H locs hP hD hS => ?_)
        have hP : va_P X.1 vwCl (z_W (z_wB X b d d2 x467.2) X a D (z_qR Q x440 x463) []) H := hP
        have hD : va_D A (z_W (z_wB X b d d2 x467.2) X a D (z_qR Q x440 x463) []) := hD
        refine lv_aload_n (pc := 470) hx hb dL_act_470 rfl (lv_at hl 2 rfl) ?_
        obtain ⟨x471, e471, hf⟩ := z_bd hf
        refine z_cpI (pc := 471) S (m_X5_cut l X a D (z_qR Q x440 x463)  e471) (cwV 0 hts gL_act_X5_cut rfl rfl rfl hdX5_cut ⟨Nat.le_of_ble_eq_true rfl, Nat.le_of_ble_eq_true rfl⟩) hP hK hN z_S_W (ci := 5) rfl rfl rfl (show 0 ≤ 1792 ∧ 0 ≤ 23296 from ⟨by omega, by omega⟩) rfl hl.1 rfl (Nat.le_of_ble_eq_true rfl) dL_act_471 ?_
        obtain ⟨y474, ey474, hf⟩ := z_bd hf
        suffices jp_474 : ∀ (H : Heap) (locs : List Loc) (_ : va_P X.1 vwCl (z_W (z_wB X b d d2 x467.2) X a D (z_qR Q x440 x463) []) H) (_ : va_D A (z_W (z_wB X b d d2 x467.2) X a D (z_qR Q x440 x463) [])) (_ : va_S A s.heap H locs) (ls : Array Slot) (_ : lv_has ls 9 []), W p l e (headSpec wsL_act (z_R2 8 160 1792 23296)).room s m ([.ref b, .ref a, .int v2] : List Value).toArray below meth c H locs 0 0 (MQ below (va_Qi (fun (z : Int32) (u : va_W) => z = RR.1 ∧ ∃ D1 : z_D, u = z_W (z_wB X b d d2 RR.2.1) X a D1 RR.2.2 []) (z_Bm X A) A) ([.ref b, .ref a, .int v2] : List Value).toArray s 1792 23296 A) (F0 m 487 ls [.int y474]) by
          have hf := ey474
          refine lv_icmp_ne (pc := 474) (tgt := 486) hx hb dL_act_474 (by decide) (fun c_474 => ?_) (fun c_474 => ?_)
          · replace hf := z_in c_474 hf
            refine lv_iconst (v := 0) (pc := 486) hx hb dL_act_486 (by decide) ?_
            obtain rfl := Option.some.inj hf
            exact jp_474 H locs hP hD hS ls (lv_sub hl [] rfl)
          · replace hf := z_ip c_474 hf
            refine lv_iload (pc := 477) hx hb dL_act_477 (lv_at hl 0 rfl) ?_
            refine lv_if_eq (pc := 479) (tgt := 486) hx hb dL_act_479 (by decide) (fun c_479 => ?_) (fun c_479 => ?_)
            · replace hf := z_ip c_479 hf
              refine lv_iconst (v := 0) (pc := 486) hx hb dL_act_486 (by decide) ?_
              obtain rfl := Option.some.inj hf
              exact jp_474 H locs hP hD hS ls (lv_sub hl [] rfl)
            · replace hf := z_in c_479 hf
              refine lv_iconst (v := 1) (pc := 482) hx hb dL_act_482 (by decide) ?_
              refine lv_goto (pc := 483) (tgt := 487) hx hb dL_act_483 (by decide) ?_
              obtain rfl := Option.some.inj hf
              exact jp_474 H locs hP hD hS ls (lv_sub hl [] rfl)
        intro H locs hP hD hS ls hl
        refine W.widen (k := 1792) (n := 23296) (by omega) (by omega) ?_
        obtain ⟨x487, e487, hf⟩ := z_bd hf
        obtain ⟨e_bo, h_bo⟩ := z_bo_s e487
        exact W.zret (pc := 487) (v := y474) hx hb hr h_bo (fun t ht hW => ⟨⟨_, (z_W (z_wB X b d d2 x467.2) X a D (z_qR Q x440 x463) []), rfl, ⟨e_bo.trans (z_e1 hf), D, congrArg (fun z : z_B × z_Q => z_W (z_wB X b d d2 z.1) X a D z.2 []) (z_e2 hf)⟩, by rw [ht]; exact z_dropW hP, z_dropV hD⟩, hS.F ht⟩) hS.2.2 dL_act_487
      replace hf := z_in c_163_9 hf
      by_cases c_163_10 : x19 = 10
      · replace hf := z_ip c_163_10 hf
        rw [c_163_10]
        refine lv_tableIn (pc := 163) (tgt := 488) (off := 325) hx hb dL_act_163 (by decide) (by decide) rfl (by decide) ?_
        refine lv_aload_n (pc := 488) hx hb dL_act_488 rfl (lv_at hl 6 rfl) ?_
        refine va_get (pc := 489) (ci := 5) (C := RX5) (T := TX5) (N := 9) (v := .int (Q.1 1)) hx hb hts in_X5 hown hK hP _ zg_0 rfl 4 (by decide) lk_fi58 (fun _ h9 => h9) rfl dL_act_489 ?_
        refine lv_istore (pc := 492) (lv' := [(8, .int (Q.1 1)), (7, .int x156), (6, .int x19), (5, .int 1), (4, .int (nI Q.2.2.1.1)), (3, .int (nI Q.2.1.1)), (0, .ref b), (1, .ref a), (2, .int v2)]) hx hb dL_act_492 hl (by decide) rfl (fun ls hl => ?_)
        refine lv_aload_n (pc := 494) hx hb dL_act_494 rfl (lv_at hl 7 rfl) ?_
        refine lv_iload_n (pc := 495) hx hb dL_act_495 rfl (lv_at hl 8 rfl) ?_
        refine lv_iconst (v := 5) (pc := 496) hx hb dL_act_496 (by decide) ?_
        refine lv_ishr (pc := 497) hx hb dL_act_497 ?_
        refine lv_iload_n (pc := 498) hx hb dL_act_498 rfl (lv_at hl 8 rfl) ?_
        refine lv_bipush (v := 9) (pc := 499) hx hb dL_act_499 (by decide) ?_
        refine lv_ishr (pc := 501) hx hb dL_act_501 ?_
        refine lv_iconst (v := 2) (pc := 502) hx hb dL_act_502 (by decide) ?_
        obtain ⟨x503, e503, hf⟩ := z_bd hf
        refine z_csI (pc := 503) S (m_L_below l X (v2 >>> (9 &&& 31)) 2 e503) (va_cwS 2 hts gL_act_L_below rfl rfl rfl hdL_below ⟨Nat.le_of_ble_eq_true rfl, Nat.le_of_ble_eq_true rfl⟩) hP hK hN (s_nil _) (show 0 ≤ 1792 ∧ 0 ≤ 23296 from ⟨by omega, by omega⟩) rfl hl.1 rfl (Nat.le_of_ble_eq_true rfl) dL_act_503 ?_
        obtain ⟨y506, ey506, hf⟩ := z_bd hf
        suffices jp_506 : ∀ (H : Heap) (locs : List Loc) (_ : va_P X.1 vwCl (z_W (z_wB X b d d2 B) X a D Q []) H) (_ : va_D A (z_W (z_wB X b d d2 B) X a D Q [])) (_ : va_S A s.heap H locs) (ls : Array Slot) (_ : lv_has ls 9 [(0, .ref b), (1, .ref a), (5, .int 1), (8, .int (Q.1 1))]), W p l e (headSpec wsL_act (z_R2 8 160 1792 23296)).room s m ([.ref b, .ref a, .int v2] : List Value).toArray below meth c H locs 0 0 (MQ below (va_Qi (fun (z : Int32) (u : va_W) => z = RR.1 ∧ ∃ D1 : z_D, u = z_W (z_wB X b d d2 RR.2.1) X a D1 RR.2.2 []) (z_Bm X A) A) ([.ref b, .ref a, .int v2] : List Value).toArray s 1792 23296 A) (F0 m 517 ls [.int y506, .int (v2 >>> (5 &&& 31)), .ref a]) by
          have hf := ey506
          refine lv_if_ne (pc := 506) (tgt := 515) hx hb dL_act_506 (by decide) (fun c_506 => ?_) (fun c_506 => ?_)
          · replace hf := z_in c_506 hf
            refine lv_bipush (v := 30) (pc := 515) hx hb dL_act_515 (by decide) ?_
            obtain rfl := Option.some.inj hf
            exact jp_506 H locs hP hD hS ls (lv_sub hl [6, 7, 3, 0] rfl)
          · replace hf := z_ip c_506 hf
            refine lv_sipush (v := 501) (pc := 509) hx hb dL_act_509 (by decide) ?_
            refine lv_goto (pc := 512) (tgt := 517) hx hb dL_act_512 (by decide) ?_
            obtain rfl := Option.some.inj hf
            exact jp_506 H locs hP hD hS ls (lv_sub hl [6, 7, 3, 0] rfl)
        intro H locs hP hD hS ls hl
        obtain ⟨x517, e517, hf⟩ := z_bd hf
        refine z_csI (pc := 517) S (m_L_below l X (v2 >>> (5 &&& 31)) y506 e517) (va_cwS 2 hts gL_act_L_below rfl rfl rfl hdL_below ⟨Nat.le_of_ble_eq_true rfl, Nat.le_of_ble_eq_true rfl⟩) hP hK hN (s_nil _) (show 0 ≤ 1792 ∧ 0 ≤ 23296 from ⟨by omega, by omega⟩) rfl hl.1 rfl (Nat.le_of_ble_eq_true rfl) dL_act_517 ?_
        refine z_put (pc := 520) (ci := 5) (C := RX5) (T := TX5) (N := 9) (W1 := (z_W (z_wB X b d d2 B) X a D (z_qS Q 1 x517) [])) hx hb hts in_X5 tyX5 tyX5_ok nmX5 hown hK hP hD hS _ zg_0 rfl 4 (by decide) lk_fi58 (fun _ h9 => h9) rfl (by decide +kernel) (Nat.le_of_ble_eq_true rfl) dL_act_520 (zs_0 (j := 1) rfl) (fun H locs hP hD hS => ?_)
        refine lv_aload_n (pc := 523) hx hb dL_act_523 rfl (lv_at hl 0 rfl) ?_
        refine lv_aload_n (pc := 524) hx hb dL_act_524 rfl (lv_at hl 1 rfl) ?_
        refine va_get (pc := 525) (ci := 5) (C := RX5) (T := TX5) (N := 9) (v := .int x517) hx hb hts in_X5 hown hK hP _ zg_0 rfl 4 (by decide) lk_fi58 (fun _ h9 => h9) rfl dL_act_525 ?_
        obtain ⟨x528, e528, hf⟩ := z_bd hf
        refine z_cbI (pc := 528) (wr := ((z_wS X a D (z_qS Q 1 x517)) ++ [])) S (m_X4_recharge l X b d d2 B x517 e528) (cwV 1 hts gL_act_X4_recharge rfl rfl rfl hdX4_recharge ⟨Nat.le_of_ble_eq_true rfl, Nat.le_of_ble_eq_true rfl⟩) hP hK hN hD hS hA (ci := 4) rfl rfl rfl (show 0 ≤ 1792 ∧ 0 ≤ 23296 from ⟨by omega, by omega⟩) rfl hl.1 rfl (Nat.le_of_ble_eq_true rfl) dL_act_528 (fun H locs hP hD hS => ?_)
        have hP : va_P X.1 vwCl (z_W (z_wB X b d d2 x528.2) X a D (z_qS Q 1 x517) []) H := hP
        have hD : va_D A (z_W (z_wB X b d d2 x528.2) X a D (z_qS Q 1 x517) []) := hD
        refine lv_iload (pc := 531) hx hb dL_act_531 (lv_at hl 3 rfl) ?_
        obtain ⟨y533, ey533, hf⟩ := z_bd hf
        suffices jp_533 : ∀ (H : Heap) (locs : List Loc) (_ : va_P X.1 vwCl (z_W (z_wB X b d d2 x528.2) X a D (z_qS Q 1 x517) []) H) (_ : va_D A (z_W (z_wB X b d d2 x528.2) X a D (z_qS Q 1 x517) [])) (_ : va_S A s.heap H locs) (ls : Array Slot) (_ : lv_has ls 9 []), W p l e (headSpec wsL_act (z_R2 8 160 1792 23296)).room s m ([.ref b, .ref a, .int v2] : List Value).toArray below meth c H locs 0 0 (MQ below (va_Qi (fun (z : Int32) (u : va_W) => z = RR.1 ∧ ∃ D1 : z_D, u = z_W (z_wB X b d d2 RR.2.1) X a D1 RR.2.2 []) (z_Bm X A) A) ([.ref b, .ref a, .int v2] : List Value).toArray s 1792 23296 A) (F0 m 541 ls [.int y533]) by
          have hf := ey533
          refine lv_icmp_ne (pc := 533) (tgt := 540) hx hb dL_act_533 (by decide) (fun c_533 => ?_) (fun c_533 => ?_)
          · replace hf := z_in c_533 hf
            refine lv_iconst (v := 0) (pc := 540) hx hb dL_act_540 (by decide) ?_
            obtain rfl := Option.some.inj hf
            exact jp_533 H locs hP hD hS ls (lv_sub hl [] rfl)
          · replace hf := z_ip c_533 hf
            refine lv_iconst (v := 1) (pc := 536) hx hb dL_act_536 (by decide) ?_
            refine lv_goto (pc := 537) (tgt := 541) hx hb dL_act_537 (by decide) ?_
            obtain rfl := Option.some.inj hf
            exact jp_533 H locs hP hD hS ls (lv_sub hl [] rfl)
        intro H locs hP hD hS ls hl
        refine W.widen (k := 1792) (n := 23296) (by omega) (by omega) ?_
        obtain ⟨x541, e541, hf⟩ := z_bd hf
        obtain ⟨e_bo, h_bo⟩ := z_bo_s e541
        exact W.zret (pc := 541) (v := y533) hx hb hr h_bo (fun t ht hW => ⟨⟨_, (z_W (z_wB X b d d2 x528.2) X a D (z_qS Q 1 x517) []), rfl, ⟨e_bo.trans (z_e1 hf), D, congrArg (fun z : z_B × z_Q => z_W (z_wB X b d d2 z.1) X a D z.2 []) (z_e2 hf)⟩, by rw [ht]; exact z_dropW hP, z_dropV hD⟩, hS.F ht⟩) hS.2.2 dL_act_541
      replace hf := z_in c_163_10 hf
      by_cases c_163_11 : x19 = 11
      · replace hf := z_ip c_163_11 hf
        rw [c_163_11]
        refine lv_tableIn (pc := 163) (tgt := 542) (off := 379) hx hb dL_act_163 (by decide) (by decide) rfl (by decide) ?_
        refine lv_aload_n (pc := 542) hx hb dL_act_542 rfl (lv_at hl 6 rfl) ?_
        refine lv_iload (pc := 543) hx hb dL_act_543 (lv_at hl 0 rfl) ?_
        obtain ⟨x545, e545, hf⟩ := z_bd hf
        refine z_cpI (pc := 545) S (m_X5_place l X a D Q x156 e545) (cwV 1 hts gL_act_X5_place rfl rfl rfl hdX5_place ⟨Nat.le_of_ble_eq_true rfl, Nat.le_of_ble_eq_true rfl⟩) hP hK hN z_S_W (ci := 5) rfl rfl rfl (show 0 ≤ 1792 ∧ 0 ≤ 23296 from ⟨by omega, by omega⟩) rfl hl.1 rfl (Nat.le_of_ble_eq_true rfl) dL_act_545 ?_
        obtain ⟨y548, ey548, hf⟩ := z_bd hf
        suffices jp_548 : ∀ (H : Heap) (locs : List Loc) (_ : va_P X.1 vwCl (z_W (z_wB X b d d2 B) X a D Q []) H) (_ : va_D A (z_W (z_wB X b d d2 B) X a D Q [])) (_ : va_S A s.heap H locs) (ls : Array Slot) (_ : lv_has ls 9 [(0, .ref b), (1, .ref a), (7, .int x156)]), W p l e (headSpec wsL_act (z_R2 8 160 1792 23296)).room s m ([.ref b, .ref a, .int v2] : List Value).toArray below meth c H locs 0 0 (MQ below (va_Qi (fun (z : Int32) (u : va_W) => z = RR.1 ∧ ∃ D1 : z_D, u = z_W (z_wB X b d d2 RR.2.1) X a D1 RR.2.2 []) (z_Bm X A) A) ([.ref b, .ref a, .int v2] : List Value).toArray s 1792 23296 A) (F0 m 556 ls [.int y548]) by
          have hf := ey548
          refine lv_if_lt (pc := 548) (tgt := 555) hx hb dL_act_548 (by decide) (fun c_548 => ?_) (fun c_548 => ?_)
          · replace hf := z_ip c_548 hf
            refine lv_iconst (v := 0) (pc := 555) hx hb dL_act_555 (by decide) ?_
            obtain rfl := Option.some.inj hf
            exact jp_548 H locs hP hD hS ls (lv_sub hl [5, 6, 0] rfl)
          · replace hf := z_in c_548 hf
            refine lv_iconst (v := 1) (pc := 551) hx hb dL_act_551 (by decide) ?_
            refine lv_goto (pc := 552) (tgt := 556) hx hb dL_act_552 (by decide) ?_
            obtain rfl := Option.some.inj hf
            exact jp_548 H locs hP hD hS ls (lv_sub hl [5, 6, 0] rfl)
        intro H locs hP hD hS ls hl
        refine lv_istore (pc := 556) (lv' := [(5, .int y548), (0, .ref b), (1, .ref a), (7, .int x156)]) hx hb dL_act_556 hl (by decide) rfl (fun ls hl => ?_)
        refine lv_iload (pc := 558) hx hb dL_act_558 (lv_at hl 0 rfl) ?_
        obtain ⟨y560, ey560, hf⟩ := z_bd hf
        suffices jp_560 : ∀ (k560 s560 : Nat) (hk560 : k560 ≤ 0 + 1 ∧ s560 ≤ 0 + 13) (D560 : z_D) (H : Heap) (locs : List Loc) (_ : va_P X.1 vwCl (z_W (z_wB X b d d2 B) X a D560 y560 []) H) (_ : va_D A (z_W (z_wB X b d d2 B) X a D560 y560 [])) (_ : va_S A s.heap H locs) (ls : Array Slot) (_ : lv_has ls 9 [(0, .ref b), (1, .ref a), (5, .int y548), (7, .int x156)]), W p l e (headSpec wsL_act (z_R2 8 160 1792 23296)).room s m ([.ref b, .ref a, .int v2] : List Value).toArray below meth c H locs k560 s560 (MQ below (va_Qi (fun (z : Int32) (u : va_W) => z = RR.1 ∧ ∃ D1 : z_D, u = z_W (z_wB X b d d2 RR.2.1) X a D1 RR.2.2 []) (z_Bm X A) A) ([.ref b, .ref a, .int v2] : List Value).toArray s 1792 23296 A) (F0 m 569 ls []) by
          have hf := ey560
          refine lv_if_eq (pc := 560) (tgt := 569) hx hb dL_act_560 (by decide) (fun c_560 => ?_) (fun c_560 => ?_)
          · replace hf := z_ip c_560 hf
            obtain rfl := Option.some.inj hf
            exact jp_560 0 0 (by omega) D H locs hP hD hS ls (lv_sub hl [1, 2, 0, 3] rfl)
          · replace hf := z_in c_560 hf
            refine lv_aload_n (pc := 563) hx hb dL_act_563 rfl (lv_at hl 2 rfl) ?_
            refine lv_iload (pc := 564) hx hb dL_act_564 (lv_at hl 3 rfl) ?_
            obtain ⟨x566, e566, hf⟩ := z_bd hf
            refine z_ckV (pc := 566) (wl := (z_wB X b d d2 B)) (wr := []) S (m_X5_up l X a D Q x156 e566) (cwV 1 hts gL_act_X5_up rfl rfl rfl hdX5_up ⟨Nat.le_of_ble_eq_true rfl, Nat.le_of_ble_eq_true rfl⟩) hP hK hN hA2 hD hS hA (ci := 5) rfl rfl rfl (show 0 + 1 ≤ 1792 ∧ 0 + 13 ≤ 23296 from ⟨by omega, by omega⟩) rfl hl.1 rfl (Nat.le_of_ble_eq_true rfl) dL_act_566 (fun u H locs hpost hP hD hS => ?_)
            obtain ⟨D566, rfl⟩ := hpost
            have hP : va_P X.1 vwCl (z_W (z_wB X b d d2 B) X a D566 x566 []) H := hP
            have hD : va_D A (z_W (z_wB X b d d2 B) X a D566 x566 []) := hD
            obtain rfl := Option.some.inj hf
            exact jp_560 (0 + 1) (0 + 13) (by omega) D566 H locs hP hD hS ls (lv_sub hl [1, 2, 0, 3] rfl)
        intro k560 s560 hk560 D560 H locs hP hD hS ls hl
        refine lv_aload_n (pc := 569) hx hb dL_act_569 rfl (lv_at hl 0 rfl) ?_
        refine lv_iload (pc := 570) hx hb dL_act_570 (lv_at hl 3 rfl) ?_
        by_cases hx572 : x_X4_putUp B x156 = some 1
        · replace hf := z_ip hx572 hf
          refine z_ctV (pc := 572) S (t_X4_putUp l hl0 X b d d2 B x156 hx572) (cwV 1 hts gL_act_X4_putUp rfl rfl rfl hdX4_putUp ⟨Nat.le_of_ble_eq_true rfl, Nat.le_of_ble_eq_true rfl⟩) hP hK hN ((hT.kept (fun q h1 h2 => hS.2.1 q h1 h2)).narrow (fun _ h => h.elim)) z_S_L hS (ci := 4) rfl rfl rfl (show k560 + 1 ≤ 1792 ∧ s560 + 6 ≤ 23296 from ⟨by omega, by omega⟩) rfl hl.1 rfl (Nat.le_of_ble_eq_true rfl) dL_act_572 (fun ce q9 H locs hz1 hk1 hS hce hcv hcl => ?_)
          refine vx_catch (pc := 572) hown [⟨16, 151, 643, 83⟩, ⟨152, 306, 643, 83⟩, ⟨307, 327, 643, 83⟩, ⟨328, 346, 643, 83⟩, ⟨347, 380, 643, 83⟩, ⟨381, 433, 643, 83⟩, ⟨434, 487, 643, 83⟩, ⟨488, 541, 643, 83⟩] ⟨542, 593, 643, 83⟩ [⟨594, 642, 643, 83⟩] (htab.trans rfl) (fun z hz => Or.inl ((by decide : ∀ z ∈ ([⟨16, 151, 643, 83⟩, ⟨152, 306, 643, 83⟩, ⟨307, 327, 643, 83⟩, ⟨328, 346, 643, 83⟩, ⟨347, 380, 643, 83⟩, ⟨381, 433, 643, 83⟩, ⟨434, 487, 643, 83⟩, ⟨488, 541, 643, 83⟩] : List ExceptionTableEntry), covers z 572 = false) z hz)) rfl (by decide) lk_cl83 (va_Nw.use rfl (hT.1.2.1 1 (by decide))) hce hcv hcl ?_
          have hP : va_P X.1 vwCl (z_W (z_wB X b d d2 B) X a D560 y560 []) H := hP.kept (fun k q hk => hk1 q.1 ((hP k q hk).lt))
          refine lv_astore (pc := 643) (lv' := [(6, .ref q9), (0, .ref b), (1, .ref a), (5, .int y548), (7, .int x156)]) hx hb dL_act_643 hl (by decide) rfl (fun ls hl => ?_)
          refine lv_iload (pc := 645) hx hb dL_act_645 (lv_at hl 3 rfl) ?_
          obtain ⟨y647, ey647, hf⟩ := z_bd hf
          suffices jp_647 : ∀ (H : Heap) (locs : List Loc) (_ : va_P X.1 vwCl (z_W (z_wB X b d d2 B) X a D560 y560 []) H) (_ : va_D A (z_W (z_wB X b d d2 B) X a D560 y560 [])) (_ : va_S A s.heap H locs) (ls : Array Slot) (_ : lv_has ls 9 []), W p l e (headSpec wsL_act (z_R2 8 160 1792 23296)).room s m ([.ref b, .ref a, .int v2] : List Value).toArray below meth c H locs (k560 + 1) (s560 + 6) (MQ below (va_Qi (fun (z : Int32) (u : va_W) => z = RR.1 ∧ ∃ D1 : z_D, u = z_W (z_wB X b d d2 RR.2.1) X a D1 RR.2.2 []) (z_Bm X A) A) ([.ref b, .ref a, .int v2] : List Value).toArray s 1792 23296 A) (F0 m 655 ls [.int y647]) by
            have hf := ey647
            refine lv_if_ne (pc := 647) (tgt := 654) hx hb dL_act_647 (by decide) (fun c_647 => ?_) (fun c_647 => ?_)
            · replace hf := z_in c_647 hf
              refine lv_iconst (v := 0) (pc := 654) hx hb dL_act_654 (by decide) ?_
              obtain rfl := Option.some.inj hf
              exact jp_647 H locs hP hD hS ls (lv_sub hl [] rfl)
            · replace hf := z_ip c_647 hf
              refine lv_iconst (v := 1) (pc := 650) hx hb dL_act_650 (by decide) ?_
              refine lv_goto (pc := 651) (tgt := 655) hx hb dL_act_651 (by decide) ?_
              obtain rfl := Option.some.inj hf
              exact jp_647 H locs hP hD hS ls (lv_sub hl [] rfl)
          intro H locs hP hD hS ls hl
          refine W.widen (k := 1792) (n := 23296) (by omega) (by omega) ?_
          obtain ⟨x655, e655, hf⟩ := z_bd hf
          obtain ⟨e_bo, h_bo⟩ := z_bo_s e655
          exact W.zret (pc := 655) (v := y647) hx hb hr h_bo (fun t ht hW => ⟨⟨_, (z_W (z_wB X b d d2 B) X a D560 y560 []), rfl, ⟨e_bo.trans (z_e1 hf), D560, congrArg (fun z : z_B × z_Q => z_W (z_wB X b d d2 z.1) X a D560 z.2 []) (z_e2 hf)⟩, by rw [ht]; exact z_dropW hP, z_dropV hD⟩, hS.F ht⟩) hS.2.2 dL_act_655
        replace hf := z_in hx572 hf
        obtain ⟨x572, e572, hf⟩ := z_bd hf
        refine z_cbI (pc := 572) (wr := ((z_wS X a D560 y560) ++ [])) S (m_X4_putUp l X b d d2 B x156 e572) (cwV 1 hts gL_act_X4_putUp rfl rfl rfl hdX4_putUp ⟨Nat.le_of_ble_eq_true rfl, Nat.le_of_ble_eq_true rfl⟩) hP hK hN hD hS hA (ci := 4) rfl rfl rfl (show k560 ≤ 1792 ∧ s560 ≤ 23296 from ⟨by omega, by omega⟩) rfl hl.1 rfl (Nat.le_of_ble_eq_true rfl) dL_act_572 (fun H locs hP hD hS => ?_)
        have hP : va_P X.1 vwCl (z_W (z_wB X b d d2 x572.2) X a D560 y560 []) H := hP
        have hD : va_D A (z_W (z_wB X b d d2 x572.2) X a D560 y560 []) := hD
        refine lv_aload_n (pc := 575) hx hb dL_act_575 rfl (lv_at hl 1 rfl) ?_
        refine va_get (pc := 576) (ci := 5) (C := RX5) (T := TX5) (N := 9) (v := .ref D560.1.2.2) hx hb hts in_X5 hown hK hP _ zg_0 rfl 2 (by decide) lk_fi75 (fun _ h9 => h9) rfl dL_act_576 ?_
        refine va_alen (v := (nI y560.2.2.2.1)) (pc := 579) hx hb hK hP _ 0 zg_3 rfl rfl dL_act_579 ?_
        obtain ⟨y580, ey580, hf⟩ := z_bd hf
        suffices jp_580 : ∀ (H : Heap) (locs : List Loc) (_ : va_P X.1 vwCl (z_W (z_wB X b d d2 x572.2) X a D560 y560 []) H) (_ : va_D A (z_W (z_wB X b d d2 x572.2) X a D560 y560 [])) (_ : va_S A s.heap H locs) (ls : Array Slot) (_ : lv_has ls 9 []), W p l e (headSpec wsL_act (z_R2 8 160 1792 23296)).room s m ([.ref b, .ref a, .int v2] : List Value).toArray below meth c H locs k560 s560 (MQ below (va_Qi (fun (z : Int32) (u : va_W) => z = RR.1 ∧ ∃ D1 : z_D, u = z_W (z_wB X b d d2 RR.2.1) X a D1 RR.2.2 []) (z_Bm X A) A) ([.ref b, .ref a, .int v2] : List Value).toArray s 1792 23296 A) (F0 m 593 ls [.int y580]) by
          have hf := ey580
          refine lv_icmp_ne (pc := 580) (tgt := 592) hx hb dL_act_580 (by decide) (fun c_580 => ?_) (fun c_580 => ?_)
          · replace hf := z_in c_580 hf
            refine lv_iconst (v := 0) (pc := 592) hx hb dL_act_592 (by decide) ?_
            obtain rfl := Option.some.inj hf
            exact jp_580 H locs hP hD hS ls (lv_sub hl [] rfl)
          · replace hf := z_ip c_580 hf
            refine lv_iload (pc := 583) hx hb dL_act_583 (lv_at hl 2 rfl) ?_
            refine lv_if_eq (pc := 585) (tgt := 592) hx hb dL_act_585 (by decide) (fun c_585 => ?_) (fun c_585 => ?_)
            · replace hf := z_ip c_585 hf
              refine lv_iconst (v := 0) (pc := 592) hx hb dL_act_592 (by decide) ?_
              obtain rfl := Option.some.inj hf
              exact jp_580 H locs hP hD hS ls (lv_sub hl [] rfl)
            · replace hf := z_in c_585 hf
              refine lv_iconst (v := 1) (pc := 588) hx hb dL_act_588 (by decide) ?_
              refine lv_goto (pc := 589) (tgt := 593) hx hb dL_act_589 (by decide) ?_
              obtain rfl := Option.some.inj hf
              exact jp_580 H locs hP hD hS ls (lv_sub hl [] rfl)
        intro H locs hP hD hS ls hl
        refine W.widen (k := 1792) (n := 23296) (by omega) (by omega) ?_
        obtain ⟨x593, e593, hf⟩ := z_bd hf
        obtain ⟨e_bo, h_bo⟩ := z_bo_s e593
        exact W.zret (pc := 593) (v := y580) hx hb hr h_bo (fun t ht hW => ⟨⟨_, (z_W (z_wB X b d d2 x572.2) X a D560 y560 []), rfl, ⟨e_bo.trans (z_e1 hf), D560, congrArg (fun z : z_B × z_Q => z_W (z_wB X b d d2 z.1) X a D560 z.2 []) (z_e2 hf)⟩, by rw [ht]; exact z_dropW hP, z_dropV hD⟩, hS.F ht⟩) hS.2.2 dL_act_593
      replace hf := z_in c_163_11 hf
      refine lv_tableOut (pc := 163) (tgt := 594) hx hb dL_act_163 (z_tout c_163_1 c_163_2 c_163_3 c_163_4 c_163_5 c_163_6 c_163_7 c_163_8 c_163_9 c_163_10 c_163_11) (by decide) ?_
      refine lv_iconst (v := 1) (pc := 594) hx hb dL_act_594 (by decide) ?_
      refine lv_iload_n (pc := 595) hx hb dL_act_595 rfl (lv_at hl 7 rfl) ?_
      refine lv_iconst (v := 4) (pc := 596) hx hb dL_act_596 (by decide) ?_
      refine lv_ishr (pc := 597) hx hb dL_act_597 ?_
      refine lv_iload_n (pc := 598) hx hb dL_act_598 rfl (lv_at hl 7 rfl) ?_
      refine lv_bipush (v := 8) (pc := 599) hx hb dL_act_599 (by decide) ?_
      refine lv_ishr (pc := 601) hx hb dL_act_601 ?_
      refine lv_bipush (v := 8) (pc := 602) hx hb dL_act_602 (by decide) ?_
      obtain ⟨x604, e604, hf⟩ := z_bd hf
      refine z_csI (pc := 604) S (m_L_below l X (v2 >>> (8 &&& 31)) 8 e604) (va_cwS 2 hts gL_act_L_below rfl rfl rfl hdL_below ⟨Nat.le_of_ble_eq_true rfl, Nat.le_of_ble_eq_true rfl⟩) hP hK hN (s_nil _) (show 0 ≤ 1792 ∧ 0 ≤ 23296 from ⟨by omega, by omega⟩) rfl hl.1 rfl (Nat.le_of_ble_eq_true rfl) dL_act_604 ?_
      obtain ⟨y607, ey607, hf⟩ := z_bd hf
      suffices jp_607 : ∀ (H : Heap) (locs : List Loc) (_ : va_P X.1 vwCl (z_W (z_wB X b d d2 B) X a D Q []) H) (_ : va_D A (z_W (z_wB X b d d2 B) X a D Q [])) (_ : va_S A s.heap H locs) (ls : Array Slot) (_ : lv_has ls 9 [(0, .ref b), (1, .ref a), (5, .int 1)]), W p l e (headSpec wsL_act (z_R2 8 160 1792 23296)).room s m ([.ref b, .ref a, .int v2] : List Value).toArray below meth c H locs 0 0 (MQ below (va_Qi (fun (z : Int32) (u : va_W) => z = RR.1 ∧ ∃ D1 : z_D, u = z_W (z_wB X b d d2 RR.2.1) X a D1 RR.2.2 []) (z_Bm X A) A) ([.ref b, .ref a, .int v2] : List Value).toArray s 1792 23296 A) (F0 m 616 ls [.int y607, .int (v2 >>> (4 &&& 31)), .int 1]) by
        have hf := ey607
        refine lv_if_ne (pc := 607) (tgt := 615) hx hb dL_act_607 (by decide) (fun c_607 => ?_) (fun c_607 => ?_)
        · replace hf := z_in c_607 hf
          refine lv_iconst (v := 5) (pc := 615) hx hb dL_act_615 (by decide) ?_
          obtain rfl := Option.some.inj hf
          exact jp_607 H locs hP hD hS ls (lv_sub hl [5, 6, 2] rfl)
        · replace hf := z_ip c_607 hf
          refine lv_bipush (v := 60) (pc := 610) hx hb dL_act_610 (by decide) ?_
          refine lv_goto (pc := 612) (tgt := 616) hx hb dL_act_612 (by decide) ?_
          obtain rfl := Option.some.inj hf
          exact jp_607 H locs hP hD hS ls (lv_sub hl [5, 6, 2] rfl)
      intro H locs hP hD hS ls hl
      obtain ⟨x616, e616, hf⟩ := z_bd hf
      refine z_csI (pc := 616) S (m_L_below l X (v2 >>> (4 &&& 31)) y607 e616) (va_cwS 2 hts gL_act_L_below rfl rfl rfl hdL_below ⟨Nat.le_of_ble_eq_true rfl, Nat.le_of_ble_eq_true rfl⟩) hP hK hN (s_nil _) (show 0 ≤ 1792 ∧ 0 ≤ 23296 from ⟨by omega, by omega⟩) rfl hl.1 rfl (Nat.le_of_ble_eq_true rfl) dL_act_616 ?_
      refine lv_iadd (pc := 619) hx hb dL_act_619 ?_
      refine lv_istore (pc := 620) (lv' := [(8, .int (1 + x616)), (0, .ref b), (1, .ref a), (5, .int 1)]) hx hb dL_act_620 hl (by decide) rfl (fun ls hl => ?_)
      refine lv_aload_n (pc := 622) hx hb dL_act_622 rfl (lv_at hl 1 rfl) ?_
      refine lv_iload (pc := 623) hx hb dL_act_623 (lv_at hl 0 rfl) ?_
      obtain ⟨x625, e625, hf⟩ := z_bd hf
      refine z_cbI (pc := 625) (wr := ((z_wS X a D Q) ++ [])) S (m_X4_pass l X b d d2 B (1 + x616) e625) (cwV 1 hts gL_act_X4_pass rfl rfl rfl hdX4_pass ⟨Nat.le_of_ble_eq_true rfl, Nat.le_of_ble_eq_true rfl⟩) hP hK hN hD hS hA (ci := 4) rfl rfl rfl (show 0 ≤ 1792 ∧ 0 ≤ 23296 from ⟨by omega, by omega⟩) rfl hl.1 rfl (Nat.le_of_ble_eq_true rfl) dL_act_625 (fun H locs hP hD hS => ?_)
      have hP : va_P X.1 vwCl (z_W (z_wB X b d d2 x625.2) X a D Q []) H := hP
      have hD : va_D A (z_W (z_wB X b d d2 x625.2) X a D Q []) := hD
      refine lv_aload_n (pc := 628) hx hb dL_act_628 rfl (lv_at hl 2 rfl) ?_
      refine lv_iload (pc := 629) hx hb dL_act_629 (lv_at hl 0 rfl) ?_
      obtain ⟨x631, e631, hf⟩ := z_bd hf
      refine z_ckI (pc := 631) (wl := (z_wB X b d d2 x625.2)) (wr := []) S (m_X5_pass_ l X a D Q (1 + x616) e631) (cwV 1 hts gL_act_X5_pass_ rfl rfl rfl hdX5_pass_ ⟨Nat.le_of_ble_eq_true rfl, Nat.le_of_ble_eq_true rfl⟩) hP hK hN hA2 hD hS hA (ci := 5) rfl rfl rfl (show 0 + 1792 ≤ 1792 ∧ 0 + 23296 ≤ 23296 from ⟨by omega, by omega⟩) rfl hl.1 rfl (Nat.le_of_ble_eq_true rfl) dL_act_631 (fun z u H locs hpost hP hD hS => ?_)
      obtain ⟨rfl, D631, rfl⟩ := hpost
      have hP : va_P X.1 vwCl (z_W (z_wB X b d d2 x625.2) X a D631 x631.2 []) H := hP
      have hD : va_D A (z_W (z_wB X b d d2 x625.2) X a D631 x631.2 []) := hD
      obtain ⟨y634, ey634, hf⟩ := z_bd hf
      suffices jp_634 : ∀ (H : Heap) (locs : List Loc) (_ : va_P X.1 vwCl (z_W (z_wB X b d d2 x625.2) X a D631 x631.2 []) H) (_ : va_D A (z_W (z_wB X b d d2 x625.2) X a D631 x631.2 [])) (_ : va_S A s.heap H locs) (ls : Array Slot) (_ : lv_has ls 9 []), W p l e (headSpec wsL_act (z_R2 8 160 1792 23296)).room s m ([.ref b, .ref a, .int v2] : List Value).toArray below meth c H locs (0 + 1792) (0 + 23296) (MQ below (va_Qi (fun (z : Int32) (u : va_W) => z = RR.1 ∧ ∃ D1 : z_D, u = z_W (z_wB X b d d2 RR.2.1) X a D1 RR.2.2 []) (z_Bm X A) A) ([.ref b, .ref a, .int v2] : List Value).toArray s 1792 23296 A) (F0 m 642 ls [.int y634]) by
        have hf := ey634
        refine lv_icmp_ne (pc := 634) (tgt := 641) hx hb dL_act_634 (by decide) (fun c_634 => ?_) (fun c_634 => ?_)
        · replace hf := z_in c_634 hf
          refine lv_iconst (v := 0) (pc := 641) hx hb dL_act_641 (by decide) ?_
          obtain rfl := Option.some.inj hf
          exact jp_634 H locs hP hD hS ls (lv_sub hl [] rfl)
        · replace hf := z_ip c_634 hf
          refine lv_iconst (v := 1) (pc := 637) hx hb dL_act_637 (by decide) ?_
          refine lv_goto (pc := 638) (tgt := 642) hx hb dL_act_638 (by decide) ?_
          obtain rfl := Option.some.inj hf
          exact jp_634 H locs hP hD hS ls (lv_sub hl [] rfl)
      intro H locs hP hD hS ls hl
      refine W.widen (k := 1792) (n := 23296) (by omega) (by omega) ?_
      obtain ⟨x642, e642, hf⟩ := z_bd hf
      obtain ⟨e_bo, h_bo⟩ := z_bo_s e642
      exact W.zret (pc := 642) (v := y634) hx hb hr h_bo (fun t ht hW => ⟨⟨_, (z_W (z_wB X b d d2 x625.2) X a D631 x631.2 []), rfl, ⟨e_bo.trans (z_e1 hf), D631, congrArg (fun z : z_B × z_Q => z_W (z_wB X b d d2 z.1) X a D631 z.2 []) (z_e2 hf)⟩, by rw [ht]; exact z_dropW hP, z_dropV hD⟩, hS.F ht⟩) hS.2.2 dL_act_642
    · replace hf := z_ip c_30 hf
      refine lv_iload_n (pc := 33) hx hb dL_act_33 rfl (lv_at hl 3 rfl) ?_
      refine lv_bipush (v := 12) (pc := 34) hx hb dL_act_34 (by decide) ?_
      obtain ⟨y36, ey36, hf⟩ := z_bd hf
      suffices jp_36 : ∀ (H : Heap) (locs : List Loc) (_ : va_P X.1 vwCl (z_W (z_wB X b d d2 B) X a D Q []) H) (_ : va_D A (z_W (z_wB X b d d2 B) X a D Q [])) (_ : va_S A s.heap H locs) (ls : Array Slot) (_ : lv_has ls 9 [(0, .ref b), (1, .ref a), (2, .int v2), (3, .int (nI Q.2.1.1))]), W p l e (headSpec wsL_act (z_R2 8 160 1792 23296)).room s m ([.ref b, .ref a, .int v2] : List Value).toArray below meth c H locs 0 0 (MQ below (va_Qi (fun (z : Int32) (u : va_W) => z = RR.1 ∧ ∃ D1 : z_D, u = z_W (z_wB X b d d2 RR.2.1) X a D1 RR.2.2 []) (z_Bm X A) A) ([.ref b, .ref a, .int v2] : List Value).toArray s 1792 23296 A) (F0 m 44 ls [.int y36]) by
        have hf := ey36
        refine lv_icmp_ge (pc := 36) (tgt := 43) hx hb dL_act_36 (by decide) (fun c_36 => ?_) (fun c_36 => ?_)
        · replace hf := z_ip c_36 hf
          refine lv_iconst (v := 0) (pc := 43) hx hb dL_act_43 (by decide) ?_
          obtain rfl := Option.some.inj hf
          exact jp_36 H locs hP hD hS ls (lv_sub hl [4, 5, 6, 3] rfl)
        · replace hf := z_in c_36 hf
          refine lv_iconst (v := 1) (pc := 39) hx hb dL_act_39 (by decide) ?_
          refine lv_goto (pc := 40) (tgt := 44) hx hb dL_act_40 (by decide) ?_
          obtain rfl := Option.some.inj hf
          exact jp_36 H locs hP hD hS ls (lv_sub hl [4, 5, 6, 3] rfl)
      intro H locs hP hD hS ls hl
      refine lv_istore (pc := 44) (lv' := [(5, .int y36), (0, .ref b), (1, .ref a), (2, .int v2), (3, .int (nI Q.2.1.1))]) hx hb dL_act_44 hl (by decide) rfl (fun ls hl => ?_)
      refine lv_bipush (v := 6) (pc := 46) hx hb dL_act_46 (by decide) ?_
      refine z_newV (pc := 48) hx hb (hts (.arrayClass .int) (List.mem_of_getElem? (i := 4) rfl)) hK hP hD hS hA 0 rfl (show z_ln 6 = some 6 from rfl) (show 0 + 1 ≤ 1792 from by omega) (show 0 + 13 ≤ 23296 from by omega) dL_act_48 (fun q48 H hP hD hS => ?_)
      have hP : va_P X.1 vwCl (z_W (z_wB X b d d2 B) X a D Q [(q48, .inl (X.2.1, 6, .inl (fun _ => 0)))]) H := by rw [z_ext] at hP; exact hP
      have hD : va_D A (z_W (z_wB X b d d2 B) X a D Q [(q48, .inl (X.2.1, 6, .inl (fun _ => 0)))]) := by rw [z_ext] at hD; exact hD
      refine lv_dup (pc := 50) hx hb dL_act_50 rfl ?_
      refine lv_iconst (v := 0) (pc := 51) hx hb dL_act_51 (by decide) ?_
      refine lv_iload_n (pc := 52) hx hb dL_act_52 rfl (lv_at hl 3 rfl) ?_
      refine lv_iconst (v := 4) (pc := 53) hx hb dL_act_53 (by decide) ?_
      refine lv_ishr (pc := 54) hx hb dL_act_54 ?_
      refine lv_bipush (v := 6) (pc := 55) hx hb dL_act_55 (by decide) ?_
      obtain ⟨x57, e57, hf⟩ := z_bd hf
      refine z_csI (pc := 57) S (m_L_below l X (v2 >>> (4 &&& 31)) 6 e57) (va_cwS 2 hts gL_act_L_below rfl rfl rfl hdL_below ⟨Nat.le_of_ble_eq_true rfl, Nat.le_of_ble_eq_true rfl⟩) hP hK hN (s_nil _) (show (0 + 1) ≤ 1792 ∧ (0 + 13) ≤ 23296 from ⟨by omega, by omega⟩) rfl hl.1 rfl (Nat.le_of_ble_eq_true rfl) dL_act_57 ?_
      obtain ⟨x60, e60, hf⟩ := z_bd hf
      refine z_iast (pc := 60) (W1 := (z_W (z_wB X b d d2 B) X a D Q [(q48, .inl (X.2.1, 6, .inl x60))])) hx hb hK hP hD hS _ 0 ((zg_e 0).trans rfl) rfl e60 (zs_e (i := 0)) dL_act_60 (fun H locs hP hD hS => ?_)
      refine lv_dup (pc := 61) hx hb dL_act_61 rfl ?_
      refine lv_iconst (v := 1) (pc := 62) hx hb dL_act_62 (by decide) ?_
      refine lv_iconst (v := 1) (pc := 63) hx hb dL_act_63 (by decide) ?_
      refine lv_iload_n (pc := 64) hx hb dL_act_64 rfl (lv_at hl 3 rfl) ?_
      refine lv_bipush (v := 6) (pc := 65) hx hb dL_act_65 (by decide) ?_
      refine lv_ishr (pc := 67) hx hb dL_act_67 ?_
      refine lv_bipush (v := 9) (pc := 68) hx hb dL_act_68 (by decide) ?_
      obtain ⟨x70, e70, hf⟩ := z_bd hf
      refine z_csI (pc := 70) S (m_L_below l X (v2 >>> (6 &&& 31)) 9 e70) (va_cwS 2 hts gL_act_L_below rfl rfl rfl hdL_below ⟨Nat.le_of_ble_eq_true rfl, Nat.le_of_ble_eq_true rfl⟩) hP hK hN (s_nil _) (show (0 + 1) ≤ 1792 ∧ (0 + 13) ≤ 23296 from ⟨by omega, by omega⟩) rfl hl.1 rfl (Nat.le_of_ble_eq_true rfl) dL_act_70 ?_
      refine lv_iadd (pc := 73) hx hb dL_act_73 ?_
      obtain ⟨x74, e74, hf⟩ := z_bd hf
      refine z_iast (pc := 74) (W1 := (z_W (z_wB X b d d2 B) X a D Q [(q48, .inl (X.2.1, 6, .inl x74))])) hx hb hK hP hD hS _ 0 ((zg_e 0).trans rfl) rfl e74 (zs_e (i := 0)) dL_act_74 (fun H locs hP hD hS => ?_)
      refine lv_dup (pc := 75) hx hb dL_act_75 rfl ?_
      refine lv_iconst (v := 2) (pc := 76) hx hb dL_act_76 (by decide) ?_
      refine lv_iconst (v := 1) (pc := 77) hx hb dL_act_77 (by decide) ?_
      refine lv_iload_n (pc := 78) hx hb dL_act_78 rfl (lv_at hl 3 rfl) ?_
      refine lv_bipush (v := 8) (pc := 79) hx hb dL_act_79 (by decide) ?_
      refine lv_ishr (pc := 81) hx hb dL_act_81 ?_
      refine lv_bipush (v := 9) (pc := 82) hx hb dL_act_82 (by decide) ?_
      obtain ⟨x84, e84, hf⟩ := z_bd hf
      refine z_csI (pc := 84) S (m_L_below l X (v2 >>> (8 &&& 31)) 9 e84) (va_cwS 2 hts gL_act_L_below rfl rfl rfl hdL_below ⟨Nat.le_of_ble_eq_true rfl, Nat.le_of_ble_eq_true rfl⟩) hP hK hN (s_nil _) (show (0 + 1) ≤ 1792 ∧ (0 + 13) ≤ 23296 from ⟨by omega, by omega⟩) rfl hl.1 rfl (Nat.le_of_ble_eq_true rfl) dL_act_84 ?_
      refine lv_iadd (pc := 87) hx hb dL_act_87 ?_
      obtain ⟨x88, e88, hf⟩ := z_bd hf
      refine z_iast (pc := 88) (W1 := (z_W (z_wB X b d d2 B) X a D Q [(q48, .inl (X.2.1, 6, .inl x88))])) hx hb hK hP hD hS _ 0 ((zg_e 0).trans rfl) rfl e88 (zs_e (i := 0)) dL_act_88 (fun H locs hP hD hS => ?_)
      refine lv_dup (pc := 89) hx hb dL_act_89 rfl ?_
      refine lv_iconst (v := 3) (pc := 90) hx hb dL_act_90 (by decide) ?_
      refine lv_iconst (v := (-1)) (pc := 91) hx hb dL_act_91 (by decide) ?_
      obtain ⟨x92, e92, hf⟩ := z_bd hf
      refine z_iast (pc := 92) (W1 := (z_W (z_wB X b d d2 B) X a D Q [(q48, .inl (X.2.1, 6, .inl x92))])) hx hb hK hP hD hS _ 0 ((zg_e 0).trans rfl) rfl e92 (zs_e (i := 0)) dL_act_92 (fun H locs hP hD hS => ?_)
      refine lv_dup (pc := 93) hx hb dL_act_93 rfl ?_
      refine lv_iconst (v := 4) (pc := 94) hx hb dL_act_94 (by decide) ?_
      refine lv_iload_n (pc := 95) hx hb dL_act_95 rfl (lv_at hl 4 rfl) ?_
      obtain ⟨x96, e96, hf⟩ := z_bd hf
      refine z_iast (pc := 96) (W1 := (z_W (z_wB X b d d2 B) X a D Q [(q48, .inl (X.2.1, 6, .inl x96))])) hx hb hK hP hD hS _ 0 ((zg_e 0).trans rfl) rfl e96 (zs_e (i := 0)) dL_act_96 (fun H locs hP hD hS => ?_)
      refine lv_dup (pc := 97) hx hb dL_act_97 rfl ?_
      refine lv_iconst (v := 5) (pc := 98) hx hb dL_act_98 (by decide) ?_
      refine lv_iconst (v := 0) (pc := 99) hx hb dL_act_99 (by decide) ?_
      obtain ⟨x100, e100, hf⟩ := z_bd hf
      refine z_iast (pc := 100) (W1 := (z_W (z_wB X b d d2 B) X a D Q [(q48, .inl (X.2.1, 6, .inl x100))])) hx hb hK hP hD hS _ 0 ((zg_e 0).trans rfl) rfl e100 (zs_e (i := 0)) dL_act_100 (fun H locs hP hD hS => ?_)
      refine lv_astore (pc := 101) (lv' := [(7, .ref q48), (5, .int y36), (0, .ref b), (1, .ref a), (2, .int v2), (3, .int (nI Q.2.1.1))]) hx hb dL_act_101 hl (by decide) rfl (fun ls hl => ?_)
      refine lv_iload (pc := 103) hx hb dL_act_103 (lv_at hl 1 rfl) ?_
      refine lv_if_eq (pc := 105) (tgt := 121) hx hb dL_act_105 (by decide) (fun c_105 => ?_) (fun c_105 => ?_)
      · replace hf := z_ip c_105 hf
        refine lv_aload_n (pc := 121) hx hb dL_act_121 rfl (lv_at hl 2 rfl) ?_
        refine lv_aload (pc := 122) hx hb dL_act_122 (lv_at hl 0 rfl) ?_
        refine lv_iconst (v := 0) (pc := 124) hx hb dL_act_124 (by decide) ?_
        refine z_iald (pc := 125) hx hb hK hP _ 0 ((zg_e 0).trans rfl) rfl (show z_at _ 0 _ = some (x100 0) from rfl) dL_act_125 ?_
        refine lv_aload (pc := 126) hx hb dL_act_126 (lv_at hl 0 rfl) ?_
        refine lv_iconst (v := 1) (pc := 128) hx hb dL_act_128 (by decide) ?_
        refine z_iald (pc := 129) hx hb hK hP _ 0 ((zg_e 0).trans rfl) rfl (show z_at _ 1 _ = some (x100 1) from rfl) dL_act_129 ?_
        refine lv_aload (pc := 130) hx hb dL_act_130 (lv_at hl 0 rfl) ?_
        refine lv_iconst (v := 2) (pc := 132) hx hb dL_act_132 (by decide) ?_
        refine z_iald (pc := 133) hx hb hK hP _ 0 ((zg_e 0).trans rfl) rfl (show z_at _ 2 _ = some (x100 2) from rfl) dL_act_133 ?_
        by_cases hx134 : x_X4_addRoom B (x100 0) (x100 1) (x100 2) = some 1
        · replace hf := z_ip hx134 hf
          refine z_ctV (pc := 134) S (t_X4_addRoom l hl0 X b d d2 B (x100 0) (x100 1) (x100 2) hx134) (cwV 3 hts gL_act_X4_addRoom rfl rfl rfl hdX4_addRoom ⟨Nat.le_of_ble_eq_true rfl, Nat.le_of_ble_eq_true rfl⟩) hP hK hN ((hT.kept (fun q h1 h2 => hS.2.1 q h1 h2)).narrow (fun _ h => h.elim)) z_S_L hS (ci := 4) rfl rfl rfl (show (0 + 1) + 1 ≤ 1792 ∧ (0 + 13) + 6 ≤ 23296 from ⟨by omega, by omega⟩) rfl hl.1 rfl (Nat.le_of_ble_eq_true rfl) dL_act_134 (fun ce q9 H locs hz1 hk1 hS hce hcv hcl => ?_)
          refine vx_catch (pc := 134) hown [] ⟨16, 151, 643, 83⟩ [⟨152, 306, 643, 83⟩, ⟨307, 327, 643, 83⟩, ⟨328, 346, 643, 83⟩, ⟨347, 380, 643, 83⟩, ⟨381, 433, 643, 83⟩, ⟨434, 487, 643, 83⟩, ⟨488, 541, 643, 83⟩, ⟨542, 593, 643, 83⟩, ⟨594, 642, 643, 83⟩] (htab.trans rfl) (fun z hz => Or.inl ((by decide : ∀ z ∈ ([] : List ExceptionTableEntry), covers z 134 = false) z hz)) rfl (by decide) lk_cl83 (va_Nw.use rfl (hT.1.2.1 1 (by decide))) hce hcv hcl ?_
          have hP : va_P X.1 vwCl (z_W (z_wB X b d d2 B) X a D Q [(q48, .inl (X.2.1, 6, .inl x100))]) H := hP.kept (fun k q hk => hk1 q.1 ((hP k q hk).lt))
          refine lv_astore (pc := 643) (lv' := [(6, .ref q9), (7, .ref q48), (5, .int y36), (0, .ref b), (1, .ref a), (2, .int v2), (3, .int (nI Q.2.1.1))]) hx hb dL_act_643 hl (by decide) rfl (fun ls hl => ?_)
          refine lv_iload (pc := 645) hx hb dL_act_645 (lv_at hl 2 rfl) ?_
          obtain ⟨y647, ey647, hf⟩ := z_bd hf
          suffices jp_647 : ∀ (H : Heap) (locs : List Loc) (_ : va_P X.1 vwCl (z_W (z_wB X b d d2 B) X a D Q []) H) (_ : va_D A (z_W (z_wB X b d d2 B) X a D Q [])) (_ : va_S A s.heap H locs) (ls : Array Slot) (_ : lv_has ls 9 []), W p l e (headSpec wsL_act (z_R2 8 160 1792 23296)).room s m ([.ref b, .ref a, .int v2] : List Value).toArray below meth c H locs ((0 + 1) + 1) ((0 + 13) + 6) (MQ below (va_Qi (fun (z : Int32) (u : va_W) => z = RR.1 ∧ ∃ D1 : z_D, u = z_W (z_wB X b d d2 RR.2.1) X a D1 RR.2.2 []) (z_Bm X A) A) ([.ref b, .ref a, .int v2] : List Value).toArray s 1792 23296 A) (F0 m 655 ls [.int y647]) by
            have hf := ey647
            refine lv_if_ne (pc := 647) (tgt := 654) hx hb dL_act_647 (by decide) (fun c_647 => ?_) (fun c_647 => ?_)
            · replace hf := z_in c_647 hf
              refine lv_iconst (v := 0) (pc := 654) hx hb dL_act_654 (by decide) ?_
              have hP : va_P X.1 vwCl (z_W (z_wB X b d d2 B) X a D Q []) H := z_dropW hP
              have hD : va_D A (z_W (z_wB X b d d2 B) X a D Q []) := z_dropV hD
              obtain rfl := Option.some.inj hf
              exact jp_647 H locs hP hD hS ls (lv_sub hl [] rfl)
            · replace hf := z_ip c_647 hf
              refine lv_iconst (v := 1) (pc := 650) hx hb dL_act_650 (by decide) ?_
              refine lv_goto (pc := 651) (tgt := 655) hx hb dL_act_651 (by decide) ?_
              have hP : va_P X.1 vwCl (z_W (z_wB X b d d2 B) X a D Q []) H := z_dropW hP
              have hD : va_D A (z_W (z_wB X b d d2 B) X a D Q []) := z_dropV hD
              obtain rfl := Option.some.inj hf
              exact jp_647 H locs hP hD hS ls (lv_sub hl [] rfl)
          intro H locs hP hD hS ls hl
          refine W.widen (k := 1792) (n := 23296) (by omega) (by omega) ?_
          obtain ⟨x655, e655, hf⟩ := z_bd hf
          obtain ⟨e_bo, h_bo⟩ := z_bo_s e655
          exact W.zret (pc := 655) (v := y647) hx hb hr h_bo (fun t ht hW => ⟨⟨_, (z_W (z_wB X b d d2 B) X a D Q []), rfl, ⟨e_bo.trans (z_e1 hf), D, congrArg (fun z : z_B × z_Q => z_W (z_wB X b d d2 z.1) X a D z.2 []) (z_e2 hf)⟩, by rw [ht]; exact z_dropW hP, z_dropV hD⟩, hS.F ht⟩) hS.2.2 dL_act_655
        replace hf := z_in hx134 hf
        obtain ⟨x134, e134, hf⟩ := z_bd hf
        refine z_cbI (pc := 134) (wr := ((z_wS X a D Q) ++ [(q48, .inl (X.2.1, 6, .inl x100))])) S (m_X4_addRoom l X b d d2 B (x100 0) (x100 1) (x100 2) e134) (cwV 3 hts gL_act_X4_addRoom rfl rfl rfl hdX4_addRoom ⟨Nat.le_of_ble_eq_true rfl, Nat.le_of_ble_eq_true rfl⟩) hP hK hN hD hS hA (ci := 4) rfl rfl rfl (show (0 + 1) ≤ 1792 ∧ (0 + 13) ≤ 23296 from ⟨by omega, by omega⟩) rfl hl.1 rfl (Nat.le_of_ble_eq_true rfl) dL_act_134 (fun H locs hP hD hS => ?_)
        have hP : va_P X.1 vwCl (z_W (z_wB X b d d2 x134.2) X a D Q [(q48, .inl (X.2.1, 6, .inl x100))]) H := hP
        have hD : va_D A (z_W (z_wB X b d d2 x134.2) X a D Q [(q48, .inl (X.2.1, 6, .inl x100))]) := hD
        refine lv_iload_n (pc := 137) hx hb dL_act_137 rfl (lv_at hl 5 rfl) ?_
        obtain ⟨y138, ey138, hf⟩ := z_bd hf
        suffices jp_138 : ∀ (H : Heap) (locs : List Loc) (_ : va_P X.1 vwCl (z_W (z_wB X b d d2 x134.2) X a D Q []) H) (_ : va_D A (z_W (z_wB X b d d2 x134.2) X a D Q [])) (_ : va_S A s.heap H locs) (ls : Array Slot) (_ : lv_has ls 9 []), W p l e (headSpec wsL_act (z_R2 8 160 1792 23296)).room s m ([.ref b, .ref a, .int v2] : List Value).toArray below meth c H locs (0 + 1) (0 + 13) (MQ below (va_Qi (fun (z : Int32) (u : va_W) => z = RR.1 ∧ ∃ D1 : z_D, u = z_W (z_wB X b d d2 RR.2.1) X a D1 RR.2.2 []) (z_Bm X A) A) ([.ref b, .ref a, .int v2] : List Value).toArray s 1792 23296 A) (F0 m 151 ls [.int y138]) by
          have hf := ey138
          refine lv_icmp_ne (pc := 138) (tgt := 150) hx hb dL_act_138 (by decide) (fun c_138 => ?_) (fun c_138 => ?_)
          · replace hf := z_in c_138 hf
            refine lv_iconst (v := 0) (pc := 150) hx hb dL_act_150 (by decide) ?_
            have hP : va_P X.1 vwCl (z_W (z_wB X b d d2 x134.2) X a D Q []) H := z_dropW hP
            have hD : va_D A (z_W (z_wB X b d d2 x134.2) X a D Q []) := z_dropV hD
            obtain rfl := Option.some.inj hf
            exact jp_138 H locs hP hD hS ls (lv_sub hl [] rfl)
          · replace hf := z_ip c_138 hf
            refine lv_iload (pc := 141) hx hb dL_act_141 (lv_at hl 1 rfl) ?_
            refine lv_if_eq (pc := 143) (tgt := 150) hx hb dL_act_143 (by decide) (fun c_143 => ?_) (fun c_143 => ?_)
            · replace hf := z_ip c_143 hf
              refine lv_iconst (v := 0) (pc := 150) hx hb dL_act_150 (by decide) ?_
              have hP : va_P X.1 vwCl (z_W (z_wB X b d d2 x134.2) X a D Q []) H := z_dropW hP
              have hD : va_D A (z_W (z_wB X b d d2 x134.2) X a D Q []) := z_dropV hD
              obtain rfl := Option.some.inj hf
              exact jp_138 H locs hP hD hS ls (lv_sub hl [] rfl)
            · replace hf := z_in c_143 hf
              refine lv_iconst (v := 1) (pc := 146) hx hb dL_act_146 (by decide) ?_
              refine lv_goto (pc := 147) (tgt := 151) hx hb dL_act_147 (by decide) ?_
              have hP : va_P X.1 vwCl (z_W (z_wB X b d d2 x134.2) X a D Q []) H := z_dropW hP
              have hD : va_D A (z_W (z_wB X b d d2 x134.2) X a D Q []) := z_dropV hD
              obtain rfl := Option.some.inj hf
              exact jp_138 H locs hP hD hS ls (lv_sub hl [] rfl)
        intro H locs hP hD hS ls hl
        refine W.widen (k := 1792) (n := 23296) (by omega) (by omega) ?_
        obtain ⟨x151, e151, hf⟩ := z_bd hf
        obtain ⟨e_bo, h_bo⟩ := z_bo_s e151
        exact W.zret (pc := 151) (v := y138) hx hb hr h_bo (fun t ht hW => ⟨⟨_, (z_W (z_wB X b d d2 x134.2) X a D Q []), rfl, ⟨e_bo.trans (z_e1 hf), D, congrArg (fun z : z_B × z_Q => z_W (z_wB X b d d2 z.1) X a D z.2 []) (z_e2 hf)⟩, by rw [ht]; exact z_dropW hP, z_dropV hD⟩, hS.F ht⟩) hS.2.2 dL_act_151
      · replace hf := z_in c_105 hf
        refine lv_aload_n (pc := 108) hx hb dL_act_108 rfl (lv_at hl 3 rfl) ?_
        refine lv_aload_n (pc := 109) hx hb dL_act_109 rfl (lv_at hl 3 rfl) ?_
        refine va_get (pc := 110) (ci := 5) (C := RX5) (T := TX5) (N := 9) (v := .ref D.1.1) hx hb hts in_X5 hown hK hP _ zg_0 rfl 0 (by decide) lk_fi9 (fun _ h9 => h9) rfl dL_act_110 ?_
        refine lv_aload (pc := 113) hx hb dL_act_113 (lv_at hl 0 rfl) ?_
        obtain ⟨x115, e115, hf⟩ := z_bd hf
        have hle115 : Q.2.1.1 ≤ 12 := z_le12 e115
        refine z_ckRS (pc := 115) (wl := []) (wc := (z_W (z_wB X b d d2 B) X a D Q [(q48, .inl (X.2.1, 6, .inl x100))])) (wr := []) S (m_X5_with l X (z_W (z_wB X b d d2 B) X a D Q [(q48, .inl (X.2.1, 6, .inl x100))]) D.1.1 q48 Q.2.1.1 6 (D.2.1) x100 _ _ zg_1 ((zg_e 0).trans rfl) (fun i hi => ⟨_, _, _, zg_r hi⟩) hle115) (va_cwS 2 hts gL_act_X5_with rfl rfl rfl hdX5_with ⟨Nat.le_of_ble_eq_true rfl, Nat.le_of_ble_eq_true rfl⟩) (by rw [List.append_nil]; exact hP) hK hN hA2 (by rw [List.append_nil]; exact hD) hS hA (show (0 + 1) + 1 ≤ 1792 ∧ (0 + 13) + 13 ≤ 23296 from ⟨by omega, by omega⟩) rfl hl.1 rfl (Nat.le_of_ble_eq_true rfl) dL_act_115 (fun u qw115 H locs hu hP hD hS => ?_)
        subst hu
        have hP : va_P X.1 vwCl ((z_W (z_wB X b d d2 B) X a D Q [(q48, .inl (X.2.1, 6, .inl x100))]) ++ ([(qw115, .inl (X.2.2.2, z_ra (Q.2.1.1 + 1) (z_pa (z_up (D.2.1) Q.2.1.1 q48))))] : va_W)) H := by rw [List.append_nil] at hP; exact hP
        have hD : va_D A ((z_W (z_wB X b d d2 B) X a D Q [(q48, .inl (X.2.1, 6, .inl x100))]) ++ ([(qw115, .inl (X.2.2.2, z_ra (Q.2.1.1 + 1) (z_pa (z_up (D.2.1) Q.2.1.1 q48))))] : va_W)) := by rw [List.append_nil] at hD; exact hD
        refine va_put (pc := 118) (ci := 5) (C := RX5) (T := TX5) (N := 9) (v := .ref qw115) (ty := tyX5 0) hx hb hts in_X5 tyX5 tyX5_ok nmX5 hown hK hP hD hS _ (z_app_l zg_0) rfl 0 (by decide) lk_fi9 (fun _ h9 => h9) rfl (by decide +kernel) rfl rfl (Nat.le_of_ble_eq_true rfl) dL_act_118 (fun H locs hP hD hS => ?_)
        have hP : va_P X.1 vwCl (z_W (z_wB X b d d2 B) X a (z_oR D Q.2.1.1 qw115 q48) (z_qNR Q x100) []) H := zs_NRP hP
        have hD : va_D A (z_W (z_wB X b d d2 B) X a (z_oR D Q.2.1.1 qw115 q48) (z_qNR Q x100) []) := zs_NRD hD
        refine lv_aload_n (pc := 121) hx hb dL_act_121 rfl (lv_at hl 2 rfl) ?_
        refine lv_aload (pc := 122) hx hb dL_act_122 (lv_at hl 0 rfl) ?_
        refine lv_iconst (v := 0) (pc := 124) hx hb dL_act_124 (by decide) ?_
        refine z_iald (pc := 125) hx hb hK hP _ 0 zg_nR rfl (show z_at _ 0 _ = some (x100 0) from rfl) dL_act_125 ?_
        refine lv_aload (pc := 126) hx hb dL_act_126 (lv_at hl 0 rfl) ?_
        refine lv_iconst (v := 1) (pc := 128) hx hb dL_act_128 (by decide) ?_
        refine z_iald (pc := 129) hx hb hK hP _ 0 zg_nR rfl (show z_at _ 1 _ = some (x100 1) from rfl) dL_act_129 ?_
        refine lv_aload (pc := 130) hx hb dL_act_130 (lv_at hl 0 rfl) ?_
        refine lv_iconst (v := 2) (pc := 132) hx hb dL_act_132 (by decide) ?_
        refine z_iald (pc := 133) hx hb hK hP _ 0 zg_nR rfl (show z_at _ 2 _ = some (x100 2) from rfl) dL_act_133 ?_
        by_cases hx134 : x_X4_addRoom B (x100 0) (x100 1) (x100 2) = some 1
        · replace hf := z_ip hx134 hf
          refine z_ctV (pc := 134) S (t_X4_addRoom l hl0 X b d d2 B (x100 0) (x100 1) (x100 2) hx134) (cwV 3 hts gL_act_X4_addRoom rfl rfl rfl hdX4_addRoom ⟨Nat.le_of_ble_eq_true rfl, Nat.le_of_ble_eq_true rfl⟩) hP hK hN ((hT.kept (fun q h1 h2 => hS.2.1 q h1 h2)).narrow (fun _ h => h.elim)) z_S_L hS (ci := 4) rfl rfl rfl (show ((0 + 1) + 1) + 1 ≤ 1792 ∧ ((0 + 13) + 13) + 6 ≤ 23296 from ⟨by omega, by omega⟩) rfl hl.1 rfl (Nat.le_of_ble_eq_true rfl) dL_act_134 (fun ce q9 H locs hz1 hk1 hS hce hcv hcl => ?_)
          refine vx_catch (pc := 134) hown [] ⟨16, 151, 643, 83⟩ [⟨152, 306, 643, 83⟩, ⟨307, 327, 643, 83⟩, ⟨328, 346, 643, 83⟩, ⟨347, 380, 643, 83⟩, ⟨381, 433, 643, 83⟩, ⟨434, 487, 643, 83⟩, ⟨488, 541, 643, 83⟩, ⟨542, 593, 643, 83⟩, ⟨594, 642, 643, 83⟩] (htab.trans rfl) (fun z hz => Or.inl ((by decide : ∀ z ∈ ([] : List ExceptionTableEntry), covers z 134 = false) z hz)) rfl (by decide) lk_cl83 (va_Nw.use rfl (hT.1.2.1 1 (by decide))) hce hcv hcl ?_
          have hP : va_P X.1 vwCl (z_W (z_wB X b d d2 B) X a (z_oR D Q.2.1.1 qw115 q48) (z_qNR Q x100) []) H := hP.kept (fun k q hk => hk1 q.1 ((hP k q hk).lt))
          refine lv_astore (pc := 643) (lv' := [(6, .ref q9), (7, .ref q48), (5, .int y36), (0, .ref b), (1, .ref a), (2, .int v2), (3, .int (nI Q.2.1.1))]) hx hb dL_act_643 hl (by decide) rfl (fun ls hl => ?_)
          refine lv_iload (pc := 645) hx hb dL_act_645 (lv_at hl 2 rfl) ?_
          obtain ⟨y647, ey647, hf⟩ := z_bd hf
          suffices jp_647 : ∀ (H : Heap) (locs : List Loc) (_ : va_P X.1 vwCl (z_W (z_wB X b d d2 B) X a (z_oR D Q.2.1.1 qw115 q48) (z_qNR Q x100) []) H) (_ : va_D A (z_W (z_wB X b d d2 B) X a (z_oR D Q.2.1.1 qw115 q48) (z_qNR Q x100) [])) (_ : va_S A s.heap H locs) (ls : Array Slot) (_ : lv_has ls 9 []), W p l e (headSpec wsL_act (z_R2 8 160 1792 23296)).room s m ([.ref b, .ref a, .int v2] : List Value).toArray below meth c H locs (((0 + 1) + 1) + 1) (((0 + 13) + 13) + 6) (MQ below (va_Qi (fun (z : Int32) (u : va_W) => z = RR.1 ∧ ∃ D1 : z_D, u = z_W (z_wB X b d d2 RR.2.1) X a D1 RR.2.2 []) (z_Bm X A) A) ([.ref b, .ref a, .int v2] : List Value).toArray s 1792 23296 A) (F0 m 655 ls [.int y647]) by
            have hf := ey647
            refine lv_if_ne (pc := 647) (tgt := 654) hx hb dL_act_647 (by decide) (fun c_647 => ?_) (fun c_647 => ?_)
            · replace hf := z_in c_647 hf
              refine lv_iconst (v := 0) (pc := 654) hx hb dL_act_654 (by decide) ?_
              obtain rfl := Option.some.inj hf
              exact jp_647 H locs hP hD hS ls (lv_sub hl [] rfl)
            · replace hf := z_ip c_647 hf
              refine lv_iconst (v := 1) (pc := 650) hx hb dL_act_650 (by decide) ?_
              refine lv_goto (pc := 651) (tgt := 655) hx hb dL_act_651 (by decide) ?_
              obtain rfl := Option.some.inj hf
              exact jp_647 H locs hP hD hS ls (lv_sub hl [] rfl)
          intro H locs hP hD hS ls hl
          refine W.widen (k := 1792) (n := 23296) (by omega) (by omega) ?_
          obtain ⟨x655, e655, hf⟩ := z_bd hf
          obtain ⟨e_bo, h_bo⟩ := z_bo_s e655
          exact W.zret (pc := 655) (v := y647) hx hb hr h_bo (fun t ht hW => ⟨⟨_, (z_W (z_wB X b d d2 B) X a (z_oR D Q.2.1.1 qw115 q48) (z_qNR Q x100) []), rfl, ⟨e_bo.trans (z_e1 hf), (z_oR D Q.2.1.1 qw115 q48), congrArg (fun z : z_B × z_Q => z_W (z_wB X b d d2 z.1) X a (z_oR D Q.2.1.1 qw115 q48) z.2 []) (z_e2 hf)⟩, by rw [ht]; exact z_dropW hP, z_dropV hD⟩, hS.F ht⟩) hS.2.2 dL_act_655
        replace hf := z_in hx134 hf
        obtain ⟨x134, e134, hf⟩ := z_bd hf
        refine z_cbI (pc := 134) (wr := ((z_wS X a (z_oR D Q.2.1.1 qw115 q48) (z_qNR Q x100)) ++ [])) S (m_X4_addRoom l X b d d2 B (x100 0) (x100 1) (x100 2) e134) (cwV 3 hts gL_act_X4_addRoom rfl rfl rfl hdX4_addRoom ⟨Nat.le_of_ble_eq_true rfl, Nat.le_of_ble_eq_true rfl⟩) hP hK hN hD hS hA (ci := 4) rfl rfl rfl (show ((0 + 1) + 1) ≤ 1792 ∧ ((0 + 13) + 13) ≤ 23296 from ⟨by omega, by omega⟩) rfl hl.1 rfl (Nat.le_of_ble_eq_true rfl) dL_act_134 (fun H locs hP hD hS => ?_)
        have hP : va_P X.1 vwCl (z_W (z_wB X b d d2 x134.2) X a (z_oR D Q.2.1.1 qw115 q48) (z_qNR Q x100) []) H := hP
        have hD : va_D A (z_W (z_wB X b d d2 x134.2) X a (z_oR D Q.2.1.1 qw115 q48) (z_qNR Q x100) []) := hD
        refine lv_iload_n (pc := 137) hx hb dL_act_137 rfl (lv_at hl 5 rfl) ?_
        obtain ⟨y138, ey138, hf⟩ := z_bd hf
        suffices jp_138 : ∀ (H : Heap) (locs : List Loc) (_ : va_P X.1 vwCl (z_W (z_wB X b d d2 x134.2) X a (z_oR D Q.2.1.1 qw115 q48) (z_qNR Q x100) []) H) (_ : va_D A (z_W (z_wB X b d d2 x134.2) X a (z_oR D Q.2.1.1 qw115 q48) (z_qNR Q x100) [])) (_ : va_S A s.heap H locs) (ls : Array Slot) (_ : lv_has ls 9 []), W p l e (headSpec wsL_act (z_R2 8 160 1792 23296)).room s m ([.ref b, .ref a, .int v2] : List Value).toArray below meth c H locs ((0 + 1) + 1) ((0 + 13) + 13) (MQ below (va_Qi (fun (z : Int32) (u : va_W) => z = RR.1 ∧ ∃ D1 : z_D, u = z_W (z_wB X b d d2 RR.2.1) X a D1 RR.2.2 []) (z_Bm X A) A) ([.ref b, .ref a, .int v2] : List Value).toArray s 1792 23296 A) (F0 m 151 ls [.int y138]) by
          have hf := ey138
          refine lv_icmp_ne (pc := 138) (tgt := 150) hx hb dL_act_138 (by decide) (fun c_138 => ?_) (fun c_138 => ?_)
          · replace hf := z_in c_138 hf
            refine lv_iconst (v := 0) (pc := 150) hx hb dL_act_150 (by decide) ?_
            obtain rfl := Option.some.inj hf
            exact jp_138 H locs hP hD hS ls (lv_sub hl [] rfl)
          · replace hf := z_ip c_138 hf
            refine lv_iload (pc := 141) hx hb dL_act_141 (lv_at hl 1 rfl) ?_
            refine lv_if_eq (pc := 143) (tgt := 150) hx hb dL_act_143 (by decide) (fun c_143 => ?_) (fun c_143 => ?_)
            · replace hf := z_ip c_143 hf
              refine lv_iconst (v := 0) (pc := 150) hx hb dL_act_150 (by decide) ?_
              obtain rfl := Option.some.inj hf
              exact jp_138 H locs hP hD hS ls (lv_sub hl [] rfl)
            · replace hf := z_in c_143 hf
              refine lv_iconst (v := 1) (pc := 146) hx hb dL_act_146 (by decide) ?_
              refine lv_goto (pc := 147) (tgt := 151) hx hb dL_act_147 (by decide) ?_
              obtain rfl := Option.some.inj hf
              exact jp_138 H locs hP hD hS ls (lv_sub hl [] rfl)
        intro H locs hP hD hS ls hl
        refine W.widen (k := 1792) (n := 23296) (by omega) (by omega) ?_
        obtain ⟨x151, e151, hf⟩ := z_bd hf
        obtain ⟨e_bo, h_bo⟩ := z_bo_s e151
        exact W.zret (pc := 151) (v := y138) hx hb hr h_bo (fun t ht hW => ⟨⟨_, (z_W (z_wB X b d d2 x134.2) X a (z_oR D Q.2.1.1 qw115 q48) (z_qNR Q x100) []), rfl, ⟨e_bo.trans (z_e1 hf), (z_oR D Q.2.1.1 qw115 q48), congrArg (fun z : z_B × z_Q => z_W (z_wB X b d d2 z.1) X a (z_oR D Q.2.1.1 qw115 q48) z.2 []) (z_e2 hf)⟩, by rw [ht]; exact z_dropW hP, z_dropV hD⟩, hS.F ht⟩) hS.2.2 dL_act_151
