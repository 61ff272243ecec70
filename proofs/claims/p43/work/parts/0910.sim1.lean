theorem hdX5_place : yX5_place.cls = RX5 ∧ yX5_place.cls ≠ "java/lang/invoke/MethodHandle" ∧ yX5_place.cls ≠ "java/lang/invoke/VarHandle" ∧ (parseMethodDescriptor yX5_place.desc).map (fun d => d.parameters.length) = some 1 := by decide +kernel
def f_X5_place_L2 (Q : z_Q) : Nat → Int32 → Int32 → Option Int32
  | 0, _, _ => none
  | n + 1, u1, u2 => (if (nI Q.2.2.2.1) ≤ u2 then some (-1) else (z_at Q.2.2.2.2 u2 Q.2.2.2.1).bind (fun x16 => (if x16 = u1 then some u2 else f_X5_place_L2 Q n u1 (u2 + 1))))
def f_X5_place (Q : z_Q) (v1 : Int32) : Option Int32 := f_X5_place_L2 Q z_F14 v1 0
set_option maxHeartbeats 4000000 in
set_option maxRecDepth 100000 in
theorem m_X5_place (l : Launch) (X : z_X) (a : Nat) (D : z_D) (Q : z_Q) (v1 : Int32) {RR : Int32} (hf : f_X5_place Q v1 = some RR) : z_pI l yX5_place wsX5_place 0 0 X [.ref a, .int v1] (z_wS X a D Q) RR := by
  refine Met.ofW (cc := cX5_place) (maxL := 3) (ret := (some .int)) (by decide) rfl ?_
  intro p e s m args below meth c s₁ Bd hml hv
  obtain ⟨rfl, hP, hK, hN⟩ := hv
  have hx := Bd.exec
  have hb := Bd.bytes
  have hr := Bd.returns
  have hts := atoms_spec (ws := wsX5_place) Bd.pre
  have hown : s.vm.findClass RX5 = some m.cls := findClass_of_methodNamed Bd.named
  have hlocks := Bd.notSynchronized
  have S : CallFix p m c cX5_place 3 s _ wsX5_place RX5 := ⟨hx, hb, hml, hown, hts⟩
  have lk_fi18 := hts (.fieldLink RX5 18 "HouseBellsLaw$Sim" "line" "[I") (List.mem_of_getElem? (i := 1) rfl)
  have in_X5 : ∀ w ∈ wsX50, w ∈ wsX5_place := fun _ h => (List.mem_cons_of_mem _ (List.mem_append_right _ h))
  have hP : va_P X.1 vwCl (z_W [] X a D Q []) s.heap := by unfold z_W; rw [List.append_nil]; exact hP
  have hl := lv_entry ([.ref a, .int v1]) (n := 3) (Nat.le_of_ble_eq_true rfl)
  rw [lg_entry_eq]
  generalize (lg_sl ([.ref a, .int v1]) ++ List.replicate (3 - (lg_sl ([.ref a, .int v1])).length) Slot.unset).toArray = ls at hl ⊢
  have hl : lv_has ls 3 [(0, .ref a), (1, .int v1)] := hl
  have lp_2 : ∀ (n : Nat) (u1 : Int32) (u2 : Int32) (ls : Array Slot), lv_has ls 3 [(0, .ref a), (1, .int u1), (2, .int u2)] → f_X5_place_L2 Q n u1 u2 = some RR → W p l e (headSpec wsX5_place (z_R 0 0)).room s m ([.ref a, .int v1] : List Value).toArray below meth c s.heap [] 0 0 (MQ below (vp_Si (fun z => z = RR)) ([.ref a, .int v1] : List Value).toArray s 0 0 (fun _ => False)) (F0 m 2 ls []) := by
    intro n
    induction n with
    | zero =>
      intro u1 u2 ls hl hf
      cases hf
    | succ n ih =>
      intro u1 u2 ls hl hf
      rw [f_X5_place_L2] at hf
      refine lv_iload_n (pc := 2) hx hb dX5_place_2 rfl (lv_at hl 2 rfl) ?_
      refine lv_aload_n (pc := 3) hx hb dX5_place_3 rfl (lv_at hl 0 rfl) ?_
      refine va_get (pc := 4) (ci := 5) (C := RX5) (T := TX5) (N := 9) (v := .ref D.1.2.2) hx hb hts in_X5 hown hK hP _ zg_0 rfl 2 (by decide) lk_fi18 (fun _ h9 => h9) rfl dX5_place_4 ?_
      refine va_alen (v := (nI Q.2.2.2.1)) (pc := 7) hx hb hK hP _ 0 zg_3 rfl rfl dX5_place_7 ?_
      refine lv_icmp_ge (pc := 8) (tgt := 29) hx hb dX5_place_8 (by decide) (fun c_8 => ?_) (fun c_8 => ?_)
      · replace hf := z_ip c_8 hf
        refine lv_iconst (v := (-1)) (pc := 29) hx hb dX5_place_29 (by decide) ?_
        exact W.iret (pc := 30) (v := (-1)) hx hb hr (fun t ht hW => ⟨_, rfl, (Option.some.inj hf), ht⟩) (fun _ h => nomatch h) dX5_place_30
      · replace hf := z_in c_8 hf
        refine lv_aload_n (pc := 11) hx hb dX5_place_11 rfl (lv_at hl 0 rfl) ?_
        refine va_get (pc := 12) (ci := 5) (C := RX5) (T := TX5) (N := 9) (v := .ref D.1.2.2) hx hb hts in_X5 hown hK hP _ zg_0 rfl 2 (by decide) lk_fi18 (fun _ h9 => h9) rfl dX5_place_12 ?_
        refine lv_iload_n (pc := 15) hx hb dX5_place_15 rfl (lv_at hl 2 rfl) ?_
        obtain ⟨x16, e16, hf⟩ := z_bd hf
        refine z_iald (pc := 16) hx hb hK hP _ 0 zg_3 rfl e16 dX5_place_16 ?_
        refine lv_iload_n (pc := 17) hx hb dX5_place_17 rfl (lv_at hl 1 rfl) ?_
        refine lv_icmp_ne (pc := 18) (tgt := 23) hx hb dX5_place_18 (by decide) (fun c_18 => ?_) (fun c_18 => ?_)
        · replace hf := z_in c_18 hf
          refine lv_iinc (pc := 23) (v := (u2 + 1)) (lv' := [(2, .int (u2 + 1)), (0, .ref a), (1, .int u1)]) hx hb dX5_place_23 hl (k := 2) rfl rfl (by decide) rfl (fun ls hl => ?_)
          refine lv_goto (pc := 26) (tgt := 2) hx hb dX5_place_26 (by decide) ?_
          exact ih u1 (u2 + 1) ls (lv_sub hl [1, 2, 0] rfl) hf
        · replace hf := z_ip c_18 hf
          refine lv_iload_n (pc := 21) hx hb dX5_place_21 rfl (lv_at hl 2 rfl) ?_
          exact W.iret (pc := 22) (v := u2) hx hb hr (fun t ht hW => ⟨_, rfl, (Option.some.inj hf), ht⟩) (fun _ h => nomatch h) dX5_place_22
  unfold f_X5_place at hf
  refine lv_iconst (v := 0) (pc := 0) hx hb dX5_place_0 (by decide) ?_
  refine lv_istore_n (pc := 1) (lv' := [(2, .int 0), (0, .ref a), (1, .int v1)]) hx hb dX5_place_1 rfl hl (by decide) rfl (fun ls hl => ?_)
  exact lp_2 z_F14 v1 0 ls (lv_sub hl [1, 2, 0] rfl) hf
theorem hdX5_way : yX5_way.cls = RX5 ∧ yX5_way.cls ≠ "java/lang/invoke/MethodHandle" ∧ yX5_way.cls ≠ "java/lang/invoke/VarHandle" ∧ (parseMethodDescriptor yX5_way.desc).map (fun d => d.parameters.length) = some 2 := by decide +kernel
def f_X5_way_L24 (Q : z_Q) : Nat → Int32 → Int32 → Int32 → Option Int32
  | 0, _, _, _ => none
  | n + 1, u1, u3, u4 => (z_ai u1 Q.2.2.1.1).bind (fun x31 => (if u3 ≤ (u4 * (Q.2.2.1.2 x31 0)) then some u4 else f_X5_way_L24 Q n u1 u3 (u4 + 1)))
def f_X5_way (Q : z_Q) (v1 : Int32) (v2 : Int32) : Option Int32 := (z_ai v1 Q.2.2.1.1).bind (fun x5 => (z_ai v2 Q.2.1.1).bind (fun x13 => (f_X5_way_L24 Q z_F14 v1 (if 0 ≤ ((Q.2.2.1.2 x5 1) - (Q.2.1.2 x13 0)) then ((Q.2.2.1.2 x5 1) - (Q.2.1.2 x13 0)) else 0 - ((Q.2.2.1.2 x5 1) - (Q.2.1.2 x13 0))) 1).bind (fun x24 => some x24)))
set_option maxHeartbeats 4000000 in
set_option maxRecDepth 100000 in
theorem m_X5_way (l : Launch) (X : z_X) (a : Nat) (D : z_D) (Q : z_Q) (v1 : Int32) (v2 : Int32) {RR : Int32} (hf : f_X5_way Q v1 v2 = some RR) : z_pI l yX5_way wsX5_way 1 25 X [.ref a, .int v1, .int v2] (z_wS X a D Q) RR := by
  refine Met.ofW (cc := cX5_way) (maxL := 5) (ret := (some .int)) (by decide) rfl ?_
  intro p e s m args below meth c s₁ Bd hml hv
  obtain ⟨rfl, hP, hK, hN⟩ := hv
  have hx := Bd.exec
  have hb := Bd.bytes
  have hr := Bd.returns
  have hts := atoms_spec (ws := wsX5_way) Bd.pre
  have hown : s.vm.findClass RX5 = some m.cls := findClass_of_methodNamed Bd.named
  have hlocks := Bd.notSynchronized
  have S : CallFix p m c cX5_way 5 s _ wsX5_way RX5 := ⟨hx, hb, hml, hown, hts⟩
  have lk_fi15 := hts (.fieldLink RX5 15 "HouseBellsLaw$Sim" "servants" "[[I") (List.mem_of_getElem? (i := 1) rfl)
  have lk_fi9 := hts (.fieldLink RX5 9 "HouseBellsLaw$Sim" "rooms" "[[I") (List.mem_of_getElem? (i := 2) rfl)
  have in_X5 : ∀ w ∈ wsX50, w ∈ wsX5_way := fun _ h => (List.mem_cons_of_mem _ (List.mem_append_right _ h))
  have hP : va_P X.1 vwCl (z_W [] X a D Q []) s.heap := by unfold z_W; rw [List.append_nil]; exact hP
  have hl := lv_entry ([.ref a, .int v1, .int v2]) (n := 5) (Nat.le_of_ble_eq_true rfl)
  rw [lg_entry_eq]
  generalize (lg_sl ([.ref a, .int v1, .int v2]) ++ List.replicate (5 - (lg_sl ([.ref a, .int v1, .int v2])).length) Slot.unset).toArray = ls at hl ⊢
  have hl : lv_has ls 5 [(0, .ref a), (1, .int v1), (2, .int v2)] := hl
  have lp_24 : ∀ (n : Nat) (u1 : Int32) (u3 : Int32) (u4 : Int32) (T : Int32) (ls : Array Slot), lv_has ls 5 [(0, .ref a), (1, .int u1), (3, .int u3), (4, .int u4)] → f_X5_way_L24 Q n u1 u3 u4 = some T → (∀ (ls : Array Slot), lv_has ls 5 [(4, .int T)] → W p l e (headSpec wsX5_way (z_R 1 25)).room s m ([.ref a, .int v1, .int v2] : List Value).toArray below meth c s.heap [] 0 0 (MQ below (vp_Si (fun z => z = RR)) ([.ref a, .int v1, .int v2] : List Value).toArray s 0 0 (fun _ => False)) (F0 m 45 ls [])) → W p l e (headSpec wsX5_way (z_R 1 25)).room s m ([.ref a, .int v1, .int v2] : List Value).toArray below meth c s.heap [] 0 0 (MQ below (vp_Si (fun z => z = RR)) ([.ref a, .int v1, .int v2] : List Value).toArray s 0 0 (fun _ => False)) (F0 m 24 ls []) := by
    intro n
    induction n with
    | zero =>
      intro u1 u3 u4 T ls hl hf kk
      cases hf
    | succ n ih =>
      intro u1 u3 u4 T ls hl hf kk
      rw [f_X5_way_L24] at hf
      refine lv_iload (pc := 24) hx hb dX5_way_24 (lv_at hl 3 rfl) ?_
      refine lv_aload_n (pc := 26) hx hb dX5_way_26 rfl (lv_at hl 0 rfl) ?_
      refine va_get (pc := 27) (ci := 5) (C := RX5) (T := TX5) (N := 9) (v := .ref D.1.2.1) hx hb hts in_X5 hown hK hP _ zg_0 rfl 1 (by decide) lk_fi15 (fun _ h9 => h9) rfl dX5_way_27 ?_
      refine lv_iload_n (pc := 30) hx hb dX5_way_30 rfl (lv_at hl 1 rfl) ?_
      obtain ⟨x31, e31, hf⟩ := z_bd hf
      refine z_aald (pc := 31) hx hb hK hP _ 2 zg_2 rfl e31 dX5_way_31 ?_
      refine lv_iconst (v := 0) (pc := 32) hx hb dX5_way_32 (by decide) ?_
      refine z_iald (pc := 33) hx hb hK hP _ 0 (zg_v (z_ai_lt e31)) rfl (show z_at _ 0 _ = some (Q.2.2.1.2 x31 0) from rfl) dX5_way_33 ?_
      refine lv_imul (pc := 34) hx hb dX5_way_34 ?_
      refine lv_iload_n (pc := 35) hx hb dX5_way_35 rfl (lv_at hl 2 rfl) ?_
      refine lv_icmp_ge (pc := 36) (tgt := 45) hx hb dX5_way_36 (by decide) (fun c_36 => ?_) (fun c_36 => ?_)
      · replace hf := z_ip c_36 hf
        obtain rfl := Option.some.inj hf
        exact kk ls (lv_sub hl [3] rfl)
      · replace hf := z_in c_36 hf
        refine lv_iinc (pc := 39) (v := (u4 + 1)) (lv' := [(4, .int (u4 + 1)), (0, .ref a), (1, .int u1), (3, .int u3)]) hx hb dX5_way_39 hl (k := 3) rfl rfl (by decide) rfl (fun ls hl => ?_)
        refine lv_goto (pc := 42) (tgt := 24) hx hb dX5_way_42 (by decide) ?_
        exact ih u1 u3 (u4 + 1) T ls (lv_sub hl [1, 2, 3, 0] rfl) hf kk
  unfold f_X5_way at hf
  refine lv_aload_n (pc := 0) hx hb dX5_way_0 rfl (lv_at hl 0 rfl) ?_
  refine va_get (pc := 1) (ci := 5) (C := RX5) (T := TX5) (N := 9) (v := .ref D.1.2.1) hx hb hts in_X5 hown hK hP _ zg_0 rfl 1 (by decide) lk_fi15 (fun _ h9 => h9) rfl dX5_way_1 ?_
  refine lv_iload_n (pc := 4) hx hb dX5_way_4 rfl (lv_at hl 1 rfl) ?_
  obtain ⟨x5, e5, hf⟩ := z_bd hf
  refine z_aald (pc := 5) hx hb hK hP _ 2 zg_2 rfl e5 dX5_way_5 ?_
  refine lv_iconst (v := 1) (pc := 6) hx hb dX5_way_6 (by decide) ?_
  refine z_iald (pc := 7) hx hb hK hP _ 0 (zg_v (z_ai_lt e5)) rfl (show z_at _ 1 _ = some (Q.2.2.1.2 x5 1) from rfl) dX5_way_7 ?_
  refine lv_aload_n (pc := 8) hx hb dX5_way_8 rfl (lv_at hl 0 rfl) ?_
  refine va_get (pc := 9) (ci := 5) (C := RX5) (T := TX5) (N := 9) (v := .ref D.1.1) hx hb hts in_X5 hown hK hP _ zg_0 rfl 0 (by decide) lk_fi9 (fun _ h9 => h9) rfl dX5_way_9 ?_
  refine lv_iload_n (pc := 12) hx hb dX5_way_12 rfl (lv_at hl 2 rfl) ?_
  obtain ⟨x13, e13, hf⟩ := z_bd hf
  refine z_aald (pc := 13) hx hb hK hP _ 2 zg_1 rfl e13 dX5_way_13 ?_
  refine lv_iconst (v := 0) (pc := 14) hx hb dX5_way_14 (by decide) ?_
  refine z_iald (pc := 15) hx hb hK hP _ 0 (zg_r (z_ai_lt e13)) rfl (show z_at _ 0 _ = some (Q.2.1.2 x13 0) from rfl) dX5_way_15 ?_
  refine lv_isub (pc := 16) hx hb dX5_way_16 ?_
  have hml2 : c.maxLocals = ls.size := by rw [hml]; exact hl.1.symm
  refine va_mabs (pc := 17) hx hb hml2 hown (hts _ (List.mem_of_getElem? (i := 3) rfl)) (hts _ (List.mem_of_getElem? (i := 4) rfl)) (hts _ (List.mem_of_getElem? (i := 5) rfl)) (hts _ (List.mem_of_getElem? (i := 6) rfl)) (Nat.le_of_ble_eq_true rfl) (Nat.le_of_ble_eq_true rfl) (Nat.zero_le _) (Nat.zero_le _) dX5_way_17 ?_
  refine lv_istore_n (pc := 20) (lv' := [(3, .int (if 0 ≤ ((Q.2.2.1.2 x5 1) - (Q.2.1.2 x13 0)) then ((Q.2.2.1.2 x5 1) - (Q.2.1.2 x13 0)) else 0 - ((Q.2.2.1.2 x5 1) - (Q.2.1.2 x13 0)))), (0, .ref a), (1, .int v1), (2, .int v2)]) hx hb dX5_way_20 rfl hl (by decide) rfl (fun ls hl => ?_)
  refine lv_iconst (v := 1) (pc := 21) hx hb dX5_way_21 (by decide) ?_
  refine lv_istore (pc := 22) (lv' := [(4, .int 1), (3, .int (if 0 ≤ ((Q.2.2.1.2 x5 1) - (Q.2.1.2 x13 0)) then ((Q.2.2.1.2 x5 1) - (Q.2.1.2 x13 0)) else 0 - ((Q.2.2.1.2 x5 1) - (Q.2.1.2 x13 0)))), (0, .ref a), (1, .int v1), (2, .int v2)]) hx hb dX5_way_22 hl (by decide) rfl (fun ls hl => ?_)
  obtain ⟨x24, e24, hf⟩ := z_bd hf
  refine lp_24 z_F14 v1 (if 0 ≤ ((Q.2.2.1.2 x5 1) - (Q.2.1.2 x13 0)) then ((Q.2.2.1.2 x5 1) - (Q.2.1.2 x13 0)) else 0 - ((Q.2.2.1.2 x5 1) - (Q.2.1.2 x13 0))) 1 x24 ls (lv_sub hl [2, 3, 1, 0] rfl) e24 (fun ls hl => ?_)
  refine lv_iload (pc := 45) hx hb dX5_way_45 (lv_at hl 0 rfl) ?_
  exact W.iret (pc := 47) (v := x24) hx hb hr (fun t ht hW => ⟨_, rfl, (Option.some.inj hf), ht⟩) (fun _ h => nomatch h) dX5_way_47
theorem hdX5_isIdle : yX5_isIdle.cls = RX5 ∧ yX5_isIdle.cls ≠ "java/lang/invoke/MethodHandle" ∧ yX5_isIdle.cls ≠ "java/lang/invoke/VarHandle" ∧ (parseMethodDescriptor yX5_isIdle.desc).map (fun d => d.parameters.length) = some 1 := by decide +kernel
def f_X5_isIdle (Q : z_Q) (v1 : Int32) : Option Int32 := (z_ai v1 Q.2.2.1.1).bind (fun x5 => ((if 0 ≤ (Q.2.2.1.2 x5 2) then some 0 else (if 0 ≤ (Q.2.2.1.2 x5 3) then some 0 else some 1))).bind (fun (y8 : Int32) => (z_bo y8).bind (fun x27 => some x27)))
set_option maxHeartbeats 4000000 in
set_option maxRecDepth 100000 in
theorem m_X5_isIdle (l : Launch) (X : z_X) (a : Nat) (D : z_D) (Q : z_Q) (v1 : Int32) {RR : Int32} (hf : f_X5_isIdle Q v1 = some RR) : z_pI l yX5_isIdle wsX5_isIdle 0 0 X [.ref a, .int v1] (z_wS X a D Q) RR := by
  refine Met.ofW (cc := cX5_isIdle) (maxL := 2) (ret := (some .boolean)) (by decide) rfl ?_
  intro p e s m args below meth c s₁ Bd hml hv
  obtain ⟨rfl, hP, hK, hN⟩ := hv
  have hx := Bd.exec
  have hb := Bd.bytes
  have hr := Bd.returns
  have hts := atoms_spec (ws := wsX5_isIdle) Bd.pre
  have hown : s.vm.findClass RX5 = some m.cls := findClass_of_methodNamed Bd.named
  have hlocks := Bd.notSynchronized
  have S : CallFix p m c cX5_isIdle 2 s _ wsX5_isIdle RX5 := ⟨hx, hb, hml, hown, hts⟩
  have lk_fi15 := hts (.fieldLink RX5 15 "HouseBellsLaw$Sim" "servants" "[[I") (List.mem_of_getElem? (i := 1) rfl)
  have in_X5 : ∀ w ∈ wsX50, w ∈ wsX5_isIdle := fun _ h => (List.mem_cons_of_mem _ (List.mem_append_right _ h))
  have hP : va_P X.1 vwCl (z_W [] X a D Q []) s.heap := by unfold z_W; rw [List.append_nil]; exact hP
  have hl := lv_entry ([.ref a, .int v1]) (n := 2) (Nat.le_of_ble_eq_true rfl)
  rw [lg_entry_eq]
  generalize (lg_sl ([.ref a, .int v1]) ++ List.replicate (2 - (lg_sl ([.ref a, .int v1])).length) Slot.unset).toArray = ls at hl ⊢
  have hl : lv_has ls 2 [(0, .ref a), (1, .int v1)] := hl
  unfold f_X5_isIdle at hf
  refine lv_aload_n (pc := 0) hx hb dX5_isIdle_0 rfl (lv_at hl 0 rfl) ?_
  refine va_get (pc := 1) (ci := 5) (C := RX5) (T := TX5) (N := 9) (v := .ref D.1.2.1) hx hb hts in_X5 hown hK hP _ zg_0 rfl 1 (by decide) lk_fi15 (fun _ h9 => h9) rfl dX5_isIdle_1 ?_
  refine lv_iload_n (pc := 4) hx hb dX5_isIdle_4 rfl (lv_at hl 1 rfl) ?_
  obtain ⟨x5, e5, hf⟩ := z_bd hf
  refine z_aald (pc := 5) hx hb hK hP _ 2 zg_2 rfl e5 dX5_isIdle_5 ?_
  refine lv_iconst (v := 2) (pc := 6) hx hb dX5_isIdle_6 (by decide) ?_
  refine z_iald (pc := 7) hx hb hK hP _ 0 (zg_v (z_ai_lt e5)) rfl (show z_at _ 2 _ = some (Q.2.2.1.2 x5 2) from rfl) dX5_isIdle_7 ?_
  obtain ⟨y8, ey8, hf⟩ := z_bd hf
  suffices jp_8 : ∀ (ls : Array Slot) (_ : lv_has ls 2 []), W p l e (headSpec wsX5_isIdle (z_R 0 0)).room s m ([.ref a, .int v1] : List Value).toArray below meth c s.heap [] 0 0 (MQ below (vp_Si (fun z => z = RR)) ([.ref a, .int v1] : List Value).toArray s 0 0 (fun _ => False)) (F0 m 27 ls [.int y8]) by
    have hf := ey8
    refine lv_if_ge (pc := 8) (tgt := 26) hx hb dX5_isIdle_8 (by decide) (fun c_8 => ?_) (fun c_8 => ?_)
    · replace hf := z_ip c_8 hf
      refine lv_iconst (v := 0) (pc := 26) hx hb dX5_isIdle_26 (by decide) ?_
      obtain rfl := Option.some.inj hf
      exact jp_8 ls (lv_sub hl [] rfl)
    · replace hf := z_in c_8 hf
      refine lv_aload_n (pc := 11) hx hb dX5_isIdle_11 rfl (lv_at hl 0 rfl) ?_
      refine va_get (pc := 12) (ci := 5) (C := RX5) (T := TX5) (N := 9) (v := .ref D.1.2.1) hx hb hts in_X5 hown hK hP _ zg_0 rfl 1 (by decide) lk_fi15 (fun _ h9 => h9) rfl dX5_isIdle_12 ?_
      refine lv_iload_n (pc := 15) hx hb dX5_isIdle_15 rfl (lv_at hl 1 rfl) ?_
      refine z_aald (pc := 16) hx hb hK hP _ 2 zg_2 rfl e5 dX5_isIdle_16 ?_
      refine lv_iconst (v := 3) (pc := 17) hx hb dX5_isIdle_17 (by decide) ?_
      refine z_iald (pc := 18) hx hb hK hP _ 0 (zg_v (z_ai_lt e5)) rfl (show z_at _ 3 _ = some (Q.2.2.1.2 x5 3) from rfl) dX5_isIdle_18 ?_
      refine lv_if_ge (pc := 19) (tgt := 26) hx hb dX5_isIdle_19 (by decide) (fun c_19 => ?_) (fun c_19 => ?_)
      · replace hf := z_ip c_19 hf
        refine lv_iconst (v := 0) (pc := 26) hx hb dX5_isIdle_26 (by decide) ?_
        obtain rfl := Option.some.inj hf
        exact jp_8 ls (lv_sub hl [] rfl)
      · replace hf := z_in c_19 hf
        refine lv_iconst (v := 1) (pc := 22) hx hb dX5_isIdle_22 (by decide) ?_
        refine lv_goto (pc := 23) (tgt := 27) hx hb dX5_isIdle_23 (by decide) ?_
        obtain rfl := Option.some.inj hf
        exact jp_8 ls (lv_sub hl [] rfl)
  intro ls hl
  obtain ⟨x27, e27, hf⟩ := z_bd hf
  obtain ⟨e_bo, h_bo⟩ := z_bo_s e27
  exact W.zret (pc := 27) (v := y8) hx hb hr h_bo (fun t ht hW => ⟨_, rfl, e_bo.trans (Option.some.inj hf), ht⟩) (fun _ h => nomatch h) dX5_isIdle_27
theorem hdX5_nearest : yX5_nearest.cls = RX5 ∧ yX5_nearest.cls ≠ "java/lang/invoke/MethodHandle" ∧ yX5_nearest.cls ≠ "java/lang/invoke/VarHandle" ∧ (parseMethodDescriptor yX5_nearest.desc).map (fun d => d.parameters.length) = some 1 := by decide +kernel
def f_X5_nearest_L10 (Q : z_Q) : Nat → Int32 → Int32 → Int32 → Option Int32
  | 0, _, _, _ => none
  | n + 1, u1, u2, u3 => (if u3 < 0 then some u2 else (f_X5_isIdle Q u3).bind (fun x16 => ((if x16 = 0 then some u2 else (if u2 < 0 then some u3 else (f_X5_way Q u3 u1).bind (fun x29 => (f_X5_way Q u2 u1).bind (fun x35 => (if x35 < x29 then some u2 else some u3)))))).bind (fun (y19 : Int32) => f_X5_nearest_L10 Q n u1 y19 (u3 + (-1)))))
def f_X5_nearest (Q : z_Q) (v1 : Int32) : Option Int32 := (f_X5_nearest_L10 Q z_F14 v1 (-1) ((nI Q.2.2.1.1) - 1)).bind (fun x10 => some x10)
set_option maxHeartbeats 4000000 in
set_option maxRecDepth 100000 in
theorem m_X5_nearest (l : Launch) (X : z_X) (a : Nat) (D : z_D) (Q : z_Q) (v1 : Int32) {RR : Int32} (hf : f_X5_nearest Q v1 = some RR) : z_pI l yX5_nearest wsX5_nearest 2 49 X [.ref a, .int v1] (z_wS X a D Q) RR := by
  refine Met.ofW (cc := cX5_nearest) (maxL := 4) (ret := (some .int)) (by decide) rfl ?_
  intro p e s m args below meth c s₁ Bd hml hv
  obtain ⟨rfl, hP, hK, hN⟩ := hv
  have hx := Bd.exec
  have hb := Bd.bytes
  have hr := Bd.returns
  have hts := atoms_spec (ws := wsX5_nearest) Bd.pre
  have hown : s.vm.findClass RX5 = some m.cls := findClass_of_methodNamed Bd.named
  have hlocks := Bd.notSynchronized
  have S : CallFix p m c cX5_nearest 4 s _ wsX5_nearest RX5 := ⟨hx, hb, hml, hown, hts⟩
  have lk_fi15 := hts (.fieldLink RX5 15 "HouseBellsLaw$Sim" "servants" "[[I") (List.mem_of_getElem? (i := 1) rfl)
  have in_X5 : ∀ w ∈ wsX50, w ∈ wsX5_nearest := fun _ h => (List.mem_cons_of_mem _ (List.mem_append_right _ h))
  have hP : va_P X.1 vwCl (z_W [] X a D Q []) s.heap := by unfold z_W; rw [List.append_nil]; exact hP
  have hl := lv_entry ([.ref a, .int v1]) (n := 4) (Nat.le_of_ble_eq_true rfl)
  rw [lg_entry_eq]
  generalize (lg_sl ([.ref a, .int v1]) ++ List.replicate (4 - (lg_sl ([.ref a, .int v1])).length) Slot.unset).toArray = ls at hl ⊢
  have hl : lv_has ls 4 [(0, .ref a), (1, .int v1)] := hl
  have lp_10 : ∀ (n : Nat) (u1 : Int32) (u2 : Int32) (u3 : Int32) (T : Int32) (ls : Array Slot), lv_has ls 4 [(0, .ref a), (1, .int u1), (2, .int u2), (3, .int u3)] → f_X5_nearest_L10 Q n u1 u2 u3 = some T → (∀ (ls : Array Slot), lv_has ls 4 [(2, .int T)] → W p l e (headSpec wsX5_nearest (z_R 2 49)).room s m ([.ref a, .int v1] : List Value).toArray below meth c s.heap [] 0 0 (MQ below (vp_Si (fun z => z = RR)) ([.ref a, .int v1] : List Value).toArray s 0 0 (fun _ => False)) (F0 m 49 ls [])) → W p l e (headSpec wsX5_nearest (z_R 2 49)).room s m ([.ref a, .int v1] : List Value).toArray below meth c s.heap [] 0 0 (MQ below (vp_Si (fun z => z = RR)) ([.ref a, .int v1] : List Value).toArray s 0 0 (fun _ => False)) (F0 m 10 ls []) := by
    intro n
    induction n with
    | zero =>
      intro u1 u2 u3 T ls hl hf kk
      cases hf
    | succ n ih =>
      intro u1 u2 u3 T ls hl hf kk
      rw [f_X5_nearest_L10] at hf
      refine lv_iload_n (pc := 10) hx hb dX5_nearest_10 rfl (lv_at hl 3 rfl) ?_
      refine lv_if_lt (pc := 11) (tgt := 49) hx hb dX5_nearest_11 (by decide) (fun c_11 => ?_) (fun c_11 => ?_)
      · replace hf := z_ip c_11 hf
        obtain rfl := Option.some.inj hf
        exact kk ls (lv_sub hl [2] rfl)
      · replace hf := z_in c_11 hf
        refine lv_aload_n (pc := 14) hx hb dX5_nearest_14 rfl (lv_at hl 0 rfl) ?_
        refine lv_iload_n (pc := 15) hx hb dX5_nearest_15 rfl (lv_at hl 3 rfl) ?_
        obtain ⟨x16, e16, hf⟩ := z_bd hf
        refine z_cpI (pc := 16) S (m_X5_isIdle l X a D Q u3 e16) (cwV 1 hts gX5_nearest_X5_isIdle rfl rfl rfl hdX5_isIdle ⟨Nat.le_of_ble_eq_true rfl, Nat.le_of_ble_eq_true rfl⟩) hP hK hN z_S_W (ci := 5) rfl rfl rfl ⟨Nat.le_of_ble_eq_true rfl, Nat.le_of_ble_eq_true rfl⟩ rfl hl.1 rfl (Nat.le_of_ble_eq_true rfl) dX5_nearest_16 ?_
        obtain ⟨y19, ey19, hf⟩ := z_bd hf
        suffices jp_19 : ∀ (ls : Array Slot) (_ : lv_has ls 4 [(0, .ref a), (1, .int u1), (2, .int y19), (3, .int u3)]), W p l e (headSpec wsX5_nearest (z_R 2 49)).room s m ([.ref a, .int v1] : List Value).toArray below meth c s.heap [] 0 0 (MQ below (vp_Si (fun z => z = RR)) ([.ref a, .int v1] : List Value).toArray s 0 0 (fun _ => False)) (F0 m 43 ls []) by
          have hf := ey19
          refine lv_if_eq (pc := 19) (tgt := 43) hx hb dX5_nearest_19 (by decide) (fun c_19 => ?_) (fun c_19 => ?_)
          · replace hf := z_ip c_19 hf
            obtain rfl := Option.some.inj hf
            exact jp_19 ls (lv_sub hl [0, 1, 2, 3] rfl)
          · replace hf := z_in c_19 hf
            refine lv_iload_n (pc := 22) hx hb dX5_nearest_22 rfl (lv_at hl 2 rfl) ?_
            refine lv_if_lt (pc := 23) (tgt := 41) hx hb dX5_nearest_23 (by decide) (fun c_23 => ?_) (fun c_23 => ?_)
            · replace hf := z_ip c_23 hf
              refine lv_iload_n (pc := 41) hx hb dX5_nearest_41 rfl (lv_at hl 3 rfl) ?_
              refine lv_istore_n (pc := 42) (lv' := [(2, .int u3), (0, .ref a), (1, .int u1), (3, .int u3)]) hx hb dX5_nearest_42 rfl hl (by decide) rfl (fun ls hl => ?_)
              obtain rfl := Option.some.inj hf
              exact jp_19 ls (lv_sub hl [1, 2, 0, 3] rfl)
            · replace hf := z_in c_23 hf
              refine lv_aload_n (pc := 26) hx hb dX5_nearest_26 rfl (lv_at hl 0 rfl) ?_
              refine lv_iload_n (pc := 27) hx hb dX5_nearest_27 rfl (lv_at hl 3 rfl) ?_
              refine lv_iload_n (pc := 28) hx hb dX5_nearest_28 rfl (lv_at hl 1 rfl) ?_
              obtain ⟨x29, e29, hf⟩ := z_bd hf
              refine z_cpI (pc := 29) S (m_X5_way l X a D Q u3 u1 e29) (cwV 2 hts gX5_nearest_X5_way rfl rfl rfl hdX5_way ⟨Nat.le_of_ble_eq_true rfl, Nat.le_of_ble_eq_true rfl⟩) hP hK hN z_S_W (ci := 5) rfl rfl rfl ⟨Nat.le_of_ble_eq_true rfl, Nat.le_of_ble_eq_true rfl⟩ rfl hl.1 rfl (Nat.le_of_ble_eq_true rfl) dX5_nearest_29 ?_
              refine lv_aload_n (pc := 32) hx hb dX5_nearest_32 rfl (lv_at hl 0 rfl) ?_
              refine lv_iload_n (pc := 33) hx hb dX5_nearest_33 rfl (lv_at hl 2 rfl) ?_
              refine lv_iload_n (pc := 34) hx hb dX5_nearest_34 rfl (lv_at hl 1 rfl) ?_
              obtain ⟨x35, e35, hf⟩ := z_bd hf
              refine z_cpI (pc := 35) S (m_X5_way l X a D Q u2 u1 e35) (cwV 2 hts gX5_nearest_X5_way rfl rfl rfl hdX5_way ⟨Nat.le_of_ble_eq_true rfl, Nat.le_of_ble_eq_true rfl⟩) hP hK hN z_S_W (ci := 5) rfl rfl rfl ⟨Nat.le_of_ble_eq_true rfl, Nat.le_of_ble_eq_true rfl⟩ rfl hl.1 rfl (Nat.le_of_ble_eq_true rfl) dX5_nearest_35 ?_
              refine lv_icmp_gt (pc := 38) (tgt := 43) hx hb dX5_nearest_38 (by decide) (fun c_38 => ?_) (fun c_38 => ?_)
              · replace hf := z_ip c_38 hf
                obtain rfl := Option.some.inj hf
                exact jp_19 ls (lv_sub hl [0, 1, 2, 3] rfl)
              · replace hf := z_in c_38 hf
                refine lv_iload_n (pc := 41) hx hb dX5_nearest_41 rfl (lv_at hl 3 rfl) ?_
                refine lv_istore_n (pc := 42) (lv' := [(2, .int u3), (0, .ref a), (1, .int u1), (3, .int u3)]) hx hb dX5_nearest_42 rfl hl (by decide) rfl (fun ls hl => ?_)
                obtain rfl := Option.some.inj hf
                exact jp_19 ls (lv_sub hl [1, 2, 0, 3] rfl)
        intro ls hl
        refine lv_iinc (pc := 43) (v := (u3 + (-1))) (lv' := [(3, .int (u3 + (-1))), (0, .ref a), (1, .int u1), (2, .int y19)]) hx hb dX5_nearest_43 hl (k := 3) rfl rfl (by decide) rfl (fun ls hl => ?_)
        refine lv_goto (pc := 46) (tgt := 10) hx hb dX5_nearest_46 (by decide) ?_
        exact ih u1 y19 (u3 + (-1)) T ls (lv_sub hl [1, 2, 3, 0] rfl) hf kk
  unfold f_X5_nearest at hf
  refine lv_iconst (v := (-1)) (pc := 0) hx hb dX5_nearest_0 (by decide) ?_
  refine lv_istore_n (pc := 1) (lv' := [(2, .int (-1)), (0, .ref a), (1, .int v1)]) hx hb dX5_nearest_1 rfl hl (by decide) rfl (fun ls hl => ?_)
  refine lv_aload_n (pc := 2) hx hb dX5_nearest_2 rfl (lv_at hl 1 rfl) ?_
  refine va_get (pc := 3) (ci := 5) (C := RX5) (T := TX5) (N := 9) (v := .ref D.1.2.1) hx hb hts in_X5 hown hK hP _ zg_0 rfl 1 (by decide) lk_fi15 (fun _ h9 => h9) rfl dX5_nearest_3 ?_
  refine va_alen (v := (nI Q.2.2.1.1)) (pc := 6) hx hb hK hP _ 2 zg_2 rfl rfl dX5_nearest_6 ?_
  refine lv_iconst (v := 1) (pc := 7) hx hb dX5_nearest_7 (by decide) ?_
  refine lv_isub (pc := 8) hx hb dX5_nearest_8 ?_
  refine lv_istore_n (pc := 9) (lv' := [(3, .int ((nI Q.2.2.1.1) - 1)), (2, .int (-1)), (0, .ref a), (1, .int v1)]) hx hb dX5_nearest_9 rfl hl (by decide) rfl (fun ls hl => ?_)
  obtain ⟨x10, e10, hf⟩ := z_bd hf
  refine lp_10 z_F14 v1 (-1) ((nI Q.2.2.1.1) - 1) x10 ls (lv_sub hl [2, 3, 1, 0] rfl) e10 (fun ls hl => ?_)
  refine lv_iload_n (pc := 49) hx hb dX5_nearest_49 rfl (lv_at hl 0 rfl) ?_
  exact W.iret (pc := 50) (v := x10) hx hb hr (fun t ht hW => ⟨_, rfl, (Option.some.inj hf), ht⟩) (fun _ h => nomatch h) dX5_nearest_50
theorem hdX5_cut : yX5_cut.cls = RX5 ∧ yX5_cut.cls ≠ "java/lang/invoke/MethodHandle" ∧ yX5_cut.cls ≠ "java/lang/invoke/VarHandle" ∧ (parseMethodDescriptor yX5_cut.desc).map (fun d => d.parameters.length) = some 0 := by decide +kernel
def f_X5_cut_L13 (Q : z_Q) : Nat → Int32 → Int32 → Int32 → Option Int32
  | 0, _, _, _ => none
  | n + 1, u1, u3, u4 => (if u3 ≤ u4 then some u1 else (z_ai u4 Q.2.1.1).bind (fun x22 => f_X5_cut_L13 Q n (u1 + (Q.2.1.2 x22 5)) u3 (u4 + 1)))
def f_X5_cut (Q : z_Q)  : Option Int32 := (f_X5_cut_L13 Q z_F14 0 (nI Q.2.1.1) 0).bind (fun x13 => some x13)
set_option maxHeartbeats 4000000 in
set_option maxRecDepth 100000 in
theorem m_X5_cut (l : Launch) (X : z_X) (a : Nat) (D : z_D) (Q : z_Q)  {RR : Int32} (hf : f_X5_cut Q = some RR) : z_pI l yX5_cut wsX5_cut 0 0 X [.ref a] (z_wS X a D Q) RR := by
  refine Met.ofW (cc := cX5_cut) (maxL := 6) (ret := (some .int)) (by decide) rfl ?_
  intro p e s m args below meth c s₁ Bd hml hv
  obtain ⟨rfl, hP, hK, hN⟩ := hv
  have hx := Bd.exec
  have hb := Bd.bytes
  have hr := Bd.returns
  have hts := atoms_spec (ws := wsX5_cut) Bd.pre
  have hown : s.vm.findClass RX5 = some m.cls := findClass_of_methodNamed Bd.named
  have hlocks := Bd.notSynchronized
  have S : CallFix p m c cX5_cut 6 s _ wsX5_cut RX5 := ⟨hx, hb, hml, hown, hts⟩
  have lk_fi9 := hts (.fieldLink RX5 9 "HouseBellsLaw$Sim" "rooms" "[[I") (List.mem_of_getElem? (i := 1) rfl)
  have in_X5 : ∀ w ∈ wsX50, w ∈ wsX5_cut := fun _ h => (List.mem_cons_of_mem _ (List.mem_append_right _ h))
  have hP : va_P X.1 vwCl (z_W [] X a D Q []) s.heap := by unfold z_W; rw [List.append_nil]; exact hP
  have hl := lv_entry ([.ref a]) (n := 6) (Nat.le_of_ble_eq_true rfl)
  rw [lg_entry_eq]
  generalize (lg_sl ([.ref a]) ++ List.replicate (6 - (lg_sl ([.ref a])).length) Slot.unset).toArray = ls at hl ⊢
  have hl : lv_has ls 6 [(0, .ref a)] := hl
  have lp_13 : ∀ (n : Nat) (u1 : Int32) (u3 : Int32) (u4 : Int32) (T : Int32) (ls : Array Slot), lv_has ls 6 [(1, .int u1), (2, .ref D.1.1), (3, .int u3), (4, .int u4)] → f_X5_cut_L13 Q n u1 u3 u4 = some T → (∀ (ls : Array Slot), lv_has ls 6 [(1, .int T)] → W p l e (headSpec wsX5_cut (z_R 0 0)).room s m ([.ref a] : List Value).toArray below meth c s.heap [] 0 0 (MQ below (vp_Si (fun z => z = RR)) ([.ref a] : List Value).toArray s 0 0 (fun _ => False)) (F0 m 38 ls [])) → W p l e (headSpec wsX5_cut (z_R 0 0)).room s m ([.ref a] : List Value).toArray below meth c s.heap [] 0 0 (MQ below (vp_Si (fun z => z = RR)) ([.ref a] : List Value).toArray s 0 0 (fun _ => False)) (F0 m 13 ls []) := by
    intro n
    induction n with
    | zero =>
      intro u1 u3 u4 T ls hl hf kk
      cases hf
    | succ n ih =>
      intro u1 u3 u4 T ls hl hf kk
      rw [f_X5_cut_L13] at hf
      refine lv_iload (pc := 13) hx hb dX5_cut_13 (lv_at hl 3 rfl) ?_
      refine lv_iload_n (pc := 15) hx hb dX5_cut_15 rfl (lv_at hl 2 rfl) ?_
      refine lv_icmp_ge (pc := 16) (tgt := 38) hx hb dX5_cut_16 (by decide) (fun c_16 => ?_) (fun c_16 => ?_)
      · replace hf := z_ip c_16 hf
        obtain rfl := Option.some.inj hf
        exact kk ls (lv_sub hl [0] rfl)
      · replace hf := z_in c_16 hf
        refine lv_aload_n (pc := 19) hx hb dX5_cut_19 rfl (lv_at hl 1 rfl) ?_
        refine lv_iload (pc := 20) hx hb dX5_cut_20 (lv_at hl 3 rfl) ?_
        obtain ⟨x22, e22, hf⟩ := z_bd hf
        refine z_aald (pc := 22) hx hb hK hP _ 2 zg_1 rfl e22 dX5_cut_22 ?_
        refine lv_astore (pc := 23) (lv' := [(5, .ref (D.2.1 x22)), (1, .int u1), (2, .ref D.1.1), (3, .int u3), (4, .int u4)]) hx hb dX5_cut_23 hl (by decide) rfl (fun ls hl => ?_)
        refine lv_iload_n (pc := 25) hx hb dX5_cut_25 rfl (lv_at hl 1 rfl) ?_
        refine lv_aload (pc := 26) hx hb dX5_cut_26 (lv_at hl 0 rfl) ?_
        refine lv_iconst (v := 5) (pc := 28) hx hb dX5_cut_28 (by decide) ?_
        refine z_iald (pc := 29) hx hb hK hP _ 0 (zg_r (z_ai_lt e22)) rfl (show z_at _ 5 _ = some (Q.2.1.2 x22 5) from rfl) dX5_cut_29 ?_
        refine lv_iadd (pc := 30) hx hb dX5_cut_30 ?_
        refine lv_istore_n (pc := 31) (lv' := [(1, .int (u1 + (Q.2.1.2 x22 5))), (5, .ref (D.2.1 x22)), (2, .ref D.1.1), (3, .int u3), (4, .int u4)]) hx hb dX5_cut_31 rfl hl (by decide) rfl (fun ls hl => ?_)
        refine lv_iinc (pc := 32) (v := (u4 + 1)) (lv' := [(4, .int (u4 + 1)), (1, .int (u1 + (Q.2.1.2 x22 5))), (5, .ref (D.2.1 x22)), (2, .ref D.1.1), (3, .int u3)]) hx hb dX5_cut_32 hl (k := 4) rfl rfl (by decide) rfl (fun ls hl => ?_)
        refine lv_goto (pc := 35) (tgt := 13) hx hb dX5_cut_35 (by decide) ?_
        exact ih (u1 + (Q.2.1.2 x22 5)) u3 (u4 + 1) T ls (lv_sub hl [1, 3, 4, 0] rfl) hf kk
  unfold f_X5_cut at hf
  refine lv_iconst (v := 0) (pc := 0) hx hb dX5_cut_0 (by decide) ?_
  refine lv_istore_n (pc := 1) (lv' := [(1, .int 0), (0, .ref a)]) hx hb dX5_cut_1 rfl hl (by decide) rfl (fun ls hl => ?_)
  refine lv_aload_n (pc := 2) hx hb dX5_cut_2 rfl (lv_at hl 1 rfl) ?_
  refine va_get (pc := 3) (ci := 5) (C := RX5) (T := TX5) (N := 9) (v := .ref D.1.1) hx hb hts in_X5 hown hK hP _ zg_0 rfl 0 (by decide) lk_fi9 (fun _ h9 => h9) rfl dX5_cut_3 ?_
  refine lv_astore_n (pc := 6) (lv' := [(2, .ref D.1.1), (1, .int 0), (0, .ref a)]) hx hb dX5_cut_6 rfl hl (by decide) rfl (fun ls hl => ?_)
  refine lv_aload_n (pc := 7) hx hb dX5_cut_7 rfl (lv_at hl 0 rfl) ?_
  refine va_alen (v := (nI Q.2.1.1)) (pc := 8) hx hb hK hP _ 2 zg_1 rfl rfl dX5_cut_8 ?_
  refine lv_istore_n (pc := 9) (lv' := [(3, .int (nI Q.2.1.1)), (2, .ref D.1.1), (1, .int 0), (0, .ref a)]) hx hb dX5_cut_9 rfl hl (by decide) rfl (fun ls hl => ?_)
  refine lv_iconst (v := 0) (pc := 10) hx hb dX5_cut_10 (by decide) ?_
  refine lv_istore (pc := 11) (lv' := [(4, .int 0), (3, .int (nI Q.2.1.1)), (2, .ref D.1.1), (1, .int 0), (0, .ref a)]) hx hb dX5_cut_11 hl (by decide) rfl (fun ls hl => ?_)
  obtain ⟨x13, e13, hf⟩ := z_bd hf
  refine lp_13 z_F14 0 (nI Q.2.1.1) 0 x13 ls (lv_sub hl [3, 2, 1, 0] rfl) e13 (fun ls hl => ?_)
  refine lv_iload_n (pc := 38) hx hb dX5_cut_38 rfl (lv_at hl 0 rfl) ?_
  exact W.iret (pc := 39) (v := x13) hx hb hr (fun t ht hW => ⟨_, rfl, (Option.some.inj hf), ht⟩) (fun _ h => nomatch h) dX5_cut_39
theorem hdX5_cross : yX5_cross.cls = RX5 ∧ yX5_cross.cls ≠ "java/lang/invoke/MethodHandle" ∧ yX5_cross.cls ≠ "java/lang/invoke/VarHandle" ∧ (parseMethodDescriptor yX5_cross.desc).map (fun d => d.parameters.length) = some 2 := by decide +kernel
def f_X5_cross (Q : z_Q) (v1 : Int32) (v2 : Int32) : Option z_Q := (z_ai v1 Q.2.1.1).bind (fun x5 => (z_ai v2 Q.2.1.1).bind (fun x21 => (z_wr (Q.2.1.2 x5) 4 6 (Q.2.1.2 x21 4)).bind (fun x24 => (z_wr ((z_ur Q.2.1.2 x5 x24) x21) 4 6 (Q.2.1.2 x5 4)).bind (fun x33 => some (z_qR (z_qR Q x5 x24) x21 x33)))))
set_option maxHeartbeats 4000000 in
set_option maxRecDepth 100000 in
theorem m_X5_cross (l : Launch) (X : z_X) (a : Nat) (D : z_D) (Q : z_Q) (v1 : Int32) (v2 : Int32) {RR : z_Q} (hf : f_X5_cross Q v1 v2 = some RR) : z_kV l yX5_cross wsX5_cross 0 0 0 0 X [.ref a, .int v1, .int v2] (z_wS X a D Q) (fun (u : va_W) => u = z_wS X a D RR) := by
  intro sz
  refine Met.ofW (cc := cX5_cross) (maxL := 4) (ret := none) (by decide) rfl ?_
  intro p e s m args below meth c s₁ Bd hml hv
  obtain ⟨rfl, ⟨hsz, hP, hK, hN, hD0⟩, hA2⟩ := hv
  have hx := Bd.exec
  have hb := Bd.bytes
  have hr := Bd.returns
  have hts := atoms_spec (ws := wsX5_cross) Bd.pre
  have hown : s.vm.findClass RX5 = some m.cls := findClass_of_methodNamed Bd.named
  have hlocks := Bd.notSynchronized
  have S : CallFix p m c cX5_cross 4 s _ wsX5_cross RX5 := ⟨hx, hb, hml, hown, hts⟩
  have lk_fi9 := hts (.fieldLink RX5 9 "HouseBellsLaw$Sim" "rooms" "[[I") (List.mem_of_getElem? (i := 1) rfl)
  have in_X5 : ∀ w ∈ wsX50, w ∈ wsX5_cross := fun _ h => (List.mem_cons_of_mem _ (List.mem_append_right _ h))
  subst hsz
  have hD := hD0.self (sz := s.heap.size)
  generalize hAe : va_A (z_wS X a D Q) s.heap.size = A at hD ⊢
  have hA : ∀ q : Nat, s.heap.size ≤ q → A q := fun q h => by rw [← hAe]; exact Or.inr h
  have hS : va_S A s.heap s.heap [] := va_S.rf
  have hD : va_D A (z_W [] X a D Q []) := by unfold z_W; rw [List.append_nil]; exact hD
  have hP : va_P X.1 vwCl (z_W [] X a D Q []) s.heap := by unfold z_W; rw [List.append_nil]; exact hP
  have hl := lv_entry ([.ref a, .int v1, .int v2]) (n := 4) (Nat.le_of_ble_eq_true rfl)
  rw [lg_entry_eq]
  generalize (lg_sl ([.ref a, .int v1, .int v2]) ++ List.replicate (4 - (lg_sl ([.ref a, .int v1, .int v2])).length) Slot.unset).toArray = ls at hl ⊢
  have hl : lv_has ls 4 [(0, .ref a), (1, .int v1), (2, .int v2)] := hl
  suffices hgo : ∀ (H : Heap) (locs : List Loc), va_P X.1 vwCl (z_W [] X a D Q []) H → va_D A (z_W [] X a D Q []) → va_S A s.heap H locs → W p l e (headSpec wsX5_cross (z_R2 0 0 0 0)).room s m ([.ref a, .int v1, .int v2] : List Value).toArray below meth c H locs 0 0 (MQ below (va_Qv (fun (u : va_W) => u = z_wS X a D RR) (z_Bm X A) A) ([.ref a, .int v1, .int v2] : List Value).toArray s 0 0 A) (F0 m 0 ls []) from hgo _ _ hP hD hS
  clear hP hD hS
  intro H locs hP hD hS
  unfold f_X5_cross at hf
  refine lv_aload_n (pc := 0) hx hb dX5_cross_0 rfl (lv_at hl 0 rfl) ?_
  refine va_get (pc := 1) (ci := 5) (C := RX5) (T := TX5) (N := 9) (v := .ref D.1.1) hx hb hts in_X5 hown hK hP _ zg_0 rfl 0 (by decide) lk_fi9 (fun _ h9 => h9) rfl dX5_cross_1 ?_
  refine lv_iload_n (pc := 4) hx hb dX5_cross_4 rfl (lv_at hl 1 rfl) ?_
  obtain ⟨x5, e5, hf⟩ := z_bd hf
  refine z_aald (pc := 5) hx hb hK hP _ 2 zg_1 rfl e5 dX5_cross_5 ?_
  refine lv_iconst (v := 4) (pc := 6) hx hb dX5_cross_6 (by decide) ?_
  refine z_iald (pc := 7) hx hb hK hP _ 0 (zg_r (z_ai_lt e5)) rfl (show z_at _ 4 _ = some (Q.2.1.2 x5 4) from rfl) dX5_cross_7 ?_
  refine lv_istore_n (pc := 8) (lv' := [(3, .int (Q.2.1.2 x5 4)), (0, .ref a), (1, .int v1), (2, .int v2)]) hx hb dX5_cross_8 rfl hl (by decide) rfl (fun ls hl => ?_)
  refine lv_aload_n (pc := 9) hx hb dX5_cross_9 rfl (lv_at hl 1 rfl) ?_
  refine va_get (pc := 10) (ci := 5) (C := RX5) (T := TX5) (N := 9) (v := .ref D.1.1) hx hb hts in_X5 hown hK hP _ zg_0 rfl 0 (by decide) lk_fi9 (fun _ h9 => h9) rfl dX5_cross_10 ?_
  refine lv_iload_n (pc := 13) hx hb dX5_cross_13 rfl (lv_at hl 2 rfl) ?_
  refine z_aald (pc := 14) hx hb hK hP _ 2 zg_1 rfl e5 dX5_cross_14 ?_
  refine lv_iconst (v := 4) (pc := 15) hx hb dX5_cross_15 (by decide) ?_
  refine lv_aload_n (pc := 16) hx hb dX5_cross_16 rfl (lv_at hl 1 rfl) ?_
  refine va_get (pc := 17) (ci := 5) (C := RX5) (T := TX5) (N := 9) (v := .ref D.1.1) hx hb hts in_X5 hown hK hP _ zg_0 rfl 0 (by decide) lk_fi9 (fun _ h9 => h9) rfl dX5_cross_17 ?_
  refine lv_iload_n (pc := 20) hx hb dX5_cross_20 rfl (lv_at hl 3 rfl) ?_
  obtain ⟨x21, e21, hf⟩ := z_bd hf
  refine z_aald (pc := 21) hx hb hK hP _ 2 zg_1 rfl e21 dX5_cross_21 ?_
  refine lv_iconst (v := 4) (pc := 22) hx hb dX5_cross_22 (by decide) ?_
  refine z_iald (pc := 23) hx hb hK hP _ 0 (zg_r (z_ai_lt e21)) rfl (show z_at _ 4 _ = some (Q.2.1.2 x21 4) from rfl) dX5_cross_23 ?_
  obtain ⟨x24, e24, hf⟩ := z_bd hf
  refine z_iast (pc := 24) (W1 := (z_W [] X a D (z_qR Q x5 x24) [])) hx hb hK hP hD hS _ 0 (zg_r (z_ai_lt e5)) rfl e24 (zs_r (z_ai_lt e5)) dX5_cross_24 (fun H locs hP hD hS => ?_)
  refine lv_aload_n (pc := 25) hx hb dX5_cross_25 rfl (lv_at hl 1 rfl) ?_
  refine va_get (pc := 26) (ci := 5) (C := RX5) (T := TX5) (N := 9) (v := .ref D.1.1) hx hb hts in_X5 hown hK hP _ zg_0 rfl 0 (by decide) lk_fi9 (fun _ h9 => h9) rfl dX5_cross_26 ?_
  refine lv_iload_n (pc := 29) hx hb dX5_cross_29 rfl (lv_at hl 3 rfl) ?_
  refine z_aald (pc := 30) hx hb hK hP _ 2 zg_1 rfl e21 dX5_cross_30 ?_
  refine lv_iconst (v := 4) (pc := 31) hx hb dX5_cross_31 (by decide) ?_
  refine lv_iload_n (pc := 32) hx hb dX5_cross_32 rfl (lv_at hl 0 rfl) ?_
  obtain ⟨x33, e33, hf⟩ := z_bd hf
  refine z_iast (pc := 33) (W1 := (z_W [] X a D (z_qR (z_qR Q x5 x24) x21 x33) [])) hx hb hK hP hD hS _ 0 (zg_r (z_ai_lt e21)) rfl e33 (zs_r (z_ai_lt e21)) dX5_cross_33 (fun H locs hP hD hS => ?_)
  exact W.vret (pc := 34) hx hb hr (fun t ht hW => ⟨⟨(z_wS X a D (z_qR (z_qR Q x5 x24) x21 x33)), rfl, congrArg (fun z => z_wS X a D z) (Option.some.inj hf), by rw [ht]; exact z_P1 hP, z_D1 hD⟩, hS.F ht⟩) hS.2.2 dX5_cross_34
