def f_X4_isWithin (v0 : Int32) (v1 : Int32) (v2 : Int32) : Int32 := (if v0 < v1 then 0 else (if v2 < v0 then 0 else 1))
set_option maxHeartbeats 4000000 in
set_option maxRecDepth 100000 in
theorem m_X4_isWithin (l : Launch) (X : z_X) (v0 : Int32) (v1 : Int32) (v2 : Int32) {RR : Int32} (hf : f_X4_isWithin v0 v1 v2 = RR) : z_pI l yX4_isWithin wsX4_isWithin 0 0 X [.int v0, .int v1, .int v2] ([] : va_W) RR := by
  refine Met.ofW (cc := cX4_isWithin) (maxL := 3) (ret := (some .boolean)) (by decide) rfl ?_
  intro p e s m args below meth c s₁ Bd hml hv
  obtain ⟨rfl, hP, hK, hN⟩ := hv
  have hx := Bd.exec
  have hb := Bd.bytes
  have hr := Bd.returns
  have hts := atoms_spec (ws := wsX4_isWithin) Bd.pre
  have hown : s.vm.findClass RX4 = some m.cls := findClass_of_methodNamed Bd.named
  have hlocks := Bd.notSynchronized
  have S : CallFix p m c cX4_isWithin 3 s _ wsX4_isWithin RX4 := ⟨hx, hb, hml, hown, hts⟩
  have hl := lv_entry ([.int v0, .int v1, .int v2]) (n := 3) (Nat.le_of_ble_eq_true rfl)
  rw [lg_entry_eq]
  generalize (lg_sl ([.int v0, .int v1, .int v2]) ++ List.replicate (3 - (lg_sl ([.int v0, .int v1, .int v2])).length) Slot.unset).toArray = ls at hl ⊢
  have hl : lv_has ls 3 [(0, .int v0), (1, .int v1), (2, .int v2)] := hl
  unfold f_X4_isWithin at hf
  refine lv_iload_n (pc := 0) hx hb dX4_isWithin_0 rfl (lv_at hl 0 rfl) ?_
  refine lv_iload_n (pc := 1) hx hb dX4_isWithin_1 rfl (lv_at hl 1 rfl) ?_
  refine lv_icmp_lt (pc := 2) (tgt := 14) hx hb dX4_isWithin_2 (by decide) (fun c_2 => ?_) (fun c_2 => ?_)
  · replace hf := z_ip c_2 hf
    refine lv_iconst (v := 0) (pc := 14) hx hb dX4_isWithin_14 (by decide) ?_
    exact W.zret (pc := 15) (v := 0) hx hb hr rfl (fun t ht hW => ⟨_, rfl, hf, ht⟩) (fun _ h => nomatch h) dX4_isWithin_15
  · replace hf := z_in c_2 hf
    refine lv_iload_n (pc := 5) hx hb dX4_isWithin_5 rfl (lv_at hl 0 rfl) ?_
    refine lv_iload_n (pc := 6) hx hb dX4_isWithin_6 rfl (lv_at hl 2 rfl) ?_
    refine lv_icmp_gt (pc := 7) (tgt := 14) hx hb dX4_isWithin_7 (by decide) (fun c_7 => ?_) (fun c_7 => ?_)
    · replace hf := z_ip c_7 hf
      refine lv_iconst (v := 0) (pc := 14) hx hb dX4_isWithin_14 (by decide) ?_
      exact W.zret (pc := 15) (v := 0) hx hb hr rfl (fun t ht hW => ⟨_, rfl, hf, ht⟩) (fun _ h => nomatch h) dX4_isWithin_15
    · replace hf := z_in c_7 hf
      refine lv_iconst (v := 1) (pc := 10) hx hb dX4_isWithin_10 (by decide) ?_
      refine lv_goto (pc := 11) (tgt := 15) hx hb dX4_isWithin_11 (by decide) ?_
      exact W.zret (pc := 15) (v := 1) hx hb hr rfl (fun t ht hW => ⟨_, rfl, hf, ht⟩) (fun _ h => nomatch h) dX4_isWithin_15
def f_X4_addRoom (B : z_B) (v1 : Int32) (v2 : Int32) (v3 : Int32) : Option (Int32 × z_B) := (if (f_X4_isWithin v1 0 5) = 0 then none else (if (f_X4_isWithin v2 1 9) = 0 then none else (if (f_X4_isWithin v3 1 9) = 0 then none else (if (B.1.1 1) < 12 then some ((f_X0_openRoom B.1 v1 v2 v3).1, ((f_X0_openRoom B.1 v1 v2 v3).2, B.2)) else none))))
set_option maxHeartbeats 4000000 in
set_option maxRecDepth 100000 in
theorem m_X4_addRoom (l : Launch) (X : z_X) (a : Nat) (d d2 : Nat → Nat) (B : z_B) (v1 : Int32) (v2 : Int32) (v3 : Int32) {RR : (Int32 × z_B)} (hf : f_X4_addRoom B v1 v2 v3 = some RR) : z_mI l yX4_addRoom wsX4_addRoom 2 46 X [.ref a, .int v1, .int v2, .int v3] (z_wB X a d d2 B) RR.1 (z_wB X a d d2 RR.2) := by
  intro sz
  refine Met.ofW (cc := cX4_addRoom) (maxL := 4) (ret := (some .int)) (by decide) rfl ?_
  intro p e s m args below meth c s₁ Bd hml hv
  obtain ⟨rfl, hsz, hP, hK, hN, hD0⟩ := hv
  have hx := Bd.exec
  have hb := Bd.bytes
  have hr := Bd.returns
  have hts := atoms_spec (ws := wsX4_addRoom) Bd.pre
  have hown : s.vm.findClass RX4 = some m.cls := findClass_of_methodNamed Bd.named
  have hlocks := Bd.notSynchronized
  have S : CallFix p m c cX4_addRoom 4 s _ wsX4_addRoom RX4 := ⟨hx, hb, hml, hown, hts⟩
  have lk_fi10 := hts (.fieldLink RX4 10 "HouseBells" "house" "LHouseBells$House;") (List.mem_of_getElem? (i := 5) rfl)
  have in_X0 : ∀ w ∈ wsX00, w ∈ wsX4_addRoom := fun _ h => (List.mem_cons_of_mem _ (List.mem_append_left _ (List.mem_append_left _ (List.mem_append_left _ (List.mem_append_right _ h)))))
  have in_X4 : ∀ w ∈ wsX40, w ∈ wsX4_addRoom := fun _ h => (List.mem_cons_of_mem _ (List.mem_append_left _ (List.mem_append_left _ (List.mem_append_left _ (List.mem_append_left _ (List.mem_append_right _ h))))))
  subst hsz
  have hD := hD0.self (sz := s.heap.size)
  generalize hAe : va_A (z_wB X a d d2 B) s.heap.size = A at hD ⊢
  have hA : ∀ q : Nat, s.heap.size ≤ q → A q := fun q h => by rw [← hAe]; exact Or.inr h
  have hS : va_S A s.heap s.heap [] := va_S.rf
  have hl := lv_entry ([.ref a, .int v1, .int v2, .int v3]) (n := 4) (Nat.le_of_ble_eq_true rfl)
  rw [lg_entry_eq]
  generalize (lg_sl ([.ref a, .int v1, .int v2, .int v3]) ++ List.replicate (4 - (lg_sl ([.ref a, .int v1, .int v2, .int v3])).length) Slot.unset).toArray = ls at hl ⊢
  have hl : lv_has ls 4 [(0, .ref a), (1, .int v1), (2, .int v2), (3, .int v3)] := hl
  suffices hgo : ∀ (H : Heap) (locs : List Loc), va_P X.1 vwCl (z_wB X a d d2 B) H → va_D A (z_wB X a d d2 B) → va_S A s.heap H locs → W p l e (headSpec wsX4_addRoom (z_R 2 46)).room s m ([.ref a, .int v1, .int v2, .int v3] : List Value).toArray below meth c H locs 0 0 (MQ below (va_Qi (fun (z : Int32) (u : va_W) => z = RR.1 ∧ u = (z_wB X a d d2 RR.2)) (z_Bm X A) A) ([.ref a, .int v1, .int v2, .int v3] : List Value).toArray s 0 0 A) (F0 m 0 ls []) from hgo _ _ hP hD hS
  clear hP hD hS
  intro H locs hP hD hS
  unfold f_X4_addRoom at hf
  refine lv_iload_n (pc := 0) hx hb dX4_addRoom_0 rfl (lv_at hl 1 rfl) ?_
  refine lv_iconst (v := 0) (pc := 1) hx hb dX4_addRoom_1 (by decide) ?_
  refine lv_iconst (v := 5) (pc := 2) hx hb dX4_addRoom_2 (by decide) ?_
  refine z_csI (pc := 3) S (m_X4_isWithin l X v1 0 5 rfl) (va_cwS 3 hts gX4_addRoom_X4_isWithin rfl rfl rfl hdX4_isWithin ⟨Nat.le_of_ble_eq_true rfl, Nat.le_of_ble_eq_true rfl⟩) hP hK hN (s_nil _) ⟨Nat.le_of_ble_eq_true rfl, Nat.le_of_ble_eq_true rfl⟩ rfl hl.1 rfl (Nat.le_of_ble_eq_true rfl) dX4_addRoom_3 ?_
  refine lv_if_eq (pc := 6) (tgt := 29) hx hb dX4_addRoom_6 (by decide) (fun c_6 => ?_) (fun c_6 => ?_)
  · replace hf := z_ip c_6 hf
    cases hf
  · replace hf := z_in c_6 hf
    refine lv_iload_n (pc := 9) hx hb dX4_addRoom_9 rfl (lv_at hl 2 rfl) ?_
    refine lv_iconst (v := 1) (pc := 10) hx hb dX4_addRoom_10 (by decide) ?_
    refine lv_bipush (v := 9) (pc := 11) hx hb dX4_addRoom_11 (by decide) ?_
    refine z_csI (pc := 13) S (m_X4_isWithin l X v2 1 9 rfl) (va_cwS 3 hts gX4_addRoom_X4_isWithin rfl rfl rfl hdX4_isWithin ⟨Nat.le_of_ble_eq_true rfl, Nat.le_of_ble_eq_true rfl⟩) hP hK hN (s_nil _) ⟨Nat.le_of_ble_eq_true rfl, Nat.le_of_ble_eq_true rfl⟩ rfl hl.1 rfl (Nat.le_of_ble_eq_true rfl) dX4_addRoom_13 ?_
    refine lv_if_eq (pc := 16) (tgt := 29) hx hb dX4_addRoom_16 (by decide) (fun c_16 => ?_) (fun c_16 => ?_)
    · replace hf := z_ip c_16 hf
      cases hf
    · replace hf := z_in c_16 hf
      refine lv_iload_n (pc := 19) hx hb dX4_addRoom_19 rfl (lv_at hl 3 rfl) ?_
      refine lv_iconst (v := 1) (pc := 20) hx hb dX4_addRoom_20 (by decide) ?_
      refine lv_bipush (v := 9) (pc := 21) hx hb dX4_addRoom_21 (by decide) ?_
      refine z_csI (pc := 23) S (m_X4_isWithin l X v3 1 9 rfl) (va_cwS 3 hts gX4_addRoom_X4_isWithin rfl rfl rfl hdX4_isWithin ⟨Nat.le_of_ble_eq_true rfl, Nat.le_of_ble_eq_true rfl⟩) hP hK hN (s_nil _) ⟨Nat.le_of_ble_eq_true rfl, Nat.le_of_ble_eq_true rfl⟩ rfl hl.1 rfl (Nat.le_of_ble_eq_true rfl) dX4_addRoom_23 ?_
      refine lv_if_ne (pc := 26) (tgt := 39) hx hb dX4_addRoom_26 (by decide) (fun c_26 => ?_) (fun c_26 => ?_)
      · replace hf := z_in c_26 hf
        refine lv_aload_n (pc := 39) hx hb dX4_addRoom_39 rfl (lv_at hl 0 rfl) ?_
        refine va_get (pc := 40) (ci := 4) (C := RX4) (T := TX4) (N := 2) hx hb hts in_X4 hown hK hP 0 rfl rfl 0 (by decide) lk_fi10 (fun _ h9 => h9) rfl dX4_addRoom_40 ?_
        refine va_getN (pc := 43) (ci := 0) (C := RX0) (T := TX0) (N := 15) hx hb hts in_X0 hown hK hP 1 rfl rfl 1 (by decide) (z_n13 hN) (fun _ h9 => h9) rfl dX4_addRoom_43 ?_
        refine lv_bipush (v := 12) (pc := 46) hx hb dX4_addRoom_46 (by decide) ?_
        refine lv_icmp_lt (pc := 48) (tgt := 61) hx hb dX4_addRoom_48 (by decide) (fun c_48 => ?_) (fun c_48 => ?_)
        · replace hf := z_ip c_48 hf
          refine lv_aload_n (pc := 61) hx hb dX4_addRoom_61 rfl (lv_at hl 0 rfl) ?_
          refine va_get (pc := 62) (ci := 4) (C := RX4) (T := TX4) (N := 2) hx hb hts in_X4 hown hK hP 0 rfl rfl 0 (by decide) lk_fi10 (fun _ h9 => h9) rfl dX4_addRoom_62 ?_
          refine lv_iload_n (pc := 65) hx hb dX4_addRoom_65 rfl (lv_at hl 1 rfl) ?_
          refine lv_iload_n (pc := 66) hx hb dX4_addRoom_66 rfl (lv_at hl 2 rfl) ?_
          refine lv_iload_n (pc := 67) hx hb dX4_addRoom_67 rfl (lv_at hl 3 rfl) ?_
          refine z_cmI (pc := 68) (W1 := (z_wB X a d d2 ((f_X0_openRoom B.1 v1 v2 v3).2, B.2))) S (m_X0_openRoom l X d B.1 v1 v2 v3 rfl) (cwV 3 hts gX4_addRoom_X0_openRoom rfl rfl rfl hdX0_openRoom ⟨Nat.le_of_ble_eq_true rfl, Nat.le_of_ble_eq_true rfl⟩) hP hK hN hD hS hA (s_B_H1 X a d d2 B) (f_B_H1 X a d d2 B ((f_X0_openRoom B.1 v1 v2 v3).2)) (ci := 0) rfl rfl rfl ⟨Nat.le_of_ble_eq_true rfl, Nat.le_of_ble_eq_true rfl⟩ rfl hl.1 rfl (Nat.le_of_ble_eq_true rfl) dX4_addRoom_68 (fun H locs hP hD hS => ?_)
          exact W.iret (pc := 71) (v := (f_X0_openRoom B.1 v1 v2 v3).1) hx hb hr (fun t ht hW => ⟨⟨_, (z_wB X a d d2 ((f_X0_openRoom B.1 v1 v2 v3).2, B.2)), rfl, ⟨z_e1 hf, congrArg (fun z => (z_wB X a d d2 z)) (z_e2 hf)⟩, by rw [ht]; exact hP, hD⟩, hS.F ht⟩) hS.2.2 dX4_addRoom_71
        · replace hf := z_in c_48 hf
          cases hf
      · replace hf := z_ip c_26 hf
        cases hf
def f_X4_addServant (B : z_B) (v1 : Int32) : Option (Int32 × z_B) := (if (f_X4_isWithin v1 1 4) = 0 then none else (if B.1.2.2.2.1 < 6 then some ((f_X3_hire B.1.2.2.2 v1).1, ((z_hG B.1 (f_X3_hire B.1.2.2.2 v1).2), B.2)) else none))
set_option maxHeartbeats 4000000 in
set_option maxRecDepth 100000 in
theorem m_X4_addServant (l : Launch) (X : z_X) (a : Nat) (d d2 : Nat → Nat) (B : z_B) (v1 : Int32) {RR : (Int32 × z_B)} (hf : f_X4_addServant B v1 = some RR) : z_mI l yX4_addServant wsX4_addServant 3 65 X [.ref a, .int v1] (z_wB X a d d2 B) RR.1 (z_wB X a d d2 RR.2) := by
  intro sz
  refine Met.ofW (cc := cX4_addServant) (maxL := 2) (ret := (some .int)) (by decide) rfl ?_
  intro p e s m args below meth c s₁ Bd hml hv
  obtain ⟨rfl, hsz, hP, hK, hN, hD0⟩ := hv
  have hx := Bd.exec
  have hb := Bd.bytes
  have hr := Bd.returns
  have hts := atoms_spec (ws := wsX4_addServant) Bd.pre
  have hown : s.vm.findClass RX4 = some m.cls := findClass_of_methodNamed Bd.named
  have hlocks := Bd.notSynchronized
  have S : CallFix p m c cX4_addServant 2 s _ wsX4_addServant RX4 := ⟨hx, hb, hml, hown, hts⟩
  have lk_fi10 := hts (.fieldLink RX4 10 "HouseBells" "house" "LHouseBells$House;") (List.mem_of_getElem? (i := 5) rfl)
  have in_X0 : ∀ w ∈ wsX00, w ∈ wsX4_addServant := fun _ h => (List.mem_cons_of_mem _ (List.mem_append_left _ (List.mem_append_left _ (List.mem_append_left _ (List.mem_append_left _ (List.mem_append_right _ h))))))
  have in_X3 : ∀ w ∈ wsX30, w ∈ wsX4_addServant := fun _ h => (List.mem_cons_of_mem _ (List.mem_append_left _ (List.mem_append_left _ (List.mem_append_left _ (List.mem_append_right _ h)))))
  have in_X4 : ∀ w ∈ wsX40, w ∈ wsX4_addServant := fun _ h => (List.mem_cons_of_mem _ (List.mem_append_left _ (List.mem_append_left _ (List.mem_append_left _ (List.mem_append_left _ (List.mem_append_left _ (List.mem_append_right _ h)))))))
  subst hsz
  have hD := hD0.self (sz := s.heap.size)
  generalize hAe : va_A (z_wB X a d d2 B) s.heap.size = A at hD ⊢
  have hA : ∀ q : Nat, s.heap.size ≤ q → A q := fun q h => by rw [← hAe]; exact Or.inr h
  have hS : va_S A s.heap s.heap [] := va_S.rf
  have hl := lv_entry ([.ref a, .int v1]) (n := 2) (Nat.le_of_ble_eq_true rfl)
  rw [lg_entry_eq]
  generalize (lg_sl ([.ref a, .int v1]) ++ List.replicate (2 - (lg_sl ([.ref a, .int v1])).length) Slot.unset).toArray = ls at hl ⊢
  have hl : lv_has ls 2 [(0, .ref a), (1, .int v1)] := hl
  suffices hgo : ∀ (H : Heap) (locs : List Loc), va_P X.1 vwCl (z_wB X a d d2 B) H → va_D A (z_wB X a d d2 B) → va_S A s.heap H locs → W p l e (headSpec wsX4_addServant (z_R 3 65)).room s m ([.ref a, .int v1] : List Value).toArray below meth c H locs 0 0 (MQ below (va_Qi (fun (z : Int32) (u : va_W) => z = RR.1 ∧ u = (z_wB X a d d2 RR.2)) (z_Bm X A) A) ([.ref a, .int v1] : List Value).toArray s 0 0 A) (F0 m 0 ls []) from hgo _ _ hP hD hS
  clear hP hD hS
  intro H locs hP hD hS
  unfold f_X4_addServant at hf
  refine lv_iload_n (pc := 0) hx hb dX4_addServant_0 rfl (lv_at hl 1 rfl) ?_
  refine lv_iconst (v := 1) (pc := 1) hx hb dX4_addServant_1 (by decide) ?_
  refine lv_iconst (v := 4) (pc := 2) hx hb dX4_addServant_2 (by decide) ?_
  refine z_csI (pc := 3) S (m_X4_isWithin l X v1 1 4 rfl) (va_cwS 3 hts gX4_addServant_X4_isWithin rfl rfl rfl hdX4_isWithin ⟨Nat.le_of_ble_eq_true rfl, Nat.le_of_ble_eq_true rfl⟩) hP hK hN (s_nil _) ⟨Nat.le_of_ble_eq_true rfl, Nat.le_of_ble_eq_true rfl⟩ rfl hl.1 rfl (Nat.le_of_ble_eq_true rfl) dX4_addServant_3 ?_
  refine lv_if_ne (pc := 6) (tgt := 19) hx hb dX4_addServant_6 (by decide) (fun c_6 => ?_) (fun c_6 => ?_)
  · replace hf := z_in c_6 hf
    refine lv_aload_n (pc := 19) hx hb dX4_addServant_19 rfl (lv_at hl 0 rfl) ?_
    refine va_get (pc := 20) (ci := 4) (C := RX4) (T := TX4) (N := 2) hx hb hts in_X4 hown hK hP 0 rfl rfl 0 (by decide) lk_fi10 (fun _ h9 => h9) rfl dX4_addServant_20 ?_
    refine va_getN (pc := 23) (ci := 0) (C := RX0) (T := TX0) (N := 15) hx hb hts in_X0 hown hK hP 1 rfl rfl 14 (by decide) (z_n24 hN) (fun _ h9 => h9) rfl dX4_addServant_23 ?_
    refine va_getN (pc := 26) (ci := 3) (C := RX3) (T := TX3) (N := 6) hx hb hts in_X3 hown hK hP 16 rfl rfl 0 (by decide) (z_n2 hN) (fun _ h9 => h9) rfl dX4_addServant_26 ?_
    refine lv_bipush (v := 6) (pc := 29) hx hb dX4_addServant_29 (by decide) ?_
    refine lv_icmp_lt (pc := 31) (tgt := 44) hx hb dX4_addServant_31 (by decide) (fun c_31 => ?_) (fun c_31 => ?_)
    · replace hf := z_ip c_31 hf
      refine lv_aload_n (pc := 44) hx hb dX4_addServant_44 rfl (lv_at hl 0 rfl) ?_
      refine va_get (pc := 45) (ci := 4) (C := RX4) (T := TX4) (N := 2) hx hb hts in_X4 hown hK hP 0 rfl rfl 0 (by decide) lk_fi10 (fun _ h9 => h9) rfl dX4_addServant_45 ?_
      refine va_getN (pc := 48) (ci := 0) (C := RX0) (T := TX0) (N := 15) hx hb hts in_X0 hown hK hP 1 rfl rfl 14 (by decide) (z_n24 hN) (fun _ h9 => h9) rfl dX4_addServant_48 ?_
      refine lv_iload_n (pc := 51) hx hb dX4_addServant_51 rfl (lv_at hl 1 rfl) ?_
      refine z_cmI (pc := 52) (W1 := (z_wB X a d d2 ((z_hG B.1 (f_X3_hire B.1.2.2.2 v1).2), B.2))) S (m_X3_hire l X d B.1.2.2.2 v1 rfl) (cwV 1 hts gX4_addServant_X3_hire rfl rfl rfl hdX3_hire ⟨Nat.le_of_ble_eq_true rfl, Nat.le_of_ble_eq_true rfl⟩) hP hK hN hD hS hA (s_B_G16 X a d d2 B) (f_B_G16 X a d d2 B ((f_X3_hire B.1.2.2.2 v1).2)) (ci := 3) rfl rfl rfl ⟨Nat.le_of_ble_eq_true rfl, Nat.le_of_ble_eq_true rfl⟩ rfl hl.1 rfl (Nat.le_of_ble_eq_true rfl) dX4_addServant_52 (fun H locs hP hD hS => ?_)
      exact W.iret (pc := 55) (v := (f_X3_hire B.1.2.2.2 v1).1) hx hb hr (fun t ht hW => ⟨⟨_, (z_wB X a d d2 ((z_hG B.1 (f_X3_hire B.1.2.2.2 v1).2), B.2)), rfl, ⟨z_e1 hf, congrArg (fun z => (z_wB X a d d2 z)) (z_e2 hf)⟩, by rw [ht]; exact hP, hD⟩, hS.F ht⟩) hS.2.2 dX4_addServant_55
    · replace hf := z_in c_31 hf
      cases hf
  · replace hf := z_ip c_6 hf
    cases hf
def f_X4_requireRoom (B : z_B) (v1 : Int32) : Option Unit := (if v1 < 0 then none else (if v1 < (B.1.1 1) then some () else none))
set_option maxHeartbeats 4000000 in
set_option maxRecDepth 100000 in
theorem m_X4_requireRoom (l : Launch) (X : z_X) (a : Nat) (d d2 : Nat → Nat) (B : z_B) (v1 : Int32) {RR : Unit} (hf : f_X4_requireRoom B v1 = some RR) : z_pV l yX4_requireRoom wsX4_requireRoom 0 0 X [.ref a, .int v1] (z_wB X a d d2 B) := by
  refine Met.ofW (cc := cX4_requireRoom) (maxL := 2) (ret := none) (by decide) rfl ?_
  intro p e s m args below meth c s₁ Bd hml hv
  obtain ⟨rfl, hP, hK, hN⟩ := hv
  have hx := Bd.exec
  have hb := Bd.bytes
  have hr := Bd.returns
  have hts := atoms_spec (ws := wsX4_requireRoom) Bd.pre
  have hown : s.vm.findClass RX4 = some m.cls := findClass_of_methodNamed Bd.named
  have hlocks := Bd.notSynchronized
  have S : CallFix p m c cX4_requireRoom 2 s _ wsX4_requireRoom RX4 := ⟨hx, hb, hml, hown, hts⟩
  have lk_fi10 := hts (.fieldLink RX4 10 "HouseBells" "house" "LHouseBells$House;") (List.mem_of_getElem? (i := 3) rfl)
  have in_X0 : ∀ w ∈ wsX00, w ∈ wsX4_requireRoom := fun _ h => (List.mem_cons_of_mem _ (List.mem_append_left _ (List.mem_append_right _ h)))
  have in_X4 : ∀ w ∈ wsX40, w ∈ wsX4_requireRoom := fun _ h => (List.mem_cons_of_mem _ (List.mem_append_left _ (List.mem_append_left _ (List.mem_append_right _ h))))
  have hl := lv_entry ([.ref a, .int v1]) (n := 2) (Nat.le_of_ble_eq_true rfl)
  rw [lg_entry_eq]
  generalize (lg_sl ([.ref a, .int v1]) ++ List.replicate (2 - (lg_sl ([.ref a, .int v1])).length) Slot.unset).toArray = ls at hl ⊢
  have hl : lv_has ls 2 [(0, .ref a), (1, .int v1)] := hl
  unfold f_X4_requireRoom at hf
  refine lv_iload_n (pc := 0) hx hb dX4_requireRoom_0 rfl (lv_at hl 1 rfl) ?_
  refine lv_if_lt (pc := 1) (tgt := 15) hx hb dX4_requireRoom_1 (by decide) (fun c_1 => ?_) (fun c_1 => ?_)
  · replace hf := z_ip c_1 hf
    cases hf
  · replace hf := z_in c_1 hf
    refine lv_iload_n (pc := 4) hx hb dX4_requireRoom_4 rfl (lv_at hl 1 rfl) ?_
    refine lv_aload_n (pc := 5) hx hb dX4_requireRoom_5 rfl (lv_at hl 0 rfl) ?_
    refine va_get (pc := 6) (ci := 4) (C := RX4) (T := TX4) (N := 2) hx hb hts in_X4 hown hK hP 0 rfl rfl 0 (by decide) lk_fi10 (fun _ h9 => h9) rfl dX4_requireRoom_6 ?_
    refine va_getN (pc := 9) (ci := 0) (C := RX0) (T := TX0) (N := 15) hx hb hts in_X0 hown hK hP 1 rfl rfl 1 (by decide) (z_n13 hN) (fun _ h9 => h9) rfl dX4_requireRoom_9 ?_
    refine lv_icmp_lt (pc := 12) (tgt := 26) hx hb dX4_requireRoom_12 (by decide) (fun c_12 => ?_) (fun c_12 => ?_)
    · replace hf := z_ip c_12 hf
      exact W.vret (pc := 26) hx hb hr (fun t ht hW => ⟨rfl, trivial, ht⟩) (fun _ h => nomatch h) dX4_requireRoom_26
    · replace hf := z_in c_12 hf
      cases hf
def f_X4_ring (B : z_B) (v1 : Int32) : Option (Int32 × z_B) := (f_X4_requireRoom B v1).bind (fun x2 => (f_X0_pullBell B.1 v1).bind (fun x10 => (if (f_X0_isWaiting x10.2 v1) = 0 then (z_bo x10.1).bind (fun x38 => some (x38, ((z_hR x10.2 5 (z_rs (x10.2.2.1 5) v1 0)), B.2))) else (z_bo x10.1).bind (fun x38 => some (x38, (x10.2, B.2))))))
set_option maxHeartbeats 4000000 in
set_option maxRecDepth 100000 in
theorem m_X4_ring (l : Launch) (X : z_X) (a : Nat) (d d2 : Nat → Nat) (B : z_B) (v1 : Int32) {RR : (Int32 × z_B)} (hf : f_X4_ring B v1 = some RR) : z_mI l yX4_ring wsX4_ring 2 45 X [.ref a, .int v1] (z_wB X a d d2 B) RR.1 (z_wB X a d d2 RR.2) := by
  intro sz
  refine Met.ofW (cc := cX4_ring) (maxL := 3) (ret := (some .boolean)) (by decide) rfl ?_
  intro p e s m args below meth c s₁ Bd hml hv
  obtain ⟨rfl, hsz, hP, hK, hN, hD0⟩ := hv
  have hx := Bd.exec
  have hb := Bd.bytes
  have hr := Bd.returns
  have hts := atoms_spec (ws := wsX4_ring) Bd.pre
  have hown : s.vm.findClass RX4 = some m.cls := findClass_of_methodNamed Bd.named
  have hlocks := Bd.notSynchronized
  have S : CallFix p m c cX4_ring 3 s _ wsX4_ring RX4 := ⟨hx, hb, hml, hown, hts⟩
  have lk_fi10 := hts (.fieldLink RX4 10 "HouseBells" "house" "LHouseBells$House;") (List.mem_of_getElem? (i := 1) rfl)
  have in_X0 : ∀ w ∈ wsX00, w ∈ wsX4_ring := fun _ h => (List.mem_cons_of_mem _ (List.mem_append_left _ (List.mem_append_left _ (List.mem_append_left _ (List.mem_append_right _ h)))))
  have in_X4 : ∀ w ∈ wsX40, w ∈ wsX4_ring := fun _ h => (List.mem_cons_of_mem _ (List.mem_append_left _ (List.mem_append_left _ (List.mem_append_left _ (List.mem_append_left _ (List.mem_append_right _ h))))))
  subst hsz
  have hD := hD0.self (sz := s.heap.size)
  generalize hAe : va_A (z_wB X a d d2 B) s.heap.size = A at hD ⊢
  have hA : ∀ q : Nat, s.heap.size ≤ q → A q := fun q h => by rw [← hAe]; exact Or.inr h
  have hS : va_S A s.heap s.heap [] := va_S.rf
  have hl := lv_entry ([.ref a, .int v1]) (n := 3) (Nat.le_of_ble_eq_true rfl)
  rw [lg_entry_eq]
  generalize (lg_sl ([.ref a, .int v1]) ++ List.replicate (3 - (lg_sl ([.ref a, .int v1])).length) Slot.unset).toArray = ls at hl ⊢
  have hl : lv_has ls 3 [(0, .ref a), (1, .int v1)] := hl
  suffices hgo : ∀ (H : Heap) (locs : List Loc), va_P X.1 vwCl (z_wB X a d d2 B) H → va_D A (z_wB X a d d2 B) → va_S A s.heap H locs → W p l e (headSpec wsX4_ring (z_R 2 45)).room s m ([.ref a, .int v1] : List Value).toArray below meth c H locs 0 0 (MQ below (va_Qi (fun (z : Int32) (u : va_W) => z = RR.1 ∧ u = (z_wB X a d d2 RR.2)) (z_Bm X A) A) ([.ref a, .int v1] : List Value).toArray s 0 0 A) (F0 m 0 ls []) from hgo _ _ hP hD hS
  clear hP hD hS
  intro H locs hP hD hS
  unfold f_X4_ring at hf
  refine lv_aload_n (pc := 0) hx hb dX4_ring_0 rfl (lv_at hl 0 rfl) ?_
  refine lv_iload_n (pc := 1) hx hb dX4_ring_1 rfl (lv_at hl 1 rfl) ?_
  obtain ⟨x2, e2, hf⟩ := z_bd hf
  refine z_cpV (pc := 2) S (m_X4_requireRoom l X a d d2 B v1 e2) (cwV 1 hts gX4_ring_X4_requireRoom rfl rfl rfl hdX4_requireRoom ⟨Nat.le_of_ble_eq_true rfl, Nat.le_of_ble_eq_true rfl⟩) hP hK hN (s_B_B X a d d2 B) (ci := 4) rfl rfl rfl ⟨Nat.le_of_ble_eq_true rfl, Nat.le_of_ble_eq_true rfl⟩ rfl hl.1 rfl (Nat.le_of_ble_eq_true rfl) dX4_ring_2 ?_
  refine lv_aload_n (pc := 5) hx hb dX4_ring_5 rfl (lv_at hl 0 rfl) ?_
  refine va_get (pc := 6) (ci := 4) (C := RX4) (T := TX4) (N := 2) hx hb hts in_X4 hown hK hP 0 rfl rfl 0 (by decide) lk_fi10 (fun _ h9 => h9) rfl dX4_ring_6 ?_
  refine lv_iload_n (pc := 9) hx hb dX4_ring_9 rfl (lv_at hl 1 rfl) ?_
  obtain ⟨x10, e10, hf⟩ := z_bd hf
  refine z_cmI (pc := 10) (W1 := (z_wB X a d d2 (x10.2, B.2))) S (m_X0_pullBell l X d B.1 v1 e10) (cwV 1 hts gX4_ring_X0_pullBell rfl rfl rfl hdX0_pullBell ⟨Nat.le_of_ble_eq_true rfl, Nat.le_of_ble_eq_true rfl⟩) hP hK hN hD hS hA (s_B_H1 X a d d2 B) (f_B_H1 X a d d2 B x10.2) (ci := 0) rfl rfl rfl ⟨Nat.le_of_ble_eq_true rfl, Nat.le_of_ble_eq_true rfl⟩ rfl hl.1 rfl (Nat.le_of_ble_eq_true rfl) dX4_ring_10 (fun H locs hP hD hS => ?_)
  refine lv_istore_n (pc := 13) (lv' := [(2, .int x10.1), (0, .ref a), (1, .int v1)]) hx hb dX4_ring_13 rfl hl (by decide) rfl (fun ls hl => ?_)
  refine lv_aload_n (pc := 14) hx hb dX4_ring_14 rfl (lv_at hl 1 rfl) ?_
  refine va_get (pc := 15) (ci := 4) (C := RX4) (T := TX4) (N := 2) hx hb hts in_X4 hown hK hP 0 rfl rfl 0 (by decide) lk_fi10 (fun _ h9 => h9) rfl dX4_ring_15 ?_
  refine lv_iload_n (pc := 18) hx hb dX4_ring_18 rfl (lv_at hl 2 rfl) ?_
  refine z_cpI (pc := 19) S (m_X0_isWaiting l X d x10.2 v1 rfl) (cwV 1 hts gX4_ring_X0_isWaiting rfl rfl rfl hdX0_isWaiting ⟨Nat.le_of_ble_eq_true rfl, Nat.le_of_ble_eq_true rfl⟩) hP hK hN (s_B_H1 X a d d2 (x10.2, B.2)) (ci := 0) rfl rfl rfl ⟨Nat.le_of_ble_eq_true rfl, Nat.le_of_ble_eq_true rfl⟩ rfl hl.1 rfl (Nat.le_of_ble_eq_true rfl) dX4_ring_19 ?_
  refine lv_if_ne (pc := 22) (tgt := 37) hx hb dX4_ring_22 (by decide) (fun c_22 => ?_) (fun c_22 => ?_)
  · replace hf := z_in c_22 hf
    refine lv_iload_n (pc := 37) hx hb dX4_ring_37 rfl (lv_at hl 0 rfl) ?_
    obtain ⟨x38, e38, hf⟩ := z_bd hf
    obtain ⟨e_bo, h_bo⟩ := z_bo_s e38
    exact W.zret (pc := 38) (v := x10.1) hx hb hr h_bo (fun t ht hW => ⟨⟨_, (z_wB X a d d2 (x10.2, B.2)), rfl, ⟨e_bo.trans (z_e1 hf), congrArg (fun z => (z_wB X a d d2 z)) (z_e2 hf)⟩, by rw [ht]; exact hP, hD⟩, hS.F ht⟩) hS.2.2 dX4_ring_38
  · replace hf := z_ip c_22 hf
    refine lv_aload_n (pc := 25) hx hb dX4_ring_25 rfl (lv_at hl 1 rfl) ?_
    refine va_get (pc := 26) (ci := 4) (C := RX4) (T := TX4) (N := 2) hx hb hts in_X4 hown hK hP 0 rfl rfl 0 (by decide) lk_fi10 (fun _ h9 => h9) rfl dX4_ring_26 ?_
    refine va_getN (pc := 29) (ci := 0) (C := RX0) (T := TX0) (N := 15) hx hb hts in_X0 hown hK hP 1 rfl rfl 12 (by decide) (z_n22 hN) (fun _ h9 => h9) rfl dX4_ring_29 ?_
    refine lv_iload_n (pc := 32) hx hb dX4_ring_32 rfl (lv_at hl 2 rfl) ?_
    refine lv_iconst (v := 0) (pc := 33) hx hb dX4_ring_33 (by decide) ?_
    refine z_cmV (pc := 34) (W1 := (z_wB X a d d2 ((z_hR x10.2 5 (z_rs (x10.2.2.1 5) v1 0)), B.2))) S (m_X2_set l X (d 11) (d 12) (x10.2.2.1 5) v1 0) (cwV 2 hts gX4_ring_X2_set rfl rfl rfl hdX2_set ⟨Nat.le_of_ble_eq_true rfl, Nat.le_of_ble_eq_true rfl⟩) hP hK hN hD hS hA (s_B_R12 X a d d2 (x10.2, B.2)) (f_B_R12 X a d d2 (x10.2, B.2) (z_rs (x10.2.2.1 5) v1 0)) (ci := 2) rfl rfl rfl ⟨Nat.le_of_ble_eq_true rfl, Nat.le_of_ble_eq_true rfl⟩ rfl hl.1 rfl (Nat.le_of_ble_eq_true rfl) dX4_ring_34 (fun H locs hP hD hS => ?_)
    refine lv_iload_n (pc := 37) hx hb dX4_ring_37 rfl (lv_at hl 0 rfl) ?_
    obtain ⟨x38, e38, hf⟩ := z_bd hf
    obtain ⟨e_bo, h_bo⟩ := z_bo_s e38
    exact W.zret (pc := 38) (v := x10.1) hx hb hr h_bo (fun t ht hW => ⟨⟨_, (z_wB X a d d2 ((z_hR x10.2 5 (z_rs (x10.2.2.1 5) v1 0)), B.2)), rfl, ⟨e_bo.trans (z_e1 hf), congrArg (fun z => (z_wB X a d d2 z)) (z_e2 hf)⟩, by rw [ht]; exact hP, hD⟩, hS.F ht⟩) hS.2.2 dX4_ring_38
def f_X4_cross (B : z_B) (v1 : Int32) (v2 : Int32) : Option (Int32 × z_B) := (f_X4_requireRoom B v1).bind (fun x2 => (f_X4_requireRoom B v2).bind (fun x7 => (if v1 = v2 then none else some ((z_rg ((f_X0_swapWires B.1 v1 v2).2.1 3) v1), ((f_X0_swapWires B.1 v1 v2), B.2)))))
set_option maxHeartbeats 4000000 in
set_option maxRecDepth 100000 in
theorem m_X4_cross (l : Launch) (X : z_X) (a : Nat) (d d2 : Nat → Nat) (B : z_B) (v1 : Int32) (v2 : Int32) {RR : (Int32 × z_B)} (hf : f_X4_cross B v1 v2 = some RR) : z_mI l yX4_cross wsX4_cross 2 45 X [.ref a, .int v1, .int v2] (z_wB X a d d2 B) RR.1 (z_wB X a d d2 RR.2) := by
  intro sz
  refine Met.ofW (cc := cX4_cross) (maxL := 3) (ret := (some .int)) (by decide) rfl ?_
  intro p e s m args below meth c s₁ Bd hml hv
  obtain ⟨rfl, hsz, hP, hK, hN, hD0⟩ := hv
  have hx := Bd.exec
  have hb := Bd.bytes
  have hr := Bd.returns
  have hts := atoms_spec (ws := wsX4_cross) Bd.pre
  have hown : s.vm.findClass RX4 = some m.cls := findClass_of_methodNamed Bd.named
  have hlocks := Bd.notSynchronized
  have S : CallFix p m c cX4_cross 3 s _ wsX4_cross RX4 := ⟨hx, hb, hml, hown, hts⟩
  have lk_fi10 := hts (.fieldLink RX4 10 "HouseBells" "house" "LHouseBells$House;") (List.mem_of_getElem? (i := 3) rfl)
  have in_X0 : ∀ w ∈ wsX00, w ∈ wsX4_cross := fun _ h => (List.mem_cons_of_mem _ (List.mem_append_left _ (List.mem_append_left _ (List.mem_append_left _ (List.mem_append_right _ h)))))
  have in_X4 : ∀ w ∈ wsX40, w ∈ wsX4_cross := fun _ h => (List.mem_cons_of_mem _ (List.mem_append_left _ (List.mem_append_left _ (List.mem_append_left _ (List.mem_append_left _ (List.mem_append_right _ h))))))
  subst hsz
  have hD := hD0.self (sz := s.heap.size)
  generalize hAe : va_A (z_wB X a d d2 B) s.heap.size = A at hD ⊢
  have hA : ∀ q : Nat, s.heap.size ≤ q → A q := fun q h => by rw [← hAe]; exact Or.inr h
  have hS : va_S A s.heap s.heap [] := va_S.rf
  have hl := lv_entry ([.ref a, .int v1, .int v2]) (n := 3) (Nat.le_of_ble_eq_true rfl)
  rw [lg_entry_eq]
  generalize (lg_sl ([.ref a, .int v1, .int v2]) ++ List.replicate (3 - (lg_sl ([.ref a, .int v1, .int v2])).length) Slot.unset).toArray = ls at hl ⊢
  have hl : lv_has ls 3 [(0, .ref a), (1, .int v1), (2, .int v2)] := hl
  suffices hgo : ∀ (H : Heap) (locs : List Loc), va_P X.1 vwCl (z_wB X a d d2 B) H → va_D A (z_wB X a d d2 B) → va_S A s.heap H locs → W p l e (headSpec wsX4_cross (z_R 2 45)).room s m ([.ref a, .int v1, .int v2] : List Value).toArray below meth c H locs 0 0 (MQ below (va_Qi (fun (z : Int32) (u : va_W) => z = RR.1 ∧ u = (z_wB X a d d2 RR.2)) (z_Bm X A) A) ([.ref a, .int v1, .int v2] : List Value).toArray s 0 0 A) (F0 m 0 ls []) from hgo _ _ hP hD hS
  clear hP hD hS
  intro H locs hP hD hS
  unfold f_X4_cross at hf
  refine lv_aload_n (pc := 0) hx hb dX4_cross_0 rfl (lv_at hl 0 rfl) ?_
  refine lv_iload_n (pc := 1) hx hb dX4_cross_1 rfl (lv_at hl 1 rfl) ?_
  obtain ⟨x2, e2, hf⟩ := z_bd hf
  refine z_cpV (pc := 2) S (m_X4_requireRoom l X a d d2 B v1 e2) (cwV 1 hts gX4_cross_X4_requireRoom rfl rfl rfl hdX4_requireRoom ⟨Nat.le_of_ble_eq_true rfl, Nat.le_of_ble_eq_true rfl⟩) hP hK hN (s_B_B X a d d2 B) (ci := 4) rfl rfl rfl ⟨Nat.le_of_ble_eq_true rfl, Nat.le_of_ble_eq_true rfl⟩ rfl hl.1 rfl (Nat.le_of_ble_eq_true rfl) dX4_cross_2 ?_
  refine lv_aload_n (pc := 5) hx hb dX4_cross_5 rfl (lv_at hl 0 rfl) ?_
  refine lv_iload_n (pc := 6) hx hb dX4_cross_6 rfl (lv_at hl 2 rfl) ?_
  obtain ⟨x7, e7, hf⟩ := z_bd hf
  refine z_cpV (pc := 7) S (m_X4_requireRoom l X a d d2 B v2 e7) (cwV 1 hts gX4_cross_X4_requireRoom rfl rfl rfl hdX4_requireRoom ⟨Nat.le_of_ble_eq_true rfl, Nat.le_of_ble_eq_true rfl⟩) hP hK hN (s_B_B X a d d2 B) (ci := 4) rfl rfl rfl ⟨Nat.le_of_ble_eq_true rfl, Nat.le_of_ble_eq_true rfl⟩ rfl hl.1 rfl (Nat.le_of_ble_eq_true rfl) dX4_cross_7 ?_
  refine lv_iload_n (pc := 10) hx hb dX4_cross_10 rfl (lv_at hl 1 rfl) ?_
  refine lv_iload_n (pc := 11) hx hb dX4_cross_11 rfl (lv_at hl 2 rfl) ?_
  refine lv_icmp_ne (pc := 12) (tgt := 25) hx hb dX4_cross_12 (by decide) (fun c_12 => ?_) (fun c_12 => ?_)
  · replace hf := z_in c_12 hf
    refine lv_aload_n (pc := 25) hx hb dX4_cross_25 rfl (lv_at hl 0 rfl) ?_
    refine va_get (pc := 26) (ci := 4) (C := RX4) (T := TX4) (N := 2) hx hb hts in_X4 hown hK hP 0 rfl rfl 0 (by decide) lk_fi10 (fun _ h9 => h9) rfl dX4_cross_26 ?_
    refine lv_iload_n (pc := 29) hx hb dX4_cross_29 rfl (lv_at hl 1 rfl) ?_
    refine lv_iload_n (pc := 30) hx hb dX4_cross_30 rfl (lv_at hl 2 rfl) ?_
    refine z_cmV (pc := 31) (W1 := (z_wB X a d d2 ((f_X0_swapWires B.1 v1 v2), B.2))) S (m_X0_swapWires l X d B.1 v1 v2 rfl) (cwV 2 hts gX4_cross_X0_swapWires rfl rfl rfl hdX0_swapWires ⟨Nat.le_of_ble_eq_true rfl, Nat.le_of_ble_eq_true rfl⟩) hP hK hN hD hS hA (s_B_H1 X a d d2 B) (f_B_H1 X a d d2 B (f_X0_swapWires B.1 v1 v2)) (ci := 0) rfl rfl rfl ⟨Nat.le_of_ble_eq_true rfl, Nat.le_of_ble_eq_true rfl⟩ rfl hl.1 rfl (Nat.le_of_ble_eq_true rfl) dX4_cross_31 (fun H locs hP hD hS => ?_)
    refine lv_aload_n (pc := 34) hx hb dX4_cross_34 rfl (lv_at hl 0 rfl) ?_
    refine va_get (pc := 35) (ci := 4) (C := RX4) (T := TX4) (N := 2) hx hb hts in_X4 hown hK hP 0 rfl rfl 0 (by decide) lk_fi10 (fun _ h9 => h9) rfl dX4_cross_35 ?_
    refine va_getN (pc := 38) (ci := 0) (C := RX0) (T := TX0) (N := 15) hx hb hts in_X0 hown hK hP 1 rfl rfl 10 (by decide) (z_n20 hN) (fun _ h9 => h9) rfl dX4_cross_38 ?_
    refine lv_iload_n (pc := 41) hx hb dX4_cross_41 rfl (lv_at hl 1 rfl) ?_
    refine z_cpI (pc := 42) S (m_X2_get l X (d 7) (d 8) ((f_X0_swapWires B.1 v1 v2).2.1 3) v1) (cwV 1 hts gX4_cross_X2_get rfl rfl rfl hdX2_get ⟨Nat.le_of_ble_eq_true rfl, Nat.le_of_ble_eq_true rfl⟩) hP hK hN (s_B_R8 X a d d2 ((f_X0_swapWires B.1 v1 v2), B.2)) (ci := 2) rfl rfl rfl ⟨Nat.le_of_ble_eq_true rfl, Nat.le_of_ble_eq_true rfl⟩ rfl hl.1 rfl (Nat.le_of_ble_eq_true rfl) dX4_cross_42 ?_
    exact W.iret (pc := 45) (v := (z_rg ((f_X0_swapWires B.1 v1 v2).2.1 3) v1)) hx hb hr (fun t ht hW => ⟨⟨_, (z_wB X a d d2 ((f_X0_swapWires B.1 v1 v2), B.2)), rfl, ⟨z_e1 hf, congrArg (fun z => (z_wB X a d d2 z)) (z_e2 hf)⟩, by rw [ht]; exact hP, hD⟩, hS.F ht⟩) hS.2.2 dX4_cross_45
  · replace hf := z_ip c_12 hf
    cases hf
def f_X4_cut (B : z_B) (v1 : Int32) : Option (Int32 × z_B) := (f_X4_requireRoom B v1).bind (fun x2 => (if (f_X0_isWireCut B.1 v1) = 0 then (f_X0_countCutWires (z_hR B.1 4 (z_rs (B.1.2.1 4) v1 1))).bind (fun x42 => some (x42, ((z_hR B.1 4 (z_rs (B.1.2.1 4) v1 1)), B.2))) else none))
set_option maxHeartbeats 4000000 in
set_option maxRecDepth 100000 in
theorem m_X4_cut (l : Launch) (X : z_X) (a : Nat) (d d2 : Nat → Nat) (B : z_B) (v1 : Int32) {RR : (Int32 × z_B)} (hf : f_X4_cut B v1 = some RR) : z_mI l yX4_cut wsX4_cut 2 43 X [.ref a, .int v1] (z_wB X a d d2 B) RR.1 (z_wB X a d d2 RR.2) := by
  intro sz
  refine Met.ofW (cc := cX4_cut) (maxL := 2) (ret := (some .int)) (by decide) rfl ?_
  intro p e s m args below meth c s₁ Bd hml hv
  obtain ⟨rfl, hsz, hP, hK, hN, hD0⟩ := hv
  have hx := Bd.exec
  have hb := Bd.bytes
  have hr := Bd.returns
  have hts := atoms_spec (ws := wsX4_cut) Bd.pre
  have hown : s.vm.findClass RX4 = some m.cls := findClass_of_methodNamed Bd.named
  have hlocks := Bd.notSynchronized
  have S : CallFix p m c cX4_cut 2 s _ wsX4_cut RX4 := ⟨hx, hb, hml, hown, hts⟩
  have lk_fi10 := hts (.fieldLink RX4 10 "HouseBells" "house" "LHouseBells$House;") (List.mem_of_getElem? (i := 3) rfl)
  have in_X0 : ∀ w ∈ wsX00, w ∈ wsX4_cut := fun _ h => (List.mem_cons_of_mem _ (List.mem_append_left _ (List.mem_append_left _ (List.mem_append_left _ (List.mem_append_right _ h)))))
  have in_X4 : ∀ w ∈ wsX40, w ∈ wsX4_cut := fun _ h => (List.mem_cons_of_mem _ (List.mem_append_left _ (List.mem_append_left _ (List.mem_append_left _ (List.mem_append_left _ (List.mem_append_right _ h))))))
  subst hsz
  have hD := hD0.self (sz := s.heap.size)
  generalize hAe : va_A (z_wB X a d d2 B) s.heap.size = A at hD ⊢
  have hA : ∀ q : Nat, s.heap.size ≤ q → A q := fun q h => by rw [← hAe]; exact Or.inr h
  have hS : va_S A s.heap s.heap [] := va_S.rf
  have hl := lv_entry ([.ref a, .int v1]) (n := 2) (Nat.le_of_ble_eq_true rfl)
  rw [lg_entry_eq]
  generalize (lg_sl ([.ref a, .int v1]) ++ List.replicate (2 - (lg_sl ([.ref a, .int v1])).length) Slot.unset).toArray = ls at hl ⊢
  have hl : lv_has ls 2 [(0, .ref a), (1, .int v1)] := hl
  suffices hgo : ∀ (H : Heap) (locs : List Loc), va_P X.1 vwCl (z_wB X a d d2 B) H → va_D A (z_wB X a d d2 B) → va_S A s.heap H locs → W p l e (headSpec wsX4_cut (z_R 2 43)).room s m ([.ref a, .int v1] : List Value).toArray below meth c H locs 0 0 (MQ below (va_Qi (fun (z : Int32) (u : va_W) => z = RR.1 ∧ u = (z_wB X a d d2 RR.2)) (z_Bm X A) A) ([.ref a, .int v1] : List Value).toArray s 0 0 A) (F0 m 0 ls []) from hgo _ _ hP hD hS
  clear hP hD hS
  intro H locs hP hD hS
  unfold f_X4_cut at hf
  refine lv_aload_n (pc := 0) hx hb dX4_cut_0 rfl (lv_at hl 0 rfl) ?_
  refine lv_iload_n (pc := 1) hx hb dX4_cut_1 rfl (lv_at hl 1 rfl) ?_
  obtain ⟨x2, e2, hf⟩ := z_bd hf
  refine z_cpV (pc := 2) S (m_X4_requireRoom l X a d d2 B v1 e2) (cwV 1 hts gX4_cut_X4_requireRoom rfl rfl rfl hdX4_requireRoom ⟨Nat.le_of_ble_eq_true rfl, Nat.le_of_ble_eq_true rfl⟩) hP hK hN (s_B_B X a d d2 B) (ci := 4) rfl rfl rfl ⟨Nat.le_of_ble_eq_true rfl, Nat.le_of_ble_eq_true rfl⟩ rfl hl.1 rfl (Nat.le_of_ble_eq_true rfl) dX4_cut_2 ?_
  refine lv_aload_n (pc := 5) hx hb dX4_cut_5 rfl (lv_at hl 0 rfl) ?_
  refine va_get (pc := 6) (ci := 4) (C := RX4) (T := TX4) (N := 2) hx hb hts in_X4 hown hK hP 0 rfl rfl 0 (by decide) lk_fi10 (fun _ h9 => h9) rfl dX4_cut_6 ?_
  refine lv_iload_n (pc := 9) hx hb dX4_cut_9 rfl (lv_at hl 1 rfl) ?_
  refine z_cpI (pc := 10) S (m_X0_isWireCut l X d B.1 v1 rfl) (cwV 1 hts gX4_cut_X0_isWireCut rfl rfl rfl hdX0_isWireCut ⟨Nat.le_of_ble_eq_true rfl, Nat.le_of_ble_eq_true rfl⟩) hP hK hN (s_B_H1 X a d d2 B) (ci := 0) rfl rfl rfl ⟨Nat.le_of_ble_eq_true rfl, Nat.le_of_ble_eq_true rfl⟩ rfl hl.1 rfl (Nat.le_of_ble_eq_true rfl) dX4_cut_10 ?_
  refine lv_if_eq (pc := 13) (tgt := 26) hx hb dX4_cut_13 (by decide) (fun c_13 => ?_) (fun c_13 => ?_)
  · replace hf := z_ip c_13 hf
    refine lv_aload_n (pc := 26) hx hb dX4_cut_26 rfl (lv_at hl 0 rfl) ?_
    refine va_get (pc := 27) (ci := 4) (C := RX4) (T := TX4) (N := 2) hx hb hts in_X4 hown hK hP 0 rfl rfl 0 (by decide) lk_fi10 (fun _ h9 => h9) rfl dX4_cut_27 ?_
    refine va_getN (pc := 30) (ci := 0) (C := RX0) (T := TX0) (N := 15) hx hb hts in_X0 hown hK hP 1 rfl rfl 11 (by decide) (z_n21 hN) (fun _ h9 => h9) rfl dX4_cut_30 ?_
    refine lv_iload_n (pc := 33) hx hb dX4_cut_33 rfl (lv_at hl 1 rfl) ?_
    refine lv_iconst (v := 1) (pc := 34) hx hb dX4_cut_34 (by decide) ?_
    refine z_cmV (pc := 35) (W1 := (z_wB X a d d2 ((z_hR B.1 4 (z_rs (B.1.2.1 4) v1 1)), B.2))) S (m_X2_set l X (d 9) (d 10) (B.1.2.1 4) v1 1) (cwV 2 hts gX4_cut_X2_set rfl rfl rfl hdX2_set ⟨Nat.le_of_ble_eq_true rfl, Nat.le_of_ble_eq_true rfl⟩) hP hK hN hD hS hA (s_B_R10 X a d d2 B) (f_B_R10 X a d d2 B (z_rs (B.1.2.1 4) v1 1)) (ci := 2) rfl rfl rfl ⟨Nat.le_of_ble_eq_true rfl, Nat.le_of_ble_eq_true rfl⟩ rfl hl.1 rfl (Nat.le_of_ble_eq_true rfl) dX4_cut_35 (fun H locs hP hD hS => ?_)
    refine lv_aload_n (pc := 38) hx hb dX4_cut_38 rfl (lv_at hl 0 rfl) ?_
    refine va_get (pc := 39) (ci := 4) (C := RX4) (T := TX4) (N := 2) hx hb hts in_X4 hown hK hP 0 rfl rfl 0 (by decide) lk_fi10 (fun _ h9 => h9) rfl dX4_cut_39 ?_
    obtain ⟨x42, e42, hf⟩ := z_bd hf
    refine z_cpI (pc := 42) S (m_X0_countCutWires l X d (z_hR B.1 4 (z_rs (B.1.2.1 4) v1 1)) e42) (cwV 0 hts gX4_cut_X0_countCutWires rfl rfl rfl hdX0_countCutWires ⟨Nat.le_of_ble_eq_true rfl, Nat.le_of_ble_eq_true rfl⟩) hP hK hN (s_B_H1 X a d d2 ((z_hR B.1 4 (z_rs (B.1.2.1 4) v1 1)), B.2)) (ci := 0) rfl rfl rfl ⟨Nat.le_of_ble_eq_true rfl, Nat.le_of_ble_eq_true rfl⟩ rfl hl.1 rfl (Nat.le_of_ble_eq_true rfl) dX4_cut_42 ?_
    exact W.iret (pc := 45) (v := x42) hx hb hr (fun t ht hW => ⟨⟨_, (z_wB X a d d2 ((z_hR B.1 4 (z_rs (B.1.2.1 4) v1 1)), B.2)), rfl, ⟨z_e1 hf, congrArg (fun z => (z_wB X a d d2 z)) (z_e2 hf)⟩, by rw [ht]; exact hP, hD⟩, hS.F ht⟩) hS.2.2 dX4_cut_45
  · replace hf := z_in c_13 hf
    cases hf
def f_X4_mend (B : z_B) (v1 : Int32) : Option (Int32 × z_B) := (f_X4_requireRoom B v1).bind (fun x2 => (if (f_X0_isWireCut B.1 v1) = 0 then none else (f_X0_countCutWires (z_hR B.1 4 (z_rs (B.1.2.1 4) v1 0))).bind (fun x42 => some (x42, ((z_hR B.1 4 (z_rs (B.1.2.1 4) v1 0)), B.2)))))
set_option maxHeartbeats 4000000 in
set_option maxRecDepth 100000 in
theorem m_X4_mend (l : Launch) (X : z_X) (a : Nat) (d d2 : Nat → Nat) (B : z_B) (v1 : Int32) {RR : (Int32 × z_B)} (hf : f_X4_mend B v1 = some RR) : z_mI l yX4_mend wsX4_mend 2 43 X [.ref a, .int v1] (z_wB X a d d2 B) RR.1 (z_wB X a d d2 RR.2) := by
  intro sz
  refine Met.ofW (cc := cX4_mend) (maxL := 2) (ret := (some .int)) (by decide) rfl ?_
  intro p e s m args below meth c s₁ Bd hml hv
  obtain ⟨rfl, hsz, hP, hK, hN, hD0⟩ := hv
  have hx := Bd.exec
  have hb := Bd.bytes
  have hr := Bd.returns
  have hts := atoms_spec (ws := wsX4_mend) Bd.pre
  have hown : s.vm.findClass RX4 = some m.cls := findClass_of_methodNamed Bd.named
  have hlocks := Bd.notSynchronized
  have S : CallFix p m c cX4_mend 2 s _ wsX4_mend RX4 := ⟨hx, hb, hml, hown, hts⟩
  have lk_fi10 := hts (.fieldLink RX4 10 "HouseBells" "house" "LHouseBells$House;") (List.mem_of_getElem? (i := 3) rfl)
  have in_X0 : ∀ w ∈ wsX00, w ∈ wsX4_mend := fun _ h => (List.mem_cons_of_mem _ (List.mem_append_left _ (List.mem_append_left _ (List.mem_append_left _ (List.mem_append_right _ h)))))
  have in_X4 : ∀ w ∈ wsX40, w ∈ wsX4_mend := fun _ h => (List.mem_cons_of_mem _ (List.mem_append_left _ (List.mem_append_left _ (List.mem_append_left _ (List.mem_append_left _ (List.mem_append_right _ h))))))
  subst hsz
  have hD := hD0.self (sz := s.heap.size)
  generalize hAe : va_A (z_wB X a d d2 B) s.heap.size = A at hD ⊢
  have hA : ∀ q : Nat, s.heap.size ≤ q → A q := fun q h => by rw [← hAe]; exact Or.inr h
  have hS : va_S A s.heap s.heap [] := va_S.rf
  have hl := lv_entry ([.ref a, .int v1]) (n := 2) (Nat.le_of_ble_eq_true rfl)
  rw [lg_entry_eq]
  generalize (lg_sl ([.ref a, .int v1]) ++ List.replicate (2 - (lg_sl ([.ref a, .int v1])).length) Slot.unset).toArray = ls at hl ⊢
  have hl : lv_has ls 2 [(0, .ref a), (1, .int v1)] := hl
  suffices hgo : ∀ (H : Heap) (locs : List Loc), va_P X.1 vwCl (z_wB X a d d2 B) H → va_D A (z_wB X a d d2 B) → va_S A s.heap H locs → W p l e (headSpec wsX4_mend (z_R 2 43)).room s m ([.ref a, .int v1] : List Value).toArray below meth c H locs 0 0 (MQ below (va_Qi (fun (z : Int32) (u : va_W) => z = RR.1 ∧ u = (z_wB X a d d2 RR.2)) (z_Bm X A) A) ([.ref a, .int v1] : List Value).toArray s 0 0 A) (F0 m 0 ls []) from hgo _ _ hP hD hS
  clear hP hD hS
  intro H locs hP hD hS
  unfold f_X4_mend at hf
  refine lv_aload_n (pc := 0) hx hb dX4_mend_0 rfl (lv_at hl 0 rfl) ?_
  refine lv_iload_n (pc := 1) hx hb dX4_mend_1 rfl (lv_at hl 1 rfl) ?_
  obtain ⟨x2, e2, hf⟩ := z_bd hf
  refine z_cpV (pc := 2) S (m_X4_requireRoom l X a d d2 B v1 e2) (cwV 1 hts gX4_mend_X4_requireRoom rfl rfl rfl hdX4_requireRoom ⟨Nat.le_of_ble_eq_true rfl, Nat.le_of_ble_eq_true rfl⟩) hP hK hN (s_B_B X a d d2 B) (ci := 4) rfl rfl rfl ⟨Nat.le_of_ble_eq_true rfl, Nat.le_of_ble_eq_true rfl⟩ rfl hl.1 rfl (Nat.le_of_ble_eq_true rfl) dX4_mend_2 ?_
  refine lv_aload_n (pc := 5) hx hb dX4_mend_5 rfl (lv_at hl 0 rfl) ?_
  refine va_get (pc := 6) (ci := 4) (C := RX4) (T := TX4) (N := 2) hx hb hts in_X4 hown hK hP 0 rfl rfl 0 (by decide) lk_fi10 (fun _ h9 => h9) rfl dX4_mend_6 ?_
  refine lv_iload_n (pc := 9) hx hb dX4_mend_9 rfl (lv_at hl 1 rfl) ?_
  refine z_cpI (pc := 10) S (m_X0_isWireCut l X d B.1 v1 rfl) (cwV 1 hts gX4_mend_X0_isWireCut rfl rfl rfl hdX0_isWireCut ⟨Nat.le_of_ble_eq_true rfl, Nat.le_of_ble_eq_true rfl⟩) hP hK hN (s_B_H1 X a d d2 B) (ci := 0) rfl rfl rfl ⟨Nat.le_of_ble_eq_true rfl, Nat.le_of_ble_eq_true rfl⟩ rfl hl.1 rfl (Nat.le_of_ble_eq_true rfl) dX4_mend_10 ?_
  refine lv_if_ne (pc := 13) (tgt := 26) hx hb dX4_mend_13 (by decide) (fun c_13 => ?_) (fun c_13 => ?_)
  · replace hf := z_in c_13 hf
    refine lv_aload_n (pc := 26) hx hb dX4_mend_26 rfl (lv_at hl 0 rfl) ?_
    refine va_get (pc := 27) (ci := 4) (C := RX4) (T := TX4) (N := 2) hx hb hts in_X4 hown hK hP 0 rfl rfl 0 (by decide) lk_fi10 (fun _ h9 => h9) rfl dX4_mend_27 ?_
    refine va_getN (pc := 30) (ci := 0) (C := RX0) (T := TX0) (N := 15) hx hb hts in_X0 hown hK hP 1 rfl rfl 11 (by decide) (z_n21 hN) (fun _ h9 => h9) rfl dX4_mend_30 ?_
    refine lv_iload_n (pc := 33) hx hb dX4_mend_33 rfl (lv_at hl 1 rfl) ?_
    refine lv_iconst (v := 0) (pc := 34) hx hb dX4_mend_34 (by decide) ?_
    refine z_cmV (pc := 35) (W1 := (z_wB X a d d2 ((z_hR B.1 4 (z_rs (B.1.2.1 4) v1 0)), B.2))) S (m_X2_set l X (d 9) (d 10) (B.1.2.1 4) v1 0) (cwV 2 hts gX4_mend_X2_set rfl rfl rfl hdX2_set ⟨Nat.le_of_ble_eq_true rfl, Nat.le_of_ble_eq_true rfl⟩) hP hK hN hD hS hA (s_B_R10 X a d d2 B) (f_B_R10 X a d d2 B (z_rs (B.1.2.1 4) v1 0)) (ci := 2) rfl rfl rfl ⟨Nat.le_of_ble_eq_true rfl, Nat.le_of_ble_eq_true rfl⟩ rfl hl.1 rfl (Nat.le_of_ble_eq_true rfl) dX4_mend_35 (fun H locs hP hD hS => ?_)
    refine lv_aload_n (pc := 38) hx hb dX4_mend_38 rfl (lv_at hl 0 rfl) ?_
    refine va_get (pc := 39) (ci := 4) (C := RX4) (T := TX4) (N := 2) hx hb hts in_X4 hown hK hP 0 rfl rfl 0 (by decide) lk_fi10 (fun _ h9 => h9) rfl dX4_mend_39 ?_
    obtain ⟨x42, e42, hf⟩ := z_bd hf
    refine z_cpI (pc := 42) S (m_X0_countCutWires l X d (z_hR B.1 4 (z_rs (B.1.2.1 4) v1 0)) e42) (cwV 0 hts gX4_mend_X0_countCutWires rfl rfl rfl hdX0_countCutWires ⟨Nat.le_of_ble_eq_true rfl, Nat.le_of_ble_eq_true rfl⟩) hP hK hN (s_B_H1 X a d d2 ((z_hR B.1 4 (z_rs (B.1.2.1 4) v1 0)), B.2)) (ci := 0) rfl rfl rfl ⟨Nat.le_of_ble_eq_true rfl, Nat.le_of_ble_eq_true rfl⟩ rfl hl.1 rfl (Nat.le_of_ble_eq_true rfl) dX4_mend_42 ?_
    exact W.iret (pc := 45) (v := x42) hx hb hr (fun t ht hW => ⟨⟨_, (z_wB X a d d2 ((z_hR B.1 4 (z_rs (B.1.2.1 4) v1 0)), B.2)), rfl, ⟨z_e1 hf, congrArg (fun z => (z_wB X a d d2 z)) (z_e2 hf)⟩, by rw [ht]; exact hP, hD⟩, hS.F ht⟩) hS.2.2 dX4_mend_45
  · replace hf := z_ip c_13 hf
    cases hf
def f_X4_recharge (B : z_B) (v1 : Int32) : Option (Int32 × z_B) := (if (f_X4_isWithin v1 0 500) = 0 then none else some ((B.1.1 2), ((z_hS B.1 2 v1), B.2)))
set_option maxHeartbeats 4000000 in
set_option maxRecDepth 100000 in
theorem m_X4_recharge (l : Launch) (X : z_X) (a : Nat) (d d2 : Nat → Nat) (B : z_B) (v1 : Int32) {RR : (Int32 × z_B)} (hf : f_X4_recharge B v1 = some RR) : z_mI l yX4_recharge wsX4_recharge 1 22 X [.ref a, .int v1] (z_wB X a d d2 B) RR.1 (z_wB X a d d2 RR.2) := by
  intro sz
  refine Met.ofW (cc := cX4_recharge) (maxL := 3) (ret := (some .int)) (by decide) rfl ?_
  intro p e s m args below meth c s₁ Bd hml hv
  obtain ⟨rfl, hsz, hP, hK, hN, hD0⟩ := hv
  have hx := Bd.exec
  have hb := Bd.bytes
  have hr := Bd.returns
  have hts := atoms_spec (ws := wsX4_recharge) Bd.pre
  have hown : s.vm.findClass RX4 = some m.cls := findClass_of_methodNamed Bd.named
  have hlocks := Bd.notSynchronized
  have S : CallFix p m c cX4_recharge 3 s _ wsX4_recharge RX4 := ⟨hx, hb, hml, hown, hts⟩
  have lk_fi10 := hts (.fieldLink RX4 10 "HouseBells" "house" "LHouseBells$House;") (List.mem_of_getElem? (i := 3) rfl)
  have in_X0 : ∀ w ∈ wsX00, w ∈ wsX4_recharge := fun _ h => (List.mem_cons_of_mem _ (List.mem_append_left _ (List.mem_append_right _ h)))
  have in_X4 : ∀ w ∈ wsX40, w ∈ wsX4_recharge := fun _ h => (List.mem_cons_of_mem _ (List.mem_append_left _ (List.mem_append_left _ (List.mem_append_right _ h))))
  subst hsz
  have hD := hD0.self (sz := s.heap.size)
  generalize hAe : va_A (z_wB X a d d2 B) s.heap.size = A at hD ⊢
  have hA : ∀ q : Nat, s.heap.size ≤ q → A q := fun q h => by rw [← hAe]; exact Or.inr h
  have hS : va_S A s.heap s.heap [] := va_S.rf
  have hl := lv_entry ([.ref a, .int v1]) (n := 3) (Nat.le_of_ble_eq_true rfl)
  rw [lg_entry_eq]
  generalize (lg_sl ([.ref a, .int v1]) ++ List.replicate (3 - (lg_sl ([.ref a, .int v1])).length) Slot.unset).toArray = ls at hl ⊢
  have hl : lv_has ls 3 [(0, .ref a), (1, .int v1)] := hl
  suffices hgo : ∀ (H : Heap) (locs : List Loc), va_P X.1 vwCl (z_wB X a d d2 B) H → va_D A (z_wB X a d d2 B) → va_S A s.heap H locs → W p l e (headSpec wsX4_recharge (z_R 1 22)).room s m ([.ref a, .int v1] : List Value).toArray below meth c H locs 0 0 (MQ below (va_Qi (fun (z : Int32) (u : va_W) => z = RR.1 ∧ u = (z_wB X a d d2 RR.2)) (z_Bm X A) A) ([.ref a, .int v1] : List Value).toArray s 0 0 A) (F0 m 0 ls []) from hgo _ _ hP hD hS
  clear hP hD hS
  intro H locs hP hD hS
  unfold f_X4_recharge at hf
  refine lv_iload_n (pc := 0) hx hb dX4_recharge_0 rfl (lv_at hl 1 rfl) ?_
  refine lv_iconst (v := 0) (pc := 1) hx hb dX4_recharge_1 (by decide) ?_
  refine lv_sipush (v := 500) (pc := 2) hx hb dX4_recharge_2 (by decide) ?_
  refine z_csI (pc := 5) S (m_X4_isWithin l X v1 0 500 rfl) (va_cwS 3 hts gX4_recharge_X4_isWithin rfl rfl rfl hdX4_isWithin ⟨Nat.le_of_ble_eq_true rfl, Nat.le_of_ble_eq_true rfl⟩) hP hK hN (s_nil _) ⟨Nat.le_of_ble_eq_true rfl, Nat.le_of_ble_eq_true rfl⟩ rfl hl.1 rfl (Nat.le_of_ble_eq_true rfl) dX4_recharge_5 ?_
  refine lv_if_ne (pc := 8) (tgt := 21) hx hb dX4_recharge_8 (by decide) (fun c_8 => ?_) (fun c_8 => ?_)
  · replace hf := z_in c_8 hf
    refine lv_aload_n (pc := 21) hx hb dX4_recharge_21 rfl (lv_at hl 0 rfl) ?_
    refine va_get (pc := 22) (ci := 4) (C := RX4) (T := TX4) (N := 2) hx hb hts in_X4 hown hK hP 0 rfl rfl 0 (by decide) lk_fi10 (fun _ h9 => h9) rfl dX4_recharge_22 ?_
    refine va_getN (pc := 25) (ci := 0) (C := RX0) (T := TX0) (N := 15) hx hb hts in_X0 hown hK hP 1 rfl rfl 2 (by decide) (z_n14 hN) (fun _ h9 => h9) rfl dX4_recharge_25 ?_
    refine lv_istore_n (pc := 28) (lv' := [(2, .int (B.1.1 2)), (0, .ref a), (1, .int v1)]) hx hb dX4_recharge_28 rfl hl (by decide) rfl (fun ls hl => ?_)
    refine lv_aload_n (pc := 29) hx hb dX4_recharge_29 rfl (lv_at hl 1 rfl) ?_
    refine va_get (pc := 30) (ci := 4) (C := RX4) (T := TX4) (N := 2) hx hb hts in_X4 hown hK hP 0 rfl rfl 0 (by decide) lk_fi10 (fun _ h9 => h9) rfl dX4_recharge_30 ?_
    refine lv_iload_n (pc := 33) hx hb dX4_recharge_33 rfl (lv_at hl 2 rfl) ?_
    refine z_putN (pc := 34) (ci := 0) (C := RX0) (T := TX0) (N := 15) (W1 := (z_wB X a d d2 ((z_hS B.1 2 v1), B.2))) hx hb hts in_X0 tyX0 tyX0_ok nmX0 hown hK hP hD hS 1 rfl rfl 2 (by decide) (z_n14 hN) (fun _ h9 => h9) rfl (by decide +kernel) (Nat.le_of_ble_eq_true rfl) dX4_recharge_34 rfl (fun H locs hP hD hS => ?_)
    refine lv_iload_n (pc := 37) hx hb dX4_recharge_37 rfl (lv_at hl 0 rfl) ?_
    exact W.iret (pc := 38) (v := (B.1.1 2)) hx hb hr (fun t ht hW => ⟨⟨_, (z_wB X a d d2 ((z_hS B.1 2 v1), B.2)), rfl, ⟨z_e1 hf, congrArg (fun z => (z_wB X a d d2 z)) (z_e2 hf)⟩, by rw [ht]; exact hP, hD⟩, hS.F ht⟩) hS.2.2 dX4_recharge_38
  · replace hf := z_ip c_8 hf
    cases hf
def f_X4_putUp (B : z_B) (v1 : Int32) : Option (Int32 × z_B) := (f_X4_requireRoom B v1).bind (fun x2 => (f_X1_placeOf B.1.2.2.1 v1).bind (fun x13 => (if x13 = (-1) then none else (f_X1_remove B.1.2.2.1 v1).bind (fun x38 => some (x38.1, ((z_hL B.1 x38), B.2))))))
set_option maxHeartbeats 4000000 in
set_option maxRecDepth 100000 in
theorem m_X4_putUp (l : Launch) (X : z_X) (a : Nat) (d d2 : Nat → Nat) (B : z_B) (v1 : Int32) {RR : (Int32 × z_B)} (hf : f_X4_putUp B v1 = some RR) : z_mI l yX4_putUp wsX4_putUp 1 23 X [.ref a, .int v1] (z_wB X a d d2 B) RR.1 (z_wB X a d d2 RR.2) := by
  intro sz
  refine Met.ofW (cc := cX4_putUp) (maxL := 2) (ret := (some .int)) (by decide) rfl ?_
  intro p e s m args below meth c s₁ Bd hml hv
  obtain ⟨rfl, hsz, hP, hK, hN, hD0⟩ := hv
  have hx := Bd.exec
  have hb := Bd.bytes
  have hr := Bd.returns
  have hts := atoms_spec (ws := wsX4_putUp) Bd.pre
  have hown : s.vm.findClass RX4 = some m.cls := findClass_of_methodNamed Bd.named
  have hlocks := Bd.notSynchronized
  have S : CallFix p m c cX4_putUp 2 s _ wsX4_putUp RX4 := ⟨hx, hb, hml, hown, hts⟩
  have lk_fi10 := hts (.fieldLink RX4 10 "HouseBells" "house" "LHouseBells$House;") (List.mem_of_getElem? (i := 3) rfl)
  have in_X0 : ∀ w ∈ wsX00, w ∈ wsX4_putUp := fun _ h => (List.mem_cons_of_mem _ (List.mem_append_left _ (List.mem_append_left _ (List.mem_append_left _ (List.mem_append_right _ h)))))
  have in_X1 : ∀ w ∈ wsX10, w ∈ wsX4_putUp := fun _ h => (List.mem_cons_of_mem _ (List.mem_append_left _ (List.mem_append_left _ (List.mem_append_right _ h))))
  have in_X4 : ∀ w ∈ wsX40, w ∈ wsX4_putUp := fun _ h => (List.mem_cons_of_mem _ (List.mem_append_left _ (List.mem_append_left _ (List.mem_append_left _ (List.mem_append_left _ (List.mem_append_right _ h))))))
  subst hsz
  have hD := hD0.self (sz := s.heap.size)
  generalize hAe : va_A (z_wB X a d d2 B) s.heap.size = A at hD ⊢
  have hA : ∀ q : Nat, s.heap.size ≤ q → A q := fun q h => by rw [← hAe]; exact Or.inr h
  have hS : va_S A s.heap s.heap [] := va_S.rf
  have hl := lv_entry ([.ref a, .int v1]) (n := 2) (Nat.le_of_ble_eq_true rfl)
  rw [lg_entry_eq]
  generalize (lg_sl ([.ref a, .int v1]) ++ List.replicate (2 - (lg_sl ([.ref a, .int v1])).length) Slot.unset).toArray = ls at hl ⊢
  have hl : lv_has ls 2 [(0, .ref a), (1, .int v1)] := hl
  suffices hgo : ∀ (H : Heap) (locs : List Loc), va_P X.1 vwCl (z_wB X a d d2 B) H → va_D A (z_wB X a d d2 B) → va_S A s.heap H locs → W p l e (headSpec wsX4_putUp (z_R 1 23)).room s m ([.ref a, .int v1] : List Value).toArray below meth c H locs 0 0 (MQ below (va_Qi (fun (z : Int32) (u : va_W) => z = RR.1 ∧ u = (z_wB X a d d2 RR.2)) (z_Bm X A) A) ([.ref a, .int v1] : List Value).toArray s 0 0 A) (F0 m 0 ls []) from hgo _ _ hP hD hS
  clear hP hD hS
  intro H locs hP hD hS
  unfold f_X4_putUp at hf
  refine lv_aload_n (pc := 0) hx hb dX4_putUp_0 rfl (lv_at hl 0 rfl) ?_
  refine lv_iload_n (pc := 1) hx hb dX4_putUp_1 rfl (lv_at hl 1 rfl) ?_
  obtain ⟨x2, e2, hf⟩ := z_bd hf
  refine z_cpV (pc := 2) S (m_X4_requireRoom l X a d d2 B v1 e2) (cwV 1 hts gX4_putUp_X4_requireRoom rfl rfl rfl hdX4_requireRoom ⟨Nat.le_of_ble_eq_true rfl, Nat.le_of_ble_eq_true rfl⟩) hP hK hN (s_B_B X a d d2 B) (ci := 4) rfl rfl rfl ⟨Nat.le_of_ble_eq_true rfl, Nat.le_of_ble_eq_true rfl⟩ rfl hl.1 rfl (Nat.le_of_ble_eq_true rfl) dX4_putUp_2 ?_
  refine lv_aload_n (pc := 5) hx hb dX4_putUp_5 rfl (lv_at hl 0 rfl) ?_
  refine va_get (pc := 6) (ci := 4) (C := RX4) (T := TX4) (N := 2) hx hb hts in_X4 hown hK hP 0 rfl rfl 0 (by decide) lk_fi10 (fun _ h9 => h9) rfl dX4_putUp_6 ?_
  refine va_getN (pc := 9) (ci := 0) (C := RX0) (T := TX0) (N := 15) hx hb hts in_X0 hown hK hP 1 rfl rfl 13 (by decide) (z_n23 hN) (fun _ h9 => h9) rfl dX4_putUp_9 ?_
  refine lv_iload_n (pc := 12) hx hb dX4_putUp_12 rfl (lv_at hl 1 rfl) ?_
  obtain ⟨x13, e13, hf⟩ := z_bd hf
  refine z_cpI (pc := 13) S (m_X1_placeOf l X d B.1.2.2.1 v1 e13) (cwV 1 hts gX4_putUp_X1_placeOf rfl rfl rfl hdX1_placeOf ⟨Nat.le_of_ble_eq_true rfl, Nat.le_of_ble_eq_true rfl⟩) hP hK hN (s_B_L14 X a d d2 B) (ci := 1) rfl rfl rfl ⟨Nat.le_of_ble_eq_true rfl, Nat.le_of_ble_eq_true rfl⟩ rfl hl.1 rfl (Nat.le_of_ble_eq_true rfl) dX4_putUp_13 ?_
  refine lv_iconst (v := (-1)) (pc := 16) hx hb dX4_putUp_16 (by decide) ?_
  refine lv_icmp_ne (pc := 17) (tgt := 30) hx hb dX4_putUp_17 (by decide) (fun c_17 => ?_) (fun c_17 => ?_)
  · replace hf := z_in c_17 hf
    refine lv_aload_n (pc := 30) hx hb dX4_putUp_30 rfl (lv_at hl 0 rfl) ?_
    refine va_get (pc := 31) (ci := 4) (C := RX4) (T := TX4) (N := 2) hx hb hts in_X4 hown hK hP 0 rfl rfl 0 (by decide) lk_fi10 (fun _ h9 => h9) rfl dX4_putUp_31 ?_
    refine va_getN (pc := 34) (ci := 0) (C := RX0) (T := TX0) (N := 15) hx hb hts in_X0 hown hK hP 1 rfl rfl 13 (by decide) (z_n23 hN) (fun _ h9 => h9) rfl dX4_putUp_34 ?_
    refine lv_iload_n (pc := 37) hx hb dX4_putUp_37 rfl (lv_at hl 1 rfl) ?_
    obtain ⟨x38, e38, hf⟩ := z_bd hf
    refine z_cmV (pc := 38) (W1 := (z_wB X a d d2 ((z_hL B.1 x38), B.2))) S (m_X1_remove l X d B.1.2.2.1 v1 e38) (cwV 1 hts gX4_putUp_X1_remove rfl rfl rfl hdX1_remove ⟨Nat.le_of_ble_eq_true rfl, Nat.le_of_ble_eq_true rfl⟩) hP hK hN hD hS hA (s_B_L14 X a d d2 B) (f_B_L14 X a d d2 B x38) (ci := 1) rfl rfl rfl ⟨Nat.le_of_ble_eq_true rfl, Nat.le_of_ble_eq_true rfl⟩ rfl hl.1 rfl (Nat.le_of_ble_eq_true rfl) dX4_putUp_38 (fun H locs hP hD hS => ?_)
    refine lv_aload_n (pc := 41) hx hb dX4_putUp_41 rfl (lv_at hl 0 rfl) ?_
    refine va_get (pc := 42) (ci := 4) (C := RX4) (T := TX4) (N := 2) hx hb hts in_X4 hown hK hP 0 rfl rfl 0 (by decide) lk_fi10 (fun _ h9 => h9) rfl dX4_putUp_42 ?_
    refine va_getN (pc := 45) (ci := 0) (C := RX0) (T := TX0) (N := 15) hx hb hts in_X0 hown hK hP 1 rfl rfl 13 (by decide) (z_n23 hN) (fun _ h9 => h9) rfl dX4_putUp_45 ?_
    refine va_getN (pc := 48) (ci := 1) (C := RX1) (T := TX1) (N := 2) hx hb hts in_X1 hown hK hP 14 rfl rfl 0 (by decide) (z_n0 hN) (fun _ h9 => h9) rfl dX4_putUp_48 ?_
    exact W.iret (pc := 51) (v := x38.1) hx hb hr (fun t ht hW => ⟨⟨_, (z_wB X a d d2 ((z_hL B.1 x38), B.2)), rfl, ⟨z_e1 hf, congrArg (fun z => (z_wB X a d d2 z)) (z_e2 hf)⟩, by rw [ht]; exact hP, hD⟩, hS.F ht⟩) hS.2.2 dX4_putUp_51
  · replace hf := z_ip c_17 hf
    cases hf
def f_X4_requireMinutes (v0 : Int32) : Option Unit := (if (f_X4_isWithin v0 1 60) = 0 then none else some ())
set_option maxHeartbeats 4000000 in
set_option maxRecDepth 100000 in
theorem m_X4_requireMinutes (l : Launch) (X : z_X) (v0 : Int32) {RR : Unit} (hf : f_X4_requireMinutes v0 = some RR) : z_pV l yX4_requireMinutes wsX4_requireMinutes 1 22 X [.int v0] ([] : va_W) := by
  refine Met.ofW (cc := cX4_requireMinutes) (maxL := 1) (ret := none) (by decide) rfl ?_
  intro p e s m args below meth c s₁ Bd hml hv
  obtain ⟨rfl, hP, hK, hN⟩ := hv
  have hx := Bd.exec
  have hb := Bd.bytes
  have hr := Bd.returns
  have hts := atoms_spec (ws := wsX4_requireMinutes) Bd.pre
  have hown : s.vm.findClass RX4 = some m.cls := findClass_of_methodNamed Bd.named
  have hlocks := Bd.notSynchronized
  have S : CallFix p m c cX4_requireMinutes 1 s _ wsX4_requireMinutes RX4 := ⟨hx, hb, hml, hown, hts⟩
  have hl := lv_entry ([.int v0]) (n := 1) (Nat.le_of_ble_eq_true rfl)
  rw [lg_entry_eq]
  generalize (lg_sl ([.int v0]) ++ List.replicate (1 - (lg_sl ([.int v0])).length) Slot.unset).toArray = ls at hl ⊢
  have hl : lv_has ls 1 [(0, .int v0)] := hl
  unfold f_X4_requireMinutes at hf
  refine lv_iload_n (pc := 0) hx hb dX4_requireMinutes_0 rfl (lv_at hl 0 rfl) ?_
  refine lv_iconst (v := 1) (pc := 1) hx hb dX4_requireMinutes_1 (by decide) ?_
  refine lv_bipush (v := 60) (pc := 2) hx hb dX4_requireMinutes_2 (by decide) ?_
  refine z_csI (pc := 4) S (m_X4_isWithin l X v0 1 60 rfl) (va_cwS 3 hts gX4_requireMinutes_X4_isWithin rfl rfl rfl hdX4_isWithin ⟨Nat.le_of_ble_eq_true rfl, Nat.le_of_ble_eq_true rfl⟩) hP hK hN (s_nil _) ⟨Nat.le_of_ble_eq_true rfl, Nat.le_of_ble_eq_true rfl⟩ rfl hl.1 rfl (Nat.le_of_ble_eq_true rfl) dX4_requireMinutes_4 ?_
  refine lv_if_ne (pc := 7) (tgt := 21) hx hb dX4_requireMinutes_7 (by decide) (fun c_7 => ?_) (fun c_7 => ?_)
  · replace hf := z_in c_7 hf
    exact W.vret (pc := 21) hx hb hr (fun t ht hW => ⟨rfl, trivial, ht⟩) (fun _ h => nomatch h) dX4_requireMinutes_21
  · replace hf := z_ip c_7 hf
    cases hf
def f_X4_pass_L8  : Nat → Int32 → Int32 → Int32 → z_B → Option (Int32 × z_B)
  | 0, _, _, _, _ => none
  | n + 1, u1, u2, u3, B => (if u1 ≤ u3 then some (u2, B) else (f_X0_letMinuteGoBy B.1).bind (fun x18 => f_X4_pass_L8 n u1 (u2 + x18.1) (u3 + 1) (x18.2, B.2)))
def f_X4_pass (B : z_B) (v1 : Int32) : Option (Int32 × z_B) := (f_X4_requireMinutes v1).bind (fun x1 => (f_X4_pass_L8 z_FU v1 0 0 B).bind (fun x8 => some (x8.1, x8.2)))
set_option maxHeartbeats 4000000 in
set_option maxRecDepth 100000 in
theorem m_X4_pass (l : Launch) (X : z_X) (a : Nat) (d d2 : Nat → Nat) (B : z_B) (v1 : Int32) {RR : (Int32 × z_B)} (hf : f_X4_pass B v1 = some RR) : z_mI l yX4_pass wsX4_pass 4 94 X [.ref a, .int v1] (z_wB X a d d2 B) RR.1 (z_wB X a d d2 RR.2) := by
  intro sz
  refine Met.ofW (cc := cX4_pass) (maxL := 4) (ret := (some .int)) (by decide) rfl ?_
  intro p e s m args below meth c s₁ Bd hml hv
  obtain ⟨rfl, hsz, hP, hK, hN, hD0⟩ := hv
  have hx := Bd.exec
  have hb := Bd.bytes
  have hr := Bd.returns
  have hts := atoms_spec (ws := wsX4_pass) Bd.pre
  have hown : s.vm.findClass RX4 = some m.cls := findClass_of_methodNamed Bd.named
  have hlocks := Bd.notSynchronized
  have S : CallFix p m c cX4_pass 4 s _ wsX4_pass RX4 := ⟨hx, hb, hml, hown, hts⟩
  have lk_fi10 := hts (.fieldLink RX4 10 "HouseBells" "house" "LHouseBells$House;") (List.mem_of_getElem? (i := 1) rfl)
  have in_X4 : ∀ w ∈ wsX40, w ∈ wsX4_pass := fun _ h => (List.mem_cons_of_mem _ (List.mem_append_left _ (List.mem_append_left _ (List.mem_append_left _ (List.mem_append_left _ (List.mem_append_left _ (List.mem_append_right _ h)))))))
  subst hsz
  have hD := hD0.self (sz := s.heap.size)
  generalize hAe : va_A (z_wB X a d d2 B) s.heap.size = A at hD ⊢
  have hA : ∀ q : Nat, s.heap.size ≤ q → A q := fun q h => by rw [← hAe]; exact Or.inr h
  have hS : va_S A s.heap s.heap [] := va_S.rf
  have hl := lv_entry ([.ref a, .int v1]) (n := 4) (Nat.le_of_ble_eq_true rfl)
  rw [lg_entry_eq]
  generalize (lg_sl ([.ref a, .int v1]) ++ List.replicate (4 - (lg_sl ([.ref a, .int v1])).length) Slot.unset).toArray = ls at hl ⊢
  have hl : lv_has ls 4 [(0, .ref a), (1, .int v1)] := hl
  have lp_8 : ∀ (n : Nat) (u1 : Int32) (u2 : Int32) (u3 : Int32) (B : z_B) (T : (Int32 × z_B)) (H : Heap) (locs : List Loc), va_P X.1 vwCl (z_wB X a d d2 B) H → va_D A (z_wB X a d d2 B) → va_S A s.heap H locs → ∀ (ls : Array Slot), lv_has ls 4 [(0, .ref a), (1, .int u1), (2, .int u2), (3, .int u3)] → f_X4_pass_L8 n u1 u2 u3 B = some T → (∀ (H : Heap) (locs : List Loc), va_P X.1 vwCl (z_wB X a d d2 T.2) H → va_D A (z_wB X a d d2 T.2) → va_S A s.heap H locs → ∀ (ls : Array Slot), lv_has ls 4 [(2, .int T.1)] → W p l e (headSpec wsX4_pass (z_R 4 94)).room s m ([.ref a, .int v1] : List Value).toArray below meth c H locs 0 0 (MQ below (va_Qi (fun (z : Int32) (u : va_W) => z = RR.1 ∧ u = (z_wB X a d d2 RR.2)) (z_Bm X A) A) ([.ref a, .int v1] : List Value).toArray s 0 0 A) (F0 m 29 ls [])) → W p l e (headSpec wsX4_pass (z_R 4 94)).room s m ([.ref a, .int v1] : List Value).toArray below meth c H locs 0 0 (MQ below (va_Qi (fun (z : Int32) (u : va_W) => z = RR.1 ∧ u = (z_wB X a d d2 RR.2)) (z_Bm X A) A) ([.ref a, .int v1] : List Value).toArray s 0 0 A) (F0 m 8 ls []) := by
    intro n
    induction n with
    | zero =>
      intro u1 u2 u3 B T H locs hP hD hS ls hl hf kk
      cases hf
    | succ n ih =>
      intro u1 u2 u3 B T H locs hP hD hS ls hl hf kk
      rw [f_X4_pass_L8] at hf
      refine lv_iload_n (pc := 8) hx hb dX4_pass_8 rfl (lv_at hl 3 rfl) ?_
      refine lv_iload_n (pc := 9) hx hb dX4_pass_9 rfl (lv_at hl 1 rfl) ?_
      refine lv_icmp_ge (pc := 10) (tgt := 29) hx hb dX4_pass_10 (by decide) (fun c_10 => ?_) (fun c_10 => ?_)
      · replace hf := z_ip c_10 hf
        obtain rfl := Option.some.inj hf
        exact kk H locs hP hD hS ls (lv_sub hl [2] rfl)
      · replace hf := z_in c_10 hf
        refine lv_iload_n (pc := 13) hx hb dX4_pass_13 rfl (lv_at hl 2 rfl) ?_
        refine lv_aload_n (pc := 14) hx hb dX4_pass_14 rfl (lv_at hl 0 rfl) ?_
        refine va_get (pc := 15) (ci := 4) (C := RX4) (T := TX4) (N := 2) hx hb hts in_X4 hown hK hP 0 rfl rfl 0 (by decide) lk_fi10 (fun _ h9 => h9) rfl dX4_pass_15 ?_
        obtain ⟨x18, e18, hf⟩ := z_bd hf
        refine z_cmI (pc := 18) (W1 := (z_wB X a d d2 (x18.2, B.2))) S (m_X0_letMinuteGoBy l X d B.1 e18) (cwV 0 hts gX4_pass_X0_letMinuteGoBy rfl rfl rfl hdX0_letMinuteGoBy ⟨Nat.le_of_ble_eq_true rfl, Nat.le_of_ble_eq_true rfl⟩) hP hK hN hD hS hA (s_B_H1 X a d d2 B) (f_B_H1 X a d d2 B x18.2) (ci := 0) rfl rfl rfl ⟨Nat.le_of_ble_eq_true rfl, Nat.le_of_ble_eq_true rfl⟩ rfl hl.1 rfl (Nat.le_of_ble_eq_true rfl) dX4_pass_18 (fun H locs hP hD hS => ?_)
        refine lv_iadd (pc := 21) hx hb dX4_pass_21 ?_
        refine lv_istore_n (pc := 22) (lv' := [(2, .int (u2 + x18.1)), (0, .ref a), (1, .int u1), (3, .int u3)]) hx hb dX4_pass_22 rfl hl (by decide) rfl (fun ls hl => ?_)
        refine lv_iinc (pc := 23) (v := (u3 + 1)) (lv' := [(3, .int (u3 + 1)), (2, .int (u2 + x18.1)), (0, .ref a), (1, .int u1)]) hx hb dX4_pass_23 hl (k := 3) rfl rfl (by decide) rfl (fun ls hl => ?_)
        refine lv_goto (pc := 26) (tgt := 8) hx hb dX4_pass_26 (by decide) ?_
        exact ih u1 (u2 + x18.1) (u3 + 1) (x18.2, B.2) T H locs hP hD hS ls (lv_sub hl [2, 3, 1, 0] rfl) hf kk
  suffices hgo : ∀ (H : Heap) (locs : List Loc), va_P X.1 vwCl (z_wB X a d d2 B) H → va_D A (z_wB X a d d2 B) → va_S A s.heap H locs → W p l e (headSpec wsX4_pass (z_R 4 94)).room s m ([.ref a, .int v1] : List Value).toArray below meth c H locs 0 0 (MQ below (va_Qi (fun (z : Int32) (u : va_W) => z = RR.1 ∧ u = (z_wB X a d d2 RR.2)) (z_Bm X A) A) ([.ref a, .int v1] : List Value).toArray s 0 0 A) (F0 m 0 ls []) from hgo _ _ hP hD hS
  clear hP hD hS
  intro H locs hP hD hS
  unfold f_X4_pass at hf
  refine lv_iload_n (pc := 0) hx hb dX4_pass_0 rfl (lv_at hl 1 rfl) ?_
  obtain ⟨x1, e1, hf⟩ := z_bd hf
  refine z_csV (pc := 1) S (m_X4_requireMinutes l X v1 e1) (va_cwS 1 hts gX4_pass_X4_requireMinutes rfl rfl rfl hdX4_requireMinutes ⟨Nat.le_of_ble_eq_true rfl, Nat.le_of_ble_eq_true rfl⟩) hP hK hN (s_nil _) ⟨Nat.le_of_ble_eq_true rfl, Nat.le_of_ble_eq_true rfl⟩ rfl hl.1 rfl (Nat.le_of_ble_eq_true rfl) dX4_pass_1 ?_
  refine lv_iconst (v := 0) (pc := 4) hx hb dX4_pass_4 (by decide) ?_
  refine lv_istore_n (pc := 5) (lv' := [(2, .int 0), (0, .ref a), (1, .int v1)]) hx hb dX4_pass_5 rfl hl (by decide) rfl (fun ls hl => ?_)
  refine lv_iconst (v := 0) (pc := 6) hx hb dX4_pass_6 (by decide) ?_
  refine lv_istore_n (pc := 7) (lv' := [(3, .int 0), (2, .int 0), (0, .ref a), (1, .int v1)]) hx hb dX4_pass_7 rfl hl (by decide) rfl (fun ls hl => ?_)
  obtain ⟨x8, e8, hf⟩ := z_bd hf
  refine lp_8 z_FU v1 0 0 B x8 H locs hP hD hS ls (lv_sub hl [2, 3, 1, 0] rfl) e8 (fun H locs hP hD hS ls hl => ?_)
  refine lv_iload_n (pc := 29) hx hb dX4_pass_29 rfl (lv_at hl 0 rfl) ?_
  exact W.iret (pc := 30) (v := x8.1) hx hb hr (fun t ht hW => ⟨⟨_, (z_wB X a d d2 x8.2), rfl, ⟨z_e1 hf, congrArg (fun z => (z_wB X a d d2 z)) (z_e2 hf)⟩, by rw [ht]; exact hP, hD⟩, hS.F ht⟩) hS.2.2 dX4_pass_30
def f_X4_minute (B : z_B) : Int32 := (B.1.1 0)
set_option maxHeartbeats 4000000 in
set_option maxRecDepth 100000 in
theorem m_X4_minute (l : Launch) (X : z_X) (a : Nat) (d d2 : Nat → Nat) (B : z_B) {RR : Int32} (hf : f_X4_minute B = RR) : z_pI l yX4_minute wsX4_minute 0 0 X [.ref a] (z_wB X a d d2 B) RR := by
  refine Met.ofW (cc := cX4_minute) (maxL := 1) (ret := (some .int)) (by decide) rfl ?_
  intro p e s m args below meth c s₁ Bd hml hv
  obtain ⟨rfl, hP, hK, hN⟩ := hv
  have hx := Bd.exec
  have hb := Bd.bytes
  have hr := Bd.returns
  have hts := atoms_spec (ws := wsX4_minute) Bd.pre
  have hown : s.vm.findClass RX4 = some m.cls := findClass_of_methodNamed Bd.named
  have hlocks := Bd.notSynchronized
  have S : CallFix p m c cX4_minute 1 s _ wsX4_minute RX4 := ⟨hx, hb, hml, hown, hts⟩
  have lk_fi10 := hts (.fieldLink RX4 10 "HouseBells" "house" "LHouseBells$House;") (List.mem_of_getElem? (i := 1) rfl)
  have in_X0 : ∀ w ∈ wsX00, w ∈ wsX4_minute := fun _ h => (List.mem_cons_of_mem _ (List.mem_append_right _ h))
  have in_X4 : ∀ w ∈ wsX40, w ∈ wsX4_minute := fun _ h => (List.mem_cons_of_mem _ (List.mem_append_left _ (List.mem_append_right _ h)))
  have hl := lv_entry ([.ref a]) (n := 1) (Nat.le_of_ble_eq_true rfl)
  rw [lg_entry_eq]
  generalize (lg_sl ([.ref a]) ++ List.replicate (1 - (lg_sl ([.ref a])).length) Slot.unset).toArray = ls at hl ⊢
  have hl : lv_has ls 1 [(0, .ref a)] := hl
  unfold f_X4_minute at hf
  refine lv_aload_n (pc := 0) hx hb dX4_minute_0 rfl (lv_at hl 0 rfl) ?_
  refine va_get (pc := 1) (ci := 4) (C := RX4) (T := TX4) (N := 2) hx hb hts in_X4 hown hK hP 0 rfl rfl 0 (by decide) lk_fi10 (fun _ h9 => h9) rfl dX4_minute_1 ?_
  refine va_getN (pc := 4) (ci := 0) (C := RX0) (T := TX0) (N := 15) hx hb hts in_X0 hown hK hP 1 rfl rfl 0 (by decide) (z_n12 hN) (fun _ h9 => h9) rfl dX4_minute_4 ?_
  exact W.iret (pc := 7) (v := (B.1.1 0)) hx hb hr (fun t ht hW => ⟨_, rfl, hf, ht⟩) (fun _ h => nomatch h) dX4_minute_7
def f_X4_rooms (B : z_B) : Int32 := (B.1.1 1)
set_option maxHeartbeats 4000000 in
set_option maxRecDepth 100000 in
theorem m_X4_rooms (l : Launch) (X : z_X) (a : Nat) (d d2 : Nat → Nat) (B : z_B) {RR : Int32} (hf : f_X4_rooms B = RR) : z_pI l yX4_rooms wsX4_rooms 0 0 X [.ref a] (z_wB X a d d2 B) RR := by
  refine Met.ofW (cc := cX4_rooms) (maxL := 1) (ret := (some .int)) (by decide) rfl ?_
  intro p e s m args below meth c s₁ Bd hml hv
  obtain ⟨rfl, hP, hK, hN⟩ := hv
  have hx := Bd.exec
  have hb := Bd.bytes
  have hr := Bd.returns
  have hts := atoms_spec (ws := wsX4_rooms) Bd.pre
  have hown : s.vm.findClass RX4 = some m.cls := findClass_of_methodNamed Bd.named
  have hlocks := Bd.notSynchronized
  have S : CallFix p m c cX4_rooms 1 s _ wsX4_rooms RX4 := ⟨hx, hb, hml, hown, hts⟩
  have lk_fi10 := hts (.fieldLink RX4 10 "HouseBells" "house" "LHouseBells$House;") (List.mem_of_getElem? (i := 1) rfl)
  have in_X0 : ∀ w ∈ wsX00, w ∈ wsX4_rooms := fun _ h => (List.mem_cons_of_mem _ (List.mem_append_right _ h))
  have in_X4 : ∀ w ∈ wsX40, w ∈ wsX4_rooms := fun _ h => (List.mem_cons_of_mem _ (List.mem_append_left _ (List.mem_append_right _ h)))
  have hl := lv_entry ([.ref a]) (n := 1) (Nat.le_of_ble_eq_true rfl)
  rw [lg_entry_eq]
  generalize (lg_sl ([.ref a]) ++ List.replicate (1 - (lg_sl ([.ref a])).length) Slot.unset).toArray = ls at hl ⊢
  have hl : lv_has ls 1 [(0, .ref a)] := hl
  unfold f_X4_rooms at hf
  refine lv_aload_n (pc := 0) hx hb dX4_rooms_0 rfl (lv_at hl 0 rfl) ?_
  refine va_get (pc := 1) (ci := 4) (C := RX4) (T := TX4) (N := 2) hx hb hts in_X4 hown hK hP 0 rfl rfl 0 (by decide) lk_fi10 (fun _ h9 => h9) rfl dX4_rooms_1 ?_
  refine va_getN (pc := 4) (ci := 0) (C := RX0) (T := TX0) (N := 15) hx hb hts in_X0 hown hK hP 1 rfl rfl 1 (by decide) (z_n13 hN) (fun _ h9 => h9) rfl dX4_rooms_4 ?_
  exact W.iret (pc := 7) (v := (B.1.1 1)) hx hb hr (fun t ht hW => ⟨_, rfl, hf, ht⟩) (fun _ h => nomatch h) dX4_rooms_7
def f_X4_servants (B : z_B) : Int32 := B.1.2.2.2.1
set_option maxHeartbeats 4000000 in
set_option maxRecDepth 100000 in
theorem m_X4_servants (l : Launch) (X : z_X) (a : Nat) (d d2 : Nat → Nat) (B : z_B) {RR : Int32} (hf : f_X4_servants B = RR) : z_pI l yX4_servants wsX4_servants 0 0 X [.ref a] (z_wB X a d d2 B) RR := by
  refine Met.ofW (cc := cX4_servants) (maxL := 1) (ret := (some .int)) (by decide) rfl ?_
  intro p e s m args below meth c s₁ Bd hml hv
  obtain ⟨rfl, hP, hK, hN⟩ := hv
  have hx := Bd.exec
  have hb := Bd.bytes
  have hr := Bd.returns
  have hts := atoms_spec (ws := wsX4_servants) Bd.pre
  have hown : s.vm.findClass RX4 = some m.cls := findClass_of_methodNamed Bd.named
  have hlocks := Bd.notSynchronized
  have S : CallFix p m c cX4_servants 1 s _ wsX4_servants RX4 := ⟨hx, hb, hml, hown, hts⟩
  have lk_fi10 := hts (.fieldLink RX4 10 "HouseBells" "house" "LHouseBells$House;") (List.mem_of_getElem? (i := 1) rfl)
  have in_X0 : ∀ w ∈ wsX00, w ∈ wsX4_servants := fun _ h => (List.mem_cons_of_mem _ (List.mem_append_left _ (List.mem_append_right _ h)))
  have in_X3 : ∀ w ∈ wsX30, w ∈ wsX4_servants := fun _ h => (List.mem_cons_of_mem _ (List.mem_append_right _ h))
  have in_X4 : ∀ w ∈ wsX40, w ∈ wsX4_servants := fun _ h => (List.mem_cons_of_mem _ (List.mem_append_left _ (List.mem_append_left _ (List.mem_append_right _ h))))
  have hl := lv_entry ([.ref a]) (n := 1) (Nat.le_of_ble_eq_true rfl)
  rw [lg_entry_eq]
  generalize (lg_sl ([.ref a]) ++ List.replicate (1 - (lg_sl ([.ref a])).length) Slot.unset).toArray = ls at hl ⊢
  have hl : lv_has ls 1 [(0, .ref a)] := hl
  unfold f_X4_servants at hf
  refine lv_aload_n (pc := 0) hx hb dX4_servants_0 rfl (lv_at hl 0 rfl) ?_
  refine va_get (pc := 1) (ci := 4) (C := RX4) (T := TX4) (N := 2) hx hb hts in_X4 hown hK hP 0 rfl rfl 0 (by decide) lk_fi10 (fun _ h9 => h9) rfl dX4_servants_1 ?_
  refine va_getN (pc := 4) (ci := 0) (C := RX0) (T := TX0) (N := 15) hx hb hts in_X0 hown hK hP 1 rfl rfl 14 (by decide) (z_n24 hN) (fun _ h9 => h9) rfl dX4_servants_4 ?_
  refine va_getN (pc := 7) (ci := 3) (C := RX3) (T := TX3) (N := 6) hx hb hts in_X3 hown hK hP 16 rfl rfl 0 (by decide) (z_n2 hN) (fun _ h9 => h9) rfl dX4_servants_7 ?_
  exact W.iret (pc := 10) (v := B.1.2.2.2.1) hx hb hr (fun t ht hW => ⟨_, rfl, hf, ht⟩) (fun _ h => nomatch h) dX4_servants_10
def f_X4_charge (B : z_B) : Int32 := (B.1.1 2)
set_option maxHeartbeats 4000000 in
set_option maxRecDepth 100000 in
theorem m_X4_charge (l : Launch) (X : z_X) (a : Nat) (d d2 : Nat → Nat) (B : z_B) {RR : Int32} (hf : f_X4_charge B = RR) : z_pI l yX4_charge wsX4_charge 0 0 X [.ref a] (z_wB X a d d2 B) RR := by
  refine Met.ofW (cc := cX4_charge) (maxL := 1) (ret := (some .int)) (by decide) rfl ?_
  intro p e s m args below meth c s₁ Bd hml hv
  obtain ⟨rfl, hP, hK, hN⟩ := hv
  have hx := Bd.exec
  have hb := Bd.bytes
  have hr := Bd.returns
  have hts := atoms_spec (ws := wsX4_charge) Bd.pre
  have hown : s.vm.findClass RX4 = some m.cls := findClass_of_methodNamed Bd.named
  have hlocks := Bd.notSynchronized
  have S : CallFix p m c cX4_charge 1 s _ wsX4_charge RX4 := ⟨hx, hb, hml, hown, hts⟩
  have lk_fi10 := hts (.fieldLink RX4 10 "HouseBells" "house" "LHouseBells$House;") (List.mem_of_getElem? (i := 1) rfl)
  have in_X0 : ∀ w ∈ wsX00, w ∈ wsX4_charge := fun _ h => (List.mem_cons_of_mem _ (List.mem_append_right _ h))
  have in_X4 : ∀ w ∈ wsX40, w ∈ wsX4_charge := fun _ h => (List.mem_cons_of_mem _ (List.mem_append_left _ (List.mem_append_right _ h)))
  have hl := lv_entry ([.ref a]) (n := 1) (Nat.le_of_ble_eq_true rfl)
  rw [lg_entry_eq]
  generalize (lg_sl ([.ref a]) ++ List.replicate (1 - (lg_sl ([.ref a])).length) Slot.unset).toArray = ls at hl ⊢
  have hl : lv_has ls 1 [(0, .ref a)] := hl
  unfold f_X4_charge at hf
  refine lv_aload_n (pc := 0) hx hb dX4_charge_0 rfl (lv_at hl 0 rfl) ?_
  refine va_get (pc := 1) (ci := 4) (C := RX4) (T := TX4) (N := 2) hx hb hts in_X4 hown hK hP 0 rfl rfl 0 (by decide) lk_fi10 (fun _ h9 => h9) rfl dX4_charge_1 ?_
  refine va_getN (pc := 4) (ci := 0) (C := RX0) (T := TX0) (N := 15) hx hb hts in_X0 hown hK hP 1 rfl rfl 2 (by decide) (z_n14 hN) (fun _ h9 => h9) rfl dX4_charge_4 ?_
  exact W.iret (pc := 7) (v := (B.1.1 2)) hx hb hr (fun t ht hW => ⟨_, rfl, hf, ht⟩) (fun _ h => nomatch h) dX4_charge_7
def f_X4_served (B : z_B) : Int32 := (B.1.1 3)
set_option maxHeartbeats 4000000 in
set_option maxRecDepth 100000 in
theorem m_X4_served (l : Launch) (X : z_X) (a : Nat) (d d2 : Nat → Nat) (B : z_B) {RR : Int32} (hf : f_X4_served B = RR) : z_pI l yX4_served wsX4_served 0 0 X [.ref a] (z_wB X a d d2 B) RR := by
  refine Met.ofW (cc := cX4_served) (maxL := 1) (ret := (some .int)) (by decide) rfl ?_
  intro p e s m args below meth c s₁ Bd hml hv
  obtain ⟨rfl, hP, hK, hN⟩ := hv
  have hx := Bd.exec
  have hb := Bd.bytes
  have hr := Bd.returns
  have hts := atoms_spec (ws := wsX4_served) Bd.pre
  have hown : s.vm.findClass RX4 = some m.cls := findClass_of_methodNamed Bd.named
  have hlocks := Bd.notSynchronized
  have S : CallFix p m c cX4_served 1 s _ wsX4_served RX4 := ⟨hx, hb, hml, hown, hts⟩
  have lk_fi10 := hts (.fieldLink RX4 10 "HouseBells" "house" "LHouseBells$House;") (List.mem_of_getElem? (i := 1) rfl)
  have in_X0 : ∀ w ∈ wsX00, w ∈ wsX4_served := fun _ h => (List.mem_cons_of_mem _ (List.mem_append_right _ h))
  have in_X4 : ∀ w ∈ wsX40, w ∈ wsX4_served := fun _ h => (List.mem_cons_of_mem _ (List.mem_append_left _ (List.mem_append_right _ h)))
  have hl := lv_entry ([.ref a]) (n := 1) (Nat.le_of_ble_eq_true rfl)
  rw [lg_entry_eq]
  generalize (lg_sl ([.ref a]) ++ List.replicate (1 - (lg_sl ([.ref a])).length) Slot.unset).toArray = ls at hl ⊢
  have hl : lv_has ls 1 [(0, .ref a)] := hl
  unfold f_X4_served at hf
  refine lv_aload_n (pc := 0) hx hb dX4_served_0 rfl (lv_at hl 0 rfl) ?_
  refine va_get (pc := 1) (ci := 4) (C := RX4) (T := TX4) (N := 2) hx hb hts in_X4 hown hK hP 0 rfl rfl 0 (by decide) lk_fi10 (fun _ h9 => h9) rfl dX4_served_1 ?_
  refine va_getN (pc := 4) (ci := 0) (C := RX0) (T := TX0) (N := 15) hx hb hts in_X0 hown hK hP 1 rfl rfl 3 (by decide) (z_n15 hN) (fun _ h9 => h9) rfl dX4_served_4 ?_
  exact W.iret (pc := 7) (v := (B.1.1 3)) hx hb hr (fun t ht hW => ⟨_, rfl, hf, ht⟩) (fun _ h => nomatch h) dX4_served_7
def f_X4_inVain (B : z_B) : Int32 := (B.1.1 4)
set_option maxHeartbeats 4000000 in
set_option maxRecDepth 100000 in
theorem m_X4_inVain (l : Launch) (X : z_X) (a : Nat) (d d2 : Nat → Nat) (B : z_B) {RR : Int32} (hf : f_X4_inVain B = RR) : z_pI l yX4_inVain wsX4_inVain 0 0 X [.ref a] (z_wB X a d d2 B) RR := by
  refine Met.ofW (cc := cX4_inVain) (maxL := 1) (ret := (some .int)) (by decide) rfl ?_
  intro p e s m args below meth c s₁ Bd hml hv
  obtain ⟨rfl, hP, hK, hN⟩ := hv
  have hx := Bd.exec
  have hb := Bd.bytes
  have hr := Bd.returns
  have hts := atoms_spec (ws := wsX4_inVain) Bd.pre
  have hown : s.vm.findClass RX4 = some m.cls := findClass_of_methodNamed Bd.named
  have hlocks := Bd.notSynchronized
  have S : CallFix p m c cX4_inVain 1 s _ wsX4_inVain RX4 := ⟨hx, hb, hml, hown, hts⟩
  have lk_fi10 := hts (.fieldLink RX4 10 "HouseBells" "house" "LHouseBells$House;") (List.mem_of_getElem? (i := 1) rfl)
  have in_X0 : ∀ w ∈ wsX00, w ∈ wsX4_inVain := fun _ h => (List.mem_cons_of_mem _ (List.mem_append_right _ h))
  have in_X4 : ∀ w ∈ wsX40, w ∈ wsX4_inVain := fun _ h => (List.mem_cons_of_mem _ (List.mem_append_left _ (List.mem_append_right _ h)))
  have hl := lv_entry ([.ref a]) (n := 1) (Nat.le_of_ble_eq_true rfl)
  rw [lg_entry_eq]
  generalize (lg_sl ([.ref a]) ++ List.replicate (1 - (lg_sl ([.ref a])).length) Slot.unset).toArray = ls at hl ⊢
  have hl : lv_has ls 1 [(0, .ref a)] := hl
  unfold f_X4_inVain at hf
  refine lv_aload_n (pc := 0) hx hb dX4_inVain_0 rfl (lv_at hl 0 rfl) ?_
  refine va_get (pc := 1) (ci := 4) (C := RX4) (T := TX4) (N := 2) hx hb hts in_X4 hown hK hP 0 rfl rfl 0 (by decide) lk_fi10 (fun _ h9 => h9) rfl dX4_inVain_1 ?_
  refine va_getN (pc := 4) (ci := 0) (C := RX0) (T := TX0) (N := 15) hx hb hts in_X0 hown hK hP 1 rfl rfl 4 (by decide) (z_n16 hN) (fun _ h9 => h9) rfl dX4_inVain_4 ?_
  exact W.iret (pc := 7) (v := (B.1.1 4)) hx hb hr (fun t ht hW => ⟨_, rfl, hf, ht⟩) (fun _ h => nomatch h) dX4_inVain_7
def f_X4_gaveUp (B : z_B) : Int32 := (B.1.1 5)
set_option maxHeartbeats 4000000 in
set_option maxRecDepth 100000 in
theorem m_X4_gaveUp (l : Launch) (X : z_X) (a : Nat) (d d2 : Nat → Nat) (B : z_B) {RR : Int32} (hf : f_X4_gaveUp B = RR) : z_pI l yX4_gaveUp wsX4_gaveUp 0 0 X [.ref a] (z_wB X a d d2 B) RR := by
  refine Met.ofW (cc := cX4_gaveUp) (maxL := 1) (ret := (some .int)) (by decide) rfl ?_
  intro p e s m args below meth c s₁ Bd hml hv
  obtain ⟨rfl, hP, hK, hN⟩ := hv
  have hx := Bd.exec
  have hb := Bd.bytes
  have hr := Bd.returns
  have hts := atoms_spec (ws := wsX4_gaveUp) Bd.pre
  have hown : s.vm.findClass RX4 = some m.cls := findClass_of_methodNamed Bd.named
  have hlocks := Bd.notSynchronized
  have S : CallFix p m c cX4_gaveUp 1 s _ wsX4_gaveUp RX4 := ⟨hx, hb, hml, hown, hts⟩
  have lk_fi10 := hts (.fieldLink RX4 10 "HouseBells" "house" "LHouseBells$House;") (List.mem_of_getElem? (i := 1) rfl)
  have in_X0 : ∀ w ∈ wsX00, w ∈ wsX4_gaveUp := fun _ h => (List.mem_cons_of_mem _ (List.mem_append_right _ h))
  have in_X4 : ∀ w ∈ wsX40, w ∈ wsX4_gaveUp := fun _ h => (List.mem_cons_of_mem _ (List.mem_append_left _ (List.mem_append_right _ h)))
  have hl := lv_entry ([.ref a]) (n := 1) (Nat.le_of_ble_eq_true rfl)
  rw [lg_entry_eq]
  generalize (lg_sl ([.ref a]) ++ List.replicate (1 - (lg_sl ([.ref a])).length) Slot.unset).toArray = ls at hl ⊢
  have hl : lv_has ls 1 [(0, .ref a)] := hl
  unfold f_X4_gaveUp at hf
  refine lv_aload_n (pc := 0) hx hb dX4_gaveUp_0 rfl (lv_at hl 0 rfl) ?_
  refine va_get (pc := 1) (ci := 4) (C := RX4) (T := TX4) (N := 2) hx hb hts in_X4 hown hK hP 0 rfl rfl 0 (by decide) lk_fi10 (fun _ h9 => h9) rfl dX4_gaveUp_1 ?_
  refine va_getN (pc := 4) (ci := 0) (C := RX0) (T := TX0) (N := 15) hx hb hts in_X0 hown hK hP 1 rfl rfl 5 (by decide) (z_n17 hN) (fun _ h9 => h9) rfl dX4_gaveUp_4 ?_
  exact W.iret (pc := 7) (v := (B.1.1 5)) hx hb hr (fun t ht hW => ⟨_, rfl, hf, ht⟩) (fun _ h => nomatch h) dX4_gaveUp_7
def f_X4_unheard (B : z_B) : Int32 := (B.1.1 6)
set_option maxHeartbeats 4000000 in
set_option maxRecDepth 100000 in
theorem m_X4_unheard (l : Launch) (X : z_X) (a : Nat) (d d2 : Nat → Nat) (B : z_B) {RR : Int32} (hf : f_X4_unheard B = RR) : z_pI l yX4_unheard wsX4_unheard 0 0 X [.ref a] (z_wB X a d d2 B) RR := by
  refine Met.ofW (cc := cX4_unheard) (maxL := 1) (ret := (some .int)) (by decide) rfl ?_
  intro p e s m args below meth c s₁ Bd hml hv
  obtain ⟨rfl, hP, hK, hN⟩ := hv
  have hx := Bd.exec
  have hb := Bd.bytes
  have hr := Bd.returns
  have hts := atoms_spec (ws := wsX4_unheard) Bd.pre
  have hown : s.vm.findClass RX4 = some m.cls := findClass_of_methodNamed Bd.named
  have hlocks := Bd.notSynchronized
  have S : CallFix p m c cX4_unheard 1 s _ wsX4_unheard RX4 := ⟨hx, hb, hml, hown, hts⟩
  have lk_fi10 := hts (.fieldLink RX4 10 "HouseBells" "house" "LHouseBells$House;") (List.mem_of_getElem? (i := 1) rfl)
  have in_X0 : ∀ w ∈ wsX00, w ∈ wsX4_unheard := fun _ h => (List.mem_cons_of_mem _ (List.mem_append_right _ h))
  have in_X4 : ∀ w ∈ wsX40, w ∈ wsX4_unheard := fun _ h => (List.mem_cons_of_mem _ (List.mem_append_left _ (List.mem_append_right _ h)))
  have hl := lv_entry ([.ref a]) (n := 1) (Nat.le_of_ble_eq_true rfl)
  rw [lg_entry_eq]
  generalize (lg_sl ([.ref a]) ++ List.replicate (1 - (lg_sl ([.ref a])).length) Slot.unset).toArray = ls at hl ⊢
  have hl : lv_has ls 1 [(0, .ref a)] := hl
  unfold f_X4_unheard at hf
  refine lv_aload_n (pc := 0) hx hb dX4_unheard_0 rfl (lv_at hl 0 rfl) ?_
  refine va_get (pc := 1) (ci := 4) (C := RX4) (T := TX4) (N := 2) hx hb hts in_X4 hown hK hP 0 rfl rfl 0 (by decide) lk_fi10 (fun _ h9 => h9) rfl dX4_unheard_1 ?_
  refine va_getN (pc := 4) (ci := 0) (C := RX0) (T := TX0) (N := 15) hx hb hts in_X0 hown hK hP 1 rfl rfl 6 (by decide) (z_n18 hN) (fun _ h9 => h9) rfl dX4_unheard_4 ?_
  exact W.iret (pc := 7) (v := (B.1.1 6)) hx hb hr (fun t ht hW => ⟨_, rfl, hf, ht⟩) (fun _ h => nomatch h) dX4_unheard_7
def f_X4_dropOf (B : z_B) (v1 : Int32) : Option Int32 := (f_X4_requireRoom B v1).bind (fun x2 => some (z_rg (B.1.2.1 3) v1))
set_option maxHeartbeats 4000000 in
set_option maxRecDepth 100000 in
theorem m_X4_dropOf (l : Launch) (X : z_X) (a : Nat) (d d2 : Nat → Nat) (B : z_B) (v1 : Int32) {RR : Int32} (hf : f_X4_dropOf B v1 = some RR) : z_pI l yX4_dropOf wsX4_dropOf 1 21 X [.ref a, .int v1] (z_wB X a d d2 B) RR := by
  refine Met.ofW (cc := cX4_dropOf) (maxL := 2) (ret := (some .int)) (by decide) rfl ?_
  intro p e s m args below meth c s₁ Bd hml hv
  obtain ⟨rfl, hP, hK, hN⟩ := hv
  have hx := Bd.exec
  have hb := Bd.bytes
  have hr := Bd.returns
  have hts := atoms_spec (ws := wsX4_dropOf) Bd.pre
  have hown : s.vm.findClass RX4 = some m.cls := findClass_of_methodNamed Bd.named
  have hlocks := Bd.notSynchronized
  have S : CallFix p m c cX4_dropOf 2 s _ wsX4_dropOf RX4 := ⟨hx, hb, hml, hown, hts⟩
  have lk_fi10 := hts (.fieldLink RX4 10 "HouseBells" "house" "LHouseBells$House;") (List.mem_of_getElem? (i := 1) rfl)
  have in_X0 : ∀ w ∈ wsX00, w ∈ wsX4_dropOf := fun _ h => (List.mem_cons_of_mem _ (List.mem_append_left _ (List.mem_append_left _ (List.mem_append_right _ h))))
  have in_X4 : ∀ w ∈ wsX40, w ∈ wsX4_dropOf := fun _ h => (List.mem_cons_of_mem _ (List.mem_append_left _ (List.mem_append_left _ (List.mem_append_left _ (List.mem_append_right _ h)))))
  have hl := lv_entry ([.ref a, .int v1]) (n := 2) (Nat.le_of_ble_eq_true rfl)
  rw [lg_entry_eq]
  generalize (lg_sl ([.ref a, .int v1]) ++ List.replicate (2 - (lg_sl ([.ref a, .int v1])).length) Slot.unset).toArray = ls at hl ⊢
  have hl : lv_has ls 2 [(0, .ref a), (1, .int v1)] := hl
  unfold f_X4_dropOf at hf
  refine lv_aload_n (pc := 0) hx hb dX4_dropOf_0 rfl (lv_at hl 0 rfl) ?_
  refine lv_iload_n (pc := 1) hx hb dX4_dropOf_1 rfl (lv_at hl 1 rfl) ?_
  obtain ⟨x2, e2, hf⟩ := z_bd hf
  refine z_cpV (pc := 2) S (m_X4_requireRoom l X a d d2 B v1 e2) (cwV 1 hts gX4_dropOf_X4_requireRoom rfl rfl rfl hdX4_requireRoom ⟨Nat.le_of_ble_eq_true rfl, Nat.le_of_ble_eq_true rfl⟩) hP hK hN (s_B_B X a d d2 B) (ci := 4) rfl rfl rfl ⟨Nat.le_of_ble_eq_true rfl, Nat.le_of_ble_eq_true rfl⟩ rfl hl.1 rfl (Nat.le_of_ble_eq_true rfl) dX4_dropOf_2 ?_
  refine lv_aload_n (pc := 5) hx hb dX4_dropOf_5 rfl (lv_at hl 0 rfl) ?_
  refine va_get (pc := 6) (ci := 4) (C := RX4) (T := TX4) (N := 2) hx hb hts in_X4 hown hK hP 0 rfl rfl 0 (by decide) lk_fi10 (fun _ h9 => h9) rfl dX4_dropOf_6 ?_
  refine va_getN (pc := 9) (ci := 0) (C := RX0) (T := TX0) (N := 15) hx hb hts in_X0 hown hK hP 1 rfl rfl 10 (by decide) (z_n20 hN) (fun _ h9 => h9) rfl dX4_dropOf_9 ?_
  refine lv_iload_n (pc := 12) hx hb dX4_dropOf_12 rfl (lv_at hl 1 rfl) ?_
  refine z_cpI (pc := 13) S (m_X2_get l X (d 7) (d 8) (B.1.2.1 3) v1) (cwV 1 hts gX4_dropOf_X2_get rfl rfl rfl hdX2_get ⟨Nat.le_of_ble_eq_true rfl, Nat.le_of_ble_eq_true rfl⟩) hP hK hN (s_B_R8 X a d d2 B) (ci := 2) rfl rfl rfl ⟨Nat.le_of_ble_eq_true rfl, Nat.le_of_ble_eq_true rfl⟩ rfl hl.1 rfl (Nat.le_of_ble_eq_true rfl) dX4_dropOf_13 ?_
  exact W.iret (pc := 16) (v := (z_rg (B.1.2.1 3) v1)) hx hb hr (fun t ht hW => ⟨_, rfl, (Option.some.inj hf), ht⟩) (fun _ h => nomatch h) dX4_dropOf_16
def f_X4_roomOf_L7 (B : z_B) : Nat → Int32 → Int32 → Option Int32
  | 0, _, _ => none
  | n + 1, u1, u2 => (if (B.1.1 1) ≤ u2 then some (-1) else (if (z_rg (B.1.2.1 3) u2) = u1 then some u2 else f_X4_roomOf_L7 B n u1 (u2 + 1)))
def f_X4_roomOf (B : z_B) (v1 : Int32) : Option Int32 := (f_X4_requireRoom B v1).bind (fun x2 => f_X4_roomOf_L7 B z_FU v1 0)
set_option maxHeartbeats 4000000 in
set_option maxRecDepth 100000 in
theorem m_X4_roomOf (l : Launch) (X : z_X) (a : Nat) (d d2 : Nat → Nat) (B : z_B) (v1 : Int32) {RR : Int32} (hf : f_X4_roomOf B v1 = some RR) : z_pI l yX4_roomOf wsX4_roomOf 1 21 X [.ref a, .int v1] (z_wB X a d d2 B) RR := by
  refine Met.ofW (cc := cX4_roomOf) (maxL := 3) (ret := (some .int)) (by decide) rfl ?_
  intro p e s m args below meth c s₁ Bd hml hv
  obtain ⟨rfl, hP, hK, hN⟩ := hv
  have hx := Bd.exec
  have hb := Bd.bytes
  have hr := Bd.returns
  have hts := atoms_spec (ws := wsX4_roomOf) Bd.pre
  have hown : s.vm.findClass RX4 = some m.cls := findClass_of_methodNamed Bd.named
  have hlocks := Bd.notSynchronized
  have S : CallFix p m c cX4_roomOf 3 s _ wsX4_roomOf RX4 := ⟨hx, hb, hml, hown, hts⟩
  have lk_fi10 := hts (.fieldLink RX4 10 "HouseBells" "house" "LHouseBells$House;") (List.mem_of_getElem? (i := 1) rfl)
  have in_X0 : ∀ w ∈ wsX00, w ∈ wsX4_roomOf := fun _ h => (List.mem_cons_of_mem _ (List.mem_append_left _ (List.mem_append_left _ (List.mem_append_right _ h))))
  have in_X4 : ∀ w ∈ wsX40, w ∈ wsX4_roomOf := fun _ h => (List.mem_cons_of_mem _ (List.mem_append_left _ (List.mem_append_left _ (List.mem_append_left _ (List.mem_append_right _ h)))))
  have hl := lv_entry ([.ref a, .int v1]) (n := 3) (Nat.le_of_ble_eq_true rfl)
  rw [lg_entry_eq]
  generalize (lg_sl ([.ref a, .int v1]) ++ List.replicate (3 - (lg_sl ([.ref a, .int v1])).length) Slot.unset).toArray = ls at hl ⊢
  have hl : lv_has ls 3 [(0, .ref a), (1, .int v1)] := hl
  have lp_7 : ∀ (n : Nat) (u1 : Int32) (u2 : Int32) (ls : Array Slot), lv_has ls 3 [(0, .ref a), (1, .int u1), (2, .int u2)] → f_X4_roomOf_L7 B n u1 u2 = some RR → W p l e (headSpec wsX4_roomOf (z_R 1 21)).room s m ([.ref a, .int v1] : List Value).toArray below meth c s.heap [] 0 0 (MQ below (vp_Si (fun z => z = RR)) ([.ref a, .int v1] : List Value).toArray s 0 0 (fun _ => False)) (F0 m 7 ls []) := by
    intro n
    induction n with
    | zero =>
      intro u1 u2 ls hl hf
      cases hf
    | succ n ih =>
      intro u1 u2 ls hl hf
      rw [f_X4_roomOf_L7] at hf
      refine lv_iload_n (pc := 7) hx hb dX4_roomOf_7 rfl (lv_at hl 2 rfl) ?_
      refine lv_aload_n (pc := 8) hx hb dX4_roomOf_8 rfl (lv_at hl 0 rfl) ?_
      refine va_get (pc := 9) (ci := 4) (C := RX4) (T := TX4) (N := 2) hx hb hts in_X4 hown hK hP 0 rfl rfl 0 (by decide) lk_fi10 (fun _ h9 => h9) rfl dX4_roomOf_9 ?_
      refine va_getN (pc := 12) (ci := 0) (C := RX0) (T := TX0) (N := 15) hx hb hts in_X0 hown hK hP 1 rfl rfl 1 (by decide) (z_n13 hN) (fun _ h9 => h9) rfl dX4_roomOf_12 ?_
      refine lv_icmp_ge (pc := 15) (tgt := 41) hx hb dX4_roomOf_15 (by decide) (fun c_15 => ?_) (fun c_15 => ?_)
      · replace hf := z_ip c_15 hf
        refine lv_iconst (v := (-1)) (pc := 41) hx hb dX4_roomOf_41 (by decide) ?_
        exact W.iret (pc := 42) (v := (-1)) hx hb hr (fun t ht hW => ⟨_, rfl, (Option.some.inj hf), ht⟩) (fun _ h => nomatch h) dX4_roomOf_42
      · replace hf := z_in c_15 hf
        refine lv_aload_n (pc := 18) hx hb dX4_roomOf_18 rfl (lv_at hl 0 rfl) ?_
        refine va_get (pc := 19) (ci := 4) (C := RX4) (T := TX4) (N := 2) hx hb hts in_X4 hown hK hP 0 rfl rfl 0 (by decide) lk_fi10 (fun _ h9 => h9) rfl dX4_roomOf_19 ?_
        refine va_getN (pc := 22) (ci := 0) (C := RX0) (T := TX0) (N := 15) hx hb hts in_X0 hown hK hP 1 rfl rfl 10 (by decide) (z_n20 hN) (fun _ h9 => h9) rfl dX4_roomOf_22 ?_
        refine lv_iload_n (pc := 25) hx hb dX4_roomOf_25 rfl (lv_at hl 2 rfl) ?_
        refine z_cpI (pc := 26) S (m_X2_get l X (d 7) (d 8) (B.1.2.1 3) u2) (cwV 1 hts gX4_roomOf_X2_get rfl rfl rfl hdX2_get ⟨Nat.le_of_ble_eq_true rfl, Nat.le_of_ble_eq_true rfl⟩) hP hK hN (s_B_R8 X a d d2 B) (ci := 2) rfl rfl rfl ⟨Nat.le_of_ble_eq_true rfl, Nat.le_of_ble_eq_true rfl⟩ rfl hl.1 rfl (Nat.le_of_ble_eq_true rfl) dX4_roomOf_26 ?_
        refine lv_iload_n (pc := 29) hx hb dX4_roomOf_29 rfl (lv_at hl 1 rfl) ?_
        refine lv_icmp_ne (pc := 30) (tgt := 35) hx hb dX4_roomOf_30 (by decide) (fun c_30 => ?_) (fun c_30 => ?_)
        · replace hf := z_in c_30 hf
          refine lv_iinc (pc := 35) (v := (u2 + 1)) (lv' := [(2, .int (u2 + 1)), (0, .ref a), (1, .int u1)]) hx hb dX4_roomOf_35 hl (k := 2) rfl rfl (by decide) rfl (fun ls hl => ?_)
          refine lv_goto (pc := 38) (tgt := 7) hx hb dX4_roomOf_38 (by decide) ?_
          exact ih u1 (u2 + 1) ls (lv_sub hl [1, 2, 0] rfl) hf
        · replace hf := z_ip c_30 hf
          refine lv_iload_n (pc := 33) hx hb dX4_roomOf_33 rfl (lv_at hl 2 rfl) ?_
          exact W.iret (pc := 34) (v := u2) hx hb hr (fun t ht hW => ⟨_, rfl, (Option.some.inj hf), ht⟩) (fun _ h => nomatch h) dX4_roomOf_34
  unfold f_X4_roomOf at hf
  refine lv_aload_n (pc := 0) hx hb dX4_roomOf_0 rfl (lv_at hl 0 rfl) ?_
  refine lv_iload_n (pc := 1) hx hb dX4_roomOf_1 rfl (lv_at hl 1 rfl) ?_
  obtain ⟨x2, e2, hf⟩ := z_bd hf
  refine z_cpV (pc := 2) S (m_X4_requireRoom l X a d d2 B v1 e2) (cwV 1 hts gX4_roomOf_X4_requireRoom rfl rfl rfl hdX4_requireRoom ⟨Nat.le_of_ble_eq_true rfl, Nat.le_of_ble_eq_true rfl⟩) hP hK hN (s_B_B X a d d2 B) (ci := 4) rfl rfl rfl ⟨Nat.le_of_ble_eq_true rfl, Nat.le_of_ble_eq_true rfl⟩ rfl hl.1 rfl (Nat.le_of_ble_eq_true rfl) dX4_roomOf_2 ?_
  refine lv_iconst (v := 0) (pc := 5) hx hb dX4_roomOf_5 (by decide) ?_
  refine lv_istore_n (pc := 6) (lv' := [(2, .int 0), (0, .ref a), (1, .int v1)]) hx hb dX4_roomOf_6 rfl hl (by decide) rfl (fun ls hl => ?_)
  exact lp_7 z_FU v1 0 ls (lv_sub hl [1, 2, 0] rfl) hf
def f_X4_isCut (B : z_B) (v1 : Int32) : Option Int32 := (f_X4_requireRoom B v1).bind (fun x2 => (z_bo (f_X0_isWireCut B.1 v1)).bind (fun x13 => some x13))
set_option maxHeartbeats 4000000 in
set_option maxRecDepth 100000 in
theorem m_X4_isCut (l : Launch) (X : z_X) (a : Nat) (d d2 : Nat → Nat) (B : z_B) (v1 : Int32) {RR : Int32} (hf : f_X4_isCut B v1 = some RR) : z_pI l yX4_isCut wsX4_isCut 2 42 X [.ref a, .int v1] (z_wB X a d d2 B) RR := by
  refine Met.ofW (cc := cX4_isCut) (maxL := 2) (ret := (some .boolean)) (by decide) rfl ?_
  intro p e s m args below meth c s₁ Bd hml hv
  obtain ⟨rfl, hP, hK, hN⟩ := hv
  have hx := Bd.exec
  have hb := Bd.bytes
  have hr := Bd.returns
  have hts := atoms_spec (ws := wsX4_isCut) Bd.pre
  have hown : s.vm.findClass RX4 = some m.cls := findClass_of_methodNamed Bd.named
  have hlocks := Bd.notSynchronized
  have S : CallFix p m c cX4_isCut 2 s _ wsX4_isCut RX4 := ⟨hx, hb, hml, hown, hts⟩
  have lk_fi10 := hts (.fieldLink RX4 10 "HouseBells" "house" "LHouseBells$House;") (List.mem_of_getElem? (i := 1) rfl)
  have in_X4 : ∀ w ∈ wsX40, w ∈ wsX4_isCut := fun _ h => (List.mem_cons_of_mem _ (List.mem_append_left _ (List.mem_append_left _ (List.mem_append_left _ (List.mem_append_right _ h)))))
  have hl := lv_entry ([.ref a, .int v1]) (n := 2) (Nat.le_of_ble_eq_true rfl)
  rw [lg_entry_eq]
  generalize (lg_sl ([.ref a, .int v1]) ++ List.replicate (2 - (lg_sl ([.ref a, .int v1])).length) Slot.unset).toArray = ls at hl ⊢
  have hl : lv_has ls 2 [(0, .ref a), (1, .int v1)] := hl
  unfold f_X4_isCut at hf
  refine lv_aload_n (pc := 0) hx hb dX4_isCut_0 rfl (lv_at hl 0 rfl) ?_
  refine lv_iload_n (pc := 1) hx hb dX4_isCut_1 rfl (lv_at hl 1 rfl) ?_
  obtain ⟨x2, e2, hf⟩ := z_bd hf
  refine z_cpV (pc := 2) S (m_X4_requireRoom l X a d d2 B v1 e2) (cwV 1 hts gX4_isCut_X4_requireRoom rfl rfl rfl hdX4_requireRoom ⟨Nat.le_of_ble_eq_true rfl, Nat.le_of_ble_eq_true rfl⟩) hP hK hN (s_B_B X a d d2 B) (ci := 4) rfl rfl rfl ⟨Nat.le_of_ble_eq_true rfl, Nat.le_of_ble_eq_true rfl⟩ rfl hl.1 rfl (Nat.le_of_ble_eq_true rfl) dX4_isCut_2 ?_
  refine lv_aload_n (pc := 5) hx hb dX4_isCut_5 rfl (lv_at hl 0 rfl) ?_
  refine va_get (pc := 6) (ci := 4) (C := RX4) (T := TX4) (N := 2) hx hb hts in_X4 hown hK hP 0 rfl rfl 0 (by decide) lk_fi10 (fun _ h9 => h9) rfl dX4_isCut_6 ?_
  refine lv_iload_n (pc := 9) hx hb dX4_isCut_9 rfl (lv_at hl 1 rfl) ?_
  refine z_cpI (pc := 10) S (m_X0_isWireCut l X d B.1 v1 rfl) (cwV 1 hts gX4_isCut_X0_isWireCut rfl rfl rfl hdX0_isWireCut ⟨Nat.le_of_ble_eq_true rfl, Nat.le_of_ble_eq_true rfl⟩) hP hK hN (s_B_H1 X a d d2 B) (ci := 0) rfl rfl rfl ⟨Nat.le_of_ble_eq_true rfl, Nat.le_of_ble_eq_true rfl⟩ rfl hl.1 rfl (Nat.le_of_ble_eq_true rfl) dX4_isCut_10 ?_
  obtain ⟨x13, e13, hf⟩ := z_bd hf
  obtain ⟨e_bo, h_bo⟩ := z_bo_s e13
  exact W.zret (pc := 13) (v := (f_X0_isWireCut B.1 v1)) hx hb hr h_bo (fun t ht hW => ⟨_, rfl, e_bo.trans (Option.some.inj hf), ht⟩) (fun _ h => nomatch h) dX4_isCut_13
def f_X4_waitedFor (B : z_B) (v1 : Int32) : Option Int32 := (f_X4_requireRoom B v1).bind (fun x2 => some (z_rg (B.1.2.1 5) v1))
set_option maxHeartbeats 4000000 in
set_option maxRecDepth 100000 in
theorem m_X4_waitedFor (l : Launch) (X : z_X) (a : Nat) (d d2 : Nat → Nat) (B : z_B) (v1 : Int32) {RR : Int32} (hf : f_X4_waitedFor B v1 = some RR) : z_pI l yX4_waitedFor wsX4_waitedFor 1 21 X [.ref a, .int v1] (z_wB X a d d2 B) RR := by
  refine Met.ofW (cc := cX4_waitedFor) (maxL := 2) (ret := (some .int)) (by decide) rfl ?_
  intro p e s m args below meth c s₁ Bd hml hv
  obtain ⟨rfl, hP, hK, hN⟩ := hv
  have hx := Bd.exec
  have hb := Bd.bytes
  have hr := Bd.returns
  have hts := atoms_spec (ws := wsX4_waitedFor) Bd.pre
  have hown : s.vm.findClass RX4 = some m.cls := findClass_of_methodNamed Bd.named
  have hlocks := Bd.notSynchronized
  have S : CallFix p m c cX4_waitedFor 2 s _ wsX4_waitedFor RX4 := ⟨hx, hb, hml, hown, hts⟩
  have lk_fi10 := hts (.fieldLink RX4 10 "HouseBells" "house" "LHouseBells$House;") (List.mem_of_getElem? (i := 1) rfl)
  have in_X0 : ∀ w ∈ wsX00, w ∈ wsX4_waitedFor := fun _ h => (List.mem_cons_of_mem _ (List.mem_append_left _ (List.mem_append_left _ (List.mem_append_right _ h))))
  have in_X4 : ∀ w ∈ wsX40, w ∈ wsX4_waitedFor := fun _ h => (List.mem_cons_of_mem _ (List.mem_append_left _ (List.mem_append_left _ (List.mem_append_left _ (List.mem_append_right _ h)))))
  have hl := lv_entry ([.ref a, .int v1]) (n := 2) (Nat.le_of_ble_eq_true rfl)
  rw [lg_entry_eq]
  generalize (lg_sl ([.ref a, .int v1]) ++ List.replicate (2 - (lg_sl ([.ref a, .int v1])).length) Slot.unset).toArray = ls at hl ⊢
  have hl : lv_has ls 2 [(0, .ref a), (1, .int v1)] := hl
  unfold f_X4_waitedFor at hf
  refine lv_aload_n (pc := 0) hx hb dX4_waitedFor_0 rfl (lv_at hl 0 rfl) ?_
  refine lv_iload_n (pc := 1) hx hb dX4_waitedFor_1 rfl (lv_at hl 1 rfl) ?_
  obtain ⟨x2, e2, hf⟩ := z_bd hf
  refine z_cpV (pc := 2) S (m_X4_requireRoom l X a d d2 B v1 e2) (cwV 1 hts gX4_waitedFor_X4_requireRoom rfl rfl rfl hdX4_requireRoom ⟨Nat.le_of_ble_eq_true rfl, Nat.le_of_ble_eq_true rfl⟩) hP hK hN (s_B_B X a d d2 B) (ci := 4) rfl rfl rfl ⟨Nat.le_of_ble_eq_true rfl, Nat.le_of_ble_eq_true rfl⟩ rfl hl.1 rfl (Nat.le_of_ble_eq_true rfl) dX4_waitedFor_2 ?_
  refine lv_aload_n (pc := 5) hx hb dX4_waitedFor_5 rfl (lv_at hl 0 rfl) ?_
  refine va_get (pc := 6) (ci := 4) (C := RX4) (T := TX4) (N := 2) hx hb hts in_X4 hown hK hP 0 rfl rfl 0 (by decide) lk_fi10 (fun _ h9 => h9) rfl dX4_waitedFor_6 ?_
  refine va_getN (pc := 9) (ci := 0) (C := RX0) (T := TX0) (N := 15) hx hb hts in_X0 hown hK hP 1 rfl rfl 12 (by decide) (z_n22 hN) (fun _ h9 => h9) rfl dX4_waitedFor_9 ?_
  refine lv_iload_n (pc := 12) hx hb dX4_waitedFor_12 rfl (lv_at hl 1 rfl) ?_
  refine z_cpI (pc := 13) S (m_X2_get l X (d 11) (d 12) (B.1.2.1 5) v1) (cwV 1 hts gX4_waitedFor_X2_get rfl rfl rfl hdX2_get ⟨Nat.le_of_ble_eq_true rfl, Nat.le_of_ble_eq_true rfl⟩) hP hK hN (s_B_R12 X a d d2 B) (ci := 2) rfl rfl rfl ⟨Nat.le_of_ble_eq_true rfl, Nat.le_of_ble_eq_true rfl⟩ rfl hl.1 rfl (Nat.le_of_ble_eq_true rfl) dX4_waitedFor_13 ?_
  exact W.iret (pc := 16) (v := (z_rg (B.1.2.1 5) v1)) hx hb hr (fun t ht hW => ⟨_, rfl, (Option.some.inj hf), ht⟩) (fun _ h => nomatch h) dX4_waitedFor_16
def f_X4_longestWaiting_L6 (B : z_B) : Nat → Int32 → Int32 → Int32 → Option Int32
  | 0, _, _, _ => none
  | n + 1, u1, u2, u3 => (if (B.1.1 1) ≤ u3 then some u1 else (if (z_rg (B.1.2.1 5) u3) ≤ u2 then f_X4_longestWaiting_L6 B n u1 u2 (u3 + 1) else f_X4_longestWaiting_L6 B n u3 (z_rg (B.1.2.1 5) u3) (u3 + 1)))
def f_X4_longestWaiting (B : z_B) : Option Int32 := (f_X4_longestWaiting_L6 B z_FU (-1) (-1) 0).bind (fun x6 => some x6)
set_option maxHeartbeats 4000000 in
set_option maxRecDepth 100000 in
theorem m_X4_longestWaiting (l : Launch) (X : z_X) (a : Nat) (d d2 : Nat → Nat) (B : z_B) {RR : Int32} (hf : f_X4_longestWaiting B = some RR) : z_pI l yX4_longestWaiting wsX4_longestWaiting 1 21 X [.ref a] (z_wB X a d d2 B) RR := by
  refine Met.ofW (cc := cX4_longestWaiting) (maxL := 4) (ret := (some .int)) (by decide) rfl ?_
  intro p e s m args below meth c s₁ Bd hml hv
  obtain ⟨rfl, hP, hK, hN⟩ := hv
  have hx := Bd.exec
  have hb := Bd.bytes
  have hr := Bd.returns
  have hts := atoms_spec (ws := wsX4_longestWaiting) Bd.pre
  have hown : s.vm.findClass RX4 = some m.cls := findClass_of_methodNamed Bd.named
  have hlocks := Bd.notSynchronized
  have S : CallFix p m c cX4_longestWaiting 4 s _ wsX4_longestWaiting RX4 := ⟨hx, hb, hml, hown, hts⟩
  have lk_fi10 := hts (.fieldLink RX4 10 "HouseBells" "house" "LHouseBells$House;") (List.mem_of_getElem? (i := 1) rfl)
  have in_X0 : ∀ w ∈ wsX00, w ∈ wsX4_longestWaiting := fun _ h => (List.mem_cons_of_mem _ (List.mem_append_left _ (List.mem_append_right _ h)))
  have in_X4 : ∀ w ∈ wsX40, w ∈ wsX4_longestWaiting := fun _ h => (List.mem_cons_of_mem _ (List.mem_append_left _ (List.mem_append_left _ (List.mem_append_right _ h))))
  have hl := lv_entry ([.ref a]) (n := 4) (Nat.le_of_ble_eq_true rfl)
  rw [lg_entry_eq]
  generalize (lg_sl ([.ref a]) ++ List.replicate (4 - (lg_sl ([.ref a])).length) Slot.unset).toArray = ls at hl ⊢
  have hl : lv_has ls 4 [(0, .ref a)] := hl
  have lp_6 : ∀ (n : Nat) (u1 : Int32) (u2 : Int32) (u3 : Int32) (T : Int32) (ls : Array Slot), lv_has ls 4 [(0, .ref a), (1, .int u1), (2, .int u2), (3, .int u3)] → f_X4_longestWaiting_L6 B n u1 u2 u3 = some T → (∀ (ls : Array Slot), lv_has ls 4 [(1, .int T)] → W p l e (headSpec wsX4_longestWaiting (z_R 1 21)).room s m ([.ref a] : List Value).toArray below meth c s.heap [] 0 0 (MQ below (vp_Si (fun z => z = RR)) ([.ref a] : List Value).toArray s 0 0 (fun _ => False)) (F0 m 52 ls [])) → W p l e (headSpec wsX4_longestWaiting (z_R 1 21)).room s m ([.ref a] : List Value).toArray below meth c s.heap [] 0 0 (MQ below (vp_Si (fun z => z = RR)) ([.ref a] : List Value).toArray s 0 0 (fun _ => False)) (F0 m 6 ls []) := by
    intro n
    induction n with
    | zero =>
      intro u1 u2 u3 T ls hl hf kk
      cases hf
    | succ n ih =>
      intro u1 u2 u3 T ls hl hf kk
      rw [f_X4_longestWaiting_L6] at hf
      refine lv_iload_n (pc := 6) hx hb dX4_longestWaiting_6 rfl (lv_at hl 3 rfl) ?_
      refine lv_aload_n (pc := 7) hx hb dX4_longestWaiting_7 rfl (lv_at hl 0 rfl) ?_
      refine va_get (pc := 8) (ci := 4) (C := RX4) (T := TX4) (N := 2) hx hb hts in_X4 hown hK hP 0 rfl rfl 0 (by decide) lk_fi10 (fun _ h9 => h9) rfl dX4_longestWaiting_8 ?_
      refine va_getN (pc := 11) (ci := 0) (C := RX0) (T := TX0) (N := 15) hx hb hts in_X0 hown hK hP 1 rfl rfl 1 (by decide) (z_n13 hN) (fun _ h9 => h9) rfl dX4_longestWaiting_11 ?_
      refine lv_icmp_ge (pc := 14) (tgt := 52) hx hb dX4_longestWaiting_14 (by decide) (fun c_14 => ?_) (fun c_14 => ?_)
      · replace hf := z_ip c_14 hf
        obtain rfl := Option.some.inj hf
        exact kk ls (lv_sub hl [1] rfl)
      · replace hf := z_in c_14 hf
        refine lv_aload_n (pc := 17) hx hb dX4_longestWaiting_17 rfl (lv_at hl 0 rfl) ?_
        refine va_get (pc := 18) (ci := 4) (C := RX4) (T := TX4) (N := 2) hx hb hts in_X4 hown hK hP 0 rfl rfl 0 (by decide) lk_fi10 (fun _ h9 => h9) rfl dX4_longestWaiting_18 ?_
        refine va_getN (pc := 21) (ci := 0) (C := RX0) (T := TX0) (N := 15) hx hb hts in_X0 hown hK hP 1 rfl rfl 12 (by decide) (z_n22 hN) (fun _ h9 => h9) rfl dX4_longestWaiting_21 ?_
        refine lv_iload_n (pc := 24) hx hb dX4_longestWaiting_24 rfl (lv_at hl 3 rfl) ?_
        refine z_cpI (pc := 25) S (m_X2_get l X (d 11) (d 12) (B.1.2.1 5) u3) (cwV 1 hts gX4_longestWaiting_X2_get rfl rfl rfl hdX2_get ⟨Nat.le_of_ble_eq_true rfl, Nat.le_of_ble_eq_true rfl⟩) hP hK hN (s_B_R12 X a d d2 B) (ci := 2) rfl rfl rfl ⟨Nat.le_of_ble_eq_true rfl, Nat.le_of_ble_eq_true rfl⟩ rfl hl.1 rfl (Nat.le_of_ble_eq_true rfl) dX4_longestWaiting_25 ?_
        refine lv_iload_n (pc := 28) hx hb dX4_longestWaiting_28 rfl (lv_at hl 2 rfl) ?_
        refine lv_icmp_le (pc := 29) (tgt := 46) hx hb dX4_longestWaiting_29 (by decide) (fun c_29 => ?_) (fun c_29 => ?_)
        · replace hf := z_ip c_29 hf
          refine lv_iinc (pc := 46) (v := (u3 + 1)) (lv' := [(3, .int (u3 + 1)), (0, .ref a), (1, .int u1), (2, .int u2)]) hx hb dX4_longestWaiting_46 hl (k := 3) rfl rfl (by decide) rfl (fun ls hl => ?_)
          refine lv_goto (pc := 49) (tgt := 6) hx hb dX4_longestWaiting_49 (by decide) ?_
          exact ih u1 u2 (u3 + 1) T ls (lv_sub hl [1, 2, 3, 0] rfl) hf kk
        · replace hf := z_in c_29 hf
          refine lv_aload_n (pc := 32) hx hb dX4_longestWaiting_32 rfl (lv_at hl 0 rfl) ?_
          refine va_get (pc := 33) (ci := 4) (C := RX4) (T := TX4) (N := 2) hx hb hts in_X4 hown hK hP 0 rfl rfl 0 (by decide) lk_fi10 (fun _ h9 => h9) rfl dX4_longestWaiting_33 ?_
          refine va_getN (pc := 36) (ci := 0) (C := RX0) (T := TX0) (N := 15) hx hb hts in_X0 hown hK hP 1 rfl rfl 12 (by decide) (z_n22 hN) (fun _ h9 => h9) rfl dX4_longestWaiting_36 ?_
          refine lv_iload_n (pc := 39) hx hb dX4_longestWaiting_39 rfl (lv_at hl 3 rfl) ?_
          refine z_cpI (pc := 40) S (m_X2_get l X (d 11) (d 12) (B.1.2.1 5) u3) (cwV 1 hts gX4_longestWaiting_X2_get rfl rfl rfl hdX2_get ⟨Nat.le_of_ble_eq_true rfl, Nat.le_of_ble_eq_true rfl⟩) hP hK hN (s_B_R12 X a d d2 B) (ci := 2) rfl rfl rfl ⟨Nat.le_of_ble_eq_true rfl, Nat.le_of_ble_eq_true rfl⟩ rfl hl.1 rfl (Nat.le_of_ble_eq_true rfl) dX4_longestWaiting_40 ?_
          refine lv_istore_n (pc := 43) (lv' := [(2, .int (z_rg (B.1.2.1 5) u3)), (0, .ref a), (1, .int u1), (3, .int u3)]) hx hb dX4_longestWaiting_43 rfl hl (by decide) rfl (fun ls hl => ?_)
          refine lv_iload_n (pc := 44) hx hb dX4_longestWaiting_44 rfl (lv_at hl 3 rfl) ?_
          refine lv_istore_n (pc := 45) (lv' := [(1, .int u3), (2, .int (z_rg (B.1.2.1 5) u3)), (0, .ref a), (3, .int u3)]) hx hb dX4_longestWaiting_45 rfl hl (by decide) rfl (fun ls hl => ?_)
          refine lv_iinc (pc := 46) (v := (u3 + 1)) (lv' := [(3, .int (u3 + 1)), (1, .int u3), (2, .int (z_rg (B.1.2.1 5) u3)), (0, .ref a)]) hx hb dX4_longestWaiting_46 hl (k := 3) rfl rfl (by decide) rfl (fun ls hl => ?_)
          refine lv_goto (pc := 49) (tgt := 6) hx hb dX4_longestWaiting_49 (by decide) ?_
          exact ih u3 (z_rg (B.1.2.1 5) u3) (u3 + 1) T ls (lv_sub hl [3, 1, 2, 0] rfl) hf kk
  unfold f_X4_longestWaiting at hf
  refine lv_iconst (v := (-1)) (pc := 0) hx hb dX4_longestWaiting_0 (by decide) ?_
  refine lv_istore_n (pc := 1) (lv' := [(1, .int (-1)), (0, .ref a)]) hx hb dX4_longestWaiting_1 rfl hl (by decide) rfl (fun ls hl => ?_)
  refine lv_iconst (v := (-1)) (pc := 2) hx hb dX4_longestWaiting_2 (by decide) ?_
  refine lv_istore_n (pc := 3) (lv' := [(2, .int (-1)), (1, .int (-1)), (0, .ref a)]) hx hb dX4_longestWaiting_3 rfl hl (by decide) rfl (fun ls hl => ?_)
  refine lv_iconst (v := 0) (pc := 4) hx hb dX4_longestWaiting_4 (by decide) ?_
  refine lv_istore_n (pc := 5) (lv' := [(3, .int 0), (2, .int (-1)), (1, .int (-1)), (0, .ref a)]) hx hb dX4_longestWaiting_5 rfl hl (by decide) rfl (fun ls hl => ?_)
  obtain ⟨x6, e6, hf⟩ := z_bd hf
  refine lp_6 z_FU (-1) (-1) 0 x6 ls (lv_sub hl [3, 2, 1, 0] rfl) e6 (fun ls hl => ?_)
  refine lv_iload_n (pc := 52) hx hb dX4_longestWaiting_52 rfl (lv_at hl 0 rfl) ?_
  exact W.iret (pc := 53) (v := x6) hx hb hr (fun t ht hW => ⟨_, rfl, (Option.some.inj hf), ht⟩) (fun _ h => nomatch h) dX4_longestWaiting_53
def f_X4_crossed_L4 (B : z_B) : Nat → Int32 → Int32 → Option Int32
  | 0, _, _ => none
  | n + 1, u1, u2 => (if (B.1.1 1) ≤ u2 then some u1 else (if (z_rg (B.1.2.1 3) u2) = u2 then f_X4_crossed_L4 B n u1 (u2 + 1) else f_X4_crossed_L4 B n (u1 + 1) (u2 + 1)))
def f_X4_crossed (B : z_B) : Option Int32 := (f_X4_crossed_L4 B z_FU 0 0).bind (fun x4 => some x4)
set_option maxHeartbeats 4000000 in
set_option maxRecDepth 100000 in
theorem m_X4_crossed (l : Launch) (X : z_X) (a : Nat) (d d2 : Nat → Nat) (B : z_B) {RR : Int32} (hf : f_X4_crossed B = some RR) : z_pI l yX4_crossed wsX4_crossed 1 21 X [.ref a] (z_wB X a d d2 B) RR := by
  refine Met.ofW (cc := cX4_crossed) (maxL := 3) (ret := (some .int)) (by decide) rfl ?_
  intro p e s m args below meth c s₁ Bd hml hv
  obtain ⟨rfl, hP, hK, hN⟩ := hv
  have hx := Bd.exec
  have hb := Bd.bytes
  have hr := Bd.returns
  have hts := atoms_spec (ws := wsX4_crossed) Bd.pre
  have hown : s.vm.findClass RX4 = some m.cls := findClass_of_methodNamed Bd.named
  have hlocks := Bd.notSynchronized
  have S : CallFix p m c cX4_crossed 3 s _ wsX4_crossed RX4 := ⟨hx, hb, hml, hown, hts⟩
  have lk_fi10 := hts (.fieldLink RX4 10 "HouseBells" "house" "LHouseBells$House;") (List.mem_of_getElem? (i := 1) rfl)
  have in_X0 : ∀ w ∈ wsX00, w ∈ wsX4_crossed := fun _ h => (List.mem_cons_of_mem _ (List.mem_append_left _ (List.mem_append_right _ h)))
  have in_X4 : ∀ w ∈ wsX40, w ∈ wsX4_crossed := fun _ h => (List.mem_cons_of_mem _ (List.mem_append_left _ (List.mem_append_left _ (List.mem_append_right _ h))))
  have hl := lv_entry ([.ref a]) (n := 3) (Nat.le_of_ble_eq_true rfl)
  rw [lg_entry_eq]
  generalize (lg_sl ([.ref a]) ++ List.replicate (3 - (lg_sl ([.ref a])).length) Slot.unset).toArray = ls at hl ⊢
  have hl : lv_has ls 3 [(0, .ref a)] := hl
  have lp_4 : ∀ (n : Nat) (u1 : Int32) (u2 : Int32) (T : Int32) (ls : Array Slot), lv_has ls 3 [(0, .ref a), (1, .int u1), (2, .int u2)] → f_X4_crossed_L4 B n u1 u2 = some T → (∀ (ls : Array Slot), lv_has ls 3 [(1, .int T)] → W p l e (headSpec wsX4_crossed (z_R 1 21)).room s m ([.ref a] : List Value).toArray below meth c s.heap [] 0 0 (MQ below (vp_Si (fun z => z = RR)) ([.ref a] : List Value).toArray s 0 0 (fun _ => False)) (F0 m 39 ls [])) → W p l e (headSpec wsX4_crossed (z_R 1 21)).room s m ([.ref a] : List Value).toArray below meth c s.heap [] 0 0 (MQ below (vp_Si (fun z => z = RR)) ([.ref a] : List Value).toArray s 0 0 (fun _ => False)) (F0 m 4 ls []) := by
    intro n
    induction n with
    | zero =>
      intro u1 u2 T ls hl hf kk
      cases hf
    | succ n ih =>
      intro u1 u2 T ls hl hf kk
      rw [f_X4_crossed_L4] at hf
      refine lv_iload_n (pc := 4) hx hb dX4_crossed_4 rfl (lv_at hl 2 rfl) ?_
      refine lv_aload_n (pc := 5) hx hb dX4_crossed_5 rfl (lv_at hl 0 rfl) ?_
      refine va_get (pc := 6) (ci := 4) (C := RX4) (T := TX4) (N := 2) hx hb hts in_X4 hown hK hP 0 rfl rfl 0 (by decide) lk_fi10 (fun _ h9 => h9) rfl dX4_crossed_6 ?_
      refine va_getN (pc := 9) (ci := 0) (C := RX0) (T := TX0) (N := 15) hx hb hts in_X0 hown hK hP 1 rfl rfl 1 (by decide) (z_n13 hN) (fun _ h9 => h9) rfl dX4_crossed_9 ?_
      refine lv_icmp_ge (pc := 12) (tgt := 39) hx hb dX4_crossed_12 (by decide) (fun c_12 => ?_) (fun c_12 => ?_)
      · replace hf := z_ip c_12 hf
        obtain rfl := Option.some.inj hf
        exact kk ls (lv_sub hl [1] rfl)
      · replace hf := z_in c_12 hf
        refine lv_aload_n (pc := 15) hx hb dX4_crossed_15 rfl (lv_at hl 0 rfl) ?_
        refine va_get (pc := 16) (ci := 4) (C := RX4) (T := TX4) (N := 2) hx hb hts in_X4 hown hK hP 0 rfl rfl 0 (by decide) lk_fi10 (fun _ h9 => h9) rfl dX4_crossed_16 ?_
        refine va_getN (pc := 19) (ci := 0) (C := RX0) (T := TX0) (N := 15) hx hb hts in_X0 hown hK hP 1 rfl rfl 10 (by decide) (z_n20 hN) (fun _ h9 => h9) rfl dX4_crossed_19 ?_
        refine lv_iload_n (pc := 22) hx hb dX4_crossed_22 rfl (lv_at hl 2 rfl) ?_
        refine z_cpI (pc := 23) S (m_X2_get l X (d 7) (d 8) (B.1.2.1 3) u2) (cwV 1 hts gX4_crossed_X2_get rfl rfl rfl hdX2_get ⟨Nat.le_of_ble_eq_true rfl, Nat.le_of_ble_eq_true rfl⟩) hP hK hN (s_B_R8 X a d d2 B) (ci := 2) rfl rfl rfl ⟨Nat.le_of_ble_eq_true rfl, Nat.le_of_ble_eq_true rfl⟩ rfl hl.1 rfl (Nat.le_of_ble_eq_true rfl) dX4_crossed_23 ?_
        refine lv_iload_n (pc := 26) hx hb dX4_crossed_26 rfl (lv_at hl 2 rfl) ?_
        refine lv_icmp_eq (pc := 27) (tgt := 33) hx hb dX4_crossed_27 (by decide) (fun c_27 => ?_) (fun c_27 => ?_)
        · replace hf := z_ip c_27 hf
          refine lv_iinc (pc := 33) (v := (u2 + 1)) (lv' := [(2, .int (u2 + 1)), (0, .ref a), (1, .int u1)]) hx hb dX4_crossed_33 hl (k := 2) rfl rfl (by decide) rfl (fun ls hl => ?_)
          refine lv_goto (pc := 36) (tgt := 4) hx hb dX4_crossed_36 (by decide) ?_
          exact ih u1 (u2 + 1) T ls (lv_sub hl [1, 2, 0] rfl) hf kk
        · replace hf := z_in c_27 hf
          refine lv_iinc (pc := 30) (v := (u1 + 1)) (lv' := [(1, .int (u1 + 1)), (0, .ref a), (2, .int u2)]) hx hb dX4_crossed_30 hl (k := 1) rfl rfl (by decide) rfl (fun ls hl => ?_)
          refine lv_iinc (pc := 33) (v := (u2 + 1)) (lv' := [(2, .int (u2 + 1)), (1, .int (u1 + 1)), (0, .ref a)]) hx hb dX4_crossed_33 hl (k := 2) rfl rfl (by decide) rfl (fun ls hl => ?_)
          refine lv_goto (pc := 36) (tgt := 4) hx hb dX4_crossed_36 (by decide) ?_
          exact ih (u1 + 1) (u2 + 1) T ls (lv_sub hl [2, 1, 0] rfl) hf kk
  unfold f_X4_crossed at hf
  refine lv_iconst (v := 0) (pc := 0) hx hb dX4_crossed_0 (by decide) ?_
  refine lv_istore_n (pc := 1) (lv' := [(1, .int 0), (0, .ref a)]) hx hb dX4_crossed_1 rfl hl (by decide) rfl (fun ls hl => ?_)
  refine lv_iconst (v := 0) (pc := 2) hx hb dX4_crossed_2 (by decide) ?_
  refine lv_istore_n (pc := 3) (lv' := [(2, .int 0), (1, .int 0), (0, .ref a)]) hx hb dX4_crossed_3 rfl hl (by decide) rfl (fun ls hl => ?_)
  obtain ⟨x4, e4, hf⟩ := z_bd hf
  refine lp_4 z_FU 0 0 x4 ls (lv_sub hl [2, 1, 0] rfl) e4 (fun ls hl => ?_)
  refine lv_iload_n (pc := 39) hx hb dX4_crossed_39 rfl (lv_at hl 0 rfl) ?_
  exact W.iret (pc := 40) (v := x4) hx hb hr (fun t ht hW => ⟨_, rfl, (Option.some.inj hf), ht⟩) (fun _ h => nomatch h) dX4_crossed_40
def f_X4_crossingsNeeded_L4 (B : z_B) : Nat → Int32 → Int32 → Option Int32
  | 0, _, _ => none
  | n + 1, u1, u2 => (if (B.1.1 1) ≤ u2 then some u1 else (f_X0_isFirstOfItsCircle B.1 u2).bind (fun x20 => (if x20 = 0 then f_X4_crossingsNeeded_L4 B n (u1 + 1) (u2 + 1) else f_X4_crossingsNeeded_L4 B n u1 (u2 + 1))))
def f_X4_crossingsNeeded (B : z_B) : Option Int32 := (f_X4_crossingsNeeded_L4 B z_FU 0 0).bind (fun x4 => some x4)
set_option maxHeartbeats 4000000 in
set_option maxRecDepth 100000 in
theorem m_X4_crossingsNeeded (l : Launch) (X : z_X) (a : Nat) (d d2 : Nat → Nat) (B : z_B) {RR : Int32} (hf : f_X4_crossingsNeeded B = some RR) : z_pI l yX4_crossingsNeeded wsX4_crossingsNeeded 2 44 X [.ref a] (z_wB X a d d2 B) RR := by
  refine Met.ofW (cc := cX4_crossingsNeeded) (maxL := 3) (ret := (some .int)) (by decide) rfl ?_
  intro p e s m args below meth c s₁ Bd hml hv
  obtain ⟨rfl, hP, hK, hN⟩ := hv
  have hx := Bd.exec
  have hb := Bd.bytes
  have hr := Bd.returns
  have hts := atoms_spec (ws := wsX4_crossingsNeeded) Bd.pre
  have hown : s.vm.findClass RX4 = some m.cls := findClass_of_methodNamed Bd.named
  have hlocks := Bd.notSynchronized
  have S : CallFix p m c cX4_crossingsNeeded 3 s _ wsX4_crossingsNeeded RX4 := ⟨hx, hb, hml, hown, hts⟩
  have lk_fi10 := hts (.fieldLink RX4 10 "HouseBells" "house" "LHouseBells$House;") (List.mem_of_getElem? (i := 1) rfl)
  have in_X0 : ∀ w ∈ wsX00, w ∈ wsX4_crossingsNeeded := fun _ h => (List.mem_cons_of_mem _ (List.mem_append_left _ (List.mem_append_right _ h)))
  have in_X4 : ∀ w ∈ wsX40, w ∈ wsX4_crossingsNeeded := fun _ h => (List.mem_cons_of_mem _ (List.mem_append_left _ (List.mem_append_left _ (List.mem_append_right _ h))))
  have hl := lv_entry ([.ref a]) (n := 3) (Nat.le_of_ble_eq_true rfl)
  rw [lg_entry_eq]
  generalize (lg_sl ([.ref a]) ++ List.replicate (3 - (lg_sl ([.ref a])).length) Slot.unset).toArray = ls at hl ⊢
  have hl : lv_has ls 3 [(0, .ref a)] := hl
  have lp_4 : ∀ (n : Nat) (u1 : Int32) (u2 : Int32) (T : Int32) (ls : Array Slot), lv_has ls 3 [(0, .ref a), (1, .int u1), (2, .int u2)] → f_X4_crossingsNeeded_L4 B n u1 u2 = some T → (∀ (ls : Array Slot), lv_has ls 3 [(1, .int T)] → W p l e (headSpec wsX4_crossingsNeeded (z_R 2 44)).room s m ([.ref a] : List Value).toArray below meth c s.heap [] 0 0 (MQ below (vp_Si (fun z => z = RR)) ([.ref a] : List Value).toArray s 0 0 (fun _ => False)) (F0 m 35 ls [])) → W p l e (headSpec wsX4_crossingsNeeded (z_R 2 44)).room s m ([.ref a] : List Value).toArray below meth c s.heap [] 0 0 (MQ below (vp_Si (fun z => z = RR)) ([.ref a] : List Value).toArray s 0 0 (fun _ => False)) (F0 m 4 ls []) := by
    intro n
    induction n with
    | zero =>
      intro u1 u2 T ls hl hf kk
      cases hf
    | succ n ih =>
      intro u1 u2 T ls hl hf kk
      rw [f_X4_crossingsNeeded_L4] at hf
      refine lv_iload_n (pc := 4) hx hb dX4_crossingsNeeded_4 rfl (lv_at hl 2 rfl) ?_
      refine lv_aload_n (pc := 5) hx hb dX4_crossingsNeeded_5 rfl (lv_at hl 0 rfl) ?_
      refine va_get (pc := 6) (ci := 4) (C := RX4) (T := TX4) (N := 2) hx hb hts in_X4 hown hK hP 0 rfl rfl 0 (by decide) lk_fi10 (fun _ h9 => h9) rfl dX4_crossingsNeeded_6 ?_
      refine va_getN (pc := 9) (ci := 0) (C := RX0) (T := TX0) (N := 15) hx hb hts in_X0 hown hK hP 1 rfl rfl 1 (by decide) (z_n13 hN) (fun _ h9 => h9) rfl dX4_crossingsNeeded_9 ?_
      refine lv_icmp_ge (pc := 12) (tgt := 35) hx hb dX4_crossingsNeeded_12 (by decide) (fun c_12 => ?_) (fun c_12 => ?_)
      · replace hf := z_ip c_12 hf
        obtain rfl := Option.some.inj hf
        exact kk ls (lv_sub hl [1] rfl)
      · replace hf := z_in c_12 hf
        refine lv_aload_n (pc := 15) hx hb dX4_crossingsNeeded_15 rfl (lv_at hl 0 rfl) ?_
        refine va_get (pc := 16) (ci := 4) (C := RX4) (T := TX4) (N := 2) hx hb hts in_X4 hown hK hP 0 rfl rfl 0 (by decide) lk_fi10 (fun _ h9 => h9) rfl dX4_crossingsNeeded_16 ?_
        refine lv_iload_n (pc := 19) hx hb dX4_crossingsNeeded_19 rfl (lv_at hl 2 rfl) ?_
        obtain ⟨x20, e20, hf⟩ := z_bd hf
        refine z_cpI (pc := 20) S (m_X0_isFirstOfItsCircle l X d B.1 u2 e20) (cwV 1 hts gX4_crossingsNeeded_X0_isFirstOfItsCircle rfl rfl rfl hdX0_isFirstOfItsCircle ⟨Nat.le_of_ble_eq_true rfl, Nat.le_of_ble_eq_true rfl⟩) hP hK hN (s_B_H1 X a d d2 B) (ci := 0) rfl rfl rfl ⟨Nat.le_of_ble_eq_true rfl, Nat.le_of_ble_eq_true rfl⟩ rfl hl.1 rfl (Nat.le_of_ble_eq_true rfl) dX4_crossingsNeeded_20 ?_
        refine lv_if_ne (pc := 23) (tgt := 29) hx hb dX4_crossingsNeeded_23 (by decide) (fun c_23 => ?_) (fun c_23 => ?_)
        · replace hf := z_in c_23 hf
          refine lv_iinc (pc := 29) (v := (u2 + 1)) (lv' := [(2, .int (u2 + 1)), (0, .ref a), (1, .int u1)]) hx hb dX4_crossingsNeeded_29 hl (k := 2) rfl rfl (by decide) rfl (fun ls hl => ?_)
          refine lv_goto (pc := 32) (tgt := 4) hx hb dX4_crossingsNeeded_32 (by decide) ?_
          exact ih u1 (u2 + 1) T ls (lv_sub hl [1, 2, 0] rfl) hf kk
        · replace hf := z_ip c_23 hf
          refine lv_iinc (pc := 26) (v := (u1 + 1)) (lv' := [(1, .int (u1 + 1)), (0, .ref a), (2, .int u2)]) hx hb dX4_crossingsNeeded_26 hl (k := 1) rfl rfl (by decide) rfl (fun ls hl => ?_)
          refine lv_iinc (pc := 29) (v := (u2 + 1)) (lv' := [(2, .int (u2 + 1)), (1, .int (u1 + 1)), (0, .ref a)]) hx hb dX4_crossingsNeeded_29 hl (k := 2) rfl rfl (by decide) rfl (fun ls hl => ?_)
          refine lv_goto (pc := 32) (tgt := 4) hx hb dX4_crossingsNeeded_32 (by decide) ?_
          exact ih (u1 + 1) (u2 + 1) T ls (lv_sub hl [2, 1, 0] rfl) hf kk
  unfold f_X4_crossingsNeeded at hf
  refine lv_iconst (v := 0) (pc := 0) hx hb dX4_crossingsNeeded_0 (by decide) ?_
  refine lv_istore_n (pc := 1) (lv' := [(1, .int 0), (0, .ref a)]) hx hb dX4_crossingsNeeded_1 rfl hl (by decide) rfl (fun ls hl => ?_)
  refine lv_iconst (v := 0) (pc := 2) hx hb dX4_crossingsNeeded_2 (by decide) ?_
  refine lv_istore_n (pc := 3) (lv' := [(2, .int 0), (1, .int 0), (0, .ref a)]) hx hb dX4_crossingsNeeded_3 rfl hl (by decide) rfl (fun ls hl => ?_)
  obtain ⟨x4, e4, hf⟩ := z_bd hf
  refine lp_4 z_FU 0 0 x4 ls (lv_sub hl [2, 1, 0] rfl) e4 (fun ls hl => ?_)
  refine lv_iload_n (pc := 35) hx hb dX4_crossingsNeeded_35 rfl (lv_at hl 0 rfl) ?_
  exact W.iret (pc := 36) (v := x4) hx hb hr (fun t ht hW => ⟨_, rfl, (Option.some.inj hf), ht⟩) (fun _ h => nomatch h) dX4_crossingsNeeded_36
def f_X4_fallen (B : z_B) : Int32 := B.1.2.2.1.1
set_option maxHeartbeats 4000000 in
set_option maxRecDepth 100000 in
theorem m_X4_fallen (l : Launch) (X : z_X) (a : Nat) (d d2 : Nat → Nat) (B : z_B) {RR : Int32} (hf : f_X4_fallen B = RR) : z_pI l yX4_fallen wsX4_fallen 0 0 X [.ref a] (z_wB X a d d2 B) RR := by
  refine Met.ofW (cc := cX4_fallen) (maxL := 1) (ret := (some .int)) (by decide) rfl ?_
  intro p e s m args below meth c s₁ Bd hml hv
  obtain ⟨rfl, hP, hK, hN⟩ := hv
  have hx := Bd.exec
  have hb := Bd.bytes
  have hr := Bd.returns
  have hts := atoms_spec (ws := wsX4_fallen) Bd.pre
  have hown : s.vm.findClass RX4 = some m.cls := findClass_of_methodNamed Bd.named
  have hlocks := Bd.notSynchronized
  have S : CallFix p m c cX4_fallen 1 s _ wsX4_fallen RX4 := ⟨hx, hb, hml, hown, hts⟩
  have lk_fi10 := hts (.fieldLink RX4 10 "HouseBells" "house" "LHouseBells$House;") (List.mem_of_getElem? (i := 1) rfl)
  have in_X0 : ∀ w ∈ wsX00, w ∈ wsX4_fallen := fun _ h => (List.mem_cons_of_mem _ (List.mem_append_left _ (List.mem_append_right _ h)))
  have in_X1 : ∀ w ∈ wsX10, w ∈ wsX4_fallen := fun _ h => (List.mem_cons_of_mem _ (List.mem_append_right _ h))
  have in_X4 : ∀ w ∈ wsX40, w ∈ wsX4_fallen := fun _ h => (List.mem_cons_of_mem _ (List.mem_append_left _ (List.mem_append_left _ (List.mem_append_right _ h))))
  have hl := lv_entry ([.ref a]) (n := 1) (Nat.le_of_ble_eq_true rfl)
  rw [lg_entry_eq]
  generalize (lg_sl ([.ref a]) ++ List.replicate (1 - (lg_sl ([.ref a])).length) Slot.unset).toArray = ls at hl ⊢
  have hl : lv_has ls 1 [(0, .ref a)] := hl
  unfold f_X4_fallen at hf
  refine lv_aload_n (pc := 0) hx hb dX4_fallen_0 rfl (lv_at hl 0 rfl) ?_
  refine va_get (pc := 1) (ci := 4) (C := RX4) (T := TX4) (N := 2) hx hb hts in_X4 hown hK hP 0 rfl rfl 0 (by decide) lk_fi10 (fun _ h9 => h9) rfl dX4_fallen_1 ?_
  refine va_getN (pc := 4) (ci := 0) (C := RX0) (T := TX0) (N := 15) hx hb hts in_X0 hown hK hP 1 rfl rfl 13 (by decide) (z_n23 hN) (fun _ h9 => h9) rfl dX4_fallen_4 ?_
  refine va_getN (pc := 7) (ci := 1) (C := RX1) (T := TX1) (N := 2) hx hb hts in_X1 hown hK hP 14 rfl rfl 0 (by decide) (z_n0 hN) (fun _ h9 => h9) rfl dX4_fallen_7 ?_
  exact W.iret (pc := 10) (v := B.1.2.2.1.1) hx hb hr (fun t ht hW => ⟨_, rfl, hf, ht⟩) (fun _ h => nomatch h) dX4_fallen_10
def f_X4_hasFallen (B : z_B) (v1 : Int32) : Option Int32 := (f_X4_requireRoom B v1).bind (fun x2 => (f_X1_placeOf B.1.2.2.1 v1).bind (fun x13 => (if x13 = (-1) then some 0 else some 1)))
set_option maxHeartbeats 4000000 in
set_option maxRecDepth 100000 in
theorem m_X4_hasFallen (l : Launch) (X : z_X) (a : Nat) (d d2 : Nat → Nat) (B : z_B) (v1 : Int32) {RR : Int32} (hf : f_X4_hasFallen B v1 = some RR) : z_pI l yX4_hasFallen wsX4_hasFallen 1 22 X [.ref a, .int v1] (z_wB X a d d2 B) RR := by
  refine Met.ofW (cc := cX4_hasFallen) (maxL := 2) (ret := (some .boolean)) (by decide) rfl ?_
  intro p e s m args below meth c s₁ Bd hml hv
  obtain ⟨rfl, hP, hK, hN⟩ := hv
  have hx := Bd.exec
  have hb := Bd.bytes
  have hr := Bd.returns
  have hts := atoms_spec (ws := wsX4_hasFallen) Bd.pre
  have hown : s.vm.findClass RX4 = some m.cls := findClass_of_methodNamed Bd.named
  have hlocks := Bd.notSynchronized
  have S : CallFix p m c cX4_hasFallen 2 s _ wsX4_hasFallen RX4 := ⟨hx, hb, hml, hown, hts⟩
  have lk_fi10 := hts (.fieldLink RX4 10 "HouseBells" "house" "LHouseBells$House;") (List.mem_of_getElem? (i := 1) rfl)
  have in_X0 : ∀ w ∈ wsX00, w ∈ wsX4_hasFallen := fun _ h => (List.mem_cons_of_mem _ (List.mem_append_left _ (List.mem_append_left _ (List.mem_append_right _ h))))
  have in_X4 : ∀ w ∈ wsX40, w ∈ wsX4_hasFallen := fun _ h => (List.mem_cons_of_mem _ (List.mem_append_left _ (List.mem_append_left _ (List.mem_append_left _ (List.mem_append_right _ h)))))
  have hl := lv_entry ([.ref a, .int v1]) (n := 2) (Nat.le_of_ble_eq_true rfl)
  rw [lg_entry_eq]
  generalize (lg_sl ([.ref a, .int v1]) ++ List.replicate (2 - (lg_sl ([.ref a, .int v1])).length) Slot.unset).toArray = ls at hl ⊢
  have hl : lv_has ls 2 [(0, .ref a), (1, .int v1)] := hl
  unfold f_X4_hasFallen at hf
  refine lv_aload_n (pc := 0) hx hb dX4_hasFallen_0 rfl (lv_at hl 0 rfl) ?_
  refine lv_iload_n (pc := 1) hx hb dX4_hasFallen_1 rfl (lv_at hl 1 rfl) ?_
  obtain ⟨x2, e2, hf⟩ := z_bd hf
  refine z_cpV (pc := 2) S (m_X4_requireRoom l X a d d2 B v1 e2) (cwV 1 hts gX4_hasFallen_X4_requireRoom rfl rfl rfl hdX4_requireRoom ⟨Nat.le_of_ble_eq_true rfl, Nat.le_of_ble_eq_true rfl⟩) hP hK hN (s_B_B X a d d2 B) (ci := 4) rfl rfl rfl ⟨Nat.le_of_ble_eq_true rfl, Nat.le_of_ble_eq_true rfl⟩ rfl hl.1 rfl (Nat.le_of_ble_eq_true rfl) dX4_hasFallen_2 ?_
  refine lv_aload_n (pc := 5) hx hb dX4_hasFallen_5 rfl (lv_at hl 0 rfl) ?_
  refine va_get (pc := 6) (ci := 4) (C := RX4) (T := TX4) (N := 2) hx hb hts in_X4 hown hK hP 0 rfl rfl 0 (by decide) lk_fi10 (fun _ h9 => h9) rfl dX4_hasFallen_6 ?_
  refine va_getN (pc := 9) (ci := 0) (C := RX0) (T := TX0) (N := 15) hx hb hts in_X0 hown hK hP 1 rfl rfl 13 (by decide) (z_n23 hN) (fun _ h9 => h9) rfl dX4_hasFallen_9 ?_
  refine lv_iload_n (pc := 12) hx hb dX4_hasFallen_12 rfl (lv_at hl 1 rfl) ?_
  obtain ⟨x13, e13, hf⟩ := z_bd hf
  refine z_cpI (pc := 13) S (m_X1_placeOf l X d B.1.2.2.1 v1 e13) (cwV 1 hts gX4_hasFallen_X1_placeOf rfl rfl rfl hdX1_placeOf ⟨Nat.le_of_ble_eq_true rfl, Nat.le_of_ble_eq_true rfl⟩) hP hK hN (s_B_L14 X a d d2 B) (ci := 1) rfl rfl rfl ⟨Nat.le_of_ble_eq_true rfl, Nat.le_of_ble_eq_true rfl⟩ rfl hl.1 rfl (Nat.le_of_ble_eq_true rfl) dX4_hasFallen_13 ?_
  refine lv_iconst (v := (-1)) (pc := 16) hx hb dX4_hasFallen_16 (by decide) ?_
  refine lv_icmp_eq (pc := 17) (tgt := 24) hx hb dX4_hasFallen_17 (by decide) (fun c_17 => ?_) (fun c_17 => ?_)
  · replace hf := z_ip c_17 hf
    refine lv_iconst (v := 0) (pc := 24) hx hb dX4_hasFallen_24 (by decide) ?_
    exact W.zret (pc := 25) (v := 0) hx hb hr rfl (fun t ht hW => ⟨_, rfl, (Option.some.inj hf), ht⟩) (fun _ h => nomatch h) dX4_hasFallen_25
  · replace hf := z_in c_17 hf
    refine lv_iconst (v := 1) (pc := 20) hx hb dX4_hasFallen_20 (by decide) ?_
    refine lv_goto (pc := 21) (tgt := 25) hx hb dX4_hasFallen_21 (by decide) ?_
    exact W.zret (pc := 25) (v := 1) hx hb hr rfl (fun t ht hW => ⟨_, rfl, (Option.some.inj hf), ht⟩) (fun _ h => nomatch h) dX4_hasFallen_25
def f_X4_placeInLine (B : z_B) (v1 : Int32) : Option Int32 := (f_X4_requireRoom B v1).bind (fun x2 => (f_X1_placeOf B.1.2.2.1 v1).bind (fun x13 => some x13))
set_option maxHeartbeats 4000000 in
set_option maxRecDepth 100000 in
theorem m_X4_placeInLine (l : Launch) (X : z_X) (a : Nat) (d d2 : Nat → Nat) (B : z_B) (v1 : Int32) {RR : Int32} (hf : f_X4_placeInLine B v1 = some RR) : z_pI l yX4_placeInLine wsX4_placeInLine 1 22 X [.ref a, .int v1] (z_wB X a d d2 B) RR := by
  refine Met.ofW (cc := cX4_placeInLine) (maxL := 2) (ret := (some .int)) (by decide) rfl ?_
  intro p e s m args below meth c s₁ Bd hml hv
  obtain ⟨rfl, hP, hK, hN⟩ := hv
  have hx := Bd.exec
  have hb := Bd.bytes
  have hr := Bd.returns
  have hts := atoms_spec (ws := wsX4_placeInLine) Bd.pre
  have hown : s.vm.findClass RX4 = some m.cls := findClass_of_methodNamed Bd.named
  have hlocks := Bd.notSynchronized
  have S : CallFix p m c cX4_placeInLine 2 s _ wsX4_placeInLine RX4 := ⟨hx, hb, hml, hown, hts⟩
  have lk_fi10 := hts (.fieldLink RX4 10 "HouseBells" "house" "LHouseBells$House;") (List.mem_of_getElem? (i := 1) rfl)
  have in_X0 : ∀ w ∈ wsX00, w ∈ wsX4_placeInLine := fun _ h => (List.mem_cons_of_mem _ (List.mem_append_left _ (List.mem_append_left _ (List.mem_append_right _ h))))
  have in_X4 : ∀ w ∈ wsX40, w ∈ wsX4_placeInLine := fun _ h => (List.mem_cons_of_mem _ (List.mem_append_left _ (List.mem_append_left _ (List.mem_append_left _ (List.mem_append_right _ h)))))
  have hl := lv_entry ([.ref a, .int v1]) (n := 2) (Nat.le_of_ble_eq_true rfl)
  rw [lg_entry_eq]
  generalize (lg_sl ([.ref a, .int v1]) ++ List.replicate (2 - (lg_sl ([.ref a, .int v1])).length) Slot.unset).toArray = ls at hl ⊢
  have hl : lv_has ls 2 [(0, .ref a), (1, .int v1)] := hl
  unfold f_X4_placeInLine at hf
  refine lv_aload_n (pc := 0) hx hb dX4_placeInLine_0 rfl (lv_at hl 0 rfl) ?_
  refine lv_iload_n (pc := 1) hx hb dX4_placeInLine_1 rfl (lv_at hl 1 rfl) ?_
  obtain ⟨x2, e2, hf⟩ := z_bd hf
  refine z_cpV (pc := 2) S (m_X4_requireRoom l X a d d2 B v1 e2) (cwV 1 hts gX4_placeInLine_X4_requireRoom rfl rfl rfl hdX4_requireRoom ⟨Nat.le_of_ble_eq_true rfl, Nat.le_of_ble_eq_true rfl⟩) hP hK hN (s_B_B X a d d2 B) (ci := 4) rfl rfl rfl ⟨Nat.le_of_ble_eq_true rfl, Nat.le_of_ble_eq_true rfl⟩ rfl hl.1 rfl (Nat.le_of_ble_eq_true rfl) dX4_placeInLine_2 ?_
  refine lv_aload_n (pc := 5) hx hb dX4_placeInLine_5 rfl (lv_at hl 0 rfl) ?_
  refine va_get (pc := 6) (ci := 4) (C := RX4) (T := TX4) (N := 2) hx hb hts in_X4 hown hK hP 0 rfl rfl 0 (by decide) lk_fi10 (fun _ h9 => h9) rfl dX4_placeInLine_6 ?_
  refine va_getN (pc := 9) (ci := 0) (C := RX0) (T := TX0) (N := 15) hx hb hts in_X0 hown hK hP 1 rfl rfl 13 (by decide) (z_n23 hN) (fun _ h9 => h9) rfl dX4_placeInLine_9 ?_
  refine lv_iload_n (pc := 12) hx hb dX4_placeInLine_12 rfl (lv_at hl 1 rfl) ?_
  obtain ⟨x13, e13, hf⟩ := z_bd hf
  refine z_cpI (pc := 13) S (m_X1_placeOf l X d B.1.2.2.1 v1 e13) (cwV 1 hts gX4_placeInLine_X1_placeOf rfl rfl rfl hdX1_placeOf ⟨Nat.le_of_ble_eq_true rfl, Nat.le_of_ble_eq_true rfl⟩) hP hK hN (s_B_L14 X a d d2 B) (ci := 1) rfl rfl rfl ⟨Nat.le_of_ble_eq_true rfl, Nat.le_of_ble_eq_true rfl⟩ rfl hl.1 rfl (Nat.le_of_ble_eq_true rfl) dX4_placeInLine_13 ?_
  exact W.iret (pc := 16) (v := x13) hx hb hr (fun t ht hW => ⟨_, rfl, (Option.some.inj hf), ht⟩) (fun _ h => nomatch h) dX4_placeInLine_16
def f_X4_nextDrop (B : z_B) : Option Int32 := (f_X1_first B.1.2.2.1).bind (fun x7 => some x7)
set_option maxHeartbeats 4000000 in
set_option maxRecDepth 100000 in
theorem m_X4_nextDrop (l : Launch) (X : z_X) (a : Nat) (d d2 : Nat → Nat) (B : z_B) {RR : Int32} (hf : f_X4_nextDrop B = some RR) : z_pI l yX4_nextDrop wsX4_nextDrop 1 20 X [.ref a] (z_wB X a d d2 B) RR := by
  refine Met.ofW (cc := cX4_nextDrop) (maxL := 1) (ret := (some .int)) (by decide) rfl ?_
  intro p e s m args below meth c s₁ Bd hml hv
  obtain ⟨rfl, hP, hK, hN⟩ := hv
  have hx := Bd.exec
  have hb := Bd.bytes
  have hr := Bd.returns
  have hts := atoms_spec (ws := wsX4_nextDrop) Bd.pre
  have hown : s.vm.findClass RX4 = some m.cls := findClass_of_methodNamed Bd.named
  have hlocks := Bd.notSynchronized
  have S : CallFix p m c cX4_nextDrop 1 s _ wsX4_nextDrop RX4 := ⟨hx, hb, hml, hown, hts⟩
  have lk_fi10 := hts (.fieldLink RX4 10 "HouseBells" "house" "LHouseBells$House;") (List.mem_of_getElem? (i := 1) rfl)
  have in_X0 : ∀ w ∈ wsX00, w ∈ wsX4_nextDrop := fun _ h => (List.mem_cons_of_mem _ (List.mem_append_left _ (List.mem_append_right _ h)))
  have in_X4 : ∀ w ∈ wsX40, w ∈ wsX4_nextDrop := fun _ h => (List.mem_cons_of_mem _ (List.mem_append_left _ (List.mem_append_left _ (List.mem_append_right _ h))))
  have hl := lv_entry ([.ref a]) (n := 1) (Nat.le_of_ble_eq_true rfl)
  rw [lg_entry_eq]
  generalize (lg_sl ([.ref a]) ++ List.replicate (1 - (lg_sl ([.ref a])).length) Slot.unset).toArray = ls at hl ⊢
  have hl : lv_has ls 1 [(0, .ref a)] := hl
  unfold f_X4_nextDrop at hf
  refine lv_aload_n (pc := 0) hx hb dX4_nextDrop_0 rfl (lv_at hl 0 rfl) ?_
  refine va_get (pc := 1) (ci := 4) (C := RX4) (T := TX4) (N := 2) hx hb hts in_X4 hown hK hP 0 rfl rfl 0 (by decide) lk_fi10 (fun _ h9 => h9) rfl dX4_nextDrop_1 ?_
  refine va_getN (pc := 4) (ci := 0) (C := RX0) (T := TX0) (N := 15) hx hb hts in_X0 hown hK hP 1 rfl rfl 13 (by decide) (z_n23 hN) (fun _ h9 => h9) rfl dX4_nextDrop_4 ?_
  obtain ⟨x7, e7, hf⟩ := z_bd hf
  refine z_cpI (pc := 7) S (m_X1_first l X d B.1.2.2.1 e7) (cwV 0 hts gX4_nextDrop_X1_first rfl rfl rfl hdX1_first ⟨Nat.le_of_ble_eq_true rfl, Nat.le_of_ble_eq_true rfl⟩) hP hK hN (s_B_L14 X a d d2 B) (ci := 1) rfl rfl rfl ⟨Nat.le_of_ble_eq_true rfl, Nat.le_of_ble_eq_true rfl⟩ rfl hl.1 rfl (Nat.le_of_ble_eq_true rfl) dX4_nextDrop_7 ?_
  exact W.iret (pc := 10) (v := x7) hx hb hr (fun t ht hW => ⟨_, rfl, (Option.some.inj hf), ht⟩) (fun _ h => nomatch h) dX4_nextDrop_10
def f_X4_quotient (v0 : Int32) (v1 : Int32) : Option Int32 := (if 1 ≤ v1 then (z_dv v0 v1).bind (fun x11 => some x11) else some 0)
set_option maxHeartbeats 4000000 in
set_option maxRecDepth 100000 in
theorem m_X4_quotient (l : Launch) (X : z_X) (v0 : Int32) (v1 : Int32) {RR : Int32} (hf : f_X4_quotient v0 v1 = some RR) : z_pI l yX4_quotient wsX4_quotient 0 0 X [.int v0, .int v1] ([] : va_W) RR := by
  refine Met.ofW (cc := cX4_quotient) (maxL := 2) (ret := (some .int)) (by decide) rfl ?_
  intro p e s m args below meth c s₁ Bd hml hv
  obtain ⟨rfl, hP, hK, hN⟩ := hv
  have hx := Bd.exec
  have hb := Bd.bytes
  have hr := Bd.returns
  have hts := atoms_spec (ws := wsX4_quotient) Bd.pre
  have hown : s.vm.findClass RX4 = some m.cls := findClass_of_methodNamed Bd.named
  have hlocks := Bd.notSynchronized
  have S : CallFix p m c cX4_quotient 2 s _ wsX4_quotient RX4 := ⟨hx, hb, hml, hown, hts⟩
  have hl := lv_entry ([.int v0, .int v1]) (n := 2) (Nat.le_of_ble_eq_true rfl)
  rw [lg_entry_eq]
  generalize (lg_sl ([.int v0, .int v1]) ++ List.replicate (2 - (lg_sl ([.int v0, .int v1])).length) Slot.unset).toArray = ls at hl ⊢
  have hl : lv_has ls 2 [(0, .int v0), (1, .int v1)] := hl
  unfold f_X4_quotient at hf
  refine lv_iload_n (pc := 0) hx hb dX4_quotient_0 rfl (lv_at hl 1 rfl) ?_
  refine lv_iconst (v := 1) (pc := 1) hx hb dX4_quotient_1 (by decide) ?_
  refine lv_icmp_ge (pc := 2) (tgt := 9) hx hb dX4_quotient_2 (by decide) (fun c_2 => ?_) (fun c_2 => ?_)
  · replace hf := z_ip c_2 hf
    refine lv_iload_n (pc := 9) hx hb dX4_quotient_9 rfl (lv_at hl 0 rfl) ?_
    refine lv_iload_n (pc := 10) hx hb dX4_quotient_10 rfl (lv_at hl 1 rfl) ?_
    obtain ⟨x11, e11, hf⟩ := z_bd hf
    refine z_idiv (pc := 11) hx hb e11 dX4_quotient_11 ?_
    exact W.iret (pc := 12) (v := x11) hx hb hr (fun t ht hW => ⟨_, rfl, (Option.some.inj hf), ht⟩) (fun _ h => nomatch h) dX4_quotient_12
  · replace hf := z_in c_2 hf
    refine lv_iconst (v := 0) (pc := 5) hx hb dX4_quotient_5 (by decide) ?_
    refine lv_goto (pc := 6) (tgt := 12) hx hb dX4_quotient_6 (by decide) ?_
    exact W.iret (pc := 12) (v := 0) hx hb hr (fun t ht hW => ⟨_, rfl, (Option.some.inj hf), ht⟩) (fun _ h => nomatch h) dX4_quotient_12
def f_X4_ringsLeft (B : z_B) (v1 : Int32) : Option Int32 := (f_X4_requireRoom B v1).bind (fun x2 => (if (f_X0_isWireCut B.1 v1) = 0 then (f_X4_quotient (B.1.1 2) (f_X0_costFrom (z_rg (B.1.2.1 0) v1))).bind (fun x41 => some x41) else some 0))
set_option maxHeartbeats 4000000 in
set_option maxRecDepth 100000 in
theorem m_X4_ringsLeft (l : Launch) (X : z_X) (a : Nat) (d d2 : Nat → Nat) (B : z_B) (v1 : Int32) {RR : Int32} (hf : f_X4_ringsLeft B v1 = some RR) : z_pI l yX4_ringsLeft wsX4_ringsLeft 2 42 X [.ref a, .int v1] (z_wB X a d d2 B) RR := by
  refine Met.ofW (cc := cX4_ringsLeft) (maxL := 2) (ret := (some .int)) (by decide) rfl ?_
  intro p e s m args below meth c s₁ Bd hml hv
  obtain ⟨rfl, hP, hK, hN⟩ := hv
  have hx := Bd.exec
  have hb := Bd.bytes
  have hr := Bd.returns
  have hts := atoms_spec (ws := wsX4_ringsLeft) Bd.pre
  have hown : s.vm.findClass RX4 = some m.cls := findClass_of_methodNamed Bd.named
  have hlocks := Bd.notSynchronized
  have S : CallFix p m c cX4_ringsLeft 2 s _ wsX4_ringsLeft RX4 := ⟨hx, hb, hml, hown, hts⟩
  have lk_fi10 := hts (.fieldLink RX4 10 "HouseBells" "house" "LHouseBells$House;") (List.mem_of_getElem? (i := 1) rfl)
  have in_X0 : ∀ w ∈ wsX00, w ∈ wsX4_ringsLeft := fun _ h => (List.mem_cons_of_mem _ (List.mem_append_left _ (List.mem_append_left _ (List.mem_append_right _ h))))
  have in_X4 : ∀ w ∈ wsX40, w ∈ wsX4_ringsLeft := fun _ h => (List.mem_cons_of_mem _ (List.mem_append_left _ (List.mem_append_left _ (List.mem_append_left _ (List.mem_append_right _ h)))))
  have hl := lv_entry ([.ref a, .int v1]) (n := 2) (Nat.le_of_ble_eq_true rfl)
  rw [lg_entry_eq]
  generalize (lg_sl ([.ref a, .int v1]) ++ List.replicate (2 - (lg_sl ([.ref a, .int v1])).length) Slot.unset).toArray = ls at hl ⊢
  have hl : lv_has ls 2 [(0, .ref a), (1, .int v1)] := hl
  unfold f_X4_ringsLeft at hf
  refine lv_aload_n (pc := 0) hx hb dX4_ringsLeft_0 rfl (lv_at hl 0 rfl) ?_
  refine lv_iload_n (pc := 1) hx hb dX4_ringsLeft_1 rfl (lv_at hl 1 rfl) ?_
  obtain ⟨x2, e2, hf⟩ := z_bd hf
  refine z_cpV (pc := 2) S (m_X4_requireRoom l X a d d2 B v1 e2) (cwV 1 hts gX4_ringsLeft_X4_requireRoom rfl rfl rfl hdX4_requireRoom ⟨Nat.le_of_ble_eq_true rfl, Nat.le_of_ble_eq_true rfl⟩) hP hK hN (s_B_B X a d d2 B) (ci := 4) rfl rfl rfl ⟨Nat.le_of_ble_eq_true rfl, Nat.le_of_ble_eq_true rfl⟩ rfl hl.1 rfl (Nat.le_of_ble_eq_true rfl) dX4_ringsLeft_2 ?_
  refine lv_aload_n (pc := 5) hx hb dX4_ringsLeft_5 rfl (lv_at hl 0 rfl) ?_
  refine va_get (pc := 6) (ci := 4) (C := RX4) (T := TX4) (N := 2) hx hb hts in_X4 hown hK hP 0 rfl rfl 0 (by decide) lk_fi10 (fun _ h9 => h9) rfl dX4_ringsLeft_6 ?_
  refine lv_iload_n (pc := 9) hx hb dX4_ringsLeft_9 rfl (lv_at hl 1 rfl) ?_
  refine z_cpI (pc := 10) S (m_X0_isWireCut l X d B.1 v1 rfl) (cwV 1 hts gX4_ringsLeft_X0_isWireCut rfl rfl rfl hdX0_isWireCut ⟨Nat.le_of_ble_eq_true rfl, Nat.le_of_ble_eq_true rfl⟩) hP hK hN (s_B_H1 X a d d2 B) (ci := 0) rfl rfl rfl ⟨Nat.le_of_ble_eq_true rfl, Nat.le_of_ble_eq_true rfl⟩ rfl hl.1 rfl (Nat.le_of_ble_eq_true rfl) dX4_ringsLeft_10 ?_
  refine lv_if_eq (pc := 13) (tgt := 20) hx hb dX4_ringsLeft_13 (by decide) (fun c_13 => ?_) (fun c_13 => ?_)
  · replace hf := z_ip c_13 hf
    refine lv_aload_n (pc := 20) hx hb dX4_ringsLeft_20 rfl (lv_at hl 0 rfl) ?_
    refine va_get (pc := 21) (ci := 4) (C := RX4) (T := TX4) (N := 2) hx hb hts in_X4 hown hK hP 0 rfl rfl 0 (by decide) lk_fi10 (fun _ h9 => h9) rfl dX4_ringsLeft_21 ?_
    refine va_getN (pc := 24) (ci := 0) (C := RX0) (T := TX0) (N := 15) hx hb hts in_X0 hown hK hP 1 rfl rfl 2 (by decide) (z_n14 hN) (fun _ h9 => h9) rfl dX4_ringsLeft_24 ?_
    refine lv_aload_n (pc := 27) hx hb dX4_ringsLeft_27 rfl (lv_at hl 0 rfl) ?_
    refine va_get (pc := 28) (ci := 4) (C := RX4) (T := TX4) (N := 2) hx hb hts in_X4 hown hK hP 0 rfl rfl 0 (by decide) lk_fi10 (fun _ h9 => h9) rfl dX4_ringsLeft_28 ?_
    refine va_getN (pc := 31) (ci := 0) (C := RX0) (T := TX0) (N := 15) hx hb hts in_X0 hown hK hP 1 rfl rfl 7 (by decide) (z_n19 hN) (fun _ h9 => h9) rfl dX4_ringsLeft_31 ?_
    refine lv_iload_n (pc := 34) hx hb dX4_ringsLeft_34 rfl (lv_at hl 1 rfl) ?_
    refine z_cpI (pc := 35) S (m_X2_get l X (d 1) (d 2) (B.1.2.1 0) v1) (cwV 1 hts gX4_ringsLeft_X2_get rfl rfl rfl hdX2_get ⟨Nat.le_of_ble_eq_true rfl, Nat.le_of_ble_eq_true rfl⟩) hP hK hN (s_B_R2 X a d d2 B) (ci := 2) rfl rfl rfl ⟨Nat.le_of_ble_eq_true rfl, Nat.le_of_ble_eq_true rfl⟩ rfl hl.1 rfl (Nat.le_of_ble_eq_true rfl) dX4_ringsLeft_35 ?_
    refine z_csI (pc := 38) S (m_X0_costFrom l X (z_rg (B.1.2.1 0) v1) rfl) (va_cwS 1 hts gX4_ringsLeft_X0_costFrom rfl rfl rfl hdX0_costFrom ⟨Nat.le_of_ble_eq_true rfl, Nat.le_of_ble_eq_true rfl⟩) hP hK hN (s_nil _) ⟨Nat.le_of_ble_eq_true rfl, Nat.le_of_ble_eq_true rfl⟩ rfl hl.1 rfl (Nat.le_of_ble_eq_true rfl) dX4_ringsLeft_38 ?_
    obtain ⟨x41, e41, hf⟩ := z_bd hf
    refine z_csI (pc := 41) S (m_X4_quotient l X (B.1.1 2) (f_X0_costFrom (z_rg (B.1.2.1 0) v1)) e41) (va_cwS 2 hts gX4_ringsLeft_X4_quotient rfl rfl rfl hdX4_quotient ⟨Nat.le_of_ble_eq_true rfl, Nat.le_of_ble_eq_true rfl⟩) hP hK hN (s_nil _) ⟨Nat.le_of_ble_eq_true rfl, Nat.le_of_ble_eq_true rfl⟩ rfl hl.1 rfl (Nat.le_of_ble_eq_true rfl) dX4_ringsLeft_41 ?_
    exact W.iret (pc := 44) (v := x41) hx hb hr (fun t ht hW => ⟨_, rfl, (Option.some.inj hf), ht⟩) (fun _ h => nomatch h) dX4_ringsLeft_44
  · replace hf := z_in c_13 hf
    refine lv_iconst (v := 0) (pc := 16) hx hb dX4_ringsLeft_16 (by decide) ?_
    refine lv_goto (pc := 17) (tgt := 44) hx hb dX4_ringsLeft_17 (by decide) ?_
    exact W.iret (pc := 44) (v := 0) hx hb hr (fun t ht hW => ⟨_, rfl, (Option.some.inj hf), ht⟩) (fun _ h => nomatch h) dX4_ringsLeft_44
def f_X4_requireServant (B : z_B) (v1 : Int32) : Option Unit := (if v1 < 0 then none else (if v1 < B.1.2.2.2.1 then some () else none))
set_option maxHeartbeats 4000000 in
set_option maxRecDepth 100000 in
theorem m_X4_requireServant (l : Launch) (X : z_X) (a : Nat) (d d2 : Nat → Nat) (B : z_B) (v1 : Int32) {RR : Unit} (hf : f_X4_requireServant B v1 = some RR) : z_pV l yX4_requireServant wsX4_requireServant 0 0 X [.ref a, .int v1] (z_wB X a d d2 B) := by
  refine Met.ofW (cc := cX4_requireServant) (maxL := 2) (ret := none) (by decide) rfl ?_
  intro p e s m args below meth c s₁ Bd hml hv
  obtain ⟨rfl, hP, hK, hN⟩ := hv
  have hx := Bd.exec
  have hb := Bd.bytes
  have hr := Bd.returns
  have hts := atoms_spec (ws := wsX4_requireServant) Bd.pre
  have hown : s.vm.findClass RX4 = some m.cls := findClass_of_methodNamed Bd.named
  have hlocks := Bd.notSynchronized
  have S : CallFix p m c cX4_requireServant 2 s _ wsX4_requireServant RX4 := ⟨hx, hb, hml, hown, hts⟩
  have lk_fi10 := hts (.fieldLink RX4 10 "HouseBells" "house" "LHouseBells$House;") (List.mem_of_getElem? (i := 3) rfl)
  have in_X0 : ∀ w ∈ wsX00, w ∈ wsX4_requireServant := fun _ h => (List.mem_cons_of_mem _ (List.mem_append_left _ (List.mem_append_left _ (List.mem_append_right _ h))))
  have in_X3 : ∀ w ∈ wsX30, w ∈ wsX4_requireServant := fun _ h => (List.mem_cons_of_mem _ (List.mem_append_left _ (List.mem_append_right _ h)))
  have in_X4 : ∀ w ∈ wsX40, w ∈ wsX4_requireServant := fun _ h => (List.mem_cons_of_mem _ (List.mem_append_left _ (List.mem_append_left _ (List.mem_append_left _ (List.mem_append_right _ h)))))
  have hl := lv_entry ([.ref a, .int v1]) (n := 2) (Nat.le_of_ble_eq_true rfl)
  rw [lg_entry_eq]
  generalize (lg_sl ([.ref a, .int v1]) ++ List.replicate (2 - (lg_sl ([.ref a, .int v1])).length) Slot.unset).toArray = ls at hl ⊢
  have hl : lv_has ls 2 [(0, .ref a), (1, .int v1)] := hl
  unfold f_X4_requireServant at hf
  refine lv_iload_n (pc := 0) hx hb dX4_requireServant_0 rfl (lv_at hl 1 rfl) ?_
  refine lv_if_lt (pc := 1) (tgt := 18) hx hb dX4_requireServant_1 (by decide) (fun c_1 => ?_) (fun c_1 => ?_)
  · replace hf := z_ip c_1 hf
    cases hf
  · replace hf := z_in c_1 hf
    refine lv_iload_n (pc := 4) hx hb dX4_requireServant_4 rfl (lv_at hl 1 rfl) ?_
    refine lv_aload_n (pc := 5) hx hb dX4_requireServant_5 rfl (lv_at hl 0 rfl) ?_
    refine va_get (pc := 6) (ci := 4) (C := RX4) (T := TX4) (N := 2) hx hb hts in_X4 hown hK hP 0 rfl rfl 0 (by decide) lk_fi10 (fun _ h9 => h9) rfl dX4_requireServant_6 ?_
    refine va_getN (pc := 9) (ci := 0) (C := RX0) (T := TX0) (N := 15) hx hb hts in_X0 hown hK hP 1 rfl rfl 14 (by decide) (z_n24 hN) (fun _ h9 => h9) rfl dX4_requireServant_9 ?_
    refine va_getN (pc := 12) (ci := 3) (C := RX3) (T := TX3) (N := 6) hx hb hts in_X3 hown hK hP 16 rfl rfl 0 (by decide) (z_n2 hN) (fun _ h9 => h9) rfl dX4_requireServant_12 ?_
    refine lv_icmp_lt (pc := 15) (tgt := 29) hx hb dX4_requireServant_15 (by decide) (fun c_15 => ?_) (fun c_15 => ?_)
    · replace hf := z_ip c_15 hf
      exact W.vret (pc := 29) hx hb hr (fun t ht hW => ⟨rfl, trivial, ht⟩) (fun _ h => nomatch h) dX4_requireServant_29
    · replace hf := z_in c_15 hf
      cases hf
def f_X4_floorOf (B : z_B) (v1 : Int32) : Option Int32 := (f_X4_requireServant B v1).bind (fun x2 => some (z_rg (B.1.2.2.2.2 1) v1))
set_option maxHeartbeats 4000000 in
set_option maxRecDepth 100000 in
theorem m_X4_floorOf (l : Launch) (X : z_X) (a : Nat) (d d2 : Nat → Nat) (B : z_B) (v1 : Int32) {RR : Int32} (hf : f_X4_floorOf B v1 = some RR) : z_pI l yX4_floorOf wsX4_floorOf 1 21 X [.ref a, .int v1] (z_wB X a d d2 B) RR := by
  refine Met.ofW (cc := cX4_floorOf) (maxL := 2) (ret := (some .int)) (by decide) rfl ?_
  intro p e s m args below meth c s₁ Bd hml hv
  obtain ⟨rfl, hP, hK, hN⟩ := hv
  have hx := Bd.exec
  have hb := Bd.bytes
  have hr := Bd.returns
  have hts := atoms_spec (ws := wsX4_floorOf) Bd.pre
  have hown : s.vm.findClass RX4 = some m.cls := findClass_of_methodNamed Bd.named
  have hlocks := Bd.notSynchronized
  have S : CallFix p m c cX4_floorOf 2 s _ wsX4_floorOf RX4 := ⟨hx, hb, hml, hown, hts⟩
  have lk_fi10 := hts (.fieldLink RX4 10 "HouseBells" "house" "LHouseBells$House;") (List.mem_of_getElem? (i := 1) rfl)
  have in_X0 : ∀ w ∈ wsX00, w ∈ wsX4_floorOf := fun _ h => (List.mem_cons_of_mem _ (List.mem_append_left _ (List.mem_append_left _ (List.mem_append_left _ (List.mem_append_right _ h)))))
  have in_X3 : ∀ w ∈ wsX30, w ∈ wsX4_floorOf := fun _ h => (List.mem_cons_of_mem _ (List.mem_append_left _ (List.mem_append_left _ (List.mem_append_right _ h))))
  have in_X4 : ∀ w ∈ wsX40, w ∈ wsX4_floorOf := fun _ h => (List.mem_cons_of_mem _ (List.mem_append_left _ (List.mem_append_left _ (List.mem_append_left _ (List.mem_append_left _ (List.mem_append_right _ h))))))
  have hl := lv_entry ([.ref a, .int v1]) (n := 2) (Nat.le_of_ble_eq_true rfl)
  rw [lg_entry_eq]
  generalize (lg_sl ([.ref a, .int v1]) ++ List.replicate (2 - (lg_sl ([.ref a, .int v1])).length) Slot.unset).toArray = ls at hl ⊢
  have hl : lv_has ls 2 [(0, .ref a), (1, .int v1)] := hl
  unfold f_X4_floorOf at hf
  refine lv_aload_n (pc := 0) hx hb dX4_floorOf_0 rfl (lv_at hl 0 rfl) ?_
  refine lv_iload_n (pc := 1) hx hb dX4_floorOf_1 rfl (lv_at hl 1 rfl) ?_
  obtain ⟨x2, e2, hf⟩ := z_bd hf
  refine z_cpV (pc := 2) S (m_X4_requireServant l X a d d2 B v1 e2) (cwV 1 hts gX4_floorOf_X4_requireServant rfl rfl rfl hdX4_requireServant ⟨Nat.le_of_ble_eq_true rfl, Nat.le_of_ble_eq_true rfl⟩) hP hK hN (s_B_B X a d d2 B) (ci := 4) rfl rfl rfl ⟨Nat.le_of_ble_eq_true rfl, Nat.le_of_ble_eq_true rfl⟩ rfl hl.1 rfl (Nat.le_of_ble_eq_true rfl) dX4_floorOf_2 ?_
  refine lv_aload_n (pc := 5) hx hb dX4_floorOf_5 rfl (lv_at hl 0 rfl) ?_
  refine va_get (pc := 6) (ci := 4) (C := RX4) (T := TX4) (N := 2) hx hb hts in_X4 hown hK hP 0 rfl rfl 0 (by decide) lk_fi10 (fun _ h9 => h9) rfl dX4_floorOf_6 ?_
  refine va_getN (pc := 9) (ci := 0) (C := RX0) (T := TX0) (N := 15) hx hb hts in_X0 hown hK hP 1 rfl rfl 14 (by decide) (z_n24 hN) (fun _ h9 => h9) rfl dX4_floorOf_9 ?_
  refine va_getN (pc := 12) (ci := 3) (C := RX3) (T := TX3) (N := 6) hx hb hts in_X3 hown hK hP 16 rfl rfl 2 (by decide) (z_n5 hN) (fun _ h9 => h9) rfl dX4_floorOf_12 ?_
  refine lv_iload_n (pc := 15) hx hb dX4_floorOf_15 rfl (lv_at hl 1 rfl) ?_
  refine z_cpI (pc := 16) S (m_X2_get l X (d 18) (d 19) (B.1.2.2.2.2 1) v1) (cwV 1 hts gX4_floorOf_X2_get rfl rfl rfl hdX2_get ⟨Nat.le_of_ble_eq_true rfl, Nat.le_of_ble_eq_true rfl⟩) hP hK hN (s_B_R19 X a d d2 B) (ci := 2) rfl rfl rfl ⟨Nat.le_of_ble_eq_true rfl, Nat.le_of_ble_eq_true rfl⟩ rfl hl.1 rfl (Nat.le_of_ble_eq_true rfl) dX4_floorOf_16 ?_
  exact W.iret (pc := 19) (v := (z_rg (B.1.2.2.2.2 1) v1)) hx hb hr (fun t ht hW => ⟨_, rfl, (Option.some.inj hf), ht⟩) (fun _ h => nomatch h) dX4_floorOf_19
def f_X4_goesTo (B : z_B) (v1 : Int32) : Option Int32 := (f_X4_requireServant B v1).bind (fun x2 => some (z_rg (B.1.2.2.2.2 2) v1))
set_option maxHeartbeats 4000000 in
set_option maxRecDepth 100000 in
theorem m_X4_goesTo (l : Launch) (X : z_X) (a : Nat) (d d2 : Nat → Nat) (B : z_B) (v1 : Int32) {RR : Int32} (hf : f_X4_goesTo B v1 = some RR) : z_pI l yX4_goesTo wsX4_goesTo 1 21 X [.ref a, .int v1] (z_wB X a d d2 B) RR := by
  refine Met.ofW (cc := cX4_goesTo) (maxL := 2) (ret := (some .int)) (by decide) rfl ?_
  intro p e s m args below meth c s₁ Bd hml hv
  obtain ⟨rfl, hP, hK, hN⟩ := hv
  have hx := Bd.exec
  have hb := Bd.bytes
  have hr := Bd.returns
  have hts := atoms_spec (ws := wsX4_goesTo) Bd.pre
  have hown : s.vm.findClass RX4 = some m.cls := findClass_of_methodNamed Bd.named
  have hlocks := Bd.notSynchronized
  have S : CallFix p m c cX4_goesTo 2 s _ wsX4_goesTo RX4 := ⟨hx, hb, hml, hown, hts⟩
  have lk_fi10 := hts (.fieldLink RX4 10 "HouseBells" "house" "LHouseBells$House;") (List.mem_of_getElem? (i := 1) rfl)
  have in_X0 : ∀ w ∈ wsX00, w ∈ wsX4_goesTo := fun _ h => (List.mem_cons_of_mem _ (List.mem_append_left _ (List.mem_append_left _ (List.mem_append_left _ (List.mem_append_right _ h)))))
  have in_X3 : ∀ w ∈ wsX30, w ∈ wsX4_goesTo := fun _ h => (List.mem_cons_of_mem _ (List.mem_append_left _ (List.mem_append_left _ (List.mem_append_right _ h))))
  have in_X4 : ∀ w ∈ wsX40, w ∈ wsX4_goesTo := fun _ h => (List.mem_cons_of_mem _ (List.mem_append_left _ (List.mem_append_left _ (List.mem_append_left _ (List.mem_append_left _ (List.mem_append_right _ h))))))
  have hl := lv_entry ([.ref a, .int v1]) (n := 2) (Nat.le_of_ble_eq_true rfl)
  rw [lg_entry_eq]
  generalize (lg_sl ([.ref a, .int v1]) ++ List.replicate (2 - (lg_sl ([.ref a, .int v1])).length) Slot.unset).toArray = ls at hl ⊢
  have hl : lv_has ls 2 [(0, .ref a), (1, .int v1)] := hl
  unfold f_X4_goesTo at hf
  refine lv_aload_n (pc := 0) hx hb dX4_goesTo_0 rfl (lv_at hl 0 rfl) ?_
  refine lv_iload_n (pc := 1) hx hb dX4_goesTo_1 rfl (lv_at hl 1 rfl) ?_
  obtain ⟨x2, e2, hf⟩ := z_bd hf
  refine z_cpV (pc := 2) S (m_X4_requireServant l X a d d2 B v1 e2) (cwV 1 hts gX4_goesTo_X4_requireServant rfl rfl rfl hdX4_requireServant ⟨Nat.le_of_ble_eq_true rfl, Nat.le_of_ble_eq_true rfl⟩) hP hK hN (s_B_B X a d d2 B) (ci := 4) rfl rfl rfl ⟨Nat.le_of_ble_eq_true rfl, Nat.le_of_ble_eq_true rfl⟩ rfl hl.1 rfl (Nat.le_of_ble_eq_true rfl) dX4_goesTo_2 ?_
  refine lv_aload_n (pc := 5) hx hb dX4_goesTo_5 rfl (lv_at hl 0 rfl) ?_
  refine va_get (pc := 6) (ci := 4) (C := RX4) (T := TX4) (N := 2) hx hb hts in_X4 hown hK hP 0 rfl rfl 0 (by decide) lk_fi10 (fun _ h9 => h9) rfl dX4_goesTo_6 ?_
  refine va_getN (pc := 9) (ci := 0) (C := RX0) (T := TX0) (N := 15) hx hb hts in_X0 hown hK hP 1 rfl rfl 14 (by decide) (z_n24 hN) (fun _ h9 => h9) rfl dX4_goesTo_9 ?_
  refine va_getN (pc := 12) (ci := 3) (C := RX3) (T := TX3) (N := 6) hx hb hts in_X3 hown hK hP 16 rfl rfl 3 (by decide) (z_n7 hN) (fun _ h9 => h9) rfl dX4_goesTo_12 ?_
  refine lv_iload_n (pc := 15) hx hb dX4_goesTo_15 rfl (lv_at hl 1 rfl) ?_
  refine z_cpI (pc := 16) S (m_X2_get l X (d 20) (d 21) (B.1.2.2.2.2 2) v1) (cwV 1 hts gX4_goesTo_X2_get rfl rfl rfl hdX2_get ⟨Nat.le_of_ble_eq_true rfl, Nat.le_of_ble_eq_true rfl⟩) hP hK hN (s_B_R21 X a d d2 B) (ci := 2) rfl rfl rfl ⟨Nat.le_of_ble_eq_true rfl, Nat.le_of_ble_eq_true rfl⟩ rfl hl.1 rfl (Nat.le_of_ble_eq_true rfl) dX4_goesTo_16 ?_
  exact W.iret (pc := 19) (v := (z_rg (B.1.2.2.2.2 2) v1)) hx hb hr (fun t ht hW => ⟨_, rfl, (Option.some.inj hf), ht⟩) (fun _ h => nomatch h) dX4_goesTo_19
def f_X4_serves (B : z_B) (v1 : Int32) : Option Int32 := (f_X4_requireServant B v1).bind (fun x2 => some (z_rg (B.1.2.2.2.2 3) v1))
set_option maxHeartbeats 4000000 in
set_option maxRecDepth 100000 in
theorem m_X4_serves (l : Launch) (X : z_X) (a : Nat) (d d2 : Nat → Nat) (B : z_B) (v1 : Int32) {RR : Int32} (hf : f_X4_serves B v1 = some RR) : z_pI l yX4_serves wsX4_serves 1 21 X [.ref a, .int v1] (z_wB X a d d2 B) RR := by
  refine Met.ofW (cc := cX4_serves) (maxL := 2) (ret := (some .int)) (by decide) rfl ?_
  intro p e s m args below meth c s₁ Bd hml hv
  obtain ⟨rfl, hP, hK, hN⟩ := hv
  have hx := Bd.exec
  have hb := Bd.bytes
  have hr := Bd.returns
  have hts := atoms_spec (ws := wsX4_serves) Bd.pre
  have hown : s.vm.findClass RX4 = some m.cls := findClass_of_methodNamed Bd.named
  have hlocks := Bd.notSynchronized
  have S : CallFix p m c cX4_serves 2 s _ wsX4_serves RX4 := ⟨hx, hb, hml, hown, hts⟩
  have lk_fi10 := hts (.fieldLink RX4 10 "HouseBells" "house" "LHouseBells$House;") (List.mem_of_getElem? (i := 1) rfl)
  have in_X0 : ∀ w ∈ wsX00, w ∈ wsX4_serves := fun _ h => (List.mem_cons_of_mem _ (List.mem_append_left _ (List.mem_append_left _ (List.mem_append_left _ (List.mem_append_right _ h)))))
  have in_X3 : ∀ w ∈ wsX30, w ∈ wsX4_serves := fun _ h => (List.mem_cons_of_mem _ (List.mem_append_left _ (List.mem_append_left _ (List.mem_append_right _ h))))
  have in_X4 : ∀ w ∈ wsX40, w ∈ wsX4_serves := fun _ h => (List.mem_cons_of_mem _ (List.mem_append_left _ (List.mem_append_left _ (List.mem_append_left _ (List.mem_append_left _ (List.mem_append_right _ h))))))
  have hl := lv_entry ([.ref a, .int v1]) (n := 2) (Nat.le_of_ble_eq_true rfl)
  rw [lg_entry_eq]
  generalize (lg_sl ([.ref a, .int v1]) ++ List.replicate (2 - (lg_sl ([.ref a, .int v1])).length) Slot.unset).toArray = ls at hl ⊢
  have hl : lv_has ls 2 [(0, .ref a), (1, .int v1)] := hl
  unfold f_X4_serves at hf
  refine lv_aload_n (pc := 0) hx hb dX4_serves_0 rfl (lv_at hl 0 rfl) ?_
  refine lv_iload_n (pc := 1) hx hb dX4_serves_1 rfl (lv_at hl 1 rfl) ?_
  obtain ⟨x2, e2, hf⟩ := z_bd hf
  refine z_cpV (pc := 2) S (m_X4_requireServant l X a d d2 B v1 e2) (cwV 1 hts gX4_serves_X4_requireServant rfl rfl rfl hdX4_requireServant ⟨Nat.le_of_ble_eq_true rfl, Nat.le_of_ble_eq_true rfl⟩) hP hK hN (s_B_B X a d d2 B) (ci := 4) rfl rfl rfl ⟨Nat.le_of_ble_eq_true rfl, Nat.le_of_ble_eq_true rfl⟩ rfl hl.1 rfl (Nat.le_of_ble_eq_true rfl) dX4_serves_2 ?_
  refine lv_aload_n (pc := 5) hx hb dX4_serves_5 rfl (lv_at hl 0 rfl) ?_
  refine va_get (pc := 6) (ci := 4) (C := RX4) (T := TX4) (N := 2) hx hb hts in_X4 hown hK hP 0 rfl rfl 0 (by decide) lk_fi10 (fun _ h9 => h9) rfl dX4_serves_6 ?_
  refine va_getN (pc := 9) (ci := 0) (C := RX0) (T := TX0) (N := 15) hx hb hts in_X0 hown hK hP 1 rfl rfl 14 (by decide) (z_n24 hN) (fun _ h9 => h9) rfl dX4_serves_9 ?_
  refine va_getN (pc := 12) (ci := 3) (C := RX3) (T := TX3) (N := 6) hx hb hts in_X3 hown hK hP 16 rfl rfl 4 (by decide) (z_n9 hN) (fun _ h9 => h9) rfl dX4_serves_12 ?_
  refine lv_iload_n (pc := 15) hx hb dX4_serves_15 rfl (lv_at hl 1 rfl) ?_
  refine z_cpI (pc := 16) S (m_X2_get l X (d 22) (d 23) (B.1.2.2.2.2 3) v1) (cwV 1 hts gX4_serves_X2_get rfl rfl rfl hdX2_get ⟨Nat.le_of_ble_eq_true rfl, Nat.le_of_ble_eq_true rfl⟩) hP hK hN (s_B_R23 X a d d2 B) (ci := 2) rfl rfl rfl ⟨Nat.le_of_ble_eq_true rfl, Nat.le_of_ble_eq_true rfl⟩ rfl hl.1 rfl (Nat.le_of_ble_eq_true rfl) dX4_serves_16 ?_
  exact W.iret (pc := 19) (v := (z_rg (B.1.2.2.2.2 3) v1)) hx hb hr (fun t ht hW => ⟨_, rfl, (Option.some.inj hf), ht⟩) (fun _ h => nomatch h) dX4_serves_19
def f_X4_minutesLeft (B : z_B) (v1 : Int32) : Option Int32 := (f_X4_requireServant B v1).bind (fun x2 => some (z_rg (B.1.2.2.2.2 4) v1))
set_option maxHeartbeats 4000000 in
set_option maxRecDepth 100000 in
theorem m_X4_minutesLeft (l : Launch) (X : z_X) (a : Nat) (d d2 : Nat → Nat) (B : z_B) (v1 : Int32) {RR : Int32} (hf : f_X4_minutesLeft B v1 = some RR) : z_pI l yX4_minutesLeft wsX4_minutesLeft 1 21 X [.ref a, .int v1] (z_wB X a d d2 B) RR := by
  refine Met.ofW (cc := cX4_minutesLeft) (maxL := 2) (ret := (some .int)) (by decide) rfl ?_
  intro p e s m args below meth c s₁ Bd hml hv
  obtain ⟨rfl, hP, hK, hN⟩ := hv
  have hx := Bd.exec
  have hb := Bd.bytes
  have hr := Bd.returns
  have hts := atoms_spec (ws := wsX4_minutesLeft) Bd.pre
  have hown : s.vm.findClass RX4 = some m.cls := findClass_of_methodNamed Bd.named
  have hlocks := Bd.notSynchronized
  have S : CallFix p m c cX4_minutesLeft 2 s _ wsX4_minutesLeft RX4 := ⟨hx, hb, hml, hown, hts⟩
  have lk_fi10 := hts (.fieldLink RX4 10 "HouseBells" "house" "LHouseBells$House;") (List.mem_of_getElem? (i := 1) rfl)
  have in_X0 : ∀ w ∈ wsX00, w ∈ wsX4_minutesLeft := fun _ h => (List.mem_cons_of_mem _ (List.mem_append_left _ (List.mem_append_left _ (List.mem_append_left _ (List.mem_append_right _ h)))))
  have in_X3 : ∀ w ∈ wsX30, w ∈ wsX4_minutesLeft := fun _ h => (List.mem_cons_of_mem _ (List.mem_append_left _ (List.mem_append_left _ (List.mem_append_right _ h))))
  have in_X4 : ∀ w ∈ wsX40, w ∈ wsX4_minutesLeft := fun _ h => (List.mem_cons_of_mem _ (List.mem_append_left _ (List.mem_append_left _ (List.mem_append_left _ (List.mem_append_left _ (List.mem_append_right _ h))))))
  have hl := lv_entry ([.ref a, .int v1]) (n := 2) (Nat.le_of_ble_eq_true rfl)
  rw [lg_entry_eq]
  generalize (lg_sl ([.ref a, .int v1]) ++ List.replicate (2 - (lg_sl ([.ref a, .int v1])).length) Slot.unset).toArray = ls at hl ⊢
  have hl : lv_has ls 2 [(0, .ref a), (1, .int v1)] := hl
  unfold f_X4_minutesLeft at hf
  refine lv_aload_n (pc := 0) hx hb dX4_minutesLeft_0 rfl (lv_at hl 0 rfl) ?_
  refine lv_iload_n (pc := 1) hx hb dX4_minutesLeft_1 rfl (lv_at hl 1 rfl) ?_
  obtain ⟨x2, e2, hf⟩ := z_bd hf
  refine z_cpV (pc := 2) S (m_X4_requireServant l X a d d2 B v1 e2) (cwV 1 hts gX4_minutesLeft_X4_requireServant rfl rfl rfl hdX4_requireServant ⟨Nat.le_of_ble_eq_true rfl, Nat.le_of_ble_eq_true rfl⟩) hP hK hN (s_B_B X a d d2 B) (ci := 4) rfl rfl rfl ⟨Nat.le_of_ble_eq_true rfl, Nat.le_of_ble_eq_true rfl⟩ rfl hl.1 rfl (Nat.le_of_ble_eq_true rfl) dX4_minutesLeft_2 ?_
  refine lv_aload_n (pc := 5) hx hb dX4_minutesLeft_5 rfl (lv_at hl 0 rfl) ?_
  refine va_get (pc := 6) (ci := 4) (C := RX4) (T := TX4) (N := 2) hx hb hts in_X4 hown hK hP 0 rfl rfl 0 (by decide) lk_fi10 (fun _ h9 => h9) rfl dX4_minutesLeft_6 ?_
  refine va_getN (pc := 9) (ci := 0) (C := RX0) (T := TX0) (N := 15) hx hb hts in_X0 hown hK hP 1 rfl rfl 14 (by decide) (z_n24 hN) (fun _ h9 => h9) rfl dX4_minutesLeft_9 ?_
  refine va_getN (pc := 12) (ci := 3) (C := RX3) (T := TX3) (N := 6) hx hb hts in_X3 hown hK hP 16 rfl rfl 5 (by decide) (z_n11 hN) (fun _ h9 => h9) rfl dX4_minutesLeft_12 ?_
  refine lv_iload_n (pc := 15) hx hb dX4_minutesLeft_15 rfl (lv_at hl 1 rfl) ?_
  refine z_cpI (pc := 16) S (m_X2_get l X (d 24) (d 25) (B.1.2.2.2.2 4) v1) (cwV 1 hts gX4_minutesLeft_X2_get rfl rfl rfl hdX2_get ⟨Nat.le_of_ble_eq_true rfl, Nat.le_of_ble_eq_true rfl⟩) hP hK hN (s_B_R25 X a d d2 B) (ci := 2) rfl rfl rfl ⟨Nat.le_of_ble_eq_true rfl, Nat.le_of_ble_eq_true rfl⟩ rfl hl.1 rfl (Nat.le_of_ble_eq_true rfl) dX4_minutesLeft_16 ?_
  exact W.iret (pc := 19) (v := (z_rg (B.1.2.2.2.2 4) v1)) hx hb hr (fun t ht hW => ⟨_, rfl, (Option.some.inj hf), ht⟩) (fun _ h => nomatch h) dX4_minutesLeft_19
def f_X4_wayTo (B : z_B) (v1 : Int32) (v2 : Int32) : Option Int32 := (f_X4_requireServant B v1).bind (fun x2 => (f_X4_requireRoom B v2).bind (fun x7 => (f_X3_wayToFloor B.1.2.2.2 v1 (z_rg (B.1.2.1 0) v2)).bind (fun x29 => some x29)))
set_option maxHeartbeats 4000000 in
set_option maxRecDepth 100000 in
theorem m_X4_wayTo (l : Launch) (X : z_X) (a : Nat) (d d2 : Nat → Nat) (B : z_B) (v1 : Int32) (v2 : Int32) {RR : Int32} (hf : f_X4_wayTo B v1 v2 = some RR) : z_pI l yX4_wayTo wsX4_wayTo 2 46 X [.ref a, .int v1, .int v2] (z_wB X a d d2 B) RR := by
  refine Met.ofW (cc := cX4_wayTo) (maxL := 3) (ret := (some .int)) (by decide) rfl ?_
  intro p e s m args below meth c s₁ Bd hml hv
  obtain ⟨rfl, hP, hK, hN⟩ := hv
  have hx := Bd.exec
  have hb := Bd.bytes
  have hr := Bd.returns
  have hts := atoms_spec (ws := wsX4_wayTo) Bd.pre
  have hown : s.vm.findClass RX4 = some m.cls := findClass_of_methodNamed Bd.named
  have hlocks := Bd.notSynchronized
  have S : CallFix p m c cX4_wayTo 3 s _ wsX4_wayTo RX4 := ⟨hx, hb, hml, hown, hts⟩
  have lk_fi10 := hts (.fieldLink RX4 10 "HouseBells" "house" "LHouseBells$House;") (List.mem_of_getElem? (i := 1) rfl)
  have in_X0 : ∀ w ∈ wsX00, w ∈ wsX4_wayTo := fun _ h => (List.mem_cons_of_mem _ (List.mem_append_left _ (List.mem_append_left _ (List.mem_append_left _ (List.mem_append_right _ h)))))
  have in_X4 : ∀ w ∈ wsX40, w ∈ wsX4_wayTo := fun _ h => (List.mem_cons_of_mem _ (List.mem_append_left _ (List.mem_append_left _ (List.mem_append_left _ (List.mem_append_left _ (List.mem_append_right _ h))))))
  have hl := lv_entry ([.ref a, .int v1, .int v2]) (n := 3) (Nat.le_of_ble_eq_true rfl)
  rw [lg_entry_eq]
  generalize (lg_sl ([.ref a, .int v1, .int v2]) ++ List.replicate (3 - (lg_sl ([.ref a, .int v1, .int v2])).length) Slot.unset).toArray = ls at hl ⊢
  have hl : lv_has ls 3 [(0, .ref a), (1, .int v1), (2, .int v2)] := hl
  unfold f_X4_wayTo at hf
  refine lv_aload_n (pc := 0) hx hb dX4_wayTo_0 rfl (lv_at hl 0 rfl) ?_
  refine lv_iload_n (pc := 1) hx hb dX4_wayTo_1 rfl (lv_at hl 1 rfl) ?_
  obtain ⟨x2, e2, hf⟩ := z_bd hf
  refine z_cpV (pc := 2) S (m_X4_requireServant l X a d d2 B v1 e2) (cwV 1 hts gX4_wayTo_X4_requireServant rfl rfl rfl hdX4_requireServant ⟨Nat.le_of_ble_eq_true rfl, Nat.le_of_ble_eq_true rfl⟩) hP hK hN (s_B_B X a d d2 B) (ci := 4) rfl rfl rfl ⟨Nat.le_of_ble_eq_true rfl, Nat.le_of_ble_eq_true rfl⟩ rfl hl.1 rfl (Nat.le_of_ble_eq_true rfl) dX4_wayTo_2 ?_
  refine lv_aload_n (pc := 5) hx hb dX4_wayTo_5 rfl (lv_at hl 0 rfl) ?_
  refine lv_iload_n (pc := 6) hx hb dX4_wayTo_6 rfl (lv_at hl 2 rfl) ?_
  obtain ⟨x7, e7, hf⟩ := z_bd hf
  refine z_cpV (pc := 7) S (m_X4_requireRoom l X a d d2 B v2 e7) (cwV 1 hts gX4_wayTo_X4_requireRoom rfl rfl rfl hdX4_requireRoom ⟨Nat.le_of_ble_eq_true rfl, Nat.le_of_ble_eq_true rfl⟩) hP hK hN (s_B_B X a d d2 B) (ci := 4) rfl rfl rfl ⟨Nat.le_of_ble_eq_true rfl, Nat.le_of_ble_eq_true rfl⟩ rfl hl.1 rfl (Nat.le_of_ble_eq_true rfl) dX4_wayTo_7 ?_
  refine lv_aload_n (pc := 10) hx hb dX4_wayTo_10 rfl (lv_at hl 0 rfl) ?_
  refine va_get (pc := 11) (ci := 4) (C := RX4) (T := TX4) (N := 2) hx hb hts in_X4 hown hK hP 0 rfl rfl 0 (by decide) lk_fi10 (fun _ h9 => h9) rfl dX4_wayTo_11 ?_
  refine va_getN (pc := 14) (ci := 0) (C := RX0) (T := TX0) (N := 15) hx hb hts in_X0 hown hK hP 1 rfl rfl 14 (by decide) (z_n24 hN) (fun _ h9 => h9) rfl dX4_wayTo_14 ?_
  refine lv_iload_n (pc := 17) hx hb dX4_wayTo_17 rfl (lv_at hl 1 rfl) ?_
  refine lv_aload_n (pc := 18) hx hb dX4_wayTo_18 rfl (lv_at hl 0 rfl) ?_
  refine va_get (pc := 19) (ci := 4) (C := RX4) (T := TX4) (N := 2) hx hb hts in_X4 hown hK hP 0 rfl rfl 0 (by decide) lk_fi10 (fun _ h9 => h9) rfl dX4_wayTo_19 ?_
  refine va_getN (pc := 22) (ci := 0) (C := RX0) (T := TX0) (N := 15) hx hb hts in_X0 hown hK hP 1 rfl rfl 7 (by decide) (z_n19 hN) (fun _ h9 => h9) rfl dX4_wayTo_22 ?_
  refine lv_iload_n (pc := 25) hx hb dX4_wayTo_25 rfl (lv_at hl 2 rfl) ?_
  refine z_cpI (pc := 26) S (m_X2_get l X (d 1) (d 2) (B.1.2.1 0) v2) (cwV 1 hts gX4_wayTo_X2_get rfl rfl rfl hdX2_get ⟨Nat.le_of_ble_eq_true rfl, Nat.le_of_ble_eq_true rfl⟩) hP hK hN (s_B_R2 X a d d2 B) (ci := 2) rfl rfl rfl ⟨Nat.le_of_ble_eq_true rfl, Nat.le_of_ble_eq_true rfl⟩ rfl hl.1 rfl (Nat.le_of_ble_eq_true rfl) dX4_wayTo_26 ?_
  obtain ⟨x29, e29, hf⟩ := z_bd hf
  refine z_cpI (pc := 29) S (m_X3_wayToFloor l X d B.1.2.2.2 v1 (z_rg (B.1.2.1 0) v2) e29) (cwV 2 hts gX4_wayTo_X3_wayToFloor rfl rfl rfl hdX3_wayToFloor ⟨Nat.le_of_ble_eq_true rfl, Nat.le_of_ble_eq_true rfl⟩) hP hK hN (s_B_G16 X a d d2 B) (ci := 3) rfl rfl rfl ⟨Nat.le_of_ble_eq_true rfl, Nat.le_of_ble_eq_true rfl⟩ rfl hl.1 rfl (Nat.le_of_ble_eq_true rfl) dX4_wayTo_29 ?_
  exact W.iret (pc := 32) (v := x29) hx hb hr (fun t ht hW => ⟨_, rfl, (Option.some.inj hf), ht⟩) (fun _ h => nomatch h) dX4_wayTo_32
def f_X4_nearestIdle (B : z_B) (v1 : Int32) : Option Int32 := (f_X4_requireRoom B v1).bind (fun x2 => (f_X3_nearestTo B.1.2.2.2 (z_rg (B.1.2.1 0) v1)).bind (fun x23 => some x23))
set_option maxHeartbeats 4000000 in
set_option maxRecDepth 100000 in
theorem m_X4_nearestIdle (l : Launch) (X : z_X) (a : Nat) (d d2 : Nat → Nat) (B : z_B) (v1 : Int32) {RR : Int32} (hf : f_X4_nearestIdle B v1 = some RR) : z_pI l yX4_nearestIdle wsX4_nearestIdle 2 49 X [.ref a, .int v1] (z_wB X a d d2 B) RR := by
  refine Met.ofW (cc := cX4_nearestIdle) (maxL := 2) (ret := (some .int)) (by decide) rfl ?_
  intro p e s m args below meth c s₁ Bd hml hv
  obtain ⟨rfl, hP, hK, hN⟩ := hv
  have hx := Bd.exec
  have hb := Bd.bytes
  have hr := Bd.returns
  have hts := atoms_spec (ws := wsX4_nearestIdle) Bd.pre
  have hown : s.vm.findClass RX4 = some m.cls := findClass_of_methodNamed Bd.named
  have hlocks := Bd.notSynchronized
  have S : CallFix p m c cX4_nearestIdle 2 s _ wsX4_nearestIdle RX4 := ⟨hx, hb, hml, hown, hts⟩
  have lk_fi10 := hts (.fieldLink RX4 10 "HouseBells" "house" "LHouseBells$House;") (List.mem_of_getElem? (i := 1) rfl)
  have in_X0 : ∀ w ∈ wsX00, w ∈ wsX4_nearestIdle := fun _ h => (List.mem_cons_of_mem _ (List.mem_append_left _ (List.mem_append_left _ (List.mem_append_left _ (List.mem_append_right _ h)))))
  have in_X4 : ∀ w ∈ wsX40, w ∈ wsX4_nearestIdle := fun _ h => (List.mem_cons_of_mem _ (List.mem_append_left _ (List.mem_append_left _ (List.mem_append_left _ (List.mem_append_left _ (List.mem_append_right _ h))))))
  have hl := lv_entry ([.ref a, .int v1]) (n := 2) (Nat.le_of_ble_eq_true rfl)
  rw [lg_entry_eq]
  generalize (lg_sl ([.ref a, .int v1]) ++ List.replicate (2 - (lg_sl ([.ref a, .int v1])).length) Slot.unset).toArray = ls at hl ⊢
  have hl : lv_has ls 2 [(0, .ref a), (1, .int v1)] := hl
  unfold f_X4_nearestIdle at hf
  refine lv_aload_n (pc := 0) hx hb dX4_nearestIdle_0 rfl (lv_at hl 0 rfl) ?_
  refine lv_iload_n (pc := 1) hx hb dX4_nearestIdle_1 rfl (lv_at hl 1 rfl) ?_
  obtain ⟨x2, e2, hf⟩ := z_bd hf
  refine z_cpV (pc := 2) S (m_X4_requireRoom l X a d d2 B v1 e2) (cwV 1 hts gX4_nearestIdle_X4_requireRoom rfl rfl rfl hdX4_requireRoom ⟨Nat.le_of_ble_eq_true rfl, Nat.le_of_ble_eq_true rfl⟩) hP hK hN (s_B_B X a d d2 B) (ci := 4) rfl rfl rfl ⟨Nat.le_of_ble_eq_true rfl, Nat.le_of_ble_eq_true rfl⟩ rfl hl.1 rfl (Nat.le_of_ble_eq_true rfl) dX4_nearestIdle_2 ?_
  refine lv_aload_n (pc := 5) hx hb dX4_nearestIdle_5 rfl (lv_at hl 0 rfl) ?_
  refine va_get (pc := 6) (ci := 4) (C := RX4) (T := TX4) (N := 2) hx hb hts in_X4 hown hK hP 0 rfl rfl 0 (by decide) lk_fi10 (fun _ h9 => h9) rfl dX4_nearestIdle_6 ?_
  refine va_getN (pc := 9) (ci := 0) (C := RX0) (T := TX0) (N := 15) hx hb hts in_X0 hown hK hP 1 rfl rfl 14 (by decide) (z_n24 hN) (fun _ h9 => h9) rfl dX4_nearestIdle_9 ?_
  refine lv_aload_n (pc := 12) hx hb dX4_nearestIdle_12 rfl (lv_at hl 0 rfl) ?_
  refine va_get (pc := 13) (ci := 4) (C := RX4) (T := TX4) (N := 2) hx hb hts in_X4 hown hK hP 0 rfl rfl 0 (by decide) lk_fi10 (fun _ h9 => h9) rfl dX4_nearestIdle_13 ?_
  refine va_getN (pc := 16) (ci := 0) (C := RX0) (T := TX0) (N := 15) hx hb hts in_X0 hown hK hP 1 rfl rfl 7 (by decide) (z_n19 hN) (fun _ h9 => h9) rfl dX4_nearestIdle_16 ?_
  refine lv_iload_n (pc := 19) hx hb dX4_nearestIdle_19 rfl (lv_at hl 1 rfl) ?_
  refine z_cpI (pc := 20) S (m_X2_get l X (d 1) (d 2) (B.1.2.1 0) v1) (cwV 1 hts gX4_nearestIdle_X2_get rfl rfl rfl hdX2_get ⟨Nat.le_of_ble_eq_true rfl, Nat.le_of_ble_eq_true rfl⟩) hP hK hN (s_B_R2 X a d d2 B) (ci := 2) rfl rfl rfl ⟨Nat.le_of_ble_eq_true rfl, Nat.le_of_ble_eq_true rfl⟩ rfl hl.1 rfl (Nat.le_of_ble_eq_true rfl) dX4_nearestIdle_20 ?_
  obtain ⟨x23, e23, hf⟩ := z_bd hf
  refine z_cpI (pc := 23) S (m_X3_nearestTo l X d B.1.2.2.2 (z_rg (B.1.2.1 0) v1) e23) (cwV 1 hts gX4_nearestIdle_X3_nearestTo rfl rfl rfl hdX3_nearestTo ⟨Nat.le_of_ble_eq_true rfl, Nat.le_of_ble_eq_true rfl⟩) hP hK hN (s_B_G16 X a d d2 B) (ci := 3) rfl rfl rfl ⟨Nat.le_of_ble_eq_true rfl, Nat.le_of_ble_eq_true rfl⟩ rfl hl.1 rfl (Nat.le_of_ble_eq_true rfl) dX4_nearestIdle_23 ?_
  exact W.iret (pc := 26) (v := x23) hx hb hr (fun t ht hW => ⟨_, rfl, (Option.some.inj hf), ht⟩) (fun _ h => nomatch h) dX4_nearestIdle_26
def f_X4_minutesUntilServed_L18  : Nat → Int32 → Int32 → z_B → Option (Int32 × z_B)
  | 0, _, _, _ => none
  | n + 1, u1, u2, B => (if 60 < u2 then some ((-1), B) else (f_X3_isServing B.2.2.2.2 u1).bind (fun x32 => (if x32 = 0 then (if (f_X0_isWaiting B.2 u1) = 0 then some ((-1), B) else (f_X0_letMinuteGoBy B.2).bind (fun x57 => f_X4_minutesUntilServed_L18 n u1 (u2 + 1) (B.1, x57.2))) else some (u2, B))))
def f_X4_minutesUntilServed (B : z_B) (v1 : Int32) : Option (Int32 × z_B) := (f_X4_requireRoom B v1).bind (fun x2 => (f_X0_copyFrom B.2 B.1).bind (fun x13 => f_X4_minutesUntilServed_L18 z_FU v1 0 (B.1, x13)))
set_option maxHeartbeats 4000000 in
set_option maxRecDepth 100000 in
theorem m_X4_minutesUntilServed (l : Launch) (X : z_X) (a : Nat) (d d2 : Nat → Nat) (B : z_B) (v1 : Int32) {RR : (Int32 × z_B)} (hf : f_X4_minutesUntilServed B v1 = some RR) : z_mI l yX4_minutesUntilServed wsX4_minutesUntilServed 4 94 X [.ref a, .int v1] (z_wB X a d d2 B) RR.1 (z_wB X a d d2 RR.2) := by
  intro sz
  refine Met.ofW (cc := cX4_minutesUntilServed) (maxL := 3) (ret := (some .int)) (by decide) rfl ?_
  intro p e s m args below meth c s₁ Bd hml hv
  obtain ⟨rfl, hsz, hP, hK, hN, hD0⟩ := hv
  have hx := Bd.exec
  have hb := Bd.bytes
  have hr := Bd.returns
  have hts := atoms_spec (ws := wsX4_minutesUntilServed) Bd.pre
  have hown : s.vm.findClass RX4 = some m.cls := findClass_of_methodNamed Bd.named
  have hlocks := Bd.notSynchronized
  have S : CallFix p m c cX4_minutesUntilServed 3 s _ wsX4_minutesUntilServed RX4 := ⟨hx, hb, hml, hown, hts⟩
  have lk_fi16 := hts (.fieldLink RX4 16 "HouseBells" "trial" "LHouseBells$House;") (List.mem_of_getElem? (i := 1) rfl)
  have lk_fi10 := hts (.fieldLink RX4 10 "HouseBells" "house" "LHouseBells$House;") (List.mem_of_getElem? (i := 2) rfl)
  have in_X0 : ∀ w ∈ wsX00, w ∈ wsX4_minutesUntilServed := fun _ h => (List.mem_cons_of_mem _ (List.mem_append_left _ (List.mem_append_left _ (List.mem_append_left _ (List.mem_append_left _ (List.mem_append_right _ h))))))
  have in_X4 : ∀ w ∈ wsX40, w ∈ wsX4_minutesUntilServed := fun _ h => (List.mem_cons_of_mem _ (List.mem_append_left _ (List.mem_append_left _ (List.mem_append_left _ (List.mem_append_left _ (List.mem_append_left _ (List.mem_append_right _ h)))))))
  subst hsz
  have hD := hD0.self (sz := s.heap.size)
  generalize hAe : va_A (z_wB X a d d2 B) s.heap.size = A at hD ⊢
  have hA : ∀ q : Nat, s.heap.size ≤ q → A q := fun q h => by rw [← hAe]; exact Or.inr h
  have hS : va_S A s.heap s.heap [] := va_S.rf
  have hl := lv_entry ([.ref a, .int v1]) (n := 3) (Nat.le_of_ble_eq_true rfl)
  rw [lg_entry_eq]
  generalize (lg_sl ([.ref a, .int v1]) ++ List.replicate (3 - (lg_sl ([.ref a, .int v1])).length) Slot.unset).toArray = ls at hl ⊢
  have hl : lv_has ls 3 [(0, .ref a), (1, .int v1)] := hl
  have lp_18 : ∀ (n : Nat) (u1 : Int32) (u2 : Int32) (B : z_B) (H : Heap) (locs : List Loc), va_P X.1 vwCl (z_wB X a d d2 B) H → va_D A (z_wB X a d d2 B) → va_S A s.heap H locs → ∀ (ls : Array Slot), lv_has ls 3 [(0, .ref a), (1, .int u1), (2, .int u2)] → f_X4_minutesUntilServed_L18 n u1 u2 B = some RR → W p l e (headSpec wsX4_minutesUntilServed (z_R 4 94)).room s m ([.ref a, .int v1] : List Value).toArray below meth c H locs 0 0 (MQ below (va_Qi (fun (z : Int32) (u : va_W) => z = RR.1 ∧ u = (z_wB X a d d2 RR.2)) (z_Bm X A) A) ([.ref a, .int v1] : List Value).toArray s 0 0 A) (F0 m 18 ls []) := by
    intro n
    induction n with
    | zero =>
      intro u1 u2 B H locs hP hD hS ls hl hf
      cases hf
    | succ n ih =>
      intro u1 u2 B H locs hP hD hS ls hl hf
      rw [f_X4_minutesUntilServed_L18] at hf
      refine lv_iload_n (pc := 18) hx hb dX4_minutesUntilServed_18 rfl (lv_at hl 2 rfl) ?_
      refine lv_bipush (v := 60) (pc := 19) hx hb dX4_minutesUntilServed_19 (by decide) ?_
      refine lv_icmp_gt (pc := 21) (tgt := 67) hx hb dX4_minutesUntilServed_21 (by decide) (fun c_21 => ?_) (fun c_21 => ?_)
      · replace hf := z_ip c_21 hf
        refine lv_iconst (v := (-1)) (pc := 67) hx hb dX4_minutesUntilServed_67 (by decide) ?_
        exact W.iret (pc := 68) (v := (-1)) hx hb hr (fun t ht hW => ⟨⟨_, (z_wB X a d d2 B), rfl, ⟨z_e1 hf, congrArg (fun z => (z_wB X a d d2 z)) (z_e2 hf)⟩, by rw [ht]; exact hP, hD⟩, hS.F ht⟩) hS.2.2 dX4_minutesUntilServed_68
      · replace hf := z_in c_21 hf
        refine lv_aload_n (pc := 24) hx hb dX4_minutesUntilServed_24 rfl (lv_at hl 0 rfl) ?_
        refine va_get (pc := 25) (ci := 4) (C := RX4) (T := TX4) (N := 2) hx hb hts in_X4 hown hK hP 0 rfl rfl 1 (by decide) lk_fi16 (fun _ h9 => h9) rfl dX4_minutesUntilServed_25 ?_
        refine va_getN (pc := 28) (ci := 0) (C := RX0) (T := TX0) (N := 15) hx hb hts in_X0 hown hK hP 27 rfl rfl 14 (by decide) (z_n24 hN) (fun _ h9 => h9) rfl dX4_minutesUntilServed_28 ?_
        refine lv_iload_n (pc := 31) hx hb dX4_minutesUntilServed_31 rfl (lv_at hl 1 rfl) ?_
        obtain ⟨x32, e32, hf⟩ := z_bd hf
        refine z_cpI (pc := 32) S (m_X3_isServing l X d2 B.2.2.2.2 u1 e32) (cwV 1 hts gX4_minutesUntilServed_X3_isServing rfl rfl rfl hdX3_isServing ⟨Nat.le_of_ble_eq_true rfl, Nat.le_of_ble_eq_true rfl⟩) hP hK hN (s_B_G42 X a d d2 B) (ci := 3) rfl rfl rfl ⟨Nat.le_of_ble_eq_true rfl, Nat.le_of_ble_eq_true rfl⟩ rfl hl.1 rfl (Nat.le_of_ble_eq_true rfl) dX4_minutesUntilServed_32 ?_
        refine lv_if_eq (pc := 35) (tgt := 40) hx hb dX4_minutesUntilServed_35 (by decide) (fun c_35 => ?_) (fun c_35 => ?_)
        · replace hf := z_ip c_35 hf
          refine lv_aload_n (pc := 40) hx hb dX4_minutesUntilServed_40 rfl (lv_at hl 0 rfl) ?_
          refine va_get (pc := 41) (ci := 4) (C := RX4) (T := TX4) (N := 2) hx hb hts in_X4 hown hK hP 0 rfl rfl 1 (by decide) lk_fi16 (fun _ h9 => h9) rfl dX4_minutesUntilServed_41 ?_
          refine lv_iload_n (pc := 44) hx hb dX4_minutesUntilServed_44 rfl (lv_at hl 1 rfl) ?_
          refine z_cpI (pc := 45) S (m_X0_isWaiting l X d2 B.2 u1 rfl) (cwV 1 hts gX4_minutesUntilServed_X0_isWaiting rfl rfl rfl hdX0_isWaiting ⟨Nat.le_of_ble_eq_true rfl, Nat.le_of_ble_eq_true rfl⟩) hP hK hN (s_B_H27 X a d d2 B) (ci := 0) rfl rfl rfl ⟨Nat.le_of_ble_eq_true rfl, Nat.le_of_ble_eq_true rfl⟩ rfl hl.1 rfl (Nat.le_of_ble_eq_true rfl) dX4_minutesUntilServed_45 ?_
          refine lv_if_ne (pc := 48) (tgt := 53) hx hb dX4_minutesUntilServed_48 (by decide) (fun c_48 => ?_) (fun c_48 => ?_)
          · replace hf := z_in c_48 hf
            refine lv_aload_n (pc := 53) hx hb dX4_minutesUntilServed_53 rfl (lv_at hl 0 rfl) ?_
            refine va_get (pc := 54) (ci := 4) (C := RX4) (T := TX4) (N := 2) hx hb hts in_X4 hown hK hP 0 rfl rfl 1 (by decide) lk_fi16 (fun _ h9 => h9) rfl dX4_minutesUntilServed_54 ?_
            obtain ⟨x57, e57, hf⟩ := z_bd hf
            refine z_cmI (pc := 57) (W1 := (z_wB X a d d2 (B.1, x57.2))) S (m_X0_letMinuteGoBy l X d2 B.2 e57) (cwV 0 hts gX4_minutesUntilServed_X0_letMinuteGoBy rfl rfl rfl hdX0_letMinuteGoBy ⟨Nat.le_of_ble_eq_true rfl, Nat.le_of_ble_eq_true rfl⟩) hP hK hN hD hS hA (s_B_H27 X a d d2 B) (f_B_H27 X a d d2 B x57.2) (ci := 0) rfl rfl rfl ⟨Nat.le_of_ble_eq_true rfl, Nat.le_of_ble_eq_true rfl⟩ rfl hl.1 rfl (Nat.le_of_ble_eq_true rfl) dX4_minutesUntilServed_57 (fun H locs hP hD hS => ?_)
            refine lv_pop (pc := 60) hx hb dX4_minutesUntilServed_60 rfl ?_
            refine lv_iinc (pc := 61) (v := (u2 + 1)) (lv' := [(2, .int (u2 + 1)), (0, .ref a), (1, .int u1)]) hx hb dX4_minutesUntilServed_61 hl (k := 2) rfl rfl (by decide) rfl (fun ls hl => ?_)
            refine lv_goto (pc := 64) (tgt := 18) hx hb dX4_minutesUntilServed_64 (by decide) ?_
            exact ih u1 (u2 + 1) (B.1, x57.2) H locs hP hD hS ls (lv_sub hl [1, 2, 0] rfl) hf
          · replace hf := z_ip c_48 hf
            refine lv_iconst (v := (-1)) (pc := 51) hx hb dX4_minutesUntilServed_51 (by decide) ?_
            exact W.iret (pc := 52) (v := (-1)) hx hb hr (fun t ht hW => ⟨⟨_, (z_wB X a d d2 B), rfl, ⟨z_e1 hf, congrArg (fun z => (z_wB X a d d2 z)) (z_e2 hf)⟩, by rw [ht]; exact hP, hD⟩, hS.F ht⟩) hS.2.2 dX4_minutesUntilServed_52
        · replace hf := z_in c_35 hf
          refine lv_iload_n (pc := 38) hx hb dX4_minutesUntilServed_38 rfl (lv_at hl 2 rfl) ?_
          exact W.iret (pc := 39) (v := u2) hx hb hr (fun t ht hW => ⟨⟨_, (z_wB X a d d2 B), rfl, ⟨z_e1 hf, congrArg (fun z => (z_wB X a d d2 z)) (z_e2 hf)⟩, by rw [ht]; exact hP, hD⟩, hS.F ht⟩) hS.2.2 dX4_minutesUntilServed_39
  suffices hgo : ∀ (H : Heap) (locs : List Loc), va_P X.1 vwCl (z_wB X a d d2 B) H → va_D A (z_wB X a d d2 B) → va_S A s.heap H locs → W p l e (headSpec wsX4_minutesUntilServed (z_R 4 94)).room s m ([.ref a, .int v1] : List Value).toArray below meth c H locs 0 0 (MQ below (va_Qi (fun (z : Int32) (u : va_W) => z = RR.1 ∧ u = (z_wB X a d d2 RR.2)) (z_Bm X A) A) ([.ref a, .int v1] : List Value).toArray s 0 0 A) (F0 m 0 ls []) from hgo _ _ hP hD hS
  clear hP hD hS
  intro H locs hP hD hS
  unfold f_X4_minutesUntilServed at hf
  refine lv_aload_n (pc := 0) hx hb dX4_minutesUntilServed_0 rfl (lv_at hl 0 rfl) ?_
  refine lv_iload_n (pc := 1) hx hb dX4_minutesUntilServed_1 rfl (lv_at hl 1 rfl) ?_
  obtain ⟨x2, e2, hf⟩ := z_bd hf
  refine z_cpV (pc := 2) S (m_X4_requireRoom l X a d d2 B v1 e2) (cwV 1 hts gX4_minutesUntilServed_X4_requireRoom rfl rfl rfl hdX4_requireRoom ⟨Nat.le_of_ble_eq_true rfl, Nat.le_of_ble_eq_true rfl⟩) hP hK hN (s_B_B X a d d2 B) (ci := 4) rfl rfl rfl ⟨Nat.le_of_ble_eq_true rfl, Nat.le_of_ble_eq_true rfl⟩ rfl hl.1 rfl (Nat.le_of_ble_eq_true rfl) dX4_minutesUntilServed_2 ?_
  refine lv_aload_n (pc := 5) hx hb dX4_minutesUntilServed_5 rfl (lv_at hl 0 rfl) ?_
  refine va_get (pc := 6) (ci := 4) (C := RX4) (T := TX4) (N := 2) hx hb hts in_X4 hown hK hP 0 rfl rfl 1 (by decide) lk_fi16 (fun _ h9 => h9) rfl dX4_minutesUntilServed_6 ?_
  refine lv_aload_n (pc := 9) hx hb dX4_minutesUntilServed_9 rfl (lv_at hl 0 rfl) ?_
  refine va_get (pc := 10) (ci := 4) (C := RX4) (T := TX4) (N := 2) hx hb hts in_X4 hown hK hP 0 rfl rfl 0 (by decide) lk_fi10 (fun _ h9 => h9) rfl dX4_minutesUntilServed_10 ?_
  obtain ⟨x13, e13, hf⟩ := z_bd hf
  refine z_cmV (pc := 13) (W1 := (z_wB X a d d2 (B.1, x13))) S (m_X0_copyFrom l X d2 d B.2 B.1 e13) (cwV 1 hts gX4_minutesUntilServed_X0_copyFrom rfl rfl rfl hdX0_copyFrom ⟨Nat.le_of_ble_eq_true rfl, Nat.le_of_ble_eq_true rfl⟩) hP hK hN hD hS hA (s_B_HH27_1 X a d d2 B) (f_B_HH27_1 X a d d2 B x13) (ci := 0) rfl rfl rfl ⟨Nat.le_of_ble_eq_true rfl, Nat.le_of_ble_eq_true rfl⟩ rfl hl.1 rfl (Nat.le_of_ble_eq_true rfl) dX4_minutesUntilServed_13 (fun H locs hP hD hS => ?_)
  refine lv_iconst (v := 0) (pc := 16) hx hb dX4_minutesUntilServed_16 (by decide) ?_
  refine lv_istore_n (pc := 17) (lv' := [(2, .int 0), (0, .ref a), (1, .int v1)]) hx hb dX4_minutesUntilServed_17 rfl hl (by decide) rfl (fun ls hl => ?_)
  exact lp_18 z_FU v1 0 (B.1, x13) H locs hP hD hS ls (lv_sub hl [1, 2, 0] rfl) hf
def f_X4_serveInTrial_L4  : Nat → Int32 → Int32 → Int32 → z_B → Option (Int32 × z_B)
  | 0, _, _, _, _ => none
  | n + 1, u1, u2, u3, B => (if u1 ≤ u3 then some (u2, B) else (f_X0_isAnyoneWaiting B.2).bind (fun x13 => (if x13 = 0 then some (u2, B) else (f_X0_letMinuteGoBy B.2).bind (fun x24 => f_X4_serveInTrial_L4 n u1 (u2 + x24.1) (u3 + 1) (B.1, x24.2)))))
def f_X4_serveInTrial (B : z_B) (v1 : Int32) : Option (Int32 × z_B) := (f_X4_serveInTrial_L4 z_FU v1 0 0 B).bind (fun x4 => some (x4.1, x4.2))
set_option maxHeartbeats 4000000 in
set_option maxRecDepth 100000 in
theorem m_X4_serveInTrial (l : Launch) (X : z_X) (a : Nat) (d d2 : Nat → Nat) (B : z_B) (v1 : Int32) {RR : (Int32 × z_B)} (hf : f_X4_serveInTrial B v1 = some RR) : z_mI l yX4_serveInTrial wsX4_serveInTrial 4 94 X [.ref a, .int v1] (z_wB X a d d2 B) RR.1 (z_wB X a d d2 RR.2) := by
  intro sz
  refine Met.ofW (cc := cX4_serveInTrial) (maxL := 4) (ret := (some .int)) (by decide) rfl ?_
  intro p e s m args below meth c s₁ Bd hml hv
  obtain ⟨rfl, hsz, hP, hK, hN, hD0⟩ := hv
  have hx := Bd.exec
  have hb := Bd.bytes
  have hr := Bd.returns
  have hts := atoms_spec (ws := wsX4_serveInTrial) Bd.pre
  have hown : s.vm.findClass RX4 = some m.cls := findClass_of_methodNamed Bd.named
  have hlocks := Bd.notSynchronized
  have S : CallFix p m c cX4_serveInTrial 4 s _ wsX4_serveInTrial RX4 := ⟨hx, hb, hml, hown, hts⟩
  have lk_fi16 := hts (.fieldLink RX4 16 "HouseBells" "trial" "LHouseBells$House;") (List.mem_of_getElem? (i := 1) rfl)
  have in_X4 : ∀ w ∈ wsX40, w ∈ wsX4_serveInTrial := fun _ h => (List.mem_cons_of_mem _ (List.mem_append_left _ (List.mem_append_left _ (List.mem_append_left _ (List.mem_append_left _ (List.mem_append_right _ h))))))
  subst hsz
  have hD := hD0.self (sz := s.heap.size)
  generalize hAe : va_A (z_wB X a d d2 B) s.heap.size = A at hD ⊢
  have hA : ∀ q : Nat, s.heap.size ≤ q → A q := fun q h => by rw [← hAe]; exact Or.inr h
  have hS : va_S A s.heap s.heap [] := va_S.rf
  have hl := lv_entry ([.ref a, .int v1]) (n := 4) (Nat.le_of_ble_eq_true rfl)
  rw [lg_entry_eq]
  generalize (lg_sl ([.ref a, .int v1]) ++ List.replicate (4 - (lg_sl ([.ref a, .int v1])).length) Slot.unset).toArray = ls at hl ⊢
  have hl : lv_has ls 4 [(0, .ref a), (1, .int v1)] := hl
  have lp_4 : ∀ (n : Nat) (u1 : Int32) (u2 : Int32) (u3 : Int32) (B : z_B) (T : (Int32 × z_B)) (H : Heap) (locs : List Loc), va_P X.1 vwCl (z_wB X a d d2 B) H → va_D A (z_wB X a d d2 B) → va_S A s.heap H locs → ∀ (ls : Array Slot), lv_has ls 4 [(0, .ref a), (1, .int u1), (2, .int u2), (3, .int u3)] → f_X4_serveInTrial_L4 n u1 u2 u3 B = some T → (∀ (H : Heap) (locs : List Loc), va_P X.1 vwCl (z_wB X a d d2 T.2) H → va_D A (z_wB X a d d2 T.2) → va_S A s.heap H locs → ∀ (ls : Array Slot), lv_has ls 4 [(2, .int T.1)] → W p l e (headSpec wsX4_serveInTrial (z_R 4 94)).room s m ([.ref a, .int v1] : List Value).toArray below meth c H locs 0 0 (MQ below (va_Qi (fun (z : Int32) (u : va_W) => z = RR.1 ∧ u = (z_wB X a d d2 RR.2)) (z_Bm X A) A) ([.ref a, .int v1] : List Value).toArray s 0 0 A) (F0 m 35 ls [])) → W p l e (headSpec wsX4_serveInTrial (z_R 4 94)).room s m ([.ref a, .int v1] : List Value).toArray below meth c H locs 0 0 (MQ below (va_Qi (fun (z : Int32) (u : va_W) => z = RR.1 ∧ u = (z_wB X a d d2 RR.2)) (z_Bm X A) A) ([.ref a, .int v1] : List Value).toArray s 0 0 A) (F0 m 4 ls []) := by
    intro n
    induction n with
    | zero =>
      intro u1 u2 u3 B T H locs hP hD hS ls hl hf kk
      cases hf
    | succ n ih =>
      intro u1 u2 u3 B T H locs hP hD hS ls hl hf kk
      rw [f_X4_serveInTrial_L4] at hf
      refine lv_iload_n (pc := 4) hx hb dX4_serveInTrial_4 rfl (lv_at hl 3 rfl) ?_
      refine lv_iload_n (pc := 5) hx hb dX4_serveInTrial_5 rfl (lv_at hl 1 rfl) ?_
      refine lv_icmp_ge (pc := 6) (tgt := 35) hx hb dX4_serveInTrial_6 (by decide) (fun c_6 => ?_) (fun c_6 => ?_)
      · replace hf := z_ip c_6 hf
        obtain rfl := Option.some.inj hf
        exact kk H locs hP hD hS ls (lv_sub hl [2] rfl)
      · replace hf := z_in c_6 hf
        refine lv_aload_n (pc := 9) hx hb dX4_serveInTrial_9 rfl (lv_at hl 0 rfl) ?_
        refine va_get (pc := 10) (ci := 4) (C := RX4) (T := TX4) (N := 2) hx hb hts in_X4 hown hK hP 0 rfl rfl 1 (by decide) lk_fi16 (fun _ h9 => h9) rfl dX4_serveInTrial_10 ?_
        obtain ⟨x13, e13, hf⟩ := z_bd hf
        refine z_cpI (pc := 13) S (m_X0_isAnyoneWaiting l X d2 B.2 e13) (cwV 0 hts gX4_serveInTrial_X0_isAnyoneWaiting rfl rfl rfl hdX0_isAnyoneWaiting ⟨Nat.le_of_ble_eq_true rfl, Nat.le_of_ble_eq_true rfl⟩) hP hK hN (s_B_H27 X a d d2 B) (ci := 0) rfl rfl rfl ⟨Nat.le_of_ble_eq_true rfl, Nat.le_of_ble_eq_true rfl⟩ rfl hl.1 rfl (Nat.le_of_ble_eq_true rfl) dX4_serveInTrial_13 ?_
        refine lv_if_eq (pc := 16) (tgt := 35) hx hb dX4_serveInTrial_16 (by decide) (fun c_16 => ?_) (fun c_16 => ?_)
        · replace hf := z_ip c_16 hf
          obtain rfl := Option.some.inj hf
          exact kk H locs hP hD hS ls (lv_sub hl [2] rfl)
        · replace hf := z_in c_16 hf
          refine lv_iload_n (pc := 19) hx hb dX4_serveInTrial_19 rfl (lv_at hl 2 rfl) ?_
          refine lv_aload_n (pc := 20) hx hb dX4_serveInTrial_20 rfl (lv_at hl 0 rfl) ?_
          refine va_get (pc := 21) (ci := 4) (C := RX4) (T := TX4) (N := 2) hx hb hts in_X4 hown hK hP 0 rfl rfl 1 (by decide) lk_fi16 (fun _ h9 => h9) rfl dX4_serveInTrial_21 ?_
          obtain ⟨x24, e24, hf⟩ := z_bd hf
          refine z_cmI (pc := 24) (W1 := (z_wB X a d d2 (B.1, x24.2))) S (m_X0_letMinuteGoBy l X d2 B.2 e24) (cwV 0 hts gX4_serveInTrial_X0_letMinuteGoBy rfl rfl rfl hdX0_letMinuteGoBy ⟨Nat.le_of_ble_eq_true rfl, Nat.le_of_ble_eq_true rfl⟩) hP hK hN hD hS hA (s_B_H27 X a d d2 B) (f_B_H27 X a d d2 B x24.2) (ci := 0) rfl rfl rfl ⟨Nat.le_of_ble_eq_true rfl, Nat.le_of_ble_eq_true rfl⟩ rfl hl.1 rfl (Nat.le_of_ble_eq_true rfl) dX4_serveInTrial_24 (fun H locs hP hD hS => ?_)
          refine lv_iadd (pc := 27) hx hb dX4_serveInTrial_27 ?_
          refine lv_istore_n (pc := 28) (lv' := [(2, .int (u2 + x24.1)), (0, .ref a), (1, .int u1), (3, .int u3)]) hx hb dX4_serveInTrial_28 rfl hl (by decide) rfl (fun ls hl => ?_)
          refine lv_iinc (pc := 29) (v := (u3 + 1)) (lv' := [(3, .int (u3 + 1)), (2, .int (u2 + x24.1)), (0, .ref a), (1, .int u1)]) hx hb dX4_serveInTrial_29 hl (k := 3) rfl rfl (by decide) rfl (fun ls hl => ?_)
          refine lv_goto (pc := 32) (tgt := 4) hx hb dX4_serveInTrial_32 (by decide) ?_
          exact ih u1 (u2 + x24.1) (u3 + 1) (B.1, x24.2) T H locs hP hD hS ls (lv_sub hl [2, 3, 1, 0] rfl) hf kk
  suffices hgo : ∀ (H : Heap) (locs : List Loc), va_P X.1 vwCl (z_wB X a d d2 B) H → va_D A (z_wB X a d d2 B) → va_S A s.heap H locs → W p l e (headSpec wsX4_serveInTrial (z_R 4 94)).room s m ([.ref a, .int v1] : List Value).toArray below meth c H locs 0 0 (MQ below (va_Qi (fun (z : Int32) (u : va_W) => z = RR.1 ∧ u = (z_wB X a d d2 RR.2)) (z_Bm X A) A) ([.ref a, .int v1] : List Value).toArray s 0 0 A) (F0 m 0 ls []) from hgo _ _ hP hD hS
  clear hP hD hS
  intro H locs hP hD hS
  unfold f_X4_serveInTrial at hf
  refine lv_iconst (v := 0) (pc := 0) hx hb dX4_serveInTrial_0 (by decide) ?_
  refine lv_istore_n (pc := 1) (lv' := [(2, .int 0), (0, .ref a), (1, .int v1)]) hx hb dX4_serveInTrial_1 rfl hl (by decide) rfl (fun ls hl => ?_)
  refine lv_iconst (v := 0) (pc := 2) hx hb dX4_serveInTrial_2 (by decide) ?_
  refine lv_istore_n (pc := 3) (lv' := [(3, .int 0), (2, .int 0), (0, .ref a), (1, .int v1)]) hx hb dX4_serveInTrial_3 rfl hl (by decide) rfl (fun ls hl => ?_)
  obtain ⟨x4, e4, hf⟩ := z_bd hf
  refine lp_4 z_FU v1 0 0 B x4 H locs hP hD hS ls (lv_sub hl [2, 3, 1, 0] rfl) e4 (fun H locs hP hD hS ls hl => ?_)
  refine lv_iload_n (pc := 35) hx hb dX4_serveInTrial_35 rfl (lv_at hl 0 rfl) ?_
  exact W.iret (pc := 36) (v := x4.1) hx hb hr (fun t ht hW => ⟨⟨_, (z_wB X a d d2 x4.2), rfl, ⟨z_e1 hf, congrArg (fun z => (z_wB X a d d2 z)) (z_e2 hf)⟩, by rw [ht]; exact hP, hD⟩, hS.F ht⟩) hS.2.2 dX4_serveInTrial_36
def f_X4_servedIn (B : z_B) (v1 : Int32) : Option (Int32 × z_B) := (f_X4_requireMinutes v1).bind (fun x1 => (f_X0_copyFrom B.2 B.1).bind (fun x12 => (f_X4_serveInTrial (B.1, x12) v1).bind (fun x17 => some (x17.1, x17.2))))
set_option maxHeartbeats 4000000 in
set_option maxRecDepth 100000 in
theorem m_X4_servedIn (l : Launch) (X : z_X) (a : Nat) (d d2 : Nat → Nat) (B : z_B) (v1 : Int32) {RR : (Int32 × z_B)} (hf : f_X4_servedIn B v1 = some RR) : z_mI l yX4_servedIn wsX4_servedIn 5 117 X [.ref a, .int v1] (z_wB X a d d2 B) RR.1 (z_wB X a d d2 RR.2) := by
  intro sz
  refine Met.ofW (cc := cX4_servedIn) (maxL := 2) (ret := (some .int)) (by decide) rfl ?_
  intro p e s m args below meth c s₁ Bd hml hv
  obtain ⟨rfl, hsz, hP, hK, hN, hD0⟩ := hv
  have hx := Bd.exec
  have hb := Bd.bytes
  have hr := Bd.returns
  have hts := atoms_spec (ws := wsX4_servedIn) Bd.pre
  have hown : s.vm.findClass RX4 = some m.cls := findClass_of_methodNamed Bd.named
  have hlocks := Bd.notSynchronized
  have S : CallFix p m c cX4_servedIn 2 s _ wsX4_servedIn RX4 := ⟨hx, hb, hml, hown, hts⟩
  have lk_fi16 := hts (.fieldLink RX4 16 "HouseBells" "trial" "LHouseBells$House;") (List.mem_of_getElem? (i := 1) rfl)
  have lk_fi10 := hts (.fieldLink RX4 10 "HouseBells" "house" "LHouseBells$House;") (List.mem_of_getElem? (i := 2) rfl)
  have in_X4 : ∀ w ∈ wsX40, w ∈ wsX4_servedIn := fun _ h => (List.mem_cons_of_mem _ (List.mem_append_left _ (List.mem_append_left _ (List.mem_append_left _ (List.mem_append_left _ (List.mem_append_left _ (List.mem_append_right _ h)))))))
  subst hsz
  have hD := hD0.self (sz := s.heap.size)
  generalize hAe : va_A (z_wB X a d d2 B) s.heap.size = A at hD ⊢
  have hA : ∀ q : Nat, s.heap.size ≤ q → A q := fun q h => by rw [← hAe]; exact Or.inr h
  have hS : va_S A s.heap s.heap [] := va_S.rf
  have hl := lv_entry ([.ref a, .int v1]) (n := 2) (Nat.le_of_ble_eq_true rfl)
  rw [lg_entry_eq]
  generalize (lg_sl ([.ref a, .int v1]) ++ List.replicate (2 - (lg_sl ([.ref a, .int v1])).length) Slot.unset).toArray = ls at hl ⊢
  have hl : lv_has ls 2 [(0, .ref a), (1, .int v1)] := hl
  suffices hgo : ∀ (H : Heap) (locs : List Loc), va_P X.1 vwCl (z_wB X a d d2 B) H → va_D A (z_wB X a d d2 B) → va_S A s.heap H locs → W p l e (headSpec wsX4_servedIn (z_R 5 117)).room s m ([.ref a, .int v1] : List Value).toArray below meth c H locs 0 0 (MQ below (va_Qi (fun (z : Int32) (u : va_W) => z = RR.1 ∧ u = (z_wB X a d d2 RR.2)) (z_Bm X A) A) ([.ref a, .int v1] : List Value).toArray s 0 0 A) (F0 m 0 ls []) from hgo _ _ hP hD hS
  clear hP hD hS
  intro H locs hP hD hS
  unfold f_X4_servedIn at hf
  refine lv_iload_n (pc := 0) hx hb dX4_servedIn_0 rfl (lv_at hl 1 rfl) ?_
  obtain ⟨x1, e1, hf⟩ := z_bd hf
  refine z_csV (pc := 1) S (m_X4_requireMinutes l X v1 e1) (va_cwS 1 hts gX4_servedIn_X4_requireMinutes rfl rfl rfl hdX4_requireMinutes ⟨Nat.le_of_ble_eq_true rfl, Nat.le_of_ble_eq_true rfl⟩) hP hK hN (s_nil _) ⟨Nat.le_of_ble_eq_true rfl, Nat.le_of_ble_eq_true rfl⟩ rfl hl.1 rfl (Nat.le_of_ble_eq_true rfl) dX4_servedIn_1 ?_
  refine lv_aload_n (pc := 4) hx hb dX4_servedIn_4 rfl (lv_at hl 0 rfl) ?_
  refine va_get (pc := 5) (ci := 4) (C := RX4) (T := TX4) (N := 2) hx hb hts in_X4 hown hK hP 0 rfl rfl 1 (by decide) lk_fi16 (fun _ h9 => h9) rfl dX4_servedIn_5 ?_
  refine lv_aload_n (pc := 8) hx hb dX4_servedIn_8 rfl (lv_at hl 0 rfl) ?_
  refine va_get (pc := 9) (ci := 4) (C := RX4) (T := TX4) (N := 2) hx hb hts in_X4 hown hK hP 0 rfl rfl 0 (by decide) lk_fi10 (fun _ h9 => h9) rfl dX4_servedIn_9 ?_
  obtain ⟨x12, e12, hf⟩ := z_bd hf
  refine z_cmV (pc := 12) (W1 := (z_wB X a d d2 (B.1, x12))) S (m_X0_copyFrom l X d2 d B.2 B.1 e12) (cwV 1 hts gX4_servedIn_X0_copyFrom rfl rfl rfl hdX0_copyFrom ⟨Nat.le_of_ble_eq_true rfl, Nat.le_of_ble_eq_true rfl⟩) hP hK hN hD hS hA (s_B_HH27_1 X a d d2 B) (f_B_HH27_1 X a d d2 B x12) (ci := 0) rfl rfl rfl ⟨Nat.le_of_ble_eq_true rfl, Nat.le_of_ble_eq_true rfl⟩ rfl hl.1 rfl (Nat.le_of_ble_eq_true rfl) dX4_servedIn_12 (fun H locs hP hD hS => ?_)
  refine lv_aload_n (pc := 15) hx hb dX4_servedIn_15 rfl (lv_at hl 0 rfl) ?_
  refine lv_iload_n (pc := 16) hx hb dX4_servedIn_16 rfl (lv_at hl 1 rfl) ?_
  obtain ⟨x17, e17, hf⟩ := z_bd hf
  refine z_cmI (pc := 17) (W1 := (z_wB X a d d2 x17.2)) S (m_X4_serveInTrial l X a d d2 (B.1, x12) v1 e17) (cwV 1 hts gX4_servedIn_X4_serveInTrial rfl rfl rfl hdX4_serveInTrial ⟨Nat.le_of_ble_eq_true rfl, Nat.le_of_ble_eq_true rfl⟩) hP hK hN hD hS hA (s_B_B X a d d2 (B.1, x12)) (f_B_B X a d d2 (B.1, x12) x17.2) (ci := 4) rfl rfl rfl ⟨Nat.le_of_ble_eq_true rfl, Nat.le_of_ble_eq_true rfl⟩ rfl hl.1 rfl (Nat.le_of_ble_eq_true rfl) dX4_servedIn_17 (fun H locs hP hD hS => ?_)
  exact W.iret (pc := 20) (v := x17.1) hx hb hr (fun t ht hW => ⟨⟨_, (z_wB X a d d2 x17.2), rfl, ⟨z_e1 hf, congrArg (fun z => (z_wB X a d d2 z)) (z_e2 hf)⟩, by rw [ht]; exact hP, hD⟩, hS.F ht⟩) hS.2.2 dX4_servedIn_20
def f_X4_bestToCross_L28  : Nat → Int32 → Int32 → Int32 → Int32 → z_B → Option (Int32 × z_B)
  | 0, _, _, _, _, _ => none
  | n + 1, u1, u2, u3, u4, B => (if (B.1.1 1) ≤ u4 then some (u3, B) else (if u4 = u1 then f_X4_bestToCross_L28 n u1 u2 u3 (u4 + 1) B else (f_X0_copyFrom B.2 B.1).bind (fun x57 => (f_X4_serveInTrial (B.1, (f_X0_swapWires x57 u1 u4)) 40).bind (fun x73 => (if x73.1 ≤ u2 then f_X4_bestToCross_L28 n u1 u2 u3 (u4 + 1) x73.2 else f_X4_bestToCross_L28 n u1 x73.1 u4 (u4 + 1) x73.2)))))
def f_X4_bestToCross (B : z_B) (v1 : Int32) : Option (Int32 × z_B) := (f_X4_requireRoom B v1).bind (fun x2 => (f_X0_copyFrom B.2 B.1).bind (fun x13 => (f_X4_serveInTrial (B.1, x13) 40).bind (fun x19 => (f_X4_bestToCross_L28 z_FU v1 x19.1 (-1) 0 x19.2).bind (fun x28 => some (x28.1, x28.2)))))
set_option maxHeartbeats 4000000 in
set_option maxRecDepth 100000 in
theorem m_X4_bestToCross (l : Launch) (X : z_X) (a : Nat) (d d2 : Nat → Nat) (B : z_B) (v1 : Int32) {RR : (Int32 × z_B)} (hf : f_X4_bestToCross B v1 = some RR) : z_mI l yX4_bestToCross wsX4_bestToCross 5 117 X [.ref a, .int v1] (z_wB X a d d2 B) RR.1 (z_wB X a d d2 RR.2) := by
  intro sz
  refine Met.ofW (cc := cX4_bestToCross) (maxL := 6) (ret := (some .int)) (by decide) rfl ?_
  intro p e s m args below meth c s₁ Bd hml hv
  obtain ⟨rfl, hsz, hP, hK, hN, hD0⟩ := hv
  have hx := Bd.exec
  have hb := Bd.bytes
  have hr := Bd.returns
  have hts := atoms_spec (ws := wsX4_bestToCross) Bd.pre
  have hown : s.vm.findClass RX4 = some m.cls := findClass_of_methodNamed Bd.named
  have hlocks := Bd.notSynchronized
  have S : CallFix p m c cX4_bestToCross 6 s _ wsX4_bestToCross RX4 := ⟨hx, hb, hml, hown, hts⟩
  have lk_fi16 := hts (.fieldLink RX4 16 "HouseBells" "trial" "LHouseBells$House;") (List.mem_of_getElem? (i := 1) rfl)
  have lk_fi10 := hts (.fieldLink RX4 10 "HouseBells" "house" "LHouseBells$House;") (List.mem_of_getElem? (i := 2) rfl)
  have in_X0 : ∀ w ∈ wsX00, w ∈ wsX4_bestToCross := fun _ h => (List.mem_cons_of_mem _ (List.mem_append_left _ (List.mem_append_left _ (List.mem_append_left _ (List.mem_append_left _ (List.mem_append_right _ h))))))
  have in_X4 : ∀ w ∈ wsX40, w ∈ wsX4_bestToCross := fun _ h => (List.mem_cons_of_mem _ (List.mem_append_left _ (List.mem_append_left _ (List.mem_append_left _ (List.mem_append_left _ (List.mem_append_left _ (List.mem_append_right _ h)))))))
  subst hsz
  have hD := hD0.self (sz := s.heap.size)
  generalize hAe : va_A (z_wB X a d d2 B) s.heap.size = A at hD ⊢
  have hA : ∀ q : Nat, s.heap.size ≤ q → A q := fun q h => by rw [← hAe]; exact Or.inr h
  have hS : va_S A s.heap s.heap [] := va_S.rf
  have hl := lv_entry ([.ref a, .int v1]) (n := 6) (Nat.le_of_ble_eq_true rfl)
  rw [lg_entry_eq]
  generalize (lg_sl ([.ref a, .int v1]) ++ List.replicate (6 - (lg_sl ([.ref a, .int v1])).length) Slot.unset).toArray = ls at hl ⊢
  have hl : lv_has ls 6 [(0, .ref a), (1, .int v1)] := hl
  have lp_28 : ∀ (n : Nat) (u1 : Int32) (u2 : Int32) (u3 : Int32) (u4 : Int32) (B : z_B) (T : (Int32 × z_B)) (H : Heap) (locs : List Loc), va_P X.1 vwCl (z_wB X a d d2 B) H → va_D A (z_wB X a d d2 B) → va_S A s.heap H locs → ∀ (ls : Array Slot), lv_has ls 6 [(0, .ref a), (1, .int u1), (2, .int u2), (3, .int u3), (4, .int u4)] → f_X4_bestToCross_L28 n u1 u2 u3 u4 B = some T → (∀ (H : Heap) (locs : List Loc), va_P X.1 vwCl (z_wB X a d d2 T.2) H → va_D A (z_wB X a d d2 T.2) → va_S A s.heap H locs → ∀ (ls : Array Slot), lv_has ls 6 [(3, .int T.1)] → W p l e (headSpec wsX4_bestToCross (z_R 5 117)).room s m ([.ref a, .int v1] : List Value).toArray below meth c H locs 0 0 (MQ below (va_Qi (fun (z : Int32) (u : va_W) => z = RR.1 ∧ u = (z_wB X a d d2 RR.2)) (z_Bm X A) A) ([.ref a, .int v1] : List Value).toArray s 0 0 A) (F0 m 96 ls [])) → W p l e (headSpec wsX4_bestToCross (z_R 5 117)).room s m ([.ref a, .int v1] : List Value).toArray below meth c H locs 0 0 (MQ below (va_Qi (fun (z : Int32) (u : va_W) => z = RR.1 ∧ u = (z_wB X a d d2 RR.2)) (z_Bm X A) A) ([.ref a, .int v1] : List Value).toArray s 0 0 A) (F0 m 28 ls []) := by
    intro n
    induction n with
    | zero =>
      intro u1 u2 u3 u4 B T H locs hP hD hS ls hl hf kk
      cases hf
    | succ n ih =>
      intro u1 u2 u3 u4 B T H locs hP hD hS ls hl hf kk
      rw [f_X4_bestToCross_L28] at hf
      refine lv_iload (pc := 28) hx hb dX4_bestToCross_28 (lv_at hl 4 rfl) ?_
      refine lv_aload_n (pc := 30) hx hb dX4_bestToCross_30 rfl (lv_at hl 0 rfl) ?_
      refine va_get (pc := 31) (ci := 4) (C := RX4) (T := TX4) (N := 2) hx hb hts in_X4 hown hK hP 0 rfl rfl 0 (by decide) lk_fi10 (fun _ h9 => h9) rfl dX4_bestToCross_31 ?_
      refine va_getN (pc := 34) (ci := 0) (C := RX0) (T := TX0) (N := 15) hx hb hts in_X0 hown hK hP 1 rfl rfl 1 (by decide) (z_n13 hN) (fun _ h9 => h9) rfl dX4_bestToCross_34 ?_
      refine lv_icmp_ge (pc := 37) (tgt := 96) hx hb dX4_bestToCross_37 (by decide) (fun c_37 => ?_) (fun c_37 => ?_)
      · replace hf := z_ip c_37 hf
        obtain rfl := Option.some.inj hf
        exact kk H locs hP hD hS ls (lv_sub hl [3] rfl)
      · replace hf := z_in c_37 hf
        refine lv_iload (pc := 40) hx hb dX4_bestToCross_40 (lv_at hl 4 rfl) ?_
        refine lv_iload_n (pc := 42) hx hb dX4_bestToCross_42 rfl (lv_at hl 1 rfl) ?_
        refine lv_icmp_ne (pc := 43) (tgt := 49) hx hb dX4_bestToCross_43 (by decide) (fun c_43 => ?_) (fun c_43 => ?_)
        · replace hf := z_in c_43 hf
          refine lv_aload_n (pc := 49) hx hb dX4_bestToCross_49 rfl (lv_at hl 0 rfl) ?_
          refine va_get (pc := 50) (ci := 4) (C := RX4) (T := TX4) (N := 2) hx hb hts in_X4 hown hK hP 0 rfl rfl 1 (by decide) lk_fi16 (fun _ h9 => h9) rfl dX4_bestToCross_50 ?_
          refine lv_aload_n (pc := 53) hx hb dX4_bestToCross_53 rfl (lv_at hl 0 rfl) ?_
          refine va_get (pc := 54) (ci := 4) (C := RX4) (T := TX4) (N := 2) hx hb hts in_X4 hown hK hP 0 rfl rfl 0 (by decide) lk_fi10 (fun _ h9 => h9) rfl dX4_bestToCross_54 ?_
          obtain ⟨x57, e57, hf⟩ := z_bd hf
          refine z_cmV (pc := 57) (W1 := (z_wB X a d d2 (B.1, x57))) S (m_X0_copyFrom l X d2 d B.2 B.1 e57) (cwV 1 hts gX4_bestToCross_X0_copyFrom rfl rfl rfl hdX0_copyFrom ⟨Nat.le_of_ble_eq_true rfl, Nat.le_of_ble_eq_true rfl⟩) hP hK hN hD hS hA (s_B_HH27_1 X a d d2 B) (f_B_HH27_1 X a d d2 B x57) (ci := 0) rfl rfl rfl ⟨Nat.le_of_ble_eq_true rfl, Nat.le_of_ble_eq_true rfl⟩ rfl hl.1 rfl (Nat.le_of_ble_eq_true rfl) dX4_bestToCross_57 (fun H locs hP hD hS => ?_)
          refine lv_aload_n (pc := 60) hx hb dX4_bestToCross_60 rfl (lv_at hl 0 rfl) ?_
          refine va_get (pc := 61) (ci := 4) (C := RX4) (T := TX4) (N := 2) hx hb hts in_X4 hown hK hP 0 rfl rfl 1 (by decide) lk_fi16 (fun _ h9 => h9) rfl dX4_bestToCross_61 ?_
          refine lv_iload_n (pc := 64) hx hb dX4_bestToCross_64 rfl (lv_at hl 1 rfl) ?_
          refine lv_iload (pc := 65) hx hb dX4_bestToCross_65 (lv_at hl 4 rfl) ?_
          refine z_cmV (pc := 67) (W1 := (z_wB X a d d2 (B.1, (f_X0_swapWires x57 u1 u4)))) S (m_X0_swapWires l X d2 x57 u1 u4 rfl) (cwV 2 hts gX4_bestToCross_X0_swapWires rfl rfl rfl hdX0_swapWires ⟨Nat.le_of_ble_eq_true rfl, Nat.le_of_ble_eq_true rfl⟩) hP hK hN hD hS hA (s_B_H27 X a d d2 (B.1, x57)) (f_B_H27 X a d d2 (B.1, x57) (f_X0_swapWires x57 u1 u4)) (ci := 0) rfl rfl rfl ⟨Nat.le_of_ble_eq_true rfl, Nat.le_of_ble_eq_true rfl⟩ rfl hl.1 rfl (Nat.le_of_ble_eq_true rfl) dX4_bestToCross_67 (fun H locs hP hD hS => ?_)
          refine lv_aload_n (pc := 70) hx hb dX4_bestToCross_70 rfl (lv_at hl 0 rfl) ?_
          refine lv_bipush (v := 40) (pc := 71) hx hb dX4_bestToCross_71 (by decide) ?_
          obtain ⟨x73, e73, hf⟩ := z_bd hf
          refine z_cmI (pc := 73) (W1 := (z_wB X a d d2 x73.2)) S (m_X4_serveInTrial l X a d d2 (B.1, (f_X0_swapWires x57 u1 u4)) 40 e73) (cwV 1 hts gX4_bestToCross_X4_serveInTrial rfl rfl rfl hdX4_serveInTrial ⟨Nat.le_of_ble_eq_true rfl, Nat.le_of_ble_eq_true rfl⟩) hP hK hN hD hS hA (s_B_B X a d d2 (B.1, (f_X0_swapWires x57 u1 u4))) (f_B_B X a d d2 (B.1, (f_X0_swapWires x57 u1 u4)) x73.2) (ci := 4) rfl rfl rfl ⟨Nat.le_of_ble_eq_true rfl, Nat.le_of_ble_eq_true rfl⟩ rfl hl.1 rfl (Nat.le_of_ble_eq_true rfl) dX4_bestToCross_73 (fun H locs hP hD hS => ?_)
          refine lv_istore (pc := 76) (lv' := [(5, .int x73.1), (0, .ref a), (1, .int u1), (2, .int u2), (3, .int u3), (4, .int u4)]) hx hb dX4_bestToCross_76 hl (by decide) rfl (fun ls hl => ?_)
          refine lv_iload (pc := 78) hx hb dX4_bestToCross_78 (lv_at hl 0 rfl) ?_
          refine lv_iload_n (pc := 80) hx hb dX4_bestToCross_80 rfl (lv_at hl 3 rfl) ?_
          refine lv_icmp_le (pc := 81) (tgt := 90) hx hb dX4_bestToCross_81 (by decide) (fun c_81 => ?_) (fun c_81 => ?_)
          · replace hf := z_ip c_81 hf
            refine lv_iinc (pc := 90) (v := (u4 + 1)) (lv' := [(4, .int (u4 + 1)), (5, .int x73.1), (0, .ref a), (1, .int u1), (2, .int u2), (3, .int u3)]) hx hb dX4_bestToCross_90 hl (k := 5) rfl rfl (by decide) rfl (fun ls hl => ?_)
            refine lv_goto (pc := 93) (tgt := 28) hx hb dX4_bestToCross_93 (by decide) ?_
            exact ih u1 u2 u3 (u4 + 1) x73.2 T H locs hP hD hS ls (lv_sub hl [2, 3, 4, 5, 0] rfl) hf kk
          · replace hf := z_in c_81 hf
            refine lv_iload (pc := 84) hx hb dX4_bestToCross_84 (lv_at hl 0 rfl) ?_
            refine lv_istore_n (pc := 86) (lv' := [(2, .int x73.1), (5, .int x73.1), (0, .ref a), (1, .int u1), (3, .int u3), (4, .int u4)]) hx hb dX4_bestToCross_86 rfl hl (by decide) rfl (fun ls hl => ?_)
            refine lv_iload (pc := 87) hx hb dX4_bestToCross_87 (lv_at hl 5 rfl) ?_
            refine lv_istore_n (pc := 89) (lv' := [(3, .int u4), (2, .int x73.1), (5, .int x73.1), (0, .ref a), (1, .int u1), (4, .int u4)]) hx hb dX4_bestToCross_89 rfl hl (by decide) rfl (fun ls hl => ?_)
            refine lv_iinc (pc := 90) (v := (u4 + 1)) (lv' := [(4, .int (u4 + 1)), (3, .int u4), (2, .int x73.1), (5, .int x73.1), (0, .ref a), (1, .int u1)]) hx hb dX4_bestToCross_90 hl (k := 5) rfl rfl (by decide) rfl (fun ls hl => ?_)
            refine lv_goto (pc := 93) (tgt := 28) hx hb dX4_bestToCross_93 (by decide) ?_
            exact ih u1 x73.1 u4 (u4 + 1) x73.2 T H locs hP hD hS ls (lv_sub hl [4, 5, 2, 1, 0] rfl) hf kk
        · replace hf := z_ip c_43 hf
          refine lv_goto (pc := 46) (tgt := 90) hx hb dX4_bestToCross_46 (by decide) ?_
          refine lv_iinc (pc := 90) (v := (u4 + 1)) (lv' := [(4, .int (u4 + 1)), (0, .ref a), (1, .int u1), (2, .int u2), (3, .int u3)]) hx hb dX4_bestToCross_90 hl (k := 4) rfl rfl (by decide) rfl (fun ls hl => ?_)
          refine lv_goto (pc := 93) (tgt := 28) hx hb dX4_bestToCross_93 (by decide) ?_
          exact ih u1 u2 u3 (u4 + 1) B T H locs hP hD hS ls (lv_sub hl [1, 2, 3, 4, 0] rfl) hf kk
  suffices hgo : ∀ (H : Heap) (locs : List Loc), va_P X.1 vwCl (z_wB X a d d2 B) H → va_D A (z_wB X a d d2 B) → va_S A s.heap H locs → W p l e (headSpec wsX4_bestToCross (z_R 5 117)).room s m ([.ref a, .int v1] : List Value).toArray below meth c H locs 0 0 (MQ below (va_Qi (fun (z : Int32) (u : va_W) => z = RR.1 ∧ u = (z_wB X a d d2 RR.2)) (z_Bm X A) A) ([.ref a, .int v1] : List Value).toArray s 0 0 A) (F0 m 0 ls []) from hgo _ _ hP hD hS
  clear hP hD hS
  intro H locs hP hD hS
  unfold f_X4_bestToCross at hf
  refine lv_aload_n (pc := 0) hx hb dX4_bestToCross_0 rfl (lv_at hl 0 rfl) ?_
  refine lv_iload_n (pc := 1) hx hb dX4_bestToCross_1 rfl (lv_at hl 1 rfl) ?_
  obtain ⟨x2, e2, hf⟩ := z_bd hf
  refine z_cpV (pc := 2) S (m_X4_requireRoom l X a d d2 B v1 e2) (cwV 1 hts gX4_bestToCross_X4_requireRoom rfl rfl rfl hdX4_requireRoom ⟨Nat.le_of_ble_eq_true rfl, Nat.le_of_ble_eq_true rfl⟩) hP hK hN (s_B_B X a d d2 B) (ci := 4) rfl rfl rfl ⟨Nat.le_of_ble_eq_true rfl, Nat.le_of_ble_eq_true rfl⟩ rfl hl.1 rfl (Nat.le_of_ble_eq_true rfl) dX4_bestToCross_2 ?_
  refine lv_aload_n (pc := 5) hx hb dX4_bestToCross_5 rfl (lv_at hl 0 rfl) ?_
  refine va_get (pc := 6) (ci := 4) (C := RX4) (T := TX4) (N := 2) hx hb hts in_X4 hown hK hP 0 rfl rfl 1 (by decide) lk_fi16 (fun _ h9 => h9) rfl dX4_bestToCross_6 ?_
  refine lv_aload_n (pc := 9) hx hb dX4_bestToCross_9 rfl (lv_at hl 0 rfl) ?_
  refine va_get (pc := 10) (ci := 4) (C := RX4) (T := TX4) (N := 2) hx hb hts in_X4 hown hK hP 0 rfl rfl 0 (by decide) lk_fi10 (fun _ h9 => h9) rfl dX4_bestToCross_10 ?_
  obtain ⟨x13, e13, hf⟩ := z_bd hf
  refine z_cmV (pc := 13) (W1 := (z_wB X a d d2 (B.1, x13))) S (m_X0_copyFrom l X d2 d B.2 B.1 e13) (cwV 1 hts gX4_bestToCross_X0_copyFrom rfl rfl rfl hdX0_copyFrom ⟨Nat.le_of_ble_eq_true rfl, Nat.le_of_ble_eq_true rfl⟩) hP hK hN hD hS hA (s_B_HH27_1 X a d d2 B) (f_B_HH27_1 X a d d2 B x13) (ci := 0) rfl rfl rfl ⟨Nat.le_of_ble_eq_true rfl, Nat.le_of_ble_eq_true rfl⟩ rfl hl.1 rfl (Nat.le_of_ble_eq_true rfl) dX4_bestToCross_13 (fun H locs hP hD hS => ?_)
  refine lv_aload_n (pc := 16) hx hb dX4_bestToCross_16 rfl (lv_at hl 0 rfl) ?_
  refine lv_bipush (v := 40) (pc := 17) hx hb dX4_bestToCross_17 (by decide) ?_
  obtain ⟨x19, e19, hf⟩ := z_bd hf
  refine z_cmI (pc := 19) (W1 := (z_wB X a d d2 x19.2)) S (m_X4_serveInTrial l X a d d2 (B.1, x13) 40 e19) (cwV 1 hts gX4_bestToCross_X4_serveInTrial rfl rfl rfl hdX4_serveInTrial ⟨Nat.le_of_ble_eq_true rfl, Nat.le_of_ble_eq_true rfl⟩) hP hK hN hD hS hA (s_B_B X a d d2 (B.1, x13)) (f_B_B X a d d2 (B.1, x13) x19.2) (ci := 4) rfl rfl rfl ⟨Nat.le_of_ble_eq_true rfl, Nat.le_of_ble_eq_true rfl⟩ rfl hl.1 rfl (Nat.le_of_ble_eq_true rfl) dX4_bestToCross_19 (fun H locs hP hD hS => ?_)
  refine lv_istore_n (pc := 22) (lv' := [(2, .int x19.1), (0, .ref a), (1, .int v1)]) hx hb dX4_bestToCross_22 rfl hl (by decide) rfl (fun ls hl => ?_)
  refine lv_iconst (v := (-1)) (pc := 23) hx hb dX4_bestToCross_23 (by decide) ?_
  refine lv_istore_n (pc := 24) (lv' := [(3, .int (-1)), (2, .int x19.1), (0, .ref a), (1, .int v1)]) hx hb dX4_bestToCross_24 rfl hl (by decide) rfl (fun ls hl => ?_)
  refine lv_iconst (v := 0) (pc := 25) hx hb dX4_bestToCross_25 (by decide) ?_
  refine lv_istore (pc := 26) (lv' := [(4, .int 0), (3, .int (-1)), (2, .int x19.1), (0, .ref a), (1, .int v1)]) hx hb dX4_bestToCross_26 hl (by decide) rfl (fun ls hl => ?_)
  obtain ⟨x28, e28, hf⟩ := z_bd hf
  refine lp_28 z_FU v1 x19.1 (-1) 0 x19.2 x28 H locs hP hD hS ls (lv_sub hl [3, 4, 2, 1, 0] rfl) e28 (fun H locs hP hD hS ls hl => ?_)
  refine lv_iload_n (pc := 96) hx hb dX4_bestToCross_96 rfl (lv_at hl 0 rfl) ?_
  exact W.iret (pc := 97) (v := x28.1) hx hb hr (fun t ht hW => ⟨⟨_, (z_wB X a d d2 x28.2), rfl, ⟨z_e1 hf, congrArg (fun z => (z_wB X a d d2 z)) (z_e2 hf)⟩, by rw [ht]; exact hP, hD⟩, hS.F ht⟩) hS.2.2 dX4_bestToCross_97
def f_X4_mix (v0 : Int64) (v2 : Int32) : Int64 := ((v0 * 31) + v2.toInt64)
set_option maxHeartbeats 4000000 in
set_option maxRecDepth 100000 in
theorem m_X4_mix (l : Launch) (X : z_X) (v0 : Int64) (v2 : Int32) {RR : Int64} (hf : f_X4_mix v0 v2 = RR) : z_pL l yX4_mix wsX4_mix 0 0 X [.long v0, .int v2] ([] : va_W) RR := by
  refine Met.ofW (cc := cX4_mix) (maxL := 3) (ret := (some .long)) (by decide) rfl ?_
  intro p e s m args below meth c s₁ Bd hml hv
  obtain ⟨rfl, hP, hK, hN⟩ := hv
  have hx := Bd.exec
  have hb := Bd.bytes
  have hr := Bd.returns
  have hts := atoms_spec (ws := wsX4_mix) Bd.pre
  have hown : s.vm.findClass RX4 = some m.cls := findClass_of_methodNamed Bd.named
  have hlocks := Bd.notSynchronized
  have S : CallFix p m c cX4_mix 3 s _ wsX4_mix RX4 := ⟨hx, hb, hml, hown, hts⟩
  have lk_co286 := hts (.constantLong RX4 286 (31)) (List.mem_of_getElem? (i := 1) rfl)
  have hl := lv_entry ([.long v0, .int v2]) (n := 3) (Nat.le_of_ble_eq_true rfl)
  rw [lg_entry_eq]
  generalize (lg_sl ([.long v0, .int v2]) ++ List.replicate (3 - (lg_sl ([.long v0, .int v2])).length) Slot.unset).toArray = ls at hl ⊢
  have hl : lv_has ls 3 [(0, .long v0), (2, .int v2)] := hl
  unfold f_X4_mix at hf
  refine lv_lload_n (pc := 0) hx hb dX4_mix_0 rfl (lv_at hl 0 rfl) ?_
  refine lv_ldc2 (v := 31) (pc := 1) hx hb hown lk_co286 dX4_mix_1 ?_
  refine lv_lmul (pc := 4) hx hb dX4_mix_4 ?_
  refine lv_iload_n (pc := 5) hx hb dX4_mix_5 rfl (lv_at hl 1 rfl) ?_
  refine lv_i2l (v := v2.toInt64) (pc := 6) hx hb dX4_mix_6 rfl ?_
  refine lv_ladd (pc := 7) hx hb dX4_mix_7 ?_
  exact W.lret (pc := 8) (v := ((v0 * 31) + v2.toInt64)) hx hb hr (fun t ht hW => ⟨_, rfl, hf, ht⟩) (fun _ h => nomatch h) dX4_mix_8
