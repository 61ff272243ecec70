def f_X5_thrown (M : z_M) : Int32 := (M.1 0)
set_option maxHeartbeats 4000000 in
set_option maxRecDepth 100000 in
theorem m_X5_thrown (l : Launch) (X : z_X) (d : Nat → Nat) (M : z_M) {RR : Int32} (hf : f_X5_thrown M = RR) : z_pI l yX5_thrown wsX5_thrown 0 0 X [.ref (d 0)] (z_wM X d M) RR := by
  refine Met.ofW (cc := cX5_thrown) (maxL := 1) (ret := (some .int)) (by decide) rfl ?_
  intro p e s m args below meth c s₁ Bd hml hv
  obtain ⟨rfl, hP, hK, hN⟩ := hv
  have hx := Bd.exec
  have hb := Bd.bytes
  have hr := Bd.returns
  have hts := atoms_spec (ws := wsX5_thrown) Bd.pre
  have hown : s.vm.findClass RX5 = some m.cls := findClass_of_methodNamed Bd.named
  have hlocks := Bd.notSynchronized
  have S : CallFix p m c cX5_thrown 1 s _ wsX5_thrown RX5 := ⟨hx, hb, hml, hown, hts⟩
  have lk_fi35 := hts (.fieldLink RX5 35 "HouseBellsModel" "thrown" "I") (List.mem_of_getElem? (i := 1) rfl)
  have in_X5 : ∀ w ∈ wsX50, w ∈ wsX5_thrown := fun _ h => (List.mem_cons_of_mem _ (List.mem_append_right _ h))
  have hl := lv_entry ([.ref (d 0)]) (n := 1) (Nat.le_of_ble_eq_true rfl)
  rw [lg_entry_eq]
  generalize (lg_sl ([.ref (d 0)]) ++ List.replicate (1 - (lg_sl ([.ref (d 0)])).length) Slot.unset).toArray = ls at hl ⊢
  have hl : lv_has ls 1 [(0, .ref (d 0))] := hl
  unfold f_X5_thrown at hf
  refine lv_aload_n (pc := 0) hx hb dX5_thrown_0 rfl (lv_at hl 0 rfl) ?_
  refine va_get (pc := 1) (ci := 5) (C := RX5) (T := TX5) (N := 11) hx hb hts in_X5 hown hK hP 0 rfl rfl 0 (by decide) lk_fi35 (fun _ h9 => h9) rfl dX5_thrown_1 ?_
  exact W.iret (pc := 4) (v := (M.1 0)) hx hb hr (fun t ht hW => ⟨_, rfl, hf, ht⟩) (fun _ h => nomatch h) dX5_thrown_4
def f_X5_no (M : z_M) (v1 : Int32) : (Int32 × z_M) := (0, (z_mS M 0 v1))
set_option maxHeartbeats 4000000 in
set_option maxRecDepth 100000 in
theorem m_X5_no (l : Launch) (X : z_X) (d : Nat → Nat) (M : z_M) (v1 : Int32) {RR : (Int32 × z_M)} (hf : f_X5_no M v1 = RR) : z_mI l yX5_no wsX5_no 0 0 X [.ref (d 0), .int v1] (z_wM X d M) RR.1 (z_wM X d RR.2) := by
  intro sz
  refine Met.ofW (cc := cX5_no) (maxL := 2) (ret := (some .int)) (by decide) rfl ?_
  intro p e s m args below meth c s₁ Bd hml hv
  obtain ⟨rfl, hsz, hP, hK, hN, hD0⟩ := hv
  have hx := Bd.exec
  have hb := Bd.bytes
  have hr := Bd.returns
  have hts := atoms_spec (ws := wsX5_no) Bd.pre
  have hown : s.vm.findClass RX5 = some m.cls := findClass_of_methodNamed Bd.named
  have hlocks := Bd.notSynchronized
  have S : CallFix p m c cX5_no 2 s _ wsX5_no RX5 := ⟨hx, hb, hml, hown, hts⟩
  have lk_fi35 := hts (.fieldLink RX5 35 "HouseBellsModel" "thrown" "I") (List.mem_of_getElem? (i := 1) rfl)
  have in_X5 : ∀ w ∈ wsX50, w ∈ wsX5_no := fun _ h => (List.mem_cons_of_mem _ (List.mem_append_right _ h))
  subst hsz
  have hD := hD0.self (sz := s.heap.size)
  generalize hAe : va_A (z_wM X d M) s.heap.size = A at hD ⊢
  have hA : ∀ q : Nat, s.heap.size ≤ q → A q := fun q h => by rw [← hAe]; exact Or.inr h
  have hS : va_S A s.heap s.heap [] := va_S.rf
  have hl := lv_entry ([.ref (d 0), .int v1]) (n := 2) (Nat.le_of_ble_eq_true rfl)
  rw [lg_entry_eq]
  generalize (lg_sl ([.ref (d 0), .int v1]) ++ List.replicate (2 - (lg_sl ([.ref (d 0), .int v1])).length) Slot.unset).toArray = ls at hl ⊢
  have hl : lv_has ls 2 [(0, .ref (d 0)), (1, .int v1)] := hl
  suffices hgo : ∀ (H : Heap) (locs : List Loc), va_P X.1 vwCl (z_wM X d M) H → va_D A (z_wM X d M) → va_S A s.heap H locs → W p l e (headSpec wsX5_no (z_R 0 0)).room s m ([.ref (d 0), .int v1] : List Value).toArray below meth c H locs 0 0 (MQ below (va_Qi (fun (z : Int32) (u : va_W) => z = RR.1 ∧ u = (z_wM X d RR.2)) (z_Bm X A) A) ([.ref (d 0), .int v1] : List Value).toArray s 0 0 A) (F0 m 0 ls []) from hgo _ _ hP hD hS
  clear hP hD hS
  intro H locs hP hD hS
  unfold f_X5_no at hf
  refine lv_aload_n (pc := 0) hx hb dX5_no_0 rfl (lv_at hl 0 rfl) ?_
  refine lv_iload_n (pc := 1) hx hb dX5_no_1 rfl (lv_at hl 1 rfl) ?_
  refine z_put (pc := 2) (ci := 5) (C := RX5) (T := TX5) (N := 11) (W1 := (z_wM X d (z_mS M 0 v1))) hx hb hts in_X5 tyX5 tyX5_ok nmX5 hown hK hP hD hS 0 rfl rfl 0 (by decide) lk_fi35 (fun _ h9 => h9) rfl (by decide +kernel) (Nat.le_of_ble_eq_true rfl) dX5_no_2 rfl (fun H locs hP hD hS => ?_)
  refine lv_iconst (v := 0) (pc := 5) hx hb dX5_no_5 (by decide) ?_
  exact W.iret (pc := 6) (v := 0) hx hb hr (fun t ht hW => ⟨⟨_, (z_wM X d (z_mS M 0 v1)), rfl, ⟨z_t1 hf, congrArg (fun z => (z_wM X d z)) (z_t2 hf)⟩, by rw [ht]; exact hP, hD⟩, hS.F ht⟩) hS.2.2 dX5_no_6
def f_X5_ok (M : z_M) (v1 : Int32) : (Int32 × z_M) := (v1, (z_mS M 0 0))
set_option maxHeartbeats 4000000 in
set_option maxRecDepth 100000 in
theorem m_X5_ok (l : Launch) (X : z_X) (d : Nat → Nat) (M : z_M) (v1 : Int32) {RR : (Int32 × z_M)} (hf : f_X5_ok M v1 = RR) : z_mI l yX5_ok wsX5_ok 0 0 X [.ref (d 0), .int v1] (z_wM X d M) RR.1 (z_wM X d RR.2) := by
  intro sz
  refine Met.ofW (cc := cX5_ok) (maxL := 2) (ret := (some .int)) (by decide) rfl ?_
  intro p e s m args below meth c s₁ Bd hml hv
  obtain ⟨rfl, hsz, hP, hK, hN, hD0⟩ := hv
  have hx := Bd.exec
  have hb := Bd.bytes
  have hr := Bd.returns
  have hts := atoms_spec (ws := wsX5_ok) Bd.pre
  have hown : s.vm.findClass RX5 = some m.cls := findClass_of_methodNamed Bd.named
  have hlocks := Bd.notSynchronized
  have S : CallFix p m c cX5_ok 2 s _ wsX5_ok RX5 := ⟨hx, hb, hml, hown, hts⟩
  have lk_fi35 := hts (.fieldLink RX5 35 "HouseBellsModel" "thrown" "I") (List.mem_of_getElem? (i := 1) rfl)
  have in_X5 : ∀ w ∈ wsX50, w ∈ wsX5_ok := fun _ h => (List.mem_cons_of_mem _ (List.mem_append_right _ h))
  subst hsz
  have hD := hD0.self (sz := s.heap.size)
  generalize hAe : va_A (z_wM X d M) s.heap.size = A at hD ⊢
  have hA : ∀ q : Nat, s.heap.size ≤ q → A q := fun q h => by rw [← hAe]; exact Or.inr h
  have hS : va_S A s.heap s.heap [] := va_S.rf
  have hl := lv_entry ([.ref (d 0), .int v1]) (n := 2) (Nat.le_of_ble_eq_true rfl)
  rw [lg_entry_eq]
  generalize (lg_sl ([.ref (d 0), .int v1]) ++ List.replicate (2 - (lg_sl ([.ref (d 0), .int v1])).length) Slot.unset).toArray = ls at hl ⊢
  have hl : lv_has ls 2 [(0, .ref (d 0)), (1, .int v1)] := hl
  suffices hgo : ∀ (H : Heap) (locs : List Loc), va_P X.1 vwCl (z_wM X d M) H → va_D A (z_wM X d M) → va_S A s.heap H locs → W p l e (headSpec wsX5_ok (z_R 0 0)).room s m ([.ref (d 0), .int v1] : List Value).toArray below meth c H locs 0 0 (MQ below (va_Qi (fun (z : Int32) (u : va_W) => z = RR.1 ∧ u = (z_wM X d RR.2)) (z_Bm X A) A) ([.ref (d 0), .int v1] : List Value).toArray s 0 0 A) (F0 m 0 ls []) from hgo _ _ hP hD hS
  clear hP hD hS
  intro H locs hP hD hS
  unfold f_X5_ok at hf
  refine lv_aload_n (pc := 0) hx hb dX5_ok_0 rfl (lv_at hl 0 rfl) ?_
  refine lv_iconst (v := 0) (pc := 1) hx hb dX5_ok_1 (by decide) ?_
  refine z_put (pc := 2) (ci := 5) (C := RX5) (T := TX5) (N := 11) (W1 := (z_wM X d (z_mS M 0 0))) hx hb hts in_X5 tyX5 tyX5_ok nmX5 hown hK hP hD hS 0 rfl rfl 0 (by decide) lk_fi35 (fun _ h9 => h9) rfl (by decide +kernel) (Nat.le_of_ble_eq_true rfl) dX5_ok_2 rfl (fun H locs hP hD hS => ?_)
  refine lv_iload_n (pc := 5) hx hb dX5_ok_5 rfl (lv_at hl 1 rfl) ?_
  exact W.iret (pc := 6) (v := v1) hx hb hr (fun t ht hW => ⟨⟨_, (z_wM X d (z_mS M 0 0)), rfl, ⟨z_t1 hf, congrArg (fun z => (z_wM X d z)) (z_t2 hf)⟩, by rw [ht]; exact hP, hD⟩, hS.F ht⟩) hS.2.2 dX5_ok_6
def f_X5_isIn (v0 : Int32) (v1 : Int32) (v2 : Int32) : Int32 := (if v0 < v1 then 0 else (if v2 < v0 then 0 else 1))
set_option maxHeartbeats 4000000 in
set_option maxRecDepth 100000 in
theorem m_X5_isIn (l : Launch) (X : z_X) (v0 : Int32) (v1 : Int32) (v2 : Int32) {RR : Int32} (hf : f_X5_isIn v0 v1 v2 = RR) : z_pI l yX5_isIn wsX5_isIn 0 0 X [.int v0, .int v1, .int v2] ([] : va_W) RR := by
  refine Met.ofW (cc := cX5_isIn) (maxL := 3) (ret := (some .boolean)) (by decide) rfl ?_
  intro p e s m args below meth c s₁ Bd hml hv
  obtain ⟨rfl, hP, hK, hN⟩ := hv
  have hx := Bd.exec
  have hb := Bd.bytes
  have hr := Bd.returns
  have hts := atoms_spec (ws := wsX5_isIn) Bd.pre
  have hown : s.vm.findClass RX5 = some m.cls := findClass_of_methodNamed Bd.named
  have hlocks := Bd.notSynchronized
  have S : CallFix p m c cX5_isIn 3 s _ wsX5_isIn RX5 := ⟨hx, hb, hml, hown, hts⟩
  have hl := lv_entry ([.int v0, .int v1, .int v2]) (n := 3) (Nat.le_of_ble_eq_true rfl)
  rw [lg_entry_eq]
  generalize (lg_sl ([.int v0, .int v1, .int v2]) ++ List.replicate (3 - (lg_sl ([.int v0, .int v1, .int v2])).length) Slot.unset).toArray = ls at hl ⊢
  have hl : lv_has ls 3 [(0, .int v0), (1, .int v1), (2, .int v2)] := hl
  unfold f_X5_isIn at hf
  refine lv_iload_n (pc := 0) hx hb dX5_isIn_0 rfl (lv_at hl 0 rfl) ?_
  refine lv_iload_n (pc := 1) hx hb dX5_isIn_1 rfl (lv_at hl 1 rfl) ?_
  refine lv_icmp_lt (pc := 2) (tgt := 14) hx hb dX5_isIn_2 (by decide) (fun c_2 => ?_) (fun c_2 => ?_)
  · replace hf := z_ip c_2 hf
    refine lv_iconst (v := 0) (pc := 14) hx hb dX5_isIn_14 (by decide) ?_
    exact W.zret (pc := 15) (v := 0) hx hb hr rfl (fun t ht hW => ⟨_, rfl, hf, ht⟩) (fun _ h => nomatch h) dX5_isIn_15
  · replace hf := z_in c_2 hf
    refine lv_iload_n (pc := 5) hx hb dX5_isIn_5 rfl (lv_at hl 0 rfl) ?_
    refine lv_iload_n (pc := 6) hx hb dX5_isIn_6 rfl (lv_at hl 2 rfl) ?_
    refine lv_icmp_gt (pc := 7) (tgt := 14) hx hb dX5_isIn_7 (by decide) (fun c_7 => ?_) (fun c_7 => ?_)
    · replace hf := z_ip c_7 hf
      refine lv_iconst (v := 0) (pc := 14) hx hb dX5_isIn_14 (by decide) ?_
      exact W.zret (pc := 15) (v := 0) hx hb hr rfl (fun t ht hW => ⟨_, rfl, hf, ht⟩) (fun _ h => nomatch h) dX5_isIn_15
    · replace hf := z_in c_7 hf
      refine lv_iconst (v := 1) (pc := 10) hx hb dX5_isIn_10 (by decide) ?_
      refine lv_goto (pc := 11) (tgt := 15) hx hb dX5_isIn_11 (by decide) ?_
      exact W.zret (pc := 15) (v := 1) hx hb hr rfl (fun t ht hW => ⟨_, rfl, hf, ht⟩) (fun _ h => nomatch h) dX5_isIn_15
def f_X5_isRoom (M : z_M) (v1 : Int32) : Option Int32 := (z_bo (f_X5_isIn v1 0 ((M.1 1) - 1))).bind (fun x11 => some x11)
set_option maxHeartbeats 4000000 in
set_option maxRecDepth 100000 in
theorem m_X5_isRoom (l : Launch) (X : z_X) (d : Nat → Nat) (M : z_M) (v1 : Int32) {RR : Int32} (hf : f_X5_isRoom M v1 = some RR) : z_pI l yX5_isRoom wsX5_isRoom 1 22 X [.ref (d 0), .int v1] (z_wM X d M) RR := by
  refine Met.ofW (cc := cX5_isRoom) (maxL := 2) (ret := (some .boolean)) (by decide) rfl ?_
  intro p e s m args below meth c s₁ Bd hml hv
  obtain ⟨rfl, hP, hK, hN⟩ := hv
  have hx := Bd.exec
  have hb := Bd.bytes
  have hr := Bd.returns
  have hts := atoms_spec (ws := wsX5_isRoom) Bd.pre
  have hown : s.vm.findClass RX5 = some m.cls := findClass_of_methodNamed Bd.named
  have hlocks := Bd.notSynchronized
  have S : CallFix p m c cX5_isRoom 2 s _ wsX5_isRoom RX5 := ⟨hx, hb, hml, hown, hts⟩
  have lk_fi39 := hts (.fieldLink RX5 39 "HouseBellsModel" "rooms" "I") (List.mem_of_getElem? (i := 1) rfl)
  have in_X5 : ∀ w ∈ wsX50, w ∈ wsX5_isRoom := fun _ h => (List.mem_cons_of_mem _ (List.mem_append_right _ h))
  have hl := lv_entry ([.ref (d 0), .int v1]) (n := 2) (Nat.le_of_ble_eq_true rfl)
  rw [lg_entry_eq]
  generalize (lg_sl ([.ref (d 0), .int v1]) ++ List.replicate (2 - (lg_sl ([.ref (d 0), .int v1])).length) Slot.unset).toArray = ls at hl ⊢
  have hl : lv_has ls 2 [(0, .ref (d 0)), (1, .int v1)] := hl
  unfold f_X5_isRoom at hf
  refine lv_iload_n (pc := 0) hx hb dX5_isRoom_0 rfl (lv_at hl 1 rfl) ?_
  refine lv_iconst (v := 0) (pc := 1) hx hb dX5_isRoom_1 (by decide) ?_
  refine lv_aload_n (pc := 2) hx hb dX5_isRoom_2 rfl (lv_at hl 0 rfl) ?_
  refine va_get (pc := 3) (ci := 5) (C := RX5) (T := TX5) (N := 11) hx hb hts in_X5 hown hK hP 0 rfl rfl 1 (by decide) lk_fi39 (fun _ h9 => h9) rfl dX5_isRoom_3 ?_
  refine lv_iconst (v := 1) (pc := 6) hx hb dX5_isRoom_6 (by decide) ?_
  refine lv_isub (pc := 7) hx hb dX5_isRoom_7 ?_
  refine z_csI (pc := 8) S (m_X5_isIn l X v1 0 ((M.1 1) - 1) rfl) (va_cwS 3 hts gX5_isRoom_X5_isIn rfl rfl rfl hdX5_isIn ⟨Nat.le_of_ble_eq_true rfl, Nat.le_of_ble_eq_true rfl⟩) hP hK hN (s_nil _) ⟨Nat.le_of_ble_eq_true rfl, Nat.le_of_ble_eq_true rfl⟩ rfl hl.1 rfl (Nat.le_of_ble_eq_true rfl) dX5_isRoom_8 ?_
  obtain ⟨x11, e11, hf⟩ := z_bd hf
  obtain ⟨e_bo, h_bo⟩ := z_bo_s e11
  exact W.zret (pc := 11) (v := (f_X5_isIn v1 0 ((M.1 1) - 1))) hx hb hr h_bo (fun t ht hW => ⟨_, rfl, e_bo.trans (Option.some.inj hf), ht⟩) (fun _ h => nomatch h) dX5_isRoom_11
def f_X5_isServant (M : z_M) (v1 : Int32) : Option Int32 := (z_bo (f_X5_isIn v1 0 ((M.1 2) - 1))).bind (fun x11 => some x11)
set_option maxHeartbeats 4000000 in
set_option maxRecDepth 100000 in
theorem m_X5_isServant (l : Launch) (X : z_X) (d : Nat → Nat) (M : z_M) (v1 : Int32) {RR : Int32} (hf : f_X5_isServant M v1 = some RR) : z_pI l yX5_isServant wsX5_isServant 1 22 X [.ref (d 0), .int v1] (z_wM X d M) RR := by
  refine Met.ofW (cc := cX5_isServant) (maxL := 2) (ret := (some .boolean)) (by decide) rfl ?_
  intro p e s m args below meth c s₁ Bd hml hv
  obtain ⟨rfl, hP, hK, hN⟩ := hv
  have hx := Bd.exec
  have hb := Bd.bytes
  have hr := Bd.returns
  have hts := atoms_spec (ws := wsX5_isServant) Bd.pre
  have hown : s.vm.findClass RX5 = some m.cls := findClass_of_methodNamed Bd.named
  have hlocks := Bd.notSynchronized
  have S : CallFix p m c cX5_isServant 2 s _ wsX5_isServant RX5 := ⟨hx, hb, hml, hown, hts⟩
  have lk_fi46 := hts (.fieldLink RX5 46 "HouseBellsModel" "servants" "I") (List.mem_of_getElem? (i := 1) rfl)
  have in_X5 : ∀ w ∈ wsX50, w ∈ wsX5_isServant := fun _ h => (List.mem_cons_of_mem _ (List.mem_append_right _ h))
  have hl := lv_entry ([.ref (d 0), .int v1]) (n := 2) (Nat.le_of_ble_eq_true rfl)
  rw [lg_entry_eq]
  generalize (lg_sl ([.ref (d 0), .int v1]) ++ List.replicate (2 - (lg_sl ([.ref (d 0), .int v1])).length) Slot.unset).toArray = ls at hl ⊢
  have hl : lv_has ls 2 [(0, .ref (d 0)), (1, .int v1)] := hl
  unfold f_X5_isServant at hf
  refine lv_iload_n (pc := 0) hx hb dX5_isServant_0 rfl (lv_at hl 1 rfl) ?_
  refine lv_iconst (v := 0) (pc := 1) hx hb dX5_isServant_1 (by decide) ?_
  refine lv_aload_n (pc := 2) hx hb dX5_isServant_2 rfl (lv_at hl 0 rfl) ?_
  refine va_get (pc := 3) (ci := 5) (C := RX5) (T := TX5) (N := 11) hx hb hts in_X5 hown hK hP 0 rfl rfl 2 (by decide) lk_fi46 (fun _ h9 => h9) rfl dX5_isServant_3 ?_
  refine lv_iconst (v := 1) (pc := 6) hx hb dX5_isServant_6 (by decide) ?_
  refine lv_isub (pc := 7) hx hb dX5_isServant_7 ?_
  refine z_csI (pc := 8) S (m_X5_isIn l X v1 0 ((M.1 2) - 1) rfl) (va_cwS 3 hts gX5_isServant_X5_isIn rfl rfl rfl hdX5_isIn ⟨Nat.le_of_ble_eq_true rfl, Nat.le_of_ble_eq_true rfl⟩) hP hK hN (s_nil _) ⟨Nat.le_of_ble_eq_true rfl, Nat.le_of_ble_eq_true rfl⟩ rfl hl.1 rfl (Nat.le_of_ble_eq_true rfl) dX5_isServant_8 ?_
  obtain ⟨x11, e11, hf⟩ := z_bd hf
  obtain ⟨e_bo, h_bo⟩ := z_bo_s e11
  exact W.zret (pc := 11) (v := (f_X5_isIn v1 0 ((M.1 2) - 1))) hx hb hr h_bo (fun t ht hW => ⟨_, rfl, e_bo.trans (Option.some.inj hf), ht⟩) (fun _ h => nomatch h) dX5_isServant_11
def f_X5_isKnown (M : z_M) (v1 : Int32) : Option (Int32 × z_M) := (if v1 = 0 then (z_bo v1).bind (fun x14 => some (x14, (z_mS M 0 1))) else (z_bo v1).bind (fun x14 => some (x14, (z_mS M 0 0))))
set_option maxHeartbeats 4000000 in
set_option maxRecDepth 100000 in
theorem m_X5_isKnown (l : Launch) (X : z_X) (d : Nat → Nat) (M : z_M) (v1 : Int32) {RR : (Int32 × z_M)} (hf : f_X5_isKnown M v1 = some RR) : z_mI l yX5_isKnown wsX5_isKnown 0 0 X [.ref (d 0), .int v1] (z_wM X d M) RR.1 (z_wM X d RR.2) := by
  intro sz
  refine Met.ofW (cc := cX5_isKnown) (maxL := 2) (ret := (some .boolean)) (by decide) rfl ?_
  intro p e s m args below meth c s₁ Bd hml hv
  obtain ⟨rfl, hsz, hP, hK, hN, hD0⟩ := hv
  have hx := Bd.exec
  have hb := Bd.bytes
  have hr := Bd.returns
  have hts := atoms_spec (ws := wsX5_isKnown) Bd.pre
  have hown : s.vm.findClass RX5 = some m.cls := findClass_of_methodNamed Bd.named
  have hlocks := Bd.notSynchronized
  have S : CallFix p m c cX5_isKnown 2 s _ wsX5_isKnown RX5 := ⟨hx, hb, hml, hown, hts⟩
  have lk_fi35 := hts (.fieldLink RX5 35 "HouseBellsModel" "thrown" "I") (List.mem_of_getElem? (i := 1) rfl)
  have in_X5 : ∀ w ∈ wsX50, w ∈ wsX5_isKnown := fun _ h => (List.mem_cons_of_mem _ (List.mem_append_right _ h))
  subst hsz
  have hD := hD0.self (sz := s.heap.size)
  generalize hAe : va_A (z_wM X d M) s.heap.size = A at hD ⊢
  have hA : ∀ q : Nat, s.heap.size ≤ q → A q := fun q h => by rw [← hAe]; exact Or.inr h
  have hS : va_S A s.heap s.heap [] := va_S.rf
  have hl := lv_entry ([.ref (d 0), .int v1]) (n := 2) (Nat.le_of_ble_eq_true rfl)
  rw [lg_entry_eq]
  generalize (lg_sl ([.ref (d 0), .int v1]) ++ List.replicate (2 - (lg_sl ([.ref (d 0), .int v1])).length) Slot.unset).toArray = ls at hl ⊢
  have hl : lv_has ls 2 [(0, .ref (d 0)), (1, .int v1)] := hl
  suffices hgo : ∀ (H : Heap) (locs : List Loc), va_P X.1 vwCl (z_wM X d M) H → va_D A (z_wM X d M) → va_S A s.heap H locs → W p l e (headSpec wsX5_isKnown (z_R 0 0)).room s m ([.ref (d 0), .int v1] : List Value).toArray below meth c H locs 0 0 (MQ below (va_Qi (fun (z : Int32) (u : va_W) => z = RR.1 ∧ u = (z_wM X d RR.2)) (z_Bm X A) A) ([.ref (d 0), .int v1] : List Value).toArray s 0 0 A) (F0 m 0 ls []) from hgo _ _ hP hD hS
  clear hP hD hS
  intro H locs hP hD hS
  unfold f_X5_isKnown at hf
  refine lv_aload_n (pc := 0) hx hb dX5_isKnown_0 rfl (lv_at hl 0 rfl) ?_
  refine lv_iload_n (pc := 1) hx hb dX5_isKnown_1 rfl (lv_at hl 1 rfl) ?_
  refine lv_if_eq (pc := 2) (tgt := 9) hx hb dX5_isKnown_2 (by decide) (fun c_2 => ?_) (fun c_2 => ?_)
  · replace hf := z_ip c_2 hf
    refine lv_iconst (v := 1) (pc := 9) hx hb dX5_isKnown_9 (by decide) ?_
    refine z_put (pc := 10) (ci := 5) (C := RX5) (T := TX5) (N := 11) (W1 := (z_wM X d (z_mS M 0 1))) hx hb hts in_X5 tyX5 tyX5_ok nmX5 hown hK hP hD hS 0 rfl rfl 0 (by decide) lk_fi35 (fun _ h9 => h9) rfl (by decide +kernel) (Nat.le_of_ble_eq_true rfl) dX5_isKnown_10 rfl (fun H locs hP hD hS => ?_)
    refine lv_iload_n (pc := 13) hx hb dX5_isKnown_13 rfl (lv_at hl 1 rfl) ?_
    obtain ⟨x14, e14, hf⟩ := z_bd hf
    obtain ⟨e_bo, h_bo⟩ := z_bo_s e14
    exact W.zret (pc := 14) (v := v1) hx hb hr h_bo (fun t ht hW => ⟨⟨_, (z_wM X d (z_mS M 0 1)), rfl, ⟨e_bo.trans (z_e1 hf), congrArg (fun z => (z_wM X d z)) (z_e2 hf)⟩, by rw [ht]; exact hP, hD⟩, hS.F ht⟩) hS.2.2 dX5_isKnown_14
  · replace hf := z_in c_2 hf
    refine lv_iconst (v := 0) (pc := 5) hx hb dX5_isKnown_5 (by decide) ?_
    refine lv_goto (pc := 6) (tgt := 10) hx hb dX5_isKnown_6 (by decide) ?_
    refine z_put (pc := 10) (ci := 5) (C := RX5) (T := TX5) (N := 11) (W1 := (z_wM X d (z_mS M 0 0))) hx hb hts in_X5 tyX5 tyX5_ok nmX5 hown hK hP hD hS 0 rfl rfl 0 (by decide) lk_fi35 (fun _ h9 => h9) rfl (by decide +kernel) (Nat.le_of_ble_eq_true rfl) dX5_isKnown_10 rfl (fun H locs hP hD hS => ?_)
    refine lv_iload_n (pc := 13) hx hb dX5_isKnown_13 rfl (lv_at hl 1 rfl) ?_
    obtain ⟨x14, e14, hf⟩ := z_bd hf
    obtain ⟨e_bo, h_bo⟩ := z_bo_s e14
    exact W.zret (pc := 14) (v := v1) hx hb hr h_bo (fun t ht hW => ⟨⟨_, (z_wM X d (z_mS M 0 0)), rfl, ⟨e_bo.trans (z_e1 hf), congrArg (fun z => (z_wM X d z)) (z_e2 hf)⟩, by rw [ht]; exact hP, hD⟩, hS.F ht⟩) hS.2.2 dX5_isKnown_14
def f_X5_keep (M : z_M) : Option z_M := some (z_mR M 7 (va_cpy (M.2 6) (M.2 7) 0 0 55))
set_option maxHeartbeats 4000000 in
set_option maxRecDepth 100000 in
theorem m_X5_keep (l : Launch) (X : z_X) (d : Nat → Nat) (M : z_M) {RR : z_M} (hf : f_X5_keep M = some RR) : z_mV l yX5_keep wsX5_keep 1 40 X [.ref (d 0)] (z_wM X d M) (z_wM X d RR) := by
  intro sz
  refine Met.ofW (cc := cX5_keep) (maxL := 1) (ret := none) (by decide) rfl ?_
  intro p e s m args below meth c s₁ Bd hml hv
  obtain ⟨rfl, hsz, hP, hK, hN, hD0⟩ := hv
  have hx := Bd.exec
  have hb := Bd.bytes
  have hr := Bd.returns
  have hts := atoms_spec (ws := wsX5_keep) Bd.pre
  have hown : s.vm.findClass RX5 = some m.cls := findClass_of_methodNamed Bd.named
  have hlocks := Bd.notSynchronized
  have S : CallFix p m c cX5_keep 1 s _ wsX5_keep RX5 := ⟨hx, hb, hml, hown, hts⟩
  have lk_fi29 := hts (.fieldLink RX5 29 "HouseBellsModel" "now" "[I") (List.mem_of_getElem? (i := 1) rfl)
  have lk_fi32 := hts (.fieldLink RX5 32 "HouseBellsModel" "kept" "[I") (List.mem_of_getElem? (i := 2) rfl)
  have in_X5 : ∀ w ∈ wsX50, w ∈ wsX5_keep := fun _ h => (List.mem_cons_of_mem _ (List.mem_append_right _ h))
  subst hsz
  have hD := hD0.self (sz := s.heap.size)
  generalize hAe : va_A (z_wM X d M) s.heap.size = A at hD ⊢
  have hA : ∀ q : Nat, s.heap.size ≤ q → A q := fun q h => by rw [← hAe]; exact Or.inr h
  have hS : va_S A s.heap s.heap [] := va_S.rf
  have hl := lv_entry ([.ref (d 0)]) (n := 1) (Nat.le_of_ble_eq_true rfl)
  rw [lg_entry_eq]
  generalize (lg_sl ([.ref (d 0)]) ++ List.replicate (1 - (lg_sl ([.ref (d 0)])).length) Slot.unset).toArray = ls at hl ⊢
  have hl : lv_has ls 1 [(0, .ref (d 0))] := hl
  suffices hgo : ∀ (H : Heap) (locs : List Loc), va_P X.1 vwCl (z_wM X d M) H → va_D A (z_wM X d M) → va_S A s.heap H locs → W p l e (headSpec wsX5_keep (z_R 1 40)).room s m ([.ref (d 0)] : List Value).toArray below meth c H locs 0 0 (MQ below (va_Qv (fun u : va_W => u = (z_wM X d RR)) (z_Bm X A) A) ([.ref (d 0)] : List Value).toArray s 0 0 A) (F0 m 0 ls []) from hgo _ _ hP hD hS
  clear hP hD hS
  intro H locs hP hD hS
  unfold f_X5_keep at hf
  refine lv_aload_n (pc := 0) hx hb dX5_keep_0 rfl (lv_at hl 0 rfl) ?_
  refine va_get (pc := 1) (ci := 5) (C := RX5) (T := TX5) (N := 11) hx hb hts in_X5 hown hK hP 0 rfl rfl 9 (by decide) lk_fi29 (fun _ h9 => h9) rfl dX5_keep_1 ?_
  refine lv_iconst (v := 0) (pc := 4) hx hb dX5_keep_4 (by decide) ?_
  refine lv_aload_n (pc := 5) hx hb dX5_keep_5 rfl (lv_at hl 0 rfl) ?_
  refine va_get (pc := 6) (ci := 5) (C := RX5) (T := TX5) (N := 11) hx hb hts in_X5 hown hK hP 0 rfl rfl 10 (by decide) lk_fi32 (fun _ h9 => h9) rfl dX5_keep_6 ?_
  refine lv_iconst (v := 0) (pc := 9) hx hb dX5_keep_9 (by decide) ?_
  refine lv_bipush (v := 55) (pc := 10) hx hb dX5_keep_10 (by decide) ?_
  have hml2 : c.maxLocals = ls.size := by rw [hml]; exact hl.1.symm
  refine va_copyi (pc := 12) hx hb hml2 hown (hts _ (List.mem_of_getElem? (i := 3) rfl)) (hts _ (List.mem_of_getElem? (i := 4) rfl)) (hts _ (List.mem_of_getElem? (i := 5) rfl)) (hts _ (List.mem_of_getElem? (i := 6) rfl)) hK hP hD hS 7 8 0 0 rfl rfl rfl rfl rfl (by decide) (by decide) (by decide) (by decide) (by decide) (fun _ _ => rfl) (Nat.le_of_ble_eq_true rfl) (by decide) dX5_keep_12 (fun H locs hP hD hS => ?_)
  have hP : va_P X.1 vwCl (z_wM X d (z_mR M 7 (va_cpy (M.2 6) (M.2 7) 0 0 55))) H := hP
  have hD : va_D A (z_wM X d (z_mR M 7 (va_cpy (M.2 6) (M.2 7) 0 0 55))) := hD
  exact W.vret (pc := 15) hx hb hr (fun t ht hW => ⟨⟨(z_wM X d (z_mR M 7 (va_cpy (M.2 6) (M.2 7) 0 0 55))), rfl, congrArg (fun z => (z_wM X d z)) (Option.some.inj hf), by rw [ht]; exact hP, hD⟩, hS.F ht⟩) hS.2.2 dX5_keep_15
def f_X5_bringBack (M : z_M) : Option z_M := some (z_mR M 6 (va_cpy (M.2 7) (M.2 6) 0 0 55))
set_option maxHeartbeats 4000000 in
set_option maxRecDepth 100000 in
theorem m_X5_bringBack (l : Launch) (X : z_X) (d : Nat → Nat) (M : z_M) {RR : z_M} (hf : f_X5_bringBack M = some RR) : z_mV l yX5_bringBack wsX5_bringBack 1 40 X [.ref (d 0)] (z_wM X d M) (z_wM X d RR) := by
  intro sz
  refine Met.ofW (cc := cX5_bringBack) (maxL := 1) (ret := none) (by decide) rfl ?_
  intro p e s m args below meth c s₁ Bd hml hv
  obtain ⟨rfl, hsz, hP, hK, hN, hD0⟩ := hv
  have hx := Bd.exec
  have hb := Bd.bytes
  have hr := Bd.returns
  have hts := atoms_spec (ws := wsX5_bringBack) Bd.pre
  have hown : s.vm.findClass RX5 = some m.cls := findClass_of_methodNamed Bd.named
  have hlocks := Bd.notSynchronized
  have S : CallFix p m c cX5_bringBack 1 s _ wsX5_bringBack RX5 := ⟨hx, hb, hml, hown, hts⟩
  have lk_fi32 := hts (.fieldLink RX5 32 "HouseBellsModel" "kept" "[I") (List.mem_of_getElem? (i := 1) rfl)
  have lk_fi29 := hts (.fieldLink RX5 29 "HouseBellsModel" "now" "[I") (List.mem_of_getElem? (i := 2) rfl)
  have in_X5 : ∀ w ∈ wsX50, w ∈ wsX5_bringBack := fun _ h => (List.mem_cons_of_mem _ (List.mem_append_right _ h))
  subst hsz
  have hD := hD0.self (sz := s.heap.size)
  generalize hAe : va_A (z_wM X d M) s.heap.size = A at hD ⊢
  have hA : ∀ q : Nat, s.heap.size ≤ q → A q := fun q h => by rw [← hAe]; exact Or.inr h
  have hS : va_S A s.heap s.heap [] := va_S.rf
  have hl := lv_entry ([.ref (d 0)]) (n := 1) (Nat.le_of_ble_eq_true rfl)
  rw [lg_entry_eq]
  generalize (lg_sl ([.ref (d 0)]) ++ List.replicate (1 - (lg_sl ([.ref (d 0)])).length) Slot.unset).toArray = ls at hl ⊢
  have hl : lv_has ls 1 [(0, .ref (d 0))] := hl
  suffices hgo : ∀ (H : Heap) (locs : List Loc), va_P X.1 vwCl (z_wM X d M) H → va_D A (z_wM X d M) → va_S A s.heap H locs → W p l e (headSpec wsX5_bringBack (z_R 1 40)).room s m ([.ref (d 0)] : List Value).toArray below meth c H locs 0 0 (MQ below (va_Qv (fun u : va_W => u = (z_wM X d RR)) (z_Bm X A) A) ([.ref (d 0)] : List Value).toArray s 0 0 A) (F0 m 0 ls []) from hgo _ _ hP hD hS
  clear hP hD hS
  intro H locs hP hD hS
  unfold f_X5_bringBack at hf
  refine lv_aload_n (pc := 0) hx hb dX5_bringBack_0 rfl (lv_at hl 0 rfl) ?_
  refine va_get (pc := 1) (ci := 5) (C := RX5) (T := TX5) (N := 11) hx hb hts in_X5 hown hK hP 0 rfl rfl 10 (by decide) lk_fi32 (fun _ h9 => h9) rfl dX5_bringBack_1 ?_
  refine lv_iconst (v := 0) (pc := 4) hx hb dX5_bringBack_4 (by decide) ?_
  refine lv_aload_n (pc := 5) hx hb dX5_bringBack_5 rfl (lv_at hl 0 rfl) ?_
  refine va_get (pc := 6) (ci := 5) (C := RX5) (T := TX5) (N := 11) hx hb hts in_X5 hown hK hP 0 rfl rfl 9 (by decide) lk_fi29 (fun _ h9 => h9) rfl dX5_bringBack_6 ?_
  refine lv_iconst (v := 0) (pc := 9) hx hb dX5_bringBack_9 (by decide) ?_
  refine lv_bipush (v := 55) (pc := 10) hx hb dX5_bringBack_10 (by decide) ?_
  have hml2 : c.maxLocals = ls.size := by rw [hml]; exact hl.1.symm
  refine va_copyi (pc := 12) hx hb hml2 hown (hts _ (List.mem_of_getElem? (i := 3) rfl)) (hts _ (List.mem_of_getElem? (i := 4) rfl)) (hts _ (List.mem_of_getElem? (i := 5) rfl)) (hts _ (List.mem_of_getElem? (i := 6) rfl)) hK hP hD hS 8 7 0 0 rfl rfl rfl rfl rfl (by decide) (by decide) (by decide) (by decide) (by decide) (fun _ _ => rfl) (Nat.le_of_ble_eq_true rfl) (by decide) dX5_bringBack_12 (fun H locs hP hD hS => ?_)
  have hP : va_P X.1 vwCl (z_wM X d (z_mR M 6 (va_cpy (M.2 7) (M.2 6) 0 0 55))) H := hP
  have hD : va_D A (z_wM X d (z_mR M 6 (va_cpy (M.2 7) (M.2 6) 0 0 55))) := hD
  exact W.vret (pc := 15) hx hb hr (fun t ht hW => ⟨⟨(z_wM X d (z_mR M 6 (va_cpy (M.2 7) (M.2 6) 0 0 55))), rfl, congrArg (fun z => (z_wM X d z)) (Option.some.inj hf), by rw [ht]; exact hP, hD⟩, hS.F ht⟩) hS.2.2 dX5_bringBack_15
def f_X5_inLine_L2 (M : z_M) : Nat → Int32 → Int32 → Option Int32
  | 0, _, _ => none
  | n + 1, u1, u2 => (z_at (M.2 6) 6 55).bind (fun x9 => (if x9 ≤ u2 then some (-1) else (z_at (M.2 6) (19 + u2) 55).bind (fun x21 => (if x21 = u1 then some u2 else f_X5_inLine_L2 M n u1 (u2 + 1)))))
def f_X5_inLine (M : z_M) (v1 : Int32) : Option Int32 := f_X5_inLine_L2 M z_FU v1 0
set_option maxHeartbeats 4000000 in
set_option maxRecDepth 100000 in
theorem m_X5_inLine (l : Launch) (X : z_X) (d : Nat → Nat) (M : z_M) (v1 : Int32) {RR : Int32} (hf : f_X5_inLine M v1 = some RR) : z_pI l yX5_inLine wsX5_inLine 0 0 X [.ref (d 0), .int v1] (z_wM X d M) RR := by
  refine Met.ofW (cc := cX5_inLine) (maxL := 3) (ret := (some .int)) (by decide) rfl ?_
  intro p e s m args below meth c s₁ Bd hml hv
  obtain ⟨rfl, hP, hK, hN⟩ := hv
  have hx := Bd.exec
  have hb := Bd.bytes
  have hr := Bd.returns
  have hts := atoms_spec (ws := wsX5_inLine) Bd.pre
  have hown : s.vm.findClass RX5 = some m.cls := findClass_of_methodNamed Bd.named
  have hlocks := Bd.notSynchronized
  have S : CallFix p m c cX5_inLine 3 s _ wsX5_inLine RX5 := ⟨hx, hb, hml, hown, hts⟩
  have lk_fi29 := hts (.fieldLink RX5 29 "HouseBellsModel" "now" "[I") (List.mem_of_getElem? (i := 1) rfl)
  have in_X5 : ∀ w ∈ wsX50, w ∈ wsX5_inLine := fun _ h => (List.mem_cons_of_mem _ (List.mem_append_right _ h))
  have hl := lv_entry ([.ref (d 0), .int v1]) (n := 3) (Nat.le_of_ble_eq_true rfl)
  rw [lg_entry_eq]
  generalize (lg_sl ([.ref (d 0), .int v1]) ++ List.replicate (3 - (lg_sl ([.ref (d 0), .int v1])).length) Slot.unset).toArray = ls at hl ⊢
  have hl : lv_has ls 3 [(0, .ref (d 0)), (1, .int v1)] := hl
  have lp_2 : ∀ (n : Nat) (u1 : Int32) (u2 : Int32) (ls : Array Slot), lv_has ls 3 [(0, .ref (d 0)), (1, .int u1), (2, .int u2)] → f_X5_inLine_L2 M n u1 u2 = some RR → W p l e (headSpec wsX5_inLine (z_R 0 0)).room s m ([.ref (d 0), .int v1] : List Value).toArray below meth c s.heap [] 0 0 (MQ below (vp_Si (fun z => z = RR)) ([.ref (d 0), .int v1] : List Value).toArray s 0 0 (fun _ => False)) (F0 m 2 ls []) := by
    intro n
    induction n with
    | zero =>
      intro u1 u2 ls hl hf
      cases hf
    | succ n ih =>
      intro u1 u2 ls hl hf
      rw [f_X5_inLine_L2] at hf
      refine lv_iload_n (pc := 2) hx hb dX5_inLine_2 rfl (lv_at hl 2 rfl) ?_
      refine lv_aload_n (pc := 3) hx hb dX5_inLine_3 rfl (lv_at hl 0 rfl) ?_
      refine va_get (pc := 4) (ci := 5) (C := RX5) (T := TX5) (N := 11) hx hb hts in_X5 hown hK hP 0 rfl rfl 9 (by decide) lk_fi29 (fun _ h9 => h9) rfl dX5_inLine_4 ?_
      refine lv_bipush (v := 6) (pc := 7) hx hb dX5_inLine_7 (by decide) ?_
      obtain ⟨x9, e9, hf⟩ := z_bd hf
      refine z_iald (pc := 9) hx hb hK hP 7 0 rfl rfl e9 dX5_inLine_9 ?_
      refine lv_icmp_ge (pc := 10) (tgt := 34) hx hb dX5_inLine_10 (by decide) (fun c_10 => ?_) (fun c_10 => ?_)
      · replace hf := z_ip c_10 hf
        refine lv_iconst (v := (-1)) (pc := 34) hx hb dX5_inLine_34 (by decide) ?_
        exact W.iret (pc := 35) (v := (-1)) hx hb hr (fun t ht hW => ⟨_, rfl, (Option.some.inj hf), ht⟩) (fun _ h => nomatch h) dX5_inLine_35
      · replace hf := z_in c_10 hf
        refine lv_aload_n (pc := 13) hx hb dX5_inLine_13 rfl (lv_at hl 0 rfl) ?_
        refine va_get (pc := 14) (ci := 5) (C := RX5) (T := TX5) (N := 11) hx hb hts in_X5 hown hK hP 0 rfl rfl 9 (by decide) lk_fi29 (fun _ h9 => h9) rfl dX5_inLine_14 ?_
        refine lv_bipush (v := 19) (pc := 17) hx hb dX5_inLine_17 (by decide) ?_
        refine lv_iload_n (pc := 19) hx hb dX5_inLine_19 rfl (lv_at hl 2 rfl) ?_
        refine lv_iadd (pc := 20) hx hb dX5_inLine_20 ?_
        obtain ⟨x21, e21, hf⟩ := z_bd hf
        refine z_iald (pc := 21) hx hb hK hP 7 0 rfl rfl e21 dX5_inLine_21 ?_
        refine lv_iload_n (pc := 22) hx hb dX5_inLine_22 rfl (lv_at hl 1 rfl) ?_
        refine lv_icmp_ne (pc := 23) (tgt := 28) hx hb dX5_inLine_23 (by decide) (fun c_23 => ?_) (fun c_23 => ?_)
        · replace hf := z_in c_23 hf
          refine lv_iinc (pc := 28) (v := (u2 + 1)) (lv' := [(2, .int (u2 + 1)), (0, .ref (d 0)), (1, .int u1)]) hx hb dX5_inLine_28 hl (k := 2) rfl rfl (by decide) rfl (fun ls hl => ?_)
          refine lv_goto (pc := 31) (tgt := 2) hx hb dX5_inLine_31 (by decide) ?_
          exact ih u1 (u2 + 1) ls (lv_sub hl [1, 2, 0] rfl) hf
        · replace hf := z_ip c_23 hf
          refine lv_iload_n (pc := 26) hx hb dX5_inLine_26 rfl (lv_at hl 2 rfl) ?_
          exact W.iret (pc := 27) (v := u2) hx hb hr (fun t ht hW => ⟨_, rfl, (Option.some.inj hf), ht⟩) (fun _ h => nomatch h) dX5_inLine_27
  unfold f_X5_inLine at hf
  refine lv_iconst (v := 0) (pc := 0) hx hb dX5_inLine_0 (by decide) ?_
  refine lv_istore_n (pc := 1) (lv' := [(2, .int 0), (0, .ref (d 0)), (1, .int v1)]) hx hb dX5_inLine_1 rfl hl (by decide) rfl (fun ls hl => ?_)
  exact lp_2 z_FU v1 0 ls (lv_sub hl [1, 2, 0] rfl) hf
def f_X5_takeOut_L13  : Nat → Int32 → z_M → Option z_M
  | 0, _, _ => none
  | n + 1, u2, M => (z_at (M.2 6) 6 55).bind (fun x20 => (if x20 ≤ u2 then some M else (z_at (M.2 6) ((19 + u2) + 1) 55).bind (fun x42 => (z_wr (M.2 6) (19 + u2) 55 x42).bind (fun x43 => f_X5_takeOut_L13 n (u2 + 1) (z_mR M 6 x43)))))
def f_X5_takeOut (M : z_M) (v1 : Int32) : Option z_M := (z_at (M.2 6) 6 55).bind (fun x7 => (z_wr (M.2 6) 6 55 (x7 - 1)).bind (fun x10 => (f_X5_takeOut_L13 z_FU v1 (z_mR M 6 x10)).bind (fun x13 => some x13)))
set_option maxHeartbeats 4000000 in
set_option maxRecDepth 100000 in
theorem m_X5_takeOut (l : Launch) (X : z_X) (d : Nat → Nat) (M : z_M) (v1 : Int32) {RR : z_M} (hf : f_X5_takeOut M v1 = some RR) : z_mV l yX5_takeOut wsX5_takeOut 0 0 X [.ref (d 0), .int v1] (z_wM X d M) (z_wM X d RR) := by
  intro sz
  refine Met.ofW (cc := cX5_takeOut) (maxL := 3) (ret := none) (by decide) rfl ?_
  intro p e s m args below meth c s₁ Bd hml hv
  obtain ⟨rfl, hsz, hP, hK, hN, hD0⟩ := hv
  have hx := Bd.exec
  have hb := Bd.bytes
  have hr := Bd.returns
  have hts := atoms_spec (ws := wsX5_takeOut) Bd.pre
  have hown : s.vm.findClass RX5 = some m.cls := findClass_of_methodNamed Bd.named
  have hlocks := Bd.notSynchronized
  have S : CallFix p m c cX5_takeOut 3 s _ wsX5_takeOut RX5 := ⟨hx, hb, hml, hown, hts⟩
  have lk_fi29 := hts (.fieldLink RX5 29 "HouseBellsModel" "now" "[I") (List.mem_of_getElem? (i := 1) rfl)
  have in_X5 : ∀ w ∈ wsX50, w ∈ wsX5_takeOut := fun _ h => (List.mem_cons_of_mem _ (List.mem_append_right _ h))
  subst hsz
  have hD := hD0.self (sz := s.heap.size)
  generalize hAe : va_A (z_wM X d M) s.heap.size = A at hD ⊢
  have hA : ∀ q : Nat, s.heap.size ≤ q → A q := fun q h => by rw [← hAe]; exact Or.inr h
  have hS : va_S A s.heap s.heap [] := va_S.rf
  have hl := lv_entry ([.ref (d 0), .int v1]) (n := 3) (Nat.le_of_ble_eq_true rfl)
  rw [lg_entry_eq]
  generalize (lg_sl ([.ref (d 0), .int v1]) ++ List.replicate (3 - (lg_sl ([.ref (d 0), .int v1])).length) Slot.unset).toArray = ls at hl ⊢
  have hl : lv_has ls 3 [(0, .ref (d 0)), (1, .int v1)] := hl
  have lp_13 : ∀ (n : Nat) (u2 : Int32) (M : z_M) (T : z_M) (H : Heap) (locs : List Loc), va_P X.1 vwCl (z_wM X d M) H → va_D A (z_wM X d M) → va_S A s.heap H locs → ∀ (ls : Array Slot), lv_has ls 3 [(0, .ref (d 0)), (2, .int u2)] → f_X5_takeOut_L13 n u2 M = some T → (∀ (H : Heap) (locs : List Loc), va_P X.1 vwCl (z_wM X d T) H → va_D A (z_wM X d T) → va_S A s.heap H locs → ∀ (ls : Array Slot), lv_has ls 3 [] → W p l e (headSpec wsX5_takeOut (z_R 0 0)).room s m ([.ref (d 0), .int v1] : List Value).toArray below meth c H locs 0 0 (MQ below (va_Qv (fun u : va_W => u = (z_wM X d RR)) (z_Bm X A) A) ([.ref (d 0), .int v1] : List Value).toArray s 0 0 A) (F0 m 50 ls [])) → W p l e (headSpec wsX5_takeOut (z_R 0 0)).room s m ([.ref (d 0), .int v1] : List Value).toArray below meth c H locs 0 0 (MQ below (va_Qv (fun u : va_W => u = (z_wM X d RR)) (z_Bm X A) A) ([.ref (d 0), .int v1] : List Value).toArray s 0 0 A) (F0 m 13 ls []) := by
    intro n
    induction n with
    | zero =>
      intro u2 M T H locs hP hD hS ls hl hf kk
      cases hf
    | succ n ih =>
      intro u2 M T H locs hP hD hS ls hl hf kk
      rw [f_X5_takeOut_L13] at hf
      refine lv_iload_n (pc := 13) hx hb dX5_takeOut_13 rfl (lv_at hl 1 rfl) ?_
      refine lv_aload_n (pc := 14) hx hb dX5_takeOut_14 rfl (lv_at hl 0 rfl) ?_
      refine va_get (pc := 15) (ci := 5) (C := RX5) (T := TX5) (N := 11) hx hb hts in_X5 hown hK hP 0 rfl rfl 9 (by decide) lk_fi29 (fun _ h9 => h9) rfl dX5_takeOut_15 ?_
      refine lv_bipush (v := 6) (pc := 18) hx hb dX5_takeOut_18 (by decide) ?_
      obtain ⟨x20, e20, hf⟩ := z_bd hf
      refine z_iald (pc := 20) hx hb hK hP 7 0 rfl rfl e20 dX5_takeOut_20 ?_
      refine lv_icmp_ge (pc := 21) (tgt := 50) hx hb dX5_takeOut_21 (by decide) (fun c_21 => ?_) (fun c_21 => ?_)
      · replace hf := z_ip c_21 hf
        obtain rfl := Option.some.inj hf
        exact kk H locs hP hD hS ls (lv_sub hl [] rfl)
      · replace hf := z_in c_21 hf
        refine lv_aload_n (pc := 24) hx hb dX5_takeOut_24 rfl (lv_at hl 0 rfl) ?_
        refine va_get (pc := 25) (ci := 5) (C := RX5) (T := TX5) (N := 11) hx hb hts in_X5 hown hK hP 0 rfl rfl 9 (by decide) lk_fi29 (fun _ h9 => h9) rfl dX5_takeOut_25 ?_
        refine lv_bipush (v := 19) (pc := 28) hx hb dX5_takeOut_28 (by decide) ?_
        refine lv_iload_n (pc := 30) hx hb dX5_takeOut_30 rfl (lv_at hl 1 rfl) ?_
        refine lv_iadd (pc := 31) hx hb dX5_takeOut_31 ?_
        refine lv_aload_n (pc := 32) hx hb dX5_takeOut_32 rfl (lv_at hl 0 rfl) ?_
        refine va_get (pc := 33) (ci := 5) (C := RX5) (T := TX5) (N := 11) hx hb hts in_X5 hown hK hP 0 rfl rfl 9 (by decide) lk_fi29 (fun _ h9 => h9) rfl dX5_takeOut_33 ?_
        refine lv_bipush (v := 19) (pc := 36) hx hb dX5_takeOut_36 (by decide) ?_
        refine lv_iload_n (pc := 38) hx hb dX5_takeOut_38 rfl (lv_at hl 1 rfl) ?_
        refine lv_iadd (pc := 39) hx hb dX5_takeOut_39 ?_
        refine lv_iconst (v := 1) (pc := 40) hx hb dX5_takeOut_40 (by decide) ?_
        refine lv_iadd (pc := 41) hx hb dX5_takeOut_41 ?_
        obtain ⟨x42, e42, hf⟩ := z_bd hf
        refine z_iald (pc := 42) hx hb hK hP 7 0 rfl rfl e42 dX5_takeOut_42 ?_
        obtain ⟨x43, e43, hf⟩ := z_bd hf
        refine z_iast (pc := 43) (W1 := (z_wM X d (z_mR M 6 x43))) hx hb hK hP hD hS 7 0 rfl rfl e43 rfl dX5_takeOut_43 (fun H locs hP hD hS => ?_)
        refine lv_iinc (pc := 44) (v := (u2 + 1)) (lv' := [(2, .int (u2 + 1)), (0, .ref (d 0))]) hx hb dX5_takeOut_44 hl (k := 1) rfl rfl (by decide) rfl (fun ls hl => ?_)
        refine lv_goto (pc := 47) (tgt := 13) hx hb dX5_takeOut_47 (by decide) ?_
        exact ih (u2 + 1) (z_mR M 6 x43) T H locs hP hD hS ls (lv_sub hl [1, 0] rfl) hf kk
  suffices hgo : ∀ (H : Heap) (locs : List Loc), va_P X.1 vwCl (z_wM X d M) H → va_D A (z_wM X d M) → va_S A s.heap H locs → W p l e (headSpec wsX5_takeOut (z_R 0 0)).room s m ([.ref (d 0), .int v1] : List Value).toArray below meth c H locs 0 0 (MQ below (va_Qv (fun u : va_W => u = (z_wM X d RR)) (z_Bm X A) A) ([.ref (d 0), .int v1] : List Value).toArray s 0 0 A) (F0 m 0 ls []) from hgo _ _ hP hD hS
  clear hP hD hS
  intro H locs hP hD hS
  unfold f_X5_takeOut at hf
  refine lv_aload_n (pc := 0) hx hb dX5_takeOut_0 rfl (lv_at hl 0 rfl) ?_
  refine va_get (pc := 1) (ci := 5) (C := RX5) (T := TX5) (N := 11) hx hb hts in_X5 hown hK hP 0 rfl rfl 9 (by decide) lk_fi29 (fun _ h9 => h9) rfl dX5_takeOut_1 ?_
  refine lv_bipush (v := 6) (pc := 4) hx hb dX5_takeOut_4 (by decide) ?_
  refine lv_dup2_11 (pc := 6) hx hb dX5_takeOut_6 rfl rfl ?_
  obtain ⟨x7, e7, hf⟩ := z_bd hf
  refine z_iald (pc := 7) hx hb hK hP 7 0 rfl rfl e7 dX5_takeOut_7 ?_
  refine lv_iconst (v := 1) (pc := 8) hx hb dX5_takeOut_8 (by decide) ?_
  refine lv_isub (pc := 9) hx hb dX5_takeOut_9 ?_
  obtain ⟨x10, e10, hf⟩ := z_bd hf
  refine z_iast (pc := 10) (W1 := (z_wM X d (z_mR M 6 x10))) hx hb hK hP hD hS 7 0 rfl rfl e10 rfl dX5_takeOut_10 (fun H locs hP hD hS => ?_)
  refine lv_iload_n (pc := 11) hx hb dX5_takeOut_11 rfl (lv_at hl 1 rfl) ?_
  refine lv_istore_n (pc := 12) (lv' := [(2, .int v1), (0, .ref (d 0)), (1, .int v1)]) hx hb dX5_takeOut_12 rfl hl (by decide) rfl (fun ls hl => ?_)
  obtain ⟨x13, e13, hf⟩ := z_bd hf
  refine lp_13 z_FU v1 (z_mR M 6 x10) x13 H locs hP hD hS ls (lv_sub hl [1, 0] rfl) e13 (fun H locs hP hD hS ls hl => ?_)
  exact W.vret (pc := 50) hx hb hr (fun t ht hW => ⟨⟨(z_wM X d x13), rfl, congrArg (fun z => (z_wM X d z)) (Option.some.inj hf), by rw [ht]; exact hP, hD⟩, hS.F ht⟩) hS.2.2 dX5_takeOut_50
def f_X5_rings (M : z_M) (v1 : Int32) : Option (Int32 × z_M) := (z_at (M.2 4) v1 12).bind (fun x5 => (if x5 = 0 then (z_at (M.2 6) 1 55).bind (fun x14 => (z_at (M.2 0) v1 12).bind (fun x20 => (if x14 ≤ x20 then (if (0 : Int32) = 0 then (z_at (M.2 6) 5 55).bind (fun x40 => (z_wr (M.2 6) 5 55 (x40 + 1)).bind (fun x43 => some (0, (z_mR M 6 x43)))) else (z_at (M.2 6) 1 55).bind (fun x52 => (z_at (M.2 0) v1 12).bind (fun x58 => (z_wr (M.2 6) 1 55 (x52 - (x58 + 1))).bind (fun x62 => (z_at (M.2 3) v1 12).bind (fun x69 => (f_X5_inLine (z_mR M 6 x62) x69).bind (fun x70 => (if x70 = (-1) then (z_at x62 6 55).bind (fun x89 => (z_at (M.2 3) v1 12).bind (fun x96 => (z_wr x62 (19 + x89) 55 x96).bind (fun x97 => (z_at x97 6 55).bind (fun x105 => (z_wr x97 6 55 (x105 + 1)).bind (fun x108 => some (1, (z_mR M 6 x108))))))) else some (1, (z_mR M 6 x62))))))))) else (if (1 : Int32) = 0 then (z_at (M.2 6) 5 55).bind (fun x40 => (z_wr (M.2 6) 5 55 (x40 + 1)).bind (fun x43 => some (0, (z_mR M 6 x43)))) else (z_at (M.2 6) 1 55).bind (fun x52 => (z_at (M.2 0) v1 12).bind (fun x58 => (z_wr (M.2 6) 1 55 (x52 - (x58 + 1))).bind (fun x62 => (z_at (M.2 3) v1 12).bind (fun x69 => (f_X5_inLine (z_mR M 6 x62) x69).bind (fun x70 => (if x70 = (-1) then (z_at x62 6 55).bind (fun x89 => (z_at (M.2 3) v1 12).bind (fun x96 => (z_wr x62 (19 + x89) 55 x96).bind (fun x97 => (z_at x97 6 55).bind (fun x105 => (z_wr x97 6 55 (x105 + 1)).bind (fun x108 => some (1, (z_mR M 6 x108))))))) else some (1, (z_mR M 6 x62)))))))))))) else (if (0 : Int32) = 0 then (z_at (M.2 6) 5 55).bind (fun x40 => (z_wr (M.2 6) 5 55 (x40 + 1)).bind (fun x43 => some (0, (z_mR M 6 x43)))) else (z_at (M.2 6) 1 55).bind (fun x52 => (z_at (M.2 0) v1 12).bind (fun x58 => (z_wr (M.2 6) 1 55 (x52 - (x58 + 1))).bind (fun x62 => (z_at (M.2 3) v1 12).bind (fun x69 => (f_X5_inLine (z_mR M 6 x62) x69).bind (fun x70 => (if x70 = (-1) then (z_at x62 6 55).bind (fun x89 => (z_at (M.2 3) v1 12).bind (fun x96 => (z_wr x62 (19 + x89) 55 x96).bind (fun x97 => (z_at x97 6 55).bind (fun x105 => (z_wr x97 6 55 (x105 + 1)).bind (fun x108 => some (1, (z_mR M 6 x108))))))) else some (1, (z_mR M 6 x62)))))))))))
set_option maxHeartbeats 4000000 in
set_option maxRecDepth 100000 in
theorem m_X5_rings (l : Launch) (X : z_X) (d : Nat → Nat) (M : z_M) (v1 : Int32) {RR : (Int32 × z_M)} (hf : f_X5_rings M v1 = some RR) : z_mI l yX5_rings wsX5_rings 1 22 X [.ref (d 0), .int v1] (z_wM X d M) RR.1 (z_wM X d RR.2) := by
  intro sz
  refine Met.ofW (cc := cX5_rings) (maxL := 3) (ret := (some .boolean)) (by decide) rfl ?_
  intro p e s m args below meth c s₁ Bd hml hv
  obtain ⟨rfl, hsz, hP, hK, hN, hD0⟩ := hv
  have hx := Bd.exec
  have hb := Bd.bytes
  have hr := Bd.returns
  have hts := atoms_spec (ws := wsX5_rings) Bd.pre
  have hown : s.vm.findClass RX5 = some m.cls := findClass_of_methodNamed Bd.named
  have hlocks := Bd.notSynchronized
  have S : CallFix p m c cX5_rings 3 s _ wsX5_rings RX5 := ⟨hx, hb, hml, hown, hts⟩
  have lk_fi22 := hts (.fieldLink RX5 22 "HouseBellsModel" "isCut" "[Z") (List.mem_of_getElem? (i := 1) rfl)
  have lk_fi29 := hts (.fieldLink RX5 29 "HouseBellsModel" "now" "[I") (List.mem_of_getElem? (i := 2) rfl)
  have lk_fi9 := hts (.fieldLink RX5 9 "HouseBellsModel" "floor" "[I") (List.mem_of_getElem? (i := 3) rfl)
  have lk_fi19 := hts (.fieldLink RX5 19 "HouseBellsModel" "drop" "[I") (List.mem_of_getElem? (i := 4) rfl)
  have in_X5 : ∀ w ∈ wsX50, w ∈ wsX5_rings := fun _ h => (List.mem_cons_of_mem _ (List.mem_append_right _ h))
  subst hsz
  have hD := hD0.self (sz := s.heap.size)
  generalize hAe : va_A (z_wM X d M) s.heap.size = A at hD ⊢
  have hA : ∀ q : Nat, s.heap.size ≤ q → A q := fun q h => by rw [← hAe]; exact Or.inr h
  have hS : va_S A s.heap s.heap [] := va_S.rf
  have hl := lv_entry ([.ref (d 0), .int v1]) (n := 3) (Nat.le_of_ble_eq_true rfl)
  rw [lg_entry_eq]
  generalize (lg_sl ([.ref (d 0), .int v1]) ++ List.replicate (3 - (lg_sl ([.ref (d 0), .int v1])).length) Slot.unset).toArray = ls at hl ⊢
  have hl : lv_has ls 3 [(0, .ref (d 0)), (1, .int v1)] := hl
  suffices hgo : ∀ (H : Heap) (locs : List Loc), va_P X.1 vwCl (z_wM X d M) H → va_D A (z_wM X d M) → va_S A s.heap H locs → W p l e (headSpec wsX5_rings (z_R 1 22)).room s m ([.ref (d 0), .int v1] : List Value).toArray below meth c H locs 0 0 (MQ below (va_Qi (fun (z : Int32) (u : va_W) => z = RR.1 ∧ u = (z_wM X d RR.2)) (z_Bm X A) A) ([.ref (d 0), .int v1] : List Value).toArray s 0 0 A) (F0 m 0 ls []) from hgo _ _ hP hD hS
  clear hP hD hS
  intro H locs hP hD hS
  unfold f_X5_rings at hf
  refine lv_aload_n (pc := 0) hx hb dX5_rings_0 rfl (lv_at hl 0 rfl) ?_
  refine va_get (pc := 1) (ci := 5) (C := RX5) (T := TX5) (N := 11) hx hb hts in_X5 hown hK hP 0 rfl rfl 7 (by decide) lk_fi22 (fun _ h9 => h9) rfl dX5_rings_1 ?_
  refine lv_iload_n (pc := 4) hx hb dX5_rings_4 rfl (lv_at hl 1 rfl) ?_
  obtain ⟨x5, e5, hf⟩ := z_bd hf
  refine z_zald (pc := 5) hx hb hK hP 5 1 rfl rfl e5 dX5_rings_5 ?_
  refine lv_if_ne (pc := 6) (tgt := 28) hx hb dX5_rings_6 (by decide) (fun c_6 => ?_) (fun c_6 => ?_)
  · replace hf := z_in c_6 hf
    refine lv_iconst (v := 0) (pc := 28) hx hb dX5_rings_28 (by decide) ?_
    refine lv_istore_n (pc := 29) (lv' := [(2, .int 0), (0, .ref (d 0)), (1, .int v1)]) hx hb dX5_rings_29 rfl hl (by decide) rfl (fun ls hl => ?_)
    refine lv_iload_n (pc := 30) hx hb dX5_rings_30 rfl (lv_at hl 0 rfl) ?_
    refine lv_if_ne (pc := 31) (tgt := 46) hx hb dX5_rings_31 (by decide) (fun c_31 => ?_) (fun c_31 => ?_)
    · replace hf := z_in c_31 hf
      refine lv_aload_n (pc := 46) hx hb dX5_rings_46 rfl (lv_at hl 1 rfl) ?_
      refine va_get (pc := 47) (ci := 5) (C := RX5) (T := TX5) (N := 11) hx hb hts in_X5 hown hK hP 0 rfl rfl 9 (by decide) lk_fi29 (fun _ h9 => h9) rfl dX5_rings_47 ?_
      refine lv_iconst (v := 1) (pc := 50) hx hb dX5_rings_50 (by decide) ?_
      refine lv_dup2_11 (pc := 51) hx hb dX5_rings_51 rfl rfl ?_
      obtain ⟨x52, e52, hf⟩ := z_bd hf
      refine z_iald (pc := 52) hx hb hK hP 7 0 rfl rfl e52 dX5_rings_52 ?_
      refine lv_aload_n (pc := 53) hx hb dX5_rings_53 rfl (lv_at hl 1 rfl) ?_
      refine va_get (pc := 54) (ci := 5) (C := RX5) (T := TX5) (N := 11) hx hb hts in_X5 hown hK hP 0 rfl rfl 3 (by decide) lk_fi9 (fun _ h9 => h9) rfl dX5_rings_54 ?_
      refine lv_iload_n (pc := 57) hx hb dX5_rings_57 rfl (lv_at hl 2 rfl) ?_
      obtain ⟨x58, e58, hf⟩ := z_bd hf
      refine z_iald (pc := 58) hx hb hK hP 1 0 rfl rfl e58 dX5_rings_58 ?_
      refine lv_iconst (v := 1) (pc := 59) hx hb dX5_rings_59 (by decide) ?_
      refine lv_iadd (pc := 60) hx hb dX5_rings_60 ?_
      refine lv_isub (pc := 61) hx hb dX5_rings_61 ?_
      obtain ⟨x62, e62, hf⟩ := z_bd hf
      refine z_iast (pc := 62) (W1 := (z_wM X d (z_mR M 6 x62))) hx hb hK hP hD hS 7 0 rfl rfl e62 rfl dX5_rings_62 (fun H locs hP hD hS => ?_)
      refine lv_aload_n (pc := 63) hx hb dX5_rings_63 rfl (lv_at hl 1 rfl) ?_
      refine lv_aload_n (pc := 64) hx hb dX5_rings_64 rfl (lv_at hl 1 rfl) ?_
      refine va_get (pc := 65) (ci := 5) (C := RX5) (T := TX5) (N := 11) hx hb hts in_X5 hown hK hP 0 rfl rfl 6 (by decide) lk_fi19 (fun _ h9 => h9) rfl dX5_rings_65 ?_
      refine lv_iload_n (pc := 68) hx hb dX5_rings_68 rfl (lv_at hl 2 rfl) ?_
      obtain ⟨x69, e69, hf⟩ := z_bd hf
      refine z_iald (pc := 69) hx hb hK hP 4 0 rfl rfl e69 dX5_rings_69 ?_
      obtain ⟨x70, e70, hf⟩ := z_bd hf
      refine z_cpI (pc := 70) S (m_X5_inLine l X d (z_mR M 6 x62) x69 e70) (cwV 1 hts gX5_rings_X5_inLine rfl rfl rfl hdX5_inLine ⟨Nat.le_of_ble_eq_true rfl, Nat.le_of_ble_eq_true rfl⟩) hP hK hN (s_M_M X d (z_mR M 6 x62)) (ci := 5) rfl rfl rfl ⟨Nat.le_of_ble_eq_true rfl, Nat.le_of_ble_eq_true rfl⟩ rfl hl.1 rfl (Nat.le_of_ble_eq_true rfl) dX5_rings_70 ?_
      refine lv_iconst (v := (-1)) (pc := 73) hx hb dX5_rings_73 (by decide) ?_
      refine lv_icmp_ne (pc := 74) (tgt := 109) hx hb dX5_rings_74 (by decide) (fun c_74 => ?_) (fun c_74 => ?_)
      · replace hf := z_in c_74 hf
        refine lv_iconst (v := 1) (pc := 109) hx hb dX5_rings_109 (by decide) ?_
        exact W.zret (pc := 110) (v := 1) hx hb hr rfl (fun t ht hW => ⟨⟨_, (z_wM X d (z_mR M 6 x62)), rfl, ⟨z_e1 hf, congrArg (fun z => (z_wM X d z)) (z_e2 hf)⟩, by rw [ht]; exact hP, hD⟩, hS.F ht⟩) hS.2.2 dX5_rings_110
      · replace hf := z_ip c_74 hf
        refine lv_aload_n (pc := 77) hx hb dX5_rings_77 rfl (lv_at hl 1 rfl) ?_
        refine va_get (pc := 78) (ci := 5) (C := RX5) (T := TX5) (N := 11) hx hb hts in_X5 hown hK hP 0 rfl rfl 9 (by decide) lk_fi29 (fun _ h9 => h9) rfl dX5_rings_78 ?_
        refine lv_bipush (v := 19) (pc := 81) hx hb dX5_rings_81 (by decide) ?_
        refine lv_aload_n (pc := 83) hx hb dX5_rings_83 rfl (lv_at hl 1 rfl) ?_
        refine va_get (pc := 84) (ci := 5) (C := RX5) (T := TX5) (N := 11) hx hb hts in_X5 hown hK hP 0 rfl rfl 9 (by decide) lk_fi29 (fun _ h9 => h9) rfl dX5_rings_84 ?_
        refine lv_bipush (v := 6) (pc := 87) hx hb dX5_rings_87 (by decide) ?_
        obtain ⟨x89, e89, hf⟩ := z_bd hf
        refine z_iald (pc := 89) hx hb hK hP 7 0 rfl rfl e89 dX5_rings_89 ?_
        refine lv_iadd (pc := 90) hx hb dX5_rings_90 ?_
        refine lv_aload_n (pc := 91) hx hb dX5_rings_91 rfl (lv_at hl 1 rfl) ?_
        refine va_get (pc := 92) (ci := 5) (C := RX5) (T := TX5) (N := 11) hx hb hts in_X5 hown hK hP 0 rfl rfl 6 (by decide) lk_fi19 (fun _ h9 => h9) rfl dX5_rings_92 ?_
        refine lv_iload_n (pc := 95) hx hb dX5_rings_95 rfl (lv_at hl 2 rfl) ?_
        obtain ⟨x96, e96, hf⟩ := z_bd hf
        refine z_iald (pc := 96) hx hb hK hP 4 0 rfl rfl e96 dX5_rings_96 ?_
        obtain ⟨x97, e97, hf⟩ := z_bd hf
        refine z_iast (pc := 97) (W1 := (z_wM X d (z_mR M 6 x97))) hx hb hK hP hD hS 7 0 rfl rfl e97 rfl dX5_rings_97 (fun H locs hP hD hS => ?_)
        refine lv_aload_n (pc := 98) hx hb dX5_rings_98 rfl (lv_at hl 1 rfl) ?_
        refine va_get (pc := 99) (ci := 5) (C := RX5) (T := TX5) (N := 11) hx hb hts in_X5 hown hK hP 0 rfl rfl 9 (by decide) lk_fi29 (fun _ h9 => h9) rfl dX5_rings_99 ?_
        refine lv_bipush (v := 6) (pc := 102) hx hb dX5_rings_102 (by decide) ?_
        refine lv_dup2_11 (pc := 104) hx hb dX5_rings_104 rfl rfl ?_
        obtain ⟨x105, e105, hf⟩ := z_bd hf
        refine z_iald (pc := 105) hx hb hK hP 7 0 rfl rfl e105 dX5_rings_105 ?_
        refine lv_iconst (v := 1) (pc := 106) hx hb dX5_rings_106 (by decide) ?_
        refine lv_iadd (pc := 107) hx hb dX5_rings_107 ?_
        obtain ⟨x108, e108, hf⟩ := z_bd hf
        refine z_iast (pc := 108) (W1 := (z_wM X d (z_mR M 6 x108))) hx hb hK hP hD hS 7 0 rfl rfl e108 rfl dX5_rings_108 (fun H locs hP hD hS => ?_)
        refine lv_iconst (v := 1) (pc := 109) hx hb dX5_rings_109 (by decide) ?_
        exact W.zret (pc := 110) (v := 1) hx hb hr rfl (fun t ht hW => ⟨⟨_, (z_wM X d (z_mR M 6 x108)), rfl, ⟨z_e1 hf, congrArg (fun z => (z_wM X d z)) (z_e2 hf)⟩, by rw [ht]; exact hP, hD⟩, hS.F ht⟩) hS.2.2 dX5_rings_110
    · replace hf := z_ip c_31 hf
      refine lv_aload_n (pc := 34) hx hb dX5_rings_34 rfl (lv_at hl 1 rfl) ?_
      refine va_get (pc := 35) (ci := 5) (C := RX5) (T := TX5) (N := 11) hx hb hts in_X5 hown hK hP 0 rfl rfl 9 (by decide) lk_fi29 (fun _ h9 => h9) rfl dX5_rings_35 ?_
      refine lv_iconst (v := 5) (pc := 38) hx hb dX5_rings_38 (by decide) ?_
      refine lv_dup2_11 (pc := 39) hx hb dX5_rings_39 rfl rfl ?_
      obtain ⟨x40, e40, hf⟩ := z_bd hf
      refine z_iald (pc := 40) hx hb hK hP 7 0 rfl rfl e40 dX5_rings_40 ?_
      refine lv_iconst (v := 1) (pc := 41) hx hb dX5_rings_41 (by decide) ?_
      refine lv_iadd (pc := 42) hx hb dX5_rings_42 ?_
      obtain ⟨x43, e43, hf⟩ := z_bd hf
      refine z_iast (pc := 43) (W1 := (z_wM X d (z_mR M 6 x43))) hx hb hK hP hD hS 7 0 rfl rfl e43 rfl dX5_rings_43 (fun H locs hP hD hS => ?_)
      refine lv_iconst (v := 0) (pc := 44) hx hb dX5_rings_44 (by decide) ?_
      exact W.zret (pc := 45) (v := 0) hx hb hr rfl (fun t ht hW => ⟨⟨_, (z_wM X d (z_mR M 6 x43)), rfl, ⟨z_e1 hf, congrArg (fun z => (z_wM X d z)) (z_e2 hf)⟩, by rw [ht]; exact hP, hD⟩, hS.F ht⟩) hS.2.2 dX5_rings_45
  · replace hf := z_ip c_6 hf
    refine lv_aload_n (pc := 9) hx hb dX5_rings_9 rfl (lv_at hl 0 rfl) ?_
    refine va_get (pc := 10) (ci := 5) (C := RX5) (T := TX5) (N := 11) hx hb hts in_X5 hown hK hP 0 rfl rfl 9 (by decide) lk_fi29 (fun _ h9 => h9) rfl dX5_rings_10 ?_
    refine lv_iconst (v := 1) (pc := 13) hx hb dX5_rings_13 (by decide) ?_
    obtain ⟨x14, e14, hf⟩ := z_bd hf
    refine z_iald (pc := 14) hx hb hK hP 7 0 rfl rfl e14 dX5_rings_14 ?_
    refine lv_aload_n (pc := 15) hx hb dX5_rings_15 rfl (lv_at hl 0 rfl) ?_
    refine va_get (pc := 16) (ci := 5) (C := RX5) (T := TX5) (N := 11) hx hb hts in_X5 hown hK hP 0 rfl rfl 3 (by decide) lk_fi9 (fun _ h9 => h9) rfl dX5_rings_16 ?_
    refine lv_iload_n (pc := 19) hx hb dX5_rings_19 rfl (lv_at hl 1 rfl) ?_
    obtain ⟨x20, e20, hf⟩ := z_bd hf
    refine z_iald (pc := 20) hx hb hK hP 1 0 rfl rfl e20 dX5_rings_20 ?_
    refine lv_icmp_le (pc := 21) (tgt := 28) hx hb dX5_rings_21 (by decide) (fun c_21 => ?_) (fun c_21 => ?_)
    · replace hf := z_ip c_21 hf
      refine lv_iconst (v := 0) (pc := 28) hx hb dX5_rings_28 (by decide) ?_
      refine lv_istore_n (pc := 29) (lv' := [(2, .int 0), (0, .ref (d 0)), (1, .int v1)]) hx hb dX5_rings_29 rfl hl (by decide) rfl (fun ls hl => ?_)
      refine lv_iload_n (pc := 30) hx hb dX5_rings_30 rfl (lv_at hl 0 rfl) ?_
      refine lv_if_ne (pc := 31) (tgt := 46) hx hb dX5_rings_31 (by decide) (fun c_31 => ?_) (fun c_31 => ?_)
      · replace hf := z_in c_31 hf
        refine lv_aload_n (pc := 46) hx hb dX5_rings_46 rfl (lv_at hl 1 rfl) ?_
        refine va_get (pc := 47) (ci := 5) (C := RX5) (T := TX5) (N := 11) hx hb hts in_X5 hown hK hP 0 rfl rfl 9 (by decide) lk_fi29 (fun _ h9 => h9) rfl dX5_rings_47 ?_
        refine lv_iconst (v := 1) (pc := 50) hx hb dX5_rings_50 (by decide) ?_
        refine lv_dup2_11 (pc := 51) hx hb dX5_rings_51 rfl rfl ?_
        obtain ⟨x52, e52, hf⟩ := z_bd hf
        refine z_iald (pc := 52) hx hb hK hP 7 0 rfl rfl e52 dX5_rings_52 ?_
        refine lv_aload_n (pc := 53) hx hb dX5_rings_53 rfl (lv_at hl 1 rfl) ?_
        refine va_get (pc := 54) (ci := 5) (C := RX5) (T := TX5) (N := 11) hx hb hts in_X5 hown hK hP 0 rfl rfl 3 (by decide) lk_fi9 (fun _ h9 => h9) rfl dX5_rings_54 ?_
        refine lv_iload_n (pc := 57) hx hb dX5_rings_57 rfl (lv_at hl 2 rfl) ?_
        obtain ⟨x58, e58, hf⟩ := z_bd hf
        refine z_iald (pc := 58) hx hb hK hP 1 0 rfl rfl e58 dX5_rings_58 ?_
        refine lv_iconst (v := 1) (pc := 59) hx hb dX5_rings_59 (by decide) ?_
        refine lv_iadd (pc := 60) hx hb dX5_rings_60 ?_
        refine lv_isub (pc := 61) hx hb dX5_rings_61 ?_
        obtain ⟨x62, e62, hf⟩ := z_bd hf
        refine z_iast (pc := 62) (W1 := (z_wM X d (z_mR M 6 x62))) hx hb hK hP hD hS 7 0 rfl rfl e62 rfl dX5_rings_62 (fun H locs hP hD hS => ?_)
        refine lv_aload_n (pc := 63) hx hb dX5_rings_63 rfl (lv_at hl 1 rfl) ?_
        refine lv_aload_n (pc := 64) hx hb dX5_rings_64 rfl (lv_at hl 1 rfl) ?_
        refine va_get (pc := 65) (ci := 5) (C := RX5) (T := TX5) (N := 11) hx hb hts in_X5 hown hK hP 0 rfl rfl 6 (by decide) lk_fi19 (fun _ h9 => h9) rfl dX5_rings_65 ?_
        refine lv_iload_n (pc := 68) hx hb dX5_rings_68 rfl (lv_at hl 2 rfl) ?_
        obtain ⟨x69, e69, hf⟩ := z_bd hf
        refine z_iald (pc := 69) hx hb hK hP 4 0 rfl rfl e69 dX5_rings_69 ?_
        obtain ⟨x70, e70, hf⟩ := z_bd hf
        refine z_cpI (pc := 70) S (m_X5_inLine l X d (z_mR M 6 x62) x69 e70) (cwV 1 hts gX5_rings_X5_inLine rfl rfl rfl hdX5_inLine ⟨Nat.le_of_ble_eq_true rfl, Nat.le_of_ble_eq_true rfl⟩) hP hK hN (s_M_M X d (z_mR M 6 x62)) (ci := 5) rfl rfl rfl ⟨Nat.le_of_ble_eq_true rfl, Nat.le_of_ble_eq_true rfl⟩ rfl hl.1 rfl (Nat.le_of_ble_eq_true rfl) dX5_rings_70 ?_
        refine lv_iconst (v := (-1)) (pc := 73) hx hb dX5_rings_73 (by decide) ?_
        refine lv_icmp_ne (pc := 74) (tgt := 109) hx hb dX5_rings_74 (by decide) (fun c_74 => ?_) (fun c_74 => ?_)
        · replace hf := z_in c_74 hf
          refine lv_iconst (v := 1) (pc := 109) hx hb dX5_rings_109 (by decide) ?_
          exact W.zret (pc := 110) (v := 1) hx hb hr rfl (fun t ht hW => ⟨⟨_, (z_wM X d (z_mR M 6 x62)), rfl, ⟨z_e1 hf, congrArg (fun z => (z_wM X d z)) (z_e2 hf)⟩, by rw [ht]; exact hP, hD⟩, hS.F ht⟩) hS.2.2 dX5_rings_110
        · replace hf := z_ip c_74 hf
          refine lv_aload_n (pc := 77) hx hb dX5_rings_77 rfl (lv_at hl 1 rfl) ?_
          refine va_get (pc := 78) (ci := 5) (C := RX5) (T := TX5) (N := 11) hx hb hts in_X5 hown hK hP 0 rfl rfl 9 (by decide) lk_fi29 (fun _ h9 => h9) rfl dX5_rings_78 ?_
          refine lv_bipush (v := 19) (pc := 81) hx hb dX5_rings_81 (by decide) ?_
          refine lv_aload_n (pc := 83) hx hb dX5_rings_83 rfl (lv_at hl 1 rfl) ?_
          refine va_get (pc := 84) (ci := 5) (C := RX5) (T := TX5) (N := 11) hx hb hts in_X5 hown hK hP 0 rfl rfl 9 (by decide) lk_fi29 (fun _ h9 => h9) rfl dX5_rings_84 ?_
          refine lv_bipush (v := 6) (pc := 87) hx hb dX5_rings_87 (by decide) ?_
          obtain ⟨x89, e89, hf⟩ := z_bd hf
          refine z_iald (pc := 89) hx hb hK hP 7 0 rfl rfl e89 dX5_rings_89 ?_
          refine lv_iadd (pc := 90) hx hb dX5_rings_90 ?_
          refine lv_aload_n (pc := 91) hx hb dX5_rings_91 rfl (lv_at hl 1 rfl) ?_
          refine va_get (pc := 92) (ci := 5) (C := RX5) (T := TX5) (N := 11) hx hb hts in_X5 hown hK hP 0 rfl rfl 6 (by decide) lk_fi19 (fun _ h9 => h9) rfl dX5_rings_92 ?_
          refine lv_iload_n (pc := 95) hx hb dX5_rings_95 rfl (lv_at hl 2 rfl) ?_
          obtain ⟨x96, e96, hf⟩ := z_bd hf
          refine z_iald (pc := 96) hx hb hK hP 4 0 rfl rfl e96 dX5_rings_96 ?_
          obtain ⟨x97, e97, hf⟩ := z_bd hf
          refine z_iast (pc := 97) (W1 := (z_wM X d (z_mR M 6 x97))) hx hb hK hP hD hS 7 0 rfl rfl e97 rfl dX5_rings_97 (fun H locs hP hD hS => ?_)
          refine lv_aload_n (pc := 98) hx hb dX5_rings_98 rfl (lv_at hl 1 rfl) ?_
          refine va_get (pc := 99) (ci := 5) (C := RX5) (T := TX5) (N := 11) hx hb hts in_X5 hown hK hP 0 rfl rfl 9 (by decide) lk_fi29 (fun _ h9 => h9) rfl dX5_rings_99 ?_
          refine lv_bipush (v := 6) (pc := 102) hx hb dX5_rings_102 (by decide) ?_
          refine lv_dup2_11 (pc := 104) hx hb dX5_rings_104 rfl rfl ?_
          obtain ⟨x105, e105, hf⟩ := z_bd hf
          refine z_iald (pc := 105) hx hb hK hP 7 0 rfl rfl e105 dX5_rings_105 ?_
          refine lv_iconst (v := 1) (pc := 106) hx hb dX5_rings_106 (by decide) ?_
          refine lv_iadd (pc := 107) hx hb dX5_rings_107 ?_
          obtain ⟨x108, e108, hf⟩ := z_bd hf
          refine z_iast (pc := 108) (W1 := (z_wM X d (z_mR M 6 x108))) hx hb hK hP hD hS 7 0 rfl rfl e108 rfl dX5_rings_108 (fun H locs hP hD hS => ?_)
          refine lv_iconst (v := 1) (pc := 109) hx hb dX5_rings_109 (by decide) ?_
          exact W.zret (pc := 110) (v := 1) hx hb hr rfl (fun t ht hW => ⟨⟨_, (z_wM X d (z_mR M 6 x108)), rfl, ⟨z_e1 hf, congrArg (fun z => (z_wM X d z)) (z_e2 hf)⟩, by rw [ht]; exact hP, hD⟩, hS.F ht⟩) hS.2.2 dX5_rings_110
      · replace hf := z_ip c_31 hf
        refine lv_aload_n (pc := 34) hx hb dX5_rings_34 rfl (lv_at hl 1 rfl) ?_
        refine va_get (pc := 35) (ci := 5) (C := RX5) (T := TX5) (N := 11) hx hb hts in_X5 hown hK hP 0 rfl rfl 9 (by decide) lk_fi29 (fun _ h9 => h9) rfl dX5_rings_35 ?_
        refine lv_iconst (v := 5) (pc := 38) hx hb dX5_rings_38 (by decide) ?_
        refine lv_dup2_11 (pc := 39) hx hb dX5_rings_39 rfl rfl ?_
        obtain ⟨x40, e40, hf⟩ := z_bd hf
        refine z_iald (pc := 40) hx hb hK hP 7 0 rfl rfl e40 dX5_rings_40 ?_
        refine lv_iconst (v := 1) (pc := 41) hx hb dX5_rings_41 (by decide) ?_
        refine lv_iadd (pc := 42) hx hb dX5_rings_42 ?_
        obtain ⟨x43, e43, hf⟩ := z_bd hf
        refine z_iast (pc := 43) (W1 := (z_wM X d (z_mR M 6 x43))) hx hb hK hP hD hS 7 0 rfl rfl e43 rfl dX5_rings_43 (fun H locs hP hD hS => ?_)
        refine lv_iconst (v := 0) (pc := 44) hx hb dX5_rings_44 (by decide) ?_
        exact W.zret (pc := 45) (v := 0) hx hb hr rfl (fun t ht hW => ⟨⟨_, (z_wM X d (z_mR M 6 x43)), rfl, ⟨z_e1 hf, congrArg (fun z => (z_wM X d z)) (z_e2 hf)⟩, by rw [ht]; exact hP, hD⟩, hS.F ht⟩) hS.2.2 dX5_rings_45
    · replace hf := z_in c_21 hf
      refine lv_iconst (v := 1) (pc := 24) hx hb dX5_rings_24 (by decide) ?_
      refine lv_goto (pc := 25) (tgt := 29) hx hb dX5_rings_25 (by decide) ?_
      refine lv_istore_n (pc := 29) (lv' := [(2, .int 1), (0, .ref (d 0)), (1, .int v1)]) hx hb dX5_rings_29 rfl hl (by decide) rfl (fun ls hl => ?_)
      refine lv_iload_n (pc := 30) hx hb dX5_rings_30 rfl (lv_at hl 0 rfl) ?_
      refine lv_if_ne (pc := 31) (tgt := 46) hx hb dX5_rings_31 (by decide) (fun c_31 => ?_) (fun c_31 => ?_)
      · replace hf := z_in c_31 hf
        refine lv_aload_n (pc := 46) hx hb dX5_rings_46 rfl (lv_at hl 1 rfl) ?_
        refine va_get (pc := 47) (ci := 5) (C := RX5) (T := TX5) (N := 11) hx hb hts in_X5 hown hK hP 0 rfl rfl 9 (by decide) lk_fi29 (fun _ h9 => h9) rfl dX5_rings_47 ?_
        refine lv_iconst (v := 1) (pc := 50) hx hb dX5_rings_50 (by decide) ?_
        refine lv_dup2_11 (pc := 51) hx hb dX5_rings_51 rfl rfl ?_
        obtain ⟨x52, e52, hf⟩ := z_bd hf
        refine z_iald (pc := 52) hx hb hK hP 7 0 rfl rfl e52 dX5_rings_52 ?_
        refine lv_aload_n (pc := 53) hx hb dX5_rings_53 rfl (lv_at hl 1 rfl) ?_
        refine va_get (pc := 54) (ci := 5) (C := RX5) (T := TX5) (N := 11) hx hb hts in_X5 hown hK hP 0 rfl rfl 3 (by decide) lk_fi9 (fun _ h9 => h9) rfl dX5_rings_54 ?_
        refine lv_iload_n (pc := 57) hx hb dX5_rings_57 rfl (lv_at hl 2 rfl) ?_
        obtain ⟨x58, e58, hf⟩ := z_bd hf
        refine z_iald (pc := 58) hx hb hK hP 1 0 rfl rfl e58 dX5_rings_58 ?_
        refine lv_iconst (v := 1) (pc := 59) hx hb dX5_rings_59 (by decide) ?_
        refine lv_iadd (pc := 60) hx hb dX5_rings_60 ?_
        refine lv_isub (pc := 61) hx hb dX5_rings_61 ?_
        obtain ⟨x62, e62, hf⟩ := z_bd hf
        refine z_iast (pc := 62) (W1 := (z_wM X d (z_mR M 6 x62))) hx hb hK hP hD hS 7 0 rfl rfl e62 rfl dX5_rings_62 (fun H locs hP hD hS => ?_)
        refine lv_aload_n (pc := 63) hx hb dX5_rings_63 rfl (lv_at hl 1 rfl) ?_
        refine lv_aload_n (pc := 64) hx hb dX5_rings_64 rfl (lv_at hl 1 rfl) ?_
        refine va_get (pc := 65) (ci := 5) (C := RX5) (T := TX5) (N := 11) hx hb hts in_X5 hown hK hP 0 rfl rfl 6 (by decide) lk_fi19 (fun _ h9 => h9) rfl dX5_rings_65 ?_
        refine lv_iload_n (pc := 68) hx hb dX5_rings_68 rfl (lv_at hl 2 rfl) ?_
        obtain ⟨x69, e69, hf⟩ := z_bd hf
        refine z_iald (pc := 69) hx hb hK hP 4 0 rfl rfl e69 dX5_rings_69 ?_
        obtain ⟨x70, e70, hf⟩ := z_bd hf
        refine z_cpI (pc := 70) S (m_X5_inLine l X d (z_mR M 6 x62) x69 e70) (cwV 1 hts gX5_rings_X5_inLine rfl rfl rfl hdX5_inLine ⟨Nat.le_of_ble_eq_true rfl, Nat.le_of_ble_eq_true rfl⟩) hP hK hN (s_M_M X d (z_mR M 6 x62)) (ci := 5) rfl rfl rfl ⟨Nat.le_of_ble_eq_true rfl, Nat.le_of_ble_eq_true rfl⟩ rfl hl.1 rfl (Nat.le_of_ble_eq_true rfl) dX5_rings_70 ?_
        refine lv_iconst (v := (-1)) (pc := 73) hx hb dX5_rings_73 (by decide) ?_
        refine lv_icmp_ne (pc := 74) (tgt := 109) hx hb dX5_rings_74 (by decide) (fun c_74 => ?_) (fun c_74 => ?_)
        · replace hf := z_in c_74 hf
          refine lv_iconst (v := 1) (pc := 109) hx hb dX5_rings_109 (by decide) ?_
          exact W.zret (pc := 110) (v := 1) hx hb hr rfl (fun t ht hW => ⟨⟨_, (z_wM X d (z_mR M 6 x62)), rfl, ⟨z_e1 hf, congrArg (fun z => (z_wM X d z)) (z_e2 hf)⟩, by rw [ht]; exact hP, hD⟩, hS.F ht⟩) hS.2.2 dX5_rings_110
        · replace hf := z_ip c_74 hf
          refine lv_aload_n (pc := 77) hx hb dX5_rings_77 rfl (lv_at hl 1 rfl) ?_
          refine va_get (pc := 78) (ci := 5) (C := RX5) (T := TX5) (N := 11) hx hb hts in_X5 hown hK hP 0 rfl rfl 9 (by decide) lk_fi29 (fun _ h9 => h9) rfl dX5_rings_78 ?_
          refine lv_bipush (v := 19) (pc := 81) hx hb dX5_rings_81 (by decide) ?_
          refine lv_aload_n (pc := 83) hx hb dX5_rings_83 rfl (lv_at hl 1 rfl) ?_
          refine va_get (pc := 84) (ci := 5) (C := RX5) (T := TX5) (N := 11) hx hb hts in_X5 hown hK hP 0 rfl rfl 9 (by decide) lk_fi29 (fun _ h9 => h9) rfl dX5_rings_84 ?_
          refine lv_bipush (v := 6) (pc := 87) hx hb dX5_rings_87 (by decide) ?_
          obtain ⟨x89, e89, hf⟩ := z_bd hf
          refine z_iald (pc := 89) hx hb hK hP 7 0 rfl rfl e89 dX5_rings_89 ?_
          refine lv_iadd (pc := 90) hx hb dX5_rings_90 ?_
          refine lv_aload_n (pc := 91) hx hb dX5_rings_91 rfl (lv_at hl 1 rfl) ?_
          refine va_get (pc := 92) (ci := 5) (C := RX5) (T := TX5) (N := 11) hx hb hts in_X5 hown hK hP 0 rfl rfl 6 (by decide) lk_fi19 (fun _ h9 => h9) rfl dX5_rings_92 ?_
          refine lv_iload_n (pc := 95) hx hb dX5_rings_95 rfl (lv_at hl 2 rfl) ?_
          obtain ⟨x96, e96, hf⟩ := z_bd hf
          refine z_iald (pc := 96) hx hb hK hP 4 0 rfl rfl e96 dX5_rings_96 ?_
          obtain ⟨x97, e97, hf⟩ := z_bd hf
          refine z_iast (pc := 97) (W1 := (z_wM X d (z_mR M 6 x97))) hx hb hK hP hD hS 7 0 rfl rfl e97 rfl dX5_rings_97 (fun H locs hP hD hS => ?_)
          refine lv_aload_n (pc := 98) hx hb dX5_rings_98 rfl (lv_at hl 1 rfl) ?_
          refine va_get (pc := 99) (ci := 5) (C := RX5) (T := TX5) (N := 11) hx hb hts in_X5 hown hK hP 0 rfl rfl 9 (by decide) lk_fi29 (fun _ h9 => h9) rfl dX5_rings_99 ?_
          refine lv_bipush (v := 6) (pc := 102) hx hb dX5_rings_102 (by decide) ?_
          refine lv_dup2_11 (pc := 104) hx hb dX5_rings_104 rfl rfl ?_
          obtain ⟨x105, e105, hf⟩ := z_bd hf
          refine z_iald (pc := 105) hx hb hK hP 7 0 rfl rfl e105 dX5_rings_105 ?_
          refine lv_iconst (v := 1) (pc := 106) hx hb dX5_rings_106 (by decide) ?_
          refine lv_iadd (pc := 107) hx hb dX5_rings_107 ?_
          obtain ⟨x108, e108, hf⟩ := z_bd hf
          refine z_iast (pc := 108) (W1 := (z_wM X d (z_mR M 6 x108))) hx hb hK hP hD hS 7 0 rfl rfl e108 rfl dX5_rings_108 (fun H locs hP hD hS => ?_)
          refine lv_iconst (v := 1) (pc := 109) hx hb dX5_rings_109 (by decide) ?_
          exact W.zret (pc := 110) (v := 1) hx hb hr rfl (fun t ht hW => ⟨⟨_, (z_wM X d (z_mR M 6 x108)), rfl, ⟨z_e1 hf, congrArg (fun z => (z_wM X d z)) (z_e2 hf)⟩, by rw [ht]; exact hP, hD⟩, hS.F ht⟩) hS.2.2 dX5_rings_110
      · replace hf := z_ip c_31 hf
        refine lv_aload_n (pc := 34) hx hb dX5_rings_34 rfl (lv_at hl 1 rfl) ?_
        refine va_get (pc := 35) (ci := 5) (C := RX5) (T := TX5) (N := 11) hx hb hts in_X5 hown hK hP 0 rfl rfl 9 (by decide) lk_fi29 (fun _ h9 => h9) rfl dX5_rings_35 ?_
        refine lv_iconst (v := 5) (pc := 38) hx hb dX5_rings_38 (by decide) ?_
        refine lv_dup2_11 (pc := 39) hx hb dX5_rings_39 rfl rfl ?_
        obtain ⟨x40, e40, hf⟩ := z_bd hf
        refine z_iald (pc := 40) hx hb hK hP 7 0 rfl rfl e40 dX5_rings_40 ?_
        refine lv_iconst (v := 1) (pc := 41) hx hb dX5_rings_41 (by decide) ?_
        refine lv_iadd (pc := 42) hx hb dX5_rings_42 ?_
        obtain ⟨x43, e43, hf⟩ := z_bd hf
        refine z_iast (pc := 43) (W1 := (z_wM X d (z_mR M 6 x43))) hx hb hK hP hD hS 7 0 rfl rfl e43 rfl dX5_rings_43 (fun H locs hP hD hS => ?_)
        refine lv_iconst (v := 0) (pc := 44) hx hb dX5_rings_44 (by decide) ?_
        exact W.zret (pc := 45) (v := 0) hx hb hr rfl (fun t ht hW => ⟨⟨_, (z_wM X d (z_mR M 6 x43)), rfl, ⟨z_e1 hf, congrArg (fun z => (z_wM X d z)) (z_e2 hf)⟩, by rw [ht]; exact hP, hD⟩, hS.F ht⟩) hS.2.2 dX5_rings_45
def f_X5_way (M : z_M) (v1 : Int32) (v2 : Int32) : Option Int32 := (z_at (M.2 6) (31 + v1) 55).bind (fun x9 => (z_at (M.2 0) v2 12).bind (fun x15 => (z_at (M.2 5) v1 6).bind (fun x25 => (z_at (M.2 5) v1 6).bind (fun x34 => (z_dv (((if 0 ≤ (x9 - x15) then (x9 - x15) else 0 - (x9 - x15)) + x25) - 1) x34).bind (fun x35 => some (if 1 < x35 then x35 else 1))))))
set_option maxHeartbeats 4000000 in
set_option maxRecDepth 100000 in
theorem m_X5_way (l : Launch) (X : z_X) (d : Nat → Nat) (M : z_M) (v1 : Int32) (v2 : Int32) {RR : Int32} (hf : f_X5_way M v1 v2 = some RR) : z_pI l yX5_way wsX5_way 1 25 X [.ref (d 0), .int v1, .int v2] (z_wM X d M) RR := by
  refine Met.ofW (cc := cX5_way) (maxL := 3) (ret := (some .int)) (by decide) rfl ?_
  intro p e s m args below meth c s₁ Bd hml hv
  obtain ⟨rfl, hP, hK, hN⟩ := hv
  have hx := Bd.exec
  have hb := Bd.bytes
  have hr := Bd.returns
  have hts := atoms_spec (ws := wsX5_way) Bd.pre
  have hown : s.vm.findClass RX5 = some m.cls := findClass_of_methodNamed Bd.named
  have hlocks := Bd.notSynchronized
  have S : CallFix p m c cX5_way 3 s _ wsX5_way RX5 := ⟨hx, hb, hml, hown, hts⟩
  have lk_fi29 := hts (.fieldLink RX5 29 "HouseBellsModel" "now" "[I") (List.mem_of_getElem? (i := 1) rfl)
  have lk_fi9 := hts (.fieldLink RX5 9 "HouseBellsModel" "floor" "[I") (List.mem_of_getElem? (i := 2) rfl)
  have lk_fi26 := hts (.fieldLink RX5 26 "HouseBellsModel" "pace" "[I") (List.mem_of_getElem? (i := 7) rfl)
  have in_X5 : ∀ w ∈ wsX50, w ∈ wsX5_way := fun _ h => (List.mem_cons_of_mem _ (List.mem_append_right _ h))
  have hl := lv_entry ([.ref (d 0), .int v1, .int v2]) (n := 3) (Nat.le_of_ble_eq_true rfl)
  rw [lg_entry_eq]
  generalize (lg_sl ([.ref (d 0), .int v1, .int v2]) ++ List.replicate (3 - (lg_sl ([.ref (d 0), .int v1, .int v2])).length) Slot.unset).toArray = ls at hl ⊢
  have hl : lv_has ls 3 [(0, .ref (d 0)), (1, .int v1), (2, .int v2)] := hl
  unfold f_X5_way at hf
  refine lv_iconst (v := 1) (pc := 0) hx hb dX5_way_0 (by decide) ?_
  refine lv_aload_n (pc := 1) hx hb dX5_way_1 rfl (lv_at hl 0 rfl) ?_
  refine va_get (pc := 2) (ci := 5) (C := RX5) (T := TX5) (N := 11) hx hb hts in_X5 hown hK hP 0 rfl rfl 9 (by decide) lk_fi29 (fun _ h9 => h9) rfl dX5_way_2 ?_
  refine lv_bipush (v := 31) (pc := 5) hx hb dX5_way_5 (by decide) ?_
  refine lv_iload_n (pc := 7) hx hb dX5_way_7 rfl (lv_at hl 1 rfl) ?_
  refine lv_iadd (pc := 8) hx hb dX5_way_8 ?_
  obtain ⟨x9, e9, hf⟩ := z_bd hf
  refine z_iald (pc := 9) hx hb hK hP 7 0 rfl rfl e9 dX5_way_9 ?_
  refine lv_aload_n (pc := 10) hx hb dX5_way_10 rfl (lv_at hl 0 rfl) ?_
  refine va_get (pc := 11) (ci := 5) (C := RX5) (T := TX5) (N := 11) hx hb hts in_X5 hown hK hP 0 rfl rfl 3 (by decide) lk_fi9 (fun _ h9 => h9) rfl dX5_way_11 ?_
  refine lv_iload_n (pc := 14) hx hb dX5_way_14 rfl (lv_at hl 2 rfl) ?_
  obtain ⟨x15, e15, hf⟩ := z_bd hf
  refine z_iald (pc := 15) hx hb hK hP 1 0 rfl rfl e15 dX5_way_15 ?_
  refine lv_isub (pc := 16) hx hb dX5_way_16 ?_
  have hml2 : c.maxLocals = ls.size := by rw [hml]; exact hl.1.symm
  refine va_mabs (pc := 17) hx hb hml2 hown (hts _ (List.mem_of_getElem? (i := 3) rfl)) (hts _ (List.mem_of_getElem? (i := 4) rfl)) (hts _ (List.mem_of_getElem? (i := 5) rfl)) (hts _ (List.mem_of_getElem? (i := 6) rfl)) (Nat.le_of_ble_eq_true rfl) (Nat.le_of_ble_eq_true rfl) (Nat.zero_le _) (Nat.zero_le _) dX5_way_17 ?_
  refine lv_aload_n (pc := 20) hx hb dX5_way_20 rfl (lv_at hl 0 rfl) ?_
  refine va_get (pc := 21) (ci := 5) (C := RX5) (T := TX5) (N := 11) hx hb hts in_X5 hown hK hP 0 rfl rfl 8 (by decide) lk_fi26 (fun _ h9 => h9) rfl dX5_way_21 ?_
  refine lv_iload_n (pc := 24) hx hb dX5_way_24 rfl (lv_at hl 1 rfl) ?_
  obtain ⟨x25, e25, hf⟩ := z_bd hf
  refine z_iald (pc := 25) hx hb hK hP 6 0 rfl rfl e25 dX5_way_25 ?_
  refine lv_iadd (pc := 26) hx hb dX5_way_26 ?_
  refine lv_iconst (v := 1) (pc := 27) hx hb dX5_way_27 (by decide) ?_
  refine lv_isub (pc := 28) hx hb dX5_way_28 ?_
  refine lv_aload_n (pc := 29) hx hb dX5_way_29 rfl (lv_at hl 0 rfl) ?_
  refine va_get (pc := 30) (ci := 5) (C := RX5) (T := TX5) (N := 11) hx hb hts in_X5 hown hK hP 0 rfl rfl 8 (by decide) lk_fi26 (fun _ h9 => h9) rfl dX5_way_30 ?_
  refine lv_iload_n (pc := 33) hx hb dX5_way_33 rfl (lv_at hl 1 rfl) ?_
  obtain ⟨x34, e34, hf⟩ := z_bd hf
  refine z_iald (pc := 34) hx hb hK hP 6 0 rfl rfl e34 dX5_way_34 ?_
  obtain ⟨x35, e35, hf⟩ := z_bd hf
  refine z_idiv (pc := 35) hx hb e35 dX5_way_35 ?_
  have hml2 : c.maxLocals = ls.size := by rw [hml]; exact hl.1.symm
  refine va_mmax (pc := 36) hx hb hml2 hown (hts _ (List.mem_of_getElem? (i := 8) rfl)) (hts _ (List.mem_of_getElem? (i := 9) rfl)) (hts _ (List.mem_of_getElem? (i := 5) rfl)) (hts _ (List.mem_of_getElem? (i := 10) rfl)) (Nat.le_of_ble_eq_true rfl) (Nat.le_of_ble_eq_true rfl) (Nat.zero_le _) (Nat.zero_le _) dX5_way_36 ?_
  exact W.iret (pc := 39) (v := (if 1 < x35 then x35 else 1)) hx hb hr (fun t ht hW => ⟨_, rfl, (Option.some.inj hf), ht⟩) (fun _ h => nomatch h) dX5_way_39
def f_X5_nearest_L4 (M : z_M) : Nat → Int32 → Int32 → Int32 → Option Int32
  | 0, _, _, _ => none
  | n + 1, u1, u2, u3 => (if (M.1 2) ≤ u3 then some u2 else (z_at (M.2 6) (37 + u3) 55).bind (fun x20 => (if x20 = 0 then (if u2 = (-1) then f_X5_nearest_L4 M n u1 u3 (u3 + 1) else (f_X5_way M u3 u1).bind (fun x32 => (f_X5_way M u2 u1).bind (fun x38 => (if x38 ≤ x32 then f_X5_nearest_L4 M n u1 u2 (u3 + 1) else f_X5_nearest_L4 M n u1 u3 (u3 + 1))))) else f_X5_nearest_L4 M n u1 u2 (u3 + 1))))
def f_X5_nearest (M : z_M) (v1 : Int32) : Option Int32 := (f_X5_nearest_L4 M z_FU v1 (-1) 0).bind (fun x4 => some x4)
set_option maxHeartbeats 4000000 in
set_option maxRecDepth 100000 in
theorem m_X5_nearest (l : Launch) (X : z_X) (d : Nat → Nat) (M : z_M) (v1 : Int32) {RR : Int32} (hf : f_X5_nearest M v1 = some RR) : z_pI l yX5_nearest wsX5_nearest 2 47 X [.ref (d 0), .int v1] (z_wM X d M) RR := by
  refine Met.ofW (cc := cX5_nearest) (maxL := 4) (ret := (some .int)) (by decide) rfl ?_
  intro p e s m args below meth c s₁ Bd hml hv
  obtain ⟨rfl, hP, hK, hN⟩ := hv
  have hx := Bd.exec
  have hb := Bd.bytes
  have hr := Bd.returns
  have hts := atoms_spec (ws := wsX5_nearest) Bd.pre
  have hown : s.vm.findClass RX5 = some m.cls := findClass_of_methodNamed Bd.named
  have hlocks := Bd.notSynchronized
  have S : CallFix p m c cX5_nearest 4 s _ wsX5_nearest RX5 := ⟨hx, hb, hml, hown, hts⟩
  have lk_fi46 := hts (.fieldLink RX5 46 "HouseBellsModel" "servants" "I") (List.mem_of_getElem? (i := 1) rfl)
  have lk_fi29 := hts (.fieldLink RX5 29 "HouseBellsModel" "now" "[I") (List.mem_of_getElem? (i := 2) rfl)
  have in_X5 : ∀ w ∈ wsX50, w ∈ wsX5_nearest := fun _ h => (List.mem_cons_of_mem _ (List.mem_append_right _ h))
  have hl := lv_entry ([.ref (d 0), .int v1]) (n := 4) (Nat.le_of_ble_eq_true rfl)
  rw [lg_entry_eq]
  generalize (lg_sl ([.ref (d 0), .int v1]) ++ List.replicate (4 - (lg_sl ([.ref (d 0), .int v1])).length) Slot.unset).toArray = ls at hl ⊢
  have hl : lv_has ls 4 [(0, .ref (d 0)), (1, .int v1)] := hl
  have lp_4 : ∀ (n : Nat) (u1 : Int32) (u2 : Int32) (u3 : Int32) (T : Int32) (ls : Array Slot), lv_has ls 4 [(0, .ref (d 0)), (1, .int u1), (2, .int u2), (3, .int u3)] → f_X5_nearest_L4 M n u1 u2 u3 = some T → (∀ (ls : Array Slot), lv_has ls 4 [(2, .int T)] → W p l e (headSpec wsX5_nearest (z_R 2 47)).room s m ([.ref (d 0), .int v1] : List Value).toArray below meth c s.heap [] 0 0 (MQ below (vp_Si (fun z => z = RR)) ([.ref (d 0), .int v1] : List Value).toArray s 0 0 (fun _ => False)) (F0 m 52 ls [])) → W p l e (headSpec wsX5_nearest (z_R 2 47)).room s m ([.ref (d 0), .int v1] : List Value).toArray below meth c s.heap [] 0 0 (MQ below (vp_Si (fun z => z = RR)) ([.ref (d 0), .int v1] : List Value).toArray s 0 0 (fun _ => False)) (F0 m 4 ls []) := by
    intro n
    induction n with
    | zero =>
      intro u1 u2 u3 T ls hl hf kk
      cases hf
    | succ n ih =>
      intro u1 u2 u3 T ls hl hf kk
      rw [f_X5_nearest_L4] at hf
      refine lv_iload_n (pc := 4) hx hb dX5_nearest_4 rfl (lv_at hl 3 rfl) ?_
      refine lv_aload_n (pc := 5) hx hb dX5_nearest_5 rfl (lv_at hl 0 rfl) ?_
      refine va_get (pc := 6) (ci := 5) (C := RX5) (T := TX5) (N := 11) hx hb hts in_X5 hown hK hP 0 rfl rfl 2 (by decide) lk_fi46 (fun _ h9 => h9) rfl dX5_nearest_6 ?_
      refine lv_icmp_ge (pc := 9) (tgt := 52) hx hb dX5_nearest_9 (by decide) (fun c_9 => ?_) (fun c_9 => ?_)
      · replace hf := z_ip c_9 hf
        obtain rfl := Option.some.inj hf
        exact kk ls (lv_sub hl [2] rfl)
      · replace hf := z_in c_9 hf
        refine lv_aload_n (pc := 12) hx hb dX5_nearest_12 rfl (lv_at hl 0 rfl) ?_
        refine va_get (pc := 13) (ci := 5) (C := RX5) (T := TX5) (N := 11) hx hb hts in_X5 hown hK hP 0 rfl rfl 9 (by decide) lk_fi29 (fun _ h9 => h9) rfl dX5_nearest_13 ?_
        refine lv_bipush (v := 37) (pc := 16) hx hb dX5_nearest_16 (by decide) ?_
        refine lv_iload_n (pc := 18) hx hb dX5_nearest_18 rfl (lv_at hl 3 rfl) ?_
        refine lv_iadd (pc := 19) hx hb dX5_nearest_19 ?_
        obtain ⟨x20, e20, hf⟩ := z_bd hf
        refine z_iald (pc := 20) hx hb hK hP 7 0 rfl rfl e20 dX5_nearest_20 ?_
        refine lv_if_ne (pc := 21) (tgt := 46) hx hb dX5_nearest_21 (by decide) (fun c_21 => ?_) (fun c_21 => ?_)
        · replace hf := z_in c_21 hf
          refine lv_iinc (pc := 46) (v := (u3 + 1)) (lv' := [(3, .int (u3 + 1)), (0, .ref (d 0)), (1, .int u1), (2, .int u2)]) hx hb dX5_nearest_46 hl (k := 3) rfl rfl (by decide) rfl (fun ls hl => ?_)
          refine lv_goto (pc := 49) (tgt := 4) hx hb dX5_nearest_49 (by decide) ?_
          exact ih u1 u2 (u3 + 1) T ls (lv_sub hl [1, 2, 3, 0] rfl) hf kk
        · replace hf := z_ip c_21 hf
          refine lv_iload_n (pc := 24) hx hb dX5_nearest_24 rfl (lv_at hl 2 rfl) ?_
          refine lv_iconst (v := (-1)) (pc := 25) hx hb dX5_nearest_25 (by decide) ?_
          refine lv_icmp_eq (pc := 26) (tgt := 44) hx hb dX5_nearest_26 (by decide) (fun c_26 => ?_) (fun c_26 => ?_)
          · replace hf := z_ip c_26 hf
            refine lv_iload_n (pc := 44) hx hb dX5_nearest_44 rfl (lv_at hl 3 rfl) ?_
            refine lv_istore_n (pc := 45) (lv' := [(2, .int u3), (0, .ref (d 0)), (1, .int u1), (3, .int u3)]) hx hb dX5_nearest_45 rfl hl (by decide) rfl (fun ls hl => ?_)
            refine lv_iinc (pc := 46) (v := (u3 + 1)) (lv' := [(3, .int (u3 + 1)), (2, .int u3), (0, .ref (d 0)), (1, .int u1)]) hx hb dX5_nearest_46 hl (k := 3) rfl rfl (by decide) rfl (fun ls hl => ?_)
            refine lv_goto (pc := 49) (tgt := 4) hx hb dX5_nearest_49 (by decide) ?_
            exact ih u1 u3 (u3 + 1) T ls (lv_sub hl [2, 3, 1, 0] rfl) hf kk
          · replace hf := z_in c_26 hf
            refine lv_aload_n (pc := 29) hx hb dX5_nearest_29 rfl (lv_at hl 0 rfl) ?_
            refine lv_iload_n (pc := 30) hx hb dX5_nearest_30 rfl (lv_at hl 3 rfl) ?_
            refine lv_iload_n (pc := 31) hx hb dX5_nearest_31 rfl (lv_at hl 1 rfl) ?_
            obtain ⟨x32, e32, hf⟩ := z_bd hf
            refine z_cpI (pc := 32) S (m_X5_way l X d M u3 u1 e32) (cwV 2 hts gX5_nearest_X5_way rfl rfl rfl hdX5_way ⟨Nat.le_of_ble_eq_true rfl, Nat.le_of_ble_eq_true rfl⟩) hP hK hN (s_M_M X d M) (ci := 5) rfl rfl rfl ⟨Nat.le_of_ble_eq_true rfl, Nat.le_of_ble_eq_true rfl⟩ rfl hl.1 rfl (Nat.le_of_ble_eq_true rfl) dX5_nearest_32 ?_
            refine lv_aload_n (pc := 35) hx hb dX5_nearest_35 rfl (lv_at hl 0 rfl) ?_
            refine lv_iload_n (pc := 36) hx hb dX5_nearest_36 rfl (lv_at hl 2 rfl) ?_
            refine lv_iload_n (pc := 37) hx hb dX5_nearest_37 rfl (lv_at hl 1 rfl) ?_
            obtain ⟨x38, e38, hf⟩ := z_bd hf
            refine z_cpI (pc := 38) S (m_X5_way l X d M u2 u1 e38) (cwV 2 hts gX5_nearest_X5_way rfl rfl rfl hdX5_way ⟨Nat.le_of_ble_eq_true rfl, Nat.le_of_ble_eq_true rfl⟩) hP hK hN (s_M_M X d M) (ci := 5) rfl rfl rfl ⟨Nat.le_of_ble_eq_true rfl, Nat.le_of_ble_eq_true rfl⟩ rfl hl.1 rfl (Nat.le_of_ble_eq_true rfl) dX5_nearest_38 ?_
            refine lv_icmp_ge (pc := 41) (tgt := 46) hx hb dX5_nearest_41 (by decide) (fun c_41 => ?_) (fun c_41 => ?_)
            · replace hf := z_ip c_41 hf
              refine lv_iinc (pc := 46) (v := (u3 + 1)) (lv' := [(3, .int (u3 + 1)), (0, .ref (d 0)), (1, .int u1), (2, .int u2)]) hx hb dX5_nearest_46 hl (k := 3) rfl rfl (by decide) rfl (fun ls hl => ?_)
              refine lv_goto (pc := 49) (tgt := 4) hx hb dX5_nearest_49 (by decide) ?_
              exact ih u1 u2 (u3 + 1) T ls (lv_sub hl [1, 2, 3, 0] rfl) hf kk
            · replace hf := z_in c_41 hf
              refine lv_iload_n (pc := 44) hx hb dX5_nearest_44 rfl (lv_at hl 3 rfl) ?_
              refine lv_istore_n (pc := 45) (lv' := [(2, .int u3), (0, .ref (d 0)), (1, .int u1), (3, .int u3)]) hx hb dX5_nearest_45 rfl hl (by decide) rfl (fun ls hl => ?_)
              refine lv_iinc (pc := 46) (v := (u3 + 1)) (lv' := [(3, .int (u3 + 1)), (2, .int u3), (0, .ref (d 0)), (1, .int u1)]) hx hb dX5_nearest_46 hl (k := 3) rfl rfl (by decide) rfl (fun ls hl => ?_)
              refine lv_goto (pc := 49) (tgt := 4) hx hb dX5_nearest_49 (by decide) ?_
              exact ih u1 u3 (u3 + 1) T ls (lv_sub hl [2, 3, 1, 0] rfl) hf kk
  unfold f_X5_nearest at hf
  refine lv_iconst (v := (-1)) (pc := 0) hx hb dX5_nearest_0 (by decide) ?_
  refine lv_istore_n (pc := 1) (lv' := [(2, .int (-1)), (0, .ref (d 0)), (1, .int v1)]) hx hb dX5_nearest_1 rfl hl (by decide) rfl (fun ls hl => ?_)
  refine lv_iconst (v := 0) (pc := 2) hx hb dX5_nearest_2 (by decide) ?_
  refine lv_istore_n (pc := 3) (lv' := [(3, .int 0), (2, .int (-1)), (0, .ref (d 0)), (1, .int v1)]) hx hb dX5_nearest_3 rfl hl (by decide) rfl (fun ls hl => ?_)
  obtain ⟨x4, e4, hf⟩ := z_bd hf
  refine lp_4 z_FU v1 (-1) 0 x4 ls (lv_sub hl [2, 3, 1, 0] rfl) e4 (fun ls hl => ?_)
  refine lv_iload_n (pc := 52) hx hb dX5_nearest_52 rfl (lv_at hl 0 rfl) ?_
  exact W.iret (pc := 53) (v := x4) hx hb hr (fun t ht hW => ⟨_, rfl, (Option.some.inj hf), ht⟩) (fun _ h => nomatch h) dX5_nearest_53
def f_X5_give (M : z_M) (v1 : Int32) (v2 : Int32) (v3 : Int32) (v4 : Int32) : Option z_M := (z_wr (M.2 6) (37 + v1) 55 v2).bind (fun x9 => (z_wr x9 (43 + v1) 55 v3).bind (fun x19 => (z_wr x19 (49 + v1) 55 v4).bind (fun x30 => some (z_mR M 6 x30))))
set_option maxHeartbeats 4000000 in
set_option maxRecDepth 100000 in
theorem m_X5_give (l : Launch) (X : z_X) (d : Nat → Nat) (M : z_M) (v1 : Int32) (v2 : Int32) (v3 : Int32) (v4 : Int32) {RR : z_M} (hf : f_X5_give M v1 v2 v3 v4 = some RR) : z_mV l yX5_give wsX5_give 0 0 X [.ref (d 0), .int v1, .int v2, .int v3, .int v4] (z_wM X d M) (z_wM X d RR) := by
  intro sz
  refine Met.ofW (cc := cX5_give) (maxL := 5) (ret := none) (by decide) rfl ?_
  intro p e s m args below meth c s₁ Bd hml hv
  obtain ⟨rfl, hsz, hP, hK, hN, hD0⟩ := hv
  have hx := Bd.exec
  have hb := Bd.bytes
  have hr := Bd.returns
  have hts := atoms_spec (ws := wsX5_give) Bd.pre
  have hown : s.vm.findClass RX5 = some m.cls := findClass_of_methodNamed Bd.named
  have hlocks := Bd.notSynchronized
  have S : CallFix p m c cX5_give 5 s _ wsX5_give RX5 := ⟨hx, hb, hml, hown, hts⟩
  have lk_fi29 := hts (.fieldLink RX5 29 "HouseBellsModel" "now" "[I") (List.mem_of_getElem? (i := 1) rfl)
  have in_X5 : ∀ w ∈ wsX50, w ∈ wsX5_give := fun _ h => (List.mem_cons_of_mem _ (List.mem_append_right _ h))
  subst hsz
  have hD := hD0.self (sz := s.heap.size)
  generalize hAe : va_A (z_wM X d M) s.heap.size = A at hD ⊢
  have hA : ∀ q : Nat, s.heap.size ≤ q → A q := fun q h => by rw [← hAe]; exact Or.inr h
  have hS : va_S A s.heap s.heap [] := va_S.rf
  have hl := lv_entry ([.ref (d 0), .int v1, .int v2, .int v3, .int v4]) (n := 5) (Nat.le_of_ble_eq_true rfl)
  rw [lg_entry_eq]
  generalize (lg_sl ([.ref (d 0), .int v1, .int v2, .int v3, .int v4]) ++ List.replicate (5 - (lg_sl ([.ref (d 0), .int v1, .int v2, .int v3, .int v4])).length) Slot.unset).toArray = ls at hl ⊢
  have hl : lv_has ls 5 [(0, .ref (d 0)), (1, .int v1), (2, .int v2), (3, .int v3), (4, .int v4)] := hl
  suffices hgo : ∀ (H : Heap) (locs : List Loc), va_P X.1 vwCl (z_wM X d M) H → va_D A (z_wM X d M) → va_S A s.heap H locs → W p l e (headSpec wsX5_give (z_R 0 0)).room s m ([.ref (d 0), .int v1, .int v2, .int v3, .int v4] : List Value).toArray below meth c H locs 0 0 (MQ below (va_Qv (fun u : va_W => u = (z_wM X d RR)) (z_Bm X A) A) ([.ref (d 0), .int v1, .int v2, .int v3, .int v4] : List Value).toArray s 0 0 A) (F0 m 0 ls []) from hgo _ _ hP hD hS
  clear hP hD hS
  intro H locs hP hD hS
  unfold f_X5_give at hf
  refine lv_aload_n (pc := 0) hx hb dX5_give_0 rfl (lv_at hl 0 rfl) ?_
  refine va_get (pc := 1) (ci := 5) (C := RX5) (T := TX5) (N := 11) hx hb hts in_X5 hown hK hP 0 rfl rfl 9 (by decide) lk_fi29 (fun _ h9 => h9) rfl dX5_give_1 ?_
  refine lv_bipush (v := 37) (pc := 4) hx hb dX5_give_4 (by decide) ?_
  refine lv_iload_n (pc := 6) hx hb dX5_give_6 rfl (lv_at hl 1 rfl) ?_
  refine lv_iadd (pc := 7) hx hb dX5_give_7 ?_
  refine lv_iload_n (pc := 8) hx hb dX5_give_8 rfl (lv_at hl 2 rfl) ?_
  obtain ⟨x9, e9, hf⟩ := z_bd hf
  refine z_iast (pc := 9) (W1 := (z_wM X d (z_mR M 6 x9))) hx hb hK hP hD hS 7 0 rfl rfl e9 rfl dX5_give_9 (fun H locs hP hD hS => ?_)
  refine lv_aload_n (pc := 10) hx hb dX5_give_10 rfl (lv_at hl 0 rfl) ?_
  refine va_get (pc := 11) (ci := 5) (C := RX5) (T := TX5) (N := 11) hx hb hts in_X5 hown hK hP 0 rfl rfl 9 (by decide) lk_fi29 (fun _ h9 => h9) rfl dX5_give_11 ?_
  refine lv_bipush (v := 43) (pc := 14) hx hb dX5_give_14 (by decide) ?_
  refine lv_iload_n (pc := 16) hx hb dX5_give_16 rfl (lv_at hl 1 rfl) ?_
  refine lv_iadd (pc := 17) hx hb dX5_give_17 ?_
  refine lv_iload_n (pc := 18) hx hb dX5_give_18 rfl (lv_at hl 3 rfl) ?_
  obtain ⟨x19, e19, hf⟩ := z_bd hf
  refine z_iast (pc := 19) (W1 := (z_wM X d (z_mR M 6 x19))) hx hb hK hP hD hS 7 0 rfl rfl e19 rfl dX5_give_19 (fun H locs hP hD hS => ?_)
  refine lv_aload_n (pc := 20) hx hb dX5_give_20 rfl (lv_at hl 0 rfl) ?_
  refine va_get (pc := 21) (ci := 5) (C := RX5) (T := TX5) (N := 11) hx hb hts in_X5 hown hK hP 0 rfl rfl 9 (by decide) lk_fi29 (fun _ h9 => h9) rfl dX5_give_21 ?_
  refine lv_bipush (v := 49) (pc := 24) hx hb dX5_give_24 (by decide) ?_
  refine lv_iload_n (pc := 26) hx hb dX5_give_26 rfl (lv_at hl 1 rfl) ?_
  refine lv_iadd (pc := 27) hx hb dX5_give_27 ?_
  refine lv_iload (pc := 28) hx hb dX5_give_28 (lv_at hl 4 rfl) ?_
  obtain ⟨x30, e30, hf⟩ := z_bd hf
  refine z_iast (pc := 30) (W1 := (z_wM X d (z_mR M 6 x30))) hx hb hK hP hD hS 7 0 rfl rfl e30 rfl dX5_give_30 (fun H locs hP hD hS => ?_)
  exact W.vret (pc := 31) hx hb hr (fun t ht hW => ⟨⟨(z_wM X d (z_mR M 6 x30)), rfl, congrArg (fun z => (z_wM X d z)) (Option.some.inj hf), by rw [ht]; exact hP, hD⟩, hS.F ht⟩) hS.2.2 dX5_give_31
def f_X5_comeTo (M : z_M) (v1 : Int32) (v2 : Int32) : Option z_M := (z_at (M.2 0) v2 12).bind (fun x13 => (z_wr (M.2 6) (31 + v1) 55 x13).bind (fun x14 => (z_at x14 (7 + v2) 55).bind (fun x23 => (if x23 = (-1) then (z_at x14 3 55).bind (fun x34 => (z_wr x14 3 55 (x34 + 1)).bind (fun x37 => (f_X5_give (z_mR M 6 x37) v1 0 0 0).bind (fun x43 => some x43))) else (z_wr x14 (7 + v2) 55 (-1)).bind (fun x56 => (z_at x56 2 55).bind (fun x63 => (z_wr x56 2 55 (x63 + 1)).bind (fun x66 => (z_at (M.2 2) v2 12).bind (fun x76 => (f_X5_give (z_mR M 6 x66) v1 2 v2 x76).bind (fun x77 => some x77)))))))))
set_option maxHeartbeats 4000000 in
set_option maxRecDepth 100000 in
theorem m_X5_comeTo (l : Launch) (X : z_X) (d : Nat → Nat) (M : z_M) (v1 : Int32) (v2 : Int32) {RR : z_M} (hf : f_X5_comeTo M v1 v2 = some RR) : z_mV l yX5_comeTo wsX5_comeTo 1 24 X [.ref (d 0), .int v1, .int v2] (z_wM X d M) (z_wM X d RR) := by
  intro sz
  refine Met.ofW (cc := cX5_comeTo) (maxL := 3) (ret := none) (by decide) rfl ?_
  intro p e s m args below meth c s₁ Bd hml hv
  obtain ⟨rfl, hsz, hP, hK, hN, hD0⟩ := hv
  have hx := Bd.exec
  have hb := Bd.bytes
  have hr := Bd.returns
  have hts := atoms_spec (ws := wsX5_comeTo) Bd.pre
  have hown : s.vm.findClass RX5 = some m.cls := findClass_of_methodNamed Bd.named
  have hlocks := Bd.notSynchronized
  have S : CallFix p m c cX5_comeTo 3 s _ wsX5_comeTo RX5 := ⟨hx, hb, hml, hown, hts⟩
  have lk_fi29 := hts (.fieldLink RX5 29 "HouseBellsModel" "now" "[I") (List.mem_of_getElem? (i := 1) rfl)
  have lk_fi9 := hts (.fieldLink RX5 9 "HouseBellsModel" "floor" "[I") (List.mem_of_getElem? (i := 2) rfl)
  have lk_fi16 := hts (.fieldLink RX5 16 "HouseBellsModel" "need" "[I") (List.mem_of_getElem? (i := 3) rfl)
  have in_X5 : ∀ w ∈ wsX50, w ∈ wsX5_comeTo := fun _ h => (List.mem_cons_of_mem _ (List.mem_append_right _ h))
  subst hsz
  have hD := hD0.self (sz := s.heap.size)
  generalize hAe : va_A (z_wM X d M) s.heap.size = A at hD ⊢
  have hA : ∀ q : Nat, s.heap.size ≤ q → A q := fun q h => by rw [← hAe]; exact Or.inr h
  have hS : va_S A s.heap s.heap [] := va_S.rf
  have hl := lv_entry ([.ref (d 0), .int v1, .int v2]) (n := 3) (Nat.le_of_ble_eq_true rfl)
  rw [lg_entry_eq]
  generalize (lg_sl ([.ref (d 0), .int v1, .int v2]) ++ List.replicate (3 - (lg_sl ([.ref (d 0), .int v1, .int v2])).length) Slot.unset).toArray = ls at hl ⊢
  have hl : lv_has ls 3 [(0, .ref (d 0)), (1, .int v1), (2, .int v2)] := hl
  suffices hgo : ∀ (H : Heap) (locs : List Loc), va_P X.1 vwCl (z_wM X d M) H → va_D A (z_wM X d M) → va_S A s.heap H locs → W p l e (headSpec wsX5_comeTo (z_R 1 24)).room s m ([.ref (d 0), .int v1, .int v2] : List Value).toArray below meth c H locs 0 0 (MQ below (va_Qv (fun u : va_W => u = (z_wM X d RR)) (z_Bm X A) A) ([.ref (d 0), .int v1, .int v2] : List Value).toArray s 0 0 A) (F0 m 0 ls []) from hgo _ _ hP hD hS
  clear hP hD hS
  intro H locs hP hD hS
  unfold f_X5_comeTo at hf
  refine lv_aload_n (pc := 0) hx hb dX5_comeTo_0 rfl (lv_at hl 0 rfl) ?_
  refine va_get (pc := 1) (ci := 5) (C := RX5) (T := TX5) (N := 11) hx hb hts in_X5 hown hK hP 0 rfl rfl 9 (by decide) lk_fi29 (fun _ h9 => h9) rfl dX5_comeTo_1 ?_
  refine lv_bipush (v := 31) (pc := 4) hx hb dX5_comeTo_4 (by decide) ?_
  refine lv_iload_n (pc := 6) hx hb dX5_comeTo_6 rfl (lv_at hl 1 rfl) ?_
  refine lv_iadd (pc := 7) hx hb dX5_comeTo_7 ?_
  refine lv_aload_n (pc := 8) hx hb dX5_comeTo_8 rfl (lv_at hl 0 rfl) ?_
  refine va_get (pc := 9) (ci := 5) (C := RX5) (T := TX5) (N := 11) hx hb hts in_X5 hown hK hP 0 rfl rfl 3 (by decide) lk_fi9 (fun _ h9 => h9) rfl dX5_comeTo_9 ?_
  refine lv_iload_n (pc := 12) hx hb dX5_comeTo_12 rfl (lv_at hl 2 rfl) ?_
  obtain ⟨x13, e13, hf⟩ := z_bd hf
  refine z_iald (pc := 13) hx hb hK hP 1 0 rfl rfl e13 dX5_comeTo_13 ?_
  obtain ⟨x14, e14, hf⟩ := z_bd hf
  refine z_iast (pc := 14) (W1 := (z_wM X d (z_mR M 6 x14))) hx hb hK hP hD hS 7 0 rfl rfl e14 rfl dX5_comeTo_14 (fun H locs hP hD hS => ?_)
  refine lv_aload_n (pc := 15) hx hb dX5_comeTo_15 rfl (lv_at hl 0 rfl) ?_
  refine va_get (pc := 16) (ci := 5) (C := RX5) (T := TX5) (N := 11) hx hb hts in_X5 hown hK hP 0 rfl rfl 9 (by decide) lk_fi29 (fun _ h9 => h9) rfl dX5_comeTo_16 ?_
  refine lv_bipush (v := 7) (pc := 19) hx hb dX5_comeTo_19 (by decide) ?_
  refine lv_iload_n (pc := 21) hx hb dX5_comeTo_21 rfl (lv_at hl 2 rfl) ?_
  refine lv_iadd (pc := 22) hx hb dX5_comeTo_22 ?_
  obtain ⟨x23, e23, hf⟩ := z_bd hf
  refine z_iald (pc := 23) hx hb hK hP 7 0 rfl rfl e23 dX5_comeTo_23 ?_
  refine lv_iconst (v := (-1)) (pc := 24) hx hb dX5_comeTo_24 (by decide) ?_
  refine lv_icmp_ne (pc := 25) (tgt := 47) hx hb dX5_comeTo_25 (by decide) (fun c_25 => ?_) (fun c_25 => ?_)
  · replace hf := z_in c_25 hf
    refine lv_aload_n (pc := 47) hx hb dX5_comeTo_47 rfl (lv_at hl 0 rfl) ?_
    refine va_get (pc := 48) (ci := 5) (C := RX5) (T := TX5) (N := 11) hx hb hts in_X5 hown hK hP 0 rfl rfl 9 (by decide) lk_fi29 (fun _ h9 => h9) rfl dX5_comeTo_48 ?_
    refine lv_bipush (v := 7) (pc := 51) hx hb dX5_comeTo_51 (by decide) ?_
    refine lv_iload_n (pc := 53) hx hb dX5_comeTo_53 rfl (lv_at hl 2 rfl) ?_
    refine lv_iadd (pc := 54) hx hb dX5_comeTo_54 ?_
    refine lv_iconst (v := (-1)) (pc := 55) hx hb dX5_comeTo_55 (by decide) ?_
    obtain ⟨x56, e56, hf⟩ := z_bd hf
    refine z_iast (pc := 56) (W1 := (z_wM X d (z_mR M 6 x56))) hx hb hK hP hD hS 7 0 rfl rfl e56 rfl dX5_comeTo_56 (fun H locs hP hD hS => ?_)
    refine lv_aload_n (pc := 57) hx hb dX5_comeTo_57 rfl (lv_at hl 0 rfl) ?_
    refine va_get (pc := 58) (ci := 5) (C := RX5) (T := TX5) (N := 11) hx hb hts in_X5 hown hK hP 0 rfl rfl 9 (by decide) lk_fi29 (fun _ h9 => h9) rfl dX5_comeTo_58 ?_
    refine lv_iconst (v := 2) (pc := 61) hx hb dX5_comeTo_61 (by decide) ?_
    refine lv_dup2_11 (pc := 62) hx hb dX5_comeTo_62 rfl rfl ?_
    obtain ⟨x63, e63, hf⟩ := z_bd hf
    refine z_iald (pc := 63) hx hb hK hP 7 0 rfl rfl e63 dX5_comeTo_63 ?_
    refine lv_iconst (v := 1) (pc := 64) hx hb dX5_comeTo_64 (by decide) ?_
    refine lv_iadd (pc := 65) hx hb dX5_comeTo_65 ?_
    obtain ⟨x66, e66, hf⟩ := z_bd hf
    refine z_iast (pc := 66) (W1 := (z_wM X d (z_mR M 6 x66))) hx hb hK hP hD hS 7 0 rfl rfl e66 rfl dX5_comeTo_66 (fun H locs hP hD hS => ?_)
    refine lv_aload_n (pc := 67) hx hb dX5_comeTo_67 rfl (lv_at hl 0 rfl) ?_
    refine lv_iload_n (pc := 68) hx hb dX5_comeTo_68 rfl (lv_at hl 1 rfl) ?_
    refine lv_iconst (v := 2) (pc := 69) hx hb dX5_comeTo_69 (by decide) ?_
    refine lv_iload_n (pc := 70) hx hb dX5_comeTo_70 rfl (lv_at hl 2 rfl) ?_
    refine lv_aload_n (pc := 71) hx hb dX5_comeTo_71 rfl (lv_at hl 0 rfl) ?_
    refine va_get (pc := 72) (ci := 5) (C := RX5) (T := TX5) (N := 11) hx hb hts in_X5 hown hK hP 0 rfl rfl 5 (by decide) lk_fi16 (fun _ h9 => h9) rfl dX5_comeTo_72 ?_
    refine lv_iload_n (pc := 75) hx hb dX5_comeTo_75 rfl (lv_at hl 2 rfl) ?_
    obtain ⟨x76, e76, hf⟩ := z_bd hf
    refine z_iald (pc := 76) hx hb hK hP 3 0 rfl rfl e76 dX5_comeTo_76 ?_
    obtain ⟨x77, e77, hf⟩ := z_bd hf
    refine z_cmV (pc := 77) (W1 := (z_wM X d x77)) S (m_X5_give l X d (z_mR M 6 x66) v1 2 v2 x76 e77) (cwV 4 hts gX5_comeTo_X5_give rfl rfl rfl hdX5_give ⟨Nat.le_of_ble_eq_true rfl, Nat.le_of_ble_eq_true rfl⟩) hP hK hN hD hS hA (s_M_M X d (z_mR M 6 x66)) (f_M_M X d (z_mR M 6 x66) x77) (ci := 5) rfl rfl rfl ⟨Nat.le_of_ble_eq_true rfl, Nat.le_of_ble_eq_true rfl⟩ rfl hl.1 rfl (Nat.le_of_ble_eq_true rfl) dX5_comeTo_77 (fun H locs hP hD hS => ?_)
    exact W.vret (pc := 80) hx hb hr (fun t ht hW => ⟨⟨(z_wM X d x77), rfl, congrArg (fun z => (z_wM X d z)) (Option.some.inj hf), by rw [ht]; exact hP, hD⟩, hS.F ht⟩) hS.2.2 dX5_comeTo_80
  · replace hf := z_ip c_25 hf
    refine lv_aload_n (pc := 28) hx hb dX5_comeTo_28 rfl (lv_at hl 0 rfl) ?_
    refine va_get (pc := 29) (ci := 5) (C := RX5) (T := TX5) (N := 11) hx hb hts in_X5 hown hK hP 0 rfl rfl 9 (by decide) lk_fi29 (fun _ h9 => h9) rfl dX5_comeTo_29 ?_
    refine lv_iconst (v := 3) (pc := 32) hx hb dX5_comeTo_32 (by decide) ?_
    refine lv_dup2_11 (pc := 33) hx hb dX5_comeTo_33 rfl rfl ?_
    obtain ⟨x34, e34, hf⟩ := z_bd hf
    refine z_iald (pc := 34) hx hb hK hP 7 0 rfl rfl e34 dX5_comeTo_34 ?_
    refine lv_iconst (v := 1) (pc := 35) hx hb dX5_comeTo_35 (by decide) ?_
    refine lv_iadd (pc := 36) hx hb dX5_comeTo_36 ?_
    obtain ⟨x37, e37, hf⟩ := z_bd hf
    refine z_iast (pc := 37) (W1 := (z_wM X d (z_mR M 6 x37))) hx hb hK hP hD hS 7 0 rfl rfl e37 rfl dX5_comeTo_37 (fun H locs hP hD hS => ?_)
    refine lv_aload_n (pc := 38) hx hb dX5_comeTo_38 rfl (lv_at hl 0 rfl) ?_
    refine lv_iload_n (pc := 39) hx hb dX5_comeTo_39 rfl (lv_at hl 1 rfl) ?_
    refine lv_iconst (v := 0) (pc := 40) hx hb dX5_comeTo_40 (by decide) ?_
    refine lv_iconst (v := 0) (pc := 41) hx hb dX5_comeTo_41 (by decide) ?_
    refine lv_iconst (v := 0) (pc := 42) hx hb dX5_comeTo_42 (by decide) ?_
    obtain ⟨x43, e43, hf⟩ := z_bd hf
    refine z_cmV (pc := 43) (W1 := (z_wM X d x43)) S (m_X5_give l X d (z_mR M 6 x37) v1 0 0 0 e43) (cwV 4 hts gX5_comeTo_X5_give rfl rfl rfl hdX5_give ⟨Nat.le_of_ble_eq_true rfl, Nat.le_of_ble_eq_true rfl⟩) hP hK hN hD hS hA (s_M_M X d (z_mR M 6 x37)) (f_M_M X d (z_mR M 6 x37) x43) (ci := 5) rfl rfl rfl ⟨Nat.le_of_ble_eq_true rfl, Nat.le_of_ble_eq_true rfl⟩ rfl hl.1 rfl (Nat.le_of_ble_eq_true rfl) dX5_comeTo_43 (fun H locs hP hD hS => ?_)
    exact W.vret (pc := 46) hx hb hr (fun t ht hW => ⟨⟨(z_wM X d x43), rfl, congrArg (fun z => (z_wM X d z)) (Option.some.inj hf), by rw [ht]; exact hP, hD⟩, hS.F ht⟩) hS.2.2 dX5_comeTo_46
def f_X5_hold (M : z_M) (v1 : Int32) : Option z_M := (z_at (M.2 6) (7 + v1) 55).bind (fun x9 => (z_wr (M.2 6) (7 + v1) 55 (x9 + 1)).bind (fun x12 => (z_at x12 (7 + v1) 55).bind (fun x21 => (if x21 = 30 then (z_wr x12 (7 + v1) 55 (-1)).bind (fun x36 => (z_at x36 4 55).bind (fun x43 => (z_wr x36 4 55 (x43 + 1)).bind (fun x46 => some (z_mR M 6 x46)))) else (z_at x12 (7 + v1) 55).bind (fun x58 => (z_at (M.2 1) v1 12).bind (fun x64 => (z_rm x58 x64).bind (fun x65 => (if x65 = 0 then (f_X5_rings (z_mR M 6 x12) v1).bind (fun x71 => some x71.2) else some (z_mR M 6 x12)))))))))
set_option maxHeartbeats 4000000 in
set_option maxRecDepth 100000 in
theorem m_X5_hold (l : Launch) (X : z_X) (d : Nat → Nat) (M : z_M) (v1 : Int32) {RR : z_M} (hf : f_X5_hold M v1 = some RR) : z_mV l yX5_hold wsX5_hold 2 44 X [.ref (d 0), .int v1] (z_wM X d M) (z_wM X d RR) := by
  intro sz
  refine Met.ofW (cc := cX5_hold) (maxL := 2) (ret := none) (by decide) rfl ?_
  intro p e s m args below meth c s₁ Bd hml hv
  obtain ⟨rfl, hsz, hP, hK, hN, hD0⟩ := hv
  have hx := Bd.exec
  have hb := Bd.bytes
  have hr := Bd.returns
  have hts := atoms_spec (ws := wsX5_hold) Bd.pre
  have hown : s.vm.findClass RX5 = some m.cls := findClass_of_methodNamed Bd.named
  have hlocks := Bd.notSynchronized
  have S : CallFix p m c cX5_hold 2 s _ wsX5_hold RX5 := ⟨hx, hb, hml, hown, hts⟩
  have lk_fi29 := hts (.fieldLink RX5 29 "HouseBellsModel" "now" "[I") (List.mem_of_getElem? (i := 1) rfl)
  have lk_fi13 := hts (.fieldLink RX5 13 "HouseBellsModel" "patience" "[I") (List.mem_of_getElem? (i := 2) rfl)
  have in_X5 : ∀ w ∈ wsX50, w ∈ wsX5_hold := fun _ h => (List.mem_cons_of_mem _ (List.mem_append_right _ h))
  subst hsz
  have hD := hD0.self (sz := s.heap.size)
  generalize hAe : va_A (z_wM X d M) s.heap.size = A at hD ⊢
  have hA : ∀ q : Nat, s.heap.size ≤ q → A q := fun q h => by rw [← hAe]; exact Or.inr h
  have hS : va_S A s.heap s.heap [] := va_S.rf
  have hl := lv_entry ([.ref (d 0), .int v1]) (n := 2) (Nat.le_of_ble_eq_true rfl)
  rw [lg_entry_eq]
  generalize (lg_sl ([.ref (d 0), .int v1]) ++ List.replicate (2 - (lg_sl ([.ref (d 0), .int v1])).length) Slot.unset).toArray = ls at hl ⊢
  have hl : lv_has ls 2 [(0, .ref (d 0)), (1, .int v1)] := hl
  suffices hgo : ∀ (H : Heap) (locs : List Loc), va_P X.1 vwCl (z_wM X d M) H → va_D A (z_wM X d M) → va_S A s.heap H locs → W p l e (headSpec wsX5_hold (z_R 2 44)).room s m ([.ref (d 0), .int v1] : List Value).toArray below meth c H locs 0 0 (MQ below (va_Qv (fun u : va_W => u = (z_wM X d RR)) (z_Bm X A) A) ([.ref (d 0), .int v1] : List Value).toArray s 0 0 A) (F0 m 0 ls []) from hgo _ _ hP hD hS
  clear hP hD hS
  intro H locs hP hD hS
  unfold f_X5_hold at hf
  refine lv_aload_n (pc := 0) hx hb dX5_hold_0 rfl (lv_at hl 0 rfl) ?_
  refine va_get (pc := 1) (ci := 5) (C := RX5) (T := TX5) (N := 11) hx hb hts in_X5 hown hK hP 0 rfl rfl 9 (by decide) lk_fi29 (fun _ h9 => h9) rfl dX5_hold_1 ?_
  refine lv_bipush (v := 7) (pc := 4) hx hb dX5_hold_4 (by decide) ?_
  refine lv_iload_n (pc := 6) hx hb dX5_hold_6 rfl (lv_at hl 1 rfl) ?_
  refine lv_iadd (pc := 7) hx hb dX5_hold_7 ?_
  refine lv_dup2_11 (pc := 8) hx hb dX5_hold_8 rfl rfl ?_
  obtain ⟨x9, e9, hf⟩ := z_bd hf
  refine z_iald (pc := 9) hx hb hK hP 7 0 rfl rfl e9 dX5_hold_9 ?_
  refine lv_iconst (v := 1) (pc := 10) hx hb dX5_hold_10 (by decide) ?_
  refine lv_iadd (pc := 11) hx hb dX5_hold_11 ?_
  obtain ⟨x12, e12, hf⟩ := z_bd hf
  refine z_iast (pc := 12) (W1 := (z_wM X d (z_mR M 6 x12))) hx hb hK hP hD hS 7 0 rfl rfl e12 rfl dX5_hold_12 (fun H locs hP hD hS => ?_)
  refine lv_aload_n (pc := 13) hx hb dX5_hold_13 rfl (lv_at hl 0 rfl) ?_
  refine va_get (pc := 14) (ci := 5) (C := RX5) (T := TX5) (N := 11) hx hb hts in_X5 hown hK hP 0 rfl rfl 9 (by decide) lk_fi29 (fun _ h9 => h9) rfl dX5_hold_14 ?_
  refine lv_bipush (v := 7) (pc := 17) hx hb dX5_hold_17 (by decide) ?_
  refine lv_iload_n (pc := 19) hx hb dX5_hold_19 rfl (lv_at hl 1 rfl) ?_
  refine lv_iadd (pc := 20) hx hb dX5_hold_20 ?_
  obtain ⟨x21, e21, hf⟩ := z_bd hf
  refine z_iald (pc := 21) hx hb hK hP 7 0 rfl rfl e21 dX5_hold_21 ?_
  refine lv_bipush (v := 30) (pc := 22) hx hb dX5_hold_22 (by decide) ?_
  refine lv_icmp_ne (pc := 24) (tgt := 50) hx hb dX5_hold_24 (by decide) (fun c_24 => ?_) (fun c_24 => ?_)
  · replace hf := z_in c_24 hf
    refine lv_aload_n (pc := 50) hx hb dX5_hold_50 rfl (lv_at hl 0 rfl) ?_
    refine va_get (pc := 51) (ci := 5) (C := RX5) (T := TX5) (N := 11) hx hb hts in_X5 hown hK hP 0 rfl rfl 9 (by decide) lk_fi29 (fun _ h9 => h9) rfl dX5_hold_51 ?_
    refine lv_bipush (v := 7) (pc := 54) hx hb dX5_hold_54 (by decide) ?_
    refine lv_iload_n (pc := 56) hx hb dX5_hold_56 rfl (lv_at hl 1 rfl) ?_
    refine lv_iadd (pc := 57) hx hb dX5_hold_57 ?_
    obtain ⟨x58, e58, hf⟩ := z_bd hf
    refine z_iald (pc := 58) hx hb hK hP 7 0 rfl rfl e58 dX5_hold_58 ?_
    refine lv_aload_n (pc := 59) hx hb dX5_hold_59 rfl (lv_at hl 0 rfl) ?_
    refine va_get (pc := 60) (ci := 5) (C := RX5) (T := TX5) (N := 11) hx hb hts in_X5 hown hK hP 0 rfl rfl 4 (by decide) lk_fi13 (fun _ h9 => h9) rfl dX5_hold_60 ?_
    refine lv_iload_n (pc := 63) hx hb dX5_hold_63 rfl (lv_at hl 1 rfl) ?_
    obtain ⟨x64, e64, hf⟩ := z_bd hf
    refine z_iald (pc := 64) hx hb hK hP 2 0 rfl rfl e64 dX5_hold_64 ?_
    obtain ⟨x65, e65, hf⟩ := z_bd hf
    refine z_irem (pc := 65) hx hb e65 dX5_hold_65 ?_
    refine lv_if_ne (pc := 66) (tgt := 75) hx hb dX5_hold_66 (by decide) (fun c_66 => ?_) (fun c_66 => ?_)
    · replace hf := z_in c_66 hf
      exact W.vret (pc := 75) hx hb hr (fun t ht hW => ⟨⟨(z_wM X d (z_mR M 6 x12)), rfl, congrArg (fun z => (z_wM X d z)) (Option.some.inj hf), by rw [ht]; exact hP, hD⟩, hS.F ht⟩) hS.2.2 dX5_hold_75
    · replace hf := z_ip c_66 hf
      refine lv_aload_n (pc := 69) hx hb dX5_hold_69 rfl (lv_at hl 0 rfl) ?_
      refine lv_iload_n (pc := 70) hx hb dX5_hold_70 rfl (lv_at hl 1 rfl) ?_
      obtain ⟨x71, e71, hf⟩ := z_bd hf
      refine z_cmI (pc := 71) (W1 := (z_wM X d x71.2)) S (m_X5_rings l X d (z_mR M 6 x12) v1 e71) (cwV 1 hts gX5_hold_X5_rings rfl rfl rfl hdX5_rings ⟨Nat.le_of_ble_eq_true rfl, Nat.le_of_ble_eq_true rfl⟩) hP hK hN hD hS hA (s_M_M X d (z_mR M 6 x12)) (f_M_M X d (z_mR M 6 x12) x71.2) (ci := 5) rfl rfl rfl ⟨Nat.le_of_ble_eq_true rfl, Nat.le_of_ble_eq_true rfl⟩ rfl hl.1 rfl (Nat.le_of_ble_eq_true rfl) dX5_hold_71 (fun H locs hP hD hS => ?_)
      refine lv_pop (pc := 74) hx hb dX5_hold_74 rfl ?_
      exact W.vret (pc := 75) hx hb hr (fun t ht hW => ⟨⟨(z_wM X d x71.2), rfl, congrArg (fun z => (z_wM X d z)) (Option.some.inj hf), by rw [ht]; exact hP, hD⟩, hS.F ht⟩) hS.2.2 dX5_hold_75
  · replace hf := z_ip c_24 hf
    refine lv_aload_n (pc := 27) hx hb dX5_hold_27 rfl (lv_at hl 0 rfl) ?_
    refine va_get (pc := 28) (ci := 5) (C := RX5) (T := TX5) (N := 11) hx hb hts in_X5 hown hK hP 0 rfl rfl 9 (by decide) lk_fi29 (fun _ h9 => h9) rfl dX5_hold_28 ?_
    refine lv_bipush (v := 7) (pc := 31) hx hb dX5_hold_31 (by decide) ?_
    refine lv_iload_n (pc := 33) hx hb dX5_hold_33 rfl (lv_at hl 1 rfl) ?_
    refine lv_iadd (pc := 34) hx hb dX5_hold_34 ?_
    refine lv_iconst (v := (-1)) (pc := 35) hx hb dX5_hold_35 (by decide) ?_
    obtain ⟨x36, e36, hf⟩ := z_bd hf
    refine z_iast (pc := 36) (W1 := (z_wM X d (z_mR M 6 x36))) hx hb hK hP hD hS 7 0 rfl rfl e36 rfl dX5_hold_36 (fun H locs hP hD hS => ?_)
    refine lv_aload_n (pc := 37) hx hb dX5_hold_37 rfl (lv_at hl 0 rfl) ?_
    refine va_get (pc := 38) (ci := 5) (C := RX5) (T := TX5) (N := 11) hx hb hts in_X5 hown hK hP 0 rfl rfl 9 (by decide) lk_fi29 (fun _ h9 => h9) rfl dX5_hold_38 ?_
    refine lv_iconst (v := 4) (pc := 41) hx hb dX5_hold_41 (by decide) ?_
    refine lv_dup2_11 (pc := 42) hx hb dX5_hold_42 rfl rfl ?_
    obtain ⟨x43, e43, hf⟩ := z_bd hf
    refine z_iald (pc := 43) hx hb hK hP 7 0 rfl rfl e43 dX5_hold_43 ?_
    refine lv_iconst (v := 1) (pc := 44) hx hb dX5_hold_44 (by decide) ?_
    refine lv_iadd (pc := 45) hx hb dX5_hold_45 ?_
    obtain ⟨x46, e46, hf⟩ := z_bd hf
    refine z_iast (pc := 46) (W1 := (z_wM X d (z_mR M 6 x46))) hx hb hK hP hD hS 7 0 rfl rfl e46 rfl dX5_hold_46 (fun H locs hP hD hS => ?_)
    refine lv_goto (pc := 47) (tgt := 75) hx hb dX5_hold_47 (by decide) ?_
    exact W.vret (pc := 75) hx hb hr (fun t ht hW => ⟨⟨(z_wM X d (z_mR M 6 x46)), rfl, congrArg (fun z => (z_wM X d z)) (Option.some.inj hf), by rw [ht]; exact hP, hD⟩, hS.F ht⟩) hS.2.2 dX5_hold_75
def f_X5_work (M : z_M) (v1 : Int32) : Option z_M := (z_at (M.2 6) (49 + v1) 55).bind (fun x9 => (z_wr (M.2 6) (49 + v1) 55 (x9 - 1)).bind (fun x12 => (z_at x12 (49 + v1) 55).bind (fun x21 => (if x21 ≤ 0 then (z_at x12 (37 + v1) 55).bind (fun x34 => (if x34 = 1 then (z_at x12 (43 + v1) 55).bind (fun x49 => (f_X5_comeTo (z_mR M 6 x12) v1 x49).bind (fun x50 => some x50)) else (f_X5_give (z_mR M 6 x12) v1 0 0 0).bind (fun x61 => some x61))) else some (z_mR M 6 x12)))))
set_option maxHeartbeats 4000000 in
set_option maxRecDepth 100000 in
theorem m_X5_work (l : Launch) (X : z_X) (d : Nat → Nat) (M : z_M) (v1 : Int32) {RR : z_M} (hf : f_X5_work M v1 = some RR) : z_mV l yX5_work wsX5_work 2 46 X [.ref (d 0), .int v1] (z_wM X d M) (z_wM X d RR) := by
  intro sz
  refine Met.ofW (cc := cX5_work) (maxL := 2) (ret := none) (by decide) rfl ?_
  intro p e s m args below meth c s₁ Bd hml hv
  obtain ⟨rfl, hsz, hP, hK, hN, hD0⟩ := hv
  have hx := Bd.exec
  have hb := Bd.bytes
  have hr := Bd.returns
  have hts := atoms_spec (ws := wsX5_work) Bd.pre
  have hown : s.vm.findClass RX5 = some m.cls := findClass_of_methodNamed Bd.named
  have hlocks := Bd.notSynchronized
  have S : CallFix p m c cX5_work 2 s _ wsX5_work RX5 := ⟨hx, hb, hml, hown, hts⟩
  have lk_fi29 := hts (.fieldLink RX5 29 "HouseBellsModel" "now" "[I") (List.mem_of_getElem? (i := 1) rfl)
  have in_X5 : ∀ w ∈ wsX50, w ∈ wsX5_work := fun _ h => (List.mem_cons_of_mem _ (List.mem_append_right _ h))
  subst hsz
  have hD := hD0.self (sz := s.heap.size)
  generalize hAe : va_A (z_wM X d M) s.heap.size = A at hD ⊢
  have hA : ∀ q : Nat, s.heap.size ≤ q → A q := fun q h => by rw [← hAe]; exact Or.inr h
  have hS : va_S A s.heap s.heap [] := va_S.rf
  have hl := lv_entry ([.ref (d 0), .int v1]) (n := 2) (Nat.le_of_ble_eq_true rfl)
  rw [lg_entry_eq]
  generalize (lg_sl ([.ref (d 0), .int v1]) ++ List.replicate (2 - (lg_sl ([.ref (d 0), .int v1])).length) Slot.unset).toArray = ls at hl ⊢
  have hl : lv_has ls 2 [(0, .ref (d 0)), (1, .int v1)] := hl
  suffices hgo : ∀ (H : Heap) (locs : List Loc), va_P X.1 vwCl (z_wM X d M) H → va_D A (z_wM X d M) → va_S A s.heap H locs → W p l e (headSpec wsX5_work (z_R 2 46)).room s m ([.ref (d 0), .int v1] : List Value).toArray below meth c H locs 0 0 (MQ below (va_Qv (fun u : va_W => u = (z_wM X d RR)) (z_Bm X A) A) ([.ref (d 0), .int v1] : List Value).toArray s 0 0 A) (F0 m 0 ls []) from hgo _ _ hP hD hS
  clear hP hD hS
  intro H locs hP hD hS
  unfold f_X5_work at hf
  refine lv_aload_n (pc := 0) hx hb dX5_work_0 rfl (lv_at hl 0 rfl) ?_
  refine va_get (pc := 1) (ci := 5) (C := RX5) (T := TX5) (N := 11) hx hb hts in_X5 hown hK hP 0 rfl rfl 9 (by decide) lk_fi29 (fun _ h9 => h9) rfl dX5_work_1 ?_
  refine lv_bipush (v := 49) (pc := 4) hx hb dX5_work_4 (by decide) ?_
  refine lv_iload_n (pc := 6) hx hb dX5_work_6 rfl (lv_at hl 1 rfl) ?_
  refine lv_iadd (pc := 7) hx hb dX5_work_7 ?_
  refine lv_dup2_11 (pc := 8) hx hb dX5_work_8 rfl rfl ?_
  obtain ⟨x9, e9, hf⟩ := z_bd hf
  refine z_iald (pc := 9) hx hb hK hP 7 0 rfl rfl e9 dX5_work_9 ?_
  refine lv_iconst (v := 1) (pc := 10) hx hb dX5_work_10 (by decide) ?_
  refine lv_isub (pc := 11) hx hb dX5_work_11 ?_
  obtain ⟨x12, e12, hf⟩ := z_bd hf
  refine z_iast (pc := 12) (W1 := (z_wM X d (z_mR M 6 x12))) hx hb hK hP hD hS 7 0 rfl rfl e12 rfl dX5_work_12 (fun H locs hP hD hS => ?_)
  refine lv_aload_n (pc := 13) hx hb dX5_work_13 rfl (lv_at hl 0 rfl) ?_
  refine va_get (pc := 14) (ci := 5) (C := RX5) (T := TX5) (N := 11) hx hb hts in_X5 hown hK hP 0 rfl rfl 9 (by decide) lk_fi29 (fun _ h9 => h9) rfl dX5_work_14 ?_
  refine lv_bipush (v := 49) (pc := 17) hx hb dX5_work_17 (by decide) ?_
  refine lv_iload_n (pc := 19) hx hb dX5_work_19 rfl (lv_at hl 1 rfl) ?_
  refine lv_iadd (pc := 20) hx hb dX5_work_20 ?_
  obtain ⟨x21, e21, hf⟩ := z_bd hf
  refine z_iald (pc := 21) hx hb hK hP 7 0 rfl rfl e21 dX5_work_21 ?_
  refine lv_if_le (pc := 22) (tgt := 26) hx hb dX5_work_22 (by decide) (fun c_22 => ?_) (fun c_22 => ?_)
  · replace hf := z_ip c_22 hf
    refine lv_aload_n (pc := 26) hx hb dX5_work_26 rfl (lv_at hl 0 rfl) ?_
    refine va_get (pc := 27) (ci := 5) (C := RX5) (T := TX5) (N := 11) hx hb hts in_X5 hown hK hP 0 rfl rfl 9 (by decide) lk_fi29 (fun _ h9 => h9) rfl dX5_work_27 ?_
    refine lv_bipush (v := 37) (pc := 30) hx hb dX5_work_30 (by decide) ?_
    refine lv_iload_n (pc := 32) hx hb dX5_work_32 rfl (lv_at hl 1 rfl) ?_
    refine lv_iadd (pc := 33) hx hb dX5_work_33 ?_
    obtain ⟨x34, e34, hf⟩ := z_bd hf
    refine z_iald (pc := 34) hx hb hK hP 7 0 rfl rfl e34 dX5_work_34 ?_
    refine lv_iconst (v := 1) (pc := 35) hx hb dX5_work_35 (by decide) ?_
    refine lv_icmp_ne (pc := 36) (tgt := 56) hx hb dX5_work_36 (by decide) (fun c_36 => ?_) (fun c_36 => ?_)
    · replace hf := z_in c_36 hf
      refine lv_aload_n (pc := 56) hx hb dX5_work_56 rfl (lv_at hl 0 rfl) ?_
      refine lv_iload_n (pc := 57) hx hb dX5_work_57 rfl (lv_at hl 1 rfl) ?_
      refine lv_iconst (v := 0) (pc := 58) hx hb dX5_work_58 (by decide) ?_
      refine lv_iconst (v := 0) (pc := 59) hx hb dX5_work_59 (by decide) ?_
      refine lv_iconst (v := 0) (pc := 60) hx hb dX5_work_60 (by decide) ?_
      obtain ⟨x61, e61, hf⟩ := z_bd hf
      refine z_cmV (pc := 61) (W1 := (z_wM X d x61)) S (m_X5_give l X d (z_mR M 6 x12) v1 0 0 0 e61) (cwV 4 hts gX5_work_X5_give rfl rfl rfl hdX5_give ⟨Nat.le_of_ble_eq_true rfl, Nat.le_of_ble_eq_true rfl⟩) hP hK hN hD hS hA (s_M_M X d (z_mR M 6 x12)) (f_M_M X d (z_mR M 6 x12) x61) (ci := 5) rfl rfl rfl ⟨Nat.le_of_ble_eq_true rfl, Nat.le_of_ble_eq_true rfl⟩ rfl hl.1 rfl (Nat.le_of_ble_eq_true rfl) dX5_work_61 (fun H locs hP hD hS => ?_)
      exact W.vret (pc := 64) hx hb hr (fun t ht hW => ⟨⟨(z_wM X d x61), rfl, congrArg (fun z => (z_wM X d z)) (Option.some.inj hf), by rw [ht]; exact hP, hD⟩, hS.F ht⟩) hS.2.2 dX5_work_64
    · replace hf := z_ip c_36 hf
      refine lv_aload_n (pc := 39) hx hb dX5_work_39 rfl (lv_at hl 0 rfl) ?_
      refine lv_iload_n (pc := 40) hx hb dX5_work_40 rfl (lv_at hl 1 rfl) ?_
      refine lv_aload_n (pc := 41) hx hb dX5_work_41 rfl (lv_at hl 0 rfl) ?_
      refine va_get (pc := 42) (ci := 5) (C := RX5) (T := TX5) (N := 11) hx hb hts in_X5 hown hK hP 0 rfl rfl 9 (by decide) lk_fi29 (fun _ h9 => h9) rfl dX5_work_42 ?_
      refine lv_bipush (v := 43) (pc := 45) hx hb dX5_work_45 (by decide) ?_
      refine lv_iload_n (pc := 47) hx hb dX5_work_47 rfl (lv_at hl 1 rfl) ?_
      refine lv_iadd (pc := 48) hx hb dX5_work_48 ?_
      obtain ⟨x49, e49, hf⟩ := z_bd hf
      refine z_iald (pc := 49) hx hb hK hP 7 0 rfl rfl e49 dX5_work_49 ?_
      obtain ⟨x50, e50, hf⟩ := z_bd hf
      refine z_cmV (pc := 50) (W1 := (z_wM X d x50)) S (m_X5_comeTo l X d (z_mR M 6 x12) v1 x49 e50) (cwV 2 hts gX5_work_X5_comeTo rfl rfl rfl hdX5_comeTo ⟨Nat.le_of_ble_eq_true rfl, Nat.le_of_ble_eq_true rfl⟩) hP hK hN hD hS hA (s_M_M X d (z_mR M 6 x12)) (f_M_M X d (z_mR M 6 x12) x50) (ci := 5) rfl rfl rfl ⟨Nat.le_of_ble_eq_true rfl, Nat.le_of_ble_eq_true rfl⟩ rfl hl.1 rfl (Nat.le_of_ble_eq_true rfl) dX5_work_50 (fun H locs hP hD hS => ?_)
      refine lv_goto (pc := 53) (tgt := 64) hx hb dX5_work_53 (by decide) ?_
      exact W.vret (pc := 64) hx hb hr (fun t ht hW => ⟨⟨(z_wM X d x50), rfl, congrArg (fun z => (z_wM X d z)) (Option.some.inj hf), by rw [ht]; exact hP, hD⟩, hS.F ht⟩) hS.2.2 dX5_work_64
  · replace hf := z_in c_22 hf
    exact W.vret (pc := 25) hx hb hr (fun t ht hW => ⟨⟨(z_wM X d (z_mR M 6 x12)), rfl, congrArg (fun z => (z_wM X d z)) (Option.some.inj hf), by rw [ht]; exact hP, hD⟩, hS.F ht⟩) hS.2.2 dX5_work_25
def f_X5_sends (M : z_M) : Option (Int32 × z_M) := (z_at (M.2 6) 6 55).bind (fun x6 => (if x6 = 0 then some (0, M) else (z_at (M.2 6) 19 55).bind (fun x18 => (f_X5_nearest M x18).bind (fun x22 => (if x22 = (-1) then some (0, M) else (f_X5_takeOut M 0).bind (fun x35 => (f_X5_way x35 x22 x18).bind (fun x45 => (f_X5_give x35 x22 1 x18 x45).bind (fun x48 => some (1, x48)))))))))
set_option maxHeartbeats 4000000 in
set_option maxRecDepth 100000 in
theorem m_X5_sends (l : Launch) (X : z_X) (d : Nat → Nat) (M : z_M) {RR : (Int32 × z_M)} (hf : f_X5_sends M = some RR) : z_mI l yX5_sends wsX5_sends 3 70 X [.ref (d 0)] (z_wM X d M) RR.1 (z_wM X d RR.2) := by
  intro sz
  refine Met.ofW (cc := cX5_sends) (maxL := 3) (ret := (some .boolean)) (by decide) rfl ?_
  intro p e s m args below meth c s₁ Bd hml hv
  obtain ⟨rfl, hsz, hP, hK, hN, hD0⟩ := hv
  have hx := Bd.exec
  have hb := Bd.bytes
  have hr := Bd.returns
  have hts := atoms_spec (ws := wsX5_sends) Bd.pre
  have hown : s.vm.findClass RX5 = some m.cls := findClass_of_methodNamed Bd.named
  have hlocks := Bd.notSynchronized
  have S : CallFix p m c cX5_sends 3 s _ wsX5_sends RX5 := ⟨hx, hb, hml, hown, hts⟩
  have lk_fi29 := hts (.fieldLink RX5 29 "HouseBellsModel" "now" "[I") (List.mem_of_getElem? (i := 1) rfl)
  have in_X5 : ∀ w ∈ wsX50, w ∈ wsX5_sends := fun _ h => (List.mem_cons_of_mem _ (List.mem_append_right _ h))
  subst hsz
  have hD := hD0.self (sz := s.heap.size)
  generalize hAe : va_A (z_wM X d M) s.heap.size = A at hD ⊢
  have hA : ∀ q : Nat, s.heap.size ≤ q → A q := fun q h => by rw [← hAe]; exact Or.inr h
  have hS : va_S A s.heap s.heap [] := va_S.rf
  have hl := lv_entry ([.ref (d 0)]) (n := 3) (Nat.le_of_ble_eq_true rfl)
  rw [lg_entry_eq]
  generalize (lg_sl ([.ref (d 0)]) ++ List.replicate (3 - (lg_sl ([.ref (d 0)])).length) Slot.unset).toArray = ls at hl ⊢
  have hl : lv_has ls 3 [(0, .ref (d 0))] := hl
  suffices hgo : ∀ (H : Heap) (locs : List Loc), va_P X.1 vwCl (z_wM X d M) H → va_D A (z_wM X d M) → va_S A s.heap H locs → W p l e (headSpec wsX5_sends (z_R 3 70)).room s m ([.ref (d 0)] : List Value).toArray below meth c H locs 0 0 (MQ below (va_Qi (fun (z : Int32) (u : va_W) => z = RR.1 ∧ u = (z_wM X d RR.2)) (z_Bm X A) A) ([.ref (d 0)] : List Value).toArray s 0 0 A) (F0 m 0 ls []) from hgo _ _ hP hD hS
  clear hP hD hS
  intro H locs hP hD hS
  unfold f_X5_sends at hf
  refine lv_aload_n (pc := 0) hx hb dX5_sends_0 rfl (lv_at hl 0 rfl) ?_
  refine va_get (pc := 1) (ci := 5) (C := RX5) (T := TX5) (N := 11) hx hb hts in_X5 hown hK hP 0 rfl rfl 9 (by decide) lk_fi29 (fun _ h9 => h9) rfl dX5_sends_1 ?_
  refine lv_bipush (v := 6) (pc := 4) hx hb dX5_sends_4 (by decide) ?_
  obtain ⟨x6, e6, hf⟩ := z_bd hf
  refine z_iald (pc := 6) hx hb hK hP 7 0 rfl rfl e6 dX5_sends_6 ?_
  refine lv_if_ne (pc := 7) (tgt := 12) hx hb dX5_sends_7 (by decide) (fun c_7 => ?_) (fun c_7 => ?_)
  · replace hf := z_in c_7 hf
    refine lv_aload_n (pc := 12) hx hb dX5_sends_12 rfl (lv_at hl 0 rfl) ?_
    refine va_get (pc := 13) (ci := 5) (C := RX5) (T := TX5) (N := 11) hx hb hts in_X5 hown hK hP 0 rfl rfl 9 (by decide) lk_fi29 (fun _ h9 => h9) rfl dX5_sends_13 ?_
    refine lv_bipush (v := 19) (pc := 16) hx hb dX5_sends_16 (by decide) ?_
    obtain ⟨x18, e18, hf⟩ := z_bd hf
    refine z_iald (pc := 18) hx hb hK hP 7 0 rfl rfl e18 dX5_sends_18 ?_
    refine lv_istore_n (pc := 19) (lv' := [(1, .int x18), (0, .ref (d 0))]) hx hb dX5_sends_19 rfl hl (by decide) rfl (fun ls hl => ?_)
    refine lv_aload_n (pc := 20) hx hb dX5_sends_20 rfl (lv_at hl 1 rfl) ?_
    refine lv_iload_n (pc := 21) hx hb dX5_sends_21 rfl (lv_at hl 0 rfl) ?_
    obtain ⟨x22, e22, hf⟩ := z_bd hf
    refine z_cpI (pc := 22) S (m_X5_nearest l X d M x18 e22) (cwV 1 hts gX5_sends_X5_nearest rfl rfl rfl hdX5_nearest ⟨Nat.le_of_ble_eq_true rfl, Nat.le_of_ble_eq_true rfl⟩) hP hK hN (s_M_M X d M) (ci := 5) rfl rfl rfl ⟨Nat.le_of_ble_eq_true rfl, Nat.le_of_ble_eq_true rfl⟩ rfl hl.1 rfl (Nat.le_of_ble_eq_true rfl) dX5_sends_22 ?_
    refine lv_istore_n (pc := 25) (lv' := [(2, .int x22), (1, .int x18), (0, .ref (d 0))]) hx hb dX5_sends_25 rfl hl (by decide) rfl (fun ls hl => ?_)
    refine lv_iload_n (pc := 26) hx hb dX5_sends_26 rfl (lv_at hl 0 rfl) ?_
    refine lv_iconst (v := (-1)) (pc := 27) hx hb dX5_sends_27 (by decide) ?_
    refine lv_icmp_ne (pc := 28) (tgt := 33) hx hb dX5_sends_28 (by decide) (fun c_28 => ?_) (fun c_28 => ?_)
    · replace hf := z_in c_28 hf
      refine lv_aload_n (pc := 33) hx hb dX5_sends_33 rfl (lv_at hl 2 rfl) ?_
      refine lv_iconst (v := 0) (pc := 34) hx hb dX5_sends_34 (by decide) ?_
      obtain ⟨x35, e35, hf⟩ := z_bd hf
      refine z_cmV (pc := 35) (W1 := (z_wM X d x35)) S (m_X5_takeOut l X d M 0 e35) (cwV 1 hts gX5_sends_X5_takeOut rfl rfl rfl hdX5_takeOut ⟨Nat.le_of_ble_eq_true rfl, Nat.le_of_ble_eq_true rfl⟩) hP hK hN hD hS hA (s_M_M X d M) (f_M_M X d M x35) (ci := 5) rfl rfl rfl ⟨Nat.le_of_ble_eq_true rfl, Nat.le_of_ble_eq_true rfl⟩ rfl hl.1 rfl (Nat.le_of_ble_eq_true rfl) dX5_sends_35 (fun H locs hP hD hS => ?_)
      refine lv_aload_n (pc := 38) hx hb dX5_sends_38 rfl (lv_at hl 2 rfl) ?_
      refine lv_iload_n (pc := 39) hx hb dX5_sends_39 rfl (lv_at hl 0 rfl) ?_
      refine lv_iconst (v := 1) (pc := 40) hx hb dX5_sends_40 (by decide) ?_
      refine lv_iload_n (pc := 41) hx hb dX5_sends_41 rfl (lv_at hl 1 rfl) ?_
      refine lv_aload_n (pc := 42) hx hb dX5_sends_42 rfl (lv_at hl 2 rfl) ?_
      refine lv_iload_n (pc := 43) hx hb dX5_sends_43 rfl (lv_at hl 0 rfl) ?_
      refine lv_iload_n (pc := 44) hx hb dX5_sends_44 rfl (lv_at hl 1 rfl) ?_
      obtain ⟨x45, e45, hf⟩ := z_bd hf
      refine z_cpI (pc := 45) S (m_X5_way l X d x35 x22 x18 e45) (cwV 2 hts gX5_sends_X5_way rfl rfl rfl hdX5_way ⟨Nat.le_of_ble_eq_true rfl, Nat.le_of_ble_eq_true rfl⟩) hP hK hN (s_M_M X d x35) (ci := 5) rfl rfl rfl ⟨Nat.le_of_ble_eq_true rfl, Nat.le_of_ble_eq_true rfl⟩ rfl hl.1 rfl (Nat.le_of_ble_eq_true rfl) dX5_sends_45 ?_
      obtain ⟨x48, e48, hf⟩ := z_bd hf
      refine z_cmV (pc := 48) (W1 := (z_wM X d x48)) S (m_X5_give l X d x35 x22 1 x18 x45 e48) (cwV 4 hts gX5_sends_X5_give rfl rfl rfl hdX5_give ⟨Nat.le_of_ble_eq_true rfl, Nat.le_of_ble_eq_true rfl⟩) hP hK hN hD hS hA (s_M_M X d x35) (f_M_M X d x35 x48) (ci := 5) rfl rfl rfl ⟨Nat.le_of_ble_eq_true rfl, Nat.le_of_ble_eq_true rfl⟩ rfl hl.1 rfl (Nat.le_of_ble_eq_true rfl) dX5_sends_48 (fun H locs hP hD hS => ?_)
      refine lv_iconst (v := 1) (pc := 51) hx hb dX5_sends_51 (by decide) ?_
      exact W.zret (pc := 52) (v := 1) hx hb hr rfl (fun t ht hW => ⟨⟨_, (z_wM X d x48), rfl, ⟨z_e1 hf, congrArg (fun z => (z_wM X d z)) (z_e2 hf)⟩, by rw [ht]; exact hP, hD⟩, hS.F ht⟩) hS.2.2 dX5_sends_52
    · replace hf := z_ip c_28 hf
      refine lv_iconst (v := 0) (pc := 31) hx hb dX5_sends_31 (by decide) ?_
      exact W.zret (pc := 32) (v := 0) hx hb hr rfl (fun t ht hW => ⟨⟨_, (z_wM X d M), rfl, ⟨z_e1 hf, congrArg (fun z => (z_wM X d z)) (z_e2 hf)⟩, by rw [ht]; exact hP, hD⟩, hS.F ht⟩) hS.2.2 dX5_sends_32
  · replace hf := z_ip c_7 hf
    refine lv_iconst (v := 0) (pc := 10) hx hb dX5_sends_10 (by decide) ?_
    exact W.zret (pc := 11) (v := 0) hx hb hr rfl (fun t ht hW => ⟨⟨_, (z_wM X d M), rfl, ⟨z_e1 hf, congrArg (fun z => (z_wM X d z)) (z_e2 hf)⟩, by rw [ht]; exact hP, hD⟩, hS.F ht⟩) hS.2.2 dX5_sends_11
def f_X5_minuteOn_L2  : Nat → Int32 → z_M → Option z_M
  | 0, _, _ => none
  | n + 1, u1, M => (if (M.1 1) ≤ u1 then some M else (z_at (M.2 6) (7 + u1) 55).bind (fun x18 => (if x18 = (-1) then f_X5_minuteOn_L2 n (u1 + 1) M else (f_X5_hold M u1).bind (fun x25 => f_X5_minuteOn_L2 n (u1 + 1) x25))))
def f_X5_minuteOn_L36  : Nat → Int32 → z_M → Option z_M
  | 0, _, _ => none
  | n + 1, u1, M => (if (M.1 2) ≤ u1 then some M else (z_at (M.2 6) (37 + u1) 55).bind (fun x52 => (if x52 = 0 then f_X5_minuteOn_L36 n (u1 + 1) M else (f_X5_work M u1).bind (fun x58 => f_X5_minuteOn_L36 n (u1 + 1) x58))))
def f_X5_minuteOn_L69  : Nat → Int32 → z_M → Option z_M
  | 0, _, _ => none
  | n + 1, u1, M => (if u1 = 0 then some M else (f_X5_sends M).bind (fun x74 => f_X5_minuteOn_L69 n x74.1 x74.2))
def f_X5_minuteOn (M : z_M) : Option z_M := (f_X5_minuteOn_L2 z_FU 0 M).bind (fun x2 => (f_X5_minuteOn_L36 z_FU 0 x2).bind (fun x36 => (f_X5_minuteOn_L69 z_FU 1 x36).bind (fun x69 => (z_at (x69.2 6) 0 55).bind (fun x87 => (z_wr (x69.2 6) 0 55 (x87 + 1)).bind (fun x90 => some (z_mR x69 6 x90))))))
set_option maxHeartbeats 4000000 in
set_option maxRecDepth 100000 in
theorem m_X5_minuteOn (l : Launch) (X : z_X) (d : Nat → Nat) (M : z_M) {RR : z_M} (hf : f_X5_minuteOn M = some RR) : z_mV l yX5_minuteOn wsX5_minuteOn 4 92 X [.ref (d 0)] (z_wM X d M) (z_wM X d RR) := by
  intro sz
  refine Met.ofW (cc := cX5_minuteOn) (maxL := 2) (ret := none) (by decide) rfl ?_
  intro p e s m args below meth c s₁ Bd hml hv
  obtain ⟨rfl, hsz, hP, hK, hN, hD0⟩ := hv
  have hx := Bd.exec
  have hb := Bd.bytes
  have hr := Bd.returns
  have hts := atoms_spec (ws := wsX5_minuteOn) Bd.pre
  have hown : s.vm.findClass RX5 = some m.cls := findClass_of_methodNamed Bd.named
  have hlocks := Bd.notSynchronized
  have S : CallFix p m c cX5_minuteOn 2 s _ wsX5_minuteOn RX5 := ⟨hx, hb, hml, hown, hts⟩
  have lk_fi39 := hts (.fieldLink RX5 39 "HouseBellsModel" "rooms" "I") (List.mem_of_getElem? (i := 1) rfl)
  have lk_fi29 := hts (.fieldLink RX5 29 "HouseBellsModel" "now" "[I") (List.mem_of_getElem? (i := 2) rfl)
  have lk_fi46 := hts (.fieldLink RX5 46 "HouseBellsModel" "servants" "I") (List.mem_of_getElem? (i := 3) rfl)
  have in_X5 : ∀ w ∈ wsX50, w ∈ wsX5_minuteOn := fun _ h => (List.mem_cons_of_mem _ (List.mem_append_right _ h))
  subst hsz
  have hD := hD0.self (sz := s.heap.size)
  generalize hAe : va_A (z_wM X d M) s.heap.size = A at hD ⊢
  have hA : ∀ q : Nat, s.heap.size ≤ q → A q := fun q h => by rw [← hAe]; exact Or.inr h
  have hS : va_S A s.heap s.heap [] := va_S.rf
  have hl := lv_entry ([.ref (d 0)]) (n := 2) (Nat.le_of_ble_eq_true rfl)
  rw [lg_entry_eq]
  generalize (lg_sl ([.ref (d 0)]) ++ List.replicate (2 - (lg_sl ([.ref (d 0)])).length) Slot.unset).toArray = ls at hl ⊢
  have hl : lv_has ls 2 [(0, .ref (d 0))] := hl
  have lp_2 : ∀ (n : Nat) (u1 : Int32) (M : z_M) (T : z_M) (H : Heap) (locs : List Loc), va_P X.1 vwCl (z_wM X d M) H → va_D A (z_wM X d M) → va_S A s.heap H locs → ∀ (ls : Array Slot), lv_has ls 2 [(0, .ref (d 0)), (1, .int u1)] → f_X5_minuteOn_L2 n u1 M = some T → (∀ (H : Heap) (locs : List Loc), va_P X.1 vwCl (z_wM X d T) H → va_D A (z_wM X d T) → va_S A s.heap H locs → ∀ (ls : Array Slot), lv_has ls 2 [(0, .ref (d 0))] → W p l e (headSpec wsX5_minuteOn (z_R 4 92)).room s m ([.ref (d 0)] : List Value).toArray below meth c H locs 0 0 (MQ below (va_Qv (fun u : va_W => u = (z_wM X d RR)) (z_Bm X A) A) ([.ref (d 0)] : List Value).toArray s 0 0 A) (F0 m 34 ls [])) → W p l e (headSpec wsX5_minuteOn (z_R 4 92)).room s m ([.ref (d 0)] : List Value).toArray below meth c H locs 0 0 (MQ below (va_Qv (fun u : va_W => u = (z_wM X d RR)) (z_Bm X A) A) ([.ref (d 0)] : List Value).toArray s 0 0 A) (F0 m 2 ls []) := by
    intro n
    induction n with
    | zero =>
      intro u1 M T H locs hP hD hS ls hl hf kk
      cases hf
    | succ n ih =>
      intro u1 M T H locs hP hD hS ls hl hf kk
      rw [f_X5_minuteOn_L2] at hf
      refine lv_iload_n (pc := 2) hx hb dX5_minuteOn_2 rfl (lv_at hl 1 rfl) ?_
      refine lv_aload_n (pc := 3) hx hb dX5_minuteOn_3 rfl (lv_at hl 0 rfl) ?_
      refine va_get (pc := 4) (ci := 5) (C := RX5) (T := TX5) (N := 11) hx hb hts in_X5 hown hK hP 0 rfl rfl 1 (by decide) lk_fi39 (fun _ h9 => h9) rfl dX5_minuteOn_4 ?_
      refine lv_icmp_ge (pc := 7) (tgt := 34) hx hb dX5_minuteOn_7 (by decide) (fun c_7 => ?_) (fun c_7 => ?_)
      · replace hf := z_ip c_7 hf
        obtain rfl := Option.some.inj hf
        exact kk H locs hP hD hS ls (lv_sub hl [0] rfl)
      · replace hf := z_in c_7 hf
        refine lv_aload_n (pc := 10) hx hb dX5_minuteOn_10 rfl (lv_at hl 0 rfl) ?_
        refine va_get (pc := 11) (ci := 5) (C := RX5) (T := TX5) (N := 11) hx hb hts in_X5 hown hK hP 0 rfl rfl 9 (by decide) lk_fi29 (fun _ h9 => h9) rfl dX5_minuteOn_11 ?_
        refine lv_bipush (v := 7) (pc := 14) hx hb dX5_minuteOn_14 (by decide) ?_
        refine lv_iload_n (pc := 16) hx hb dX5_minuteOn_16 rfl (lv_at hl 1 rfl) ?_
        refine lv_iadd (pc := 17) hx hb dX5_minuteOn_17 ?_
        obtain ⟨x18, e18, hf⟩ := z_bd hf
        refine z_iald (pc := 18) hx hb hK hP 7 0 rfl rfl e18 dX5_minuteOn_18 ?_
        refine lv_iconst (v := (-1)) (pc := 19) hx hb dX5_minuteOn_19 (by decide) ?_
        refine lv_icmp_eq (pc := 20) (tgt := 28) hx hb dX5_minuteOn_20 (by decide) (fun c_20 => ?_) (fun c_20 => ?_)
        · replace hf := z_ip c_20 hf
          refine lv_iinc (pc := 28) (v := (u1 + 1)) (lv' := [(1, .int (u1 + 1)), (0, .ref (d 0))]) hx hb dX5_minuteOn_28 hl (k := 1) rfl rfl (by decide) rfl (fun ls hl => ?_)
          refine lv_goto (pc := 31) (tgt := 2) hx hb dX5_minuteOn_31 (by decide) ?_
          exact ih (u1 + 1) M T H locs hP hD hS ls (lv_sub hl [1, 0] rfl) hf kk
        · replace hf := z_in c_20 hf
          refine lv_aload_n (pc := 23) hx hb dX5_minuteOn_23 rfl (lv_at hl 0 rfl) ?_
          refine lv_iload_n (pc := 24) hx hb dX5_minuteOn_24 rfl (lv_at hl 1 rfl) ?_
          obtain ⟨x25, e25, hf⟩ := z_bd hf
          refine z_cmV (pc := 25) (W1 := (z_wM X d x25)) S (m_X5_hold l X d M u1 e25) (cwV 1 hts gX5_minuteOn_X5_hold rfl rfl rfl hdX5_hold ⟨Nat.le_of_ble_eq_true rfl, Nat.le_of_ble_eq_true rfl⟩) hP hK hN hD hS hA (s_M_M X d M) (f_M_M X d M x25) (ci := 5) rfl rfl rfl ⟨Nat.le_of_ble_eq_true rfl, Nat.le_of_ble_eq_true rfl⟩ rfl hl.1 rfl (Nat.le_of_ble_eq_true rfl) dX5_minuteOn_25 (fun H locs hP hD hS => ?_)
          refine lv_iinc (pc := 28) (v := (u1 + 1)) (lv' := [(1, .int (u1 + 1)), (0, .ref (d 0))]) hx hb dX5_minuteOn_28 hl (k := 1) rfl rfl (by decide) rfl (fun ls hl => ?_)
          refine lv_goto (pc := 31) (tgt := 2) hx hb dX5_minuteOn_31 (by decide) ?_
          exact ih (u1 + 1) x25 T H locs hP hD hS ls (lv_sub hl [1, 0] rfl) hf kk
  have lp_36 : ∀ (n : Nat) (u1 : Int32) (M : z_M) (T : z_M) (H : Heap) (locs : List Loc), va_P X.1 vwCl (z_wM X d M) H → va_D A (z_wM X d M) → va_S A s.heap H locs → ∀ (ls : Array Slot), lv_has ls 2 [(0, .ref (d 0)), (1, .int u1)] → f_X5_minuteOn_L36 n u1 M = some T → (∀ (H : Heap) (locs : List Loc), va_P X.1 vwCl (z_wM X d T) H → va_D A (z_wM X d T) → va_S A s.heap H locs → ∀ (ls : Array Slot), lv_has ls 2 [(0, .ref (d 0))] → W p l e (headSpec wsX5_minuteOn (z_R 4 92)).room s m ([.ref (d 0)] : List Value).toArray below meth c H locs 0 0 (MQ below (va_Qv (fun u : va_W => u = (z_wM X d RR)) (z_Bm X A) A) ([.ref (d 0)] : List Value).toArray s 0 0 A) (F0 m 67 ls [])) → W p l e (headSpec wsX5_minuteOn (z_R 4 92)).room s m ([.ref (d 0)] : List Value).toArray below meth c H locs 0 0 (MQ below (va_Qv (fun u : va_W => u = (z_wM X d RR)) (z_Bm X A) A) ([.ref (d 0)] : List Value).toArray s 0 0 A) (F0 m 36 ls []) := by
    intro n
    induction n with
    | zero =>
      intro u1 M T H locs hP hD hS ls hl hf kk
      cases hf
    | succ n ih =>
      intro u1 M T H locs hP hD hS ls hl hf kk
      rw [f_X5_minuteOn_L36] at hf
      refine lv_iload_n (pc := 36) hx hb dX5_minuteOn_36 rfl (lv_at hl 1 rfl) ?_
      refine lv_aload_n (pc := 37) hx hb dX5_minuteOn_37 rfl (lv_at hl 0 rfl) ?_
      refine va_get (pc := 38) (ci := 5) (C := RX5) (T := TX5) (N := 11) hx hb hts in_X5 hown hK hP 0 rfl rfl 2 (by decide) lk_fi46 (fun _ h9 => h9) rfl dX5_minuteOn_38 ?_
      refine lv_icmp_ge (pc := 41) (tgt := 67) hx hb dX5_minuteOn_41 (by decide) (fun c_41 => ?_) (fun c_41 => ?_)
      · replace hf := z_ip c_41 hf
        obtain rfl := Option.some.inj hf
        exact kk H locs hP hD hS ls (lv_sub hl [0] rfl)
      · replace hf := z_in c_41 hf
        refine lv_aload_n (pc := 44) hx hb dX5_minuteOn_44 rfl (lv_at hl 0 rfl) ?_
        refine va_get (pc := 45) (ci := 5) (C := RX5) (T := TX5) (N := 11) hx hb hts in_X5 hown hK hP 0 rfl rfl 9 (by decide) lk_fi29 (fun _ h9 => h9) rfl dX5_minuteOn_45 ?_
        refine lv_bipush (v := 37) (pc := 48) hx hb dX5_minuteOn_48 (by decide) ?_
        refine lv_iload_n (pc := 50) hx hb dX5_minuteOn_50 rfl (lv_at hl 1 rfl) ?_
        refine lv_iadd (pc := 51) hx hb dX5_minuteOn_51 ?_
        obtain ⟨x52, e52, hf⟩ := z_bd hf
        refine z_iald (pc := 52) hx hb hK hP 7 0 rfl rfl e52 dX5_minuteOn_52 ?_
        refine lv_if_eq (pc := 53) (tgt := 61) hx hb dX5_minuteOn_53 (by decide) (fun c_53 => ?_) (fun c_53 => ?_)
        · replace hf := z_ip c_53 hf
          refine lv_iinc (pc := 61) (v := (u1 + 1)) (lv' := [(1, .int (u1 + 1)), (0, .ref (d 0))]) hx hb dX5_minuteOn_61 hl (k := 1) rfl rfl (by decide) rfl (fun ls hl => ?_)
          refine lv_goto (pc := 64) (tgt := 36) hx hb dX5_minuteOn_64 (by decide) ?_
          exact ih (u1 + 1) M T H locs hP hD hS ls (lv_sub hl [1, 0] rfl) hf kk
        · replace hf := z_in c_53 hf
          refine lv_aload_n (pc := 56) hx hb dX5_minuteOn_56 rfl (lv_at hl 0 rfl) ?_
          refine lv_iload_n (pc := 57) hx hb dX5_minuteOn_57 rfl (lv_at hl 1 rfl) ?_
          obtain ⟨x58, e58, hf⟩ := z_bd hf
          refine z_cmV (pc := 58) (W1 := (z_wM X d x58)) S (m_X5_work l X d M u1 e58) (cwV 1 hts gX5_minuteOn_X5_work rfl rfl rfl hdX5_work ⟨Nat.le_of_ble_eq_true rfl, Nat.le_of_ble_eq_true rfl⟩) hP hK hN hD hS hA (s_M_M X d M) (f_M_M X d M x58) (ci := 5) rfl rfl rfl ⟨Nat.le_of_ble_eq_true rfl, Nat.le_of_ble_eq_true rfl⟩ rfl hl.1 rfl (Nat.le_of_ble_eq_true rfl) dX5_minuteOn_58 (fun H locs hP hD hS => ?_)
          refine lv_iinc (pc := 61) (v := (u1 + 1)) (lv' := [(1, .int (u1 + 1)), (0, .ref (d 0))]) hx hb dX5_minuteOn_61 hl (k := 1) rfl rfl (by decide) rfl (fun ls hl => ?_)
          refine lv_goto (pc := 64) (tgt := 36) hx hb dX5_minuteOn_64 (by decide) ?_
          exact ih (u1 + 1) x58 T H locs hP hD hS ls (lv_sub hl [1, 0] rfl) hf kk
  have lp_69 : ∀ (n : Nat) (u1 : Int32) (M : z_M) (T : z_M) (H : Heap) (locs : List Loc), va_P X.1 vwCl (z_wM X d M) H → va_D A (z_wM X d M) → va_S A s.heap H locs → ∀ (ls : Array Slot), lv_has ls 2 [(0, .ref (d 0)), (1, .int u1)] → f_X5_minuteOn_L69 n u1 M = some T → (∀ (H : Heap) (locs : List Loc), va_P X.1 vwCl (z_wM X d T) H → va_D A (z_wM X d T) → va_S A s.heap H locs → ∀ (ls : Array Slot), lv_has ls 2 [(0, .ref (d 0))] → W p l e (headSpec wsX5_minuteOn (z_R 4 92)).room s m ([.ref (d 0)] : List Value).toArray below meth c H locs 0 0 (MQ below (va_Qv (fun u : va_W => u = (z_wM X d RR)) (z_Bm X A) A) ([.ref (d 0)] : List Value).toArray s 0 0 A) (F0 m 81 ls [])) → W p l e (headSpec wsX5_minuteOn (z_R 4 92)).room s m ([.ref (d 0)] : List Value).toArray below meth c H locs 0 0 (MQ below (va_Qv (fun u : va_W => u = (z_wM X d RR)) (z_Bm X A) A) ([.ref (d 0)] : List Value).toArray s 0 0 A) (F0 m 69 ls []) := by
    intro n
    induction n with
    | zero =>
      intro u1 M T H locs hP hD hS ls hl hf kk
      cases hf
    | succ n ih =>
      intro u1 M T H locs hP hD hS ls hl hf kk
      rw [f_X5_minuteOn_L69] at hf
      refine lv_iload_n (pc := 69) hx hb dX5_minuteOn_69 rfl (lv_at hl 1 rfl) ?_
      refine lv_if_eq (pc := 70) (tgt := 81) hx hb dX5_minuteOn_70 (by decide) (fun c_70 => ?_) (fun c_70 => ?_)
      · replace hf := z_ip c_70 hf
        obtain rfl := Option.some.inj hf
        exact kk H locs hP hD hS ls (lv_sub hl [0] rfl)
      · replace hf := z_in c_70 hf
        refine lv_aload_n (pc := 73) hx hb dX5_minuteOn_73 rfl (lv_at hl 0 rfl) ?_
        obtain ⟨x74, e74, hf⟩ := z_bd hf
        refine z_cmI (pc := 74) (W1 := (z_wM X d x74.2)) S (m_X5_sends l X d M e74) (cwV 0 hts gX5_minuteOn_X5_sends rfl rfl rfl hdX5_sends ⟨Nat.le_of_ble_eq_true rfl, Nat.le_of_ble_eq_true rfl⟩) hP hK hN hD hS hA (s_M_M X d M) (f_M_M X d M x74.2) (ci := 5) rfl rfl rfl ⟨Nat.le_of_ble_eq_true rfl, Nat.le_of_ble_eq_true rfl⟩ rfl hl.1 rfl (Nat.le_of_ble_eq_true rfl) dX5_minuteOn_74 (fun H locs hP hD hS => ?_)
        refine lv_istore_n (pc := 77) (lv' := [(1, .int x74.1), (0, .ref (d 0))]) hx hb dX5_minuteOn_77 rfl hl (by decide) rfl (fun ls hl => ?_)
        refine lv_goto (pc := 78) (tgt := 69) hx hb dX5_minuteOn_78 (by decide) ?_
        exact ih x74.1 x74.2 T H locs hP hD hS ls (lv_sub hl [1, 0] rfl) hf kk
  suffices hgo : ∀ (H : Heap) (locs : List Loc), va_P X.1 vwCl (z_wM X d M) H → va_D A (z_wM X d M) → va_S A s.heap H locs → W p l e (headSpec wsX5_minuteOn (z_R 4 92)).room s m ([.ref (d 0)] : List Value).toArray below meth c H locs 0 0 (MQ below (va_Qv (fun u : va_W => u = (z_wM X d RR)) (z_Bm X A) A) ([.ref (d 0)] : List Value).toArray s 0 0 A) (F0 m 0 ls []) from hgo _ _ hP hD hS
  clear hP hD hS
  intro H locs hP hD hS
  unfold f_X5_minuteOn at hf
  refine lv_iconst (v := 0) (pc := 0) hx hb dX5_minuteOn_0 (by decide) ?_
  refine lv_istore_n (pc := 1) (lv' := [(1, .int 0), (0, .ref (d 0))]) hx hb dX5_minuteOn_1 rfl hl (by decide) rfl (fun ls hl => ?_)
  obtain ⟨x2, e2, hf⟩ := z_bd hf
  refine lp_2 z_FU 0 M x2 H locs hP hD hS ls (lv_sub hl [1, 0] rfl) e2 (fun H locs hP hD hS ls hl => ?_)
  refine lv_iconst (v := 0) (pc := 34) hx hb dX5_minuteOn_34 (by decide) ?_
  refine lv_istore_n (pc := 35) (lv' := [(1, .int 0), (0, .ref (d 0))]) hx hb dX5_minuteOn_35 rfl hl (by decide) rfl (fun ls hl => ?_)
  obtain ⟨x36, e36, hf⟩ := z_bd hf
  refine lp_36 z_FU 0 x2 x36 H locs hP hD hS ls (lv_sub hl [1, 0] rfl) e36 (fun H locs hP hD hS ls hl => ?_)
  refine lv_iconst (v := 1) (pc := 67) hx hb dX5_minuteOn_67 (by decide) ?_
  refine lv_istore_n (pc := 68) (lv' := [(1, .int 1), (0, .ref (d 0))]) hx hb dX5_minuteOn_68 rfl hl (by decide) rfl (fun ls hl => ?_)
  obtain ⟨x69, e69, hf⟩ := z_bd hf
  refine lp_69 z_FU 1 x36 x69 H locs hP hD hS ls (lv_sub hl [1, 0] rfl) e69 (fun H locs hP hD hS ls hl => ?_)
  refine lv_aload_n (pc := 81) hx hb dX5_minuteOn_81 rfl (lv_at hl 0 rfl) ?_
  refine va_get (pc := 82) (ci := 5) (C := RX5) (T := TX5) (N := 11) hx hb hts in_X5 hown hK hP 0 rfl rfl 9 (by decide) lk_fi29 (fun _ h9 => h9) rfl dX5_minuteOn_82 ?_
  refine lv_iconst (v := 0) (pc := 85) hx hb dX5_minuteOn_85 (by decide) ?_
  refine lv_dup2_11 (pc := 86) hx hb dX5_minuteOn_86 rfl rfl ?_
  obtain ⟨x87, e87, hf⟩ := z_bd hf
  refine z_iald (pc := 87) hx hb hK hP 7 0 rfl rfl e87 dX5_minuteOn_87 ?_
  refine lv_iconst (v := 1) (pc := 88) hx hb dX5_minuteOn_88 (by decide) ?_
  refine lv_iadd (pc := 89) hx hb dX5_minuteOn_89 ?_
  obtain ⟨x90, e90, hf⟩ := z_bd hf
  refine z_iast (pc := 90) (W1 := (z_wM X d (z_mR x69 6 x90))) hx hb hK hP hD hS 7 0 rfl rfl e90 rfl dX5_minuteOn_90 (fun H locs hP hD hS => ?_)
  exact W.vret (pc := 91) hx hb hr (fun t ht hW => ⟨⟨(z_wM X d (z_mR x69 6 x90)), rfl, congrArg (fun z => (z_wM X d z)) (Option.some.inj hf), by rw [ht]; exact hP, hD⟩, hS.F ht⟩) hS.2.2 dX5_minuteOn_91
def f_X5_minutesOn_L2  : Nat → Int32 → Int32 → z_M → Option z_M
  | 0, _, _, _ => none
  | n + 1, u1, u2, M => (if u1 ≤ u2 then some M else (f_X5_minuteOn M).bind (fun x8 => f_X5_minutesOn_L2 n u1 (u2 + 1) x8))
def f_X5_minutesOn (M : z_M) (v1 : Int32) : Option z_M := (f_X5_minutesOn_L2 z_FU v1 0 M).bind (fun x2 => some x2)
set_option maxHeartbeats 4000000 in
set_option maxRecDepth 100000 in
theorem m_X5_minutesOn (l : Launch) (X : z_X) (d : Nat → Nat) (M : z_M) (v1 : Int32) {RR : z_M} (hf : f_X5_minutesOn M v1 = some RR) : z_mV l yX5_minutesOn wsX5_minutesOn 5 113 X [.ref (d 0), .int v1] (z_wM X d M) (z_wM X d RR) := by
  intro sz
  refine Met.ofW (cc := cX5_minutesOn) (maxL := 3) (ret := none) (by decide) rfl ?_
  intro p e s m args below meth c s₁ Bd hml hv
  obtain ⟨rfl, hsz, hP, hK, hN, hD0⟩ := hv
  have hx := Bd.exec
  have hb := Bd.bytes
  have hr := Bd.returns
  have hts := atoms_spec (ws := wsX5_minutesOn) Bd.pre
  have hown : s.vm.findClass RX5 = some m.cls := findClass_of_methodNamed Bd.named
  have hlocks := Bd.notSynchronized
  have S : CallFix p m c cX5_minutesOn 3 s _ wsX5_minutesOn RX5 := ⟨hx, hb, hml, hown, hts⟩
  subst hsz
  have hD := hD0.self (sz := s.heap.size)
  generalize hAe : va_A (z_wM X d M) s.heap.size = A at hD ⊢
  have hA : ∀ q : Nat, s.heap.size ≤ q → A q := fun q h => by rw [← hAe]; exact Or.inr h
  have hS : va_S A s.heap s.heap [] := va_S.rf
  have hl := lv_entry ([.ref (d 0), .int v1]) (n := 3) (Nat.le_of_ble_eq_true rfl)
  rw [lg_entry_eq]
  generalize (lg_sl ([.ref (d 0), .int v1]) ++ List.replicate (3 - (lg_sl ([.ref (d 0), .int v1])).length) Slot.unset).toArray = ls at hl ⊢
  have hl : lv_has ls 3 [(0, .ref (d 0)), (1, .int v1)] := hl
  have lp_2 : ∀ (n : Nat) (u1 : Int32) (u2 : Int32) (M : z_M) (T : z_M) (H : Heap) (locs : List Loc), va_P X.1 vwCl (z_wM X d M) H → va_D A (z_wM X d M) → va_S A s.heap H locs → ∀ (ls : Array Slot), lv_has ls 3 [(0, .ref (d 0)), (1, .int u1), (2, .int u2)] → f_X5_minutesOn_L2 n u1 u2 M = some T → (∀ (H : Heap) (locs : List Loc), va_P X.1 vwCl (z_wM X d T) H → va_D A (z_wM X d T) → va_S A s.heap H locs → ∀ (ls : Array Slot), lv_has ls 3 [] → W p l e (headSpec wsX5_minutesOn (z_R 5 113)).room s m ([.ref (d 0), .int v1] : List Value).toArray below meth c H locs 0 0 (MQ below (va_Qv (fun u : va_W => u = (z_wM X d RR)) (z_Bm X A) A) ([.ref (d 0), .int v1] : List Value).toArray s 0 0 A) (F0 m 17 ls [])) → W p l e (headSpec wsX5_minutesOn (z_R 5 113)).room s m ([.ref (d 0), .int v1] : List Value).toArray below meth c H locs 0 0 (MQ below (va_Qv (fun u : va_W => u = (z_wM X d RR)) (z_Bm X A) A) ([.ref (d 0), .int v1] : List Value).toArray s 0 0 A) (F0 m 2 ls []) := by
    intro n
    induction n with
    | zero =>
      intro u1 u2 M T H locs hP hD hS ls hl hf kk
      cases hf
    | succ n ih =>
      intro u1 u2 M T H locs hP hD hS ls hl hf kk
      rw [f_X5_minutesOn_L2] at hf
      refine lv_iload_n (pc := 2) hx hb dX5_minutesOn_2 rfl (lv_at hl 2 rfl) ?_
      refine lv_iload_n (pc := 3) hx hb dX5_minutesOn_3 rfl (lv_at hl 1 rfl) ?_
      refine lv_icmp_ge (pc := 4) (tgt := 17) hx hb dX5_minutesOn_4 (by decide) (fun c_4 => ?_) (fun c_4 => ?_)
      · replace hf := z_ip c_4 hf
        obtain rfl := Option.some.inj hf
        exact kk H locs hP hD hS ls (lv_sub hl [] rfl)
      · replace hf := z_in c_4 hf
        refine lv_aload_n (pc := 7) hx hb dX5_minutesOn_7 rfl (lv_at hl 0 rfl) ?_
        obtain ⟨x8, e8, hf⟩ := z_bd hf
        refine z_cmV (pc := 8) (W1 := (z_wM X d x8)) S (m_X5_minuteOn l X d M e8) (cwV 0 hts gX5_minutesOn_X5_minuteOn rfl rfl rfl hdX5_minuteOn ⟨Nat.le_of_ble_eq_true rfl, Nat.le_of_ble_eq_true rfl⟩) hP hK hN hD hS hA (s_M_M X d M) (f_M_M X d M x8) (ci := 5) rfl rfl rfl ⟨Nat.le_of_ble_eq_true rfl, Nat.le_of_ble_eq_true rfl⟩ rfl hl.1 rfl (Nat.le_of_ble_eq_true rfl) dX5_minutesOn_8 (fun H locs hP hD hS => ?_)
        refine lv_iinc (pc := 11) (v := (u2 + 1)) (lv' := [(2, .int (u2 + 1)), (0, .ref (d 0)), (1, .int u1)]) hx hb dX5_minutesOn_11 hl (k := 2) rfl rfl (by decide) rfl (fun ls hl => ?_)
        refine lv_goto (pc := 14) (tgt := 2) hx hb dX5_minutesOn_14 (by decide) ?_
        exact ih u1 (u2 + 1) x8 T H locs hP hD hS ls (lv_sub hl [1, 2, 0] rfl) hf kk
  suffices hgo : ∀ (H : Heap) (locs : List Loc), va_P X.1 vwCl (z_wM X d M) H → va_D A (z_wM X d M) → va_S A s.heap H locs → W p l e (headSpec wsX5_minutesOn (z_R 5 113)).room s m ([.ref (d 0), .int v1] : List Value).toArray below meth c H locs 0 0 (MQ below (va_Qv (fun u : va_W => u = (z_wM X d RR)) (z_Bm X A) A) ([.ref (d 0), .int v1] : List Value).toArray s 0 0 A) (F0 m 0 ls []) from hgo _ _ hP hD hS
  clear hP hD hS
  intro H locs hP hD hS
  unfold f_X5_minutesOn at hf
  refine lv_iconst (v := 0) (pc := 0) hx hb dX5_minutesOn_0 (by decide) ?_
  refine lv_istore_n (pc := 1) (lv' := [(2, .int 0), (0, .ref (d 0)), (1, .int v1)]) hx hb dX5_minutesOn_1 rfl hl (by decide) rfl (fun ls hl => ?_)
  obtain ⟨x2, e2, hf⟩ := z_bd hf
  refine lp_2 z_FU v1 0 M x2 H locs hP hD hS ls (lv_sub hl [1, 2, 0] rfl) e2 (fun H locs hP hD hS ls hl => ?_)
  exact W.vret (pc := 17) hx hb hr (fun t ht hW => ⟨⟨(z_wM X d x2), rfl, congrArg (fun z => (z_wM X d z)) (Option.some.inj hf), by rw [ht]; exact hP, hD⟩, hS.F ht⟩) hS.2.2 dX5_minutesOn_17
def f_X5_addRoom (M : z_M) (v1 : Int32) (v2 : Int32) (v3 : Int32) : Option (Int32 × z_M) := (if (f_X5_isIn v1 0 5) = 0 then some ((f_X5_no (z_mS M 0 0) 1).1, (f_X5_no (z_mS M 0 0) 1).2) else (if (f_X5_isIn v2 1 9) = 0 then some ((f_X5_no (z_mS M 0 0) 1).1, (f_X5_no (z_mS M 0 0) 1).2) else (if (f_X5_isIn v3 1 9) = 0 then some ((f_X5_no (z_mS M 0 0) 1).1, (f_X5_no (z_mS M 0 0) 1).2) else (if (M.1 1) = 12 then some ((f_X5_no (z_mS M 0 0) 2).1, (f_X5_no (z_mS M 0 0) 2).2) else (z_wr (M.2 0) (M.1 1) 12 v1).bind (fun x64 => (z_wr (M.2 1) (M.1 1) 12 v2).bind (fun x74 => (z_wr (M.2 2) (M.1 1) 12 v3).bind (fun x84 => (z_wr (M.2 3) (M.1 1) 12 (M.1 1)).bind (fun x97 => (z_wr (M.2 6) (7 + (M.1 1)) 55 (-1)).bind (fun x110 => some ((((M.1 1) + 1) - 1), (z_mR (z_mR (z_mR (z_mR (z_mR (z_mS (z_mS M 0 0) 1 ((M.1 1) + 1)) 0 x64) 1 x74) 2 x84) 3 x97) 6 x110)))))))))))
set_option maxHeartbeats 4000000 in
set_option maxRecDepth 100000 in
theorem m_X5_addRoom (l : Launch) (X : z_X) (d : Nat → Nat) (M : z_M) (v1 : Int32) (v2 : Int32) (v3 : Int32) {RR : (Int32 × z_M)} (hf : f_X5_addRoom M v1 v2 v3 = some RR) : z_mI l yX5_addRoom wsX5_addRoom 1 22 X [.ref (d 0), .int v1, .int v2, .int v3] (z_wM X d M) RR.1 (z_wM X d RR.2) := by
  intro sz
  refine Met.ofW (cc := cX5_addRoom) (maxL := 4) (ret := (some .int)) (by decide) rfl ?_
  intro p e s m args below meth c s₁ Bd hml hv
  obtain ⟨rfl, hsz, hP, hK, hN, hD0⟩ := hv
  have hx := Bd.exec
  have hb := Bd.bytes
  have hr := Bd.returns
  have hts := atoms_spec (ws := wsX5_addRoom) Bd.pre
  have hown : s.vm.findClass RX5 = some m.cls := findClass_of_methodNamed Bd.named
  have hlocks := Bd.notSynchronized
  have S : CallFix p m c cX5_addRoom 4 s _ wsX5_addRoom RX5 := ⟨hx, hb, hml, hown, hts⟩
  have lk_fi35 := hts (.fieldLink RX5 35 "HouseBellsModel" "thrown" "I") (List.mem_of_getElem? (i := 1) rfl)
  have lk_fi39 := hts (.fieldLink RX5 39 "HouseBellsModel" "rooms" "I") (List.mem_of_getElem? (i := 2) rfl)
  have lk_fi9 := hts (.fieldLink RX5 9 "HouseBellsModel" "floor" "[I") (List.mem_of_getElem? (i := 3) rfl)
  have lk_fi13 := hts (.fieldLink RX5 13 "HouseBellsModel" "patience" "[I") (List.mem_of_getElem? (i := 4) rfl)
  have lk_fi16 := hts (.fieldLink RX5 16 "HouseBellsModel" "need" "[I") (List.mem_of_getElem? (i := 5) rfl)
  have lk_fi19 := hts (.fieldLink RX5 19 "HouseBellsModel" "drop" "[I") (List.mem_of_getElem? (i := 6) rfl)
  have lk_fi29 := hts (.fieldLink RX5 29 "HouseBellsModel" "now" "[I") (List.mem_of_getElem? (i := 7) rfl)
  have in_X5 : ∀ w ∈ wsX50, w ∈ wsX5_addRoom := fun _ h => (List.mem_cons_of_mem _ (List.mem_append_right _ h))
  subst hsz
  have hD := hD0.self (sz := s.heap.size)
  generalize hAe : va_A (z_wM X d M) s.heap.size = A at hD ⊢
  have hA : ∀ q : Nat, s.heap.size ≤ q → A q := fun q h => by rw [← hAe]; exact Or.inr h
  have hS : va_S A s.heap s.heap [] := va_S.rf
  have hl := lv_entry ([.ref (d 0), .int v1, .int v2, .int v3]) (n := 4) (Nat.le_of_ble_eq_true rfl)
  rw [lg_entry_eq]
  generalize (lg_sl ([.ref (d 0), .int v1, .int v2, .int v3]) ++ List.replicate (4 - (lg_sl ([.ref (d 0), .int v1, .int v2, .int v3])).length) Slot.unset).toArray = ls at hl ⊢
  have hl : lv_has ls 4 [(0, .ref (d 0)), (1, .int v1), (2, .int v2), (3, .int v3)] := hl
  suffices hgo : ∀ (H : Heap) (locs : List Loc), va_P X.1 vwCl (z_wM X d M) H → va_D A (z_wM X d M) → va_S A s.heap H locs → W p l e (headSpec wsX5_addRoom (z_R 1 22)).room s m ([.ref (d 0), .int v1, .int v2, .int v3] : List Value).toArray below meth c H locs 0 0 (MQ below (va_Qi (fun (z : Int32) (u : va_W) => z = RR.1 ∧ u = (z_wM X d RR.2)) (z_Bm X A) A) ([.ref (d 0), .int v1, .int v2, .int v3] : List Value).toArray s 0 0 A) (F0 m 0 ls []) from hgo _ _ hP hD hS
  clear hP hD hS
  intro H locs hP hD hS
  unfold f_X5_addRoom at hf
  refine lv_aload_n (pc := 0) hx hb dX5_addRoom_0 rfl (lv_at hl 0 rfl) ?_
  refine lv_iconst (v := 0) (pc := 1) hx hb dX5_addRoom_1 (by decide) ?_
  refine z_put (pc := 2) (ci := 5) (C := RX5) (T := TX5) (N := 11) (W1 := (z_wM X d (z_mS M 0 0))) hx hb hts in_X5 tyX5 tyX5_ok nmX5 hown hK hP hD hS 0 rfl rfl 0 (by decide) lk_fi35 (fun _ h9 => h9) rfl (by decide +kernel) (Nat.le_of_ble_eq_true rfl) dX5_addRoom_2 rfl (fun H locs hP hD hS => ?_)
  refine lv_iload_n (pc := 5) hx hb dX5_addRoom_5 rfl (lv_at hl 1 rfl) ?_
  refine lv_iconst (v := 0) (pc := 6) hx hb dX5_addRoom_6 (by decide) ?_
  refine lv_iconst (v := 5) (pc := 7) hx hb dX5_addRoom_7 (by decide) ?_
  refine z_csI (pc := 8) S (m_X5_isIn l X v1 0 5 rfl) (va_cwS 3 hts gX5_addRoom_X5_isIn rfl rfl rfl hdX5_isIn ⟨Nat.le_of_ble_eq_true rfl, Nat.le_of_ble_eq_true rfl⟩) hP hK hN (s_nil _) ⟨Nat.le_of_ble_eq_true rfl, Nat.le_of_ble_eq_true rfl⟩ rfl hl.1 rfl (Nat.le_of_ble_eq_true rfl) dX5_addRoom_8 ?_
  refine lv_if_eq (pc := 11) (tgt := 34) hx hb dX5_addRoom_11 (by decide) (fun c_11 => ?_) (fun c_11 => ?_)
  · replace hf := z_ip c_11 hf
    refine lv_aload_n (pc := 34) hx hb dX5_addRoom_34 rfl (lv_at hl 0 rfl) ?_
    refine lv_iconst (v := 1) (pc := 35) hx hb dX5_addRoom_35 (by decide) ?_
    refine z_cmI (pc := 36) (W1 := (z_wM X d (f_X5_no (z_mS M 0 0) 1).2)) S (m_X5_no l X d (z_mS M 0 0) 1 rfl) (cwV 1 hts gX5_addRoom_X5_no rfl rfl rfl hdX5_no ⟨Nat.le_of_ble_eq_true rfl, Nat.le_of_ble_eq_true rfl⟩) hP hK hN hD hS hA (s_M_M X d (z_mS M 0 0)) (f_M_M X d (z_mS M 0 0) ((f_X5_no (z_mS M 0 0) 1).2)) (ci := 5) rfl rfl rfl ⟨Nat.le_of_ble_eq_true rfl, Nat.le_of_ble_eq_true rfl⟩ rfl hl.1 rfl (Nat.le_of_ble_eq_true rfl) dX5_addRoom_36 (fun H locs hP hD hS => ?_)
    exact W.iret (pc := 39) (v := (f_X5_no (z_mS M 0 0) 1).1) hx hb hr (fun t ht hW => ⟨⟨_, (z_wM X d (f_X5_no (z_mS M 0 0) 1).2), rfl, ⟨z_e1 hf, congrArg (fun z => (z_wM X d z)) (z_e2 hf)⟩, by rw [ht]; exact hP, hD⟩, hS.F ht⟩) hS.2.2 dX5_addRoom_39
  · replace hf := z_in c_11 hf
    refine lv_iload_n (pc := 14) hx hb dX5_addRoom_14 rfl (lv_at hl 2 rfl) ?_
    refine lv_iconst (v := 1) (pc := 15) hx hb dX5_addRoom_15 (by decide) ?_
    refine lv_bipush (v := 9) (pc := 16) hx hb dX5_addRoom_16 (by decide) ?_
    refine z_csI (pc := 18) S (m_X5_isIn l X v2 1 9 rfl) (va_cwS 3 hts gX5_addRoom_X5_isIn rfl rfl rfl hdX5_isIn ⟨Nat.le_of_ble_eq_true rfl, Nat.le_of_ble_eq_true rfl⟩) hP hK hN (s_nil _) ⟨Nat.le_of_ble_eq_true rfl, Nat.le_of_ble_eq_true rfl⟩ rfl hl.1 rfl (Nat.le_of_ble_eq_true rfl) dX5_addRoom_18 ?_
    refine lv_if_eq (pc := 21) (tgt := 34) hx hb dX5_addRoom_21 (by decide) (fun c_21 => ?_) (fun c_21 => ?_)
    · replace hf := z_ip c_21 hf
      refine lv_aload_n (pc := 34) hx hb dX5_addRoom_34 rfl (lv_at hl 0 rfl) ?_
      refine lv_iconst (v := 1) (pc := 35) hx hb dX5_addRoom_35 (by decide) ?_
      refine z_cmI (pc := 36) (W1 := (z_wM X d (f_X5_no (z_mS M 0 0) 1).2)) S (m_X5_no l X d (z_mS M 0 0) 1 rfl) (cwV 1 hts gX5_addRoom_X5_no rfl rfl rfl hdX5_no ⟨Nat.le_of_ble_eq_true rfl, Nat.le_of_ble_eq_true rfl⟩) hP hK hN hD hS hA (s_M_M X d (z_mS M 0 0)) (f_M_M X d (z_mS M 0 0) ((f_X5_no (z_mS M 0 0) 1).2)) (ci := 5) rfl rfl rfl ⟨Nat.le_of_ble_eq_true rfl, Nat.le_of_ble_eq_true rfl⟩ rfl hl.1 rfl (Nat.le_of_ble_eq_true rfl) dX5_addRoom_36 (fun H locs hP hD hS => ?_)
      exact W.iret (pc := 39) (v := (f_X5_no (z_mS M 0 0) 1).1) hx hb hr (fun t ht hW => ⟨⟨_, (z_wM X d (f_X5_no (z_mS M 0 0) 1).2), rfl, ⟨z_e1 hf, congrArg (fun z => (z_wM X d z)) (z_e2 hf)⟩, by rw [ht]; exact hP, hD⟩, hS.F ht⟩) hS.2.2 dX5_addRoom_39
    · replace hf := z_in c_21 hf
      refine lv_iload_n (pc := 24) hx hb dX5_addRoom_24 rfl (lv_at hl 3 rfl) ?_
      refine lv_iconst (v := 1) (pc := 25) hx hb dX5_addRoom_25 (by decide) ?_
      refine lv_bipush (v := 9) (pc := 26) hx hb dX5_addRoom_26 (by decide) ?_
      refine z_csI (pc := 28) S (m_X5_isIn l X v3 1 9 rfl) (va_cwS 3 hts gX5_addRoom_X5_isIn rfl rfl rfl hdX5_isIn ⟨Nat.le_of_ble_eq_true rfl, Nat.le_of_ble_eq_true rfl⟩) hP hK hN (s_nil _) ⟨Nat.le_of_ble_eq_true rfl, Nat.le_of_ble_eq_true rfl⟩ rfl hl.1 rfl (Nat.le_of_ble_eq_true rfl) dX5_addRoom_28 ?_
      refine lv_if_ne (pc := 31) (tgt := 40) hx hb dX5_addRoom_31 (by decide) (fun c_31 => ?_) (fun c_31 => ?_)
      · replace hf := z_in c_31 hf
        refine lv_aload_n (pc := 40) hx hb dX5_addRoom_40 rfl (lv_at hl 0 rfl) ?_
        refine va_get (pc := 41) (ci := 5) (C := RX5) (T := TX5) (N := 11) hx hb hts in_X5 hown hK hP 0 rfl rfl 1 (by decide) lk_fi39 (fun _ h9 => h9) rfl dX5_addRoom_41 ?_
        refine lv_bipush (v := 12) (pc := 44) hx hb dX5_addRoom_44 (by decide) ?_
        refine lv_icmp_ne (pc := 46) (tgt := 55) hx hb dX5_addRoom_46 (by decide) (fun c_46 => ?_) (fun c_46 => ?_)
        · replace hf := z_in c_46 hf
          refine lv_aload_n (pc := 55) hx hb dX5_addRoom_55 rfl (lv_at hl 0 rfl) ?_
          refine va_get (pc := 56) (ci := 5) (C := RX5) (T := TX5) (N := 11) hx hb hts in_X5 hown hK hP 0 rfl rfl 3 (by decide) lk_fi9 (fun _ h9 => h9) rfl dX5_addRoom_56 ?_
          refine lv_aload_n (pc := 59) hx hb dX5_addRoom_59 rfl (lv_at hl 0 rfl) ?_
          refine va_get (pc := 60) (ci := 5) (C := RX5) (T := TX5) (N := 11) hx hb hts in_X5 hown hK hP 0 rfl rfl 1 (by decide) lk_fi39 (fun _ h9 => h9) rfl dX5_addRoom_60 ?_
          refine lv_iload_n (pc := 63) hx hb dX5_addRoom_63 rfl (lv_at hl 1 rfl) ?_
          obtain ⟨x64, e64, hf⟩ := z_bd hf
          refine z_iast (pc := 64) (W1 := (z_wM X d (z_mR (z_mS M 0 0) 0 x64))) hx hb hK hP hD hS 1 0 rfl rfl e64 rfl dX5_addRoom_64 (fun H locs hP hD hS => ?_)
          refine lv_aload_n (pc := 65) hx hb dX5_addRoom_65 rfl (lv_at hl 0 rfl) ?_
          refine va_get (pc := 66) (ci := 5) (C := RX5) (T := TX5) (N := 11) hx hb hts in_X5 hown hK hP 0 rfl rfl 4 (by decide) lk_fi13 (fun _ h9 => h9) rfl dX5_addRoom_66 ?_
          refine lv_aload_n (pc := 69) hx hb dX5_addRoom_69 rfl (lv_at hl 0 rfl) ?_
          refine va_get (pc := 70) (ci := 5) (C := RX5) (T := TX5) (N := 11) hx hb hts in_X5 hown hK hP 0 rfl rfl 1 (by decide) lk_fi39 (fun _ h9 => h9) rfl dX5_addRoom_70 ?_
          refine lv_iload_n (pc := 73) hx hb dX5_addRoom_73 rfl (lv_at hl 2 rfl) ?_
          obtain ⟨x74, e74, hf⟩ := z_bd hf
          refine z_iast (pc := 74) (W1 := (z_wM X d (z_mR (z_mR (z_mS M 0 0) 0 x64) 1 x74))) hx hb hK hP hD hS 2 0 rfl rfl e74 rfl dX5_addRoom_74 (fun H locs hP hD hS => ?_)
          refine lv_aload_n (pc := 75) hx hb dX5_addRoom_75 rfl (lv_at hl 0 rfl) ?_
          refine va_get (pc := 76) (ci := 5) (C := RX5) (T := TX5) (N := 11) hx hb hts in_X5 hown hK hP 0 rfl rfl 5 (by decide) lk_fi16 (fun _ h9 => h9) rfl dX5_addRoom_76 ?_
          refine lv_aload_n (pc := 79) hx hb dX5_addRoom_79 rfl (lv_at hl 0 rfl) ?_
          refine va_get (pc := 80) (ci := 5) (C := RX5) (T := TX5) (N := 11) hx hb hts in_X5 hown hK hP 0 rfl rfl 1 (by decide) lk_fi39 (fun _ h9 => h9) rfl dX5_addRoom_80 ?_
          refine lv_iload_n (pc := 83) hx hb dX5_addRoom_83 rfl (lv_at hl 3 rfl) ?_
          obtain ⟨x84, e84, hf⟩ := z_bd hf
          refine z_iast (pc := 84) (W1 := (z_wM X d (z_mR (z_mR (z_mR (z_mS M 0 0) 0 x64) 1 x74) 2 x84))) hx hb hK hP hD hS 3 0 rfl rfl e84 rfl dX5_addRoom_84 (fun H locs hP hD hS => ?_)
          refine lv_aload_n (pc := 85) hx hb dX5_addRoom_85 rfl (lv_at hl 0 rfl) ?_
          refine va_get (pc := 86) (ci := 5) (C := RX5) (T := TX5) (N := 11) hx hb hts in_X5 hown hK hP 0 rfl rfl 6 (by decide) lk_fi19 (fun _ h9 => h9) rfl dX5_addRoom_86 ?_
          refine lv_aload_n (pc := 89) hx hb dX5_addRoom_89 rfl (lv_at hl 0 rfl) ?_
          refine va_get (pc := 90) (ci := 5) (C := RX5) (T := TX5) (N := 11) hx hb hts in_X5 hown hK hP 0 rfl rfl 1 (by decide) lk_fi39 (fun _ h9 => h9) rfl dX5_addRoom_90 ?_
          refine lv_aload_n (pc := 93) hx hb dX5_addRoom_93 rfl (lv_at hl 0 rfl) ?_
          refine va_get (pc := 94) (ci := 5) (C := RX5) (T := TX5) (N := 11) hx hb hts in_X5 hown hK hP 0 rfl rfl 1 (by decide) lk_fi39 (fun _ h9 => h9) rfl dX5_addRoom_94 ?_
          obtain ⟨x97, e97, hf⟩ := z_bd hf
          refine z_iast (pc := 97) (W1 := (z_wM X d (z_mR (z_mR (z_mR (z_mR (z_mS M 0 0) 0 x64) 1 x74) 2 x84) 3 x97))) hx hb hK hP hD hS 4 0 rfl rfl e97 rfl dX5_addRoom_97 (fun H locs hP hD hS => ?_)
          refine lv_aload_n (pc := 98) hx hb dX5_addRoom_98 rfl (lv_at hl 0 rfl) ?_
          refine va_get (pc := 99) (ci := 5) (C := RX5) (T := TX5) (N := 11) hx hb hts in_X5 hown hK hP 0 rfl rfl 9 (by decide) lk_fi29 (fun _ h9 => h9) rfl dX5_addRoom_99 ?_
          refine lv_bipush (v := 7) (pc := 102) hx hb dX5_addRoom_102 (by decide) ?_
          refine lv_aload_n (pc := 104) hx hb dX5_addRoom_104 rfl (lv_at hl 0 rfl) ?_
          refine va_get (pc := 105) (ci := 5) (C := RX5) (T := TX5) (N := 11) hx hb hts in_X5 hown hK hP 0 rfl rfl 1 (by decide) lk_fi39 (fun _ h9 => h9) rfl dX5_addRoom_105 ?_
          refine lv_iadd (pc := 108) hx hb dX5_addRoom_108 ?_
          refine lv_iconst (v := (-1)) (pc := 109) hx hb dX5_addRoom_109 (by decide) ?_
          obtain ⟨x110, e110, hf⟩ := z_bd hf
          refine z_iast (pc := 110) (W1 := (z_wM X d (z_mR (z_mR (z_mR (z_mR (z_mR (z_mS M 0 0) 0 x64) 1 x74) 2 x84) 3 x97) 6 x110))) hx hb hK hP hD hS 7 0 rfl rfl e110 rfl dX5_addRoom_110 (fun H locs hP hD hS => ?_)
          refine lv_aload_n (pc := 111) hx hb dX5_addRoom_111 rfl (lv_at hl 0 rfl) ?_
          refine lv_dup (pc := 112) hx hb dX5_addRoom_112 rfl ?_
          refine va_get (pc := 113) (ci := 5) (C := RX5) (T := TX5) (N := 11) hx hb hts in_X5 hown hK hP 0 rfl rfl 1 (by decide) lk_fi39 (fun _ h9 => h9) rfl dX5_addRoom_113 ?_
          refine lv_iconst (v := 1) (pc := 116) hx hb dX5_addRoom_116 (by decide) ?_
          refine lv_iadd (pc := 117) hx hb dX5_addRoom_117 ?_
          refine z_put (pc := 118) (ci := 5) (C := RX5) (T := TX5) (N := 11) (W1 := (z_wM X d (z_mR (z_mR (z_mR (z_mR (z_mR (z_mS (z_mS M 0 0) 1 ((M.1 1) + 1)) 0 x64) 1 x74) 2 x84) 3 x97) 6 x110))) hx hb hts in_X5 tyX5 tyX5_ok nmX5 hown hK hP hD hS 0 rfl rfl 1 (by decide) lk_fi39 (fun _ h9 => h9) rfl (by decide +kernel) (Nat.le_of_ble_eq_true rfl) dX5_addRoom_118 rfl (fun H locs hP hD hS => ?_)
          refine lv_aload_n (pc := 121) hx hb dX5_addRoom_121 rfl (lv_at hl 0 rfl) ?_
          refine va_get (pc := 122) (ci := 5) (C := RX5) (T := TX5) (N := 11) hx hb hts in_X5 hown hK hP 0 rfl rfl 1 (by decide) lk_fi39 (fun _ h9 => h9) rfl dX5_addRoom_122 ?_
          refine lv_iconst (v := 1) (pc := 125) hx hb dX5_addRoom_125 (by decide) ?_
          refine lv_isub (pc := 126) hx hb dX5_addRoom_126 ?_
          exact W.iret (pc := 127) (v := (((M.1 1) + 1) - 1)) hx hb hr (fun t ht hW => ⟨⟨_, (z_wM X d (z_mR (z_mR (z_mR (z_mR (z_mR (z_mS (z_mS M 0 0) 1 ((M.1 1) + 1)) 0 x64) 1 x74) 2 x84) 3 x97) 6 x110)), rfl, ⟨z_e1 hf, congrArg (fun z => (z_wM X d z)) (z_e2 hf)⟩, by rw [ht]; exact hP, hD⟩, hS.F ht⟩) hS.2.2 dX5_addRoom_127
        · replace hf := z_ip c_46 hf
          refine lv_aload_n (pc := 49) hx hb dX5_addRoom_49 rfl (lv_at hl 0 rfl) ?_
          refine lv_iconst (v := 2) (pc := 50) hx hb dX5_addRoom_50 (by decide) ?_
          refine z_cmI (pc := 51) (W1 := (z_wM X d (f_X5_no (z_mS M 0 0) 2).2)) S (m_X5_no l X d (z_mS M 0 0) 2 rfl) (cwV 1 hts gX5_addRoom_X5_no rfl rfl rfl hdX5_no ⟨Nat.le_of_ble_eq_true rfl, Nat.le_of_ble_eq_true rfl⟩) hP hK hN hD hS hA (s_M_M X d (z_mS M 0 0)) (f_M_M X d (z_mS M 0 0) ((f_X5_no (z_mS M 0 0) 2).2)) (ci := 5) rfl rfl rfl ⟨Nat.le_of_ble_eq_true rfl, Nat.le_of_ble_eq_true rfl⟩ rfl hl.1 rfl (Nat.le_of_ble_eq_true rfl) dX5_addRoom_51 (fun H locs hP hD hS => ?_)
          exact W.iret (pc := 54) (v := (f_X5_no (z_mS M 0 0) 2).1) hx hb hr (fun t ht hW => ⟨⟨_, (z_wM X d (f_X5_no (z_mS M 0 0) 2).2), rfl, ⟨z_e1 hf, congrArg (fun z => (z_wM X d z)) (z_e2 hf)⟩, by rw [ht]; exact hP, hD⟩, hS.F ht⟩) hS.2.2 dX5_addRoom_54
      · replace hf := z_ip c_31 hf
        refine lv_aload_n (pc := 34) hx hb dX5_addRoom_34 rfl (lv_at hl 0 rfl) ?_
        refine lv_iconst (v := 1) (pc := 35) hx hb dX5_addRoom_35 (by decide) ?_
        refine z_cmI (pc := 36) (W1 := (z_wM X d (f_X5_no (z_mS M 0 0) 1).2)) S (m_X5_no l X d (z_mS M 0 0) 1 rfl) (cwV 1 hts gX5_addRoom_X5_no rfl rfl rfl hdX5_no ⟨Nat.le_of_ble_eq_true rfl, Nat.le_of_ble_eq_true rfl⟩) hP hK hN hD hS hA (s_M_M X d (z_mS M 0 0)) (f_M_M X d (z_mS M 0 0) ((f_X5_no (z_mS M 0 0) 1).2)) (ci := 5) rfl rfl rfl ⟨Nat.le_of_ble_eq_true rfl, Nat.le_of_ble_eq_true rfl⟩ rfl hl.1 rfl (Nat.le_of_ble_eq_true rfl) dX5_addRoom_36 (fun H locs hP hD hS => ?_)
        exact W.iret (pc := 39) (v := (f_X5_no (z_mS M 0 0) 1).1) hx hb hr (fun t ht hW => ⟨⟨_, (z_wM X d (f_X5_no (z_mS M 0 0) 1).2), rfl, ⟨z_e1 hf, congrArg (fun z => (z_wM X d z)) (z_e2 hf)⟩, by rw [ht]; exact hP, hD⟩, hS.F ht⟩) hS.2.2 dX5_addRoom_39
def f_X5_addServant (M : z_M) (v1 : Int32) : Option (Int32 × z_M) := (if (f_X5_isIn v1 1 4) = 0 then some ((f_X5_no (z_mS M 0 0) 1).1, (f_X5_no (z_mS M 0 0) 1).2) else (if (M.1 2) = 6 then some ((f_X5_no (z_mS M 0 0) 2).1, (f_X5_no (z_mS M 0 0) 2).2) else (z_wr (M.2 5) (M.1 2) 6 v1).bind (fun x44 => some ((((M.1 2) + 1) - 1), (z_mR (z_mS (z_mS M 0 0) 2 ((M.1 2) + 1)) 5 x44)))))
set_option maxHeartbeats 4000000 in
set_option maxRecDepth 100000 in
theorem m_X5_addServant (l : Launch) (X : z_X) (d : Nat → Nat) (M : z_M) (v1 : Int32) {RR : (Int32 × z_M)} (hf : f_X5_addServant M v1 = some RR) : z_mI l yX5_addServant wsX5_addServant 1 22 X [.ref (d 0), .int v1] (z_wM X d M) RR.1 (z_wM X d RR.2) := by
  intro sz
  refine Met.ofW (cc := cX5_addServant) (maxL := 2) (ret := (some .int)) (by decide) rfl ?_
  intro p e s m args below meth c s₁ Bd hml hv
  obtain ⟨rfl, hsz, hP, hK, hN, hD0⟩ := hv
  have hx := Bd.exec
  have hb := Bd.bytes
  have hr := Bd.returns
  have hts := atoms_spec (ws := wsX5_addServant) Bd.pre
  have hown : s.vm.findClass RX5 = some m.cls := findClass_of_methodNamed Bd.named
  have hlocks := Bd.notSynchronized
  have S : CallFix p m c cX5_addServant 2 s _ wsX5_addServant RX5 := ⟨hx, hb, hml, hown, hts⟩
  have lk_fi35 := hts (.fieldLink RX5 35 "HouseBellsModel" "thrown" "I") (List.mem_of_getElem? (i := 1) rfl)
  have lk_fi46 := hts (.fieldLink RX5 46 "HouseBellsModel" "servants" "I") (List.mem_of_getElem? (i := 2) rfl)
  have lk_fi26 := hts (.fieldLink RX5 26 "HouseBellsModel" "pace" "[I") (List.mem_of_getElem? (i := 3) rfl)
  have in_X5 : ∀ w ∈ wsX50, w ∈ wsX5_addServant := fun _ h => (List.mem_cons_of_mem _ (List.mem_append_right _ h))
  subst hsz
  have hD := hD0.self (sz := s.heap.size)
  generalize hAe : va_A (z_wM X d M) s.heap.size = A at hD ⊢
  have hA : ∀ q : Nat, s.heap.size ≤ q → A q := fun q h => by rw [← hAe]; exact Or.inr h
  have hS : va_S A s.heap s.heap [] := va_S.rf
  have hl := lv_entry ([.ref (d 0), .int v1]) (n := 2) (Nat.le_of_ble_eq_true rfl)
  rw [lg_entry_eq]
  generalize (lg_sl ([.ref (d 0), .int v1]) ++ List.replicate (2 - (lg_sl ([.ref (d 0), .int v1])).length) Slot.unset).toArray = ls at hl ⊢
  have hl : lv_has ls 2 [(0, .ref (d 0)), (1, .int v1)] := hl
  suffices hgo : ∀ (H : Heap) (locs : List Loc), va_P X.1 vwCl (z_wM X d M) H → va_D A (z_wM X d M) → va_S A s.heap H locs → W p l e (headSpec wsX5_addServant (z_R 1 22)).room s m ([.ref (d 0), .int v1] : List Value).toArray below meth c H locs 0 0 (MQ below (va_Qi (fun (z : Int32) (u : va_W) => z = RR.1 ∧ u = (z_wM X d RR.2)) (z_Bm X A) A) ([.ref (d 0), .int v1] : List Value).toArray s 0 0 A) (F0 m 0 ls []) from hgo _ _ hP hD hS
  clear hP hD hS
  intro H locs hP hD hS
  unfold f_X5_addServant at hf
  refine lv_aload_n (pc := 0) hx hb dX5_addServant_0 rfl (lv_at hl 0 rfl) ?_
  refine lv_iconst (v := 0) (pc := 1) hx hb dX5_addServant_1 (by decide) ?_
  refine z_put (pc := 2) (ci := 5) (C := RX5) (T := TX5) (N := 11) (W1 := (z_wM X d (z_mS M 0 0))) hx hb hts in_X5 tyX5 tyX5_ok nmX5 hown hK hP hD hS 0 rfl rfl 0 (by decide) lk_fi35 (fun _ h9 => h9) rfl (by decide +kernel) (Nat.le_of_ble_eq_true rfl) dX5_addServant_2 rfl (fun H locs hP hD hS => ?_)
  refine lv_iload_n (pc := 5) hx hb dX5_addServant_5 rfl (lv_at hl 1 rfl) ?_
  refine lv_iconst (v := 1) (pc := 6) hx hb dX5_addServant_6 (by decide) ?_
  refine lv_iconst (v := 4) (pc := 7) hx hb dX5_addServant_7 (by decide) ?_
  refine z_csI (pc := 8) S (m_X5_isIn l X v1 1 4 rfl) (va_cwS 3 hts gX5_addServant_X5_isIn rfl rfl rfl hdX5_isIn ⟨Nat.le_of_ble_eq_true rfl, Nat.le_of_ble_eq_true rfl⟩) hP hK hN (s_nil _) ⟨Nat.le_of_ble_eq_true rfl, Nat.le_of_ble_eq_true rfl⟩ rfl hl.1 rfl (Nat.le_of_ble_eq_true rfl) dX5_addServant_8 ?_
  refine lv_if_ne (pc := 11) (tgt := 20) hx hb dX5_addServant_11 (by decide) (fun c_11 => ?_) (fun c_11 => ?_)
  · replace hf := z_in c_11 hf
    refine lv_aload_n (pc := 20) hx hb dX5_addServant_20 rfl (lv_at hl 0 rfl) ?_
    refine va_get (pc := 21) (ci := 5) (C := RX5) (T := TX5) (N := 11) hx hb hts in_X5 hown hK hP 0 rfl rfl 2 (by decide) lk_fi46 (fun _ h9 => h9) rfl dX5_addServant_21 ?_
    refine lv_bipush (v := 6) (pc := 24) hx hb dX5_addServant_24 (by decide) ?_
    refine lv_icmp_ne (pc := 26) (tgt := 35) hx hb dX5_addServant_26 (by decide) (fun c_26 => ?_) (fun c_26 => ?_)
    · replace hf := z_in c_26 hf
      refine lv_aload_n (pc := 35) hx hb dX5_addServant_35 rfl (lv_at hl 0 rfl) ?_
      refine va_get (pc := 36) (ci := 5) (C := RX5) (T := TX5) (N := 11) hx hb hts in_X5 hown hK hP 0 rfl rfl 8 (by decide) lk_fi26 (fun _ h9 => h9) rfl dX5_addServant_36 ?_
      refine lv_aload_n (pc := 39) hx hb dX5_addServant_39 rfl (lv_at hl 0 rfl) ?_
      refine va_get (pc := 40) (ci := 5) (C := RX5) (T := TX5) (N := 11) hx hb hts in_X5 hown hK hP 0 rfl rfl 2 (by decide) lk_fi46 (fun _ h9 => h9) rfl dX5_addServant_40 ?_
      refine lv_iload_n (pc := 43) hx hb dX5_addServant_43 rfl (lv_at hl 1 rfl) ?_
      obtain ⟨x44, e44, hf⟩ := z_bd hf
      refine z_iast (pc := 44) (W1 := (z_wM X d (z_mR (z_mS M 0 0) 5 x44))) hx hb hK hP hD hS 6 0 rfl rfl e44 rfl dX5_addServant_44 (fun H locs hP hD hS => ?_)
      refine lv_aload_n (pc := 45) hx hb dX5_addServant_45 rfl (lv_at hl 0 rfl) ?_
      refine lv_dup (pc := 46) hx hb dX5_addServant_46 rfl ?_
      refine va_get (pc := 47) (ci := 5) (C := RX5) (T := TX5) (N := 11) hx hb hts in_X5 hown hK hP 0 rfl rfl 2 (by decide) lk_fi46 (fun _ h9 => h9) rfl dX5_addServant_47 ?_
      refine lv_iconst (v := 1) (pc := 50) hx hb dX5_addServant_50 (by decide) ?_
      refine lv_iadd (pc := 51) hx hb dX5_addServant_51 ?_
      refine z_put (pc := 52) (ci := 5) (C := RX5) (T := TX5) (N := 11) (W1 := (z_wM X d (z_mR (z_mS (z_mS M 0 0) 2 ((M.1 2) + 1)) 5 x44))) hx hb hts in_X5 tyX5 tyX5_ok nmX5 hown hK hP hD hS 0 rfl rfl 2 (by decide) lk_fi46 (fun _ h9 => h9) rfl (by decide +kernel) (Nat.le_of_ble_eq_true rfl) dX5_addServant_52 rfl (fun H locs hP hD hS => ?_)
      refine lv_aload_n (pc := 55) hx hb dX5_addServant_55 rfl (lv_at hl 0 rfl) ?_
      refine va_get (pc := 56) (ci := 5) (C := RX5) (T := TX5) (N := 11) hx hb hts in_X5 hown hK hP 0 rfl rfl 2 (by decide) lk_fi46 (fun _ h9 => h9) rfl dX5_addServant_56 ?_
      refine lv_iconst (v := 1) (pc := 59) hx hb dX5_addServant_59 (by decide) ?_
      refine lv_isub (pc := 60) hx hb dX5_addServant_60 ?_
      exact W.iret (pc := 61) (v := (((M.1 2) + 1) - 1)) hx hb hr (fun t ht hW => ⟨⟨_, (z_wM X d (z_mR (z_mS (z_mS M 0 0) 2 ((M.1 2) + 1)) 5 x44)), rfl, ⟨z_e1 hf, congrArg (fun z => (z_wM X d z)) (z_e2 hf)⟩, by rw [ht]; exact hP, hD⟩, hS.F ht⟩) hS.2.2 dX5_addServant_61
    · replace hf := z_ip c_26 hf
      refine lv_aload_n (pc := 29) hx hb dX5_addServant_29 rfl (lv_at hl 0 rfl) ?_
      refine lv_iconst (v := 2) (pc := 30) hx hb dX5_addServant_30 (by decide) ?_
      refine z_cmI (pc := 31) (W1 := (z_wM X d (f_X5_no (z_mS M 0 0) 2).2)) S (m_X5_no l X d (z_mS M 0 0) 2 rfl) (cwV 1 hts gX5_addServant_X5_no rfl rfl rfl hdX5_no ⟨Nat.le_of_ble_eq_true rfl, Nat.le_of_ble_eq_true rfl⟩) hP hK hN hD hS hA (s_M_M X d (z_mS M 0 0)) (f_M_M X d (z_mS M 0 0) ((f_X5_no (z_mS M 0 0) 2).2)) (ci := 5) rfl rfl rfl ⟨Nat.le_of_ble_eq_true rfl, Nat.le_of_ble_eq_true rfl⟩ rfl hl.1 rfl (Nat.le_of_ble_eq_true rfl) dX5_addServant_31 (fun H locs hP hD hS => ?_)
      exact W.iret (pc := 34) (v := (f_X5_no (z_mS M 0 0) 2).1) hx hb hr (fun t ht hW => ⟨⟨_, (z_wM X d (f_X5_no (z_mS M 0 0) 2).2), rfl, ⟨z_e1 hf, congrArg (fun z => (z_wM X d z)) (z_e2 hf)⟩, by rw [ht]; exact hP, hD⟩, hS.F ht⟩) hS.2.2 dX5_addServant_34
  · replace hf := z_ip c_11 hf
    refine lv_aload_n (pc := 14) hx hb dX5_addServant_14 rfl (lv_at hl 0 rfl) ?_
    refine lv_iconst (v := 1) (pc := 15) hx hb dX5_addServant_15 (by decide) ?_
    refine z_cmI (pc := 16) (W1 := (z_wM X d (f_X5_no (z_mS M 0 0) 1).2)) S (m_X5_no l X d (z_mS M 0 0) 1 rfl) (cwV 1 hts gX5_addServant_X5_no rfl rfl rfl hdX5_no ⟨Nat.le_of_ble_eq_true rfl, Nat.le_of_ble_eq_true rfl⟩) hP hK hN hD hS hA (s_M_M X d (z_mS M 0 0)) (f_M_M X d (z_mS M 0 0) ((f_X5_no (z_mS M 0 0) 1).2)) (ci := 5) rfl rfl rfl ⟨Nat.le_of_ble_eq_true rfl, Nat.le_of_ble_eq_true rfl⟩ rfl hl.1 rfl (Nat.le_of_ble_eq_true rfl) dX5_addServant_16 (fun H locs hP hD hS => ?_)
    exact W.iret (pc := 19) (v := (f_X5_no (z_mS M 0 0) 1).1) hx hb hr (fun t ht hW => ⟨⟨_, (z_wM X d (f_X5_no (z_mS M 0 0) 1).2), rfl, ⟨z_e1 hf, congrArg (fun z => (z_wM X d z)) (z_e2 hf)⟩, by rw [ht]; exact hP, hD⟩, hS.F ht⟩) hS.2.2 dX5_addServant_19
def f_X5_ring (M : z_M) (v1 : Int32) : Option (Int32 × z_M) := (f_X5_isRoom M v1).bind (fun x3 => (f_X5_isKnown M x3).bind (fun x6 => (if x6.1 = 0 then some (0, x6.2) else (z_at (x6.2.2 6) (7 + v1) 55).bind (fun x22 => (if x22 = (-1) then (z_wr (x6.2.2 6) (7 + v1) 55 0).bind (fun x36 => (f_X5_rings (z_mR x6.2 6 x36) v1).bind (fun x39 => (z_bo x39.1).bind (fun x42 => some (x42, x39.2)))) else (f_X5_rings x6.2 v1).bind (fun x39 => (z_bo x39.1).bind (fun x42 => some (x42, x39.2))))))))
set_option maxHeartbeats 4000000 in
set_option maxRecDepth 100000 in
theorem m_X5_ring (l : Launch) (X : z_X) (d : Nat → Nat) (M : z_M) (v1 : Int32) {RR : (Int32 × z_M)} (hf : f_X5_ring M v1 = some RR) : z_mI l yX5_ring wsX5_ring 2 44 X [.ref (d 0), .int v1] (z_wM X d M) RR.1 (z_wM X d RR.2) := by
  intro sz
  refine Met.ofW (cc := cX5_ring) (maxL := 2) (ret := (some .boolean)) (by decide) rfl ?_
  intro p e s m args below meth c s₁ Bd hml hv
  obtain ⟨rfl, hsz, hP, hK, hN, hD0⟩ := hv
  have hx := Bd.exec
  have hb := Bd.bytes
  have hr := Bd.returns
  have hts := atoms_spec (ws := wsX5_ring) Bd.pre
  have hown : s.vm.findClass RX5 = some m.cls := findClass_of_methodNamed Bd.named
  have hlocks := Bd.notSynchronized
  have S : CallFix p m c cX5_ring 2 s _ wsX5_ring RX5 := ⟨hx, hb, hml, hown, hts⟩
  have lk_fi29 := hts (.fieldLink RX5 29 "HouseBellsModel" "now" "[I") (List.mem_of_getElem? (i := 1) rfl)
  have in_X5 : ∀ w ∈ wsX50, w ∈ wsX5_ring := fun _ h => (List.mem_cons_of_mem _ (List.mem_append_right _ h))
  subst hsz
  have hD := hD0.self (sz := s.heap.size)
  generalize hAe : va_A (z_wM X d M) s.heap.size = A at hD ⊢
  have hA : ∀ q : Nat, s.heap.size ≤ q → A q := fun q h => by rw [← hAe]; exact Or.inr h
  have hS : va_S A s.heap s.heap [] := va_S.rf
  have hl := lv_entry ([.ref (d 0), .int v1]) (n := 2) (Nat.le_of_ble_eq_true rfl)
  rw [lg_entry_eq]
  generalize (lg_sl ([.ref (d 0), .int v1]) ++ List.replicate (2 - (lg_sl ([.ref (d 0), .int v1])).length) Slot.unset).toArray = ls at hl ⊢
  have hl : lv_has ls 2 [(0, .ref (d 0)), (1, .int v1)] := hl
  suffices hgo : ∀ (H : Heap) (locs : List Loc), va_P X.1 vwCl (z_wM X d M) H → va_D A (z_wM X d M) → va_S A s.heap H locs → W p l e (headSpec wsX5_ring (z_R 2 44)).room s m ([.ref (d 0), .int v1] : List Value).toArray below meth c H locs 0 0 (MQ below (va_Qi (fun (z : Int32) (u : va_W) => z = RR.1 ∧ u = (z_wM X d RR.2)) (z_Bm X A) A) ([.ref (d 0), .int v1] : List Value).toArray s 0 0 A) (F0 m 0 ls []) from hgo _ _ hP hD hS
  clear hP hD hS
  intro H locs hP hD hS
  unfold f_X5_ring at hf
  refine lv_aload_n (pc := 0) hx hb dX5_ring_0 rfl (lv_at hl 0 rfl) ?_
  refine lv_aload_n (pc := 1) hx hb dX5_ring_1 rfl (lv_at hl 0 rfl) ?_
  refine lv_iload_n (pc := 2) hx hb dX5_ring_2 rfl (lv_at hl 1 rfl) ?_
  obtain ⟨x3, e3, hf⟩ := z_bd hf
  refine z_cpI (pc := 3) S (m_X5_isRoom l X d M v1 e3) (cwV 1 hts gX5_ring_X5_isRoom rfl rfl rfl hdX5_isRoom ⟨Nat.le_of_ble_eq_true rfl, Nat.le_of_ble_eq_true rfl⟩) hP hK hN (s_M_M X d M) (ci := 5) rfl rfl rfl ⟨Nat.le_of_ble_eq_true rfl, Nat.le_of_ble_eq_true rfl⟩ rfl hl.1 rfl (Nat.le_of_ble_eq_true rfl) dX5_ring_3 ?_
  obtain ⟨x6, e6, hf⟩ := z_bd hf
  refine z_cmI (pc := 6) (W1 := (z_wM X d x6.2)) S (m_X5_isKnown l X d M x3 e6) (cwV 1 hts gX5_ring_X5_isKnown rfl rfl rfl hdX5_isKnown ⟨Nat.le_of_ble_eq_true rfl, Nat.le_of_ble_eq_true rfl⟩) hP hK hN hD hS hA (s_M_M X d M) (f_M_M X d M x6.2) (ci := 5) rfl rfl rfl ⟨Nat.le_of_ble_eq_true rfl, Nat.le_of_ble_eq_true rfl⟩ rfl hl.1 rfl (Nat.le_of_ble_eq_true rfl) dX5_ring_6 (fun H locs hP hD hS => ?_)
  refine lv_if_ne (pc := 9) (tgt := 14) hx hb dX5_ring_9 (by decide) (fun c_9 => ?_) (fun c_9 => ?_)
  · replace hf := z_in c_9 hf
    refine lv_aload_n (pc := 14) hx hb dX5_ring_14 rfl (lv_at hl 0 rfl) ?_
    refine va_get (pc := 15) (ci := 5) (C := RX5) (T := TX5) (N := 11) hx hb hts in_X5 hown hK hP 0 rfl rfl 9 (by decide) lk_fi29 (fun _ h9 => h9) rfl dX5_ring_15 ?_
    refine lv_bipush (v := 7) (pc := 18) hx hb dX5_ring_18 (by decide) ?_
    refine lv_iload_n (pc := 20) hx hb dX5_ring_20 rfl (lv_at hl 1 rfl) ?_
    refine lv_iadd (pc := 21) hx hb dX5_ring_21 ?_
    obtain ⟨x22, e22, hf⟩ := z_bd hf
    refine z_iald (pc := 22) hx hb hK hP 7 0 rfl rfl e22 dX5_ring_22 ?_
    refine lv_iconst (v := (-1)) (pc := 23) hx hb dX5_ring_23 (by decide) ?_
    refine lv_icmp_ne (pc := 24) (tgt := 37) hx hb dX5_ring_24 (by decide) (fun c_24 => ?_) (fun c_24 => ?_)
    · replace hf := z_in c_24 hf
      refine lv_aload_n (pc := 37) hx hb dX5_ring_37 rfl (lv_at hl 0 rfl) ?_
      refine lv_iload_n (pc := 38) hx hb dX5_ring_38 rfl (lv_at hl 1 rfl) ?_
      obtain ⟨x39, e39, hf⟩ := z_bd hf
      refine z_cmI (pc := 39) (W1 := (z_wM X d x39.2)) S (m_X5_rings l X d x6.2 v1 e39) (cwV 1 hts gX5_ring_X5_rings rfl rfl rfl hdX5_rings ⟨Nat.le_of_ble_eq_true rfl, Nat.le_of_ble_eq_true rfl⟩) hP hK hN hD hS hA (s_M_M X d x6.2) (f_M_M X d x6.2 x39.2) (ci := 5) rfl rfl rfl ⟨Nat.le_of_ble_eq_true rfl, Nat.le_of_ble_eq_true rfl⟩ rfl hl.1 rfl (Nat.le_of_ble_eq_true rfl) dX5_ring_39 (fun H locs hP hD hS => ?_)
      obtain ⟨x42, e42, hf⟩ := z_bd hf
      obtain ⟨e_bo, h_bo⟩ := z_bo_s e42
      exact W.zret (pc := 42) (v := x39.1) hx hb hr h_bo (fun t ht hW => ⟨⟨_, (z_wM X d x39.2), rfl, ⟨e_bo.trans (z_e1 hf), congrArg (fun z => (z_wM X d z)) (z_e2 hf)⟩, by rw [ht]; exact hP, hD⟩, hS.F ht⟩) hS.2.2 dX5_ring_42
    · replace hf := z_ip c_24 hf
      refine lv_aload_n (pc := 27) hx hb dX5_ring_27 rfl (lv_at hl 0 rfl) ?_
      refine va_get (pc := 28) (ci := 5) (C := RX5) (T := TX5) (N := 11) hx hb hts in_X5 hown hK hP 0 rfl rfl 9 (by decide) lk_fi29 (fun _ h9 => h9) rfl dX5_ring_28 ?_
      refine lv_bipush (v := 7) (pc := 31) hx hb dX5_ring_31 (by decide) ?_
      refine lv_iload_n (pc := 33) hx hb dX5_ring_33 rfl (lv_at hl 1 rfl) ?_
      refine lv_iadd (pc := 34) hx hb dX5_ring_34 ?_
      refine lv_iconst (v := 0) (pc := 35) hx hb dX5_ring_35 (by decide) ?_
      obtain ⟨x36, e36, hf⟩ := z_bd hf
      refine z_iast (pc := 36) (W1 := (z_wM X d (z_mR x6.2 6 x36))) hx hb hK hP hD hS 7 0 rfl rfl e36 rfl dX5_ring_36 (fun H locs hP hD hS => ?_)
      refine lv_aload_n (pc := 37) hx hb dX5_ring_37 rfl (lv_at hl 0 rfl) ?_
      refine lv_iload_n (pc := 38) hx hb dX5_ring_38 rfl (lv_at hl 1 rfl) ?_
      obtain ⟨x39, e39, hf⟩ := z_bd hf
      refine z_cmI (pc := 39) (W1 := (z_wM X d x39.2)) S (m_X5_rings l X d (z_mR x6.2 6 x36) v1 e39) (cwV 1 hts gX5_ring_X5_rings rfl rfl rfl hdX5_rings ⟨Nat.le_of_ble_eq_true rfl, Nat.le_of_ble_eq_true rfl⟩) hP hK hN hD hS hA (s_M_M X d (z_mR x6.2 6 x36)) (f_M_M X d (z_mR x6.2 6 x36) x39.2) (ci := 5) rfl rfl rfl ⟨Nat.le_of_ble_eq_true rfl, Nat.le_of_ble_eq_true rfl⟩ rfl hl.1 rfl (Nat.le_of_ble_eq_true rfl) dX5_ring_39 (fun H locs hP hD hS => ?_)
      obtain ⟨x42, e42, hf⟩ := z_bd hf
      obtain ⟨e_bo, h_bo⟩ := z_bo_s e42
      exact W.zret (pc := 42) (v := x39.1) hx hb hr h_bo (fun t ht hW => ⟨⟨_, (z_wM X d x39.2), rfl, ⟨e_bo.trans (z_e1 hf), congrArg (fun z => (z_wM X d z)) (z_e2 hf)⟩, by rw [ht]; exact hP, hD⟩, hS.F ht⟩) hS.2.2 dX5_ring_42
  · replace hf := z_ip c_9 hf
    refine lv_iconst (v := 0) (pc := 12) hx hb dX5_ring_12 (by decide) ?_
    exact W.zret (pc := 13) (v := 0) hx hb hr rfl (fun t ht hW => ⟨⟨_, (z_wM X d x6.2), rfl, ⟨z_e1 hf, congrArg (fun z => (z_wM X d z)) (z_e2 hf)⟩, by rw [ht]; exact hP, hD⟩, hS.F ht⟩) hS.2.2 dX5_ring_13
def f_X5_swap (M : z_M) (v1 : Int32) (v2 : Int32) : Option z_M := (z_at (M.2 3) v1 12).bind (fun x5 => (z_at (M.2 3) v2 12).bind (fun x17 => (z_wr (M.2 3) v1 12 x17).bind (fun x18 => (z_wr x18 v2 12 x5).bind (fun x25 => some (z_mR M 3 x25)))))
set_option maxHeartbeats 4000000 in
set_option maxRecDepth 100000 in
theorem m_X5_swap (l : Launch) (X : z_X) (d : Nat → Nat) (M : z_M) (v1 : Int32) (v2 : Int32) {RR : z_M} (hf : f_X5_swap M v1 v2 = some RR) : z_mV l yX5_swap wsX5_swap 0 0 X [.ref (d 0), .int v1, .int v2] (z_wM X d M) (z_wM X d RR) := by
  intro sz
  refine Met.ofW (cc := cX5_swap) (maxL := 4) (ret := none) (by decide) rfl ?_
  intro p e s m args below meth c s₁ Bd hml hv
  obtain ⟨rfl, hsz, hP, hK, hN, hD0⟩ := hv
  have hx := Bd.exec
  have hb := Bd.bytes
  have hr := Bd.returns
  have hts := atoms_spec (ws := wsX5_swap) Bd.pre
  have hown : s.vm.findClass RX5 = some m.cls := findClass_of_methodNamed Bd.named
  have hlocks := Bd.notSynchronized
  have S : CallFix p m c cX5_swap 4 s _ wsX5_swap RX5 := ⟨hx, hb, hml, hown, hts⟩
  have lk_fi19 := hts (.fieldLink RX5 19 "HouseBellsModel" "drop" "[I") (List.mem_of_getElem? (i := 1) rfl)
  have in_X5 : ∀ w ∈ wsX50, w ∈ wsX5_swap := fun _ h => (List.mem_cons_of_mem _ (List.mem_append_right _ h))
  subst hsz
  have hD := hD0.self (sz := s.heap.size)
  generalize hAe : va_A (z_wM X d M) s.heap.size = A at hD ⊢
  have hA : ∀ q : Nat, s.heap.size ≤ q → A q := fun q h => by rw [← hAe]; exact Or.inr h
  have hS : va_S A s.heap s.heap [] := va_S.rf
  have hl := lv_entry ([.ref (d 0), .int v1, .int v2]) (n := 4) (Nat.le_of_ble_eq_true rfl)
  rw [lg_entry_eq]
  generalize (lg_sl ([.ref (d 0), .int v1, .int v2]) ++ List.replicate (4 - (lg_sl ([.ref (d 0), .int v1, .int v2])).length) Slot.unset).toArray = ls at hl ⊢
  have hl : lv_has ls 4 [(0, .ref (d 0)), (1, .int v1), (2, .int v2)] := hl
  suffices hgo : ∀ (H : Heap) (locs : List Loc), va_P X.1 vwCl (z_wM X d M) H → va_D A (z_wM X d M) → va_S A s.heap H locs → W p l e (headSpec wsX5_swap (z_R 0 0)).room s m ([.ref (d 0), .int v1, .int v2] : List Value).toArray below meth c H locs 0 0 (MQ below (va_Qv (fun u : va_W => u = (z_wM X d RR)) (z_Bm X A) A) ([.ref (d 0), .int v1, .int v2] : List Value).toArray s 0 0 A) (F0 m 0 ls []) from hgo _ _ hP hD hS
  clear hP hD hS
  intro H locs hP hD hS
  unfold f_X5_swap at hf
  refine lv_aload_n (pc := 0) hx hb dX5_swap_0 rfl (lv_at hl 0 rfl) ?_
  refine va_get (pc := 1) (ci := 5) (C := RX5) (T := TX5) (N := 11) hx hb hts in_X5 hown hK hP 0 rfl rfl 6 (by decide) lk_fi19 (fun _ h9 => h9) rfl dX5_swap_1 ?_
  refine lv_iload_n (pc := 4) hx hb dX5_swap_4 rfl (lv_at hl 1 rfl) ?_
  obtain ⟨x5, e5, hf⟩ := z_bd hf
  refine z_iald (pc := 5) hx hb hK hP 4 0 rfl rfl e5 dX5_swap_5 ?_
  refine lv_istore_n (pc := 6) (lv' := [(3, .int x5), (0, .ref (d 0)), (1, .int v1), (2, .int v2)]) hx hb dX5_swap_6 rfl hl (by decide) rfl (fun ls hl => ?_)
  refine lv_aload_n (pc := 7) hx hb dX5_swap_7 rfl (lv_at hl 1 rfl) ?_
  refine va_get (pc := 8) (ci := 5) (C := RX5) (T := TX5) (N := 11) hx hb hts in_X5 hown hK hP 0 rfl rfl 6 (by decide) lk_fi19 (fun _ h9 => h9) rfl dX5_swap_8 ?_
  refine lv_iload_n (pc := 11) hx hb dX5_swap_11 rfl (lv_at hl 2 rfl) ?_
  refine lv_aload_n (pc := 12) hx hb dX5_swap_12 rfl (lv_at hl 1 rfl) ?_
  refine va_get (pc := 13) (ci := 5) (C := RX5) (T := TX5) (N := 11) hx hb hts in_X5 hown hK hP 0 rfl rfl 6 (by decide) lk_fi19 (fun _ h9 => h9) rfl dX5_swap_13 ?_
  refine lv_iload_n (pc := 16) hx hb dX5_swap_16 rfl (lv_at hl 3 rfl) ?_
  obtain ⟨x17, e17, hf⟩ := z_bd hf
  refine z_iald (pc := 17) hx hb hK hP 4 0 rfl rfl e17 dX5_swap_17 ?_
  obtain ⟨x18, e18, hf⟩ := z_bd hf
  refine z_iast (pc := 18) (W1 := (z_wM X d (z_mR M 3 x18))) hx hb hK hP hD hS 4 0 rfl rfl e18 rfl dX5_swap_18 (fun H locs hP hD hS => ?_)
  refine lv_aload_n (pc := 19) hx hb dX5_swap_19 rfl (lv_at hl 1 rfl) ?_
  refine va_get (pc := 20) (ci := 5) (C := RX5) (T := TX5) (N := 11) hx hb hts in_X5 hown hK hP 0 rfl rfl 6 (by decide) lk_fi19 (fun _ h9 => h9) rfl dX5_swap_20 ?_
  refine lv_iload_n (pc := 23) hx hb dX5_swap_23 rfl (lv_at hl 3 rfl) ?_
  refine lv_iload_n (pc := 24) hx hb dX5_swap_24 rfl (lv_at hl 0 rfl) ?_
  obtain ⟨x25, e25, hf⟩ := z_bd hf
  refine z_iast (pc := 25) (W1 := (z_wM X d (z_mR M 3 x25))) hx hb hK hP hD hS 4 0 rfl rfl e25 rfl dX5_swap_25 (fun H locs hP hD hS => ?_)
  exact W.vret (pc := 26) hx hb hr (fun t ht hW => ⟨⟨(z_wM X d (z_mR M 3 x25)), rfl, congrArg (fun z => (z_wM X d z)) (Option.some.inj hf), by rw [ht]; exact hP, hD⟩, hS.F ht⟩) hS.2.2 dX5_swap_26
def f_X5_cross (M : z_M) (v1 : Int32) (v2 : Int32) : Option (Int32 × z_M) := (f_X5_isRoom M v1).bind (fun x3 => (if x3 = 0 then (f_X5_isKnown M 0).bind (fun x22 => (if x22.1 = 0 then some (0, x22.2) else (if v1 = v2 then some ((f_X5_no x22.2 2).1, (f_X5_no x22.2 2).2) else (f_X5_swap x22.2 v1 v2).bind (fun x44 => (z_at (x44.2 3) v1 12).bind (fun x52 => some (x52, x44)))))) else (f_X5_isRoom M v2).bind (fun x11 => (if x11 = 0 then (f_X5_isKnown M 0).bind (fun x22 => (if x22.1 = 0 then some (0, x22.2) else (if v1 = v2 then some ((f_X5_no x22.2 2).1, (f_X5_no x22.2 2).2) else (f_X5_swap x22.2 v1 v2).bind (fun x44 => (z_at (x44.2 3) v1 12).bind (fun x52 => some (x52, x44)))))) else (f_X5_isKnown M 1).bind (fun x22 => (if x22.1 = 0 then some (0, x22.2) else (if v1 = v2 then some ((f_X5_no x22.2 2).1, (f_X5_no x22.2 2).2) else (f_X5_swap x22.2 v1 v2).bind (fun x44 => (z_at (x44.2 3) v1 12).bind (fun x52 => some (x52, x44))))))))))
set_option maxHeartbeats 4000000 in
set_option maxRecDepth 100000 in
theorem m_X5_cross (l : Launch) (X : z_X) (d : Nat → Nat) (M : z_M) (v1 : Int32) (v2 : Int32) {RR : (Int32 × z_M)} (hf : f_X5_cross M v1 v2 = some RR) : z_mI l yX5_cross wsX5_cross 2 43 X [.ref (d 0), .int v1, .int v2] (z_wM X d M) RR.1 (z_wM X d RR.2) := by
  intro sz
  refine Met.ofW (cc := cX5_cross) (maxL := 3) (ret := (some .int)) (by decide) rfl ?_
  intro p e s m args below meth c s₁ Bd hml hv
  obtain ⟨rfl, hsz, hP, hK, hN, hD0⟩ := hv
  have hx := Bd.exec
  have hb := Bd.bytes
  have hr := Bd.returns
  have hts := atoms_spec (ws := wsX5_cross) Bd.pre
  have hown : s.vm.findClass RX5 = some m.cls := findClass_of_methodNamed Bd.named
  have hlocks := Bd.notSynchronized
  have S : CallFix p m c cX5_cross 3 s _ wsX5_cross RX5 := ⟨hx, hb, hml, hown, hts⟩
  have lk_fi19 := hts (.fieldLink RX5 19 "HouseBellsModel" "drop" "[I") (List.mem_of_getElem? (i := 1) rfl)
  have in_X5 : ∀ w ∈ wsX50, w ∈ wsX5_cross := fun _ h => (List.mem_cons_of_mem _ (List.mem_append_right _ h))
  subst hsz
  have hD := hD0.self (sz := s.heap.size)
  generalize hAe : va_A (z_wM X d M) s.heap.size = A at hD ⊢
  have hA : ∀ q : Nat, s.heap.size ≤ q → A q := fun q h => by rw [← hAe]; exact Or.inr h
  have hS : va_S A s.heap s.heap [] := va_S.rf
  have hl := lv_entry ([.ref (d 0), .int v1, .int v2]) (n := 3) (Nat.le_of_ble_eq_true rfl)
  rw [lg_entry_eq]
  generalize (lg_sl ([.ref (d 0), .int v1, .int v2]) ++ List.replicate (3 - (lg_sl ([.ref (d 0), .int v1, .int v2])).length) Slot.unset).toArray = ls at hl ⊢
  have hl : lv_has ls 3 [(0, .ref (d 0)), (1, .int v1), (2, .int v2)] := hl
  suffices hgo : ∀ (H : Heap) (locs : List Loc), va_P X.1 vwCl (z_wM X d M) H → va_D A (z_wM X d M) → va_S A s.heap H locs → W p l e (headSpec wsX5_cross (z_R 2 43)).room s m ([.ref (d 0), .int v1, .int v2] : List Value).toArray below meth c H locs 0 0 (MQ below (va_Qi (fun (z : Int32) (u : va_W) => z = RR.1 ∧ u = (z_wM X d RR.2)) (z_Bm X A) A) ([.ref (d 0), .int v1, .int v2] : List Value).toArray s 0 0 A) (F0 m 0 ls []) from hgo _ _ hP hD hS
  clear hP hD hS
  intro H locs hP hD hS
  unfold f_X5_cross at hf
  refine lv_aload_n (pc := 0) hx hb dX5_cross_0 rfl (lv_at hl 0 rfl) ?_
  refine lv_aload_n (pc := 1) hx hb dX5_cross_1 rfl (lv_at hl 0 rfl) ?_
  refine lv_iload_n (pc := 2) hx hb dX5_cross_2 rfl (lv_at hl 1 rfl) ?_
  obtain ⟨x3, e3, hf⟩ := z_bd hf
  refine z_cpI (pc := 3) S (m_X5_isRoom l X d M v1 e3) (cwV 1 hts gX5_cross_X5_isRoom rfl rfl rfl hdX5_isRoom ⟨Nat.le_of_ble_eq_true rfl, Nat.le_of_ble_eq_true rfl⟩) hP hK hN (s_M_M X d M) (ci := 5) rfl rfl rfl ⟨Nat.le_of_ble_eq_true rfl, Nat.le_of_ble_eq_true rfl⟩ rfl hl.1 rfl (Nat.le_of_ble_eq_true rfl) dX5_cross_3 ?_
  refine lv_if_eq (pc := 6) (tgt := 21) hx hb dX5_cross_6 (by decide) (fun c_6 => ?_) (fun c_6 => ?_)
  · replace hf := z_ip c_6 hf
    refine lv_iconst (v := 0) (pc := 21) hx hb dX5_cross_21 (by decide) ?_
    obtain ⟨x22, e22, hf⟩ := z_bd hf
    refine z_cmI (pc := 22) (W1 := (z_wM X d x22.2)) S (m_X5_isKnown l X d M 0 e22) (cwV 1 hts gX5_cross_X5_isKnown rfl rfl rfl hdX5_isKnown ⟨Nat.le_of_ble_eq_true rfl, Nat.le_of_ble_eq_true rfl⟩) hP hK hN hD hS hA (s_M_M X d M) (f_M_M X d M x22.2) (ci := 5) rfl rfl rfl ⟨Nat.le_of_ble_eq_true rfl, Nat.le_of_ble_eq_true rfl⟩ rfl hl.1 rfl (Nat.le_of_ble_eq_true rfl) dX5_cross_22 (fun H locs hP hD hS => ?_)
    refine lv_if_ne (pc := 25) (tgt := 30) hx hb dX5_cross_25 (by decide) (fun c_25 => ?_) (fun c_25 => ?_)
    · replace hf := z_in c_25 hf
      refine lv_iload_n (pc := 30) hx hb dX5_cross_30 rfl (lv_at hl 1 rfl) ?_
      refine lv_iload_n (pc := 31) hx hb dX5_cross_31 rfl (lv_at hl 2 rfl) ?_
      refine lv_icmp_ne (pc := 32) (tgt := 41) hx hb dX5_cross_32 (by decide) (fun c_32 => ?_) (fun c_32 => ?_)
      · replace hf := z_in c_32 hf
        refine lv_aload_n (pc := 41) hx hb dX5_cross_41 rfl (lv_at hl 0 rfl) ?_
        refine lv_iload_n (pc := 42) hx hb dX5_cross_42 rfl (lv_at hl 1 rfl) ?_
        refine lv_iload_n (pc := 43) hx hb dX5_cross_43 rfl (lv_at hl 2 rfl) ?_
        obtain ⟨x44, e44, hf⟩ := z_bd hf
        refine z_cmV (pc := 44) (W1 := (z_wM X d x44)) S (m_X5_swap l X d x22.2 v1 v2 e44) (cwV 2 hts gX5_cross_X5_swap rfl rfl rfl hdX5_swap ⟨Nat.le_of_ble_eq_true rfl, Nat.le_of_ble_eq_true rfl⟩) hP hK hN hD hS hA (s_M_M X d x22.2) (f_M_M X d x22.2 x44) (ci := 5) rfl rfl rfl ⟨Nat.le_of_ble_eq_true rfl, Nat.le_of_ble_eq_true rfl⟩ rfl hl.1 rfl (Nat.le_of_ble_eq_true rfl) dX5_cross_44 (fun H locs hP hD hS => ?_)
        refine lv_aload_n (pc := 47) hx hb dX5_cross_47 rfl (lv_at hl 0 rfl) ?_
        refine va_get (pc := 48) (ci := 5) (C := RX5) (T := TX5) (N := 11) hx hb hts in_X5 hown hK hP 0 rfl rfl 6 (by decide) lk_fi19 (fun _ h9 => h9) rfl dX5_cross_48 ?_
        refine lv_iload_n (pc := 51) hx hb dX5_cross_51 rfl (lv_at hl 1 rfl) ?_
        obtain ⟨x52, e52, hf⟩ := z_bd hf
        refine z_iald (pc := 52) hx hb hK hP 4 0 rfl rfl e52 dX5_cross_52 ?_
        exact W.iret (pc := 53) (v := x52) hx hb hr (fun t ht hW => ⟨⟨_, (z_wM X d x44), rfl, ⟨z_e1 hf, congrArg (fun z => (z_wM X d z)) (z_e2 hf)⟩, by rw [ht]; exact hP, hD⟩, hS.F ht⟩) hS.2.2 dX5_cross_53
      · replace hf := z_ip c_32 hf
        refine lv_aload_n (pc := 35) hx hb dX5_cross_35 rfl (lv_at hl 0 rfl) ?_
        refine lv_iconst (v := 2) (pc := 36) hx hb dX5_cross_36 (by decide) ?_
        refine z_cmI (pc := 37) (W1 := (z_wM X d (f_X5_no x22.2 2).2)) S (m_X5_no l X d x22.2 2 rfl) (cwV 1 hts gX5_cross_X5_no rfl rfl rfl hdX5_no ⟨Nat.le_of_ble_eq_true rfl, Nat.le_of_ble_eq_true rfl⟩) hP hK hN hD hS hA (s_M_M X d x22.2) (f_M_M X d x22.2 ((f_X5_no x22.2 2).2)) (ci := 5) rfl rfl rfl ⟨Nat.le_of_ble_eq_true rfl, Nat.le_of_ble_eq_true rfl⟩ rfl hl.1 rfl (Nat.le_of_ble_eq_true rfl) dX5_cross_37 (fun H locs hP hD hS => ?_)
        exact W.iret (pc := 40) (v := (f_X5_no x22.2 2).1) hx hb hr (fun t ht hW => ⟨⟨_, (z_wM X d (f_X5_no x22.2 2).2), rfl, ⟨z_e1 hf, congrArg (fun z => (z_wM X d z)) (z_e2 hf)⟩, by rw [ht]; exact hP, hD⟩, hS.F ht⟩) hS.2.2 dX5_cross_40
    · replace hf := z_ip c_25 hf
      refine lv_iconst (v := 0) (pc := 28) hx hb dX5_cross_28 (by decide) ?_
      exact W.iret (pc := 29) (v := 0) hx hb hr (fun t ht hW => ⟨⟨_, (z_wM X d x22.2), rfl, ⟨z_e1 hf, congrArg (fun z => (z_wM X d z)) (z_e2 hf)⟩, by rw [ht]; exact hP, hD⟩, hS.F ht⟩) hS.2.2 dX5_cross_29
  · replace hf := z_in c_6 hf
    refine lv_aload_n (pc := 9) hx hb dX5_cross_9 rfl (lv_at hl 0 rfl) ?_
    refine lv_iload_n (pc := 10) hx hb dX5_cross_10 rfl (lv_at hl 2 rfl) ?_
    obtain ⟨x11, e11, hf⟩ := z_bd hf
    refine z_cpI (pc := 11) S (m_X5_isRoom l X d M v2 e11) (cwV 1 hts gX5_cross_X5_isRoom rfl rfl rfl hdX5_isRoom ⟨Nat.le_of_ble_eq_true rfl, Nat.le_of_ble_eq_true rfl⟩) hP hK hN (s_M_M X d M) (ci := 5) rfl rfl rfl ⟨Nat.le_of_ble_eq_true rfl, Nat.le_of_ble_eq_true rfl⟩ rfl hl.1 rfl (Nat.le_of_ble_eq_true rfl) dX5_cross_11 ?_
    refine lv_if_eq (pc := 14) (tgt := 21) hx hb dX5_cross_14 (by decide) (fun c_14 => ?_) (fun c_14 => ?_)
    · replace hf := z_ip c_14 hf
      refine lv_iconst (v := 0) (pc := 21) hx hb dX5_cross_21 (by decide) ?_
      obtain ⟨x22, e22, hf⟩ := z_bd hf
      refine z_cmI (pc := 22) (W1 := (z_wM X d x22.2)) S (m_X5_isKnown l X d M 0 e22) (cwV 1 hts gX5_cross_X5_isKnown rfl rfl rfl hdX5_isKnown ⟨Nat.le_of_ble_eq_true rfl, Nat.le_of_ble_eq_true rfl⟩) hP hK hN hD hS hA (s_M_M X d M) (f_M_M X d M x22.2) (ci := 5) rfl rfl rfl ⟨Nat.le_of_ble_eq_true rfl, Nat.le_of_ble_eq_true rfl⟩ rfl hl.1 rfl (Nat.le_of_ble_eq_true rfl) dX5_cross_22 (fun H locs hP hD hS => ?_)
      refine lv_if_ne (pc := 25) (tgt := 30) hx hb dX5_cross_25 (by decide) (fun c_25 => ?_) (fun c_25 => ?_)
      · replace hf := z_in c_25 hf
        refine lv_iload_n (pc := 30) hx hb dX5_cross_30 rfl (lv_at hl 1 rfl) ?_
        refine lv_iload_n (pc := 31) hx hb dX5_cross_31 rfl (lv_at hl 2 rfl) ?_
        refine lv_icmp_ne (pc := 32) (tgt := 41) hx hb dX5_cross_32 (by decide) (fun c_32 => ?_) (fun c_32 => ?_)
        · replace hf := z_in c_32 hf
          refine lv_aload_n (pc := 41) hx hb dX5_cross_41 rfl (lv_at hl 0 rfl) ?_
          refine lv_iload_n (pc := 42) hx hb dX5_cross_42 rfl (lv_at hl 1 rfl) ?_
          refine lv_iload_n (pc := 43) hx hb dX5_cross_43 rfl (lv_at hl 2 rfl) ?_
          obtain ⟨x44, e44, hf⟩ := z_bd hf
          refine z_cmV (pc := 44) (W1 := (z_wM X d x44)) S (m_X5_swap l X d x22.2 v1 v2 e44) (cwV 2 hts gX5_cross_X5_swap rfl rfl rfl hdX5_swap ⟨Nat.le_of_ble_eq_true rfl, Nat.le_of_ble_eq_true rfl⟩) hP hK hN hD hS hA (s_M_M X d x22.2) (f_M_M X d x22.2 x44) (ci := 5) rfl rfl rfl ⟨Nat.le_of_ble_eq_true rfl, Nat.le_of_ble_eq_true rfl⟩ rfl hl.1 rfl (Nat.le_of_ble_eq_true rfl) dX5_cross_44 (fun H locs hP hD hS => ?_)
          refine lv_aload_n (pc := 47) hx hb dX5_cross_47 rfl (lv_at hl 0 rfl) ?_
          refine va_get (pc := 48) (ci := 5) (C := RX5) (T := TX5) (N := 11) hx hb hts in_X5 hown hK hP 0 rfl rfl 6 (by decide) lk_fi19 (fun _ h9 => h9) rfl dX5_cross_48 ?_
          refine lv_iload_n (pc := 51) hx hb dX5_cross_51 rfl (lv_at hl 1 rfl) ?_
          obtain ⟨x52, e52, hf⟩ := z_bd hf
          refine z_iald (pc := 52) hx hb hK hP 4 0 rfl rfl e52 dX5_cross_52 ?_
          exact W.iret (pc := 53) (v := x52) hx hb hr (fun t ht hW => ⟨⟨_, (z_wM X d x44), rfl, ⟨z_e1 hf, congrArg (fun z => (z_wM X d z)) (z_e2 hf)⟩, by rw [ht]; exact hP, hD⟩, hS.F ht⟩) hS.2.2 dX5_cross_53
        · replace hf := z_ip c_32 hf
          refine lv_aload_n (pc := 35) hx hb dX5_cross_35 rfl (lv_at hl 0 rfl) ?_
          refine lv_iconst (v := 2) (pc := 36) hx hb dX5_cross_36 (by decide) ?_
          refine z_cmI (pc := 37) (W1 := (z_wM X d (f_X5_no x22.2 2).2)) S (m_X5_no l X d x22.2 2 rfl) (cwV 1 hts gX5_cross_X5_no rfl rfl rfl hdX5_no ⟨Nat.le_of_ble_eq_true rfl, Nat.le_of_ble_eq_true rfl⟩) hP hK hN hD hS hA (s_M_M X d x22.2) (f_M_M X d x22.2 ((f_X5_no x22.2 2).2)) (ci := 5) rfl rfl rfl ⟨Nat.le_of_ble_eq_true rfl, Nat.le_of_ble_eq_true rfl⟩ rfl hl.1 rfl (Nat.le_of_ble_eq_true rfl) dX5_cross_37 (fun H locs hP hD hS => ?_)
          exact W.iret (pc := 40) (v := (f_X5_no x22.2 2).1) hx hb hr (fun t ht hW => ⟨⟨_, (z_wM X d (f_X5_no x22.2 2).2), rfl, ⟨z_e1 hf, congrArg (fun z => (z_wM X d z)) (z_e2 hf)⟩, by rw [ht]; exact hP, hD⟩, hS.F ht⟩) hS.2.2 dX5_cross_40
      · replace hf := z_ip c_25 hf
        refine lv_iconst (v := 0) (pc := 28) hx hb dX5_cross_28 (by decide) ?_
        exact W.iret (pc := 29) (v := 0) hx hb hr (fun t ht hW => ⟨⟨_, (z_wM X d x22.2), rfl, ⟨z_e1 hf, congrArg (fun z => (z_wM X d z)) (z_e2 hf)⟩, by rw [ht]; exact hP, hD⟩, hS.F ht⟩) hS.2.2 dX5_cross_29
    · replace hf := z_in c_14 hf
      refine lv_iconst (v := 1) (pc := 17) hx hb dX5_cross_17 (by decide) ?_
      refine lv_goto (pc := 18) (tgt := 22) hx hb dX5_cross_18 (by decide) ?_
      obtain ⟨x22, e22, hf⟩ := z_bd hf
      refine z_cmI (pc := 22) (W1 := (z_wM X d x22.2)) S (m_X5_isKnown l X d M 1 e22) (cwV 1 hts gX5_cross_X5_isKnown rfl rfl rfl hdX5_isKnown ⟨Nat.le_of_ble_eq_true rfl, Nat.le_of_ble_eq_true rfl⟩) hP hK hN hD hS hA (s_M_M X d M) (f_M_M X d M x22.2) (ci := 5) rfl rfl rfl ⟨Nat.le_of_ble_eq_true rfl, Nat.le_of_ble_eq_true rfl⟩ rfl hl.1 rfl (Nat.le_of_ble_eq_true rfl) dX5_cross_22 (fun H locs hP hD hS => ?_)
      refine lv_if_ne (pc := 25) (tgt := 30) hx hb dX5_cross_25 (by decide) (fun c_25 => ?_) (fun c_25 => ?_)
      · replace hf := z_in c_25 hf
        refine lv_iload_n (pc := 30) hx hb dX5_cross_30 rfl (lv_at hl 1 rfl) ?_
        refine lv_iload_n (pc := 31) hx hb dX5_cross_31 rfl (lv_at hl 2 rfl) ?_
        refine lv_icmp_ne (pc := 32) (tgt := 41) hx hb dX5_cross_32 (by decide) (fun c_32 => ?_) (fun c_32 => ?_)
        · replace hf := z_in c_32 hf
          refine lv_aload_n (pc := 41) hx hb dX5_cross_41 rfl (lv_at hl 0 rfl) ?_
          refine lv_iload_n (pc := 42) hx hb dX5_cross_42 rfl (lv_at hl 1 rfl) ?_
          refine lv_iload_n (pc := 43) hx hb dX5_cross_43 rfl (lv_at hl 2 rfl) ?_
          obtain ⟨x44, e44, hf⟩ := z_bd hf
          refine z_cmV (pc := 44) (W1 := (z_wM X d x44)) S (m_X5_swap l X d x22.2 v1 v2 e44) (cwV 2 hts gX5_cross_X5_swap rfl rfl rfl hdX5_swap ⟨Nat.le_of_ble_eq_true rfl, Nat.le_of_ble_eq_true rfl⟩) hP hK hN hD hS hA (s_M_M X d x22.2) (f_M_M X d x22.2 x44) (ci := 5) rfl rfl rfl ⟨Nat.le_of_ble_eq_true rfl, Nat.le_of_ble_eq_true rfl⟩ rfl hl.1 rfl (Nat.le_of_ble_eq_true rfl) dX5_cross_44 (fun H locs hP hD hS => ?_)
          refine lv_aload_n (pc := 47) hx hb dX5_cross_47 rfl (lv_at hl 0 rfl) ?_
          refine va_get (pc := 48) (ci := 5) (C := RX5) (T := TX5) (N := 11) hx hb hts in_X5 hown hK hP 0 rfl rfl 6 (by decide) lk_fi19 (fun _ h9 => h9) rfl dX5_cross_48 ?_
          refine lv_iload_n (pc := 51) hx hb dX5_cross_51 rfl (lv_at hl 1 rfl) ?_
          obtain ⟨x52, e52, hf⟩ := z_bd hf
          refine z_iald (pc := 52) hx hb hK hP 4 0 rfl rfl e52 dX5_cross_52 ?_
          exact W.iret (pc := 53) (v := x52) hx hb hr (fun t ht hW => ⟨⟨_, (z_wM X d x44), rfl, ⟨z_e1 hf, congrArg (fun z => (z_wM X d z)) (z_e2 hf)⟩, by rw [ht]; exact hP, hD⟩, hS.F ht⟩) hS.2.2 dX5_cross_53
        · replace hf := z_ip c_32 hf
          refine lv_aload_n (pc := 35) hx hb dX5_cross_35 rfl (lv_at hl 0 rfl) ?_
          refine lv_iconst (v := 2) (pc := 36) hx hb dX5_cross_36 (by decide) ?_
          refine z_cmI (pc := 37) (W1 := (z_wM X d (f_X5_no x22.2 2).2)) S (m_X5_no l X d x22.2 2 rfl) (cwV 1 hts gX5_cross_X5_no rfl rfl rfl hdX5_no ⟨Nat.le_of_ble_eq_true rfl, Nat.le_of_ble_eq_true rfl⟩) hP hK hN hD hS hA (s_M_M X d x22.2) (f_M_M X d x22.2 ((f_X5_no x22.2 2).2)) (ci := 5) rfl rfl rfl ⟨Nat.le_of_ble_eq_true rfl, Nat.le_of_ble_eq_true rfl⟩ rfl hl.1 rfl (Nat.le_of_ble_eq_true rfl) dX5_cross_37 (fun H locs hP hD hS => ?_)
          exact W.iret (pc := 40) (v := (f_X5_no x22.2 2).1) hx hb hr (fun t ht hW => ⟨⟨_, (z_wM X d (f_X5_no x22.2 2).2), rfl, ⟨z_e1 hf, congrArg (fun z => (z_wM X d z)) (z_e2 hf)⟩, by rw [ht]; exact hP, hD⟩, hS.F ht⟩) hS.2.2 dX5_cross_40
      · replace hf := z_ip c_25 hf
        refine lv_iconst (v := 0) (pc := 28) hx hb dX5_cross_28 (by decide) ?_
        exact W.iret (pc := 29) (v := 0) hx hb hr (fun t ht hW => ⟨⟨_, (z_wM X d x22.2), rfl, ⟨z_e1 hf, congrArg (fun z => (z_wM X d z)) (z_e2 hf)⟩, by rw [ht]; exact hP, hD⟩, hS.F ht⟩) hS.2.2 dX5_cross_29
def f_X5_manyCut_L4 (M : z_M) : Nat → Int32 → Int32 → Option Int32
  | 0, _, _ => none
  | n + 1, u1, u2 => (if (M.1 1) ≤ u2 then some u1 else (z_at (M.2 4) u2 12).bind (fun x18 => (if x18 = 0 then f_X5_manyCut_L4 M n (u1 + 0) (u2 + 1) else f_X5_manyCut_L4 M n (u1 + 1) (u2 + 1))))
def f_X5_manyCut (M : z_M) : Option Int32 := (f_X5_manyCut_L4 M z_FU 0 0).bind (fun x4 => some x4)
set_option maxHeartbeats 4000000 in
set_option maxRecDepth 100000 in
theorem m_X5_manyCut (l : Launch) (X : z_X) (d : Nat → Nat) (M : z_M) {RR : Int32} (hf : f_X5_manyCut M = some RR) : z_pI l yX5_manyCut wsX5_manyCut 0 0 X [.ref (d 0)] (z_wM X d M) RR := by
  refine Met.ofW (cc := cX5_manyCut) (maxL := 3) (ret := (some .int)) (by decide) rfl ?_
  intro p e s m args below meth c s₁ Bd hml hv
  obtain ⟨rfl, hP, hK, hN⟩ := hv
  have hx := Bd.exec
  have hb := Bd.bytes
  have hr := Bd.returns
  have hts := atoms_spec (ws := wsX5_manyCut) Bd.pre
  have hown : s.vm.findClass RX5 = some m.cls := findClass_of_methodNamed Bd.named
  have hlocks := Bd.notSynchronized
  have S : CallFix p m c cX5_manyCut 3 s _ wsX5_manyCut RX5 := ⟨hx, hb, hml, hown, hts⟩
  have lk_fi39 := hts (.fieldLink RX5 39 "HouseBellsModel" "rooms" "I") (List.mem_of_getElem? (i := 1) rfl)
  have lk_fi22 := hts (.fieldLink RX5 22 "HouseBellsModel" "isCut" "[Z") (List.mem_of_getElem? (i := 2) rfl)
  have in_X5 : ∀ w ∈ wsX50, w ∈ wsX5_manyCut := fun _ h => (List.mem_cons_of_mem _ (List.mem_append_right _ h))
  have hl := lv_entry ([.ref (d 0)]) (n := 3) (Nat.le_of_ble_eq_true rfl)
  rw [lg_entry_eq]
  generalize (lg_sl ([.ref (d 0)]) ++ List.replicate (3 - (lg_sl ([.ref (d 0)])).length) Slot.unset).toArray = ls at hl ⊢
  have hl : lv_has ls 3 [(0, .ref (d 0))] := hl
  have lp_4 : ∀ (n : Nat) (u1 : Int32) (u2 : Int32) (T : Int32) (ls : Array Slot), lv_has ls 3 [(0, .ref (d 0)), (1, .int u1), (2, .int u2)] → f_X5_manyCut_L4 M n u1 u2 = some T → (∀ (ls : Array Slot), lv_has ls 3 [(1, .int T)] → W p l e (headSpec wsX5_manyCut (z_R 0 0)).room s m ([.ref (d 0)] : List Value).toArray below meth c s.heap [] 0 0 (MQ below (vp_Si (fun z => z = RR)) ([.ref (d 0)] : List Value).toArray s 0 0 (fun _ => False)) (F0 m 35 ls [])) → W p l e (headSpec wsX5_manyCut (z_R 0 0)).room s m ([.ref (d 0)] : List Value).toArray below meth c s.heap [] 0 0 (MQ below (vp_Si (fun z => z = RR)) ([.ref (d 0)] : List Value).toArray s 0 0 (fun _ => False)) (F0 m 4 ls []) := by
    intro n
    induction n with
    | zero =>
      intro u1 u2 T ls hl hf kk
      cases hf
    | succ n ih =>
      intro u1 u2 T ls hl hf kk
      rw [f_X5_manyCut_L4] at hf
      refine lv_iload_n (pc := 4) hx hb dX5_manyCut_4 rfl (lv_at hl 2 rfl) ?_
      refine lv_aload_n (pc := 5) hx hb dX5_manyCut_5 rfl (lv_at hl 0 rfl) ?_
      refine va_get (pc := 6) (ci := 5) (C := RX5) (T := TX5) (N := 11) hx hb hts in_X5 hown hK hP 0 rfl rfl 1 (by decide) lk_fi39 (fun _ h9 => h9) rfl dX5_manyCut_6 ?_
      refine lv_icmp_ge (pc := 9) (tgt := 35) hx hb dX5_manyCut_9 (by decide) (fun c_9 => ?_) (fun c_9 => ?_)
      · replace hf := z_ip c_9 hf
        obtain rfl := Option.some.inj hf
        exact kk ls (lv_sub hl [1] rfl)
      · replace hf := z_in c_9 hf
        refine lv_iload_n (pc := 12) hx hb dX5_manyCut_12 rfl (lv_at hl 1 rfl) ?_
        refine lv_aload_n (pc := 13) hx hb dX5_manyCut_13 rfl (lv_at hl 0 rfl) ?_
        refine va_get (pc := 14) (ci := 5) (C := RX5) (T := TX5) (N := 11) hx hb hts in_X5 hown hK hP 0 rfl rfl 7 (by decide) lk_fi22 (fun _ h9 => h9) rfl dX5_manyCut_14 ?_
        refine lv_iload_n (pc := 17) hx hb dX5_manyCut_17 rfl (lv_at hl 2 rfl) ?_
        obtain ⟨x18, e18, hf⟩ := z_bd hf
        refine z_zald (pc := 18) hx hb hK hP 5 1 rfl rfl e18 dX5_manyCut_18 ?_
        refine lv_if_eq (pc := 19) (tgt := 26) hx hb dX5_manyCut_19 (by decide) (fun c_19 => ?_) (fun c_19 => ?_)
        · replace hf := z_ip c_19 hf
          refine lv_iconst (v := 0) (pc := 26) hx hb dX5_manyCut_26 (by decide) ?_
          refine lv_iadd (pc := 27) hx hb dX5_manyCut_27 ?_
          refine lv_istore_n (pc := 28) (lv' := [(1, .int (u1 + 0)), (0, .ref (d 0)), (2, .int u2)]) hx hb dX5_manyCut_28 rfl hl (by decide) rfl (fun ls hl => ?_)
          refine lv_iinc (pc := 29) (v := (u2 + 1)) (lv' := [(2, .int (u2 + 1)), (1, .int (u1 + 0)), (0, .ref (d 0))]) hx hb dX5_manyCut_29 hl (k := 2) rfl rfl (by decide) rfl (fun ls hl => ?_)
          refine lv_goto (pc := 32) (tgt := 4) hx hb dX5_manyCut_32 (by decide) ?_
          exact ih (u1 + 0) (u2 + 1) T ls (lv_sub hl [2, 1, 0] rfl) hf kk
        · replace hf := z_in c_19 hf
          refine lv_iconst (v := 1) (pc := 22) hx hb dX5_manyCut_22 (by decide) ?_
          refine lv_goto (pc := 23) (tgt := 27) hx hb dX5_manyCut_23 (by decide) ?_
          refine lv_iadd (pc := 27) hx hb dX5_manyCut_27 ?_
          refine lv_istore_n (pc := 28) (lv' := [(1, .int (u1 + 1)), (0, .ref (d 0)), (2, .int u2)]) hx hb dX5_manyCut_28 rfl hl (by decide) rfl (fun ls hl => ?_)
          refine lv_iinc (pc := 29) (v := (u2 + 1)) (lv' := [(2, .int (u2 + 1)), (1, .int (u1 + 1)), (0, .ref (d 0))]) hx hb dX5_manyCut_29 hl (k := 2) rfl rfl (by decide) rfl (fun ls hl => ?_)
          refine lv_goto (pc := 32) (tgt := 4) hx hb dX5_manyCut_32 (by decide) ?_
          exact ih (u1 + 1) (u2 + 1) T ls (lv_sub hl [2, 1, 0] rfl) hf kk
  unfold f_X5_manyCut at hf
  refine lv_iconst (v := 0) (pc := 0) hx hb dX5_manyCut_0 (by decide) ?_
  refine lv_istore_n (pc := 1) (lv' := [(1, .int 0), (0, .ref (d 0))]) hx hb dX5_manyCut_1 rfl hl (by decide) rfl (fun ls hl => ?_)
  refine lv_iconst (v := 0) (pc := 2) hx hb dX5_manyCut_2 (by decide) ?_
  refine lv_istore_n (pc := 3) (lv' := [(2, .int 0), (1, .int 0), (0, .ref (d 0))]) hx hb dX5_manyCut_3 rfl hl (by decide) rfl (fun ls hl => ?_)
  obtain ⟨x4, e4, hf⟩ := z_bd hf
  refine lp_4 z_FU 0 0 x4 ls (lv_sub hl [2, 1, 0] rfl) e4 (fun ls hl => ?_)
  refine lv_iload_n (pc := 35) hx hb dX5_manyCut_35 rfl (lv_at hl 0 rfl) ?_
  exact W.iret (pc := 36) (v := x4) hx hb hr (fun t ht hW => ⟨_, rfl, (Option.some.inj hf), ht⟩) (fun _ h => nomatch h) dX5_manyCut_36
def f_X5_turn (M : z_M) (v1 : Int32) (v2 : Int32) : Option (Int32 × z_M) := (f_X5_isRoom M v1).bind (fun x3 => (f_X5_isKnown M x3).bind (fun x6 => (if x6.1 = 0 then some (0, x6.2) else (z_at (x6.2.2 4) v1 12).bind (fun x19 => (if x19 = v2 then some ((f_X5_no x6.2 2).1, (f_X5_no x6.2 2).2) else (z_wr (x6.2.2 4) v1 12 (vp_nar .boolean v2)).bind (fun x36 => (f_X5_manyCut (z_mR x6.2 4 x36)).bind (fun x38 => some (x38, (z_mR x6.2 4 x36)))))))))
set_option maxHeartbeats 4000000 in
set_option maxRecDepth 100000 in
theorem m_X5_turn (l : Launch) (X : z_X) (d : Nat → Nat) (M : z_M) (v1 : Int32) (v2 : Int32) {RR : (Int32 × z_M)} (hf : f_X5_turn M v1 v2 = some RR) : z_mI l yX5_turn wsX5_turn 2 43 X [.ref (d 0), .int v1, .int v2] (z_wM X d M) RR.1 (z_wM X d RR.2) := by
  intro sz
  refine Met.ofW (cc := cX5_turn) (maxL := 3) (ret := (some .int)) (by decide) rfl ?_
  intro p e s m args below meth c s₁ Bd hml hv
  obtain ⟨rfl, hsz, hP, hK, hN, hD0⟩ := hv
  have hx := Bd.exec
  have hb := Bd.bytes
  have hr := Bd.returns
  have hts := atoms_spec (ws := wsX5_turn) Bd.pre
  have hown : s.vm.findClass RX5 = some m.cls := findClass_of_methodNamed Bd.named
  have hlocks := Bd.notSynchronized
  have S : CallFix p m c cX5_turn 3 s _ wsX5_turn RX5 := ⟨hx, hb, hml, hown, hts⟩
  have lk_fi22 := hts (.fieldLink RX5 22 "HouseBellsModel" "isCut" "[Z") (List.mem_of_getElem? (i := 1) rfl)
  have in_X5 : ∀ w ∈ wsX50, w ∈ wsX5_turn := fun _ h => (List.mem_cons_of_mem _ (List.mem_append_right _ h))
  subst hsz
  have hD := hD0.self (sz := s.heap.size)
  generalize hAe : va_A (z_wM X d M) s.heap.size = A at hD ⊢
  have hA : ∀ q : Nat, s.heap.size ≤ q → A q := fun q h => by rw [← hAe]; exact Or.inr h
  have hS : va_S A s.heap s.heap [] := va_S.rf
  have hl := lv_entry ([.ref (d 0), .int v1, .int v2]) (n := 3) (Nat.le_of_ble_eq_true rfl)
  rw [lg_entry_eq]
  generalize (lg_sl ([.ref (d 0), .int v1, .int v2]) ++ List.replicate (3 - (lg_sl ([.ref (d 0), .int v1, .int v2])).length) Slot.unset).toArray = ls at hl ⊢
  have hl : lv_has ls 3 [(0, .ref (d 0)), (1, .int v1), (2, .int v2)] := hl
  suffices hgo : ∀ (H : Heap) (locs : List Loc), va_P X.1 vwCl (z_wM X d M) H → va_D A (z_wM X d M) → va_S A s.heap H locs → W p l e (headSpec wsX5_turn (z_R 2 43)).room s m ([.ref (d 0), .int v1, .int v2] : List Value).toArray below meth c H locs 0 0 (MQ below (va_Qi (fun (z : Int32) (u : va_W) => z = RR.1 ∧ u = (z_wM X d RR.2)) (z_Bm X A) A) ([.ref (d 0), .int v1, .int v2] : List Value).toArray s 0 0 A) (F0 m 0 ls []) from hgo _ _ hP hD hS
  clear hP hD hS
  intro H locs hP hD hS
  unfold f_X5_turn at hf
  refine lv_aload_n (pc := 0) hx hb dX5_turn_0 rfl (lv_at hl 0 rfl) ?_
  refine lv_aload_n (pc := 1) hx hb dX5_turn_1 rfl (lv_at hl 0 rfl) ?_
  refine lv_iload_n (pc := 2) hx hb dX5_turn_2 rfl (lv_at hl 1 rfl) ?_
  obtain ⟨x3, e3, hf⟩ := z_bd hf
  refine z_cpI (pc := 3) S (m_X5_isRoom l X d M v1 e3) (cwV 1 hts gX5_turn_X5_isRoom rfl rfl rfl hdX5_isRoom ⟨Nat.le_of_ble_eq_true rfl, Nat.le_of_ble_eq_true rfl⟩) hP hK hN (s_M_M X d M) (ci := 5) rfl rfl rfl ⟨Nat.le_of_ble_eq_true rfl, Nat.le_of_ble_eq_true rfl⟩ rfl hl.1 rfl (Nat.le_of_ble_eq_true rfl) dX5_turn_3 ?_
  obtain ⟨x6, e6, hf⟩ := z_bd hf
  refine z_cmI (pc := 6) (W1 := (z_wM X d x6.2)) S (m_X5_isKnown l X d M x3 e6) (cwV 1 hts gX5_turn_X5_isKnown rfl rfl rfl hdX5_isKnown ⟨Nat.le_of_ble_eq_true rfl, Nat.le_of_ble_eq_true rfl⟩) hP hK hN hD hS hA (s_M_M X d M) (f_M_M X d M x6.2) (ci := 5) rfl rfl rfl ⟨Nat.le_of_ble_eq_true rfl, Nat.le_of_ble_eq_true rfl⟩ rfl hl.1 rfl (Nat.le_of_ble_eq_true rfl) dX5_turn_6 (fun H locs hP hD hS => ?_)
  refine lv_if_ne (pc := 9) (tgt := 14) hx hb dX5_turn_9 (by decide) (fun c_9 => ?_) (fun c_9 => ?_)
  · replace hf := z_in c_9 hf
    refine lv_aload_n (pc := 14) hx hb dX5_turn_14 rfl (lv_at hl 0 rfl) ?_
    refine va_get (pc := 15) (ci := 5) (C := RX5) (T := TX5) (N := 11) hx hb hts in_X5 hown hK hP 0 rfl rfl 7 (by decide) lk_fi22 (fun _ h9 => h9) rfl dX5_turn_15 ?_
    refine lv_iload_n (pc := 18) hx hb dX5_turn_18 rfl (lv_at hl 1 rfl) ?_
    obtain ⟨x19, e19, hf⟩ := z_bd hf
    refine z_zald (pc := 19) hx hb hK hP 5 1 rfl rfl e19 dX5_turn_19 ?_
    refine lv_iload_n (pc := 20) hx hb dX5_turn_20 rfl (lv_at hl 2 rfl) ?_
    refine lv_icmp_ne (pc := 21) (tgt := 30) hx hb dX5_turn_21 (by decide) (fun c_21 => ?_) (fun c_21 => ?_)
    · replace hf := z_in c_21 hf
      refine lv_aload_n (pc := 30) hx hb dX5_turn_30 rfl (lv_at hl 0 rfl) ?_
      refine va_get (pc := 31) (ci := 5) (C := RX5) (T := TX5) (N := 11) hx hb hts in_X5 hown hK hP 0 rfl rfl 7 (by decide) lk_fi22 (fun _ h9 => h9) rfl dX5_turn_31 ?_
      refine lv_iload_n (pc := 34) hx hb dX5_turn_34 rfl (lv_at hl 1 rfl) ?_
      refine lv_iload_n (pc := 35) hx hb dX5_turn_35 rfl (lv_at hl 2 rfl) ?_
      obtain ⟨x36, e36, hf⟩ := z_bd hf
      refine z_zast (pc := 36) (W1 := (z_wM X d (z_mR x6.2 4 x36))) hx hb hK hP hD hS 5 1 rfl rfl e36 rfl dX5_turn_36 (fun H locs hP hD hS => ?_)
      refine lv_aload_n (pc := 37) hx hb dX5_turn_37 rfl (lv_at hl 0 rfl) ?_
      obtain ⟨x38, e38, hf⟩ := z_bd hf
      refine z_cpI (pc := 38) S (m_X5_manyCut l X d (z_mR x6.2 4 x36) e38) (cwV 0 hts gX5_turn_X5_manyCut rfl rfl rfl hdX5_manyCut ⟨Nat.le_of_ble_eq_true rfl, Nat.le_of_ble_eq_true rfl⟩) hP hK hN (s_M_M X d (z_mR x6.2 4 x36)) (ci := 5) rfl rfl rfl ⟨Nat.le_of_ble_eq_true rfl, Nat.le_of_ble_eq_true rfl⟩ rfl hl.1 rfl (Nat.le_of_ble_eq_true rfl) dX5_turn_38 ?_
      exact W.iret (pc := 41) (v := x38) hx hb hr (fun t ht hW => ⟨⟨_, (z_wM X d (z_mR x6.2 4 x36)), rfl, ⟨z_e1 hf, congrArg (fun z => (z_wM X d z)) (z_e2 hf)⟩, by rw [ht]; exact hP, hD⟩, hS.F ht⟩) hS.2.2 dX5_turn_41
    · replace hf := z_ip c_21 hf
      refine lv_aload_n (pc := 24) hx hb dX5_turn_24 rfl (lv_at hl 0 rfl) ?_
      refine lv_iconst (v := 2) (pc := 25) hx hb dX5_turn_25 (by decide) ?_
      refine z_cmI (pc := 26) (W1 := (z_wM X d (f_X5_no x6.2 2).2)) S (m_X5_no l X d x6.2 2 rfl) (cwV 1 hts gX5_turn_X5_no rfl rfl rfl hdX5_no ⟨Nat.le_of_ble_eq_true rfl, Nat.le_of_ble_eq_true rfl⟩) hP hK hN hD hS hA (s_M_M X d x6.2) (f_M_M X d x6.2 ((f_X5_no x6.2 2).2)) (ci := 5) rfl rfl rfl ⟨Nat.le_of_ble_eq_true rfl, Nat.le_of_ble_eq_true rfl⟩ rfl hl.1 rfl (Nat.le_of_ble_eq_true rfl) dX5_turn_26 (fun H locs hP hD hS => ?_)
      exact W.iret (pc := 29) (v := (f_X5_no x6.2 2).1) hx hb hr (fun t ht hW => ⟨⟨_, (z_wM X d (f_X5_no x6.2 2).2), rfl, ⟨z_e1 hf, congrArg (fun z => (z_wM X d z)) (z_e2 hf)⟩, by rw [ht]; exact hP, hD⟩, hS.F ht⟩) hS.2.2 dX5_turn_29
  · replace hf := z_ip c_9 hf
    refine lv_iconst (v := 0) (pc := 12) hx hb dX5_turn_12 (by decide) ?_
    exact W.iret (pc := 13) (v := 0) hx hb hr (fun t ht hW => ⟨⟨_, (z_wM X d x6.2), rfl, ⟨z_e1 hf, congrArg (fun z => (z_wM X d z)) (z_e2 hf)⟩, by rw [ht]; exact hP, hD⟩, hS.F ht⟩) hS.2.2 dX5_turn_13
def f_X5_cut (M : z_M) (v1 : Int32) : Option (Int32 × z_M) := (f_X5_turn M v1 1).bind (fun x3 => some (x3.1, x3.2))
set_option maxHeartbeats 4000000 in
set_option maxRecDepth 100000 in
theorem m_X5_cut (l : Launch) (X : z_X) (d : Nat → Nat) (M : z_M) (v1 : Int32) {RR : (Int32 × z_M)} (hf : f_X5_cut M v1 = some RR) : z_mI l yX5_cut wsX5_cut 3 65 X [.ref (d 0), .int v1] (z_wM X d M) RR.1 (z_wM X d RR.2) := by
  intro sz
  refine Met.ofW (cc := cX5_cut) (maxL := 2) (ret := (some .int)) (by decide) rfl ?_
  intro p e s m args below meth c s₁ Bd hml hv
  obtain ⟨rfl, hsz, hP, hK, hN, hD0⟩ := hv
  have hx := Bd.exec
  have hb := Bd.bytes
  have hr := Bd.returns
  have hts := atoms_spec (ws := wsX5_cut) Bd.pre
  have hown : s.vm.findClass RX5 = some m.cls := findClass_of_methodNamed Bd.named
  have hlocks := Bd.notSynchronized
  have S : CallFix p m c cX5_cut 2 s _ wsX5_cut RX5 := ⟨hx, hb, hml, hown, hts⟩
  subst hsz
  have hD := hD0.self (sz := s.heap.size)
  generalize hAe : va_A (z_wM X d M) s.heap.size = A at hD ⊢
  have hA : ∀ q : Nat, s.heap.size ≤ q → A q := fun q h => by rw [← hAe]; exact Or.inr h
  have hS : va_S A s.heap s.heap [] := va_S.rf
  have hl := lv_entry ([.ref (d 0), .int v1]) (n := 2) (Nat.le_of_ble_eq_true rfl)
  rw [lg_entry_eq]
  generalize (lg_sl ([.ref (d 0), .int v1]) ++ List.replicate (2 - (lg_sl ([.ref (d 0), .int v1])).length) Slot.unset).toArray = ls at hl ⊢
  have hl : lv_has ls 2 [(0, .ref (d 0)), (1, .int v1)] := hl
  suffices hgo : ∀ (H : Heap) (locs : List Loc), va_P X.1 vwCl (z_wM X d M) H → va_D A (z_wM X d M) → va_S A s.heap H locs → W p l e (headSpec wsX5_cut (z_R 3 65)).room s m ([.ref (d 0), .int v1] : List Value).toArray below meth c H locs 0 0 (MQ below (va_Qi (fun (z : Int32) (u : va_W) => z = RR.1 ∧ u = (z_wM X d RR.2)) (z_Bm X A) A) ([.ref (d 0), .int v1] : List Value).toArray s 0 0 A) (F0 m 0 ls []) from hgo _ _ hP hD hS
  clear hP hD hS
  intro H locs hP hD hS
  unfold f_X5_cut at hf
  refine lv_aload_n (pc := 0) hx hb dX5_cut_0 rfl (lv_at hl 0 rfl) ?_
  refine lv_iload_n (pc := 1) hx hb dX5_cut_1 rfl (lv_at hl 1 rfl) ?_
  refine lv_iconst (v := 1) (pc := 2) hx hb dX5_cut_2 (by decide) ?_
  obtain ⟨x3, e3, hf⟩ := z_bd hf
  refine z_cmI (pc := 3) (W1 := (z_wM X d x3.2)) S (m_X5_turn l X d M v1 1 e3) (cwV 2 hts gX5_cut_X5_turn rfl rfl rfl hdX5_turn ⟨Nat.le_of_ble_eq_true rfl, Nat.le_of_ble_eq_true rfl⟩) hP hK hN hD hS hA (s_M_M X d M) (f_M_M X d M x3.2) (ci := 5) rfl rfl rfl ⟨Nat.le_of_ble_eq_true rfl, Nat.le_of_ble_eq_true rfl⟩ rfl hl.1 rfl (Nat.le_of_ble_eq_true rfl) dX5_cut_3 (fun H locs hP hD hS => ?_)
  exact W.iret (pc := 6) (v := x3.1) hx hb hr (fun t ht hW => ⟨⟨_, (z_wM X d x3.2), rfl, ⟨z_e1 hf, congrArg (fun z => (z_wM X d z)) (z_e2 hf)⟩, by rw [ht]; exact hP, hD⟩, hS.F ht⟩) hS.2.2 dX5_cut_6
def f_X5_mend (M : z_M) (v1 : Int32) : Option (Int32 × z_M) := (f_X5_turn M v1 0).bind (fun x3 => some (x3.1, x3.2))
set_option maxHeartbeats 4000000 in
set_option maxRecDepth 100000 in
theorem m_X5_mend (l : Launch) (X : z_X) (d : Nat → Nat) (M : z_M) (v1 : Int32) {RR : (Int32 × z_M)} (hf : f_X5_mend M v1 = some RR) : z_mI l yX5_mend wsX5_mend 3 65 X [.ref (d 0), .int v1] (z_wM X d M) RR.1 (z_wM X d RR.2) := by
  intro sz
  refine Met.ofW (cc := cX5_mend) (maxL := 2) (ret := (some .int)) (by decide) rfl ?_
  intro p e s m args below meth c s₁ Bd hml hv
  obtain ⟨rfl, hsz, hP, hK, hN, hD0⟩ := hv
  have hx := Bd.exec
  have hb := Bd.bytes
  have hr := Bd.returns
  have hts := atoms_spec (ws := wsX5_mend) Bd.pre
  have hown : s.vm.findClass RX5 = some m.cls := findClass_of_methodNamed Bd.named
  have hlocks := Bd.notSynchronized
  have S : CallFix p m c cX5_mend 2 s _ wsX5_mend RX5 := ⟨hx, hb, hml, hown, hts⟩
  subst hsz
  have hD := hD0.self (sz := s.heap.size)
  generalize hAe : va_A (z_wM X d M) s.heap.size = A at hD ⊢
  have hA : ∀ q : Nat, s.heap.size ≤ q → A q := fun q h => by rw [← hAe]; exact Or.inr h
  have hS : va_S A s.heap s.heap [] := va_S.rf
  have hl := lv_entry ([.ref (d 0), .int v1]) (n := 2) (Nat.le_of_ble_eq_true rfl)
  rw [lg_entry_eq]
  generalize (lg_sl ([.ref (d 0), .int v1]) ++ List.replicate (2 - (lg_sl ([.ref (d 0), .int v1])).length) Slot.unset).toArray = ls at hl ⊢
  have hl : lv_has ls 2 [(0, .ref (d 0)), (1, .int v1)] := hl
  suffices hgo : ∀ (H : Heap) (locs : List Loc), va_P X.1 vwCl (z_wM X d M) H → va_D A (z_wM X d M) → va_S A s.heap H locs → W p l e (headSpec wsX5_mend (z_R 3 65)).room s m ([.ref (d 0), .int v1] : List Value).toArray below meth c H locs 0 0 (MQ below (va_Qi (fun (z : Int32) (u : va_W) => z = RR.1 ∧ u = (z_wM X d RR.2)) (z_Bm X A) A) ([.ref (d 0), .int v1] : List Value).toArray s 0 0 A) (F0 m 0 ls []) from hgo _ _ hP hD hS
  clear hP hD hS
  intro H locs hP hD hS
  unfold f_X5_mend at hf
  refine lv_aload_n (pc := 0) hx hb dX5_mend_0 rfl (lv_at hl 0 rfl) ?_
  refine lv_iload_n (pc := 1) hx hb dX5_mend_1 rfl (lv_at hl 1 rfl) ?_
  refine lv_iconst (v := 0) (pc := 2) hx hb dX5_mend_2 (by decide) ?_
  obtain ⟨x3, e3, hf⟩ := z_bd hf
  refine z_cmI (pc := 3) (W1 := (z_wM X d x3.2)) S (m_X5_turn l X d M v1 0 e3) (cwV 2 hts gX5_mend_X5_turn rfl rfl rfl hdX5_turn ⟨Nat.le_of_ble_eq_true rfl, Nat.le_of_ble_eq_true rfl⟩) hP hK hN hD hS hA (s_M_M X d M) (f_M_M X d M x3.2) (ci := 5) rfl rfl rfl ⟨Nat.le_of_ble_eq_true rfl, Nat.le_of_ble_eq_true rfl⟩ rfl hl.1 rfl (Nat.le_of_ble_eq_true rfl) dX5_mend_3 (fun H locs hP hD hS => ?_)
  exact W.iret (pc := 6) (v := x3.1) hx hb hr (fun t ht hW => ⟨⟨_, (z_wM X d x3.2), rfl, ⟨z_e1 hf, congrArg (fun z => (z_wM X d z)) (z_e2 hf)⟩, by rw [ht]; exact hP, hD⟩, hS.F ht⟩) hS.2.2 dX5_mend_6
def f_X5_recharge (M : z_M) (v1 : Int32) : Option (Int32 × z_M) := (if (f_X5_isIn v1 0 500) = 0 then some ((f_X5_no (z_mS M 0 0) 1).1, (f_X5_no (z_mS M 0 0) 1).2) else (z_at (M.2 6) 1 55).bind (fun x27 => (z_wr (M.2 6) 1 55 v1).bind (fun x35 => some (x27, (z_mR (z_mS M 0 0) 6 x35)))))
set_option maxHeartbeats 4000000 in
set_option maxRecDepth 100000 in
theorem m_X5_recharge (l : Launch) (X : z_X) (d : Nat → Nat) (M : z_M) (v1 : Int32) {RR : (Int32 × z_M)} (hf : f_X5_recharge M v1 = some RR) : z_mI l yX5_recharge wsX5_recharge 1 22 X [.ref (d 0), .int v1] (z_wM X d M) RR.1 (z_wM X d RR.2) := by
  intro sz
  refine Met.ofW (cc := cX5_recharge) (maxL := 3) (ret := (some .int)) (by decide) rfl ?_
  intro p e s m args below meth c s₁ Bd hml hv
  obtain ⟨rfl, hsz, hP, hK, hN, hD0⟩ := hv
  have hx := Bd.exec
  have hb := Bd.bytes
  have hr := Bd.returns
  have hts := atoms_spec (ws := wsX5_recharge) Bd.pre
  have hown : s.vm.findClass RX5 = some m.cls := findClass_of_methodNamed Bd.named
  have hlocks := Bd.notSynchronized
  have S : CallFix p m c cX5_recharge 3 s _ wsX5_recharge RX5 := ⟨hx, hb, hml, hown, hts⟩
  have lk_fi35 := hts (.fieldLink RX5 35 "HouseBellsModel" "thrown" "I") (List.mem_of_getElem? (i := 1) rfl)
  have lk_fi29 := hts (.fieldLink RX5 29 "HouseBellsModel" "now" "[I") (List.mem_of_getElem? (i := 2) rfl)
  have in_X5 : ∀ w ∈ wsX50, w ∈ wsX5_recharge := fun _ h => (List.mem_cons_of_mem _ (List.mem_append_right _ h))
  subst hsz
  have hD := hD0.self (sz := s.heap.size)
  generalize hAe : va_A (z_wM X d M) s.heap.size = A at hD ⊢
  have hA : ∀ q : Nat, s.heap.size ≤ q → A q := fun q h => by rw [← hAe]; exact Or.inr h
  have hS : va_S A s.heap s.heap [] := va_S.rf
  have hl := lv_entry ([.ref (d 0), .int v1]) (n := 3) (Nat.le_of_ble_eq_true rfl)
  rw [lg_entry_eq]
  generalize (lg_sl ([.ref (d 0), .int v1]) ++ List.replicate (3 - (lg_sl ([.ref (d 0), .int v1])).length) Slot.unset).toArray = ls at hl ⊢
  have hl : lv_has ls 3 [(0, .ref (d 0)), (1, .int v1)] := hl
  suffices hgo : ∀ (H : Heap) (locs : List Loc), va_P X.1 vwCl (z_wM X d M) H → va_D A (z_wM X d M) → va_S A s.heap H locs → W p l e (headSpec wsX5_recharge (z_R 1 22)).room s m ([.ref (d 0), .int v1] : List Value).toArray below meth c H locs 0 0 (MQ below (va_Qi (fun (z : Int32) (u : va_W) => z = RR.1 ∧ u = (z_wM X d RR.2)) (z_Bm X A) A) ([.ref (d 0), .int v1] : List Value).toArray s 0 0 A) (F0 m 0 ls []) from hgo _ _ hP hD hS
  clear hP hD hS
  intro H locs hP hD hS
  unfold f_X5_recharge at hf
  refine lv_aload_n (pc := 0) hx hb dX5_recharge_0 rfl (lv_at hl 0 rfl) ?_
  refine lv_iconst (v := 0) (pc := 1) hx hb dX5_recharge_1 (by decide) ?_
  refine z_put (pc := 2) (ci := 5) (C := RX5) (T := TX5) (N := 11) (W1 := (z_wM X d (z_mS M 0 0))) hx hb hts in_X5 tyX5 tyX5_ok nmX5 hown hK hP hD hS 0 rfl rfl 0 (by decide) lk_fi35 (fun _ h9 => h9) rfl (by decide +kernel) (Nat.le_of_ble_eq_true rfl) dX5_recharge_2 rfl (fun H locs hP hD hS => ?_)
  refine lv_iload_n (pc := 5) hx hb dX5_recharge_5 rfl (lv_at hl 1 rfl) ?_
  refine lv_iconst (v := 0) (pc := 6) hx hb dX5_recharge_6 (by decide) ?_
  refine lv_sipush (v := 500) (pc := 7) hx hb dX5_recharge_7 (by decide) ?_
  refine z_csI (pc := 10) S (m_X5_isIn l X v1 0 500 rfl) (va_cwS 3 hts gX5_recharge_X5_isIn rfl rfl rfl hdX5_isIn ⟨Nat.le_of_ble_eq_true rfl, Nat.le_of_ble_eq_true rfl⟩) hP hK hN (s_nil _) ⟨Nat.le_of_ble_eq_true rfl, Nat.le_of_ble_eq_true rfl⟩ rfl hl.1 rfl (Nat.le_of_ble_eq_true rfl) dX5_recharge_10 ?_
  refine lv_if_ne (pc := 13) (tgt := 22) hx hb dX5_recharge_13 (by decide) (fun c_13 => ?_) (fun c_13 => ?_)
  · replace hf := z_in c_13 hf
    refine lv_aload_n (pc := 22) hx hb dX5_recharge_22 rfl (lv_at hl 0 rfl) ?_
    refine va_get (pc := 23) (ci := 5) (C := RX5) (T := TX5) (N := 11) hx hb hts in_X5 hown hK hP 0 rfl rfl 9 (by decide) lk_fi29 (fun _ h9 => h9) rfl dX5_recharge_23 ?_
    refine lv_iconst (v := 1) (pc := 26) hx hb dX5_recharge_26 (by decide) ?_
    obtain ⟨x27, e27, hf⟩ := z_bd hf
    refine z_iald (pc := 27) hx hb hK hP 7 0 rfl rfl e27 dX5_recharge_27 ?_
    refine lv_istore_n (pc := 28) (lv' := [(2, .int x27), (0, .ref (d 0)), (1, .int v1)]) hx hb dX5_recharge_28 rfl hl (by decide) rfl (fun ls hl => ?_)
    refine lv_aload_n (pc := 29) hx hb dX5_recharge_29 rfl (lv_at hl 1 rfl) ?_
    refine va_get (pc := 30) (ci := 5) (C := RX5) (T := TX5) (N := 11) hx hb hts in_X5 hown hK hP 0 rfl rfl 9 (by decide) lk_fi29 (fun _ h9 => h9) rfl dX5_recharge_30 ?_
    refine lv_iconst (v := 1) (pc := 33) hx hb dX5_recharge_33 (by decide) ?_
    refine lv_iload_n (pc := 34) hx hb dX5_recharge_34 rfl (lv_at hl 2 rfl) ?_
    obtain ⟨x35, e35, hf⟩ := z_bd hf
    refine z_iast (pc := 35) (W1 := (z_wM X d (z_mR (z_mS M 0 0) 6 x35))) hx hb hK hP hD hS 7 0 rfl rfl e35 rfl dX5_recharge_35 (fun H locs hP hD hS => ?_)
    refine lv_iload_n (pc := 36) hx hb dX5_recharge_36 rfl (lv_at hl 0 rfl) ?_
    exact W.iret (pc := 37) (v := x27) hx hb hr (fun t ht hW => ⟨⟨_, (z_wM X d (z_mR (z_mS M 0 0) 6 x35)), rfl, ⟨z_e1 hf, congrArg (fun z => (z_wM X d z)) (z_e2 hf)⟩, by rw [ht]; exact hP, hD⟩, hS.F ht⟩) hS.2.2 dX5_recharge_37
  · replace hf := z_ip c_13 hf
    refine lv_aload_n (pc := 16) hx hb dX5_recharge_16 rfl (lv_at hl 0 rfl) ?_
    refine lv_iconst (v := 1) (pc := 17) hx hb dX5_recharge_17 (by decide) ?_
    refine z_cmI (pc := 18) (W1 := (z_wM X d (f_X5_no (z_mS M 0 0) 1).2)) S (m_X5_no l X d (z_mS M 0 0) 1 rfl) (cwV 1 hts gX5_recharge_X5_no rfl rfl rfl hdX5_no ⟨Nat.le_of_ble_eq_true rfl, Nat.le_of_ble_eq_true rfl⟩) hP hK hN hD hS hA (s_M_M X d (z_mS M 0 0)) (f_M_M X d (z_mS M 0 0) ((f_X5_no (z_mS M 0 0) 1).2)) (ci := 5) rfl rfl rfl ⟨Nat.le_of_ble_eq_true rfl, Nat.le_of_ble_eq_true rfl⟩ rfl hl.1 rfl (Nat.le_of_ble_eq_true rfl) dX5_recharge_18 (fun H locs hP hD hS => ?_)
    exact W.iret (pc := 21) (v := (f_X5_no (z_mS M 0 0) 1).1) hx hb hr (fun t ht hW => ⟨⟨_, (z_wM X d (f_X5_no (z_mS M 0 0) 1).2), rfl, ⟨z_e1 hf, congrArg (fun z => (z_wM X d z)) (z_e2 hf)⟩, by rw [ht]; exact hP, hD⟩, hS.F ht⟩) hS.2.2 dX5_recharge_21
def f_X5_putUp (M : z_M) (v1 : Int32) : Option (Int32 × z_M) := (f_X5_isRoom M v1).bind (fun x3 => (f_X5_isKnown M x3).bind (fun x6 => (if x6.1 = 0 then some (0, x6.2) else (f_X5_inLine x6.2 v1).bind (fun x16 => (if x16 = (-1) then some ((f_X5_no x6.2 2).1, (f_X5_no x6.2 2).2) else (f_X5_takeOut x6.2 x16).bind (fun x33 => (z_at (x33.2 6) 6 55).bind (fun x42 => some (x42, x33))))))))
set_option maxHeartbeats 4000000 in
set_option maxRecDepth 100000 in
theorem m_X5_putUp (l : Launch) (X : z_X) (d : Nat → Nat) (M : z_M) (v1 : Int32) {RR : (Int32 × z_M)} (hf : f_X5_putUp M v1 = some RR) : z_mI l yX5_putUp wsX5_putUp 2 43 X [.ref (d 0), .int v1] (z_wM X d M) RR.1 (z_wM X d RR.2) := by
  intro sz
  refine Met.ofW (cc := cX5_putUp) (maxL := 3) (ret := (some .int)) (by decide) rfl ?_
  intro p e s m args below meth c s₁ Bd hml hv
  obtain ⟨rfl, hsz, hP, hK, hN, hD0⟩ := hv
  have hx := Bd.exec
  have hb := Bd.bytes
  have hr := Bd.returns
  have hts := atoms_spec (ws := wsX5_putUp) Bd.pre
  have hown : s.vm.findClass RX5 = some m.cls := findClass_of_methodNamed Bd.named
  have hlocks := Bd.notSynchronized
  have S : CallFix p m c cX5_putUp 3 s _ wsX5_putUp RX5 := ⟨hx, hb, hml, hown, hts⟩
  have lk_fi29 := hts (.fieldLink RX5 29 "HouseBellsModel" "now" "[I") (List.mem_of_getElem? (i := 1) rfl)
  have in_X5 : ∀ w ∈ wsX50, w ∈ wsX5_putUp := fun _ h => (List.mem_cons_of_mem _ (List.mem_append_right _ h))
  subst hsz
  have hD := hD0.self (sz := s.heap.size)
  generalize hAe : va_A (z_wM X d M) s.heap.size = A at hD ⊢
  have hA : ∀ q : Nat, s.heap.size ≤ q → A q := fun q h => by rw [← hAe]; exact Or.inr h
  have hS : va_S A s.heap s.heap [] := va_S.rf
  have hl := lv_entry ([.ref (d 0), .int v1]) (n := 3) (Nat.le_of_ble_eq_true rfl)
  rw [lg_entry_eq]
  generalize (lg_sl ([.ref (d 0), .int v1]) ++ List.replicate (3 - (lg_sl ([.ref (d 0), .int v1])).length) Slot.unset).toArray = ls at hl ⊢
  have hl : lv_has ls 3 [(0, .ref (d 0)), (1, .int v1)] := hl
  suffices hgo : ∀ (H : Heap) (locs : List Loc), va_P X.1 vwCl (z_wM X d M) H → va_D A (z_wM X d M) → va_S A s.heap H locs → W p l e (headSpec wsX5_putUp (z_R 2 43)).room s m ([.ref (d 0), .int v1] : List Value).toArray below meth c H locs 0 0 (MQ below (va_Qi (fun (z : Int32) (u : va_W) => z = RR.1 ∧ u = (z_wM X d RR.2)) (z_Bm X A) A) ([.ref (d 0), .int v1] : List Value).toArray s 0 0 A) (F0 m 0 ls []) from hgo _ _ hP hD hS
  clear hP hD hS
  intro H locs hP hD hS
  unfold f_X5_putUp at hf
  refine lv_aload_n (pc := 0) hx hb dX5_putUp_0 rfl (lv_at hl 0 rfl) ?_
  refine lv_aload_n (pc := 1) hx hb dX5_putUp_1 rfl (lv_at hl 0 rfl) ?_
  refine lv_iload_n (pc := 2) hx hb dX5_putUp_2 rfl (lv_at hl 1 rfl) ?_
  obtain ⟨x3, e3, hf⟩ := z_bd hf
  refine z_cpI (pc := 3) S (m_X5_isRoom l X d M v1 e3) (cwV 1 hts gX5_putUp_X5_isRoom rfl rfl rfl hdX5_isRoom ⟨Nat.le_of_ble_eq_true rfl, Nat.le_of_ble_eq_true rfl⟩) hP hK hN (s_M_M X d M) (ci := 5) rfl rfl rfl ⟨Nat.le_of_ble_eq_true rfl, Nat.le_of_ble_eq_true rfl⟩ rfl hl.1 rfl (Nat.le_of_ble_eq_true rfl) dX5_putUp_3 ?_
  obtain ⟨x6, e6, hf⟩ := z_bd hf
  refine z_cmI (pc := 6) (W1 := (z_wM X d x6.2)) S (m_X5_isKnown l X d M x3 e6) (cwV 1 hts gX5_putUp_X5_isKnown rfl rfl rfl hdX5_isKnown ⟨Nat.le_of_ble_eq_true rfl, Nat.le_of_ble_eq_true rfl⟩) hP hK hN hD hS hA (s_M_M X d M) (f_M_M X d M x6.2) (ci := 5) rfl rfl rfl ⟨Nat.le_of_ble_eq_true rfl, Nat.le_of_ble_eq_true rfl⟩ rfl hl.1 rfl (Nat.le_of_ble_eq_true rfl) dX5_putUp_6 (fun H locs hP hD hS => ?_)
  refine lv_if_ne (pc := 9) (tgt := 14) hx hb dX5_putUp_9 (by decide) (fun c_9 => ?_) (fun c_9 => ?_)
  · replace hf := z_in c_9 hf
    refine lv_aload_n (pc := 14) hx hb dX5_putUp_14 rfl (lv_at hl 0 rfl) ?_
    refine lv_iload_n (pc := 15) hx hb dX5_putUp_15 rfl (lv_at hl 1 rfl) ?_
    obtain ⟨x16, e16, hf⟩ := z_bd hf
    refine z_cpI (pc := 16) S (m_X5_inLine l X d x6.2 v1 e16) (cwV 1 hts gX5_putUp_X5_inLine rfl rfl rfl hdX5_inLine ⟨Nat.le_of_ble_eq_true rfl, Nat.le_of_ble_eq_true rfl⟩) hP hK hN (s_M_M X d x6.2) (ci := 5) rfl rfl rfl ⟨Nat.le_of_ble_eq_true rfl, Nat.le_of_ble_eq_true rfl⟩ rfl hl.1 rfl (Nat.le_of_ble_eq_true rfl) dX5_putUp_16 ?_
    refine lv_istore_n (pc := 19) (lv' := [(2, .int x16), (0, .ref (d 0)), (1, .int v1)]) hx hb dX5_putUp_19 rfl hl (by decide) rfl (fun ls hl => ?_)
    refine lv_iload_n (pc := 20) hx hb dX5_putUp_20 rfl (lv_at hl 0 rfl) ?_
    refine lv_iconst (v := (-1)) (pc := 21) hx hb dX5_putUp_21 (by decide) ?_
    refine lv_icmp_ne (pc := 22) (tgt := 31) hx hb dX5_putUp_22 (by decide) (fun c_22 => ?_) (fun c_22 => ?_)
    · replace hf := z_in c_22 hf
      refine lv_aload_n (pc := 31) hx hb dX5_putUp_31 rfl (lv_at hl 1 rfl) ?_
      refine lv_iload_n (pc := 32) hx hb dX5_putUp_32 rfl (lv_at hl 0 rfl) ?_
      obtain ⟨x33, e33, hf⟩ := z_bd hf
      refine z_cmV (pc := 33) (W1 := (z_wM X d x33)) S (m_X5_takeOut l X d x6.2 x16 e33) (cwV 1 hts gX5_putUp_X5_takeOut rfl rfl rfl hdX5_takeOut ⟨Nat.le_of_ble_eq_true rfl, Nat.le_of_ble_eq_true rfl⟩) hP hK hN hD hS hA (s_M_M X d x6.2) (f_M_M X d x6.2 x33) (ci := 5) rfl rfl rfl ⟨Nat.le_of_ble_eq_true rfl, Nat.le_of_ble_eq_true rfl⟩ rfl hl.1 rfl (Nat.le_of_ble_eq_true rfl) dX5_putUp_33 (fun H locs hP hD hS => ?_)
      refine lv_aload_n (pc := 36) hx hb dX5_putUp_36 rfl (lv_at hl 1 rfl) ?_
      refine va_get (pc := 37) (ci := 5) (C := RX5) (T := TX5) (N := 11) hx hb hts in_X5 hown hK hP 0 rfl rfl 9 (by decide) lk_fi29 (fun _ h9 => h9) rfl dX5_putUp_37 ?_
      refine lv_bipush (v := 6) (pc := 40) hx hb dX5_putUp_40 (by decide) ?_
      obtain ⟨x42, e42, hf⟩ := z_bd hf
      refine z_iald (pc := 42) hx hb hK hP 7 0 rfl rfl e42 dX5_putUp_42 ?_
      exact W.iret (pc := 43) (v := x42) hx hb hr (fun t ht hW => ⟨⟨_, (z_wM X d x33), rfl, ⟨z_e1 hf, congrArg (fun z => (z_wM X d z)) (z_e2 hf)⟩, by rw [ht]; exact hP, hD⟩, hS.F ht⟩) hS.2.2 dX5_putUp_43
    · replace hf := z_ip c_22 hf
      refine lv_aload_n (pc := 25) hx hb dX5_putUp_25 rfl (lv_at hl 1 rfl) ?_
      refine lv_iconst (v := 2) (pc := 26) hx hb dX5_putUp_26 (by decide) ?_
      refine z_cmI (pc := 27) (W1 := (z_wM X d (f_X5_no x6.2 2).2)) S (m_X5_no l X d x6.2 2 rfl) (cwV 1 hts gX5_putUp_X5_no rfl rfl rfl hdX5_no ⟨Nat.le_of_ble_eq_true rfl, Nat.le_of_ble_eq_true rfl⟩) hP hK hN hD hS hA (s_M_M X d x6.2) (f_M_M X d x6.2 ((f_X5_no x6.2 2).2)) (ci := 5) rfl rfl rfl ⟨Nat.le_of_ble_eq_true rfl, Nat.le_of_ble_eq_true rfl⟩ rfl hl.1 rfl (Nat.le_of_ble_eq_true rfl) dX5_putUp_27 (fun H locs hP hD hS => ?_)
      exact W.iret (pc := 30) (v := (f_X5_no x6.2 2).1) hx hb hr (fun t ht hW => ⟨⟨_, (z_wM X d (f_X5_no x6.2 2).2), rfl, ⟨z_e1 hf, congrArg (fun z => (z_wM X d z)) (z_e2 hf)⟩, by rw [ht]; exact hP, hD⟩, hS.F ht⟩) hS.2.2 dX5_putUp_30
  · replace hf := z_ip c_9 hf
    refine lv_iconst (v := 0) (pc := 12) hx hb dX5_putUp_12 (by decide) ?_
    exact W.iret (pc := 13) (v := 0) hx hb hr (fun t ht hW => ⟨⟨_, (z_wM X d x6.2), rfl, ⟨z_e1 hf, congrArg (fun z => (z_wM X d z)) (z_e2 hf)⟩, by rw [ht]; exact hP, hD⟩, hS.F ht⟩) hS.2.2 dX5_putUp_13
def f_X5_pass (M : z_M) (v1 : Int32) : Option (Int32 × z_M) := (if (f_X5_isIn v1 1 60) = 0 then some ((f_X5_no (z_mS M 0 0) 1).1, (f_X5_no (z_mS M 0 0) 1).2) else (z_at (M.2 6) 2 55).bind (fun x26 => (f_X5_minutesOn (z_mS M 0 0) v1).bind (fun x30 => (z_at (x30.2 6) 2 55).bind (fun x38 => some ((x38 - x26), x30)))))
set_option maxHeartbeats 4000000 in
set_option maxRecDepth 100000 in
theorem m_X5_pass (l : Launch) (X : z_X) (d : Nat → Nat) (M : z_M) (v1 : Int32) {RR : (Int32 × z_M)} (hf : f_X5_pass M v1 = some RR) : z_mI l yX5_pass wsX5_pass 6 135 X [.ref (d 0), .int v1] (z_wM X d M) RR.1 (z_wM X d RR.2) := by
  intro sz
  refine Met.ofW (cc := cX5_pass) (maxL := 3) (ret := (some .int)) (by decide) rfl ?_
  intro p e s m args below meth c s₁ Bd hml hv
  obtain ⟨rfl, hsz, hP, hK, hN, hD0⟩ := hv
  have hx := Bd.exec
  have hb := Bd.bytes
  have hr := Bd.returns
  have hts := atoms_spec (ws := wsX5_pass) Bd.pre
  have hown : s.vm.findClass RX5 = some m.cls := findClass_of_methodNamed Bd.named
  have hlocks := Bd.notSynchronized
  have S : CallFix p m c cX5_pass 3 s _ wsX5_pass RX5 := ⟨hx, hb, hml, hown, hts⟩
  have lk_fi35 := hts (.fieldLink RX5 35 "HouseBellsModel" "thrown" "I") (List.mem_of_getElem? (i := 1) rfl)
  have lk_fi29 := hts (.fieldLink RX5 29 "HouseBellsModel" "now" "[I") (List.mem_of_getElem? (i := 2) rfl)
  have in_X5 : ∀ w ∈ wsX50, w ∈ wsX5_pass := fun _ h => (List.mem_cons_of_mem _ (List.mem_append_right _ h))
  subst hsz
  have hD := hD0.self (sz := s.heap.size)
  generalize hAe : va_A (z_wM X d M) s.heap.size = A at hD ⊢
  have hA : ∀ q : Nat, s.heap.size ≤ q → A q := fun q h => by rw [← hAe]; exact Or.inr h
  have hS : va_S A s.heap s.heap [] := va_S.rf
  have hl := lv_entry ([.ref (d 0), .int v1]) (n := 3) (Nat.le_of_ble_eq_true rfl)
  rw [lg_entry_eq]
  generalize (lg_sl ([.ref (d 0), .int v1]) ++ List.replicate (3 - (lg_sl ([.ref (d 0), .int v1])).length) Slot.unset).toArray = ls at hl ⊢
  have hl : lv_has ls 3 [(0, .ref (d 0)), (1, .int v1)] := hl
  suffices hgo : ∀ (H : Heap) (locs : List Loc), va_P X.1 vwCl (z_wM X d M) H → va_D A (z_wM X d M) → va_S A s.heap H locs → W p l e (headSpec wsX5_pass (z_R 6 135)).room s m ([.ref (d 0), .int v1] : List Value).toArray below meth c H locs 0 0 (MQ below (va_Qi (fun (z : Int32) (u : va_W) => z = RR.1 ∧ u = (z_wM X d RR.2)) (z_Bm X A) A) ([.ref (d 0), .int v1] : List Value).toArray s 0 0 A) (F0 m 0 ls []) from hgo _ _ hP hD hS
  clear hP hD hS
  intro H locs hP hD hS
  unfold f_X5_pass at hf
  refine lv_aload_n (pc := 0) hx hb dX5_pass_0 rfl (lv_at hl 0 rfl) ?_
  refine lv_iconst (v := 0) (pc := 1) hx hb dX5_pass_1 (by decide) ?_
  refine z_put (pc := 2) (ci := 5) (C := RX5) (T := TX5) (N := 11) (W1 := (z_wM X d (z_mS M 0 0))) hx hb hts in_X5 tyX5 tyX5_ok nmX5 hown hK hP hD hS 0 rfl rfl 0 (by decide) lk_fi35 (fun _ h9 => h9) rfl (by decide +kernel) (Nat.le_of_ble_eq_true rfl) dX5_pass_2 rfl (fun H locs hP hD hS => ?_)
  refine lv_iload_n (pc := 5) hx hb dX5_pass_5 rfl (lv_at hl 1 rfl) ?_
  refine lv_iconst (v := 1) (pc := 6) hx hb dX5_pass_6 (by decide) ?_
  refine lv_bipush (v := 60) (pc := 7) hx hb dX5_pass_7 (by decide) ?_
  refine z_csI (pc := 9) S (m_X5_isIn l X v1 1 60 rfl) (va_cwS 3 hts gX5_pass_X5_isIn rfl rfl rfl hdX5_isIn ⟨Nat.le_of_ble_eq_true rfl, Nat.le_of_ble_eq_true rfl⟩) hP hK hN (s_nil _) ⟨Nat.le_of_ble_eq_true rfl, Nat.le_of_ble_eq_true rfl⟩ rfl hl.1 rfl (Nat.le_of_ble_eq_true rfl) dX5_pass_9 ?_
  refine lv_if_ne (pc := 12) (tgt := 21) hx hb dX5_pass_12 (by decide) (fun c_12 => ?_) (fun c_12 => ?_)
  · replace hf := z_in c_12 hf
    refine lv_aload_n (pc := 21) hx hb dX5_pass_21 rfl (lv_at hl 0 rfl) ?_
    refine va_get (pc := 22) (ci := 5) (C := RX5) (T := TX5) (N := 11) hx hb hts in_X5 hown hK hP 0 rfl rfl 9 (by decide) lk_fi29 (fun _ h9 => h9) rfl dX5_pass_22 ?_
    refine lv_iconst (v := 2) (pc := 25) hx hb dX5_pass_25 (by decide) ?_
    obtain ⟨x26, e26, hf⟩ := z_bd hf
    refine z_iald (pc := 26) hx hb hK hP 7 0 rfl rfl e26 dX5_pass_26 ?_
    refine lv_istore_n (pc := 27) (lv' := [(2, .int x26), (0, .ref (d 0)), (1, .int v1)]) hx hb dX5_pass_27 rfl hl (by decide) rfl (fun ls hl => ?_)
    refine lv_aload_n (pc := 28) hx hb dX5_pass_28 rfl (lv_at hl 1 rfl) ?_
    refine lv_iload_n (pc := 29) hx hb dX5_pass_29 rfl (lv_at hl 2 rfl) ?_
    obtain ⟨x30, e30, hf⟩ := z_bd hf
    refine z_cmV (pc := 30) (W1 := (z_wM X d x30)) S (m_X5_minutesOn l X d (z_mS M 0 0) v1 e30) (cwV 1 hts gX5_pass_X5_minutesOn rfl rfl rfl hdX5_minutesOn ⟨Nat.le_of_ble_eq_true rfl, Nat.le_of_ble_eq_true rfl⟩) hP hK hN hD hS hA (s_M_M X d (z_mS M 0 0)) (f_M_M X d (z_mS M 0 0) x30) (ci := 5) rfl rfl rfl ⟨Nat.le_of_ble_eq_true rfl, Nat.le_of_ble_eq_true rfl⟩ rfl hl.1 rfl (Nat.le_of_ble_eq_true rfl) dX5_pass_30 (fun H locs hP hD hS => ?_)
    refine lv_aload_n (pc := 33) hx hb dX5_pass_33 rfl (lv_at hl 1 rfl) ?_
    refine va_get (pc := 34) (ci := 5) (C := RX5) (T := TX5) (N := 11) hx hb hts in_X5 hown hK hP 0 rfl rfl 9 (by decide) lk_fi29 (fun _ h9 => h9) rfl dX5_pass_34 ?_
    refine lv_iconst (v := 2) (pc := 37) hx hb dX5_pass_37 (by decide) ?_
    obtain ⟨x38, e38, hf⟩ := z_bd hf
    refine z_iald (pc := 38) hx hb hK hP 7 0 rfl rfl e38 dX5_pass_38 ?_
    refine lv_iload_n (pc := 39) hx hb dX5_pass_39 rfl (lv_at hl 0 rfl) ?_
    refine lv_isub (pc := 40) hx hb dX5_pass_40 ?_
    exact W.iret (pc := 41) (v := (x38 - x26)) hx hb hr (fun t ht hW => ⟨⟨_, (z_wM X d x30), rfl, ⟨z_e1 hf, congrArg (fun z => (z_wM X d z)) (z_e2 hf)⟩, by rw [ht]; exact hP, hD⟩, hS.F ht⟩) hS.2.2 dX5_pass_41
  · replace hf := z_ip c_12 hf
    refine lv_aload_n (pc := 15) hx hb dX5_pass_15 rfl (lv_at hl 0 rfl) ?_
    refine lv_iconst (v := 1) (pc := 16) hx hb dX5_pass_16 (by decide) ?_
    refine z_cmI (pc := 17) (W1 := (z_wM X d (f_X5_no (z_mS M 0 0) 1).2)) S (m_X5_no l X d (z_mS M 0 0) 1 rfl) (cwV 1 hts gX5_pass_X5_no rfl rfl rfl hdX5_no ⟨Nat.le_of_ble_eq_true rfl, Nat.le_of_ble_eq_true rfl⟩) hP hK hN hD hS hA (s_M_M X d (z_mS M 0 0)) (f_M_M X d (z_mS M 0 0) ((f_X5_no (z_mS M 0 0) 1).2)) (ci := 5) rfl rfl rfl ⟨Nat.le_of_ble_eq_true rfl, Nat.le_of_ble_eq_true rfl⟩ rfl hl.1 rfl (Nat.le_of_ble_eq_true rfl) dX5_pass_17 (fun H locs hP hD hS => ?_)
    exact W.iret (pc := 20) (v := (f_X5_no (z_mS M 0 0) 1).1) hx hb hr (fun t ht hW => ⟨⟨_, (z_wM X d (f_X5_no (z_mS M 0 0) 1).2), rfl, ⟨z_e1 hf, congrArg (fun z => (z_wM X d z)) (z_e2 hf)⟩, by rw [ht]; exact hP, hD⟩, hS.F ht⟩) hS.2.2 dX5_pass_20
def f_X5_minute (M : z_M) : Option (Int32 × z_M) := (z_at (M.2 6) 0 55).bind (fun x6 => some ((f_X5_ok M x6).1, (f_X5_ok M x6).2))
set_option maxHeartbeats 4000000 in
set_option maxRecDepth 100000 in
theorem m_X5_minute (l : Launch) (X : z_X) (d : Nat → Nat) (M : z_M) {RR : (Int32 × z_M)} (hf : f_X5_minute M = some RR) : z_mI l yX5_minute wsX5_minute 1 21 X [.ref (d 0)] (z_wM X d M) RR.1 (z_wM X d RR.2) := by
  intro sz
  refine Met.ofW (cc := cX5_minute) (maxL := 1) (ret := (some .int)) (by decide) rfl ?_
  intro p e s m args below meth c s₁ Bd hml hv
  obtain ⟨rfl, hsz, hP, hK, hN, hD0⟩ := hv
  have hx := Bd.exec
  have hb := Bd.bytes
  have hr := Bd.returns
  have hts := atoms_spec (ws := wsX5_minute) Bd.pre
  have hown : s.vm.findClass RX5 = some m.cls := findClass_of_methodNamed Bd.named
  have hlocks := Bd.notSynchronized
  have S : CallFix p m c cX5_minute 1 s _ wsX5_minute RX5 := ⟨hx, hb, hml, hown, hts⟩
  have lk_fi29 := hts (.fieldLink RX5 29 "HouseBellsModel" "now" "[I") (List.mem_of_getElem? (i := 1) rfl)
  have in_X5 : ∀ w ∈ wsX50, w ∈ wsX5_minute := fun _ h => (List.mem_cons_of_mem _ (List.mem_append_right _ h))
  subst hsz
  have hD := hD0.self (sz := s.heap.size)
  generalize hAe : va_A (z_wM X d M) s.heap.size = A at hD ⊢
  have hA : ∀ q : Nat, s.heap.size ≤ q → A q := fun q h => by rw [← hAe]; exact Or.inr h
  have hS : va_S A s.heap s.heap [] := va_S.rf
  have hl := lv_entry ([.ref (d 0)]) (n := 1) (Nat.le_of_ble_eq_true rfl)
  rw [lg_entry_eq]
  generalize (lg_sl ([.ref (d 0)]) ++ List.replicate (1 - (lg_sl ([.ref (d 0)])).length) Slot.unset).toArray = ls at hl ⊢
  have hl : lv_has ls 1 [(0, .ref (d 0))] := hl
  suffices hgo : ∀ (H : Heap) (locs : List Loc), va_P X.1 vwCl (z_wM X d M) H → va_D A (z_wM X d M) → va_S A s.heap H locs → W p l e (headSpec wsX5_minute (z_R 1 21)).room s m ([.ref (d 0)] : List Value).toArray below meth c H locs 0 0 (MQ below (va_Qi (fun (z : Int32) (u : va_W) => z = RR.1 ∧ u = (z_wM X d RR.2)) (z_Bm X A) A) ([.ref (d 0)] : List Value).toArray s 0 0 A) (F0 m 0 ls []) from hgo _ _ hP hD hS
  clear hP hD hS
  intro H locs hP hD hS
  unfold f_X5_minute at hf
  refine lv_aload_n (pc := 0) hx hb dX5_minute_0 rfl (lv_at hl 0 rfl) ?_
  refine lv_aload_n (pc := 1) hx hb dX5_minute_1 rfl (lv_at hl 0 rfl) ?_
  refine va_get (pc := 2) (ci := 5) (C := RX5) (T := TX5) (N := 11) hx hb hts in_X5 hown hK hP 0 rfl rfl 9 (by decide) lk_fi29 (fun _ h9 => h9) rfl dX5_minute_2 ?_
  refine lv_iconst (v := 0) (pc := 5) hx hb dX5_minute_5 (by decide) ?_
  obtain ⟨x6, e6, hf⟩ := z_bd hf
  refine z_iald (pc := 6) hx hb hK hP 7 0 rfl rfl e6 dX5_minute_6 ?_
  refine z_cmI (pc := 7) (W1 := (z_wM X d (f_X5_ok M x6).2)) S (m_X5_ok l X d M x6 rfl) (cwV 1 hts gX5_minute_X5_ok rfl rfl rfl hdX5_ok ⟨Nat.le_of_ble_eq_true rfl, Nat.le_of_ble_eq_true rfl⟩) hP hK hN hD hS hA (s_M_M X d M) (f_M_M X d M ((f_X5_ok M x6).2)) (ci := 5) rfl rfl rfl ⟨Nat.le_of_ble_eq_true rfl, Nat.le_of_ble_eq_true rfl⟩ rfl hl.1 rfl (Nat.le_of_ble_eq_true rfl) dX5_minute_7 (fun H locs hP hD hS => ?_)
  exact W.iret (pc := 10) (v := (f_X5_ok M x6).1) hx hb hr (fun t ht hW => ⟨⟨_, (z_wM X d (f_X5_ok M x6).2), rfl, ⟨z_e1 hf, congrArg (fun z => (z_wM X d z)) (z_e2 hf)⟩, by rw [ht]; exact hP, hD⟩, hS.F ht⟩) hS.2.2 dX5_minute_10
def f_X5_rooms (M : z_M) : (Int32 × z_M) := ((f_X5_ok M (M.1 1)).1, (f_X5_ok M (M.1 1)).2)
set_option maxHeartbeats 4000000 in
set_option maxRecDepth 100000 in
theorem m_X5_rooms (l : Launch) (X : z_X) (d : Nat → Nat) (M : z_M) {RR : (Int32 × z_M)} (hf : f_X5_rooms M = RR) : z_mI l yX5_rooms wsX5_rooms 1 21 X [.ref (d 0)] (z_wM X d M) RR.1 (z_wM X d RR.2) := by
  intro sz
  refine Met.ofW (cc := cX5_rooms) (maxL := 1) (ret := (some .int)) (by decide) rfl ?_
  intro p e s m args below meth c s₁ Bd hml hv
  obtain ⟨rfl, hsz, hP, hK, hN, hD0⟩ := hv
  have hx := Bd.exec
  have hb := Bd.bytes
  have hr := Bd.returns
  have hts := atoms_spec (ws := wsX5_rooms) Bd.pre
  have hown : s.vm.findClass RX5 = some m.cls := findClass_of_methodNamed Bd.named
  have hlocks := Bd.notSynchronized
  have S : CallFix p m c cX5_rooms 1 s _ wsX5_rooms RX5 := ⟨hx, hb, hml, hown, hts⟩
  have lk_fi39 := hts (.fieldLink RX5 39 "HouseBellsModel" "rooms" "I") (List.mem_of_getElem? (i := 1) rfl)
  have in_X5 : ∀ w ∈ wsX50, w ∈ wsX5_rooms := fun _ h => (List.mem_cons_of_mem _ (List.mem_append_right _ h))
  subst hsz
  have hD := hD0.self (sz := s.heap.size)
  generalize hAe : va_A (z_wM X d M) s.heap.size = A at hD ⊢
  have hA : ∀ q : Nat, s.heap.size ≤ q → A q := fun q h => by rw [← hAe]; exact Or.inr h
  have hS : va_S A s.heap s.heap [] := va_S.rf
  have hl := lv_entry ([.ref (d 0)]) (n := 1) (Nat.le_of_ble_eq_true rfl)
  rw [lg_entry_eq]
  generalize (lg_sl ([.ref (d 0)]) ++ List.replicate (1 - (lg_sl ([.ref (d 0)])).length) Slot.unset).toArray = ls at hl ⊢
  have hl : lv_has ls 1 [(0, .ref (d 0))] := hl
  suffices hgo : ∀ (H : Heap) (locs : List Loc), va_P X.1 vwCl (z_wM X d M) H → va_D A (z_wM X d M) → va_S A s.heap H locs → W p l e (headSpec wsX5_rooms (z_R 1 21)).room s m ([.ref (d 0)] : List Value).toArray below meth c H locs 0 0 (MQ below (va_Qi (fun (z : Int32) (u : va_W) => z = RR.1 ∧ u = (z_wM X d RR.2)) (z_Bm X A) A) ([.ref (d 0)] : List Value).toArray s 0 0 A) (F0 m 0 ls []) from hgo _ _ hP hD hS
  clear hP hD hS
  intro H locs hP hD hS
  unfold f_X5_rooms at hf
  refine lv_aload_n (pc := 0) hx hb dX5_rooms_0 rfl (lv_at hl 0 rfl) ?_
  refine lv_aload_n (pc := 1) hx hb dX5_rooms_1 rfl (lv_at hl 0 rfl) ?_
  refine va_get (pc := 2) (ci := 5) (C := RX5) (T := TX5) (N := 11) hx hb hts in_X5 hown hK hP 0 rfl rfl 1 (by decide) lk_fi39 (fun _ h9 => h9) rfl dX5_rooms_2 ?_
  refine z_cmI (pc := 5) (W1 := (z_wM X d (f_X5_ok M (M.1 1)).2)) S (m_X5_ok l X d M (M.1 1) rfl) (cwV 1 hts gX5_rooms_X5_ok rfl rfl rfl hdX5_ok ⟨Nat.le_of_ble_eq_true rfl, Nat.le_of_ble_eq_true rfl⟩) hP hK hN hD hS hA (s_M_M X d M) (f_M_M X d M ((f_X5_ok M (M.1 1)).2)) (ci := 5) rfl rfl rfl ⟨Nat.le_of_ble_eq_true rfl, Nat.le_of_ble_eq_true rfl⟩ rfl hl.1 rfl (Nat.le_of_ble_eq_true rfl) dX5_rooms_5 (fun H locs hP hD hS => ?_)
  exact W.iret (pc := 8) (v := (f_X5_ok M (M.1 1)).1) hx hb hr (fun t ht hW => ⟨⟨_, (z_wM X d (f_X5_ok M (M.1 1)).2), rfl, ⟨z_t1 hf, congrArg (fun z => (z_wM X d z)) (z_t2 hf)⟩, by rw [ht]; exact hP, hD⟩, hS.F ht⟩) hS.2.2 dX5_rooms_8
def f_X5_servants (M : z_M) : (Int32 × z_M) := ((f_X5_ok M (M.1 2)).1, (f_X5_ok M (M.1 2)).2)
set_option maxHeartbeats 4000000 in
set_option maxRecDepth 100000 in
theorem m_X5_servants (l : Launch) (X : z_X) (d : Nat → Nat) (M : z_M) {RR : (Int32 × z_M)} (hf : f_X5_servants M = RR) : z_mI l yX5_servants wsX5_servants 1 21 X [.ref (d 0)] (z_wM X d M) RR.1 (z_wM X d RR.2) := by
  intro sz
  refine Met.ofW (cc := cX5_servants) (maxL := 1) (ret := (some .int)) (by decide) rfl ?_
  intro p e s m args below meth c s₁ Bd hml hv
  obtain ⟨rfl, hsz, hP, hK, hN, hD0⟩ := hv
  have hx := Bd.exec
  have hb := Bd.bytes
  have hr := Bd.returns
  have hts := atoms_spec (ws := wsX5_servants) Bd.pre
  have hown : s.vm.findClass RX5 = some m.cls := findClass_of_methodNamed Bd.named
  have hlocks := Bd.notSynchronized
  have S : CallFix p m c cX5_servants 1 s _ wsX5_servants RX5 := ⟨hx, hb, hml, hown, hts⟩
  have lk_fi46 := hts (.fieldLink RX5 46 "HouseBellsModel" "servants" "I") (List.mem_of_getElem? (i := 1) rfl)
  have in_X5 : ∀ w ∈ wsX50, w ∈ wsX5_servants := fun _ h => (List.mem_cons_of_mem _ (List.mem_append_right _ h))
  subst hsz
  have hD := hD0.self (sz := s.heap.size)
  generalize hAe : va_A (z_wM X d M) s.heap.size = A at hD ⊢
  have hA : ∀ q : Nat, s.heap.size ≤ q → A q := fun q h => by rw [← hAe]; exact Or.inr h
  have hS : va_S A s.heap s.heap [] := va_S.rf
  have hl := lv_entry ([.ref (d 0)]) (n := 1) (Nat.le_of_ble_eq_true rfl)
  rw [lg_entry_eq]
  generalize (lg_sl ([.ref (d 0)]) ++ List.replicate (1 - (lg_sl ([.ref (d 0)])).length) Slot.unset).toArray = ls at hl ⊢
  have hl : lv_has ls 1 [(0, .ref (d 0))] := hl
  suffices hgo : ∀ (H : Heap) (locs : List Loc), va_P X.1 vwCl (z_wM X d M) H → va_D A (z_wM X d M) → va_S A s.heap H locs → W p l e (headSpec wsX5_servants (z_R 1 21)).room s m ([.ref (d 0)] : List Value).toArray below meth c H locs 0 0 (MQ below (va_Qi (fun (z : Int32) (u : va_W) => z = RR.1 ∧ u = (z_wM X d RR.2)) (z_Bm X A) A) ([.ref (d 0)] : List Value).toArray s 0 0 A) (F0 m 0 ls []) from hgo _ _ hP hD hS
  clear hP hD hS
  intro H locs hP hD hS
  unfold f_X5_servants at hf
  refine lv_aload_n (pc := 0) hx hb dX5_servants_0 rfl (lv_at hl 0 rfl) ?_
  refine lv_aload_n (pc := 1) hx hb dX5_servants_1 rfl (lv_at hl 0 rfl) ?_
  refine va_get (pc := 2) (ci := 5) (C := RX5) (T := TX5) (N := 11) hx hb hts in_X5 hown hK hP 0 rfl rfl 2 (by decide) lk_fi46 (fun _ h9 => h9) rfl dX5_servants_2 ?_
  refine z_cmI (pc := 5) (W1 := (z_wM X d (f_X5_ok M (M.1 2)).2)) S (m_X5_ok l X d M (M.1 2) rfl) (cwV 1 hts gX5_servants_X5_ok rfl rfl rfl hdX5_ok ⟨Nat.le_of_ble_eq_true rfl, Nat.le_of_ble_eq_true rfl⟩) hP hK hN hD hS hA (s_M_M X d M) (f_M_M X d M ((f_X5_ok M (M.1 2)).2)) (ci := 5) rfl rfl rfl ⟨Nat.le_of_ble_eq_true rfl, Nat.le_of_ble_eq_true rfl⟩ rfl hl.1 rfl (Nat.le_of_ble_eq_true rfl) dX5_servants_5 (fun H locs hP hD hS => ?_)
  exact W.iret (pc := 8) (v := (f_X5_ok M (M.1 2)).1) hx hb hr (fun t ht hW => ⟨⟨_, (z_wM X d (f_X5_ok M (M.1 2)).2), rfl, ⟨z_t1 hf, congrArg (fun z => (z_wM X d z)) (z_t2 hf)⟩, by rw [ht]; exact hP, hD⟩, hS.F ht⟩) hS.2.2 dX5_servants_8
def f_X5_charge (M : z_M) : Option (Int32 × z_M) := (z_at (M.2 6) 1 55).bind (fun x6 => some ((f_X5_ok M x6).1, (f_X5_ok M x6).2))
set_option maxHeartbeats 4000000 in
set_option maxRecDepth 100000 in
theorem m_X5_charge (l : Launch) (X : z_X) (d : Nat → Nat) (M : z_M) {RR : (Int32 × z_M)} (hf : f_X5_charge M = some RR) : z_mI l yX5_charge wsX5_charge 1 21 X [.ref (d 0)] (z_wM X d M) RR.1 (z_wM X d RR.2) := by
  intro sz
  refine Met.ofW (cc := cX5_charge) (maxL := 1) (ret := (some .int)) (by decide) rfl ?_
  intro p e s m args below meth c s₁ Bd hml hv
  obtain ⟨rfl, hsz, hP, hK, hN, hD0⟩ := hv
  have hx := Bd.exec
  have hb := Bd.bytes
  have hr := Bd.returns
  have hts := atoms_spec (ws := wsX5_charge) Bd.pre
  have hown : s.vm.findClass RX5 = some m.cls := findClass_of_methodNamed Bd.named
  have hlocks := Bd.notSynchronized
  have S : CallFix p m c cX5_charge 1 s _ wsX5_charge RX5 := ⟨hx, hb, hml, hown, hts⟩
  have lk_fi29 := hts (.fieldLink RX5 29 "HouseBellsModel" "now" "[I") (List.mem_of_getElem? (i := 1) rfl)
  have in_X5 : ∀ w ∈ wsX50, w ∈ wsX5_charge := fun _ h => (List.mem_cons_of_mem _ (List.mem_append_right _ h))
  subst hsz
  have hD := hD0.self (sz := s.heap.size)
  generalize hAe : va_A (z_wM X d M) s.heap.size = A at hD ⊢
  have hA : ∀ q : Nat, s.heap.size ≤ q → A q := fun q h => by rw [← hAe]; exact Or.inr h
  have hS : va_S A s.heap s.heap [] := va_S.rf
  have hl := lv_entry ([.ref (d 0)]) (n := 1) (Nat.le_of_ble_eq_true rfl)
  rw [lg_entry_eq]
  generalize (lg_sl ([.ref (d 0)]) ++ List.replicate (1 - (lg_sl ([.ref (d 0)])).length) Slot.unset).toArray = ls at hl ⊢
  have hl : lv_has ls 1 [(0, .ref (d 0))] := hl
  suffices hgo : ∀ (H : Heap) (locs : List Loc), va_P X.1 vwCl (z_wM X d M) H → va_D A (z_wM X d M) → va_S A s.heap H locs → W p l e (headSpec wsX5_charge (z_R 1 21)).room s m ([.ref (d 0)] : List Value).toArray below meth c H locs 0 0 (MQ below (va_Qi (fun (z : Int32) (u : va_W) => z = RR.1 ∧ u = (z_wM X d RR.2)) (z_Bm X A) A) ([.ref (d 0)] : List Value).toArray s 0 0 A) (F0 m 0 ls []) from hgo _ _ hP hD hS
  clear hP hD hS
  intro H locs hP hD hS
  unfold f_X5_charge at hf
  refine lv_aload_n (pc := 0) hx hb dX5_charge_0 rfl (lv_at hl 0 rfl) ?_
  refine lv_aload_n (pc := 1) hx hb dX5_charge_1 rfl (lv_at hl 0 rfl) ?_
  refine va_get (pc := 2) (ci := 5) (C := RX5) (T := TX5) (N := 11) hx hb hts in_X5 hown hK hP 0 rfl rfl 9 (by decide) lk_fi29 (fun _ h9 => h9) rfl dX5_charge_2 ?_
  refine lv_iconst (v := 1) (pc := 5) hx hb dX5_charge_5 (by decide) ?_
  obtain ⟨x6, e6, hf⟩ := z_bd hf
  refine z_iald (pc := 6) hx hb hK hP 7 0 rfl rfl e6 dX5_charge_6 ?_
  refine z_cmI (pc := 7) (W1 := (z_wM X d (f_X5_ok M x6).2)) S (m_X5_ok l X d M x6 rfl) (cwV 1 hts gX5_charge_X5_ok rfl rfl rfl hdX5_ok ⟨Nat.le_of_ble_eq_true rfl, Nat.le_of_ble_eq_true rfl⟩) hP hK hN hD hS hA (s_M_M X d M) (f_M_M X d M ((f_X5_ok M x6).2)) (ci := 5) rfl rfl rfl ⟨Nat.le_of_ble_eq_true rfl, Nat.le_of_ble_eq_true rfl⟩ rfl hl.1 rfl (Nat.le_of_ble_eq_true rfl) dX5_charge_7 (fun H locs hP hD hS => ?_)
  exact W.iret (pc := 10) (v := (f_X5_ok M x6).1) hx hb hr (fun t ht hW => ⟨⟨_, (z_wM X d (f_X5_ok M x6).2), rfl, ⟨z_e1 hf, congrArg (fun z => (z_wM X d z)) (z_e2 hf)⟩, by rw [ht]; exact hP, hD⟩, hS.F ht⟩) hS.2.2 dX5_charge_10
def f_X5_served (M : z_M) : Option (Int32 × z_M) := (z_at (M.2 6) 2 55).bind (fun x6 => some ((f_X5_ok M x6).1, (f_X5_ok M x6).2))
set_option maxHeartbeats 4000000 in
set_option maxRecDepth 100000 in
theorem m_X5_served (l : Launch) (X : z_X) (d : Nat → Nat) (M : z_M) {RR : (Int32 × z_M)} (hf : f_X5_served M = some RR) : z_mI l yX5_served wsX5_served 1 21 X [.ref (d 0)] (z_wM X d M) RR.1 (z_wM X d RR.2) := by
  intro sz
  refine Met.ofW (cc := cX5_served) (maxL := 1) (ret := (some .int)) (by decide) rfl ?_
  intro p e s m args below meth c s₁ Bd hml hv
  obtain ⟨rfl, hsz, hP, hK, hN, hD0⟩ := hv
  have hx := Bd.exec
  have hb := Bd.bytes
  have hr := Bd.returns
  have hts := atoms_spec (ws := wsX5_served) Bd.pre
  have hown : s.vm.findClass RX5 = some m.cls := findClass_of_methodNamed Bd.named
  have hlocks := Bd.notSynchronized
  have S : CallFix p m c cX5_served 1 s _ wsX5_served RX5 := ⟨hx, hb, hml, hown, hts⟩
  have lk_fi29 := hts (.fieldLink RX5 29 "HouseBellsModel" "now" "[I") (List.mem_of_getElem? (i := 1) rfl)
  have in_X5 : ∀ w ∈ wsX50, w ∈ wsX5_served := fun _ h => (List.mem_cons_of_mem _ (List.mem_append_right _ h))
  subst hsz
  have hD := hD0.self (sz := s.heap.size)
  generalize hAe : va_A (z_wM X d M) s.heap.size = A at hD ⊢
  have hA : ∀ q : Nat, s.heap.size ≤ q → A q := fun q h => by rw [← hAe]; exact Or.inr h
  have hS : va_S A s.heap s.heap [] := va_S.rf
  have hl := lv_entry ([.ref (d 0)]) (n := 1) (Nat.le_of_ble_eq_true rfl)
  rw [lg_entry_eq]
  generalize (lg_sl ([.ref (d 0)]) ++ List.replicate (1 - (lg_sl ([.ref (d 0)])).length) Slot.unset).toArray = ls at hl ⊢
  have hl : lv_has ls 1 [(0, .ref (d 0))] := hl
  suffices hgo : ∀ (H : Heap) (locs : List Loc), va_P X.1 vwCl (z_wM X d M) H → va_D A (z_wM X d M) → va_S A s.heap H locs → W p l e (headSpec wsX5_served (z_R 1 21)).room s m ([.ref (d 0)] : List Value).toArray below meth c H locs 0 0 (MQ below (va_Qi (fun (z : Int32) (u : va_W) => z = RR.1 ∧ u = (z_wM X d RR.2)) (z_Bm X A) A) ([.ref (d 0)] : List Value).toArray s 0 0 A) (F0 m 0 ls []) from hgo _ _ hP hD hS
  clear hP hD hS
  intro H locs hP hD hS
  unfold f_X5_served at hf
  refine lv_aload_n (pc := 0) hx hb dX5_served_0 rfl (lv_at hl 0 rfl) ?_
  refine lv_aload_n (pc := 1) hx hb dX5_served_1 rfl (lv_at hl 0 rfl) ?_
  refine va_get (pc := 2) (ci := 5) (C := RX5) (T := TX5) (N := 11) hx hb hts in_X5 hown hK hP 0 rfl rfl 9 (by decide) lk_fi29 (fun _ h9 => h9) rfl dX5_served_2 ?_
  refine lv_iconst (v := 2) (pc := 5) hx hb dX5_served_5 (by decide) ?_
  obtain ⟨x6, e6, hf⟩ := z_bd hf
  refine z_iald (pc := 6) hx hb hK hP 7 0 rfl rfl e6 dX5_served_6 ?_
  refine z_cmI (pc := 7) (W1 := (z_wM X d (f_X5_ok M x6).2)) S (m_X5_ok l X d M x6 rfl) (cwV 1 hts gX5_served_X5_ok rfl rfl rfl hdX5_ok ⟨Nat.le_of_ble_eq_true rfl, Nat.le_of_ble_eq_true rfl⟩) hP hK hN hD hS hA (s_M_M X d M) (f_M_M X d M ((f_X5_ok M x6).2)) (ci := 5) rfl rfl rfl ⟨Nat.le_of_ble_eq_true rfl, Nat.le_of_ble_eq_true rfl⟩ rfl hl.1 rfl (Nat.le_of_ble_eq_true rfl) dX5_served_7 (fun H locs hP hD hS => ?_)
  exact W.iret (pc := 10) (v := (f_X5_ok M x6).1) hx hb hr (fun t ht hW => ⟨⟨_, (z_wM X d (f_X5_ok M x6).2), rfl, ⟨z_e1 hf, congrArg (fun z => (z_wM X d z)) (z_e2 hf)⟩, by rw [ht]; exact hP, hD⟩, hS.F ht⟩) hS.2.2 dX5_served_10
def f_X5_inVain (M : z_M) : Option (Int32 × z_M) := (z_at (M.2 6) 3 55).bind (fun x6 => some ((f_X5_ok M x6).1, (f_X5_ok M x6).2))
set_option maxHeartbeats 4000000 in
set_option maxRecDepth 100000 in
theorem m_X5_inVain (l : Launch) (X : z_X) (d : Nat → Nat) (M : z_M) {RR : (Int32 × z_M)} (hf : f_X5_inVain M = some RR) : z_mI l yX5_inVain wsX5_inVain 1 21 X [.ref (d 0)] (z_wM X d M) RR.1 (z_wM X d RR.2) := by
  intro sz
  refine Met.ofW (cc := cX5_inVain) (maxL := 1) (ret := (some .int)) (by decide) rfl ?_
  intro p e s m args below meth c s₁ Bd hml hv
  obtain ⟨rfl, hsz, hP, hK, hN, hD0⟩ := hv
  have hx := Bd.exec
  have hb := Bd.bytes
  have hr := Bd.returns
  have hts := atoms_spec (ws := wsX5_inVain) Bd.pre
  have hown : s.vm.findClass RX5 = some m.cls := findClass_of_methodNamed Bd.named
  have hlocks := Bd.notSynchronized
  have S : CallFix p m c cX5_inVain 1 s _ wsX5_inVain RX5 := ⟨hx, hb, hml, hown, hts⟩
  have lk_fi29 := hts (.fieldLink RX5 29 "HouseBellsModel" "now" "[I") (List.mem_of_getElem? (i := 1) rfl)
  have in_X5 : ∀ w ∈ wsX50, w ∈ wsX5_inVain := fun _ h => (List.mem_cons_of_mem _ (List.mem_append_right _ h))
  subst hsz
  have hD := hD0.self (sz := s.heap.size)
  generalize hAe : va_A (z_wM X d M) s.heap.size = A at hD ⊢
  have hA : ∀ q : Nat, s.heap.size ≤ q → A q := fun q h => by rw [← hAe]; exact Or.inr h
  have hS : va_S A s.heap s.heap [] := va_S.rf
  have hl := lv_entry ([.ref (d 0)]) (n := 1) (Nat.le_of_ble_eq_true rfl)
  rw [lg_entry_eq]
  generalize (lg_sl ([.ref (d 0)]) ++ List.replicate (1 - (lg_sl ([.ref (d 0)])).length) Slot.unset).toArray = ls at hl ⊢
  have hl : lv_has ls 1 [(0, .ref (d 0))] := hl
  suffices hgo : ∀ (H : Heap) (locs : List Loc), va_P X.1 vwCl (z_wM X d M) H → va_D A (z_wM X d M) → va_S A s.heap H locs → W p l e (headSpec wsX5_inVain (z_R 1 21)).room s m ([.ref (d 0)] : List Value).toArray below meth c H locs 0 0 (MQ below (va_Qi (fun (z : Int32) (u : va_W) => z = RR.1 ∧ u = (z_wM X d RR.2)) (z_Bm X A) A) ([.ref (d 0)] : List Value).toArray s 0 0 A) (F0 m 0 ls []) from hgo _ _ hP hD hS
  clear hP hD hS
  intro H locs hP hD hS
  unfold f_X5_inVain at hf
  refine lv_aload_n (pc := 0) hx hb dX5_inVain_0 rfl (lv_at hl 0 rfl) ?_
  refine lv_aload_n (pc := 1) hx hb dX5_inVain_1 rfl (lv_at hl 0 rfl) ?_
  refine va_get (pc := 2) (ci := 5) (C := RX5) (T := TX5) (N := 11) hx hb hts in_X5 hown hK hP 0 rfl rfl 9 (by decide) lk_fi29 (fun _ h9 => h9) rfl dX5_inVain_2 ?_
  refine lv_iconst (v := 3) (pc := 5) hx hb dX5_inVain_5 (by decide) ?_
  obtain ⟨x6, e6, hf⟩ := z_bd hf
  refine z_iald (pc := 6) hx hb hK hP 7 0 rfl rfl e6 dX5_inVain_6 ?_
  refine z_cmI (pc := 7) (W1 := (z_wM X d (f_X5_ok M x6).2)) S (m_X5_ok l X d M x6 rfl) (cwV 1 hts gX5_inVain_X5_ok rfl rfl rfl hdX5_ok ⟨Nat.le_of_ble_eq_true rfl, Nat.le_of_ble_eq_true rfl⟩) hP hK hN hD hS hA (s_M_M X d M) (f_M_M X d M ((f_X5_ok M x6).2)) (ci := 5) rfl rfl rfl ⟨Nat.le_of_ble_eq_true rfl, Nat.le_of_ble_eq_true rfl⟩ rfl hl.1 rfl (Nat.le_of_ble_eq_true rfl) dX5_inVain_7 (fun H locs hP hD hS => ?_)
  exact W.iret (pc := 10) (v := (f_X5_ok M x6).1) hx hb hr (fun t ht hW => ⟨⟨_, (z_wM X d (f_X5_ok M x6).2), rfl, ⟨z_e1 hf, congrArg (fun z => (z_wM X d z)) (z_e2 hf)⟩, by rw [ht]; exact hP, hD⟩, hS.F ht⟩) hS.2.2 dX5_inVain_10
def f_X5_gaveUp (M : z_M) : Option (Int32 × z_M) := (z_at (M.2 6) 4 55).bind (fun x6 => some ((f_X5_ok M x6).1, (f_X5_ok M x6).2))
set_option maxHeartbeats 4000000 in
set_option maxRecDepth 100000 in
theorem m_X5_gaveUp (l : Launch) (X : z_X) (d : Nat → Nat) (M : z_M) {RR : (Int32 × z_M)} (hf : f_X5_gaveUp M = some RR) : z_mI l yX5_gaveUp wsX5_gaveUp 1 21 X [.ref (d 0)] (z_wM X d M) RR.1 (z_wM X d RR.2) := by
  intro sz
  refine Met.ofW (cc := cX5_gaveUp) (maxL := 1) (ret := (some .int)) (by decide) rfl ?_
  intro p e s m args below meth c s₁ Bd hml hv
  obtain ⟨rfl, hsz, hP, hK, hN, hD0⟩ := hv
  have hx := Bd.exec
  have hb := Bd.bytes
  have hr := Bd.returns
  have hts := atoms_spec (ws := wsX5_gaveUp) Bd.pre
  have hown : s.vm.findClass RX5 = some m.cls := findClass_of_methodNamed Bd.named
  have hlocks := Bd.notSynchronized
  have S : CallFix p m c cX5_gaveUp 1 s _ wsX5_gaveUp RX5 := ⟨hx, hb, hml, hown, hts⟩
  have lk_fi29 := hts (.fieldLink RX5 29 "HouseBellsModel" "now" "[I") (List.mem_of_getElem? (i := 1) rfl)
  have in_X5 : ∀ w ∈ wsX50, w ∈ wsX5_gaveUp := fun _ h => (List.mem_cons_of_mem _ (List.mem_append_right _ h))
  subst hsz
  have hD := hD0.self (sz := s.heap.size)
  generalize hAe : va_A (z_wM X d M) s.heap.size = A at hD ⊢
  have hA : ∀ q : Nat, s.heap.size ≤ q → A q := fun q h => by rw [← hAe]; exact Or.inr h
  have hS : va_S A s.heap s.heap [] := va_S.rf
  have hl := lv_entry ([.ref (d 0)]) (n := 1) (Nat.le_of_ble_eq_true rfl)
  rw [lg_entry_eq]
  generalize (lg_sl ([.ref (d 0)]) ++ List.replicate (1 - (lg_sl ([.ref (d 0)])).length) Slot.unset).toArray = ls at hl ⊢
  have hl : lv_has ls 1 [(0, .ref (d 0))] := hl
  suffices hgo : ∀ (H : Heap) (locs : List Loc), va_P X.1 vwCl (z_wM X d M) H → va_D A (z_wM X d M) → va_S A s.heap H locs → W p l e (headSpec wsX5_gaveUp (z_R 1 21)).room s m ([.ref (d 0)] : List Value).toArray below meth c H locs 0 0 (MQ below (va_Qi (fun (z : Int32) (u : va_W) => z = RR.1 ∧ u = (z_wM X d RR.2)) (z_Bm X A) A) ([.ref (d 0)] : List Value).toArray s 0 0 A) (F0 m 0 ls []) from hgo _ _ hP hD hS
  clear hP hD hS
  intro H locs hP hD hS
  unfold f_X5_gaveUp at hf
  refine lv_aload_n (pc := 0) hx hb dX5_gaveUp_0 rfl (lv_at hl 0 rfl) ?_
  refine lv_aload_n (pc := 1) hx hb dX5_gaveUp_1 rfl (lv_at hl 0 rfl) ?_
  refine va_get (pc := 2) (ci := 5) (C := RX5) (T := TX5) (N := 11) hx hb hts in_X5 hown hK hP 0 rfl rfl 9 (by decide) lk_fi29 (fun _ h9 => h9) rfl dX5_gaveUp_2 ?_
  refine lv_iconst (v := 4) (pc := 5) hx hb dX5_gaveUp_5 (by decide) ?_
  obtain ⟨x6, e6, hf⟩ := z_bd hf
  refine z_iald (pc := 6) hx hb hK hP 7 0 rfl rfl e6 dX5_gaveUp_6 ?_
  refine z_cmI (pc := 7) (W1 := (z_wM X d (f_X5_ok M x6).2)) S (m_X5_ok l X d M x6 rfl) (cwV 1 hts gX5_gaveUp_X5_ok rfl rfl rfl hdX5_ok ⟨Nat.le_of_ble_eq_true rfl, Nat.le_of_ble_eq_true rfl⟩) hP hK hN hD hS hA (s_M_M X d M) (f_M_M X d M ((f_X5_ok M x6).2)) (ci := 5) rfl rfl rfl ⟨Nat.le_of_ble_eq_true rfl, Nat.le_of_ble_eq_true rfl⟩ rfl hl.1 rfl (Nat.le_of_ble_eq_true rfl) dX5_gaveUp_7 (fun H locs hP hD hS => ?_)
  exact W.iret (pc := 10) (v := (f_X5_ok M x6).1) hx hb hr (fun t ht hW => ⟨⟨_, (z_wM X d (f_X5_ok M x6).2), rfl, ⟨z_e1 hf, congrArg (fun z => (z_wM X d z)) (z_e2 hf)⟩, by rw [ht]; exact hP, hD⟩, hS.F ht⟩) hS.2.2 dX5_gaveUp_10
def f_X5_unheard (M : z_M) : Option (Int32 × z_M) := (z_at (M.2 6) 5 55).bind (fun x6 => some ((f_X5_ok M x6).1, (f_X5_ok M x6).2))
set_option maxHeartbeats 4000000 in
set_option maxRecDepth 100000 in
theorem m_X5_unheard (l : Launch) (X : z_X) (d : Nat → Nat) (M : z_M) {RR : (Int32 × z_M)} (hf : f_X5_unheard M = some RR) : z_mI l yX5_unheard wsX5_unheard 1 21 X [.ref (d 0)] (z_wM X d M) RR.1 (z_wM X d RR.2) := by
  intro sz
  refine Met.ofW (cc := cX5_unheard) (maxL := 1) (ret := (some .int)) (by decide) rfl ?_
  intro p e s m args below meth c s₁ Bd hml hv
  obtain ⟨rfl, hsz, hP, hK, hN, hD0⟩ := hv
  have hx := Bd.exec
  have hb := Bd.bytes
  have hr := Bd.returns
  have hts := atoms_spec (ws := wsX5_unheard) Bd.pre
  have hown : s.vm.findClass RX5 = some m.cls := findClass_of_methodNamed Bd.named
  have hlocks := Bd.notSynchronized
  have S : CallFix p m c cX5_unheard 1 s _ wsX5_unheard RX5 := ⟨hx, hb, hml, hown, hts⟩
  have lk_fi29 := hts (.fieldLink RX5 29 "HouseBellsModel" "now" "[I") (List.mem_of_getElem? (i := 1) rfl)
  have in_X5 : ∀ w ∈ wsX50, w ∈ wsX5_unheard := fun _ h => (List.mem_cons_of_mem _ (List.mem_append_right _ h))
  subst hsz
  have hD := hD0.self (sz := s.heap.size)
  generalize hAe : va_A (z_wM X d M) s.heap.size = A at hD ⊢
  have hA : ∀ q : Nat, s.heap.size ≤ q → A q := fun q h => by rw [← hAe]; exact Or.inr h
  have hS : va_S A s.heap s.heap [] := va_S.rf
  have hl := lv_entry ([.ref (d 0)]) (n := 1) (Nat.le_of_ble_eq_true rfl)
  rw [lg_entry_eq]
  generalize (lg_sl ([.ref (d 0)]) ++ List.replicate (1 - (lg_sl ([.ref (d 0)])).length) Slot.unset).toArray = ls at hl ⊢
  have hl : lv_has ls 1 [(0, .ref (d 0))] := hl
  suffices hgo : ∀ (H : Heap) (locs : List Loc), va_P X.1 vwCl (z_wM X d M) H → va_D A (z_wM X d M) → va_S A s.heap H locs → W p l e (headSpec wsX5_unheard (z_R 1 21)).room s m ([.ref (d 0)] : List Value).toArray below meth c H locs 0 0 (MQ below (va_Qi (fun (z : Int32) (u : va_W) => z = RR.1 ∧ u = (z_wM X d RR.2)) (z_Bm X A) A) ([.ref (d 0)] : List Value).toArray s 0 0 A) (F0 m 0 ls []) from hgo _ _ hP hD hS
  clear hP hD hS
  intro H locs hP hD hS
  unfold f_X5_unheard at hf
  refine lv_aload_n (pc := 0) hx hb dX5_unheard_0 rfl (lv_at hl 0 rfl) ?_
  refine lv_aload_n (pc := 1) hx hb dX5_unheard_1 rfl (lv_at hl 0 rfl) ?_
  refine va_get (pc := 2) (ci := 5) (C := RX5) (T := TX5) (N := 11) hx hb hts in_X5 hown hK hP 0 rfl rfl 9 (by decide) lk_fi29 (fun _ h9 => h9) rfl dX5_unheard_2 ?_
  refine lv_iconst (v := 5) (pc := 5) hx hb dX5_unheard_5 (by decide) ?_
  obtain ⟨x6, e6, hf⟩ := z_bd hf
  refine z_iald (pc := 6) hx hb hK hP 7 0 rfl rfl e6 dX5_unheard_6 ?_
  refine z_cmI (pc := 7) (W1 := (z_wM X d (f_X5_ok M x6).2)) S (m_X5_ok l X d M x6 rfl) (cwV 1 hts gX5_unheard_X5_ok rfl rfl rfl hdX5_ok ⟨Nat.le_of_ble_eq_true rfl, Nat.le_of_ble_eq_true rfl⟩) hP hK hN hD hS hA (s_M_M X d M) (f_M_M X d M ((f_X5_ok M x6).2)) (ci := 5) rfl rfl rfl ⟨Nat.le_of_ble_eq_true rfl, Nat.le_of_ble_eq_true rfl⟩ rfl hl.1 rfl (Nat.le_of_ble_eq_true rfl) dX5_unheard_7 (fun H locs hP hD hS => ?_)
  exact W.iret (pc := 10) (v := (f_X5_ok M x6).1) hx hb hr (fun t ht hW => ⟨⟨_, (z_wM X d (f_X5_ok M x6).2), rfl, ⟨z_e1 hf, congrArg (fun z => (z_wM X d z)) (z_e2 hf)⟩, by rw [ht]; exact hP, hD⟩, hS.F ht⟩) hS.2.2 dX5_unheard_10
def f_X5_dropOf (M : z_M) (v1 : Int32) : Option (Int32 × z_M) := (f_X5_isRoom M v1).bind (fun x3 => (f_X5_isKnown M x3).bind (fun x6 => (if x6.1 = 0 then some (0, x6.2) else (z_at (x6.2.2 3) v1 12).bind (fun x17 => some (x17, x6.2)))))
set_option maxHeartbeats 4000000 in
set_option maxRecDepth 100000 in
theorem m_X5_dropOf (l : Launch) (X : z_X) (d : Nat → Nat) (M : z_M) (v1 : Int32) {RR : (Int32 × z_M)} (hf : f_X5_dropOf M v1 = some RR) : z_mI l yX5_dropOf wsX5_dropOf 2 43 X [.ref (d 0), .int v1] (z_wM X d M) RR.1 (z_wM X d RR.2) := by
  intro sz
  refine Met.ofW (cc := cX5_dropOf) (maxL := 2) (ret := (some .int)) (by decide) rfl ?_
  intro p e s m args below meth c s₁ Bd hml hv
  obtain ⟨rfl, hsz, hP, hK, hN, hD0⟩ := hv
  have hx := Bd.exec
  have hb := Bd.bytes
  have hr := Bd.returns
  have hts := atoms_spec (ws := wsX5_dropOf) Bd.pre
  have hown : s.vm.findClass RX5 = some m.cls := findClass_of_methodNamed Bd.named
  have hlocks := Bd.notSynchronized
  have S : CallFix p m c cX5_dropOf 2 s _ wsX5_dropOf RX5 := ⟨hx, hb, hml, hown, hts⟩
  have lk_fi19 := hts (.fieldLink RX5 19 "HouseBellsModel" "drop" "[I") (List.mem_of_getElem? (i := 1) rfl)
  have in_X5 : ∀ w ∈ wsX50, w ∈ wsX5_dropOf := fun _ h => (List.mem_cons_of_mem _ (List.mem_append_right _ h))
  subst hsz
  have hD := hD0.self (sz := s.heap.size)
  generalize hAe : va_A (z_wM X d M) s.heap.size = A at hD ⊢
  have hA : ∀ q : Nat, s.heap.size ≤ q → A q := fun q h => by rw [← hAe]; exact Or.inr h
  have hS : va_S A s.heap s.heap [] := va_S.rf
  have hl := lv_entry ([.ref (d 0), .int v1]) (n := 2) (Nat.le_of_ble_eq_true rfl)
  rw [lg_entry_eq]
  generalize (lg_sl ([.ref (d 0), .int v1]) ++ List.replicate (2 - (lg_sl ([.ref (d 0), .int v1])).length) Slot.unset).toArray = ls at hl ⊢
  have hl : lv_has ls 2 [(0, .ref (d 0)), (1, .int v1)] := hl
  suffices hgo : ∀ (H : Heap) (locs : List Loc), va_P X.1 vwCl (z_wM X d M) H → va_D A (z_wM X d M) → va_S A s.heap H locs → W p l e (headSpec wsX5_dropOf (z_R 2 43)).room s m ([.ref (d 0), .int v1] : List Value).toArray below meth c H locs 0 0 (MQ below (va_Qi (fun (z : Int32) (u : va_W) => z = RR.1 ∧ u = (z_wM X d RR.2)) (z_Bm X A) A) ([.ref (d 0), .int v1] : List Value).toArray s 0 0 A) (F0 m 0 ls []) from hgo _ _ hP hD hS
  clear hP hD hS
  intro H locs hP hD hS
  unfold f_X5_dropOf at hf
  refine lv_aload_n (pc := 0) hx hb dX5_dropOf_0 rfl (lv_at hl 0 rfl) ?_
  refine lv_aload_n (pc := 1) hx hb dX5_dropOf_1 rfl (lv_at hl 0 rfl) ?_
  refine lv_iload_n (pc := 2) hx hb dX5_dropOf_2 rfl (lv_at hl 1 rfl) ?_
  obtain ⟨x3, e3, hf⟩ := z_bd hf
  refine z_cpI (pc := 3) S (m_X5_isRoom l X d M v1 e3) (cwV 1 hts gX5_dropOf_X5_isRoom rfl rfl rfl hdX5_isRoom ⟨Nat.le_of_ble_eq_true rfl, Nat.le_of_ble_eq_true rfl⟩) hP hK hN (s_M_M X d M) (ci := 5) rfl rfl rfl ⟨Nat.le_of_ble_eq_true rfl, Nat.le_of_ble_eq_true rfl⟩ rfl hl.1 rfl (Nat.le_of_ble_eq_true rfl) dX5_dropOf_3 ?_
  obtain ⟨x6, e6, hf⟩ := z_bd hf
  refine z_cmI (pc := 6) (W1 := (z_wM X d x6.2)) S (m_X5_isKnown l X d M x3 e6) (cwV 1 hts gX5_dropOf_X5_isKnown rfl rfl rfl hdX5_isKnown ⟨Nat.le_of_ble_eq_true rfl, Nat.le_of_ble_eq_true rfl⟩) hP hK hN hD hS hA (s_M_M X d M) (f_M_M X d M x6.2) (ci := 5) rfl rfl rfl ⟨Nat.le_of_ble_eq_true rfl, Nat.le_of_ble_eq_true rfl⟩ rfl hl.1 rfl (Nat.le_of_ble_eq_true rfl) dX5_dropOf_6 (fun H locs hP hD hS => ?_)
  refine lv_if_eq (pc := 9) (tgt := 21) hx hb dX5_dropOf_9 (by decide) (fun c_9 => ?_) (fun c_9 => ?_)
  · replace hf := z_ip c_9 hf
    refine lv_iconst (v := 0) (pc := 21) hx hb dX5_dropOf_21 (by decide) ?_
    exact W.iret (pc := 22) (v := 0) hx hb hr (fun t ht hW => ⟨⟨_, (z_wM X d x6.2), rfl, ⟨z_e1 hf, congrArg (fun z => (z_wM X d z)) (z_e2 hf)⟩, by rw [ht]; exact hP, hD⟩, hS.F ht⟩) hS.2.2 dX5_dropOf_22
  · replace hf := z_in c_9 hf
    refine lv_aload_n (pc := 12) hx hb dX5_dropOf_12 rfl (lv_at hl 0 rfl) ?_
    refine va_get (pc := 13) (ci := 5) (C := RX5) (T := TX5) (N := 11) hx hb hts in_X5 hown hK hP 0 rfl rfl 6 (by decide) lk_fi19 (fun _ h9 => h9) rfl dX5_dropOf_13 ?_
    refine lv_iload_n (pc := 16) hx hb dX5_dropOf_16 rfl (lv_at hl 1 rfl) ?_
    obtain ⟨x17, e17, hf⟩ := z_bd hf
    refine z_iald (pc := 17) hx hb hK hP 4 0 rfl rfl e17 dX5_dropOf_17 ?_
    refine lv_goto (pc := 18) (tgt := 22) hx hb dX5_dropOf_18 (by decide) ?_
    exact W.iret (pc := 22) (v := x17) hx hb hr (fun t ht hW => ⟨⟨_, (z_wM X d x6.2), rfl, ⟨z_e1 hf, congrArg (fun z => (z_wM X d z)) (z_e2 hf)⟩, by rw [ht]; exact hP, hD⟩, hS.F ht⟩) hS.2.2 dX5_dropOf_22
def f_X5_leads_L2 (M : z_M) : Nat → Int32 → Int32 → Option Int32
  | 0, _, _ => none
  | n + 1, u1, u2 => (z_at (M.2 3) u2 12).bind (fun x7 => (if x7 = u1 then some u2 else f_X5_leads_L2 M n u1 (u2 + 1)))
def f_X5_leads (M : z_M) (v1 : Int32) : Option Int32 := (f_X5_leads_L2 M z_FU v1 0).bind (fun x2 => some x2)
set_option maxHeartbeats 4000000 in
set_option maxRecDepth 100000 in
theorem m_X5_leads (l : Launch) (X : z_X) (d : Nat → Nat) (M : z_M) (v1 : Int32) {RR : Int32} (hf : f_X5_leads M v1 = some RR) : z_pI l yX5_leads wsX5_leads 0 0 X [.ref (d 0), .int v1] (z_wM X d M) RR := by
  refine Met.ofW (cc := cX5_leads) (maxL := 3) (ret := (some .int)) (by decide) rfl ?_
  intro p e s m args below meth c s₁ Bd hml hv
  obtain ⟨rfl, hP, hK, hN⟩ := hv
  have hx := Bd.exec
  have hb := Bd.bytes
  have hr := Bd.returns
  have hts := atoms_spec (ws := wsX5_leads) Bd.pre
  have hown : s.vm.findClass RX5 = some m.cls := findClass_of_methodNamed Bd.named
  have hlocks := Bd.notSynchronized
  have S : CallFix p m c cX5_leads 3 s _ wsX5_leads RX5 := ⟨hx, hb, hml, hown, hts⟩
  have lk_fi19 := hts (.fieldLink RX5 19 "HouseBellsModel" "drop" "[I") (List.mem_of_getElem? (i := 1) rfl)
  have in_X5 : ∀ w ∈ wsX50, w ∈ wsX5_leads := fun _ h => (List.mem_cons_of_mem _ (List.mem_append_right _ h))
  have hl := lv_entry ([.ref (d 0), .int v1]) (n := 3) (Nat.le_of_ble_eq_true rfl)
  rw [lg_entry_eq]
  generalize (lg_sl ([.ref (d 0), .int v1]) ++ List.replicate (3 - (lg_sl ([.ref (d 0), .int v1])).length) Slot.unset).toArray = ls at hl ⊢
  have hl : lv_has ls 3 [(0, .ref (d 0)), (1, .int v1)] := hl
  have lp_2 : ∀ (n : Nat) (u1 : Int32) (u2 : Int32) (T : Int32) (ls : Array Slot), lv_has ls 3 [(0, .ref (d 0)), (1, .int u1), (2, .int u2)] → f_X5_leads_L2 M n u1 u2 = some T → (∀ (ls : Array Slot), lv_has ls 3 [(2, .int T)] → W p l e (headSpec wsX5_leads (z_R 0 0)).room s m ([.ref (d 0), .int v1] : List Value).toArray below meth c s.heap [] 0 0 (MQ below (vp_Si (fun z => z = RR)) ([.ref (d 0), .int v1] : List Value).toArray s 0 0 (fun _ => False)) (F0 m 18 ls [])) → W p l e (headSpec wsX5_leads (z_R 0 0)).room s m ([.ref (d 0), .int v1] : List Value).toArray below meth c s.heap [] 0 0 (MQ below (vp_Si (fun z => z = RR)) ([.ref (d 0), .int v1] : List Value).toArray s 0 0 (fun _ => False)) (F0 m 2 ls []) := by
    intro n
    induction n with
    | zero =>
      intro u1 u2 T ls hl hf kk
      cases hf
    | succ n ih =>
      intro u1 u2 T ls hl hf kk
      rw [f_X5_leads_L2] at hf
      refine lv_aload_n (pc := 2) hx hb dX5_leads_2 rfl (lv_at hl 0 rfl) ?_
      refine va_get (pc := 3) (ci := 5) (C := RX5) (T := TX5) (N := 11) hx hb hts in_X5 hown hK hP 0 rfl rfl 6 (by decide) lk_fi19 (fun _ h9 => h9) rfl dX5_leads_3 ?_
      refine lv_iload_n (pc := 6) hx hb dX5_leads_6 rfl (lv_at hl 2 rfl) ?_
      obtain ⟨x7, e7, hf⟩ := z_bd hf
      refine z_iald (pc := 7) hx hb hK hP 4 0 rfl rfl e7 dX5_leads_7 ?_
      refine lv_iload_n (pc := 8) hx hb dX5_leads_8 rfl (lv_at hl 1 rfl) ?_
      refine lv_icmp_eq (pc := 9) (tgt := 18) hx hb dX5_leads_9 (by decide) (fun c_9 => ?_) (fun c_9 => ?_)
      · replace hf := z_ip c_9 hf
        obtain rfl := Option.some.inj hf
        exact kk ls (lv_sub hl [2] rfl)
      · replace hf := z_in c_9 hf
        refine lv_iinc (pc := 12) (v := (u2 + 1)) (lv' := [(2, .int (u2 + 1)), (0, .ref (d 0)), (1, .int u1)]) hx hb dX5_leads_12 hl (k := 2) rfl rfl (by decide) rfl (fun ls hl => ?_)
        refine lv_goto (pc := 15) (tgt := 2) hx hb dX5_leads_15 (by decide) ?_
        exact ih u1 (u2 + 1) T ls (lv_sub hl [1, 2, 0] rfl) hf kk
  unfold f_X5_leads at hf
  refine lv_iconst (v := 0) (pc := 0) hx hb dX5_leads_0 (by decide) ?_
  refine lv_istore_n (pc := 1) (lv' := [(2, .int 0), (0, .ref (d 0)), (1, .int v1)]) hx hb dX5_leads_1 rfl hl (by decide) rfl (fun ls hl => ?_)
  obtain ⟨x2, e2, hf⟩ := z_bd hf
  refine lp_2 z_FU v1 0 x2 ls (lv_sub hl [1, 2, 0] rfl) e2 (fun ls hl => ?_)
  refine lv_iload_n (pc := 18) hx hb dX5_leads_18 rfl (lv_at hl 0 rfl) ?_
  exact W.iret (pc := 19) (v := x2) hx hb hr (fun t ht hW => ⟨_, rfl, (Option.some.inj hf), ht⟩) (fun _ h => nomatch h) dX5_leads_19
def f_X5_roomOf (M : z_M) (v1 : Int32) : Option (Int32 × z_M) := (f_X5_isRoom M v1).bind (fun x3 => (f_X5_isKnown M x3).bind (fun x6 => (if x6.1 = 0 then some (0, x6.2) else (f_X5_leads x6.2 v1).bind (fun x14 => some (x14, x6.2)))))
set_option maxHeartbeats 4000000 in
set_option maxRecDepth 100000 in
theorem m_X5_roomOf (l : Launch) (X : z_X) (d : Nat → Nat) (M : z_M) (v1 : Int32) {RR : (Int32 × z_M)} (hf : f_X5_roomOf M v1 = some RR) : z_mI l yX5_roomOf wsX5_roomOf 2 43 X [.ref (d 0), .int v1] (z_wM X d M) RR.1 (z_wM X d RR.2) := by
  intro sz
  refine Met.ofW (cc := cX5_roomOf) (maxL := 2) (ret := (some .int)) (by decide) rfl ?_
  intro p e s m args below meth c s₁ Bd hml hv
  obtain ⟨rfl, hsz, hP, hK, hN, hD0⟩ := hv
  have hx := Bd.exec
  have hb := Bd.bytes
  have hr := Bd.returns
  have hts := atoms_spec (ws := wsX5_roomOf) Bd.pre
  have hown : s.vm.findClass RX5 = some m.cls := findClass_of_methodNamed Bd.named
  have hlocks := Bd.notSynchronized
  have S : CallFix p m c cX5_roomOf 2 s _ wsX5_roomOf RX5 := ⟨hx, hb, hml, hown, hts⟩
  subst hsz
  have hD := hD0.self (sz := s.heap.size)
  generalize hAe : va_A (z_wM X d M) s.heap.size = A at hD ⊢
  have hA : ∀ q : Nat, s.heap.size ≤ q → A q := fun q h => by rw [← hAe]; exact Or.inr h
  have hS : va_S A s.heap s.heap [] := va_S.rf
  have hl := lv_entry ([.ref (d 0), .int v1]) (n := 2) (Nat.le_of_ble_eq_true rfl)
  rw [lg_entry_eq]
  generalize (lg_sl ([.ref (d 0), .int v1]) ++ List.replicate (2 - (lg_sl ([.ref (d 0), .int v1])).length) Slot.unset).toArray = ls at hl ⊢
  have hl : lv_has ls 2 [(0, .ref (d 0)), (1, .int v1)] := hl
  suffices hgo : ∀ (H : Heap) (locs : List Loc), va_P X.1 vwCl (z_wM X d M) H → va_D A (z_wM X d M) → va_S A s.heap H locs → W p l e (headSpec wsX5_roomOf (z_R 2 43)).room s m ([.ref (d 0), .int v1] : List Value).toArray below meth c H locs 0 0 (MQ below (va_Qi (fun (z : Int32) (u : va_W) => z = RR.1 ∧ u = (z_wM X d RR.2)) (z_Bm X A) A) ([.ref (d 0), .int v1] : List Value).toArray s 0 0 A) (F0 m 0 ls []) from hgo _ _ hP hD hS
  clear hP hD hS
  intro H locs hP hD hS
  unfold f_X5_roomOf at hf
  refine lv_aload_n (pc := 0) hx hb dX5_roomOf_0 rfl (lv_at hl 0 rfl) ?_
  refine lv_aload_n (pc := 1) hx hb dX5_roomOf_1 rfl (lv_at hl 0 rfl) ?_
  refine lv_iload_n (pc := 2) hx hb dX5_roomOf_2 rfl (lv_at hl 1 rfl) ?_
  obtain ⟨x3, e3, hf⟩ := z_bd hf
  refine z_cpI (pc := 3) S (m_X5_isRoom l X d M v1 e3) (cwV 1 hts gX5_roomOf_X5_isRoom rfl rfl rfl hdX5_isRoom ⟨Nat.le_of_ble_eq_true rfl, Nat.le_of_ble_eq_true rfl⟩) hP hK hN (s_M_M X d M) (ci := 5) rfl rfl rfl ⟨Nat.le_of_ble_eq_true rfl, Nat.le_of_ble_eq_true rfl⟩ rfl hl.1 rfl (Nat.le_of_ble_eq_true rfl) dX5_roomOf_3 ?_
  obtain ⟨x6, e6, hf⟩ := z_bd hf
  refine z_cmI (pc := 6) (W1 := (z_wM X d x6.2)) S (m_X5_isKnown l X d M x3 e6) (cwV 1 hts gX5_roomOf_X5_isKnown rfl rfl rfl hdX5_isKnown ⟨Nat.le_of_ble_eq_true rfl, Nat.le_of_ble_eq_true rfl⟩) hP hK hN hD hS hA (s_M_M X d M) (f_M_M X d M x6.2) (ci := 5) rfl rfl rfl ⟨Nat.le_of_ble_eq_true rfl, Nat.le_of_ble_eq_true rfl⟩ rfl hl.1 rfl (Nat.le_of_ble_eq_true rfl) dX5_roomOf_6 (fun H locs hP hD hS => ?_)
  refine lv_if_eq (pc := 9) (tgt := 20) hx hb dX5_roomOf_9 (by decide) (fun c_9 => ?_) (fun c_9 => ?_)
  · replace hf := z_ip c_9 hf
    refine lv_iconst (v := 0) (pc := 20) hx hb dX5_roomOf_20 (by decide) ?_
    exact W.iret (pc := 21) (v := 0) hx hb hr (fun t ht hW => ⟨⟨_, (z_wM X d x6.2), rfl, ⟨z_e1 hf, congrArg (fun z => (z_wM X d z)) (z_e2 hf)⟩, by rw [ht]; exact hP, hD⟩, hS.F ht⟩) hS.2.2 dX5_roomOf_21
  · replace hf := z_in c_9 hf
    refine lv_aload_n (pc := 12) hx hb dX5_roomOf_12 rfl (lv_at hl 0 rfl) ?_
    refine lv_iload_n (pc := 13) hx hb dX5_roomOf_13 rfl (lv_at hl 1 rfl) ?_
    obtain ⟨x14, e14, hf⟩ := z_bd hf
    refine z_cpI (pc := 14) S (m_X5_leads l X d x6.2 v1 e14) (cwV 1 hts gX5_roomOf_X5_leads rfl rfl rfl hdX5_leads ⟨Nat.le_of_ble_eq_true rfl, Nat.le_of_ble_eq_true rfl⟩) hP hK hN (s_M_M X d x6.2) (ci := 5) rfl rfl rfl ⟨Nat.le_of_ble_eq_true rfl, Nat.le_of_ble_eq_true rfl⟩ rfl hl.1 rfl (Nat.le_of_ble_eq_true rfl) dX5_roomOf_14 ?_
    refine lv_goto (pc := 17) (tgt := 21) hx hb dX5_roomOf_17 (by decide) ?_
    exact W.iret (pc := 21) (v := x14) hx hb hr (fun t ht hW => ⟨⟨_, (z_wM X d x6.2), rfl, ⟨z_e1 hf, congrArg (fun z => (z_wM X d z)) (z_e2 hf)⟩, by rw [ht]; exact hP, hD⟩, hS.F ht⟩) hS.2.2 dX5_roomOf_21
def f_X5_isCut (M : z_M) (v1 : Int32) : Option (Int32 × z_M) := (f_X5_isRoom M v1).bind (fun x3 => (f_X5_isKnown M x3).bind (fun x6 => (if x6.1 = 0 then some (0, x6.2) else (z_at (x6.2.2 4) v1 12).bind (fun x17 => (if x17 = 0 then some (0, x6.2) else some (1, x6.2))))))
set_option maxHeartbeats 4000000 in
set_option maxRecDepth 100000 in
theorem m_X5_isCut (l : Launch) (X : z_X) (d : Nat → Nat) (M : z_M) (v1 : Int32) {RR : (Int32 × z_M)} (hf : f_X5_isCut M v1 = some RR) : z_mI l yX5_isCut wsX5_isCut 2 43 X [.ref (d 0), .int v1] (z_wM X d M) RR.1 (z_wM X d RR.2) := by
  intro sz
  refine Met.ofW (cc := cX5_isCut) (maxL := 2) (ret := (some .boolean)) (by decide) rfl ?_
  intro p e s m args below meth c s₁ Bd hml hv
  obtain ⟨rfl, hsz, hP, hK, hN, hD0⟩ := hv
  have hx := Bd.exec
  have hb := Bd.bytes
  have hr := Bd.returns
  have hts := atoms_spec (ws := wsX5_isCut) Bd.pre
  have hown : s.vm.findClass RX5 = some m.cls := findClass_of_methodNamed Bd.named
  have hlocks := Bd.notSynchronized
  have S : CallFix p m c cX5_isCut 2 s _ wsX5_isCut RX5 := ⟨hx, hb, hml, hown, hts⟩
  have lk_fi22 := hts (.fieldLink RX5 22 "HouseBellsModel" "isCut" "[Z") (List.mem_of_getElem? (i := 1) rfl)
  have in_X5 : ∀ w ∈ wsX50, w ∈ wsX5_isCut := fun _ h => (List.mem_cons_of_mem _ (List.mem_append_right _ h))
  subst hsz
  have hD := hD0.self (sz := s.heap.size)
  generalize hAe : va_A (z_wM X d M) s.heap.size = A at hD ⊢
  have hA : ∀ q : Nat, s.heap.size ≤ q → A q := fun q h => by rw [← hAe]; exact Or.inr h
  have hS : va_S A s.heap s.heap [] := va_S.rf
  have hl := lv_entry ([.ref (d 0), .int v1]) (n := 2) (Nat.le_of_ble_eq_true rfl)
  rw [lg_entry_eq]
  generalize (lg_sl ([.ref (d 0), .int v1]) ++ List.replicate (2 - (lg_sl ([.ref (d 0), .int v1])).length) Slot.unset).toArray = ls at hl ⊢
  have hl : lv_has ls 2 [(0, .ref (d 0)), (1, .int v1)] := hl
  suffices hgo : ∀ (H : Heap) (locs : List Loc), va_P X.1 vwCl (z_wM X d M) H → va_D A (z_wM X d M) → va_S A s.heap H locs → W p l e (headSpec wsX5_isCut (z_R 2 43)).room s m ([.ref (d 0), .int v1] : List Value).toArray below meth c H locs 0 0 (MQ below (va_Qi (fun (z : Int32) (u : va_W) => z = RR.1 ∧ u = (z_wM X d RR.2)) (z_Bm X A) A) ([.ref (d 0), .int v1] : List Value).toArray s 0 0 A) (F0 m 0 ls []) from hgo _ _ hP hD hS
  clear hP hD hS
  intro H locs hP hD hS
  unfold f_X5_isCut at hf
  refine lv_aload_n (pc := 0) hx hb dX5_isCut_0 rfl (lv_at hl 0 rfl) ?_
  refine lv_aload_n (pc := 1) hx hb dX5_isCut_1 rfl (lv_at hl 0 rfl) ?_
  refine lv_iload_n (pc := 2) hx hb dX5_isCut_2 rfl (lv_at hl 1 rfl) ?_
  obtain ⟨x3, e3, hf⟩ := z_bd hf
  refine z_cpI (pc := 3) S (m_X5_isRoom l X d M v1 e3) (cwV 1 hts gX5_isCut_X5_isRoom rfl rfl rfl hdX5_isRoom ⟨Nat.le_of_ble_eq_true rfl, Nat.le_of_ble_eq_true rfl⟩) hP hK hN (s_M_M X d M) (ci := 5) rfl rfl rfl ⟨Nat.le_of_ble_eq_true rfl, Nat.le_of_ble_eq_true rfl⟩ rfl hl.1 rfl (Nat.le_of_ble_eq_true rfl) dX5_isCut_3 ?_
  obtain ⟨x6, e6, hf⟩ := z_bd hf
  refine z_cmI (pc := 6) (W1 := (z_wM X d x6.2)) S (m_X5_isKnown l X d M x3 e6) (cwV 1 hts gX5_isCut_X5_isKnown rfl rfl rfl hdX5_isKnown ⟨Nat.le_of_ble_eq_true rfl, Nat.le_of_ble_eq_true rfl⟩) hP hK hN hD hS hA (s_M_M X d M) (f_M_M X d M x6.2) (ci := 5) rfl rfl rfl ⟨Nat.le_of_ble_eq_true rfl, Nat.le_of_ble_eq_true rfl⟩ rfl hl.1 rfl (Nat.le_of_ble_eq_true rfl) dX5_isCut_6 (fun H locs hP hD hS => ?_)
  refine lv_if_eq (pc := 9) (tgt := 25) hx hb dX5_isCut_9 (by decide) (fun c_9 => ?_) (fun c_9 => ?_)
  · replace hf := z_ip c_9 hf
    refine lv_iconst (v := 0) (pc := 25) hx hb dX5_isCut_25 (by decide) ?_
    exact W.zret (pc := 26) (v := 0) hx hb hr rfl (fun t ht hW => ⟨⟨_, (z_wM X d x6.2), rfl, ⟨z_e1 hf, congrArg (fun z => (z_wM X d z)) (z_e2 hf)⟩, by rw [ht]; exact hP, hD⟩, hS.F ht⟩) hS.2.2 dX5_isCut_26
  · replace hf := z_in c_9 hf
    refine lv_aload_n (pc := 12) hx hb dX5_isCut_12 rfl (lv_at hl 0 rfl) ?_
    refine va_get (pc := 13) (ci := 5) (C := RX5) (T := TX5) (N := 11) hx hb hts in_X5 hown hK hP 0 rfl rfl 7 (by decide) lk_fi22 (fun _ h9 => h9) rfl dX5_isCut_13 ?_
    refine lv_iload_n (pc := 16) hx hb dX5_isCut_16 rfl (lv_at hl 1 rfl) ?_
    obtain ⟨x17, e17, hf⟩ := z_bd hf
    refine z_zald (pc := 17) hx hb hK hP 5 1 rfl rfl e17 dX5_isCut_17 ?_
    refine lv_if_eq (pc := 18) (tgt := 25) hx hb dX5_isCut_18 (by decide) (fun c_18 => ?_) (fun c_18 => ?_)
    · replace hf := z_ip c_18 hf
      refine lv_iconst (v := 0) (pc := 25) hx hb dX5_isCut_25 (by decide) ?_
      exact W.zret (pc := 26) (v := 0) hx hb hr rfl (fun t ht hW => ⟨⟨_, (z_wM X d x6.2), rfl, ⟨z_e1 hf, congrArg (fun z => (z_wM X d z)) (z_e2 hf)⟩, by rw [ht]; exact hP, hD⟩, hS.F ht⟩) hS.2.2 dX5_isCut_26
    · replace hf := z_in c_18 hf
      refine lv_iconst (v := 1) (pc := 21) hx hb dX5_isCut_21 (by decide) ?_
      refine lv_goto (pc := 22) (tgt := 26) hx hb dX5_isCut_22 (by decide) ?_
      exact W.zret (pc := 26) (v := 1) hx hb hr rfl (fun t ht hW => ⟨⟨_, (z_wM X d x6.2), rfl, ⟨z_e1 hf, congrArg (fun z => (z_wM X d z)) (z_e2 hf)⟩, by rw [ht]; exact hP, hD⟩, hS.F ht⟩) hS.2.2 dX5_isCut_26
def f_X5_waitedFor (M : z_M) (v1 : Int32) : Option (Int32 × z_M) := (f_X5_isRoom M v1).bind (fun x3 => (f_X5_isKnown M x3).bind (fun x6 => (if x6.1 = 0 then some (0, x6.2) else (z_at (x6.2.2 6) (7 + v1) 55).bind (fun x20 => some (x20, x6.2)))))
set_option maxHeartbeats 4000000 in
set_option maxRecDepth 100000 in
theorem m_X5_waitedFor (l : Launch) (X : z_X) (d : Nat → Nat) (M : z_M) (v1 : Int32) {RR : (Int32 × z_M)} (hf : f_X5_waitedFor M v1 = some RR) : z_mI l yX5_waitedFor wsX5_waitedFor 2 43 X [.ref (d 0), .int v1] (z_wM X d M) RR.1 (z_wM X d RR.2) := by
  intro sz
  refine Met.ofW (cc := cX5_waitedFor) (maxL := 2) (ret := (some .int)) (by decide) rfl ?_
  intro p e s m args below meth c s₁ Bd hml hv
  obtain ⟨rfl, hsz, hP, hK, hN, hD0⟩ := hv
  have hx := Bd.exec
  have hb := Bd.bytes
  have hr := Bd.returns
  have hts := atoms_spec (ws := wsX5_waitedFor) Bd.pre
  have hown : s.vm.findClass RX5 = some m.cls := findClass_of_methodNamed Bd.named
  have hlocks := Bd.notSynchronized
  have S : CallFix p m c cX5_waitedFor 2 s _ wsX5_waitedFor RX5 := ⟨hx, hb, hml, hown, hts⟩
  have lk_fi29 := hts (.fieldLink RX5 29 "HouseBellsModel" "now" "[I") (List.mem_of_getElem? (i := 1) rfl)
  have in_X5 : ∀ w ∈ wsX50, w ∈ wsX5_waitedFor := fun _ h => (List.mem_cons_of_mem _ (List.mem_append_right _ h))
  subst hsz
  have hD := hD0.self (sz := s.heap.size)
  generalize hAe : va_A (z_wM X d M) s.heap.size = A at hD ⊢
  have hA : ∀ q : Nat, s.heap.size ≤ q → A q := fun q h => by rw [← hAe]; exact Or.inr h
  have hS : va_S A s.heap s.heap [] := va_S.rf
  have hl := lv_entry ([.ref (d 0), .int v1]) (n := 2) (Nat.le_of_ble_eq_true rfl)
  rw [lg_entry_eq]
  generalize (lg_sl ([.ref (d 0), .int v1]) ++ List.replicate (2 - (lg_sl ([.ref (d 0), .int v1])).length) Slot.unset).toArray = ls at hl ⊢
  have hl : lv_has ls 2 [(0, .ref (d 0)), (1, .int v1)] := hl
  suffices hgo : ∀ (H : Heap) (locs : List Loc), va_P X.1 vwCl (z_wM X d M) H → va_D A (z_wM X d M) → va_S A s.heap H locs → W p l e (headSpec wsX5_waitedFor (z_R 2 43)).room s m ([.ref (d 0), .int v1] : List Value).toArray below meth c H locs 0 0 (MQ below (va_Qi (fun (z : Int32) (u : va_W) => z = RR.1 ∧ u = (z_wM X d RR.2)) (z_Bm X A) A) ([.ref (d 0), .int v1] : List Value).toArray s 0 0 A) (F0 m 0 ls []) from hgo _ _ hP hD hS
  clear hP hD hS
  intro H locs hP hD hS
  unfold f_X5_waitedFor at hf
  refine lv_aload_n (pc := 0) hx hb dX5_waitedFor_0 rfl (lv_at hl 0 rfl) ?_
  refine lv_aload_n (pc := 1) hx hb dX5_waitedFor_1 rfl (lv_at hl 0 rfl) ?_
  refine lv_iload_n (pc := 2) hx hb dX5_waitedFor_2 rfl (lv_at hl 1 rfl) ?_
  obtain ⟨x3, e3, hf⟩ := z_bd hf
  refine z_cpI (pc := 3) S (m_X5_isRoom l X d M v1 e3) (cwV 1 hts gX5_waitedFor_X5_isRoom rfl rfl rfl hdX5_isRoom ⟨Nat.le_of_ble_eq_true rfl, Nat.le_of_ble_eq_true rfl⟩) hP hK hN (s_M_M X d M) (ci := 5) rfl rfl rfl ⟨Nat.le_of_ble_eq_true rfl, Nat.le_of_ble_eq_true rfl⟩ rfl hl.1 rfl (Nat.le_of_ble_eq_true rfl) dX5_waitedFor_3 ?_
  obtain ⟨x6, e6, hf⟩ := z_bd hf
  refine z_cmI (pc := 6) (W1 := (z_wM X d x6.2)) S (m_X5_isKnown l X d M x3 e6) (cwV 1 hts gX5_waitedFor_X5_isKnown rfl rfl rfl hdX5_isKnown ⟨Nat.le_of_ble_eq_true rfl, Nat.le_of_ble_eq_true rfl⟩) hP hK hN hD hS hA (s_M_M X d M) (f_M_M X d M x6.2) (ci := 5) rfl rfl rfl ⟨Nat.le_of_ble_eq_true rfl, Nat.le_of_ble_eq_true rfl⟩ rfl hl.1 rfl (Nat.le_of_ble_eq_true rfl) dX5_waitedFor_6 (fun H locs hP hD hS => ?_)
  refine lv_if_eq (pc := 9) (tgt := 24) hx hb dX5_waitedFor_9 (by decide) (fun c_9 => ?_) (fun c_9 => ?_)
  · replace hf := z_ip c_9 hf
    refine lv_iconst (v := 0) (pc := 24) hx hb dX5_waitedFor_24 (by decide) ?_
    exact W.iret (pc := 25) (v := 0) hx hb hr (fun t ht hW => ⟨⟨_, (z_wM X d x6.2), rfl, ⟨z_e1 hf, congrArg (fun z => (z_wM X d z)) (z_e2 hf)⟩, by rw [ht]; exact hP, hD⟩, hS.F ht⟩) hS.2.2 dX5_waitedFor_25
  · replace hf := z_in c_9 hf
    refine lv_aload_n (pc := 12) hx hb dX5_waitedFor_12 rfl (lv_at hl 0 rfl) ?_
    refine va_get (pc := 13) (ci := 5) (C := RX5) (T := TX5) (N := 11) hx hb hts in_X5 hown hK hP 0 rfl rfl 9 (by decide) lk_fi29 (fun _ h9 => h9) rfl dX5_waitedFor_13 ?_
    refine lv_bipush (v := 7) (pc := 16) hx hb dX5_waitedFor_16 (by decide) ?_
    refine lv_iload_n (pc := 18) hx hb dX5_waitedFor_18 rfl (lv_at hl 1 rfl) ?_
    refine lv_iadd (pc := 19) hx hb dX5_waitedFor_19 ?_
    obtain ⟨x20, e20, hf⟩ := z_bd hf
    refine z_iald (pc := 20) hx hb hK hP 7 0 rfl rfl e20 dX5_waitedFor_20 ?_
    refine lv_goto (pc := 21) (tgt := 25) hx hb dX5_waitedFor_21 (by decide) ?_
    exact W.iret (pc := 25) (v := x20) hx hb hr (fun t ht hW => ⟨⟨_, (z_wM X d x6.2), rfl, ⟨z_e1 hf, congrArg (fun z => (z_wM X d z)) (z_e2 hf)⟩, by rw [ht]; exact hP, hD⟩, hS.F ht⟩) hS.2.2 dX5_waitedFor_25
def f_X5_longest_L4 (M : z_M) : Nat → Int32 → Int32 → Option Int32
  | 0, _, _ => none
  | n + 1, u1, u2 => (if (M.1 1) ≤ u2 then some u1 else (z_at (M.2 6) (7 + u2) 55).bind (fun x20 => (if x20 = (-1) then f_X5_longest_L4 M n u1 (u2 + 1) else (if u1 = (-1) then f_X5_longest_L4 M n u2 (u2 + 1) else (z_at (M.2 6) (7 + u2) 55).bind (fun x38 => (z_at (M.2 6) (7 + u1) 55).bind (fun x47 => (if x38 ≤ x47 then f_X5_longest_L4 M n u1 (u2 + 1) else f_X5_longest_L4 M n u2 (u2 + 1))))))))
def f_X5_longest (M : z_M) : Option Int32 := (f_X5_longest_L4 M z_FU (-1) 0).bind (fun x4 => some x4)
set_option maxHeartbeats 4000000 in
set_option maxRecDepth 100000 in
theorem m_X5_longest (l : Launch) (X : z_X) (d : Nat → Nat) (M : z_M) {RR : Int32} (hf : f_X5_longest M = some RR) : z_pI l yX5_longest wsX5_longest 0 0 X [.ref (d 0)] (z_wM X d M) RR := by
  refine Met.ofW (cc := cX5_longest) (maxL := 3) (ret := (some .int)) (by decide) rfl ?_
  intro p e s m args below meth c s₁ Bd hml hv
  obtain ⟨rfl, hP, hK, hN⟩ := hv
  have hx := Bd.exec
  have hb := Bd.bytes
  have hr := Bd.returns
  have hts := atoms_spec (ws := wsX5_longest) Bd.pre
  have hown : s.vm.findClass RX5 = some m.cls := findClass_of_methodNamed Bd.named
  have hlocks := Bd.notSynchronized
  have S : CallFix p m c cX5_longest 3 s _ wsX5_longest RX5 := ⟨hx, hb, hml, hown, hts⟩
  have lk_fi39 := hts (.fieldLink RX5 39 "HouseBellsModel" "rooms" "I") (List.mem_of_getElem? (i := 1) rfl)
  have lk_fi29 := hts (.fieldLink RX5 29 "HouseBellsModel" "now" "[I") (List.mem_of_getElem? (i := 2) rfl)
  have in_X5 : ∀ w ∈ wsX50, w ∈ wsX5_longest := fun _ h => (List.mem_cons_of_mem _ (List.mem_append_right _ h))
  have hl := lv_entry ([.ref (d 0)]) (n := 3) (Nat.le_of_ble_eq_true rfl)
  rw [lg_entry_eq]
  generalize (lg_sl ([.ref (d 0)]) ++ List.replicate (3 - (lg_sl ([.ref (d 0)])).length) Slot.unset).toArray = ls at hl ⊢
  have hl : lv_has ls 3 [(0, .ref (d 0))] := hl
  have lp_4 : ∀ (n : Nat) (u1 : Int32) (u2 : Int32) (T : Int32) (ls : Array Slot), lv_has ls 3 [(0, .ref (d 0)), (1, .int u1), (2, .int u2)] → f_X5_longest_L4 M n u1 u2 = some T → (∀ (ls : Array Slot), lv_has ls 3 [(1, .int T)] → W p l e (headSpec wsX5_longest (z_R 0 0)).room s m ([.ref (d 0)] : List Value).toArray below meth c s.heap [] 0 0 (MQ below (vp_Si (fun z => z = RR)) ([.ref (d 0)] : List Value).toArray s 0 0 (fun _ => False)) (F0 m 59 ls [])) → W p l e (headSpec wsX5_longest (z_R 0 0)).room s m ([.ref (d 0)] : List Value).toArray below meth c s.heap [] 0 0 (MQ below (vp_Si (fun z => z = RR)) ([.ref (d 0)] : List Value).toArray s 0 0 (fun _ => False)) (F0 m 4 ls []) := by
    intro n
    induction n with
    | zero =>
      intro u1 u2 T ls hl hf kk
      cases hf
    | succ n ih =>
      intro u1 u2 T ls hl hf kk
      rw [f_X5_longest_L4] at hf
      refine lv_iload_n (pc := 4) hx hb dX5_longest_4 rfl (lv_at hl 2 rfl) ?_
      refine lv_aload_n (pc := 5) hx hb dX5_longest_5 rfl (lv_at hl 0 rfl) ?_
      refine va_get (pc := 6) (ci := 5) (C := RX5) (T := TX5) (N := 11) hx hb hts in_X5 hown hK hP 0 rfl rfl 1 (by decide) lk_fi39 (fun _ h9 => h9) rfl dX5_longest_6 ?_
      refine lv_icmp_ge (pc := 9) (tgt := 59) hx hb dX5_longest_9 (by decide) (fun c_9 => ?_) (fun c_9 => ?_)
      · replace hf := z_ip c_9 hf
        obtain rfl := Option.some.inj hf
        exact kk ls (lv_sub hl [1] rfl)
      · replace hf := z_in c_9 hf
        refine lv_aload_n (pc := 12) hx hb dX5_longest_12 rfl (lv_at hl 0 rfl) ?_
        refine va_get (pc := 13) (ci := 5) (C := RX5) (T := TX5) (N := 11) hx hb hts in_X5 hown hK hP 0 rfl rfl 9 (by decide) lk_fi29 (fun _ h9 => h9) rfl dX5_longest_13 ?_
        refine lv_bipush (v := 7) (pc := 16) hx hb dX5_longest_16 (by decide) ?_
        refine lv_iload_n (pc := 18) hx hb dX5_longest_18 rfl (lv_at hl 2 rfl) ?_
        refine lv_iadd (pc := 19) hx hb dX5_longest_19 ?_
        obtain ⟨x20, e20, hf⟩ := z_bd hf
        refine z_iald (pc := 20) hx hb hK hP 7 0 rfl rfl e20 dX5_longest_20 ?_
        refine lv_iconst (v := (-1)) (pc := 21) hx hb dX5_longest_21 (by decide) ?_
        refine lv_icmp_eq (pc := 22) (tgt := 53) hx hb dX5_longest_22 (by decide) (fun c_22 => ?_) (fun c_22 => ?_)
        · replace hf := z_ip c_22 hf
          refine lv_iinc (pc := 53) (v := (u2 + 1)) (lv' := [(2, .int (u2 + 1)), (0, .ref (d 0)), (1, .int u1)]) hx hb dX5_longest_53 hl (k := 2) rfl rfl (by decide) rfl (fun ls hl => ?_)
          refine lv_goto (pc := 56) (tgt := 4) hx hb dX5_longest_56 (by decide) ?_
          exact ih u1 (u2 + 1) T ls (lv_sub hl [1, 2, 0] rfl) hf kk
        · replace hf := z_in c_22 hf
          refine lv_iload_n (pc := 25) hx hb dX5_longest_25 rfl (lv_at hl 1 rfl) ?_
          refine lv_iconst (v := (-1)) (pc := 26) hx hb dX5_longest_26 (by decide) ?_
          refine lv_icmp_eq (pc := 27) (tgt := 51) hx hb dX5_longest_27 (by decide) (fun c_27 => ?_) (fun c_27 => ?_)
          · replace hf := z_ip c_27 hf
            refine lv_iload_n (pc := 51) hx hb dX5_longest_51 rfl (lv_at hl 2 rfl) ?_
            refine lv_istore_n (pc := 52) (lv' := [(1, .int u2), (0, .ref (d 0)), (2, .int u2)]) hx hb dX5_longest_52 rfl hl (by decide) rfl (fun ls hl => ?_)
            refine lv_iinc (pc := 53) (v := (u2 + 1)) (lv' := [(2, .int (u2 + 1)), (1, .int u2), (0, .ref (d 0))]) hx hb dX5_longest_53 hl (k := 2) rfl rfl (by decide) rfl (fun ls hl => ?_)
            refine lv_goto (pc := 56) (tgt := 4) hx hb dX5_longest_56 (by decide) ?_
            exact ih u2 (u2 + 1) T ls (lv_sub hl [2, 1, 0] rfl) hf kk
          · replace hf := z_in c_27 hf
            refine lv_aload_n (pc := 30) hx hb dX5_longest_30 rfl (lv_at hl 0 rfl) ?_
            refine va_get (pc := 31) (ci := 5) (C := RX5) (T := TX5) (N := 11) hx hb hts in_X5 hown hK hP 0 rfl rfl 9 (by decide) lk_fi29 (fun _ h9 => h9) rfl dX5_longest_31 ?_
            refine lv_bipush (v := 7) (pc := 34) hx hb dX5_longest_34 (by decide) ?_
            refine lv_iload_n (pc := 36) hx hb dX5_longest_36 rfl (lv_at hl 2 rfl) ?_
            refine lv_iadd (pc := 37) hx hb dX5_longest_37 ?_
            obtain ⟨x38, e38, hf⟩ := z_bd hf
            refine z_iald (pc := 38) hx hb hK hP 7 0 rfl rfl e38 dX5_longest_38 ?_
            refine lv_aload_n (pc := 39) hx hb dX5_longest_39 rfl (lv_at hl 0 rfl) ?_
            refine va_get (pc := 40) (ci := 5) (C := RX5) (T := TX5) (N := 11) hx hb hts in_X5 hown hK hP 0 rfl rfl 9 (by decide) lk_fi29 (fun _ h9 => h9) rfl dX5_longest_40 ?_
            refine lv_bipush (v := 7) (pc := 43) hx hb dX5_longest_43 (by decide) ?_
            refine lv_iload_n (pc := 45) hx hb dX5_longest_45 rfl (lv_at hl 1 rfl) ?_
            refine lv_iadd (pc := 46) hx hb dX5_longest_46 ?_
            obtain ⟨x47, e47, hf⟩ := z_bd hf
            refine z_iald (pc := 47) hx hb hK hP 7 0 rfl rfl e47 dX5_longest_47 ?_
            refine lv_icmp_le (pc := 48) (tgt := 53) hx hb dX5_longest_48 (by decide) (fun c_48 => ?_) (fun c_48 => ?_)
            · replace hf := z_ip c_48 hf
              refine lv_iinc (pc := 53) (v := (u2 + 1)) (lv' := [(2, .int (u2 + 1)), (0, .ref (d 0)), (1, .int u1)]) hx hb dX5_longest_53 hl (k := 2) rfl rfl (by decide) rfl (fun ls hl => ?_)
              refine lv_goto (pc := 56) (tgt := 4) hx hb dX5_longest_56 (by decide) ?_
              exact ih u1 (u2 + 1) T ls (lv_sub hl [1, 2, 0] rfl) hf kk
            · replace hf := z_in c_48 hf
              refine lv_iload_n (pc := 51) hx hb dX5_longest_51 rfl (lv_at hl 2 rfl) ?_
              refine lv_istore_n (pc := 52) (lv' := [(1, .int u2), (0, .ref (d 0)), (2, .int u2)]) hx hb dX5_longest_52 rfl hl (by decide) rfl (fun ls hl => ?_)
              refine lv_iinc (pc := 53) (v := (u2 + 1)) (lv' := [(2, .int (u2 + 1)), (1, .int u2), (0, .ref (d 0))]) hx hb dX5_longest_53 hl (k := 2) rfl rfl (by decide) rfl (fun ls hl => ?_)
              refine lv_goto (pc := 56) (tgt := 4) hx hb dX5_longest_56 (by decide) ?_
              exact ih u2 (u2 + 1) T ls (lv_sub hl [2, 1, 0] rfl) hf kk
  unfold f_X5_longest at hf
  refine lv_iconst (v := (-1)) (pc := 0) hx hb dX5_longest_0 (by decide) ?_
  refine lv_istore_n (pc := 1) (lv' := [(1, .int (-1)), (0, .ref (d 0))]) hx hb dX5_longest_1 rfl hl (by decide) rfl (fun ls hl => ?_)
  refine lv_iconst (v := 0) (pc := 2) hx hb dX5_longest_2 (by decide) ?_
  refine lv_istore_n (pc := 3) (lv' := [(2, .int 0), (1, .int (-1)), (0, .ref (d 0))]) hx hb dX5_longest_3 rfl hl (by decide) rfl (fun ls hl => ?_)
  obtain ⟨x4, e4, hf⟩ := z_bd hf
  refine lp_4 z_FU (-1) 0 x4 ls (lv_sub hl [2, 1, 0] rfl) e4 (fun ls hl => ?_)
  refine lv_iload_n (pc := 59) hx hb dX5_longest_59 rfl (lv_at hl 0 rfl) ?_
  exact W.iret (pc := 60) (v := x4) hx hb hr (fun t ht hW => ⟨_, rfl, (Option.some.inj hf), ht⟩) (fun _ h => nomatch h) dX5_longest_60
def f_X5_longestWaiting (M : z_M) : Option (Int32 × z_M) := (f_X5_longest M).bind (fun x2 => some ((f_X5_ok M x2).1, (f_X5_ok M x2).2))
set_option maxHeartbeats 4000000 in
set_option maxRecDepth 100000 in
theorem m_X5_longestWaiting (l : Launch) (X : z_X) (d : Nat → Nat) (M : z_M) {RR : (Int32 × z_M)} (hf : f_X5_longestWaiting M = some RR) : z_mI l yX5_longestWaiting wsX5_longestWaiting 1 22 X [.ref (d 0)] (z_wM X d M) RR.1 (z_wM X d RR.2) := by
  intro sz
  refine Met.ofW (cc := cX5_longestWaiting) (maxL := 1) (ret := (some .int)) (by decide) rfl ?_
  intro p e s m args below meth c s₁ Bd hml hv
  obtain ⟨rfl, hsz, hP, hK, hN, hD0⟩ := hv
  have hx := Bd.exec
  have hb := Bd.bytes
  have hr := Bd.returns
  have hts := atoms_spec (ws := wsX5_longestWaiting) Bd.pre
  have hown : s.vm.findClass RX5 = some m.cls := findClass_of_methodNamed Bd.named
  have hlocks := Bd.notSynchronized
  have S : CallFix p m c cX5_longestWaiting 1 s _ wsX5_longestWaiting RX5 := ⟨hx, hb, hml, hown, hts⟩
  subst hsz
  have hD := hD0.self (sz := s.heap.size)
  generalize hAe : va_A (z_wM X d M) s.heap.size = A at hD ⊢
  have hA : ∀ q : Nat, s.heap.size ≤ q → A q := fun q h => by rw [← hAe]; exact Or.inr h
  have hS : va_S A s.heap s.heap [] := va_S.rf
  have hl := lv_entry ([.ref (d 0)]) (n := 1) (Nat.le_of_ble_eq_true rfl)
  rw [lg_entry_eq]
  generalize (lg_sl ([.ref (d 0)]) ++ List.replicate (1 - (lg_sl ([.ref (d 0)])).length) Slot.unset).toArray = ls at hl ⊢
  have hl : lv_has ls 1 [(0, .ref (d 0))] := hl
  suffices hgo : ∀ (H : Heap) (locs : List Loc), va_P X.1 vwCl (z_wM X d M) H → va_D A (z_wM X d M) → va_S A s.heap H locs → W p l e (headSpec wsX5_longestWaiting (z_R 1 22)).room s m ([.ref (d 0)] : List Value).toArray below meth c H locs 0 0 (MQ below (va_Qi (fun (z : Int32) (u : va_W) => z = RR.1 ∧ u = (z_wM X d RR.2)) (z_Bm X A) A) ([.ref (d 0)] : List Value).toArray s 0 0 A) (F0 m 0 ls []) from hgo _ _ hP hD hS
  clear hP hD hS
  intro H locs hP hD hS
  unfold f_X5_longestWaiting at hf
  refine lv_aload_n (pc := 0) hx hb dX5_longestWaiting_0 rfl (lv_at hl 0 rfl) ?_
  refine lv_aload_n (pc := 1) hx hb dX5_longestWaiting_1 rfl (lv_at hl 0 rfl) ?_
  obtain ⟨x2, e2, hf⟩ := z_bd hf
  refine z_cpI (pc := 2) S (m_X5_longest l X d M e2) (cwV 0 hts gX5_longestWaiting_X5_longest rfl rfl rfl hdX5_longest ⟨Nat.le_of_ble_eq_true rfl, Nat.le_of_ble_eq_true rfl⟩) hP hK hN (s_M_M X d M) (ci := 5) rfl rfl rfl ⟨Nat.le_of_ble_eq_true rfl, Nat.le_of_ble_eq_true rfl⟩ rfl hl.1 rfl (Nat.le_of_ble_eq_true rfl) dX5_longestWaiting_2 ?_
  refine z_cmI (pc := 5) (W1 := (z_wM X d (f_X5_ok M x2).2)) S (m_X5_ok l X d M x2 rfl) (cwV 1 hts gX5_longestWaiting_X5_ok rfl rfl rfl hdX5_ok ⟨Nat.le_of_ble_eq_true rfl, Nat.le_of_ble_eq_true rfl⟩) hP hK hN hD hS hA (s_M_M X d M) (f_M_M X d M ((f_X5_ok M x2).2)) (ci := 5) rfl rfl rfl ⟨Nat.le_of_ble_eq_true rfl, Nat.le_of_ble_eq_true rfl⟩ rfl hl.1 rfl (Nat.le_of_ble_eq_true rfl) dX5_longestWaiting_5 (fun H locs hP hD hS => ?_)
  exact W.iret (pc := 8) (v := (f_X5_ok M x2).1) hx hb hr (fun t ht hW => ⟨⟨_, (z_wM X d (f_X5_ok M x2).2), rfl, ⟨z_e1 hf, congrArg (fun z => (z_wM X d z)) (z_e2 hf)⟩, by rw [ht]; exact hP, hD⟩, hS.F ht⟩) hS.2.2 dX5_longestWaiting_8
def f_X5_manyCrossed_L4 (M : z_M) : Nat → Int32 → Int32 → Option Int32
  | 0, _, _ => none
  | n + 1, u1, u2 => (if (M.1 1) ≤ u2 then some u1 else (z_at (M.2 3) u2 12).bind (fun x18 => (if x18 = u2 then f_X5_manyCrossed_L4 M n (u1 + 0) (u2 + 1) else f_X5_manyCrossed_L4 M n (u1 + 1) (u2 + 1))))
def f_X5_manyCrossed (M : z_M) : Option Int32 := (f_X5_manyCrossed_L4 M z_FU 0 0).bind (fun x4 => some x4)
set_option maxHeartbeats 4000000 in
set_option maxRecDepth 100000 in
theorem m_X5_manyCrossed (l : Launch) (X : z_X) (d : Nat → Nat) (M : z_M) {RR : Int32} (hf : f_X5_manyCrossed M = some RR) : z_pI l yX5_manyCrossed wsX5_manyCrossed 0 0 X [.ref (d 0)] (z_wM X d M) RR := by
  refine Met.ofW (cc := cX5_manyCrossed) (maxL := 3) (ret := (some .int)) (by decide) rfl ?_
  intro p e s m args below meth c s₁ Bd hml hv
  obtain ⟨rfl, hP, hK, hN⟩ := hv
  have hx := Bd.exec
  have hb := Bd.bytes
  have hr := Bd.returns
  have hts := atoms_spec (ws := wsX5_manyCrossed) Bd.pre
  have hown : s.vm.findClass RX5 = some m.cls := findClass_of_methodNamed Bd.named
  have hlocks := Bd.notSynchronized
  have S : CallFix p m c cX5_manyCrossed 3 s _ wsX5_manyCrossed RX5 := ⟨hx, hb, hml, hown, hts⟩
  have lk_fi39 := hts (.fieldLink RX5 39 "HouseBellsModel" "rooms" "I") (List.mem_of_getElem? (i := 1) rfl)
  have lk_fi19 := hts (.fieldLink RX5 19 "HouseBellsModel" "drop" "[I") (List.mem_of_getElem? (i := 2) rfl)
  have in_X5 : ∀ w ∈ wsX50, w ∈ wsX5_manyCrossed := fun _ h => (List.mem_cons_of_mem _ (List.mem_append_right _ h))
  have hl := lv_entry ([.ref (d 0)]) (n := 3) (Nat.le_of_ble_eq_true rfl)
  rw [lg_entry_eq]
  generalize (lg_sl ([.ref (d 0)]) ++ List.replicate (3 - (lg_sl ([.ref (d 0)])).length) Slot.unset).toArray = ls at hl ⊢
  have hl : lv_has ls 3 [(0, .ref (d 0))] := hl
  have lp_4 : ∀ (n : Nat) (u1 : Int32) (u2 : Int32) (T : Int32) (ls : Array Slot), lv_has ls 3 [(0, .ref (d 0)), (1, .int u1), (2, .int u2)] → f_X5_manyCrossed_L4 M n u1 u2 = some T → (∀ (ls : Array Slot), lv_has ls 3 [(1, .int T)] → W p l e (headSpec wsX5_manyCrossed (z_R 0 0)).room s m ([.ref (d 0)] : List Value).toArray below meth c s.heap [] 0 0 (MQ below (vp_Si (fun z => z = RR)) ([.ref (d 0)] : List Value).toArray s 0 0 (fun _ => False)) (F0 m 36 ls [])) → W p l e (headSpec wsX5_manyCrossed (z_R 0 0)).room s m ([.ref (d 0)] : List Value).toArray below meth c s.heap [] 0 0 (MQ below (vp_Si (fun z => z = RR)) ([.ref (d 0)] : List Value).toArray s 0 0 (fun _ => False)) (F0 m 4 ls []) := by
    intro n
    induction n with
    | zero =>
      intro u1 u2 T ls hl hf kk
      cases hf
    | succ n ih =>
      intro u1 u2 T ls hl hf kk
      rw [f_X5_manyCrossed_L4] at hf
      refine lv_iload_n (pc := 4) hx hb dX5_manyCrossed_4 rfl (lv_at hl 2 rfl) ?_
      refine lv_aload_n (pc := 5) hx hb dX5_manyCrossed_5 rfl (lv_at hl 0 rfl) ?_
      refine va_get (pc := 6) (ci := 5) (C := RX5) (T := TX5) (N := 11) hx hb hts in_X5 hown hK hP 0 rfl rfl 1 (by decide) lk_fi39 (fun _ h9 => h9) rfl dX5_manyCrossed_6 ?_
      refine lv_icmp_ge (pc := 9) (tgt := 36) hx hb dX5_manyCrossed_9 (by decide) (fun c_9 => ?_) (fun c_9 => ?_)
      · replace hf := z_ip c_9 hf
        obtain rfl := Option.some.inj hf
        exact kk ls (lv_sub hl [1] rfl)
      · replace hf := z_in c_9 hf
        refine lv_iload_n (pc := 12) hx hb dX5_manyCrossed_12 rfl (lv_at hl 1 rfl) ?_
        refine lv_aload_n (pc := 13) hx hb dX5_manyCrossed_13 rfl (lv_at hl 0 rfl) ?_
        refine va_get (pc := 14) (ci := 5) (C := RX5) (T := TX5) (N := 11) hx hb hts in_X5 hown hK hP 0 rfl rfl 6 (by decide) lk_fi19 (fun _ h9 => h9) rfl dX5_manyCrossed_14 ?_
        refine lv_iload_n (pc := 17) hx hb dX5_manyCrossed_17 rfl (lv_at hl 2 rfl) ?_
        obtain ⟨x18, e18, hf⟩ := z_bd hf
        refine z_iald (pc := 18) hx hb hK hP 4 0 rfl rfl e18 dX5_manyCrossed_18 ?_
        refine lv_iload_n (pc := 19) hx hb dX5_manyCrossed_19 rfl (lv_at hl 2 rfl) ?_
        refine lv_icmp_ne (pc := 20) (tgt := 27) hx hb dX5_manyCrossed_20 (by decide) (fun c_20 => ?_) (fun c_20 => ?_)
        · replace hf := z_in c_20 hf
          refine lv_iconst (v := 1) (pc := 27) hx hb dX5_manyCrossed_27 (by decide) ?_
          refine lv_iadd (pc := 28) hx hb dX5_manyCrossed_28 ?_
          refine lv_istore_n (pc := 29) (lv' := [(1, .int (u1 + 1)), (0, .ref (d 0)), (2, .int u2)]) hx hb dX5_manyCrossed_29 rfl hl (by decide) rfl (fun ls hl => ?_)
          refine lv_iinc (pc := 30) (v := (u2 + 1)) (lv' := [(2, .int (u2 + 1)), (1, .int (u1 + 1)), (0, .ref (d 0))]) hx hb dX5_manyCrossed_30 hl (k := 2) rfl rfl (by decide) rfl (fun ls hl => ?_)
          refine lv_goto (pc := 33) (tgt := 4) hx hb dX5_manyCrossed_33 (by decide) ?_
          exact ih (u1 + 1) (u2 + 1) T ls (lv_sub hl [2, 1, 0] rfl) hf kk
        · replace hf := z_ip c_20 hf
          refine lv_iconst (v := 0) (pc := 23) hx hb dX5_manyCrossed_23 (by decide) ?_
          refine lv_goto (pc := 24) (tgt := 28) hx hb dX5_manyCrossed_24 (by decide) ?_
          refine lv_iadd (pc := 28) hx hb dX5_manyCrossed_28 ?_
          refine lv_istore_n (pc := 29) (lv' := [(1, .int (u1 + 0)), (0, .ref (d 0)), (2, .int u2)]) hx hb dX5_manyCrossed_29 rfl hl (by decide) rfl (fun ls hl => ?_)
          refine lv_iinc (pc := 30) (v := (u2 + 1)) (lv' := [(2, .int (u2 + 1)), (1, .int (u1 + 0)), (0, .ref (d 0))]) hx hb dX5_manyCrossed_30 hl (k := 2) rfl rfl (by decide) rfl (fun ls hl => ?_)
          refine lv_goto (pc := 33) (tgt := 4) hx hb dX5_manyCrossed_33 (by decide) ?_
          exact ih (u1 + 0) (u2 + 1) T ls (lv_sub hl [2, 1, 0] rfl) hf kk
  unfold f_X5_manyCrossed at hf
  refine lv_iconst (v := 0) (pc := 0) hx hb dX5_manyCrossed_0 (by decide) ?_
  refine lv_istore_n (pc := 1) (lv' := [(1, .int 0), (0, .ref (d 0))]) hx hb dX5_manyCrossed_1 rfl hl (by decide) rfl (fun ls hl => ?_)
  refine lv_iconst (v := 0) (pc := 2) hx hb dX5_manyCrossed_2 (by decide) ?_
  refine lv_istore_n (pc := 3) (lv' := [(2, .int 0), (1, .int 0), (0, .ref (d 0))]) hx hb dX5_manyCrossed_3 rfl hl (by decide) rfl (fun ls hl => ?_)
  obtain ⟨x4, e4, hf⟩ := z_bd hf
  refine lp_4 z_FU 0 0 x4 ls (lv_sub hl [2, 1, 0] rfl) e4 (fun ls hl => ?_)
  refine lv_iload_n (pc := 36) hx hb dX5_manyCrossed_36 rfl (lv_at hl 0 rfl) ?_
  exact W.iret (pc := 37) (v := x4) hx hb hr (fun t ht hW => ⟨_, rfl, (Option.some.inj hf), ht⟩) (fun _ h => nomatch h) dX5_manyCrossed_37
def f_X5_crossed (M : z_M) : Option (Int32 × z_M) := (f_X5_manyCrossed M).bind (fun x2 => some ((f_X5_ok M x2).1, (f_X5_ok M x2).2))
set_option maxHeartbeats 4000000 in
set_option maxRecDepth 100000 in
theorem m_X5_crossed (l : Launch) (X : z_X) (d : Nat → Nat) (M : z_M) {RR : (Int32 × z_M)} (hf : f_X5_crossed M = some RR) : z_mI l yX5_crossed wsX5_crossed 1 22 X [.ref (d 0)] (z_wM X d M) RR.1 (z_wM X d RR.2) := by
  intro sz
  refine Met.ofW (cc := cX5_crossed) (maxL := 1) (ret := (some .int)) (by decide) rfl ?_
  intro p e s m args below meth c s₁ Bd hml hv
  obtain ⟨rfl, hsz, hP, hK, hN, hD0⟩ := hv
  have hx := Bd.exec
  have hb := Bd.bytes
  have hr := Bd.returns
  have hts := atoms_spec (ws := wsX5_crossed) Bd.pre
  have hown : s.vm.findClass RX5 = some m.cls := findClass_of_methodNamed Bd.named
  have hlocks := Bd.notSynchronized
  have S : CallFix p m c cX5_crossed 1 s _ wsX5_crossed RX5 := ⟨hx, hb, hml, hown, hts⟩
  subst hsz
  have hD := hD0.self (sz := s.heap.size)
  generalize hAe : va_A (z_wM X d M) s.heap.size = A at hD ⊢
  have hA : ∀ q : Nat, s.heap.size ≤ q → A q := fun q h => by rw [← hAe]; exact Or.inr h
  have hS : va_S A s.heap s.heap [] := va_S.rf
  have hl := lv_entry ([.ref (d 0)]) (n := 1) (Nat.le_of_ble_eq_true rfl)
  rw [lg_entry_eq]
  generalize (lg_sl ([.ref (d 0)]) ++ List.replicate (1 - (lg_sl ([.ref (d 0)])).length) Slot.unset).toArray = ls at hl ⊢
  have hl : lv_has ls 1 [(0, .ref (d 0))] := hl
  suffices hgo : ∀ (H : Heap) (locs : List Loc), va_P X.1 vwCl (z_wM X d M) H → va_D A (z_wM X d M) → va_S A s.heap H locs → W p l e (headSpec wsX5_crossed (z_R 1 22)).room s m ([.ref (d 0)] : List Value).toArray below meth c H locs 0 0 (MQ below (va_Qi (fun (z : Int32) (u : va_W) => z = RR.1 ∧ u = (z_wM X d RR.2)) (z_Bm X A) A) ([.ref (d 0)] : List Value).toArray s 0 0 A) (F0 m 0 ls []) from hgo _ _ hP hD hS
  clear hP hD hS
  intro H locs hP hD hS
  unfold f_X5_crossed at hf
  refine lv_aload_n (pc := 0) hx hb dX5_crossed_0 rfl (lv_at hl 0 rfl) ?_
  refine lv_aload_n (pc := 1) hx hb dX5_crossed_1 rfl (lv_at hl 0 rfl) ?_
  obtain ⟨x2, e2, hf⟩ := z_bd hf
  refine z_cpI (pc := 2) S (m_X5_manyCrossed l X d M e2) (cwV 0 hts gX5_crossed_X5_manyCrossed rfl rfl rfl hdX5_manyCrossed ⟨Nat.le_of_ble_eq_true rfl, Nat.le_of_ble_eq_true rfl⟩) hP hK hN (s_M_M X d M) (ci := 5) rfl rfl rfl ⟨Nat.le_of_ble_eq_true rfl, Nat.le_of_ble_eq_true rfl⟩ rfl hl.1 rfl (Nat.le_of_ble_eq_true rfl) dX5_crossed_2 ?_
  refine z_cmI (pc := 5) (W1 := (z_wM X d (f_X5_ok M x2).2)) S (m_X5_ok l X d M x2 rfl) (cwV 1 hts gX5_crossed_X5_ok rfl rfl rfl hdX5_ok ⟨Nat.le_of_ble_eq_true rfl, Nat.le_of_ble_eq_true rfl⟩) hP hK hN hD hS hA (s_M_M X d M) (f_M_M X d M ((f_X5_ok M x2).2)) (ci := 5) rfl rfl rfl ⟨Nat.le_of_ble_eq_true rfl, Nat.le_of_ble_eq_true rfl⟩ rfl hl.1 rfl (Nat.le_of_ble_eq_true rfl) dX5_crossed_5 (fun H locs hP hD hS => ?_)
  exact W.iret (pc := 8) (v := (f_X5_ok M x2).1) hx hb hr (fun t ht hW => ⟨⟨_, (z_wM X d (f_X5_ok M x2).2), rfl, ⟨z_e1 hf, congrArg (fun z => (z_wM X d z)) (z_e2 hf)⟩, by rw [ht]; exact hP, hD⟩, hS.F ht⟩) hS.2.2 dX5_crossed_8
def f_X5_crossings_L22 (M : z_M) : Nat → Int32 → Int32 → Int32 → Option (Int32 × Int32 × Int32)
  | 0, _, _, _ => none
  | n + 1, u1, u2, u3 => (if u3 ≤ u2 then some (u1, u2, u3) else (z_at (M.2 3) u3 12).bind (fun x32 => f_X5_crossings_L22 M n u1 u2 x32))
def f_X5_crossings_L7 (M : z_M) : Nat → Int32 → Int32 → Option Int32
  | 0, _, _ => none
  | n + 1, u1, u2 => (if (M.1 1) ≤ u2 then some u1 else (z_at (M.2 3) u2 12).bind (fun x20 => (f_X5_crossings_L22 M z_FU u1 u2 x20).bind (fun x22 => (if x22.2.2 = x22.2.1 then f_X5_crossings_L7 M n (x22.1 - 1) (x22.2.1 + 1) else f_X5_crossings_L7 M n (x22.1 - 0) (x22.2.1 + 1)))))
def f_X5_crossings (M : z_M) : Option Int32 := (f_X5_crossings_L7 M z_FU (M.1 1) 0).bind (fun x7 => some x7)
set_option maxHeartbeats 4000000 in
set_option maxRecDepth 100000 in
theorem m_X5_crossings (l : Launch) (X : z_X) (d : Nat → Nat) (M : z_M) {RR : Int32} (hf : f_X5_crossings M = some RR) : z_pI l yX5_crossings wsX5_crossings 0 0 X [.ref (d 0)] (z_wM X d M) RR := by
  refine Met.ofW (cc := cX5_crossings) (maxL := 4) (ret := (some .int)) (by decide) rfl ?_
  intro p e s m args below meth c s₁ Bd hml hv
  obtain ⟨rfl, hP, hK, hN⟩ := hv
  have hx := Bd.exec
  have hb := Bd.bytes
  have hr := Bd.returns
  have hts := atoms_spec (ws := wsX5_crossings) Bd.pre
  have hown : s.vm.findClass RX5 = some m.cls := findClass_of_methodNamed Bd.named
  have hlocks := Bd.notSynchronized
  have S : CallFix p m c cX5_crossings 4 s _ wsX5_crossings RX5 := ⟨hx, hb, hml, hown, hts⟩
  have lk_fi39 := hts (.fieldLink RX5 39 "HouseBellsModel" "rooms" "I") (List.mem_of_getElem? (i := 1) rfl)
  have lk_fi19 := hts (.fieldLink RX5 19 "HouseBellsModel" "drop" "[I") (List.mem_of_getElem? (i := 2) rfl)
  have in_X5 : ∀ w ∈ wsX50, w ∈ wsX5_crossings := fun _ h => (List.mem_cons_of_mem _ (List.mem_append_right _ h))
  have hl := lv_entry ([.ref (d 0)]) (n := 4) (Nat.le_of_ble_eq_true rfl)
  rw [lg_entry_eq]
  generalize (lg_sl ([.ref (d 0)]) ++ List.replicate (4 - (lg_sl ([.ref (d 0)])).length) Slot.unset).toArray = ls at hl ⊢
  have hl : lv_has ls 4 [(0, .ref (d 0))] := hl
  have lp_22 : ∀ (n : Nat) (u1 : Int32) (u2 : Int32) (u3 : Int32) (T : (Int32 × Int32 × Int32)) (ls : Array Slot), lv_has ls 4 [(0, .ref (d 0)), (1, .int u1), (2, .int u2), (3, .int u3)] → f_X5_crossings_L22 M n u1 u2 u3 = some T → (∀ (ls : Array Slot), lv_has ls 4 [(0, .ref (d 0)), (1, .int T.1), (2, .int T.2.1), (3, .int T.2.2)] → W p l e (headSpec wsX5_crossings (z_R 0 0)).room s m ([.ref (d 0)] : List Value).toArray below meth c s.heap [] 0 0 (MQ below (vp_Si (fun z => z = RR)) ([.ref (d 0)] : List Value).toArray s 0 0 (fun _ => False)) (F0 m 37 ls [])) → W p l e (headSpec wsX5_crossings (z_R 0 0)).room s m ([.ref (d 0)] : List Value).toArray below meth c s.heap [] 0 0 (MQ below (vp_Si (fun z => z = RR)) ([.ref (d 0)] : List Value).toArray s 0 0 (fun _ => False)) (F0 m 22 ls []) := by
    intro n
    induction n with
    | zero =>
      intro u1 u2 u3 T ls hl hf kk
      cases hf
    | succ n ih =>
      intro u1 u2 u3 T ls hl hf kk
      rw [f_X5_crossings_L22] at hf
      refine lv_iload_n (pc := 22) hx hb dX5_crossings_22 rfl (lv_at hl 3 rfl) ?_
      refine lv_iload_n (pc := 23) hx hb dX5_crossings_23 rfl (lv_at hl 2 rfl) ?_
      refine lv_icmp_le (pc := 24) (tgt := 37) hx hb dX5_crossings_24 (by decide) (fun c_24 => ?_) (fun c_24 => ?_)
      · replace hf := z_ip c_24 hf
        obtain rfl := Option.some.inj hf
        exact kk ls (lv_sub hl [0, 1, 2, 3] rfl)
      · replace hf := z_in c_24 hf
        refine lv_aload_n (pc := 27) hx hb dX5_crossings_27 rfl (lv_at hl 0 rfl) ?_
        refine va_get (pc := 28) (ci := 5) (C := RX5) (T := TX5) (N := 11) hx hb hts in_X5 hown hK hP 0 rfl rfl 6 (by decide) lk_fi19 (fun _ h9 => h9) rfl dX5_crossings_28 ?_
        refine lv_iload_n (pc := 31) hx hb dX5_crossings_31 rfl (lv_at hl 3 rfl) ?_
        obtain ⟨x32, e32, hf⟩ := z_bd hf
        refine z_iald (pc := 32) hx hb hK hP 4 0 rfl rfl e32 dX5_crossings_32 ?_
        refine lv_istore_n (pc := 33) (lv' := [(3, .int x32), (0, .ref (d 0)), (1, .int u1), (2, .int u2)]) hx hb dX5_crossings_33 rfl hl (by decide) rfl (fun ls hl => ?_)
        refine lv_goto (pc := 34) (tgt := 22) hx hb dX5_crossings_34 (by decide) ?_
        exact ih u1 u2 x32 T ls (lv_sub hl [1, 2, 3, 0] rfl) hf kk
  have lp_7 : ∀ (n : Nat) (u1 : Int32) (u2 : Int32) (T : Int32) (ls : Array Slot), lv_has ls 4 [(0, .ref (d 0)), (1, .int u1), (2, .int u2)] → f_X5_crossings_L7 M n u1 u2 = some T → (∀ (ls : Array Slot), lv_has ls 4 [(1, .int T)] → W p l e (headSpec wsX5_crossings (z_R 0 0)).room s m ([.ref (d 0)] : List Value).toArray below meth c s.heap [] 0 0 (MQ below (vp_Si (fun z => z = RR)) ([.ref (d 0)] : List Value).toArray s 0 0 (fun _ => False)) (F0 m 56 ls [])) → W p l e (headSpec wsX5_crossings (z_R 0 0)).room s m ([.ref (d 0)] : List Value).toArray below meth c s.heap [] 0 0 (MQ below (vp_Si (fun z => z = RR)) ([.ref (d 0)] : List Value).toArray s 0 0 (fun _ => False)) (F0 m 7 ls []) := by
    intro n
    induction n with
    | zero =>
      intro u1 u2 T ls hl hf kk
      cases hf
    | succ n ih =>
      intro u1 u2 T ls hl hf kk
      rw [f_X5_crossings_L7] at hf
      refine lv_iload_n (pc := 7) hx hb dX5_crossings_7 rfl (lv_at hl 2 rfl) ?_
      refine lv_aload_n (pc := 8) hx hb dX5_crossings_8 rfl (lv_at hl 0 rfl) ?_
      refine va_get (pc := 9) (ci := 5) (C := RX5) (T := TX5) (N := 11) hx hb hts in_X5 hown hK hP 0 rfl rfl 1 (by decide) lk_fi39 (fun _ h9 => h9) rfl dX5_crossings_9 ?_
      refine lv_icmp_ge (pc := 12) (tgt := 56) hx hb dX5_crossings_12 (by decide) (fun c_12 => ?_) (fun c_12 => ?_)
      · replace hf := z_ip c_12 hf
        obtain rfl := Option.some.inj hf
        exact kk ls (lv_sub hl [1] rfl)
      · replace hf := z_in c_12 hf
        refine lv_aload_n (pc := 15) hx hb dX5_crossings_15 rfl (lv_at hl 0 rfl) ?_
        refine va_get (pc := 16) (ci := 5) (C := RX5) (T := TX5) (N := 11) hx hb hts in_X5 hown hK hP 0 rfl rfl 6 (by decide) lk_fi19 (fun _ h9 => h9) rfl dX5_crossings_16 ?_
        refine lv_iload_n (pc := 19) hx hb dX5_crossings_19 rfl (lv_at hl 2 rfl) ?_
        obtain ⟨x20, e20, hf⟩ := z_bd hf
        refine z_iald (pc := 20) hx hb hK hP 4 0 rfl rfl e20 dX5_crossings_20 ?_
        refine lv_istore_n (pc := 21) (lv' := [(3, .int x20), (0, .ref (d 0)), (1, .int u1), (2, .int u2)]) hx hb dX5_crossings_21 rfl hl (by decide) rfl (fun ls hl => ?_)
        obtain ⟨x22, e22, hf⟩ := z_bd hf
        refine lp_22 z_FU u1 u2 x20 x22 ls (lv_sub hl [1, 2, 3, 0] rfl) e22 (fun ls hl => ?_)
        refine lv_iload_n (pc := 37) hx hb dX5_crossings_37 rfl (lv_at hl 1 rfl) ?_
        refine lv_iload_n (pc := 38) hx hb dX5_crossings_38 rfl (lv_at hl 3 rfl) ?_
        refine lv_iload_n (pc := 39) hx hb dX5_crossings_39 rfl (lv_at hl 2 rfl) ?_
        refine lv_icmp_ne (pc := 40) (tgt := 47) hx hb dX5_crossings_40 (by decide) (fun c_40 => ?_) (fun c_40 => ?_)
        · replace hf := z_in c_40 hf
          refine lv_iconst (v := 0) (pc := 47) hx hb dX5_crossings_47 (by decide) ?_
          refine lv_isub (pc := 48) hx hb dX5_crossings_48 ?_
          refine lv_istore_n (pc := 49) (lv' := [(1, .int (x22.1 - 0)), (0, .ref (d 0)), (2, .int x22.2.1), (3, .int x22.2.2)]) hx hb dX5_crossings_49 rfl hl (by decide) rfl (fun ls hl => ?_)
          refine lv_iinc (pc := 50) (v := (x22.2.1 + 1)) (lv' := [(2, .int (x22.2.1 + 1)), (1, .int (x22.1 - 0)), (0, .ref (d 0)), (3, .int x22.2.2)]) hx hb dX5_crossings_50 hl (k := 2) rfl rfl (by decide) rfl (fun ls hl => ?_)
          refine lv_goto (pc := 53) (tgt := 7) hx hb dX5_crossings_53 (by decide) ?_
          exact ih (x22.1 - 0) (x22.2.1 + 1) T ls (lv_sub hl [2, 1, 0] rfl) hf kk
        · replace hf := z_ip c_40 hf
          refine lv_iconst (v := 1) (pc := 43) hx hb dX5_crossings_43 (by decide) ?_
          refine lv_goto (pc := 44) (tgt := 48) hx hb dX5_crossings_44 (by decide) ?_
          refine lv_isub (pc := 48) hx hb dX5_crossings_48 ?_
          refine lv_istore_n (pc := 49) (lv' := [(1, .int (x22.1 - 1)), (0, .ref (d 0)), (2, .int x22.2.1), (3, .int x22.2.2)]) hx hb dX5_crossings_49 rfl hl (by decide) rfl (fun ls hl => ?_)
          refine lv_iinc (pc := 50) (v := (x22.2.1 + 1)) (lv' := [(2, .int (x22.2.1 + 1)), (1, .int (x22.1 - 1)), (0, .ref (d 0)), (3, .int x22.2.2)]) hx hb dX5_crossings_50 hl (k := 2) rfl rfl (by decide) rfl (fun ls hl => ?_)
          refine lv_goto (pc := 53) (tgt := 7) hx hb dX5_crossings_53 (by decide) ?_
          exact ih (x22.1 - 1) (x22.2.1 + 1) T ls (lv_sub hl [2, 1, 0] rfl) hf kk
  unfold f_X5_crossings at hf
  refine lv_aload_n (pc := 0) hx hb dX5_crossings_0 rfl (lv_at hl 0 rfl) ?_
  refine va_get (pc := 1) (ci := 5) (C := RX5) (T := TX5) (N := 11) hx hb hts in_X5 hown hK hP 0 rfl rfl 1 (by decide) lk_fi39 (fun _ h9 => h9) rfl dX5_crossings_1 ?_
  refine lv_istore_n (pc := 4) (lv' := [(1, .int (M.1 1)), (0, .ref (d 0))]) hx hb dX5_crossings_4 rfl hl (by decide) rfl (fun ls hl => ?_)
  refine lv_iconst (v := 0) (pc := 5) hx hb dX5_crossings_5 (by decide) ?_
  refine lv_istore_n (pc := 6) (lv' := [(2, .int 0), (1, .int (M.1 1)), (0, .ref (d 0))]) hx hb dX5_crossings_6 rfl hl (by decide) rfl (fun ls hl => ?_)
  obtain ⟨x7, e7, hf⟩ := z_bd hf
  refine lp_7 z_FU (M.1 1) 0 x7 ls (lv_sub hl [2, 1, 0] rfl) e7 (fun ls hl => ?_)
  refine lv_iload_n (pc := 56) hx hb dX5_crossings_56 rfl (lv_at hl 0 rfl) ?_
  exact W.iret (pc := 57) (v := x7) hx hb hr (fun t ht hW => ⟨_, rfl, (Option.some.inj hf), ht⟩) (fun _ h => nomatch h) dX5_crossings_57
def f_X5_crossingsNeeded (M : z_M) : Option (Int32 × z_M) := (f_X5_crossings M).bind (fun x2 => some ((f_X5_ok M x2).1, (f_X5_ok M x2).2))
set_option maxHeartbeats 4000000 in
set_option maxRecDepth 100000 in
theorem m_X5_crossingsNeeded (l : Launch) (X : z_X) (d : Nat → Nat) (M : z_M) {RR : (Int32 × z_M)} (hf : f_X5_crossingsNeeded M = some RR) : z_mI l yX5_crossingsNeeded wsX5_crossingsNeeded 1 23 X [.ref (d 0)] (z_wM X d M) RR.1 (z_wM X d RR.2) := by
  intro sz
  refine Met.ofW (cc := cX5_crossingsNeeded) (maxL := 1) (ret := (some .int)) (by decide) rfl ?_
  intro p e s m args below meth c s₁ Bd hml hv
  obtain ⟨rfl, hsz, hP, hK, hN, hD0⟩ := hv
  have hx := Bd.exec
  have hb := Bd.bytes
  have hr := Bd.returns
  have hts := atoms_spec (ws := wsX5_crossingsNeeded) Bd.pre
  have hown : s.vm.findClass RX5 = some m.cls := findClass_of_methodNamed Bd.named
  have hlocks := Bd.notSynchronized
  have S : CallFix p m c cX5_crossingsNeeded 1 s _ wsX5_crossingsNeeded RX5 := ⟨hx, hb, hml, hown, hts⟩
  subst hsz
  have hD := hD0.self (sz := s.heap.size)
  generalize hAe : va_A (z_wM X d M) s.heap.size = A at hD ⊢
  have hA : ∀ q : Nat, s.heap.size ≤ q → A q := fun q h => by rw [← hAe]; exact Or.inr h
  have hS : va_S A s.heap s.heap [] := va_S.rf
  have hl := lv_entry ([.ref (d 0)]) (n := 1) (Nat.le_of_ble_eq_true rfl)
  rw [lg_entry_eq]
  generalize (lg_sl ([.ref (d 0)]) ++ List.replicate (1 - (lg_sl ([.ref (d 0)])).length) Slot.unset).toArray = ls at hl ⊢
  have hl : lv_has ls 1 [(0, .ref (d 0))] := hl
  suffices hgo : ∀ (H : Heap) (locs : List Loc), va_P X.1 vwCl (z_wM X d M) H → va_D A (z_wM X d M) → va_S A s.heap H locs → W p l e (headSpec wsX5_crossingsNeeded (z_R 1 23)).room s m ([.ref (d 0)] : List Value).toArray below meth c H locs 0 0 (MQ below (va_Qi (fun (z : Int32) (u : va_W) => z = RR.1 ∧ u = (z_wM X d RR.2)) (z_Bm X A) A) ([.ref (d 0)] : List Value).toArray s 0 0 A) (F0 m 0 ls []) from hgo _ _ hP hD hS
  clear hP hD hS
  intro H locs hP hD hS
  unfold f_X5_crossingsNeeded at hf
  refine lv_aload_n (pc := 0) hx hb dX5_crossingsNeeded_0 rfl (lv_at hl 0 rfl) ?_
  refine lv_aload_n (pc := 1) hx hb dX5_crossingsNeeded_1 rfl (lv_at hl 0 rfl) ?_
  obtain ⟨x2, e2, hf⟩ := z_bd hf
  refine z_cpI (pc := 2) S (m_X5_crossings l X d M e2) (cwV 0 hts gX5_crossingsNeeded_X5_crossings rfl rfl rfl hdX5_crossings ⟨Nat.le_of_ble_eq_true rfl, Nat.le_of_ble_eq_true rfl⟩) hP hK hN (s_M_M X d M) (ci := 5) rfl rfl rfl ⟨Nat.le_of_ble_eq_true rfl, Nat.le_of_ble_eq_true rfl⟩ rfl hl.1 rfl (Nat.le_of_ble_eq_true rfl) dX5_crossingsNeeded_2 ?_
  refine z_cmI (pc := 5) (W1 := (z_wM X d (f_X5_ok M x2).2)) S (m_X5_ok l X d M x2 rfl) (cwV 1 hts gX5_crossingsNeeded_X5_ok rfl rfl rfl hdX5_ok ⟨Nat.le_of_ble_eq_true rfl, Nat.le_of_ble_eq_true rfl⟩) hP hK hN hD hS hA (s_M_M X d M) (f_M_M X d M ((f_X5_ok M x2).2)) (ci := 5) rfl rfl rfl ⟨Nat.le_of_ble_eq_true rfl, Nat.le_of_ble_eq_true rfl⟩ rfl hl.1 rfl (Nat.le_of_ble_eq_true rfl) dX5_crossingsNeeded_5 (fun H locs hP hD hS => ?_)
  exact W.iret (pc := 8) (v := (f_X5_ok M x2).1) hx hb hr (fun t ht hW => ⟨⟨_, (z_wM X d (f_X5_ok M x2).2), rfl, ⟨z_e1 hf, congrArg (fun z => (z_wM X d z)) (z_e2 hf)⟩, by rw [ht]; exact hP, hD⟩, hS.F ht⟩) hS.2.2 dX5_crossingsNeeded_8
def f_X5_fallen (M : z_M) : Option (Int32 × z_M) := (z_at (M.2 6) 6 55).bind (fun x7 => some ((f_X5_ok M x7).1, (f_X5_ok M x7).2))
set_option maxHeartbeats 4000000 in
set_option maxRecDepth 100000 in
theorem m_X5_fallen (l : Launch) (X : z_X) (d : Nat → Nat) (M : z_M) {RR : (Int32 × z_M)} (hf : f_X5_fallen M = some RR) : z_mI l yX5_fallen wsX5_fallen 1 21 X [.ref (d 0)] (z_wM X d M) RR.1 (z_wM X d RR.2) := by
  intro sz
  refine Met.ofW (cc := cX5_fallen) (maxL := 1) (ret := (some .int)) (by decide) rfl ?_
  intro p e s m args below meth c s₁ Bd hml hv
  obtain ⟨rfl, hsz, hP, hK, hN, hD0⟩ := hv
  have hx := Bd.exec
  have hb := Bd.bytes
  have hr := Bd.returns
  have hts := atoms_spec (ws := wsX5_fallen) Bd.pre
  have hown : s.vm.findClass RX5 = some m.cls := findClass_of_methodNamed Bd.named
  have hlocks := Bd.notSynchronized
  have S : CallFix p m c cX5_fallen 1 s _ wsX5_fallen RX5 := ⟨hx, hb, hml, hown, hts⟩
  have lk_fi29 := hts (.fieldLink RX5 29 "HouseBellsModel" "now" "[I") (List.mem_of_getElem? (i := 1) rfl)
  have in_X5 : ∀ w ∈ wsX50, w ∈ wsX5_fallen := fun _ h => (List.mem_cons_of_mem _ (List.mem_append_right _ h))
  subst hsz
  have hD := hD0.self (sz := s.heap.size)
  generalize hAe : va_A (z_wM X d M) s.heap.size = A at hD ⊢
  have hA : ∀ q : Nat, s.heap.size ≤ q → A q := fun q h => by rw [← hAe]; exact Or.inr h
  have hS : va_S A s.heap s.heap [] := va_S.rf
  have hl := lv_entry ([.ref (d 0)]) (n := 1) (Nat.le_of_ble_eq_true rfl)
  rw [lg_entry_eq]
  generalize (lg_sl ([.ref (d 0)]) ++ List.replicate (1 - (lg_sl ([.ref (d 0)])).length) Slot.unset).toArray = ls at hl ⊢
  have hl : lv_has ls 1 [(0, .ref (d 0))] := hl
  suffices hgo : ∀ (H : Heap) (locs : List Loc), va_P X.1 vwCl (z_wM X d M) H → va_D A (z_wM X d M) → va_S A s.heap H locs → W p l e (headSpec wsX5_fallen (z_R 1 21)).room s m ([.ref (d 0)] : List Value).toArray below meth c H locs 0 0 (MQ below (va_Qi (fun (z : Int32) (u : va_W) => z = RR.1 ∧ u = (z_wM X d RR.2)) (z_Bm X A) A) ([.ref (d 0)] : List Value).toArray s 0 0 A) (F0 m 0 ls []) from hgo _ _ hP hD hS
  clear hP hD hS
  intro H locs hP hD hS
  unfold f_X5_fallen at hf
  refine lv_aload_n (pc := 0) hx hb dX5_fallen_0 rfl (lv_at hl 0 rfl) ?_
  refine lv_aload_n (pc := 1) hx hb dX5_fallen_1 rfl (lv_at hl 0 rfl) ?_
  refine va_get (pc := 2) (ci := 5) (C := RX5) (T := TX5) (N := 11) hx hb hts in_X5 hown hK hP 0 rfl rfl 9 (by decide) lk_fi29 (fun _ h9 => h9) rfl dX5_fallen_2 ?_
  refine lv_bipush (v := 6) (pc := 5) hx hb dX5_fallen_5 (by decide) ?_
  obtain ⟨x7, e7, hf⟩ := z_bd hf
  refine z_iald (pc := 7) hx hb hK hP 7 0 rfl rfl e7 dX5_fallen_7 ?_
  refine z_cmI (pc := 8) (W1 := (z_wM X d (f_X5_ok M x7).2)) S (m_X5_ok l X d M x7 rfl) (cwV 1 hts gX5_fallen_X5_ok rfl rfl rfl hdX5_ok ⟨Nat.le_of_ble_eq_true rfl, Nat.le_of_ble_eq_true rfl⟩) hP hK hN hD hS hA (s_M_M X d M) (f_M_M X d M ((f_X5_ok M x7).2)) (ci := 5) rfl rfl rfl ⟨Nat.le_of_ble_eq_true rfl, Nat.le_of_ble_eq_true rfl⟩ rfl hl.1 rfl (Nat.le_of_ble_eq_true rfl) dX5_fallen_8 (fun H locs hP hD hS => ?_)
  exact W.iret (pc := 11) (v := (f_X5_ok M x7).1) hx hb hr (fun t ht hW => ⟨⟨_, (z_wM X d (f_X5_ok M x7).2), rfl, ⟨z_e1 hf, congrArg (fun z => (z_wM X d z)) (z_e2 hf)⟩, by rw [ht]; exact hP, hD⟩, hS.F ht⟩) hS.2.2 dX5_fallen_11
def f_X5_hasFallen (M : z_M) (v1 : Int32) : Option (Int32 × z_M) := (f_X5_isRoom M v1).bind (fun x3 => (f_X5_isKnown M x3).bind (fun x6 => (if x6.1 = 0 then some (0, x6.2) else (f_X5_inLine x6.2 v1).bind (fun x14 => (if x14 = (-1) then some (0, x6.2) else some (1, x6.2))))))
set_option maxHeartbeats 4000000 in
set_option maxRecDepth 100000 in
theorem m_X5_hasFallen (l : Launch) (X : z_X) (d : Nat → Nat) (M : z_M) (v1 : Int32) {RR : (Int32 × z_M)} (hf : f_X5_hasFallen M v1 = some RR) : z_mI l yX5_hasFallen wsX5_hasFallen 2 43 X [.ref (d 0), .int v1] (z_wM X d M) RR.1 (z_wM X d RR.2) := by
  intro sz
  refine Met.ofW (cc := cX5_hasFallen) (maxL := 2) (ret := (some .boolean)) (by decide) rfl ?_
  intro p e s m args below meth c s₁ Bd hml hv
  obtain ⟨rfl, hsz, hP, hK, hN, hD0⟩ := hv
  have hx := Bd.exec
  have hb := Bd.bytes
  have hr := Bd.returns
  have hts := atoms_spec (ws := wsX5_hasFallen) Bd.pre
  have hown : s.vm.findClass RX5 = some m.cls := findClass_of_methodNamed Bd.named
  have hlocks := Bd.notSynchronized
  have S : CallFix p m c cX5_hasFallen 2 s _ wsX5_hasFallen RX5 := ⟨hx, hb, hml, hown, hts⟩
  subst hsz
  have hD := hD0.self (sz := s.heap.size)
  generalize hAe : va_A (z_wM X d M) s.heap.size = A at hD ⊢
  have hA : ∀ q : Nat, s.heap.size ≤ q → A q := fun q h => by rw [← hAe]; exact Or.inr h
  have hS : va_S A s.heap s.heap [] := va_S.rf
  have hl := lv_entry ([.ref (d 0), .int v1]) (n := 2) (Nat.le_of_ble_eq_true rfl)
  rw [lg_entry_eq]
  generalize (lg_sl ([.ref (d 0), .int v1]) ++ List.replicate (2 - (lg_sl ([.ref (d 0), .int v1])).length) Slot.unset).toArray = ls at hl ⊢
  have hl : lv_has ls 2 [(0, .ref (d 0)), (1, .int v1)] := hl
  suffices hgo : ∀ (H : Heap) (locs : List Loc), va_P X.1 vwCl (z_wM X d M) H → va_D A (z_wM X d M) → va_S A s.heap H locs → W p l e (headSpec wsX5_hasFallen (z_R 2 43)).room s m ([.ref (d 0), .int v1] : List Value).toArray below meth c H locs 0 0 (MQ below (va_Qi (fun (z : Int32) (u : va_W) => z = RR.1 ∧ u = (z_wM X d RR.2)) (z_Bm X A) A) ([.ref (d 0), .int v1] : List Value).toArray s 0 0 A) (F0 m 0 ls []) from hgo _ _ hP hD hS
  clear hP hD hS
  intro H locs hP hD hS
  unfold f_X5_hasFallen at hf
  refine lv_aload_n (pc := 0) hx hb dX5_hasFallen_0 rfl (lv_at hl 0 rfl) ?_
  refine lv_aload_n (pc := 1) hx hb dX5_hasFallen_1 rfl (lv_at hl 0 rfl) ?_
  refine lv_iload_n (pc := 2) hx hb dX5_hasFallen_2 rfl (lv_at hl 1 rfl) ?_
  obtain ⟨x3, e3, hf⟩ := z_bd hf
  refine z_cpI (pc := 3) S (m_X5_isRoom l X d M v1 e3) (cwV 1 hts gX5_hasFallen_X5_isRoom rfl rfl rfl hdX5_isRoom ⟨Nat.le_of_ble_eq_true rfl, Nat.le_of_ble_eq_true rfl⟩) hP hK hN (s_M_M X d M) (ci := 5) rfl rfl rfl ⟨Nat.le_of_ble_eq_true rfl, Nat.le_of_ble_eq_true rfl⟩ rfl hl.1 rfl (Nat.le_of_ble_eq_true rfl) dX5_hasFallen_3 ?_
  obtain ⟨x6, e6, hf⟩ := z_bd hf
  refine z_cmI (pc := 6) (W1 := (z_wM X d x6.2)) S (m_X5_isKnown l X d M x3 e6) (cwV 1 hts gX5_hasFallen_X5_isKnown rfl rfl rfl hdX5_isKnown ⟨Nat.le_of_ble_eq_true rfl, Nat.le_of_ble_eq_true rfl⟩) hP hK hN hD hS hA (s_M_M X d M) (f_M_M X d M x6.2) (ci := 5) rfl rfl rfl ⟨Nat.le_of_ble_eq_true rfl, Nat.le_of_ble_eq_true rfl⟩ rfl hl.1 rfl (Nat.le_of_ble_eq_true rfl) dX5_hasFallen_6 (fun H locs hP hD hS => ?_)
  refine lv_if_eq (pc := 9) (tgt := 25) hx hb dX5_hasFallen_9 (by decide) (fun c_9 => ?_) (fun c_9 => ?_)
  · replace hf := z_ip c_9 hf
    refine lv_iconst (v := 0) (pc := 25) hx hb dX5_hasFallen_25 (by decide) ?_
    exact W.zret (pc := 26) (v := 0) hx hb hr rfl (fun t ht hW => ⟨⟨_, (z_wM X d x6.2), rfl, ⟨z_e1 hf, congrArg (fun z => (z_wM X d z)) (z_e2 hf)⟩, by rw [ht]; exact hP, hD⟩, hS.F ht⟩) hS.2.2 dX5_hasFallen_26
  · replace hf := z_in c_9 hf
    refine lv_aload_n (pc := 12) hx hb dX5_hasFallen_12 rfl (lv_at hl 0 rfl) ?_
    refine lv_iload_n (pc := 13) hx hb dX5_hasFallen_13 rfl (lv_at hl 1 rfl) ?_
    obtain ⟨x14, e14, hf⟩ := z_bd hf
    refine z_cpI (pc := 14) S (m_X5_inLine l X d x6.2 v1 e14) (cwV 1 hts gX5_hasFallen_X5_inLine rfl rfl rfl hdX5_inLine ⟨Nat.le_of_ble_eq_true rfl, Nat.le_of_ble_eq_true rfl⟩) hP hK hN (s_M_M X d x6.2) (ci := 5) rfl rfl rfl ⟨Nat.le_of_ble_eq_true rfl, Nat.le_of_ble_eq_true rfl⟩ rfl hl.1 rfl (Nat.le_of_ble_eq_true rfl) dX5_hasFallen_14 ?_
    refine lv_iconst (v := (-1)) (pc := 17) hx hb dX5_hasFallen_17 (by decide) ?_
    refine lv_icmp_eq (pc := 18) (tgt := 25) hx hb dX5_hasFallen_18 (by decide) (fun c_18 => ?_) (fun c_18 => ?_)
    · replace hf := z_ip c_18 hf
      refine lv_iconst (v := 0) (pc := 25) hx hb dX5_hasFallen_25 (by decide) ?_
      exact W.zret (pc := 26) (v := 0) hx hb hr rfl (fun t ht hW => ⟨⟨_, (z_wM X d x6.2), rfl, ⟨z_e1 hf, congrArg (fun z => (z_wM X d z)) (z_e2 hf)⟩, by rw [ht]; exact hP, hD⟩, hS.F ht⟩) hS.2.2 dX5_hasFallen_26
    · replace hf := z_in c_18 hf
      refine lv_iconst (v := 1) (pc := 21) hx hb dX5_hasFallen_21 (by decide) ?_
      refine lv_goto (pc := 22) (tgt := 26) hx hb dX5_hasFallen_22 (by decide) ?_
      exact W.zret (pc := 26) (v := 1) hx hb hr rfl (fun t ht hW => ⟨⟨_, (z_wM X d x6.2), rfl, ⟨z_e1 hf, congrArg (fun z => (z_wM X d z)) (z_e2 hf)⟩, by rw [ht]; exact hP, hD⟩, hS.F ht⟩) hS.2.2 dX5_hasFallen_26
def f_X5_placeInLine (M : z_M) (v1 : Int32) : Option (Int32 × z_M) := (f_X5_isRoom M v1).bind (fun x3 => (f_X5_isKnown M x3).bind (fun x6 => (if x6.1 = 0 then some (0, x6.2) else (f_X5_inLine x6.2 v1).bind (fun x14 => some (x14, x6.2)))))
set_option maxHeartbeats 4000000 in
set_option maxRecDepth 100000 in
theorem m_X5_placeInLine (l : Launch) (X : z_X) (d : Nat → Nat) (M : z_M) (v1 : Int32) {RR : (Int32 × z_M)} (hf : f_X5_placeInLine M v1 = some RR) : z_mI l yX5_placeInLine wsX5_placeInLine 2 43 X [.ref (d 0), .int v1] (z_wM X d M) RR.1 (z_wM X d RR.2) := by
  intro sz
  refine Met.ofW (cc := cX5_placeInLine) (maxL := 2) (ret := (some .int)) (by decide) rfl ?_
  intro p e s m args below meth c s₁ Bd hml hv
  obtain ⟨rfl, hsz, hP, hK, hN, hD0⟩ := hv
  have hx := Bd.exec
  have hb := Bd.bytes
  have hr := Bd.returns
  have hts := atoms_spec (ws := wsX5_placeInLine) Bd.pre
  have hown : s.vm.findClass RX5 = some m.cls := findClass_of_methodNamed Bd.named
  have hlocks := Bd.notSynchronized
  have S : CallFix p m c cX5_placeInLine 2 s _ wsX5_placeInLine RX5 := ⟨hx, hb, hml, hown, hts⟩
  subst hsz
  have hD := hD0.self (sz := s.heap.size)
  generalize hAe : va_A (z_wM X d M) s.heap.size = A at hD ⊢
  have hA : ∀ q : Nat, s.heap.size ≤ q → A q := fun q h => by rw [← hAe]; exact Or.inr h
  have hS : va_S A s.heap s.heap [] := va_S.rf
  have hl := lv_entry ([.ref (d 0), .int v1]) (n := 2) (Nat.le_of_ble_eq_true rfl)
  rw [lg_entry_eq]
  generalize (lg_sl ([.ref (d 0), .int v1]) ++ List.replicate (2 - (lg_sl ([.ref (d 0), .int v1])).length) Slot.unset).toArray = ls at hl ⊢
  have hl : lv_has ls 2 [(0, .ref (d 0)), (1, .int v1)] := hl
  suffices hgo : ∀ (H : Heap) (locs : List Loc), va_P X.1 vwCl (z_wM X d M) H → va_D A (z_wM X d M) → va_S A s.heap H locs → W p l e (headSpec wsX5_placeInLine (z_R 2 43)).room s m ([.ref (d 0), .int v1] : List Value).toArray below meth c H locs 0 0 (MQ below (va_Qi (fun (z : Int32) (u : va_W) => z = RR.1 ∧ u = (z_wM X d RR.2)) (z_Bm X A) A) ([.ref (d 0), .int v1] : List Value).toArray s 0 0 A) (F0 m 0 ls []) from hgo _ _ hP hD hS
  clear hP hD hS
  intro H locs hP hD hS
  unfold f_X5_placeInLine at hf
  refine lv_aload_n (pc := 0) hx hb dX5_placeInLine_0 rfl (lv_at hl 0 rfl) ?_
  refine lv_aload_n (pc := 1) hx hb dX5_placeInLine_1 rfl (lv_at hl 0 rfl) ?_
  refine lv_iload_n (pc := 2) hx hb dX5_placeInLine_2 rfl (lv_at hl 1 rfl) ?_
  obtain ⟨x3, e3, hf⟩ := z_bd hf
  refine z_cpI (pc := 3) S (m_X5_isRoom l X d M v1 e3) (cwV 1 hts gX5_placeInLine_X5_isRoom rfl rfl rfl hdX5_isRoom ⟨Nat.le_of_ble_eq_true rfl, Nat.le_of_ble_eq_true rfl⟩) hP hK hN (s_M_M X d M) (ci := 5) rfl rfl rfl ⟨Nat.le_of_ble_eq_true rfl, Nat.le_of_ble_eq_true rfl⟩ rfl hl.1 rfl (Nat.le_of_ble_eq_true rfl) dX5_placeInLine_3 ?_
  obtain ⟨x6, e6, hf⟩ := z_bd hf
  refine z_cmI (pc := 6) (W1 := (z_wM X d x6.2)) S (m_X5_isKnown l X d M x3 e6) (cwV 1 hts gX5_placeInLine_X5_isKnown rfl rfl rfl hdX5_isKnown ⟨Nat.le_of_ble_eq_true rfl, Nat.le_of_ble_eq_true rfl⟩) hP hK hN hD hS hA (s_M_M X d M) (f_M_M X d M x6.2) (ci := 5) rfl rfl rfl ⟨Nat.le_of_ble_eq_true rfl, Nat.le_of_ble_eq_true rfl⟩ rfl hl.1 rfl (Nat.le_of_ble_eq_true rfl) dX5_placeInLine_6 (fun H locs hP hD hS => ?_)
  refine lv_if_eq (pc := 9) (tgt := 20) hx hb dX5_placeInLine_9 (by decide) (fun c_9 => ?_) (fun c_9 => ?_)
  · replace hf := z_ip c_9 hf
    refine lv_iconst (v := 0) (pc := 20) hx hb dX5_placeInLine_20 (by decide) ?_
    exact W.iret (pc := 21) (v := 0) hx hb hr (fun t ht hW => ⟨⟨_, (z_wM X d x6.2), rfl, ⟨z_e1 hf, congrArg (fun z => (z_wM X d z)) (z_e2 hf)⟩, by rw [ht]; exact hP, hD⟩, hS.F ht⟩) hS.2.2 dX5_placeInLine_21
  · replace hf := z_in c_9 hf
    refine lv_aload_n (pc := 12) hx hb dX5_placeInLine_12 rfl (lv_at hl 0 rfl) ?_
    refine lv_iload_n (pc := 13) hx hb dX5_placeInLine_13 rfl (lv_at hl 1 rfl) ?_
    obtain ⟨x14, e14, hf⟩ := z_bd hf
    refine z_cpI (pc := 14) S (m_X5_inLine l X d x6.2 v1 e14) (cwV 1 hts gX5_placeInLine_X5_inLine rfl rfl rfl hdX5_inLine ⟨Nat.le_of_ble_eq_true rfl, Nat.le_of_ble_eq_true rfl⟩) hP hK hN (s_M_M X d x6.2) (ci := 5) rfl rfl rfl ⟨Nat.le_of_ble_eq_true rfl, Nat.le_of_ble_eq_true rfl⟩ rfl hl.1 rfl (Nat.le_of_ble_eq_true rfl) dX5_placeInLine_14 ?_
    refine lv_goto (pc := 17) (tgt := 21) hx hb dX5_placeInLine_17 (by decide) ?_
    exact W.iret (pc := 21) (v := x14) hx hb hr (fun t ht hW => ⟨⟨_, (z_wM X d x6.2), rfl, ⟨z_e1 hf, congrArg (fun z => (z_wM X d z)) (z_e2 hf)⟩, by rw [ht]; exact hP, hD⟩, hS.F ht⟩) hS.2.2 dX5_placeInLine_21
def f_X5_head (M : z_M) : Option Int32 := (z_at (M.2 6) 6 55).bind (fun x6 => (if x6 = 0 then some (-1) else (z_at (M.2 6) 19 55).bind (fun x20 => some x20)))
set_option maxHeartbeats 4000000 in
set_option maxRecDepth 100000 in
theorem m_X5_head (l : Launch) (X : z_X) (d : Nat → Nat) (M : z_M) {RR : Int32} (hf : f_X5_head M = some RR) : z_pI l yX5_head wsX5_head 0 0 X [.ref (d 0)] (z_wM X d M) RR := by
  refine Met.ofW (cc := cX5_head) (maxL := 1) (ret := (some .int)) (by decide) rfl ?_
  intro p e s m args below meth c s₁ Bd hml hv
  obtain ⟨rfl, hP, hK, hN⟩ := hv
  have hx := Bd.exec
  have hb := Bd.bytes
  have hr := Bd.returns
  have hts := atoms_spec (ws := wsX5_head) Bd.pre
  have hown : s.vm.findClass RX5 = some m.cls := findClass_of_methodNamed Bd.named
  have hlocks := Bd.notSynchronized
  have S : CallFix p m c cX5_head 1 s _ wsX5_head RX5 := ⟨hx, hb, hml, hown, hts⟩
  have lk_fi29 := hts (.fieldLink RX5 29 "HouseBellsModel" "now" "[I") (List.mem_of_getElem? (i := 1) rfl)
  have in_X5 : ∀ w ∈ wsX50, w ∈ wsX5_head := fun _ h => (List.mem_cons_of_mem _ (List.mem_append_right _ h))
  have hl := lv_entry ([.ref (d 0)]) (n := 1) (Nat.le_of_ble_eq_true rfl)
  rw [lg_entry_eq]
  generalize (lg_sl ([.ref (d 0)]) ++ List.replicate (1 - (lg_sl ([.ref (d 0)])).length) Slot.unset).toArray = ls at hl ⊢
  have hl : lv_has ls 1 [(0, .ref (d 0))] := hl
  unfold f_X5_head at hf
  refine lv_aload_n (pc := 0) hx hb dX5_head_0 rfl (lv_at hl 0 rfl) ?_
  refine va_get (pc := 1) (ci := 5) (C := RX5) (T := TX5) (N := 11) hx hb hts in_X5 hown hK hP 0 rfl rfl 9 (by decide) lk_fi29 (fun _ h9 => h9) rfl dX5_head_1 ?_
  refine lv_bipush (v := 6) (pc := 4) hx hb dX5_head_4 (by decide) ?_
  obtain ⟨x6, e6, hf⟩ := z_bd hf
  refine z_iald (pc := 6) hx hb hK hP 7 0 rfl rfl e6 dX5_head_6 ?_
  refine lv_if_ne (pc := 7) (tgt := 14) hx hb dX5_head_7 (by decide) (fun c_7 => ?_) (fun c_7 => ?_)
  · replace hf := z_in c_7 hf
    refine lv_aload_n (pc := 14) hx hb dX5_head_14 rfl (lv_at hl 0 rfl) ?_
    refine va_get (pc := 15) (ci := 5) (C := RX5) (T := TX5) (N := 11) hx hb hts in_X5 hown hK hP 0 rfl rfl 9 (by decide) lk_fi29 (fun _ h9 => h9) rfl dX5_head_15 ?_
    refine lv_bipush (v := 19) (pc := 18) hx hb dX5_head_18 (by decide) ?_
    obtain ⟨x20, e20, hf⟩ := z_bd hf
    refine z_iald (pc := 20) hx hb hK hP 7 0 rfl rfl e20 dX5_head_20 ?_
    exact W.iret (pc := 21) (v := x20) hx hb hr (fun t ht hW => ⟨_, rfl, (Option.some.inj hf), ht⟩) (fun _ h => nomatch h) dX5_head_21
  · replace hf := z_ip c_7 hf
    refine lv_iconst (v := (-1)) (pc := 10) hx hb dX5_head_10 (by decide) ?_
    refine lv_goto (pc := 11) (tgt := 21) hx hb dX5_head_11 (by decide) ?_
    exact W.iret (pc := 21) (v := (-1)) hx hb hr (fun t ht hW => ⟨_, rfl, (Option.some.inj hf), ht⟩) (fun _ h => nomatch h) dX5_head_21
def f_X5_nextDrop (M : z_M) : Option (Int32 × z_M) := (f_X5_head M).bind (fun x2 => some ((f_X5_ok M x2).1, (f_X5_ok M x2).2))
set_option maxHeartbeats 4000000 in
set_option maxRecDepth 100000 in
theorem m_X5_nextDrop (l : Launch) (X : z_X) (d : Nat → Nat) (M : z_M) {RR : (Int32 × z_M)} (hf : f_X5_nextDrop M = some RR) : z_mI l yX5_nextDrop wsX5_nextDrop 1 21 X [.ref (d 0)] (z_wM X d M) RR.1 (z_wM X d RR.2) := by
  intro sz
  refine Met.ofW (cc := cX5_nextDrop) (maxL := 1) (ret := (some .int)) (by decide) rfl ?_
  intro p e s m args below meth c s₁ Bd hml hv
  obtain ⟨rfl, hsz, hP, hK, hN, hD0⟩ := hv
  have hx := Bd.exec
  have hb := Bd.bytes
  have hr := Bd.returns
  have hts := atoms_spec (ws := wsX5_nextDrop) Bd.pre
  have hown : s.vm.findClass RX5 = some m.cls := findClass_of_methodNamed Bd.named
  have hlocks := Bd.notSynchronized
  have S : CallFix p m c cX5_nextDrop 1 s _ wsX5_nextDrop RX5 := ⟨hx, hb, hml, hown, hts⟩
  subst hsz
  have hD := hD0.self (sz := s.heap.size)
  generalize hAe : va_A (z_wM X d M) s.heap.size = A at hD ⊢
  have hA : ∀ q : Nat, s.heap.size ≤ q → A q := fun q h => by rw [← hAe]; exact Or.inr h
  have hS : va_S A s.heap s.heap [] := va_S.rf
  have hl := lv_entry ([.ref (d 0)]) (n := 1) (Nat.le_of_ble_eq_true rfl)
  rw [lg_entry_eq]
  generalize (lg_sl ([.ref (d 0)]) ++ List.replicate (1 - (lg_sl ([.ref (d 0)])).length) Slot.unset).toArray = ls at hl ⊢
  have hl : lv_has ls 1 [(0, .ref (d 0))] := hl
  suffices hgo : ∀ (H : Heap) (locs : List Loc), va_P X.1 vwCl (z_wM X d M) H → va_D A (z_wM X d M) → va_S A s.heap H locs → W p l e (headSpec wsX5_nextDrop (z_R 1 21)).room s m ([.ref (d 0)] : List Value).toArray below meth c H locs 0 0 (MQ below (va_Qi (fun (z : Int32) (u : va_W) => z = RR.1 ∧ u = (z_wM X d RR.2)) (z_Bm X A) A) ([.ref (d 0)] : List Value).toArray s 0 0 A) (F0 m 0 ls []) from hgo _ _ hP hD hS
  clear hP hD hS
  intro H locs hP hD hS
  unfold f_X5_nextDrop at hf
  refine lv_aload_n (pc := 0) hx hb dX5_nextDrop_0 rfl (lv_at hl 0 rfl) ?_
  refine lv_aload_n (pc := 1) hx hb dX5_nextDrop_1 rfl (lv_at hl 0 rfl) ?_
  obtain ⟨x2, e2, hf⟩ := z_bd hf
  refine z_cpI (pc := 2) S (m_X5_head l X d M e2) (cwV 0 hts gX5_nextDrop_X5_head rfl rfl rfl hdX5_head ⟨Nat.le_of_ble_eq_true rfl, Nat.le_of_ble_eq_true rfl⟩) hP hK hN (s_M_M X d M) (ci := 5) rfl rfl rfl ⟨Nat.le_of_ble_eq_true rfl, Nat.le_of_ble_eq_true rfl⟩ rfl hl.1 rfl (Nat.le_of_ble_eq_true rfl) dX5_nextDrop_2 ?_
  refine z_cmI (pc := 5) (W1 := (z_wM X d (f_X5_ok M x2).2)) S (m_X5_ok l X d M x2 rfl) (cwV 1 hts gX5_nextDrop_X5_ok rfl rfl rfl hdX5_ok ⟨Nat.le_of_ble_eq_true rfl, Nat.le_of_ble_eq_true rfl⟩) hP hK hN hD hS hA (s_M_M X d M) (f_M_M X d M ((f_X5_ok M x2).2)) (ci := 5) rfl rfl rfl ⟨Nat.le_of_ble_eq_true rfl, Nat.le_of_ble_eq_true rfl⟩ rfl hl.1 rfl (Nat.le_of_ble_eq_true rfl) dX5_nextDrop_5 (fun H locs hP hD hS => ?_)
  exact W.iret (pc := 8) (v := (f_X5_ok M x2).1) hx hb hr (fun t ht hW => ⟨⟨_, (z_wM X d (f_X5_ok M x2).2), rfl, ⟨z_e1 hf, congrArg (fun z => (z_wM X d z)) (z_e2 hf)⟩, by rw [ht]; exact hP, hD⟩, hS.F ht⟩) hS.2.2 dX5_nextDrop_8
def f_X5_left (M : z_M) (v1 : Int32) : Option Int32 := (z_at (M.2 4) v1 12).bind (fun x5 => (if x5 = 0 then (z_at (M.2 6) 1 55).bind (fun x18 => (z_at (M.2 0) v1 12).bind (fun x24 => (z_dv x18 (x24 + 1)).bind (fun x27 => some x27))) else some 0))
set_option maxHeartbeats 4000000 in
set_option maxRecDepth 100000 in
theorem m_X5_left (l : Launch) (X : z_X) (d : Nat → Nat) (M : z_M) (v1 : Int32) {RR : Int32} (hf : f_X5_left M v1 = some RR) : z_pI l yX5_left wsX5_left 0 0 X [.ref (d 0), .int v1] (z_wM X d M) RR := by
  refine Met.ofW (cc := cX5_left) (maxL := 2) (ret := (some .int)) (by decide) rfl ?_
  intro p e s m args below meth c s₁ Bd hml hv
  obtain ⟨rfl, hP, hK, hN⟩ := hv
  have hx := Bd.exec
  have hb := Bd.bytes
  have hr := Bd.returns
  have hts := atoms_spec (ws := wsX5_left) Bd.pre
  have hown : s.vm.findClass RX5 = some m.cls := findClass_of_methodNamed Bd.named
  have hlocks := Bd.notSynchronized
  have S : CallFix p m c cX5_left 2 s _ wsX5_left RX5 := ⟨hx, hb, hml, hown, hts⟩
  have lk_fi22 := hts (.fieldLink RX5 22 "HouseBellsModel" "isCut" "[Z") (List.mem_of_getElem? (i := 1) rfl)
  have lk_fi29 := hts (.fieldLink RX5 29 "HouseBellsModel" "now" "[I") (List.mem_of_getElem? (i := 2) rfl)
  have lk_fi9 := hts (.fieldLink RX5 9 "HouseBellsModel" "floor" "[I") (List.mem_of_getElem? (i := 3) rfl)
  have in_X5 : ∀ w ∈ wsX50, w ∈ wsX5_left := fun _ h => (List.mem_cons_of_mem _ (List.mem_append_right _ h))
  have hl := lv_entry ([.ref (d 0), .int v1]) (n := 2) (Nat.le_of_ble_eq_true rfl)
  rw [lg_entry_eq]
  generalize (lg_sl ([.ref (d 0), .int v1]) ++ List.replicate (2 - (lg_sl ([.ref (d 0), .int v1])).length) Slot.unset).toArray = ls at hl ⊢
  have hl : lv_has ls 2 [(0, .ref (d 0)), (1, .int v1)] := hl
  unfold f_X5_left at hf
  refine lv_aload_n (pc := 0) hx hb dX5_left_0 rfl (lv_at hl 0 rfl) ?_
  refine va_get (pc := 1) (ci := 5) (C := RX5) (T := TX5) (N := 11) hx hb hts in_X5 hown hK hP 0 rfl rfl 7 (by decide) lk_fi22 (fun _ h9 => h9) rfl dX5_left_1 ?_
  refine lv_iload_n (pc := 4) hx hb dX5_left_4 rfl (lv_at hl 1 rfl) ?_
  obtain ⟨x5, e5, hf⟩ := z_bd hf
  refine z_zald (pc := 5) hx hb hK hP 5 1 rfl rfl e5 dX5_left_5 ?_
  refine lv_if_eq (pc := 6) (tgt := 13) hx hb dX5_left_6 (by decide) (fun c_6 => ?_) (fun c_6 => ?_)
  · replace hf := z_ip c_6 hf
    refine lv_aload_n (pc := 13) hx hb dX5_left_13 rfl (lv_at hl 0 rfl) ?_
    refine va_get (pc := 14) (ci := 5) (C := RX5) (T := TX5) (N := 11) hx hb hts in_X5 hown hK hP 0 rfl rfl 9 (by decide) lk_fi29 (fun _ h9 => h9) rfl dX5_left_14 ?_
    refine lv_iconst (v := 1) (pc := 17) hx hb dX5_left_17 (by decide) ?_
    obtain ⟨x18, e18, hf⟩ := z_bd hf
    refine z_iald (pc := 18) hx hb hK hP 7 0 rfl rfl e18 dX5_left_18 ?_
    refine lv_aload_n (pc := 19) hx hb dX5_left_19 rfl (lv_at hl 0 rfl) ?_
    refine va_get (pc := 20) (ci := 5) (C := RX5) (T := TX5) (N := 11) hx hb hts in_X5 hown hK hP 0 rfl rfl 3 (by decide) lk_fi9 (fun _ h9 => h9) rfl dX5_left_20 ?_
    refine lv_iload_n (pc := 23) hx hb dX5_left_23 rfl (lv_at hl 1 rfl) ?_
    obtain ⟨x24, e24, hf⟩ := z_bd hf
    refine z_iald (pc := 24) hx hb hK hP 1 0 rfl rfl e24 dX5_left_24 ?_
    refine lv_iconst (v := 1) (pc := 25) hx hb dX5_left_25 (by decide) ?_
    refine lv_iadd (pc := 26) hx hb dX5_left_26 ?_
    obtain ⟨x27, e27, hf⟩ := z_bd hf
    refine z_idiv (pc := 27) hx hb e27 dX5_left_27 ?_
    exact W.iret (pc := 28) (v := x27) hx hb hr (fun t ht hW => ⟨_, rfl, (Option.some.inj hf), ht⟩) (fun _ h => nomatch h) dX5_left_28
  · replace hf := z_in c_6 hf
    refine lv_iconst (v := 0) (pc := 9) hx hb dX5_left_9 (by decide) ?_
    refine lv_goto (pc := 10) (tgt := 28) hx hb dX5_left_10 (by decide) ?_
    exact W.iret (pc := 28) (v := 0) hx hb hr (fun t ht hW => ⟨_, rfl, (Option.some.inj hf), ht⟩) (fun _ h => nomatch h) dX5_left_28
def f_X5_ringsLeft (M : z_M) (v1 : Int32) : Option (Int32 × z_M) := (f_X5_isRoom M v1).bind (fun x3 => (f_X5_isKnown M x3).bind (fun x6 => (if x6.1 = 0 then some (0, x6.2) else (f_X5_left x6.2 v1).bind (fun x14 => some (x14, x6.2)))))
set_option maxHeartbeats 4000000 in
set_option maxRecDepth 100000 in
theorem m_X5_ringsLeft (l : Launch) (X : z_X) (d : Nat → Nat) (M : z_M) (v1 : Int32) {RR : (Int32 × z_M)} (hf : f_X5_ringsLeft M v1 = some RR) : z_mI l yX5_ringsLeft wsX5_ringsLeft 2 43 X [.ref (d 0), .int v1] (z_wM X d M) RR.1 (z_wM X d RR.2) := by
  intro sz
  refine Met.ofW (cc := cX5_ringsLeft) (maxL := 2) (ret := (some .int)) (by decide) rfl ?_
  intro p e s m args below meth c s₁ Bd hml hv
  obtain ⟨rfl, hsz, hP, hK, hN, hD0⟩ := hv
  have hx := Bd.exec
  have hb := Bd.bytes
  have hr := Bd.returns
  have hts := atoms_spec (ws := wsX5_ringsLeft) Bd.pre
  have hown : s.vm.findClass RX5 = some m.cls := findClass_of_methodNamed Bd.named
  have hlocks := Bd.notSynchronized
  have S : CallFix p m c cX5_ringsLeft 2 s _ wsX5_ringsLeft RX5 := ⟨hx, hb, hml, hown, hts⟩
  subst hsz
  have hD := hD0.self (sz := s.heap.size)
  generalize hAe : va_A (z_wM X d M) s.heap.size = A at hD ⊢
  have hA : ∀ q : Nat, s.heap.size ≤ q → A q := fun q h => by rw [← hAe]; exact Or.inr h
  have hS : va_S A s.heap s.heap [] := va_S.rf
  have hl := lv_entry ([.ref (d 0), .int v1]) (n := 2) (Nat.le_of_ble_eq_true rfl)
  rw [lg_entry_eq]
  generalize (lg_sl ([.ref (d 0), .int v1]) ++ List.replicate (2 - (lg_sl ([.ref (d 0), .int v1])).length) Slot.unset).toArray = ls at hl ⊢
  have hl : lv_has ls 2 [(0, .ref (d 0)), (1, .int v1)] := hl
  suffices hgo : ∀ (H : Heap) (locs : List Loc), va_P X.1 vwCl (z_wM X d M) H → va_D A (z_wM X d M) → va_S A s.heap H locs → W p l e (headSpec wsX5_ringsLeft (z_R 2 43)).room s m ([.ref (d 0), .int v1] : List Value).toArray below meth c H locs 0 0 (MQ below (va_Qi (fun (z : Int32) (u : va_W) => z = RR.1 ∧ u = (z_wM X d RR.2)) (z_Bm X A) A) ([.ref (d 0), .int v1] : List Value).toArray s 0 0 A) (F0 m 0 ls []) from hgo _ _ hP hD hS
  clear hP hD hS
  intro H locs hP hD hS
  unfold f_X5_ringsLeft at hf
  refine lv_aload_n (pc := 0) hx hb dX5_ringsLeft_0 rfl (lv_at hl 0 rfl) ?_
  refine lv_aload_n (pc := 1) hx hb dX5_ringsLeft_1 rfl (lv_at hl 0 rfl) ?_
  refine lv_iload_n (pc := 2) hx hb dX5_ringsLeft_2 rfl (lv_at hl 1 rfl) ?_
  obtain ⟨x3, e3, hf⟩ := z_bd hf
  refine z_cpI (pc := 3) S (m_X5_isRoom l X d M v1 e3) (cwV 1 hts gX5_ringsLeft_X5_isRoom rfl rfl rfl hdX5_isRoom ⟨Nat.le_of_ble_eq_true rfl, Nat.le_of_ble_eq_true rfl⟩) hP hK hN (s_M_M X d M) (ci := 5) rfl rfl rfl ⟨Nat.le_of_ble_eq_true rfl, Nat.le_of_ble_eq_true rfl⟩ rfl hl.1 rfl (Nat.le_of_ble_eq_true rfl) dX5_ringsLeft_3 ?_
  obtain ⟨x6, e6, hf⟩ := z_bd hf
  refine z_cmI (pc := 6) (W1 := (z_wM X d x6.2)) S (m_X5_isKnown l X d M x3 e6) (cwV 1 hts gX5_ringsLeft_X5_isKnown rfl rfl rfl hdX5_isKnown ⟨Nat.le_of_ble_eq_true rfl, Nat.le_of_ble_eq_true rfl⟩) hP hK hN hD hS hA (s_M_M X d M) (f_M_M X d M x6.2) (ci := 5) rfl rfl rfl ⟨Nat.le_of_ble_eq_true rfl, Nat.le_of_ble_eq_true rfl⟩ rfl hl.1 rfl (Nat.le_of_ble_eq_true rfl) dX5_ringsLeft_6 (fun H locs hP hD hS => ?_)
  refine lv_if_eq (pc := 9) (tgt := 20) hx hb dX5_ringsLeft_9 (by decide) (fun c_9 => ?_) (fun c_9 => ?_)
  · replace hf := z_ip c_9 hf
    refine lv_iconst (v := 0) (pc := 20) hx hb dX5_ringsLeft_20 (by decide) ?_
    exact W.iret (pc := 21) (v := 0) hx hb hr (fun t ht hW => ⟨⟨_, (z_wM X d x6.2), rfl, ⟨z_e1 hf, congrArg (fun z => (z_wM X d z)) (z_e2 hf)⟩, by rw [ht]; exact hP, hD⟩, hS.F ht⟩) hS.2.2 dX5_ringsLeft_21
  · replace hf := z_in c_9 hf
    refine lv_aload_n (pc := 12) hx hb dX5_ringsLeft_12 rfl (lv_at hl 0 rfl) ?_
    refine lv_iload_n (pc := 13) hx hb dX5_ringsLeft_13 rfl (lv_at hl 1 rfl) ?_
    obtain ⟨x14, e14, hf⟩ := z_bd hf
    refine z_cpI (pc := 14) S (m_X5_left l X d x6.2 v1 e14) (cwV 1 hts gX5_ringsLeft_X5_left rfl rfl rfl hdX5_left ⟨Nat.le_of_ble_eq_true rfl, Nat.le_of_ble_eq_true rfl⟩) hP hK hN (s_M_M X d x6.2) (ci := 5) rfl rfl rfl ⟨Nat.le_of_ble_eq_true rfl, Nat.le_of_ble_eq_true rfl⟩ rfl hl.1 rfl (Nat.le_of_ble_eq_true rfl) dX5_ringsLeft_14 ?_
    refine lv_goto (pc := 17) (tgt := 21) hx hb dX5_ringsLeft_17 (by decide) ?_
    exact W.iret (pc := 21) (v := x14) hx hb hr (fun t ht hW => ⟨⟨_, (z_wM X d x6.2), rfl, ⟨z_e1 hf, congrArg (fun z => (z_wM X d z)) (z_e2 hf)⟩, by rw [ht]; exact hP, hD⟩, hS.F ht⟩) hS.2.2 dX5_ringsLeft_21
def f_X5_floorOf (M : z_M) (v1 : Int32) : Option (Int32 × z_M) := (f_X5_isServant M v1).bind (fun x3 => (f_X5_isKnown M x3).bind (fun x6 => (if x6.1 = 0 then some (0, x6.2) else (z_at (x6.2.2 6) (31 + v1) 55).bind (fun x20 => some (x20, x6.2)))))
set_option maxHeartbeats 4000000 in
set_option maxRecDepth 100000 in
theorem m_X5_floorOf (l : Launch) (X : z_X) (d : Nat → Nat) (M : z_M) (v1 : Int32) {RR : (Int32 × z_M)} (hf : f_X5_floorOf M v1 = some RR) : z_mI l yX5_floorOf wsX5_floorOf 2 43 X [.ref (d 0), .int v1] (z_wM X d M) RR.1 (z_wM X d RR.2) := by
  intro sz
  refine Met.ofW (cc := cX5_floorOf) (maxL := 2) (ret := (some .int)) (by decide) rfl ?_
  intro p e s m args below meth c s₁ Bd hml hv
  obtain ⟨rfl, hsz, hP, hK, hN, hD0⟩ := hv
  have hx := Bd.exec
  have hb := Bd.bytes
  have hr := Bd.returns
  have hts := atoms_spec (ws := wsX5_floorOf) Bd.pre
  have hown : s.vm.findClass RX5 = some m.cls := findClass_of_methodNamed Bd.named
  have hlocks := Bd.notSynchronized
  have S : CallFix p m c cX5_floorOf 2 s _ wsX5_floorOf RX5 := ⟨hx, hb, hml, hown, hts⟩
  have lk_fi29 := hts (.fieldLink RX5 29 "HouseBellsModel" "now" "[I") (List.mem_of_getElem? (i := 1) rfl)
  have in_X5 : ∀ w ∈ wsX50, w ∈ wsX5_floorOf := fun _ h => (List.mem_cons_of_mem _ (List.mem_append_right _ h))
  subst hsz
  have hD := hD0.self (sz := s.heap.size)
  generalize hAe : va_A (z_wM X d M) s.heap.size = A at hD ⊢
  have hA : ∀ q : Nat, s.heap.size ≤ q → A q := fun q h => by rw [← hAe]; exact Or.inr h
  have hS : va_S A s.heap s.heap [] := va_S.rf
  have hl := lv_entry ([.ref (d 0), .int v1]) (n := 2) (Nat.le_of_ble_eq_true rfl)
  rw [lg_entry_eq]
  generalize (lg_sl ([.ref (d 0), .int v1]) ++ List.replicate (2 - (lg_sl ([.ref (d 0), .int v1])).length) Slot.unset).toArray = ls at hl ⊢
  have hl : lv_has ls 2 [(0, .ref (d 0)), (1, .int v1)] := hl
  suffices hgo : ∀ (H : Heap) (locs : List Loc), va_P X.1 vwCl (z_wM X d M) H → va_D A (z_wM X d M) → va_S A s.heap H locs → W p l e (headSpec wsX5_floorOf (z_R 2 43)).room s m ([.ref (d 0), .int v1] : List Value).toArray below meth c H locs 0 0 (MQ below (va_Qi (fun (z : Int32) (u : va_W) => z = RR.1 ∧ u = (z_wM X d RR.2)) (z_Bm X A) A) ([.ref (d 0), .int v1] : List Value).toArray s 0 0 A) (F0 m 0 ls []) from hgo _ _ hP hD hS
  clear hP hD hS
  intro H locs hP hD hS
  unfold f_X5_floorOf at hf
  refine lv_aload_n (pc := 0) hx hb dX5_floorOf_0 rfl (lv_at hl 0 rfl) ?_
  refine lv_aload_n (pc := 1) hx hb dX5_floorOf_1 rfl (lv_at hl 0 rfl) ?_
  refine lv_iload_n (pc := 2) hx hb dX5_floorOf_2 rfl (lv_at hl 1 rfl) ?_
  obtain ⟨x3, e3, hf⟩ := z_bd hf
  refine z_cpI (pc := 3) S (m_X5_isServant l X d M v1 e3) (cwV 1 hts gX5_floorOf_X5_isServant rfl rfl rfl hdX5_isServant ⟨Nat.le_of_ble_eq_true rfl, Nat.le_of_ble_eq_true rfl⟩) hP hK hN (s_M_M X d M) (ci := 5) rfl rfl rfl ⟨Nat.le_of_ble_eq_true rfl, Nat.le_of_ble_eq_true rfl⟩ rfl hl.1 rfl (Nat.le_of_ble_eq_true rfl) dX5_floorOf_3 ?_
  obtain ⟨x6, e6, hf⟩ := z_bd hf
  refine z_cmI (pc := 6) (W1 := (z_wM X d x6.2)) S (m_X5_isKnown l X d M x3 e6) (cwV 1 hts gX5_floorOf_X5_isKnown rfl rfl rfl hdX5_isKnown ⟨Nat.le_of_ble_eq_true rfl, Nat.le_of_ble_eq_true rfl⟩) hP hK hN hD hS hA (s_M_M X d M) (f_M_M X d M x6.2) (ci := 5) rfl rfl rfl ⟨Nat.le_of_ble_eq_true rfl, Nat.le_of_ble_eq_true rfl⟩ rfl hl.1 rfl (Nat.le_of_ble_eq_true rfl) dX5_floorOf_6 (fun H locs hP hD hS => ?_)
  refine lv_if_eq (pc := 9) (tgt := 24) hx hb dX5_floorOf_9 (by decide) (fun c_9 => ?_) (fun c_9 => ?_)
  · replace hf := z_ip c_9 hf
    refine lv_iconst (v := 0) (pc := 24) hx hb dX5_floorOf_24 (by decide) ?_
    exact W.iret (pc := 25) (v := 0) hx hb hr (fun t ht hW => ⟨⟨_, (z_wM X d x6.2), rfl, ⟨z_e1 hf, congrArg (fun z => (z_wM X d z)) (z_e2 hf)⟩, by rw [ht]; exact hP, hD⟩, hS.F ht⟩) hS.2.2 dX5_floorOf_25
  · replace hf := z_in c_9 hf
    refine lv_aload_n (pc := 12) hx hb dX5_floorOf_12 rfl (lv_at hl 0 rfl) ?_
    refine va_get (pc := 13) (ci := 5) (C := RX5) (T := TX5) (N := 11) hx hb hts in_X5 hown hK hP 0 rfl rfl 9 (by decide) lk_fi29 (fun _ h9 => h9) rfl dX5_floorOf_13 ?_
    refine lv_bipush (v := 31) (pc := 16) hx hb dX5_floorOf_16 (by decide) ?_
    refine lv_iload_n (pc := 18) hx hb dX5_floorOf_18 rfl (lv_at hl 1 rfl) ?_
    refine lv_iadd (pc := 19) hx hb dX5_floorOf_19 ?_
    obtain ⟨x20, e20, hf⟩ := z_bd hf
    refine z_iald (pc := 20) hx hb hK hP 7 0 rfl rfl e20 dX5_floorOf_20 ?_
    refine lv_goto (pc := 21) (tgt := 25) hx hb dX5_floorOf_21 (by decide) ?_
    exact W.iret (pc := 25) (v := x20) hx hb hr (fun t ht hW => ⟨⟨_, (z_wM X d x6.2), rfl, ⟨z_e1 hf, congrArg (fun z => (z_wM X d z)) (z_e2 hf)⟩, by rw [ht]; exact hP, hD⟩, hS.F ht⟩) hS.2.2 dX5_floorOf_25
def f_X5_whom (M : z_M) (v1 : Int32) (v2 : Int32) : Option Int32 := (z_at (M.2 6) (37 + v1) 55).bind (fun x8 => (if x8 = v2 then (z_at (M.2 6) (43 + v1) 55).bind (fun x21 => some x21) else some (-1)))
set_option maxHeartbeats 4000000 in
set_option maxRecDepth 100000 in
theorem m_X5_whom (l : Launch) (X : z_X) (d : Nat → Nat) (M : z_M) (v1 : Int32) (v2 : Int32) {RR : Int32} (hf : f_X5_whom M v1 v2 = some RR) : z_pI l yX5_whom wsX5_whom 0 0 X [.ref (d 0), .int v1, .int v2] (z_wM X d M) RR := by
  refine Met.ofW (cc := cX5_whom) (maxL := 3) (ret := (some .int)) (by decide) rfl ?_
  intro p e s m args below meth c s₁ Bd hml hv
  obtain ⟨rfl, hP, hK, hN⟩ := hv
  have hx := Bd.exec
  have hb := Bd.bytes
  have hr := Bd.returns
  have hts := atoms_spec (ws := wsX5_whom) Bd.pre
  have hown : s.vm.findClass RX5 = some m.cls := findClass_of_methodNamed Bd.named
  have hlocks := Bd.notSynchronized
  have S : CallFix p m c cX5_whom 3 s _ wsX5_whom RX5 := ⟨hx, hb, hml, hown, hts⟩
  have lk_fi29 := hts (.fieldLink RX5 29 "HouseBellsModel" "now" "[I") (List.mem_of_getElem? (i := 1) rfl)
  have in_X5 : ∀ w ∈ wsX50, w ∈ wsX5_whom := fun _ h => (List.mem_cons_of_mem _ (List.mem_append_right _ h))
  have hl := lv_entry ([.ref (d 0), .int v1, .int v2]) (n := 3) (Nat.le_of_ble_eq_true rfl)
  rw [lg_entry_eq]
  generalize (lg_sl ([.ref (d 0), .int v1, .int v2]) ++ List.replicate (3 - (lg_sl ([.ref (d 0), .int v1, .int v2])).length) Slot.unset).toArray = ls at hl ⊢
  have hl : lv_has ls 3 [(0, .ref (d 0)), (1, .int v1), (2, .int v2)] := hl
  unfold f_X5_whom at hf
  refine lv_aload_n (pc := 0) hx hb dX5_whom_0 rfl (lv_at hl 0 rfl) ?_
  refine va_get (pc := 1) (ci := 5) (C := RX5) (T := TX5) (N := 11) hx hb hts in_X5 hown hK hP 0 rfl rfl 9 (by decide) lk_fi29 (fun _ h9 => h9) rfl dX5_whom_1 ?_
  refine lv_bipush (v := 37) (pc := 4) hx hb dX5_whom_4 (by decide) ?_
  refine lv_iload_n (pc := 6) hx hb dX5_whom_6 rfl (lv_at hl 1 rfl) ?_
  refine lv_iadd (pc := 7) hx hb dX5_whom_7 ?_
  obtain ⟨x8, e8, hf⟩ := z_bd hf
  refine z_iald (pc := 8) hx hb hK hP 7 0 rfl rfl e8 dX5_whom_8 ?_
  refine lv_iload_n (pc := 9) hx hb dX5_whom_9 rfl (lv_at hl 2 rfl) ?_
  refine lv_icmp_ne (pc := 10) (tgt := 25) hx hb dX5_whom_10 (by decide) (fun c_10 => ?_) (fun c_10 => ?_)
  · replace hf := z_in c_10 hf
    refine lv_iconst (v := (-1)) (pc := 25) hx hb dX5_whom_25 (by decide) ?_
    exact W.iret (pc := 26) (v := (-1)) hx hb hr (fun t ht hW => ⟨_, rfl, (Option.some.inj hf), ht⟩) (fun _ h => nomatch h) dX5_whom_26
  · replace hf := z_ip c_10 hf
    refine lv_aload_n (pc := 13) hx hb dX5_whom_13 rfl (lv_at hl 0 rfl) ?_
    refine va_get (pc := 14) (ci := 5) (C := RX5) (T := TX5) (N := 11) hx hb hts in_X5 hown hK hP 0 rfl rfl 9 (by decide) lk_fi29 (fun _ h9 => h9) rfl dX5_whom_14 ?_
    refine lv_bipush (v := 43) (pc := 17) hx hb dX5_whom_17 (by decide) ?_
    refine lv_iload_n (pc := 19) hx hb dX5_whom_19 rfl (lv_at hl 1 rfl) ?_
    refine lv_iadd (pc := 20) hx hb dX5_whom_20 ?_
    obtain ⟨x21, e21, hf⟩ := z_bd hf
    refine z_iald (pc := 21) hx hb hK hP 7 0 rfl rfl e21 dX5_whom_21 ?_
    refine lv_goto (pc := 22) (tgt := 26) hx hb dX5_whom_22 (by decide) ?_
    exact W.iret (pc := 26) (v := x21) hx hb hr (fun t ht hW => ⟨_, rfl, (Option.some.inj hf), ht⟩) (fun _ h => nomatch h) dX5_whom_26
def f_X5_goesTo (M : z_M) (v1 : Int32) : Option (Int32 × z_M) := (f_X5_isServant M v1).bind (fun x3 => (f_X5_isKnown M x3).bind (fun x6 => (if x6.1 = 0 then some (0, x6.2) else (f_X5_whom x6.2 v1 1).bind (fun x15 => some (x15, x6.2)))))
set_option maxHeartbeats 4000000 in
set_option maxRecDepth 100000 in
theorem m_X5_goesTo (l : Launch) (X : z_X) (d : Nat → Nat) (M : z_M) (v1 : Int32) {RR : (Int32 × z_M)} (hf : f_X5_goesTo M v1 = some RR) : z_mI l yX5_goesTo wsX5_goesTo 2 43 X [.ref (d 0), .int v1] (z_wM X d M) RR.1 (z_wM X d RR.2) := by
  intro sz
  refine Met.ofW (cc := cX5_goesTo) (maxL := 2) (ret := (some .int)) (by decide) rfl ?_
  intro p e s m args below meth c s₁ Bd hml hv
  obtain ⟨rfl, hsz, hP, hK, hN, hD0⟩ := hv
  have hx := Bd.exec
  have hb := Bd.bytes
  have hr := Bd.returns
  have hts := atoms_spec (ws := wsX5_goesTo) Bd.pre
  have hown : s.vm.findClass RX5 = some m.cls := findClass_of_methodNamed Bd.named
  have hlocks := Bd.notSynchronized
  have S : CallFix p m c cX5_goesTo 2 s _ wsX5_goesTo RX5 := ⟨hx, hb, hml, hown, hts⟩
  subst hsz
  have hD := hD0.self (sz := s.heap.size)
  generalize hAe : va_A (z_wM X d M) s.heap.size = A at hD ⊢
  have hA : ∀ q : Nat, s.heap.size ≤ q → A q := fun q h => by rw [← hAe]; exact Or.inr h
  have hS : va_S A s.heap s.heap [] := va_S.rf
  have hl := lv_entry ([.ref (d 0), .int v1]) (n := 2) (Nat.le_of_ble_eq_true rfl)
  rw [lg_entry_eq]
  generalize (lg_sl ([.ref (d 0), .int v1]) ++ List.replicate (2 - (lg_sl ([.ref (d 0), .int v1])).length) Slot.unset).toArray = ls at hl ⊢
  have hl : lv_has ls 2 [(0, .ref (d 0)), (1, .int v1)] := hl
  suffices hgo : ∀ (H : Heap) (locs : List Loc), va_P X.1 vwCl (z_wM X d M) H → va_D A (z_wM X d M) → va_S A s.heap H locs → W p l e (headSpec wsX5_goesTo (z_R 2 43)).room s m ([.ref (d 0), .int v1] : List Value).toArray below meth c H locs 0 0 (MQ below (va_Qi (fun (z : Int32) (u : va_W) => z = RR.1 ∧ u = (z_wM X d RR.2)) (z_Bm X A) A) ([.ref (d 0), .int v1] : List Value).toArray s 0 0 A) (F0 m 0 ls []) from hgo _ _ hP hD hS
  clear hP hD hS
  intro H locs hP hD hS
  unfold f_X5_goesTo at hf
  refine lv_aload_n (pc := 0) hx hb dX5_goesTo_0 rfl (lv_at hl 0 rfl) ?_
  refine lv_aload_n (pc := 1) hx hb dX5_goesTo_1 rfl (lv_at hl 0 rfl) ?_
  refine lv_iload_n (pc := 2) hx hb dX5_goesTo_2 rfl (lv_at hl 1 rfl) ?_
  obtain ⟨x3, e3, hf⟩ := z_bd hf
  refine z_cpI (pc := 3) S (m_X5_isServant l X d M v1 e3) (cwV 1 hts gX5_goesTo_X5_isServant rfl rfl rfl hdX5_isServant ⟨Nat.le_of_ble_eq_true rfl, Nat.le_of_ble_eq_true rfl⟩) hP hK hN (s_M_M X d M) (ci := 5) rfl rfl rfl ⟨Nat.le_of_ble_eq_true rfl, Nat.le_of_ble_eq_true rfl⟩ rfl hl.1 rfl (Nat.le_of_ble_eq_true rfl) dX5_goesTo_3 ?_
  obtain ⟨x6, e6, hf⟩ := z_bd hf
  refine z_cmI (pc := 6) (W1 := (z_wM X d x6.2)) S (m_X5_isKnown l X d M x3 e6) (cwV 1 hts gX5_goesTo_X5_isKnown rfl rfl rfl hdX5_isKnown ⟨Nat.le_of_ble_eq_true rfl, Nat.le_of_ble_eq_true rfl⟩) hP hK hN hD hS hA (s_M_M X d M) (f_M_M X d M x6.2) (ci := 5) rfl rfl rfl ⟨Nat.le_of_ble_eq_true rfl, Nat.le_of_ble_eq_true rfl⟩ rfl hl.1 rfl (Nat.le_of_ble_eq_true rfl) dX5_goesTo_6 (fun H locs hP hD hS => ?_)
  refine lv_if_eq (pc := 9) (tgt := 21) hx hb dX5_goesTo_9 (by decide) (fun c_9 => ?_) (fun c_9 => ?_)
  · replace hf := z_ip c_9 hf
    refine lv_iconst (v := 0) (pc := 21) hx hb dX5_goesTo_21 (by decide) ?_
    exact W.iret (pc := 22) (v := 0) hx hb hr (fun t ht hW => ⟨⟨_, (z_wM X d x6.2), rfl, ⟨z_e1 hf, congrArg (fun z => (z_wM X d z)) (z_e2 hf)⟩, by rw [ht]; exact hP, hD⟩, hS.F ht⟩) hS.2.2 dX5_goesTo_22
  · replace hf := z_in c_9 hf
    refine lv_aload_n (pc := 12) hx hb dX5_goesTo_12 rfl (lv_at hl 0 rfl) ?_
    refine lv_iload_n (pc := 13) hx hb dX5_goesTo_13 rfl (lv_at hl 1 rfl) ?_
    refine lv_iconst (v := 1) (pc := 14) hx hb dX5_goesTo_14 (by decide) ?_
    obtain ⟨x15, e15, hf⟩ := z_bd hf
    refine z_cpI (pc := 15) S (m_X5_whom l X d x6.2 v1 1 e15) (cwV 2 hts gX5_goesTo_X5_whom rfl rfl rfl hdX5_whom ⟨Nat.le_of_ble_eq_true rfl, Nat.le_of_ble_eq_true rfl⟩) hP hK hN (s_M_M X d x6.2) (ci := 5) rfl rfl rfl ⟨Nat.le_of_ble_eq_true rfl, Nat.le_of_ble_eq_true rfl⟩ rfl hl.1 rfl (Nat.le_of_ble_eq_true rfl) dX5_goesTo_15 ?_
    refine lv_goto (pc := 18) (tgt := 22) hx hb dX5_goesTo_18 (by decide) ?_
    exact W.iret (pc := 22) (v := x15) hx hb hr (fun t ht hW => ⟨⟨_, (z_wM X d x6.2), rfl, ⟨z_e1 hf, congrArg (fun z => (z_wM X d z)) (z_e2 hf)⟩, by rw [ht]; exact hP, hD⟩, hS.F ht⟩) hS.2.2 dX5_goesTo_22
def f_X5_serves (M : z_M) (v1 : Int32) : Option (Int32 × z_M) := (f_X5_isServant M v1).bind (fun x3 => (f_X5_isKnown M x3).bind (fun x6 => (if x6.1 = 0 then some (0, x6.2) else (f_X5_whom x6.2 v1 2).bind (fun x15 => some (x15, x6.2)))))
set_option maxHeartbeats 4000000 in
set_option maxRecDepth 100000 in
theorem m_X5_serves (l : Launch) (X : z_X) (d : Nat → Nat) (M : z_M) (v1 : Int32) {RR : (Int32 × z_M)} (hf : f_X5_serves M v1 = some RR) : z_mI l yX5_serves wsX5_serves 2 43 X [.ref (d 0), .int v1] (z_wM X d M) RR.1 (z_wM X d RR.2) := by
  intro sz
  refine Met.ofW (cc := cX5_serves) (maxL := 2) (ret := (some .int)) (by decide) rfl ?_
  intro p e s m args below meth c s₁ Bd hml hv
  obtain ⟨rfl, hsz, hP, hK, hN, hD0⟩ := hv
  have hx := Bd.exec
  have hb := Bd.bytes
  have hr := Bd.returns
  have hts := atoms_spec (ws := wsX5_serves) Bd.pre
  have hown : s.vm.findClass RX5 = some m.cls := findClass_of_methodNamed Bd.named
  have hlocks := Bd.notSynchronized
  have S : CallFix p m c cX5_serves 2 s _ wsX5_serves RX5 := ⟨hx, hb, hml, hown, hts⟩
  subst hsz
  have hD := hD0.self (sz := s.heap.size)
  generalize hAe : va_A (z_wM X d M) s.heap.size = A at hD ⊢
  have hA : ∀ q : Nat, s.heap.size ≤ q → A q := fun q h => by rw [← hAe]; exact Or.inr h
  have hS : va_S A s.heap s.heap [] := va_S.rf
  have hl := lv_entry ([.ref (d 0), .int v1]) (n := 2) (Nat.le_of_ble_eq_true rfl)
  rw [lg_entry_eq]
  generalize (lg_sl ([.ref (d 0), .int v1]) ++ List.replicate (2 - (lg_sl ([.ref (d 0), .int v1])).length) Slot.unset).toArray = ls at hl ⊢
  have hl : lv_has ls 2 [(0, .ref (d 0)), (1, .int v1)] := hl
  suffices hgo : ∀ (H : Heap) (locs : List Loc), va_P X.1 vwCl (z_wM X d M) H → va_D A (z_wM X d M) → va_S A s.heap H locs → W p l e (headSpec wsX5_serves (z_R 2 43)).room s m ([.ref (d 0), .int v1] : List Value).toArray below meth c H locs 0 0 (MQ below (va_Qi (fun (z : Int32) (u : va_W) => z = RR.1 ∧ u = (z_wM X d RR.2)) (z_Bm X A) A) ([.ref (d 0), .int v1] : List Value).toArray s 0 0 A) (F0 m 0 ls []) from hgo _ _ hP hD hS
  clear hP hD hS
  intro H locs hP hD hS
  unfold f_X5_serves at hf
  refine lv_aload_n (pc := 0) hx hb dX5_serves_0 rfl (lv_at hl 0 rfl) ?_
  refine lv_aload_n (pc := 1) hx hb dX5_serves_1 rfl (lv_at hl 0 rfl) ?_
  refine lv_iload_n (pc := 2) hx hb dX5_serves_2 rfl (lv_at hl 1 rfl) ?_
  obtain ⟨x3, e3, hf⟩ := z_bd hf
  refine z_cpI (pc := 3) S (m_X5_isServant l X d M v1 e3) (cwV 1 hts gX5_serves_X5_isServant rfl rfl rfl hdX5_isServant ⟨Nat.le_of_ble_eq_true rfl, Nat.le_of_ble_eq_true rfl⟩) hP hK hN (s_M_M X d M) (ci := 5) rfl rfl rfl ⟨Nat.le_of_ble_eq_true rfl, Nat.le_of_ble_eq_true rfl⟩ rfl hl.1 rfl (Nat.le_of_ble_eq_true rfl) dX5_serves_3 ?_
  obtain ⟨x6, e6, hf⟩ := z_bd hf
  refine z_cmI (pc := 6) (W1 := (z_wM X d x6.2)) S (m_X5_isKnown l X d M x3 e6) (cwV 1 hts gX5_serves_X5_isKnown rfl rfl rfl hdX5_isKnown ⟨Nat.le_of_ble_eq_true rfl, Nat.le_of_ble_eq_true rfl⟩) hP hK hN hD hS hA (s_M_M X d M) (f_M_M X d M x6.2) (ci := 5) rfl rfl rfl ⟨Nat.le_of_ble_eq_true rfl, Nat.le_of_ble_eq_true rfl⟩ rfl hl.1 rfl (Nat.le_of_ble_eq_true rfl) dX5_serves_6 (fun H locs hP hD hS => ?_)
  refine lv_if_eq (pc := 9) (tgt := 21) hx hb dX5_serves_9 (by decide) (fun c_9 => ?_) (fun c_9 => ?_)
  · replace hf := z_ip c_9 hf
    refine lv_iconst (v := 0) (pc := 21) hx hb dX5_serves_21 (by decide) ?_
    exact W.iret (pc := 22) (v := 0) hx hb hr (fun t ht hW => ⟨⟨_, (z_wM X d x6.2), rfl, ⟨z_e1 hf, congrArg (fun z => (z_wM X d z)) (z_e2 hf)⟩, by rw [ht]; exact hP, hD⟩, hS.F ht⟩) hS.2.2 dX5_serves_22
  · replace hf := z_in c_9 hf
    refine lv_aload_n (pc := 12) hx hb dX5_serves_12 rfl (lv_at hl 0 rfl) ?_
    refine lv_iload_n (pc := 13) hx hb dX5_serves_13 rfl (lv_at hl 1 rfl) ?_
    refine lv_iconst (v := 2) (pc := 14) hx hb dX5_serves_14 (by decide) ?_
    obtain ⟨x15, e15, hf⟩ := z_bd hf
    refine z_cpI (pc := 15) S (m_X5_whom l X d x6.2 v1 2 e15) (cwV 2 hts gX5_serves_X5_whom rfl rfl rfl hdX5_whom ⟨Nat.le_of_ble_eq_true rfl, Nat.le_of_ble_eq_true rfl⟩) hP hK hN (s_M_M X d x6.2) (ci := 5) rfl rfl rfl ⟨Nat.le_of_ble_eq_true rfl, Nat.le_of_ble_eq_true rfl⟩ rfl hl.1 rfl (Nat.le_of_ble_eq_true rfl) dX5_serves_15 ?_
    refine lv_goto (pc := 18) (tgt := 22) hx hb dX5_serves_18 (by decide) ?_
    exact W.iret (pc := 22) (v := x15) hx hb hr (fun t ht hW => ⟨⟨_, (z_wM X d x6.2), rfl, ⟨z_e1 hf, congrArg (fun z => (z_wM X d z)) (z_e2 hf)⟩, by rw [ht]; exact hP, hD⟩, hS.F ht⟩) hS.2.2 dX5_serves_22
def f_X5_minutesLeft (M : z_M) (v1 : Int32) : Option (Int32 × z_M) := (f_X5_isServant M v1).bind (fun x3 => (f_X5_isKnown M x3).bind (fun x6 => (if x6.1 = 0 then some (0, x6.2) else (z_at (x6.2.2 6) (49 + v1) 55).bind (fun x20 => some (x20, x6.2)))))
set_option maxHeartbeats 4000000 in
set_option maxRecDepth 100000 in
theorem m_X5_minutesLeft (l : Launch) (X : z_X) (d : Nat → Nat) (M : z_M) (v1 : Int32) {RR : (Int32 × z_M)} (hf : f_X5_minutesLeft M v1 = some RR) : z_mI l yX5_minutesLeft wsX5_minutesLeft 2 43 X [.ref (d 0), .int v1] (z_wM X d M) RR.1 (z_wM X d RR.2) := by
  intro sz
  refine Met.ofW (cc := cX5_minutesLeft) (maxL := 2) (ret := (some .int)) (by decide) rfl ?_
  intro p e s m args below meth c s₁ Bd hml hv
  obtain ⟨rfl, hsz, hP, hK, hN, hD0⟩ := hv
  have hx := Bd.exec
  have hb := Bd.bytes
  have hr := Bd.returns
  have hts := atoms_spec (ws := wsX5_minutesLeft) Bd.pre
  have hown : s.vm.findClass RX5 = some m.cls := findClass_of_methodNamed Bd.named
  have hlocks := Bd.notSynchronized
  have S : CallFix p m c cX5_minutesLeft 2 s _ wsX5_minutesLeft RX5 := ⟨hx, hb, hml, hown, hts⟩
  have lk_fi29 := hts (.fieldLink RX5 29 "HouseBellsModel" "now" "[I") (List.mem_of_getElem? (i := 1) rfl)
  have in_X5 : ∀ w ∈ wsX50, w ∈ wsX5_minutesLeft := fun _ h => (List.mem_cons_of_mem _ (List.mem_append_right _ h))
  subst hsz
  have hD := hD0.self (sz := s.heap.size)
  generalize hAe : va_A (z_wM X d M) s.heap.size = A at hD ⊢
  have hA : ∀ q : Nat, s.heap.size ≤ q → A q := fun q h => by rw [← hAe]; exact Or.inr h
  have hS : va_S A s.heap s.heap [] := va_S.rf
  have hl := lv_entry ([.ref (d 0), .int v1]) (n := 2) (Nat.le_of_ble_eq_true rfl)
  rw [lg_entry_eq]
  generalize (lg_sl ([.ref (d 0), .int v1]) ++ List.replicate (2 - (lg_sl ([.ref (d 0), .int v1])).length) Slot.unset).toArray = ls at hl ⊢
  have hl : lv_has ls 2 [(0, .ref (d 0)), (1, .int v1)] := hl
  suffices hgo : ∀ (H : Heap) (locs : List Loc), va_P X.1 vwCl (z_wM X d M) H → va_D A (z_wM X d M) → va_S A s.heap H locs → W p l e (headSpec wsX5_minutesLeft (z_R 2 43)).room s m ([.ref (d 0), .int v1] : List Value).toArray below meth c H locs 0 0 (MQ below (va_Qi (fun (z : Int32) (u : va_W) => z = RR.1 ∧ u = (z_wM X d RR.2)) (z_Bm X A) A) ([.ref (d 0), .int v1] : List Value).toArray s 0 0 A) (F0 m 0 ls []) from hgo _ _ hP hD hS
  clear hP hD hS
  intro H locs hP hD hS
  unfold f_X5_minutesLeft at hf
  refine lv_aload_n (pc := 0) hx hb dX5_minutesLeft_0 rfl (lv_at hl 0 rfl) ?_
  refine lv_aload_n (pc := 1) hx hb dX5_minutesLeft_1 rfl (lv_at hl 0 rfl) ?_
  refine lv_iload_n (pc := 2) hx hb dX5_minutesLeft_2 rfl (lv_at hl 1 rfl) ?_
  obtain ⟨x3, e3, hf⟩ := z_bd hf
  refine z_cpI (pc := 3) S (m_X5_isServant l X d M v1 e3) (cwV 1 hts gX5_minutesLeft_X5_isServant rfl rfl rfl hdX5_isServant ⟨Nat.le_of_ble_eq_true rfl, Nat.le_of_ble_eq_true rfl⟩) hP hK hN (s_M_M X d M) (ci := 5) rfl rfl rfl ⟨Nat.le_of_ble_eq_true rfl, Nat.le_of_ble_eq_true rfl⟩ rfl hl.1 rfl (Nat.le_of_ble_eq_true rfl) dX5_minutesLeft_3 ?_
  obtain ⟨x6, e6, hf⟩ := z_bd hf
  refine z_cmI (pc := 6) (W1 := (z_wM X d x6.2)) S (m_X5_isKnown l X d M x3 e6) (cwV 1 hts gX5_minutesLeft_X5_isKnown rfl rfl rfl hdX5_isKnown ⟨Nat.le_of_ble_eq_true rfl, Nat.le_of_ble_eq_true rfl⟩) hP hK hN hD hS hA (s_M_M X d M) (f_M_M X d M x6.2) (ci := 5) rfl rfl rfl ⟨Nat.le_of_ble_eq_true rfl, Nat.le_of_ble_eq_true rfl⟩ rfl hl.1 rfl (Nat.le_of_ble_eq_true rfl) dX5_minutesLeft_6 (fun H locs hP hD hS => ?_)
  refine lv_if_eq (pc := 9) (tgt := 24) hx hb dX5_minutesLeft_9 (by decide) (fun c_9 => ?_) (fun c_9 => ?_)
  · replace hf := z_ip c_9 hf
    refine lv_iconst (v := 0) (pc := 24) hx hb dX5_minutesLeft_24 (by decide) ?_
    exact W.iret (pc := 25) (v := 0) hx hb hr (fun t ht hW => ⟨⟨_, (z_wM X d x6.2), rfl, ⟨z_e1 hf, congrArg (fun z => (z_wM X d z)) (z_e2 hf)⟩, by rw [ht]; exact hP, hD⟩, hS.F ht⟩) hS.2.2 dX5_minutesLeft_25
  · replace hf := z_in c_9 hf
    refine lv_aload_n (pc := 12) hx hb dX5_minutesLeft_12 rfl (lv_at hl 0 rfl) ?_
    refine va_get (pc := 13) (ci := 5) (C := RX5) (T := TX5) (N := 11) hx hb hts in_X5 hown hK hP 0 rfl rfl 9 (by decide) lk_fi29 (fun _ h9 => h9) rfl dX5_minutesLeft_13 ?_
    refine lv_bipush (v := 49) (pc := 16) hx hb dX5_minutesLeft_16 (by decide) ?_
    refine lv_iload_n (pc := 18) hx hb dX5_minutesLeft_18 rfl (lv_at hl 1 rfl) ?_
    refine lv_iadd (pc := 19) hx hb dX5_minutesLeft_19 ?_
    obtain ⟨x20, e20, hf⟩ := z_bd hf
    refine z_iald (pc := 20) hx hb hK hP 7 0 rfl rfl e20 dX5_minutesLeft_20 ?_
    refine lv_goto (pc := 21) (tgt := 25) hx hb dX5_minutesLeft_21 (by decide) ?_
    exact W.iret (pc := 25) (v := x20) hx hb hr (fun t ht hW => ⟨⟨_, (z_wM X d x6.2), rfl, ⟨z_e1 hf, congrArg (fun z => (z_wM X d z)) (z_e2 hf)⟩, by rw [ht]; exact hP, hD⟩, hS.F ht⟩) hS.2.2 dX5_minutesLeft_25
def f_X5_wayTo (M : z_M) (v1 : Int32) (v2 : Int32) : Option (Int32 × z_M) := (f_X5_isServant M v1).bind (fun x3 => (if x3 = 0 then (f_X5_isKnown M 0).bind (fun x22 => (if x22.1 = 0 then some (0, x22.2) else (f_X5_way x22.2 v1 v2).bind (fun x31 => some (x31, x22.2)))) else (f_X5_isRoom M v2).bind (fun x11 => (if x11 = 0 then (f_X5_isKnown M 0).bind (fun x22 => (if x22.1 = 0 then some (0, x22.2) else (f_X5_way x22.2 v1 v2).bind (fun x31 => some (x31, x22.2)))) else (f_X5_isKnown M 1).bind (fun x22 => (if x22.1 = 0 then some (0, x22.2) else (f_X5_way x22.2 v1 v2).bind (fun x31 => some (x31, x22.2))))))))
set_option maxHeartbeats 4000000 in
set_option maxRecDepth 100000 in
theorem m_X5_wayTo (l : Launch) (X : z_X) (d : Nat → Nat) (M : z_M) (v1 : Int32) (v2 : Int32) {RR : (Int32 × z_M)} (hf : f_X5_wayTo M v1 v2 = some RR) : z_mI l yX5_wayTo wsX5_wayTo 2 47 X [.ref (d 0), .int v1, .int v2] (z_wM X d M) RR.1 (z_wM X d RR.2) := by
  intro sz
  refine Met.ofW (cc := cX5_wayTo) (maxL := 3) (ret := (some .int)) (by decide) rfl ?_
  intro p e s m args below meth c s₁ Bd hml hv
  obtain ⟨rfl, hsz, hP, hK, hN, hD0⟩ := hv
  have hx := Bd.exec
  have hb := Bd.bytes
  have hr := Bd.returns
  have hts := atoms_spec (ws := wsX5_wayTo) Bd.pre
  have hown : s.vm.findClass RX5 = some m.cls := findClass_of_methodNamed Bd.named
  have hlocks := Bd.notSynchronized
  have S : CallFix p m c cX5_wayTo 3 s _ wsX5_wayTo RX5 := ⟨hx, hb, hml, hown, hts⟩
  subst hsz
  have hD := hD0.self (sz := s.heap.size)
  generalize hAe : va_A (z_wM X d M) s.heap.size = A at hD ⊢
  have hA : ∀ q : Nat, s.heap.size ≤ q → A q := fun q h => by rw [← hAe]; exact Or.inr h
  have hS : va_S A s.heap s.heap [] := va_S.rf
  have hl := lv_entry ([.ref (d 0), .int v1, .int v2]) (n := 3) (Nat.le_of_ble_eq_true rfl)
  rw [lg_entry_eq]
  generalize (lg_sl ([.ref (d 0), .int v1, .int v2]) ++ List.replicate (3 - (lg_sl ([.ref (d 0), .int v1, .int v2])).length) Slot.unset).toArray = ls at hl ⊢
  have hl : lv_has ls 3 [(0, .ref (d 0)), (1, .int v1), (2, .int v2)] := hl
  suffices hgo : ∀ (H : Heap) (locs : List Loc), va_P X.1 vwCl (z_wM X d M) H → va_D A (z_wM X d M) → va_S A s.heap H locs → W p l e (headSpec wsX5_wayTo (z_R 2 47)).room s m ([.ref (d 0), .int v1, .int v2] : List Value).toArray below meth c H locs 0 0 (MQ below (va_Qi (fun (z : Int32) (u : va_W) => z = RR.1 ∧ u = (z_wM X d RR.2)) (z_Bm X A) A) ([.ref (d 0), .int v1, .int v2] : List Value).toArray s 0 0 A) (F0 m 0 ls []) from hgo _ _ hP hD hS
  clear hP hD hS
  intro H locs hP hD hS
  unfold f_X5_wayTo at hf
  refine lv_aload_n (pc := 0) hx hb dX5_wayTo_0 rfl (lv_at hl 0 rfl) ?_
  refine lv_aload_n (pc := 1) hx hb dX5_wayTo_1 rfl (lv_at hl 0 rfl) ?_
  refine lv_iload_n (pc := 2) hx hb dX5_wayTo_2 rfl (lv_at hl 1 rfl) ?_
  obtain ⟨x3, e3, hf⟩ := z_bd hf
  refine z_cpI (pc := 3) S (m_X5_isServant l X d M v1 e3) (cwV 1 hts gX5_wayTo_X5_isServant rfl rfl rfl hdX5_isServant ⟨Nat.le_of_ble_eq_true rfl, Nat.le_of_ble_eq_true rfl⟩) hP hK hN (s_M_M X d M) (ci := 5) rfl rfl rfl ⟨Nat.le_of_ble_eq_true rfl, Nat.le_of_ble_eq_true rfl⟩ rfl hl.1 rfl (Nat.le_of_ble_eq_true rfl) dX5_wayTo_3 ?_
  refine lv_if_eq (pc := 6) (tgt := 21) hx hb dX5_wayTo_6 (by decide) (fun c_6 => ?_) (fun c_6 => ?_)
  · replace hf := z_ip c_6 hf
    refine lv_iconst (v := 0) (pc := 21) hx hb dX5_wayTo_21 (by decide) ?_
    obtain ⟨x22, e22, hf⟩ := z_bd hf
    refine z_cmI (pc := 22) (W1 := (z_wM X d x22.2)) S (m_X5_isKnown l X d M 0 e22) (cwV 1 hts gX5_wayTo_X5_isKnown rfl rfl rfl hdX5_isKnown ⟨Nat.le_of_ble_eq_true rfl, Nat.le_of_ble_eq_true rfl⟩) hP hK hN hD hS hA (s_M_M X d M) (f_M_M X d M x22.2) (ci := 5) rfl rfl rfl ⟨Nat.le_of_ble_eq_true rfl, Nat.le_of_ble_eq_true rfl⟩ rfl hl.1 rfl (Nat.le_of_ble_eq_true rfl) dX5_wayTo_22 (fun H locs hP hD hS => ?_)
    refine lv_if_eq (pc := 25) (tgt := 37) hx hb dX5_wayTo_25 (by decide) (fun c_25 => ?_) (fun c_25 => ?_)
    · replace hf := z_ip c_25 hf
      refine lv_iconst (v := 0) (pc := 37) hx hb dX5_wayTo_37 (by decide) ?_
      exact W.iret (pc := 38) (v := 0) hx hb hr (fun t ht hW => ⟨⟨_, (z_wM X d x22.2), rfl, ⟨z_e1 hf, congrArg (fun z => (z_wM X d z)) (z_e2 hf)⟩, by rw [ht]; exact hP, hD⟩, hS.F ht⟩) hS.2.2 dX5_wayTo_38
    · replace hf := z_in c_25 hf
      refine lv_aload_n (pc := 28) hx hb dX5_wayTo_28 rfl (lv_at hl 0 rfl) ?_
      refine lv_iload_n (pc := 29) hx hb dX5_wayTo_29 rfl (lv_at hl 1 rfl) ?_
      refine lv_iload_n (pc := 30) hx hb dX5_wayTo_30 rfl (lv_at hl 2 rfl) ?_
      obtain ⟨x31, e31, hf⟩ := z_bd hf
      refine z_cpI (pc := 31) S (m_X5_way l X d x22.2 v1 v2 e31) (cwV 2 hts gX5_wayTo_X5_way rfl rfl rfl hdX5_way ⟨Nat.le_of_ble_eq_true rfl, Nat.le_of_ble_eq_true rfl⟩) hP hK hN (s_M_M X d x22.2) (ci := 5) rfl rfl rfl ⟨Nat.le_of_ble_eq_true rfl, Nat.le_of_ble_eq_true rfl⟩ rfl hl.1 rfl (Nat.le_of_ble_eq_true rfl) dX5_wayTo_31 ?_
      refine lv_goto (pc := 34) (tgt := 38) hx hb dX5_wayTo_34 (by decide) ?_
      exact W.iret (pc := 38) (v := x31) hx hb hr (fun t ht hW => ⟨⟨_, (z_wM X d x22.2), rfl, ⟨z_e1 hf, congrArg (fun z => (z_wM X d z)) (z_e2 hf)⟩, by rw [ht]; exact hP, hD⟩, hS.F ht⟩) hS.2.2 dX5_wayTo_38
  · replace hf := z_in c_6 hf
    refine lv_aload_n (pc := 9) hx hb dX5_wayTo_9 rfl (lv_at hl 0 rfl) ?_
    refine lv_iload_n (pc := 10) hx hb dX5_wayTo_10 rfl (lv_at hl 2 rfl) ?_
    obtain ⟨x11, e11, hf⟩ := z_bd hf
    refine z_cpI (pc := 11) S (m_X5_isRoom l X d M v2 e11) (cwV 1 hts gX5_wayTo_X5_isRoom rfl rfl rfl hdX5_isRoom ⟨Nat.le_of_ble_eq_true rfl, Nat.le_of_ble_eq_true rfl⟩) hP hK hN (s_M_M X d M) (ci := 5) rfl rfl rfl ⟨Nat.le_of_ble_eq_true rfl, Nat.le_of_ble_eq_true rfl⟩ rfl hl.1 rfl (Nat.le_of_ble_eq_true rfl) dX5_wayTo_11 ?_
    refine lv_if_eq (pc := 14) (tgt := 21) hx hb dX5_wayTo_14 (by decide) (fun c_14 => ?_) (fun c_14 => ?_)
    · replace hf := z_ip c_14 hf
      refine lv_iconst (v := 0) (pc := 21) hx hb dX5_wayTo_21 (by decide) ?_
      obtain ⟨x22, e22, hf⟩ := z_bd hf
      refine z_cmI (pc := 22) (W1 := (z_wM X d x22.2)) S (m_X5_isKnown l X d M 0 e22) (cwV 1 hts gX5_wayTo_X5_isKnown rfl rfl rfl hdX5_isKnown ⟨Nat.le_of_ble_eq_true rfl, Nat.le_of_ble_eq_true rfl⟩) hP hK hN hD hS hA (s_M_M X d M) (f_M_M X d M x22.2) (ci := 5) rfl rfl rfl ⟨Nat.le_of_ble_eq_true rfl, Nat.le_of_ble_eq_true rfl⟩ rfl hl.1 rfl (Nat.le_of_ble_eq_true rfl) dX5_wayTo_22 (fun H locs hP hD hS => ?_)
      refine lv_if_eq (pc := 25) (tgt := 37) hx hb dX5_wayTo_25 (by decide) (fun c_25 => ?_) (fun c_25 => ?_)
      · replace hf := z_ip c_25 hf
        refine lv_iconst (v := 0) (pc := 37) hx hb dX5_wayTo_37 (by decide) ?_
        exact W.iret (pc := 38) (v := 0) hx hb hr (fun t ht hW => ⟨⟨_, (z_wM X d x22.2), rfl, ⟨z_e1 hf, congrArg (fun z => (z_wM X d z)) (z_e2 hf)⟩, by rw [ht]; exact hP, hD⟩, hS.F ht⟩) hS.2.2 dX5_wayTo_38
      · replace hf := z_in c_25 hf
        refine lv_aload_n (pc := 28) hx hb dX5_wayTo_28 rfl (lv_at hl 0 rfl) ?_
        refine lv_iload_n (pc := 29) hx hb dX5_wayTo_29 rfl (lv_at hl 1 rfl) ?_
        refine lv_iload_n (pc := 30) hx hb dX5_wayTo_30 rfl (lv_at hl 2 rfl) ?_
        obtain ⟨x31, e31, hf⟩ := z_bd hf
        refine z_cpI (pc := 31) S (m_X5_way l X d x22.2 v1 v2 e31) (cwV 2 hts gX5_wayTo_X5_way rfl rfl rfl hdX5_way ⟨Nat.le_of_ble_eq_true rfl, Nat.le_of_ble_eq_true rfl⟩) hP hK hN (s_M_M X d x22.2) (ci := 5) rfl rfl rfl ⟨Nat.le_of_ble_eq_true rfl, Nat.le_of_ble_eq_true rfl⟩ rfl hl.1 rfl (Nat.le_of_ble_eq_true rfl) dX5_wayTo_31 ?_
        refine lv_goto (pc := 34) (tgt := 38) hx hb dX5_wayTo_34 (by decide) ?_
        exact W.iret (pc := 38) (v := x31) hx hb hr (fun t ht hW => ⟨⟨_, (z_wM X d x22.2), rfl, ⟨z_e1 hf, congrArg (fun z => (z_wM X d z)) (z_e2 hf)⟩, by rw [ht]; exact hP, hD⟩, hS.F ht⟩) hS.2.2 dX5_wayTo_38
    · replace hf := z_in c_14 hf
      refine lv_iconst (v := 1) (pc := 17) hx hb dX5_wayTo_17 (by decide) ?_
      refine lv_goto (pc := 18) (tgt := 22) hx hb dX5_wayTo_18 (by decide) ?_
      obtain ⟨x22, e22, hf⟩ := z_bd hf
      refine z_cmI (pc := 22) (W1 := (z_wM X d x22.2)) S (m_X5_isKnown l X d M 1 e22) (cwV 1 hts gX5_wayTo_X5_isKnown rfl rfl rfl hdX5_isKnown ⟨Nat.le_of_ble_eq_true rfl, Nat.le_of_ble_eq_true rfl⟩) hP hK hN hD hS hA (s_M_M X d M) (f_M_M X d M x22.2) (ci := 5) rfl rfl rfl ⟨Nat.le_of_ble_eq_true rfl, Nat.le_of_ble_eq_true rfl⟩ rfl hl.1 rfl (Nat.le_of_ble_eq_true rfl) dX5_wayTo_22 (fun H locs hP hD hS => ?_)
      refine lv_if_eq (pc := 25) (tgt := 37) hx hb dX5_wayTo_25 (by decide) (fun c_25 => ?_) (fun c_25 => ?_)
      · replace hf := z_ip c_25 hf
        refine lv_iconst (v := 0) (pc := 37) hx hb dX5_wayTo_37 (by decide) ?_
        exact W.iret (pc := 38) (v := 0) hx hb hr (fun t ht hW => ⟨⟨_, (z_wM X d x22.2), rfl, ⟨z_e1 hf, congrArg (fun z => (z_wM X d z)) (z_e2 hf)⟩, by rw [ht]; exact hP, hD⟩, hS.F ht⟩) hS.2.2 dX5_wayTo_38
      · replace hf := z_in c_25 hf
        refine lv_aload_n (pc := 28) hx hb dX5_wayTo_28 rfl (lv_at hl 0 rfl) ?_
        refine lv_iload_n (pc := 29) hx hb dX5_wayTo_29 rfl (lv_at hl 1 rfl) ?_
        refine lv_iload_n (pc := 30) hx hb dX5_wayTo_30 rfl (lv_at hl 2 rfl) ?_
        obtain ⟨x31, e31, hf⟩ := z_bd hf
        refine z_cpI (pc := 31) S (m_X5_way l X d x22.2 v1 v2 e31) (cwV 2 hts gX5_wayTo_X5_way rfl rfl rfl hdX5_way ⟨Nat.le_of_ble_eq_true rfl, Nat.le_of_ble_eq_true rfl⟩) hP hK hN (s_M_M X d x22.2) (ci := 5) rfl rfl rfl ⟨Nat.le_of_ble_eq_true rfl, Nat.le_of_ble_eq_true rfl⟩ rfl hl.1 rfl (Nat.le_of_ble_eq_true rfl) dX5_wayTo_31 ?_
        refine lv_goto (pc := 34) (tgt := 38) hx hb dX5_wayTo_34 (by decide) ?_
        exact W.iret (pc := 38) (v := x31) hx hb hr (fun t ht hW => ⟨⟨_, (z_wM X d x22.2), rfl, ⟨z_e1 hf, congrArg (fun z => (z_wM X d z)) (z_e2 hf)⟩, by rw [ht]; exact hP, hD⟩, hS.F ht⟩) hS.2.2 dX5_wayTo_38
def f_X5_nearestIdle (M : z_M) (v1 : Int32) : Option (Int32 × z_M) := (f_X5_isRoom M v1).bind (fun x3 => (f_X5_isKnown M x3).bind (fun x6 => (if x6.1 = 0 then some (0, x6.2) else (f_X5_nearest x6.2 v1).bind (fun x14 => some (x14, x6.2)))))
set_option maxHeartbeats 4000000 in
set_option maxRecDepth 100000 in
theorem m_X5_nearestIdle (l : Launch) (X : z_X) (d : Nat → Nat) (M : z_M) (v1 : Int32) {RR : (Int32 × z_M)} (hf : f_X5_nearestIdle M v1 = some RR) : z_mI l yX5_nearestIdle wsX5_nearestIdle 3 70 X [.ref (d 0), .int v1] (z_wM X d M) RR.1 (z_wM X d RR.2) := by
  intro sz
  refine Met.ofW (cc := cX5_nearestIdle) (maxL := 2) (ret := (some .int)) (by decide) rfl ?_
  intro p e s m args below meth c s₁ Bd hml hv
  obtain ⟨rfl, hsz, hP, hK, hN, hD0⟩ := hv
  have hx := Bd.exec
  have hb := Bd.bytes
  have hr := Bd.returns
  have hts := atoms_spec (ws := wsX5_nearestIdle) Bd.pre
  have hown : s.vm.findClass RX5 = some m.cls := findClass_of_methodNamed Bd.named
  have hlocks := Bd.notSynchronized
  have S : CallFix p m c cX5_nearestIdle 2 s _ wsX5_nearestIdle RX5 := ⟨hx, hb, hml, hown, hts⟩
  subst hsz
  have hD := hD0.self (sz := s.heap.size)
  generalize hAe : va_A (z_wM X d M) s.heap.size = A at hD ⊢
  have hA : ∀ q : Nat, s.heap.size ≤ q → A q := fun q h => by rw [← hAe]; exact Or.inr h
  have hS : va_S A s.heap s.heap [] := va_S.rf
  have hl := lv_entry ([.ref (d 0), .int v1]) (n := 2) (Nat.le_of_ble_eq_true rfl)
  rw [lg_entry_eq]
  generalize (lg_sl ([.ref (d 0), .int v1]) ++ List.replicate (2 - (lg_sl ([.ref (d 0), .int v1])).length) Slot.unset).toArray = ls at hl ⊢
  have hl : lv_has ls 2 [(0, .ref (d 0)), (1, .int v1)] := hl
  suffices hgo : ∀ (H : Heap) (locs : List Loc), va_P X.1 vwCl (z_wM X d M) H → va_D A (z_wM X d M) → va_S A s.heap H locs → W p l e (headSpec wsX5_nearestIdle (z_R 3 70)).room s m ([.ref (d 0), .int v1] : List Value).toArray below meth c H locs 0 0 (MQ below (va_Qi (fun (z : Int32) (u : va_W) => z = RR.1 ∧ u = (z_wM X d RR.2)) (z_Bm X A) A) ([.ref (d 0), .int v1] : List Value).toArray s 0 0 A) (F0 m 0 ls []) from hgo _ _ hP hD hS
  clear hP hD hS
  intro H locs hP hD hS
  unfold f_X5_nearestIdle at hf
  refine lv_aload_n (pc := 0) hx hb dX5_nearestIdle_0 rfl (lv_at hl 0 rfl) ?_
  refine lv_aload_n (pc := 1) hx hb dX5_nearestIdle_1 rfl (lv_at hl 0 rfl) ?_
  refine lv_iload_n (pc := 2) hx hb dX5_nearestIdle_2 rfl (lv_at hl 1 rfl) ?_
  obtain ⟨x3, e3, hf⟩ := z_bd hf
  refine z_cpI (pc := 3) S (m_X5_isRoom l X d M v1 e3) (cwV 1 hts gX5_nearestIdle_X5_isRoom rfl rfl rfl hdX5_isRoom ⟨Nat.le_of_ble_eq_true rfl, Nat.le_of_ble_eq_true rfl⟩) hP hK hN (s_M_M X d M) (ci := 5) rfl rfl rfl ⟨Nat.le_of_ble_eq_true rfl, Nat.le_of_ble_eq_true rfl⟩ rfl hl.1 rfl (Nat.le_of_ble_eq_true rfl) dX5_nearestIdle_3 ?_
  obtain ⟨x6, e6, hf⟩ := z_bd hf
  refine z_cmI (pc := 6) (W1 := (z_wM X d x6.2)) S (m_X5_isKnown l X d M x3 e6) (cwV 1 hts gX5_nearestIdle_X5_isKnown rfl rfl rfl hdX5_isKnown ⟨Nat.le_of_ble_eq_true rfl, Nat.le_of_ble_eq_true rfl⟩) hP hK hN hD hS hA (s_M_M X d M) (f_M_M X d M x6.2) (ci := 5) rfl rfl rfl ⟨Nat.le_of_ble_eq_true rfl, Nat.le_of_ble_eq_true rfl⟩ rfl hl.1 rfl (Nat.le_of_ble_eq_true rfl) dX5_nearestIdle_6 (fun H locs hP hD hS => ?_)
  refine lv_if_eq (pc := 9) (tgt := 20) hx hb dX5_nearestIdle_9 (by decide) (fun c_9 => ?_) (fun c_9 => ?_)
  · replace hf := z_ip c_9 hf
    refine lv_iconst (v := 0) (pc := 20) hx hb dX5_nearestIdle_20 (by decide) ?_
    exact W.iret (pc := 21) (v := 0) hx hb hr (fun t ht hW => ⟨⟨_, (z_wM X d x6.2), rfl, ⟨z_e1 hf, congrArg (fun z => (z_wM X d z)) (z_e2 hf)⟩, by rw [ht]; exact hP, hD⟩, hS.F ht⟩) hS.2.2 dX5_nearestIdle_21
  · replace hf := z_in c_9 hf
    refine lv_aload_n (pc := 12) hx hb dX5_nearestIdle_12 rfl (lv_at hl 0 rfl) ?_
    refine lv_iload_n (pc := 13) hx hb dX5_nearestIdle_13 rfl (lv_at hl 1 rfl) ?_
    obtain ⟨x14, e14, hf⟩ := z_bd hf
    refine z_cpI (pc := 14) S (m_X5_nearest l X d x6.2 v1 e14) (cwV 1 hts gX5_nearestIdle_X5_nearest rfl rfl rfl hdX5_nearest ⟨Nat.le_of_ble_eq_true rfl, Nat.le_of_ble_eq_true rfl⟩) hP hK hN (s_M_M X d x6.2) (ci := 5) rfl rfl rfl ⟨Nat.le_of_ble_eq_true rfl, Nat.le_of_ble_eq_true rfl⟩ rfl hl.1 rfl (Nat.le_of_ble_eq_true rfl) dX5_nearestIdle_14 ?_
    refine lv_goto (pc := 17) (tgt := 21) hx hb dX5_nearestIdle_17 (by decide) ?_
    exact W.iret (pc := 21) (v := x14) hx hb hr (fun t ht hW => ⟨⟨_, (z_wM X d x6.2), rfl, ⟨z_e1 hf, congrArg (fun z => (z_wM X d z)) (z_e2 hf)⟩, by rw [ht]; exact hP, hD⟩, hS.F ht⟩) hS.2.2 dX5_nearestIdle_21
def f_X5_isServed_L2 (M : z_M) : Nat → Int32 → Int32 → Option Int32
  | 0, _, _ => none
  | n + 1, u1, u2 => (if (M.1 2) ≤ u2 then some 0 else (f_X5_whom M u2 2).bind (fun x13 => (if x13 = u1 then some 1 else f_X5_isServed_L2 M n u1 (u2 + 1))))
def f_X5_isServed (M : z_M) (v1 : Int32) : Option Int32 := f_X5_isServed_L2 M z_FU v1 0
set_option maxHeartbeats 4000000 in
set_option maxRecDepth 100000 in
theorem m_X5_isServed (l : Launch) (X : z_X) (d : Nat → Nat) (M : z_M) (v1 : Int32) {RR : Int32} (hf : f_X5_isServed M v1 = some RR) : z_pI l yX5_isServed wsX5_isServed 1 22 X [.ref (d 0), .int v1] (z_wM X d M) RR := by
  refine Met.ofW (cc := cX5_isServed) (maxL := 3) (ret := (some .boolean)) (by decide) rfl ?_
  intro p e s m args below meth c s₁ Bd hml hv
  obtain ⟨rfl, hP, hK, hN⟩ := hv
  have hx := Bd.exec
  have hb := Bd.bytes
  have hr := Bd.returns
  have hts := atoms_spec (ws := wsX5_isServed) Bd.pre
  have hown : s.vm.findClass RX5 = some m.cls := findClass_of_methodNamed Bd.named
  have hlocks := Bd.notSynchronized
  have S : CallFix p m c cX5_isServed 3 s _ wsX5_isServed RX5 := ⟨hx, hb, hml, hown, hts⟩
  have lk_fi46 := hts (.fieldLink RX5 46 "HouseBellsModel" "servants" "I") (List.mem_of_getElem? (i := 1) rfl)
  have in_X5 : ∀ w ∈ wsX50, w ∈ wsX5_isServed := fun _ h => (List.mem_cons_of_mem _ (List.mem_append_right _ h))
  have hl := lv_entry ([.ref (d 0), .int v1]) (n := 3) (Nat.le_of_ble_eq_true rfl)
  rw [lg_entry_eq]
  generalize (lg_sl ([.ref (d 0), .int v1]) ++ List.replicate (3 - (lg_sl ([.ref (d 0), .int v1])).length) Slot.unset).toArray = ls at hl ⊢
  have hl : lv_has ls 3 [(0, .ref (d 0)), (1, .int v1)] := hl
  have lp_2 : ∀ (n : Nat) (u1 : Int32) (u2 : Int32) (ls : Array Slot), lv_has ls 3 [(0, .ref (d 0)), (1, .int u1), (2, .int u2)] → f_X5_isServed_L2 M n u1 u2 = some RR → W p l e (headSpec wsX5_isServed (z_R 1 22)).room s m ([.ref (d 0), .int v1] : List Value).toArray below meth c s.heap [] 0 0 (MQ below (vp_Si (fun z => z = RR)) ([.ref (d 0), .int v1] : List Value).toArray s 0 0 (fun _ => False)) (F0 m 2 ls []) := by
    intro n
    induction n with
    | zero =>
      intro u1 u2 ls hl hf
      cases hf
    | succ n ih =>
      intro u1 u2 ls hl hf
      rw [f_X5_isServed_L2] at hf
      refine lv_iload_n (pc := 2) hx hb dX5_isServed_2 rfl (lv_at hl 2 rfl) ?_
      refine lv_aload_n (pc := 3) hx hb dX5_isServed_3 rfl (lv_at hl 0 rfl) ?_
      refine va_get (pc := 4) (ci := 5) (C := RX5) (T := TX5) (N := 11) hx hb hts in_X5 hown hK hP 0 rfl rfl 2 (by decide) lk_fi46 (fun _ h9 => h9) rfl dX5_isServed_4 ?_
      refine lv_icmp_ge (pc := 7) (tgt := 28) hx hb dX5_isServed_7 (by decide) (fun c_7 => ?_) (fun c_7 => ?_)
      · replace hf := z_ip c_7 hf
        refine lv_iconst (v := 0) (pc := 28) hx hb dX5_isServed_28 (by decide) ?_
        exact W.zret (pc := 29) (v := 0) hx hb hr rfl (fun t ht hW => ⟨_, rfl, (Option.some.inj hf), ht⟩) (fun _ h => nomatch h) dX5_isServed_29
      · replace hf := z_in c_7 hf
        refine lv_aload_n (pc := 10) hx hb dX5_isServed_10 rfl (lv_at hl 0 rfl) ?_
        refine lv_iload_n (pc := 11) hx hb dX5_isServed_11 rfl (lv_at hl 2 rfl) ?_
        refine lv_iconst (v := 2) (pc := 12) hx hb dX5_isServed_12 (by decide) ?_
        obtain ⟨x13, e13, hf⟩ := z_bd hf
        refine z_cpI (pc := 13) S (m_X5_whom l X d M u2 2 e13) (cwV 2 hts gX5_isServed_X5_whom rfl rfl rfl hdX5_whom ⟨Nat.le_of_ble_eq_true rfl, Nat.le_of_ble_eq_true rfl⟩) hP hK hN (s_M_M X d M) (ci := 5) rfl rfl rfl ⟨Nat.le_of_ble_eq_true rfl, Nat.le_of_ble_eq_true rfl⟩ rfl hl.1 rfl (Nat.le_of_ble_eq_true rfl) dX5_isServed_13 ?_
        refine lv_iload_n (pc := 16) hx hb dX5_isServed_16 rfl (lv_at hl 1 rfl) ?_
        refine lv_icmp_ne (pc := 17) (tgt := 22) hx hb dX5_isServed_17 (by decide) (fun c_17 => ?_) (fun c_17 => ?_)
        · replace hf := z_in c_17 hf
          refine lv_iinc (pc := 22) (v := (u2 + 1)) (lv' := [(2, .int (u2 + 1)), (0, .ref (d 0)), (1, .int u1)]) hx hb dX5_isServed_22 hl (k := 2) rfl rfl (by decide) rfl (fun ls hl => ?_)
          refine lv_goto (pc := 25) (tgt := 2) hx hb dX5_isServed_25 (by decide) ?_
          exact ih u1 (u2 + 1) ls (lv_sub hl [1, 2, 0] rfl) hf
        · replace hf := z_ip c_17 hf
          refine lv_iconst (v := 1) (pc := 20) hx hb dX5_isServed_20 (by decide) ?_
          exact W.zret (pc := 21) (v := 1) hx hb hr rfl (fun t ht hW => ⟨_, rfl, (Option.some.inj hf), ht⟩) (fun _ h => nomatch h) dX5_isServed_21
  unfold f_X5_isServed at hf
  refine lv_iconst (v := 0) (pc := 0) hx hb dX5_isServed_0 (by decide) ?_
  refine lv_istore_n (pc := 1) (lv' := [(2, .int 0), (0, .ref (d 0)), (1, .int v1)]) hx hb dX5_isServed_1 rfl hl (by decide) rfl (fun ls hl => ?_)
  exact lp_2 z_FU v1 0 ls (lv_sub hl [1, 2, 0] rfl) hf
def f_X5_untilServed_L6  : Nat → Int32 → Int32 → z_M → Option (Int32 × z_M)
  | 0, _, _, _ => none
  | n + 1, u1, u2, M => (if 60 < u2 then some (u2, M) else (f_X5_isServed M u1).bind (fun x14 => (if x14 = 0 then (f_X5_minuteOn M).bind (fun x21 => f_X5_untilServed_L6 n u1 (u2 + 1) x21) else some (u2, M))))
def f_X5_untilServed (M : z_M) (v1 : Int32) : Option (Int32 × z_M) := (f_X5_keep M).bind (fun x1 => (f_X5_untilServed_L6 z_FU v1 0 x1).bind (fun x6 => (f_X5_bringBack x6.2).bind (fun x31 => (if x6.1 ≤ 60 then some (x6.1, x31) else some ((-1), x31)))))
set_option maxHeartbeats 4000000 in
set_option maxRecDepth 100000 in
theorem m_X5_untilServed (l : Launch) (X : z_X) (d : Nat → Nat) (M : z_M) (v1 : Int32) {RR : (Int32 × z_M)} (hf : f_X5_untilServed M v1 = some RR) : z_mI l yX5_untilServed wsX5_untilServed 5 113 X [.ref (d 0), .int v1] (z_wM X d M) RR.1 (z_wM X d RR.2) := by
  intro sz
  refine Met.ofW (cc := cX5_untilServed) (maxL := 3) (ret := (some .int)) (by decide) rfl ?_
  intro p e s m args below meth c s₁ Bd hml hv
  obtain ⟨rfl, hsz, hP, hK, hN, hD0⟩ := hv
  have hx := Bd.exec
  have hb := Bd.bytes
  have hr := Bd.returns
  have hts := atoms_spec (ws := wsX5_untilServed) Bd.pre
  have hown : s.vm.findClass RX5 = some m.cls := findClass_of_methodNamed Bd.named
  have hlocks := Bd.notSynchronized
  have S : CallFix p m c cX5_untilServed 3 s _ wsX5_untilServed RX5 := ⟨hx, hb, hml, hown, hts⟩
  subst hsz
  have hD := hD0.self (sz := s.heap.size)
  generalize hAe : va_A (z_wM X d M) s.heap.size = A at hD ⊢
  have hA : ∀ q : Nat, s.heap.size ≤ q → A q := fun q h => by rw [← hAe]; exact Or.inr h
  have hS : va_S A s.heap s.heap [] := va_S.rf
  have hl := lv_entry ([.ref (d 0), .int v1]) (n := 3) (Nat.le_of_ble_eq_true rfl)
  rw [lg_entry_eq]
  generalize (lg_sl ([.ref (d 0), .int v1]) ++ List.replicate (3 - (lg_sl ([.ref (d 0), .int v1])).length) Slot.unset).toArray = ls at hl ⊢
  have hl : lv_has ls 3 [(0, .ref (d 0)), (1, .int v1)] := hl
  have lp_6 : ∀ (n : Nat) (u1 : Int32) (u2 : Int32) (M : z_M) (T : (Int32 × z_M)) (H : Heap) (locs : List Loc), va_P X.1 vwCl (z_wM X d M) H → va_D A (z_wM X d M) → va_S A s.heap H locs → ∀ (ls : Array Slot), lv_has ls 3 [(0, .ref (d 0)), (1, .int u1), (2, .int u2)] → f_X5_untilServed_L6 n u1 u2 M = some T → (∀ (H : Heap) (locs : List Loc), va_P X.1 vwCl (z_wM X d T.2) H → va_D A (z_wM X d T.2) → va_S A s.heap H locs → ∀ (ls : Array Slot), lv_has ls 3 [(0, .ref (d 0)), (2, .int T.1)] → W p l e (headSpec wsX5_untilServed (z_R 5 113)).room s m ([.ref (d 0), .int v1] : List Value).toArray below meth c H locs 0 0 (MQ below (va_Qi (fun (z : Int32) (u : va_W) => z = RR.1 ∧ u = (z_wM X d RR.2)) (z_Bm X A) A) ([.ref (d 0), .int v1] : List Value).toArray s 0 0 A) (F0 m 30 ls [])) → W p l e (headSpec wsX5_untilServed (z_R 5 113)).room s m ([.ref (d 0), .int v1] : List Value).toArray below meth c H locs 0 0 (MQ below (va_Qi (fun (z : Int32) (u : va_W) => z = RR.1 ∧ u = (z_wM X d RR.2)) (z_Bm X A) A) ([.ref (d 0), .int v1] : List Value).toArray s 0 0 A) (F0 m 6 ls []) := by
    intro n
    induction n with
    | zero =>
      intro u1 u2 M T H locs hP hD hS ls hl hf kk
      cases hf
    | succ n ih =>
      intro u1 u2 M T H locs hP hD hS ls hl hf kk
      rw [f_X5_untilServed_L6] at hf
      refine lv_iload_n (pc := 6) hx hb dX5_untilServed_6 rfl (lv_at hl 2 rfl) ?_
      refine lv_bipush (v := 60) (pc := 7) hx hb dX5_untilServed_7 (by decide) ?_
      refine lv_icmp_gt (pc := 9) (tgt := 30) hx hb dX5_untilServed_9 (by decide) (fun c_9 => ?_) (fun c_9 => ?_)
      · replace hf := z_ip c_9 hf
        obtain rfl := Option.some.inj hf
        exact kk H locs hP hD hS ls (lv_sub hl [0, 2] rfl)
      · replace hf := z_in c_9 hf
        refine lv_aload_n (pc := 12) hx hb dX5_untilServed_12 rfl (lv_at hl 0 rfl) ?_
        refine lv_iload_n (pc := 13) hx hb dX5_untilServed_13 rfl (lv_at hl 1 rfl) ?_
        obtain ⟨x14, e14, hf⟩ := z_bd hf
        refine z_cpI (pc := 14) S (m_X5_isServed l X d M u1 e14) (cwV 1 hts gX5_untilServed_X5_isServed rfl rfl rfl hdX5_isServed ⟨Nat.le_of_ble_eq_true rfl, Nat.le_of_ble_eq_true rfl⟩) hP hK hN (s_M_M X d M) (ci := 5) rfl rfl rfl ⟨Nat.le_of_ble_eq_true rfl, Nat.le_of_ble_eq_true rfl⟩ rfl hl.1 rfl (Nat.le_of_ble_eq_true rfl) dX5_untilServed_14 ?_
        refine lv_if_ne (pc := 17) (tgt := 30) hx hb dX5_untilServed_17 (by decide) (fun c_17 => ?_) (fun c_17 => ?_)
        · replace hf := z_in c_17 hf
          obtain rfl := Option.some.inj hf
          exact kk H locs hP hD hS ls (lv_sub hl [0, 2] rfl)
        · replace hf := z_ip c_17 hf
          refine lv_aload_n (pc := 20) hx hb dX5_untilServed_20 rfl (lv_at hl 0 rfl) ?_
          obtain ⟨x21, e21, hf⟩ := z_bd hf
          refine z_cmV (pc := 21) (W1 := (z_wM X d x21)) S (m_X5_minuteOn l X d M e21) (cwV 0 hts gX5_untilServed_X5_minuteOn rfl rfl rfl hdX5_minuteOn ⟨Nat.le_of_ble_eq_true rfl, Nat.le_of_ble_eq_true rfl⟩) hP hK hN hD hS hA (s_M_M X d M) (f_M_M X d M x21) (ci := 5) rfl rfl rfl ⟨Nat.le_of_ble_eq_true rfl, Nat.le_of_ble_eq_true rfl⟩ rfl hl.1 rfl (Nat.le_of_ble_eq_true rfl) dX5_untilServed_21 (fun H locs hP hD hS => ?_)
          refine lv_iinc (pc := 24) (v := (u2 + 1)) (lv' := [(2, .int (u2 + 1)), (0, .ref (d 0)), (1, .int u1)]) hx hb dX5_untilServed_24 hl (k := 2) rfl rfl (by decide) rfl (fun ls hl => ?_)
          refine lv_goto (pc := 27) (tgt := 6) hx hb dX5_untilServed_27 (by decide) ?_
          exact ih u1 (u2 + 1) x21 T H locs hP hD hS ls (lv_sub hl [1, 2, 0] rfl) hf kk
  suffices hgo : ∀ (H : Heap) (locs : List Loc), va_P X.1 vwCl (z_wM X d M) H → va_D A (z_wM X d M) → va_S A s.heap H locs → W p l e (headSpec wsX5_untilServed (z_R 5 113)).room s m ([.ref (d 0), .int v1] : List Value).toArray below meth c H locs 0 0 (MQ below (va_Qi (fun (z : Int32) (u : va_W) => z = RR.1 ∧ u = (z_wM X d RR.2)) (z_Bm X A) A) ([.ref (d 0), .int v1] : List Value).toArray s 0 0 A) (F0 m 0 ls []) from hgo _ _ hP hD hS
  clear hP hD hS
  intro H locs hP hD hS
  unfold f_X5_untilServed at hf
  refine lv_aload_n (pc := 0) hx hb dX5_untilServed_0 rfl (lv_at hl 0 rfl) ?_
  obtain ⟨x1, e1, hf⟩ := z_bd hf
  refine z_cmV (pc := 1) (W1 := (z_wM X d x1)) S (m_X5_keep l X d M e1) (cwV 0 hts gX5_untilServed_X5_keep rfl rfl rfl hdX5_keep ⟨Nat.le_of_ble_eq_true rfl, Nat.le_of_ble_eq_true rfl⟩) hP hK hN hD hS hA (s_M_M X d M) (f_M_M X d M x1) (ci := 5) rfl rfl rfl ⟨Nat.le_of_ble_eq_true rfl, Nat.le_of_ble_eq_true rfl⟩ rfl hl.1 rfl (Nat.le_of_ble_eq_true rfl) dX5_untilServed_1 (fun H locs hP hD hS => ?_)
  refine lv_iconst (v := 0) (pc := 4) hx hb dX5_untilServed_4 (by decide) ?_
  refine lv_istore_n (pc := 5) (lv' := [(2, .int 0), (0, .ref (d 0)), (1, .int v1)]) hx hb dX5_untilServed_5 rfl hl (by decide) rfl (fun ls hl => ?_)
  obtain ⟨x6, e6, hf⟩ := z_bd hf
  refine lp_6 z_FU v1 0 x1 x6 H locs hP hD hS ls (lv_sub hl [1, 2, 0] rfl) e6 (fun H locs hP hD hS ls hl => ?_)
  refine lv_aload_n (pc := 30) hx hb dX5_untilServed_30 rfl (lv_at hl 0 rfl) ?_
  obtain ⟨x31, e31, hf⟩ := z_bd hf
  refine z_cmV (pc := 31) (W1 := (z_wM X d x31)) S (m_X5_bringBack l X d x6.2 e31) (cwV 0 hts gX5_untilServed_X5_bringBack rfl rfl rfl hdX5_bringBack ⟨Nat.le_of_ble_eq_true rfl, Nat.le_of_ble_eq_true rfl⟩) hP hK hN hD hS hA (s_M_M X d x6.2) (f_M_M X d x6.2 x31) (ci := 5) rfl rfl rfl ⟨Nat.le_of_ble_eq_true rfl, Nat.le_of_ble_eq_true rfl⟩ rfl hl.1 rfl (Nat.le_of_ble_eq_true rfl) dX5_untilServed_31 (fun H locs hP hD hS => ?_)
  refine lv_iload_n (pc := 34) hx hb dX5_untilServed_34 rfl (lv_at hl 1 rfl) ?_
  refine lv_bipush (v := 60) (pc := 35) hx hb dX5_untilServed_35 (by decide) ?_
  refine lv_icmp_le (pc := 37) (tgt := 44) hx hb dX5_untilServed_37 (by decide) (fun c_37 => ?_) (fun c_37 => ?_)
  · replace hf := z_ip c_37 hf
    refine lv_iload_n (pc := 44) hx hb dX5_untilServed_44 rfl (lv_at hl 1 rfl) ?_
    exact W.iret (pc := 45) (v := x6.1) hx hb hr (fun t ht hW => ⟨⟨_, (z_wM X d x31), rfl, ⟨z_e1 hf, congrArg (fun z => (z_wM X d z)) (z_e2 hf)⟩, by rw [ht]; exact hP, hD⟩, hS.F ht⟩) hS.2.2 dX5_untilServed_45
  · replace hf := z_in c_37 hf
    refine lv_iconst (v := (-1)) (pc := 40) hx hb dX5_untilServed_40 (by decide) ?_
    refine lv_goto (pc := 41) (tgt := 45) hx hb dX5_untilServed_41 (by decide) ?_
    exact W.iret (pc := 45) (v := (-1)) hx hb hr (fun t ht hW => ⟨⟨_, (z_wM X d x31), rfl, ⟨z_e1 hf, congrArg (fun z => (z_wM X d z)) (z_e2 hf)⟩, by rw [ht]; exact hP, hD⟩, hS.F ht⟩) hS.2.2 dX5_untilServed_45
def f_X5_minutesUntilServed (M : z_M) (v1 : Int32) : Option (Int32 × z_M) := (f_X5_isRoom M v1).bind (fun x3 => (f_X5_isKnown M x3).bind (fun x6 => (if x6.1 = 0 then some (0, x6.2) else (f_X5_untilServed x6.2 v1).bind (fun x14 => some (x14.1, x14.2)))))
set_option maxHeartbeats 4000000 in
set_option maxRecDepth 100000 in
theorem m_X5_minutesUntilServed (l : Launch) (X : z_X) (d : Nat → Nat) (M : z_M) (v1 : Int32) {RR : (Int32 × z_M)} (hf : f_X5_minutesUntilServed M v1 = some RR) : z_mI l yX5_minutesUntilServed wsX5_minutesUntilServed 6 135 X [.ref (d 0), .int v1] (z_wM X d M) RR.1 (z_wM X d RR.2) := by
  intro sz
  refine Met.ofW (cc := cX5_minutesUntilServed) (maxL := 2) (ret := (some .int)) (by decide) rfl ?_
  intro p e s m args below meth c s₁ Bd hml hv
  obtain ⟨rfl, hsz, hP, hK, hN, hD0⟩ := hv
  have hx := Bd.exec
  have hb := Bd.bytes
  have hr := Bd.returns
  have hts := atoms_spec (ws := wsX5_minutesUntilServed) Bd.pre
  have hown : s.vm.findClass RX5 = some m.cls := findClass_of_methodNamed Bd.named
  have hlocks := Bd.notSynchronized
  have S : CallFix p m c cX5_minutesUntilServed 2 s _ wsX5_minutesUntilServed RX5 := ⟨hx, hb, hml, hown, hts⟩
  subst hsz
  have hD := hD0.self (sz := s.heap.size)
  generalize hAe : va_A (z_wM X d M) s.heap.size = A at hD ⊢
  have hA : ∀ q : Nat, s.heap.size ≤ q → A q := fun q h => by rw [← hAe]; exact Or.inr h
  have hS : va_S A s.heap s.heap [] := va_S.rf
  have hl := lv_entry ([.ref (d 0), .int v1]) (n := 2) (Nat.le_of_ble_eq_true rfl)
  rw [lg_entry_eq]
  generalize (lg_sl ([.ref (d 0), .int v1]) ++ List.replicate (2 - (lg_sl ([.ref (d 0), .int v1])).length) Slot.unset).toArray = ls at hl ⊢
  have hl : lv_has ls 2 [(0, .ref (d 0)), (1, .int v1)] := hl
  suffices hgo : ∀ (H : Heap) (locs : List Loc), va_P X.1 vwCl (z_wM X d M) H → va_D A (z_wM X d M) → va_S A s.heap H locs → W p l e (headSpec wsX5_minutesUntilServed (z_R 6 135)).room s m ([.ref (d 0), .int v1] : List Value).toArray below meth c H locs 0 0 (MQ below (va_Qi (fun (z : Int32) (u : va_W) => z = RR.1 ∧ u = (z_wM X d RR.2)) (z_Bm X A) A) ([.ref (d 0), .int v1] : List Value).toArray s 0 0 A) (F0 m 0 ls []) from hgo _ _ hP hD hS
  clear hP hD hS
  intro H locs hP hD hS
  unfold f_X5_minutesUntilServed at hf
  refine lv_aload_n (pc := 0) hx hb dX5_minutesUntilServed_0 rfl (lv_at hl 0 rfl) ?_
  refine lv_aload_n (pc := 1) hx hb dX5_minutesUntilServed_1 rfl (lv_at hl 0 rfl) ?_
  refine lv_iload_n (pc := 2) hx hb dX5_minutesUntilServed_2 rfl (lv_at hl 1 rfl) ?_
  obtain ⟨x3, e3, hf⟩ := z_bd hf
  refine z_cpI (pc := 3) S (m_X5_isRoom l X d M v1 e3) (cwV 1 hts gX5_minutesUntilServed_X5_isRoom rfl rfl rfl hdX5_isRoom ⟨Nat.le_of_ble_eq_true rfl, Nat.le_of_ble_eq_true rfl⟩) hP hK hN (s_M_M X d M) (ci := 5) rfl rfl rfl ⟨Nat.le_of_ble_eq_true rfl, Nat.le_of_ble_eq_true rfl⟩ rfl hl.1 rfl (Nat.le_of_ble_eq_true rfl) dX5_minutesUntilServed_3 ?_
  obtain ⟨x6, e6, hf⟩ := z_bd hf
  refine z_cmI (pc := 6) (W1 := (z_wM X d x6.2)) S (m_X5_isKnown l X d M x3 e6) (cwV 1 hts gX5_minutesUntilServed_X5_isKnown rfl rfl rfl hdX5_isKnown ⟨Nat.le_of_ble_eq_true rfl, Nat.le_of_ble_eq_true rfl⟩) hP hK hN hD hS hA (s_M_M X d M) (f_M_M X d M x6.2) (ci := 5) rfl rfl rfl ⟨Nat.le_of_ble_eq_true rfl, Nat.le_of_ble_eq_true rfl⟩ rfl hl.1 rfl (Nat.le_of_ble_eq_true rfl) dX5_minutesUntilServed_6 (fun H locs hP hD hS => ?_)
  refine lv_if_eq (pc := 9) (tgt := 20) hx hb dX5_minutesUntilServed_9 (by decide) (fun c_9 => ?_) (fun c_9 => ?_)
  · replace hf := z_ip c_9 hf
    refine lv_iconst (v := 0) (pc := 20) hx hb dX5_minutesUntilServed_20 (by decide) ?_
    exact W.iret (pc := 21) (v := 0) hx hb hr (fun t ht hW => ⟨⟨_, (z_wM X d x6.2), rfl, ⟨z_e1 hf, congrArg (fun z => (z_wM X d z)) (z_e2 hf)⟩, by rw [ht]; exact hP, hD⟩, hS.F ht⟩) hS.2.2 dX5_minutesUntilServed_21
  · replace hf := z_in c_9 hf
    refine lv_aload_n (pc := 12) hx hb dX5_minutesUntilServed_12 rfl (lv_at hl 0 rfl) ?_
    refine lv_iload_n (pc := 13) hx hb dX5_minutesUntilServed_13 rfl (lv_at hl 1 rfl) ?_
    obtain ⟨x14, e14, hf⟩ := z_bd hf
    refine z_cmI (pc := 14) (W1 := (z_wM X d x14.2)) S (m_X5_untilServed l X d x6.2 v1 e14) (cwV 1 hts gX5_minutesUntilServed_X5_untilServed rfl rfl rfl hdX5_untilServed ⟨Nat.le_of_ble_eq_true rfl, Nat.le_of_ble_eq_true rfl⟩) hP hK hN hD hS hA (s_M_M X d x6.2) (f_M_M X d x6.2 x14.2) (ci := 5) rfl rfl rfl ⟨Nat.le_of_ble_eq_true rfl, Nat.le_of_ble_eq_true rfl⟩ rfl hl.1 rfl (Nat.le_of_ble_eq_true rfl) dX5_minutesUntilServed_14 (fun H locs hP hD hS => ?_)
    refine lv_goto (pc := 17) (tgt := 21) hx hb dX5_minutesUntilServed_17 (by decide) ?_
    exact W.iret (pc := 21) (v := x14.1) hx hb hr (fun t ht hW => ⟨⟨_, (z_wM X d x14.2), rfl, ⟨z_e1 hf, congrArg (fun z => (z_wM X d z)) (z_e2 hf)⟩, by rw [ht]; exact hP, hD⟩, hS.F ht⟩) hS.2.2 dX5_minutesUntilServed_21
def f_X5_soon (M : z_M) (v1 : Int32) : Option (Int32 × z_M) := (f_X5_keep M).bind (fun x1 => (f_X5_minutesOn x1 v1).bind (fun x6 => (z_at (x6.2 6) 2 55).bind (fun x14 => (f_X5_bringBack x6).bind (fun x17 => (z_at (x17.2 6) 2 55).bind (fun x26 => some ((x14 - x26), x17))))))
set_option maxHeartbeats 4000000 in
set_option maxRecDepth 100000 in
theorem m_X5_soon (l : Launch) (X : z_X) (d : Nat → Nat) (M : z_M) (v1 : Int32) {RR : (Int32 × z_M)} (hf : f_X5_soon M v1 = some RR) : z_mI l yX5_soon wsX5_soon 6 135 X [.ref (d 0), .int v1] (z_wM X d M) RR.1 (z_wM X d RR.2) := by
  intro sz
  refine Met.ofW (cc := cX5_soon) (maxL := 3) (ret := (some .int)) (by decide) rfl ?_
  intro p e s m args below meth c s₁ Bd hml hv
  obtain ⟨rfl, hsz, hP, hK, hN, hD0⟩ := hv
  have hx := Bd.exec
  have hb := Bd.bytes
  have hr := Bd.returns
  have hts := atoms_spec (ws := wsX5_soon) Bd.pre
  have hown : s.vm.findClass RX5 = some m.cls := findClass_of_methodNamed Bd.named
  have hlocks := Bd.notSynchronized
  have S : CallFix p m c cX5_soon 3 s _ wsX5_soon RX5 := ⟨hx, hb, hml, hown, hts⟩
  have lk_fi29 := hts (.fieldLink RX5 29 "HouseBellsModel" "now" "[I") (List.mem_of_getElem? (i := 1) rfl)
  have in_X5 : ∀ w ∈ wsX50, w ∈ wsX5_soon := fun _ h => (List.mem_cons_of_mem _ (List.mem_append_right _ h))
  subst hsz
  have hD := hD0.self (sz := s.heap.size)
  generalize hAe : va_A (z_wM X d M) s.heap.size = A at hD ⊢
  have hA : ∀ q : Nat, s.heap.size ≤ q → A q := fun q h => by rw [← hAe]; exact Or.inr h
  have hS : va_S A s.heap s.heap [] := va_S.rf
  have hl := lv_entry ([.ref (d 0), .int v1]) (n := 3) (Nat.le_of_ble_eq_true rfl)
  rw [lg_entry_eq]
  generalize (lg_sl ([.ref (d 0), .int v1]) ++ List.replicate (3 - (lg_sl ([.ref (d 0), .int v1])).length) Slot.unset).toArray = ls at hl ⊢
  have hl : lv_has ls 3 [(0, .ref (d 0)), (1, .int v1)] := hl
  suffices hgo : ∀ (H : Heap) (locs : List Loc), va_P X.1 vwCl (z_wM X d M) H → va_D A (z_wM X d M) → va_S A s.heap H locs → W p l e (headSpec wsX5_soon (z_R 6 135)).room s m ([.ref (d 0), .int v1] : List Value).toArray below meth c H locs 0 0 (MQ below (va_Qi (fun (z : Int32) (u : va_W) => z = RR.1 ∧ u = (z_wM X d RR.2)) (z_Bm X A) A) ([.ref (d 0), .int v1] : List Value).toArray s 0 0 A) (F0 m 0 ls []) from hgo _ _ hP hD hS
  clear hP hD hS
  intro H locs hP hD hS
  unfold f_X5_soon at hf
  refine lv_aload_n (pc := 0) hx hb dX5_soon_0 rfl (lv_at hl 0 rfl) ?_
  obtain ⟨x1, e1, hf⟩ := z_bd hf
  refine z_cmV (pc := 1) (W1 := (z_wM X d x1)) S (m_X5_keep l X d M e1) (cwV 0 hts gX5_soon_X5_keep rfl rfl rfl hdX5_keep ⟨Nat.le_of_ble_eq_true rfl, Nat.le_of_ble_eq_true rfl⟩) hP hK hN hD hS hA (s_M_M X d M) (f_M_M X d M x1) (ci := 5) rfl rfl rfl ⟨Nat.le_of_ble_eq_true rfl, Nat.le_of_ble_eq_true rfl⟩ rfl hl.1 rfl (Nat.le_of_ble_eq_true rfl) dX5_soon_1 (fun H locs hP hD hS => ?_)
  refine lv_aload_n (pc := 4) hx hb dX5_soon_4 rfl (lv_at hl 0 rfl) ?_
  refine lv_iload_n (pc := 5) hx hb dX5_soon_5 rfl (lv_at hl 1 rfl) ?_
  obtain ⟨x6, e6, hf⟩ := z_bd hf
  refine z_cmV (pc := 6) (W1 := (z_wM X d x6)) S (m_X5_minutesOn l X d x1 v1 e6) (cwV 1 hts gX5_soon_X5_minutesOn rfl rfl rfl hdX5_minutesOn ⟨Nat.le_of_ble_eq_true rfl, Nat.le_of_ble_eq_true rfl⟩) hP hK hN hD hS hA (s_M_M X d x1) (f_M_M X d x1 x6) (ci := 5) rfl rfl rfl ⟨Nat.le_of_ble_eq_true rfl, Nat.le_of_ble_eq_true rfl⟩ rfl hl.1 rfl (Nat.le_of_ble_eq_true rfl) dX5_soon_6 (fun H locs hP hD hS => ?_)
  refine lv_aload_n (pc := 9) hx hb dX5_soon_9 rfl (lv_at hl 0 rfl) ?_
  refine va_get (pc := 10) (ci := 5) (C := RX5) (T := TX5) (N := 11) hx hb hts in_X5 hown hK hP 0 rfl rfl 9 (by decide) lk_fi29 (fun _ h9 => h9) rfl dX5_soon_10 ?_
  refine lv_iconst (v := 2) (pc := 13) hx hb dX5_soon_13 (by decide) ?_
  obtain ⟨x14, e14, hf⟩ := z_bd hf
  refine z_iald (pc := 14) hx hb hK hP 7 0 rfl rfl e14 dX5_soon_14 ?_
  refine lv_istore_n (pc := 15) (lv' := [(2, .int x14), (0, .ref (d 0)), (1, .int v1)]) hx hb dX5_soon_15 rfl hl (by decide) rfl (fun ls hl => ?_)
  refine lv_aload_n (pc := 16) hx hb dX5_soon_16 rfl (lv_at hl 1 rfl) ?_
  obtain ⟨x17, e17, hf⟩ := z_bd hf
  refine z_cmV (pc := 17) (W1 := (z_wM X d x17)) S (m_X5_bringBack l X d x6 e17) (cwV 0 hts gX5_soon_X5_bringBack rfl rfl rfl hdX5_bringBack ⟨Nat.le_of_ble_eq_true rfl, Nat.le_of_ble_eq_true rfl⟩) hP hK hN hD hS hA (s_M_M X d x6) (f_M_M X d x6 x17) (ci := 5) rfl rfl rfl ⟨Nat.le_of_ble_eq_true rfl, Nat.le_of_ble_eq_true rfl⟩ rfl hl.1 rfl (Nat.le_of_ble_eq_true rfl) dX5_soon_17 (fun H locs hP hD hS => ?_)
  refine lv_iload_n (pc := 20) hx hb dX5_soon_20 rfl (lv_at hl 0 rfl) ?_
  refine lv_aload_n (pc := 21) hx hb dX5_soon_21 rfl (lv_at hl 1 rfl) ?_
  refine va_get (pc := 22) (ci := 5) (C := RX5) (T := TX5) (N := 11) hx hb hts in_X5 hown hK hP 0 rfl rfl 9 (by decide) lk_fi29 (fun _ h9 => h9) rfl dX5_soon_22 ?_
  refine lv_iconst (v := 2) (pc := 25) hx hb dX5_soon_25 (by decide) ?_
  obtain ⟨x26, e26, hf⟩ := z_bd hf
  refine z_iald (pc := 26) hx hb hK hP 7 0 rfl rfl e26 dX5_soon_26 ?_
  refine lv_isub (pc := 27) hx hb dX5_soon_27 ?_
  exact W.iret (pc := 28) (v := (x14 - x26)) hx hb hr (fun t ht hW => ⟨⟨_, (z_wM X d x17), rfl, ⟨z_e1 hf, congrArg (fun z => (z_wM X d z)) (z_e2 hf)⟩, by rw [ht]; exact hP, hD⟩, hS.F ht⟩) hS.2.2 dX5_soon_28
def f_X5_servedIn (M : z_M) (v1 : Int32) : Option (Int32 × z_M) := (if (f_X5_isIn v1 1 60) = 0 then some ((f_X5_no (z_mS M 0 0) 1).1, (f_X5_no (z_mS M 0 0) 1).2) else (f_X5_soon (z_mS M 0 0) v1).bind (fun x17 => some (x17.1, x17.2)))
set_option maxHeartbeats 4000000 in
set_option maxRecDepth 100000 in
theorem m_X5_servedIn (l : Launch) (X : z_X) (d : Nat → Nat) (M : z_M) (v1 : Int32) {RR : (Int32 × z_M)} (hf : f_X5_servedIn M v1 = some RR) : z_mI l yX5_servedIn wsX5_servedIn 7 157 X [.ref (d 0), .int v1] (z_wM X d M) RR.1 (z_wM X d RR.2) := by
  intro sz
  refine Met.ofW (cc := cX5_servedIn) (maxL := 2) (ret := (some .int)) (by decide) rfl ?_
  intro p e s m args below meth c s₁ Bd hml hv
  obtain ⟨rfl, hsz, hP, hK, hN, hD0⟩ := hv
  have hx := Bd.exec
  have hb := Bd.bytes
  have hr := Bd.returns
  have hts := atoms_spec (ws := wsX5_servedIn) Bd.pre
  have hown : s.vm.findClass RX5 = some m.cls := findClass_of_methodNamed Bd.named
  have hlocks := Bd.notSynchronized
  have S : CallFix p m c cX5_servedIn 2 s _ wsX5_servedIn RX5 := ⟨hx, hb, hml, hown, hts⟩
  have lk_fi35 := hts (.fieldLink RX5 35 "HouseBellsModel" "thrown" "I") (List.mem_of_getElem? (i := 1) rfl)
  have in_X5 : ∀ w ∈ wsX50, w ∈ wsX5_servedIn := fun _ h => (List.mem_cons_of_mem _ (List.mem_append_right _ h))
  subst hsz
  have hD := hD0.self (sz := s.heap.size)
  generalize hAe : va_A (z_wM X d M) s.heap.size = A at hD ⊢
  have hA : ∀ q : Nat, s.heap.size ≤ q → A q := fun q h => by rw [← hAe]; exact Or.inr h
  have hS : va_S A s.heap s.heap [] := va_S.rf
  have hl := lv_entry ([.ref (d 0), .int v1]) (n := 2) (Nat.le_of_ble_eq_true rfl)
  rw [lg_entry_eq]
  generalize (lg_sl ([.ref (d 0), .int v1]) ++ List.replicate (2 - (lg_sl ([.ref (d 0), .int v1])).length) Slot.unset).toArray = ls at hl ⊢
  have hl : lv_has ls 2 [(0, .ref (d 0)), (1, .int v1)] := hl
  suffices hgo : ∀ (H : Heap) (locs : List Loc), va_P X.1 vwCl (z_wM X d M) H → va_D A (z_wM X d M) → va_S A s.heap H locs → W p l e (headSpec wsX5_servedIn (z_R 7 157)).room s m ([.ref (d 0), .int v1] : List Value).toArray below meth c H locs 0 0 (MQ below (va_Qi (fun (z : Int32) (u : va_W) => z = RR.1 ∧ u = (z_wM X d RR.2)) (z_Bm X A) A) ([.ref (d 0), .int v1] : List Value).toArray s 0 0 A) (F0 m 0 ls []) from hgo _ _ hP hD hS
  clear hP hD hS
  intro H locs hP hD hS
  unfold f_X5_servedIn at hf
  refine lv_aload_n (pc := 0) hx hb dX5_servedIn_0 rfl (lv_at hl 0 rfl) ?_
  refine lv_iconst (v := 0) (pc := 1) hx hb dX5_servedIn_1 (by decide) ?_
  refine z_put (pc := 2) (ci := 5) (C := RX5) (T := TX5) (N := 11) (W1 := (z_wM X d (z_mS M 0 0))) hx hb hts in_X5 tyX5 tyX5_ok nmX5 hown hK hP hD hS 0 rfl rfl 0 (by decide) lk_fi35 (fun _ h9 => h9) rfl (by decide +kernel) (Nat.le_of_ble_eq_true rfl) dX5_servedIn_2 rfl (fun H locs hP hD hS => ?_)
  refine lv_iload_n (pc := 5) hx hb dX5_servedIn_5 rfl (lv_at hl 1 rfl) ?_
  refine lv_iconst (v := 1) (pc := 6) hx hb dX5_servedIn_6 (by decide) ?_
  refine lv_bipush (v := 60) (pc := 7) hx hb dX5_servedIn_7 (by decide) ?_
  refine z_csI (pc := 9) S (m_X5_isIn l X v1 1 60 rfl) (va_cwS 3 hts gX5_servedIn_X5_isIn rfl rfl rfl hdX5_isIn ⟨Nat.le_of_ble_eq_true rfl, Nat.le_of_ble_eq_true rfl⟩) hP hK hN (s_nil _) ⟨Nat.le_of_ble_eq_true rfl, Nat.le_of_ble_eq_true rfl⟩ rfl hl.1 rfl (Nat.le_of_ble_eq_true rfl) dX5_servedIn_9 ?_
  refine lv_if_eq (pc := 12) (tgt := 23) hx hb dX5_servedIn_12 (by decide) (fun c_12 => ?_) (fun c_12 => ?_)
  · replace hf := z_ip c_12 hf
    refine lv_aload_n (pc := 23) hx hb dX5_servedIn_23 rfl (lv_at hl 0 rfl) ?_
    refine lv_iconst (v := 1) (pc := 24) hx hb dX5_servedIn_24 (by decide) ?_
    refine z_cmI (pc := 25) (W1 := (z_wM X d (f_X5_no (z_mS M 0 0) 1).2)) S (m_X5_no l X d (z_mS M 0 0) 1 rfl) (cwV 1 hts gX5_servedIn_X5_no rfl rfl rfl hdX5_no ⟨Nat.le_of_ble_eq_true rfl, Nat.le_of_ble_eq_true rfl⟩) hP hK hN hD hS hA (s_M_M X d (z_mS M 0 0)) (f_M_M X d (z_mS M 0 0) ((f_X5_no (z_mS M 0 0) 1).2)) (ci := 5) rfl rfl rfl ⟨Nat.le_of_ble_eq_true rfl, Nat.le_of_ble_eq_true rfl⟩ rfl hl.1 rfl (Nat.le_of_ble_eq_true rfl) dX5_servedIn_25 (fun H locs hP hD hS => ?_)
    exact W.iret (pc := 28) (v := (f_X5_no (z_mS M 0 0) 1).1) hx hb hr (fun t ht hW => ⟨⟨_, (z_wM X d (f_X5_no (z_mS M 0 0) 1).2), rfl, ⟨z_e1 hf, congrArg (fun z => (z_wM X d z)) (z_e2 hf)⟩, by rw [ht]; exact hP, hD⟩, hS.F ht⟩) hS.2.2 dX5_servedIn_28
  · replace hf := z_in c_12 hf
    refine lv_aload_n (pc := 15) hx hb dX5_servedIn_15 rfl (lv_at hl 0 rfl) ?_
    refine lv_iload_n (pc := 16) hx hb dX5_servedIn_16 rfl (lv_at hl 1 rfl) ?_
    obtain ⟨x17, e17, hf⟩ := z_bd hf
    refine z_cmI (pc := 17) (W1 := (z_wM X d x17.2)) S (m_X5_soon l X d (z_mS M 0 0) v1 e17) (cwV 1 hts gX5_servedIn_X5_soon rfl rfl rfl hdX5_soon ⟨Nat.le_of_ble_eq_true rfl, Nat.le_of_ble_eq_true rfl⟩) hP hK hN hD hS hA (s_M_M X d (z_mS M 0 0)) (f_M_M X d (z_mS M 0 0) x17.2) (ci := 5) rfl rfl rfl ⟨Nat.le_of_ble_eq_true rfl, Nat.le_of_ble_eq_true rfl⟩ rfl hl.1 rfl (Nat.le_of_ble_eq_true rfl) dX5_servedIn_17 (fun H locs hP hD hS => ?_)
    refine lv_goto (pc := 20) (tgt := 28) hx hb dX5_servedIn_20 (by decide) ?_
    exact W.iret (pc := 28) (v := x17.1) hx hb hr (fun t ht hW => ⟨⟨_, (z_wM X d x17.2), rfl, ⟨z_e1 hf, congrArg (fun z => (z_wM X d z)) (z_e2 hf)⟩, by rw [ht]; exact hP, hD⟩, hS.F ht⟩) hS.2.2 dX5_servedIn_28
def f_X5_best_L12  : Nat → Int32 → Int32 → Int32 → Int32 → z_M → Option (Int32 × z_M)
  | 0, _, _, _, _, _ => none
  | n + 1, u1, u2, u3, u4, M => (if (M.1 1) ≤ u4 then some (u2, M) else (if u4 = u1 then f_X5_best_L12 n u1 u2 u3 (u4 + 1) M else (f_X5_swap M u1 u4).bind (fun x34 => (f_X5_soon x34 40).bind (fun x40 => (f_X5_swap x40.2 u1 u4).bind (fun x49 => (if u3 < x40.1 then f_X5_best_L12 n u1 u4 x40.1 (u4 + 1) x49 else f_X5_best_L12 n u1 u2 u3 (u4 + 1) x49))))))
def f_X5_best (M : z_M) (v1 : Int32) : Option (Int32 × z_M) := (f_X5_soon M 40).bind (fun x5 => (f_X5_best_L12 z_FU v1 (-1) x5.1 0 x5.2).bind (fun x12 => some (x12.1, x12.2)))
set_option maxHeartbeats 4000000 in
set_option maxRecDepth 100000 in
theorem m_X5_best (l : Launch) (X : z_X) (d : Nat → Nat) (M : z_M) (v1 : Int32) {RR : (Int32 × z_M)} (hf : f_X5_best M v1 = some RR) : z_mI l yX5_best wsX5_best 7 157 X [.ref (d 0), .int v1] (z_wM X d M) RR.1 (z_wM X d RR.2) := by
  intro sz
  refine Met.ofW (cc := cX5_best) (maxL := 6) (ret := (some .int)) (by decide) rfl ?_
  intro p e s m args below meth c s₁ Bd hml hv
  obtain ⟨rfl, hsz, hP, hK, hN, hD0⟩ := hv
  have hx := Bd.exec
  have hb := Bd.bytes
  have hr := Bd.returns
  have hts := atoms_spec (ws := wsX5_best) Bd.pre
  have hown : s.vm.findClass RX5 = some m.cls := findClass_of_methodNamed Bd.named
  have hlocks := Bd.notSynchronized
  have S : CallFix p m c cX5_best 6 s _ wsX5_best RX5 := ⟨hx, hb, hml, hown, hts⟩
  have lk_fi39 := hts (.fieldLink RX5 39 "HouseBellsModel" "rooms" "I") (List.mem_of_getElem? (i := 1) rfl)
  have in_X5 : ∀ w ∈ wsX50, w ∈ wsX5_best := fun _ h => (List.mem_cons_of_mem _ (List.mem_append_right _ h))
  subst hsz
  have hD := hD0.self (sz := s.heap.size)
  generalize hAe : va_A (z_wM X d M) s.heap.size = A at hD ⊢
  have hA : ∀ q : Nat, s.heap.size ≤ q → A q := fun q h => by rw [← hAe]; exact Or.inr h
  have hS : va_S A s.heap s.heap [] := va_S.rf
  have hl := lv_entry ([.ref (d 0), .int v1]) (n := 6) (Nat.le_of_ble_eq_true rfl)
  rw [lg_entry_eq]
  generalize (lg_sl ([.ref (d 0), .int v1]) ++ List.replicate (6 - (lg_sl ([.ref (d 0), .int v1])).length) Slot.unset).toArray = ls at hl ⊢
  have hl : lv_has ls 6 [(0, .ref (d 0)), (1, .int v1)] := hl
  have lp_12 : ∀ (n : Nat) (u1 : Int32) (u2 : Int32) (u3 : Int32) (u4 : Int32) (M : z_M) (T : (Int32 × z_M)) (H : Heap) (locs : List Loc), va_P X.1 vwCl (z_wM X d M) H → va_D A (z_wM X d M) → va_S A s.heap H locs → ∀ (ls : Array Slot), lv_has ls 6 [(0, .ref (d 0)), (1, .int u1), (2, .int u2), (3, .int u3), (4, .int u4)] → f_X5_best_L12 n u1 u2 u3 u4 M = some T → (∀ (H : Heap) (locs : List Loc), va_P X.1 vwCl (z_wM X d T.2) H → va_D A (z_wM X d T.2) → va_S A s.heap H locs → ∀ (ls : Array Slot), lv_has ls 6 [(2, .int T.1)] → W p l e (headSpec wsX5_best (z_R 7 157)).room s m ([.ref (d 0), .int v1] : List Value).toArray below meth c H locs 0 0 (MQ below (va_Qi (fun (z : Int32) (u : va_W) => z = RR.1 ∧ u = (z_wM X d RR.2)) (z_Bm X A) A) ([.ref (d 0), .int v1] : List Value).toArray s 0 0 A) (F0 m 73 ls [])) → W p l e (headSpec wsX5_best (z_R 7 157)).room s m ([.ref (d 0), .int v1] : List Value).toArray below meth c H locs 0 0 (MQ below (va_Qi (fun (z : Int32) (u : va_W) => z = RR.1 ∧ u = (z_wM X d RR.2)) (z_Bm X A) A) ([.ref (d 0), .int v1] : List Value).toArray s 0 0 A) (F0 m 12 ls []) := by
    intro n
    induction n with
    | zero =>
      intro u1 u2 u3 u4 M T H locs hP hD hS ls hl hf kk
      cases hf
    | succ n ih =>
      intro u1 u2 u3 u4 M T H locs hP hD hS ls hl hf kk
      rw [f_X5_best_L12] at hf
      refine lv_iload (pc := 12) hx hb dX5_best_12 (lv_at hl 4 rfl) ?_
      refine lv_aload_n (pc := 14) hx hb dX5_best_14 rfl (lv_at hl 0 rfl) ?_
      refine va_get (pc := 15) (ci := 5) (C := RX5) (T := TX5) (N := 11) hx hb hts in_X5 hown hK hP 0 rfl rfl 1 (by decide) lk_fi39 (fun _ h9 => h9) rfl dX5_best_15 ?_
      refine lv_icmp_ge (pc := 18) (tgt := 73) hx hb dX5_best_18 (by decide) (fun c_18 => ?_) (fun c_18 => ?_)
      · replace hf := z_ip c_18 hf
        obtain rfl := Option.some.inj hf
        exact kk H locs hP hD hS ls (lv_sub hl [2] rfl)
      · replace hf := z_in c_18 hf
        refine lv_iload (pc := 21) hx hb dX5_best_21 (lv_at hl 4 rfl) ?_
        refine lv_iload_n (pc := 23) hx hb dX5_best_23 rfl (lv_at hl 1 rfl) ?_
        refine lv_icmp_ne (pc := 24) (tgt := 30) hx hb dX5_best_24 (by decide) (fun c_24 => ?_) (fun c_24 => ?_)
        · replace hf := z_in c_24 hf
          refine lv_aload_n (pc := 30) hx hb dX5_best_30 rfl (lv_at hl 0 rfl) ?_
          refine lv_iload_n (pc := 31) hx hb dX5_best_31 rfl (lv_at hl 1 rfl) ?_
          refine lv_iload (pc := 32) hx hb dX5_best_32 (lv_at hl 4 rfl) ?_
          obtain ⟨x34, e34, hf⟩ := z_bd hf
          refine z_cmV (pc := 34) (W1 := (z_wM X d x34)) S (m_X5_swap l X d M u1 u4 e34) (cwV 2 hts gX5_best_X5_swap rfl rfl rfl hdX5_swap ⟨Nat.le_of_ble_eq_true rfl, Nat.le_of_ble_eq_true rfl⟩) hP hK hN hD hS hA (s_M_M X d M) (f_M_M X d M x34) (ci := 5) rfl rfl rfl ⟨Nat.le_of_ble_eq_true rfl, Nat.le_of_ble_eq_true rfl⟩ rfl hl.1 rfl (Nat.le_of_ble_eq_true rfl) dX5_best_34 (fun H locs hP hD hS => ?_)
          refine lv_aload_n (pc := 37) hx hb dX5_best_37 rfl (lv_at hl 0 rfl) ?_
          refine lv_bipush (v := 40) (pc := 38) hx hb dX5_best_38 (by decide) ?_
          obtain ⟨x40, e40, hf⟩ := z_bd hf
          refine z_cmI (pc := 40) (W1 := (z_wM X d x40.2)) S (m_X5_soon l X d x34 40 e40) (cwV 1 hts gX5_best_X5_soon rfl rfl rfl hdX5_soon ⟨Nat.le_of_ble_eq_true rfl, Nat.le_of_ble_eq_true rfl⟩) hP hK hN hD hS hA (s_M_M X d x34) (f_M_M X d x34 x40.2) (ci := 5) rfl rfl rfl ⟨Nat.le_of_ble_eq_true rfl, Nat.le_of_ble_eq_true rfl⟩ rfl hl.1 rfl (Nat.le_of_ble_eq_true rfl) dX5_best_40 (fun H locs hP hD hS => ?_)
          refine lv_istore (pc := 43) (lv' := [(5, .int x40.1), (0, .ref (d 0)), (1, .int u1), (2, .int u2), (3, .int u3), (4, .int u4)]) hx hb dX5_best_43 hl (by decide) rfl (fun ls hl => ?_)
          refine lv_aload_n (pc := 45) hx hb dX5_best_45 rfl (lv_at hl 1 rfl) ?_
          refine lv_iload_n (pc := 46) hx hb dX5_best_46 rfl (lv_at hl 2 rfl) ?_
          refine lv_iload (pc := 47) hx hb dX5_best_47 (lv_at hl 5 rfl) ?_
          obtain ⟨x49, e49, hf⟩ := z_bd hf
          refine z_cmV (pc := 49) (W1 := (z_wM X d x49)) S (m_X5_swap l X d x40.2 u1 u4 e49) (cwV 2 hts gX5_best_X5_swap rfl rfl rfl hdX5_swap ⟨Nat.le_of_ble_eq_true rfl, Nat.le_of_ble_eq_true rfl⟩) hP hK hN hD hS hA (s_M_M X d x40.2) (f_M_M X d x40.2 x49) (ci := 5) rfl rfl rfl ⟨Nat.le_of_ble_eq_true rfl, Nat.le_of_ble_eq_true rfl⟩ rfl hl.1 rfl (Nat.le_of_ble_eq_true rfl) dX5_best_49 (fun H locs hP hD hS => ?_)
          refine lv_iload (pc := 52) hx hb dX5_best_52 (lv_at hl 0 rfl) ?_
          refine lv_iload_n (pc := 54) hx hb dX5_best_54 rfl (lv_at hl 4 rfl) ?_
          refine lv_icmp_gt (pc := 55) (tgt := 61) hx hb dX5_best_55 (by decide) (fun c_55 => ?_) (fun c_55 => ?_)
          · replace hf := z_ip c_55 hf
            refine lv_iload (pc := 61) hx hb dX5_best_61 (lv_at hl 5 rfl) ?_
            refine lv_istore_n (pc := 63) (lv' := [(2, .int u4), (5, .int x40.1), (0, .ref (d 0)), (1, .int u1), (3, .int u3), (4, .int u4)]) hx hb dX5_best_63 rfl hl (by decide) rfl (fun ls hl => ?_)
            refine lv_iload (pc := 64) hx hb dX5_best_64 (lv_at hl 1 rfl) ?_
            refine lv_istore_n (pc := 66) (lv' := [(3, .int x40.1), (2, .int u4), (5, .int x40.1), (0, .ref (d 0)), (1, .int u1), (4, .int u4)]) hx hb dX5_best_66 rfl hl (by decide) rfl (fun ls hl => ?_)
            refine lv_iinc (pc := 67) (v := (u4 + 1)) (lv' := [(4, .int (u4 + 1)), (3, .int x40.1), (2, .int u4), (5, .int x40.1), (0, .ref (d 0)), (1, .int u1)]) hx hb dX5_best_67 hl (k := 5) rfl rfl (by decide) rfl (fun ls hl => ?_)
            refine lv_goto (pc := 70) (tgt := 12) hx hb dX5_best_70 (by decide) ?_
            exact ih u1 u4 x40.1 (u4 + 1) x49 T H locs hP hD hS ls (lv_sub hl [4, 5, 2, 1, 0] rfl) hf kk
          · replace hf := z_in c_55 hf
            refine lv_goto (pc := 58) (tgt := 67) hx hb dX5_best_58 (by decide) ?_
            refine lv_iinc (pc := 67) (v := (u4 + 1)) (lv' := [(4, .int (u4 + 1)), (5, .int x40.1), (0, .ref (d 0)), (1, .int u1), (2, .int u2), (3, .int u3)]) hx hb dX5_best_67 hl (k := 5) rfl rfl (by decide) rfl (fun ls hl => ?_)
            refine lv_goto (pc := 70) (tgt := 12) hx hb dX5_best_70 (by decide) ?_
            exact ih u1 u2 u3 (u4 + 1) x49 T H locs hP hD hS ls (lv_sub hl [2, 3, 4, 5, 0] rfl) hf kk
        · replace hf := z_ip c_24 hf
          refine lv_goto (pc := 27) (tgt := 67) hx hb dX5_best_27 (by decide) ?_
          refine lv_iinc (pc := 67) (v := (u4 + 1)) (lv' := [(4, .int (u4 + 1)), (0, .ref (d 0)), (1, .int u1), (2, .int u2), (3, .int u3)]) hx hb dX5_best_67 hl (k := 4) rfl rfl (by decide) rfl (fun ls hl => ?_)
          refine lv_goto (pc := 70) (tgt := 12) hx hb dX5_best_70 (by decide) ?_
          exact ih u1 u2 u3 (u4 + 1) M T H locs hP hD hS ls (lv_sub hl [1, 2, 3, 4, 0] rfl) hf kk
  suffices hgo : ∀ (H : Heap) (locs : List Loc), va_P X.1 vwCl (z_wM X d M) H → va_D A (z_wM X d M) → va_S A s.heap H locs → W p l e (headSpec wsX5_best (z_R 7 157)).room s m ([.ref (d 0), .int v1] : List Value).toArray below meth c H locs 0 0 (MQ below (va_Qi (fun (z : Int32) (u : va_W) => z = RR.1 ∧ u = (z_wM X d RR.2)) (z_Bm X A) A) ([.ref (d 0), .int v1] : List Value).toArray s 0 0 A) (F0 m 0 ls []) from hgo _ _ hP hD hS
  clear hP hD hS
  intro H locs hP hD hS
  unfold f_X5_best at hf
  refine lv_iconst (v := (-1)) (pc := 0) hx hb dX5_best_0 (by decide) ?_
  refine lv_istore_n (pc := 1) (lv' := [(2, .int (-1)), (0, .ref (d 0)), (1, .int v1)]) hx hb dX5_best_1 rfl hl (by decide) rfl (fun ls hl => ?_)
  refine lv_aload_n (pc := 2) hx hb dX5_best_2 rfl (lv_at hl 1 rfl) ?_
  refine lv_bipush (v := 40) (pc := 3) hx hb dX5_best_3 (by decide) ?_
  obtain ⟨x5, e5, hf⟩ := z_bd hf
  refine z_cmI (pc := 5) (W1 := (z_wM X d x5.2)) S (m_X5_soon l X d M 40 e5) (cwV 1 hts gX5_best_X5_soon rfl rfl rfl hdX5_soon ⟨Nat.le_of_ble_eq_true rfl, Nat.le_of_ble_eq_true rfl⟩) hP hK hN hD hS hA (s_M_M X d M) (f_M_M X d M x5.2) (ci := 5) rfl rfl rfl ⟨Nat.le_of_ble_eq_true rfl, Nat.le_of_ble_eq_true rfl⟩ rfl hl.1 rfl (Nat.le_of_ble_eq_true rfl) dX5_best_5 (fun H locs hP hD hS => ?_)
  refine lv_istore_n (pc := 8) (lv' := [(3, .int x5.1), (2, .int (-1)), (0, .ref (d 0)), (1, .int v1)]) hx hb dX5_best_8 rfl hl (by decide) rfl (fun ls hl => ?_)
  refine lv_iconst (v := 0) (pc := 9) hx hb dX5_best_9 (by decide) ?_
  refine lv_istore (pc := 10) (lv' := [(4, .int 0), (3, .int x5.1), (2, .int (-1)), (0, .ref (d 0)), (1, .int v1)]) hx hb dX5_best_10 hl (by decide) rfl (fun ls hl => ?_)
  obtain ⟨x12, e12, hf⟩ := z_bd hf
  refine lp_12 z_FU v1 (-1) x5.1 0 x5.2 x12 H locs hP hD hS ls (lv_sub hl [3, 4, 2, 1, 0] rfl) e12 (fun H locs hP hD hS ls hl => ?_)
  refine lv_iload_n (pc := 73) hx hb dX5_best_73 rfl (lv_at hl 0 rfl) ?_
  exact W.iret (pc := 74) (v := x12.1) hx hb hr (fun t ht hW => ⟨⟨_, (z_wM X d x12.2), rfl, ⟨z_e1 hf, congrArg (fun z => (z_wM X d z)) (z_e2 hf)⟩, by rw [ht]; exact hP, hD⟩, hS.F ht⟩) hS.2.2 dX5_best_74
def f_X5_bestToCross (M : z_M) (v1 : Int32) : Option (Int32 × z_M) := (f_X5_isRoom M v1).bind (fun x3 => (f_X5_isKnown M x3).bind (fun x6 => (if x6.1 = 0 then some (0, x6.2) else (f_X5_best x6.2 v1).bind (fun x14 => some (x14.1, x14.2)))))
set_option maxHeartbeats 4000000 in
set_option maxRecDepth 100000 in
theorem m_X5_bestToCross (l : Launch) (X : z_X) (d : Nat → Nat) (M : z_M) (v1 : Int32) {RR : (Int32 × z_M)} (hf : f_X5_bestToCross M v1 = some RR) : z_mI l yX5_bestToCross wsX5_bestToCross 8 182 X [.ref (d 0), .int v1] (z_wM X d M) RR.1 (z_wM X d RR.2) := by
  intro sz
  refine Met.ofW (cc := cX5_bestToCross) (maxL := 2) (ret := (some .int)) (by decide) rfl ?_
  intro p e s m args below meth c s₁ Bd hml hv
  obtain ⟨rfl, hsz, hP, hK, hN, hD0⟩ := hv
  have hx := Bd.exec
  have hb := Bd.bytes
  have hr := Bd.returns
  have hts := atoms_spec (ws := wsX5_bestToCross) Bd.pre
  have hown : s.vm.findClass RX5 = some m.cls := findClass_of_methodNamed Bd.named
  have hlocks := Bd.notSynchronized
  have S : CallFix p m c cX5_bestToCross 2 s _ wsX5_bestToCross RX5 := ⟨hx, hb, hml, hown, hts⟩
  subst hsz
  have hD := hD0.self (sz := s.heap.size)
  generalize hAe : va_A (z_wM X d M) s.heap.size = A at hD ⊢
  have hA : ∀ q : Nat, s.heap.size ≤ q → A q := fun q h => by rw [← hAe]; exact Or.inr h
  have hS : va_S A s.heap s.heap [] := va_S.rf
  have hl := lv_entry ([.ref (d 0), .int v1]) (n := 2) (Nat.le_of_ble_eq_true rfl)
  rw [lg_entry_eq]
  generalize (lg_sl ([.ref (d 0), .int v1]) ++ List.replicate (2 - (lg_sl ([.ref (d 0), .int v1])).length) Slot.unset).toArray = ls at hl ⊢
  have hl : lv_has ls 2 [(0, .ref (d 0)), (1, .int v1)] := hl
  suffices hgo : ∀ (H : Heap) (locs : List Loc), va_P X.1 vwCl (z_wM X d M) H → va_D A (z_wM X d M) → va_S A s.heap H locs → W p l e (headSpec wsX5_bestToCross (z_R 8 182)).room s m ([.ref (d 0), .int v1] : List Value).toArray below meth c H locs 0 0 (MQ below (va_Qi (fun (z : Int32) (u : va_W) => z = RR.1 ∧ u = (z_wM X d RR.2)) (z_Bm X A) A) ([.ref (d 0), .int v1] : List Value).toArray s 0 0 A) (F0 m 0 ls []) from hgo _ _ hP hD hS
  clear hP hD hS
  intro H locs hP hD hS
  unfold f_X5_bestToCross at hf
  refine lv_aload_n (pc := 0) hx hb dX5_bestToCross_0 rfl (lv_at hl 0 rfl) ?_
  refine lv_aload_n (pc := 1) hx hb dX5_bestToCross_1 rfl (lv_at hl 0 rfl) ?_
  refine lv_iload_n (pc := 2) hx hb dX5_bestToCross_2 rfl (lv_at hl 1 rfl) ?_
  obtain ⟨x3, e3, hf⟩ := z_bd hf
  refine z_cpI (pc := 3) S (m_X5_isRoom l X d M v1 e3) (cwV 1 hts gX5_bestToCross_X5_isRoom rfl rfl rfl hdX5_isRoom ⟨Nat.le_of_ble_eq_true rfl, Nat.le_of_ble_eq_true rfl⟩) hP hK hN (s_M_M X d M) (ci := 5) rfl rfl rfl ⟨Nat.le_of_ble_eq_true rfl, Nat.le_of_ble_eq_true rfl⟩ rfl hl.1 rfl (Nat.le_of_ble_eq_true rfl) dX5_bestToCross_3 ?_
  obtain ⟨x6, e6, hf⟩ := z_bd hf
  refine z_cmI (pc := 6) (W1 := (z_wM X d x6.2)) S (m_X5_isKnown l X d M x3 e6) (cwV 1 hts gX5_bestToCross_X5_isKnown rfl rfl rfl hdX5_isKnown ⟨Nat.le_of_ble_eq_true rfl, Nat.le_of_ble_eq_true rfl⟩) hP hK hN hD hS hA (s_M_M X d M) (f_M_M X d M x6.2) (ci := 5) rfl rfl rfl ⟨Nat.le_of_ble_eq_true rfl, Nat.le_of_ble_eq_true rfl⟩ rfl hl.1 rfl (Nat.le_of_ble_eq_true rfl) dX5_bestToCross_6 (fun H locs hP hD hS => ?_)
  refine lv_if_eq (pc := 9) (tgt := 20) hx hb dX5_bestToCross_9 (by decide) (fun c_9 => ?_) (fun c_9 => ?_)
  · replace hf := z_ip c_9 hf
    refine lv_iconst (v := 0) (pc := 20) hx hb dX5_bestToCross_20 (by decide) ?_
    exact W.iret (pc := 21) (v := 0) hx hb hr (fun t ht hW => ⟨⟨_, (z_wM X d x6.2), rfl, ⟨z_e1 hf, congrArg (fun z => (z_wM X d z)) (z_e2 hf)⟩, by rw [ht]; exact hP, hD⟩, hS.F ht⟩) hS.2.2 dX5_bestToCross_21
  · replace hf := z_in c_9 hf
    refine lv_aload_n (pc := 12) hx hb dX5_bestToCross_12 rfl (lv_at hl 0 rfl) ?_
    refine lv_iload_n (pc := 13) hx hb dX5_bestToCross_13 rfl (lv_at hl 1 rfl) ?_
    obtain ⟨x14, e14, hf⟩ := z_bd hf
    refine z_cmI (pc := 14) (W1 := (z_wM X d x14.2)) S (m_X5_best l X d x6.2 v1 e14) (cwV 1 hts gX5_bestToCross_X5_best rfl rfl rfl hdX5_best ⟨Nat.le_of_ble_eq_true rfl, Nat.le_of_ble_eq_true rfl⟩) hP hK hN hD hS hA (s_M_M X d x6.2) (f_M_M X d x6.2 x14.2) (ci := 5) rfl rfl rfl ⟨Nat.le_of_ble_eq_true rfl, Nat.le_of_ble_eq_true rfl⟩ rfl hl.1 rfl (Nat.le_of_ble_eq_true rfl) dX5_bestToCross_14 (fun H locs hP hD hS => ?_)
    refine lv_goto (pc := 17) (tgt := 21) hx hb dX5_bestToCross_17 (by decide) ?_
    exact W.iret (pc := 21) (v := x14.1) hx hb hr (fun t ht hW => ⟨⟨_, (z_wM X d x14.2), rfl, ⟨z_e1 hf, congrArg (fun z => (z_wM X d z)) (z_e2 hf)⟩, by rw [ht]; exact hP, hD⟩, hS.F ht⟩) hS.2.2 dX5_bestToCross_21
