def f_X0_copyFrom (h : z_H) (h2 : z_H) : Option z_H := (f_X2_copyFrom (h.2.1 0) (h2.2.1 0)).bind (fun x64 => (f_X2_copyFrom (h.2.1 1) (h2.2.1 1)).bind (fun x75 => (f_X2_copyFrom (h.2.1 2) (h2.2.1 2)).bind (fun x86 => (f_X2_copyFrom (h.2.1 3) (h2.2.1 3)).bind (fun x97 => (f_X2_copyFrom (h.2.1 4) (h2.2.1 4)).bind (fun x108 => (f_X2_copyFrom (h.2.1 5) (h2.2.1 5)).bind (fun x119 => (f_X1_copyFrom h.2.2.1 h2.2.2.1).bind (fun x130 => (f_X3_copyFrom h.2.2.2 h2.2.2.2).bind (fun x141 => some (z_hG (z_hL (z_hR (z_hR (z_hR (z_hR (z_hR (z_hR (z_hS (z_hS (z_hS (z_hS (z_hS (z_hS (z_hS h 0 (h2.1 0)) 1 (h2.1 1)) 2 (h2.1 2)) 3 (h2.1 3)) 4 (h2.1 4)) 5 (h2.1 5)) 6 (h2.1 6)) 0 x64) 1 x75) 2 x86) 3 x97) 4 x108) 5 x119) x130) x141)))))))))
set_option maxHeartbeats 4000000 in
set_option maxRecDepth 100000 in
theorem m_X0_copyFrom (l : Launch) (X : z_X) (d d2 : Nat → Nat) (h : z_H) (h2 : z_H) {RR : z_H} (hf : f_X0_copyFrom h h2 = some RR) : z_mV l yX0_copyFrom wsX0_copyFrom 2 43 X [.ref (d 0), .ref (d2 0)] (z_wHH X d h d2 h2) (z_wHH X d RR d2 h2) := by
  intro sz
  refine Met.ofW (cc := cX0_copyFrom) (maxL := 2) (ret := none) (by decide) rfl ?_
  intro p e s m args below meth c s₁ Bd hml hv
  obtain ⟨rfl, hsz, hP, hK, hN, hD0⟩ := hv
  have hx := Bd.exec
  have hb := Bd.bytes
  have hr := Bd.returns
  have hts := atoms_spec (ws := wsX0_copyFrom) Bd.pre
  have hown : s.vm.findClass RX0 = some m.cls := findClass_of_methodNamed Bd.named
  have hlocks := Bd.notSynchronized
  have S : CallFix p m c cX0_copyFrom 2 s _ wsX0_copyFrom RX0 := ⟨hx, hb, hml, hown, hts⟩
  have lk_fi51 := hts (.fieldLink RX0 51 "HouseBells$House" "minute" "I") (List.mem_of_getElem? (i := 1) rfl)
  have lk_fi54 := hts (.fieldLink RX0 54 "HouseBells$House" "roomCount" "I") (List.mem_of_getElem? (i := 2) rfl)
  have lk_fi9 := hts (.fieldLink RX0 9 "HouseBells$House" "charge" "I") (List.mem_of_getElem? (i := 3) rfl)
  have lk_fi57 := hts (.fieldLink RX0 57 "HouseBells$House" "served" "I") (List.mem_of_getElem? (i := 4) rfl)
  have lk_fi60 := hts (.fieldLink RX0 60 "HouseBells$House" "inVain" "I") (List.mem_of_getElem? (i := 5) rfl)
  have lk_fi63 := hts (.fieldLink RX0 63 "HouseBells$House" "gaveUp" "I") (List.mem_of_getElem? (i := 6) rfl)
  have lk_fi66 := hts (.fieldLink RX0 66 "HouseBells$House" "unheard" "I") (List.mem_of_getElem? (i := 7) rfl)
  have lk_fi18 := hts (.fieldLink RX0 18 "HouseBells$House" "floor" "LHouseBells$Row;") (List.mem_of_getElem? (i := 8) rfl)
  have lk_fi22 := hts (.fieldLink RX0 22 "HouseBells$House" "patience" "LHouseBells$Row;") (List.mem_of_getElem? (i := 9) rfl)
  have lk_fi25 := hts (.fieldLink RX0 25 "HouseBells$House" "need" "LHouseBells$Row;") (List.mem_of_getElem? (i := 10) rfl)
  have lk_fi28 := hts (.fieldLink RX0 28 "HouseBells$House" "wire" "LHouseBells$Row;") (List.mem_of_getElem? (i := 11) rfl)
  have lk_fi31 := hts (.fieldLink RX0 31 "HouseBells$House" "cut" "LHouseBells$Row;") (List.mem_of_getElem? (i := 12) rfl)
  have lk_fi34 := hts (.fieldLink RX0 34 "HouseBells$House" "waited" "LHouseBells$Row;") (List.mem_of_getElem? (i := 13) rfl)
  have lk_fi40 := hts (.fieldLink RX0 40 "HouseBells$House" "line" "LHouseBells$Line;") (List.mem_of_getElem? (i := 14) rfl)
  have lk_fi47 := hts (.fieldLink RX0 47 "HouseBells$House" "staff" "LHouseBells$Staff;") (List.mem_of_getElem? (i := 15) rfl)
  have in_X0 : ∀ w ∈ wsX00, w ∈ wsX0_copyFrom := fun _ h => (List.mem_cons_of_mem _ (List.mem_append_left _ (List.mem_append_left _ (List.mem_append_left _ (List.mem_append_right _ h)))))
  subst hsz
  have hD := hD0.self (sz := s.heap.size)
  generalize hAe : va_A (z_wHH X d h d2 h2) s.heap.size = A at hD ⊢
  have hA : ∀ q : Nat, s.heap.size ≤ q → A q := fun q h => by rw [← hAe]; exact Or.inr h
  have hS : va_S A s.heap s.heap [] := va_S.rf
  have hl := lv_entry ([.ref (d 0), .ref (d2 0)]) (n := 2) (Nat.le_of_ble_eq_true rfl)
  rw [lg_entry_eq]
  generalize (lg_sl ([.ref (d 0), .ref (d2 0)]) ++ List.replicate (2 - (lg_sl ([.ref (d 0), .ref (d2 0)])).length) Slot.unset).toArray = ls at hl ⊢
  have hl : lv_has ls 2 [(0, .ref (d 0)), (1, .ref (d2 0))] := hl
  suffices hgo : ∀ (H : Heap) (locs : List Loc), va_P X.1 vwCl (z_wHH X d h d2 h2) H → va_D A (z_wHH X d h d2 h2) → va_S A s.heap H locs → W p l e (headSpec wsX0_copyFrom (z_R 2 43)).room s m ([.ref (d 0), .ref (d2 0)] : List Value).toArray below meth c H locs 0 0 (MQ below (va_Qv (fun u : va_W => u = (z_wHH X d RR d2 h2)) (z_Bm X A) A) ([.ref (d 0), .ref (d2 0)] : List Value).toArray s 0 0 A) (F0 m 0 ls []) from hgo _ _ hP hD hS
  clear hP hD hS
  intro H locs hP hD hS
  unfold f_X0_copyFrom at hf
  refine lv_aload_n (pc := 0) hx hb dX0_copyFrom_0 rfl (lv_at hl 0 rfl) ?_
  refine lv_aload_n (pc := 1) hx hb dX0_copyFrom_1 rfl (lv_at hl 1 rfl) ?_
  refine va_get (pc := 2) (ci := 0) (C := RX0) (T := TX0) (N := 15) hx hb hts in_X0 hown hK hP 26 rfl rfl 0 (by decide) lk_fi51 (fun _ h9 => h9) rfl dX0_copyFrom_2 ?_
  refine z_put (pc := 5) (ci := 0) (C := RX0) (T := TX0) (N := 15) (W1 := (z_wHH X d (z_hS h 0 (h2.1 0)) d2 h2)) hx hb hts in_X0 tyX0 tyX0_ok nmX0 hown hK hP hD hS 0 rfl rfl 0 (by decide) lk_fi51 (fun _ h9 => h9) rfl (by decide +kernel) (Nat.le_of_ble_eq_true rfl) dX0_copyFrom_5 rfl (fun H locs hP hD hS => ?_)
  refine lv_aload_n (pc := 8) hx hb dX0_copyFrom_8 rfl (lv_at hl 0 rfl) ?_
  refine lv_aload_n (pc := 9) hx hb dX0_copyFrom_9 rfl (lv_at hl 1 rfl) ?_
  refine va_get (pc := 10) (ci := 0) (C := RX0) (T := TX0) (N := 15) hx hb hts in_X0 hown hK hP 26 rfl rfl 1 (by decide) lk_fi54 (fun _ h9 => h9) rfl dX0_copyFrom_10 ?_
  refine z_put (pc := 13) (ci := 0) (C := RX0) (T := TX0) (N := 15) (W1 := (z_wHH X d (z_hS (z_hS h 0 (h2.1 0)) 1 (h2.1 1)) d2 h2)) hx hb hts in_X0 tyX0 tyX0_ok nmX0 hown hK hP hD hS 0 rfl rfl 1 (by decide) lk_fi54 (fun _ h9 => h9) rfl (by decide +kernel) (Nat.le_of_ble_eq_true rfl) dX0_copyFrom_13 rfl (fun H locs hP hD hS => ?_)
  refine lv_aload_n (pc := 16) hx hb dX0_copyFrom_16 rfl (lv_at hl 0 rfl) ?_
  refine lv_aload_n (pc := 17) hx hb dX0_copyFrom_17 rfl (lv_at hl 1 rfl) ?_
  refine va_get (pc := 18) (ci := 0) (C := RX0) (T := TX0) (N := 15) hx hb hts in_X0 hown hK hP 26 rfl rfl 2 (by decide) lk_fi9 (fun _ h9 => h9) rfl dX0_copyFrom_18 ?_
  refine z_put (pc := 21) (ci := 0) (C := RX0) (T := TX0) (N := 15) (W1 := (z_wHH X d (z_hS (z_hS (z_hS h 0 (h2.1 0)) 1 (h2.1 1)) 2 (h2.1 2)) d2 h2)) hx hb hts in_X0 tyX0 tyX0_ok nmX0 hown hK hP hD hS 0 rfl rfl 2 (by decide) lk_fi9 (fun _ h9 => h9) rfl (by decide +kernel) (Nat.le_of_ble_eq_true rfl) dX0_copyFrom_21 rfl (fun H locs hP hD hS => ?_)
  refine lv_aload_n (pc := 24) hx hb dX0_copyFrom_24 rfl (lv_at hl 0 rfl) ?_
  refine lv_aload_n (pc := 25) hx hb dX0_copyFrom_25 rfl (lv_at hl 1 rfl) ?_
  refine va_get (pc := 26) (ci := 0) (C := RX0) (T := TX0) (N := 15) hx hb hts in_X0 hown hK hP 26 rfl rfl 3 (by decide) lk_fi57 (fun _ h9 => h9) rfl dX0_copyFrom_26 ?_
  refine z_put (pc := 29) (ci := 0) (C := RX0) (T := TX0) (N := 15) (W1 := (z_wHH X d (z_hS (z_hS (z_hS (z_hS h 0 (h2.1 0)) 1 (h2.1 1)) 2 (h2.1 2)) 3 (h2.1 3)) d2 h2)) hx hb hts in_X0 tyX0 tyX0_ok nmX0 hown hK hP hD hS 0 rfl rfl 3 (by decide) lk_fi57 (fun _ h9 => h9) rfl (by decide +kernel) (Nat.le_of_ble_eq_true rfl) dX0_copyFrom_29 rfl (fun H locs hP hD hS => ?_)
  refine lv_aload_n (pc := 32) hx hb dX0_copyFrom_32 rfl (lv_at hl 0 rfl) ?_
  refine lv_aload_n (pc := 33) hx hb dX0_copyFrom_33 rfl (lv_at hl 1 rfl) ?_
  refine va_get (pc := 34) (ci := 0) (C := RX0) (T := TX0) (N := 15) hx hb hts in_X0 hown hK hP 26 rfl rfl 4 (by decide) lk_fi60 (fun _ h9 => h9) rfl dX0_copyFrom_34 ?_
  refine z_put (pc := 37) (ci := 0) (C := RX0) (T := TX0) (N := 15) (W1 := (z_wHH X d (z_hS (z_hS (z_hS (z_hS (z_hS h 0 (h2.1 0)) 1 (h2.1 1)) 2 (h2.1 2)) 3 (h2.1 3)) 4 (h2.1 4)) d2 h2)) hx hb hts in_X0 tyX0 tyX0_ok nmX0 hown hK hP hD hS 0 rfl rfl 4 (by decide) lk_fi60 (fun _ h9 => h9) rfl (by decide +kernel) (Nat.le_of_ble_eq_true rfl) dX0_copyFrom_37 rfl (fun H locs hP hD hS => ?_)
  refine lv_aload_n (pc := 40) hx hb dX0_copyFrom_40 rfl (lv_at hl 0 rfl) ?_
  refine lv_aload_n (pc := 41) hx hb dX0_copyFrom_41 rfl (lv_at hl 1 rfl) ?_
  refine va_get (pc := 42) (ci := 0) (C := RX0) (T := TX0) (N := 15) hx hb hts in_X0 hown hK hP 26 rfl rfl 5 (by decide) lk_fi63 (fun _ h9 => h9) rfl dX0_copyFrom_42 ?_
  refine z_put (pc := 45) (ci := 0) (C := RX0) (T := TX0) (N := 15) (W1 := (z_wHH X d (z_hS (z_hS (z_hS (z_hS (z_hS (z_hS h 0 (h2.1 0)) 1 (h2.1 1)) 2 (h2.1 2)) 3 (h2.1 3)) 4 (h2.1 4)) 5 (h2.1 5)) d2 h2)) hx hb hts in_X0 tyX0 tyX0_ok nmX0 hown hK hP hD hS 0 rfl rfl 5 (by decide) lk_fi63 (fun _ h9 => h9) rfl (by decide +kernel) (Nat.le_of_ble_eq_true rfl) dX0_copyFrom_45 rfl (fun H locs hP hD hS => ?_)
  refine lv_aload_n (pc := 48) hx hb dX0_copyFrom_48 rfl (lv_at hl 0 rfl) ?_
  refine lv_aload_n (pc := 49) hx hb dX0_copyFrom_49 rfl (lv_at hl 1 rfl) ?_
  refine va_get (pc := 50) (ci := 0) (C := RX0) (T := TX0) (N := 15) hx hb hts in_X0 hown hK hP 26 rfl rfl 6 (by decide) lk_fi66 (fun _ h9 => h9) rfl dX0_copyFrom_50 ?_
  refine z_put (pc := 53) (ci := 0) (C := RX0) (T := TX0) (N := 15) (W1 := (z_wHH X d (z_hS (z_hS (z_hS (z_hS (z_hS (z_hS (z_hS h 0 (h2.1 0)) 1 (h2.1 1)) 2 (h2.1 2)) 3 (h2.1 3)) 4 (h2.1 4)) 5 (h2.1 5)) 6 (h2.1 6)) d2 h2)) hx hb hts in_X0 tyX0 tyX0_ok nmX0 hown hK hP hD hS 0 rfl rfl 6 (by decide) lk_fi66 (fun _ h9 => h9) rfl (by decide +kernel) (Nat.le_of_ble_eq_true rfl) dX0_copyFrom_53 rfl (fun H locs hP hD hS => ?_)
  refine lv_aload_n (pc := 56) hx hb dX0_copyFrom_56 rfl (lv_at hl 0 rfl) ?_
  refine va_get (pc := 57) (ci := 0) (C := RX0) (T := TX0) (N := 15) hx hb hts in_X0 hown hK hP 0 rfl rfl 7 (by decide) lk_fi18 (fun _ h9 => h9) rfl dX0_copyFrom_57 ?_
  refine lv_aload_n (pc := 60) hx hb dX0_copyFrom_60 rfl (lv_at hl 1 rfl) ?_
  refine va_get (pc := 61) (ci := 0) (C := RX0) (T := TX0) (N := 15) hx hb hts in_X0 hown hK hP 26 rfl rfl 7 (by decide) lk_fi18 (fun _ h9 => h9) rfl dX0_copyFrom_61 ?_
  obtain ⟨x64, e64, hf⟩ := z_bd hf
  refine z_cmV (pc := 64) (W1 := (z_wHH X d (z_hR (z_hS (z_hS (z_hS (z_hS (z_hS (z_hS (z_hS h 0 (h2.1 0)) 1 (h2.1 1)) 2 (h2.1 2)) 3 (h2.1 3)) 4 (h2.1 4)) 5 (h2.1 5)) 6 (h2.1 6)) 0 x64) d2 h2)) S (m_X2_copyFrom l X (d 1) (d 2) (d2 1) (d2 2) (h.2.1 0) (h2.2.1 0) e64) (cwV 1 hts gX0_copyFrom_X2_copyFrom rfl rfl rfl hdX2_copyFrom ⟨Nat.le_of_ble_eq_true rfl, Nat.le_of_ble_eq_true rfl⟩) hP hK hN hD hS hA (s_HH_RR1_27 X d d2 (z_hS (z_hS (z_hS (z_hS (z_hS (z_hS (z_hS h 0 (h2.1 0)) 1 (h2.1 1)) 2 (h2.1 2)) 3 (h2.1 3)) 4 (h2.1 4)) 5 (h2.1 5)) 6 (h2.1 6)) h2) (f_HH_RR1_27 X d d2 (z_hS (z_hS (z_hS (z_hS (z_hS (z_hS (z_hS h 0 (h2.1 0)) 1 (h2.1 1)) 2 (h2.1 2)) 3 (h2.1 3)) 4 (h2.1 4)) 5 (h2.1 5)) 6 (h2.1 6)) h2 x64) (ci := 2) rfl rfl rfl ⟨Nat.le_of_ble_eq_true rfl, Nat.le_of_ble_eq_true rfl⟩ rfl hl.1 rfl (Nat.le_of_ble_eq_true rfl) dX0_copyFrom_64 (fun H locs hP hD hS => ?_)
  refine lv_aload_n (pc := 67) hx hb dX0_copyFrom_67 rfl (lv_at hl 0 rfl) ?_
  refine va_get (pc := 68) (ci := 0) (C := RX0) (T := TX0) (N := 15) hx hb hts in_X0 hown hK hP 0 rfl rfl 8 (by decide) lk_fi22 (fun _ h9 => h9) rfl dX0_copyFrom_68 ?_
  refine lv_aload_n (pc := 71) hx hb dX0_copyFrom_71 rfl (lv_at hl 1 rfl) ?_
  refine va_get (pc := 72) (ci := 0) (C := RX0) (T := TX0) (N := 15) hx hb hts in_X0 hown hK hP 26 rfl rfl 8 (by decide) lk_fi22 (fun _ h9 => h9) rfl dX0_copyFrom_72 ?_
  obtain ⟨x75, e75, hf⟩ := z_bd hf
  refine z_cmV (pc := 75) (W1 := (z_wHH X d (z_hR (z_hR (z_hS (z_hS (z_hS (z_hS (z_hS (z_hS (z_hS h 0 (h2.1 0)) 1 (h2.1 1)) 2 (h2.1 2)) 3 (h2.1 3)) 4 (h2.1 4)) 5 (h2.1 5)) 6 (h2.1 6)) 0 x64) 1 x75) d2 h2)) S (m_X2_copyFrom l X (d 3) (d 4) (d2 3) (d2 4) (h.2.1 1) (h2.2.1 1) e75) (cwV 1 hts gX0_copyFrom_X2_copyFrom rfl rfl rfl hdX2_copyFrom ⟨Nat.le_of_ble_eq_true rfl, Nat.le_of_ble_eq_true rfl⟩) hP hK hN hD hS hA (s_HH_RR3_29 X d d2 (z_hR (z_hS (z_hS (z_hS (z_hS (z_hS (z_hS (z_hS h 0 (h2.1 0)) 1 (h2.1 1)) 2 (h2.1 2)) 3 (h2.1 3)) 4 (h2.1 4)) 5 (h2.1 5)) 6 (h2.1 6)) 0 x64) h2) (f_HH_RR3_29 X d d2 (z_hR (z_hS (z_hS (z_hS (z_hS (z_hS (z_hS (z_hS h 0 (h2.1 0)) 1 (h2.1 1)) 2 (h2.1 2)) 3 (h2.1 3)) 4 (h2.1 4)) 5 (h2.1 5)) 6 (h2.1 6)) 0 x64) h2 x75) (ci := 2) rfl rfl rfl ⟨Nat.le_of_ble_eq_true rfl, Nat.le_of_ble_eq_true rfl⟩ rfl hl.1 rfl (Nat.le_of_ble_eq_true rfl) dX0_copyFrom_75 (fun H locs hP hD hS => ?_)
  refine lv_aload_n (pc := 78) hx hb dX0_copyFrom_78 rfl (lv_at hl 0 rfl) ?_
  refine va_get (pc := 79) (ci := 0) (C := RX0) (T := TX0) (N := 15) hx hb hts in_X0 hown hK hP 0 rfl rfl 9 (by decide) lk_fi25 (fun _ h9 => h9) rfl dX0_copyFrom_79 ?_
  refine lv_aload_n (pc := 82) hx hb dX0_copyFrom_82 rfl (lv_at hl 1 rfl) ?_
  refine va_get (pc := 83) (ci := 0) (C := RX0) (T := TX0) (N := 15) hx hb hts in_X0 hown hK hP 26 rfl rfl 9 (by decide) lk_fi25 (fun _ h9 => h9) rfl dX0_copyFrom_83 ?_
  obtain ⟨x86, e86, hf⟩ := z_bd hf
  refine z_cmV (pc := 86) (W1 := (z_wHH X d (z_hR (z_hR (z_hR (z_hS (z_hS (z_hS (z_hS (z_hS (z_hS (z_hS h 0 (h2.1 0)) 1 (h2.1 1)) 2 (h2.1 2)) 3 (h2.1 3)) 4 (h2.1 4)) 5 (h2.1 5)) 6 (h2.1 6)) 0 x64) 1 x75) 2 x86) d2 h2)) S (m_X2_copyFrom l X (d 5) (d 6) (d2 5) (d2 6) (h.2.1 2) (h2.2.1 2) e86) (cwV 1 hts gX0_copyFrom_X2_copyFrom rfl rfl rfl hdX2_copyFrom ⟨Nat.le_of_ble_eq_true rfl, Nat.le_of_ble_eq_true rfl⟩) hP hK hN hD hS hA (s_HH_RR5_31 X d d2 (z_hR (z_hR (z_hS (z_hS (z_hS (z_hS (z_hS (z_hS (z_hS h 0 (h2.1 0)) 1 (h2.1 1)) 2 (h2.1 2)) 3 (h2.1 3)) 4 (h2.1 4)) 5 (h2.1 5)) 6 (h2.1 6)) 0 x64) 1 x75) h2) (f_HH_RR5_31 X d d2 (z_hR (z_hR (z_hS (z_hS (z_hS (z_hS (z_hS (z_hS (z_hS h 0 (h2.1 0)) 1 (h2.1 1)) 2 (h2.1 2)) 3 (h2.1 3)) 4 (h2.1 4)) 5 (h2.1 5)) 6 (h2.1 6)) 0 x64) 1 x75) h2 x86) (ci := 2) rfl rfl rfl ⟨Nat.le_of_ble_eq_true rfl, Nat.le_of_ble_eq_true rfl⟩ rfl hl.1 rfl (Nat.le_of_ble_eq_true rfl) dX0_copyFrom_86 (fun H locs hP hD hS => ?_)
  refine lv_aload_n (pc := 89) hx hb dX0_copyFrom_89 rfl (lv_at hl 0 rfl) ?_
  refine va_get (pc := 90) (ci := 0) (C := RX0) (T := TX0) (N := 15) hx hb hts in_X0 hown hK hP 0 rfl rfl 10 (by decide) lk_fi28 (fun _ h9 => h9) rfl dX0_copyFrom_90 ?_
  refine lv_aload_n (pc := 93) hx hb dX0_copyFrom_93 rfl (lv_at hl 1 rfl) ?_
  refine va_get (pc := 94) (ci := 0) (C := RX0) (T := TX0) (N := 15) hx hb hts in_X0 hown hK hP 26 rfl rfl 10 (by decide) lk_fi28 (fun _ h9 => h9) rfl dX0_copyFrom_94 ?_
  obtain ⟨x97, e97, hf⟩ := z_bd hf
  refine z_cmV (pc := 97) (W1 := (z_wHH X d (z_hR (z_hR (z_hR (z_hR (z_hS (z_hS (z_hS (z_hS (z_hS (z_hS (z_hS h 0 (h2.1 0)) 1 (h2.1 1)) 2 (h2.1 2)) 3 (h2.1 3)) 4 (h2.1 4)) 5 (h2.1 5)) 6 (h2.1 6)) 0 x64) 1 x75) 2 x86) 3 x97) d2 h2)) S (m_X2_copyFrom l X (d 7) (d 8) (d2 7) (d2 8) (h.2.1 3) (h2.2.1 3) e97) (cwV 1 hts gX0_copyFrom_X2_copyFrom rfl rfl rfl hdX2_copyFrom ⟨Nat.le_of_ble_eq_true rfl, Nat.le_of_ble_eq_true rfl⟩) hP hK hN hD hS hA (s_HH_RR7_33 X d d2 (z_hR (z_hR (z_hR (z_hS (z_hS (z_hS (z_hS (z_hS (z_hS (z_hS h 0 (h2.1 0)) 1 (h2.1 1)) 2 (h2.1 2)) 3 (h2.1 3)) 4 (h2.1 4)) 5 (h2.1 5)) 6 (h2.1 6)) 0 x64) 1 x75) 2 x86) h2) (f_HH_RR7_33 X d d2 (z_hR (z_hR (z_hR (z_hS (z_hS (z_hS (z_hS (z_hS (z_hS (z_hS h 0 (h2.1 0)) 1 (h2.1 1)) 2 (h2.1 2)) 3 (h2.1 3)) 4 (h2.1 4)) 5 (h2.1 5)) 6 (h2.1 6)) 0 x64) 1 x75) 2 x86) h2 x97) (ci := 2) rfl rfl rfl ⟨Nat.le_of_ble_eq_true rfl, Nat.le_of_ble_eq_true rfl⟩ rfl hl.1 rfl (Nat.le_of_ble_eq_true rfl) dX0_copyFrom_97 (fun H locs hP hD hS => ?_)
  refine lv_aload_n (pc := 100) hx hb dX0_copyFrom_100 rfl (lv_at hl 0 rfl) ?_
  refine va_get (pc := 101) (ci := 0) (C := RX0) (T := TX0) (N := 15) hx hb hts in_X0 hown hK hP 0 rfl rfl 11 (by decide) lk_fi31 (fun _ h9 => h9) rfl dX0_copyFrom_101 ?_
  refine lv_aload_n (pc := 104) hx hb dX0_copyFrom_104 rfl (lv_at hl 1 rfl) ?_
  refine va_get (pc := 105) (ci := 0) (C := RX0) (T := TX0) (N := 15) hx hb hts in_X0 hown hK hP 26 rfl rfl 11 (by decide) lk_fi31 (fun _ h9 => h9) rfl dX0_copyFrom_105 ?_
  obtain ⟨x108, e108, hf⟩ := z_bd hf
  refine z_cmV (pc := 108) (W1 := (z_wHH X d (z_hR (z_hR (z_hR (z_hR (z_hR (z_hS (z_hS (z_hS (z_hS (z_hS (z_hS (z_hS h 0 (h2.1 0)) 1 (h2.1 1)) 2 (h2.1 2)) 3 (h2.1 3)) 4 (h2.1 4)) 5 (h2.1 5)) 6 (h2.1 6)) 0 x64) 1 x75) 2 x86) 3 x97) 4 x108) d2 h2)) S (m_X2_copyFrom l X (d 9) (d 10) (d2 9) (d2 10) (h.2.1 4) (h2.2.1 4) e108) (cwV 1 hts gX0_copyFrom_X2_copyFrom rfl rfl rfl hdX2_copyFrom ⟨Nat.le_of_ble_eq_true rfl, Nat.le_of_ble_eq_true rfl⟩) hP hK hN hD hS hA (s_HH_RR9_35 X d d2 (z_hR (z_hR (z_hR (z_hR (z_hS (z_hS (z_hS (z_hS (z_hS (z_hS (z_hS h 0 (h2.1 0)) 1 (h2.1 1)) 2 (h2.1 2)) 3 (h2.1 3)) 4 (h2.1 4)) 5 (h2.1 5)) 6 (h2.1 6)) 0 x64) 1 x75) 2 x86) 3 x97) h2) (f_HH_RR9_35 X d d2 (z_hR (z_hR (z_hR (z_hR (z_hS (z_hS (z_hS (z_hS (z_hS (z_hS (z_hS h 0 (h2.1 0)) 1 (h2.1 1)) 2 (h2.1 2)) 3 (h2.1 3)) 4 (h2.1 4)) 5 (h2.1 5)) 6 (h2.1 6)) 0 x64) 1 x75) 2 x86) 3 x97) h2 x108) (ci := 2) rfl rfl rfl ⟨Nat.le_of_ble_eq_true rfl, Nat.le_of_ble_eq_true rfl⟩ rfl hl.1 rfl (Nat.le_of_ble_eq_true rfl) dX0_copyFrom_108 (fun H locs hP hD hS => ?_)
  refine lv_aload_n (pc := 111) hx hb dX0_copyFrom_111 rfl (lv_at hl 0 rfl) ?_
  refine va_get (pc := 112) (ci := 0) (C := RX0) (T := TX0) (N := 15) hx hb hts in_X0 hown hK hP 0 rfl rfl 12 (by decide) lk_fi34 (fun _ h9 => h9) rfl dX0_copyFrom_112 ?_
  refine lv_aload_n (pc := 115) hx hb dX0_copyFrom_115 rfl (lv_at hl 1 rfl) ?_
  refine va_get (pc := 116) (ci := 0) (C := RX0) (T := TX0) (N := 15) hx hb hts in_X0 hown hK hP 26 rfl rfl 12 (by decide) lk_fi34 (fun _ h9 => h9) rfl dX0_copyFrom_116 ?_
  obtain ⟨x119, e119, hf⟩ := z_bd hf
  refine z_cmV (pc := 119) (W1 := (z_wHH X d (z_hR (z_hR (z_hR (z_hR (z_hR (z_hR (z_hS (z_hS (z_hS (z_hS (z_hS (z_hS (z_hS h 0 (h2.1 0)) 1 (h2.1 1)) 2 (h2.1 2)) 3 (h2.1 3)) 4 (h2.1 4)) 5 (h2.1 5)) 6 (h2.1 6)) 0 x64) 1 x75) 2 x86) 3 x97) 4 x108) 5 x119) d2 h2)) S (m_X2_copyFrom l X (d 11) (d 12) (d2 11) (d2 12) (h.2.1 5) (h2.2.1 5) e119) (cwV 1 hts gX0_copyFrom_X2_copyFrom rfl rfl rfl hdX2_copyFrom ⟨Nat.le_of_ble_eq_true rfl, Nat.le_of_ble_eq_true rfl⟩) hP hK hN hD hS hA (s_HH_RR11_37 X d d2 (z_hR (z_hR (z_hR (z_hR (z_hR (z_hS (z_hS (z_hS (z_hS (z_hS (z_hS (z_hS h 0 (h2.1 0)) 1 (h2.1 1)) 2 (h2.1 2)) 3 (h2.1 3)) 4 (h2.1 4)) 5 (h2.1 5)) 6 (h2.1 6)) 0 x64) 1 x75) 2 x86) 3 x97) 4 x108) h2) (f_HH_RR11_37 X d d2 (z_hR (z_hR (z_hR (z_hR (z_hR (z_hS (z_hS (z_hS (z_hS (z_hS (z_hS (z_hS h 0 (h2.1 0)) 1 (h2.1 1)) 2 (h2.1 2)) 3 (h2.1 3)) 4 (h2.1 4)) 5 (h2.1 5)) 6 (h2.1 6)) 0 x64) 1 x75) 2 x86) 3 x97) 4 x108) h2 x119) (ci := 2) rfl rfl rfl ⟨Nat.le_of_ble_eq_true rfl, Nat.le_of_ble_eq_true rfl⟩ rfl hl.1 rfl (Nat.le_of_ble_eq_true rfl) dX0_copyFrom_119 (fun H locs hP hD hS => ?_)
  refine lv_aload_n (pc := 122) hx hb dX0_copyFrom_122 rfl (lv_at hl 0 rfl) ?_
  refine va_get (pc := 123) (ci := 0) (C := RX0) (T := TX0) (N := 15) hx hb hts in_X0 hown hK hP 0 rfl rfl 13 (by decide) lk_fi40 (fun _ h9 => h9) rfl dX0_copyFrom_123 ?_
  refine lv_aload_n (pc := 126) hx hb dX0_copyFrom_126 rfl (lv_at hl 1 rfl) ?_
  refine va_get (pc := 127) (ci := 0) (C := RX0) (T := TX0) (N := 15) hx hb hts in_X0 hown hK hP 26 rfl rfl 13 (by decide) lk_fi40 (fun _ h9 => h9) rfl dX0_copyFrom_127 ?_
  obtain ⟨x130, e130, hf⟩ := z_bd hf
  refine z_cmV (pc := 130) (W1 := (z_wHH X d (z_hL (z_hR (z_hR (z_hR (z_hR (z_hR (z_hR (z_hS (z_hS (z_hS (z_hS (z_hS (z_hS (z_hS h 0 (h2.1 0)) 1 (h2.1 1)) 2 (h2.1 2)) 3 (h2.1 3)) 4 (h2.1 4)) 5 (h2.1 5)) 6 (h2.1 6)) 0 x64) 1 x75) 2 x86) 3 x97) 4 x108) 5 x119) x130) d2 h2)) S (m_X1_copyFrom l X d d2 h.2.2.1 h2.2.2.1 e130) (cwV 1 hts gX0_copyFrom_X1_copyFrom rfl rfl rfl hdX1_copyFrom ⟨Nat.le_of_ble_eq_true rfl, Nat.le_of_ble_eq_true rfl⟩) hP hK hN hD hS hA (s_HH_LL13_39 X d d2 (z_hR (z_hR (z_hR (z_hR (z_hR (z_hR (z_hS (z_hS (z_hS (z_hS (z_hS (z_hS (z_hS h 0 (h2.1 0)) 1 (h2.1 1)) 2 (h2.1 2)) 3 (h2.1 3)) 4 (h2.1 4)) 5 (h2.1 5)) 6 (h2.1 6)) 0 x64) 1 x75) 2 x86) 3 x97) 4 x108) 5 x119) h2) (f_HH_LL13_39 X d d2 (z_hR (z_hR (z_hR (z_hR (z_hR (z_hR (z_hS (z_hS (z_hS (z_hS (z_hS (z_hS (z_hS h 0 (h2.1 0)) 1 (h2.1 1)) 2 (h2.1 2)) 3 (h2.1 3)) 4 (h2.1 4)) 5 (h2.1 5)) 6 (h2.1 6)) 0 x64) 1 x75) 2 x86) 3 x97) 4 x108) 5 x119) h2 x130) (ci := 1) rfl rfl rfl ⟨Nat.le_of_ble_eq_true rfl, Nat.le_of_ble_eq_true rfl⟩ rfl hl.1 rfl (Nat.le_of_ble_eq_true rfl) dX0_copyFrom_130 (fun H locs hP hD hS => ?_)
  refine lv_aload_n (pc := 133) hx hb dX0_copyFrom_133 rfl (lv_at hl 0 rfl) ?_
  refine va_get (pc := 134) (ci := 0) (C := RX0) (T := TX0) (N := 15) hx hb hts in_X0 hown hK hP 0 rfl rfl 14 (by decide) lk_fi47 (fun _ h9 => h9) rfl dX0_copyFrom_134 ?_
  refine lv_aload_n (pc := 137) hx hb dX0_copyFrom_137 rfl (lv_at hl 1 rfl) ?_
  refine va_get (pc := 138) (ci := 0) (C := RX0) (T := TX0) (N := 15) hx hb hts in_X0 hown hK hP 26 rfl rfl 14 (by decide) lk_fi47 (fun _ h9 => h9) rfl dX0_copyFrom_138 ?_
  obtain ⟨x141, e141, hf⟩ := z_bd hf
  refine z_cmV (pc := 141) (W1 := (z_wHH X d (z_hG (z_hL (z_hR (z_hR (z_hR (z_hR (z_hR (z_hR (z_hS (z_hS (z_hS (z_hS (z_hS (z_hS (z_hS h 0 (h2.1 0)) 1 (h2.1 1)) 2 (h2.1 2)) 3 (h2.1 3)) 4 (h2.1 4)) 5 (h2.1 5)) 6 (h2.1 6)) 0 x64) 1 x75) 2 x86) 3 x97) 4 x108) 5 x119) x130) x141) d2 h2)) S (m_X3_copyFrom l X d d2 h.2.2.2 h2.2.2.2 e141) (cwV 1 hts gX0_copyFrom_X3_copyFrom rfl rfl rfl hdX3_copyFrom ⟨Nat.le_of_ble_eq_true rfl, Nat.le_of_ble_eq_true rfl⟩) hP hK hN hD hS hA (s_HH_GG15_41 X d d2 (z_hL (z_hR (z_hR (z_hR (z_hR (z_hR (z_hR (z_hS (z_hS (z_hS (z_hS (z_hS (z_hS (z_hS h 0 (h2.1 0)) 1 (h2.1 1)) 2 (h2.1 2)) 3 (h2.1 3)) 4 (h2.1 4)) 5 (h2.1 5)) 6 (h2.1 6)) 0 x64) 1 x75) 2 x86) 3 x97) 4 x108) 5 x119) x130) h2) (f_HH_GG15_41 X d d2 (z_hL (z_hR (z_hR (z_hR (z_hR (z_hR (z_hR (z_hS (z_hS (z_hS (z_hS (z_hS (z_hS (z_hS h 0 (h2.1 0)) 1 (h2.1 1)) 2 (h2.1 2)) 3 (h2.1 3)) 4 (h2.1 4)) 5 (h2.1 5)) 6 (h2.1 6)) 0 x64) 1 x75) 2 x86) 3 x97) 4 x108) 5 x119) x130) h2 x141) (ci := 3) rfl rfl rfl ⟨Nat.le_of_ble_eq_true rfl, Nat.le_of_ble_eq_true rfl⟩ rfl hl.1 rfl (Nat.le_of_ble_eq_true rfl) dX0_copyFrom_141 (fun H locs hP hD hS => ?_)
  exact W.vret (pc := 144) hx hb hr (fun t ht hW => ⟨⟨(z_wHH X d (z_hG (z_hL (z_hR (z_hR (z_hR (z_hR (z_hR (z_hR (z_hS (z_hS (z_hS (z_hS (z_hS (z_hS (z_hS h 0 (h2.1 0)) 1 (h2.1 1)) 2 (h2.1 2)) 3 (h2.1 3)) 4 (h2.1 4)) 5 (h2.1 5)) 6 (h2.1 6)) 0 x64) 1 x75) 2 x86) 3 x97) 4 x108) 5 x119) x130) x141) d2 h2), rfl, congrArg (fun z => (z_wHH X d z d2 h2)) (Option.some.inj hf), by rw [ht]; exact hP, hD⟩, hS.F ht⟩) hS.2.2 dX0_copyFrom_144
def f_X0_openRoom (h : z_H) (v1 : Int32) (v2 : Int32) (v3 : Int32) : (Int32 × z_H) := ((h.1 1), (z_hR (z_hR (z_hR (z_hR (z_hR (z_hR (z_hS h 1 ((h.1 1) + 1)) 0 (z_rs (h.2.1 0) (h.1 1) v1)) 1 (z_rs (h.2.1 1) (h.1 1) v2)) 2 (z_rs (h.2.1 2) (h.1 1) v3)) 3 (z_rs (h.2.1 3) (h.1 1) (h.1 1))) 4 (z_rs (h.2.1 4) (h.1 1) 0)) 5 (z_rs (h.2.1 5) (h.1 1) (-1))))
set_option maxHeartbeats 4000000 in
set_option maxRecDepth 100000 in
theorem m_X0_openRoom (l : Launch) (X : z_X) (d : Nat → Nat) (h : z_H) (v1 : Int32) (v2 : Int32) (v3 : Int32) {RR : (Int32 × z_H)} (hf : f_X0_openRoom h v1 v2 v3 = RR) : z_mI l yX0_openRoom wsX0_openRoom 1 22 X [.ref (d 0), .int v1, .int v2, .int v3] (z_wH X d h) RR.1 (z_wH X d RR.2) := by
  intro sz
  refine Met.ofW (cc := cX0_openRoom) (maxL := 5) (ret := (some .int)) (by decide) rfl ?_
  intro p e s m args below meth c s₁ Bd hml hv
  obtain ⟨rfl, hsz, hP, hK, hN, hD0⟩ := hv
  have hx := Bd.exec
  have hb := Bd.bytes
  have hr := Bd.returns
  have hts := atoms_spec (ws := wsX0_openRoom) Bd.pre
  have hown : s.vm.findClass RX0 = some m.cls := findClass_of_methodNamed Bd.named
  have hlocks := Bd.notSynchronized
  have S : CallFix p m c cX0_openRoom 5 s _ wsX0_openRoom RX0 := ⟨hx, hb, hml, hown, hts⟩
  have lk_fi54 := hts (.fieldLink RX0 54 "HouseBells$House" "roomCount" "I") (List.mem_of_getElem? (i := 1) rfl)
  have lk_fi18 := hts (.fieldLink RX0 18 "HouseBells$House" "floor" "LHouseBells$Row;") (List.mem_of_getElem? (i := 2) rfl)
  have lk_fi22 := hts (.fieldLink RX0 22 "HouseBells$House" "patience" "LHouseBells$Row;") (List.mem_of_getElem? (i := 3) rfl)
  have lk_fi25 := hts (.fieldLink RX0 25 "HouseBells$House" "need" "LHouseBells$Row;") (List.mem_of_getElem? (i := 4) rfl)
  have lk_fi28 := hts (.fieldLink RX0 28 "HouseBells$House" "wire" "LHouseBells$Row;") (List.mem_of_getElem? (i := 5) rfl)
  have lk_fi31 := hts (.fieldLink RX0 31 "HouseBells$House" "cut" "LHouseBells$Row;") (List.mem_of_getElem? (i := 6) rfl)
  have lk_fi34 := hts (.fieldLink RX0 34 "HouseBells$House" "waited" "LHouseBells$Row;") (List.mem_of_getElem? (i := 7) rfl)
  have in_X0 : ∀ w ∈ wsX00, w ∈ wsX0_openRoom := fun _ h => (List.mem_cons_of_mem _ (List.mem_append_left _ (List.mem_append_right _ h)))
  subst hsz
  have hD := hD0.self (sz := s.heap.size)
  generalize hAe : va_A (z_wH X d h) s.heap.size = A at hD ⊢
  have hA : ∀ q : Nat, s.heap.size ≤ q → A q := fun q h => by rw [← hAe]; exact Or.inr h
  have hS : va_S A s.heap s.heap [] := va_S.rf
  have hl := lv_entry ([.ref (d 0), .int v1, .int v2, .int v3]) (n := 5) (Nat.le_of_ble_eq_true rfl)
  rw [lg_entry_eq]
  generalize (lg_sl ([.ref (d 0), .int v1, .int v2, .int v3]) ++ List.replicate (5 - (lg_sl ([.ref (d 0), .int v1, .int v2, .int v3])).length) Slot.unset).toArray = ls at hl ⊢
  have hl : lv_has ls 5 [(0, .ref (d 0)), (1, .int v1), (2, .int v2), (3, .int v3)] := hl
  suffices hgo : ∀ (H : Heap) (locs : List Loc), va_P X.1 vwCl (z_wH X d h) H → va_D A (z_wH X d h) → va_S A s.heap H locs → W p l e (headSpec wsX0_openRoom (z_R 1 22)).room s m ([.ref (d 0), .int v1, .int v2, .int v3] : List Value).toArray below meth c H locs 0 0 (MQ below (va_Qi (fun (z : Int32) (u : va_W) => z = RR.1 ∧ u = (z_wH X d RR.2)) (z_Bm X A) A) ([.ref (d 0), .int v1, .int v2, .int v3] : List Value).toArray s 0 0 A) (F0 m 0 ls []) from hgo _ _ hP hD hS
  clear hP hD hS
  intro H locs hP hD hS
  unfold f_X0_openRoom at hf
  refine lv_aload_n (pc := 0) hx hb dX0_openRoom_0 rfl (lv_at hl 0 rfl) ?_
  refine va_get (pc := 1) (ci := 0) (C := RX0) (T := TX0) (N := 15) hx hb hts in_X0 hown hK hP 0 rfl rfl 1 (by decide) lk_fi54 (fun _ h9 => h9) rfl dX0_openRoom_1 ?_
  refine lv_istore (pc := 4) (lv' := [(4, .int (h.1 1)), (0, .ref (d 0)), (1, .int v1), (2, .int v2), (3, .int v3)]) hx hb dX0_openRoom_4 hl (by decide) rfl (fun ls hl => ?_)
  refine lv_aload_n (pc := 6) hx hb dX0_openRoom_6 rfl (lv_at hl 1 rfl) ?_
  refine lv_dup (pc := 7) hx hb dX0_openRoom_7 rfl ?_
  refine va_get (pc := 8) (ci := 0) (C := RX0) (T := TX0) (N := 15) hx hb hts in_X0 hown hK hP 0 rfl rfl 1 (by decide) lk_fi54 (fun _ h9 => h9) rfl dX0_openRoom_8 ?_
  refine lv_iconst (v := 1) (pc := 11) hx hb dX0_openRoom_11 (by decide) ?_
  refine lv_iadd (pc := 12) hx hb dX0_openRoom_12 ?_
  refine z_put (pc := 13) (ci := 0) (C := RX0) (T := TX0) (N := 15) (W1 := (z_wH X d (z_hS h 1 ((h.1 1) + 1)))) hx hb hts in_X0 tyX0 tyX0_ok nmX0 hown hK hP hD hS 0 rfl rfl 1 (by decide) lk_fi54 (fun _ h9 => h9) rfl (by decide +kernel) (Nat.le_of_ble_eq_true rfl) dX0_openRoom_13 rfl (fun H locs hP hD hS => ?_)
  refine lv_aload_n (pc := 16) hx hb dX0_openRoom_16 rfl (lv_at hl 1 rfl) ?_
  refine va_get (pc := 17) (ci := 0) (C := RX0) (T := TX0) (N := 15) hx hb hts in_X0 hown hK hP 0 rfl rfl 7 (by decide) lk_fi18 (fun _ h9 => h9) rfl dX0_openRoom_17 ?_
  refine lv_iload (pc := 20) hx hb dX0_openRoom_20 (lv_at hl 0 rfl) ?_
  refine lv_iload_n (pc := 22) hx hb dX0_openRoom_22 rfl (lv_at hl 2 rfl) ?_
  refine z_cmV (pc := 23) (W1 := (z_wH X d (z_hR (z_hS h 1 ((h.1 1) + 1)) 0 (z_rs (h.2.1 0) (h.1 1) v1)))) S (m_X2_set l X (d 1) (d 2) (h.2.1 0) (h.1 1) v1) (cwV 2 hts gX0_openRoom_X2_set rfl rfl rfl hdX2_set ⟨Nat.le_of_ble_eq_true rfl, Nat.le_of_ble_eq_true rfl⟩) hP hK hN hD hS hA (s_H_R1 X d (z_hS h 1 ((h.1 1) + 1))) (f_H_R1 X d (z_hS h 1 ((h.1 1) + 1)) (z_rs (h.2.1 0) (h.1 1) v1)) (ci := 2) rfl rfl rfl ⟨Nat.le_of_ble_eq_true rfl, Nat.le_of_ble_eq_true rfl⟩ rfl hl.1 rfl (Nat.le_of_ble_eq_true rfl) dX0_openRoom_23 (fun H locs hP hD hS => ?_)
  refine lv_aload_n (pc := 26) hx hb dX0_openRoom_26 rfl (lv_at hl 1 rfl) ?_
  refine va_get (pc := 27) (ci := 0) (C := RX0) (T := TX0) (N := 15) hx hb hts in_X0 hown hK hP 0 rfl rfl 8 (by decide) lk_fi22 (fun _ h9 => h9) rfl dX0_openRoom_27 ?_
  refine lv_iload (pc := 30) hx hb dX0_openRoom_30 (lv_at hl 0 rfl) ?_
  refine lv_iload_n (pc := 32) hx hb dX0_openRoom_32 rfl (lv_at hl 3 rfl) ?_
  refine z_cmV (pc := 33) (W1 := (z_wH X d (z_hR (z_hR (z_hS h 1 ((h.1 1) + 1)) 0 (z_rs (h.2.1 0) (h.1 1) v1)) 1 (z_rs (h.2.1 1) (h.1 1) v2)))) S (m_X2_set l X (d 3) (d 4) (h.2.1 1) (h.1 1) v2) (cwV 2 hts gX0_openRoom_X2_set rfl rfl rfl hdX2_set ⟨Nat.le_of_ble_eq_true rfl, Nat.le_of_ble_eq_true rfl⟩) hP hK hN hD hS hA (s_H_R3 X d (z_hR (z_hS h 1 ((h.1 1) + 1)) 0 (z_rs (h.2.1 0) (h.1 1) v1))) (f_H_R3 X d (z_hR (z_hS h 1 ((h.1 1) + 1)) 0 (z_rs (h.2.1 0) (h.1 1) v1)) (z_rs (h.2.1 1) (h.1 1) v2)) (ci := 2) rfl rfl rfl ⟨Nat.le_of_ble_eq_true rfl, Nat.le_of_ble_eq_true rfl⟩ rfl hl.1 rfl (Nat.le_of_ble_eq_true rfl) dX0_openRoom_33 (fun H locs hP hD hS => ?_)
  refine lv_aload_n (pc := 36) hx hb dX0_openRoom_36 rfl (lv_at hl 1 rfl) ?_
  refine va_get (pc := 37) (ci := 0) (C := RX0) (T := TX0) (N := 15) hx hb hts in_X0 hown hK hP 0 rfl rfl 9 (by decide) lk_fi25 (fun _ h9 => h9) rfl dX0_openRoom_37 ?_
  refine lv_iload (pc := 40) hx hb dX0_openRoom_40 (lv_at hl 0 rfl) ?_
  refine lv_iload_n (pc := 42) hx hb dX0_openRoom_42 rfl (lv_at hl 4 rfl) ?_
  refine z_cmV (pc := 43) (W1 := (z_wH X d (z_hR (z_hR (z_hR (z_hS h 1 ((h.1 1) + 1)) 0 (z_rs (h.2.1 0) (h.1 1) v1)) 1 (z_rs (h.2.1 1) (h.1 1) v2)) 2 (z_rs (h.2.1 2) (h.1 1) v3)))) S (m_X2_set l X (d 5) (d 6) (h.2.1 2) (h.1 1) v3) (cwV 2 hts gX0_openRoom_X2_set rfl rfl rfl hdX2_set ⟨Nat.le_of_ble_eq_true rfl, Nat.le_of_ble_eq_true rfl⟩) hP hK hN hD hS hA (s_H_R5 X d (z_hR (z_hR (z_hS h 1 ((h.1 1) + 1)) 0 (z_rs (h.2.1 0) (h.1 1) v1)) 1 (z_rs (h.2.1 1) (h.1 1) v2))) (f_H_R5 X d (z_hR (z_hR (z_hS h 1 ((h.1 1) + 1)) 0 (z_rs (h.2.1 0) (h.1 1) v1)) 1 (z_rs (h.2.1 1) (h.1 1) v2)) (z_rs (h.2.1 2) (h.1 1) v3)) (ci := 2) rfl rfl rfl ⟨Nat.le_of_ble_eq_true rfl, Nat.le_of_ble_eq_true rfl⟩ rfl hl.1 rfl (Nat.le_of_ble_eq_true rfl) dX0_openRoom_43 (fun H locs hP hD hS => ?_)
  refine lv_aload_n (pc := 46) hx hb dX0_openRoom_46 rfl (lv_at hl 1 rfl) ?_
  refine va_get (pc := 47) (ci := 0) (C := RX0) (T := TX0) (N := 15) hx hb hts in_X0 hown hK hP 0 rfl rfl 10 (by decide) lk_fi28 (fun _ h9 => h9) rfl dX0_openRoom_47 ?_
  refine lv_iload (pc := 50) hx hb dX0_openRoom_50 (lv_at hl 0 rfl) ?_
  refine lv_iload (pc := 52) hx hb dX0_openRoom_52 (lv_at hl 0 rfl) ?_
  refine z_cmV (pc := 54) (W1 := (z_wH X d (z_hR (z_hR (z_hR (z_hR (z_hS h 1 ((h.1 1) + 1)) 0 (z_rs (h.2.1 0) (h.1 1) v1)) 1 (z_rs (h.2.1 1) (h.1 1) v2)) 2 (z_rs (h.2.1 2) (h.1 1) v3)) 3 (z_rs (h.2.1 3) (h.1 1) (h.1 1))))) S (m_X2_set l X (d 7) (d 8) (h.2.1 3) (h.1 1) (h.1 1)) (cwV 2 hts gX0_openRoom_X2_set rfl rfl rfl hdX2_set ⟨Nat.le_of_ble_eq_true rfl, Nat.le_of_ble_eq_true rfl⟩) hP hK hN hD hS hA (s_H_R7 X d (z_hR (z_hR (z_hR (z_hS h 1 ((h.1 1) + 1)) 0 (z_rs (h.2.1 0) (h.1 1) v1)) 1 (z_rs (h.2.1 1) (h.1 1) v2)) 2 (z_rs (h.2.1 2) (h.1 1) v3))) (f_H_R7 X d (z_hR (z_hR (z_hR (z_hS h 1 ((h.1 1) + 1)) 0 (z_rs (h.2.1 0) (h.1 1) v1)) 1 (z_rs (h.2.1 1) (h.1 1) v2)) 2 (z_rs (h.2.1 2) (h.1 1) v3)) (z_rs (h.2.1 3) (h.1 1) (h.1 1))) (ci := 2) rfl rfl rfl ⟨Nat.le_of_ble_eq_true rfl, Nat.le_of_ble_eq_true rfl⟩ rfl hl.1 rfl (Nat.le_of_ble_eq_true rfl) dX0_openRoom_54 (fun H locs hP hD hS => ?_)
  refine lv_aload_n (pc := 57) hx hb dX0_openRoom_57 rfl (lv_at hl 1 rfl) ?_
  refine va_get (pc := 58) (ci := 0) (C := RX0) (T := TX0) (N := 15) hx hb hts in_X0 hown hK hP 0 rfl rfl 11 (by decide) lk_fi31 (fun _ h9 => h9) rfl dX0_openRoom_58 ?_
  refine lv_iload (pc := 61) hx hb dX0_openRoom_61 (lv_at hl 0 rfl) ?_
  refine lv_iconst (v := 0) (pc := 63) hx hb dX0_openRoom_63 (by decide) ?_
  refine z_cmV (pc := 64) (W1 := (z_wH X d (z_hR (z_hR (z_hR (z_hR (z_hR (z_hS h 1 ((h.1 1) + 1)) 0 (z_rs (h.2.1 0) (h.1 1) v1)) 1 (z_rs (h.2.1 1) (h.1 1) v2)) 2 (z_rs (h.2.1 2) (h.1 1) v3)) 3 (z_rs (h.2.1 3) (h.1 1) (h.1 1))) 4 (z_rs (h.2.1 4) (h.1 1) 0)))) S (m_X2_set l X (d 9) (d 10) (h.2.1 4) (h.1 1) 0) (cwV 2 hts gX0_openRoom_X2_set rfl rfl rfl hdX2_set ⟨Nat.le_of_ble_eq_true rfl, Nat.le_of_ble_eq_true rfl⟩) hP hK hN hD hS hA (s_H_R9 X d (z_hR (z_hR (z_hR (z_hR (z_hS h 1 ((h.1 1) + 1)) 0 (z_rs (h.2.1 0) (h.1 1) v1)) 1 (z_rs (h.2.1 1) (h.1 1) v2)) 2 (z_rs (h.2.1 2) (h.1 1) v3)) 3 (z_rs (h.2.1 3) (h.1 1) (h.1 1)))) (f_H_R9 X d (z_hR (z_hR (z_hR (z_hR (z_hS h 1 ((h.1 1) + 1)) 0 (z_rs (h.2.1 0) (h.1 1) v1)) 1 (z_rs (h.2.1 1) (h.1 1) v2)) 2 (z_rs (h.2.1 2) (h.1 1) v3)) 3 (z_rs (h.2.1 3) (h.1 1) (h.1 1))) (z_rs (h.2.1 4) (h.1 1) 0)) (ci := 2) rfl rfl rfl ⟨Nat.le_of_ble_eq_true rfl, Nat.le_of_ble_eq_true rfl⟩ rfl hl.1 rfl (Nat.le_of_ble_eq_true rfl) dX0_openRoom_64 (fun H locs hP hD hS => ?_)
  refine lv_aload_n (pc := 67) hx hb dX0_openRoom_67 rfl (lv_at hl 1 rfl) ?_
  refine va_get (pc := 68) (ci := 0) (C := RX0) (T := TX0) (N := 15) hx hb hts in_X0 hown hK hP 0 rfl rfl 12 (by decide) lk_fi34 (fun _ h9 => h9) rfl dX0_openRoom_68 ?_
  refine lv_iload (pc := 71) hx hb dX0_openRoom_71 (lv_at hl 0 rfl) ?_
  refine lv_iconst (v := (-1)) (pc := 73) hx hb dX0_openRoom_73 (by decide) ?_
  refine z_cmV (pc := 74) (W1 := (z_wH X d (z_hR (z_hR (z_hR (z_hR (z_hR (z_hR (z_hS h 1 ((h.1 1) + 1)) 0 (z_rs (h.2.1 0) (h.1 1) v1)) 1 (z_rs (h.2.1 1) (h.1 1) v2)) 2 (z_rs (h.2.1 2) (h.1 1) v3)) 3 (z_rs (h.2.1 3) (h.1 1) (h.1 1))) 4 (z_rs (h.2.1 4) (h.1 1) 0)) 5 (z_rs (h.2.1 5) (h.1 1) (-1))))) S (m_X2_set l X (d 11) (d 12) (h.2.1 5) (h.1 1) (-1)) (cwV 2 hts gX0_openRoom_X2_set rfl rfl rfl hdX2_set ⟨Nat.le_of_ble_eq_true rfl, Nat.le_of_ble_eq_true rfl⟩) hP hK hN hD hS hA (s_H_R11 X d (z_hR (z_hR (z_hR (z_hR (z_hR (z_hS h 1 ((h.1 1) + 1)) 0 (z_rs (h.2.1 0) (h.1 1) v1)) 1 (z_rs (h.2.1 1) (h.1 1) v2)) 2 (z_rs (h.2.1 2) (h.1 1) v3)) 3 (z_rs (h.2.1 3) (h.1 1) (h.1 1))) 4 (z_rs (h.2.1 4) (h.1 1) 0))) (f_H_R11 X d (z_hR (z_hR (z_hR (z_hR (z_hR (z_hS h 1 ((h.1 1) + 1)) 0 (z_rs (h.2.1 0) (h.1 1) v1)) 1 (z_rs (h.2.1 1) (h.1 1) v2)) 2 (z_rs (h.2.1 2) (h.1 1) v3)) 3 (z_rs (h.2.1 3) (h.1 1) (h.1 1))) 4 (z_rs (h.2.1 4) (h.1 1) 0)) (z_rs (h.2.1 5) (h.1 1) (-1))) (ci := 2) rfl rfl rfl ⟨Nat.le_of_ble_eq_true rfl, Nat.le_of_ble_eq_true rfl⟩ rfl hl.1 rfl (Nat.le_of_ble_eq_true rfl) dX0_openRoom_74 (fun H locs hP hD hS => ?_)
  refine lv_iload (pc := 77) hx hb dX0_openRoom_77 (lv_at hl 0 rfl) ?_
  exact W.iret (pc := 79) (v := (h.1 1)) hx hb hr (fun t ht hW => ⟨⟨_, (z_wH X d (z_hR (z_hR (z_hR (z_hR (z_hR (z_hR (z_hS h 1 ((h.1 1) + 1)) 0 (z_rs (h.2.1 0) (h.1 1) v1)) 1 (z_rs (h.2.1 1) (h.1 1) v2)) 2 (z_rs (h.2.1 2) (h.1 1) v3)) 3 (z_rs (h.2.1 3) (h.1 1) (h.1 1))) 4 (z_rs (h.2.1 4) (h.1 1) 0)) 5 (z_rs (h.2.1 5) (h.1 1) (-1)))), rfl, ⟨z_t1 hf, congrArg (fun z => (z_wH X d z)) (z_t2 hf)⟩, by rw [ht]; exact hP, hD⟩, hS.F ht⟩) hS.2.2 dX0_openRoom_79
def f_X0_isWaiting (h : z_H) (v1 : Int32) : Int32 := (if (z_rg (h.2.1 5) v1) = (-1) then 0 else 1)
set_option maxHeartbeats 4000000 in
set_option maxRecDepth 100000 in
theorem m_X0_isWaiting (l : Launch) (X : z_X) (d : Nat → Nat) (h : z_H) (v1 : Int32) {RR : Int32} (hf : f_X0_isWaiting h v1 = RR) : z_pI l yX0_isWaiting wsX0_isWaiting 1 21 X [.ref (d 0), .int v1] (z_wH X d h) RR := by
  refine Met.ofW (cc := cX0_isWaiting) (maxL := 2) (ret := (some .boolean)) (by decide) rfl ?_
  intro p e s m args below meth c s₁ Bd hml hv
  obtain ⟨rfl, hP, hK, hN⟩ := hv
  have hx := Bd.exec
  have hb := Bd.bytes
  have hr := Bd.returns
  have hts := atoms_spec (ws := wsX0_isWaiting) Bd.pre
  have hown : s.vm.findClass RX0 = some m.cls := findClass_of_methodNamed Bd.named
  have hlocks := Bd.notSynchronized
  have S : CallFix p m c cX0_isWaiting 2 s _ wsX0_isWaiting RX0 := ⟨hx, hb, hml, hown, hts⟩
  have lk_fi34 := hts (.fieldLink RX0 34 "HouseBells$House" "waited" "LHouseBells$Row;") (List.mem_of_getElem? (i := 1) rfl)
  have in_X0 : ∀ w ∈ wsX00, w ∈ wsX0_isWaiting := fun _ h => (List.mem_cons_of_mem _ (List.mem_append_left _ (List.mem_append_right _ h)))
  have hl := lv_entry ([.ref (d 0), .int v1]) (n := 2) (Nat.le_of_ble_eq_true rfl)
  rw [lg_entry_eq]
  generalize (lg_sl ([.ref (d 0), .int v1]) ++ List.replicate (2 - (lg_sl ([.ref (d 0), .int v1])).length) Slot.unset).toArray = ls at hl ⊢
  have hl : lv_has ls 2 [(0, .ref (d 0)), (1, .int v1)] := hl
  unfold f_X0_isWaiting at hf
  refine lv_aload_n (pc := 0) hx hb dX0_isWaiting_0 rfl (lv_at hl 0 rfl) ?_
  refine va_get (pc := 1) (ci := 0) (C := RX0) (T := TX0) (N := 15) hx hb hts in_X0 hown hK hP 0 rfl rfl 12 (by decide) lk_fi34 (fun _ h9 => h9) rfl dX0_isWaiting_1 ?_
  refine lv_iload_n (pc := 4) hx hb dX0_isWaiting_4 rfl (lv_at hl 1 rfl) ?_
  refine z_cpI (pc := 5) S (m_X2_get l X (d 11) (d 12) (h.2.1 5) v1) (cwV 1 hts gX0_isWaiting_X2_get rfl rfl rfl hdX2_get ⟨Nat.le_of_ble_eq_true rfl, Nat.le_of_ble_eq_true rfl⟩) hP hK hN (s_H_R11 X d h) (ci := 2) rfl rfl rfl ⟨Nat.le_of_ble_eq_true rfl, Nat.le_of_ble_eq_true rfl⟩ rfl hl.1 rfl (Nat.le_of_ble_eq_true rfl) dX0_isWaiting_5 ?_
  refine lv_iconst (v := (-1)) (pc := 8) hx hb dX0_isWaiting_8 (by decide) ?_
  refine lv_icmp_eq (pc := 9) (tgt := 16) hx hb dX0_isWaiting_9 (by decide) (fun c_9 => ?_) (fun c_9 => ?_)
  · replace hf := z_ip c_9 hf
    refine lv_iconst (v := 0) (pc := 16) hx hb dX0_isWaiting_16 (by decide) ?_
    exact W.zret (pc := 17) (v := 0) hx hb hr rfl (fun t ht hW => ⟨_, rfl, hf, ht⟩) (fun _ h => nomatch h) dX0_isWaiting_17
  · replace hf := z_in c_9 hf
    refine lv_iconst (v := 1) (pc := 12) hx hb dX0_isWaiting_12 (by decide) ?_
    refine lv_goto (pc := 13) (tgt := 17) hx hb dX0_isWaiting_13 (by decide) ?_
    exact W.zret (pc := 17) (v := 1) hx hb hr rfl (fun t ht hW => ⟨_, rfl, hf, ht⟩) (fun _ h => nomatch h) dX0_isWaiting_17
def f_X0_isAnyoneWaiting_L2 (h : z_H) : Nat → Int32 → Option Int32
  | 0, _ => none
  | n + 1, u1 => (if (h.1 1) ≤ u1 then some 0 else (if (z_rg (h.2.1 5) u1) = (-1) then f_X0_isAnyoneWaiting_L2 h n (u1 + 1) else some 1))
def f_X0_isAnyoneWaiting (h : z_H) : Option Int32 := f_X0_isAnyoneWaiting_L2 h z_FU 0
set_option maxHeartbeats 4000000 in
set_option maxRecDepth 100000 in
theorem m_X0_isAnyoneWaiting (l : Launch) (X : z_X) (d : Nat → Nat) (h : z_H) {RR : Int32} (hf : f_X0_isAnyoneWaiting h = some RR) : z_pI l yX0_isAnyoneWaiting wsX0_isAnyoneWaiting 1 21 X [.ref (d 0)] (z_wH X d h) RR := by
  refine Met.ofW (cc := cX0_isAnyoneWaiting) (maxL := 2) (ret := (some .boolean)) (by decide) rfl ?_
  intro p e s m args below meth c s₁ Bd hml hv
  obtain ⟨rfl, hP, hK, hN⟩ := hv
  have hx := Bd.exec
  have hb := Bd.bytes
  have hr := Bd.returns
  have hts := atoms_spec (ws := wsX0_isAnyoneWaiting) Bd.pre
  have hown : s.vm.findClass RX0 = some m.cls := findClass_of_methodNamed Bd.named
  have hlocks := Bd.notSynchronized
  have S : CallFix p m c cX0_isAnyoneWaiting 2 s _ wsX0_isAnyoneWaiting RX0 := ⟨hx, hb, hml, hown, hts⟩
  have lk_fi54 := hts (.fieldLink RX0 54 "HouseBells$House" "roomCount" "I") (List.mem_of_getElem? (i := 1) rfl)
  have lk_fi34 := hts (.fieldLink RX0 34 "HouseBells$House" "waited" "LHouseBells$Row;") (List.mem_of_getElem? (i := 2) rfl)
  have in_X0 : ∀ w ∈ wsX00, w ∈ wsX0_isAnyoneWaiting := fun _ h => (List.mem_cons_of_mem _ (List.mem_append_left _ (List.mem_append_right _ h)))
  have hl := lv_entry ([.ref (d 0)]) (n := 2) (Nat.le_of_ble_eq_true rfl)
  rw [lg_entry_eq]
  generalize (lg_sl ([.ref (d 0)]) ++ List.replicate (2 - (lg_sl ([.ref (d 0)])).length) Slot.unset).toArray = ls at hl ⊢
  have hl : lv_has ls 2 [(0, .ref (d 0))] := hl
  have lp_2 : ∀ (n : Nat) (u1 : Int32) (ls : Array Slot), lv_has ls 2 [(0, .ref (d 0)), (1, .int u1)] → f_X0_isAnyoneWaiting_L2 h n u1 = some RR → W p l e (headSpec wsX0_isAnyoneWaiting (z_R 1 21)).room s m ([.ref (d 0)] : List Value).toArray below meth c s.heap [] 0 0 (MQ below (vp_Si (fun z => z = RR)) ([.ref (d 0)] : List Value).toArray s 0 0 (fun _ => False)) (F0 m 2 ls []) := by
    intro n
    induction n with
    | zero =>
      intro u1 ls hl hf
      cases hf
    | succ n ih =>
      intro u1 ls hl hf
      rw [f_X0_isAnyoneWaiting_L2] at hf
      refine lv_iload_n (pc := 2) hx hb dX0_isAnyoneWaiting_2 rfl (lv_at hl 1 rfl) ?_
      refine lv_aload_n (pc := 3) hx hb dX0_isAnyoneWaiting_3 rfl (lv_at hl 0 rfl) ?_
      refine va_get (pc := 4) (ci := 0) (C := RX0) (T := TX0) (N := 15) hx hb hts in_X0 hown hK hP 0 rfl rfl 1 (by decide) lk_fi54 (fun _ h9 => h9) rfl dX0_isAnyoneWaiting_4 ?_
      refine lv_icmp_ge (pc := 7) (tgt := 30) hx hb dX0_isAnyoneWaiting_7 (by decide) (fun c_7 => ?_) (fun c_7 => ?_)
      · replace hf := z_ip c_7 hf
        refine lv_iconst (v := 0) (pc := 30) hx hb dX0_isAnyoneWaiting_30 (by decide) ?_
        exact W.zret (pc := 31) (v := 0) hx hb hr rfl (fun t ht hW => ⟨_, rfl, (Option.some.inj hf), ht⟩) (fun _ h => nomatch h) dX0_isAnyoneWaiting_31
      · replace hf := z_in c_7 hf
        refine lv_aload_n (pc := 10) hx hb dX0_isAnyoneWaiting_10 rfl (lv_at hl 0 rfl) ?_
        refine va_get (pc := 11) (ci := 0) (C := RX0) (T := TX0) (N := 15) hx hb hts in_X0 hown hK hP 0 rfl rfl 12 (by decide) lk_fi34 (fun _ h9 => h9) rfl dX0_isAnyoneWaiting_11 ?_
        refine lv_iload_n (pc := 14) hx hb dX0_isAnyoneWaiting_14 rfl (lv_at hl 1 rfl) ?_
        refine z_cpI (pc := 15) S (m_X2_get l X (d 11) (d 12) (h.2.1 5) u1) (cwV 1 hts gX0_isAnyoneWaiting_X2_get rfl rfl rfl hdX2_get ⟨Nat.le_of_ble_eq_true rfl, Nat.le_of_ble_eq_true rfl⟩) hP hK hN (s_H_R11 X d h) (ci := 2) rfl rfl rfl ⟨Nat.le_of_ble_eq_true rfl, Nat.le_of_ble_eq_true rfl⟩ rfl hl.1 rfl (Nat.le_of_ble_eq_true rfl) dX0_isAnyoneWaiting_15 ?_
        refine lv_iconst (v := (-1)) (pc := 18) hx hb dX0_isAnyoneWaiting_18 (by decide) ?_
        refine lv_icmp_eq (pc := 19) (tgt := 24) hx hb dX0_isAnyoneWaiting_19 (by decide) (fun c_19 => ?_) (fun c_19 => ?_)
        · replace hf := z_ip c_19 hf
          refine lv_iinc (pc := 24) (v := (u1 + 1)) (lv' := [(1, .int (u1 + 1)), (0, .ref (d 0))]) hx hb dX0_isAnyoneWaiting_24 hl (k := 1) rfl rfl (by decide) rfl (fun ls hl => ?_)
          refine lv_goto (pc := 27) (tgt := 2) hx hb dX0_isAnyoneWaiting_27 (by decide) ?_
          exact ih (u1 + 1) ls (lv_sub hl [1, 0] rfl) hf
        · replace hf := z_in c_19 hf
          refine lv_iconst (v := 1) (pc := 22) hx hb dX0_isAnyoneWaiting_22 (by decide) ?_
          exact W.zret (pc := 23) (v := 1) hx hb hr rfl (fun t ht hW => ⟨_, rfl, (Option.some.inj hf), ht⟩) (fun _ h => nomatch h) dX0_isAnyoneWaiting_23
  unfold f_X0_isAnyoneWaiting at hf
  refine lv_iconst (v := 0) (pc := 0) hx hb dX0_isAnyoneWaiting_0 (by decide) ?_
  refine lv_istore_n (pc := 1) (lv' := [(1, .int 0), (0, .ref (d 0))]) hx hb dX0_isAnyoneWaiting_1 rfl hl (by decide) rfl (fun ls hl => ?_)
  exact lp_2 z_FU 0 ls (lv_sub hl [1, 0] rfl) hf
def f_X0_isWireCut (h : z_H) (v1 : Int32) : Int32 := (if (z_rg (h.2.1 4) v1) = 1 then 1 else 0)
set_option maxHeartbeats 4000000 in
set_option maxRecDepth 100000 in
theorem m_X0_isWireCut (l : Launch) (X : z_X) (d : Nat → Nat) (h : z_H) (v1 : Int32) {RR : Int32} (hf : f_X0_isWireCut h v1 = RR) : z_pI l yX0_isWireCut wsX0_isWireCut 1 21 X [.ref (d 0), .int v1] (z_wH X d h) RR := by
  refine Met.ofW (cc := cX0_isWireCut) (maxL := 2) (ret := (some .boolean)) (by decide) rfl ?_
  intro p e s m args below meth c s₁ Bd hml hv
  obtain ⟨rfl, hP, hK, hN⟩ := hv
  have hx := Bd.exec
  have hb := Bd.bytes
  have hr := Bd.returns
  have hts := atoms_spec (ws := wsX0_isWireCut) Bd.pre
  have hown : s.vm.findClass RX0 = some m.cls := findClass_of_methodNamed Bd.named
  have hlocks := Bd.notSynchronized
  have S : CallFix p m c cX0_isWireCut 2 s _ wsX0_isWireCut RX0 := ⟨hx, hb, hml, hown, hts⟩
  have lk_fi31 := hts (.fieldLink RX0 31 "HouseBells$House" "cut" "LHouseBells$Row;") (List.mem_of_getElem? (i := 1) rfl)
  have in_X0 : ∀ w ∈ wsX00, w ∈ wsX0_isWireCut := fun _ h => (List.mem_cons_of_mem _ (List.mem_append_left _ (List.mem_append_right _ h)))
  have hl := lv_entry ([.ref (d 0), .int v1]) (n := 2) (Nat.le_of_ble_eq_true rfl)
  rw [lg_entry_eq]
  generalize (lg_sl ([.ref (d 0), .int v1]) ++ List.replicate (2 - (lg_sl ([.ref (d 0), .int v1])).length) Slot.unset).toArray = ls at hl ⊢
  have hl : lv_has ls 2 [(0, .ref (d 0)), (1, .int v1)] := hl
  unfold f_X0_isWireCut at hf
  refine lv_aload_n (pc := 0) hx hb dX0_isWireCut_0 rfl (lv_at hl 0 rfl) ?_
  refine va_get (pc := 1) (ci := 0) (C := RX0) (T := TX0) (N := 15) hx hb hts in_X0 hown hK hP 0 rfl rfl 11 (by decide) lk_fi31 (fun _ h9 => h9) rfl dX0_isWireCut_1 ?_
  refine lv_iload_n (pc := 4) hx hb dX0_isWireCut_4 rfl (lv_at hl 1 rfl) ?_
  refine z_cpI (pc := 5) S (m_X2_get l X (d 9) (d 10) (h.2.1 4) v1) (cwV 1 hts gX0_isWireCut_X2_get rfl rfl rfl hdX2_get ⟨Nat.le_of_ble_eq_true rfl, Nat.le_of_ble_eq_true rfl⟩) hP hK hN (s_H_R9 X d h) (ci := 2) rfl rfl rfl ⟨Nat.le_of_ble_eq_true rfl, Nat.le_of_ble_eq_true rfl⟩ rfl hl.1 rfl (Nat.le_of_ble_eq_true rfl) dX0_isWireCut_5 ?_
  refine lv_iconst (v := 1) (pc := 8) hx hb dX0_isWireCut_8 (by decide) ?_
  refine lv_icmp_ne (pc := 9) (tgt := 16) hx hb dX0_isWireCut_9 (by decide) (fun c_9 => ?_) (fun c_9 => ?_)
  · replace hf := z_in c_9 hf
    refine lv_iconst (v := 0) (pc := 16) hx hb dX0_isWireCut_16 (by decide) ?_
    exact W.zret (pc := 17) (v := 0) hx hb hr rfl (fun t ht hW => ⟨_, rfl, hf, ht⟩) (fun _ h => nomatch h) dX0_isWireCut_17
  · replace hf := z_ip c_9 hf
    refine lv_iconst (v := 1) (pc := 12) hx hb dX0_isWireCut_12 (by decide) ?_
    refine lv_goto (pc := 13) (tgt := 17) hx hb dX0_isWireCut_13 (by decide) ?_
    exact W.zret (pc := 17) (v := 1) hx hb hr rfl (fun t ht hW => ⟨_, rfl, hf, ht⟩) (fun _ h => nomatch h) dX0_isWireCut_17
def f_X0_countCutWires_L4 (h : z_H) : Nat → Int32 → Int32 → Option Int32
  | 0, _, _ => none
  | n + 1, u1, u2 => (if (h.1 1) ≤ u2 then some u1 else f_X0_countCutWires_L4 h n (u1 + (z_rg (h.2.1 4) u2)) (u2 + 1))
def f_X0_countCutWires (h : z_H) : Option Int32 := (f_X0_countCutWires_L4 h z_FU 0 0).bind (fun x4 => some x4)
set_option maxHeartbeats 4000000 in
set_option maxRecDepth 100000 in
theorem m_X0_countCutWires (l : Launch) (X : z_X) (d : Nat → Nat) (h : z_H) {RR : Int32} (hf : f_X0_countCutWires h = some RR) : z_pI l yX0_countCutWires wsX0_countCutWires 1 21 X [.ref (d 0)] (z_wH X d h) RR := by
  refine Met.ofW (cc := cX0_countCutWires) (maxL := 3) (ret := (some .int)) (by decide) rfl ?_
  intro p e s m args below meth c s₁ Bd hml hv
  obtain ⟨rfl, hP, hK, hN⟩ := hv
  have hx := Bd.exec
  have hb := Bd.bytes
  have hr := Bd.returns
  have hts := atoms_spec (ws := wsX0_countCutWires) Bd.pre
  have hown : s.vm.findClass RX0 = some m.cls := findClass_of_methodNamed Bd.named
  have hlocks := Bd.notSynchronized
  have S : CallFix p m c cX0_countCutWires 3 s _ wsX0_countCutWires RX0 := ⟨hx, hb, hml, hown, hts⟩
  have lk_fi54 := hts (.fieldLink RX0 54 "HouseBells$House" "roomCount" "I") (List.mem_of_getElem? (i := 1) rfl)
  have lk_fi31 := hts (.fieldLink RX0 31 "HouseBells$House" "cut" "LHouseBells$Row;") (List.mem_of_getElem? (i := 2) rfl)
  have in_X0 : ∀ w ∈ wsX00, w ∈ wsX0_countCutWires := fun _ h => (List.mem_cons_of_mem _ (List.mem_append_left _ (List.mem_append_right _ h)))
  have hl := lv_entry ([.ref (d 0)]) (n := 3) (Nat.le_of_ble_eq_true rfl)
  rw [lg_entry_eq]
  generalize (lg_sl ([.ref (d 0)]) ++ List.replicate (3 - (lg_sl ([.ref (d 0)])).length) Slot.unset).toArray = ls at hl ⊢
  have hl : lv_has ls 3 [(0, .ref (d 0))] := hl
  have lp_4 : ∀ (n : Nat) (u1 : Int32) (u2 : Int32) (T : Int32) (ls : Array Slot), lv_has ls 3 [(0, .ref (d 0)), (1, .int u1), (2, .int u2)] → f_X0_countCutWires_L4 h n u1 u2 = some T → (∀ (ls : Array Slot), lv_has ls 3 [(1, .int T)] → W p l e (headSpec wsX0_countCutWires (z_R 1 21)).room s m ([.ref (d 0)] : List Value).toArray below meth c s.heap [] 0 0 (MQ below (vp_Si (fun z => z = RR)) ([.ref (d 0)] : List Value).toArray s 0 0 (fun _ => False)) (F0 m 29 ls [])) → W p l e (headSpec wsX0_countCutWires (z_R 1 21)).room s m ([.ref (d 0)] : List Value).toArray below meth c s.heap [] 0 0 (MQ below (vp_Si (fun z => z = RR)) ([.ref (d 0)] : List Value).toArray s 0 0 (fun _ => False)) (F0 m 4 ls []) := by
    intro n
    induction n with
    | zero =>
      intro u1 u2 T ls hl hf kk
      cases hf
    | succ n ih =>
      intro u1 u2 T ls hl hf kk
      rw [f_X0_countCutWires_L4] at hf
      refine lv_iload_n (pc := 4) hx hb dX0_countCutWires_4 rfl (lv_at hl 2 rfl) ?_
      refine lv_aload_n (pc := 5) hx hb dX0_countCutWires_5 rfl (lv_at hl 0 rfl) ?_
      refine va_get (pc := 6) (ci := 0) (C := RX0) (T := TX0) (N := 15) hx hb hts in_X0 hown hK hP 0 rfl rfl 1 (by decide) lk_fi54 (fun _ h9 => h9) rfl dX0_countCutWires_6 ?_
      refine lv_icmp_ge (pc := 9) (tgt := 29) hx hb dX0_countCutWires_9 (by decide) (fun c_9 => ?_) (fun c_9 => ?_)
      · replace hf := z_ip c_9 hf
        obtain rfl := Option.some.inj hf
        exact kk ls (lv_sub hl [1] rfl)
      · replace hf := z_in c_9 hf
        refine lv_iload_n (pc := 12) hx hb dX0_countCutWires_12 rfl (lv_at hl 1 rfl) ?_
        refine lv_aload_n (pc := 13) hx hb dX0_countCutWires_13 rfl (lv_at hl 0 rfl) ?_
        refine va_get (pc := 14) (ci := 0) (C := RX0) (T := TX0) (N := 15) hx hb hts in_X0 hown hK hP 0 rfl rfl 11 (by decide) lk_fi31 (fun _ h9 => h9) rfl dX0_countCutWires_14 ?_
        refine lv_iload_n (pc := 17) hx hb dX0_countCutWires_17 rfl (lv_at hl 2 rfl) ?_
        refine z_cpI (pc := 18) S (m_X2_get l X (d 9) (d 10) (h.2.1 4) u2) (cwV 1 hts gX0_countCutWires_X2_get rfl rfl rfl hdX2_get ⟨Nat.le_of_ble_eq_true rfl, Nat.le_of_ble_eq_true rfl⟩) hP hK hN (s_H_R9 X d h) (ci := 2) rfl rfl rfl ⟨Nat.le_of_ble_eq_true rfl, Nat.le_of_ble_eq_true rfl⟩ rfl hl.1 rfl (Nat.le_of_ble_eq_true rfl) dX0_countCutWires_18 ?_
        refine lv_iadd (pc := 21) hx hb dX0_countCutWires_21 ?_
        refine lv_istore_n (pc := 22) (lv' := [(1, .int (u1 + (z_rg (h.2.1 4) u2))), (0, .ref (d 0)), (2, .int u2)]) hx hb dX0_countCutWires_22 rfl hl (by decide) rfl (fun ls hl => ?_)
        refine lv_iinc (pc := 23) (v := (u2 + 1)) (lv' := [(2, .int (u2 + 1)), (1, .int (u1 + (z_rg (h.2.1 4) u2))), (0, .ref (d 0))]) hx hb dX0_countCutWires_23 hl (k := 2) rfl rfl (by decide) rfl (fun ls hl => ?_)
        refine lv_goto (pc := 26) (tgt := 4) hx hb dX0_countCutWires_26 (by decide) ?_
        exact ih (u1 + (z_rg (h.2.1 4) u2)) (u2 + 1) T ls (lv_sub hl [2, 1, 0] rfl) hf kk
  unfold f_X0_countCutWires at hf
  refine lv_iconst (v := 0) (pc := 0) hx hb dX0_countCutWires_0 (by decide) ?_
  refine lv_istore_n (pc := 1) (lv' := [(1, .int 0), (0, .ref (d 0))]) hx hb dX0_countCutWires_1 rfl hl (by decide) rfl (fun ls hl => ?_)
  refine lv_iconst (v := 0) (pc := 2) hx hb dX0_countCutWires_2 (by decide) ?_
  refine lv_istore_n (pc := 3) (lv' := [(2, .int 0), (1, .int 0), (0, .ref (d 0))]) hx hb dX0_countCutWires_3 rfl hl (by decide) rfl (fun ls hl => ?_)
  obtain ⟨x4, e4, hf⟩ := z_bd hf
  refine lp_4 z_FU 0 0 x4 ls (lv_sub hl [2, 1, 0] rfl) e4 (fun ls hl => ?_)
  refine lv_iload_n (pc := 29) hx hb dX0_countCutWires_29 rfl (lv_at hl 0 rfl) ?_
  exact W.iret (pc := 30) (v := x4) hx hb hr (fun t ht hW => ⟨_, rfl, (Option.some.inj hf), ht⟩) (fun _ h => nomatch h) dX0_countCutWires_30
def f_X0_swapWires (h : z_H) (v1 : Int32) (v2 : Int32) : z_H := (z_hR h 3 (z_rs (z_rs (h.2.1 3) v1 (z_rg (h.2.1 3) v2)) v2 (z_rg (h.2.1 3) v1)))
set_option maxHeartbeats 4000000 in
set_option maxRecDepth 100000 in
theorem m_X0_swapWires (l : Launch) (X : z_X) (d : Nat → Nat) (h : z_H) (v1 : Int32) (v2 : Int32) {RR : z_H} (hf : f_X0_swapWires h v1 v2 = RR) : z_mV l yX0_swapWires wsX0_swapWires 1 22 X [.ref (d 0), .int v1, .int v2] (z_wH X d h) (z_wH X d RR) := by
  intro sz
  refine Met.ofW (cc := cX0_swapWires) (maxL := 4) (ret := none) (by decide) rfl ?_
  intro p e s m args below meth c s₁ Bd hml hv
  obtain ⟨rfl, hsz, hP, hK, hN, hD0⟩ := hv
  have hx := Bd.exec
  have hb := Bd.bytes
  have hr := Bd.returns
  have hts := atoms_spec (ws := wsX0_swapWires) Bd.pre
  have hown : s.vm.findClass RX0 = some m.cls := findClass_of_methodNamed Bd.named
  have hlocks := Bd.notSynchronized
  have S : CallFix p m c cX0_swapWires 4 s _ wsX0_swapWires RX0 := ⟨hx, hb, hml, hown, hts⟩
  have lk_fi28 := hts (.fieldLink RX0 28 "HouseBells$House" "wire" "LHouseBells$Row;") (List.mem_of_getElem? (i := 1) rfl)
  have in_X0 : ∀ w ∈ wsX00, w ∈ wsX0_swapWires := fun _ h => (List.mem_cons_of_mem _ (List.mem_append_left _ (List.mem_append_right _ h)))
  subst hsz
  have hD := hD0.self (sz := s.heap.size)
  generalize hAe : va_A (z_wH X d h) s.heap.size = A at hD ⊢
  have hA : ∀ q : Nat, s.heap.size ≤ q → A q := fun q h => by rw [← hAe]; exact Or.inr h
  have hS : va_S A s.heap s.heap [] := va_S.rf
  have hl := lv_entry ([.ref (d 0), .int v1, .int v2]) (n := 4) (Nat.le_of_ble_eq_true rfl)
  rw [lg_entry_eq]
  generalize (lg_sl ([.ref (d 0), .int v1, .int v2]) ++ List.replicate (4 - (lg_sl ([.ref (d 0), .int v1, .int v2])).length) Slot.unset).toArray = ls at hl ⊢
  have hl : lv_has ls 4 [(0, .ref (d 0)), (1, .int v1), (2, .int v2)] := hl
  suffices hgo : ∀ (H : Heap) (locs : List Loc), va_P X.1 vwCl (z_wH X d h) H → va_D A (z_wH X d h) → va_S A s.heap H locs → W p l e (headSpec wsX0_swapWires (z_R 1 22)).room s m ([.ref (d 0), .int v1, .int v2] : List Value).toArray below meth c H locs 0 0 (MQ below (va_Qv (fun u : va_W => u = (z_wH X d RR)) (z_Bm X A) A) ([.ref (d 0), .int v1, .int v2] : List Value).toArray s 0 0 A) (F0 m 0 ls []) from hgo _ _ hP hD hS
  clear hP hD hS
  intro H locs hP hD hS
  unfold f_X0_swapWires at hf
  refine lv_aload_n (pc := 0) hx hb dX0_swapWires_0 rfl (lv_at hl 0 rfl) ?_
  refine va_get (pc := 1) (ci := 0) (C := RX0) (T := TX0) (N := 15) hx hb hts in_X0 hown hK hP 0 rfl rfl 10 (by decide) lk_fi28 (fun _ h9 => h9) rfl dX0_swapWires_1 ?_
  refine lv_iload_n (pc := 4) hx hb dX0_swapWires_4 rfl (lv_at hl 1 rfl) ?_
  refine z_cpI (pc := 5) S (m_X2_get l X (d 7) (d 8) (h.2.1 3) v1) (cwV 1 hts gX0_swapWires_X2_get rfl rfl rfl hdX2_get ⟨Nat.le_of_ble_eq_true rfl, Nat.le_of_ble_eq_true rfl⟩) hP hK hN (s_H_R7 X d h) (ci := 2) rfl rfl rfl ⟨Nat.le_of_ble_eq_true rfl, Nat.le_of_ble_eq_true rfl⟩ rfl hl.1 rfl (Nat.le_of_ble_eq_true rfl) dX0_swapWires_5 ?_
  refine lv_istore_n (pc := 8) (lv' := [(3, .int (z_rg (h.2.1 3) v1)), (0, .ref (d 0)), (1, .int v1), (2, .int v2)]) hx hb dX0_swapWires_8 rfl hl (by decide) rfl (fun ls hl => ?_)
  refine lv_aload_n (pc := 9) hx hb dX0_swapWires_9 rfl (lv_at hl 1 rfl) ?_
  refine va_get (pc := 10) (ci := 0) (C := RX0) (T := TX0) (N := 15) hx hb hts in_X0 hown hK hP 0 rfl rfl 10 (by decide) lk_fi28 (fun _ h9 => h9) rfl dX0_swapWires_10 ?_
  refine lv_iload_n (pc := 13) hx hb dX0_swapWires_13 rfl (lv_at hl 2 rfl) ?_
  refine lv_aload_n (pc := 14) hx hb dX0_swapWires_14 rfl (lv_at hl 1 rfl) ?_
  refine va_get (pc := 15) (ci := 0) (C := RX0) (T := TX0) (N := 15) hx hb hts in_X0 hown hK hP 0 rfl rfl 10 (by decide) lk_fi28 (fun _ h9 => h9) rfl dX0_swapWires_15 ?_
  refine lv_iload_n (pc := 18) hx hb dX0_swapWires_18 rfl (lv_at hl 3 rfl) ?_
  refine z_cpI (pc := 19) S (m_X2_get l X (d 7) (d 8) (h.2.1 3) v2) (cwV 1 hts gX0_swapWires_X2_get rfl rfl rfl hdX2_get ⟨Nat.le_of_ble_eq_true rfl, Nat.le_of_ble_eq_true rfl⟩) hP hK hN (s_H_R7 X d h) (ci := 2) rfl rfl rfl ⟨Nat.le_of_ble_eq_true rfl, Nat.le_of_ble_eq_true rfl⟩ rfl hl.1 rfl (Nat.le_of_ble_eq_true rfl) dX0_swapWires_19 ?_
  refine z_cmV (pc := 22) (W1 := (z_wH X d (z_hR h 3 (z_rs (h.2.1 3) v1 (z_rg (h.2.1 3) v2))))) S (m_X2_set l X (d 7) (d 8) (h.2.1 3) v1 (z_rg (h.2.1 3) v2)) (cwV 2 hts gX0_swapWires_X2_set rfl rfl rfl hdX2_set ⟨Nat.le_of_ble_eq_true rfl, Nat.le_of_ble_eq_true rfl⟩) hP hK hN hD hS hA (s_H_R7 X d h) (f_H_R7 X d h (z_rs (h.2.1 3) v1 (z_rg (h.2.1 3) v2))) (ci := 2) rfl rfl rfl ⟨Nat.le_of_ble_eq_true rfl, Nat.le_of_ble_eq_true rfl⟩ rfl hl.1 rfl (Nat.le_of_ble_eq_true rfl) dX0_swapWires_22 (fun H locs hP hD hS => ?_)
  refine lv_aload_n (pc := 25) hx hb dX0_swapWires_25 rfl (lv_at hl 1 rfl) ?_
  refine va_get (pc := 26) (ci := 0) (C := RX0) (T := TX0) (N := 15) hx hb hts in_X0 hown hK hP 0 rfl rfl 10 (by decide) lk_fi28 (fun _ h9 => h9) rfl dX0_swapWires_26 ?_
  refine lv_iload_n (pc := 29) hx hb dX0_swapWires_29 rfl (lv_at hl 3 rfl) ?_
  refine lv_iload_n (pc := 30) hx hb dX0_swapWires_30 rfl (lv_at hl 0 rfl) ?_
  refine z_cmV (pc := 31) (W1 := (z_wH X d (z_hR h 3 (z_rs (z_rs (h.2.1 3) v1 (z_rg (h.2.1 3) v2)) v2 (z_rg (h.2.1 3) v1))))) S (m_X2_set l X (d 7) (d 8) (z_rs (h.2.1 3) v1 (z_rg (h.2.1 3) v2)) v2 (z_rg (h.2.1 3) v1)) (cwV 2 hts gX0_swapWires_X2_set rfl rfl rfl hdX2_set ⟨Nat.le_of_ble_eq_true rfl, Nat.le_of_ble_eq_true rfl⟩) hP hK hN hD hS hA (s_H_R7 X d (z_hR h 3 (z_rs (h.2.1 3) v1 (z_rg (h.2.1 3) v2)))) (f_H_R7 X d (z_hR h 3 (z_rs (h.2.1 3) v1 (z_rg (h.2.1 3) v2))) (z_rs (z_rs (h.2.1 3) v1 (z_rg (h.2.1 3) v2)) v2 (z_rg (h.2.1 3) v1))) (ci := 2) rfl rfl rfl ⟨Nat.le_of_ble_eq_true rfl, Nat.le_of_ble_eq_true rfl⟩ rfl hl.1 rfl (Nat.le_of_ble_eq_true rfl) dX0_swapWires_31 (fun H locs hP hD hS => ?_)
  exact W.vret (pc := 34) hx hb hr (fun t ht hW => ⟨⟨(z_wH X d (z_hR h 3 (z_rs (z_rs (h.2.1 3) v1 (z_rg (h.2.1 3) v2)) v2 (z_rg (h.2.1 3) v1)))), rfl, congrArg (fun z => (z_wH X d z)) hf, by rw [ht]; exact hP, hD⟩, hS.F ht⟩) hS.2.2 dX0_swapWires_34
def f_X0_isFirstOfItsCircle_L11 (h : z_H) : Nat → Int32 → Int32 → Int32 → Option Int32
  | 0, _, _, _ => none
  | n + 1, u1, u2, u3 => (if (h.1 1) ≤ u3 then some 1 else (if u2 = u1 then some 1 else (if u1 ≤ u2 then f_X0_isFirstOfItsCircle_L11 h n u1 (z_rg (h.2.1 3) u2) (u3 + 1) else some 0)))
def f_X0_isFirstOfItsCircle (h : z_H) (v1 : Int32) : Option Int32 := f_X0_isFirstOfItsCircle_L11 h z_FU v1 (z_rg (h.2.1 3) v1) 0
set_option maxHeartbeats 4000000 in
set_option maxRecDepth 100000 in
theorem m_X0_isFirstOfItsCircle (l : Launch) (X : z_X) (d : Nat → Nat) (h : z_H) (v1 : Int32) {RR : Int32} (hf : f_X0_isFirstOfItsCircle h v1 = some RR) : z_pI l yX0_isFirstOfItsCircle wsX0_isFirstOfItsCircle 1 21 X [.ref (d 0), .int v1] (z_wH X d h) RR := by
  refine Met.ofW (cc := cX0_isFirstOfItsCircle) (maxL := 4) (ret := (some .boolean)) (by decide) rfl ?_
  intro p e s m args below meth c s₁ Bd hml hv
  obtain ⟨rfl, hP, hK, hN⟩ := hv
  have hx := Bd.exec
  have hb := Bd.bytes
  have hr := Bd.returns
  have hts := atoms_spec (ws := wsX0_isFirstOfItsCircle) Bd.pre
  have hown : s.vm.findClass RX0 = some m.cls := findClass_of_methodNamed Bd.named
  have hlocks := Bd.notSynchronized
  have S : CallFix p m c cX0_isFirstOfItsCircle 4 s _ wsX0_isFirstOfItsCircle RX0 := ⟨hx, hb, hml, hown, hts⟩
  have lk_fi28 := hts (.fieldLink RX0 28 "HouseBells$House" "wire" "LHouseBells$Row;") (List.mem_of_getElem? (i := 1) rfl)
  have lk_fi54 := hts (.fieldLink RX0 54 "HouseBells$House" "roomCount" "I") (List.mem_of_getElem? (i := 2) rfl)
  have in_X0 : ∀ w ∈ wsX00, w ∈ wsX0_isFirstOfItsCircle := fun _ h => (List.mem_cons_of_mem _ (List.mem_append_left _ (List.mem_append_right _ h)))
  have hl := lv_entry ([.ref (d 0), .int v1]) (n := 4) (Nat.le_of_ble_eq_true rfl)
  rw [lg_entry_eq]
  generalize (lg_sl ([.ref (d 0), .int v1]) ++ List.replicate (4 - (lg_sl ([.ref (d 0), .int v1])).length) Slot.unset).toArray = ls at hl ⊢
  have hl : lv_has ls 4 [(0, .ref (d 0)), (1, .int v1)] := hl
  have lp_11 : ∀ (n : Nat) (u1 : Int32) (u2 : Int32) (u3 : Int32) (ls : Array Slot), lv_has ls 4 [(0, .ref (d 0)), (1, .int u1), (2, .int u2), (3, .int u3)] → f_X0_isFirstOfItsCircle_L11 h n u1 u2 u3 = some RR → W p l e (headSpec wsX0_isFirstOfItsCircle (z_R 1 21)).room s m ([.ref (d 0), .int v1] : List Value).toArray below meth c s.heap [] 0 0 (MQ below (vp_Si (fun z => z = RR)) ([.ref (d 0), .int v1] : List Value).toArray s 0 0 (fun _ => False)) (F0 m 11 ls []) := by
    intro n
    induction n with
    | zero =>
      intro u1 u2 u3 ls hl hf
      cases hf
    | succ n ih =>
      intro u1 u2 u3 ls hl hf
      rw [f_X0_isFirstOfItsCircle_L11] at hf
      refine lv_iload_n (pc := 11) hx hb dX0_isFirstOfItsCircle_11 rfl (lv_at hl 3 rfl) ?_
      refine lv_aload_n (pc := 12) hx hb dX0_isFirstOfItsCircle_12 rfl (lv_at hl 0 rfl) ?_
      refine va_get (pc := 13) (ci := 0) (C := RX0) (T := TX0) (N := 15) hx hb hts in_X0 hown hK hP 0 rfl rfl 1 (by decide) lk_fi54 (fun _ h9 => h9) rfl dX0_isFirstOfItsCircle_13 ?_
      refine lv_icmp_ge (pc := 16) (tgt := 46) hx hb dX0_isFirstOfItsCircle_16 (by decide) (fun c_16 => ?_) (fun c_16 => ?_)
      · replace hf := z_ip c_16 hf
        refine lv_iconst (v := 1) (pc := 46) hx hb dX0_isFirstOfItsCircle_46 (by decide) ?_
        exact W.zret (pc := 47) (v := 1) hx hb hr rfl (fun t ht hW => ⟨_, rfl, (Option.some.inj hf), ht⟩) (fun _ h => nomatch h) dX0_isFirstOfItsCircle_47
      · replace hf := z_in c_16 hf
        refine lv_iload_n (pc := 19) hx hb dX0_isFirstOfItsCircle_19 rfl (lv_at hl 2 rfl) ?_
        refine lv_iload_n (pc := 20) hx hb dX0_isFirstOfItsCircle_20 rfl (lv_at hl 1 rfl) ?_
        refine lv_icmp_eq (pc := 21) (tgt := 46) hx hb dX0_isFirstOfItsCircle_21 (by decide) (fun c_21 => ?_) (fun c_21 => ?_)
        · replace hf := z_ip c_21 hf
          refine lv_iconst (v := 1) (pc := 46) hx hb dX0_isFirstOfItsCircle_46 (by decide) ?_
          exact W.zret (pc := 47) (v := 1) hx hb hr rfl (fun t ht hW => ⟨_, rfl, (Option.some.inj hf), ht⟩) (fun _ h => nomatch h) dX0_isFirstOfItsCircle_47
        · replace hf := z_in c_21 hf
          refine lv_iload_n (pc := 24) hx hb dX0_isFirstOfItsCircle_24 rfl (lv_at hl 2 rfl) ?_
          refine lv_iload_n (pc := 25) hx hb dX0_isFirstOfItsCircle_25 rfl (lv_at hl 1 rfl) ?_
          refine lv_icmp_ge (pc := 26) (tgt := 31) hx hb dX0_isFirstOfItsCircle_26 (by decide) (fun c_26 => ?_) (fun c_26 => ?_)
          · replace hf := z_ip c_26 hf
            refine lv_aload_n (pc := 31) hx hb dX0_isFirstOfItsCircle_31 rfl (lv_at hl 0 rfl) ?_
            refine va_get (pc := 32) (ci := 0) (C := RX0) (T := TX0) (N := 15) hx hb hts in_X0 hown hK hP 0 rfl rfl 10 (by decide) lk_fi28 (fun _ h9 => h9) rfl dX0_isFirstOfItsCircle_32 ?_
            refine lv_iload_n (pc := 35) hx hb dX0_isFirstOfItsCircle_35 rfl (lv_at hl 2 rfl) ?_
            refine z_cpI (pc := 36) S (m_X2_get l X (d 7) (d 8) (h.2.1 3) u2) (cwV 1 hts gX0_isFirstOfItsCircle_X2_get rfl rfl rfl hdX2_get ⟨Nat.le_of_ble_eq_true rfl, Nat.le_of_ble_eq_true rfl⟩) hP hK hN (s_H_R7 X d h) (ci := 2) rfl rfl rfl ⟨Nat.le_of_ble_eq_true rfl, Nat.le_of_ble_eq_true rfl⟩ rfl hl.1 rfl (Nat.le_of_ble_eq_true rfl) dX0_isFirstOfItsCircle_36 ?_
            refine lv_istore_n (pc := 39) (lv' := [(2, .int (z_rg (h.2.1 3) u2)), (0, .ref (d 0)), (1, .int u1), (3, .int u3)]) hx hb dX0_isFirstOfItsCircle_39 rfl hl (by decide) rfl (fun ls hl => ?_)
            refine lv_iinc (pc := 40) (v := (u3 + 1)) (lv' := [(3, .int (u3 + 1)), (2, .int (z_rg (h.2.1 3) u2)), (0, .ref (d 0)), (1, .int u1)]) hx hb dX0_isFirstOfItsCircle_40 hl (k := 3) rfl rfl (by decide) rfl (fun ls hl => ?_)
            refine lv_goto (pc := 43) (tgt := 11) hx hb dX0_isFirstOfItsCircle_43 (by decide) ?_
            exact ih u1 (z_rg (h.2.1 3) u2) (u3 + 1) ls (lv_sub hl [2, 3, 1, 0] rfl) hf
          · replace hf := z_in c_26 hf
            refine lv_iconst (v := 0) (pc := 29) hx hb dX0_isFirstOfItsCircle_29 (by decide) ?_
            exact W.zret (pc := 30) (v := 0) hx hb hr rfl (fun t ht hW => ⟨_, rfl, (Option.some.inj hf), ht⟩) (fun _ h => nomatch h) dX0_isFirstOfItsCircle_30
  unfold f_X0_isFirstOfItsCircle at hf
  refine lv_aload_n (pc := 0) hx hb dX0_isFirstOfItsCircle_0 rfl (lv_at hl 0 rfl) ?_
  refine va_get (pc := 1) (ci := 0) (C := RX0) (T := TX0) (N := 15) hx hb hts in_X0 hown hK hP 0 rfl rfl 10 (by decide) lk_fi28 (fun _ h9 => h9) rfl dX0_isFirstOfItsCircle_1 ?_
  refine lv_iload_n (pc := 4) hx hb dX0_isFirstOfItsCircle_4 rfl (lv_at hl 1 rfl) ?_
  refine z_cpI (pc := 5) S (m_X2_get l X (d 7) (d 8) (h.2.1 3) v1) (cwV 1 hts gX0_isFirstOfItsCircle_X2_get rfl rfl rfl hdX2_get ⟨Nat.le_of_ble_eq_true rfl, Nat.le_of_ble_eq_true rfl⟩) hP hK hN (s_H_R7 X d h) (ci := 2) rfl rfl rfl ⟨Nat.le_of_ble_eq_true rfl, Nat.le_of_ble_eq_true rfl⟩ rfl hl.1 rfl (Nat.le_of_ble_eq_true rfl) dX0_isFirstOfItsCircle_5 ?_
  refine lv_istore_n (pc := 8) (lv' := [(2, .int (z_rg (h.2.1 3) v1)), (0, .ref (d 0)), (1, .int v1)]) hx hb dX0_isFirstOfItsCircle_8 rfl hl (by decide) rfl (fun ls hl => ?_)
  refine lv_iconst (v := 0) (pc := 9) hx hb dX0_isFirstOfItsCircle_9 (by decide) ?_
  refine lv_istore_n (pc := 10) (lv' := [(3, .int 0), (2, .int (z_rg (h.2.1 3) v1)), (0, .ref (d 0)), (1, .int v1)]) hx hb dX0_isFirstOfItsCircle_10 rfl hl (by decide) rfl (fun ls hl => ?_)
  exact lp_11 z_FU v1 (z_rg (h.2.1 3) v1) 0 ls (lv_sub hl [2, 3, 1, 0] rfl) hf
def f_X0_costFrom (v0 : Int32) : Int32 := (v0 + 1)
set_option maxHeartbeats 4000000 in
set_option maxRecDepth 100000 in
theorem m_X0_costFrom (l : Launch) (X : z_X) (v0 : Int32) {RR : Int32} (hf : f_X0_costFrom v0 = RR) : z_pI l yX0_costFrom wsX0_costFrom 0 0 X [.int v0] ([] : va_W) RR := by
  refine Met.ofW (cc := cX0_costFrom) (maxL := 1) (ret := (some .int)) (by decide) rfl ?_
  intro p e s m args below meth c s₁ Bd hml hv
  obtain ⟨rfl, hP, hK, hN⟩ := hv
  have hx := Bd.exec
  have hb := Bd.bytes
  have hr := Bd.returns
  have hts := atoms_spec (ws := wsX0_costFrom) Bd.pre
  have hown : s.vm.findClass RX0 = some m.cls := findClass_of_methodNamed Bd.named
  have hlocks := Bd.notSynchronized
  have S : CallFix p m c cX0_costFrom 1 s _ wsX0_costFrom RX0 := ⟨hx, hb, hml, hown, hts⟩
  have hl := lv_entry ([.int v0]) (n := 1) (Nat.le_of_ble_eq_true rfl)
  rw [lg_entry_eq]
  generalize (lg_sl ([.int v0]) ++ List.replicate (1 - (lg_sl ([.int v0])).length) Slot.unset).toArray = ls at hl ⊢
  have hl : lv_has ls 1 [(0, .int v0)] := hl
  unfold f_X0_costFrom at hf
  refine lv_iload_n (pc := 0) hx hb dX0_costFrom_0 rfl (lv_at hl 0 rfl) ?_
  refine lv_iconst (v := 1) (pc := 1) hx hb dX0_costFrom_1 (by decide) ?_
  refine lv_iadd (pc := 2) hx hb dX0_costFrom_2 ?_
  exact W.iret (pc := 3) (v := (v0 + 1)) hx hb hr (fun t ht hW => ⟨_, rfl, hf, ht⟩) (fun _ h => nomatch h) dX0_costFrom_3
def f_X0_pullBell (h : z_H) (v1 : Int32) : Option (Int32 × z_H) := (if (z_rg (h.2.1 4) v1) = 1 then some (0, (z_hS h 6 ((h.1 6) + 1))) else (if (f_X0_costFrom (z_rg (h.2.1 0) v1)) ≤ (h.1 2) then (f_X1_placeOf h.2.2.1 (z_rg (h.2.1 3) v1)).bind (fun x68 => (if x68 = (-1) then (f_X1_append h.2.2.1 (z_rg (h.2.1 3) v1)).bind (fun x80 => some (1, (z_hL (z_hS h 2 ((h.1 2) - (f_X0_costFrom (z_rg (h.2.1 0) v1)))) x80))) else some (1, (z_hS h 2 ((h.1 2) - (f_X0_costFrom (z_rg (h.2.1 0) v1))))))) else some (0, (z_hS h 6 ((h.1 6) + 1)))))
set_option maxHeartbeats 4000000 in
set_option maxRecDepth 100000 in
theorem m_X0_pullBell (l : Launch) (X : z_X) (d : Nat → Nat) (h : z_H) (v1 : Int32) {RR : (Int32 × z_H)} (hf : f_X0_pullBell h v1 = some RR) : z_mI l yX0_pullBell wsX0_pullBell 1 22 X [.ref (d 0), .int v1] (z_wH X d h) RR.1 (z_wH X d RR.2) := by
  intro sz
  refine Met.ofW (cc := cX0_pullBell) (maxL := 4) (ret := (some .boolean)) (by decide) rfl ?_
  intro p e s m args below meth c s₁ Bd hml hv
  obtain ⟨rfl, hsz, hP, hK, hN, hD0⟩ := hv
  have hx := Bd.exec
  have hb := Bd.bytes
  have hr := Bd.returns
  have hts := atoms_spec (ws := wsX0_pullBell) Bd.pre
  have hown : s.vm.findClass RX0 = some m.cls := findClass_of_methodNamed Bd.named
  have hlocks := Bd.notSynchronized
  have S : CallFix p m c cX0_pullBell 4 s _ wsX0_pullBell RX0 := ⟨hx, hb, hml, hown, hts⟩
  have lk_fi18 := hts (.fieldLink RX0 18 "HouseBells$House" "floor" "LHouseBells$Row;") (List.mem_of_getElem? (i := 1) rfl)
  have lk_fi31 := hts (.fieldLink RX0 31 "HouseBells$House" "cut" "LHouseBells$Row;") (List.mem_of_getElem? (i := 2) rfl)
  have lk_fi66 := hts (.fieldLink RX0 66 "HouseBells$House" "unheard" "I") (List.mem_of_getElem? (i := 4) rfl)
  have lk_fi9 := hts (.fieldLink RX0 9 "HouseBells$House" "charge" "I") (List.mem_of_getElem? (i := 3) rfl)
  have lk_fi28 := hts (.fieldLink RX0 28 "HouseBells$House" "wire" "LHouseBells$Row;") (List.mem_of_getElem? (i := 5) rfl)
  have lk_fi40 := hts (.fieldLink RX0 40 "HouseBells$House" "line" "LHouseBells$Line;") (List.mem_of_getElem? (i := 6) rfl)
  have in_X0 : ∀ w ∈ wsX00, w ∈ wsX0_pullBell := fun _ h => (List.mem_cons_of_mem _ (List.mem_append_left _ (List.mem_append_left _ (List.mem_append_right _ h))))
  subst hsz
  have hD := hD0.self (sz := s.heap.size)
  generalize hAe : va_A (z_wH X d h) s.heap.size = A at hD ⊢
  have hA : ∀ q : Nat, s.heap.size ≤ q → A q := fun q h => by rw [← hAe]; exact Or.inr h
  have hS : va_S A s.heap s.heap [] := va_S.rf
  have hl := lv_entry ([.ref (d 0), .int v1]) (n := 4) (Nat.le_of_ble_eq_true rfl)
  rw [lg_entry_eq]
  generalize (lg_sl ([.ref (d 0), .int v1]) ++ List.replicate (4 - (lg_sl ([.ref (d 0), .int v1])).length) Slot.unset).toArray = ls at hl ⊢
  have hl : lv_has ls 4 [(0, .ref (d 0)), (1, .int v1)] := hl
  suffices hgo : ∀ (H : Heap) (locs : List Loc), va_P X.1 vwCl (z_wH X d h) H → va_D A (z_wH X d h) → va_S A s.heap H locs → W p l e (headSpec wsX0_pullBell (z_R 1 22)).room s m ([.ref (d 0), .int v1] : List Value).toArray below meth c H locs 0 0 (MQ below (va_Qi (fun (z : Int32) (u : va_W) => z = RR.1 ∧ u = (z_wH X d RR.2)) (z_Bm X A) A) ([.ref (d 0), .int v1] : List Value).toArray s 0 0 A) (F0 m 0 ls []) from hgo _ _ hP hD hS
  clear hP hD hS
  intro H locs hP hD hS
  unfold f_X0_pullBell at hf
  refine lv_aload_n (pc := 0) hx hb dX0_pullBell_0 rfl (lv_at hl 0 rfl) ?_
  refine va_get (pc := 1) (ci := 0) (C := RX0) (T := TX0) (N := 15) hx hb hts in_X0 hown hK hP 0 rfl rfl 7 (by decide) lk_fi18 (fun _ h9 => h9) rfl dX0_pullBell_1 ?_
  refine lv_iload_n (pc := 4) hx hb dX0_pullBell_4 rfl (lv_at hl 1 rfl) ?_
  refine z_cpI (pc := 5) S (m_X2_get l X (d 1) (d 2) (h.2.1 0) v1) (cwV 1 hts gX0_pullBell_X2_get rfl rfl rfl hdX2_get ⟨Nat.le_of_ble_eq_true rfl, Nat.le_of_ble_eq_true rfl⟩) hP hK hN (s_H_R1 X d h) (ci := 2) rfl rfl rfl ⟨Nat.le_of_ble_eq_true rfl, Nat.le_of_ble_eq_true rfl⟩ rfl hl.1 rfl (Nat.le_of_ble_eq_true rfl) dX0_pullBell_5 ?_
  refine z_csI (pc := 8) S (m_X0_costFrom l X (z_rg (h.2.1 0) v1) rfl) (va_cwS 1 hts gX0_pullBell_X0_costFrom rfl rfl rfl hdX0_costFrom ⟨Nat.le_of_ble_eq_true rfl, Nat.le_of_ble_eq_true rfl⟩) hP hK hN (s_nil _) ⟨Nat.le_of_ble_eq_true rfl, Nat.le_of_ble_eq_true rfl⟩ rfl hl.1 rfl (Nat.le_of_ble_eq_true rfl) dX0_pullBell_8 ?_
  refine lv_istore_n (pc := 11) (lv' := [(2, .int (f_X0_costFrom (z_rg (h.2.1 0) v1))), (0, .ref (d 0)), (1, .int v1)]) hx hb dX0_pullBell_11 rfl hl (by decide) rfl (fun ls hl => ?_)
  refine lv_aload_n (pc := 12) hx hb dX0_pullBell_12 rfl (lv_at hl 1 rfl) ?_
  refine va_get (pc := 13) (ci := 0) (C := RX0) (T := TX0) (N := 15) hx hb hts in_X0 hown hK hP 0 rfl rfl 11 (by decide) lk_fi31 (fun _ h9 => h9) rfl dX0_pullBell_13 ?_
  refine lv_iload_n (pc := 16) hx hb dX0_pullBell_16 rfl (lv_at hl 2 rfl) ?_
  refine z_cpI (pc := 17) S (m_X2_get l X (d 9) (d 10) (h.2.1 4) v1) (cwV 1 hts gX0_pullBell_X2_get rfl rfl rfl hdX2_get ⟨Nat.le_of_ble_eq_true rfl, Nat.le_of_ble_eq_true rfl⟩) hP hK hN (s_H_R9 X d h) (ci := 2) rfl rfl rfl ⟨Nat.le_of_ble_eq_true rfl, Nat.le_of_ble_eq_true rfl⟩ rfl hl.1 rfl (Nat.le_of_ble_eq_true rfl) dX0_pullBell_17 ?_
  refine lv_iconst (v := 1) (pc := 20) hx hb dX0_pullBell_20 (by decide) ?_
  refine lv_icmp_eq (pc := 21) (tgt := 32) hx hb dX0_pullBell_21 (by decide) (fun c_21 => ?_) (fun c_21 => ?_)
  · replace hf := z_ip c_21 hf
    refine lv_aload_n (pc := 32) hx hb dX0_pullBell_32 rfl (lv_at hl 1 rfl) ?_
    refine lv_dup (pc := 33) hx hb dX0_pullBell_33 rfl ?_
    refine va_get (pc := 34) (ci := 0) (C := RX0) (T := TX0) (N := 15) hx hb hts in_X0 hown hK hP 0 rfl rfl 6 (by decide) lk_fi66 (fun _ h9 => h9) rfl dX0_pullBell_34 ?_
    refine lv_iconst (v := 1) (pc := 37) hx hb dX0_pullBell_37 (by decide) ?_
    refine lv_iadd (pc := 38) hx hb dX0_pullBell_38 ?_
    refine z_put (pc := 39) (ci := 0) (C := RX0) (T := TX0) (N := 15) (W1 := (z_wH X d (z_hS h 6 ((h.1 6) + 1)))) hx hb hts in_X0 tyX0 tyX0_ok nmX0 hown hK hP hD hS 0 rfl rfl 6 (by decide) lk_fi66 (fun _ h9 => h9) rfl (by decide +kernel) (Nat.le_of_ble_eq_true rfl) dX0_pullBell_39 rfl (fun H locs hP hD hS => ?_)
    refine lv_iconst (v := 0) (pc := 42) hx hb dX0_pullBell_42 (by decide) ?_
    exact W.zret (pc := 43) (v := 0) hx hb hr rfl (fun t ht hW => ⟨⟨_, (z_wH X d (z_hS h 6 ((h.1 6) + 1))), rfl, ⟨z_e1 hf, congrArg (fun z => (z_wH X d z)) (z_e2 hf)⟩, by rw [ht]; exact hP, hD⟩, hS.F ht⟩) hS.2.2 dX0_pullBell_43
  · replace hf := z_in c_21 hf
    refine lv_aload_n (pc := 24) hx hb dX0_pullBell_24 rfl (lv_at hl 1 rfl) ?_
    refine va_get (pc := 25) (ci := 0) (C := RX0) (T := TX0) (N := 15) hx hb hts in_X0 hown hK hP 0 rfl rfl 2 (by decide) lk_fi9 (fun _ h9 => h9) rfl dX0_pullBell_25 ?_
    refine lv_iload_n (pc := 28) hx hb dX0_pullBell_28 rfl (lv_at hl 0 rfl) ?_
    refine lv_icmp_ge (pc := 29) (tgt := 44) hx hb dX0_pullBell_29 (by decide) (fun c_29 => ?_) (fun c_29 => ?_)
    · replace hf := z_ip c_29 hf
      refine lv_aload_n (pc := 44) hx hb dX0_pullBell_44 rfl (lv_at hl 1 rfl) ?_
      refine lv_dup (pc := 45) hx hb dX0_pullBell_45 rfl ?_
      refine va_get (pc := 46) (ci := 0) (C := RX0) (T := TX0) (N := 15) hx hb hts in_X0 hown hK hP 0 rfl rfl 2 (by decide) lk_fi9 (fun _ h9 => h9) rfl dX0_pullBell_46 ?_
      refine lv_iload_n (pc := 49) hx hb dX0_pullBell_49 rfl (lv_at hl 0 rfl) ?_
      refine lv_isub (pc := 50) hx hb dX0_pullBell_50 ?_
      refine z_put (pc := 51) (ci := 0) (C := RX0) (T := TX0) (N := 15) (W1 := (z_wH X d (z_hS h 2 ((h.1 2) - (f_X0_costFrom (z_rg (h.2.1 0) v1)))))) hx hb hts in_X0 tyX0 tyX0_ok nmX0 hown hK hP hD hS 0 rfl rfl 2 (by decide) lk_fi9 (fun _ h9 => h9) rfl (by decide +kernel) (Nat.le_of_ble_eq_true rfl) dX0_pullBell_51 rfl (fun H locs hP hD hS => ?_)
      refine lv_aload_n (pc := 54) hx hb dX0_pullBell_54 rfl (lv_at hl 1 rfl) ?_
      refine va_get (pc := 55) (ci := 0) (C := RX0) (T := TX0) (N := 15) hx hb hts in_X0 hown hK hP 0 rfl rfl 10 (by decide) lk_fi28 (fun _ h9 => h9) rfl dX0_pullBell_55 ?_
      refine lv_iload_n (pc := 58) hx hb dX0_pullBell_58 rfl (lv_at hl 2 rfl) ?_
      refine z_cpI (pc := 59) S (m_X2_get l X (d 7) (d 8) (h.2.1 3) v1) (cwV 1 hts gX0_pullBell_X2_get rfl rfl rfl hdX2_get ⟨Nat.le_of_ble_eq_true rfl, Nat.le_of_ble_eq_true rfl⟩) hP hK hN (s_H_R7 X d (z_hS h 2 ((h.1 2) - (f_X0_costFrom (z_rg (h.2.1 0) v1))))) (ci := 2) rfl rfl rfl ⟨Nat.le_of_ble_eq_true rfl, Nat.le_of_ble_eq_true rfl⟩ rfl hl.1 rfl (Nat.le_of_ble_eq_true rfl) dX0_pullBell_59 ?_
      refine lv_istore_n (pc := 62) (lv' := [(3, .int (z_rg (h.2.1 3) v1)), (2, .int (f_X0_costFrom (z_rg (h.2.1 0) v1))), (0, .ref (d 0)), (1, .int v1)]) hx hb dX0_pullBell_62 rfl hl (by decide) rfl (fun ls hl => ?_)
      refine lv_aload_n (pc := 63) hx hb dX0_pullBell_63 rfl (lv_at hl 2 rfl) ?_
      refine va_get (pc := 64) (ci := 0) (C := RX0) (T := TX0) (N := 15) hx hb hts in_X0 hown hK hP 0 rfl rfl 13 (by decide) lk_fi40 (fun _ h9 => h9) rfl dX0_pullBell_64 ?_
      refine lv_iload_n (pc := 67) hx hb dX0_pullBell_67 rfl (lv_at hl 0 rfl) ?_
      obtain ⟨x68, e68, hf⟩ := z_bd hf
      refine z_cpI (pc := 68) S (m_X1_placeOf l X d h.2.2.1 (z_rg (h.2.1 3) v1) e68) (cwV 1 hts gX0_pullBell_X1_placeOf rfl rfl rfl hdX1_placeOf ⟨Nat.le_of_ble_eq_true rfl, Nat.le_of_ble_eq_true rfl⟩) hP hK hN (s_H_L13 X d (z_hS h 2 ((h.1 2) - (f_X0_costFrom (z_rg (h.2.1 0) v1))))) (ci := 1) rfl rfl rfl ⟨Nat.le_of_ble_eq_true rfl, Nat.le_of_ble_eq_true rfl⟩ rfl hl.1 rfl (Nat.le_of_ble_eq_true rfl) dX0_pullBell_68 ?_
      refine lv_iconst (v := (-1)) (pc := 71) hx hb dX0_pullBell_71 (by decide) ?_
      refine lv_icmp_ne (pc := 72) (tgt := 83) hx hb dX0_pullBell_72 (by decide) (fun c_72 => ?_) (fun c_72 => ?_)
      · replace hf := z_in c_72 hf
        refine lv_iconst (v := 1) (pc := 83) hx hb dX0_pullBell_83 (by decide) ?_
        exact W.zret (pc := 84) (v := 1) hx hb hr rfl (fun t ht hW => ⟨⟨_, (z_wH X d (z_hS h 2 ((h.1 2) - (f_X0_costFrom (z_rg (h.2.1 0) v1))))), rfl, ⟨z_e1 hf, congrArg (fun z => (z_wH X d z)) (z_e2 hf)⟩, by rw [ht]; exact hP, hD⟩, hS.F ht⟩) hS.2.2 dX0_pullBell_84
      · replace hf := z_ip c_72 hf
        refine lv_aload_n (pc := 75) hx hb dX0_pullBell_75 rfl (lv_at hl 2 rfl) ?_
        refine va_get (pc := 76) (ci := 0) (C := RX0) (T := TX0) (N := 15) hx hb hts in_X0 hown hK hP 0 rfl rfl 13 (by decide) lk_fi40 (fun _ h9 => h9) rfl dX0_pullBell_76 ?_
        refine lv_iload_n (pc := 79) hx hb dX0_pullBell_79 rfl (lv_at hl 0 rfl) ?_
        obtain ⟨x80, e80, hf⟩ := z_bd hf
        refine z_cmV (pc := 80) (W1 := (z_wH X d (z_hL (z_hS h 2 ((h.1 2) - (f_X0_costFrom (z_rg (h.2.1 0) v1)))) x80))) S (m_X1_append l X d h.2.2.1 (z_rg (h.2.1 3) v1) e80) (cwV 1 hts gX0_pullBell_X1_append rfl rfl rfl hdX1_append ⟨Nat.le_of_ble_eq_true rfl, Nat.le_of_ble_eq_true rfl⟩) hP hK hN hD hS hA (s_H_L13 X d (z_hS h 2 ((h.1 2) - (f_X0_costFrom (z_rg (h.2.1 0) v1))))) (f_H_L13 X d (z_hS h 2 ((h.1 2) - (f_X0_costFrom (z_rg (h.2.1 0) v1)))) x80) (ci := 1) rfl rfl rfl ⟨Nat.le_of_ble_eq_true rfl, Nat.le_of_ble_eq_true rfl⟩ rfl hl.1 rfl (Nat.le_of_ble_eq_true rfl) dX0_pullBell_80 (fun H locs hP hD hS => ?_)
        refine lv_iconst (v := 1) (pc := 83) hx hb dX0_pullBell_83 (by decide) ?_
        exact W.zret (pc := 84) (v := 1) hx hb hr rfl (fun t ht hW => ⟨⟨_, (z_wH X d (z_hL (z_hS h 2 ((h.1 2) - (f_X0_costFrom (z_rg (h.2.1 0) v1)))) x80)), rfl, ⟨z_e1 hf, congrArg (fun z => (z_wH X d z)) (z_e2 hf)⟩, by rw [ht]; exact hP, hD⟩, hS.F ht⟩) hS.2.2 dX0_pullBell_84
    · replace hf := z_in c_29 hf
      refine lv_aload_n (pc := 32) hx hb dX0_pullBell_32 rfl (lv_at hl 1 rfl) ?_
      refine lv_dup (pc := 33) hx hb dX0_pullBell_33 rfl ?_
      refine va_get (pc := 34) (ci := 0) (C := RX0) (T := TX0) (N := 15) hx hb hts in_X0 hown hK hP 0 rfl rfl 6 (by decide) lk_fi66 (fun _ h9 => h9) rfl dX0_pullBell_34 ?_
      refine lv_iconst (v := 1) (pc := 37) hx hb dX0_pullBell_37 (by decide) ?_
      refine lv_iadd (pc := 38) hx hb dX0_pullBell_38 ?_
      refine z_put (pc := 39) (ci := 0) (C := RX0) (T := TX0) (N := 15) (W1 := (z_wH X d (z_hS h 6 ((h.1 6) + 1)))) hx hb hts in_X0 tyX0 tyX0_ok nmX0 hown hK hP hD hS 0 rfl rfl 6 (by decide) lk_fi66 (fun _ h9 => h9) rfl (by decide +kernel) (Nat.le_of_ble_eq_true rfl) dX0_pullBell_39 rfl (fun H locs hP hD hS => ?_)
      refine lv_iconst (v := 0) (pc := 42) hx hb dX0_pullBell_42 (by decide) ?_
      exact W.zret (pc := 43) (v := 0) hx hb hr rfl (fun t ht hW => ⟨⟨_, (z_wH X d (z_hS h 6 ((h.1 6) + 1))), rfl, ⟨z_e1 hf, congrArg (fun z => (z_wH X d z)) (z_e2 hf)⟩, by rw [ht]; exact hP, hD⟩, hS.F ht⟩) hS.2.2 dX0_pullBell_43
def f_X0_isMultiple (v0 : Int32) (v1 : Int32) : Option Int32 := (if v1 ≤ 0 then some 0 else (z_rm v0 v1).bind (fun x6 => (if x6 = 0 then some 1 else some 0)))
set_option maxHeartbeats 4000000 in
set_option maxRecDepth 100000 in
theorem m_X0_isMultiple (l : Launch) (X : z_X) (v0 : Int32) (v1 : Int32) {RR : Int32} (hf : f_X0_isMultiple v0 v1 = some RR) : z_pI l yX0_isMultiple wsX0_isMultiple 0 0 X [.int v0, .int v1] ([] : va_W) RR := by
  refine Met.ofW (cc := cX0_isMultiple) (maxL := 2) (ret := (some .boolean)) (by decide) rfl ?_
  intro p e s m args below meth c s₁ Bd hml hv
  obtain ⟨rfl, hP, hK, hN⟩ := hv
  have hx := Bd.exec
  have hb := Bd.bytes
  have hr := Bd.returns
  have hts := atoms_spec (ws := wsX0_isMultiple) Bd.pre
  have hown : s.vm.findClass RX0 = some m.cls := findClass_of_methodNamed Bd.named
  have hlocks := Bd.notSynchronized
  have S : CallFix p m c cX0_isMultiple 2 s _ wsX0_isMultiple RX0 := ⟨hx, hb, hml, hown, hts⟩
  have hl := lv_entry ([.int v0, .int v1]) (n := 2) (Nat.le_of_ble_eq_true rfl)
  rw [lg_entry_eq]
  generalize (lg_sl ([.int v0, .int v1]) ++ List.replicate (2 - (lg_sl ([.int v0, .int v1])).length) Slot.unset).toArray = ls at hl ⊢
  have hl : lv_has ls 2 [(0, .int v0), (1, .int v1)] := hl
  unfold f_X0_isMultiple at hf
  refine lv_iload_n (pc := 0) hx hb dX0_isMultiple_0 rfl (lv_at hl 1 rfl) ?_
  refine lv_if_le (pc := 1) (tgt := 14) hx hb dX0_isMultiple_1 (by decide) (fun c_1 => ?_) (fun c_1 => ?_)
  · replace hf := z_ip c_1 hf
    refine lv_iconst (v := 0) (pc := 14) hx hb dX0_isMultiple_14 (by decide) ?_
    exact W.zret (pc := 15) (v := 0) hx hb hr rfl (fun t ht hW => ⟨_, rfl, (Option.some.inj hf), ht⟩) (fun _ h => nomatch h) dX0_isMultiple_15
  · replace hf := z_in c_1 hf
    refine lv_iload_n (pc := 4) hx hb dX0_isMultiple_4 rfl (lv_at hl 0 rfl) ?_
    refine lv_iload_n (pc := 5) hx hb dX0_isMultiple_5 rfl (lv_at hl 1 rfl) ?_
    obtain ⟨x6, e6, hf⟩ := z_bd hf
    refine z_irem (pc := 6) hx hb e6 dX0_isMultiple_6 ?_
    refine lv_if_ne (pc := 7) (tgt := 14) hx hb dX0_isMultiple_7 (by decide) (fun c_7 => ?_) (fun c_7 => ?_)
    · replace hf := z_in c_7 hf
      refine lv_iconst (v := 0) (pc := 14) hx hb dX0_isMultiple_14 (by decide) ?_
      exact W.zret (pc := 15) (v := 0) hx hb hr rfl (fun t ht hW => ⟨_, rfl, (Option.some.inj hf), ht⟩) (fun _ h => nomatch h) dX0_isMultiple_15
    · replace hf := z_ip c_7 hf
      refine lv_iconst (v := 1) (pc := 10) hx hb dX0_isMultiple_10 (by decide) ?_
      refine lv_goto (pc := 11) (tgt := 15) hx hb dX0_isMultiple_11 (by decide) ?_
      exact W.zret (pc := 15) (v := 1) hx hb hr rfl (fun t ht hW => ⟨_, rfl, (Option.some.inj hf), ht⟩) (fun _ h => nomatch h) dX0_isMultiple_15
def f_X0_letRoomsWait_L2  : Nat → Int32 → z_H → Option z_H
  | 0, _, _ => none
  | n + 1, u1, h => (if (h.1 1) ≤ u1 then some h else (if (z_rg (h.2.1 5) u1) = (-1) then f_X0_letRoomsWait_L2 n (u1 + 1) h else (if ((z_rg (h.2.1 5) u1) + 1) < 30 then (f_X0_isMultiple ((z_rg (h.2.1 5) u1) + 1) (z_rg (h.2.1 1) u1)).bind (fun x82 => (if x82 = 0 then f_X0_letRoomsWait_L2 n (u1 + 1) (z_hR h 5 (z_rs (h.2.1 5) u1 ((z_rg (h.2.1 5) u1) + 1))) else (f_X0_pullBell (z_hR h 5 (z_rs (h.2.1 5) u1 ((z_rg (h.2.1 5) u1) + 1))) u1).bind (fun x90 => f_X0_letRoomsWait_L2 n (u1 + 1) x90.2))) else f_X0_letRoomsWait_L2 n (u1 + 1) (z_hR (z_hS h 5 ((h.1 5) + 1)) 5 (z_rs (h.2.1 5) u1 (-1))))))
def f_X0_letRoomsWait (h : z_H) : Option z_H := (f_X0_letRoomsWait_L2 z_FU 0 h).bind (fun x2 => some x2)
set_option maxHeartbeats 4000000 in
set_option maxRecDepth 100000 in
theorem m_X0_letRoomsWait (l : Launch) (X : z_X) (d : Nat → Nat) (h : z_H) {RR : z_H} (hf : f_X0_letRoomsWait h = some RR) : z_mV l yX0_letRoomsWait wsX0_letRoomsWait 2 45 X [.ref (d 0)] (z_wH X d h) (z_wH X d RR) := by
  intro sz
  refine Met.ofW (cc := cX0_letRoomsWait) (maxL := 3) (ret := none) (by decide) rfl ?_
  intro p e s m args below meth c s₁ Bd hml hv
  obtain ⟨rfl, hsz, hP, hK, hN, hD0⟩ := hv
  have hx := Bd.exec
  have hb := Bd.bytes
  have hr := Bd.returns
  have hts := atoms_spec (ws := wsX0_letRoomsWait) Bd.pre
  have hown : s.vm.findClass RX0 = some m.cls := findClass_of_methodNamed Bd.named
  have hlocks := Bd.notSynchronized
  have S : CallFix p m c cX0_letRoomsWait 3 s _ wsX0_letRoomsWait RX0 := ⟨hx, hb, hml, hown, hts⟩
  have lk_fi54 := hts (.fieldLink RX0 54 "HouseBells$House" "roomCount" "I") (List.mem_of_getElem? (i := 1) rfl)
  have lk_fi34 := hts (.fieldLink RX0 34 "HouseBells$House" "waited" "LHouseBells$Row;") (List.mem_of_getElem? (i := 2) rfl)
  have lk_fi22 := hts (.fieldLink RX0 22 "HouseBells$House" "patience" "LHouseBells$Row;") (List.mem_of_getElem? (i := 4) rfl)
  have lk_fi63 := hts (.fieldLink RX0 63 "HouseBells$House" "gaveUp" "I") (List.mem_of_getElem? (i := 3) rfl)
  have in_X0 : ∀ w ∈ wsX00, w ∈ wsX0_letRoomsWait := fun _ h => (List.mem_cons_of_mem _ (List.mem_append_left _ (List.mem_append_left _ (List.mem_append_right _ h))))
  subst hsz
  have hD := hD0.self (sz := s.heap.size)
  generalize hAe : va_A (z_wH X d h) s.heap.size = A at hD ⊢
  have hA : ∀ q : Nat, s.heap.size ≤ q → A q := fun q h => by rw [← hAe]; exact Or.inr h
  have hS : va_S A s.heap s.heap [] := va_S.rf
  have hl := lv_entry ([.ref (d 0)]) (n := 3) (Nat.le_of_ble_eq_true rfl)
  rw [lg_entry_eq]
  generalize (lg_sl ([.ref (d 0)]) ++ List.replicate (3 - (lg_sl ([.ref (d 0)])).length) Slot.unset).toArray = ls at hl ⊢
  have hl : lv_has ls 3 [(0, .ref (d 0))] := hl
  have lp_2 : ∀ (n : Nat) (u1 : Int32) (h : z_H) (T : z_H) (H : Heap) (locs : List Loc), va_P X.1 vwCl (z_wH X d h) H → va_D A (z_wH X d h) → va_S A s.heap H locs → ∀ (ls : Array Slot), lv_has ls 3 [(0, .ref (d 0)), (1, .int u1)] → f_X0_letRoomsWait_L2 n u1 h = some T → (∀ (H : Heap) (locs : List Loc), va_P X.1 vwCl (z_wH X d T) H → va_D A (z_wH X d T) → va_S A s.heap H locs → ∀ (ls : Array Slot), lv_has ls 3 [] → W p l e (headSpec wsX0_letRoomsWait (z_R 2 45)).room s m ([.ref (d 0)] : List Value).toArray below meth c H locs 0 0 (MQ below (va_Qv (fun u : va_W => u = (z_wH X d RR)) (z_Bm X A) A) ([.ref (d 0)] : List Value).toArray s 0 0 A) (F0 m 100 ls [])) → W p l e (headSpec wsX0_letRoomsWait (z_R 2 45)).room s m ([.ref (d 0)] : List Value).toArray below meth c H locs 0 0 (MQ below (va_Qv (fun u : va_W => u = (z_wH X d RR)) (z_Bm X A) A) ([.ref (d 0)] : List Value).toArray s 0 0 A) (F0 m 2 ls []) := by
    intro n
    induction n with
    | zero =>
      intro u1 h T H locs hP hD hS ls hl hf kk
      cases hf
    | succ n ih =>
      intro u1 h T H locs hP hD hS ls hl hf kk
      rw [f_X0_letRoomsWait_L2] at hf
      refine lv_iload_n (pc := 2) hx hb dX0_letRoomsWait_2 rfl (lv_at hl 1 rfl) ?_
      refine lv_aload_n (pc := 3) hx hb dX0_letRoomsWait_3 rfl (lv_at hl 0 rfl) ?_
      refine va_get (pc := 4) (ci := 0) (C := RX0) (T := TX0) (N := 15) hx hb hts in_X0 hown hK hP 0 rfl rfl 1 (by decide) lk_fi54 (fun _ h9 => h9) rfl dX0_letRoomsWait_4 ?_
      refine lv_icmp_ge (pc := 7) (tgt := 100) hx hb dX0_letRoomsWait_7 (by decide) (fun c_7 => ?_) (fun c_7 => ?_)
      · replace hf := z_ip c_7 hf
        obtain rfl := Option.some.inj hf
        exact kk H locs hP hD hS ls (lv_sub hl [] rfl)
      · replace hf := z_in c_7 hf
        refine lv_aload_n (pc := 10) hx hb dX0_letRoomsWait_10 rfl (lv_at hl 0 rfl) ?_
        refine va_get (pc := 11) (ci := 0) (C := RX0) (T := TX0) (N := 15) hx hb hts in_X0 hown hK hP 0 rfl rfl 12 (by decide) lk_fi34 (fun _ h9 => h9) rfl dX0_letRoomsWait_11 ?_
        refine lv_iload_n (pc := 14) hx hb dX0_letRoomsWait_14 rfl (lv_at hl 1 rfl) ?_
        refine z_cpI (pc := 15) S (m_X2_get l X (d 11) (d 12) (h.2.1 5) u1) (cwV 1 hts gX0_letRoomsWait_X2_get rfl rfl rfl hdX2_get ⟨Nat.le_of_ble_eq_true rfl, Nat.le_of_ble_eq_true rfl⟩) hP hK hN (s_H_R11 X d h) (ci := 2) rfl rfl rfl ⟨Nat.le_of_ble_eq_true rfl, Nat.le_of_ble_eq_true rfl⟩ rfl hl.1 rfl (Nat.le_of_ble_eq_true rfl) dX0_letRoomsWait_15 ?_
        refine lv_iconst (v := (-1)) (pc := 18) hx hb dX0_letRoomsWait_18 (by decide) ?_
        refine lv_icmp_ne (pc := 19) (tgt := 25) hx hb dX0_letRoomsWait_19 (by decide) (fun c_19 => ?_) (fun c_19 => ?_)
        · replace hf := z_in c_19 hf
          refine lv_aload_n (pc := 25) hx hb dX0_letRoomsWait_25 rfl (lv_at hl 0 rfl) ?_
          refine va_get (pc := 26) (ci := 0) (C := RX0) (T := TX0) (N := 15) hx hb hts in_X0 hown hK hP 0 rfl rfl 12 (by decide) lk_fi34 (fun _ h9 => h9) rfl dX0_letRoomsWait_26 ?_
          refine lv_iload_n (pc := 29) hx hb dX0_letRoomsWait_29 rfl (lv_at hl 1 rfl) ?_
          refine z_cpI (pc := 30) S (m_X2_get l X (d 11) (d 12) (h.2.1 5) u1) (cwV 1 hts gX0_letRoomsWait_X2_get rfl rfl rfl hdX2_get ⟨Nat.le_of_ble_eq_true rfl, Nat.le_of_ble_eq_true rfl⟩) hP hK hN (s_H_R11 X d h) (ci := 2) rfl rfl rfl ⟨Nat.le_of_ble_eq_true rfl, Nat.le_of_ble_eq_true rfl⟩ rfl hl.1 rfl (Nat.le_of_ble_eq_true rfl) dX0_letRoomsWait_30 ?_
          refine lv_iconst (v := 1) (pc := 33) hx hb dX0_letRoomsWait_33 (by decide) ?_
          refine lv_iadd (pc := 34) hx hb dX0_letRoomsWait_34 ?_
          refine lv_istore_n (pc := 35) (lv' := [(2, .int ((z_rg (h.2.1 5) u1) + 1)), (0, .ref (d 0)), (1, .int u1)]) hx hb dX0_letRoomsWait_35 rfl hl (by decide) rfl (fun ls hl => ?_)
          refine lv_iload_n (pc := 36) hx hb dX0_letRoomsWait_36 rfl (lv_at hl 0 rfl) ?_
          refine lv_bipush (v := 30) (pc := 37) hx hb dX0_letRoomsWait_37 (by decide) ?_
          refine lv_icmp_lt (pc := 39) (tgt := 64) hx hb dX0_letRoomsWait_39 (by decide) (fun c_39 => ?_) (fun c_39 => ?_)
          · replace hf := z_ip c_39 hf
            refine lv_aload_n (pc := 64) hx hb dX0_letRoomsWait_64 rfl (lv_at hl 1 rfl) ?_
            refine va_get (pc := 65) (ci := 0) (C := RX0) (T := TX0) (N := 15) hx hb hts in_X0 hown hK hP 0 rfl rfl 12 (by decide) lk_fi34 (fun _ h9 => h9) rfl dX0_letRoomsWait_65 ?_
            refine lv_iload_n (pc := 68) hx hb dX0_letRoomsWait_68 rfl (lv_at hl 2 rfl) ?_
            refine lv_iload_n (pc := 69) hx hb dX0_letRoomsWait_69 rfl (lv_at hl 0 rfl) ?_
            refine z_cmV (pc := 70) (W1 := (z_wH X d (z_hR h 5 (z_rs (h.2.1 5) u1 ((z_rg (h.2.1 5) u1) + 1))))) S (m_X2_set l X (d 11) (d 12) (h.2.1 5) u1 ((z_rg (h.2.1 5) u1) + 1)) (cwV 2 hts gX0_letRoomsWait_X2_set rfl rfl rfl hdX2_set ⟨Nat.le_of_ble_eq_true rfl, Nat.le_of_ble_eq_true rfl⟩) hP hK hN hD hS hA (s_H_R11 X d h) (f_H_R11 X d h (z_rs (h.2.1 5) u1 ((z_rg (h.2.1 5) u1) + 1))) (ci := 2) rfl rfl rfl ⟨Nat.le_of_ble_eq_true rfl, Nat.le_of_ble_eq_true rfl⟩ rfl hl.1 rfl (Nat.le_of_ble_eq_true rfl) dX0_letRoomsWait_70 (fun H locs hP hD hS => ?_)
            refine lv_iload_n (pc := 73) hx hb dX0_letRoomsWait_73 rfl (lv_at hl 0 rfl) ?_
            refine lv_aload_n (pc := 74) hx hb dX0_letRoomsWait_74 rfl (lv_at hl 1 rfl) ?_
            refine va_get (pc := 75) (ci := 0) (C := RX0) (T := TX0) (N := 15) hx hb hts in_X0 hown hK hP 0 rfl rfl 8 (by decide) lk_fi22 (fun _ h9 => h9) rfl dX0_letRoomsWait_75 ?_
            refine lv_iload_n (pc := 78) hx hb dX0_letRoomsWait_78 rfl (lv_at hl 2 rfl) ?_
            refine z_cpI (pc := 79) S (m_X2_get l X (d 3) (d 4) (h.2.1 1) u1) (cwV 1 hts gX0_letRoomsWait_X2_get rfl rfl rfl hdX2_get ⟨Nat.le_of_ble_eq_true rfl, Nat.le_of_ble_eq_true rfl⟩) hP hK hN (s_H_R3 X d (z_hR h 5 (z_rs (h.2.1 5) u1 ((z_rg (h.2.1 5) u1) + 1)))) (ci := 2) rfl rfl rfl ⟨Nat.le_of_ble_eq_true rfl, Nat.le_of_ble_eq_true rfl⟩ rfl hl.1 rfl (Nat.le_of_ble_eq_true rfl) dX0_letRoomsWait_79 ?_
            obtain ⟨x82, e82, hf⟩ := z_bd hf
            refine z_csI (pc := 82) S (m_X0_isMultiple l X ((z_rg (h.2.1 5) u1) + 1) (z_rg (h.2.1 1) u1) e82) (va_cwS 2 hts gX0_letRoomsWait_X0_isMultiple rfl rfl rfl hdX0_isMultiple ⟨Nat.le_of_ble_eq_true rfl, Nat.le_of_ble_eq_true rfl⟩) hP hK hN (s_nil _) ⟨Nat.le_of_ble_eq_true rfl, Nat.le_of_ble_eq_true rfl⟩ rfl hl.1 rfl (Nat.le_of_ble_eq_true rfl) dX0_letRoomsWait_82 ?_
            refine lv_if_eq (pc := 85) (tgt := 94) hx hb dX0_letRoomsWait_85 (by decide) (fun c_85 => ?_) (fun c_85 => ?_)
            · replace hf := z_ip c_85 hf
              refine lv_iinc (pc := 94) (v := (u1 + 1)) (lv' := [(1, .int (u1 + 1)), (2, .int ((z_rg (h.2.1 5) u1) + 1)), (0, .ref (d 0))]) hx hb dX0_letRoomsWait_94 hl (k := 2) rfl rfl (by decide) rfl (fun ls hl => ?_)
              refine lv_goto (pc := 97) (tgt := 2) hx hb dX0_letRoomsWait_97 (by decide) ?_
              exact ih (u1 + 1) (z_hR h 5 (z_rs (h.2.1 5) u1 ((z_rg (h.2.1 5) u1) + 1))) T H locs hP hD hS ls (lv_sub hl [2, 0] rfl) hf kk
            · replace hf := z_in c_85 hf
              refine lv_aload_n (pc := 88) hx hb dX0_letRoomsWait_88 rfl (lv_at hl 1 rfl) ?_
              refine lv_iload_n (pc := 89) hx hb dX0_letRoomsWait_89 rfl (lv_at hl 2 rfl) ?_
              obtain ⟨x90, e90, hf⟩ := z_bd hf
              refine z_cmI (pc := 90) (W1 := (z_wH X d x90.2)) S (m_X0_pullBell l X d (z_hR h 5 (z_rs (h.2.1 5) u1 ((z_rg (h.2.1 5) u1) + 1))) u1 e90) (cwV 1 hts gX0_letRoomsWait_X0_pullBell rfl rfl rfl hdX0_pullBell ⟨Nat.le_of_ble_eq_true rfl, Nat.le_of_ble_eq_true rfl⟩) hP hK hN hD hS hA (s_H_H X d (z_hR h 5 (z_rs (h.2.1 5) u1 ((z_rg (h.2.1 5) u1) + 1)))) (f_H_H X d (z_hR h 5 (z_rs (h.2.1 5) u1 ((z_rg (h.2.1 5) u1) + 1))) x90.2) (ci := 0) rfl rfl rfl ⟨Nat.le_of_ble_eq_true rfl, Nat.le_of_ble_eq_true rfl⟩ rfl hl.1 rfl (Nat.le_of_ble_eq_true rfl) dX0_letRoomsWait_90 (fun H locs hP hD hS => ?_)
              refine lv_pop (pc := 93) hx hb dX0_letRoomsWait_93 rfl ?_
              refine lv_iinc (pc := 94) (v := (u1 + 1)) (lv' := [(1, .int (u1 + 1)), (2, .int ((z_rg (h.2.1 5) u1) + 1)), (0, .ref (d 0))]) hx hb dX0_letRoomsWait_94 hl (k := 2) rfl rfl (by decide) rfl (fun ls hl => ?_)
              refine lv_goto (pc := 97) (tgt := 2) hx hb dX0_letRoomsWait_97 (by decide) ?_
              exact ih (u1 + 1) x90.2 T H locs hP hD hS ls (lv_sub hl [2, 0] rfl) hf kk
          · replace hf := z_in c_39 hf
            refine lv_aload_n (pc := 42) hx hb dX0_letRoomsWait_42 rfl (lv_at hl 1 rfl) ?_
            refine va_get (pc := 43) (ci := 0) (C := RX0) (T := TX0) (N := 15) hx hb hts in_X0 hown hK hP 0 rfl rfl 12 (by decide) lk_fi34 (fun _ h9 => h9) rfl dX0_letRoomsWait_43 ?_
            refine lv_iload_n (pc := 46) hx hb dX0_letRoomsWait_46 rfl (lv_at hl 2 rfl) ?_
            refine lv_iconst (v := (-1)) (pc := 47) hx hb dX0_letRoomsWait_47 (by decide) ?_
            refine z_cmV (pc := 48) (W1 := (z_wH X d (z_hR h 5 (z_rs (h.2.1 5) u1 (-1))))) S (m_X2_set l X (d 11) (d 12) (h.2.1 5) u1 (-1)) (cwV 2 hts gX0_letRoomsWait_X2_set rfl rfl rfl hdX2_set ⟨Nat.le_of_ble_eq_true rfl, Nat.le_of_ble_eq_true rfl⟩) hP hK hN hD hS hA (s_H_R11 X d h) (f_H_R11 X d h (z_rs (h.2.1 5) u1 (-1))) (ci := 2) rfl rfl rfl ⟨Nat.le_of_ble_eq_true rfl, Nat.le_of_ble_eq_true rfl⟩ rfl hl.1 rfl (Nat.le_of_ble_eq_true rfl) dX0_letRoomsWait_48 (fun H locs hP hD hS => ?_)
            refine lv_aload_n (pc := 51) hx hb dX0_letRoomsWait_51 rfl (lv_at hl 1 rfl) ?_
            refine lv_dup (pc := 52) hx hb dX0_letRoomsWait_52 rfl ?_
            refine va_get (pc := 53) (ci := 0) (C := RX0) (T := TX0) (N := 15) hx hb hts in_X0 hown hK hP 0 rfl rfl 5 (by decide) lk_fi63 (fun _ h9 => h9) rfl dX0_letRoomsWait_53 ?_
            refine lv_iconst (v := 1) (pc := 56) hx hb dX0_letRoomsWait_56 (by decide) ?_
            refine lv_iadd (pc := 57) hx hb dX0_letRoomsWait_57 ?_
            refine z_put (pc := 58) (ci := 0) (C := RX0) (T := TX0) (N := 15) (W1 := (z_wH X d (z_hR (z_hS h 5 ((h.1 5) + 1)) 5 (z_rs (h.2.1 5) u1 (-1))))) hx hb hts in_X0 tyX0 tyX0_ok nmX0 hown hK hP hD hS 0 rfl rfl 5 (by decide) lk_fi63 (fun _ h9 => h9) rfl (by decide +kernel) (Nat.le_of_ble_eq_true rfl) dX0_letRoomsWait_58 rfl (fun H locs hP hD hS => ?_)
            refine lv_goto (pc := 61) (tgt := 94) hx hb dX0_letRoomsWait_61 (by decide) ?_
            refine lv_iinc (pc := 94) (v := (u1 + 1)) (lv' := [(1, .int (u1 + 1)), (2, .int ((z_rg (h.2.1 5) u1) + 1)), (0, .ref (d 0))]) hx hb dX0_letRoomsWait_94 hl (k := 2) rfl rfl (by decide) rfl (fun ls hl => ?_)
            refine lv_goto (pc := 97) (tgt := 2) hx hb dX0_letRoomsWait_97 (by decide) ?_
            exact ih (u1 + 1) (z_hR (z_hS h 5 ((h.1 5) + 1)) 5 (z_rs (h.2.1 5) u1 (-1))) T H locs hP hD hS ls (lv_sub hl [2, 0] rfl) hf kk
        · replace hf := z_ip c_19 hf
          refine lv_goto (pc := 22) (tgt := 94) hx hb dX0_letRoomsWait_22 (by decide) ?_
          refine lv_iinc (pc := 94) (v := (u1 + 1)) (lv' := [(1, .int (u1 + 1)), (0, .ref (d 0))]) hx hb dX0_letRoomsWait_94 hl (k := 1) rfl rfl (by decide) rfl (fun ls hl => ?_)
          refine lv_goto (pc := 97) (tgt := 2) hx hb dX0_letRoomsWait_97 (by decide) ?_
          exact ih (u1 + 1) h T H locs hP hD hS ls (lv_sub hl [1, 0] rfl) hf kk
  suffices hgo : ∀ (H : Heap) (locs : List Loc), va_P X.1 vwCl (z_wH X d h) H → va_D A (z_wH X d h) → va_S A s.heap H locs → W p l e (headSpec wsX0_letRoomsWait (z_R 2 45)).room s m ([.ref (d 0)] : List Value).toArray below meth c H locs 0 0 (MQ below (va_Qv (fun u : va_W => u = (z_wH X d RR)) (z_Bm X A) A) ([.ref (d 0)] : List Value).toArray s 0 0 A) (F0 m 0 ls []) from hgo _ _ hP hD hS
  clear hP hD hS
  intro H locs hP hD hS
  unfold f_X0_letRoomsWait at hf
  refine lv_iconst (v := 0) (pc := 0) hx hb dX0_letRoomsWait_0 (by decide) ?_
  refine lv_istore_n (pc := 1) (lv' := [(1, .int 0), (0, .ref (d 0))]) hx hb dX0_letRoomsWait_1 rfl hl (by decide) rfl (fun ls hl => ?_)
  obtain ⟨x2, e2, hf⟩ := z_bd hf
  refine lp_2 z_FU 0 h x2 H locs hP hD hS ls (lv_sub hl [1, 0] rfl) e2 (fun H locs hP hD hS ls hl => ?_)
  exact W.vret (pc := 100) hx hb hr (fun t ht hW => ⟨⟨(z_wH X d x2), rfl, congrArg (fun z => (z_wH X d z)) (Option.some.inj hf), by rw [ht]; exact hP, hD⟩, hS.F ht⟩) hS.2.2 dX0_letRoomsWait_100
def f_X0_arrive (h : z_H) (v1 : Int32) (v2 : Int32) : z_H := (if (z_rg (h.2.1 5) v2) = (-1) then (z_hG (z_hS h 4 ((h.1 4) + 1)) (z_gR h.2.2.2 1 (z_rs (h.2.2.2.2 1) v1 (z_rg (h.2.1 0) v2)))) else (z_hG (z_hR (z_hS h 3 ((h.1 3) + 1)) 5 (z_rs (h.2.1 5) v2 (-1))) (z_gR (z_gR (z_gR h.2.2.2 1 (z_rs (h.2.2.2.2 1) v1 (z_rg (h.2.1 0) v2))) 3 (z_rs (h.2.2.2.2 3) v1 v2)) 4 (z_rs (h.2.2.2.2 4) v1 (z_rg (h.2.1 2) v2)))))
set_option maxHeartbeats 4000000 in
set_option maxRecDepth 100000 in
theorem m_X0_arrive (l : Launch) (X : z_X) (d : Nat → Nat) (h : z_H) (v1 : Int32) (v2 : Int32) {RR : z_H} (hf : f_X0_arrive h v1 v2 = RR) : z_mV l yX0_arrive wsX0_arrive 1 22 X [.ref (d 0), .int v1, .int v2] (z_wH X d h) (z_wH X d RR) := by
  intro sz
  refine Met.ofW (cc := cX0_arrive) (maxL := 3) (ret := none) (by decide) rfl ?_
  intro p e s m args below meth c s₁ Bd hml hv
  obtain ⟨rfl, hsz, hP, hK, hN, hD0⟩ := hv
  have hx := Bd.exec
  have hb := Bd.bytes
  have hr := Bd.returns
  have hts := atoms_spec (ws := wsX0_arrive) Bd.pre
  have hown : s.vm.findClass RX0 = some m.cls := findClass_of_methodNamed Bd.named
  have hlocks := Bd.notSynchronized
  have S : CallFix p m c cX0_arrive 3 s _ wsX0_arrive RX0 := ⟨hx, hb, hml, hown, hts⟩
  have lk_fi47 := hts (.fieldLink RX0 47 "HouseBells$House" "staff" "LHouseBells$Staff;") (List.mem_of_getElem? (i := 1) rfl)
  have lk_fi18 := hts (.fieldLink RX0 18 "HouseBells$House" "floor" "LHouseBells$Row;") (List.mem_of_getElem? (i := 2) rfl)
  have lk_fi34 := hts (.fieldLink RX0 34 "HouseBells$House" "waited" "LHouseBells$Row;") (List.mem_of_getElem? (i := 3) rfl)
  have lk_fi57 := hts (.fieldLink RX0 57 "HouseBells$House" "served" "I") (List.mem_of_getElem? (i := 5) rfl)
  have lk_fi25 := hts (.fieldLink RX0 25 "HouseBells$House" "need" "LHouseBells$Row;") (List.mem_of_getElem? (i := 6) rfl)
  have lk_fi60 := hts (.fieldLink RX0 60 "HouseBells$House" "inVain" "I") (List.mem_of_getElem? (i := 4) rfl)
  have in_X0 : ∀ w ∈ wsX00, w ∈ wsX0_arrive := fun _ h => (List.mem_cons_of_mem _ (List.mem_append_left _ (List.mem_append_left _ (List.mem_append_right _ h))))
  have in_X3 : ∀ w ∈ wsX30, w ∈ wsX0_arrive := fun _ h => (List.mem_cons_of_mem _ (List.mem_append_left _ (List.mem_append_right _ h)))
  subst hsz
  have hD := hD0.self (sz := s.heap.size)
  generalize hAe : va_A (z_wH X d h) s.heap.size = A at hD ⊢
  have hA : ∀ q : Nat, s.heap.size ≤ q → A q := fun q h => by rw [← hAe]; exact Or.inr h
  have hS : va_S A s.heap s.heap [] := va_S.rf
  have hl := lv_entry ([.ref (d 0), .int v1, .int v2]) (n := 3) (Nat.le_of_ble_eq_true rfl)
  rw [lg_entry_eq]
  generalize (lg_sl ([.ref (d 0), .int v1, .int v2]) ++ List.replicate (3 - (lg_sl ([.ref (d 0), .int v1, .int v2])).length) Slot.unset).toArray = ls at hl ⊢
  have hl : lv_has ls 3 [(0, .ref (d 0)), (1, .int v1), (2, .int v2)] := hl
  suffices hgo : ∀ (H : Heap) (locs : List Loc), va_P X.1 vwCl (z_wH X d h) H → va_D A (z_wH X d h) → va_S A s.heap H locs → W p l e (headSpec wsX0_arrive (z_R 1 22)).room s m ([.ref (d 0), .int v1, .int v2] : List Value).toArray below meth c H locs 0 0 (MQ below (va_Qv (fun u : va_W => u = (z_wH X d RR)) (z_Bm X A) A) ([.ref (d 0), .int v1, .int v2] : List Value).toArray s 0 0 A) (F0 m 0 ls []) from hgo _ _ hP hD hS
  clear hP hD hS
  intro H locs hP hD hS
  unfold f_X0_arrive at hf
  refine lv_aload_n (pc := 0) hx hb dX0_arrive_0 rfl (lv_at hl 0 rfl) ?_
  refine va_get (pc := 1) (ci := 0) (C := RX0) (T := TX0) (N := 15) hx hb hts in_X0 hown hK hP 0 rfl rfl 14 (by decide) lk_fi47 (fun _ h9 => h9) rfl dX0_arrive_1 ?_
  refine va_getN (pc := 4) (ci := 3) (C := RX3) (T := TX3) (N := 6) hx hb hts in_X3 hown hK hP 15 rfl rfl 2 (by decide) (z_n4 hN) (fun _ h9 => h9) rfl dX0_arrive_4 ?_
  refine lv_iload_n (pc := 7) hx hb dX0_arrive_7 rfl (lv_at hl 1 rfl) ?_
  refine lv_aload_n (pc := 8) hx hb dX0_arrive_8 rfl (lv_at hl 0 rfl) ?_
  refine va_get (pc := 9) (ci := 0) (C := RX0) (T := TX0) (N := 15) hx hb hts in_X0 hown hK hP 0 rfl rfl 7 (by decide) lk_fi18 (fun _ h9 => h9) rfl dX0_arrive_9 ?_
  refine lv_iload_n (pc := 12) hx hb dX0_arrive_12 rfl (lv_at hl 2 rfl) ?_
  refine z_cpI (pc := 13) S (m_X2_get l X (d 1) (d 2) (h.2.1 0) v2) (cwV 1 hts gX0_arrive_X2_get rfl rfl rfl hdX2_get ⟨Nat.le_of_ble_eq_true rfl, Nat.le_of_ble_eq_true rfl⟩) hP hK hN (s_H_R1 X d h) (ci := 2) rfl rfl rfl ⟨Nat.le_of_ble_eq_true rfl, Nat.le_of_ble_eq_true rfl⟩ rfl hl.1 rfl (Nat.le_of_ble_eq_true rfl) dX0_arrive_13 ?_
  refine z_cmV (pc := 16) (W1 := (z_wH X d (z_hG h (z_gR h.2.2.2 1 (z_rs (h.2.2.2.2 1) v1 (z_rg (h.2.1 0) v2)))))) S (m_X2_set l X (d 18) (d 19) (h.2.2.2.2 1) v1 (z_rg (h.2.1 0) v2)) (cwV 2 hts gX0_arrive_X2_set rfl rfl rfl hdX2_set ⟨Nat.le_of_ble_eq_true rfl, Nat.le_of_ble_eq_true rfl⟩) hP hK hN hD hS hA (s_H_R18 X d h) (f_H_R18 X d h (z_rs (h.2.2.2.2 1) v1 (z_rg (h.2.1 0) v2))) (ci := 2) rfl rfl rfl ⟨Nat.le_of_ble_eq_true rfl, Nat.le_of_ble_eq_true rfl⟩ rfl hl.1 rfl (Nat.le_of_ble_eq_true rfl) dX0_arrive_16 (fun H locs hP hD hS => ?_)
  refine lv_aload_n (pc := 19) hx hb dX0_arrive_19 rfl (lv_at hl 0 rfl) ?_
  refine va_get (pc := 20) (ci := 0) (C := RX0) (T := TX0) (N := 15) hx hb hts in_X0 hown hK hP 0 rfl rfl 12 (by decide) lk_fi34 (fun _ h9 => h9) rfl dX0_arrive_20 ?_
  refine lv_iload_n (pc := 23) hx hb dX0_arrive_23 rfl (lv_at hl 2 rfl) ?_
  refine z_cpI (pc := 24) S (m_X2_get l X (d 11) (d 12) (h.2.1 5) v2) (cwV 1 hts gX0_arrive_X2_get rfl rfl rfl hdX2_get ⟨Nat.le_of_ble_eq_true rfl, Nat.le_of_ble_eq_true rfl⟩) hP hK hN (s_H_R11 X d (z_hG h (z_gR h.2.2.2 1 (z_rs (h.2.2.2.2 1) v1 (z_rg (h.2.1 0) v2))))) (ci := 2) rfl rfl rfl ⟨Nat.le_of_ble_eq_true rfl, Nat.le_of_ble_eq_true rfl⟩ rfl hl.1 rfl (Nat.le_of_ble_eq_true rfl) dX0_arrive_24 ?_
  refine lv_iconst (v := (-1)) (pc := 27) hx hb dX0_arrive_27 (by decide) ?_
  refine lv_icmp_ne (pc := 28) (tgt := 42) hx hb dX0_arrive_28 (by decide) (fun c_28 => ?_) (fun c_28 => ?_)
  · replace hf := z_in c_28 hf
    refine lv_aload_n (pc := 42) hx hb dX0_arrive_42 rfl (lv_at hl 0 rfl) ?_
    refine va_get (pc := 43) (ci := 0) (C := RX0) (T := TX0) (N := 15) hx hb hts in_X0 hown hK hP 0 rfl rfl 12 (by decide) lk_fi34 (fun _ h9 => h9) rfl dX0_arrive_43 ?_
    refine lv_iload_n (pc := 46) hx hb dX0_arrive_46 rfl (lv_at hl 2 rfl) ?_
    refine lv_iconst (v := (-1)) (pc := 47) hx hb dX0_arrive_47 (by decide) ?_
    refine z_cmV (pc := 48) (W1 := (z_wH X d (z_hG (z_hR h 5 (z_rs (h.2.1 5) v2 (-1))) (z_gR h.2.2.2 1 (z_rs (h.2.2.2.2 1) v1 (z_rg (h.2.1 0) v2)))))) S (m_X2_set l X (d 11) (d 12) (h.2.1 5) v2 (-1)) (cwV 2 hts gX0_arrive_X2_set rfl rfl rfl hdX2_set ⟨Nat.le_of_ble_eq_true rfl, Nat.le_of_ble_eq_true rfl⟩) hP hK hN hD hS hA (s_H_R11 X d (z_hG h (z_gR h.2.2.2 1 (z_rs (h.2.2.2.2 1) v1 (z_rg (h.2.1 0) v2))))) (f_H_R11 X d (z_hG h (z_gR h.2.2.2 1 (z_rs (h.2.2.2.2 1) v1 (z_rg (h.2.1 0) v2)))) (z_rs (h.2.1 5) v2 (-1))) (ci := 2) rfl rfl rfl ⟨Nat.le_of_ble_eq_true rfl, Nat.le_of_ble_eq_true rfl⟩ rfl hl.1 rfl (Nat.le_of_ble_eq_true rfl) dX0_arrive_48 (fun H locs hP hD hS => ?_)
    refine lv_aload_n (pc := 51) hx hb dX0_arrive_51 rfl (lv_at hl 0 rfl) ?_
    refine lv_dup (pc := 52) hx hb dX0_arrive_52 rfl ?_
    refine va_get (pc := 53) (ci := 0) (C := RX0) (T := TX0) (N := 15) hx hb hts in_X0 hown hK hP 0 rfl rfl 3 (by decide) lk_fi57 (fun _ h9 => h9) rfl dX0_arrive_53 ?_
    refine lv_iconst (v := 1) (pc := 56) hx hb dX0_arrive_56 (by decide) ?_
    refine lv_iadd (pc := 57) hx hb dX0_arrive_57 ?_
    refine z_put (pc := 58) (ci := 0) (C := RX0) (T := TX0) (N := 15) (W1 := (z_wH X d (z_hG (z_hR (z_hS h 3 ((h.1 3) + 1)) 5 (z_rs (h.2.1 5) v2 (-1))) (z_gR h.2.2.2 1 (z_rs (h.2.2.2.2 1) v1 (z_rg (h.2.1 0) v2)))))) hx hb hts in_X0 tyX0 tyX0_ok nmX0 hown hK hP hD hS 0 rfl rfl 3 (by decide) lk_fi57 (fun _ h9 => h9) rfl (by decide +kernel) (Nat.le_of_ble_eq_true rfl) dX0_arrive_58 rfl (fun H locs hP hD hS => ?_)
    refine lv_aload_n (pc := 61) hx hb dX0_arrive_61 rfl (lv_at hl 0 rfl) ?_
    refine va_get (pc := 62) (ci := 0) (C := RX0) (T := TX0) (N := 15) hx hb hts in_X0 hown hK hP 0 rfl rfl 14 (by decide) lk_fi47 (fun _ h9 => h9) rfl dX0_arrive_62 ?_
    refine va_getN (pc := 65) (ci := 3) (C := RX3) (T := TX3) (N := 6) hx hb hts in_X3 hown hK hP 15 rfl rfl 4 (by decide) (z_n8 hN) (fun _ h9 => h9) rfl dX0_arrive_65 ?_
    refine lv_iload_n (pc := 68) hx hb dX0_arrive_68 rfl (lv_at hl 1 rfl) ?_
    refine lv_iload_n (pc := 69) hx hb dX0_arrive_69 rfl (lv_at hl 2 rfl) ?_
    refine z_cmV (pc := 70) (W1 := (z_wH X d (z_hG (z_hR (z_hS h 3 ((h.1 3) + 1)) 5 (z_rs (h.2.1 5) v2 (-1))) (z_gR (z_gR h.2.2.2 1 (z_rs (h.2.2.2.2 1) v1 (z_rg (h.2.1 0) v2))) 3 (z_rs (h.2.2.2.2 3) v1 v2))))) S (m_X2_set l X (d 22) (d 23) (h.2.2.2.2 3) v1 v2) (cwV 2 hts gX0_arrive_X2_set rfl rfl rfl hdX2_set ⟨Nat.le_of_ble_eq_true rfl, Nat.le_of_ble_eq_true rfl⟩) hP hK hN hD hS hA (s_H_R22 X d (z_hG (z_hR (z_hS h 3 ((h.1 3) + 1)) 5 (z_rs (h.2.1 5) v2 (-1))) (z_gR h.2.2.2 1 (z_rs (h.2.2.2.2 1) v1 (z_rg (h.2.1 0) v2))))) (f_H_R22 X d (z_hG (z_hR (z_hS h 3 ((h.1 3) + 1)) 5 (z_rs (h.2.1 5) v2 (-1))) (z_gR h.2.2.2 1 (z_rs (h.2.2.2.2 1) v1 (z_rg (h.2.1 0) v2)))) (z_rs (h.2.2.2.2 3) v1 v2)) (ci := 2) rfl rfl rfl ⟨Nat.le_of_ble_eq_true rfl, Nat.le_of_ble_eq_true rfl⟩ rfl hl.1 rfl (Nat.le_of_ble_eq_true rfl) dX0_arrive_70 (fun H locs hP hD hS => ?_)
    refine lv_aload_n (pc := 73) hx hb dX0_arrive_73 rfl (lv_at hl 0 rfl) ?_
    refine va_get (pc := 74) (ci := 0) (C := RX0) (T := TX0) (N := 15) hx hb hts in_X0 hown hK hP 0 rfl rfl 14 (by decide) lk_fi47 (fun _ h9 => h9) rfl dX0_arrive_74 ?_
    refine va_getN (pc := 77) (ci := 3) (C := RX3) (T := TX3) (N := 6) hx hb hts in_X3 hown hK hP 15 rfl rfl 5 (by decide) (z_n10 hN) (fun _ h9 => h9) rfl dX0_arrive_77 ?_
    refine lv_iload_n (pc := 80) hx hb dX0_arrive_80 rfl (lv_at hl 1 rfl) ?_
    refine lv_aload_n (pc := 81) hx hb dX0_arrive_81 rfl (lv_at hl 0 rfl) ?_
    refine va_get (pc := 82) (ci := 0) (C := RX0) (T := TX0) (N := 15) hx hb hts in_X0 hown hK hP 0 rfl rfl 9 (by decide) lk_fi25 (fun _ h9 => h9) rfl dX0_arrive_82 ?_
    refine lv_iload_n (pc := 85) hx hb dX0_arrive_85 rfl (lv_at hl 2 rfl) ?_
    refine z_cpI (pc := 86) S (m_X2_get l X (d 5) (d 6) (h.2.1 2) v2) (cwV 1 hts gX0_arrive_X2_get rfl rfl rfl hdX2_get ⟨Nat.le_of_ble_eq_true rfl, Nat.le_of_ble_eq_true rfl⟩) hP hK hN (s_H_R5 X d (z_hG (z_hR (z_hS h 3 ((h.1 3) + 1)) 5 (z_rs (h.2.1 5) v2 (-1))) (z_gR (z_gR h.2.2.2 1 (z_rs (h.2.2.2.2 1) v1 (z_rg (h.2.1 0) v2))) 3 (z_rs (h.2.2.2.2 3) v1 v2)))) (ci := 2) rfl rfl rfl ⟨Nat.le_of_ble_eq_true rfl, Nat.le_of_ble_eq_true rfl⟩ rfl hl.1 rfl (Nat.le_of_ble_eq_true rfl) dX0_arrive_86 ?_
    refine z_cmV (pc := 89) (W1 := (z_wH X d (z_hG (z_hR (z_hS h 3 ((h.1 3) + 1)) 5 (z_rs (h.2.1 5) v2 (-1))) (z_gR (z_gR (z_gR h.2.2.2 1 (z_rs (h.2.2.2.2 1) v1 (z_rg (h.2.1 0) v2))) 3 (z_rs (h.2.2.2.2 3) v1 v2)) 4 (z_rs (h.2.2.2.2 4) v1 (z_rg (h.2.1 2) v2)))))) S (m_X2_set l X (d 24) (d 25) (h.2.2.2.2 4) v1 (z_rg (h.2.1 2) v2)) (cwV 2 hts gX0_arrive_X2_set rfl rfl rfl hdX2_set ⟨Nat.le_of_ble_eq_true rfl, Nat.le_of_ble_eq_true rfl⟩) hP hK hN hD hS hA (s_H_R24 X d (z_hG (z_hR (z_hS h 3 ((h.1 3) + 1)) 5 (z_rs (h.2.1 5) v2 (-1))) (z_gR (z_gR h.2.2.2 1 (z_rs (h.2.2.2.2 1) v1 (z_rg (h.2.1 0) v2))) 3 (z_rs (h.2.2.2.2 3) v1 v2)))) (f_H_R24 X d (z_hG (z_hR (z_hS h 3 ((h.1 3) + 1)) 5 (z_rs (h.2.1 5) v2 (-1))) (z_gR (z_gR h.2.2.2 1 (z_rs (h.2.2.2.2 1) v1 (z_rg (h.2.1 0) v2))) 3 (z_rs (h.2.2.2.2 3) v1 v2))) (z_rs (h.2.2.2.2 4) v1 (z_rg (h.2.1 2) v2))) (ci := 2) rfl rfl rfl ⟨Nat.le_of_ble_eq_true rfl, Nat.le_of_ble_eq_true rfl⟩ rfl hl.1 rfl (Nat.le_of_ble_eq_true rfl) dX0_arrive_89 (fun H locs hP hD hS => ?_)
    exact W.vret (pc := 92) hx hb hr (fun t ht hW => ⟨⟨(z_wH X d (z_hG (z_hR (z_hS h 3 ((h.1 3) + 1)) 5 (z_rs (h.2.1 5) v2 (-1))) (z_gR (z_gR (z_gR h.2.2.2 1 (z_rs (h.2.2.2.2 1) v1 (z_rg (h.2.1 0) v2))) 3 (z_rs (h.2.2.2.2 3) v1 v2)) 4 (z_rs (h.2.2.2.2 4) v1 (z_rg (h.2.1 2) v2))))), rfl, congrArg (fun z => (z_wH X d z)) hf, by rw [ht]; exact hP, hD⟩, hS.F ht⟩) hS.2.2 dX0_arrive_92
  · replace hf := z_ip c_28 hf
    refine lv_aload_n (pc := 31) hx hb dX0_arrive_31 rfl (lv_at hl 0 rfl) ?_
    refine lv_dup (pc := 32) hx hb dX0_arrive_32 rfl ?_
    refine va_get (pc := 33) (ci := 0) (C := RX0) (T := TX0) (N := 15) hx hb hts in_X0 hown hK hP 0 rfl rfl 4 (by decide) lk_fi60 (fun _ h9 => h9) rfl dX0_arrive_33 ?_
    refine lv_iconst (v := 1) (pc := 36) hx hb dX0_arrive_36 (by decide) ?_
    refine lv_iadd (pc := 37) hx hb dX0_arrive_37 ?_
    refine z_put (pc := 38) (ci := 0) (C := RX0) (T := TX0) (N := 15) (W1 := (z_wH X d (z_hG (z_hS h 4 ((h.1 4) + 1)) (z_gR h.2.2.2 1 (z_rs (h.2.2.2.2 1) v1 (z_rg (h.2.1 0) v2)))))) hx hb hts in_X0 tyX0 tyX0_ok nmX0 hown hK hP hD hS 0 rfl rfl 4 (by decide) lk_fi60 (fun _ h9 => h9) rfl (by decide +kernel) (Nat.le_of_ble_eq_true rfl) dX0_arrive_38 rfl (fun H locs hP hD hS => ?_)
    exact W.vret (pc := 41) hx hb hr (fun t ht hW => ⟨⟨(z_wH X d (z_hG (z_hS h 4 ((h.1 4) + 1)) (z_gR h.2.2.2 1 (z_rs (h.2.2.2.2 1) v1 (z_rg (h.2.1 0) v2))))), rfl, congrArg (fun z => (z_wH X d z)) hf, by rw [ht]; exact hP, hD⟩, hS.F ht⟩) hS.2.2 dX0_arrive_41
def f_X0_letServantsMove_L2  : Nat → Int32 → z_H → Option z_H
  | 0, _, _ => none
  | n + 1, u1, h => (if h.2.2.2.1 ≤ u1 then some h else (if (f_X3_isIdle h.2.2.2 u1) = 0 then (if ((z_rg (h.2.2.2.2 4) u1) - 1) ≤ 0 then (if (z_rg (h.2.2.2.2 2) u1) = (-1) then f_X0_letServantsMove_L2 n (u1 + 1) (z_hG h (f_X3_rest (z_gR h.2.2.2 4 (z_rs (h.2.2.2.2 4) u1 ((z_rg (h.2.2.2.2 4) u1) - 1))) u1)) else f_X0_letServantsMove_L2 n (u1 + 1) (f_X0_arrive (z_hG h (f_X3_rest (z_gR h.2.2.2 4 (z_rs (h.2.2.2.2 4) u1 ((z_rg (h.2.2.2.2 4) u1) - 1))) u1)) u1 (z_rg (h.2.2.2.2 2) u1))) else f_X0_letServantsMove_L2 n (u1 + 1) (z_hG h (z_gR h.2.2.2 4 (z_rs (h.2.2.2.2 4) u1 ((z_rg (h.2.2.2.2 4) u1) - 1))))) else f_X0_letServantsMove_L2 n (u1 + 1) h))
def f_X0_letServantsMove (h : z_H) : Option z_H := (f_X0_letServantsMove_L2 z_FU 0 h).bind (fun x2 => some x2)
set_option maxHeartbeats 4000000 in
set_option maxRecDepth 100000 in
theorem m_X0_letServantsMove (l : Launch) (X : z_X) (d : Nat → Nat) (h : z_H) {RR : z_H} (hf : f_X0_letServantsMove h = some RR) : z_mV l yX0_letServantsMove wsX0_letServantsMove 2 44 X [.ref (d 0)] (z_wH X d h) (z_wH X d RR) := by
  intro sz
  refine Met.ofW (cc := cX0_letServantsMove) (maxL := 4) (ret := none) (by decide) rfl ?_
  intro p e s m args below meth c s₁ Bd hml hv
  obtain ⟨rfl, hsz, hP, hK, hN, hD0⟩ := hv
  have hx := Bd.exec
  have hb := Bd.bytes
  have hr := Bd.returns
  have hts := atoms_spec (ws := wsX0_letServantsMove) Bd.pre
  have hown : s.vm.findClass RX0 = some m.cls := findClass_of_methodNamed Bd.named
  have hlocks := Bd.notSynchronized
  have S : CallFix p m c cX0_letServantsMove 4 s _ wsX0_letServantsMove RX0 := ⟨hx, hb, hml, hown, hts⟩
  have lk_fi47 := hts (.fieldLink RX0 47 "HouseBells$House" "staff" "LHouseBells$Staff;") (List.mem_of_getElem? (i := 1) rfl)
  have in_X0 : ∀ w ∈ wsX00, w ∈ wsX0_letServantsMove := fun _ h => (List.mem_cons_of_mem _ (List.mem_append_left _ (List.mem_append_left _ (List.mem_append_right _ h))))
  have in_X3 : ∀ w ∈ wsX30, w ∈ wsX0_letServantsMove := fun _ h => (List.mem_cons_of_mem _ (List.mem_append_left _ (List.mem_append_right _ h)))
  subst hsz
  have hD := hD0.self (sz := s.heap.size)
  generalize hAe : va_A (z_wH X d h) s.heap.size = A at hD ⊢
  have hA : ∀ q : Nat, s.heap.size ≤ q → A q := fun q h => by rw [← hAe]; exact Or.inr h
  have hS : va_S A s.heap s.heap [] := va_S.rf
  have hl := lv_entry ([.ref (d 0)]) (n := 4) (Nat.le_of_ble_eq_true rfl)
  rw [lg_entry_eq]
  generalize (lg_sl ([.ref (d 0)]) ++ List.replicate (4 - (lg_sl ([.ref (d 0)])).length) Slot.unset).toArray = ls at hl ⊢
  have hl : lv_has ls 4 [(0, .ref (d 0))] := hl
  have lp_2 : ∀ (n : Nat) (u1 : Int32) (h : z_H) (T : z_H) (H : Heap) (locs : List Loc), va_P X.1 vwCl (z_wH X d h) H → va_D A (z_wH X d h) → va_S A s.heap H locs → ∀ (ls : Array Slot), lv_has ls 4 [(0, .ref (d 0)), (1, .int u1)] → f_X0_letServantsMove_L2 n u1 h = some T → (∀ (H : Heap) (locs : List Loc), va_P X.1 vwCl (z_wH X d T) H → va_D A (z_wH X d T) → va_S A s.heap H locs → ∀ (ls : Array Slot), lv_has ls 4 [] → W p l e (headSpec wsX0_letServantsMove (z_R 2 44)).room s m ([.ref (d 0)] : List Value).toArray below meth c H locs 0 0 (MQ below (va_Qv (fun u : va_W => u = (z_wH X d RR)) (z_Bm X A) A) ([.ref (d 0)] : List Value).toArray s 0 0 A) (F0 m 97 ls [])) → W p l e (headSpec wsX0_letServantsMove (z_R 2 44)).room s m ([.ref (d 0)] : List Value).toArray below meth c H locs 0 0 (MQ below (va_Qv (fun u : va_W => u = (z_wH X d RR)) (z_Bm X A) A) ([.ref (d 0)] : List Value).toArray s 0 0 A) (F0 m 2 ls []) := by
    intro n
    induction n with
    | zero =>
      intro u1 h T H locs hP hD hS ls hl hf kk
      cases hf
    | succ n ih =>
      intro u1 h T H locs hP hD hS ls hl hf kk
      rw [f_X0_letServantsMove_L2] at hf
      refine lv_iload_n (pc := 2) hx hb dX0_letServantsMove_2 rfl (lv_at hl 1 rfl) ?_
      refine lv_aload_n (pc := 3) hx hb dX0_letServantsMove_3 rfl (lv_at hl 0 rfl) ?_
      refine va_get (pc := 4) (ci := 0) (C := RX0) (T := TX0) (N := 15) hx hb hts in_X0 hown hK hP 0 rfl rfl 14 (by decide) lk_fi47 (fun _ h9 => h9) rfl dX0_letServantsMove_4 ?_
      refine va_getN (pc := 7) (ci := 3) (C := RX3) (T := TX3) (N := 6) hx hb hts in_X3 hown hK hP 15 rfl rfl 0 (by decide) (z_n3 hN) (fun _ h9 => h9) rfl dX0_letServantsMove_7 ?_
      refine lv_icmp_ge (pc := 10) (tgt := 97) hx hb dX0_letServantsMove_10 (by decide) (fun c_10 => ?_) (fun c_10 => ?_)
      · replace hf := z_ip c_10 hf
        obtain rfl := Option.some.inj hf
        exact kk H locs hP hD hS ls (lv_sub hl [] rfl)
      · replace hf := z_in c_10 hf
        refine lv_aload_n (pc := 13) hx hb dX0_letServantsMove_13 rfl (lv_at hl 0 rfl) ?_
        refine va_get (pc := 14) (ci := 0) (C := RX0) (T := TX0) (N := 15) hx hb hts in_X0 hown hK hP 0 rfl rfl 14 (by decide) lk_fi47 (fun _ h9 => h9) rfl dX0_letServantsMove_14 ?_
        refine lv_iload_n (pc := 17) hx hb dX0_letServantsMove_17 rfl (lv_at hl 1 rfl) ?_
        refine z_cpI (pc := 18) S (m_X3_isIdle l X d h.2.2.2 u1 rfl) (cwV 1 hts gX0_letServantsMove_X3_isIdle rfl rfl rfl hdX3_isIdle ⟨Nat.le_of_ble_eq_true rfl, Nat.le_of_ble_eq_true rfl⟩) hP hK hN (s_H_G15 X d h) (ci := 3) rfl rfl rfl ⟨Nat.le_of_ble_eq_true rfl, Nat.le_of_ble_eq_true rfl⟩ rfl hl.1 rfl (Nat.le_of_ble_eq_true rfl) dX0_letServantsMove_18 ?_
        refine lv_if_eq (pc := 21) (tgt := 27) hx hb dX0_letServantsMove_21 (by decide) (fun c_21 => ?_) (fun c_21 => ?_)
        · replace hf := z_ip c_21 hf
          refine lv_aload_n (pc := 27) hx hb dX0_letServantsMove_27 rfl (lv_at hl 0 rfl) ?_
          refine va_get (pc := 28) (ci := 0) (C := RX0) (T := TX0) (N := 15) hx hb hts in_X0 hown hK hP 0 rfl rfl 14 (by decide) lk_fi47 (fun _ h9 => h9) rfl dX0_letServantsMove_28 ?_
          refine va_getN (pc := 31) (ci := 3) (C := RX3) (T := TX3) (N := 6) hx hb hts in_X3 hown hK hP 15 rfl rfl 5 (by decide) (z_n10 hN) (fun _ h9 => h9) rfl dX0_letServantsMove_31 ?_
          refine lv_iload_n (pc := 34) hx hb dX0_letServantsMove_34 rfl (lv_at hl 1 rfl) ?_
          refine z_cpI (pc := 35) S (m_X2_get l X (d 24) (d 25) (h.2.2.2.2 4) u1) (cwV 1 hts gX0_letServantsMove_X2_get rfl rfl rfl hdX2_get ⟨Nat.le_of_ble_eq_true rfl, Nat.le_of_ble_eq_true rfl⟩) hP hK hN (s_H_R24 X d h) (ci := 2) rfl rfl rfl ⟨Nat.le_of_ble_eq_true rfl, Nat.le_of_ble_eq_true rfl⟩ rfl hl.1 rfl (Nat.le_of_ble_eq_true rfl) dX0_letServantsMove_35 ?_
          refine lv_iconst (v := 1) (pc := 38) hx hb dX0_letServantsMove_38 (by decide) ?_
          refine lv_isub (pc := 39) hx hb dX0_letServantsMove_39 ?_
          refine lv_istore_n (pc := 40) (lv' := [(2, .int ((z_rg (h.2.2.2.2 4) u1) - 1)), (0, .ref (d 0)), (1, .int u1)]) hx hb dX0_letServantsMove_40 rfl hl (by decide) rfl (fun ls hl => ?_)
          refine lv_aload_n (pc := 41) hx hb dX0_letServantsMove_41 rfl (lv_at hl 1 rfl) ?_
          refine va_get (pc := 42) (ci := 0) (C := RX0) (T := TX0) (N := 15) hx hb hts in_X0 hown hK hP 0 rfl rfl 14 (by decide) lk_fi47 (fun _ h9 => h9) rfl dX0_letServantsMove_42 ?_
          refine va_getN (pc := 45) (ci := 3) (C := RX3) (T := TX3) (N := 6) hx hb hts in_X3 hown hK hP 15 rfl rfl 5 (by decide) (z_n10 hN) (fun _ h9 => h9) rfl dX0_letServantsMove_45 ?_
          refine lv_iload_n (pc := 48) hx hb dX0_letServantsMove_48 rfl (lv_at hl 2 rfl) ?_
          refine lv_iload_n (pc := 49) hx hb dX0_letServantsMove_49 rfl (lv_at hl 0 rfl) ?_
          refine z_cmV (pc := 50) (W1 := (z_wH X d (z_hG h (z_gR h.2.2.2 4 (z_rs (h.2.2.2.2 4) u1 ((z_rg (h.2.2.2.2 4) u1) - 1)))))) S (m_X2_set l X (d 24) (d 25) (h.2.2.2.2 4) u1 ((z_rg (h.2.2.2.2 4) u1) - 1)) (cwV 2 hts gX0_letServantsMove_X2_set rfl rfl rfl hdX2_set ⟨Nat.le_of_ble_eq_true rfl, Nat.le_of_ble_eq_true rfl⟩) hP hK hN hD hS hA (s_H_R24 X d h) (f_H_R24 X d h (z_rs (h.2.2.2.2 4) u1 ((z_rg (h.2.2.2.2 4) u1) - 1))) (ci := 2) rfl rfl rfl ⟨Nat.le_of_ble_eq_true rfl, Nat.le_of_ble_eq_true rfl⟩ rfl hl.1 rfl (Nat.le_of_ble_eq_true rfl) dX0_letServantsMove_50 (fun H locs hP hD hS => ?_)
          refine lv_iload_n (pc := 53) hx hb dX0_letServantsMove_53 rfl (lv_at hl 0 rfl) ?_
          refine lv_if_le (pc := 54) (tgt := 60) hx hb dX0_letServantsMove_54 (by decide) (fun c_54 => ?_) (fun c_54 => ?_)
          · replace hf := z_ip c_54 hf
            refine lv_aload_n (pc := 60) hx hb dX0_letServantsMove_60 rfl (lv_at hl 1 rfl) ?_
            refine va_get (pc := 61) (ci := 0) (C := RX0) (T := TX0) (N := 15) hx hb hts in_X0 hown hK hP 0 rfl rfl 14 (by decide) lk_fi47 (fun _ h9 => h9) rfl dX0_letServantsMove_61 ?_
            refine va_getN (pc := 64) (ci := 3) (C := RX3) (T := TX3) (N := 6) hx hb hts in_X3 hown hK hP 15 rfl rfl 3 (by decide) (z_n6 hN) (fun _ h9 => h9) rfl dX0_letServantsMove_64 ?_
            refine lv_iload_n (pc := 67) hx hb dX0_letServantsMove_67 rfl (lv_at hl 2 rfl) ?_
            refine z_cpI (pc := 68) S (m_X2_get l X (d 20) (d 21) (h.2.2.2.2 2) u1) (cwV 1 hts gX0_letServantsMove_X2_get rfl rfl rfl hdX2_get ⟨Nat.le_of_ble_eq_true rfl, Nat.le_of_ble_eq_true rfl⟩) hP hK hN (s_H_R20 X d (z_hG h (z_gR h.2.2.2 4 (z_rs (h.2.2.2.2 4) u1 ((z_rg (h.2.2.2.2 4) u1) - 1))))) (ci := 2) rfl rfl rfl ⟨Nat.le_of_ble_eq_true rfl, Nat.le_of_ble_eq_true rfl⟩ rfl hl.1 rfl (Nat.le_of_ble_eq_true rfl) dX0_letServantsMove_68 ?_
            refine lv_istore_n (pc := 71) (lv' := [(3, .int (z_rg (h.2.2.2.2 2) u1)), (2, .int ((z_rg (h.2.2.2.2 4) u1) - 1)), (0, .ref (d 0)), (1, .int u1)]) hx hb dX0_letServantsMove_71 rfl hl (by decide) rfl (fun ls hl => ?_)
            refine lv_aload_n (pc := 72) hx hb dX0_letServantsMove_72 rfl (lv_at hl 2 rfl) ?_
            refine va_get (pc := 73) (ci := 0) (C := RX0) (T := TX0) (N := 15) hx hb hts in_X0 hown hK hP 0 rfl rfl 14 (by decide) lk_fi47 (fun _ h9 => h9) rfl dX0_letServantsMove_73 ?_
            refine lv_iload_n (pc := 76) hx hb dX0_letServantsMove_76 rfl (lv_at hl 3 rfl) ?_
            refine z_cmV (pc := 77) (W1 := (z_wH X d (z_hG h (f_X3_rest (z_gR h.2.2.2 4 (z_rs (h.2.2.2.2 4) u1 ((z_rg (h.2.2.2.2 4) u1) - 1))) u1)))) S (m_X3_rest l X d (z_gR h.2.2.2 4 (z_rs (h.2.2.2.2 4) u1 ((z_rg (h.2.2.2.2 4) u1) - 1))) u1 rfl) (cwV 1 hts gX0_letServantsMove_X3_rest rfl rfl rfl hdX3_rest ⟨Nat.le_of_ble_eq_true rfl, Nat.le_of_ble_eq_true rfl⟩) hP hK hN hD hS hA (s_H_G15 X d (z_hG h (z_gR h.2.2.2 4 (z_rs (h.2.2.2.2 4) u1 ((z_rg (h.2.2.2.2 4) u1) - 1))))) (f_H_G15 X d (z_hG h (z_gR h.2.2.2 4 (z_rs (h.2.2.2.2 4) u1 ((z_rg (h.2.2.2.2 4) u1) - 1)))) (f_X3_rest (z_gR h.2.2.2 4 (z_rs (h.2.2.2.2 4) u1 ((z_rg (h.2.2.2.2 4) u1) - 1))) u1)) (ci := 3) rfl rfl rfl ⟨Nat.le_of_ble_eq_true rfl, Nat.le_of_ble_eq_true rfl⟩ rfl hl.1 rfl (Nat.le_of_ble_eq_true rfl) dX0_letServantsMove_77 (fun H locs hP hD hS => ?_)
            refine lv_iload_n (pc := 80) hx hb dX0_letServantsMove_80 rfl (lv_at hl 0 rfl) ?_
            refine lv_iconst (v := (-1)) (pc := 81) hx hb dX0_letServantsMove_81 (by decide) ?_
            refine lv_icmp_eq (pc := 82) (tgt := 91) hx hb dX0_letServantsMove_82 (by decide) (fun c_82 => ?_) (fun c_82 => ?_)
            · replace hf := z_ip c_82 hf
              refine lv_iinc (pc := 91) (v := (u1 + 1)) (lv' := [(1, .int (u1 + 1)), (3, .int (z_rg (h.2.2.2.2 2) u1)), (2, .int ((z_rg (h.2.2.2.2 4) u1) - 1)), (0, .ref (d 0))]) hx hb dX0_letServantsMove_91 hl (k := 3) rfl rfl (by decide) rfl (fun ls hl => ?_)
              refine lv_goto (pc := 94) (tgt := 2) hx hb dX0_letServantsMove_94 (by decide) ?_
              exact ih (u1 + 1) (z_hG h (f_X3_rest (z_gR h.2.2.2 4 (z_rs (h.2.2.2.2 4) u1 ((z_rg (h.2.2.2.2 4) u1) - 1))) u1)) T H locs hP hD hS ls (lv_sub hl [3, 0] rfl) hf kk
            · replace hf := z_in c_82 hf
              refine lv_aload_n (pc := 85) hx hb dX0_letServantsMove_85 rfl (lv_at hl 2 rfl) ?_
              refine lv_iload_n (pc := 86) hx hb dX0_letServantsMove_86 rfl (lv_at hl 3 rfl) ?_
              refine lv_iload_n (pc := 87) hx hb dX0_letServantsMove_87 rfl (lv_at hl 0 rfl) ?_
              refine z_cmV (pc := 88) (W1 := (z_wH X d (f_X0_arrive (z_hG h (f_X3_rest (z_gR h.2.2.2 4 (z_rs (h.2.2.2.2 4) u1 ((z_rg (h.2.2.2.2 4) u1) - 1))) u1)) u1 (z_rg (h.2.2.2.2 2) u1)))) S (m_X0_arrive l X d (z_hG h (f_X3_rest (z_gR h.2.2.2 4 (z_rs (h.2.2.2.2 4) u1 ((z_rg (h.2.2.2.2 4) u1) - 1))) u1)) u1 (z_rg (h.2.2.2.2 2) u1) rfl) (cwV 2 hts gX0_letServantsMove_X0_arrive rfl rfl rfl hdX0_arrive ⟨Nat.le_of_ble_eq_true rfl, Nat.le_of_ble_eq_true rfl⟩) hP hK hN hD hS hA (s_H_H X d (z_hG h (f_X3_rest (z_gR h.2.2.2 4 (z_rs (h.2.2.2.2 4) u1 ((z_rg (h.2.2.2.2 4) u1) - 1))) u1))) (f_H_H X d (z_hG h (f_X3_rest (z_gR h.2.2.2 4 (z_rs (h.2.2.2.2 4) u1 ((z_rg (h.2.2.2.2 4) u1) - 1))) u1)) (f_X0_arrive (z_hG h (f_X3_rest (z_gR h.2.2.2 4 (z_rs (h.2.2.2.2 4) u1 ((z_rg (h.2.2.2.2 4) u1) - 1))) u1)) u1 (z_rg (h.2.2.2.2 2) u1))) (ci := 0) rfl rfl rfl ⟨Nat.le_of_ble_eq_true rfl, Nat.le_of_ble_eq_true rfl⟩ rfl hl.1 rfl (Nat.le_of_ble_eq_true rfl) dX0_letServantsMove_88 (fun H locs hP hD hS => ?_)
              refine lv_iinc (pc := 91) (v := (u1 + 1)) (lv' := [(1, .int (u1 + 1)), (3, .int (z_rg (h.2.2.2.2 2) u1)), (2, .int ((z_rg (h.2.2.2.2 4) u1) - 1)), (0, .ref (d 0))]) hx hb dX0_letServantsMove_91 hl (k := 3) rfl rfl (by decide) rfl (fun ls hl => ?_)
              refine lv_goto (pc := 94) (tgt := 2) hx hb dX0_letServantsMove_94 (by decide) ?_
              exact ih (u1 + 1) (f_X0_arrive (z_hG h (f_X3_rest (z_gR h.2.2.2 4 (z_rs (h.2.2.2.2 4) u1 ((z_rg (h.2.2.2.2 4) u1) - 1))) u1)) u1 (z_rg (h.2.2.2.2 2) u1)) T H locs hP hD hS ls (lv_sub hl [3, 0] rfl) hf kk
          · replace hf := z_in c_54 hf
            refine lv_goto (pc := 57) (tgt := 91) hx hb dX0_letServantsMove_57 (by decide) ?_
            refine lv_iinc (pc := 91) (v := (u1 + 1)) (lv' := [(1, .int (u1 + 1)), (2, .int ((z_rg (h.2.2.2.2 4) u1) - 1)), (0, .ref (d 0))]) hx hb dX0_letServantsMove_91 hl (k := 2) rfl rfl (by decide) rfl (fun ls hl => ?_)
            refine lv_goto (pc := 94) (tgt := 2) hx hb dX0_letServantsMove_94 (by decide) ?_
            exact ih (u1 + 1) (z_hG h (z_gR h.2.2.2 4 (z_rs (h.2.2.2.2 4) u1 ((z_rg (h.2.2.2.2 4) u1) - 1)))) T H locs hP hD hS ls (lv_sub hl [2, 0] rfl) hf kk
        · replace hf := z_in c_21 hf
          refine lv_goto (pc := 24) (tgt := 91) hx hb dX0_letServantsMove_24 (by decide) ?_
          refine lv_iinc (pc := 91) (v := (u1 + 1)) (lv' := [(1, .int (u1 + 1)), (0, .ref (d 0))]) hx hb dX0_letServantsMove_91 hl (k := 1) rfl rfl (by decide) rfl (fun ls hl => ?_)
          refine lv_goto (pc := 94) (tgt := 2) hx hb dX0_letServantsMove_94 (by decide) ?_
          exact ih (u1 + 1) h T H locs hP hD hS ls (lv_sub hl [1, 0] rfl) hf kk
  suffices hgo : ∀ (H : Heap) (locs : List Loc), va_P X.1 vwCl (z_wH X d h) H → va_D A (z_wH X d h) → va_S A s.heap H locs → W p l e (headSpec wsX0_letServantsMove (z_R 2 44)).room s m ([.ref (d 0)] : List Value).toArray below meth c H locs 0 0 (MQ below (va_Qv (fun u : va_W => u = (z_wH X d RR)) (z_Bm X A) A) ([.ref (d 0)] : List Value).toArray s 0 0 A) (F0 m 0 ls []) from hgo _ _ hP hD hS
  clear hP hD hS
  intro H locs hP hD hS
  unfold f_X0_letServantsMove at hf
  refine lv_iconst (v := 0) (pc := 0) hx hb dX0_letServantsMove_0 (by decide) ?_
  refine lv_istore_n (pc := 1) (lv' := [(1, .int 0), (0, .ref (d 0))]) hx hb dX0_letServantsMove_1 rfl hl (by decide) rfl (fun ls hl => ?_)
  obtain ⟨x2, e2, hf⟩ := z_bd hf
  refine lp_2 z_FU 0 h x2 H locs hP hD hS ls (lv_sub hl [1, 0] rfl) e2 (fun H locs hP hD hS ls hl => ?_)
  exact W.vret (pc := 97) hx hb hr (fun t ht hW => ⟨⟨(z_wH X d x2), rfl, congrArg (fun z => (z_wH X d z)) (Option.some.inj hf), by rw [ht]; exact hP, hD⟩, hS.F ht⟩) hS.2.2 dX0_letServantsMove_97
def f_X0_sendIdleServants_L2  : Nat → Int32 → z_H → Option z_H
  | 0, _, _ => none
  | n + 1, u1, h => (if h.2.2.2.1 ≤ u1 then some h else (if h.2.2.1.1 ≤ 0 then some h else (f_X1_first h.2.2.1).bind (fun x27 => (f_X3_nearestTo h.2.2.2 (z_rg (h.2.1 0) x27)).bind (fun x43 => (if x43 = (-1) then some h else (f_X1_remove h.2.2.1 x27).bind (fun x58 => (f_X3_wayToFloor h.2.2.2 x43 (z_rg (h.2.1 0) x27)).bind (fun x74 => f_X0_sendIdleServants_L2 n (u1 + 1) (z_hG (z_hL h x58) (z_gR (z_gR h.2.2.2 2 (z_rs (h.2.2.2.2 2) x43 x27)) 4 (z_rs (h.2.2.2.2 4) x43 x74))))))))))
def f_X0_sendIdleServants (h : z_H) : Option z_H := f_X0_sendIdleServants_L2 z_FU 0 h
set_option maxHeartbeats 4000000 in
set_option maxRecDepth 100000 in
theorem m_X0_sendIdleServants (l : Launch) (X : z_X) (d : Nat → Nat) (h : z_H) {RR : z_H} (hf : f_X0_sendIdleServants h = some RR) : z_mV l yX0_sendIdleServants wsX0_sendIdleServants 2 49 X [.ref (d 0)] (z_wH X d h) (z_wH X d RR) := by
  intro sz
  refine Met.ofW (cc := cX0_sendIdleServants) (maxL := 5) (ret := none) (by decide) rfl ?_
  intro p e s m args below meth c s₁ Bd hml hv
  obtain ⟨rfl, hsz, hP, hK, hN, hD0⟩ := hv
  have hx := Bd.exec
  have hb := Bd.bytes
  have hr := Bd.returns
  have hts := atoms_spec (ws := wsX0_sendIdleServants) Bd.pre
  have hown : s.vm.findClass RX0 = some m.cls := findClass_of_methodNamed Bd.named
  have hlocks := Bd.notSynchronized
  have S : CallFix p m c cX0_sendIdleServants 5 s _ wsX0_sendIdleServants RX0 := ⟨hx, hb, hml, hown, hts⟩
  have lk_fi47 := hts (.fieldLink RX0 47 "HouseBells$House" "staff" "LHouseBells$Staff;") (List.mem_of_getElem? (i := 1) rfl)
  have lk_fi40 := hts (.fieldLink RX0 40 "HouseBells$House" "line" "LHouseBells$Line;") (List.mem_of_getElem? (i := 2) rfl)
  have lk_fi18 := hts (.fieldLink RX0 18 "HouseBells$House" "floor" "LHouseBells$Row;") (List.mem_of_getElem? (i := 3) rfl)
  have in_X0 : ∀ w ∈ wsX00, w ∈ wsX0_sendIdleServants := fun _ h => (List.mem_cons_of_mem _ (List.mem_append_left _ (List.mem_append_left _ (List.mem_append_left _ (List.mem_append_right _ h)))))
  have in_X1 : ∀ w ∈ wsX10, w ∈ wsX0_sendIdleServants := fun _ h => (List.mem_cons_of_mem _ (List.mem_append_left _ (List.mem_append_right _ h)))
  have in_X3 : ∀ w ∈ wsX30, w ∈ wsX0_sendIdleServants := fun _ h => (List.mem_cons_of_mem _ (List.mem_append_left _ (List.mem_append_left _ (List.mem_append_right _ h))))
  subst hsz
  have hD := hD0.self (sz := s.heap.size)
  generalize hAe : va_A (z_wH X d h) s.heap.size = A at hD ⊢
  have hA : ∀ q : Nat, s.heap.size ≤ q → A q := fun q h => by rw [← hAe]; exact Or.inr h
  have hS : va_S A s.heap s.heap [] := va_S.rf
  have hl := lv_entry ([.ref (d 0)]) (n := 5) (Nat.le_of_ble_eq_true rfl)
  rw [lg_entry_eq]
  generalize (lg_sl ([.ref (d 0)]) ++ List.replicate (5 - (lg_sl ([.ref (d 0)])).length) Slot.unset).toArray = ls at hl ⊢
  have hl : lv_has ls 5 [(0, .ref (d 0))] := hl
  have lp_2 : ∀ (n : Nat) (u1 : Int32) (h : z_H) (H : Heap) (locs : List Loc), va_P X.1 vwCl (z_wH X d h) H → va_D A (z_wH X d h) → va_S A s.heap H locs → ∀ (ls : Array Slot), lv_has ls 5 [(0, .ref (d 0)), (1, .int u1)] → f_X0_sendIdleServants_L2 n u1 h = some RR → W p l e (headSpec wsX0_sendIdleServants (z_R 2 49)).room s m ([.ref (d 0)] : List Value).toArray below meth c H locs 0 0 (MQ below (va_Qv (fun u : va_W => u = (z_wH X d RR)) (z_Bm X A) A) ([.ref (d 0)] : List Value).toArray s 0 0 A) (F0 m 2 ls []) := by
    intro n
    induction n with
    | zero =>
      intro u1 h H locs hP hD hS ls hl hf
      cases hf
    | succ n ih =>
      intro u1 h H locs hP hD hS ls hl hf
      rw [f_X0_sendIdleServants_L2] at hf
      refine lv_iload_n (pc := 2) hx hb dX0_sendIdleServants_2 rfl (lv_at hl 1 rfl) ?_
      refine lv_aload_n (pc := 3) hx hb dX0_sendIdleServants_3 rfl (lv_at hl 0 rfl) ?_
      refine va_get (pc := 4) (ci := 0) (C := RX0) (T := TX0) (N := 15) hx hb hts in_X0 hown hK hP 0 rfl rfl 14 (by decide) lk_fi47 (fun _ h9 => h9) rfl dX0_sendIdleServants_4 ?_
      refine va_getN (pc := 7) (ci := 3) (C := RX3) (T := TX3) (N := 6) hx hb hts in_X3 hown hK hP 15 rfl rfl 0 (by decide) (z_n3 hN) (fun _ h9 => h9) rfl dX0_sendIdleServants_7 ?_
      refine lv_icmp_ge (pc := 10) (tgt := 110) hx hb dX0_sendIdleServants_10 (by decide) (fun c_10 => ?_) (fun c_10 => ?_)
      · replace hf := z_ip c_10 hf
        exact W.vret (pc := 110) hx hb hr (fun t ht hW => ⟨⟨(z_wH X d h), rfl, congrArg (fun z => (z_wH X d z)) (Option.some.inj hf), by rw [ht]; exact hP, hD⟩, hS.F ht⟩) hS.2.2 dX0_sendIdleServants_110
      · replace hf := z_in c_10 hf
        refine lv_aload_n (pc := 13) hx hb dX0_sendIdleServants_13 rfl (lv_at hl 0 rfl) ?_
        refine va_get (pc := 14) (ci := 0) (C := RX0) (T := TX0) (N := 15) hx hb hts in_X0 hown hK hP 0 rfl rfl 13 (by decide) lk_fi40 (fun _ h9 => h9) rfl dX0_sendIdleServants_14 ?_
        refine va_getN (pc := 17) (ci := 1) (C := RX1) (T := TX1) (N := 2) hx hb hts in_X1 hown hK hP 13 rfl rfl 0 (by decide) (z_n1 hN) (fun _ h9 => h9) rfl dX0_sendIdleServants_17 ?_
        refine lv_if_le (pc := 20) (tgt := 110) hx hb dX0_sendIdleServants_20 (by decide) (fun c_20 => ?_) (fun c_20 => ?_)
        · replace hf := z_ip c_20 hf
          exact W.vret (pc := 110) hx hb hr (fun t ht hW => ⟨⟨(z_wH X d h), rfl, congrArg (fun z => (z_wH X d z)) (Option.some.inj hf), by rw [ht]; exact hP, hD⟩, hS.F ht⟩) hS.2.2 dX0_sendIdleServants_110
        · replace hf := z_in c_20 hf
          refine lv_aload_n (pc := 23) hx hb dX0_sendIdleServants_23 rfl (lv_at hl 0 rfl) ?_
          refine va_get (pc := 24) (ci := 0) (C := RX0) (T := TX0) (N := 15) hx hb hts in_X0 hown hK hP 0 rfl rfl 13 (by decide) lk_fi40 (fun _ h9 => h9) rfl dX0_sendIdleServants_24 ?_
          obtain ⟨x27, e27, hf⟩ := z_bd hf
          refine z_cpI (pc := 27) S (m_X1_first l X d h.2.2.1 e27) (cwV 0 hts gX0_sendIdleServants_X1_first rfl rfl rfl hdX1_first ⟨Nat.le_of_ble_eq_true rfl, Nat.le_of_ble_eq_true rfl⟩) hP hK hN (s_H_L13 X d h) (ci := 1) rfl rfl rfl ⟨Nat.le_of_ble_eq_true rfl, Nat.le_of_ble_eq_true rfl⟩ rfl hl.1 rfl (Nat.le_of_ble_eq_true rfl) dX0_sendIdleServants_27 ?_
          refine lv_istore_n (pc := 30) (lv' := [(2, .int x27), (0, .ref (d 0)), (1, .int u1)]) hx hb dX0_sendIdleServants_30 rfl hl (by decide) rfl (fun ls hl => ?_)
          refine lv_aload_n (pc := 31) hx hb dX0_sendIdleServants_31 rfl (lv_at hl 1 rfl) ?_
          refine va_get (pc := 32) (ci := 0) (C := RX0) (T := TX0) (N := 15) hx hb hts in_X0 hown hK hP 0 rfl rfl 14 (by decide) lk_fi47 (fun _ h9 => h9) rfl dX0_sendIdleServants_32 ?_
          refine lv_aload_n (pc := 35) hx hb dX0_sendIdleServants_35 rfl (lv_at hl 1 rfl) ?_
          refine va_get (pc := 36) (ci := 0) (C := RX0) (T := TX0) (N := 15) hx hb hts in_X0 hown hK hP 0 rfl rfl 7 (by decide) lk_fi18 (fun _ h9 => h9) rfl dX0_sendIdleServants_36 ?_
          refine lv_iload_n (pc := 39) hx hb dX0_sendIdleServants_39 rfl (lv_at hl 0 rfl) ?_
          refine z_cpI (pc := 40) S (m_X2_get l X (d 1) (d 2) (h.2.1 0) x27) (cwV 1 hts gX0_sendIdleServants_X2_get rfl rfl rfl hdX2_get ⟨Nat.le_of_ble_eq_true rfl, Nat.le_of_ble_eq_true rfl⟩) hP hK hN (s_H_R1 X d h) (ci := 2) rfl rfl rfl ⟨Nat.le_of_ble_eq_true rfl, Nat.le_of_ble_eq_true rfl⟩ rfl hl.1 rfl (Nat.le_of_ble_eq_true rfl) dX0_sendIdleServants_40 ?_
          obtain ⟨x43, e43, hf⟩ := z_bd hf
          refine z_cpI (pc := 43) S (m_X3_nearestTo l X d h.2.2.2 (z_rg (h.2.1 0) x27) e43) (cwV 1 hts gX0_sendIdleServants_X3_nearestTo rfl rfl rfl hdX3_nearestTo ⟨Nat.le_of_ble_eq_true rfl, Nat.le_of_ble_eq_true rfl⟩) hP hK hN (s_H_G15 X d h) (ci := 3) rfl rfl rfl ⟨Nat.le_of_ble_eq_true rfl, Nat.le_of_ble_eq_true rfl⟩ rfl hl.1 rfl (Nat.le_of_ble_eq_true rfl) dX0_sendIdleServants_43 ?_
          refine lv_istore_n (pc := 46) (lv' := [(3, .int x43), (2, .int x27), (0, .ref (d 0)), (1, .int u1)]) hx hb dX0_sendIdleServants_46 rfl hl (by decide) rfl (fun ls hl => ?_)
          refine lv_iload_n (pc := 47) hx hb dX0_sendIdleServants_47 rfl (lv_at hl 0 rfl) ?_
          refine lv_iconst (v := (-1)) (pc := 48) hx hb dX0_sendIdleServants_48 (by decide) ?_
          refine lv_icmp_ne (pc := 49) (tgt := 53) hx hb dX0_sendIdleServants_49 (by decide) (fun c_49 => ?_) (fun c_49 => ?_)
          · replace hf := z_in c_49 hf
            refine lv_aload_n (pc := 53) hx hb dX0_sendIdleServants_53 rfl (lv_at hl 2 rfl) ?_
            refine va_get (pc := 54) (ci := 0) (C := RX0) (T := TX0) (N := 15) hx hb hts in_X0 hown hK hP 0 rfl rfl 13 (by decide) lk_fi40 (fun _ h9 => h9) rfl dX0_sendIdleServants_54 ?_
            refine lv_iload_n (pc := 57) hx hb dX0_sendIdleServants_57 rfl (lv_at hl 1 rfl) ?_
            obtain ⟨x58, e58, hf⟩ := z_bd hf
            refine z_cmV (pc := 58) (W1 := (z_wH X d (z_hL h x58))) S (m_X1_remove l X d h.2.2.1 x27 e58) (cwV 1 hts gX0_sendIdleServants_X1_remove rfl rfl rfl hdX1_remove ⟨Nat.le_of_ble_eq_true rfl, Nat.le_of_ble_eq_true rfl⟩) hP hK hN hD hS hA (s_H_L13 X d h) (f_H_L13 X d h x58) (ci := 1) rfl rfl rfl ⟨Nat.le_of_ble_eq_true rfl, Nat.le_of_ble_eq_true rfl⟩ rfl hl.1 rfl (Nat.le_of_ble_eq_true rfl) dX0_sendIdleServants_58 (fun H locs hP hD hS => ?_)
            refine lv_aload_n (pc := 61) hx hb dX0_sendIdleServants_61 rfl (lv_at hl 2 rfl) ?_
            refine va_get (pc := 62) (ci := 0) (C := RX0) (T := TX0) (N := 15) hx hb hts in_X0 hown hK hP 0 rfl rfl 14 (by decide) lk_fi47 (fun _ h9 => h9) rfl dX0_sendIdleServants_62 ?_
            refine lv_iload_n (pc := 65) hx hb dX0_sendIdleServants_65 rfl (lv_at hl 0 rfl) ?_
            refine lv_aload_n (pc := 66) hx hb dX0_sendIdleServants_66 rfl (lv_at hl 2 rfl) ?_
            refine va_get (pc := 67) (ci := 0) (C := RX0) (T := TX0) (N := 15) hx hb hts in_X0 hown hK hP 0 rfl rfl 7 (by decide) lk_fi18 (fun _ h9 => h9) rfl dX0_sendIdleServants_67 ?_
            refine lv_iload_n (pc := 70) hx hb dX0_sendIdleServants_70 rfl (lv_at hl 1 rfl) ?_
            refine z_cpI (pc := 71) S (m_X2_get l X (d 1) (d 2) (h.2.1 0) x27) (cwV 1 hts gX0_sendIdleServants_X2_get rfl rfl rfl hdX2_get ⟨Nat.le_of_ble_eq_true rfl, Nat.le_of_ble_eq_true rfl⟩) hP hK hN (s_H_R1 X d (z_hL h x58)) (ci := 2) rfl rfl rfl ⟨Nat.le_of_ble_eq_true rfl, Nat.le_of_ble_eq_true rfl⟩ rfl hl.1 rfl (Nat.le_of_ble_eq_true rfl) dX0_sendIdleServants_71 ?_
            obtain ⟨x74, e74, hf⟩ := z_bd hf
            refine z_cpI (pc := 74) S (m_X3_wayToFloor l X d h.2.2.2 x43 (z_rg (h.2.1 0) x27) e74) (cwV 2 hts gX0_sendIdleServants_X3_wayToFloor rfl rfl rfl hdX3_wayToFloor ⟨Nat.le_of_ble_eq_true rfl, Nat.le_of_ble_eq_true rfl⟩) hP hK hN (s_H_G15 X d (z_hL h x58)) (ci := 3) rfl rfl rfl ⟨Nat.le_of_ble_eq_true rfl, Nat.le_of_ble_eq_true rfl⟩ rfl hl.1 rfl (Nat.le_of_ble_eq_true rfl) dX0_sendIdleServants_74 ?_
            refine lv_istore (pc := 77) (lv' := [(4, .int x74), (3, .int x43), (2, .int x27), (0, .ref (d 0)), (1, .int u1)]) hx hb dX0_sendIdleServants_77 hl (by decide) rfl (fun ls hl => ?_)
            refine lv_aload_n (pc := 79) hx hb dX0_sendIdleServants_79 rfl (lv_at hl 3 rfl) ?_
            refine va_get (pc := 80) (ci := 0) (C := RX0) (T := TX0) (N := 15) hx hb hts in_X0 hown hK hP 0 rfl rfl 14 (by decide) lk_fi47 (fun _ h9 => h9) rfl dX0_sendIdleServants_80 ?_
            refine va_getN (pc := 83) (ci := 3) (C := RX3) (T := TX3) (N := 6) hx hb hts in_X3 hown hK hP 15 rfl rfl 3 (by decide) (z_n6 hN) (fun _ h9 => h9) rfl dX0_sendIdleServants_83 ?_
            refine lv_iload_n (pc := 86) hx hb dX0_sendIdleServants_86 rfl (lv_at hl 1 rfl) ?_
            refine lv_iload_n (pc := 87) hx hb dX0_sendIdleServants_87 rfl (lv_at hl 2 rfl) ?_
            refine z_cmV (pc := 88) (W1 := (z_wH X d (z_hG (z_hL h x58) (z_gR h.2.2.2 2 (z_rs (h.2.2.2.2 2) x43 x27))))) S (m_X2_set l X (d 20) (d 21) (h.2.2.2.2 2) x43 x27) (cwV 2 hts gX0_sendIdleServants_X2_set rfl rfl rfl hdX2_set ⟨Nat.le_of_ble_eq_true rfl, Nat.le_of_ble_eq_true rfl⟩) hP hK hN hD hS hA (s_H_R20 X d (z_hL h x58)) (f_H_R20 X d (z_hL h x58) (z_rs (h.2.2.2.2 2) x43 x27)) (ci := 2) rfl rfl rfl ⟨Nat.le_of_ble_eq_true rfl, Nat.le_of_ble_eq_true rfl⟩ rfl hl.1 rfl (Nat.le_of_ble_eq_true rfl) dX0_sendIdleServants_88 (fun H locs hP hD hS => ?_)
            refine lv_aload_n (pc := 91) hx hb dX0_sendIdleServants_91 rfl (lv_at hl 3 rfl) ?_
            refine va_get (pc := 92) (ci := 0) (C := RX0) (T := TX0) (N := 15) hx hb hts in_X0 hown hK hP 0 rfl rfl 14 (by decide) lk_fi47 (fun _ h9 => h9) rfl dX0_sendIdleServants_92 ?_
            refine va_getN (pc := 95) (ci := 3) (C := RX3) (T := TX3) (N := 6) hx hb hts in_X3 hown hK hP 15 rfl rfl 5 (by decide) (z_n10 hN) (fun _ h9 => h9) rfl dX0_sendIdleServants_95 ?_
            refine lv_iload_n (pc := 98) hx hb dX0_sendIdleServants_98 rfl (lv_at hl 1 rfl) ?_
            refine lv_iload (pc := 99) hx hb dX0_sendIdleServants_99 (lv_at hl 0 rfl) ?_
            refine z_cmV (pc := 101) (W1 := (z_wH X d (z_hG (z_hL h x58) (z_gR (z_gR h.2.2.2 2 (z_rs (h.2.2.2.2 2) x43 x27)) 4 (z_rs (h.2.2.2.2 4) x43 x74))))) S (m_X2_set l X (d 24) (d 25) (h.2.2.2.2 4) x43 x74) (cwV 2 hts gX0_sendIdleServants_X2_set rfl rfl rfl hdX2_set ⟨Nat.le_of_ble_eq_true rfl, Nat.le_of_ble_eq_true rfl⟩) hP hK hN hD hS hA (s_H_R24 X d (z_hG (z_hL h x58) (z_gR h.2.2.2 2 (z_rs (h.2.2.2.2 2) x43 x27)))) (f_H_R24 X d (z_hG (z_hL h x58) (z_gR h.2.2.2 2 (z_rs (h.2.2.2.2 2) x43 x27))) (z_rs (h.2.2.2.2 4) x43 x74)) (ci := 2) rfl rfl rfl ⟨Nat.le_of_ble_eq_true rfl, Nat.le_of_ble_eq_true rfl⟩ rfl hl.1 rfl (Nat.le_of_ble_eq_true rfl) dX0_sendIdleServants_101 (fun H locs hP hD hS => ?_)
            refine lv_iinc (pc := 104) (v := (u1 + 1)) (lv' := [(1, .int (u1 + 1)), (4, .int x74), (3, .int x43), (2, .int x27), (0, .ref (d 0))]) hx hb dX0_sendIdleServants_104 hl (k := 4) rfl rfl (by decide) rfl (fun ls hl => ?_)
            refine lv_goto (pc := 107) (tgt := 2) hx hb dX0_sendIdleServants_107 (by decide) ?_
            exact ih (u1 + 1) (z_hG (z_hL h x58) (z_gR (z_gR h.2.2.2 2 (z_rs (h.2.2.2.2 2) x43 x27)) 4 (z_rs (h.2.2.2.2 4) x43 x74))) H locs hP hD hS ls (lv_sub hl [4, 0] rfl) hf
          · replace hf := z_ip c_49 hf
            exact W.vret (pc := 52) hx hb hr (fun t ht hW => ⟨⟨(z_wH X d h), rfl, congrArg (fun z => (z_wH X d z)) (Option.some.inj hf), by rw [ht]; exact hP, hD⟩, hS.F ht⟩) hS.2.2 dX0_sendIdleServants_52
  suffices hgo : ∀ (H : Heap) (locs : List Loc), va_P X.1 vwCl (z_wH X d h) H → va_D A (z_wH X d h) → va_S A s.heap H locs → W p l e (headSpec wsX0_sendIdleServants (z_R 2 49)).room s m ([.ref (d 0)] : List Value).toArray below meth c H locs 0 0 (MQ below (va_Qv (fun u : va_W => u = (z_wH X d RR)) (z_Bm X A) A) ([.ref (d 0)] : List Value).toArray s 0 0 A) (F0 m 0 ls []) from hgo _ _ hP hD hS
  clear hP hD hS
  intro H locs hP hD hS
  unfold f_X0_sendIdleServants at hf
  refine lv_iconst (v := 0) (pc := 0) hx hb dX0_sendIdleServants_0 (by decide) ?_
  refine lv_istore_n (pc := 1) (lv' := [(1, .int 0), (0, .ref (d 0))]) hx hb dX0_sendIdleServants_1 rfl hl (by decide) rfl (fun ls hl => ?_)
  exact lp_2 z_FU 0 h H locs hP hD hS ls (lv_sub hl [1, 0] rfl) hf
def f_X0_letMinuteGoBy (h : z_H) : Option (Int32 × z_H) := (f_X0_letRoomsWait h).bind (fun x6 => (f_X0_letServantsMove x6).bind (fun x10 => (f_X0_sendIdleServants x10).bind (fun x14 => some (((x14.1 3) - (h.1 3)), (z_hS x14 0 ((x14.1 0) + 1))))))
set_option maxHeartbeats 4000000 in
set_option maxRecDepth 100000 in
theorem m_X0_letMinuteGoBy (l : Launch) (X : z_X) (d : Nat → Nat) (h : z_H) {RR : (Int32 × z_H)} (hf : f_X0_letMinuteGoBy h = some RR) : z_mI l yX0_letMinuteGoBy wsX0_letMinuteGoBy 3 73 X [.ref (d 0)] (z_wH X d h) RR.1 (z_wH X d RR.2) := by
  intro sz
  refine Met.ofW (cc := cX0_letMinuteGoBy) (maxL := 2) (ret := (some .int)) (by decide) rfl ?_
  intro p e s m args below meth c s₁ Bd hml hv
  obtain ⟨rfl, hsz, hP, hK, hN, hD0⟩ := hv
  have hx := Bd.exec
  have hb := Bd.bytes
  have hr := Bd.returns
  have hts := atoms_spec (ws := wsX0_letMinuteGoBy) Bd.pre
  have hown : s.vm.findClass RX0 = some m.cls := findClass_of_methodNamed Bd.named
  have hlocks := Bd.notSynchronized
  have S : CallFix p m c cX0_letMinuteGoBy 2 s _ wsX0_letMinuteGoBy RX0 := ⟨hx, hb, hml, hown, hts⟩
  have lk_fi57 := hts (.fieldLink RX0 57 "HouseBells$House" "served" "I") (List.mem_of_getElem? (i := 1) rfl)
  have lk_fi51 := hts (.fieldLink RX0 51 "HouseBells$House" "minute" "I") (List.mem_of_getElem? (i := 2) rfl)
  have in_X0 : ∀ w ∈ wsX00, w ∈ wsX0_letMinuteGoBy := fun _ h => (List.mem_cons_of_mem _ (List.mem_append_left _ (List.mem_append_left _ (List.mem_append_left _ (List.mem_append_right _ h)))))
  subst hsz
  have hD := hD0.self (sz := s.heap.size)
  generalize hAe : va_A (z_wH X d h) s.heap.size = A at hD ⊢
  have hA : ∀ q : Nat, s.heap.size ≤ q → A q := fun q h => by rw [← hAe]; exact Or.inr h
  have hS : va_S A s.heap s.heap [] := va_S.rf
  have hl := lv_entry ([.ref (d 0)]) (n := 2) (Nat.le_of_ble_eq_true rfl)
  rw [lg_entry_eq]
  generalize (lg_sl ([.ref (d 0)]) ++ List.replicate (2 - (lg_sl ([.ref (d 0)])).length) Slot.unset).toArray = ls at hl ⊢
  have hl : lv_has ls 2 [(0, .ref (d 0))] := hl
  suffices hgo : ∀ (H : Heap) (locs : List Loc), va_P X.1 vwCl (z_wH X d h) H → va_D A (z_wH X d h) → va_S A s.heap H locs → W p l e (headSpec wsX0_letMinuteGoBy (z_R 3 73)).room s m ([.ref (d 0)] : List Value).toArray below meth c H locs 0 0 (MQ below (va_Qi (fun (z : Int32) (u : va_W) => z = RR.1 ∧ u = (z_wH X d RR.2)) (z_Bm X A) A) ([.ref (d 0)] : List Value).toArray s 0 0 A) (F0 m 0 ls []) from hgo _ _ hP hD hS
  clear hP hD hS
  intro H locs hP hD hS
  unfold f_X0_letMinuteGoBy at hf
  refine lv_aload_n (pc := 0) hx hb dX0_letMinuteGoBy_0 rfl (lv_at hl 0 rfl) ?_
  refine va_get (pc := 1) (ci := 0) (C := RX0) (T := TX0) (N := 15) hx hb hts in_X0 hown hK hP 0 rfl rfl 3 (by decide) lk_fi57 (fun _ h9 => h9) rfl dX0_letMinuteGoBy_1 ?_
  refine lv_istore_n (pc := 4) (lv' := [(1, .int (h.1 3)), (0, .ref (d 0))]) hx hb dX0_letMinuteGoBy_4 rfl hl (by decide) rfl (fun ls hl => ?_)
  refine lv_aload_n (pc := 5) hx hb dX0_letMinuteGoBy_5 rfl (lv_at hl 1 rfl) ?_
  obtain ⟨x6, e6, hf⟩ := z_bd hf
  refine z_cmV (pc := 6) (W1 := (z_wH X d x6)) S (m_X0_letRoomsWait l X d h e6) (cwV 0 hts gX0_letMinuteGoBy_X0_letRoomsWait rfl rfl rfl hdX0_letRoomsWait ⟨Nat.le_of_ble_eq_true rfl, Nat.le_of_ble_eq_true rfl⟩) hP hK hN hD hS hA (s_H_H X d h) (f_H_H X d h x6) (ci := 0) rfl rfl rfl ⟨Nat.le_of_ble_eq_true rfl, Nat.le_of_ble_eq_true rfl⟩ rfl hl.1 rfl (Nat.le_of_ble_eq_true rfl) dX0_letMinuteGoBy_6 (fun H locs hP hD hS => ?_)
  refine lv_aload_n (pc := 9) hx hb dX0_letMinuteGoBy_9 rfl (lv_at hl 1 rfl) ?_
  obtain ⟨x10, e10, hf⟩ := z_bd hf
  refine z_cmV (pc := 10) (W1 := (z_wH X d x10)) S (m_X0_letServantsMove l X d x6 e10) (cwV 0 hts gX0_letMinuteGoBy_X0_letServantsMove rfl rfl rfl hdX0_letServantsMove ⟨Nat.le_of_ble_eq_true rfl, Nat.le_of_ble_eq_true rfl⟩) hP hK hN hD hS hA (s_H_H X d x6) (f_H_H X d x6 x10) (ci := 0) rfl rfl rfl ⟨Nat.le_of_ble_eq_true rfl, Nat.le_of_ble_eq_true rfl⟩ rfl hl.1 rfl (Nat.le_of_ble_eq_true rfl) dX0_letMinuteGoBy_10 (fun H locs hP hD hS => ?_)
  refine lv_aload_n (pc := 13) hx hb dX0_letMinuteGoBy_13 rfl (lv_at hl 1 rfl) ?_
  obtain ⟨x14, e14, hf⟩ := z_bd hf
  refine z_cmV (pc := 14) (W1 := (z_wH X d x14)) S (m_X0_sendIdleServants l X d x10 e14) (cwV 0 hts gX0_letMinuteGoBy_X0_sendIdleServants rfl rfl rfl hdX0_sendIdleServants ⟨Nat.le_of_ble_eq_true rfl, Nat.le_of_ble_eq_true rfl⟩) hP hK hN hD hS hA (s_H_H X d x10) (f_H_H X d x10 x14) (ci := 0) rfl rfl rfl ⟨Nat.le_of_ble_eq_true rfl, Nat.le_of_ble_eq_true rfl⟩ rfl hl.1 rfl (Nat.le_of_ble_eq_true rfl) dX0_letMinuteGoBy_14 (fun H locs hP hD hS => ?_)
  refine lv_aload_n (pc := 17) hx hb dX0_letMinuteGoBy_17 rfl (lv_at hl 1 rfl) ?_
  refine lv_dup (pc := 18) hx hb dX0_letMinuteGoBy_18 rfl ?_
  refine va_get (pc := 19) (ci := 0) (C := RX0) (T := TX0) (N := 15) hx hb hts in_X0 hown hK hP 0 rfl rfl 0 (by decide) lk_fi51 (fun _ h9 => h9) rfl dX0_letMinuteGoBy_19 ?_
  refine lv_iconst (v := 1) (pc := 22) hx hb dX0_letMinuteGoBy_22 (by decide) ?_
  refine lv_iadd (pc := 23) hx hb dX0_letMinuteGoBy_23 ?_
  refine z_put (pc := 24) (ci := 0) (C := RX0) (T := TX0) (N := 15) (W1 := (z_wH X d (z_hS x14 0 ((x14.1 0) + 1)))) hx hb hts in_X0 tyX0 tyX0_ok nmX0 hown hK hP hD hS 0 rfl rfl 0 (by decide) lk_fi51 (fun _ h9 => h9) rfl (by decide +kernel) (Nat.le_of_ble_eq_true rfl) dX0_letMinuteGoBy_24 rfl (fun H locs hP hD hS => ?_)
  refine lv_aload_n (pc := 27) hx hb dX0_letMinuteGoBy_27 rfl (lv_at hl 1 rfl) ?_
  refine va_get (pc := 28) (ci := 0) (C := RX0) (T := TX0) (N := 15) hx hb hts in_X0 hown hK hP 0 rfl rfl 3 (by decide) lk_fi57 (fun _ h9 => h9) rfl dX0_letMinuteGoBy_28 ?_
  refine lv_iload_n (pc := 31) hx hb dX0_letMinuteGoBy_31 rfl (lv_at hl 0 rfl) ?_
  refine lv_isub (pc := 32) hx hb dX0_letMinuteGoBy_32 ?_
  exact W.iret (pc := 33) (v := ((x14.1 3) - (h.1 3))) hx hb hr (fun t ht hW => ⟨⟨_, (z_wH X d (z_hS x14 0 ((x14.1 0) + 1))), rfl, ⟨z_e1 hf, congrArg (fun z => (z_wH X d z)) (z_e2 hf)⟩, by rw [ht]; exact hP, hD⟩, hS.F ht⟩) hS.2.2 dX0_letMinuteGoBy_33
