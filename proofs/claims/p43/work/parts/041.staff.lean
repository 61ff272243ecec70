def f_X3_copyFrom (G : z_G) (G2 : z_G) : Option z_G := (f_X2_copyFrom (G.2 0) (G2.2 0)).bind (fun x16 => (f_X2_copyFrom (G.2 1) (G2.2 1)).bind (fun x27 => (f_X2_copyFrom (G.2 2) (G2.2 2)).bind (fun x38 => (f_X2_copyFrom (G.2 3) (G2.2 3)).bind (fun x49 => (f_X2_copyFrom (G.2 4) (G2.2 4)).bind (fun x60 => some (z_gR (z_gR (z_gR (z_gR (z_gR (z_gC G G2.1) 0 x16) 1 x27) 2 x38) 3 x49) 4 x60))))))
set_option maxHeartbeats 4000000 in
set_option maxRecDepth 100000 in
theorem m_X3_copyFrom (l : Launch) (X : z_X) (d d2 : Nat → Nat) (G : z_G) (G2 : z_G) {RR : z_G} (hf : f_X3_copyFrom G G2 = some RR) : z_mV l yX3_copyFrom wsX3_copyFrom 1 22 X [.ref (d 15), .ref (d2 15)] (z_wGG X d G d2 G2) (z_wGG X d RR d2 G2) := by
  intro sz
  refine Met.ofW (cc := cX3_copyFrom) (maxL := 2) (ret := none) (by decide) rfl ?_
  intro p e s m args below meth c s₁ Bd hml hv
  obtain ⟨rfl, hsz, hP, hK, hN, hD0⟩ := hv
  have hx := Bd.exec
  have hb := Bd.bytes
  have hr := Bd.returns
  have hts := atoms_spec (ws := wsX3_copyFrom) Bd.pre
  have hown : s.vm.findClass RX3 = some m.cls := findClass_of_methodNamed Bd.named
  have hlocks := Bd.notSynchronized
  have S : CallFix p m c cX3_copyFrom 2 s _ wsX3_copyFrom RX3 := ⟨hx, hb, hml, hown, hts⟩
  have lk_fi30 := hts (.fieldLink RX3 30 "HouseBells$Staff" "count" "I") (List.mem_of_getElem? (i := 1) rfl)
  have lk_fi12 := hts (.fieldLink RX3 12 "HouseBells$Staff" "pace" "LHouseBells$Row;") (List.mem_of_getElem? (i := 2) rfl)
  have lk_fi18 := hts (.fieldLink RX3 18 "HouseBells$Staff" "floor" "LHouseBells$Row;") (List.mem_of_getElem? (i := 3) rfl)
  have lk_fi21 := hts (.fieldLink RX3 21 "HouseBells$Staff" "goal" "LHouseBells$Row;") (List.mem_of_getElem? (i := 4) rfl)
  have lk_fi24 := hts (.fieldLink RX3 24 "HouseBells$Staff" "guest" "LHouseBells$Row;") (List.mem_of_getElem? (i := 5) rfl)
  have lk_fi27 := hts (.fieldLink RX3 27 "HouseBells$Staff" "left" "LHouseBells$Row;") (List.mem_of_getElem? (i := 6) rfl)
  have in_X3 : ∀ w ∈ wsX30, w ∈ wsX3_copyFrom := fun _ h => (List.mem_cons_of_mem _ (List.mem_append_left _ (List.mem_append_right _ h)))
  subst hsz
  have hD := hD0.self (sz := s.heap.size)
  generalize hAe : va_A (z_wGG X d G d2 G2) s.heap.size = A at hD ⊢
  have hA : ∀ q : Nat, s.heap.size ≤ q → A q := fun q h => by rw [← hAe]; exact Or.inr h
  have hS : va_S A s.heap s.heap [] := va_S.rf
  have hl := lv_entry ([.ref (d 15), .ref (d2 15)]) (n := 2) (Nat.le_of_ble_eq_true rfl)
  rw [lg_entry_eq]
  generalize (lg_sl ([.ref (d 15), .ref (d2 15)]) ++ List.replicate (2 - (lg_sl ([.ref (d 15), .ref (d2 15)])).length) Slot.unset).toArray = ls at hl ⊢
  have hl : lv_has ls 2 [(0, .ref (d 15)), (1, .ref (d2 15))] := hl
  suffices hgo : ∀ (H : Heap) (locs : List Loc), va_P X.1 vwCl (z_wGG X d G d2 G2) H → va_D A (z_wGG X d G d2 G2) → va_S A s.heap H locs → W p l e (headSpec wsX3_copyFrom (z_R 1 22)).room s m ([.ref (d 15), .ref (d2 15)] : List Value).toArray below meth c H locs 0 0 (MQ below (va_Qv (fun u : va_W => u = (z_wGG X d RR d2 G2)) (z_Bm X A) A) ([.ref (d 15), .ref (d2 15)] : List Value).toArray s 0 0 A) (F0 m 0 ls []) from hgo _ _ hP hD hS
  clear hP hD hS
  intro H locs hP hD hS
  unfold f_X3_copyFrom at hf
  refine lv_aload_n (pc := 0) hx hb dX3_copyFrom_0 rfl (lv_at hl 0 rfl) ?_
  refine lv_aload_n (pc := 1) hx hb dX3_copyFrom_1 rfl (lv_at hl 1 rfl) ?_
  refine va_get (pc := 2) (ci := 3) (C := RX3) (T := TX3) (N := 6) hx hb hts in_X3 hown hK hP 11 rfl rfl 0 (by decide) lk_fi30 (fun _ h9 => h9) rfl dX3_copyFrom_2 ?_
  refine z_put (pc := 5) (ci := 3) (C := RX3) (T := TX3) (N := 6) (W1 := (z_wGG X d (z_gC G G2.1) d2 G2)) hx hb hts in_X3 tyX3 tyX3_ok nmX3 hown hK hP hD hS 0 rfl rfl 0 (by decide) lk_fi30 (fun _ h9 => h9) rfl (by decide +kernel) (Nat.le_of_ble_eq_true rfl) dX3_copyFrom_5 rfl (fun H locs hP hD hS => ?_)
  refine lv_aload_n (pc := 8) hx hb dX3_copyFrom_8 rfl (lv_at hl 0 rfl) ?_
  refine va_get (pc := 9) (ci := 3) (C := RX3) (T := TX3) (N := 6) hx hb hts in_X3 hown hK hP 0 rfl rfl 1 (by decide) lk_fi12 (fun _ h9 => h9) rfl dX3_copyFrom_9 ?_
  refine lv_aload_n (pc := 12) hx hb dX3_copyFrom_12 rfl (lv_at hl 1 rfl) ?_
  refine va_get (pc := 13) (ci := 3) (C := RX3) (T := TX3) (N := 6) hx hb hts in_X3 hown hK hP 11 rfl rfl 1 (by decide) lk_fi12 (fun _ h9 => h9) rfl dX3_copyFrom_13 ?_
  obtain ⟨x16, e16, hf⟩ := z_bd hf
  refine z_cmV (pc := 16) (W1 := (z_wGG X d (z_gR (z_gC G G2.1) 0 x16) d2 G2)) S (m_X2_copyFrom l X (d 16) (d 17) (d2 16) (d2 17) (G.2 0) (G2.2 0) e16) (cwV 1 hts gX3_copyFrom_X2_copyFrom rfl rfl rfl hdX2_copyFrom ⟨Nat.le_of_ble_eq_true rfl, Nat.le_of_ble_eq_true rfl⟩) hP hK hN hD hS hA (s_GG_RR1_12 X d d2 (z_gC G G2.1) G2) (f_GG_RR1_12 X d d2 (z_gC G G2.1) G2 x16) (ci := 2) rfl rfl rfl ⟨Nat.le_of_ble_eq_true rfl, Nat.le_of_ble_eq_true rfl⟩ rfl hl.1 rfl (Nat.le_of_ble_eq_true rfl) dX3_copyFrom_16 (fun H locs hP hD hS => ?_)
  refine lv_aload_n (pc := 19) hx hb dX3_copyFrom_19 rfl (lv_at hl 0 rfl) ?_
  refine va_get (pc := 20) (ci := 3) (C := RX3) (T := TX3) (N := 6) hx hb hts in_X3 hown hK hP 0 rfl rfl 2 (by decide) lk_fi18 (fun _ h9 => h9) rfl dX3_copyFrom_20 ?_
  refine lv_aload_n (pc := 23) hx hb dX3_copyFrom_23 rfl (lv_at hl 1 rfl) ?_
  refine va_get (pc := 24) (ci := 3) (C := RX3) (T := TX3) (N := 6) hx hb hts in_X3 hown hK hP 11 rfl rfl 2 (by decide) lk_fi18 (fun _ h9 => h9) rfl dX3_copyFrom_24 ?_
  obtain ⟨x27, e27, hf⟩ := z_bd hf
  refine z_cmV (pc := 27) (W1 := (z_wGG X d (z_gR (z_gR (z_gC G G2.1) 0 x16) 1 x27) d2 G2)) S (m_X2_copyFrom l X (d 18) (d 19) (d2 18) (d2 19) (G.2 1) (G2.2 1) e27) (cwV 1 hts gX3_copyFrom_X2_copyFrom rfl rfl rfl hdX2_copyFrom ⟨Nat.le_of_ble_eq_true rfl, Nat.le_of_ble_eq_true rfl⟩) hP hK hN hD hS hA (s_GG_RR3_14 X d d2 (z_gR (z_gC G G2.1) 0 x16) G2) (f_GG_RR3_14 X d d2 (z_gR (z_gC G G2.1) 0 x16) G2 x27) (ci := 2) rfl rfl rfl ⟨Nat.le_of_ble_eq_true rfl, Nat.le_of_ble_eq_true rfl⟩ rfl hl.1 rfl (Nat.le_of_ble_eq_true rfl) dX3_copyFrom_27 (fun H locs hP hD hS => ?_)
  refine lv_aload_n (pc := 30) hx hb dX3_copyFrom_30 rfl (lv_at hl 0 rfl) ?_
  refine va_get (pc := 31) (ci := 3) (C := RX3) (T := TX3) (N := 6) hx hb hts in_X3 hown hK hP 0 rfl rfl 3 (by decide) lk_fi21 (fun _ h9 => h9) rfl dX3_copyFrom_31 ?_
  refine lv_aload_n (pc := 34) hx hb dX3_copyFrom_34 rfl (lv_at hl 1 rfl) ?_
  refine va_get (pc := 35) (ci := 3) (C := RX3) (T := TX3) (N := 6) hx hb hts in_X3 hown hK hP 11 rfl rfl 3 (by decide) lk_fi21 (fun _ h9 => h9) rfl dX3_copyFrom_35 ?_
  obtain ⟨x38, e38, hf⟩ := z_bd hf
  refine z_cmV (pc := 38) (W1 := (z_wGG X d (z_gR (z_gR (z_gR (z_gC G G2.1) 0 x16) 1 x27) 2 x38) d2 G2)) S (m_X2_copyFrom l X (d 20) (d 21) (d2 20) (d2 21) (G.2 2) (G2.2 2) e38) (cwV 1 hts gX3_copyFrom_X2_copyFrom rfl rfl rfl hdX2_copyFrom ⟨Nat.le_of_ble_eq_true rfl, Nat.le_of_ble_eq_true rfl⟩) hP hK hN hD hS hA (s_GG_RR5_16 X d d2 (z_gR (z_gR (z_gC G G2.1) 0 x16) 1 x27) G2) (f_GG_RR5_16 X d d2 (z_gR (z_gR (z_gC G G2.1) 0 x16) 1 x27) G2 x38) (ci := 2) rfl rfl rfl ⟨Nat.le_of_ble_eq_true rfl, Nat.le_of_ble_eq_true rfl⟩ rfl hl.1 rfl (Nat.le_of_ble_eq_true rfl) dX3_copyFrom_38 (fun H locs hP hD hS => ?_)
  refine lv_aload_n (pc := 41) hx hb dX3_copyFrom_41 rfl (lv_at hl 0 rfl) ?_
  refine va_get (pc := 42) (ci := 3) (C := RX3) (T := TX3) (N := 6) hx hb hts in_X3 hown hK hP 0 rfl rfl 4 (by decide) lk_fi24 (fun _ h9 => h9) rfl dX3_copyFrom_42 ?_
  refine lv_aload_n (pc := 45) hx hb dX3_copyFrom_45 rfl (lv_at hl 1 rfl) ?_
  refine va_get (pc := 46) (ci := 3) (C := RX3) (T := TX3) (N := 6) hx hb hts in_X3 hown hK hP 11 rfl rfl 4 (by decide) lk_fi24 (fun _ h9 => h9) rfl dX3_copyFrom_46 ?_
  obtain ⟨x49, e49, hf⟩ := z_bd hf
  refine z_cmV (pc := 49) (W1 := (z_wGG X d (z_gR (z_gR (z_gR (z_gR (z_gC G G2.1) 0 x16) 1 x27) 2 x38) 3 x49) d2 G2)) S (m_X2_copyFrom l X (d 22) (d 23) (d2 22) (d2 23) (G.2 3) (G2.2 3) e49) (cwV 1 hts gX3_copyFrom_X2_copyFrom rfl rfl rfl hdX2_copyFrom ⟨Nat.le_of_ble_eq_true rfl, Nat.le_of_ble_eq_true rfl⟩) hP hK hN hD hS hA (s_GG_RR7_18 X d d2 (z_gR (z_gR (z_gR (z_gC G G2.1) 0 x16) 1 x27) 2 x38) G2) (f_GG_RR7_18 X d d2 (z_gR (z_gR (z_gR (z_gC G G2.1) 0 x16) 1 x27) 2 x38) G2 x49) (ci := 2) rfl rfl rfl ⟨Nat.le_of_ble_eq_true rfl, Nat.le_of_ble_eq_true rfl⟩ rfl hl.1 rfl (Nat.le_of_ble_eq_true rfl) dX3_copyFrom_49 (fun H locs hP hD hS => ?_)
  refine lv_aload_n (pc := 52) hx hb dX3_copyFrom_52 rfl (lv_at hl 0 rfl) ?_
  refine va_get (pc := 53) (ci := 3) (C := RX3) (T := TX3) (N := 6) hx hb hts in_X3 hown hK hP 0 rfl rfl 5 (by decide) lk_fi27 (fun _ h9 => h9) rfl dX3_copyFrom_53 ?_
  refine lv_aload_n (pc := 56) hx hb dX3_copyFrom_56 rfl (lv_at hl 1 rfl) ?_
  refine va_get (pc := 57) (ci := 3) (C := RX3) (T := TX3) (N := 6) hx hb hts in_X3 hown hK hP 11 rfl rfl 5 (by decide) lk_fi27 (fun _ h9 => h9) rfl dX3_copyFrom_57 ?_
  obtain ⟨x60, e60, hf⟩ := z_bd hf
  refine z_cmV (pc := 60) (W1 := (z_wGG X d (z_gR (z_gR (z_gR (z_gR (z_gR (z_gC G G2.1) 0 x16) 1 x27) 2 x38) 3 x49) 4 x60) d2 G2)) S (m_X2_copyFrom l X (d 24) (d 25) (d2 24) (d2 25) (G.2 4) (G2.2 4) e60) (cwV 1 hts gX3_copyFrom_X2_copyFrom rfl rfl rfl hdX2_copyFrom ⟨Nat.le_of_ble_eq_true rfl, Nat.le_of_ble_eq_true rfl⟩) hP hK hN hD hS hA (s_GG_RR9_20 X d d2 (z_gR (z_gR (z_gR (z_gR (z_gC G G2.1) 0 x16) 1 x27) 2 x38) 3 x49) G2) (f_GG_RR9_20 X d d2 (z_gR (z_gR (z_gR (z_gR (z_gC G G2.1) 0 x16) 1 x27) 2 x38) 3 x49) G2 x60) (ci := 2) rfl rfl rfl ⟨Nat.le_of_ble_eq_true rfl, Nat.le_of_ble_eq_true rfl⟩ rfl hl.1 rfl (Nat.le_of_ble_eq_true rfl) dX3_copyFrom_60 (fun H locs hP hD hS => ?_)
  exact W.vret (pc := 63) hx hb hr (fun t ht hW => ⟨⟨(z_wGG X d (z_gR (z_gR (z_gR (z_gR (z_gR (z_gC G G2.1) 0 x16) 1 x27) 2 x38) 3 x49) 4 x60) d2 G2), rfl, congrArg (fun z => (z_wGG X d z d2 G2)) (Option.some.inj hf), by rw [ht]; exact hP, hD⟩, hS.F ht⟩) hS.2.2 dX3_copyFrom_63
def f_X3_isIdle (G : z_G) (v1 : Int32) : Int32 := (if (z_rg (G.2 2) v1) = (-1) then (if (z_rg (G.2 3) v1) = (-1) then 1 else 0) else 0)
set_option maxHeartbeats 4000000 in
set_option maxRecDepth 100000 in
theorem m_X3_isIdle (l : Launch) (X : z_X) (d : Nat → Nat) (G : z_G) (v1 : Int32) {RR : Int32} (hf : f_X3_isIdle G v1 = RR) : z_pI l yX3_isIdle wsX3_isIdle 1 21 X [.ref (d 15), .int v1] (z_wG X d G) RR := by
  refine Met.ofW (cc := cX3_isIdle) (maxL := 2) (ret := (some .boolean)) (by decide) rfl ?_
  intro p e s m args below meth c s₁ Bd hml hv
  obtain ⟨rfl, hP, hK, hN⟩ := hv
  have hx := Bd.exec
  have hb := Bd.bytes
  have hr := Bd.returns
  have hts := atoms_spec (ws := wsX3_isIdle) Bd.pre
  have hown : s.vm.findClass RX3 = some m.cls := findClass_of_methodNamed Bd.named
  have hlocks := Bd.notSynchronized
  have S : CallFix p m c cX3_isIdle 2 s _ wsX3_isIdle RX3 := ⟨hx, hb, hml, hown, hts⟩
  have lk_fi21 := hts (.fieldLink RX3 21 "HouseBells$Staff" "goal" "LHouseBells$Row;") (List.mem_of_getElem? (i := 1) rfl)
  have lk_fi24 := hts (.fieldLink RX3 24 "HouseBells$Staff" "guest" "LHouseBells$Row;") (List.mem_of_getElem? (i := 2) rfl)
  have in_X3 : ∀ w ∈ wsX30, w ∈ wsX3_isIdle := fun _ h => (List.mem_cons_of_mem _ (List.mem_append_left _ (List.mem_append_right _ h)))
  have hl := lv_entry ([.ref (d 15), .int v1]) (n := 2) (Nat.le_of_ble_eq_true rfl)
  rw [lg_entry_eq]
  generalize (lg_sl ([.ref (d 15), .int v1]) ++ List.replicate (2 - (lg_sl ([.ref (d 15), .int v1])).length) Slot.unset).toArray = ls at hl ⊢
  have hl : lv_has ls 2 [(0, .ref (d 15)), (1, .int v1)] := hl
  unfold f_X3_isIdle at hf
  refine lv_aload_n (pc := 0) hx hb dX3_isIdle_0 rfl (lv_at hl 0 rfl) ?_
  refine va_get (pc := 1) (ci := 3) (C := RX3) (T := TX3) (N := 6) hx hb hts in_X3 hown hK hP 0 rfl rfl 3 (by decide) lk_fi21 (fun _ h9 => h9) rfl dX3_isIdle_1 ?_
  refine lv_iload_n (pc := 4) hx hb dX3_isIdle_4 rfl (lv_at hl 1 rfl) ?_
  refine z_cpI (pc := 5) S (m_X2_get l X (d 20) (d 21) (G.2 2) v1) (cwV 1 hts gX3_isIdle_X2_get rfl rfl rfl hdX2_get ⟨Nat.le_of_ble_eq_true rfl, Nat.le_of_ble_eq_true rfl⟩) hP hK hN (s_G_R5 X d G) (ci := 2) rfl rfl rfl ⟨Nat.le_of_ble_eq_true rfl, Nat.le_of_ble_eq_true rfl⟩ rfl hl.1 rfl (Nat.le_of_ble_eq_true rfl) dX3_isIdle_5 ?_
  refine lv_iconst (v := (-1)) (pc := 8) hx hb dX3_isIdle_8 (by decide) ?_
  refine lv_icmp_ne (pc := 9) (tgt := 28) hx hb dX3_isIdle_9 (by decide) (fun c_9 => ?_) (fun c_9 => ?_)
  · replace hf := z_in c_9 hf
    refine lv_iconst (v := 0) (pc := 28) hx hb dX3_isIdle_28 (by decide) ?_
    exact W.zret (pc := 29) (v := 0) hx hb hr rfl (fun t ht hW => ⟨_, rfl, hf, ht⟩) (fun _ h => nomatch h) dX3_isIdle_29
  · replace hf := z_ip c_9 hf
    refine lv_aload_n (pc := 12) hx hb dX3_isIdle_12 rfl (lv_at hl 0 rfl) ?_
    refine va_get (pc := 13) (ci := 3) (C := RX3) (T := TX3) (N := 6) hx hb hts in_X3 hown hK hP 0 rfl rfl 4 (by decide) lk_fi24 (fun _ h9 => h9) rfl dX3_isIdle_13 ?_
    refine lv_iload_n (pc := 16) hx hb dX3_isIdle_16 rfl (lv_at hl 1 rfl) ?_
    refine z_cpI (pc := 17) S (m_X2_get l X (d 22) (d 23) (G.2 3) v1) (cwV 1 hts gX3_isIdle_X2_get rfl rfl rfl hdX2_get ⟨Nat.le_of_ble_eq_true rfl, Nat.le_of_ble_eq_true rfl⟩) hP hK hN (s_G_R7 X d G) (ci := 2) rfl rfl rfl ⟨Nat.le_of_ble_eq_true rfl, Nat.le_of_ble_eq_true rfl⟩ rfl hl.1 rfl (Nat.le_of_ble_eq_true rfl) dX3_isIdle_17 ?_
    refine lv_iconst (v := (-1)) (pc := 20) hx hb dX3_isIdle_20 (by decide) ?_
    refine lv_icmp_ne (pc := 21) (tgt := 28) hx hb dX3_isIdle_21 (by decide) (fun c_21 => ?_) (fun c_21 => ?_)
    · replace hf := z_in c_21 hf
      refine lv_iconst (v := 0) (pc := 28) hx hb dX3_isIdle_28 (by decide) ?_
      exact W.zret (pc := 29) (v := 0) hx hb hr rfl (fun t ht hW => ⟨_, rfl, hf, ht⟩) (fun _ h => nomatch h) dX3_isIdle_29
    · replace hf := z_ip c_21 hf
      refine lv_iconst (v := 1) (pc := 24) hx hb dX3_isIdle_24 (by decide) ?_
      refine lv_goto (pc := 25) (tgt := 29) hx hb dX3_isIdle_25 (by decide) ?_
      exact W.zret (pc := 29) (v := 1) hx hb hr rfl (fun t ht hW => ⟨_, rfl, hf, ht⟩) (fun _ h => nomatch h) dX3_isIdle_29
def f_X3_rest (G : z_G) (v1 : Int32) : z_G := (z_gR (z_gR (z_gR G 2 (z_rs (G.2 2) v1 (-1))) 3 (z_rs (G.2 3) v1 (-1))) 4 (z_rs (G.2 4) v1 0))
set_option maxHeartbeats 4000000 in
set_option maxRecDepth 100000 in
theorem m_X3_rest (l : Launch) (X : z_X) (d : Nat → Nat) (G : z_G) (v1 : Int32) {RR : z_G} (hf : f_X3_rest G v1 = RR) : z_mV l yX3_rest wsX3_rest 1 22 X [.ref (d 15), .int v1] (z_wG X d G) (z_wG X d RR) := by
  intro sz
  refine Met.ofW (cc := cX3_rest) (maxL := 2) (ret := none) (by decide) rfl ?_
  intro p e s m args below meth c s₁ Bd hml hv
  obtain ⟨rfl, hsz, hP, hK, hN, hD0⟩ := hv
  have hx := Bd.exec
  have hb := Bd.bytes
  have hr := Bd.returns
  have hts := atoms_spec (ws := wsX3_rest) Bd.pre
  have hown : s.vm.findClass RX3 = some m.cls := findClass_of_methodNamed Bd.named
  have hlocks := Bd.notSynchronized
  have S : CallFix p m c cX3_rest 2 s _ wsX3_rest RX3 := ⟨hx, hb, hml, hown, hts⟩
  have lk_fi21 := hts (.fieldLink RX3 21 "HouseBells$Staff" "goal" "LHouseBells$Row;") (List.mem_of_getElem? (i := 1) rfl)
  have lk_fi24 := hts (.fieldLink RX3 24 "HouseBells$Staff" "guest" "LHouseBells$Row;") (List.mem_of_getElem? (i := 2) rfl)
  have lk_fi27 := hts (.fieldLink RX3 27 "HouseBells$Staff" "left" "LHouseBells$Row;") (List.mem_of_getElem? (i := 3) rfl)
  have in_X3 : ∀ w ∈ wsX30, w ∈ wsX3_rest := fun _ h => (List.mem_cons_of_mem _ (List.mem_append_left _ (List.mem_append_right _ h)))
  subst hsz
  have hD := hD0.self (sz := s.heap.size)
  generalize hAe : va_A (z_wG X d G) s.heap.size = A at hD ⊢
  have hA : ∀ q : Nat, s.heap.size ≤ q → A q := fun q h => by rw [← hAe]; exact Or.inr h
  have hS : va_S A s.heap s.heap [] := va_S.rf
  have hl := lv_entry ([.ref (d 15), .int v1]) (n := 2) (Nat.le_of_ble_eq_true rfl)
  rw [lg_entry_eq]
  generalize (lg_sl ([.ref (d 15), .int v1]) ++ List.replicate (2 - (lg_sl ([.ref (d 15), .int v1])).length) Slot.unset).toArray = ls at hl ⊢
  have hl : lv_has ls 2 [(0, .ref (d 15)), (1, .int v1)] := hl
  suffices hgo : ∀ (H : Heap) (locs : List Loc), va_P X.1 vwCl (z_wG X d G) H → va_D A (z_wG X d G) → va_S A s.heap H locs → W p l e (headSpec wsX3_rest (z_R 1 22)).room s m ([.ref (d 15), .int v1] : List Value).toArray below meth c H locs 0 0 (MQ below (va_Qv (fun u : va_W => u = (z_wG X d RR)) (z_Bm X A) A) ([.ref (d 15), .int v1] : List Value).toArray s 0 0 A) (F0 m 0 ls []) from hgo _ _ hP hD hS
  clear hP hD hS
  intro H locs hP hD hS
  unfold f_X3_rest at hf
  refine lv_aload_n (pc := 0) hx hb dX3_rest_0 rfl (lv_at hl 0 rfl) ?_
  refine va_get (pc := 1) (ci := 3) (C := RX3) (T := TX3) (N := 6) hx hb hts in_X3 hown hK hP 0 rfl rfl 3 (by decide) lk_fi21 (fun _ h9 => h9) rfl dX3_rest_1 ?_
  refine lv_iload_n (pc := 4) hx hb dX3_rest_4 rfl (lv_at hl 1 rfl) ?_
  refine lv_iconst (v := (-1)) (pc := 5) hx hb dX3_rest_5 (by decide) ?_
  refine z_cmV (pc := 6) (W1 := (z_wG X d (z_gR G 2 (z_rs (G.2 2) v1 (-1))))) S (m_X2_set l X (d 20) (d 21) (G.2 2) v1 (-1)) (cwV 2 hts gX3_rest_X2_set rfl rfl rfl hdX2_set ⟨Nat.le_of_ble_eq_true rfl, Nat.le_of_ble_eq_true rfl⟩) hP hK hN hD hS hA (s_G_R5 X d G) (f_G_R5 X d G (z_rs (G.2 2) v1 (-1))) (ci := 2) rfl rfl rfl ⟨Nat.le_of_ble_eq_true rfl, Nat.le_of_ble_eq_true rfl⟩ rfl hl.1 rfl (Nat.le_of_ble_eq_true rfl) dX3_rest_6 (fun H locs hP hD hS => ?_)
  refine lv_aload_n (pc := 9) hx hb dX3_rest_9 rfl (lv_at hl 0 rfl) ?_
  refine va_get (pc := 10) (ci := 3) (C := RX3) (T := TX3) (N := 6) hx hb hts in_X3 hown hK hP 0 rfl rfl 4 (by decide) lk_fi24 (fun _ h9 => h9) rfl dX3_rest_10 ?_
  refine lv_iload_n (pc := 13) hx hb dX3_rest_13 rfl (lv_at hl 1 rfl) ?_
  refine lv_iconst (v := (-1)) (pc := 14) hx hb dX3_rest_14 (by decide) ?_
  refine z_cmV (pc := 15) (W1 := (z_wG X d (z_gR (z_gR G 2 (z_rs (G.2 2) v1 (-1))) 3 (z_rs (G.2 3) v1 (-1))))) S (m_X2_set l X (d 22) (d 23) (G.2 3) v1 (-1)) (cwV 2 hts gX3_rest_X2_set rfl rfl rfl hdX2_set ⟨Nat.le_of_ble_eq_true rfl, Nat.le_of_ble_eq_true rfl⟩) hP hK hN hD hS hA (s_G_R7 X d (z_gR G 2 (z_rs (G.2 2) v1 (-1)))) (f_G_R7 X d (z_gR G 2 (z_rs (G.2 2) v1 (-1))) (z_rs (G.2 3) v1 (-1))) (ci := 2) rfl rfl rfl ⟨Nat.le_of_ble_eq_true rfl, Nat.le_of_ble_eq_true rfl⟩ rfl hl.1 rfl (Nat.le_of_ble_eq_true rfl) dX3_rest_15 (fun H locs hP hD hS => ?_)
  refine lv_aload_n (pc := 18) hx hb dX3_rest_18 rfl (lv_at hl 0 rfl) ?_
  refine va_get (pc := 19) (ci := 3) (C := RX3) (T := TX3) (N := 6) hx hb hts in_X3 hown hK hP 0 rfl rfl 5 (by decide) lk_fi27 (fun _ h9 => h9) rfl dX3_rest_19 ?_
  refine lv_iload_n (pc := 22) hx hb dX3_rest_22 rfl (lv_at hl 1 rfl) ?_
  refine lv_iconst (v := 0) (pc := 23) hx hb dX3_rest_23 (by decide) ?_
  refine z_cmV (pc := 24) (W1 := (z_wG X d (z_gR (z_gR (z_gR G 2 (z_rs (G.2 2) v1 (-1))) 3 (z_rs (G.2 3) v1 (-1))) 4 (z_rs (G.2 4) v1 0)))) S (m_X2_set l X (d 24) (d 25) (G.2 4) v1 0) (cwV 2 hts gX3_rest_X2_set rfl rfl rfl hdX2_set ⟨Nat.le_of_ble_eq_true rfl, Nat.le_of_ble_eq_true rfl⟩) hP hK hN hD hS hA (s_G_R9 X d (z_gR (z_gR G 2 (z_rs (G.2 2) v1 (-1))) 3 (z_rs (G.2 3) v1 (-1)))) (f_G_R9 X d (z_gR (z_gR G 2 (z_rs (G.2 2) v1 (-1))) 3 (z_rs (G.2 3) v1 (-1))) (z_rs (G.2 4) v1 0)) (ci := 2) rfl rfl rfl ⟨Nat.le_of_ble_eq_true rfl, Nat.le_of_ble_eq_true rfl⟩ rfl hl.1 rfl (Nat.le_of_ble_eq_true rfl) dX3_rest_24 (fun H locs hP hD hS => ?_)
  exact W.vret (pc := 27) hx hb hr (fun t ht hW => ⟨⟨(z_wG X d (z_gR (z_gR (z_gR G 2 (z_rs (G.2 2) v1 (-1))) 3 (z_rs (G.2 3) v1 (-1))) 4 (z_rs (G.2 4) v1 0))), rfl, congrArg (fun z => (z_wG X d z)) hf, by rw [ht]; exact hP, hD⟩, hS.F ht⟩) hS.2.2 dX3_rest_27
def f_X3_minutesOfWay (v0 : Int32) (v1 : Int32) (v2 : Int32) : Option Int32 := (if v1 ≤ v0 then (if 1 ≤ v2 then (z_dv (((v0 - v1) + v2) - 1) v2).bind (fun x30 => (if 1 ≤ x30 then some x30 else some 1)) else (if 1 ≤ (1 : Int32) then some 1 else some 1)) else (if 1 ≤ v2 then (z_dv (((v1 - v0) + v2) - 1) v2).bind (fun x30 => (if 1 ≤ x30 then some x30 else some 1)) else (if 1 ≤ (1 : Int32) then some 1 else some 1)))
set_option maxHeartbeats 4000000 in
set_option maxRecDepth 100000 in
theorem m_X3_minutesOfWay (l : Launch) (X : z_X) (v0 : Int32) (v1 : Int32) (v2 : Int32) {RR : Int32} (hf : f_X3_minutesOfWay v0 v1 v2 = some RR) : z_pI l yX3_minutesOfWay wsX3_minutesOfWay 0 0 X [.int v0, .int v1, .int v2] ([] : va_W) RR := by
  refine Met.ofW (cc := cX3_minutesOfWay) (maxL := 5) (ret := (some .int)) (by decide) rfl ?_
  intro p e s m args below meth c s₁ Bd hml hv
  obtain ⟨rfl, hP, hK, hN⟩ := hv
  have hx := Bd.exec
  have hb := Bd.bytes
  have hr := Bd.returns
  have hts := atoms_spec (ws := wsX3_minutesOfWay) Bd.pre
  have hown : s.vm.findClass RX3 = some m.cls := findClass_of_methodNamed Bd.named
  have hlocks := Bd.notSynchronized
  have S : CallFix p m c cX3_minutesOfWay 5 s _ wsX3_minutesOfWay RX3 := ⟨hx, hb, hml, hown, hts⟩
  have hl := lv_entry ([.int v0, .int v1, .int v2]) (n := 5) (Nat.le_of_ble_eq_true rfl)
  rw [lg_entry_eq]
  generalize (lg_sl ([.int v0, .int v1, .int v2]) ++ List.replicate (5 - (lg_sl ([.int v0, .int v1, .int v2])).length) Slot.unset).toArray = ls at hl ⊢
  have hl : lv_has ls 5 [(0, .int v0), (1, .int v1), (2, .int v2)] := hl
  unfold f_X3_minutesOfWay at hf
  refine lv_iload_n (pc := 0) hx hb dX3_minutesOfWay_0 rfl (lv_at hl 0 rfl) ?_
  refine lv_iload_n (pc := 1) hx hb dX3_minutesOfWay_1 rfl (lv_at hl 1 rfl) ?_
  refine lv_icmp_ge (pc := 2) (tgt := 11) hx hb dX3_minutesOfWay_2 (by decide) (fun c_2 => ?_) (fun c_2 => ?_)
  · replace hf := z_ip c_2 hf
    refine lv_iload_n (pc := 11) hx hb dX3_minutesOfWay_11 rfl (lv_at hl 0 rfl) ?_
    refine lv_iload_n (pc := 12) hx hb dX3_minutesOfWay_12 rfl (lv_at hl 1 rfl) ?_
    refine lv_isub (pc := 13) hx hb dX3_minutesOfWay_13 ?_
    refine lv_istore_n (pc := 14) (lv' := [(3, .int (v0 - v1)), (0, .int v0), (1, .int v1), (2, .int v2)]) hx hb dX3_minutesOfWay_14 rfl hl (by decide) rfl (fun ls hl => ?_)
    refine lv_iload_n (pc := 15) hx hb dX3_minutesOfWay_15 rfl (lv_at hl 3 rfl) ?_
    refine lv_iconst (v := 1) (pc := 16) hx hb dX3_minutesOfWay_16 (by decide) ?_
    refine lv_icmp_ge (pc := 17) (tgt := 24) hx hb dX3_minutesOfWay_17 (by decide) (fun c_17 => ?_) (fun c_17 => ?_)
    · replace hf := z_ip c_17 hf
      refine lv_iload_n (pc := 24) hx hb dX3_minutesOfWay_24 rfl (lv_at hl 0 rfl) ?_
      refine lv_iload_n (pc := 25) hx hb dX3_minutesOfWay_25 rfl (lv_at hl 3 rfl) ?_
      refine lv_iadd (pc := 26) hx hb dX3_minutesOfWay_26 ?_
      refine lv_iconst (v := 1) (pc := 27) hx hb dX3_minutesOfWay_27 (by decide) ?_
      refine lv_isub (pc := 28) hx hb dX3_minutesOfWay_28 ?_
      refine lv_iload_n (pc := 29) hx hb dX3_minutesOfWay_29 rfl (lv_at hl 3 rfl) ?_
      obtain ⟨x30, e30, hf⟩ := z_bd hf
      refine z_idiv (pc := 30) hx hb e30 dX3_minutesOfWay_30 ?_
      refine lv_istore (pc := 31) (lv' := [(4, .int x30), (3, .int (v0 - v1)), (0, .int v0), (1, .int v1), (2, .int v2)]) hx hb dX3_minutesOfWay_31 hl (by decide) rfl (fun ls hl => ?_)
      refine lv_iload (pc := 33) hx hb dX3_minutesOfWay_33 (lv_at hl 0 rfl) ?_
      refine lv_iconst (v := 1) (pc := 35) hx hb dX3_minutesOfWay_35 (by decide) ?_
      refine lv_icmp_ge (pc := 36) (tgt := 43) hx hb dX3_minutesOfWay_36 (by decide) (fun c_36 => ?_) (fun c_36 => ?_)
      · replace hf := z_ip c_36 hf
        refine lv_iload (pc := 43) hx hb dX3_minutesOfWay_43 (lv_at hl 0 rfl) ?_
        exact W.iret (pc := 45) (v := x30) hx hb hr (fun t ht hW => ⟨_, rfl, (Option.some.inj hf), ht⟩) (fun _ h => nomatch h) dX3_minutesOfWay_45
      · replace hf := z_in c_36 hf
        refine lv_iconst (v := 1) (pc := 39) hx hb dX3_minutesOfWay_39 (by decide) ?_
        refine lv_goto (pc := 40) (tgt := 45) hx hb dX3_minutesOfWay_40 (by decide) ?_
        exact W.iret (pc := 45) (v := 1) hx hb hr (fun t ht hW => ⟨_, rfl, (Option.some.inj hf), ht⟩) (fun _ h => nomatch h) dX3_minutesOfWay_45
    · replace hf := z_in c_17 hf
      refine lv_iconst (v := 1) (pc := 20) hx hb dX3_minutesOfWay_20 (by decide) ?_
      refine lv_goto (pc := 21) (tgt := 31) hx hb dX3_minutesOfWay_21 (by decide) ?_
      refine lv_istore (pc := 31) (lv' := [(4, .int 1), (3, .int (v0 - v1)), (0, .int v0), (1, .int v1), (2, .int v2)]) hx hb dX3_minutesOfWay_31 hl (by decide) rfl (fun ls hl => ?_)
      refine lv_iload (pc := 33) hx hb dX3_minutesOfWay_33 (lv_at hl 0 rfl) ?_
      refine lv_iconst (v := 1) (pc := 35) hx hb dX3_minutesOfWay_35 (by decide) ?_
      refine lv_icmp_ge (pc := 36) (tgt := 43) hx hb dX3_minutesOfWay_36 (by decide) (fun c_36 => ?_) (fun c_36 => ?_)
      · replace hf := z_ip c_36 hf
        refine lv_iload (pc := 43) hx hb dX3_minutesOfWay_43 (lv_at hl 0 rfl) ?_
        exact W.iret (pc := 45) (v := 1) hx hb hr (fun t ht hW => ⟨_, rfl, (Option.some.inj hf), ht⟩) (fun _ h => nomatch h) dX3_minutesOfWay_45
      · replace hf := z_in c_36 hf
        refine lv_iconst (v := 1) (pc := 39) hx hb dX3_minutesOfWay_39 (by decide) ?_
        refine lv_goto (pc := 40) (tgt := 45) hx hb dX3_minutesOfWay_40 (by decide) ?_
        exact W.iret (pc := 45) (v := 1) hx hb hr (fun t ht hW => ⟨_, rfl, (Option.some.inj hf), ht⟩) (fun _ h => nomatch h) dX3_minutesOfWay_45
  · replace hf := z_in c_2 hf
    refine lv_iload_n (pc := 5) hx hb dX3_minutesOfWay_5 rfl (lv_at hl 1 rfl) ?_
    refine lv_iload_n (pc := 6) hx hb dX3_minutesOfWay_6 rfl (lv_at hl 0 rfl) ?_
    refine lv_isub (pc := 7) hx hb dX3_minutesOfWay_7 ?_
    refine lv_goto (pc := 8) (tgt := 14) hx hb dX3_minutesOfWay_8 (by decide) ?_
    refine lv_istore_n (pc := 14) (lv' := [(3, .int (v1 - v0)), (0, .int v0), (1, .int v1), (2, .int v2)]) hx hb dX3_minutesOfWay_14 rfl hl (by decide) rfl (fun ls hl => ?_)
    refine lv_iload_n (pc := 15) hx hb dX3_minutesOfWay_15 rfl (lv_at hl 3 rfl) ?_
    refine lv_iconst (v := 1) (pc := 16) hx hb dX3_minutesOfWay_16 (by decide) ?_
    refine lv_icmp_ge (pc := 17) (tgt := 24) hx hb dX3_minutesOfWay_17 (by decide) (fun c_17 => ?_) (fun c_17 => ?_)
    · replace hf := z_ip c_17 hf
      refine lv_iload_n (pc := 24) hx hb dX3_minutesOfWay_24 rfl (lv_at hl 0 rfl) ?_
      refine lv_iload_n (pc := 25) hx hb dX3_minutesOfWay_25 rfl (lv_at hl 3 rfl) ?_
      refine lv_iadd (pc := 26) hx hb dX3_minutesOfWay_26 ?_
      refine lv_iconst (v := 1) (pc := 27) hx hb dX3_minutesOfWay_27 (by decide) ?_
      refine lv_isub (pc := 28) hx hb dX3_minutesOfWay_28 ?_
      refine lv_iload_n (pc := 29) hx hb dX3_minutesOfWay_29 rfl (lv_at hl 3 rfl) ?_
      obtain ⟨x30, e30, hf⟩ := z_bd hf
      refine z_idiv (pc := 30) hx hb e30 dX3_minutesOfWay_30 ?_
      refine lv_istore (pc := 31) (lv' := [(4, .int x30), (3, .int (v1 - v0)), (0, .int v0), (1, .int v1), (2, .int v2)]) hx hb dX3_minutesOfWay_31 hl (by decide) rfl (fun ls hl => ?_)
      refine lv_iload (pc := 33) hx hb dX3_minutesOfWay_33 (lv_at hl 0 rfl) ?_
      refine lv_iconst (v := 1) (pc := 35) hx hb dX3_minutesOfWay_35 (by decide) ?_
      refine lv_icmp_ge (pc := 36) (tgt := 43) hx hb dX3_minutesOfWay_36 (by decide) (fun c_36 => ?_) (fun c_36 => ?_)
      · replace hf := z_ip c_36 hf
        refine lv_iload (pc := 43) hx hb dX3_minutesOfWay_43 (lv_at hl 0 rfl) ?_
        exact W.iret (pc := 45) (v := x30) hx hb hr (fun t ht hW => ⟨_, rfl, (Option.some.inj hf), ht⟩) (fun _ h => nomatch h) dX3_minutesOfWay_45
      · replace hf := z_in c_36 hf
        refine lv_iconst (v := 1) (pc := 39) hx hb dX3_minutesOfWay_39 (by decide) ?_
        refine lv_goto (pc := 40) (tgt := 45) hx hb dX3_minutesOfWay_40 (by decide) ?_
        exact W.iret (pc := 45) (v := 1) hx hb hr (fun t ht hW => ⟨_, rfl, (Option.some.inj hf), ht⟩) (fun _ h => nomatch h) dX3_minutesOfWay_45
    · replace hf := z_in c_17 hf
      refine lv_iconst (v := 1) (pc := 20) hx hb dX3_minutesOfWay_20 (by decide) ?_
      refine lv_goto (pc := 21) (tgt := 31) hx hb dX3_minutesOfWay_21 (by decide) ?_
      refine lv_istore (pc := 31) (lv' := [(4, .int 1), (3, .int (v1 - v0)), (0, .int v0), (1, .int v1), (2, .int v2)]) hx hb dX3_minutesOfWay_31 hl (by decide) rfl (fun ls hl => ?_)
      refine lv_iload (pc := 33) hx hb dX3_minutesOfWay_33 (lv_at hl 0 rfl) ?_
      refine lv_iconst (v := 1) (pc := 35) hx hb dX3_minutesOfWay_35 (by decide) ?_
      refine lv_icmp_ge (pc := 36) (tgt := 43) hx hb dX3_minutesOfWay_36 (by decide) (fun c_36 => ?_) (fun c_36 => ?_)
      · replace hf := z_ip c_36 hf
        refine lv_iload (pc := 43) hx hb dX3_minutesOfWay_43 (lv_at hl 0 rfl) ?_
        exact W.iret (pc := 45) (v := 1) hx hb hr (fun t ht hW => ⟨_, rfl, (Option.some.inj hf), ht⟩) (fun _ h => nomatch h) dX3_minutesOfWay_45
      · replace hf := z_in c_36 hf
        refine lv_iconst (v := 1) (pc := 39) hx hb dX3_minutesOfWay_39 (by decide) ?_
        refine lv_goto (pc := 40) (tgt := 45) hx hb dX3_minutesOfWay_40 (by decide) ?_
        exact W.iret (pc := 45) (v := 1) hx hb hr (fun t ht hW => ⟨_, rfl, (Option.some.inj hf), ht⟩) (fun _ h => nomatch h) dX3_minutesOfWay_45
def f_X3_nearestTo_L7 (G : z_G) : Nat → Int32 → Int32 → Int32 → Int32 → Option Int32
  | 0, _, _, _, _ => none
  | n + 1, u1, u2, u3, u4 => (if G.1 ≤ u4 then some u2 else (if (z_rg (G.2 2) u4) = (-1) then (if (z_rg (G.2 3) u4) = (-1) then (f_X3_minutesOfWay (z_rg (G.2 1) u4) u1 (z_rg (G.2 0) u4)).bind (fun x64 => (if u2 = (-1) then f_X3_nearestTo_L7 G n u1 u4 x64 (u4 + 1) else (if u3 ≤ x64 then f_X3_nearestTo_L7 G n u1 u2 u3 (u4 + 1) else f_X3_nearestTo_L7 G n u1 u4 x64 (u4 + 1)))) else f_X3_nearestTo_L7 G n u1 u2 u3 (u4 + 1)) else f_X3_nearestTo_L7 G n u1 u2 u3 (u4 + 1)))
def f_X3_nearestTo (G : z_G) (v1 : Int32) : Option Int32 := (f_X3_nearestTo_L7 G z_FU v1 (-1) 0 0).bind (fun x7 => some x7)
set_option maxHeartbeats 4000000 in
set_option maxRecDepth 100000 in
theorem m_X3_nearestTo (l : Launch) (X : z_X) (d : Nat → Nat) (G : z_G) (v1 : Int32) {RR : Int32} (hf : f_X3_nearestTo G v1 = some RR) : z_pI l yX3_nearestTo wsX3_nearestTo 1 24 X [.ref (d 15), .int v1] (z_wG X d G) RR := by
  refine Met.ofW (cc := cX3_nearestTo) (maxL := 6) (ret := (some .int)) (by decide) rfl ?_
  intro p e s m args below meth c s₁ Bd hml hv
  obtain ⟨rfl, hP, hK, hN⟩ := hv
  have hx := Bd.exec
  have hb := Bd.bytes
  have hr := Bd.returns
  have hts := atoms_spec (ws := wsX3_nearestTo) Bd.pre
  have hown : s.vm.findClass RX3 = some m.cls := findClass_of_methodNamed Bd.named
  have hlocks := Bd.notSynchronized
  have S : CallFix p m c cX3_nearestTo 6 s _ wsX3_nearestTo RX3 := ⟨hx, hb, hml, hown, hts⟩
  have lk_fi30 := hts (.fieldLink RX3 30 "HouseBells$Staff" "count" "I") (List.mem_of_getElem? (i := 1) rfl)
  have lk_fi21 := hts (.fieldLink RX3 21 "HouseBells$Staff" "goal" "LHouseBells$Row;") (List.mem_of_getElem? (i := 2) rfl)
  have lk_fi24 := hts (.fieldLink RX3 24 "HouseBells$Staff" "guest" "LHouseBells$Row;") (List.mem_of_getElem? (i := 3) rfl)
  have lk_fi18 := hts (.fieldLink RX3 18 "HouseBells$Staff" "floor" "LHouseBells$Row;") (List.mem_of_getElem? (i := 4) rfl)
  have lk_fi12 := hts (.fieldLink RX3 12 "HouseBells$Staff" "pace" "LHouseBells$Row;") (List.mem_of_getElem? (i := 5) rfl)
  have in_X3 : ∀ w ∈ wsX30, w ∈ wsX3_nearestTo := fun _ h => (List.mem_cons_of_mem _ (List.mem_append_left _ (List.mem_append_right _ h)))
  have hl := lv_entry ([.ref (d 15), .int v1]) (n := 6) (Nat.le_of_ble_eq_true rfl)
  rw [lg_entry_eq]
  generalize (lg_sl ([.ref (d 15), .int v1]) ++ List.replicate (6 - (lg_sl ([.ref (d 15), .int v1])).length) Slot.unset).toArray = ls at hl ⊢
  have hl : lv_has ls 6 [(0, .ref (d 15)), (1, .int v1)] := hl
  have lp_7 : ∀ (n : Nat) (u1 : Int32) (u2 : Int32) (u3 : Int32) (u4 : Int32) (T : Int32) (ls : Array Slot), lv_has ls 6 [(0, .ref (d 15)), (1, .int u1), (2, .int u2), (3, .int u3), (4, .int u4)] → f_X3_nearestTo_L7 G n u1 u2 u3 u4 = some T → (∀ (ls : Array Slot), lv_has ls 6 [(2, .int T)] → W p l e (headSpec wsX3_nearestTo (z_R 1 24)).room s m ([.ref (d 15), .int v1] : List Value).toArray below meth c s.heap [] 0 0 (MQ below (vp_Si (fun z => z = RR)) ([.ref (d 15), .int v1] : List Value).toArray s 0 0 (fun _ => False)) (F0 m 92 ls [])) → W p l e (headSpec wsX3_nearestTo (z_R 1 24)).room s m ([.ref (d 15), .int v1] : List Value).toArray below meth c s.heap [] 0 0 (MQ below (vp_Si (fun z => z = RR)) ([.ref (d 15), .int v1] : List Value).toArray s 0 0 (fun _ => False)) (F0 m 7 ls []) := by
    intro n
    induction n with
    | zero =>
      intro u1 u2 u3 u4 T ls hl hf kk
      cases hf
    | succ n ih =>
      intro u1 u2 u3 u4 T ls hl hf kk
      rw [f_X3_nearestTo_L7] at hf
      refine lv_iload (pc := 7) hx hb dX3_nearestTo_7 (lv_at hl 4 rfl) ?_
      refine lv_aload_n (pc := 9) hx hb dX3_nearestTo_9 rfl (lv_at hl 0 rfl) ?_
      refine va_get (pc := 10) (ci := 3) (C := RX3) (T := TX3) (N := 6) hx hb hts in_X3 hown hK hP 0 rfl rfl 0 (by decide) lk_fi30 (fun _ h9 => h9) rfl dX3_nearestTo_10 ?_
      refine lv_icmp_ge (pc := 13) (tgt := 92) hx hb dX3_nearestTo_13 (by decide) (fun c_13 => ?_) (fun c_13 => ?_)
      · replace hf := z_ip c_13 hf
        obtain rfl := Option.some.inj hf
        exact kk ls (lv_sub hl [2] rfl)
      · replace hf := z_in c_13 hf
        refine lv_aload_n (pc := 16) hx hb dX3_nearestTo_16 rfl (lv_at hl 0 rfl) ?_
        refine va_get (pc := 17) (ci := 3) (C := RX3) (T := TX3) (N := 6) hx hb hts in_X3 hown hK hP 0 rfl rfl 3 (by decide) lk_fi21 (fun _ h9 => h9) rfl dX3_nearestTo_17 ?_
        refine lv_iload (pc := 20) hx hb dX3_nearestTo_20 (lv_at hl 4 rfl) ?_
        refine z_cpI (pc := 22) S (m_X2_get l X (d 20) (d 21) (G.2 2) u4) (cwV 1 hts gX3_nearestTo_X2_get rfl rfl rfl hdX2_get ⟨Nat.le_of_ble_eq_true rfl, Nat.le_of_ble_eq_true rfl⟩) hP hK hN (s_G_R5 X d G) (ci := 2) rfl rfl rfl ⟨Nat.le_of_ble_eq_true rfl, Nat.le_of_ble_eq_true rfl⟩ rfl hl.1 rfl (Nat.le_of_ble_eq_true rfl) dX3_nearestTo_22 ?_
        refine lv_iconst (v := (-1)) (pc := 25) hx hb dX3_nearestTo_25 (by decide) ?_
        refine lv_icmp_ne (pc := 26) (tgt := 86) hx hb dX3_nearestTo_26 (by decide) (fun c_26 => ?_) (fun c_26 => ?_)
        · replace hf := z_in c_26 hf
          refine lv_iinc (pc := 86) (v := (u4 + 1)) (lv' := [(4, .int (u4 + 1)), (0, .ref (d 15)), (1, .int u1), (2, .int u2), (3, .int u3)]) hx hb dX3_nearestTo_86 hl (k := 4) rfl rfl (by decide) rfl (fun ls hl => ?_)
          refine lv_goto (pc := 89) (tgt := 7) hx hb dX3_nearestTo_89 (by decide) ?_
          exact ih u1 u2 u3 (u4 + 1) T ls (lv_sub hl [1, 2, 3, 4, 0] rfl) hf kk
        · replace hf := z_ip c_26 hf
          refine lv_aload_n (pc := 29) hx hb dX3_nearestTo_29 rfl (lv_at hl 0 rfl) ?_
          refine va_get (pc := 30) (ci := 3) (C := RX3) (T := TX3) (N := 6) hx hb hts in_X3 hown hK hP 0 rfl rfl 4 (by decide) lk_fi24 (fun _ h9 => h9) rfl dX3_nearestTo_30 ?_
          refine lv_iload (pc := 33) hx hb dX3_nearestTo_33 (lv_at hl 4 rfl) ?_
          refine z_cpI (pc := 35) S (m_X2_get l X (d 22) (d 23) (G.2 3) u4) (cwV 1 hts gX3_nearestTo_X2_get rfl rfl rfl hdX2_get ⟨Nat.le_of_ble_eq_true rfl, Nat.le_of_ble_eq_true rfl⟩) hP hK hN (s_G_R7 X d G) (ci := 2) rfl rfl rfl ⟨Nat.le_of_ble_eq_true rfl, Nat.le_of_ble_eq_true rfl⟩ rfl hl.1 rfl (Nat.le_of_ble_eq_true rfl) dX3_nearestTo_35 ?_
          refine lv_iconst (v := (-1)) (pc := 38) hx hb dX3_nearestTo_38 (by decide) ?_
          refine lv_icmp_eq (pc := 39) (tgt := 45) hx hb dX3_nearestTo_39 (by decide) (fun c_39 => ?_) (fun c_39 => ?_)
          · replace hf := z_ip c_39 hf
            refine lv_aload_n (pc := 45) hx hb dX3_nearestTo_45 rfl (lv_at hl 0 rfl) ?_
            refine va_get (pc := 46) (ci := 3) (C := RX3) (T := TX3) (N := 6) hx hb hts in_X3 hown hK hP 0 rfl rfl 2 (by decide) lk_fi18 (fun _ h9 => h9) rfl dX3_nearestTo_46 ?_
            refine lv_iload (pc := 49) hx hb dX3_nearestTo_49 (lv_at hl 4 rfl) ?_
            refine z_cpI (pc := 51) S (m_X2_get l X (d 18) (d 19) (G.2 1) u4) (cwV 1 hts gX3_nearestTo_X2_get rfl rfl rfl hdX2_get ⟨Nat.le_of_ble_eq_true rfl, Nat.le_of_ble_eq_true rfl⟩) hP hK hN (s_G_R3 X d G) (ci := 2) rfl rfl rfl ⟨Nat.le_of_ble_eq_true rfl, Nat.le_of_ble_eq_true rfl⟩ rfl hl.1 rfl (Nat.le_of_ble_eq_true rfl) dX3_nearestTo_51 ?_
            refine lv_iload_n (pc := 54) hx hb dX3_nearestTo_54 rfl (lv_at hl 1 rfl) ?_
            refine lv_aload_n (pc := 55) hx hb dX3_nearestTo_55 rfl (lv_at hl 0 rfl) ?_
            refine va_get (pc := 56) (ci := 3) (C := RX3) (T := TX3) (N := 6) hx hb hts in_X3 hown hK hP 0 rfl rfl 1 (by decide) lk_fi12 (fun _ h9 => h9) rfl dX3_nearestTo_56 ?_
            refine lv_iload (pc := 59) hx hb dX3_nearestTo_59 (lv_at hl 4 rfl) ?_
            refine z_cpI (pc := 61) S (m_X2_get l X (d 16) (d 17) (G.2 0) u4) (cwV 1 hts gX3_nearestTo_X2_get rfl rfl rfl hdX2_get ⟨Nat.le_of_ble_eq_true rfl, Nat.le_of_ble_eq_true rfl⟩) hP hK hN (s_G_R1 X d G) (ci := 2) rfl rfl rfl ⟨Nat.le_of_ble_eq_true rfl, Nat.le_of_ble_eq_true rfl⟩ rfl hl.1 rfl (Nat.le_of_ble_eq_true rfl) dX3_nearestTo_61 ?_
            obtain ⟨x64, e64, hf⟩ := z_bd hf
            refine z_csI (pc := 64) S (m_X3_minutesOfWay l X (z_rg (G.2 1) u4) u1 (z_rg (G.2 0) u4) e64) (va_cwS 3 hts gX3_nearestTo_X3_minutesOfWay rfl rfl rfl hdX3_minutesOfWay ⟨Nat.le_of_ble_eq_true rfl, Nat.le_of_ble_eq_true rfl⟩) hP hK hN (s_nil _) ⟨Nat.le_of_ble_eq_true rfl, Nat.le_of_ble_eq_true rfl⟩ rfl hl.1 rfl (Nat.le_of_ble_eq_true rfl) dX3_nearestTo_64 ?_
            refine lv_istore (pc := 67) (lv' := [(5, .int x64), (0, .ref (d 15)), (1, .int u1), (2, .int u2), (3, .int u3), (4, .int u4)]) hx hb dX3_nearestTo_67 hl (by decide) rfl (fun ls hl => ?_)
            refine lv_iload_n (pc := 69) hx hb dX3_nearestTo_69 rfl (lv_at hl 3 rfl) ?_
            refine lv_iconst (v := (-1)) (pc := 70) hx hb dX3_nearestTo_70 (by decide) ?_
            refine lv_icmp_eq (pc := 71) (tgt := 80) hx hb dX3_nearestTo_71 (by decide) (fun c_71 => ?_) (fun c_71 => ?_)
            · replace hf := z_ip c_71 hf
              refine lv_iload (pc := 80) hx hb dX3_nearestTo_80 (lv_at hl 5 rfl) ?_
              refine lv_istore_n (pc := 82) (lv' := [(2, .int u4), (5, .int x64), (0, .ref (d 15)), (1, .int u1), (3, .int u3), (4, .int u4)]) hx hb dX3_nearestTo_82 rfl hl (by decide) rfl (fun ls hl => ?_)
              refine lv_iload (pc := 83) hx hb dX3_nearestTo_83 (lv_at hl 1 rfl) ?_
              refine lv_istore_n (pc := 85) (lv' := [(3, .int x64), (2, .int u4), (5, .int x64), (0, .ref (d 15)), (1, .int u1), (4, .int u4)]) hx hb dX3_nearestTo_85 rfl hl (by decide) rfl (fun ls hl => ?_)
              refine lv_iinc (pc := 86) (v := (u4 + 1)) (lv' := [(4, .int (u4 + 1)), (3, .int x64), (2, .int u4), (5, .int x64), (0, .ref (d 15)), (1, .int u1)]) hx hb dX3_nearestTo_86 hl (k := 5) rfl rfl (by decide) rfl (fun ls hl => ?_)
              refine lv_goto (pc := 89) (tgt := 7) hx hb dX3_nearestTo_89 (by decide) ?_
              exact ih u1 u4 x64 (u4 + 1) T ls (lv_sub hl [4, 5, 2, 1, 0] rfl) hf kk
            · replace hf := z_in c_71 hf
              refine lv_iload (pc := 74) hx hb dX3_nearestTo_74 (lv_at hl 0 rfl) ?_
              refine lv_iload_n (pc := 76) hx hb dX3_nearestTo_76 rfl (lv_at hl 4 rfl) ?_
              refine lv_icmp_ge (pc := 77) (tgt := 86) hx hb dX3_nearestTo_77 (by decide) (fun c_77 => ?_) (fun c_77 => ?_)
              · replace hf := z_ip c_77 hf
                refine lv_iinc (pc := 86) (v := (u4 + 1)) (lv' := [(4, .int (u4 + 1)), (5, .int x64), (0, .ref (d 15)), (1, .int u1), (2, .int u2), (3, .int u3)]) hx hb dX3_nearestTo_86 hl (k := 5) rfl rfl (by decide) rfl (fun ls hl => ?_)
                refine lv_goto (pc := 89) (tgt := 7) hx hb dX3_nearestTo_89 (by decide) ?_
                exact ih u1 u2 u3 (u4 + 1) T ls (lv_sub hl [2, 3, 4, 5, 0] rfl) hf kk
              · replace hf := z_in c_77 hf
                refine lv_iload (pc := 80) hx hb dX3_nearestTo_80 (lv_at hl 5 rfl) ?_
                refine lv_istore_n (pc := 82) (lv' := [(2, .int u4), (5, .int x64), (0, .ref (d 15)), (1, .int u1), (3, .int u3), (4, .int u4)]) hx hb dX3_nearestTo_82 rfl hl (by decide) rfl (fun ls hl => ?_)
                refine lv_iload (pc := 83) hx hb dX3_nearestTo_83 (lv_at hl 1 rfl) ?_
                refine lv_istore_n (pc := 85) (lv' := [(3, .int x64), (2, .int u4), (5, .int x64), (0, .ref (d 15)), (1, .int u1), (4, .int u4)]) hx hb dX3_nearestTo_85 rfl hl (by decide) rfl (fun ls hl => ?_)
                refine lv_iinc (pc := 86) (v := (u4 + 1)) (lv' := [(4, .int (u4 + 1)), (3, .int x64), (2, .int u4), (5, .int x64), (0, .ref (d 15)), (1, .int u1)]) hx hb dX3_nearestTo_86 hl (k := 5) rfl rfl (by decide) rfl (fun ls hl => ?_)
                refine lv_goto (pc := 89) (tgt := 7) hx hb dX3_nearestTo_89 (by decide) ?_
                exact ih u1 u4 x64 (u4 + 1) T ls (lv_sub hl [4, 5, 2, 1, 0] rfl) hf kk
          · replace hf := z_in c_39 hf
            refine lv_goto (pc := 42) (tgt := 86) hx hb dX3_nearestTo_42 (by decide) ?_
            refine lv_iinc (pc := 86) (v := (u4 + 1)) (lv' := [(4, .int (u4 + 1)), (0, .ref (d 15)), (1, .int u1), (2, .int u2), (3, .int u3)]) hx hb dX3_nearestTo_86 hl (k := 4) rfl rfl (by decide) rfl (fun ls hl => ?_)
            refine lv_goto (pc := 89) (tgt := 7) hx hb dX3_nearestTo_89 (by decide) ?_
            exact ih u1 u2 u3 (u4 + 1) T ls (lv_sub hl [1, 2, 3, 4, 0] rfl) hf kk
  unfold f_X3_nearestTo at hf
  refine lv_iconst (v := (-1)) (pc := 0) hx hb dX3_nearestTo_0 (by decide) ?_
  refine lv_istore_n (pc := 1) (lv' := [(2, .int (-1)), (0, .ref (d 15)), (1, .int v1)]) hx hb dX3_nearestTo_1 rfl hl (by decide) rfl (fun ls hl => ?_)
  refine lv_iconst (v := 0) (pc := 2) hx hb dX3_nearestTo_2 (by decide) ?_
  refine lv_istore_n (pc := 3) (lv' := [(3, .int 0), (2, .int (-1)), (0, .ref (d 15)), (1, .int v1)]) hx hb dX3_nearestTo_3 rfl hl (by decide) rfl (fun ls hl => ?_)
  refine lv_iconst (v := 0) (pc := 4) hx hb dX3_nearestTo_4 (by decide) ?_
  refine lv_istore (pc := 5) (lv' := [(4, .int 0), (3, .int 0), (2, .int (-1)), (0, .ref (d 15)), (1, .int v1)]) hx hb dX3_nearestTo_5 hl (by decide) rfl (fun ls hl => ?_)
  obtain ⟨x7, e7, hf⟩ := z_bd hf
  refine lp_7 z_FU v1 (-1) 0 0 x7 ls (lv_sub hl [3, 4, 2, 1, 0] rfl) e7 (fun ls hl => ?_)
  refine lv_iload_n (pc := 92) hx hb dX3_nearestTo_92 rfl (lv_at hl 0 rfl) ?_
  exact W.iret (pc := 93) (v := x7) hx hb hr (fun t ht hW => ⟨_, rfl, (Option.some.inj hf), ht⟩) (fun _ h => nomatch h) dX3_nearestTo_93
def f_X3_wayToFloor (G : z_G) (v1 : Int32) (v2 : Int32) : Option Int32 := (f_X3_minutesOfWay (z_rg (G.2 1) v1) v2 (z_rg (G.2 0) v1)).bind (fun x17 => some x17)
set_option maxHeartbeats 4000000 in
set_option maxRecDepth 100000 in
theorem m_X3_wayToFloor (l : Launch) (X : z_X) (d : Nat → Nat) (G : z_G) (v1 : Int32) (v2 : Int32) {RR : Int32} (hf : f_X3_wayToFloor G v1 v2 = some RR) : z_pI l yX3_wayToFloor wsX3_wayToFloor 1 24 X [.ref (d 15), .int v1, .int v2] (z_wG X d G) RR := by
  refine Met.ofW (cc := cX3_wayToFloor) (maxL := 3) (ret := (some .int)) (by decide) rfl ?_
  intro p e s m args below meth c s₁ Bd hml hv
  obtain ⟨rfl, hP, hK, hN⟩ := hv
  have hx := Bd.exec
  have hb := Bd.bytes
  have hr := Bd.returns
  have hts := atoms_spec (ws := wsX3_wayToFloor) Bd.pre
  have hown : s.vm.findClass RX3 = some m.cls := findClass_of_methodNamed Bd.named
  have hlocks := Bd.notSynchronized
  have S : CallFix p m c cX3_wayToFloor 3 s _ wsX3_wayToFloor RX3 := ⟨hx, hb, hml, hown, hts⟩
  have lk_fi18 := hts (.fieldLink RX3 18 "HouseBells$Staff" "floor" "LHouseBells$Row;") (List.mem_of_getElem? (i := 1) rfl)
  have lk_fi12 := hts (.fieldLink RX3 12 "HouseBells$Staff" "pace" "LHouseBells$Row;") (List.mem_of_getElem? (i := 2) rfl)
  have in_X3 : ∀ w ∈ wsX30, w ∈ wsX3_wayToFloor := fun _ h => (List.mem_cons_of_mem _ (List.mem_append_left _ (List.mem_append_right _ h)))
  have hl := lv_entry ([.ref (d 15), .int v1, .int v2]) (n := 3) (Nat.le_of_ble_eq_true rfl)
  rw [lg_entry_eq]
  generalize (lg_sl ([.ref (d 15), .int v1, .int v2]) ++ List.replicate (3 - (lg_sl ([.ref (d 15), .int v1, .int v2])).length) Slot.unset).toArray = ls at hl ⊢
  have hl : lv_has ls 3 [(0, .ref (d 15)), (1, .int v1), (2, .int v2)] := hl
  unfold f_X3_wayToFloor at hf
  refine lv_aload_n (pc := 0) hx hb dX3_wayToFloor_0 rfl (lv_at hl 0 rfl) ?_
  refine va_get (pc := 1) (ci := 3) (C := RX3) (T := TX3) (N := 6) hx hb hts in_X3 hown hK hP 0 rfl rfl 2 (by decide) lk_fi18 (fun _ h9 => h9) rfl dX3_wayToFloor_1 ?_
  refine lv_iload_n (pc := 4) hx hb dX3_wayToFloor_4 rfl (lv_at hl 1 rfl) ?_
  refine z_cpI (pc := 5) S (m_X2_get l X (d 18) (d 19) (G.2 1) v1) (cwV 1 hts gX3_wayToFloor_X2_get rfl rfl rfl hdX2_get ⟨Nat.le_of_ble_eq_true rfl, Nat.le_of_ble_eq_true rfl⟩) hP hK hN (s_G_R3 X d G) (ci := 2) rfl rfl rfl ⟨Nat.le_of_ble_eq_true rfl, Nat.le_of_ble_eq_true rfl⟩ rfl hl.1 rfl (Nat.le_of_ble_eq_true rfl) dX3_wayToFloor_5 ?_
  refine lv_iload_n (pc := 8) hx hb dX3_wayToFloor_8 rfl (lv_at hl 2 rfl) ?_
  refine lv_aload_n (pc := 9) hx hb dX3_wayToFloor_9 rfl (lv_at hl 0 rfl) ?_
  refine va_get (pc := 10) (ci := 3) (C := RX3) (T := TX3) (N := 6) hx hb hts in_X3 hown hK hP 0 rfl rfl 1 (by decide) lk_fi12 (fun _ h9 => h9) rfl dX3_wayToFloor_10 ?_
  refine lv_iload_n (pc := 13) hx hb dX3_wayToFloor_13 rfl (lv_at hl 1 rfl) ?_
  refine z_cpI (pc := 14) S (m_X2_get l X (d 16) (d 17) (G.2 0) v1) (cwV 1 hts gX3_wayToFloor_X2_get rfl rfl rfl hdX2_get ⟨Nat.le_of_ble_eq_true rfl, Nat.le_of_ble_eq_true rfl⟩) hP hK hN (s_G_R1 X d G) (ci := 2) rfl rfl rfl ⟨Nat.le_of_ble_eq_true rfl, Nat.le_of_ble_eq_true rfl⟩ rfl hl.1 rfl (Nat.le_of_ble_eq_true rfl) dX3_wayToFloor_14 ?_
  obtain ⟨x17, e17, hf⟩ := z_bd hf
  refine z_csI (pc := 17) S (m_X3_minutesOfWay l X (z_rg (G.2 1) v1) v2 (z_rg (G.2 0) v1) e17) (va_cwS 3 hts gX3_wayToFloor_X3_minutesOfWay rfl rfl rfl hdX3_minutesOfWay ⟨Nat.le_of_ble_eq_true rfl, Nat.le_of_ble_eq_true rfl⟩) hP hK hN (s_nil _) ⟨Nat.le_of_ble_eq_true rfl, Nat.le_of_ble_eq_true rfl⟩ rfl hl.1 rfl (Nat.le_of_ble_eq_true rfl) dX3_wayToFloor_17 ?_
  exact W.iret (pc := 20) (v := x17) hx hb hr (fun t ht hW => ⟨_, rfl, (Option.some.inj hf), ht⟩) (fun _ h => nomatch h) dX3_wayToFloor_20
def f_X3_hire (G : z_G) (v1 : Int32) : (Int32 × z_G) := (G.1, (f_X3_rest (z_gR (z_gR (z_gC G (G.1 + 1)) 0 (z_rs (G.2 0) G.1 v1)) 1 (z_rs (G.2 1) G.1 0)) G.1))
set_option maxHeartbeats 4000000 in
set_option maxRecDepth 100000 in
theorem m_X3_hire (l : Launch) (X : z_X) (d : Nat → Nat) (G : z_G) (v1 : Int32) {RR : (Int32 × z_G)} (hf : f_X3_hire G v1 = RR) : z_mI l yX3_hire wsX3_hire 2 43 X [.ref (d 15), .int v1] (z_wG X d G) RR.1 (z_wG X d RR.2) := by
  intro sz
  refine Met.ofW (cc := cX3_hire) (maxL := 3) (ret := (some .int)) (by decide) rfl ?_
  intro p e s m args below meth c s₁ Bd hml hv
  obtain ⟨rfl, hsz, hP, hK, hN, hD0⟩ := hv
  have hx := Bd.exec
  have hb := Bd.bytes
  have hr := Bd.returns
  have hts := atoms_spec (ws := wsX3_hire) Bd.pre
  have hown : s.vm.findClass RX3 = some m.cls := findClass_of_methodNamed Bd.named
  have hlocks := Bd.notSynchronized
  have S : CallFix p m c cX3_hire 3 s _ wsX3_hire RX3 := ⟨hx, hb, hml, hown, hts⟩
  have lk_fi30 := hts (.fieldLink RX3 30 "HouseBells$Staff" "count" "I") (List.mem_of_getElem? (i := 1) rfl)
  have lk_fi12 := hts (.fieldLink RX3 12 "HouseBells$Staff" "pace" "LHouseBells$Row;") (List.mem_of_getElem? (i := 2) rfl)
  have lk_fi18 := hts (.fieldLink RX3 18 "HouseBells$Staff" "floor" "LHouseBells$Row;") (List.mem_of_getElem? (i := 3) rfl)
  have in_X3 : ∀ w ∈ wsX30, w ∈ wsX3_hire := fun _ h => (List.mem_cons_of_mem _ (List.mem_append_left _ (List.mem_append_right _ h)))
  subst hsz
  have hD := hD0.self (sz := s.heap.size)
  generalize hAe : va_A (z_wG X d G) s.heap.size = A at hD ⊢
  have hA : ∀ q : Nat, s.heap.size ≤ q → A q := fun q h => by rw [← hAe]; exact Or.inr h
  have hS : va_S A s.heap s.heap [] := va_S.rf
  have hl := lv_entry ([.ref (d 15), .int v1]) (n := 3) (Nat.le_of_ble_eq_true rfl)
  rw [lg_entry_eq]
  generalize (lg_sl ([.ref (d 15), .int v1]) ++ List.replicate (3 - (lg_sl ([.ref (d 15), .int v1])).length) Slot.unset).toArray = ls at hl ⊢
  have hl : lv_has ls 3 [(0, .ref (d 15)), (1, .int v1)] := hl
  suffices hgo : ∀ (H : Heap) (locs : List Loc), va_P X.1 vwCl (z_wG X d G) H → va_D A (z_wG X d G) → va_S A s.heap H locs → W p l e (headSpec wsX3_hire (z_R 2 43)).room s m ([.ref (d 15), .int v1] : List Value).toArray below meth c H locs 0 0 (MQ below (va_Qi (fun (z : Int32) (u : va_W) => z = RR.1 ∧ u = (z_wG X d RR.2)) (z_Bm X A) A) ([.ref (d 15), .int v1] : List Value).toArray s 0 0 A) (F0 m 0 ls []) from hgo _ _ hP hD hS
  clear hP hD hS
  intro H locs hP hD hS
  unfold f_X3_hire at hf
  refine lv_aload_n (pc := 0) hx hb dX3_hire_0 rfl (lv_at hl 0 rfl) ?_
  refine va_get (pc := 1) (ci := 3) (C := RX3) (T := TX3) (N := 6) hx hb hts in_X3 hown hK hP 0 rfl rfl 0 (by decide) lk_fi30 (fun _ h9 => h9) rfl dX3_hire_1 ?_
  refine lv_istore_n (pc := 4) (lv' := [(2, .int G.1), (0, .ref (d 15)), (1, .int v1)]) hx hb dX3_hire_4 rfl hl (by decide) rfl (fun ls hl => ?_)
  refine lv_aload_n (pc := 5) hx hb dX3_hire_5 rfl (lv_at hl 1 rfl) ?_
  refine lv_dup (pc := 6) hx hb dX3_hire_6 rfl ?_
  refine va_get (pc := 7) (ci := 3) (C := RX3) (T := TX3) (N := 6) hx hb hts in_X3 hown hK hP 0 rfl rfl 0 (by decide) lk_fi30 (fun _ h9 => h9) rfl dX3_hire_7 ?_
  refine lv_iconst (v := 1) (pc := 10) hx hb dX3_hire_10 (by decide) ?_
  refine lv_iadd (pc := 11) hx hb dX3_hire_11 ?_
  refine z_put (pc := 12) (ci := 3) (C := RX3) (T := TX3) (N := 6) (W1 := (z_wG X d (z_gC G (G.1 + 1)))) hx hb hts in_X3 tyX3 tyX3_ok nmX3 hown hK hP hD hS 0 rfl rfl 0 (by decide) lk_fi30 (fun _ h9 => h9) rfl (by decide +kernel) (Nat.le_of_ble_eq_true rfl) dX3_hire_12 rfl (fun H locs hP hD hS => ?_)
  refine lv_aload_n (pc := 15) hx hb dX3_hire_15 rfl (lv_at hl 1 rfl) ?_
  refine va_get (pc := 16) (ci := 3) (C := RX3) (T := TX3) (N := 6) hx hb hts in_X3 hown hK hP 0 rfl rfl 1 (by decide) lk_fi12 (fun _ h9 => h9) rfl dX3_hire_16 ?_
  refine lv_iload_n (pc := 19) hx hb dX3_hire_19 rfl (lv_at hl 0 rfl) ?_
  refine lv_iload_n (pc := 20) hx hb dX3_hire_20 rfl (lv_at hl 2 rfl) ?_
  refine z_cmV (pc := 21) (W1 := (z_wG X d (z_gR (z_gC G (G.1 + 1)) 0 (z_rs (G.2 0) G.1 v1)))) S (m_X2_set l X (d 16) (d 17) (G.2 0) G.1 v1) (cwV 2 hts gX3_hire_X2_set rfl rfl rfl hdX2_set ⟨Nat.le_of_ble_eq_true rfl, Nat.le_of_ble_eq_true rfl⟩) hP hK hN hD hS hA (s_G_R1 X d (z_gC G (G.1 + 1))) (f_G_R1 X d (z_gC G (G.1 + 1)) (z_rs (G.2 0) G.1 v1)) (ci := 2) rfl rfl rfl ⟨Nat.le_of_ble_eq_true rfl, Nat.le_of_ble_eq_true rfl⟩ rfl hl.1 rfl (Nat.le_of_ble_eq_true rfl) dX3_hire_21 (fun H locs hP hD hS => ?_)
  refine lv_aload_n (pc := 24) hx hb dX3_hire_24 rfl (lv_at hl 1 rfl) ?_
  refine va_get (pc := 25) (ci := 3) (C := RX3) (T := TX3) (N := 6) hx hb hts in_X3 hown hK hP 0 rfl rfl 2 (by decide) lk_fi18 (fun _ h9 => h9) rfl dX3_hire_25 ?_
  refine lv_iload_n (pc := 28) hx hb dX3_hire_28 rfl (lv_at hl 0 rfl) ?_
  refine lv_iconst (v := 0) (pc := 29) hx hb dX3_hire_29 (by decide) ?_
  refine z_cmV (pc := 30) (W1 := (z_wG X d (z_gR (z_gR (z_gC G (G.1 + 1)) 0 (z_rs (G.2 0) G.1 v1)) 1 (z_rs (G.2 1) G.1 0)))) S (m_X2_set l X (d 18) (d 19) (G.2 1) G.1 0) (cwV 2 hts gX3_hire_X2_set rfl rfl rfl hdX2_set ⟨Nat.le_of_ble_eq_true rfl, Nat.le_of_ble_eq_true rfl⟩) hP hK hN hD hS hA (s_G_R3 X d (z_gR (z_gC G (G.1 + 1)) 0 (z_rs (G.2 0) G.1 v1))) (f_G_R3 X d (z_gR (z_gC G (G.1 + 1)) 0 (z_rs (G.2 0) G.1 v1)) (z_rs (G.2 1) G.1 0)) (ci := 2) rfl rfl rfl ⟨Nat.le_of_ble_eq_true rfl, Nat.le_of_ble_eq_true rfl⟩ rfl hl.1 rfl (Nat.le_of_ble_eq_true rfl) dX3_hire_30 (fun H locs hP hD hS => ?_)
  refine lv_aload_n (pc := 33) hx hb dX3_hire_33 rfl (lv_at hl 1 rfl) ?_
  refine lv_iload_n (pc := 34) hx hb dX3_hire_34 rfl (lv_at hl 0 rfl) ?_
  refine z_cmV (pc := 35) (W1 := (z_wG X d (f_X3_rest (z_gR (z_gR (z_gC G (G.1 + 1)) 0 (z_rs (G.2 0) G.1 v1)) 1 (z_rs (G.2 1) G.1 0)) G.1))) S (m_X3_rest l X d (z_gR (z_gR (z_gC G (G.1 + 1)) 0 (z_rs (G.2 0) G.1 v1)) 1 (z_rs (G.2 1) G.1 0)) G.1 rfl) (cwV 1 hts gX3_hire_X3_rest rfl rfl rfl hdX3_rest ⟨Nat.le_of_ble_eq_true rfl, Nat.le_of_ble_eq_true rfl⟩) hP hK hN hD hS hA (s_G_G X d (z_gR (z_gR (z_gC G (G.1 + 1)) 0 (z_rs (G.2 0) G.1 v1)) 1 (z_rs (G.2 1) G.1 0))) (f_G_G X d (z_gR (z_gR (z_gC G (G.1 + 1)) 0 (z_rs (G.2 0) G.1 v1)) 1 (z_rs (G.2 1) G.1 0)) (f_X3_rest (z_gR (z_gR (z_gC G (G.1 + 1)) 0 (z_rs (G.2 0) G.1 v1)) 1 (z_rs (G.2 1) G.1 0)) G.1)) (ci := 3) rfl rfl rfl ⟨Nat.le_of_ble_eq_true rfl, Nat.le_of_ble_eq_true rfl⟩ rfl hl.1 rfl (Nat.le_of_ble_eq_true rfl) dX3_hire_35 (fun H locs hP hD hS => ?_)
  refine lv_iload_n (pc := 38) hx hb dX3_hire_38 rfl (lv_at hl 0 rfl) ?_
  exact W.iret (pc := 39) (v := G.1) hx hb hr (fun t ht hW => ⟨⟨_, (z_wG X d (f_X3_rest (z_gR (z_gR (z_gC G (G.1 + 1)) 0 (z_rs (G.2 0) G.1 v1)) 1 (z_rs (G.2 1) G.1 0)) G.1)), rfl, ⟨z_t1 hf, congrArg (fun z => (z_wG X d z)) (z_t2 hf)⟩, by rw [ht]; exact hP, hD⟩, hS.F ht⟩) hS.2.2 dX3_hire_39
def f_X3_isServing_L2 (G : z_G) : Nat → Int32 → Int32 → Option Int32
  | 0, _, _ => none
  | n + 1, u1, u2 => (if G.1 ≤ u2 then some 0 else (if (z_rg (G.2 3) u2) = u1 then some 1 else f_X3_isServing_L2 G n u1 (u2 + 1)))
def f_X3_isServing (G : z_G) (v1 : Int32) : Option Int32 := f_X3_isServing_L2 G z_FU v1 0
set_option maxHeartbeats 4000000 in
set_option maxRecDepth 100000 in
theorem m_X3_isServing (l : Launch) (X : z_X) (d : Nat → Nat) (G : z_G) (v1 : Int32) {RR : Int32} (hf : f_X3_isServing G v1 = some RR) : z_pI l yX3_isServing wsX3_isServing 1 21 X [.ref (d 15), .int v1] (z_wG X d G) RR := by
  refine Met.ofW (cc := cX3_isServing) (maxL := 3) (ret := (some .boolean)) (by decide) rfl ?_
  intro p e s m args below meth c s₁ Bd hml hv
  obtain ⟨rfl, hP, hK, hN⟩ := hv
  have hx := Bd.exec
  have hb := Bd.bytes
  have hr := Bd.returns
  have hts := atoms_spec (ws := wsX3_isServing) Bd.pre
  have hown : s.vm.findClass RX3 = some m.cls := findClass_of_methodNamed Bd.named
  have hlocks := Bd.notSynchronized
  have S : CallFix p m c cX3_isServing 3 s _ wsX3_isServing RX3 := ⟨hx, hb, hml, hown, hts⟩
  have lk_fi30 := hts (.fieldLink RX3 30 "HouseBells$Staff" "count" "I") (List.mem_of_getElem? (i := 1) rfl)
  have lk_fi24 := hts (.fieldLink RX3 24 "HouseBells$Staff" "guest" "LHouseBells$Row;") (List.mem_of_getElem? (i := 2) rfl)
  have in_X3 : ∀ w ∈ wsX30, w ∈ wsX3_isServing := fun _ h => (List.mem_cons_of_mem _ (List.mem_append_left _ (List.mem_append_right _ h)))
  have hl := lv_entry ([.ref (d 15), .int v1]) (n := 3) (Nat.le_of_ble_eq_true rfl)
  rw [lg_entry_eq]
  generalize (lg_sl ([.ref (d 15), .int v1]) ++ List.replicate (3 - (lg_sl ([.ref (d 15), .int v1])).length) Slot.unset).toArray = ls at hl ⊢
  have hl : lv_has ls 3 [(0, .ref (d 15)), (1, .int v1)] := hl
  have lp_2 : ∀ (n : Nat) (u1 : Int32) (u2 : Int32) (ls : Array Slot), lv_has ls 3 [(0, .ref (d 15)), (1, .int u1), (2, .int u2)] → f_X3_isServing_L2 G n u1 u2 = some RR → W p l e (headSpec wsX3_isServing (z_R 1 21)).room s m ([.ref (d 15), .int v1] : List Value).toArray below meth c s.heap [] 0 0 (MQ below (vp_Si (fun z => z = RR)) ([.ref (d 15), .int v1] : List Value).toArray s 0 0 (fun _ => False)) (F0 m 2 ls []) := by
    intro n
    induction n with
    | zero =>
      intro u1 u2 ls hl hf
      cases hf
    | succ n ih =>
      intro u1 u2 ls hl hf
      rw [f_X3_isServing_L2] at hf
      refine lv_iload_n (pc := 2) hx hb dX3_isServing_2 rfl (lv_at hl 2 rfl) ?_
      refine lv_aload_n (pc := 3) hx hb dX3_isServing_3 rfl (lv_at hl 0 rfl) ?_
      refine va_get (pc := 4) (ci := 3) (C := RX3) (T := TX3) (N := 6) hx hb hts in_X3 hown hK hP 0 rfl rfl 0 (by decide) lk_fi30 (fun _ h9 => h9) rfl dX3_isServing_4 ?_
      refine lv_icmp_ge (pc := 7) (tgt := 30) hx hb dX3_isServing_7 (by decide) (fun c_7 => ?_) (fun c_7 => ?_)
      · replace hf := z_ip c_7 hf
        refine lv_iconst (v := 0) (pc := 30) hx hb dX3_isServing_30 (by decide) ?_
        exact W.zret (pc := 31) (v := 0) hx hb hr rfl (fun t ht hW => ⟨_, rfl, (Option.some.inj hf), ht⟩) (fun _ h => nomatch h) dX3_isServing_31
      · replace hf := z_in c_7 hf
        refine lv_aload_n (pc := 10) hx hb dX3_isServing_10 rfl (lv_at hl 0 rfl) ?_
        refine va_get (pc := 11) (ci := 3) (C := RX3) (T := TX3) (N := 6) hx hb hts in_X3 hown hK hP 0 rfl rfl 4 (by decide) lk_fi24 (fun _ h9 => h9) rfl dX3_isServing_11 ?_
        refine lv_iload_n (pc := 14) hx hb dX3_isServing_14 rfl (lv_at hl 2 rfl) ?_
        refine z_cpI (pc := 15) S (m_X2_get l X (d 22) (d 23) (G.2 3) u2) (cwV 1 hts gX3_isServing_X2_get rfl rfl rfl hdX2_get ⟨Nat.le_of_ble_eq_true rfl, Nat.le_of_ble_eq_true rfl⟩) hP hK hN (s_G_R7 X d G) (ci := 2) rfl rfl rfl ⟨Nat.le_of_ble_eq_true rfl, Nat.le_of_ble_eq_true rfl⟩ rfl hl.1 rfl (Nat.le_of_ble_eq_true rfl) dX3_isServing_15 ?_
        refine lv_iload_n (pc := 18) hx hb dX3_isServing_18 rfl (lv_at hl 1 rfl) ?_
        refine lv_icmp_ne (pc := 19) (tgt := 24) hx hb dX3_isServing_19 (by decide) (fun c_19 => ?_) (fun c_19 => ?_)
        · replace hf := z_in c_19 hf
          refine lv_iinc (pc := 24) (v := (u2 + 1)) (lv' := [(2, .int (u2 + 1)), (0, .ref (d 15)), (1, .int u1)]) hx hb dX3_isServing_24 hl (k := 2) rfl rfl (by decide) rfl (fun ls hl => ?_)
          refine lv_goto (pc := 27) (tgt := 2) hx hb dX3_isServing_27 (by decide) ?_
          exact ih u1 (u2 + 1) ls (lv_sub hl [1, 2, 0] rfl) hf
        · replace hf := z_ip c_19 hf
          refine lv_iconst (v := 1) (pc := 22) hx hb dX3_isServing_22 (by decide) ?_
          exact W.zret (pc := 23) (v := 1) hx hb hr rfl (fun t ht hW => ⟨_, rfl, (Option.some.inj hf), ht⟩) (fun _ h => nomatch h) dX3_isServing_23
  unfold f_X3_isServing at hf
  refine lv_iconst (v := 0) (pc := 0) hx hb dX3_isServing_0 (by decide) ?_
  refine lv_istore_n (pc := 1) (lv' := [(2, .int 0), (0, .ref (d 15)), (1, .int v1)]) hx hb dX3_isServing_1 rfl hl (by decide) rfl (fun ls hl => ?_)
  exact lp_2 z_FU v1 0 ls (lv_sub hl [1, 2, 0] rfl) hf
