def f_X2_copyFrom_L2 (f2 : (Nat → Int32)) : Nat → Int32 → (Nat → Int32) → Option (Nat → Int32)
  | 0, _, _ => none
  | n + 1, u2, f => (if 12 ≤ u2 then some f else (if 12 ≤ u2 then some f else (z_at f2 u2 12).bind (fun x30 => (z_wr f u2 12 x30).bind (fun x31 => f_X2_copyFrom_L2 f2 n (u2 + 1) x31))))
def f_X2_copyFrom (f : (Nat → Int32)) (f2 : (Nat → Int32)) : Option (Nat → Int32) := (f_X2_copyFrom_L2 f2 z_FU 0 f).bind (fun x2 => some x2)
set_option maxHeartbeats 4000000 in
set_option maxRecDepth 100000 in
theorem m_X2_copyFrom (l : Launch) (X : z_X) (a b a2 b2 : Nat) (f : (Nat → Int32)) (f2 : (Nat → Int32)) {RR : (Nat → Int32)} (hf : f_X2_copyFrom f f2 = some RR) : z_mV l yX2_copyFrom wsX2_copyFrom 0 0 X [.ref a, .ref a2] (z_wRR X a b f a2 b2 f2) (z_wRR X a b RR a2 b2 f2) := by
  intro sz
  refine Met.ofW (cc := cX2_copyFrom) (maxL := 3) (ret := none) (by decide) rfl ?_
  intro p e s m args below meth c s₁ Bd hml hv
  obtain ⟨rfl, hsz, hP, hK, hN, hD0⟩ := hv
  have hx := Bd.exec
  have hb := Bd.bytes
  have hr := Bd.returns
  have hts := atoms_spec (ws := wsX2_copyFrom) Bd.pre
  have hown : s.vm.findClass RX2 = some m.cls := findClass_of_methodNamed Bd.named
  have hlocks := Bd.notSynchronized
  have S : CallFix p m c cX2_copyFrom 3 s _ wsX2_copyFrom RX2 := ⟨hx, hb, hml, hown, hts⟩
  have lk_fi9 := hts (.fieldLink RX2 9 "HouseBells$Row" "cells" "[I") (List.mem_of_getElem? (i := 1) rfl)
  have in_X2 : ∀ w ∈ wsX20, w ∈ wsX2_copyFrom := fun _ h => (List.mem_cons_of_mem _ (List.mem_append_right _ h))
  subst hsz
  have hD := hD0.self (sz := s.heap.size)
  generalize hAe : va_A (z_wRR X a b f a2 b2 f2) s.heap.size = A at hD ⊢
  have hA : ∀ q : Nat, s.heap.size ≤ q → A q := fun q h => by rw [← hAe]; exact Or.inr h
  have hS : va_S A s.heap s.heap [] := va_S.rf
  have hl := lv_entry ([.ref a, .ref a2]) (n := 3) (Nat.le_of_ble_eq_true rfl)
  rw [lg_entry_eq]
  generalize (lg_sl ([.ref a, .ref a2]) ++ List.replicate (3 - (lg_sl ([.ref a, .ref a2])).length) Slot.unset).toArray = ls at hl ⊢
  have hl : lv_has ls 3 [(0, .ref a), (1, .ref a2)] := hl
  have lp_2 : ∀ (n : Nat) (u2 : Int32) (f : (Nat → Int32)) (T : (Nat → Int32)) (H : Heap) (locs : List Loc), va_P X.1 vwCl (z_wRR X a b f a2 b2 f2) H → va_D A (z_wRR X a b f a2 b2 f2) → va_S A s.heap H locs → ∀ (ls : Array Slot), lv_has ls 3 [(0, .ref a), (1, .ref a2), (2, .int u2)] → f_X2_copyFrom_L2 f2 n u2 f = some T → (∀ (H : Heap) (locs : List Loc), va_P X.1 vwCl (z_wRR X a b T a2 b2 f2) H → va_D A (z_wRR X a b T a2 b2 f2) → va_S A s.heap H locs → ∀ (ls : Array Slot), lv_has ls 3 [] → W p l e (headSpec wsX2_copyFrom (z_R 0 0)).room s m ([.ref a, .ref a2] : List Value).toArray below meth c H locs 0 0 (MQ below (va_Qv (fun u : va_W => u = (z_wRR X a b RR a2 b2 f2)) (z_Bm X A) A) ([.ref a, .ref a2] : List Value).toArray s 0 0 A) (F0 m 38 ls [])) → W p l e (headSpec wsX2_copyFrom (z_R 0 0)).room s m ([.ref a, .ref a2] : List Value).toArray below meth c H locs 0 0 (MQ below (va_Qv (fun u : va_W => u = (z_wRR X a b RR a2 b2 f2)) (z_Bm X A) A) ([.ref a, .ref a2] : List Value).toArray s 0 0 A) (F0 m 2 ls []) := by
    intro n
    induction n with
    | zero =>
      intro u2 f T H locs hP hD hS ls hl hf kk
      cases hf
    | succ n ih =>
      intro u2 f T H locs hP hD hS ls hl hf kk
      rw [f_X2_copyFrom_L2] at hf
      refine lv_iload_n (pc := 2) hx hb dX2_copyFrom_2 rfl (lv_at hl 2 rfl) ?_
      refine lv_aload_n (pc := 3) hx hb dX2_copyFrom_3 rfl (lv_at hl 0 rfl) ?_
      refine va_get (pc := 4) (ci := 2) (C := RX2) (T := TX2) (N := 1) hx hb hts in_X2 hown hK hP 0 rfl rfl 0 (by decide) lk_fi9 (fun _ h9 => h9) rfl dX2_copyFrom_4 ?_
      refine va_alen (v := 12) (pc := 7) hx hb hK hP 1 0 rfl rfl rfl dX2_copyFrom_7 ?_
      refine lv_icmp_ge (pc := 8) (tgt := 38) hx hb dX2_copyFrom_8 (by decide) (fun c_8 => ?_) (fun c_8 => ?_)
      · replace hf := z_ip c_8 hf
        obtain rfl := Option.some.inj hf
        exact kk H locs hP hD hS ls (lv_sub hl [] rfl)
      · replace hf := z_in c_8 hf
        refine lv_iload_n (pc := 11) hx hb dX2_copyFrom_11 rfl (lv_at hl 2 rfl) ?_
        refine lv_aload_n (pc := 12) hx hb dX2_copyFrom_12 rfl (lv_at hl 1 rfl) ?_
        refine va_get (pc := 13) (ci := 2) (C := RX2) (T := TX2) (N := 1) hx hb hts in_X2 hown hK hP 2 rfl rfl 0 (by decide) lk_fi9 (fun _ h9 => h9) rfl dX2_copyFrom_13 ?_
        refine va_alen (v := 12) (pc := 16) hx hb hK hP 3 0 rfl rfl rfl dX2_copyFrom_16 ?_
        refine lv_icmp_ge (pc := 17) (tgt := 38) hx hb dX2_copyFrom_17 (by decide) (fun c_17 => ?_) (fun c_17 => ?_)
        · replace hf := z_ip c_17 hf
          obtain rfl := Option.some.inj hf
          exact kk H locs hP hD hS ls (lv_sub hl [] rfl)
        · replace hf := z_in c_17 hf
          refine lv_aload_n (pc := 20) hx hb dX2_copyFrom_20 rfl (lv_at hl 0 rfl) ?_
          refine va_get (pc := 21) (ci := 2) (C := RX2) (T := TX2) (N := 1) hx hb hts in_X2 hown hK hP 0 rfl rfl 0 (by decide) lk_fi9 (fun _ h9 => h9) rfl dX2_copyFrom_21 ?_
          refine lv_iload_n (pc := 24) hx hb dX2_copyFrom_24 rfl (lv_at hl 2 rfl) ?_
          refine lv_aload_n (pc := 25) hx hb dX2_copyFrom_25 rfl (lv_at hl 1 rfl) ?_
          refine va_get (pc := 26) (ci := 2) (C := RX2) (T := TX2) (N := 1) hx hb hts in_X2 hown hK hP 2 rfl rfl 0 (by decide) lk_fi9 (fun _ h9 => h9) rfl dX2_copyFrom_26 ?_
          refine lv_iload_n (pc := 29) hx hb dX2_copyFrom_29 rfl (lv_at hl 2 rfl) ?_
          obtain ⟨x30, e30, hf⟩ := z_bd hf
          refine z_iald (pc := 30) hx hb hK hP 3 0 rfl rfl e30 dX2_copyFrom_30 ?_
          obtain ⟨x31, e31, hf⟩ := z_bd hf
          refine z_iast (pc := 31) (W1 := (z_wRR X a b x31 a2 b2 f2)) hx hb hK hP hD hS 1 0 rfl rfl e31 rfl dX2_copyFrom_31 (fun H locs hP hD hS => ?_)
          refine lv_iinc (pc := 32) (v := (u2 + 1)) (lv' := [(2, .int (u2 + 1)), (0, .ref a), (1, .ref a2)]) hx hb dX2_copyFrom_32 hl (k := 2) rfl rfl (by decide) rfl (fun ls hl => ?_)
          refine lv_goto (pc := 35) (tgt := 2) hx hb dX2_copyFrom_35 (by decide) ?_
          exact ih (u2 + 1) x31 T H locs hP hD hS ls (lv_sub hl [1, 2, 0] rfl) hf kk
  suffices hgo : ∀ (H : Heap) (locs : List Loc), va_P X.1 vwCl (z_wRR X a b f a2 b2 f2) H → va_D A (z_wRR X a b f a2 b2 f2) → va_S A s.heap H locs → W p l e (headSpec wsX2_copyFrom (z_R 0 0)).room s m ([.ref a, .ref a2] : List Value).toArray below meth c H locs 0 0 (MQ below (va_Qv (fun u : va_W => u = (z_wRR X a b RR a2 b2 f2)) (z_Bm X A) A) ([.ref a, .ref a2] : List Value).toArray s 0 0 A) (F0 m 0 ls []) from hgo _ _ hP hD hS
  clear hP hD hS
  intro H locs hP hD hS
  unfold f_X2_copyFrom at hf
  refine lv_iconst (v := 0) (pc := 0) hx hb dX2_copyFrom_0 (by decide) ?_
  refine lv_istore_n (pc := 1) (lv' := [(2, .int 0), (0, .ref a), (1, .ref a2)]) hx hb dX2_copyFrom_1 rfl hl (by decide) rfl (fun ls hl => ?_)
  obtain ⟨x2, e2, hf⟩ := z_bd hf
  refine lp_2 z_FU 0 f x2 H locs hP hD hS ls (lv_sub hl [1, 2, 0] rfl) e2 (fun H locs hP hD hS ls hl => ?_)
  exact W.vret (pc := 38) hx hb hr (fun t ht hW => ⟨⟨(z_wRR X a b x2 a2 b2 f2), rfl, congrArg (fun z => (z_wRR X a b z a2 b2 f2)) (Option.some.inj hf), by rw [ht]; exact hP, hD⟩, hS.F ht⟩) hS.2.2 dX2_copyFrom_38
def f_X1_copyFrom_L10 (L2 : z_L) : Nat → Int32 → z_L → Option z_L
  | 0, _, _ => none
  | n + 1, u2, L => (if 12 ≤ u2 then some L else (if 12 ≤ u2 then some L else (z_at L2.2 u2 12).bind (fun x38 => (z_wr L.2 u2 12 x38).bind (fun x39 => f_X1_copyFrom_L10 L2 n (u2 + 1) (z_lD L x39)))))
def f_X1_copyFrom (L : z_L) (L2 : z_L) : Option z_L := (f_X1_copyFrom_L10 L2 z_FU 0 (z_lC L L2.1)).bind (fun x10 => some x10)
set_option maxHeartbeats 4000000 in
set_option maxRecDepth 100000 in
theorem m_X1_copyFrom (l : Launch) (X : z_X) (d d2 : Nat → Nat) (L : z_L) (L2 : z_L) {RR : z_L} (hf : f_X1_copyFrom L L2 = some RR) : z_mV l yX1_copyFrom wsX1_copyFrom 0 0 X [.ref (d 13), .ref (d2 13)] (z_wLL X d L d2 L2) (z_wLL X d RR d2 L2) := by
  intro sz
  refine Met.ofW (cc := cX1_copyFrom) (maxL := 3) (ret := none) (by decide) rfl ?_
  intro p e s m args below meth c s₁ Bd hml hv
  obtain ⟨rfl, hsz, hP, hK, hN, hD0⟩ := hv
  have hx := Bd.exec
  have hb := Bd.bytes
  have hr := Bd.returns
  have hts := atoms_spec (ws := wsX1_copyFrom) Bd.pre
  have hown : s.vm.findClass RX1 = some m.cls := findClass_of_methodNamed Bd.named
  have hlocks := Bd.notSynchronized
  have S : CallFix p m c cX1_copyFrom 3 s _ wsX1_copyFrom RX1 := ⟨hx, hb, hml, hown, hts⟩
  have lk_fi15 := hts (.fieldLink RX1 15 "HouseBells$Line" "count" "I") (List.mem_of_getElem? (i := 1) rfl)
  have lk_fi9 := hts (.fieldLink RX1 9 "HouseBells$Line" "drops" "[I") (List.mem_of_getElem? (i := 2) rfl)
  have in_X1 : ∀ w ∈ wsX10, w ∈ wsX1_copyFrom := fun _ h => (List.mem_cons_of_mem _ (List.mem_append_right _ h))
  subst hsz
  have hD := hD0.self (sz := s.heap.size)
  generalize hAe : va_A (z_wLL X d L d2 L2) s.heap.size = A at hD ⊢
  have hA : ∀ q : Nat, s.heap.size ≤ q → A q := fun q h => by rw [← hAe]; exact Or.inr h
  have hS : va_S A s.heap s.heap [] := va_S.rf
  have hl := lv_entry ([.ref (d 13), .ref (d2 13)]) (n := 3) (Nat.le_of_ble_eq_true rfl)
  rw [lg_entry_eq]
  generalize (lg_sl ([.ref (d 13), .ref (d2 13)]) ++ List.replicate (3 - (lg_sl ([.ref (d 13), .ref (d2 13)])).length) Slot.unset).toArray = ls at hl ⊢
  have hl : lv_has ls 3 [(0, .ref (d 13)), (1, .ref (d2 13))] := hl
  have lp_10 : ∀ (n : Nat) (u2 : Int32) (L : z_L) (T : z_L) (H : Heap) (locs : List Loc), va_P X.1 vwCl (z_wLL X d L d2 L2) H → va_D A (z_wLL X d L d2 L2) → va_S A s.heap H locs → ∀ (ls : Array Slot), lv_has ls 3 [(0, .ref (d 13)), (1, .ref (d2 13)), (2, .int u2)] → f_X1_copyFrom_L10 L2 n u2 L = some T → (∀ (H : Heap) (locs : List Loc), va_P X.1 vwCl (z_wLL X d T d2 L2) H → va_D A (z_wLL X d T d2 L2) → va_S A s.heap H locs → ∀ (ls : Array Slot), lv_has ls 3 [] → W p l e (headSpec wsX1_copyFrom (z_R 0 0)).room s m ([.ref (d 13), .ref (d2 13)] : List Value).toArray below meth c H locs 0 0 (MQ below (va_Qv (fun u : va_W => u = (z_wLL X d RR d2 L2)) (z_Bm X A) A) ([.ref (d 13), .ref (d2 13)] : List Value).toArray s 0 0 A) (F0 m 46 ls [])) → W p l e (headSpec wsX1_copyFrom (z_R 0 0)).room s m ([.ref (d 13), .ref (d2 13)] : List Value).toArray below meth c H locs 0 0 (MQ below (va_Qv (fun u : va_W => u = (z_wLL X d RR d2 L2)) (z_Bm X A) A) ([.ref (d 13), .ref (d2 13)] : List Value).toArray s 0 0 A) (F0 m 10 ls []) := by
    intro n
    induction n with
    | zero =>
      intro u2 L T H locs hP hD hS ls hl hf kk
      cases hf
    | succ n ih =>
      intro u2 L T H locs hP hD hS ls hl hf kk
      rw [f_X1_copyFrom_L10] at hf
      refine lv_iload_n (pc := 10) hx hb dX1_copyFrom_10 rfl (lv_at hl 2 rfl) ?_
      refine lv_aload_n (pc := 11) hx hb dX1_copyFrom_11 rfl (lv_at hl 0 rfl) ?_
      refine va_get (pc := 12) (ci := 1) (C := RX1) (T := TX1) (N := 2) hx hb hts in_X1 hown hK hP 0 rfl rfl 1 (by decide) lk_fi9 (fun _ h9 => h9) rfl dX1_copyFrom_12 ?_
      refine va_alen (v := 12) (pc := 15) hx hb hK hP 1 0 rfl rfl rfl dX1_copyFrom_15 ?_
      refine lv_icmp_ge (pc := 16) (tgt := 46) hx hb dX1_copyFrom_16 (by decide) (fun c_16 => ?_) (fun c_16 => ?_)
      · replace hf := z_ip c_16 hf
        obtain rfl := Option.some.inj hf
        exact kk H locs hP hD hS ls (lv_sub hl [] rfl)
      · replace hf := z_in c_16 hf
        refine lv_iload_n (pc := 19) hx hb dX1_copyFrom_19 rfl (lv_at hl 2 rfl) ?_
        refine lv_aload_n (pc := 20) hx hb dX1_copyFrom_20 rfl (lv_at hl 1 rfl) ?_
        refine va_get (pc := 21) (ci := 1) (C := RX1) (T := TX1) (N := 2) hx hb hts in_X1 hown hK hP 2 rfl rfl 1 (by decide) lk_fi9 (fun _ h9 => h9) rfl dX1_copyFrom_21 ?_
        refine va_alen (v := 12) (pc := 24) hx hb hK hP 3 0 rfl rfl rfl dX1_copyFrom_24 ?_
        refine lv_icmp_ge (pc := 25) (tgt := 46) hx hb dX1_copyFrom_25 (by decide) (fun c_25 => ?_) (fun c_25 => ?_)
        · replace hf := z_ip c_25 hf
          obtain rfl := Option.some.inj hf
          exact kk H locs hP hD hS ls (lv_sub hl [] rfl)
        · replace hf := z_in c_25 hf
          refine lv_aload_n (pc := 28) hx hb dX1_copyFrom_28 rfl (lv_at hl 0 rfl) ?_
          refine va_get (pc := 29) (ci := 1) (C := RX1) (T := TX1) (N := 2) hx hb hts in_X1 hown hK hP 0 rfl rfl 1 (by decide) lk_fi9 (fun _ h9 => h9) rfl dX1_copyFrom_29 ?_
          refine lv_iload_n (pc := 32) hx hb dX1_copyFrom_32 rfl (lv_at hl 2 rfl) ?_
          refine lv_aload_n (pc := 33) hx hb dX1_copyFrom_33 rfl (lv_at hl 1 rfl) ?_
          refine va_get (pc := 34) (ci := 1) (C := RX1) (T := TX1) (N := 2) hx hb hts in_X1 hown hK hP 2 rfl rfl 1 (by decide) lk_fi9 (fun _ h9 => h9) rfl dX1_copyFrom_34 ?_
          refine lv_iload_n (pc := 37) hx hb dX1_copyFrom_37 rfl (lv_at hl 2 rfl) ?_
          obtain ⟨x38, e38, hf⟩ := z_bd hf
          refine z_iald (pc := 38) hx hb hK hP 3 0 rfl rfl e38 dX1_copyFrom_38 ?_
          obtain ⟨x39, e39, hf⟩ := z_bd hf
          refine z_iast (pc := 39) (W1 := (z_wLL X d (z_lD L x39) d2 L2)) hx hb hK hP hD hS 1 0 rfl rfl e39 rfl dX1_copyFrom_39 (fun H locs hP hD hS => ?_)
          refine lv_iinc (pc := 40) (v := (u2 + 1)) (lv' := [(2, .int (u2 + 1)), (0, .ref (d 13)), (1, .ref (d2 13))]) hx hb dX1_copyFrom_40 hl (k := 2) rfl rfl (by decide) rfl (fun ls hl => ?_)
          refine lv_goto (pc := 43) (tgt := 10) hx hb dX1_copyFrom_43 (by decide) ?_
          exact ih (u2 + 1) (z_lD L x39) T H locs hP hD hS ls (lv_sub hl [1, 2, 0] rfl) hf kk
  suffices hgo : ∀ (H : Heap) (locs : List Loc), va_P X.1 vwCl (z_wLL X d L d2 L2) H → va_D A (z_wLL X d L d2 L2) → va_S A s.heap H locs → W p l e (headSpec wsX1_copyFrom (z_R 0 0)).room s m ([.ref (d 13), .ref (d2 13)] : List Value).toArray below meth c H locs 0 0 (MQ below (va_Qv (fun u : va_W => u = (z_wLL X d RR d2 L2)) (z_Bm X A) A) ([.ref (d 13), .ref (d2 13)] : List Value).toArray s 0 0 A) (F0 m 0 ls []) from hgo _ _ hP hD hS
  clear hP hD hS
  intro H locs hP hD hS
  unfold f_X1_copyFrom at hf
  refine lv_aload_n (pc := 0) hx hb dX1_copyFrom_0 rfl (lv_at hl 0 rfl) ?_
  refine lv_aload_n (pc := 1) hx hb dX1_copyFrom_1 rfl (lv_at hl 1 rfl) ?_
  refine va_get (pc := 2) (ci := 1) (C := RX1) (T := TX1) (N := 2) hx hb hts in_X1 hown hK hP 2 rfl rfl 0 (by decide) lk_fi15 (fun _ h9 => h9) rfl dX1_copyFrom_2 ?_
  refine z_put (pc := 5) (ci := 1) (C := RX1) (T := TX1) (N := 2) (W1 := (z_wLL X d (z_lC L L2.1) d2 L2)) hx hb hts in_X1 tyX1 tyX1_ok nmX1 hown hK hP hD hS 0 rfl rfl 0 (by decide) lk_fi15 (fun _ h9 => h9) rfl (by decide +kernel) (Nat.le_of_ble_eq_true rfl) dX1_copyFrom_5 rfl (fun H locs hP hD hS => ?_)
  refine lv_iconst (v := 0) (pc := 8) hx hb dX1_copyFrom_8 (by decide) ?_
  refine lv_istore_n (pc := 9) (lv' := [(2, .int 0), (0, .ref (d 13)), (1, .ref (d2 13))]) hx hb dX1_copyFrom_9 rfl hl (by decide) rfl (fun ls hl => ?_)
  obtain ⟨x10, e10, hf⟩ := z_bd hf
  refine lp_10 z_FU 0 (z_lC L L2.1) x10 H locs hP hD hS ls (lv_sub hl [1, 2, 0] rfl) e10 (fun H locs hP hD hS ls hl => ?_)
  exact W.vret (pc := 46) hx hb hr (fun t ht hW => ⟨⟨(z_wLL X d x10 d2 L2), rfl, congrArg (fun z => (z_wLL X d z d2 L2)) (Option.some.inj hf), by rw [ht]; exact hP, hD⟩, hS.F ht⟩) hS.2.2 dX1_copyFrom_46
def f_X1_placeOf_L2 (L : z_L) : Nat → Int32 → Int32 → Option Int32
  | 0, _, _ => none
  | n + 1, u1, u2 => (if L.1 ≤ u2 then some (-1) else (if 12 ≤ u2 then some (-1) else (z_at L.2 u2 12).bind (fun x24 => (if x24 = u1 then some u2 else f_X1_placeOf_L2 L n u1 (u2 + 1)))))
def f_X1_placeOf (L : z_L) (v1 : Int32) : Option Int32 := f_X1_placeOf_L2 L z_FU v1 0
set_option maxHeartbeats 4000000 in
set_option maxRecDepth 100000 in
theorem m_X1_placeOf (l : Launch) (X : z_X) (d : Nat → Nat) (L : z_L) (v1 : Int32) {RR : Int32} (hf : f_X1_placeOf L v1 = some RR) : z_pI l yX1_placeOf wsX1_placeOf 0 0 X [.ref (d 13), .int v1] (z_wL X d L) RR := by
  refine Met.ofW (cc := cX1_placeOf) (maxL := 3) (ret := (some .int)) (by decide) rfl ?_
  intro p e s m args below meth c s₁ Bd hml hv
  obtain ⟨rfl, hP, hK, hN⟩ := hv
  have hx := Bd.exec
  have hb := Bd.bytes
  have hr := Bd.returns
  have hts := atoms_spec (ws := wsX1_placeOf) Bd.pre
  have hown : s.vm.findClass RX1 = some m.cls := findClass_of_methodNamed Bd.named
  have hlocks := Bd.notSynchronized
  have S : CallFix p m c cX1_placeOf 3 s _ wsX1_placeOf RX1 := ⟨hx, hb, hml, hown, hts⟩
  have lk_fi15 := hts (.fieldLink RX1 15 "HouseBells$Line" "count" "I") (List.mem_of_getElem? (i := 1) rfl)
  have lk_fi9 := hts (.fieldLink RX1 9 "HouseBells$Line" "drops" "[I") (List.mem_of_getElem? (i := 2) rfl)
  have in_X1 : ∀ w ∈ wsX10, w ∈ wsX1_placeOf := fun _ h => (List.mem_cons_of_mem _ (List.mem_append_right _ h))
  have hl := lv_entry ([.ref (d 13), .int v1]) (n := 3) (Nat.le_of_ble_eq_true rfl)
  rw [lg_entry_eq]
  generalize (lg_sl ([.ref (d 13), .int v1]) ++ List.replicate (3 - (lg_sl ([.ref (d 13), .int v1])).length) Slot.unset).toArray = ls at hl ⊢
  have hl : lv_has ls 3 [(0, .ref (d 13)), (1, .int v1)] := hl
  have lp_2 : ∀ (n : Nat) (u1 : Int32) (u2 : Int32) (ls : Array Slot), lv_has ls 3 [(0, .ref (d 13)), (1, .int u1), (2, .int u2)] → f_X1_placeOf_L2 L n u1 u2 = some RR → W p l e (headSpec wsX1_placeOf (z_R 0 0)).room s m ([.ref (d 13), .int v1] : List Value).toArray below meth c s.heap [] 0 0 (MQ below (vp_Si (fun z => z = RR)) ([.ref (d 13), .int v1] : List Value).toArray s 0 0 (fun _ => False)) (F0 m 2 ls []) := by
    intro n
    induction n with
    | zero =>
      intro u1 u2 ls hl hf
      cases hf
    | succ n ih =>
      intro u1 u2 ls hl hf
      rw [f_X1_placeOf_L2] at hf
      refine lv_iload_n (pc := 2) hx hb dX1_placeOf_2 rfl (lv_at hl 2 rfl) ?_
      refine lv_aload_n (pc := 3) hx hb dX1_placeOf_3 rfl (lv_at hl 0 rfl) ?_
      refine va_get (pc := 4) (ci := 1) (C := RX1) (T := TX1) (N := 2) hx hb hts in_X1 hown hK hP 0 rfl rfl 0 (by decide) lk_fi15 (fun _ h9 => h9) rfl dX1_placeOf_4 ?_
      refine lv_icmp_ge (pc := 7) (tgt := 37) hx hb dX1_placeOf_7 (by decide) (fun c_7 => ?_) (fun c_7 => ?_)
      · replace hf := z_ip c_7 hf
        refine lv_iconst (v := (-1)) (pc := 37) hx hb dX1_placeOf_37 (by decide) ?_
        exact W.iret (pc := 38) (v := (-1)) hx hb hr (fun t ht hW => ⟨_, rfl, (Option.some.inj hf), ht⟩) (fun _ h => nomatch h) dX1_placeOf_38
      · replace hf := z_in c_7 hf
        refine lv_iload_n (pc := 10) hx hb dX1_placeOf_10 rfl (lv_at hl 2 rfl) ?_
        refine lv_aload_n (pc := 11) hx hb dX1_placeOf_11 rfl (lv_at hl 0 rfl) ?_
        refine va_get (pc := 12) (ci := 1) (C := RX1) (T := TX1) (N := 2) hx hb hts in_X1 hown hK hP 0 rfl rfl 1 (by decide) lk_fi9 (fun _ h9 => h9) rfl dX1_placeOf_12 ?_
        refine va_alen (v := 12) (pc := 15) hx hb hK hP 1 0 rfl rfl rfl dX1_placeOf_15 ?_
        refine lv_icmp_ge (pc := 16) (tgt := 37) hx hb dX1_placeOf_16 (by decide) (fun c_16 => ?_) (fun c_16 => ?_)
        · replace hf := z_ip c_16 hf
          refine lv_iconst (v := (-1)) (pc := 37) hx hb dX1_placeOf_37 (by decide) ?_
          exact W.iret (pc := 38) (v := (-1)) hx hb hr (fun t ht hW => ⟨_, rfl, (Option.some.inj hf), ht⟩) (fun _ h => nomatch h) dX1_placeOf_38
        · replace hf := z_in c_16 hf
          refine lv_aload_n (pc := 19) hx hb dX1_placeOf_19 rfl (lv_at hl 0 rfl) ?_
          refine va_get (pc := 20) (ci := 1) (C := RX1) (T := TX1) (N := 2) hx hb hts in_X1 hown hK hP 0 rfl rfl 1 (by decide) lk_fi9 (fun _ h9 => h9) rfl dX1_placeOf_20 ?_
          refine lv_iload_n (pc := 23) hx hb dX1_placeOf_23 rfl (lv_at hl 2 rfl) ?_
          obtain ⟨x24, e24, hf⟩ := z_bd hf
          refine z_iald (pc := 24) hx hb hK hP 1 0 rfl rfl e24 dX1_placeOf_24 ?_
          refine lv_iload_n (pc := 25) hx hb dX1_placeOf_25 rfl (lv_at hl 1 rfl) ?_
          refine lv_icmp_ne (pc := 26) (tgt := 31) hx hb dX1_placeOf_26 (by decide) (fun c_26 => ?_) (fun c_26 => ?_)
          · replace hf := z_in c_26 hf
            refine lv_iinc (pc := 31) (v := (u2 + 1)) (lv' := [(2, .int (u2 + 1)), (0, .ref (d 13)), (1, .int u1)]) hx hb dX1_placeOf_31 hl (k := 2) rfl rfl (by decide) rfl (fun ls hl => ?_)
            refine lv_goto (pc := 34) (tgt := 2) hx hb dX1_placeOf_34 (by decide) ?_
            exact ih u1 (u2 + 1) ls (lv_sub hl [1, 2, 0] rfl) hf
          · replace hf := z_ip c_26 hf
            refine lv_iload_n (pc := 29) hx hb dX1_placeOf_29 rfl (lv_at hl 2 rfl) ?_
            exact W.iret (pc := 30) (v := u2) hx hb hr (fun t ht hW => ⟨_, rfl, (Option.some.inj hf), ht⟩) (fun _ h => nomatch h) dX1_placeOf_30
  unfold f_X1_placeOf at hf
  refine lv_iconst (v := 0) (pc := 0) hx hb dX1_placeOf_0 (by decide) ?_
  refine lv_istore_n (pc := 1) (lv' := [(2, .int 0), (0, .ref (d 13)), (1, .int v1)]) hx hb dX1_placeOf_1 rfl hl (by decide) rfl (fun ls hl => ?_)
  exact lp_2 z_FU v1 0 ls (lv_sub hl [1, 2, 0] rfl) hf
def f_X1_append (L : z_L) (v1 : Int32) : Option z_L := (if L.1 < 0 then some L else (if 12 ≤ L.1 then some L else (z_wr L.2 L.1 12 v1).bind (fun x28 => some (z_lD (z_lC L (L.1 + 1)) x28))))
set_option maxHeartbeats 4000000 in
set_option maxRecDepth 100000 in
theorem m_X1_append (l : Launch) (X : z_X) (d : Nat → Nat) (L : z_L) (v1 : Int32) {RR : z_L} (hf : f_X1_append L v1 = some RR) : z_mV l yX1_append wsX1_append 0 0 X [.ref (d 13), .int v1] (z_wL X d L) (z_wL X d RR) := by
  intro sz
  refine Met.ofW (cc := cX1_append) (maxL := 2) (ret := none) (by decide) rfl ?_
  intro p e s m args below meth c s₁ Bd hml hv
  obtain ⟨rfl, hsz, hP, hK, hN, hD0⟩ := hv
  have hx := Bd.exec
  have hb := Bd.bytes
  have hr := Bd.returns
  have hts := atoms_spec (ws := wsX1_append) Bd.pre
  have hown : s.vm.findClass RX1 = some m.cls := findClass_of_methodNamed Bd.named
  have hlocks := Bd.notSynchronized
  have S : CallFix p m c cX1_append 2 s _ wsX1_append RX1 := ⟨hx, hb, hml, hown, hts⟩
  have lk_fi15 := hts (.fieldLink RX1 15 "HouseBells$Line" "count" "I") (List.mem_of_getElem? (i := 1) rfl)
  have lk_fi9 := hts (.fieldLink RX1 9 "HouseBells$Line" "drops" "[I") (List.mem_of_getElem? (i := 2) rfl)
  have in_X1 : ∀ w ∈ wsX10, w ∈ wsX1_append := fun _ h => (List.mem_cons_of_mem _ (List.mem_append_right _ h))
  subst hsz
  have hD := hD0.self (sz := s.heap.size)
  generalize hAe : va_A (z_wL X d L) s.heap.size = A at hD ⊢
  have hA : ∀ q : Nat, s.heap.size ≤ q → A q := fun q h => by rw [← hAe]; exact Or.inr h
  have hS : va_S A s.heap s.heap [] := va_S.rf
  have hl := lv_entry ([.ref (d 13), .int v1]) (n := 2) (Nat.le_of_ble_eq_true rfl)
  rw [lg_entry_eq]
  generalize (lg_sl ([.ref (d 13), .int v1]) ++ List.replicate (2 - (lg_sl ([.ref (d 13), .int v1])).length) Slot.unset).toArray = ls at hl ⊢
  have hl : lv_has ls 2 [(0, .ref (d 13)), (1, .int v1)] := hl
  suffices hgo : ∀ (H : Heap) (locs : List Loc), va_P X.1 vwCl (z_wL X d L) H → va_D A (z_wL X d L) → va_S A s.heap H locs → W p l e (headSpec wsX1_append (z_R 0 0)).room s m ([.ref (d 13), .int v1] : List Value).toArray below meth c H locs 0 0 (MQ below (va_Qv (fun u : va_W => u = (z_wL X d RR)) (z_Bm X A) A) ([.ref (d 13), .int v1] : List Value).toArray s 0 0 A) (F0 m 0 ls []) from hgo _ _ hP hD hS
  clear hP hD hS
  intro H locs hP hD hS
  unfold f_X1_append at hf
  refine lv_aload_n (pc := 0) hx hb dX1_append_0 rfl (lv_at hl 0 rfl) ?_
  refine va_get (pc := 1) (ci := 1) (C := RX1) (T := TX1) (N := 2) hx hb hts in_X1 hown hK hP 0 rfl rfl 0 (by decide) lk_fi15 (fun _ h9 => h9) rfl dX1_append_1 ?_
  refine lv_if_lt (pc := 4) (tgt := 39) hx hb dX1_append_4 (by decide) (fun c_4 => ?_) (fun c_4 => ?_)
  · replace hf := z_ip c_4 hf
    exact W.vret (pc := 39) hx hb hr (fun t ht hW => ⟨⟨(z_wL X d L), rfl, congrArg (fun z => (z_wL X d z)) (Option.some.inj hf), by rw [ht]; exact hP, hD⟩, hS.F ht⟩) hS.2.2 dX1_append_39
  · replace hf := z_in c_4 hf
    refine lv_aload_n (pc := 7) hx hb dX1_append_7 rfl (lv_at hl 0 rfl) ?_
    refine va_get (pc := 8) (ci := 1) (C := RX1) (T := TX1) (N := 2) hx hb hts in_X1 hown hK hP 0 rfl rfl 0 (by decide) lk_fi15 (fun _ h9 => h9) rfl dX1_append_8 ?_
    refine lv_aload_n (pc := 11) hx hb dX1_append_11 rfl (lv_at hl 0 rfl) ?_
    refine va_get (pc := 12) (ci := 1) (C := RX1) (T := TX1) (N := 2) hx hb hts in_X1 hown hK hP 0 rfl rfl 1 (by decide) lk_fi9 (fun _ h9 => h9) rfl dX1_append_12 ?_
    refine va_alen (v := 12) (pc := 15) hx hb hK hP 1 0 rfl rfl rfl dX1_append_15 ?_
    refine lv_icmp_ge (pc := 16) (tgt := 39) hx hb dX1_append_16 (by decide) (fun c_16 => ?_) (fun c_16 => ?_)
    · replace hf := z_ip c_16 hf
      exact W.vret (pc := 39) hx hb hr (fun t ht hW => ⟨⟨(z_wL X d L), rfl, congrArg (fun z => (z_wL X d z)) (Option.some.inj hf), by rw [ht]; exact hP, hD⟩, hS.F ht⟩) hS.2.2 dX1_append_39
    · replace hf := z_in c_16 hf
      refine lv_aload_n (pc := 19) hx hb dX1_append_19 rfl (lv_at hl 0 rfl) ?_
      refine va_get (pc := 20) (ci := 1) (C := RX1) (T := TX1) (N := 2) hx hb hts in_X1 hown hK hP 0 rfl rfl 1 (by decide) lk_fi9 (fun _ h9 => h9) rfl dX1_append_20 ?_
      refine lv_aload_n (pc := 23) hx hb dX1_append_23 rfl (lv_at hl 0 rfl) ?_
      refine va_get (pc := 24) (ci := 1) (C := RX1) (T := TX1) (N := 2) hx hb hts in_X1 hown hK hP 0 rfl rfl 0 (by decide) lk_fi15 (fun _ h9 => h9) rfl dX1_append_24 ?_
      refine lv_iload_n (pc := 27) hx hb dX1_append_27 rfl (lv_at hl 1 rfl) ?_
      obtain ⟨x28, e28, hf⟩ := z_bd hf
      refine z_iast (pc := 28) (W1 := (z_wL X d (z_lD L x28))) hx hb hK hP hD hS 1 0 rfl rfl e28 rfl dX1_append_28 (fun H locs hP hD hS => ?_)
      refine lv_aload_n (pc := 29) hx hb dX1_append_29 rfl (lv_at hl 0 rfl) ?_
      refine lv_dup (pc := 30) hx hb dX1_append_30 rfl ?_
      refine va_get (pc := 31) (ci := 1) (C := RX1) (T := TX1) (N := 2) hx hb hts in_X1 hown hK hP 0 rfl rfl 0 (by decide) lk_fi15 (fun _ h9 => h9) rfl dX1_append_31 ?_
      refine lv_iconst (v := 1) (pc := 34) hx hb dX1_append_34 (by decide) ?_
      refine lv_iadd (pc := 35) hx hb dX1_append_35 ?_
      refine z_put (pc := 36) (ci := 1) (C := RX1) (T := TX1) (N := 2) (W1 := (z_wL X d (z_lD (z_lC L (L.1 + 1)) x28))) hx hb hts in_X1 tyX1 tyX1_ok nmX1 hown hK hP hD hS 0 rfl rfl 0 (by decide) lk_fi15 (fun _ h9 => h9) rfl (by decide +kernel) (Nat.le_of_ble_eq_true rfl) dX1_append_36 rfl (fun H locs hP hD hS => ?_)
      exact W.vret (pc := 39) hx hb hr (fun t ht hW => ⟨⟨(z_wL X d (z_lD (z_lC L (L.1 + 1)) x28)), rfl, congrArg (fun z => (z_wL X d z)) (Option.some.inj hf), by rw [ht]; exact hP, hD⟩, hS.F ht⟩) hS.2.2 dX1_append_39
def f_X1_first (L : z_L) : Option Int32 := (if L.1 ≤ 0 then some (-1) else (if (12 : Int32) ≤ 0 then some (-1) else (z_at L.2 0 12).bind (fun x20 => some x20)))
set_option maxHeartbeats 4000000 in
set_option maxRecDepth 100000 in
theorem m_X1_first (l : Launch) (X : z_X) (d : Nat → Nat) (L : z_L) {RR : Int32} (hf : f_X1_first L = some RR) : z_pI l yX1_first wsX1_first 0 0 X [.ref (d 13)] (z_wL X d L) RR := by
  refine Met.ofW (cc := cX1_first) (maxL := 1) (ret := (some .int)) (by decide) rfl ?_
  intro p e s m args below meth c s₁ Bd hml hv
  obtain ⟨rfl, hP, hK, hN⟩ := hv
  have hx := Bd.exec
  have hb := Bd.bytes
  have hr := Bd.returns
  have hts := atoms_spec (ws := wsX1_first) Bd.pre
  have hown : s.vm.findClass RX1 = some m.cls := findClass_of_methodNamed Bd.named
  have hlocks := Bd.notSynchronized
  have S : CallFix p m c cX1_first 1 s _ wsX1_first RX1 := ⟨hx, hb, hml, hown, hts⟩
  have lk_fi15 := hts (.fieldLink RX1 15 "HouseBells$Line" "count" "I") (List.mem_of_getElem? (i := 1) rfl)
  have lk_fi9 := hts (.fieldLink RX1 9 "HouseBells$Line" "drops" "[I") (List.mem_of_getElem? (i := 2) rfl)
  have in_X1 : ∀ w ∈ wsX10, w ∈ wsX1_first := fun _ h => (List.mem_cons_of_mem _ (List.mem_append_right _ h))
  have hl := lv_entry ([.ref (d 13)]) (n := 1) (Nat.le_of_ble_eq_true rfl)
  rw [lg_entry_eq]
  generalize (lg_sl ([.ref (d 13)]) ++ List.replicate (1 - (lg_sl ([.ref (d 13)])).length) Slot.unset).toArray = ls at hl ⊢
  have hl : lv_has ls 1 [(0, .ref (d 13))] := hl
  unfold f_X1_first at hf
  refine lv_aload_n (pc := 0) hx hb dX1_first_0 rfl (lv_at hl 0 rfl) ?_
  refine va_get (pc := 1) (ci := 1) (C := RX1) (T := TX1) (N := 2) hx hb hts in_X1 hown hK hP 0 rfl rfl 0 (by decide) lk_fi15 (fun _ h9 => h9) rfl dX1_first_1 ?_
  refine lv_if_le (pc := 4) (tgt := 24) hx hb dX1_first_4 (by decide) (fun c_4 => ?_) (fun c_4 => ?_)
  · replace hf := z_ip c_4 hf
    refine lv_iconst (v := (-1)) (pc := 24) hx hb dX1_first_24 (by decide) ?_
    exact W.iret (pc := 25) (v := (-1)) hx hb hr (fun t ht hW => ⟨_, rfl, (Option.some.inj hf), ht⟩) (fun _ h => nomatch h) dX1_first_25
  · replace hf := z_in c_4 hf
    refine lv_aload_n (pc := 7) hx hb dX1_first_7 rfl (lv_at hl 0 rfl) ?_
    refine va_get (pc := 8) (ci := 1) (C := RX1) (T := TX1) (N := 2) hx hb hts in_X1 hown hK hP 0 rfl rfl 1 (by decide) lk_fi9 (fun _ h9 => h9) rfl dX1_first_8 ?_
    refine va_alen (v := 12) (pc := 11) hx hb hK hP 1 0 rfl rfl rfl dX1_first_11 ?_
    refine lv_if_le (pc := 12) (tgt := 24) hx hb dX1_first_12 (by decide) (fun c_12 => ?_) (fun c_12 => ?_)
    · replace hf := z_ip c_12 hf
      refine lv_iconst (v := (-1)) (pc := 24) hx hb dX1_first_24 (by decide) ?_
      exact W.iret (pc := 25) (v := (-1)) hx hb hr (fun t ht hW => ⟨_, rfl, (Option.some.inj hf), ht⟩) (fun _ h => nomatch h) dX1_first_25
    · replace hf := z_in c_12 hf
      refine lv_aload_n (pc := 15) hx hb dX1_first_15 rfl (lv_at hl 0 rfl) ?_
      refine va_get (pc := 16) (ci := 1) (C := RX1) (T := TX1) (N := 2) hx hb hts in_X1 hown hK hP 0 rfl rfl 1 (by decide) lk_fi9 (fun _ h9 => h9) rfl dX1_first_16 ?_
      refine lv_iconst (v := 0) (pc := 19) hx hb dX1_first_19 (by decide) ?_
      obtain ⟨x20, e20, hf⟩ := z_bd hf
      refine z_iald (pc := 20) hx hb hK hP 1 0 rfl rfl e20 dX1_first_20 ?_
      refine lv_goto (pc := 21) (tgt := 25) hx hb dX1_first_21 (by decide) ?_
      exact W.iret (pc := 25) (v := x20) hx hb hr (fun t ht hW => ⟨_, rfl, (Option.some.inj hf), ht⟩) (fun _ h => nomatch h) dX1_first_25
def f_X1_remove_L4  : Nat → Int32 → Int32 → Int32 → z_L → Option (Int32 × z_L)
  | 0, _, _, _, _ => none
  | n + 1, u1, u2, u3, L => (if L.1 ≤ u3 then some (u2, L) else (if 12 ≤ u3 then some (u2, L) else (z_at L.2 u3 12).bind (fun x26 => (if x26 = u1 then f_X1_remove_L4 n u1 u2 (u3 + 1) L else (if 12 ≤ u2 then f_X1_remove_L4 n u1 u2 (u3 + 1) L else (z_at L.2 u3 12).bind (fun x50 => (z_wr L.2 u2 12 x50).bind (fun x51 => f_X1_remove_L4 n u1 (u2 + 1) (u3 + 1) (z_lD L x51))))))))
def f_X1_remove (L : z_L) (v1 : Int32) : Option z_L := (f_X1_remove_L4 z_FU v1 0 0 L).bind (fun x4 => some (z_lC x4.2 x4.1))
set_option maxHeartbeats 4000000 in
set_option maxRecDepth 100000 in
theorem m_X1_remove (l : Launch) (X : z_X) (d : Nat → Nat) (L : z_L) (v1 : Int32) {RR : z_L} (hf : f_X1_remove L v1 = some RR) : z_mV l yX1_remove wsX1_remove 0 0 X [.ref (d 13), .int v1] (z_wL X d L) (z_wL X d RR) := by
  intro sz
  refine Met.ofW (cc := cX1_remove) (maxL := 4) (ret := none) (by decide) rfl ?_
  intro p e s m args below meth c s₁ Bd hml hv
  obtain ⟨rfl, hsz, hP, hK, hN, hD0⟩ := hv
  have hx := Bd.exec
  have hb := Bd.bytes
  have hr := Bd.returns
  have hts := atoms_spec (ws := wsX1_remove) Bd.pre
  have hown : s.vm.findClass RX1 = some m.cls := findClass_of_methodNamed Bd.named
  have hlocks := Bd.notSynchronized
  have S : CallFix p m c cX1_remove 4 s _ wsX1_remove RX1 := ⟨hx, hb, hml, hown, hts⟩
  have lk_fi15 := hts (.fieldLink RX1 15 "HouseBells$Line" "count" "I") (List.mem_of_getElem? (i := 1) rfl)
  have lk_fi9 := hts (.fieldLink RX1 9 "HouseBells$Line" "drops" "[I") (List.mem_of_getElem? (i := 2) rfl)
  have in_X1 : ∀ w ∈ wsX10, w ∈ wsX1_remove := fun _ h => (List.mem_cons_of_mem _ (List.mem_append_right _ h))
  subst hsz
  have hD := hD0.self (sz := s.heap.size)
  generalize hAe : va_A (z_wL X d L) s.heap.size = A at hD ⊢
  have hA : ∀ q : Nat, s.heap.size ≤ q → A q := fun q h => by rw [← hAe]; exact Or.inr h
  have hS : va_S A s.heap s.heap [] := va_S.rf
  have hl := lv_entry ([.ref (d 13), .int v1]) (n := 4) (Nat.le_of_ble_eq_true rfl)
  rw [lg_entry_eq]
  generalize (lg_sl ([.ref (d 13), .int v1]) ++ List.replicate (4 - (lg_sl ([.ref (d 13), .int v1])).length) Slot.unset).toArray = ls at hl ⊢
  have hl : lv_has ls 4 [(0, .ref (d 13)), (1, .int v1)] := hl
  have lp_4 : ∀ (n : Nat) (u1 : Int32) (u2 : Int32) (u3 : Int32) (L : z_L) (T : (Int32 × z_L)) (H : Heap) (locs : List Loc), va_P X.1 vwCl (z_wL X d L) H → va_D A (z_wL X d L) → va_S A s.heap H locs → ∀ (ls : Array Slot), lv_has ls 4 [(0, .ref (d 13)), (1, .int u1), (2, .int u2), (3, .int u3)] → f_X1_remove_L4 n u1 u2 u3 L = some T → (∀ (H : Heap) (locs : List Loc), va_P X.1 vwCl (z_wL X d T.2) H → va_D A (z_wL X d T.2) → va_S A s.heap H locs → ∀ (ls : Array Slot), lv_has ls 4 [(0, .ref (d 13)), (2, .int T.1)] → W p l e (headSpec wsX1_remove (z_R 0 0)).room s m ([.ref (d 13), .int v1] : List Value).toArray below meth c H locs 0 0 (MQ below (va_Qv (fun u : va_W => u = (z_wL X d RR)) (z_Bm X A) A) ([.ref (d 13), .int v1] : List Value).toArray s 0 0 A) (F0 m 61 ls [])) → W p l e (headSpec wsX1_remove (z_R 0 0)).room s m ([.ref (d 13), .int v1] : List Value).toArray below meth c H locs 0 0 (MQ below (va_Qv (fun u : va_W => u = (z_wL X d RR)) (z_Bm X A) A) ([.ref (d 13), .int v1] : List Value).toArray s 0 0 A) (F0 m 4 ls []) := by
    intro n
    induction n with
    | zero =>
      intro u1 u2 u3 L T H locs hP hD hS ls hl hf kk
      cases hf
    | succ n ih =>
      intro u1 u2 u3 L T H locs hP hD hS ls hl hf kk
      rw [f_X1_remove_L4] at hf
      refine lv_iload_n (pc := 4) hx hb dX1_remove_4 rfl (lv_at hl 3 rfl) ?_
      refine lv_aload_n (pc := 5) hx hb dX1_remove_5 rfl (lv_at hl 0 rfl) ?_
      refine va_get (pc := 6) (ci := 1) (C := RX1) (T := TX1) (N := 2) hx hb hts in_X1 hown hK hP 0 rfl rfl 0 (by decide) lk_fi15 (fun _ h9 => h9) rfl dX1_remove_6 ?_
      refine lv_icmp_ge (pc := 9) (tgt := 61) hx hb dX1_remove_9 (by decide) (fun c_9 => ?_) (fun c_9 => ?_)
      · replace hf := z_ip c_9 hf
        obtain rfl := Option.some.inj hf
        exact kk H locs hP hD hS ls (lv_sub hl [0, 2] rfl)
      · replace hf := z_in c_9 hf
        refine lv_iload_n (pc := 12) hx hb dX1_remove_12 rfl (lv_at hl 3 rfl) ?_
        refine lv_aload_n (pc := 13) hx hb dX1_remove_13 rfl (lv_at hl 0 rfl) ?_
        refine va_get (pc := 14) (ci := 1) (C := RX1) (T := TX1) (N := 2) hx hb hts in_X1 hown hK hP 0 rfl rfl 1 (by decide) lk_fi9 (fun _ h9 => h9) rfl dX1_remove_14 ?_
        refine va_alen (v := 12) (pc := 17) hx hb hK hP 1 0 rfl rfl rfl dX1_remove_17 ?_
        refine lv_icmp_ge (pc := 18) (tgt := 61) hx hb dX1_remove_18 (by decide) (fun c_18 => ?_) (fun c_18 => ?_)
        · replace hf := z_ip c_18 hf
          obtain rfl := Option.some.inj hf
          exact kk H locs hP hD hS ls (lv_sub hl [0, 2] rfl)
        · replace hf := z_in c_18 hf
          refine lv_aload_n (pc := 21) hx hb dX1_remove_21 rfl (lv_at hl 0 rfl) ?_
          refine va_get (pc := 22) (ci := 1) (C := RX1) (T := TX1) (N := 2) hx hb hts in_X1 hown hK hP 0 rfl rfl 1 (by decide) lk_fi9 (fun _ h9 => h9) rfl dX1_remove_22 ?_
          refine lv_iload_n (pc := 25) hx hb dX1_remove_25 rfl (lv_at hl 3 rfl) ?_
          obtain ⟨x26, e26, hf⟩ := z_bd hf
          refine z_iald (pc := 26) hx hb hK hP 1 0 rfl rfl e26 dX1_remove_26 ?_
          refine lv_iload_n (pc := 27) hx hb dX1_remove_27 rfl (lv_at hl 1 rfl) ?_
          refine lv_icmp_eq (pc := 28) (tgt := 55) hx hb dX1_remove_28 (by decide) (fun c_28 => ?_) (fun c_28 => ?_)
          · replace hf := z_ip c_28 hf
            refine lv_iinc (pc := 55) (v := (u3 + 1)) (lv' := [(3, .int (u3 + 1)), (0, .ref (d 13)), (1, .int u1), (2, .int u2)]) hx hb dX1_remove_55 hl (k := 3) rfl rfl (by decide) rfl (fun ls hl => ?_)
            refine lv_goto (pc := 58) (tgt := 4) hx hb dX1_remove_58 (by decide) ?_
            exact ih u1 u2 (u3 + 1) L T H locs hP hD hS ls (lv_sub hl [1, 2, 3, 0] rfl) hf kk
          · replace hf := z_in c_28 hf
            refine lv_iload_n (pc := 31) hx hb dX1_remove_31 rfl (lv_at hl 2 rfl) ?_
            refine lv_aload_n (pc := 32) hx hb dX1_remove_32 rfl (lv_at hl 0 rfl) ?_
            refine va_get (pc := 33) (ci := 1) (C := RX1) (T := TX1) (N := 2) hx hb hts in_X1 hown hK hP 0 rfl rfl 1 (by decide) lk_fi9 (fun _ h9 => h9) rfl dX1_remove_33 ?_
            refine va_alen (v := 12) (pc := 36) hx hb hK hP 1 0 rfl rfl rfl dX1_remove_36 ?_
            refine lv_icmp_ge (pc := 37) (tgt := 55) hx hb dX1_remove_37 (by decide) (fun c_37 => ?_) (fun c_37 => ?_)
            · replace hf := z_ip c_37 hf
              refine lv_iinc (pc := 55) (v := (u3 + 1)) (lv' := [(3, .int (u3 + 1)), (0, .ref (d 13)), (1, .int u1), (2, .int u2)]) hx hb dX1_remove_55 hl (k := 3) rfl rfl (by decide) rfl (fun ls hl => ?_)
              refine lv_goto (pc := 58) (tgt := 4) hx hb dX1_remove_58 (by decide) ?_
              exact ih u1 u2 (u3 + 1) L T H locs hP hD hS ls (lv_sub hl [1, 2, 3, 0] rfl) hf kk
            · replace hf := z_in c_37 hf
              refine lv_aload_n (pc := 40) hx hb dX1_remove_40 rfl (lv_at hl 0 rfl) ?_
              refine va_get (pc := 41) (ci := 1) (C := RX1) (T := TX1) (N := 2) hx hb hts in_X1 hown hK hP 0 rfl rfl 1 (by decide) lk_fi9 (fun _ h9 => h9) rfl dX1_remove_41 ?_
              refine lv_iload_n (pc := 44) hx hb dX1_remove_44 rfl (lv_at hl 2 rfl) ?_
              refine lv_aload_n (pc := 45) hx hb dX1_remove_45 rfl (lv_at hl 0 rfl) ?_
              refine va_get (pc := 46) (ci := 1) (C := RX1) (T := TX1) (N := 2) hx hb hts in_X1 hown hK hP 0 rfl rfl 1 (by decide) lk_fi9 (fun _ h9 => h9) rfl dX1_remove_46 ?_
              refine lv_iload_n (pc := 49) hx hb dX1_remove_49 rfl (lv_at hl 3 rfl) ?_
              obtain ⟨x50, e50, hf⟩ := z_bd hf
              refine z_iald (pc := 50) hx hb hK hP 1 0 rfl rfl e50 dX1_remove_50 ?_
              obtain ⟨x51, e51, hf⟩ := z_bd hf
              refine z_iast (pc := 51) (W1 := (z_wL X d (z_lD L x51))) hx hb hK hP hD hS 1 0 rfl rfl e51 rfl dX1_remove_51 (fun H locs hP hD hS => ?_)
              refine lv_iinc (pc := 52) (v := (u2 + 1)) (lv' := [(2, .int (u2 + 1)), (0, .ref (d 13)), (1, .int u1), (3, .int u3)]) hx hb dX1_remove_52 hl (k := 2) rfl rfl (by decide) rfl (fun ls hl => ?_)
              refine lv_iinc (pc := 55) (v := (u3 + 1)) (lv' := [(3, .int (u3 + 1)), (2, .int (u2 + 1)), (0, .ref (d 13)), (1, .int u1)]) hx hb dX1_remove_55 hl (k := 3) rfl rfl (by decide) rfl (fun ls hl => ?_)
              refine lv_goto (pc := 58) (tgt := 4) hx hb dX1_remove_58 (by decide) ?_
              exact ih u1 (u2 + 1) (u3 + 1) (z_lD L x51) T H locs hP hD hS ls (lv_sub hl [2, 3, 1, 0] rfl) hf kk
  suffices hgo : ∀ (H : Heap) (locs : List Loc), va_P X.1 vwCl (z_wL X d L) H → va_D A (z_wL X d L) → va_S A s.heap H locs → W p l e (headSpec wsX1_remove (z_R 0 0)).room s m ([.ref (d 13), .int v1] : List Value).toArray below meth c H locs 0 0 (MQ below (va_Qv (fun u : va_W => u = (z_wL X d RR)) (z_Bm X A) A) ([.ref (d 13), .int v1] : List Value).toArray s 0 0 A) (F0 m 0 ls []) from hgo _ _ hP hD hS
  clear hP hD hS
  intro H locs hP hD hS
  unfold f_X1_remove at hf
  refine lv_iconst (v := 0) (pc := 0) hx hb dX1_remove_0 (by decide) ?_
  refine lv_istore_n (pc := 1) (lv' := [(2, .int 0), (0, .ref (d 13)), (1, .int v1)]) hx hb dX1_remove_1 rfl hl (by decide) rfl (fun ls hl => ?_)
  refine lv_iconst (v := 0) (pc := 2) hx hb dX1_remove_2 (by decide) ?_
  refine lv_istore_n (pc := 3) (lv' := [(3, .int 0), (2, .int 0), (0, .ref (d 13)), (1, .int v1)]) hx hb dX1_remove_3 rfl hl (by decide) rfl (fun ls hl => ?_)
  obtain ⟨x4, e4, hf⟩ := z_bd hf
  refine lp_4 z_FU v1 0 0 L x4 H locs hP hD hS ls (lv_sub hl [2, 3, 1, 0] rfl) e4 (fun H locs hP hD hS ls hl => ?_)
  refine lv_aload_n (pc := 61) hx hb dX1_remove_61 rfl (lv_at hl 0 rfl) ?_
  refine lv_iload_n (pc := 62) hx hb dX1_remove_62 rfl (lv_at hl 1 rfl) ?_
  refine z_put (pc := 63) (ci := 1) (C := RX1) (T := TX1) (N := 2) (W1 := (z_wL X d (z_lC x4.2 x4.1))) hx hb hts in_X1 tyX1 tyX1_ok nmX1 hown hK hP hD hS 0 rfl rfl 0 (by decide) lk_fi15 (fun _ h9 => h9) rfl (by decide +kernel) (Nat.le_of_ble_eq_true rfl) dX1_remove_63 rfl (fun H locs hP hD hS => ?_)
  exact W.vret (pc := 66) hx hb hr (fun t ht hW => ⟨⟨(z_wL X d (z_lC x4.2 x4.1)), rfl, congrArg (fun z => (z_wL X d z)) (Option.some.inj hf), by rw [ht]; exact hP, hD⟩, hS.F ht⟩) hS.2.2 dX1_remove_66
