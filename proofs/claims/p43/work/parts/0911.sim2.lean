theorem hdX5_up : yX5_up.cls = RX5 ∧ yX5_up.cls ≠ "java/lang/invoke/MethodHandle" ∧ yX5_up.cls ≠ "java/lang/invoke/VarHandle" ∧ (parseMethodDescriptor yX5_up.desc).map (fun d => d.parameters.length) = some 1 := by decide +kernel
def f_X5_up_L26 : Nat → Int32 → Int32 → Int32 → Int32 → z_Q → Nat → (Nat → Int32) → Option (Nat → Int32)
  | 0, _, _, _, _, _, _, _ => none
  | n + 1, u1, u3, u5, u6, Q, N0, g0 => (if u5 ≤ u6 then some g0 else (z_at Q.2.2.2.2 u6 Q.2.2.2.1).bind (fun x37 => ((if x37 = u1 then some (u3, g0) else (z_wr g0 u3 N0 x37).bind (fun x53 => some ((u3 + 1), x53)))).bind (fun (y43 : Int32 × (Nat → Int32)) => f_X5_up_L26 n u1 y43.1 u5 (u6 + 1) Q N0 y43.2)))
def f_X5_up (Q : z_Q) (v1 : Int32) : Option z_Q := (z_ln ((nI Q.2.2.2.1) - 1)).bind (fun n7 => (f_X5_up_L26 z_F14 v1 0 (nI Q.2.2.2.1) 0 Q n7 (fun _ => 0)).bind (fun x26 => some (z_qL Q n7 x26)))
set_option maxHeartbeats 4000000 in
set_option maxRecDepth 100000 in
theorem m_X5_up (l : Launch) (X : z_X) (a : Nat) (D : z_D) (Q : z_Q) (v1 : Int32) {RR : z_Q} (hf : f_X5_up Q v1 = some RR) : z_kV l yX5_up wsX5_up 0 0 1 13 X [.ref a, .int v1] (z_wS X a D Q) (fun (u : va_W) => ∃ D1 : z_D, u = z_wS X a D1 RR) := by
  intro sz
  refine Met.ofW (cc := cX5_up) (maxL := 8) (ret := none) (by decide) rfl ?_
  intro p e s m args below meth c s₁ Bd hml hv
  obtain ⟨rfl, ⟨hsz, hP, hK, hN, hD0⟩, hA2⟩ := hv
  have hx := Bd.exec
  have hb := Bd.bytes
  have hr := Bd.returns
  have hts := atoms_spec (ws := wsX5_up) Bd.pre
  have hown : s.vm.findClass RX5 = some m.cls := findClass_of_methodNamed Bd.named
  have hlocks := Bd.notSynchronized
  have S : CallFix p m c cX5_up 8 s _ wsX5_up RX5 := ⟨hx, hb, hml, hown, hts⟩
  have lk_fi18 := hts (.fieldLink RX5 18 "HouseBellsLaw$Sim" "line" "[I") (List.mem_of_getElem? (i := 1) rfl)
  have in_X5 : ∀ w ∈ wsX50, w ∈ wsX5_up := fun _ h => (List.mem_cons_of_mem _ (List.mem_append_right _ h))
  subst hsz
  have hD := hD0.self (sz := s.heap.size)
  generalize hAe : va_A (z_wS X a D Q) s.heap.size = A at hD ⊢
  have hA : ∀ q : Nat, s.heap.size ≤ q → A q := fun q h => by rw [← hAe]; exact Or.inr h
  have hS : va_S A s.heap s.heap [] := va_S.rf
  have hD : va_D A (z_W [] X a D Q []) := by unfold z_W; rw [List.append_nil]; exact hD
  have hP : va_P X.1 vwCl (z_W [] X a D Q []) s.heap := by unfold z_W; rw [List.append_nil]; exact hP
  have hl := lv_entry ([.ref a, .int v1]) (n := 8) (Nat.le_of_ble_eq_true rfl)
  rw [lg_entry_eq]
  generalize (lg_sl ([.ref a, .int v1]) ++ List.replicate (8 - (lg_sl ([.ref a, .int v1])).length) Slot.unset).toArray = ls at hl ⊢
  have hl : lv_has ls 8 [(0, .ref a), (1, .int v1)] := hl
  have lp_26 : ∀ (n : Nat) (kc ks : Nat) (hk : kc ≤ 1 ∧ ks ≤ 13) (D : z_D) (qe0 : Nat) (u1 : Int32) (u3 : Int32) (u5 : Int32) (u6 : Int32) (Q : z_Q) (N0 : Nat) (g0 : (Nat → Int32)) (T : (Nat → Int32)) (H : Heap) (locs : List Loc), va_P X.1 vwCl (z_W [] X a D Q [(qe0, .inl (X.2.1, N0, .inl g0))]) H → va_D A (z_W [] X a D Q [(qe0, .inl (X.2.1, N0, .inl g0))]) → va_S A s.heap H locs → ∀ (ls : Array Slot), lv_has ls 8 [(0, .ref a), (1, .int u1), (2, .ref qe0), (3, .int u3), (4, .ref D.1.2.2), (5, .int u5), (6, .int u6)] → f_X5_up_L26 n u1 u3 u5 u6 Q N0 g0 = some T → (∀ (H : Heap) (locs : List Loc), va_P X.1 vwCl (z_W [] X a D Q [(qe0, .inl (X.2.1, N0, .inl T))]) H → va_D A (z_W [] X a D Q [(qe0, .inl (X.2.1, N0, .inl T))]) → va_S A s.heap H locs → ∀ (ls : Array Slot), lv_has ls 8 [(0, .ref a), (2, .ref qe0)] → W p l e (headSpec wsX5_up (z_R2 0 0 1 13)).room s m ([.ref a, .int v1] : List Value).toArray below meth c H locs kc ks (MQ below (va_Qv (fun (u : va_W) => ∃ D1 : z_D, u = z_wS X a D1 RR) (z_Bm X A) A) ([.ref a, .int v1] : List Value).toArray s 1 13 A) (F0 m 63 ls [])) → W p l e (headSpec wsX5_up (z_R2 0 0 1 13)).room s m ([.ref a, .int v1] : List Value).toArray below meth c H locs kc ks (MQ below (va_Qv (fun (u : va_W) => ∃ D1 : z_D, u = z_wS X a D1 RR) (z_Bm X A) A) ([.ref a, .int v1] : List Value).toArray s 1 13 A) (F0 m 26 ls []) := by
    intro n
    induction n with
    | zero =>
      intro kc ks hk D qe0 u1 u3 u5 u6 Q N0 g0 T H locs hP hD hS ls hl hf kk
      cases hf
    | succ n ih =>
      intro kc ks hk D qe0 u1 u3 u5 u6 Q N0 g0 T H locs hP hD hS ls hl hf kk
      rw [f_X5_up_L26] at hf
      refine lv_iload (pc := 26) hx hb dX5_up_26 (lv_at hl 6 rfl) ?_
      refine lv_iload (pc := 28) hx hb dX5_up_28 (lv_at hl 5 rfl) ?_
      refine lv_icmp_ge (pc := 30) (tgt := 63) hx hb dX5_up_30 (by decide) (fun c_30 => ?_) (fun c_30 => ?_)
      · replace hf := z_ip c_30 hf
        obtain rfl := Option.some.inj hf
        exact kk H locs hP hD hS ls (lv_sub hl [0, 2] rfl)
      · replace hf := z_in c_30 hf
        refine lv_aload (pc := 33) hx hb dX5_up_33 (lv_at hl 4 rfl) ?_
        refine lv_iload (pc := 35) hx hb dX5_up_35 (lv_at hl 6 rfl) ?_
        obtain ⟨x37, e37, hf⟩ := z_bd hf
        refine z_iald (pc := 37) hx hb hK hP _ 0 zg_3 rfl e37 dX5_up_37 ?_
        refine lv_istore (pc := 38) (lv' := [(7, .int x37), (0, .ref a), (1, .int u1), (2, .ref qe0), (3, .int u3), (4, .ref D.1.2.2), (5, .int u5), (6, .int u6)]) hx hb dX5_up_38 hl (by decide) rfl (fun ls hl => ?_)
        refine lv_iload (pc := 40) hx hb dX5_up_40 (lv_at hl 0 rfl) ?_
        refine lv_iload_n (pc := 42) hx hb dX5_up_42 rfl (lv_at hl 2 rfl) ?_
        obtain ⟨y43, ey43, hf⟩ := z_bd hf
        suffices jp_43 : ∀ (H : Heap) (locs : List Loc) (_ : va_P X.1 vwCl (z_W [] X a D Q [(qe0, .inl (X.2.1, N0, .inl y43.2))]) H) (_ : va_D A (z_W [] X a D Q [(qe0, .inl (X.2.1, N0, .inl y43.2))])) (_ : va_S A s.heap H locs) (ls : Array Slot) (_ : lv_has ls 8 [(0, .ref a), (1, .int u1), (2, .ref qe0), (3, .int y43.1), (4, .ref D.1.2.2), (5, .int u5), (6, .int u6)]), W p l e (headSpec wsX5_up (z_R2 0 0 1 13)).room s m ([.ref a, .int v1] : List Value).toArray below meth c H locs kc ks (MQ below (va_Qv (fun (u : va_W) => ∃ D1 : z_D, u = z_wS X a D1 RR) (z_Bm X A) A) ([.ref a, .int v1] : List Value).toArray s 1 13 A) (F0 m 57 ls []) by
          have hf := ey43
          refine lv_icmp_ne (pc := 43) (tgt := 49) hx hb dX5_up_43 (by decide) (fun c_43 => ?_) (fun c_43 => ?_)
          · replace hf := z_in c_43 hf
            refine lv_aload_n (pc := 49) hx hb dX5_up_49 rfl (lv_at hl 3 rfl) ?_
            refine lv_iload_n (pc := 50) hx hb dX5_up_50 rfl (lv_at hl 4 rfl) ?_
            refine lv_iload (pc := 51) hx hb dX5_up_51 (lv_at hl 0 rfl) ?_
            obtain ⟨x53, e53, hf⟩ := z_bd hf
            refine z_iast (pc := 53) (W1 := (z_W [] X a D Q [(qe0, .inl (X.2.1, N0, .inl x53))])) hx hb hK hP hD hS _ 0 ((zg_e 0).trans rfl) rfl e53 (zs_e (i := 0)) dX5_up_53 (fun H locs hP hD hS => ?_)
            refine lv_iinc (pc := 54) (v := (u3 + 1)) (lv' := [(3, .int (u3 + 1)), (7, .int x37), (0, .ref a), (1, .int u1), (2, .ref qe0), (4, .ref D.1.2.2), (5, .int u5), (6, .int u6)]) hx hb dX5_up_54 hl (k := 4) rfl rfl (by decide) rfl (fun ls hl => ?_)
            obtain rfl := Option.some.inj hf
            exact jp_43 H locs hP hD hS ls (lv_sub hl [2, 3, 4, 0, 5, 6, 7] rfl)
          · replace hf := z_ip c_43 hf
            refine lv_goto (pc := 46) (tgt := 57) hx hb dX5_up_46 (by decide) ?_
            obtain rfl := Option.some.inj hf
            exact jp_43 H locs hP hD hS ls (lv_sub hl [1, 2, 3, 4, 5, 6, 7] rfl)
        intro H locs hP hD hS ls hl
        refine lv_iinc (pc := 57) (v := (u6 + 1)) (lv' := [(6, .int (u6 + 1)), (0, .ref a), (1, .int u1), (2, .ref qe0), (3, .int y43.1), (4, .ref D.1.2.2), (5, .int u5)]) hx hb dX5_up_57 hl (k := 6) rfl rfl (by decide) rfl (fun ls hl => ?_)
        refine lv_goto (pc := 60) (tgt := 26) hx hb dX5_up_60 (by decide) ?_
        exact ih kc ks (by omega) D qe0 u1 y43.1 u5 (u6 + 1) Q N0 y43.2 T H locs hP hD hS ls (lv_sub hl [1, 2, 3, 4, 5, 6, 0] rfl) hf kk
  suffices hgo : ∀ (H : Heap) (locs : List Loc), va_P X.1 vwCl (z_W [] X a D Q []) H → va_D A (z_W [] X a D Q []) → va_S A s.heap H locs → W p l e (headSpec wsX5_up (z_R2 0 0 1 13)).room s m ([.ref a, .int v1] : List Value).toArray below meth c H locs 0 0 (MQ below (va_Qv (fun (u : va_W) => ∃ D1 : z_D, u = z_wS X a D1 RR) (z_Bm X A) A) ([.ref a, .int v1] : List Value).toArray s 1 13 A) (F0 m 0 ls []) from hgo _ _ hP hD hS
  clear hP hD hS
  intro H locs hP hD hS
  unfold f_X5_up at hf
  refine lv_aload_n (pc := 0) hx hb dX5_up_0 rfl (lv_at hl 0 rfl) ?_
  refine va_get (pc := 1) (ci := 5) (C := RX5) (T := TX5) (N := 9) (v := .ref D.1.2.2) hx hb hts in_X5 hown hK hP _ zg_0 rfl 2 (by decide) lk_fi18 (fun _ h9 => h9) rfl dX5_up_1 ?_
  refine va_alen (v := (nI Q.2.2.2.1)) (pc := 4) hx hb hK hP _ 0 zg_3 rfl rfl dX5_up_4 ?_
  refine lv_iconst (v := 1) (pc := 5) hx hb dX5_up_5 (by decide) ?_
  refine lv_isub (pc := 6) hx hb dX5_up_6 ?_
  obtain ⟨n7, e7, hf⟩ := z_bd hf
  refine z_newV (pc := 7) hx hb (hts (.arrayClass .int) (List.mem_of_getElem? (i := 2) rfl)) hK hP hD hS hA 0 rfl e7 (show 0 + 1 ≤ 1 from by omega) (show 0 + 13 ≤ 13 from by omega) dX5_up_7 (fun q7 H hP hD hS => ?_)
  have hP : va_P X.1 vwCl (z_W [] X a D Q [(q7, .inl (X.2.1, n7, .inl (fun _ => 0)))]) H := by rw [z_ext] at hP; exact hP
  have hD : va_D A (z_W [] X a D Q [(q7, .inl (X.2.1, n7, .inl (fun _ => 0)))]) := by rw [z_ext] at hD; exact hD
  refine lv_astore_n (pc := 9) (lv' := [(2, .ref q7), (0, .ref a), (1, .int v1)]) hx hb dX5_up_9 rfl hl (by decide) rfl (fun ls hl => ?_)
  refine lv_iconst (v := 0) (pc := 10) hx hb dX5_up_10 (by decide) ?_
  refine lv_istore_n (pc := 11) (lv' := [(3, .int 0), (2, .ref q7), (0, .ref a), (1, .int v1)]) hx hb dX5_up_11 rfl hl (by decide) rfl (fun ls hl => ?_)
  refine lv_aload_n (pc := 12) hx hb dX5_up_12 rfl (lv_at hl 2 rfl) ?_
  refine va_get (pc := 13) (ci := 5) (C := RX5) (T := TX5) (N := 9) (v := .ref D.1.2.2) hx hb hts in_X5 hown hK hP _ zg_0 rfl 2 (by decide) lk_fi18 (fun _ h9 => h9) rfl dX5_up_13 ?_
  refine lv_astore (pc := 16) (lv' := [(4, .ref D.1.2.2), (3, .int 0), (2, .ref q7), (0, .ref a), (1, .int v1)]) hx hb dX5_up_16 hl (by decide) rfl (fun ls hl => ?_)
  refine lv_aload (pc := 18) hx hb dX5_up_18 (lv_at hl 0 rfl) ?_
  refine va_alen (v := (nI Q.2.2.2.1)) (pc := 20) hx hb hK hP _ 0 zg_3 rfl rfl dX5_up_20 ?_
  refine lv_istore (pc := 21) (lv' := [(5, .int (nI Q.2.2.2.1)), (4, .ref D.1.2.2), (3, .int 0), (2, .ref q7), (0, .ref a), (1, .int v1)]) hx hb dX5_up_21 hl (by decide) rfl (fun ls hl => ?_)
  refine lv_iconst (v := 0) (pc := 23) hx hb dX5_up_23 (by decide) ?_
  refine lv_istore (pc := 24) (lv' := [(6, .int 0), (5, .int (nI Q.2.2.2.1)), (4, .ref D.1.2.2), (3, .int 0), (2, .ref q7), (0, .ref a), (1, .int v1)]) hx hb dX5_up_24 hl (by decide) rfl (fun ls hl => ?_)
  obtain ⟨x26, e26, hf⟩ := z_bd hf
  refine lp_26 z_F14 (0 + 1) (0 + 13) (by omega) D q7 v1 0 (nI Q.2.2.2.1) 0 Q n7 (fun _ => 0) x26 H locs hP hD hS ls (lv_sub hl [5, 6, 4, 3, 2, 1, 0] rfl) e26 (fun H locs hP hD hS ls hl => ?_)
  refine lv_aload_n (pc := 63) hx hb dX5_up_63 rfl (lv_at hl 0 rfl) ?_
  refine lv_aload_n (pc := 64) hx hb dX5_up_64 rfl (lv_at hl 1 rfl) ?_
  refine va_put (pc := 65) (ci := 5) (C := RX5) (T := TX5) (N := 9) (v := .ref q7) (ty := tyX5 2) hx hb hts in_X5 tyX5 tyX5_ok nmX5 hown hK hP hD hS _ zg_0 rfl 2 (by decide) lk_fi18 (fun _ h9 => h9) rfl (by decide +kernel) rfl rfl (Nat.le_of_ble_eq_true rfl) dX5_up_65 (fun H locs hP hD hS => ?_)
  have hP : va_P X.1 vwCl (z_W [] X a (z_dL D q7) (z_qL Q n7 x26) []) H := zs_LP hP
  have hD : va_D A (z_W [] X a (z_dL D q7) (z_qL Q n7 x26) []) := zs_LD hD
  refine W.widen (k := 1) (n := 13) (by omega) (by omega) ?_
  exact W.vret (pc := 68) hx hb hr (fun t ht hW => ⟨⟨(z_wS X a (z_dL D q7) (z_qL Q n7 x26)), rfl, ⟨(z_dL D q7), congrArg (fun z => z_wS X a (z_dL D q7) z) (Option.some.inj hf)⟩, by rw [ht]; exact z_P1 hP, z_D1 hD⟩, hS.F ht⟩) hS.2.2 dX5_up_68
theorem hdX5_rings : yX5_rings.cls = RX5 ∧ yX5_rings.cls ≠ "java/lang/invoke/MethodHandle" ∧ yX5_rings.cls ≠ "java/lang/invoke/VarHandle" ∧ (parseMethodDescriptor yX5_rings.desc).map (fun d => d.parameters.length) = some 1 := by decide +kernel
def f_X5_rings_L83 : Nat → Int32 → Int32 → z_Q → Nat → (Nat → Int32) → Option (Int32 × (Nat → Int32))
  | 0, _, _, _, _, _ => none
  | n + 1, u1, u4, Q, N0, g0 => (if (nI Q.2.2.2.1) ≤ u4 then some (u1, g0) else (z_at Q.2.2.2.2 u4 Q.2.2.2.1).bind (fun x102 => (z_wr g0 u4 N0 x102).bind (fun x103 => f_X5_rings_L83 n u1 (u4 + 1) Q N0 x103)))
def f_X5_rings (Q : z_Q) (v1 : Int32) : Option (Int32 × z_Q) := (z_ai v1 Q.2.1.1).bind (fun x5 => (if (Q.2.1.2 x5 5) = 1 then some (0, (z_qS Q 5 ((Q.1 5) + 1))) else (if ((Q.2.1.2 x5 0) + 1) ≤ (Q.1 1) then (f_X5_place (z_qS Q 1 ((Q.1 1) - ((Q.2.1.2 x5 0) + 1))) (Q.2.1.2 x5 4)).bind (fun x62 => (if x62 < 0 then (z_ln ((nI Q.2.2.2.1) + 1)).bind (fun n77 => (f_X5_rings_L83 z_F14 v1 0 (z_qS Q 1 ((Q.1 1) - ((Q.2.1.2 x5 0) + 1))) n77 (fun _ => 0)).bind (fun x83 => (z_ai x83.1 Q.2.1.1).bind (fun x121 => (z_wr x83.2 (nI Q.2.2.2.1) n77 (Q.2.1.2 x121 4)).bind (fun x124 => some (1, (z_qL (z_qS Q 1 ((Q.1 1) - ((Q.2.1.2 x5 0) + 1))) n77 x124)))))) else some (1, (z_qS Q 1 ((Q.1 1) - ((Q.2.1.2 x5 0) + 1)))))) else some (0, (z_qS Q 5 ((Q.1 5) + 1))))))
set_option maxHeartbeats 4000000 in
set_option maxRecDepth 100000 in
theorem m_X5_rings (l : Launch) (X : z_X) (a : Nat) (D : z_D) (Q : z_Q) (v1 : Int32) {RR : (Int32 × z_Q)} (hf : f_X5_rings Q v1 = some RR) : z_kI l yX5_rings wsX5_rings 1 22 1 13 X [.ref a, .int v1] (z_wS X a D Q) (fun (z : Int32) (u : va_W) => z = RR.1 ∧ ∃ D1 : z_D, u = z_wS X a D1 RR.2) := by
  intro sz
  refine Met.ofW (cc := cX5_rings) (maxL := 5) (ret := (some .boolean)) (by decide) rfl ?_
  intro p e s m args below meth c s₁ Bd hml hv
  obtain ⟨rfl, ⟨hsz, hP, hK, hN, hD0⟩, hA2⟩ := hv
  have hx := Bd.exec
  have hb := Bd.bytes
  have hr := Bd.returns
  have hts := atoms_spec (ws := wsX5_rings) Bd.pre
  have hown : s.vm.findClass RX5 = some m.cls := findClass_of_methodNamed Bd.named
  have hlocks := Bd.notSynchronized
  have S : CallFix p m c cX5_rings 5 s _ wsX5_rings RX5 := ⟨hx, hb, hml, hown, hts⟩
  have lk_fi9 := hts (.fieldLink RX5 9 "HouseBellsLaw$Sim" "rooms" "[[I") (List.mem_of_getElem? (i := 1) rfl)
  have lk_fi42 := hts (.fieldLink RX5 42 "HouseBellsLaw$Sim" "unheard" "I") (List.mem_of_getElem? (i := 3) rfl)
  have lk_fi21 := hts (.fieldLink RX5 21 "HouseBellsLaw$Sim" "charge" "I") (List.mem_of_getElem? (i := 2) rfl)
  have lk_fi18 := hts (.fieldLink RX5 18 "HouseBellsLaw$Sim" "line" "[I") (List.mem_of_getElem? (i := 4) rfl)
  have in_X5 : ∀ w ∈ wsX50, w ∈ wsX5_rings := fun _ h => (List.mem_cons_of_mem _ (List.mem_append_right _ h))
  subst hsz
  have hD := hD0.self (sz := s.heap.size)
  generalize hAe : va_A (z_wS X a D Q) s.heap.size = A at hD ⊢
  have hA : ∀ q : Nat, s.heap.size ≤ q → A q := fun q h => by rw [← hAe]; exact Or.inr h
  have hS : va_S A s.heap s.heap [] := va_S.rf
  have hD : va_D A (z_W [] X a D Q []) := by unfold z_W; rw [List.append_nil]; exact hD
  have hP : va_P X.1 vwCl (z_W [] X a D Q []) s.heap := by unfold z_W; rw [List.append_nil]; exact hP
  have hl := lv_entry ([.ref a, .int v1]) (n := 5) (Nat.le_of_ble_eq_true rfl)
  rw [lg_entry_eq]
  generalize (lg_sl ([.ref a, .int v1]) ++ List.replicate (5 - (lg_sl ([.ref a, .int v1])).length) Slot.unset).toArray = ls at hl ⊢
  have hl : lv_has ls 5 [(0, .ref a), (1, .int v1)] := hl
  have lp_83 : ∀ (n : Nat) (kc ks : Nat) (hk : kc ≤ 1 ∧ ks ≤ 13) (D : z_D) (qe0 : Nat) (u1 : Int32) (u4 : Int32) (Q : z_Q) (N0 : Nat) (g0 : (Nat → Int32)) (T : (Int32 × (Nat → Int32))) (H : Heap) (locs : List Loc), va_P X.1 vwCl (z_W [] X a D Q [(qe0, .inl (X.2.1, N0, .inl g0))]) H → va_D A (z_W [] X a D Q [(qe0, .inl (X.2.1, N0, .inl g0))]) → va_S A s.heap H locs → ∀ (ls : Array Slot), lv_has ls 5 [(0, .ref a), (1, .int u1), (3, .ref qe0), (4, .int u4)] → f_X5_rings_L83 n u1 u4 Q N0 g0 = some T → (∀ (H : Heap) (locs : List Loc), va_P X.1 vwCl (z_W [] X a D Q [(qe0, .inl (X.2.1, N0, .inl T.2))]) H → va_D A (z_W [] X a D Q [(qe0, .inl (X.2.1, N0, .inl T.2))]) → va_S A s.heap H locs → ∀ (ls : Array Slot), lv_has ls 5 [(0, .ref a), (1, .int T.1), (3, .ref qe0)] → W p l e (headSpec wsX5_rings (z_R2 1 22 1 13)).room s m ([.ref a, .int v1] : List Value).toArray below meth c H locs kc ks (MQ below (va_Qi (fun (z : Int32) (u : va_W) => z = RR.1 ∧ ∃ D1 : z_D, u = z_wS X a D1 RR.2) (z_Bm X A) A) ([.ref a, .int v1] : List Value).toArray s 1 13 A) (F0 m 110 ls [])) → W p l e (headSpec wsX5_rings (z_R2 1 22 1 13)).room s m ([.ref a, .int v1] : List Value).toArray below meth c H locs kc ks (MQ below (va_Qi (fun (z : Int32) (u : va_W) => z = RR.1 ∧ ∃ D1 : z_D, u = z_wS X a D1 RR.2) (z_Bm X A) A) ([.ref a, .int v1] : List Value).toArray s 1 13 A) (F0 m 83 ls []) := by
    intro n
    induction n with
    | zero =>
      intro kc ks hk D qe0 u1 u4 Q N0 g0 T H locs hP hD hS ls hl hf kk
      cases hf
    | succ n ih =>
      intro kc ks hk D qe0 u1 u4 Q N0 g0 T H locs hP hD hS ls hl hf kk
      rw [f_X5_rings_L83] at hf
      refine lv_iload (pc := 83) hx hb dX5_rings_83 (lv_at hl 3 rfl) ?_
      refine lv_aload_n (pc := 85) hx hb dX5_rings_85 rfl (lv_at hl 0 rfl) ?_
      refine va_get (pc := 86) (ci := 5) (C := RX5) (T := TX5) (N := 9) (v := .ref D.1.2.2) hx hb hts in_X5 hown hK hP _ zg_0 rfl 2 (by decide) lk_fi18 (fun _ h9 => h9) rfl dX5_rings_86 ?_
      refine va_alen (v := (nI Q.2.2.2.1)) (pc := 89) hx hb hK hP _ 0 zg_3 rfl rfl dX5_rings_89 ?_
      refine lv_icmp_ge (pc := 90) (tgt := 110) hx hb dX5_rings_90 (by decide) (fun c_90 => ?_) (fun c_90 => ?_)
      · replace hf := z_ip c_90 hf
        obtain rfl := Option.some.inj hf
        exact kk H locs hP hD hS ls (lv_sub hl [0, 1, 2] rfl)
      · replace hf := z_in c_90 hf
        refine lv_aload_n (pc := 93) hx hb dX5_rings_93 rfl (lv_at hl 2 rfl) ?_
        refine lv_iload (pc := 94) hx hb dX5_rings_94 (lv_at hl 3 rfl) ?_
        refine lv_aload_n (pc := 96) hx hb dX5_rings_96 rfl (lv_at hl 0 rfl) ?_
        refine va_get (pc := 97) (ci := 5) (C := RX5) (T := TX5) (N := 9) (v := .ref D.1.2.2) hx hb hts in_X5 hown hK hP _ zg_0 rfl 2 (by decide) lk_fi18 (fun _ h9 => h9) rfl dX5_rings_97 ?_
        refine lv_iload (pc := 100) hx hb dX5_rings_100 (lv_at hl 3 rfl) ?_
        obtain ⟨x102, e102, hf⟩ := z_bd hf
        refine z_iald (pc := 102) hx hb hK hP _ 0 zg_3 rfl e102 dX5_rings_102 ?_
        obtain ⟨x103, e103, hf⟩ := z_bd hf
        refine z_iast (pc := 103) (W1 := (z_W [] X a D Q [(qe0, .inl (X.2.1, N0, .inl x103))])) hx hb hK hP hD hS _ 0 ((zg_e 0).trans rfl) rfl e103 (zs_e (i := 0)) dX5_rings_103 (fun H locs hP hD hS => ?_)
        refine lv_iinc (pc := 104) (v := (u4 + 1)) (lv' := [(4, .int (u4 + 1)), (0, .ref a), (1, .int u1), (3, .ref qe0)]) hx hb dX5_rings_104 hl (k := 3) rfl rfl (by decide) rfl (fun ls hl => ?_)
        refine lv_goto (pc := 107) (tgt := 83) hx hb dX5_rings_107 (by decide) ?_
        exact ih kc ks (by omega) D qe0 u1 (u4 + 1) Q N0 x103 T H locs hP hD hS ls (lv_sub hl [1, 2, 3, 0] rfl) hf kk
  suffices hgo : ∀ (H : Heap) (locs : List Loc), va_P X.1 vwCl (z_W [] X a D Q []) H → va_D A (z_W [] X a D Q []) → va_S A s.heap H locs → W p l e (headSpec wsX5_rings (z_R2 1 22 1 13)).room s m ([.ref a, .int v1] : List Value).toArray below meth c H locs 0 0 (MQ below (va_Qi (fun (z : Int32) (u : va_W) => z = RR.1 ∧ ∃ D1 : z_D, u = z_wS X a D1 RR.2) (z_Bm X A) A) ([.ref a, .int v1] : List Value).toArray s 1 13 A) (F0 m 0 ls []) from hgo _ _ hP hD hS
  clear hP hD hS
  intro H locs hP hD hS
  unfold f_X5_rings at hf
  refine lv_aload_n (pc := 0) hx hb dX5_rings_0 rfl (lv_at hl 0 rfl) ?_
  refine va_get (pc := 1) (ci := 5) (C := RX5) (T := TX5) (N := 9) (v := .ref D.1.1) hx hb hts in_X5 hown hK hP _ zg_0 rfl 0 (by decide) lk_fi9 (fun _ h9 => h9) rfl dX5_rings_1 ?_
  refine lv_iload_n (pc := 4) hx hb dX5_rings_4 rfl (lv_at hl 1 rfl) ?_
  obtain ⟨x5, e5, hf⟩ := z_bd hf
  refine z_aald (pc := 5) hx hb hK hP _ 2 zg_1 rfl e5 dX5_rings_5 ?_
  refine lv_iconst (v := 0) (pc := 6) hx hb dX5_rings_6 (by decide) ?_
  refine z_iald (pc := 7) hx hb hK hP _ 0 (zg_r (z_ai_lt e5)) rfl (show z_at _ 0 _ = some (Q.2.1.2 x5 0) from rfl) dX5_rings_7 ?_
  refine lv_iconst (v := 1) (pc := 8) hx hb dX5_rings_8 (by decide) ?_
  refine lv_iadd (pc := 9) hx hb dX5_rings_9 ?_
  refine lv_istore_n (pc := 10) (lv' := [(2, .int ((Q.2.1.2 x5 0) + 1)), (0, .ref a), (1, .int v1)]) hx hb dX5_rings_10 rfl hl (by decide) rfl (fun ls hl => ?_)
  refine lv_aload_n (pc := 11) hx hb dX5_rings_11 rfl (lv_at hl 1 rfl) ?_
  refine va_get (pc := 12) (ci := 5) (C := RX5) (T := TX5) (N := 9) (v := .ref D.1.1) hx hb hts in_X5 hown hK hP _ zg_0 rfl 0 (by decide) lk_fi9 (fun _ h9 => h9) rfl dX5_rings_12 ?_
  refine lv_iload_n (pc := 15) hx hb dX5_rings_15 rfl (lv_at hl 2 rfl) ?_
  refine z_aald (pc := 16) hx hb hK hP _ 2 zg_1 rfl e5 dX5_rings_16 ?_
  refine lv_iconst (v := 5) (pc := 17) hx hb dX5_rings_17 (by decide) ?_
  refine z_iald (pc := 18) hx hb hK hP _ 0 (zg_r (z_ai_lt e5)) rfl (show z_at _ 5 _ = some (Q.2.1.2 x5 5) from rfl) dX5_rings_18 ?_
  refine lv_iconst (v := 1) (pc := 19) hx hb dX5_rings_19 (by decide) ?_
  refine lv_icmp_eq (pc := 20) (tgt := 31) hx hb dX5_rings_20 (by decide) (fun c_20 => ?_) (fun c_20 => ?_)
  · replace hf := z_ip c_20 hf
    refine lv_aload_n (pc := 31) hx hb dX5_rings_31 rfl (lv_at hl 1 rfl) ?_
    refine lv_dup (pc := 32) hx hb dX5_rings_32 rfl ?_
    refine va_get (pc := 33) (ci := 5) (C := RX5) (T := TX5) (N := 9) (v := .int (Q.1 5)) hx hb hts in_X5 hown hK hP _ zg_0 rfl 8 (by decide) lk_fi42 (fun _ h9 => h9) rfl dX5_rings_33 ?_
    refine lv_iconst (v := 1) (pc := 36) hx hb dX5_rings_36 (by decide) ?_
    refine lv_iadd (pc := 37) hx hb dX5_rings_37 ?_
    refine z_put (pc := 38) (ci := 5) (C := RX5) (T := TX5) (N := 9) (W1 := (z_W [] X a D (z_qS Q 5 ((Q.1 5) + 1)) [])) hx hb hts in_X5 tyX5 tyX5_ok nmX5 hown hK hP hD hS _ zg_0 rfl 8 (by decide) lk_fi42 (fun _ h9 => h9) rfl (by decide +kernel) (Nat.le_of_ble_eq_true rfl) dX5_rings_38 (zs_0 (j := 5) rfl) (fun H locs hP hD hS => ?_)
    refine lv_iconst (v := 0) (pc := 41) hx hb dX5_rings_41 (by decide) ?_
    refine W.widen (k := 1) (n := 13) (by omega) (by omega) ?_
    exact W.zret (pc := 42) (v := 0) hx hb hr rfl (fun t ht hW => ⟨⟨_, (z_wS X a D (z_qS Q 5 ((Q.1 5) + 1))), rfl, ⟨z_e1 hf, D, congrArg (fun z => z_wS X a D z) (z_e2 hf)⟩, by rw [ht]; exact z_P1 hP, z_D1 hD⟩, hS.F ht⟩) hS.2.2 dX5_rings_42
  · replace hf := z_in c_20 hf
    refine lv_aload_n (pc := 23) hx hb dX5_rings_23 rfl (lv_at hl 1 rfl) ?_
    refine va_get (pc := 24) (ci := 5) (C := RX5) (T := TX5) (N := 9) (v := .int (Q.1 1)) hx hb hts in_X5 hown hK hP _ zg_0 rfl 4 (by decide) lk_fi21 (fun _ h9 => h9) rfl dX5_rings_24 ?_
    refine lv_iload_n (pc := 27) hx hb dX5_rings_27 rfl (lv_at hl 0 rfl) ?_
    refine lv_icmp_ge (pc := 28) (tgt := 43) hx hb dX5_rings_28 (by decide) (fun c_28 => ?_) (fun c_28 => ?_)
    · replace hf := z_ip c_28 hf
      refine lv_aload_n (pc := 43) hx hb dX5_rings_43 rfl (lv_at hl 1 rfl) ?_
      refine lv_dup (pc := 44) hx hb dX5_rings_44 rfl ?_
      refine va_get (pc := 45) (ci := 5) (C := RX5) (T := TX5) (N := 9) (v := .int (Q.1 1)) hx hb hts in_X5 hown hK hP _ zg_0 rfl 4 (by decide) lk_fi21 (fun _ h9 => h9) rfl dX5_rings_45 ?_
      refine lv_iload_n (pc := 48) hx hb dX5_rings_48 rfl (lv_at hl 0 rfl) ?_
      refine lv_isub (pc := 49) hx hb dX5_rings_49 ?_
      refine z_put (pc := 50) (ci := 5) (C := RX5) (T := TX5) (N := 9) (W1 := (z_W [] X a D (z_qS Q 1 ((Q.1 1) - ((Q.2.1.2 x5 0) + 1))) [])) hx hb hts in_X5 tyX5 tyX5_ok nmX5 hown hK hP hD hS _ zg_0 rfl 4 (by decide) lk_fi21 (fun _ h9 => h9) rfl (by decide +kernel) (Nat.le_of_ble_eq_true rfl) dX5_rings_50 (zs_0 (j := 1) rfl) (fun H locs hP hD hS => ?_)
      refine lv_aload_n (pc := 53) hx hb dX5_rings_53 rfl (lv_at hl 1 rfl) ?_
      refine lv_aload_n (pc := 54) hx hb dX5_rings_54 rfl (lv_at hl 1 rfl) ?_
      refine va_get (pc := 55) (ci := 5) (C := RX5) (T := TX5) (N := 9) (v := .ref D.1.1) hx hb hts in_X5 hown hK hP _ zg_0 rfl 0 (by decide) lk_fi9 (fun _ h9 => h9) rfl dX5_rings_55 ?_
      refine lv_iload_n (pc := 58) hx hb dX5_rings_58 rfl (lv_at hl 2 rfl) ?_
      refine z_aald (pc := 59) hx hb hK hP _ 2 zg_1 rfl e5 dX5_rings_59 ?_
      refine lv_iconst (v := 4) (pc := 60) hx hb dX5_rings_60 (by decide) ?_
      refine z_iald (pc := 61) hx hb hK hP _ 0 (zg_r (z_ai_lt e5)) rfl (show z_at _ 4 _ = some (Q.2.1.2 x5 4) from rfl) dX5_rings_61 ?_
      obtain ⟨x62, e62, hf⟩ := z_bd hf
      refine z_cpI (pc := 62) S (m_X5_place l X a D (z_qS Q 1 ((Q.1 1) - ((Q.2.1.2 x5 0) + 1))) (Q.2.1.2 x5 4) e62) (cwV 1 hts gX5_rings_X5_place rfl rfl rfl hdX5_place ⟨Nat.le_of_ble_eq_true rfl, Nat.le_of_ble_eq_true rfl⟩) hP hK hN z_S_W (ci := 5) rfl rfl rfl (show 0 ≤ 1 ∧ 0 ≤ 13 from ⟨by omega, by omega⟩) rfl hl.1 rfl (Nat.le_of_ble_eq_true rfl) dX5_rings_62 ?_
      refine lv_if_lt (pc := 65) (tgt := 70) hx hb dX5_rings_65 (by decide) (fun c_65 => ?_) (fun c_65 => ?_)
      · replace hf := z_ip c_65 hf
        refine lv_aload_n (pc := 70) hx hb dX5_rings_70 rfl (lv_at hl 1 rfl) ?_
        refine va_get (pc := 71) (ci := 5) (C := RX5) (T := TX5) (N := 9) (v := .ref D.1.2.2) hx hb hts in_X5 hown hK hP _ zg_0 rfl 2 (by decide) lk_fi18 (fun _ h9 => h9) rfl dX5_rings_71 ?_
        refine va_alen (v := (nI Q.2.2.2.1)) (pc := 74) hx hb hK hP _ 0 zg_3 rfl rfl dX5_rings_74 ?_
        refine lv_iconst (v := 1) (pc := 75) hx hb dX5_rings_75 (by decide) ?_
        refine lv_iadd (pc := 76) hx hb dX5_rings_76 ?_
        obtain ⟨n77, e77, hf⟩ := z_bd hf
        refine z_newV (pc := 77) hx hb (hts (.arrayClass .int) (List.mem_of_getElem? (i := 5) rfl)) hK hP hD hS hA 0 rfl e77 (show 0 + 1 ≤ 1 from by omega) (show 0 + 13 ≤ 13 from by omega) dX5_rings_77 (fun q77 H hP hD hS => ?_)
        have hP : va_P X.1 vwCl (z_W [] X a D (z_qS Q 1 ((Q.1 1) - ((Q.2.1.2 x5 0) + 1))) [(q77, .inl (X.2.1, n77, .inl (fun _ => 0)))]) H := by rw [z_ext] at hP; exact hP
        have hD : va_D A (z_W [] X a D (z_qS Q 1 ((Q.1 1) - ((Q.2.1.2 x5 0) + 1))) [(q77, .inl (X.2.1, n77, .inl (fun _ => 0)))]) := by rw [z_ext] at hD; exact hD
        refine lv_astore_n (pc := 79) (lv' := [(3, .ref q77), (2, .int ((Q.2.1.2 x5 0) + 1)), (0, .ref a), (1, .int v1)]) hx hb dX5_rings_79 rfl hl (by decide) rfl (fun ls hl => ?_)
        refine lv_iconst (v := 0) (pc := 80) hx hb dX5_rings_80 (by decide) ?_
        refine lv_istore (pc := 81) (lv' := [(4, .int 0), (3, .ref q77), (2, .int ((Q.2.1.2 x5 0) + 1)), (0, .ref a), (1, .int v1)]) hx hb dX5_rings_81 hl (by decide) rfl (fun ls hl => ?_)
        obtain ⟨x83, e83, hf⟩ := z_bd hf
        refine lp_83 z_F14 (0 + 1) (0 + 13) (by omega) D q77 v1 0 (z_qS Q 1 ((Q.1 1) - ((Q.2.1.2 x5 0) + 1))) n77 (fun _ => 0) x83 H locs hP hD hS ls (lv_sub hl [3, 4, 1, 0] rfl) e83 (fun H locs hP hD hS ls hl => ?_)
        refine lv_aload_n (pc := 110) hx hb dX5_rings_110 rfl (lv_at hl 2 rfl) ?_
        refine lv_aload_n (pc := 111) hx hb dX5_rings_111 rfl (lv_at hl 0 rfl) ?_
        refine va_get (pc := 112) (ci := 5) (C := RX5) (T := TX5) (N := 9) (v := .ref D.1.2.2) hx hb hts in_X5 hown hK hP _ zg_0 rfl 2 (by decide) lk_fi18 (fun _ h9 => h9) rfl dX5_rings_112 ?_
        refine va_alen (v := (nI Q.2.2.2.1)) (pc := 115) hx hb hK hP _ 0 zg_3 rfl rfl dX5_rings_115 ?_
        refine lv_aload_n (pc := 116) hx hb dX5_rings_116 rfl (lv_at hl 0 rfl) ?_
        refine va_get (pc := 117) (ci := 5) (C := RX5) (T := TX5) (N := 9) (v := .ref D.1.1) hx hb hts in_X5 hown hK hP _ zg_0 rfl 0 (by decide) lk_fi9 (fun _ h9 => h9) rfl dX5_rings_117 ?_
        refine lv_iload_n (pc := 120) hx hb dX5_rings_120 rfl (lv_at hl 1 rfl) ?_
        obtain ⟨x121, e121, hf⟩ := z_bd hf
        refine z_aald (pc := 121) hx hb hK hP _ 2 zg_1 rfl e121 dX5_rings_121 ?_
        refine lv_iconst (v := 4) (pc := 122) hx hb dX5_rings_122 (by decide) ?_
        refine z_iald (pc := 123) hx hb hK hP _ 0 (zg_r (z_ai_lt e121)) rfl (show z_at _ 4 _ = some (Q.2.1.2 x121 4) from rfl) dX5_rings_123 ?_
        obtain ⟨x124, e124, hf⟩ := z_bd hf
        refine z_iast (pc := 124) (W1 := (z_W [] X a D (z_qS Q 1 ((Q.1 1) - ((Q.2.1.2 x5 0) + 1))) [(q77, .inl (X.2.1, n77, .inl x124))])) hx hb hK hP hD hS _ 0 ((zg_e 0).trans rfl) rfl e124 (zs_e (i := 0)) dX5_rings_124 (fun H locs hP hD hS => ?_)
        refine lv_aload_n (pc := 125) hx hb dX5_rings_125 rfl (lv_at hl 0 rfl) ?_
        refine lv_aload_n (pc := 126) hx hb dX5_rings_126 rfl (lv_at hl 2 rfl) ?_
        refine va_put (pc := 127) (ci := 5) (C := RX5) (T := TX5) (N := 9) (v := .ref q77) (ty := tyX5 2) hx hb hts in_X5 tyX5 tyX5_ok nmX5 hown hK hP hD hS _ zg_0 rfl 2 (by decide) lk_fi18 (fun _ h9 => h9) rfl (by decide +kernel) rfl rfl (Nat.le_of_ble_eq_true rfl) dX5_rings_127 (fun H locs hP hD hS => ?_)
        have hP : va_P X.1 vwCl (z_W [] X a (z_dL D q77) (z_qL (z_qS Q 1 ((Q.1 1) - ((Q.2.1.2 x5 0) + 1))) n77 x124) []) H := zs_LP hP
        have hD : va_D A (z_W [] X a (z_dL D q77) (z_qL (z_qS Q 1 ((Q.1 1) - ((Q.2.1.2 x5 0) + 1))) n77 x124) []) := zs_LD hD
        refine lv_iconst (v := 1) (pc := 130) hx hb dX5_rings_130 (by decide) ?_
        refine W.widen (k := 1) (n := 13) (by omega) (by omega) ?_
        exact W.zret (pc := 131) (v := 1) hx hb hr rfl (fun t ht hW => ⟨⟨_, (z_wS X a (z_dL D q77) (z_qL (z_qS Q 1 ((Q.1 1) - ((Q.2.1.2 x5 0) + 1))) n77 x124)), rfl, ⟨z_e1 hf, (z_dL D q77), congrArg (fun z => z_wS X a (z_dL D q77) z) (z_e2 hf)⟩, by rw [ht]; exact z_P1 hP, z_D1 hD⟩, hS.F ht⟩) hS.2.2 dX5_rings_131
      · replace hf := z_in c_65 hf
        refine lv_iconst (v := 1) (pc := 68) hx hb dX5_rings_68 (by decide) ?_
        refine W.widen (k := 1) (n := 13) (by omega) (by omega) ?_
        exact W.zret (pc := 69) (v := 1) hx hb hr rfl (fun t ht hW => ⟨⟨_, (z_wS X a D (z_qS Q 1 ((Q.1 1) - ((Q.2.1.2 x5 0) + 1)))), rfl, ⟨z_e1 hf, D, congrArg (fun z => z_wS X a D z) (z_e2 hf)⟩, by rw [ht]; exact z_P1 hP, z_D1 hD⟩, hS.F ht⟩) hS.2.2 dX5_rings_69
    · replace hf := z_in c_28 hf
      refine lv_aload_n (pc := 31) hx hb dX5_rings_31 rfl (lv_at hl 1 rfl) ?_
      refine lv_dup (pc := 32) hx hb dX5_rings_32 rfl ?_
      refine va_get (pc := 33) (ci := 5) (C := RX5) (T := TX5) (N := 9) (v := .int (Q.1 5)) hx hb hts in_X5 hown hK hP _ zg_0 rfl 8 (by decide) lk_fi42 (fun _ h9 => h9) rfl dX5_rings_33 ?_
      refine lv_iconst (v := 1) (pc := 36) hx hb dX5_rings_36 (by decide) ?_
      refine lv_iadd (pc := 37) hx hb dX5_rings_37 ?_
      refine z_put (pc := 38) (ci := 5) (C := RX5) (T := TX5) (N := 9) (W1 := (z_W [] X a D (z_qS Q 5 ((Q.1 5) + 1)) [])) hx hb hts in_X5 tyX5 tyX5_ok nmX5 hown hK hP hD hS _ zg_0 rfl 8 (by decide) lk_fi42 (fun _ h9 => h9) rfl (by decide +kernel) (Nat.le_of_ble_eq_true rfl) dX5_rings_38 (zs_0 (j := 5) rfl) (fun H locs hP hD hS => ?_)
      refine lv_iconst (v := 0) (pc := 41) hx hb dX5_rings_41 (by decide) ?_
      refine W.widen (k := 1) (n := 13) (by omega) (by omega) ?_
      exact W.zret (pc := 42) (v := 0) hx hb hr rfl (fun t ht hW => ⟨⟨_, (z_wS X a D (z_qS Q 5 ((Q.1 5) + 1))), rfl, ⟨z_e1 hf, D, congrArg (fun z => z_wS X a D z) (z_e2 hf)⟩, by rw [ht]; exact z_P1 hP, z_D1 hD⟩, hS.F ht⟩) hS.2.2 dX5_rings_42
theorem hdX5_ring : yX5_ring.cls = RX5 ∧ yX5_ring.cls ≠ "java/lang/invoke/MethodHandle" ∧ yX5_ring.cls ≠ "java/lang/invoke/VarHandle" ∧ (parseMethodDescriptor yX5_ring.desc).map (fun d => d.parameters.length) = some 1 := by decide +kernel
def f_X5_ring (Q : z_Q) (v1 : Int32) : Option (Int32 × z_Q) := (z_ai v1 Q.2.1.1).bind (fun x5 => (z_wr (Q.2.1.2 x5) 3 6 (if (0 : Int32) < (Q.2.1.2 x5 3) then (Q.2.1.2 x5 3) else (0 : Int32))).bind (fun x19 => (f_X5_rings (z_qR Q x5 x19) v1).bind (fun x22 => (z_bo x22.1).bind (fun x25 => some (x25, x22.2)))))
set_option maxHeartbeats 4000000 in
set_option maxRecDepth 100000 in
theorem m_X5_ring (l : Launch) (X : z_X) (a : Nat) (D : z_D) (Q : z_Q) (v1 : Int32) {RR : (Int32 × z_Q)} (hf : f_X5_ring Q v1 = some RR) : z_kI l yX5_ring wsX5_ring 2 46 1 13 X [.ref a, .int v1] (z_wS X a D Q) (fun (z : Int32) (u : va_W) => z = RR.1 ∧ ∃ D1 : z_D, u = z_wS X a D1 RR.2) := by
  intro sz
  refine Met.ofW (cc := cX5_ring) (maxL := 2) (ret := (some .boolean)) (by decide) rfl ?_
  intro p e s m args below meth c s₁ Bd hml hv
  obtain ⟨rfl, ⟨hsz, hP, hK, hN, hD0⟩, hA2⟩ := hv
  have hx := Bd.exec
  have hb := Bd.bytes
  have hr := Bd.returns
  have hts := atoms_spec (ws := wsX5_ring) Bd.pre
  have hown : s.vm.findClass RX5 = some m.cls := findClass_of_methodNamed Bd.named
  have hlocks := Bd.notSynchronized
  have S : CallFix p m c cX5_ring 2 s _ wsX5_ring RX5 := ⟨hx, hb, hml, hown, hts⟩
  have lk_fi9 := hts (.fieldLink RX5 9 "HouseBellsLaw$Sim" "rooms" "[[I") (List.mem_of_getElem? (i := 1) rfl)
  have in_X5 : ∀ w ∈ wsX50, w ∈ wsX5_ring := fun _ h => (List.mem_cons_of_mem _ (List.mem_append_right _ h))
  subst hsz
  have hD := hD0.self (sz := s.heap.size)
  generalize hAe : va_A (z_wS X a D Q) s.heap.size = A at hD ⊢
  have hA : ∀ q : Nat, s.heap.size ≤ q → A q := fun q h => by rw [← hAe]; exact Or.inr h
  have hS : va_S A s.heap s.heap [] := va_S.rf
  have hD : va_D A (z_W [] X a D Q []) := by unfold z_W; rw [List.append_nil]; exact hD
  have hP : va_P X.1 vwCl (z_W [] X a D Q []) s.heap := by unfold z_W; rw [List.append_nil]; exact hP
  have hl := lv_entry ([.ref a, .int v1]) (n := 2) (Nat.le_of_ble_eq_true rfl)
  rw [lg_entry_eq]
  generalize (lg_sl ([.ref a, .int v1]) ++ List.replicate (2 - (lg_sl ([.ref a, .int v1])).length) Slot.unset).toArray = ls at hl ⊢
  have hl : lv_has ls 2 [(0, .ref a), (1, .int v1)] := hl
  suffices hgo : ∀ (H : Heap) (locs : List Loc), va_P X.1 vwCl (z_W [] X a D Q []) H → va_D A (z_W [] X a D Q []) → va_S A s.heap H locs → W p l e (headSpec wsX5_ring (z_R2 2 46 1 13)).room s m ([.ref a, .int v1] : List Value).toArray below meth c H locs 0 0 (MQ below (va_Qi (fun (z : Int32) (u : va_W) => z = RR.1 ∧ ∃ D1 : z_D, u = z_wS X a D1 RR.2) (z_Bm X A) A) ([.ref a, .int v1] : List Value).toArray s 1 13 A) (F0 m 0 ls []) from hgo _ _ hP hD hS
  clear hP hD hS
  intro H locs hP hD hS
  unfold f_X5_ring at hf
  refine lv_aload_n (pc := 0) hx hb dX5_ring_0 rfl (lv_at hl 0 rfl) ?_
  refine va_get (pc := 1) (ci := 5) (C := RX5) (T := TX5) (N := 9) (v := .ref D.1.1) hx hb hts in_X5 hown hK hP _ zg_0 rfl 0 (by decide) lk_fi9 (fun _ h9 => h9) rfl dX5_ring_1 ?_
  refine lv_iload_n (pc := 4) hx hb dX5_ring_4 rfl (lv_at hl 1 rfl) ?_
  obtain ⟨x5, e5, hf⟩ := z_bd hf
  refine z_aald (pc := 5) hx hb hK hP _ 2 zg_1 rfl e5 dX5_ring_5 ?_
  refine lv_iconst (v := 3) (pc := 6) hx hb dX5_ring_6 (by decide) ?_
  refine lv_iconst (v := 0) (pc := 7) hx hb dX5_ring_7 (by decide) ?_
  refine lv_aload_n (pc := 8) hx hb dX5_ring_8 rfl (lv_at hl 0 rfl) ?_
  refine va_get (pc := 9) (ci := 5) (C := RX5) (T := TX5) (N := 9) (v := .ref D.1.1) hx hb hts in_X5 hown hK hP _ zg_0 rfl 0 (by decide) lk_fi9 (fun _ h9 => h9) rfl dX5_ring_9 ?_
  refine lv_iload_n (pc := 12) hx hb dX5_ring_12 rfl (lv_at hl 1 rfl) ?_
  refine z_aald (pc := 13) hx hb hK hP _ 2 zg_1 rfl e5 dX5_ring_13 ?_
  refine lv_iconst (v := 3) (pc := 14) hx hb dX5_ring_14 (by decide) ?_
  refine z_iald (pc := 15) hx hb hK hP _ 0 (zg_r (z_ai_lt e5)) rfl (show z_at _ 3 _ = some (Q.2.1.2 x5 3) from rfl) dX5_ring_15 ?_
  have hml2 : c.maxLocals = ls.size := by rw [hml]; exact hl.1.symm
  refine va_mmax (pc := 16) hx hb hml2 hown (hts _ (List.mem_of_getElem? (i := 2) rfl)) (hts _ (List.mem_of_getElem? (i := 3) rfl)) (hts _ (List.mem_of_getElem? (i := 4) rfl)) (hts _ (List.mem_of_getElem? (i := 5) rfl)) (Nat.le_of_ble_eq_true rfl) (Nat.le_of_ble_eq_true rfl) (show 0 ≤ 1 from by omega) (show 0 ≤ 13 from by omega) dX5_ring_16 ?_
  obtain ⟨x19, e19, hf⟩ := z_bd hf
  refine z_iast (pc := 19) (W1 := (z_W [] X a D (z_qR Q x5 x19) [])) hx hb hK hP hD hS _ 0 (zg_r (z_ai_lt e5)) rfl e19 (zs_r (z_ai_lt e5)) dX5_ring_19 (fun H locs hP hD hS => ?_)
  refine lv_aload_n (pc := 20) hx hb dX5_ring_20 rfl (lv_at hl 0 rfl) ?_
  refine lv_iload_n (pc := 21) hx hb dX5_ring_21 rfl (lv_at hl 1 rfl) ?_
  obtain ⟨x22, e22, hf⟩ := z_bd hf
  refine z_ckI (pc := 22) (wl := []) (wr := []) S (m_X5_rings l X a D (z_qR Q x5 x19) v1 e22) (cwV 1 hts gX5_ring_X5_rings rfl rfl rfl hdX5_rings ⟨Nat.le_of_ble_eq_true rfl, Nat.le_of_ble_eq_true rfl⟩) hP hK hN hA2 hD hS hA (ci := 5) rfl rfl rfl (show 0 + 1 ≤ 1 ∧ 0 + 13 ≤ 13 from ⟨by omega, by omega⟩) rfl hl.1 rfl (Nat.le_of_ble_eq_true rfl) dX5_ring_22 (fun z u H locs hpost hP hD hS => ?_)
  obtain ⟨rfl, D22, rfl⟩ := hpost
  have hP : va_P X.1 vwCl (z_W [] X a D22 x22.2 []) H := hP
  have hD : va_D A (z_W [] X a D22 x22.2 []) := hD
  refine W.widen (k := 1) (n := 13) (by omega) (by omega) ?_
  obtain ⟨x25, e25, hf⟩ := z_bd hf
  obtain ⟨e_bo, h_bo⟩ := z_bo_s e25
  exact W.zret (pc := 25) (v := x22.1) hx hb hr h_bo (fun t ht hW => ⟨⟨_, (z_wS X a D22 x22.2), rfl, ⟨e_bo.trans (z_e1 hf), D22, congrArg (fun z => z_wS X a D22 z) (z_e2 hf)⟩, by rw [ht]; exact z_P1 hP, z_D1 hD⟩, hS.F ht⟩) hS.2.2 dX5_ring_25
theorem hdX5_pass : yX5_pass.cls = RX5 ∧ yX5_pass.cls ≠ "java/lang/invoke/MethodHandle" ∧ yX5_pass.cls ≠ "java/lang/invoke/VarHandle" ∧ (parseMethodDescriptor yX5_pass.desc).map (fun d => d.parameters.length) = some 0 := by decide +kernel
def f_X5_pass_L7 : Nat → Int32 → Int32 → z_Q → Option (Int32 × z_Q)
  | 0, _, _, _ => none
  | n + 1, u1, u2, Q => (if (nI Q.2.1.1) ≤ u2 then some (u1, Q) else (z_ai u2 Q.2.1.1).bind (fun x21 => ((if 0 ≤ (Q.2.1.2 x21 3) then (z_wr (Q.2.1.2 x21) 3 6 ((Q.2.1.2 x21 3) + 1)).bind (fun x41 => (if ((z_ur Q.2.1.2 x21 x41) x21 3) = 30 then (z_wr ((z_ur Q.2.1.2 x21 x41) x21) 3 6 (-1)).bind (fun x63 => some (z_qS (z_qR (z_qR Q x21 x41) x21 x63) 4 ((Q.1 4) + 1))) else (z_rm ((z_ur Q.2.1.2 x21 x41) x21 3) ((z_ur Q.2.1.2 x21 x41) x21 1)).bind (fun x93 => (if x93 = 0 then (f_X5_rings (z_qR Q x21 x41) u2).bind (fun x99 => some x99.2) else some (z_qR Q x21 x41))))) else some Q)).bind (fun (y24 : z_Q) => f_X5_pass_L7 n u1 (u2 + 1) y24)))
def f_X5_pass_L111 : Nat → Int32 → Int32 → z_Q → Option (Int32 × z_Q)
  | 0, _, _, _ => none
  | n + 1, u1, u2, Q => (if (nI Q.2.2.1.1) ≤ u2 then some (u1, Q) else (z_ai u2 Q.2.2.1.1).bind (fun x125 => (f_X5_isIdle Q u2).bind (fun x129 => ((if x129 = 0 then (z_wr (Q.2.2.1.2 x125) 4 5 ((Q.2.2.1.2 x125 4) - 1)).bind (fun x144 => (if ((z_ur Q.2.2.1.2 x125 x144) x125 4) ≤ 0 then (z_wr ((z_ur Q.2.2.1.2 x125 x144) x125) 2 5 (-1)).bind (fun x162 => (z_wr ((z_ur (z_ur Q.2.2.1.2 x125 x144) x125 x162) x125) 3 5 (-1)).bind (fun x166 => (if 0 ≤ ((z_ur Q.2.2.1.2 x125 x144) x125 2) then (z_ai ((z_ur Q.2.2.1.2 x125 x144) x125 2) Q.2.1.1).bind (fun x183 => (z_wr ((z_ur (z_ur (z_ur Q.2.2.1.2 x125 x144) x125 x162) x125 x166) x125) 1 5 (Q.2.1.2 x183 0)).bind (fun x186 => (if 0 ≤ (Q.2.1.2 x183 3) then (z_wr (Q.2.1.2 x183) 3 6 (-1)).bind (fun x221 => (z_wr ((z_ur (z_ur (z_ur (z_ur Q.2.2.1.2 x125 x144) x125 x162) x125 x166) x125 x186) x125) 3 5 ((z_ur Q.2.2.1.2 x125 x144) x125 2)).bind (fun x226 => (z_wr ((z_ur (z_ur (z_ur (z_ur (z_ur Q.2.2.1.2 x125 x144) x125 x162) x125 x166) x125 x186) x125 x226) x125) 4 5 ((z_ur Q.2.1.2 x183 x221) x183 2)).bind (fun x238 => some (z_qS (z_qV (z_qV (z_qR (z_qV (z_qV (z_qV (z_qV Q x125 x144) x125 x162) x125 x166) x125 x186) x183 x221) x125 x226) x125 x238) 2 ((Q.1 2) + 1))))) else some (z_qS (z_qV (z_qV (z_qV (z_qV Q x125 x144) x125 x162) x125 x166) x125 x186) 3 ((Q.1 3) + 1))))) else some (z_qV (z_qV (z_qV Q x125 x144) x125 x162) x125 x166)))) else some (z_qV Q x125 x144))) else some Q)).bind (fun (y132 : z_Q) => f_X5_pass_L111 n u1 (u2 + 1) y132))))
def f_X5_pass_L255 : Nat → Int32 → z_Q → Option (Int32 × z_Q)
  | 0, _, _ => none
  | n + 1, u1, Q => (if (nI Q.2.2.2.1) ≤ 0 then some (u1, Q) else (z_at Q.2.2.2.2 0 Q.2.2.2.1).bind (fun x269 => (f_X5_nearest Q x269).bind (fun x270 => (if x270 < 0 then some (u1, Q) else (z_at Q.2.2.2.2 0 Q.2.2.2.1).bind (fun x281 => (f_X5_nearest Q x281).bind (fun x285 => (z_ai x285 Q.2.2.1.1).bind (fun x294 => (f_X5_way Q x285 x281).bind (fun x299 => (z_wr (Q.2.2.1.2 x294) 4 5 x299).bind (fun x302 => (z_wr ((z_ur Q.2.2.1.2 x294 x302) x294) 2 5 x281).bind (fun x311 => (f_X5_up (z_qV (z_qV Q x294 x302) x294 x311) x281).bind (fun x314 => f_X5_pass_L255 n u1 x314)))))))))))
def f_X5_pass (Q : z_Q)  : Option (Int32 × z_Q) := (f_X5_pass_L7 z_F14 (Q.1 2) 0 Q).bind (fun x7 => (f_X5_pass_L111 z_F14 x7.1 0 x7.2).bind (fun x111 => (f_X5_pass_L255 z_F14 x111.1 x111.2).bind (fun x255 => some (((x255.2.1 2) - x255.1), (z_qS x255.2 0 ((x255.2.1 0) + 1))))))
set_option maxHeartbeats 4000000 in
set_option maxRecDepth 100000 in
theorem m_X5_pass (l : Launch) (X : z_X) (a : Nat) (D : z_D) (Q : z_Q)  {RR : (Int32 × z_Q)} (hf : f_X5_pass Q = some RR) : z_kI l yX5_pass wsX5_pass 3 72 28 364 X [.ref a] (z_wS X a D Q) (fun (z : Int32) (u : va_W) => z = RR.1 ∧ ∃ D1 : z_D, u = z_wS X a D1 RR.2) := by
  intro sz
  refine Met.ofW (cc := cX5_pass) (maxL := 5) (ret := (some .int)) (by decide) rfl ?_
  intro p e s m args below meth c s₁ Bd hml hv
  obtain ⟨rfl, ⟨hsz, hP, hK, hN, hD0⟩, hA2⟩ := hv
  have hx := Bd.exec
  have hb := Bd.bytes
  have hr := Bd.returns
  have hts := atoms_spec (ws := wsX5_pass) Bd.pre
  have hown : s.vm.findClass RX5 = some m.cls := findClass_of_methodNamed Bd.named
  have hlocks := Bd.notSynchronized
  have S : CallFix p m c cX5_pass 5 s _ wsX5_pass RX5 := ⟨hx, hb, hml, hown, hts⟩
  have lk_fi33 := hts (.fieldLink RX5 33 "HouseBellsLaw$Sim" "served" "I") (List.mem_of_getElem? (i := 1) rfl)
  have lk_fi9 := hts (.fieldLink RX5 9 "HouseBellsLaw$Sim" "rooms" "[[I") (List.mem_of_getElem? (i := 2) rfl)
  have lk_fi39 := hts (.fieldLink RX5 39 "HouseBellsLaw$Sim" "gaveUp" "I") (List.mem_of_getElem? (i := 3) rfl)
  have lk_fi15 := hts (.fieldLink RX5 15 "HouseBellsLaw$Sim" "servants" "[[I") (List.mem_of_getElem? (i := 4) rfl)
  have lk_fi36 := hts (.fieldLink RX5 36 "HouseBellsLaw$Sim" "inVain" "I") (List.mem_of_getElem? (i := 5) rfl)
  have lk_fi18 := hts (.fieldLink RX5 18 "HouseBellsLaw$Sim" "line" "[I") (List.mem_of_getElem? (i := 6) rfl)
  have lk_fi30 := hts (.fieldLink RX5 30 "HouseBellsLaw$Sim" "minute" "I") (List.mem_of_getElem? (i := 7) rfl)
  have in_X5 : ∀ w ∈ wsX50, w ∈ wsX5_pass := fun _ h => (List.mem_cons_of_mem _ (List.mem_append_right _ h))
  subst hsz
  have hD := hD0.self (sz := s.heap.size)
  generalize hAe : va_A (z_wS X a D Q) s.heap.size = A at hD ⊢
  have hA : ∀ q : Nat, s.heap.size ≤ q → A q := fun q h => by rw [← hAe]; exact Or.inr h
  have hS : va_S A s.heap s.heap [] := va_S.rf
  have hD : va_D A (z_W [] X a D Q []) := by unfold z_W; rw [List.append_nil]; exact hD
  have hP : va_P X.1 vwCl (z_W [] X a D Q []) s.heap := by unfold z_W; rw [List.append_nil]; exact hP
  have hl := lv_entry ([.ref a]) (n := 5) (Nat.le_of_ble_eq_true rfl)
  rw [lg_entry_eq]
  generalize (lg_sl ([.ref a]) ++ List.replicate (5 - (lg_sl ([.ref a])).length) Slot.unset).toArray = ls at hl ⊢
  have hl : lv_has ls 5 [(0, .ref a)] := hl
  have lp_7 : ∀ (n : Nat) (kC kS kc ks : Nat) (hk : (kc + n * 1 ≤ kC ∧ ks + n * 13 ≤ kS) ∧ kC ≤ 28 ∧ kS ≤ 364) (D : z_D) (u1 : Int32) (u2 : Int32) (Q : z_Q) (T : (Int32 × z_Q)) (H : Heap) (locs : List Loc), va_P X.1 vwCl (z_W [] X a D Q []) H → va_D A (z_W [] X a D Q []) → va_S A s.heap H locs → ∀ (ls : Array Slot), lv_has ls 5 [(0, .ref a), (1, .int u1), (2, .int u2)] → f_X5_pass_L7 n u1 u2 Q = some T → (∀ (k1 s1 : Nat) (_ : k1 ≤ kC ∧ s1 ≤ kS) (D1 : z_D) (H : Heap) (locs : List Loc), va_P X.1 vwCl (z_W [] X a D1 T.2 []) H → va_D A (z_W [] X a D1 T.2 []) → va_S A s.heap H locs → ∀ (ls : Array Slot), lv_has ls 5 [(0, .ref a), (1, .int T.1)] → W p l e (headSpec wsX5_pass (z_R2 3 72 28 364)).room s m ([.ref a] : List Value).toArray below meth c H locs k1 s1 (MQ below (va_Qi (fun (z : Int32) (u : va_W) => z = RR.1 ∧ ∃ D1 : z_D, u = z_wS X a D1 RR.2) (z_Bm X A) A) ([.ref a] : List Value).toArray s 28 364 A) (F0 m 109 ls [])) → W p l e (headSpec wsX5_pass (z_R2 3 72 28 364)).room s m ([.ref a] : List Value).toArray below meth c H locs kc ks (MQ below (va_Qi (fun (z : Int32) (u : va_W) => z = RR.1 ∧ ∃ D1 : z_D, u = z_wS X a D1 RR.2) (z_Bm X A) A) ([.ref a] : List Value).toArray s 28 364 A) (F0 m 7 ls []) := by
    intro n
    induction n with
    | zero =>
      intro kC kS kc ks hk D u1 u2 Q T H locs hP hD hS ls hl hf kk
      cases hf
    | succ n ih =>
      intro kC kS kc ks hk D u1 u2 Q T H locs hP hD hS ls hl hf kk
      rw [f_X5_pass_L7] at hf
      refine lv_iload_n (pc := 7) hx hb dX5_pass_7 rfl (lv_at hl 2 rfl) ?_
      refine lv_aload_n (pc := 8) hx hb dX5_pass_8 rfl (lv_at hl 0 rfl) ?_
      refine va_get (pc := 9) (ci := 5) (C := RX5) (T := TX5) (N := 9) (v := .ref D.1.1) hx hb hts in_X5 hown hK hP _ zg_0 rfl 0 (by decide) lk_fi9 (fun _ h9 => h9) rfl dX5_pass_9 ?_
      refine va_alen (v := (nI Q.2.1.1)) (pc := 12) hx hb hK hP _ 2 zg_1 rfl rfl dX5_pass_12 ?_
      refine lv_icmp_ge (pc := 13) (tgt := 109) hx hb dX5_pass_13 (by decide) (fun c_13 => ?_) (fun c_13 => ?_)
      · replace hf := z_ip c_13 hf
        obtain rfl := Option.some.inj hf
        exact kk kc ks (by omega) D H locs hP hD hS ls (lv_sub hl [0, 1] rfl)
      · replace hf := z_in c_13 hf
        refine lv_aload_n (pc := 16) hx hb dX5_pass_16 rfl (lv_at hl 0 rfl) ?_
        refine va_get (pc := 17) (ci := 5) (C := RX5) (T := TX5) (N := 9) (v := .ref D.1.1) hx hb hts in_X5 hown hK hP _ zg_0 rfl 0 (by decide) lk_fi9 (fun _ h9 => h9) rfl dX5_pass_17 ?_
        refine lv_iload_n (pc := 20) hx hb dX5_pass_20 rfl (lv_at hl 2 rfl) ?_
        obtain ⟨x21, e21, hf⟩ := z_bd hf
        refine z_aald (pc := 21) hx hb hK hP _ 2 zg_1 rfl e21 dX5_pass_21 ?_
        refine lv_iconst (v := 3) (pc := 22) hx hb dX5_pass_22 (by decide) ?_
        refine z_iald (pc := 23) hx hb hK hP _ 0 (zg_r (z_ai_lt e21)) rfl (show z_at _ 3 _ = some (Q.2.1.2 x21 3) from rfl) dX5_pass_23 ?_
        obtain ⟨y24, ey24, hf⟩ := z_bd hf
        suffices jp_24 : ∀ (k24 s24 : Nat) (hk24 : k24 ≤ kc + 1 ∧ s24 ≤ ks + 13) (D24 : z_D) (H : Heap) (locs : List Loc) (_ : va_P X.1 vwCl (z_W [] X a D24 y24 []) H) (_ : va_D A (z_W [] X a D24 y24 [])) (_ : va_S A s.heap H locs) (ls : Array Slot) (_ : lv_has ls 5 [(0, .ref a), (1, .int u1), (2, .int u2)]), W p l e (headSpec wsX5_pass (z_R2 3 72 28 364)).room s m ([.ref a] : List Value).toArray below meth c H locs k24 s24 (MQ below (va_Qi (fun (z : Int32) (u : va_W) => z = RR.1 ∧ ∃ D1 : z_D, u = z_wS X a D1 RR.2) (z_Bm X A) A) ([.ref a] : List Value).toArray s 28 364 A) (F0 m 103 ls []) by
          have hf := ey24
          refine lv_if_ge (pc := 24) (tgt := 30) hx hb dX5_pass_24 (by decide) (fun c_24 => ?_) (fun c_24 => ?_)
          · replace hf := z_ip c_24 hf
            refine lv_aload_n (pc := 30) hx hb dX5_pass_30 rfl (lv_at hl 0 rfl) ?_
            refine va_get (pc := 31) (ci := 5) (C := RX5) (T := TX5) (N := 9) (v := .ref D.1.1) hx hb hts in_X5 hown hK hP _ zg_0 rfl 0 (by decide) lk_fi9 (fun _ h9 => h9) rfl dX5_pass_31 ?_
            refine lv_iload_n (pc := 34) hx hb dX5_pass_34 rfl (lv_at hl 2 rfl) ?_
            refine z_aald (pc := 35) hx hb hK hP _ 2 zg_1 rfl e21 dX5_pass_35 ?_
            refine lv_iconst (v := 3) (pc := 36) hx hb dX5_pass_36 (by decide) ?_
            refine lv_dup2_11 (pc := 37) hx hb dX5_pass_37 rfl rfl ?_
            refine z_iald (pc := 38) hx hb hK hP _ 0 (zg_r (z_ai_lt e21)) rfl (show z_at _ 3 _ = some (Q.2.1.2 x21 3) from rfl) dX5_pass_38 ?_
            refine lv_iconst (v := 1) (pc := 39) hx hb dX5_pass_39 (by decide) ?_
            refine lv_iadd (pc := 40) hx hb dX5_pass_40 ?_
            obtain ⟨x41, e41, hf⟩ := z_bd hf
            refine z_iast (pc := 41) (W1 := (z_W [] X a D (z_qR Q x21 x41) [])) hx hb hK hP hD hS _ 0 (zg_r (z_ai_lt e21)) rfl e41 (zs_r (z_ai_lt e21)) dX5_pass_41 (fun H locs hP hD hS => ?_)
            refine lv_aload_n (pc := 42) hx hb dX5_pass_42 rfl (lv_at hl 0 rfl) ?_
            refine va_get (pc := 43) (ci := 5) (C := RX5) (T := TX5) (N := 9) (v := .ref D.1.1) hx hb hts in_X5 hown hK hP _ zg_0 rfl 0 (by decide) lk_fi9 (fun _ h9 => h9) rfl dX5_pass_43 ?_
            refine lv_iload_n (pc := 46) hx hb dX5_pass_46 rfl (lv_at hl 2 rfl) ?_
            refine z_aald (pc := 47) hx hb hK hP _ 2 zg_1 rfl e21 dX5_pass_47 ?_
            refine lv_iconst (v := 3) (pc := 48) hx hb dX5_pass_48 (by decide) ?_
            refine z_iald (pc := 49) hx hb hK hP _ 0 (zg_r (z_ai_lt e21)) rfl (show z_at _ 3 _ = some ((z_ur Q.2.1.2 x21 x41) x21 3) from rfl) dX5_pass_49 ?_
            refine lv_bipush (v := 30) (pc := 50) hx hb dX5_pass_50 (by decide) ?_
            refine lv_icmp_ne (pc := 52) (tgt := 77) hx hb dX5_pass_52 (by decide) (fun c_52 => ?_) (fun c_52 => ?_)
            · replace hf := z_in c_52 hf
              refine lv_aload_n (pc := 77) hx hb dX5_pass_77 rfl (lv_at hl 0 rfl) ?_
              refine va_get (pc := 78) (ci := 5) (C := RX5) (T := TX5) (N := 9) (v := .ref D.1.1) hx hb hts in_X5 hown hK hP _ zg_0 rfl 0 (by decide) lk_fi9 (fun _ h9 => h9) rfl dX5_pass_78 ?_
              refine lv_iload_n (pc := 81) hx hb dX5_pass_81 rfl (lv_at hl 2 rfl) ?_
              refine z_aald (pc := 82) hx hb hK hP _ 2 zg_1 rfl e21 dX5_pass_82 ?_
              refine lv_iconst (v := 3) (pc := 83) hx hb dX5_pass_83 (by decide) ?_
              refine z_iald (pc := 84) hx hb hK hP _ 0 (zg_r (z_ai_lt e21)) rfl (show z_at _ 3 _ = some ((z_ur Q.2.1.2 x21 x41) x21 3) from rfl) dX5_pass_84 ?_
              refine lv_aload_n (pc := 85) hx hb dX5_pass_85 rfl (lv_at hl 0 rfl) ?_
              refine va_get (pc := 86) (ci := 5) (C := RX5) (T := TX5) (N := 9) (v := .ref D.1.1) hx hb hts in_X5 hown hK hP _ zg_0 rfl 0 (by decide) lk_fi9 (fun _ h9 => h9) rfl dX5_pass_86 ?_
              refine lv_iload_n (pc := 89) hx hb dX5_pass_89 rfl (lv_at hl 2 rfl) ?_
              refine z_aald (pc := 90) hx hb hK hP _ 2 zg_1 rfl e21 dX5_pass_90 ?_
              refine lv_iconst (v := 1) (pc := 91) hx hb dX5_pass_91 (by decide) ?_
              refine z_iald (pc := 92) hx hb hK hP _ 0 (zg_r (z_ai_lt e21)) rfl (show z_at _ 1 _ = some ((z_ur Q.2.1.2 x21 x41) x21 1) from rfl) dX5_pass_92 ?_
              obtain ⟨x93, e93, hf⟩ := z_bd hf
              refine z_irem (pc := 93) hx hb e93 dX5_pass_93 ?_
              refine lv_if_ne (pc := 94) (tgt := 103) hx hb dX5_pass_94 (by decide) (fun c_94 => ?_) (fun c_94 => ?_)
              · replace hf := z_in c_94 hf
                obtain rfl := Option.some.inj hf
                exact jp_24 kc ks (by omega) D H locs hP hD hS ls (lv_sub hl [0, 1, 2] rfl)
              · replace hf := z_ip c_94 hf
                refine lv_aload_n (pc := 97) hx hb dX5_pass_97 rfl (lv_at hl 0 rfl) ?_
                refine lv_iload_n (pc := 98) hx hb dX5_pass_98 rfl (lv_at hl 2 rfl) ?_
                obtain ⟨x99, e99, hf⟩ := z_bd hf
                refine z_ckI (pc := 99) (wl := []) (wr := []) S (m_X5_rings l X a D (z_qR Q x21 x41) u2 e99) (cwV 1 hts gX5_pass_X5_rings rfl rfl rfl hdX5_rings ⟨Nat.le_of_ble_eq_true rfl, Nat.le_of_ble_eq_true rfl⟩) hP hK hN hA2 hD hS hA (ci := 5) rfl rfl rfl (show kc + 1 ≤ 28 ∧ ks + 13 ≤ 364 from ⟨by omega, by omega⟩) rfl hl.1 rfl (Nat.le_of_ble_eq_true rfl) dX5_pass_99 (fun z u H locs hpost hP hD hS => ?_)
                obtain ⟨rfl, D99, rfl⟩ := hpost
                have hP : va_P X.1 vwCl (z_W [] X a D99 x99.2 []) H := hP
                have hD : va_D A (z_W [] X a D99 x99.2 []) := hD
                refine lv_pop (pc := 102) hx hb dX5_pass_102 rfl ?_
                obtain rfl := Option.some.inj hf
                exact jp_24 (kc + 1) (ks + 13) (by omega) D99 H locs hP hD hS ls (lv_sub hl [0, 1, 2] rfl)
            · replace hf := z_ip c_52 hf
              refine lv_aload_n (pc := 55) hx hb dX5_pass_55 rfl (lv_at hl 0 rfl) ?_
              refine va_get (pc := 56) (ci := 5) (C := RX5) (T := TX5) (N := 9) (v := .ref D.1.1) hx hb hts in_X5 hown hK hP _ zg_0 rfl 0 (by decide) lk_fi9 (fun _ h9 => h9) rfl dX5_pass_56 ?_
              refine lv_iload_n (pc := 59) hx hb dX5_pass_59 rfl (lv_at hl 2 rfl) ?_
              refine z_aald (pc := 60) hx hb hK hP _ 2 zg_1 rfl e21 dX5_pass_60 ?_
              refine lv_iconst (v := 3) (pc := 61) hx hb dX5_pass_61 (by decide) ?_
              refine lv_iconst (v := (-1)) (pc := 62) hx hb dX5_pass_62 (by decide) ?_
              obtain ⟨x63, e63, hf⟩ := z_bd hf
              refine z_iast (pc := 63) (W1 := (z_W [] X a D (z_qR (z_qR Q x21 x41) x21 x63) [])) hx hb hK hP hD hS _ 0 (zg_r (z_ai_lt e21)) rfl e63 (zs_r (z_ai_lt e21)) dX5_pass_63 (fun H locs hP hD hS => ?_)
              refine lv_aload_n (pc := 64) hx hb dX5_pass_64 rfl (lv_at hl 0 rfl) ?_
              refine lv_dup (pc := 65) hx hb dX5_pass_65 rfl ?_
              refine va_get (pc := 66) (ci := 5) (C := RX5) (T := TX5) (N := 9) (v := .int (Q.1 4)) hx hb hts in_X5 hown hK hP _ zg_0 rfl 7 (by decide) lk_fi39 (fun _ h9 => h9) rfl dX5_pass_66 ?_
              refine lv_iconst (v := 1) (pc := 69) hx hb dX5_pass_69 (by decide) ?_
              refine lv_iadd (pc := 70) hx hb dX5_pass_70 ?_
              refine z_put (pc := 71) (ci := 5) (C := RX5) (T := TX5) (N := 9) (W1 := (z_W [] X a D (z_qS (z_qR (z_qR Q x21 x41) x21 x63) 4 ((Q.1 4) + 1)) [])) hx hb hts in_X5 tyX5 tyX5_ok nmX5 hown hK hP hD hS _ zg_0 rfl 7 (by decide) lk_fi39 (fun _ h9 => h9) rfl (by decide +kernel) (Nat.le_of_ble_eq_true rfl) dX5_pass_71 (zs_0 (j := 4) rfl) (fun H locs hP hD hS => ?_)
              refine lv_goto (pc := 74) (tgt := 103) hx hb dX5_pass_74 (by decide) ?_
              obtain rfl := Option.some.inj hf
              exact jp_24 kc ks (by omega) D H locs hP hD hS ls (lv_sub hl [0, 1, 2] rfl)
          · replace hf := z_in c_24 hf
            refine lv_goto (pc := 27) (tgt := 103) hx hb dX5_pass_27 (by decide) ?_
            obtain rfl := Option.some.inj hf
            exact jp_24 kc ks (by omega) D H locs hP hD hS ls (lv_sub hl [0, 1, 2] rfl)
        intro k24 s24 hk24 D24 H locs hP hD hS ls hl
        refine lv_iinc (pc := 103) (v := (u2 + 1)) (lv' := [(2, .int (u2 + 1)), (0, .ref a), (1, .int u1)]) hx hb dX5_pass_103 hl (k := 2) rfl rfl (by decide) rfl (fun ls hl => ?_)
        refine lv_goto (pc := 106) (tgt := 7) hx hb dX5_pass_106 (by decide) ?_
        exact ih kC kS k24 s24 (by omega) D24 u1 (u2 + 1) y24 T H locs hP hD hS ls (lv_sub hl [1, 2, 0] rfl) hf kk
  have lp_111 : ∀ (n : Nat) (kc ks : Nat) (hk : kc ≤ 28 ∧ ks ≤ 364) (D : z_D) (u1 : Int32) (u2 : Int32) (Q : z_Q) (T : (Int32 × z_Q)) (H : Heap) (locs : List Loc), va_P X.1 vwCl (z_W [] X a D Q []) H → va_D A (z_W [] X a D Q []) → va_S A s.heap H locs → ∀ (ls : Array Slot), lv_has ls 5 [(0, .ref a), (1, .int u1), (2, .int u2)] → f_X5_pass_L111 n u1 u2 Q = some T → (∀ (H : Heap) (locs : List Loc), va_P X.1 vwCl (z_W [] X a D T.2 []) H → va_D A (z_W [] X a D T.2 []) → va_S A s.heap H locs → ∀ (ls : Array Slot), lv_has ls 5 [(0, .ref a), (1, .int T.1)] → W p l e (headSpec wsX5_pass (z_R2 3 72 28 364)).room s m ([.ref a] : List Value).toArray below meth c H locs kc ks (MQ below (va_Qi (fun (z : Int32) (u : va_W) => z = RR.1 ∧ ∃ D1 : z_D, u = z_wS X a D1 RR.2) (z_Bm X A) A) ([.ref a] : List Value).toArray s 28 364 A) (F0 m 255 ls [])) → W p l e (headSpec wsX5_pass (z_R2 3 72 28 364)).room s m ([.ref a] : List Value).toArray below meth c H locs kc ks (MQ below (va_Qi (fun (z : Int32) (u : va_W) => z = RR.1 ∧ ∃ D1 : z_D, u = z_wS X a D1 RR.2) (z_Bm X A) A) ([.ref a] : List Value).toArray s 28 364 A) (F0 m 111 ls []) := by
    intro n
    induction n with
    | zero =>
      intro kc ks hk D u1 u2 Q T H locs hP hD hS ls hl hf kk
      cases hf
    | succ n ih =>
      intro kc ks hk D u1 u2 Q T H locs hP hD hS ls hl hf kk
      rw [f_X5_pass_L111] at hf
      refine lv_iload_n (pc := 111) hx hb dX5_pass_111 rfl (lv_at hl 2 rfl) ?_
      refine lv_aload_n (pc := 112) hx hb dX5_pass_112 rfl (lv_at hl 0 rfl) ?_
      refine va_get (pc := 113) (ci := 5) (C := RX5) (T := TX5) (N := 9) (v := .ref D.1.2.1) hx hb hts in_X5 hown hK hP _ zg_0 rfl 1 (by decide) lk_fi15 (fun _ h9 => h9) rfl dX5_pass_113 ?_
      refine va_alen (v := (nI Q.2.2.1.1)) (pc := 116) hx hb hK hP _ 2 zg_2 rfl rfl dX5_pass_116 ?_
      refine lv_icmp_ge (pc := 117) (tgt := 255) hx hb dX5_pass_117 (by decide) (fun c_117 => ?_) (fun c_117 => ?_)
      · replace hf := z_ip c_117 hf
        obtain rfl := Option.some.inj hf
        exact kk H locs hP hD hS ls (lv_sub hl [0, 1] rfl)
      · replace hf := z_in c_117 hf
        refine lv_aload_n (pc := 120) hx hb dX5_pass_120 rfl (lv_at hl 0 rfl) ?_
        refine va_get (pc := 121) (ci := 5) (C := RX5) (T := TX5) (N := 9) (v := .ref D.1.2.1) hx hb hts in_X5 hown hK hP _ zg_0 rfl 1 (by decide) lk_fi15 (fun _ h9 => h9) rfl dX5_pass_121 ?_
        refine lv_iload_n (pc := 124) hx hb dX5_pass_124 rfl (lv_at hl 2 rfl) ?_
        obtain ⟨x125, e125, hf⟩ := z_bd hf
        refine z_aald (pc := 125) hx hb hK hP _ 2 zg_2 rfl e125 dX5_pass_125 ?_
        refine lv_astore_n (pc := 126) (lv' := [(3, .ref (D.2.2 x125)), (0, .ref a), (1, .int u1), (2, .int u2)]) hx hb dX5_pass_126 rfl hl (by decide) rfl (fun ls hl => ?_)
        refine lv_aload_n (pc := 127) hx hb dX5_pass_127 rfl (lv_at hl 1 rfl) ?_
        refine lv_iload_n (pc := 128) hx hb dX5_pass_128 rfl (lv_at hl 3 rfl) ?_
        obtain ⟨x129, e129, hf⟩ := z_bd hf
        refine z_cpI (pc := 129) S (m_X5_isIdle l X a D Q u2 e129) (cwV 1 hts gX5_pass_X5_isIdle rfl rfl rfl hdX5_isIdle ⟨Nat.le_of_ble_eq_true rfl, Nat.le_of_ble_eq_true rfl⟩) hP hK hN z_S_W (ci := 5) rfl rfl rfl (show kc ≤ 28 ∧ ks ≤ 364 from ⟨by omega, by omega⟩) rfl hl.1 rfl (Nat.le_of_ble_eq_true rfl) dX5_pass_129 ?_
        obtain ⟨y132, ey132, hf⟩ := z_bd hf
        suffices jp_132 : ∀ (H : Heap) (locs : List Loc) (_ : va_P X.1 vwCl (z_W [] X a D y132 []) H) (_ : va_D A (z_W [] X a D y132 [])) (_ : va_S A s.heap H locs) (ls : Array Slot) (_ : lv_has ls 5 [(0, .ref a), (1, .int u1), (2, .int u2)]), W p l e (headSpec wsX5_pass (z_R2 3 72 28 364)).room s m ([.ref a] : List Value).toArray below meth c H locs kc ks (MQ below (va_Qi (fun (z : Int32) (u : va_W) => z = RR.1 ∧ ∃ D1 : z_D, u = z_wS X a D1 RR.2) (z_Bm X A) A) ([.ref a] : List Value).toArray s 28 364 A) (F0 m 249 ls []) by
          have hf := ey132
          refine lv_if_eq (pc := 132) (tgt := 138) hx hb dX5_pass_132 (by decide) (fun c_132 => ?_) (fun c_132 => ?_)
          · replace hf := z_ip c_132 hf
            refine lv_aload_n (pc := 138) hx hb dX5_pass_138 rfl (lv_at hl 0 rfl) ?_
            refine lv_iconst (v := 4) (pc := 139) hx hb dX5_pass_139 (by decide) ?_
            refine lv_dup2_11 (pc := 140) hx hb dX5_pass_140 rfl rfl ?_
            refine z_iald (pc := 141) hx hb hK hP _ 0 (zg_v (z_ai_lt e125)) rfl (show z_at _ 4 _ = some (Q.2.2.1.2 x125 4) from rfl) dX5_pass_141 ?_
            refine lv_iconst (v := 1) (pc := 142) hx hb dX5_pass_142 (by decide) ?_
            refine lv_isub (pc := 143) hx hb dX5_pass_143 ?_
            obtain ⟨x144, e144, hf⟩ := z_bd hf
            refine z_iast (pc := 144) (W1 := (z_W [] X a D (z_qV Q x125 x144) [])) hx hb hK hP hD hS _ 0 (zg_v (z_ai_lt e125)) rfl e144 (zs_v (z_ai_lt e125)) dX5_pass_144 (fun H locs hP hD hS => ?_)
            refine lv_aload_n (pc := 145) hx hb dX5_pass_145 rfl (lv_at hl 0 rfl) ?_
            refine lv_iconst (v := 4) (pc := 146) hx hb dX5_pass_146 (by decide) ?_
            refine z_iald (pc := 147) hx hb hK hP _ 0 (zg_v (z_ai_lt e125)) rfl (show z_at _ 4 _ = some ((z_ur Q.2.2.1.2 x125 x144) x125 4) from rfl) dX5_pass_147 ?_
            refine lv_if_le (pc := 148) (tgt := 154) hx hb dX5_pass_148 (by decide) (fun c_148 => ?_) (fun c_148 => ?_)
            · replace hf := z_ip c_148 hf
              refine lv_aload_n (pc := 154) hx hb dX5_pass_154 rfl (lv_at hl 0 rfl) ?_
              refine lv_iconst (v := 2) (pc := 155) hx hb dX5_pass_155 (by decide) ?_
              refine z_iald (pc := 156) hx hb hK hP _ 0 (zg_v (z_ai_lt e125)) rfl (show z_at _ 2 _ = some ((z_ur Q.2.2.1.2 x125 x144) x125 2) from rfl) dX5_pass_156 ?_
              refine lv_istore (pc := 157) (lv' := [(4, .int ((z_ur Q.2.2.1.2 x125 x144) x125 2)), (3, .ref (D.2.2 x125)), (0, .ref a), (1, .int u1), (2, .int u2)]) hx hb dX5_pass_157 hl (by decide) rfl (fun ls hl => ?_)
              refine lv_aload_n (pc := 159) hx hb dX5_pass_159 rfl (lv_at hl 1 rfl) ?_
              refine lv_iconst (v := 2) (pc := 160) hx hb dX5_pass_160 (by decide) ?_
              refine lv_iconst (v := (-1)) (pc := 161) hx hb dX5_pass_161 (by decide) ?_
              obtain ⟨x162, e162, hf⟩ := z_bd hf
              refine z_iast (pc := 162) (W1 := (z_W [] X a D (z_qV (z_qV Q x125 x144) x125 x162) [])) hx hb hK hP hD hS _ 0 (zg_v (z_ai_lt e125)) rfl e162 (zs_v (z_ai_lt e125)) dX5_pass_162 (fun H locs hP hD hS => ?_)
              refine lv_aload_n (pc := 163) hx hb dX5_pass_163 rfl (lv_at hl 1 rfl) ?_
              refine lv_iconst (v := 3) (pc := 164) hx hb dX5_pass_164 (by decide) ?_
              refine lv_iconst (v := (-1)) (pc := 165) hx hb dX5_pass_165 (by decide) ?_
              obtain ⟨x166, e166, hf⟩ := z_bd hf
              refine z_iast (pc := 166) (W1 := (z_W [] X a D (z_qV (z_qV (z_qV Q x125 x144) x125 x162) x125 x166) [])) hx hb hK hP hD hS _ 0 (zg_v (z_ai_lt e125)) rfl e166 (zs_v (z_ai_lt e125)) dX5_pass_166 (fun H locs hP hD hS => ?_)
              refine lv_iload (pc := 167) hx hb dX5_pass_167 (lv_at hl 0 rfl) ?_
              refine lv_if_ge (pc := 169) (tgt := 175) hx hb dX5_pass_169 (by decide) (fun c_169 => ?_) (fun c_169 => ?_)
              · replace hf := z_ip c_169 hf
                refine lv_aload_n (pc := 175) hx hb dX5_pass_175 rfl (lv_at hl 1 rfl) ?_
                refine lv_iconst (v := 1) (pc := 176) hx hb dX5_pass_176 (by decide) ?_
                refine lv_aload_n (pc := 177) hx hb dX5_pass_177 rfl (lv_at hl 2 rfl) ?_
                refine va_get (pc := 178) (ci := 5) (C := RX5) (T := TX5) (N := 9) (v := .ref D.1.1) hx hb hts in_X5 hown hK hP _ zg_0 rfl 0 (by decide) lk_fi9 (fun _ h9 => h9) rfl dX5_pass_178 ?_
                refine lv_iload (pc := 181) hx hb dX5_pass_181 (lv_at hl 0 rfl) ?_
                obtain ⟨x183, e183, hf⟩ := z_bd hf
                refine z_aald (pc := 183) hx hb hK hP _ 2 zg_1 rfl e183 dX5_pass_183 ?_
                refine lv_iconst (v := 0) (pc := 184) hx hb dX5_pass_184 (by decide) ?_
                refine z_iald (pc := 185) hx hb hK hP _ 0 (zg_r (z_ai_lt e183)) rfl (show z_at _ 0 _ = some (Q.2.1.2 x183 0) from rfl) dX5_pass_185 ?_
                obtain ⟨x186, e186, hf⟩ := z_bd hf
                refine z_iast (pc := 186) (W1 := (z_W [] X a D (z_qV (z_qV (z_qV (z_qV Q x125 x144) x125 x162) x125 x166) x125 x186) [])) hx hb hK hP hD hS _ 0 (zg_v (z_ai_lt e125)) rfl e186 (zs_v (z_ai_lt e125)) dX5_pass_186 (fun H locs hP hD hS => ?_)
                refine lv_aload_n (pc := 187) hx hb dX5_pass_187 rfl (lv_at hl 2 rfl) ?_
                refine va_get (pc := 188) (ci := 5) (C := RX5) (T := TX5) (N := 9) (v := .ref D.1.1) hx hb hts in_X5 hown hK hP _ zg_0 rfl 0 (by decide) lk_fi9 (fun _ h9 => h9) rfl dX5_pass_188 ?_
                refine lv_iload (pc := 191) hx hb dX5_pass_191 (lv_at hl 0 rfl) ?_
                refine z_aald (pc := 193) hx hb hK hP _ 2 zg_1 rfl e183 dX5_pass_193 ?_
                refine lv_iconst (v := 3) (pc := 194) hx hb dX5_pass_194 (by decide) ?_
                refine z_iald (pc := 195) hx hb hK hP _ 0 (zg_r (z_ai_lt e183)) rfl (show z_at _ 3 _ = some (Q.2.1.2 x183 3) from rfl) dX5_pass_195 ?_
                refine lv_if_ge (pc := 196) (tgt := 212) hx hb dX5_pass_196 (by decide) (fun c_196 => ?_) (fun c_196 => ?_)
                · replace hf := z_ip c_196 hf
                  refine lv_aload_n (pc := 212) hx hb dX5_pass_212 rfl (lv_at hl 2 rfl) ?_
                  refine va_get (pc := 213) (ci := 5) (C := RX5) (T := TX5) (N := 9) (v := .ref D.1.1) hx hb hts in_X5 hown hK hP _ zg_0 rfl 0 (by decide) lk_fi9 (fun _ h9 => h9) rfl dX5_pass_213 ?_
                  refine lv_iload (pc := 216) hx hb dX5_pass_216 (lv_at hl 0 rfl) ?_
                  refine z_aald (pc := 218) hx hb hK hP _ 2 zg_1 rfl e183 dX5_pass_218 ?_
                  refine lv_iconst (v := 3) (pc := 219) hx hb dX5_pass_219 (by decide) ?_
                  refine lv_iconst (v := (-1)) (pc := 220) hx hb dX5_pass_220 (by decide) ?_
                  obtain ⟨x221, e221, hf⟩ := z_bd hf
                  refine z_iast (pc := 221) (W1 := (z_W [] X a D (z_qR (z_qV (z_qV (z_qV (z_qV Q x125 x144) x125 x162) x125 x166) x125 x186) x183 x221) [])) hx hb hK hP hD hS _ 0 (zg_r (z_ai_lt e183)) rfl e221 (zs_r (z_ai_lt e183)) dX5_pass_221 (fun H locs hP hD hS => ?_)
                  refine lv_aload_n (pc := 222) hx hb dX5_pass_222 rfl (lv_at hl 1 rfl) ?_
                  refine lv_iconst (v := 3) (pc := 223) hx hb dX5_pass_223 (by decide) ?_
                  refine lv_iload (pc := 224) hx hb dX5_pass_224 (lv_at hl 0 rfl) ?_
                  obtain ⟨x226, e226, hf⟩ := z_bd hf
                  refine z_iast (pc := 226) (W1 := (z_W [] X a D (z_qV (z_qR (z_qV (z_qV (z_qV (z_qV Q x125 x144) x125 x162) x125 x166) x125 x186) x183 x221) x125 x226) [])) hx hb hK hP hD hS _ 0 (zg_v (z_ai_lt e125)) rfl e226 (zs_v (z_ai_lt e125)) dX5_pass_226 (fun H locs hP hD hS => ?_)
                  refine lv_aload_n (pc := 227) hx hb dX5_pass_227 rfl (lv_at hl 1 rfl) ?_
                  refine lv_iconst (v := 4) (pc := 228) hx hb dX5_pass_228 (by decide) ?_
                  refine lv_aload_n (pc := 229) hx hb dX5_pass_229 rfl (lv_at hl 2 rfl) ?_
                  refine va_get (pc := 230) (ci := 5) (C := RX5) (T := TX5) (N := 9) (v := .ref D.1.1) hx hb hts in_X5 hown hK hP _ zg_0 rfl 0 (by decide) lk_fi9 (fun _ h9 => h9) rfl dX5_pass_230 ?_
                  refine lv_iload (pc := 233) hx hb dX5_pass_233 (lv_at hl 0 rfl) ?_
                  refine z_aald (pc := 235) hx hb hK hP _ 2 zg_1 rfl e183 dX5_pass_235 ?_
                  refine lv_iconst (v := 2) (pc := 236) hx hb dX5_pass_236 (by decide) ?_
                  refine z_iald (pc := 237) hx hb hK hP _ 0 (zg_r (z_ai_lt e183)) rfl (show z_at _ 2 _ = some ((z_ur Q.2.1.2 x183 x221) x183 2) from rfl) dX5_pass_237 ?_
                  obtain ⟨x238, e238, hf⟩ := z_bd hf
                  refine z_iast (pc := 238) (W1 := (z_W [] X a D (z_qV (z_qV (z_qR (z_qV (z_qV (z_qV (z_qV Q x125 x144) x125 x162) x125 x166) x125 x186) x183 x221) x125 x226) x125 x238) [])) hx hb hK hP hD hS _ 0 (zg_v (z_ai_lt e125)) rfl e238 (zs_v (z_ai_lt e125)) dX5_pass_238 (fun H locs hP hD hS => ?_)
                  refine lv_aload_n (pc := 239) hx hb dX5_pass_239 rfl (lv_at hl 2 rfl) ?_
                  refine lv_dup (pc := 240) hx hb dX5_pass_240 rfl ?_
                  refine va_get (pc := 241) (ci := 5) (C := RX5) (T := TX5) (N := 9) (v := .int (Q.1 2)) hx hb hts in_X5 hown hK hP _ zg_0 rfl 5 (by decide) lk_fi33 (fun _ h9 => h9) rfl dX5_pass_241 ?_
                  refine lv_iconst (v := 1) (pc := 244) hx hb dX5_pass_244 (by decide) ?_
                  refine lv_iadd (pc := 245) hx hb dX5_pass_245 ?_
                  refine z_put (pc := 246) (ci := 5) (C := RX5) (T := TX5) (N := 9) (W1 := (z_W [] X a D (z_qS (z_qV (z_qV (z_qR (z_qV (z_qV (z_qV (z_qV Q x125 x144) x125 x162) x125 x166) x125 x186) x183 x221) x125 x226) x125 x238) 2 ((Q.1 2) + 1)) [])) hx hb hts in_X5 tyX5 tyX5_ok nmX5 hown hK hP hD hS _ zg_0 rfl 5 (by decide) lk_fi33 (fun _ h9 => h9) rfl (by decide +kernel) (Nat.le_of_ble_eq_true rfl) dX5_pass_246 (zs_0 (j := 2) rfl) (fun H locs hP hD hS => ?_)
                  obtain rfl := Option.some.inj hf
                  exact jp_132 H locs hP hD hS ls (lv_sub hl [2, 3, 4] rfl)
                · replace hf := z_in c_196 hf
                  refine lv_aload_n (pc := 199) hx hb dX5_pass_199 rfl (lv_at hl 2 rfl) ?_
                  refine lv_dup (pc := 200) hx hb dX5_pass_200 rfl ?_
                  refine va_get (pc := 201) (ci := 5) (C := RX5) (T := TX5) (N := 9) (v := .int (Q.1 3)) hx hb hts in_X5 hown hK hP _ zg_0 rfl 6 (by decide) lk_fi36 (fun _ h9 => h9) rfl dX5_pass_201 ?_
                  refine lv_iconst (v := 1) (pc := 204) hx hb dX5_pass_204 (by decide) ?_
                  refine lv_iadd (pc := 205) hx hb dX5_pass_205 ?_
                  refine z_put (pc := 206) (ci := 5) (C := RX5) (T := TX5) (N := 9) (W1 := (z_W [] X a D (z_qS (z_qV (z_qV (z_qV (z_qV Q x125 x144) x125 x162) x125 x166) x125 x186) 3 ((Q.1 3) + 1)) [])) hx hb hts in_X5 tyX5 tyX5_ok nmX5 hown hK hP hD hS _ zg_0 rfl 6 (by decide) lk_fi36 (fun _ h9 => h9) rfl (by decide +kernel) (Nat.le_of_ble_eq_true rfl) dX5_pass_206 (zs_0 (j := 3) rfl) (fun H locs hP hD hS => ?_)
                  refine lv_goto (pc := 209) (tgt := 249) hx hb dX5_pass_209 (by decide) ?_
                  obtain rfl := Option.some.inj hf
                  exact jp_132 H locs hP hD hS ls (lv_sub hl [2, 3, 4] rfl)
              · replace hf := z_in c_169 hf
                refine lv_goto (pc := 172) (tgt := 249) hx hb dX5_pass_172 (by decide) ?_
                obtain rfl := Option.some.inj hf
                exact jp_132 H locs hP hD hS ls (lv_sub hl [2, 3, 4] rfl)
            · replace hf := z_in c_148 hf
              refine lv_goto (pc := 151) (tgt := 249) hx hb dX5_pass_151 (by decide) ?_
              obtain rfl := Option.some.inj hf
              exact jp_132 H locs hP hD hS ls (lv_sub hl [1, 2, 3] rfl)
          · replace hf := z_in c_132 hf
            refine lv_goto (pc := 135) (tgt := 249) hx hb dX5_pass_135 (by decide) ?_
            obtain rfl := Option.some.inj hf
            exact jp_132 H locs hP hD hS ls (lv_sub hl [1, 2, 3] rfl)
        intro H locs hP hD hS ls hl
        refine lv_iinc (pc := 249) (v := (u2 + 1)) (lv' := [(2, .int (u2 + 1)), (0, .ref a), (1, .int u1)]) hx hb dX5_pass_249 hl (k := 2) rfl rfl (by decide) rfl (fun ls hl => ?_)
        refine lv_goto (pc := 252) (tgt := 111) hx hb dX5_pass_252 (by decide) ?_
        exact ih kc ks (by omega) D u1 (u2 + 1) y132 T H locs hP hD hS ls (lv_sub hl [1, 2, 0] rfl) hf kk
  have lp_255 : ∀ (n : Nat) (kC kS kc ks : Nat) (hk : (kc + n * 1 ≤ kC ∧ ks + n * 13 ≤ kS) ∧ kC ≤ 28 ∧ kS ≤ 364) (D : z_D) (u1 : Int32) (Q : z_Q) (T : (Int32 × z_Q)) (H : Heap) (locs : List Loc), va_P X.1 vwCl (z_W [] X a D Q []) H → va_D A (z_W [] X a D Q []) → va_S A s.heap H locs → ∀ (ls : Array Slot), lv_has ls 5 [(0, .ref a), (1, .int u1)] → f_X5_pass_L255 n u1 Q = some T → (∀ (k1 s1 : Nat) (_ : k1 ≤ kC ∧ s1 ≤ kS) (D1 : z_D) (H : Heap) (locs : List Loc), va_P X.1 vwCl (z_W [] X a D1 T.2 []) H → va_D A (z_W [] X a D1 T.2 []) → va_S A s.heap H locs → ∀ (ls : Array Slot), lv_has ls 5 [(0, .ref a), (1, .int T.1)] → W p l e (headSpec wsX5_pass (z_R2 3 72 28 364)).room s m ([.ref a] : List Value).toArray below meth c H locs k1 s1 (MQ below (va_Qi (fun (z : Int32) (u : va_W) => z = RR.1 ∧ ∃ D1 : z_D, u = z_wS X a D1 RR.2) (z_Bm X A) A) ([.ref a] : List Value).toArray s 28 364 A) (F0 m 320 ls [])) → W p l e (headSpec wsX5_pass (z_R2 3 72 28 364)).room s m ([.ref a] : List Value).toArray below meth c H locs kc ks (MQ below (va_Qi (fun (z : Int32) (u : va_W) => z = RR.1 ∧ ∃ D1 : z_D, u = z_wS X a D1 RR.2) (z_Bm X A) A) ([.ref a] : List Value).toArray s 28 364 A) (F0 m 255 ls []) := by
    intro n
    induction n with
    | zero =>
      intro kC kS kc ks hk D u1 Q T H locs hP hD hS ls hl hf kk
      cases hf
    | succ n ih =>
      intro kC kS kc ks hk D u1 Q T H locs hP hD hS ls hl hf kk
      rw [f_X5_pass_L255] at hf
      refine lv_aload_n (pc := 255) hx hb dX5_pass_255 rfl (lv_at hl 0 rfl) ?_
      refine va_get (pc := 256) (ci := 5) (C := RX5) (T := TX5) (N := 9) (v := .ref D.1.2.2) hx hb hts in_X5 hown hK hP _ zg_0 rfl 2 (by decide) lk_fi18 (fun _ h9 => h9) rfl dX5_pass_256 ?_
      refine va_alen (v := (nI Q.2.2.2.1)) (pc := 259) hx hb hK hP _ 0 zg_3 rfl rfl dX5_pass_259 ?_
      refine lv_if_le (pc := 260) (tgt := 320) hx hb dX5_pass_260 (by decide) (fun c_260 => ?_) (fun c_260 => ?_)
      · replace hf := z_ip c_260 hf
        obtain rfl := Option.some.inj hf
        exact kk kc ks (by omega) D H locs hP hD hS ls (lv_sub hl [0, 1] rfl)
      · replace hf := z_in c_260 hf
        refine lv_aload_n (pc := 263) hx hb dX5_pass_263 rfl (lv_at hl 0 rfl) ?_
        refine lv_aload_n (pc := 264) hx hb dX5_pass_264 rfl (lv_at hl 0 rfl) ?_
        refine va_get (pc := 265) (ci := 5) (C := RX5) (T := TX5) (N := 9) (v := .ref D.1.2.2) hx hb hts in_X5 hown hK hP _ zg_0 rfl 2 (by decide) lk_fi18 (fun _ h9 => h9) rfl dX5_pass_265 ?_
        refine lv_iconst (v := 0) (pc := 268) hx hb dX5_pass_268 (by decide) ?_
        obtain ⟨x269, e269, hf⟩ := z_bd hf
        refine z_iald (pc := 269) hx hb hK hP _ 0 zg_3 rfl e269 dX5_pass_269 ?_
        obtain ⟨x270, e270, hf⟩ := z_bd hf
        refine z_cpI (pc := 270) S (m_X5_nearest l X a D Q x269 e270) (cwV 1 hts gX5_pass_X5_nearest rfl rfl rfl hdX5_nearest ⟨Nat.le_of_ble_eq_true rfl, Nat.le_of_ble_eq_true rfl⟩) hP hK hN z_S_W (ci := 5) rfl rfl rfl (show kc ≤ 28 ∧ ks ≤ 364 from ⟨by omega, by omega⟩) rfl hl.1 rfl (Nat.le_of_ble_eq_true rfl) dX5_pass_270 ?_
        refine lv_if_lt (pc := 273) (tgt := 320) hx hb dX5_pass_273 (by decide) (fun c_273 => ?_) (fun c_273 => ?_)
        · replace hf := z_ip c_273 hf
          obtain rfl := Option.some.inj hf
          exact kk kc ks (by omega) D H locs hP hD hS ls (lv_sub hl [0, 1] rfl)
        · replace hf := z_in c_273 hf
          refine lv_aload_n (pc := 276) hx hb dX5_pass_276 rfl (lv_at hl 0 rfl) ?_
          refine va_get (pc := 277) (ci := 5) (C := RX5) (T := TX5) (N := 9) (v := .ref D.1.2.2) hx hb hts in_X5 hown hK hP _ zg_0 rfl 2 (by decide) lk_fi18 (fun _ h9 => h9) rfl dX5_pass_277 ?_
          refine lv_iconst (v := 0) (pc := 280) hx hb dX5_pass_280 (by decide) ?_
          obtain ⟨x281, e281, hf⟩ := z_bd hf
          refine z_iald (pc := 281) hx hb hK hP _ 0 zg_3 rfl e281 dX5_pass_281 ?_
          refine lv_istore_n (pc := 282) (lv' := [(2, .int x281), (0, .ref a), (1, .int u1)]) hx hb dX5_pass_282 rfl hl (by decide) rfl (fun ls hl => ?_)
          refine lv_aload_n (pc := 283) hx hb dX5_pass_283 rfl (lv_at hl 1 rfl) ?_
          refine lv_iload_n (pc := 284) hx hb dX5_pass_284 rfl (lv_at hl 0 rfl) ?_
          obtain ⟨x285, e285, hf⟩ := z_bd hf
          refine z_cpI (pc := 285) S (m_X5_nearest l X a D Q x281 e285) (cwV 1 hts gX5_pass_X5_nearest rfl rfl rfl hdX5_nearest ⟨Nat.le_of_ble_eq_true rfl, Nat.le_of_ble_eq_true rfl⟩) hP hK hN z_S_W (ci := 5) rfl rfl rfl (show kc ≤ 28 ∧ ks ≤ 364 from ⟨by omega, by omega⟩) rfl hl.1 rfl (Nat.le_of_ble_eq_true rfl) dX5_pass_285 ?_
          refine lv_istore_n (pc := 288) (lv' := [(3, .int x285), (2, .int x281), (0, .ref a), (1, .int u1)]) hx hb dX5_pass_288 rfl hl (by decide) rfl (fun ls hl => ?_)
          refine lv_aload_n (pc := 289) hx hb dX5_pass_289 rfl (lv_at hl 2 rfl) ?_
          refine va_get (pc := 290) (ci := 5) (C := RX5) (T := TX5) (N := 9) (v := .ref D.1.2.1) hx hb hts in_X5 hown hK hP _ zg_0 rfl 1 (by decide) lk_fi15 (fun _ h9 => h9) rfl dX5_pass_290 ?_
          refine lv_iload_n (pc := 293) hx hb dX5_pass_293 rfl (lv_at hl 0 rfl) ?_
          obtain ⟨x294, e294, hf⟩ := z_bd hf
          refine z_aald (pc := 294) hx hb hK hP _ 2 zg_2 rfl e294 dX5_pass_294 ?_
          refine lv_iconst (v := 4) (pc := 295) hx hb dX5_pass_295 (by decide) ?_
          refine lv_aload_n (pc := 296) hx hb dX5_pass_296 rfl (lv_at hl 2 rfl) ?_
          refine lv_iload_n (pc := 297) hx hb dX5_pass_297 rfl (lv_at hl 0 rfl) ?_
          refine lv_iload_n (pc := 298) hx hb dX5_pass_298 rfl (lv_at hl 1 rfl) ?_
          obtain ⟨x299, e299, hf⟩ := z_bd hf
          refine z_cpI (pc := 299) S (m_X5_way l X a D Q x285 x281 e299) (cwV 2 hts gX5_pass_X5_way rfl rfl rfl hdX5_way ⟨Nat.le_of_ble_eq_true rfl, Nat.le_of_ble_eq_true rfl⟩) hP hK hN z_S_W (ci := 5) rfl rfl rfl (show kc ≤ 28 ∧ ks ≤ 364 from ⟨by omega, by omega⟩) rfl hl.1 rfl (Nat.le_of_ble_eq_true rfl) dX5_pass_299 ?_
          obtain ⟨x302, e302, hf⟩ := z_bd hf
          refine z_iast (pc := 302) (W1 := (z_W [] X a D (z_qV Q x294 x302) [])) hx hb hK hP hD hS _ 0 (zg_v (z_ai_lt e294)) rfl e302 (zs_v (z_ai_lt e294)) dX5_pass_302 (fun H locs hP hD hS => ?_)
          refine lv_aload_n (pc := 303) hx hb dX5_pass_303 rfl (lv_at hl 2 rfl) ?_
          refine va_get (pc := 304) (ci := 5) (C := RX5) (T := TX5) (N := 9) (v := .ref D.1.2.1) hx hb hts in_X5 hown hK hP _ zg_0 rfl 1 (by decide) lk_fi15 (fun _ h9 => h9) rfl dX5_pass_304 ?_
          refine lv_iload_n (pc := 307) hx hb dX5_pass_307 rfl (lv_at hl 0 rfl) ?_
          refine z_aald (pc := 308) hx hb hK hP _ 2 zg_2 rfl e294 dX5_pass_308 ?_
          refine lv_iconst (v := 2) (pc := 309) hx hb dX5_pass_309 (by decide) ?_
          refine lv_iload_n (pc := 310) hx hb dX5_pass_310 rfl (lv_at hl 1 rfl) ?_
          obtain ⟨x311, e311, hf⟩ := z_bd hf
          refine z_iast (pc := 311) (W1 := (z_W [] X a D (z_qV (z_qV Q x294 x302) x294 x311) [])) hx hb hK hP hD hS _ 0 (zg_v (z_ai_lt e294)) rfl e311 (zs_v (z_ai_lt e294)) dX5_pass_311 (fun H locs hP hD hS => ?_)
          refine lv_aload_n (pc := 312) hx hb dX5_pass_312 rfl (lv_at hl 2 rfl) ?_
          refine lv_iload_n (pc := 313) hx hb dX5_pass_313 rfl (lv_at hl 1 rfl) ?_
          obtain ⟨x314, e314, hf⟩ := z_bd hf
          refine z_ckV (pc := 314) (wl := []) (wr := []) S (m_X5_up l X a D (z_qV (z_qV Q x294 x302) x294 x311) x281 e314) (cwV 1 hts gX5_pass_X5_up rfl rfl rfl hdX5_up ⟨Nat.le_of_ble_eq_true rfl, Nat.le_of_ble_eq_true rfl⟩) hP hK hN hA2 hD hS hA (ci := 5) rfl rfl rfl (show kc + 1 ≤ 28 ∧ ks + 13 ≤ 364 from ⟨by omega, by omega⟩) rfl hl.1 rfl (Nat.le_of_ble_eq_true rfl) dX5_pass_314 (fun u H locs hpost hP hD hS => ?_)
          obtain ⟨D314, rfl⟩ := hpost
          have hP : va_P X.1 vwCl (z_W [] X a D314 x314 []) H := hP
          have hD : va_D A (z_W [] X a D314 x314 []) := hD
          refine lv_goto (pc := 317) (tgt := 255) hx hb dX5_pass_317 (by decide) ?_
          exact ih kC kS (kc + 1) (ks + 13) (by omega) D314 u1 x314 T H locs hP hD hS ls (lv_sub hl [2, 3] rfl) hf kk
  suffices hgo : ∀ (H : Heap) (locs : List Loc), va_P X.1 vwCl (z_W [] X a D Q []) H → va_D A (z_W [] X a D Q []) → va_S A s.heap H locs → W p l e (headSpec wsX5_pass (z_R2 3 72 28 364)).room s m ([.ref a] : List Value).toArray below meth c H locs 0 0 (MQ below (va_Qi (fun (z : Int32) (u : va_W) => z = RR.1 ∧ ∃ D1 : z_D, u = z_wS X a D1 RR.2) (z_Bm X A) A) ([.ref a] : List Value).toArray s 28 364 A) (F0 m 0 ls []) from hgo _ _ hP hD hS
  clear hP hD hS
  intro H locs hP hD hS
  unfold f_X5_pass at hf
  refine lv_aload_n (pc := 0) hx hb dX5_pass_0 rfl (lv_at hl 0 rfl) ?_
  refine va_get (pc := 1) (ci := 5) (C := RX5) (T := TX5) (N := 9) (v := .int (Q.1 2)) hx hb hts in_X5 hown hK hP _ zg_0 rfl 5 (by decide) lk_fi33 (fun _ h9 => h9) rfl dX5_pass_1 ?_
  refine lv_istore_n (pc := 4) (lv' := [(1, .int (Q.1 2)), (0, .ref a)]) hx hb dX5_pass_4 rfl hl (by decide) rfl (fun ls hl => ?_)
  refine lv_iconst (v := 0) (pc := 5) hx hb dX5_pass_5 (by decide) ?_
  refine lv_istore_n (pc := 6) (lv' := [(2, .int 0), (1, .int (Q.1 2)), (0, .ref a)]) hx hb dX5_pass_6 rfl hl (by decide) rfl (fun ls hl => ?_)
  obtain ⟨x7, e7, hf⟩ := z_bd hf
  refine lp_7 z_F14 (0 + 14) (0 + 182) 0 0 (by rw [show z_F14 = 14 from rfl]; omega) D (Q.1 2) 0 Q x7 H locs hP hD hS ls (lv_sub hl [2, 1, 0] rfl) e7 (fun k7 s7 hk7 D7 H locs hP hD hS ls hl => ?_)
  refine lv_iconst (v := 0) (pc := 109) hx hb dX5_pass_109 (by decide) ?_
  refine lv_istore_n (pc := 110) (lv' := [(2, .int 0), (0, .ref a), (1, .int x7.1)]) hx hb dX5_pass_110 rfl hl (by decide) rfl (fun ls hl => ?_)
  obtain ⟨x111, e111, hf⟩ := z_bd hf
  refine lp_111 z_F14 k7 s7 (by omega) D7 x7.1 0 x7.2 x111 H locs hP hD hS ls (lv_sub hl [1, 2, 0] rfl) e111 (fun H locs hP hD hS ls hl => ?_)
  obtain ⟨x255, e255, hf⟩ := z_bd hf
  refine lp_255 z_F14 (k7 + 14) (s7 + 182) k7 s7 (by rw [show z_F14 = 14 from rfl]; omega) D7 x111.1 x111.2 x255 H locs hP hD hS ls (lv_sub hl [0, 1] rfl) e255 (fun k255 s255 hk255 D255 H locs hP hD hS ls hl => ?_)
  refine lv_aload_n (pc := 320) hx hb dX5_pass_320 rfl (lv_at hl 0 rfl) ?_
  refine lv_dup (pc := 321) hx hb dX5_pass_321 rfl ?_
  refine va_get (pc := 322) (ci := 5) (C := RX5) (T := TX5) (N := 9) (v := .int (x255.2.1 0)) hx hb hts in_X5 hown hK hP _ zg_0 rfl 3 (by decide) lk_fi30 (fun _ h9 => h9) rfl dX5_pass_322 ?_
  refine lv_iconst (v := 1) (pc := 325) hx hb dX5_pass_325 (by decide) ?_
  refine lv_iadd (pc := 326) hx hb dX5_pass_326 ?_
  refine z_put (pc := 327) (ci := 5) (C := RX5) (T := TX5) (N := 9) (W1 := (z_W [] X a D255 (z_qS x255.2 0 ((x255.2.1 0) + 1)) [])) hx hb hts in_X5 tyX5 tyX5_ok nmX5 hown hK hP hD hS _ zg_0 rfl 3 (by decide) lk_fi30 (fun _ h9 => h9) rfl (by decide +kernel) (Nat.le_of_ble_eq_true rfl) dX5_pass_327 (zs_0 (j := 0) rfl) (fun H locs hP hD hS => ?_)
  refine lv_aload_n (pc := 330) hx hb dX5_pass_330 rfl (lv_at hl 0 rfl) ?_
  refine va_get (pc := 331) (ci := 5) (C := RX5) (T := TX5) (N := 9) (v := .int (x255.2.1 2)) hx hb hts in_X5 hown hK hP _ zg_0 rfl 5 (by decide) lk_fi33 (fun _ h9 => h9) rfl dX5_pass_331 ?_
  refine lv_iload_n (pc := 334) hx hb dX5_pass_334 rfl (lv_at hl 1 rfl) ?_
  refine lv_isub (pc := 335) hx hb dX5_pass_335 ?_
  refine W.widen (k := 28) (n := 364) (by omega) (by omega) ?_
  exact W.iret (pc := 336) (v := ((x255.2.1 2) - x255.1)) hx hb hr (fun t ht hW => ⟨⟨_, (z_wS X a D255 (z_qS x255.2 0 ((x255.2.1 0) + 1))), rfl, ⟨z_e1 hf, D255, congrArg (fun z => z_wS X a D255 z) (z_e2 hf)⟩, by rw [ht]; exact z_P1 hP, z_D1 hD⟩, hS.F ht⟩) hS.2.2 dX5_pass_336
theorem hdX5_pass_ : yX5_pass_.cls = RX5 ∧ yX5_pass_.cls ≠ "java/lang/invoke/MethodHandle" ∧ yX5_pass_.cls ≠ "java/lang/invoke/VarHandle" ∧ (parseMethodDescriptor yX5_pass_.desc).map (fun d => d.parameters.length) = some 1 := by decide +kernel
def f_X5_pass__L4 : Nat → Int32 → Int32 → Int32 → z_Q → Option (Int32 × z_Q)
  | 0, _, _, _, _ => none
  | n + 1, u1, u2, u3, Q => (if u1 ≤ u3 then some (u2, Q) else (f_X5_pass Q).bind (fun x11 => f_X5_pass__L4 n u1 (u2 + x11.1) (u3 + 1) x11.2))
def f_X5_pass_ (Q : z_Q) (v1 : Int32) : Option (Int32 × z_Q) := (f_X5_pass__L4 z_FU v1 0 0 Q).bind (fun x4 => some (x4.1, x4.2))
set_option maxHeartbeats 4000000 in
set_option maxRecDepth 100000 in
theorem m_X5_pass_ (l : Launch) (X : z_X) (a : Nat) (D : z_D) (Q : z_Q) (v1 : Int32) {RR : (Int32 × z_Q)} (hf : f_X5_pass_ Q v1 = some RR) : z_kI l yX5_pass_ wsX5_pass_ 4 96 1792 23296 X [.ref a, .int v1] (z_wS X a D Q) (fun (z : Int32) (u : va_W) => z = RR.1 ∧ ∃ D1 : z_D, u = z_wS X a D1 RR.2) := by
  intro sz
  refine Met.ofW (cc := cX5_pass_) (maxL := 4) (ret := (some .int)) (by decide) rfl ?_
  intro p e s m args below meth c s₁ Bd hml hv
  obtain ⟨rfl, ⟨hsz, hP, hK, hN, hD0⟩, hA2⟩ := hv
  have hx := Bd.exec
  have hb := Bd.bytes
  have hr := Bd.returns
  have hts := atoms_spec (ws := wsX5_pass_) Bd.pre
  have hown : s.vm.findClass RX5 = some m.cls := findClass_of_methodNamed Bd.named
  have hlocks := Bd.notSynchronized
  have S : CallFix p m c cX5_pass_ 4 s _ wsX5_pass_ RX5 := ⟨hx, hb, hml, hown, hts⟩
  subst hsz
  have hD := hD0.self (sz := s.heap.size)
  generalize hAe : va_A (z_wS X a D Q) s.heap.size = A at hD ⊢
  have hA : ∀ q : Nat, s.heap.size ≤ q → A q := fun q h => by rw [← hAe]; exact Or.inr h
  have hS : va_S A s.heap s.heap [] := va_S.rf
  have hD : va_D A (z_W [] X a D Q []) := by unfold z_W; rw [List.append_nil]; exact hD
  have hP : va_P X.1 vwCl (z_W [] X a D Q []) s.heap := by unfold z_W; rw [List.append_nil]; exact hP
  have hl := lv_entry ([.ref a, .int v1]) (n := 4) (Nat.le_of_ble_eq_true rfl)
  rw [lg_entry_eq]
  generalize (lg_sl ([.ref a, .int v1]) ++ List.replicate (4 - (lg_sl ([.ref a, .int v1])).length) Slot.unset).toArray = ls at hl ⊢
  have hl : lv_has ls 4 [(0, .ref a), (1, .int v1)] := hl
  have lp_4 : ∀ (n : Nat) (kC kS kc ks : Nat) (hk : (kc + n * 28 ≤ kC ∧ ks + n * 364 ≤ kS) ∧ kC ≤ 1792 ∧ kS ≤ 23296) (D : z_D) (u1 : Int32) (u2 : Int32) (u3 : Int32) (Q : z_Q) (T : (Int32 × z_Q)) (H : Heap) (locs : List Loc), va_P X.1 vwCl (z_W [] X a D Q []) H → va_D A (z_W [] X a D Q []) → va_S A s.heap H locs → ∀ (ls : Array Slot), lv_has ls 4 [(0, .ref a), (1, .int u1), (2, .int u2), (3, .int u3)] → f_X5_pass__L4 n u1 u2 u3 Q = some T → (∀ (k1 s1 : Nat) (_ : k1 ≤ kC ∧ s1 ≤ kS) (D1 : z_D) (H : Heap) (locs : List Loc), va_P X.1 vwCl (z_W [] X a D1 T.2 []) H → va_D A (z_W [] X a D1 T.2 []) → va_S A s.heap H locs → ∀ (ls : Array Slot), lv_has ls 4 [(2, .int T.1)] → W p l e (headSpec wsX5_pass_ (z_R2 4 96 1792 23296)).room s m ([.ref a, .int v1] : List Value).toArray below meth c H locs k1 s1 (MQ below (va_Qi (fun (z : Int32) (u : va_W) => z = RR.1 ∧ ∃ D1 : z_D, u = z_wS X a D1 RR.2) (z_Bm X A) A) ([.ref a, .int v1] : List Value).toArray s 1792 23296 A) (F0 m 22 ls [])) → W p l e (headSpec wsX5_pass_ (z_R2 4 96 1792 23296)).room s m ([.ref a, .int v1] : List Value).toArray below meth c H locs kc ks (MQ below (va_Qi (fun (z : Int32) (u : va_W) => z = RR.1 ∧ ∃ D1 : z_D, u = z_wS X a D1 RR.2) (z_Bm X A) A) ([.ref a, .int v1] : List Value).toArray s 1792 23296 A) (F0 m 4 ls []) := by
    intro n
    induction n with
    | zero =>
      intro kC kS kc ks hk D u1 u2 u3 Q T H locs hP hD hS ls hl hf kk
      cases hf
    | succ n ih =>
      intro kC kS kc ks hk D u1 u2 u3 Q T H locs hP hD hS ls hl hf kk
      rw [f_X5_pass__L4] at hf
      refine lv_iload_n (pc := 4) hx hb dX5_pass__4 rfl (lv_at hl 3 rfl) ?_
      refine lv_iload_n (pc := 5) hx hb dX5_pass__5 rfl (lv_at hl 1 rfl) ?_
      refine lv_icmp_ge (pc := 6) (tgt := 22) hx hb dX5_pass__6 (by decide) (fun c_6 => ?_) (fun c_6 => ?_)
      · replace hf := z_ip c_6 hf
        obtain rfl := Option.some.inj hf
        exact kk kc ks (by omega) D H locs hP hD hS ls (lv_sub hl [2] rfl)
      · replace hf := z_in c_6 hf
        refine lv_iload_n (pc := 9) hx hb dX5_pass__9 rfl (lv_at hl 2 rfl) ?_
        refine lv_aload_n (pc := 10) hx hb dX5_pass__10 rfl (lv_at hl 0 rfl) ?_
        obtain ⟨x11, e11, hf⟩ := z_bd hf
        refine z_ckI (pc := 11) (wl := []) (wr := []) S (m_X5_pass l X a D Q  e11) (cwV 0 hts gX5_pass__X5_pass rfl rfl rfl hdX5_pass ⟨Nat.le_of_ble_eq_true rfl, Nat.le_of_ble_eq_true rfl⟩) hP hK hN hA2 hD hS hA (ci := 5) rfl rfl rfl (show kc + 28 ≤ 1792 ∧ ks + 364 ≤ 23296 from ⟨by omega, by omega⟩) rfl hl.1 rfl (Nat.le_of_ble_eq_true rfl) dX5_pass__11 (fun z u H locs hpost hP hD hS => ?_)
        obtain ⟨rfl, D11, rfl⟩ := hpost
        have hP : va_P X.1 vwCl (z_W [] X a D11 x11.2 []) H := hP
        have hD : va_D A (z_W [] X a D11 x11.2 []) := hD
        refine lv_iadd (pc := 14) hx hb dX5_pass__14 ?_
        refine lv_istore_n (pc := 15) (lv' := [(2, .int (u2 + x11.1)), (0, .ref a), (1, .int u1), (3, .int u3)]) hx hb dX5_pass__15 rfl hl (by decide) rfl (fun ls hl => ?_)
        refine lv_iinc (pc := 16) (v := (u3 + 1)) (lv' := [(3, .int (u3 + 1)), (2, .int (u2 + x11.1)), (0, .ref a), (1, .int u1)]) hx hb dX5_pass__16 hl (k := 3) rfl rfl (by decide) rfl (fun ls hl => ?_)
        refine lv_goto (pc := 19) (tgt := 4) hx hb dX5_pass__19 (by decide) ?_
        exact ih kC kS (kc + 28) (ks + 364) (by omega) D11 u1 (u2 + x11.1) (u3 + 1) x11.2 T H locs hP hD hS ls (lv_sub hl [2, 3, 1, 0] rfl) hf kk
  suffices hgo : ∀ (H : Heap) (locs : List Loc), va_P X.1 vwCl (z_W [] X a D Q []) H → va_D A (z_W [] X a D Q []) → va_S A s.heap H locs → W p l e (headSpec wsX5_pass_ (z_R2 4 96 1792 23296)).room s m ([.ref a, .int v1] : List Value).toArray below meth c H locs 0 0 (MQ below (va_Qi (fun (z : Int32) (u : va_W) => z = RR.1 ∧ ∃ D1 : z_D, u = z_wS X a D1 RR.2) (z_Bm X A) A) ([.ref a, .int v1] : List Value).toArray s 1792 23296 A) (F0 m 0 ls []) from hgo _ _ hP hD hS
  clear hP hD hS
  intro H locs hP hD hS
  unfold f_X5_pass_ at hf
  refine lv_iconst (v := 0) (pc := 0) hx hb dX5_pass__0 (by decide) ?_
  refine lv_istore_n (pc := 1) (lv' := [(2, .int 0), (0, .ref a), (1, .int v1)]) hx hb dX5_pass__1 rfl hl (by decide) rfl (fun ls hl => ?_)
  refine lv_iconst (v := 0) (pc := 2) hx hb dX5_pass__2 (by decide) ?_
  refine lv_istore_n (pc := 3) (lv' := [(3, .int 0), (2, .int 0), (0, .ref a), (1, .int v1)]) hx hb dX5_pass__3 rfl hl (by decide) rfl (fun ls hl => ?_)
  obtain ⟨x4, e4, hf⟩ := z_bd hf
  refine lp_4 z_FU (0 + 1792) (0 + 23296) 0 0 (by rw [show z_FU = 64 from rfl]; omega) D v1 0 0 Q x4 H locs hP hD hS ls (lv_sub hl [2, 3, 1, 0] rfl) e4 (fun k4 s4 hk4 D4 H locs hP hD hS ls hl => ?_)
  refine lv_iload_n (pc := 22) hx hb dX5_pass__22 rfl (lv_at hl 0 rfl) ?_
  refine W.widen (k := 1792) (n := 23296) (by omega) (by omega) ?_
  exact W.iret (pc := 23) (v := x4.1) hx hb hr (fun t ht hW => ⟨⟨_, (z_wS X a D4 x4.2), rfl, ⟨z_e1 hf, D4, congrArg (fun z => z_wS X a D4 z) (z_e2 hf)⟩, by rw [ht]; exact z_P1 hP, z_D1 hD⟩, hS.F ht⟩) hS.2.2 dX5_pass__23
