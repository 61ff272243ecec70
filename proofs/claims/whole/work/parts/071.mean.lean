-- doubles: a quotient that is a number
def z_dd (x y : UInt64) : Option UInt64 := if FP.ddiv x y &&& 0x7fffffffffffffff ≤ 0x7ff0000000000000 then some (FP.ddiv x y) else none
theorem z_dd_s {x y z : UInt64} (h : z_dd x y = some z) : vf_n64 (FP.ddiv x y) ∧ FP.ddiv x y = z := by
  unfold z_dd at h
  by_cases hc : FP.ddiv x y &&& 0x7fffffffffffffff ≤ 0x7ff0000000000000
  · rw [if_pos hc] at h; exact ⟨hc, Option.some.inj h⟩
  · rw [if_neg hc] at h; cases h
theorem z_ddiv {p : Program} {l : Launch} {e : Env} {R : Room} {s : State} {m : MethodId} {args : Array Value} {below : List Frame} {meth : Method} {c : Code} {H : Heap} {locs : List Loc} {cells slots : Nat} {Q : State → Prop} {cc : ByteArray} {pc : Nat} {ls : Array Slot} {rest : List Value} (hexec : p.tables.exec = Jvm.exec) (hb : c.code = cc) {x y z : UInt64} (h : z_dd x y = some z) (hdg : decode cc pc = .ok (.ddiv, 1)) (kk : W p l e R s m args below meth c H locs cells slots Q (F0 m (pc + 1) ls (.double z :: rest))) : W p l e R s m args below meth c H locs cells slots Q (F0 m pc ls (.double y :: .double x :: rest)) := by
  obtain ⟨h1, h2⟩ := z_dd_s h
  refine lv_ddiv hexec hb hdg h1 ?_
  rw [h2]; exact kk
def z_mD (l : Launch) (y : MethodName) (ws : List Cond) (fr lo : Nat) (X : z_X) (av : List Value) (w : va_W) (r : UInt64) (w' : va_W) : Prop := ∀ sz : Nat, Met l y ws (z_R fr lo) (va_Pc av (z_Pm X w sz)) (va_Qd (fun (z : UInt64) (u : va_W) => z = r ∧ u = w') (z_Bm X (va_A w sz)) (va_A w sz)) 0 0 (va_A w sz)
section ZC
variable {p : Program} {l : Launch} {e : Env} {R : Room} {s : State} {m : MethodId} {args : Array Value} {below : List Frame} {meth : Method} {c : Code} {H : Heap} {locs : List Loc} {cells slots : Nat} {Q : State → Prop}
variable {y : MethodName} {bytes cc : ByteArray} {maxL nL n index fr lo : Nat} {ret : Option FieldType} {ws : List Cond} {Ts : List Cond} {own C : String} {b : Addr} {As rest st0 : List Value} {ls : Array Slot} {pc : Nat} {X : z_X} {W0 wc : va_W} {A : Nat → Prop} {H0 : Heap}
theorem z_cmD {r : UInt64} {W1 wc1 : va_W} {ci : Nat} {q : vw_C} {fs : List Value} (S : CallFix p m c cc nL s args Ts own) (hM : z_mD l y ws fr lo X (.ref b :: As) wc r wc1) (cw : CallW R s args own C index y bytes maxL ret ws (z_R fr lo) 0 0 n) (hP : va_P X.1 vwCl W0 H) (hK : va_K X.1 vwCl (z_ty X) s) (hN : z_N s) (hD : va_D A W0) (hS : va_S A H0 H locs) (hA : ∀ q, H0.size ≤ q → A q) (hs : z_S W0 wc) (hF : z_F W0 wc W1 wc1) (hc : vwCl[ci]? = some q) (hq : q.1 = C) (he : wc[0]? = some (b, .inr (ci, fs))) (hf : cells ≤ R.cells ∧ slots ≤ R.slots) (hn : As.length = n) (hsz : ls.size = nL) (hst : st0 = As.reverse ++ .ref b :: rest) (hW : (rest.map fun v => v.category).sum ≤ 8) (hdg : decode cc pc = .ok (.invokevirtual index, 3)) (kk : ∀ (H1 : Heap) (locs1 : List Loc), va_P X.1 vwCl W1 H1 → va_D A W1 → va_S A H0 H1 locs1 → W p l e R s m args below meth c H1 locs1 cells slots Q (F0 m (pc + 3) ls (.double r :: rest))) : W p l e R s m args below meth c H locs cells slots Q (F0 m pc ls st0) := by
  have hfr := hs.free hD hS hA
  refine va_calld (va_runV (rest := rest) S (hM H.size) cw ⟨z_bm _ _ _ _, z_recv hP hK hN hs hc hq he, z_prem hP hK hN hD hs _⟩ rfl hn hsz hst (lv_room hW) hdg hf) hS (fun q _ h => hfr q h) hfr (fun z u t H1 locs1 ht hvm hw hB hz1 hk1 hS1 => ?_)
  obtain ⟨rfl, rfl⟩ := hw
  obtain ⟨hP1, hD1⟩ := hB
  rw [ht] at hP1
  obtain ⟨a, b⟩ := z_join hF hP hD hk1 hfr hP1 hD1
  exact kk H1 locs1 a b hS1
end ZC

theorem hdX4_meanWait : yX4_meanWait.cls = RX4 ∧ yX4_meanWait.cls ≠ "java/lang/invoke/MethodHandle" ∧ yX4_meanWait.cls ≠ "java/lang/invoke/VarHandle" ∧ (parseMethodDescriptor yX4_meanWait.desc).map (fun d => d.parameters.length) = some 0 := by decide +kernel
theorem hdX5_meanWait : yX5_meanWait.cls = RX5 ∧ yX5_meanWait.cls ≠ "java/lang/invoke/MethodHandle" ∧ yX5_meanWait.cls ≠ "java/lang/invoke/VarHandle" ∧ (parseMethodDescriptor yX5_meanWait.desc).map (fun d => d.parameters.length) = some 0 := by decide +kernel
def f_X4_meanWait_L6 (B : z_B) : Nat → Int32 → Int32 → Int32 → Option (Int32 × Int32)
  | 0, _, _, _ => none
  | n + 1, u1, u2, u3 => (if (B.1.1 1) ≤ u3 then some (u1, u2) else (if (f_X0_isWaiting B.1 u3) = 0 then f_X4_meanWait_L6 B n u1 u2 (u3 + 1) else f_X4_meanWait_L6 B n (u1 + (z_rg (B.1.2.1 5) u3)) (u2 + 1) (u3 + 1)))
def f_X4_meanWait (B : z_B) : Option UInt64 := (f_X4_meanWait_L6 B z_FU 0 0 0).bind (fun x6 => (if x6.2 = 0 then some FP.dconst0 else (z_dd (FP.i2d x6.1) (FP.i2d x6.2)).bind (fun x63 => some x63)))
set_option maxHeartbeats 4000000 in
set_option maxRecDepth 100000 in
theorem m_X4_meanWait (l : Launch) (X : z_X) (a : Nat) (d d2 : Nat → Nat) (B : z_B) {RR : UInt64} (hf : f_X4_meanWait B = some RR) : z_pD l yX4_meanWait wsX4_meanWait 2 42 X [.ref a] (z_wB X a d d2 B) RR := by
  refine Met.ofW (cc := cX4_meanWait) (maxL := 4) (ret := (some .double)) (by decide) rfl ?_
  intro p e s m args below meth c s₁ Bd hml hv
  obtain ⟨rfl, hP, hK, hN⟩ := hv
  have hx := Bd.exec
  have hb := Bd.bytes
  have hr := Bd.returns
  have hts := atoms_spec (ws := wsX4_meanWait) Bd.pre
  have hown : s.vm.findClass RX4 = some m.cls := findClass_of_methodNamed Bd.named
  have hlocks := Bd.notSynchronized
  have S : CallFix p m c cX4_meanWait 4 s _ wsX4_meanWait RX4 := ⟨hx, hb, hml, hown, hts⟩
  have lk_fi10 := hts (.fieldLink RX4 10 "HouseBells" "house" "LHouseBells$House;") (List.mem_of_getElem? (i := 1) rfl)
  have in_X0 : ∀ w ∈ wsX00, w ∈ wsX4_meanWait := fun _ h => (List.mem_cons_of_mem _ (List.mem_append_left _ (List.mem_append_right _ h)))
  have in_X4 : ∀ w ∈ wsX40, w ∈ wsX4_meanWait := fun _ h => (List.mem_cons_of_mem _ (List.mem_append_left _ (List.mem_append_left _ (List.mem_append_right _ h))))
  have hl := lv_entry ([.ref a]) (n := 4) (Nat.le_of_ble_eq_true rfl)
  rw [lg_entry_eq]
  generalize (lg_sl ([.ref a]) ++ List.replicate (4 - (lg_sl ([.ref a])).length) Slot.unset).toArray = ls at hl ⊢
  have hl : lv_has ls 4 [(0, .ref a)] := hl
  have lp_6 : ∀ (n : Nat) (u1 : Int32) (u2 : Int32) (u3 : Int32) (T : (Int32 × Int32)) (ls : Array Slot), lv_has ls 4 [(0, .ref a), (1, .int u1), (2, .int u2), (3, .int u3)] → f_X4_meanWait_L6 B n u1 u2 u3 = some T → (∀ (ls : Array Slot), lv_has ls 4 [(1, .int T.1), (2, .int T.2)] → W p l e (headSpec wsX4_meanWait (z_R 2 42)).room s m ([.ref a] : List Value).toArray below meth c s.heap [] 0 0 (MQ below (vp_Sd (fun z => z = RR)) ([.ref a] : List Value).toArray s 0 0 (fun _ => False)) (F0 m 51 ls [])) → W p l e (headSpec wsX4_meanWait (z_R 2 42)).room s m ([.ref a] : List Value).toArray below meth c s.heap [] 0 0 (MQ below (vp_Sd (fun z => z = RR)) ([.ref a] : List Value).toArray s 0 0 (fun _ => False)) (F0 m 6 ls []) := by
    intro n
    induction n with
    | zero =>
      intro u1 u2 u3 T ls hl hf kk
      cases hf
    | succ n ih =>
      intro u1 u2 u3 T ls hl hf kk
      rw [f_X4_meanWait_L6] at hf
      refine lv_iload_n (pc := 6) hx hb dX4_meanWait_6 rfl (lv_at hl 3 rfl) ?_
      refine lv_aload_n (pc := 7) hx hb dX4_meanWait_7 rfl (lv_at hl 0 rfl) ?_
      refine va_get (pc := 8) (ci := 4) (C := RX4) (T := TX4) (N := 2) hx hb hts in_X4 hown hK hP 0 rfl rfl 0 (by decide) lk_fi10 (fun _ h9 => h9) rfl dX4_meanWait_8 ?_
      refine va_getN (pc := 11) (ci := 0) (C := RX0) (T := TX0) (N := 15) hx hb hts in_X0 hown hK hP 1 rfl rfl 1 (by decide) (z_n13 hN) (fun _ h9 => h9) rfl dX4_meanWait_11 ?_
      refine lv_icmp_ge (pc := 14) (tgt := 51) hx hb dX4_meanWait_14 (by decide) (fun c_14 => ?_) (fun c_14 => ?_)
      · replace hf := z_ip c_14 hf
        obtain rfl := Option.some.inj hf
        exact kk ls (lv_sub hl [1, 2] rfl)
      · replace hf := z_in c_14 hf
        refine lv_aload_n (pc := 17) hx hb dX4_meanWait_17 rfl (lv_at hl 0 rfl) ?_
        refine va_get (pc := 18) (ci := 4) (C := RX4) (T := TX4) (N := 2) hx hb hts in_X4 hown hK hP 0 rfl rfl 0 (by decide) lk_fi10 (fun _ h9 => h9) rfl dX4_meanWait_18 ?_
        refine lv_iload_n (pc := 21) hx hb dX4_meanWait_21 rfl (lv_at hl 3 rfl) ?_
        refine z_cpI (pc := 22) S (m_X0_isWaiting l X d B.1 u3 rfl) (cwV 1 hts gX4_meanWait_X0_isWaiting rfl rfl rfl hdX0_isWaiting ⟨Nat.le_of_ble_eq_true rfl, Nat.le_of_ble_eq_true rfl⟩) hP hK hN (s_B_H1 X a d d2 B) (ci := 0) rfl rfl rfl ⟨Nat.le_of_ble_eq_true rfl, Nat.le_of_ble_eq_true rfl⟩ rfl hl.1 rfl (Nat.le_of_ble_eq_true rfl) dX4_meanWait_22 ?_
        refine lv_if_eq (pc := 25) (tgt := 45) hx hb dX4_meanWait_25 (by decide) (fun c_25 => ?_) (fun c_25 => ?_)
        · replace hf := z_ip c_25 hf
          refine lv_iinc (pc := 45) (v := (u3 + 1)) (lv' := [(3, .int (u3 + 1)), (0, .ref a), (1, .int u1), (2, .int u2)]) hx hb dX4_meanWait_45 hl (k := 3) rfl rfl (by decide) rfl (fun ls hl => ?_)
          refine lv_goto (pc := 48) (tgt := 6) hx hb dX4_meanWait_48 (by decide) ?_
          exact ih u1 u2 (u3 + 1) T ls (lv_sub hl [1, 2, 3, 0] rfl) hf kk
        · replace hf := z_in c_25 hf
          refine lv_iload_n (pc := 28) hx hb dX4_meanWait_28 rfl (lv_at hl 1 rfl) ?_
          refine lv_aload_n (pc := 29) hx hb dX4_meanWait_29 rfl (lv_at hl 0 rfl) ?_
          refine va_get (pc := 30) (ci := 4) (C := RX4) (T := TX4) (N := 2) hx hb hts in_X4 hown hK hP 0 rfl rfl 0 (by decide) lk_fi10 (fun _ h9 => h9) rfl dX4_meanWait_30 ?_
          refine va_getN (pc := 33) (ci := 0) (C := RX0) (T := TX0) (N := 15) hx hb hts in_X0 hown hK hP 1 rfl rfl 12 (by decide) (z_n22 hN) (fun _ h9 => h9) rfl dX4_meanWait_33 ?_
          refine lv_iload_n (pc := 36) hx hb dX4_meanWait_36 rfl (lv_at hl 3 rfl) ?_
          refine z_cpI (pc := 37) S (m_X2_get l X (d 11) (d 12) (B.1.2.1 5) u3) (cwV 1 hts gX4_meanWait_X2_get rfl rfl rfl hdX2_get ⟨Nat.le_of_ble_eq_true rfl, Nat.le_of_ble_eq_true rfl⟩) hP hK hN (s_B_R12 X a d d2 B) (ci := 2) rfl rfl rfl ⟨Nat.le_of_ble_eq_true rfl, Nat.le_of_ble_eq_true rfl⟩ rfl hl.1 rfl (Nat.le_of_ble_eq_true rfl) dX4_meanWait_37 ?_
          refine lv_iadd (pc := 40) hx hb dX4_meanWait_40 ?_
          refine lv_istore_n (pc := 41) (lv' := [(1, .int (u1 + (z_rg (B.1.2.1 5) u3))), (0, .ref a), (2, .int u2), (3, .int u3)]) hx hb dX4_meanWait_41 rfl hl (by decide) rfl (fun ls hl => ?_)
          refine lv_iinc (pc := 42) (v := (u2 + 1)) (lv' := [(2, .int (u2 + 1)), (1, .int (u1 + (z_rg (B.1.2.1 5) u3))), (0, .ref a), (3, .int u3)]) hx hb dX4_meanWait_42 hl (k := 2) rfl rfl (by decide) rfl (fun ls hl => ?_)
          refine lv_iinc (pc := 45) (v := (u3 + 1)) (lv' := [(3, .int (u3 + 1)), (2, .int (u2 + 1)), (1, .int (u1 + (z_rg (B.1.2.1 5) u3))), (0, .ref a)]) hx hb dX4_meanWait_45 hl (k := 3) rfl rfl (by decide) rfl (fun ls hl => ?_)
          refine lv_goto (pc := 48) (tgt := 6) hx hb dX4_meanWait_48 (by decide) ?_
          exact ih (u1 + (z_rg (B.1.2.1 5) u3)) (u2 + 1) (u3 + 1) T ls (lv_sub hl [3, 2, 1, 0] rfl) hf kk
  unfold f_X4_meanWait at hf
  refine lv_iconst (v := 0) (pc := 0) hx hb dX4_meanWait_0 (by decide) ?_
  refine lv_istore_n (pc := 1) (lv' := [(1, .int 0), (0, .ref a)]) hx hb dX4_meanWait_1 rfl hl (by decide) rfl (fun ls hl => ?_)
  refine lv_iconst (v := 0) (pc := 2) hx hb dX4_meanWait_2 (by decide) ?_
  refine lv_istore_n (pc := 3) (lv' := [(2, .int 0), (1, .int 0), (0, .ref a)]) hx hb dX4_meanWait_3 rfl hl (by decide) rfl (fun ls hl => ?_)
  refine lv_iconst (v := 0) (pc := 4) hx hb dX4_meanWait_4 (by decide) ?_
  refine lv_istore_n (pc := 5) (lv' := [(3, .int 0), (2, .int 0), (1, .int 0), (0, .ref a)]) hx hb dX4_meanWait_5 rfl hl (by decide) rfl (fun ls hl => ?_)
  obtain ⟨x6, e6, hf⟩ := z_bd hf
  refine lp_6 z_FU 0 0 0 x6 ls (lv_sub hl [3, 2, 1, 0] rfl) e6 (fun ls hl => ?_)
  refine lv_iload_n (pc := 51) hx hb dX4_meanWait_51 rfl (lv_at hl 1 rfl) ?_
  refine lv_if_ne (pc := 52) (tgt := 59) hx hb dX4_meanWait_52 (by decide) (fun c_52 => ?_) (fun c_52 => ?_)
  · replace hf := z_in c_52 hf
    refine lv_iload_n (pc := 59) hx hb dX4_meanWait_59 rfl (lv_at hl 0 rfl) ?_
    refine lv_i2d (pc := 60) hx hb dX4_meanWait_60 ?_
    refine lv_iload_n (pc := 61) hx hb dX4_meanWait_61 rfl (lv_at hl 1 rfl) ?_
    refine lv_i2d (pc := 62) hx hb dX4_meanWait_62 ?_
    obtain ⟨x63, e63, hf⟩ := z_bd hf
    refine z_ddiv (pc := 63) hx hb e63 dX4_meanWait_63 ?_
    exact W.dret (pc := 64) (v := x63) hx hb hr (fun t ht hW => ⟨_, rfl, (Option.some.inj hf), ht⟩) (fun _ h => nomatch h) dX4_meanWait_64
  · replace hf := z_ip c_52 hf
    refine lv_dconst0 (pc := 55) hx hb dX4_meanWait_55 ?_
    refine lv_goto (pc := 56) (tgt := 64) hx hb dX4_meanWait_56 (by decide) ?_
    exact W.dret (pc := 64) (v := FP.dconst0) hx hb hr (fun t ht hW => ⟨_, rfl, (Option.some.inj hf), ht⟩) (fun _ h => nomatch h) dX4_meanWait_64
def f_X5_meanWait_L11  : Nat → Int32 → Int32 → Int32 → z_M → Option (Int32 × Int32 × z_M)
  | 0, _, _, _, _ => none
  | n + 1, u1, u2, u3, M => (if (M.1 1) ≤ u3 then some (u1, u2, M) else (z_at (M.2 6) (7 + u3) 55).bind (fun x27 => (if x27 = (-1) then f_X5_meanWait_L11 n u1 u2 (u3 + 1) M else (z_at (M.2 6) (7 + u3) 55).bind (fun x44 => f_X5_meanWait_L11 n (u1 + x44) (u2 + 1) (u3 + 1) M))))
def f_X5_meanWait (M : z_M) : Option (UInt64 × z_M) := (f_X5_meanWait_L11 z_FU 0 0 0 (z_mS M 0 0)).bind (fun x11 => (if x11.2.1 = 0 then some (FP.dconst0, x11.2.2) else (z_dd (FP.i2d x11.1) (FP.i2d x11.2.1)).bind (fun x68 => some (x68, x11.2.2))))
set_option maxHeartbeats 4000000 in
set_option maxRecDepth 100000 in
theorem m_X5_meanWait (l : Launch) (X : z_X) (d : Nat → Nat) (M : z_M) {RR : (UInt64 × z_M)} (hf : f_X5_meanWait M = some RR) : z_mD l yX5_meanWait wsX5_meanWait 0 0 X [.ref (d 0)] (z_wM X d M) RR.1 (z_wM X d RR.2) := by
  intro sz
  refine Met.ofW (cc := cX5_meanWait) (maxL := 4) (ret := (some .double)) (by decide) rfl ?_
  intro p e s m args below meth c s₁ Bd hml hv
  obtain ⟨rfl, hsz, hP, hK, hN, hD0⟩ := hv
  have hx := Bd.exec
  have hb := Bd.bytes
  have hr := Bd.returns
  have hts := atoms_spec (ws := wsX5_meanWait) Bd.pre
  have hown : s.vm.findClass RX5 = some m.cls := findClass_of_methodNamed Bd.named
  have hlocks := Bd.notSynchronized
  have S : CallFix p m c cX5_meanWait 4 s _ wsX5_meanWait RX5 := ⟨hx, hb, hml, hown, hts⟩
  have lk_fi35 := hts (.fieldLink RX5 35 "HouseBellsModel" "thrown" "I") (List.mem_of_getElem? (i := 1) rfl)
  have lk_fi39 := hts (.fieldLink RX5 39 "HouseBellsModel" "rooms" "I") (List.mem_of_getElem? (i := 2) rfl)
  have lk_fi29 := hts (.fieldLink RX5 29 "HouseBellsModel" "now" "[I") (List.mem_of_getElem? (i := 3) rfl)
  have in_X5 : ∀ w ∈ wsX50, w ∈ wsX5_meanWait := fun _ h => (List.mem_cons_of_mem _ (List.mem_append_right _ h))
  subst hsz
  have hD := hD0.self (sz := s.heap.size)
  generalize hAe : va_A (z_wM X d M) s.heap.size = A at hD ⊢
  have hA : ∀ q : Nat, s.heap.size ≤ q → A q := fun q h => by rw [← hAe]; exact Or.inr h
  have hS : va_S A s.heap s.heap [] := va_S.rf
  have hl := lv_entry ([.ref (d 0)]) (n := 4) (Nat.le_of_ble_eq_true rfl)
  rw [lg_entry_eq]
  generalize (lg_sl ([.ref (d 0)]) ++ List.replicate (4 - (lg_sl ([.ref (d 0)])).length) Slot.unset).toArray = ls at hl ⊢
  have hl : lv_has ls 4 [(0, .ref (d 0))] := hl
  have lp_11 : ∀ (n : Nat) (u1 : Int32) (u2 : Int32) (u3 : Int32) (M : z_M) (T : (Int32 × Int32 × z_M)) (H : Heap) (locs : List Loc), va_P X.1 vwCl (z_wM X d M) H → va_D A (z_wM X d M) → va_S A s.heap H locs → ∀ (ls : Array Slot), lv_has ls 4 [(0, .ref (d 0)), (1, .int u1), (2, .int u2), (3, .int u3)] → f_X5_meanWait_L11 n u1 u2 u3 M = some T → (∀ (H : Heap) (locs : List Loc), va_P X.1 vwCl (z_wM X d T.2.2) H → va_D A (z_wM X d T.2.2) → va_S A s.heap H locs → ∀ (ls : Array Slot), lv_has ls 4 [(1, .int T.1), (2, .int T.2.1)] → W p l e (headSpec wsX5_meanWait (z_R 0 0)).room s m ([.ref (d 0)] : List Value).toArray below meth c H locs 0 0 (MQ below (va_Qd (fun (z : UInt64) (u : va_W) => z = RR.1 ∧ u = (z_wM X d RR.2)) (z_Bm X A) A) ([.ref (d 0)] : List Value).toArray s 0 0 A) (F0 m 56 ls [])) → W p l e (headSpec wsX5_meanWait (z_R 0 0)).room s m ([.ref (d 0)] : List Value).toArray below meth c H locs 0 0 (MQ below (va_Qd (fun (z : UInt64) (u : va_W) => z = RR.1 ∧ u = (z_wM X d RR.2)) (z_Bm X A) A) ([.ref (d 0)] : List Value).toArray s 0 0 A) (F0 m 11 ls []) := by
    intro n
    induction n with
    | zero =>
      intro u1 u2 u3 M T H locs hP hD hS ls hl hf kk
      cases hf
    | succ n ih =>
      intro u1 u2 u3 M T H locs hP hD hS ls hl hf kk
      rw [f_X5_meanWait_L11] at hf
      refine lv_iload_n (pc := 11) hx hb dX5_meanWait_11 rfl (lv_at hl 3 rfl) ?_
      refine lv_aload_n (pc := 12) hx hb dX5_meanWait_12 rfl (lv_at hl 0 rfl) ?_
      refine va_get (pc := 13) (ci := 5) (C := RX5) (T := TX5) (N := 11) hx hb hts in_X5 hown hK hP 0 rfl rfl 1 (by decide) lk_fi39 (fun _ h9 => h9) rfl dX5_meanWait_13 ?_
      refine lv_icmp_ge (pc := 16) (tgt := 56) hx hb dX5_meanWait_16 (by decide) (fun c_16 => ?_) (fun c_16 => ?_)
      · replace hf := z_ip c_16 hf
        obtain rfl := Option.some.inj hf
        exact kk H locs hP hD hS ls (lv_sub hl [1, 2] rfl)
      · replace hf := z_in c_16 hf
        refine lv_aload_n (pc := 19) hx hb dX5_meanWait_19 rfl (lv_at hl 0 rfl) ?_
        refine va_get (pc := 20) (ci := 5) (C := RX5) (T := TX5) (N := 11) hx hb hts in_X5 hown hK hP 0 rfl rfl 9 (by decide) lk_fi29 (fun _ h9 => h9) rfl dX5_meanWait_20 ?_
        refine lv_bipush (v := 7) (pc := 23) hx hb dX5_meanWait_23 (by decide) ?_
        refine lv_iload_n (pc := 25) hx hb dX5_meanWait_25 rfl (lv_at hl 3 rfl) ?_
        refine lv_iadd (pc := 26) hx hb dX5_meanWait_26 ?_
        obtain ⟨x27, e27, hf⟩ := z_bd hf
        refine z_iald (pc := 27) hx hb hK hP 7 0 rfl rfl e27 dX5_meanWait_27 ?_
        refine lv_iconst (v := (-1)) (pc := 28) hx hb dX5_meanWait_28 (by decide) ?_
        refine lv_icmp_ne (pc := 29) (tgt := 35) hx hb dX5_meanWait_29 (by decide) (fun c_29 => ?_) (fun c_29 => ?_)
        · replace hf := z_in c_29 hf
          refine lv_iload_n (pc := 35) hx hb dX5_meanWait_35 rfl (lv_at hl 1 rfl) ?_
          refine lv_aload_n (pc := 36) hx hb dX5_meanWait_36 rfl (lv_at hl 0 rfl) ?_
          refine va_get (pc := 37) (ci := 5) (C := RX5) (T := TX5) (N := 11) hx hb hts in_X5 hown hK hP 0 rfl rfl 9 (by decide) lk_fi29 (fun _ h9 => h9) rfl dX5_meanWait_37 ?_
          refine lv_bipush (v := 7) (pc := 40) hx hb dX5_meanWait_40 (by decide) ?_
          refine lv_iload_n (pc := 42) hx hb dX5_meanWait_42 rfl (lv_at hl 3 rfl) ?_
          refine lv_iadd (pc := 43) hx hb dX5_meanWait_43 ?_
          obtain ⟨x44, e44, hf⟩ := z_bd hf
          refine z_iald (pc := 44) hx hb hK hP 7 0 rfl rfl e44 dX5_meanWait_44 ?_
          refine lv_iadd (pc := 45) hx hb dX5_meanWait_45 ?_
          refine lv_istore_n (pc := 46) (lv' := [(1, .int (u1 + x44)), (0, .ref (d 0)), (2, .int u2), (3, .int u3)]) hx hb dX5_meanWait_46 rfl hl (by decide) rfl (fun ls hl => ?_)
          refine lv_iinc (pc := 47) (v := (u2 + 1)) (lv' := [(2, .int (u2 + 1)), (1, .int (u1 + x44)), (0, .ref (d 0)), (3, .int u3)]) hx hb dX5_meanWait_47 hl (k := 2) rfl rfl (by decide) rfl (fun ls hl => ?_)
          refine lv_iinc (pc := 50) (v := (u3 + 1)) (lv' := [(3, .int (u3 + 1)), (2, .int (u2 + 1)), (1, .int (u1 + x44)), (0, .ref (d 0))]) hx hb dX5_meanWait_50 hl (k := 3) rfl rfl (by decide) rfl (fun ls hl => ?_)
          refine lv_goto (pc := 53) (tgt := 11) hx hb dX5_meanWait_53 (by decide) ?_
          exact ih (u1 + x44) (u2 + 1) (u3 + 1) M T H locs hP hD hS ls (lv_sub hl [3, 2, 1, 0] rfl) hf kk
        · replace hf := z_ip c_29 hf
          refine lv_goto (pc := 32) (tgt := 50) hx hb dX5_meanWait_32 (by decide) ?_
          refine lv_iinc (pc := 50) (v := (u3 + 1)) (lv' := [(3, .int (u3 + 1)), (0, .ref (d 0)), (1, .int u1), (2, .int u2)]) hx hb dX5_meanWait_50 hl (k := 3) rfl rfl (by decide) rfl (fun ls hl => ?_)
          refine lv_goto (pc := 53) (tgt := 11) hx hb dX5_meanWait_53 (by decide) ?_
          exact ih u1 u2 (u3 + 1) M T H locs hP hD hS ls (lv_sub hl [1, 2, 3, 0] rfl) hf kk
  suffices hgo : ∀ (H : Heap) (locs : List Loc), va_P X.1 vwCl (z_wM X d M) H → va_D A (z_wM X d M) → va_S A s.heap H locs → W p l e (headSpec wsX5_meanWait (z_R 0 0)).room s m ([.ref (d 0)] : List Value).toArray below meth c H locs 0 0 (MQ below (va_Qd (fun (z : UInt64) (u : va_W) => z = RR.1 ∧ u = (z_wM X d RR.2)) (z_Bm X A) A) ([.ref (d 0)] : List Value).toArray s 0 0 A) (F0 m 0 ls []) from hgo _ _ hP hD hS
  clear hP hD hS
  intro H locs hP hD hS
  unfold f_X5_meanWait at hf
  refine lv_aload_n (pc := 0) hx hb dX5_meanWait_0 rfl (lv_at hl 0 rfl) ?_
  refine lv_iconst (v := 0) (pc := 1) hx hb dX5_meanWait_1 (by decide) ?_
  refine z_put (pc := 2) (ci := 5) (C := RX5) (T := TX5) (N := 11) (W1 := (z_wM X d (z_mS M 0 0))) hx hb hts in_X5 tyX5 tyX5_ok nmX5 hown hK hP hD hS 0 rfl rfl 0 (by decide) lk_fi35 (fun _ h9 => h9) rfl (by decide +kernel) (Nat.le_of_ble_eq_true rfl) dX5_meanWait_2 rfl (fun H locs hP hD hS => ?_)
  refine lv_iconst (v := 0) (pc := 5) hx hb dX5_meanWait_5 (by decide) ?_
  refine lv_istore_n (pc := 6) (lv' := [(1, .int 0), (0, .ref (d 0))]) hx hb dX5_meanWait_6 rfl hl (by decide) rfl (fun ls hl => ?_)
  refine lv_iconst (v := 0) (pc := 7) hx hb dX5_meanWait_7 (by decide) ?_
  refine lv_istore_n (pc := 8) (lv' := [(2, .int 0), (1, .int 0), (0, .ref (d 0))]) hx hb dX5_meanWait_8 rfl hl (by decide) rfl (fun ls hl => ?_)
  refine lv_iconst (v := 0) (pc := 9) hx hb dX5_meanWait_9 (by decide) ?_
  refine lv_istore_n (pc := 10) (lv' := [(3, .int 0), (2, .int 0), (1, .int 0), (0, .ref (d 0))]) hx hb dX5_meanWait_10 rfl hl (by decide) rfl (fun ls hl => ?_)
  obtain ⟨x11, e11, hf⟩ := z_bd hf
  refine lp_11 z_FU 0 0 0 (z_mS M 0 0) x11 H locs hP hD hS ls (lv_sub hl [3, 2, 1, 0] rfl) e11 (fun H locs hP hD hS ls hl => ?_)
  refine lv_iload_n (pc := 56) hx hb dX5_meanWait_56 rfl (lv_at hl 1 rfl) ?_
  refine lv_if_ne (pc := 57) (tgt := 64) hx hb dX5_meanWait_57 (by decide) (fun c_57 => ?_) (fun c_57 => ?_)
  · replace hf := z_in c_57 hf
    refine lv_iload_n (pc := 64) hx hb dX5_meanWait_64 rfl (lv_at hl 0 rfl) ?_
    refine lv_i2d (pc := 65) hx hb dX5_meanWait_65 ?_
    refine lv_iload_n (pc := 66) hx hb dX5_meanWait_66 rfl (lv_at hl 1 rfl) ?_
    refine lv_i2d (pc := 67) hx hb dX5_meanWait_67 ?_
    obtain ⟨x68, e68, hf⟩ := z_bd hf
    refine z_ddiv (pc := 68) hx hb e68 dX5_meanWait_68 ?_
    exact W.dret (pc := 69) (v := x68) hx hb hr (fun t ht hW => ⟨⟨_, (z_wM X d x11.2.2), rfl, ⟨z_e1 hf, congrArg (fun z => (z_wM X d z)) (z_e2 hf)⟩, by rw [ht]; exact hP, hD⟩, hS.F ht⟩) hS.2.2 dX5_meanWait_69
  · replace hf := z_ip c_57 hf
    refine lv_dconst0 (pc := 60) hx hb dX5_meanWait_60 ?_
    refine lv_goto (pc := 61) (tgt := 69) hx hb dX5_meanWait_61 (by decide) ?_
    exact W.dret (pc := 69) (v := FP.dconst0) hx hb hr (fun t ht hW => ⟨⟨_, (z_wM X d x11.2.2), rfl, ⟨z_e1 hf, congrArg (fun z => (z_wM X d z)) (z_e2 hf)⟩, by rw [ht]; exact hP, hD⟩, hS.F ht⟩) hS.2.2 dX5_meanWait_69
