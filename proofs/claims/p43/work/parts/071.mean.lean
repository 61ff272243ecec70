-- doubles: a quotient that is a number
def z_dd (x y : UInt64) : Option UInt64 := if FP.ddiv x y &&& 0x7fffffffffffffff ≤ 0x7ff0000000000000 then some (FP.ddiv x y) else none
theorem z_dd_s {x y z : UInt64} (h : z_dd x y = some z) : vf_n64 (FP.ddiv x y) ∧ FP.ddiv x y = z := by
  unfold z_dd at h
  by_cases hc : FP.ddiv x y &&& 0x7fffffffffffffff ≤ 0x7ff0000000000000
  · rw [if_pos hc] at h; exact ⟨hc, Option.some.inj h⟩
  · rw [if_neg hc] at h; cases h
theorem z_ddiv {p : Program} {l : Launch} {e : Env} {R : Room} {s : State} {m : MethodId} {args : Array Value} {below : List Frame} {meth : Method} {c : Code} {H : Heap} {locs : List Loc} {cells slots : Nat} {Q : State → Prop} {cc : ByteArray} {pc : Nat} {ls : Array Slot} {rest : List Value} (hexec : p.tables.exec = Jvm.exec) (hb : c.code = cc) {x y z : UInt64} (h : z_dd x y = some z) (hdg : decode cc pc = .ok (.ddiv, 1)) (kk : W p l e R s m args below meth c H locs cells slots Q (F0 m (pc + 1) ls (.double z :: rest))) : W p l e R s m args below meth c H locs cells slots Q (F0 m pc ls (.double y :: .double x :: rest)) := by
  obtain ⟨h1, h2⟩ := z_dd_s h
  refine lv_ddiv hexec hb hdg h1 ?_
  rw [h2]; exact kk
def z_mD (l : Launch) (y : MethodName) (ws : List Cond) (fr lo : Nat) (X : z_X) (av : List Value) (w : va_W) (r : UInt64) (w' : va_W) : Prop := ∀ sz : Nat, Met l y ws (z_R fr lo) (va_Pc av (z_Pm X w sz)) (va_Qd (fun (z : UInt64) (u : va_W) => z = r ∧ u = w') (z_Bm X (va_A w sz)) (va_A w sz)) 0 0 (va_A w sz)
section ZC
variable {p : Program} {l : Launch} {e : Env} {R : Room} {s : State} {m : MethodId} {args : Array Value} {below : List Frame} {meth : Method} {c : Code} {H : Heap} {locs : List Loc} {cells slots : Nat} {Q : State → Prop}
variable {y : MethodName} {bytes cc : ByteArray} {maxL nL n index fr lo : Nat} {ret : Option FieldType} {ws : List Cond} {Ts : List Cond} {own C : String} {b : Addr} {As rest st0 : List Value} {ls : Array Slot} {pc : Nat} {X : z_X} {W0 wc : va_W} {A : Nat → Prop} {H0 : Heap}
theorem z_cmD {r : UInt64} {W1 wc1 : va_W} {ci : Nat} {q : vw_C} {fs : List Value} (S : CallFix p m c cc nL s args Ts own) (hM : z_mD l y ws fr lo X (.ref b :: As) wc r wc1) (cw : CallW R s args own C index y bytes maxL ret ws (z_R fr lo) 0 0 n) (hP : va_P X.1 vwCl W0 H) (hK : va_K X.1 vwCl (z_ty X) s) (hN : z_N s) (hD : va_D A W0) (hS : va_S A H0 H locs) (hA : ∀ q, H0.size ≤ q → A q) (hs : z_S W0 wc) (hF : z_F W0 wc W1 wc1) (hc : vwCl[ci]? = some q) (hq : q.1 = C) (he : wc[0]? = some (b, .inr (ci, fs))) (hf : cells ≤ R.cells ∧ slots ≤ R.slots) (hn : As.length = n) (hsz : ls.size = nL) (hst : st0 = As.reverse ++ .ref b :: rest) (hW : (rest.map fun v => v.category).sum ≤ 8) (hdg : decode cc pc = .ok (.invokevirtual index, 3)) (kk : ∀ (H1 : Heap) (locs1 : List Loc), va_P X.1 vwCl W1 H1 → va_D A W1 → va_S A H0 H1 locs1 → W p l e R s m args below meth c H1 locs1 cells slots Q (F0 m (pc + 3) ls (.double r :: rest))) : W p l e R s m args below meth c H locs cells slots Q (F0 m pc ls st0) := by
  have hfr := hs.free hD hS hA
  refine va_calld (va_runV (rest := rest) S (hM H.size) cw ⟨z_bm _ _ _ _, z_recv hP hK hN hs hc hq he, z_prem hP hK hN hD hs _⟩ rfl hn hsz hst (lv_room hW) hdg hf) hS (fun q _ h => hfr q h) hfr (fun z u t H1 locs1 ht hvm hw hB hz1 hk1 hS1 => ?_)
  obtain ⟨rfl, rfl⟩ := hw
  obtain ⟨hP1, hD1⟩ := hB
  rw [ht] at hP1
  obtain ⟨a, b⟩ := z_join hF hP hD hk1 hfr hP1 hD1
  exact kk H1 locs1 a b hS1
end ZC

theorem hdX4_meanWait : yX4_meanWait.cls = RX4 ∧ yX4_meanWait.cls ≠ "java/lang/invoke/MethodHandle" ∧ yX4_meanWait.cls ≠ "java/lang/invoke/VarHandle" ∧ (parseMethodDescriptor yX4_meanWait.desc).map (fun d => d.parameters.length) = some 0 := by decide +kernel
def f_X4_meanWait_L6 (B : z_B) : Nat → Int32 → Int32 → Int32 → Option (Int32 × Int32)
  | 0, _, _, _ => none
  | n + 1, u1, u2, u3 => (if (B.1.1 1) ≤ u3 then some (u1, u2) else (if (f_X0_isWaiting B.1 u3) = 0 then f_X4_meanWait_L6 B n u1 u2 (u3 + 1) else f_X4_meanWait_L6 B n (u1 + (z_rg (B.1.2.1 5) u3)) (u2 + 1) (u3 + 1)))
def f_X4_meanWait (B : z_B) : Option UInt64 := (f_X4_meanWait_L6 B z_FU 0 0 0).bind (fun x6 => (if x6.2 = 0 then some FP.dconst0 else (z_dd (FP.i2d x6.1) (FP.i2d x6.2)).bind (fun x63 => some x63)))
set_option maxHeartbeats 4000000 in
set_option maxRecDepth 100000 in
theorem m_X4_meanWait (l : Launch) (X : z_X) (a : Nat) (d d2 : Nat → Nat) (B : z_B) {RR : UInt64} (hf : f_X4_meanWait B = some RR) : z_pD l yX4_meanWait wsX4_meanWait 2 42 X [.ref a] (z_wB X a d d2 B) RR := by
  refine Met.ofW (cc := cX4_meanWait) (maxL := 4) (ret := (some .double)) (by decide) rfl ?_
  intro p e s m args below meth c s₁ Bd hml hv
  obtain ⟨rfl, hP, hK, hN⟩ := hv
  have hx := Bd.exec
  have hb := Bd.bytes
  have hr := Bd.returns
  have hts := atoms_spec (ws := wsX4_meanWait) Bd.pre
  have hown : s.vm.findClass RX4 = some m.cls := findClass_of_methodNamed Bd.named
  have hlocks := Bd.notSynchronized
  have S : CallFix p m c cX4_meanWait 4 s _ wsX4_meanWait RX4 := ⟨hx, hb, hml, hown, hts⟩
  have lk_fi10 := hts (.fieldLink RX4 10 "HouseBells" "house" "LHouseBells$House;") (List.mem_of_getElem? (i := 1) rfl)
  have in_X0 : ∀ w ∈ wsX00, w ∈ wsX4_meanWait := fun _ h => (List.mem_cons_of_mem _ (List.mem_append_left _ (List.mem_append_right _ h)))
  have in_X4 : ∀ w ∈ wsX40, w ∈ wsX4_meanWait := fun _ h => (List.mem_cons_of_mem _ (List.mem_append_left _ (List.mem_append_left _ (List.mem_append_right _ h))))
  have hl := lv_entry ([.ref a]) (n := 4) (Nat.le_of_ble_eq_true rfl)
  rw [lg_entry_eq]
  generalize (lg_sl ([.ref a]) ++ List.replicate (4 - (lg_sl ([.ref a])).length) Slot.unset).toArray = ls at hl ⊢
  have hl : lv_has ls 4 [(0, .ref a)] := hl
  have lp_6 : ∀ (n : Nat) (u1 : Int32) (u2 : Int32) (u3 : Int32) (T : (Int32 × Int32)) (ls : Array Slot), lv_has ls 4 [(0, .ref a), (1, .int u1), (2, .int u2), (3, .int u3)] → f_X4_meanWait_L6 B n u1 u2 u3 = some T → (∀ (ls : Array Slot), lv_has ls 4 [(1, .int T.1), (2, .int T.2)] → W p l e (headSpec wsX4_meanWait (z_R 2 42)).room s m ([.ref a] : List Value).toArray below meth c s.heap [] 0 0 (MQ below (vp_Sd (fun z => z = RR)) ([.ref a] : List Value).toArray s 0 0 (fun _ => False)) (F0 m 51 ls [])) → W p l e (headSpec wsX4_meanWait (z_R 2 42)).room s m ([.ref a] : List Value).toArray below meth c s.heap [] 0 0 (MQ below (vp_Sd (fun z => z = RR)) ([.ref a] : List Value).toArray s 0 0 (fun _ => False)) (F0 m 6 ls []) := by
    intro n
    induction n with
    | zero =>
      intro u1 u2 u3 T ls hl hf kk
      cases hf
    | succ n ih =>
      intro u1 u2 u3 T ls hl hf kk
      rw [f_X4_meanWait_L6] at hf
      refine lv_iload_n (pc := 6) hx hb dX4_meanWait_6 rfl (lv_at hl 3 rfl) ?_
      refine lv_aload_n (pc := 7) hx hb dX4_meanWait_7 rfl (lv_at hl 0 rfl) ?_
      refine va_get (pc := 8) (ci := 4) (C := RX4) (T := TX4) (N := 2) hx hb hts in_X4 hown hK hP 0 rfl rfl 0 (by decide) lk_fi10 (fun _ h9 => h9) rfl dX4_meanWait_8 ?_
      refine va_getN (pc := 11) (ci := 0) (C := RX0) (T := TX0) (N := 15) hx hb hts in_X0 hown hK hP 1 rfl rfl 1 (by decide) (z_n13 hN) (fun _ h9 => h9) rfl dX4_meanWait_11 ?_
      refine lv_icmp_ge (pc := 14) (tgt := 51) hx hb dX4_meanWait_14 (by decide) (fun c_14 => ?_) (fun c_14 => ?_)
      · replace hf := z_ip c_14 hf
        obtain rfl := Option.some.inj hf
        exact kk ls (lv_sub hl [1, 2] rfl)
      · replace hf := z_in c_14 hf
        refine lv_aload_n (pc := 17) hx hb dX4_meanWait_17 rfl (lv_at hl 0 rfl) ?_
        refine va_get (pc := 18) (ci := 4) (C := RX4) (T := TX4) (N := 2) hx hb hts in_X4 hown hK hP 0 rfl rfl 0 (by decide) lk_fi10 (fun _ h9 => h9) rfl dX4_meanWait_18 ?_
        refine lv_iload_n (pc := 21) hx hb dX4_meanWait_21 rfl (lv_at hl 3 rfl) ?_
        refine z_cpI (pc := 22) S (m_X0_isWaiting l X d B.1 u3 rfl) (cwV 1 hts gX4_meanWait_X0_isWaiting rfl rfl rfl hdX0_isWaiting ⟨Nat.le_of_ble_eq_true rfl, Nat.le_of_ble_eq_true rfl⟩) hP hK hN (s_B_H1 X a d d2 B) (ci := 0) rfl rfl rfl ⟨Nat.le_of_ble_eq_true rfl, Nat.le_of_ble_eq_true rfl⟩ rfl hl.1 rfl (Nat.le_of_ble_eq_true rfl) dX4_meanWait_22 ?_
        refine lv_if_eq (pc := 25) (tgt := 45) hx hb dX4_meanWait_25 (by decide) (fun c_25 => ?_) (fun c_25 => ?_)
        · replace hf := z_ip c_25 hf
          refine lv_iinc (pc := 45) (v := (u3 + 1)) (lv' := [(3, .int (u3 + 1)), (0, .ref a), (1, .int u1), (2, .int u2)]) hx hb dX4_meanWait_45 hl (k := 3) rfl rfl (by decide) rfl (fun ls hl => ?_)
          refine lv_goto (pc := 48) (tgt := 6) hx hb dX4_meanWait_48 (by decide) ?_
          exact ih u1 u2 (u3 + 1) T ls (lv_sub hl [1, 2, 3, 0] rfl) hf kk
        · replace hf := z_in c_25 hf
          refine lv_iload_n (pc := 28) hx hb dX4_meanWait_28 rfl (lv_at hl 1 rfl) ?_
          refine lv_aload_n (pc := 29) hx hb dX4_meanWait_29 rfl (lv_at hl 0 rfl) ?_
          refine va_get (pc := 30) (ci := 4) (C := RX4) (T := TX4) (N := 2) hx hb hts in_X4 hown hK hP 0 rfl rfl 0 (by decide) lk_fi10 (fun _ h9 => h9) rfl dX4_meanWait_30 ?_
          refine va_getN (pc := 33) (ci := 0) (C := RX0) (T := TX0) (N := 15) hx hb hts in_X0 hown hK hP 1 rfl rfl 12 (by decide) (z_n22 hN) (fun _ h9 => h9) rfl dX4_meanWait_33 ?_
          refine lv_iload_n (pc := 36) hx hb dX4_meanWait_36 rfl (lv_at hl 3 rfl) ?_
          refine z_cpI (pc := 37) S (m_X2_get l X (d 11) (d 12) (B.1.2.1 5) u3) (cwV 1 hts gX4_meanWait_X2_get rfl rfl rfl hdX2_get ⟨Nat.le_of_ble_eq_true rfl, Nat.le_of_ble_eq_true rfl⟩) hP hK hN (s_B_R12 X a d d2 B) (ci := 2) rfl rfl rfl ⟨Nat.le_of_ble_eq_true rfl, Nat.le_of_ble_eq_true rfl⟩ rfl hl.1 rfl (Nat.le_of_ble_eq_true rfl) dX4_meanWait_37 ?_
          refine lv_iadd (pc := 40) hx hb dX4_meanWait_40 ?_
          refine lv_istore_n (pc := 41) (lv' := [(1, .int (u1 + (z_rg (B.1.2.1 5) u3))), (0, .ref a), (2, .int u2), (3, .int u3)]) hx hb dX4_meanWait_41 rfl hl (by decide) rfl (fun ls hl => ?_)
          refine lv_iinc (pc := 42) (v := (u2 + 1)) (lv' := [(2, .int (u2 + 1)), (1, .int (u1 + (z_rg (B.1.2.1 5) u3))), (0, .ref a), (3, .int u3)]) hx hb dX4_meanWait_42 hl (k := 2) rfl rfl (by decide) rfl (fun ls hl => ?_)
          refine lv_iinc (pc := 45) (v := (u3 + 1)) (lv' := [(3, .int (u3 + 1)), (2, .int (u2 + 1)), (1, .int (u1 + (z_rg (B.1.2.1 5) u3))), (0, .ref a)]) hx hb dX4_meanWait_45 hl (k := 3) rfl rfl (by decide) rfl (fun ls hl => ?_)
          refine lv_goto (pc := 48) (tgt := 6) hx hb dX4_meanWait_48 (by decide) ?_
          exact ih (u1 + (z_rg (B.1.2.1 5) u3)) (u2 + 1) (u3 + 1) T ls (lv_sub hl [3, 2, 1, 0] rfl) hf kk
  unfold f_X4_meanWait at hf
  refine lv_iconst (v := 0) (pc := 0) hx hb dX4_meanWait_0 (by decide) ?_
  refine lv_istore_n (pc := 1) (lv' := [(1, .int 0), (0, .ref a)]) hx hb dX4_meanWait_1 rfl hl (by decide) rfl (fun ls hl => ?_)
  refine lv_iconst (v := 0) (pc := 2) hx hb dX4_meanWait_2 (by decide) ?_
  refine lv_istore_n (pc := 3) (lv' := [(2, .int 0), (1, .int 0), (0, .ref a)]) hx hb dX4_meanWait_3 rfl hl (by decide) rfl (fun ls hl => ?_)
  refine lv_iconst (v := 0) (pc := 4) hx hb dX4_meanWait_4 (by decide) ?_
  refine lv_istore_n (pc := 5) (lv' := [(3, .int 0), (2, .int 0), (1, .int 0), (0, .ref a)]) hx hb dX4_meanWait_5 rfl hl (by decide) rfl (fun ls hl => ?_)
  obtain ⟨x6, e6, hf⟩ := z_bd hf
  refine lp_6 z_FU 0 0 0 x6 ls (lv_sub hl [3, 2, 1, 0] rfl) e6 (fun ls hl => ?_)
  refine lv_iload_n (pc := 51) hx hb dX4_meanWait_51 rfl (lv_at hl 1 rfl) ?_
  refine lv_if_ne (pc := 52) (tgt := 59) hx hb dX4_meanWait_52 (by decide) (fun c_52 => ?_) (fun c_52 => ?_)
  · replace hf := z_in c_52 hf
    refine lv_iload_n (pc := 59) hx hb dX4_meanWait_59 rfl (lv_at hl 0 rfl) ?_
    refine lv_i2d (pc := 60) hx hb dX4_meanWait_60 ?_
    refine lv_iload_n (pc := 61) hx hb dX4_meanWait_61 rfl (lv_at hl 1 rfl) ?_
    refine lv_i2d (pc := 62) hx hb dX4_meanWait_62 ?_
    obtain ⟨x63, e63, hf⟩ := z_bd hf
    refine z_ddiv (pc := 63) hx hb e63 dX4_meanWait_63 ?_
    exact W.dret (pc := 64) (v := x63) hx hb hr (fun t ht hW => ⟨_, rfl, (Option.some.inj hf), ht⟩) (fun _ h => nomatch h) dX4_meanWait_64
  · replace hf := z_ip c_52 hf
    refine lv_dconst0 (pc := 55) hx hb dX4_meanWait_55 ?_
    refine lv_goto (pc := 56) (tgt := 64) hx hb dX4_meanWait_56 (by decide) ?_
    exact W.dret (pc := 64) (v := FP.dconst0) hx hb hr (fun t ht hW => ⟨_, rfl, (Option.some.inj hf), ht⟩) (fun _ h => nomatch h) dX4_meanWait_64
