set_option maxHeartbeats 16000000 in
set_option maxRecDepth 100000 in
theorem m_L_build (l : Launch) (hl0 : l.stackTraces = false) (X : z_X) (b : Nat) (d d2 : Nat → Nat) (B : z_B) (sb L : Nat) (xs : Nat → Int32) {RR : (z_B × z_Q)} (hf : f_L_build L xs B = some RR) (sz : Nat) : Met l yL_build wsL_build (z_R2 9 188 75268 978441) (va_Pc [.ref b, .ref sb] (z_Pb X (z_wB X b d d2 B) sb L xs sz)) (va_Qr (fun _ : va_W => True) (fun u q t => (fun (u : va_W) (q : Nat) => ∃ D1 : z_D, u = z_W (z_wB X b d d2 RR.1) X q D1 RR.2 []) u q ∧ z_Bm X (va_A (z_wB X b d d2 B) sz) u t) (va_A (z_wB X b d d2 B) sz)) 75268 978441 (va_A (z_wB X b d d2 B) sz) := by
  refine Met.ofW (cc := cL_build) (maxL := 6) (ret := (some (.object "HouseBellsLaw$Sim"))) (by decide) rfl ?_
  intro p e s m args below meth c s₁ Bd hml hv
  obtain ⟨rfl, ⟨⟨⟨hsz, hP, hK, hN, hD0⟩, hA2⟩, hT⟩, hXs, hNL, hbA⟩ := hv
  have hx := Bd.exec
  have hb := Bd.bytes
  have hr := Bd.returns
  have hts := atoms_spec (ws := wsL_build) Bd.pre
  have hown : s.vm.findClass RL = some m.cls := findClass_of_methodNamed Bd.named
  have hlocks := Bd.notSynchronized
  have S : CallFix p m c cL_build 6 s _ wsL_build RL := ⟨hx, hb, hml, hown, hts⟩
  have lk_co90 := hts (.constant RL 90 (16777215)) (List.mem_of_getElem? (i := 4) rfl)
  have in_X5 : ∀ w ∈ wsX50, w ∈ wsL_build := fun _ h => (List.mem_cons_of_mem _ (List.mem_append_left _ (List.mem_append_left _ (List.mem_append_left _ (List.mem_append_left _ (List.mem_append_left _ (List.mem_append_left _ (List.mem_append_left _ (List.mem_append_left _ (List.mem_append_right _ h))))))))))
  subst hsz
  have hbl : sb < s.heap.size := Nat.not_le.mp (fun h => hbA (Or.inr h))
  have hD := hD0.self (sz := s.heap.size)
  generalize hAe : va_A (z_wB X b d d2 B) s.heap.size = A at hT hbA hD ⊢
  have hA : ∀ q : Nat, s.heap.size ≤ q → A q := fun q h => by rw [← hAe]; exact Or.inr h
  have hS : va_S A s.heap s.heap [] := va_S.rf
  have hl := lv_entry ([.ref b, .ref sb]) (n := 6) (Nat.le_of_ble_eq_true rfl)
  rw [lg_entry_eq]
  generalize (lg_sl ([.ref b, .ref sb]) ++ List.replicate (6 - (lg_sl ([.ref b, .ref sb])).length) Slot.unset).toArray = ls at hl ⊢
  have hl : lv_has ls 6 [(0, .ref b), (1, .ref sb)] := hl
  unfold f_L_build at hf
  have lp_35 : ∀ (n a : Nat) (kC kS kc ks : Nat) (hk : (kc + n * 1792 ≤ kC ∧ ks + n * 23296 ≤ kS) ∧ kC ≤ 75268 ∧ kS ≤ 978441) (D : z_D) (u3 : Int32) (u4 : Int32) (u5 : Int32) (Q : z_Q) (B : z_B) (T : (Int32 × z_Q × z_B)) (H : Heap) (locs : List Loc), va_P X.1 vwCl (z_W (z_wB X b d d2 B) X a D Q []) H → va_D A (z_W (z_wB X b d d2 B) X a D Q []) → va_S A s.heap H locs → ∀ (ls : Array Slot), lv_has ls 6 [(0, .ref b), (1, .ref sb), (2, .ref a), (3, .int u3), (4, .int u4), (5, .int u5)] → f_L_build_L35 L xs n u3 u4 u5 Q B = some T → (∀ (k1 s1 : Nat) (_ : k1 ≤ kC ∧ s1 ≤ kS) (D1 : z_D) (H : Heap) (locs : List Loc), va_P X.1 vwCl (z_W (z_wB X b d d2 T.2.2) X a D1 T.2.1 []) H → va_D A (z_W (z_wB X b d d2 T.2.2) X a D1 T.2.1 []) → va_S A s.heap H locs → ∀ (ls : Array Slot), lv_has ls 6 [(0, .ref b), (1, .ref sb), (2, .ref a), (4, .int T.1)] → W p l e (headSpec wsL_build (z_R2 9 188 75268 978441)).room s m ([.ref b, .ref sb] : List Value).toArray below meth c H locs k1 s1 (MQ below (va_Qr (fun _ : va_W => True) (fun u q t => (fun (u : va_W) (q : Nat) => ∃ D1 : z_D, u = z_W (z_wB X b d d2 RR.1) X q D1 RR.2 []) u q ∧ z_Bm X A u t) A) ([.ref b, .ref sb] : List Value).toArray s 75268 978441 A) (F0 m 73 ls [])) → W p l e (headSpec wsL_build (z_R2 9 188 75268 978441)).room s m ([.ref b, .ref sb] : List Value).toArray below meth c H locs kc ks (MQ below (va_Qr (fun _ : va_W => True) (fun u q t => (fun (u : va_W) (q : Nat) => ∃ D1 : z_D, u = z_W (z_wB X b d d2 RR.1) X q D1 RR.2 []) u q ∧ z_Bm X A u t) A) ([.ref b, .ref sb] : List Value).toArray s 75268 978441 A) (F0 m 35 ls []) := by
    intro n
    induction n with
    | zero =>
      intro a kC kS kc ks hk D u3 u4 u5 Q B T H locs hP hD hS ls hl hf kk
      cases hf
    | succ n ih =>
      intro a kC kS kc ks hk D u3 u4 u5 Q B T H locs hP hD hS ls hl hf kk
      rw [f_L_build_L35] at hf
      refine lv_iload (pc := 35) hx hb dL_build_35 (lv_at hl 5 rfl) ?_
      refine lv_iload_n (pc := 37) hx hb dL_build_37 rfl (lv_at hl 3 rfl) ?_
      refine lv_icmp_ge (pc := 38) (tgt := 73) hx hb dL_build_38 (by decide) (fun c_38 => ?_) (fun c_38 => ?_)
      · replace hf := z_ip c_38 hf
        obtain rfl := Option.some.inj hf
        exact kk kc ks (by omega) D H locs hP hD hS ls (lv_sub hl [0, 1, 2, 4] rfl)
      · replace hf := z_in c_38 hf
        refine lv_aload_n (pc := 41) hx hb dL_build_41 rfl (lv_at hl 0 rfl) ?_
        refine lv_aload_n (pc := 42) hx hb dL_build_42 rfl (lv_at hl 2 rfl) ?_
        refine lv_bipush (v := 16) (pc := 43) hx hb dL_build_43 (by decide) ?_
        refine lv_aload_n (pc := 45) hx hb dL_build_45 rfl (lv_at hl 1 rfl) ?_
        refine lv_iconst (v := 2) (pc := 46) hx hb dL_build_46 (by decide) ?_
        refine lv_iload (pc := 47) hx hb dL_build_47 (lv_at hl 5 rfl) ?_
        refine lv_iadd (pc := 49) hx hb dL_build_49 ?_
        obtain ⟨x50, e50, hf⟩ := z_bd hf
        refine z_ccell (pc := 50) S (m_L_cell l sb L xs (2 + u5) e50) (va_cwS 2 hts gL_build_L_cell rfl rfl rfl hdL_cell ⟨Nat.le_of_ble_eq_true rfl, Nat.le_of_ble_eq_true rfl⟩) hXs hbl hbA hS (show kc ≤ 75268 ∧ ks ≤ 978441 from ⟨by omega, by omega⟩) rfl hl.1 rfl (Nat.le_of_ble_eq_true rfl) dL_build_50 ?_
        refine lv_iconst (v := 5) (pc := 53) hx hb dL_build_53 (by decide) ?_
        refine lv_ishr (pc := 54) hx hb dL_build_54 ?_
        refine lv_ldc (v := 16777215) (pc := 55) hx hb hown lk_co90 dL_build_55 ?_
        refine lv_iand (pc := 57) hx hb dL_build_57 ?_
        refine lv_imul (pc := 58) hx hb dL_build_58 ?_
        obtain ⟨x59, e59, hf⟩ := z_bd hf
        refine z_cwaI (pc := 59) S (m_L_act l hl0 X b d d2 B a D Q ((16 : Int32) * ((x50 >>> (5 &&& 31)) &&& 16777215)) e59) (vx_cwSW 3 hts gL_build_L_act rfl rfl rfl hdL_act ⟨Nat.le_of_ble_eq_true rfl, Nat.le_of_ble_eq_true rfl⟩) hP hK hN hA2 (hT.kept (fun q h1 h2 => hS.2.1 q h1 h2)) hD hS hA (show kc + 1792 ≤ 75268 ∧ ks + 23296 ≤ 978441 from ⟨by omega, by omega⟩) rfl hl.1 rfl (Nat.le_of_ble_eq_true rfl) dL_build_59 (fun z u H locs hpost hP hD hS => ?_)
        obtain ⟨rfl, D59, rfl⟩ := hpost
        have hP : va_P X.1 vwCl (z_W (z_wB X b d d2 x59.2.1) X a D59 x59.2.2 []) H := hP
        have hD : va_D A (z_W (z_wB X b d d2 x59.2.1) X a D59 x59.2.2 []) := hD
        refine lv_if_ne (pc := 62) (tgt := 67) hx hb dL_build_62 (by decide) (fun c_62 => ?_) (fun c_62 => ?_)
        · replace hf := z_in c_62 hf
          refine lv_iinc (pc := 67) (v := (u5 + 1)) (lv' := [(5, .int (u5 + 1)), (0, .ref b), (1, .ref sb), (2, .ref a), (3, .int u3), (4, .int u4)]) hx hb dL_build_67 hl (k := 5) rfl rfl (by decide) rfl (fun ls hl => ?_)
          refine lv_goto (pc := 70) (tgt := 35) hx hb dL_build_70 (by decide) ?_
          exact ih a kC kS (kc + 1792) (ks + 23296) (by omega) D59 u3 u4 (u5 + 1) x59.2.2 x59.2.1 T H locs hP hD hS ls (lv_sub hl [1, 2, 3, 4, 5, 0] rfl) hf kk
        · replace hf := z_ip c_62 hf
          cases hf
  have lp_76 : ∀ (n a : Nat) (kC kS kc ks : Nat) (hk : (kc + n * 1792 ≤ kC ∧ ks + n * 23296 ≤ kS) ∧ kC ≤ 75268 ∧ kS ≤ 978441) (D : z_D) (u4 : Int32) (u5 : Int32) (Q : z_Q) (B : z_B) (T : (z_Q × z_B)) (H : Heap) (locs : List Loc), va_P X.1 vwCl (z_W (z_wB X b d d2 B) X a D Q []) H → va_D A (z_W (z_wB X b d d2 B) X a D Q []) → va_S A s.heap H locs → ∀ (ls : Array Slot), lv_has ls 6 [(0, .ref b), (1, .ref sb), (2, .ref a), (4, .int u4), (5, .int u5)] → f_L_build_L76 L xs n u4 u5 Q B = some T → (∀ (k1 s1 : Nat) (_ : k1 ≤ kC ∧ s1 ≤ kS) (D1 : z_D) (H : Heap) (locs : List Loc), va_P X.1 vwCl (z_W (z_wB X b d d2 T.2) X a D1 T.1 []) H → va_D A (z_W (z_wB X b d d2 T.2) X a D1 T.1 []) → va_S A s.heap H locs → ∀ (ls : Array Slot), lv_has ls 6 [(0, .ref b), (1, .ref sb), (2, .ref a)] → W p l e (headSpec wsL_build (z_R2 9 188 75268 978441)).room s m ([.ref b, .ref sb] : List Value).toArray below meth c H locs k1 s1 (MQ below (va_Qr (fun _ : va_W => True) (fun u q t => (fun (u : va_W) (q : Nat) => ∃ D1 : z_D, u = z_W (z_wB X b d d2 RR.1) X q D1 RR.2 []) u q ∧ z_Bm X A u t) A) ([.ref b, .ref sb] : List Value).toArray s 75268 978441 A) (F0 m 117 ls [])) → W p l e (headSpec wsL_build (z_R2 9 188 75268 978441)).room s m ([.ref b, .ref sb] : List Value).toArray below meth c H locs kc ks (MQ below (va_Qr (fun _ : va_W => True) (fun u q t => (fun (u : va_W) (q : Nat) => ∃ D1 : z_D, u = z_W (z_wB X b d d2 RR.1) X q D1 RR.2 []) u q ∧ z_Bm X A u t) A) ([.ref b, .ref sb] : List Value).toArray s 75268 978441 A) (F0 m 76 ls []) := by
    intro n
    induction n with
    | zero =>
      intro a kC kS kc ks hk D u4 u5 Q B T H locs hP hD hS ls hl hf kk
      cases hf
    | succ n ih =>
      intro a kC kS kc ks hk D u4 u5 Q B T H locs hP hD hS ls hl hf kk
      rw [f_L_build_L76] at hf
      refine lv_iload (pc := 76) hx hb dL_build_76 (lv_at hl 4 rfl) ?_
      refine lv_iload (pc := 78) hx hb dL_build_78 (lv_at hl 3 rfl) ?_
      refine lv_icmp_ge (pc := 80) (tgt := 117) hx hb dL_build_80 (by decide) (fun c_80 => ?_) (fun c_80 => ?_)
      · replace hf := z_ip c_80 hf
        obtain rfl := Option.some.inj hf
        exact kk kc ks (by omega) D H locs hP hD hS ls (lv_sub hl [0, 1, 2] rfl)
      · replace hf := z_in c_80 hf
        refine lv_aload_n (pc := 83) hx hb dL_build_83 rfl (lv_at hl 0 rfl) ?_
        refine lv_aload_n (pc := 84) hx hb dL_build_84 rfl (lv_at hl 2 rfl) ?_
        refine lv_bipush (v := 16) (pc := 85) hx hb dL_build_85 (by decide) ?_
        refine lv_aload_n (pc := 87) hx hb dL_build_87 rfl (lv_at hl 1 rfl) ?_
        refine lv_iconst (v := 3) (pc := 88) hx hb dL_build_88 (by decide) ?_
        refine lv_iload (pc := 89) hx hb dL_build_89 (lv_at hl 4 rfl) ?_
        refine lv_iadd (pc := 91) hx hb dL_build_91 ?_
        obtain ⟨x92, e92, hf⟩ := z_bd hf
        refine z_ccell (pc := 92) S (m_L_cell l sb L xs (3 + u5) e92) (va_cwS 2 hts gL_build_L_cell rfl rfl rfl hdL_cell ⟨Nat.le_of_ble_eq_true rfl, Nat.le_of_ble_eq_true rfl⟩) hXs hbl hbA hS (show kc ≤ 75268 ∧ ks ≤ 978441 from ⟨by omega, by omega⟩) rfl hl.1 rfl (Nat.le_of_ble_eq_true rfl) dL_build_92 ?_
        refine lv_iconst (v := 3) (pc := 95) hx hb dL_build_95 (by decide) ?_
        refine lv_ishr (pc := 96) hx hb dL_build_96 ?_
        refine lv_ldc (v := 16777215) (pc := 97) hx hb hown lk_co90 dL_build_97 ?_
        refine lv_iand (pc := 99) hx hb dL_build_99 ?_
        refine lv_imul (pc := 100) hx hb dL_build_100 ?_
        refine lv_iconst (v := 1) (pc := 101) hx hb dL_build_101 (by decide) ?_
        refine lv_iadd (pc := 102) hx hb dL_build_102 ?_
        obtain ⟨x103, e103, hf⟩ := z_bd hf
        refine z_cwaI (pc := 103) S (m_L_act l hl0 X b d d2 B a D Q (((16 : Int32) * ((x92 >>> (3 &&& 31)) &&& 16777215)) + 1) e103) (vx_cwSW 3 hts gL_build_L_act rfl rfl rfl hdL_act ⟨Nat.le_of_ble_eq_true rfl, Nat.le_of_ble_eq_true rfl⟩) hP hK hN hA2 (hT.kept (fun q h1 h2 => hS.2.1 q h1 h2)) hD hS hA (show kc + 1792 ≤ 75268 ∧ ks + 23296 ≤ 978441 from ⟨by omega, by omega⟩) rfl hl.1 rfl (Nat.le_of_ble_eq_true rfl) dL_build_103 (fun z u H locs hpost hP hD hS => ?_)
        obtain ⟨rfl, D103, rfl⟩ := hpost
        have hP : va_P X.1 vwCl (z_W (z_wB X b d d2 x103.2.1) X a D103 x103.2.2 []) H := hP
        have hD : va_D A (z_W (z_wB X b d d2 x103.2.1) X a D103 x103.2.2 []) := hD
        refine lv_if_ne (pc := 106) (tgt := 111) hx hb dL_build_106 (by decide) (fun c_106 => ?_) (fun c_106 => ?_)
        · replace hf := z_in c_106 hf
          refine lv_iinc (pc := 111) (v := (u5 + 1)) (lv' := [(5, .int (u5 + 1)), (0, .ref b), (1, .ref sb), (2, .ref a), (4, .int u4)]) hx hb dL_build_111 hl (k := 4) rfl rfl (by decide) rfl (fun ls hl => ?_)
          refine lv_goto (pc := 114) (tgt := 76) hx hb dL_build_114 (by decide) ?_
          exact ih a kC kS (kc + 1792) (ks + 23296) (by omega) D103 u4 (u5 + 1) x103.2.2 x103.2.1 T H locs hP hD hS ls (lv_sub hl [1, 2, 3, 4, 0] rfl) hf kk
        · replace hf := z_ip c_106 hf
          cases hf
  have lp_120 : ∀ (n a : Nat) (kC kS kc ks : Nat) (hk : (kc + n * 1792 ≤ kC ∧ ks + n * 23296 ≤ kS) ∧ kC ≤ 75268 ∧ kS ≤ 978441) (D : z_D) (u5 : Int32) (Q : z_Q) (B : z_B) (T : (z_Q × z_B)) (H : Heap) (locs : List Loc), va_P X.1 vwCl (z_W (z_wB X b d d2 B) X a D Q []) H → va_D A (z_W (z_wB X b d d2 B) X a D Q []) → va_S A s.heap H locs → ∀ (ls : Array Slot), lv_has ls 6 [(0, .ref b), (1, .ref sb), (2, .ref a), (5, .int u5)] → f_L_build_L120 L xs n u5 Q B = some T → (∀ (k1 s1 : Nat) (_ : k1 ≤ kC ∧ s1 ≤ kS) (D1 : z_D) (H : Heap) (locs : List Loc), va_P X.1 vwCl (z_W (z_wB X b d d2 T.2) X a D1 T.1 []) H → va_D A (z_W (z_wB X b d d2 T.2) X a D1 T.1 []) → va_S A s.heap H locs → ∀ (ls : Array Slot), lv_has ls 6 [(2, .ref a)] → W p l e (headSpec wsL_build (z_R2 9 188 75268 978441)).room s m ([.ref b, .ref sb] : List Value).toArray below meth c H locs k1 s1 (MQ below (va_Qr (fun _ : va_W => True) (fun u q t => (fun (u : va_W) (q : Nat) => ∃ D1 : z_D, u = z_W (z_wB X b d d2 RR.1) X q D1 RR.2 []) u q ∧ z_Bm X A u t) A) ([.ref b, .ref sb] : List Value).toArray s 75268 978441 A) (F0 m 157 ls [])) → W p l e (headSpec wsL_build (z_R2 9 188 75268 978441)).room s m ([.ref b, .ref sb] : List Value).toArray below meth c H locs kc ks (MQ below (va_Qr (fun _ : va_W => True) (fun u q t => (fun (u : va_W) (q : Nat) => ∃ D1 : z_D, u = z_W (z_wB X b d d2 RR.1) X q D1 RR.2 []) u q ∧ z_Bm X A u t) A) ([.ref b, .ref sb] : List Value).toArray s 75268 978441 A) (F0 m 120 ls []) := by
    intro n
    induction n with
    | zero =>
      intro a kC kS kc ks hk D u5 Q B T H locs hP hD hS ls hl hf kk
      cases hf
    | succ n ih =>
      intro a kC kS kc ks hk D u5 Q B T H locs hP hD hS ls hl hf kk
      rw [f_L_build_L120] at hf
      refine lv_iload (pc := 120) hx hb dL_build_120 (lv_at hl 3 rfl) ?_
      refine lv_bipush (v := 10) (pc := 122) hx hb dL_build_122 (by decide) ?_
      refine lv_icmp_ge (pc := 124) (tgt := 157) hx hb dL_build_124 (by decide) (fun c_124 => ?_) (fun c_124 => ?_)
      · replace hf := z_ip c_124 hf
        obtain rfl := Option.some.inj hf
        exact kk kc ks (by omega) D H locs hP hD hS ls (lv_sub hl [2] rfl)
      · replace hf := z_in c_124 hf
        refine lv_aload_n (pc := 127) hx hb dL_build_127 rfl (lv_at hl 0 rfl) ?_
        refine lv_aload_n (pc := 128) hx hb dL_build_128 rfl (lv_at hl 2 rfl) ?_
        refine lv_aload_n (pc := 129) hx hb dL_build_129 rfl (lv_at hl 1 rfl) ?_
        refine lv_iload (pc := 130) hx hb dL_build_130 (lv_at hl 3 rfl) ?_
        obtain ⟨x132, e132, hf⟩ := z_bd hf
        refine z_ccell (pc := 132) S (m_L_cell l sb L xs u5 e132) (va_cwS 2 hts gL_build_L_cell rfl rfl rfl hdL_cell ⟨Nat.le_of_ble_eq_true rfl, Nat.le_of_ble_eq_true rfl⟩) hXs hbl hbA hS (show kc ≤ 75268 ∧ ks ≤ 978441 from ⟨by omega, by omega⟩) rfl hl.1 rfl (Nat.le_of_ble_eq_true rfl) dL_build_132 ?_
        refine lv_iconst (v := 2) (pc := 135) hx hb dL_build_135 (by decide) ?_
        refine lv_ishr (pc := 136) hx hb dL_build_136 ?_
        refine lv_bipush (v := 41) (pc := 137) hx hb dL_build_137 (by decide) ?_
        refine lv_iload (pc := 139) hx hb dL_build_139 (lv_at hl 3 rfl) ?_
        refine lv_imul (pc := 141) hx hb dL_build_141 ?_
        refine lv_iadd (pc := 142) hx hb dL_build_142 ?_
        obtain ⟨x143, e143, hf⟩ := z_bd hf
        refine z_cwaI (pc := 143) S (m_L_act l hl0 X b d d2 B a D Q ((x132 >>> (2 &&& 31)) + (41 * u5)) e143) (vx_cwSW 3 hts gL_build_L_act rfl rfl rfl hdL_act ⟨Nat.le_of_ble_eq_true rfl, Nat.le_of_ble_eq_true rfl⟩) hP hK hN hA2 (hT.kept (fun q h1 h2 => hS.2.1 q h1 h2)) hD hS hA (show kc + 1792 ≤ 75268 ∧ ks + 23296 ≤ 978441 from ⟨by omega, by omega⟩) rfl hl.1 rfl (Nat.le_of_ble_eq_true rfl) dL_build_143 (fun z u H locs hpost hP hD hS => ?_)
        obtain ⟨rfl, D143, rfl⟩ := hpost
        have hP : va_P X.1 vwCl (z_W (z_wB X b d d2 x143.2.1) X a D143 x143.2.2 []) H := hP
        have hD : va_D A (z_W (z_wB X b d d2 x143.2.1) X a D143 x143.2.2 []) := hD
        refine lv_if_ne (pc := 146) (tgt := 151) hx hb dL_build_146 (by decide) (fun c_146 => ?_) (fun c_146 => ?_)
        · replace hf := z_in c_146 hf
          refine lv_iinc (pc := 151) (v := (u5 + 1)) (lv' := [(5, .int (u5 + 1)), (0, .ref b), (1, .ref sb), (2, .ref a)]) hx hb dL_build_151 hl (k := 3) rfl rfl (by decide) rfl (fun ls hl => ?_)
          refine lv_goto (pc := 154) (tgt := 120) hx hb dL_build_154 (by decide) ?_
          exact ih a kC kS (kc + 1792) (ks + 23296) (by omega) D143 (u5 + 1) x143.2.2 x143.2.1 T H locs hP hD hS ls (lv_sub hl [1, 2, 3, 0] rfl) hf kk
        · replace hf := z_ip c_146 hf
          cases hf
  refine va_new (pc := 0) (ci := 5) (fs := [.null, .null, .null, .int 0, .int 0, .int 0, .int 0, .int 0, .int 0]) (C := RX5) (T := TX5) (N := 9) hx hb hts in_X5 tyX5 tyX5_ok hown (hts (.classLink RL 10 RX5) (List.mem_of_getElem? (i := 1) rfl)) (hts (.instantiable RX5 9) (List.mem_of_getElem? (i := 2) rfl)) (hts (.initialized RX5) (List.mem_of_getElem? (i := 3) rfl)) hK hP hD hS hA rfl (fun j hj => by rcases (show j = 0 ∨ j = 1 ∨ j = 2 ∨ j = 3 ∨ j = 4 ∨ j = 5 ∨ j = 6 ∨ j = 7 ∨ j = 8 by omega) with rfl | rfl | rfl | rfl | rfl | rfl | rfl | rfl | rfl <;> rfl) (Nat.le_of_ble_eq_true rfl) (Nat.le_of_ble_eq_true rfl) dL_build_0 (fun a H hP hD hS => ?_)
  refine lv_dup (pc := 3) hx hb dL_build_3 rfl ?_
  refine z_ckN (pc := 4) (wl := z_wB X b d d2 B) (wr := []) S (m_X5_init l X a) ⟨va_cnB 0 hts gL_build_X5_init_n85 rfl rfl rfl hNL (hts (.initialized RX5) (List.mem_of_getElem? (i := 3) rfl)) hdX5_init ⟨Nat.le_of_ble_eq_true rfl, Nat.le_of_ble_eq_true rfl⟩, rfl, (hts (.instanceMethod yX5_init) (List.mem_of_getElem? (i := 5) rfl))⟩ hP hK hN hA2 hD hS hA ⟨Nat.le_of_ble_eq_true rfl, Nat.le_of_ble_eq_true rfl⟩ rfl hl.1 rfl (Nat.le_of_ble_eq_true rfl) dL_build_4 (fun u H locs hu hP hD hS => ?_)
  obtain ⟨D, rfl⟩ := hu
  have hP : va_P X.1 vwCl (z_W (z_wB X b d d2 B) X a D z_q0 []) H := hP
  have hD : va_D A (z_W (z_wB X b d d2 B) X a D z_q0 []) := hD
  refine W.widen (k := 4) (n := 9) (by omega) (by omega) ?_
  refine lv_astore_n (pc := 7) (lv' := [(2, .ref a), (0, .ref b), (1, .ref sb)]) hx hb dL_build_7 rfl hl (by decide) rfl (fun ls hl => ?_)
  refine lv_iconst (v := 1) (pc := 8) hx hb dL_build_8 (by decide) ?_
  refine lv_aload_n (pc := 9) hx hb dL_build_9 rfl (lv_at hl 2 rfl) ?_
  refine lv_iconst (v := 0) (pc := 10) hx hb dL_build_10 (by decide) ?_
  obtain ⟨x11, e11, hf⟩ := z_bd hf
  refine z_ccell (pc := 11) S (m_L_cell l sb L xs 0 e11) (va_cwS 2 hts gL_build_L_cell rfl rfl rfl hdL_cell ⟨Nat.le_of_ble_eq_true rfl, Nat.le_of_ble_eq_true rfl⟩) hXs hbl hbA hS (show 4 ≤ 75268 ∧ 9 ≤ 978441 from ⟨by omega, by omega⟩) rfl hl.1 rfl (Nat.le_of_ble_eq_true rfl) dL_build_11 ?_
  refine lv_bipush (v := 9) (pc := 14) hx hb dL_build_14 (by decide) ?_
  obtain ⟨x16, e16, hf⟩ := z_bd hf
  refine z_csI (pc := 16) S (m_L_below l X x11 9 e16) (va_cwS 2 hts gL_build_L_below rfl rfl rfl hdL_below ⟨Nat.le_of_ble_eq_true rfl, Nat.le_of_ble_eq_true rfl⟩) hP hK hN (s_nil _) (show 4 ≤ 75268 ∧ 9 ≤ 978441 from ⟨by omega, by omega⟩) rfl hl.1 rfl (Nat.le_of_ble_eq_true rfl) dL_build_16 ?_
  refine lv_iadd (pc := 19) hx hb dL_build_19 ?_
  refine lv_istore_n (pc := 20) (lv' := [(3, .int (1 + x16)), (2, .ref a), (0, .ref b), (1, .ref sb)]) hx hb dL_build_20 rfl hl (by decide) rfl (fun ls hl => ?_)
  refine lv_aload_n (pc := 21) hx hb dL_build_21 rfl (lv_at hl 3 rfl) ?_
  refine lv_iconst (v := 1) (pc := 22) hx hb dL_build_22 (by decide) ?_
  obtain ⟨x23, e23, hf⟩ := z_bd hf
  refine z_ccell (pc := 23) S (m_L_cell l sb L xs 1 e23) (va_cwS 2 hts gL_build_L_cell rfl rfl rfl hdL_cell ⟨Nat.le_of_ble_eq_true rfl, Nat.le_of_ble_eq_true rfl⟩) hXs hbl hbA hS (show 4 ≤ 75268 ∧ 9 ≤ 978441 from ⟨by omega, by omega⟩) rfl hl.1 rfl (Nat.le_of_ble_eq_true rfl) dL_build_23 ?_
  refine lv_iconst (v := 4) (pc := 26) hx hb dL_build_26 (by decide) ?_
  obtain ⟨x27, e27, hf⟩ := z_bd hf
  refine z_csI (pc := 27) S (m_L_below l X x23 4 e27) (va_cwS 2 hts gL_build_L_below rfl rfl rfl hdL_below ⟨Nat.le_of_ble_eq_true rfl, Nat.le_of_ble_eq_true rfl⟩) hP hK hN (s_nil _) (show 4 ≤ 75268 ∧ 9 ≤ 978441 from ⟨by omega, by omega⟩) rfl hl.1 rfl (Nat.le_of_ble_eq_true rfl) dL_build_27 ?_
  refine lv_istore (pc := 30) (lv' := [(4, .int x27), (3, .int (1 + x16)), (2, .ref a), (0, .ref b), (1, .ref sb)]) hx hb dL_build_30 hl (by decide) rfl (fun ls hl => ?_)
  refine lv_iconst (v := 0) (pc := 32) hx hb dL_build_32 (by decide) ?_
  refine lv_istore (pc := 33) (lv' := [(5, .int 0), (4, .int x27), (3, .int (1 + x16)), (2, .ref a), (0, .ref b), (1, .ref sb)]) hx hb dL_build_33 hl (by decide) rfl (fun ls hl => ?_)
  obtain ⟨x35, e35, hf⟩ := z_bd hf
  refine lp_35 z_F14 a (4 + 25088) (9 + 326144) 4 9 (by rw [show z_F14 = 14 from rfl]; omega) D (1 + x16) x27 0 z_q0 B x35 H locs hP hD hS ls (lv_sub hl [4, 5, 3, 2, 1, 0] rfl) e35 (fun k35 s35 hk35 D35 H locs hP hD hS ls hl => ?_)
  refine lv_iconst (v := 0) (pc := 73) hx hb dL_build_73 (by decide) ?_
  refine lv_istore (pc := 74) (lv' := [(5, .int 0), (0, .ref b), (1, .ref sb), (2, .ref a), (4, .int x35.1)]) hx hb dL_build_74 hl (by decide) rfl (fun ls hl => ?_)
  obtain ⟨x76, e76, hf⟩ := z_bd hf
  refine lp_76 z_F14 a (k35 + 25088) (s35 + 326144) k35 s35 (by rw [show z_F14 = 14 from rfl]; omega) D35 x35.1 0 x35.2.1 x35.2.2 x76 H locs hP hD hS ls (lv_sub hl [1, 2, 3, 4, 0] rfl) e76 (fun k76 s76 hk76 D76 H locs hP hD hS ls hl => ?_)
  refine lv_iconst (v := 0) (pc := 117) hx hb dL_build_117 (by decide) ?_
  refine lv_istore (pc := 118) (lv' := [(5, .int 0), (0, .ref b), (1, .ref sb), (2, .ref a)]) hx hb dL_build_118 hl (by decide) rfl (fun ls hl => ?_)
  obtain ⟨x120, e120, hf⟩ := z_bd hf
  refine lp_120 z_F14 a (k76 + 25088) (s76 + 326144) k76 s76 (by rw [show z_F14 = 14 from rfl]; omega) D76 0 x76.1 x76.2 x120 H locs hP hD hS ls (lv_sub hl [1, 2, 3, 0] rfl) e120 (fun k120 s120 hk120 D120 H locs hP hD hS ls hl => ?_)
  refine lv_aload_n (pc := 157) hx hb dL_build_157 rfl (lv_at hl 0 rfl) ?_
  refine W.widen (k := 75268) (n := 978441) (by omega) (by omega) ?_
  exact W.aret (pc := 158) hx hb hr (Or.inl ⟨_, rfl⟩) (Or.inr ⟨_, rfl⟩) (fun t ht hW => ⟨⟨(z_W (z_wB X b d d2 x120.2) X a D120 x120.1 []), a, rfl, trivial, ⟨D120, congrArg (fun z : z_B × z_Q => z_W (z_wB X b d d2 z.1) X a D120 z.2 []) (Option.some.inj hf)⟩, by rw [ht]; exact hP, hD⟩, hS.F ht⟩) hS.2.2 dL_build_158
