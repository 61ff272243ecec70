-- ===== the law from its entry =====
section ZST
variable {p : Program} {l : Launch} {e : Env} {R : Room} {s : State} {m : MethodId} {args : Array Value} {below : List Frame} {meth : Method} {c : Code} {H : Heap} {locs : List Loc} {cells slots : Nat} {Q : State → Prop}
variable {y : MethodName} {bytes cc : ByteArray} {maxL nL n index fr lo : Nat} {ws : List Cond} {Ts : List Cond} {own : String} {As rest st0 : List Value} {ls : Array Slot} {pc : Nat} {X : z_X} {W0 : va_W} {A : Nat → Prop} {H0 : Heap} {mc ms : Nat} {ret : Option FieldType}
theorem z_cbld {post : va_W → Nat → Prop} {sb L : Nat} {xs : Nat → Int32} (S : CallFix p m c cc nL s args Ts own) (hM : ∀ sz : Nat, Met l y ws (z_R2 fr lo mc ms) (va_Pc As (z_Pb X W0 sb L xs sz)) (va_Qr (fun _ : va_W => True) (fun u q t => post u q ∧ z_Bm X (va_A W0 sz) u t) (va_A W0 sz)) mc ms (va_A W0 sz)) (cw : CallB R s args own index y bytes maxL ret ws (z_R2 fr lo mc ms) mc ms n ∧ (Cond.static y).before args s = true) (hP : va_P X.1 vwCl W0 H) (hK : va_K X.1 vwCl (z_ty X) s) (hN : z_N s) (hA2 : z_A2 X s) (hT : z_T A s H) (hXs : va_X sb L xs s H0) (hbl : sb < H0.size) (hbA : ¬ A sb) (hNL : z_NL s) (hD : va_D A W0) (hS : va_S A H0 H locs) (hA : ∀ q, H0.size ≤ q → A q) (hf : cells + mc ≤ R.cells ∧ slots + ms ≤ R.slots) (hn : As.length = n) (hsz : ls.size = nL) (hst : st0 = As.reverse ++ rest) (hW : (rest.map fun v => v.category).sum ≤ 8) (hdg : decode cc pc = .ok (.invokestatic index, 3)) (kk : ∀ (u : va_W) (ra : Nat) (H1 : Heap) (locs1 : List Loc), post u ra → va_P X.1 vwCl u H1 → va_D A u → va_S A H0 H1 locs1 → W p l e R s m args below meth c H1 locs1 (cells + mc) (slots + ms) Q (F0 m (pc + 3) ls (.ref ra :: rest))) : W p l e R s m args below meth c H locs cells slots Q (F0 m pc ls st0) := by
  have hP0 : va_P X.1 vwCl ([] ++ (W0 ++ [])) H := by rw [List.append_nil]; exact hP
  have hD0 : va_D A ([] ++ (W0 ++ [])) := by rw [List.append_nil]; exact hD
  have hs := z_S_mid [] W0 []
  have hfr := hs.free hD0 hS hA
  refine va_callr (va_runS (rest := rest) S (hM H.size) cw ⟨z_bb _ _ _ _ _ _ _, fun U hU hW => ?_⟩ rfl hn hsz hst (lv_room hW) hdg hf) hS (fun q _ h => hfr q h) hfr (fun u ra t H1 locs1 ht hvm _ hB hz1 hk1 hS1 => ?_)
  · obtain ⟨b1, b2⟩ := z_prek hP0 hK hN hA2 hD0 As U hU hW
    refine ⟨b1, ⟨b2, by rw [hU]; exact (hT.narrow hfr).warm hW⟩, ?_, va_Nw.warmM hW hNL, fun h => hbA (hfr _ h)⟩
    rw [hU]
    exact (hXs.kept (hS.2.1 sb hbl hbA)).moved hW.alike
  · obtain ⟨hw, hP1, hD1⟩ := hB
    rw [ht] at hP1
    exact kk u ra H1 locs1 hw hP1 (hD1.weaken (fun k q _ h => hfr q.1 h)) hS1
end ZST
/-- what the entry gives, gathered -/
theorem z_LC_of {p : Program} {s : State} {m : MethodId} {meth : Method} {c : Code} {b L : Nat} {xs : Nat → Int32} (C0 : lw_At p s m meth c b L xs) : ∃ X : z_X, va_K X.1 vwCl (z_ty X) s ∧ z_N s ∧ z_A2 X s ∧ z_T (fun q : Nat => s.heap.size ≤ q) s s.heap ∧ z_NL s := by
  obtain ⟨hx, hb, hr, hml, hown, hts, hX, hbl, hlocks, hgv⟩ := C0
  have hfl := flat_of_before _ hgv
  obtain ⟨i0, i1, i2, i3, i4, i5⟩ := z_in_in
  obtain ⟨c0, iS0, hKn0⟩ := u_known (C := RX0) (T := TX0) (N := 15) (n := 15) hts inX0 (hts _ i0)
  obtain ⟨c1, iS1, hKn1⟩ := u_known (C := RX1) (T := TX1) (N := 2) (n := 2) hts inX1 (hts _ i1)
  obtain ⟨c2, iS2, hKn2⟩ := u_known (C := RX2) (T := TX2) (N := 1) (n := 1) hts inX2 (hts _ i2)
  obtain ⟨c3, iS3, hKn3⟩ := u_known (C := RX3) (T := TX3) (N := 6) (n := 6) hts inX3 (hts _ i3)
  obtain ⟨c4, iS4, hKn4⟩ := u_known (C := RX4) (T := TX4) (N := 2) (n := 2) hts inX4 (hts _ i4)
  obtain ⟨c5, iS5, hKn5⟩ := u_known (C := RX5) (T := TX5) (N := 9) (n := 9) hts inX5 (hts _ i5)
  obtain ⟨dC, dI, hKc⟩ : ∃ (dC : Nat → ClassId) (dI : Nat → Nat → Nat), ∀ (k : Nat) (q : vw_C), vwCl[k]? = some q → u_Kn s q.1 q.2.1 q.2.2 (dC k) (dI k) := by
    refine ⟨fun k => match k with | 0 => c0 | 1 => c1 | 2 => c2 | 3 => c3 | 4 => c4 | _ => c5, fun k => match k with | 0 => iS0 | 1 => iS1 | 2 => iS2 | 3 => iS3 | 4 => iS4 | _ => iS5, ?_⟩
    intro k q hq
    match k, hq with
    | 0, hq => cases hq; exact hKn0
    | 1, hq => cases hq; exact hKn1
    | 2, hq => cases hq; exact hKn2
    | 3, hq => cases hq; exact hKn3
    | 4, hq => cases hq; exact hKn4
    | 5, hq => cases hq; exact hKn5
    | k + 6, hq => simp [vwCl] at hq
  obtain ⟨a0, a1, a2⟩ := z_ac_in
  obtain ⟨cI, kI, compI, hI1, hI2, hI3⟩ := Cond.arrayClass_spec (hts _ a0)
  obtain ⟨cZ, kZ, compZ, hZ1, hZ2, hZ3⟩ := Cond.arrayClass_spec (hts _ a1)
  obtain ⟨comp, cA, kA, h1, h2, h3, h4, h5⟩ := arrayOverA_spec (hts _ a2)
  have hcomp : comp = cI := Option.some.inj (h1.symm.trans hI1)
  subst hcomp
  obtain ⟨l1, l2, l3⟩ := z_ls_in
  obtain ⟨r1, r2⟩ := z_is_in
  obtain ⟨w1, w2, w3, w4, w5, w6⟩ := z_lw_in
  have hAO : z_AO s := by
    have := hts _ a2
    unfold z_AO
    exact this
  refine ⟨((dC, dI), comp, cZ, cA), ⟨hKc, fun k q hq => ?_⟩, fun q hq => va_Nw.of rfl (hts _ (z_nl_in q hq)), ⟨⟨kA, h3, h4⟩, hAO, va_Nw.of rfl (hts _ w6)⟩, ⟨⟨fun y hy => va_Nw.of rfl (hts _ (z_dl_in y hy)), fun k hk => va_Nw.of rfl (hts _ (z_ca_in k hk)), ⟨va_Nc.of (hfl _ (z_nc_in (0, 1) (by decide))), va_Nc.of (hfl _ (z_nc_in (2, 1) (by decide))), va_Nc.of (hfl _ (z_nc_in (2, 1) (by decide)))⟩, fun q hq => ?_⟩, vx_Zqof (hts _ l1) (hts _ l3) (hfl _ r1) (fun a h => Nat.not_le.mpr h), vx_Zqof (hts _ l2) (hts _ l3) (hfl _ r2) (fun a h => Nat.not_le.mpr h)⟩, va_Nw.of rfl (hts _ w5)⟩
  · match k, hq with
    | 0, hq => cases hq; exact ⟨fun n z => ⟨fun k h => (by cases h), kI, hI2, compI, hI3⟩, hI1⟩
    | 1, hq => cases hq; exact ⟨fun n z => ⟨fun k h => (by cases h), kZ, hZ2, compZ, hZ3⟩, hZ1⟩
    | 2, hq => cases hq; exact ⟨fun n z => ⟨fun k h => (by cases h), kA, h3, comp, h4⟩, h5⟩
    | k + 3, hq => simp [z_ty] at hq
  · obtain ⟨a, _, _, _, he, _⟩ := Cond.exactly_spec (hfl _ (z_sl_ex q hq))
    exact ⟨a, vk_R.of (hts _ (z_sl_in q hq)) he⟩
set_option maxHeartbeats 4000000 in
set_option maxRecDepth 100000 in
theorem whole_start_of {p : Program} {e : Env} {s : State} {m : MethodId} {below : List Frame} {meth : Method} {c : Code} (l : Launch) (hl0 : l.stackTraces = false) {b L : Nat} {xs : Nat → Int32} {X : z_X} (hL : L ≤ 260) (hx : p.tables.exec = Jvm.exec) (hb : c.code = cL_law) (hml : c.maxLocals = 28) (hown : s.vm.findClass RL = some m.cls) (hts : ∀ w ∈ wsL_law, w.before #[Value.ref b] s = true) (hK : va_K X.1 vwCl (z_ty X) s) (hN : z_N s) (hA2 : z_A2 X s) (hT : z_T (fun q : Nat => s.heap.size ≤ q) s s.heap) (hNL : z_NL s) (hXs : va_X b L xs s s.heap) (hbl : b < s.heap.size) {Q : State → Prop} (hini : ∀ w ∈ [Cond.instantiable RX4 2, Cond.classLink RL 29 RX4, Cond.initialized RX4, Cond.methodLink RL 95 yX4_init, Cond.instanceMethod yX4_init], w.before #[Value.ref b] s = true) (hend : ∀ (k1 s1 : Nat) (H : Heap) (locs : List Loc) (ls : Array Slot), k1 ≤ room_1.cells → s1 ≤ room_1.slots → va_S (fun q : Nat => s.heap.size ≤ q) s.heap H locs → W p l e room_1 s m #[Value.ref b] below meth c H locs k1 s1 Q (F0 m 1248 ls [.int 1])) : W p l e room_1 s m #[Value.ref b] below meth c s.heap [] 0 0 Q (entryFrame m ([Value.ref b] : List Value).toArray 28) := by
  have hA : ∀ q : Nat, s.heap.size ≤ q → (fun q : Nat => s.heap.size ≤ q) q := fun _ h => h
  have S : CallFix p m c cL_law 28 s #[Value.ref b] wsL_law RL := ⟨hx, hb, hml, hown, hts⟩
  have w0 : ∀ (i : Nat) {w : Cond}, ([Cond.instantiable RX4 2, Cond.classLink RL 29 RX4, Cond.initialized RX4, Cond.methodLink RL 95 yX4_init, Cond.instanceMethod yX4_init] : List Cond)[i]? = some w → w.before #[Value.ref b] s = true := fun i _ h => hini _ (List.mem_of_getElem? (i := i) h)
  have hS : va_S (fun q : Nat => s.heap.size ≤ q) s.heap s.heap [] := va_S.rf
  have hP : va_P X.1 vwCl [] s.heap := fun k q h => by simp at h
  have hD : va_D (fun q : Nat => s.heap.size ≤ q) [] := ⟨fun i j p q h => by simp at h, fun k q h => by simp at h⟩
  have hbA : ¬ (fun q : Nat => s.heap.size ≤ q) b := Nat.not_le.mpr hbl
  have hl := lv_entry ([.ref b]) (n := 28) (Nat.le_of_ble_eq_true rfl)
  rw [lg_entry_eq]
  generalize (lg_sl ([.ref b]) ++ List.replicate (28 - (lg_sl ([.ref b])).length) Slot.unset).toArray = ls at hl ⊢
  have hl : lv_has ls 28 [(0, .ref b)] := hl
  have in_X4 : ∀ w ∈ wsX40, w ∈ wsL_law := inlX4
  obtain ⟨B, QQ, f1, f2⟩ := p_all xs hL z_h0
  refine va_new (pc := 0) (ci := 4) (fs := [.null, .null]) (C := RX4) (T := TX4) (N := 2) hx hb hts in_X4 tyX4 tyX4_ok hown (w0 1 rfl) (w0 0 rfl) (w0 2 rfl) hK hP hD hS hA rfl (fun j hj => by rcases (show j = 0 ∨ j = 1 by omega) with rfl | rfl <;> rfl) (Nat.le_of_ble_eq_true rfl) (Nat.le_of_ble_eq_true rfl) dL_law_0 (fun a H hP hD hS => ?_)
  have hP : va_P X.1 vwCl [(a, .inr (4, [.null, .null]))] H := hP
  have hD : va_D (fun q : Nat => s.heap.size ≤ q) [(a, .inr (4, [.null, .null]))] := hD
  refine W.widen (k := 1) (n := 2) (Nat.le_of_ble_eq_true rfl) (Nat.le_of_ble_eq_true rfl) ?_
  refine lv_dup (pc := 3) hx hb dL_law_3 rfl ?_
  refine z_caV (pc := 4) (wr := []) S (m_X4_init l X a) (cwI 0 hts gL_law_X4_init rfl rfl rfl (w0 2 rfl) (w0 3 rfl) (w0 4 rfl) rfl hdX4_init ⟨Nat.le_of_ble_eq_true rfl, Nat.le_of_ble_eq_true rfl⟩) hP hK hN hD hS hA [0] [] rfl rfl rfl rfl (by decide) ⟨Nat.le_of_ble_eq_true rfl, Nat.le_of_ble_eq_true rfl⟩ rfl hl.1 rfl (Nat.le_of_ble_eq_true rfl) dL_law_4 (fun u H locs hu hP hD hS => ?_)
  obtain ⟨d, d2, rfl⟩ := hu
  have hP : va_P X.1 vwCl (z_wB X a d d2 (z_h0, z_h0)) H := hP
  have hD : va_D (fun q : Nat => s.heap.size ≤ q) (z_wB X a d d2 (z_h0, z_h0)) := hD
  refine W.widen (k := 53) (n := 358) (Nat.le_of_ble_eq_true rfl) (Nat.le_of_ble_eq_true rfl) ?_
  refine lv_astore_n (pc := 7) (lv' := [(1, .ref a), (0, .ref b)]) hx hb dL_law_7 rfl hl (by decide) rfl (fun ls hl => ?_)
  refine lv_aload_n (pc := 8) hx hb dL_law_8 rfl (lv_at hl 0 rfl) ?_
  refine lv_aload_n (pc := 9) hx hb dL_law_9 rfl (lv_at hl 1 rfl) ?_
  refine z_cbld (pc := 10) (W0 := z_wB X a d d2 (z_h0, z_h0)) S (fun sz => m_L_build l hl0 X a d d2 (z_h0, z_h0) b L xs f1 sz) (va_cwS 2 hts gL_law_L_build rfl rfl rfl hdL_build ⟨Nat.le_of_ble_eq_true rfl, Nat.le_of_ble_eq_true rfl⟩) hP hK hN hA2 (hT.kept (fun q h1 h2 => hS.2.1 q h1 h2)) hXs hbl hbA hNL hD hS hA ⟨Nat.le_of_ble_eq_true rfl, Nat.le_of_ble_eq_true rfl⟩ rfl hl.1 rfl (Nat.le_of_ble_eq_true rfl) dL_law_10 (fun u q H locs hu hP hD hS => ?_)
  obtain ⟨D1, rfl⟩ := hu
  refine W.widen (k := 75321) (n := 978799) (Nat.le_of_ble_eq_true rfl) (Nat.le_of_ble_eq_true rfl) ?_
  refine lv_astore_n (pc := 13) (lv' := [(2, .ref q), (1, .ref a), (0, .ref b)]) hx hb dL_law_13 rfl hl (by decide) rfl (fun ls hl => ?_)
  refine lv_aload_n (pc := 14) hx hb dL_law_14 rfl (lv_at hl 0 rfl) ?_
  refine lv_ifnonnull (pc := 15) (tgt := 20) hx hb dL_law_15 (by decide) ?_
  exact w_L_law hl0 S hK hN hA2 hT hXs hbl hbA hA 75321 978799 ⟨Nat.le_of_ble_eq_true rfl, Nat.le_of_ble_eq_true rfl⟩ f2 (fun k1 s1 H locs hk hs hS ls z hz => by rw [hz]; exact hend k1 s1 H locs ls hk hs hS) H locs hP hD hS ls (lv_sub hl [2, 1, 0] rfl)
