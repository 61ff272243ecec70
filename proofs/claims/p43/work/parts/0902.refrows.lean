-- ===== rows of rows: made, written; worlds told otherwise =====
def z_up (p : Nat → Nat) (k q : Nat) : Nat → Nat := fun i => if i = k then q else p i
theorem z_up_s {p : Nat → Nat} {k q : Nat} : z_up p k q k = q := if_pos rfl
theorem z_up_n {p : Nat → Nat} {k q i : Nat} (h : i ≠ k) : z_up p k q i = p i := if_neg h
theorem z_rows_cg {X : z_X} {p p' : Nat → Nat} {c : Nat} {R R' : Nat → Nat → Int32} {n : Nat} (h : ∀ i, i < n → p i = p' i) (h2 : ∀ i, i < n → R i = R' i) : z_rows X p c R n = z_rows X p' c R' n := by
  refine List.ext_getElem? fun j => ?_
  by_cases hj : j < n
  · rw [z_rows_get hj, z_rows_get hj, h j hj, h2 j hj]
  · rw [List.getElem?_eq_none (by rw [z_rows_len]; omega), List.getElem?_eq_none (by rw [z_rows_len]; omega)]
theorem z_rows_s (X : z_X) (p : Nat → Nat) (c : Nat) (R : Nat → Nat → Int32) (n : Nat) : z_rows X p c R (n + 1) = z_rows X p c R n ++ [(p n, .inl (X.2.1, c, .inl (R n)))] := by
  unfold z_rows; rw [List.range_succ, List.map_append]; rfl
theorem z_rows_push {X : z_X} {p : Nat → Nat} {c : Nat} {R : Nat → Nat → Int32} {n q : Nat} : z_rows X p c R n ++ [(q, .inl (X.2.1, c, .inl (R n)))] = z_rows X (z_up p n q) c R (n + 1) := by
  rw [z_rows_s, z_up_s, z_rows_cg (p := p) (p' := z_up p n q) (fun i hi => (z_up_n (by omega)).symm) (fun _ _ => rfl)]
theorem z_cg {cA : ClassId} {n : Nat} {f g : Nat → Option Nat} (h : ∀ i, i < n → f i = g i) : vp_cell cA (z_ra n f) = vp_cell cA (z_ra n g) := by
  show arrV cA n (fun j => va_rf (f j)) = arrV cA n (fun j => va_rf (g j))
  unfold arrV
  have e : (fun j : Fin n => va_rf (f j.val)) = fun j => va_rf (g j.val) := funext fun j => by rw [h j.val j.isLt]
  rw [e]
theorem z_evP {D : va_G} {cl : List vw_C} {w w' : va_W} {H : Heap} (h : va_P D cl w H) (hs : ∀ q' ∈ w', ∃ q ∈ w, va_at D cl q H → va_at D cl q' H) : va_P D cl w' H := fun k q hk => by
  obtain ⟨q0, h0, h1⟩ := hs q (List.mem_of_getElem? hk)
  obtain ⟨i, hi⟩ := List.getElem?_of_mem h0
  exact h1 (h i q0 hi)
theorem z_evD {A : Nat → Prop} {w w' : va_W} (h : va_D A w) (e : w.map (fun q => q.1) = w'.map (fun q => q.1)) : va_D A w' := by
  rw [z_D_nd] at h ⊢
  refine ⟨by rw [← e]; exact h.1, fun q hq => ?_⟩
  have : q.1 ∈ w'.map (fun q => q.1) := List.mem_map_of_mem hq
  rw [← e] at this
  obtain ⟨q0, h0, h1⟩ := List.mem_map.mp this
  rw [← h1]; exact h.2 q0 h0
/-- another function for a row of rows, the same where it counts -/
theorem z_cgP {D : va_G} {cl : List vw_C} {w1 w2 : va_W} {H : Heap} {q n : Nat} {cA : ClassId} {f g : Nat → Option Nat} (e : ∀ i, i < n → f i = g i) (h : va_P D cl (w1 ++ ((q, .inl (cA, z_ra n f)) :: w2)) H) : va_P D cl (w1 ++ ((q, .inl (cA, z_ra n g)) :: w2)) H := by
  refine z_evP h (fun x hx => ?_)
  rcases List.mem_append.mp hx with hx | hx
  · exact ⟨x, List.mem_append_left _ hx, id⟩
  · rcases List.mem_cons.mp hx with rfl | hx
    · refine ⟨(q, .inl (cA, z_ra n f)), List.mem_append_right _ List.mem_cons_self, fun z => ?_⟩
      show H[q]? = some (vp_cell cA (z_ra n g))
      rw [← z_cg e]; exact z
    · exact ⟨x, List.mem_append_right _ (List.mem_cons_of_mem _ hx), id⟩
theorem z_cgD {A : Nat → Prop} {w1 w2 : va_W} {q : Nat} {e1 e2 : va_E} (h : va_D A (w1 ++ ((q, e1) :: w2))) : va_D A (w1 ++ ((q, e2) :: w2)) := z_evD h (by simp)
theorem z_AO.use {args : Array Value} {s : State} (h : z_AO s) : (Cond.arrayOver (.array .int)).before args s = true := by
  unfold z_AO Cond.before Cond.holds at h
  unfold Cond.before Cond.holds
  simp only [Cond.value] at h ⊢
  exact h
theorem z_ar_str : (FieldType.array FieldType.int).toString = "[I" := by decide +kernel
def z_kR (l : Launch) (y : MethodName) (ws : List Cond) (fr lo mc ms : Nat) (X : z_X) (av : List Value) (w : va_W) (post : va_W → Nat → Prop) : Prop := ∀ sz : Nat, Met l y ws (z_R2 fr lo mc ms) (va_Pc av (z_Pk X w sz)) (va_Qr (fun _ : va_W => True) (fun u q t => post u q ∧ z_Bm X (va_A w sz) u t) (va_A w sz)) mc ms (va_A w sz)
section ZO
variable {p : Program} {l : Launch} {e : Env} {R : Room} {s : State} {m : MethodId} {args : Array Value} {below : List Frame} {meth : Method} {c : Code} {H : Heap} {locs : List Loc} {cells slots : Nat} {Q : State → Prop}
variable {y : MethodName} {bytes cc : ByteArray} {maxL nL n index fr lo : Nat} {ret : Option FieldType} {ws : List Cond} {Ts : List Cond} {own C : String} {b : Addr} {As rest st0 : List Value} {ls : Array Slot} {pc : Nat} {X : z_X} {wl wc wr W0 : va_W} {A : Nat → Prop} {H0 : Heap} {mc ms : Nat}
theorem z_newA (hexec : p.tables.exec = Jvm.exec) (hb : c.code = cc) (hown : s.vm.findClass own = some m.cls) (hclink : (Cond.classLink own index "[I").before args s = true) (hA2 : z_A2 X s) (hK : va_K X.1 vwCl (z_ty X) s) (hP : va_P X.1 vwCl W0 H) (hD : va_D A W0) (hS : va_S A H0 H locs) (hA : ∀ q, H0.size ≤ q → A q) {v : Int32} {N' : Nat} (hn : ¬ v < 0) (hN : v.toNatClampNeg = N') (hbytes : N' ≤ 1000) (hcells : cells + 1 ≤ R.cells) (hslots : slots + N' ≤ R.slots) (hdg : decode cc pc = .ok (.anewarray index, 3))
    (kk : ∀ (q : Nat) (H1 : Heap), va_P X.1 vwCl (W0 ++ [(q, .inl (X.2.2.2, z_ra N' (fun _ => none)))]) H1 → va_D A (W0 ++ [(q, .inl (X.2.2.2, z_ra N' (fun _ => none)))]) → va_S A H0 H1 locs → W p l e R s m args below meth c H1 locs (cells + 1) (slots + N') Q (F0 m (pc + 3) ls (.ref q :: rest))) : W p l e R s m args below meth c H locs cells slots Q (F0 m pc ls (.int v :: rest)) := by
  subst hN
  have e0 := z_ar_str
  have hb4 : v.toNatClampNeg * 4 ≤ 536870912 := Nat.le_trans (Nat.mul_le_mul_right 4 hbytes) (Nat.le_of_ble_eq_true rfl)
  have hcl2 : (Cond.classLink own index (FieldType.array FieldType.int).toString).before args s = true := by rw [e0]; exact hclink
  refine W.anewA (t := .int) hexec hb hown hcl2 hA2.2.1.use rfl hdg rfl hn hb4 hcells hslots fun cA kA comp f1 f2 f3 f4 => ?_
  have hcA : X.2.2.2 = cA := by
    have h2 : s.vm.findClass ("[" ++ (FieldType.array FieldType.int).toString) = some X.2.2.2 := (hK.2 2 _ rfl).2
    exact Option.some.inj (h2.symm.trans f1)
  subst hcA
  generalize hH1 : H.push ({ cls := X.2.2.2, slots := Array.replicate v.toNatClampNeg .null, vm := .none } : Cell) = H1
  have z1 : H1.size = H.size + 1 := by rw [← hH1, Array.size_push]
  have e1 : H1[H.size]? = some (arrV X.2.2.2 v.toNatClampNeg (fun _ => .null)) := by rw [← hH1, Array.getElem?_push_size, ← arrV_new]
  have o1 : ∀ q : Nat, q < H.size → H1[q]? = H[q]? := fun q hq => by rw [← hH1, Array.getElem?_push, if_neg (Nat.ne_of_lt hq)]
  have hk : ∀ (k : Nat) (x : Nat × va_E), W0[k]? = some x → H1[x.1]? = H[x.1]? := fun k x hx => o1 x.1 ((hP k x hx).lt)
  refine kk H.size H1 ((hP.kept hk).app (fun k x hx => ?_)) (hD.push hP rfl (hA _ hS.1)) ⟨Nat.le_trans hS.1 (by omega), fun x h1 h2 => (o1 x (Nat.lt_of_lt_of_le h1 hS.1)).trans (hS.2.1 x h1 h2), hS.2.2⟩
  have hz : k < 1 := (List.getElem?_eq_some_iff.mp hx).1
  rw [show k = 0 by omega] at hx
  cases hx
  exact e1
theorem z_aast (hexec : p.tables.exec = Jvm.exec) (hb : c.code = cc) (hA2 : z_A2 X s) (hK : va_K X.1 vwCl (z_ty X) s) (hP : va_P X.1 vwCl W0 H) (hD : va_D A W0) (hS : va_S A H0 H locs) (q0 qk : Nat) {a v k0 : Nat} {g : Nat → Int32} {f : Nat → Option Nat} (ha : W0[q0]? = some (a, .inl (X.2.2.2, z_ra n f))) (hv : W0[qk]? = some (v, .inl (X.2.1, k0, .inl g))) {i : Int32} (hin : vp_in i n) (hdg : decode cc pc = .ok (.aastore, 1))
    (kk : ∀ (H1 : Heap) (locs1 : List Loc), va_P X.1 vwCl (W0.set q0 (a, .inl (X.2.2.2, z_ra n (va_up f i.toNatClampNeg (some v))))) H1 → va_D A (W0.set q0 (a, .inl (X.2.2.2, z_ra n (va_up f i.toNatClampNeg (some v))))) → va_S A H0 H1 locs1 → W p l e R s m args below meth c H1 locs1 cells slots Q (F0 m (pc + 1) ls rest)) : W p l e R s m args below meth c H locs cells slots Q (F0 m pc ls (.ref v :: .int i :: .ref a :: rest)) := by
  have hlt : i.toNatClampNeg < n := Nat.not_le.mp fun q => hin (Or.inr q)
  have h0 : ¬ i < 0 := fun q => hin (Or.inl q)
  have g1 : H[v]? = some (vp_cell X.2.1 (k0, .inl g)) := hP qk _ hv
  obtain ⟨kA, k1, k2⟩ := hA2.1
  obtain ⟨-, kI, hkI, -⟩ := (hK.2 0 _ rfl).1 0 (fun _ => .int 0)
  refine W.aast (cv := vp_cell X.2.1 (k0, .inl g)) hexec hb (hP q0 _ ha) (fun q h => by cases h) (fun h => by cases h) k1 k2 rfl hkI ⟨h0, by show _ < (arrV _ _ _).slots.size; rw [arrV_size]; exact hlt⟩ g1 (fun q h => by cases h) hkI (va_asg _ _) rfl rfl hdg fun H1 e z oq => ?_
  refine kk H1 _ (hP.set hD ha ?_ oq) (hD.set ha) (hS.put z oq (hD.2 q0 _ ha))
  show H1[a]? = some (vp_cell _ _)
  rw [e]
  rw [vp_cell_q, vp_cell_q, arrV_store]
  congr 2
  funext q
  by_cases hq : q = i.toNatClampNeg
  · subst hq
    simp [updV, va_up, va_rf]
  · simp [updV, va_up, hq]
/-- a constructor's call -/
theorem z_ckC {post : va_W → Prop} (S : CallFix p m c cc nL s args Ts own) (hM : z_kV l y ws fr lo mc ms X (.ref b :: As) wc post) (cw : CallB R s args own index y bytes maxL none ws (z_R2 fr lo mc ms) mc ms n ∧ y.name = "<init>" ∧ (Cond.instanceMethod y).before args s = true) (hP : va_P X.1 vwCl (wl ++ (wc ++ wr)) H) (hK : va_K X.1 vwCl (z_ty X) s) (hN : z_N s) (hA2 : z_A2 X s) (hD : va_D A (wl ++ (wc ++ wr))) (hS : va_S A H0 H locs) (hA : ∀ q, H0.size ≤ q → A q) (hf : cells + mc ≤ R.cells ∧ slots + ms ≤ R.slots) (hn : As.length = n) (hsz : ls.size = nL) (hst : st0 = As.reverse ++ .ref b :: rest) (hW : (rest.map fun v => v.category).sum ≤ 8) (hdg : decode cc pc = .ok (.invokespecial index, 3)) (kk : ∀ (u : va_W) (H1 : Heap) (locs1 : List Loc), post u → va_P X.1 vwCl (wl ++ (u ++ wr)) H1 → va_D A (wl ++ (u ++ wr)) → va_S A H0 H1 locs1 → W p l e R s m args below meth c H1 locs1 (cells + mc) (slots + ms) Q (F0 m (pc + 3) ls rest)) : W p l e R s m args below meth c H locs cells slots Q (F0 m pc ls st0) := by
  have hs := z_S_mid wl wc wr
  have hfr := hs.free hD hS hA
  refine va_callv (va_runI (rest := rest) S (hM H.size) cw ⟨z_bk _ _ _ _, z_prek hP hK hN hA2 hD _⟩ rfl hn hsz hst (lv_room hW) hdg hf) hS (fun q _ h => hfr q h) hfr (fun u t H1 locs1 ht hvm hw hB hz1 hk1 hS1 => ?_)
  obtain ⟨hP1, hD1⟩ := hB
  rw [ht] at hP1
  obtain ⟨a, b⟩ := z_join3 hP hD hk1 hfr hP1 hD1
  exact kk u H1 locs1 hw a b hS1
/-- calls that answer a cell: a receiver's, a static one -/
theorem z_ckRV {post : va_W → Nat → Prop} {ci : Nat} {q : vw_C} {fs : List Value} (S : CallFix p m c cc nL s args Ts own) (hM : z_kR l y ws fr lo mc ms X (.ref b :: As) wc post) (cw : CallW R s args own C index y bytes maxL ret ws (z_R2 fr lo mc ms) mc ms n) (hP : va_P X.1 vwCl (wl ++ (wc ++ wr)) H) (hK : va_K X.1 vwCl (z_ty X) s) (hN : z_N s) (hA2 : z_A2 X s) (hD : va_D A (wl ++ (wc ++ wr))) (hS : va_S A H0 H locs) (hA : ∀ q, H0.size ≤ q → A q) (hc : vwCl[ci]? = some q) (hq : q.1 = C) (he : wc[0]? = some (b, .inr (ci, fs))) (hf : cells + mc ≤ R.cells ∧ slots + ms ≤ R.slots) (hn : As.length = n) (hsz : ls.size = nL) (hst : st0 = As.reverse ++ .ref b :: rest) (hW : (rest.map fun v => v.category).sum ≤ 8) (hdg : decode cc pc = .ok (.invokevirtual index, 3)) (kk : ∀ (u : va_W) (ra : Nat) (H1 : Heap) (locs1 : List Loc), post u ra → va_P X.1 vwCl (wl ++ (u ++ wr)) H1 → va_D A (wl ++ (u ++ wr)) → va_S A H0 H1 locs1 → W p l e R s m args below meth c H1 locs1 (cells + mc) (slots + ms) Q (F0 m (pc + 3) ls (.ref ra :: rest))) : W p l e R s m args below meth c H locs cells slots Q (F0 m pc ls st0) := by
  have hs := z_S_mid wl wc wr
  have hfr := hs.free hD hS hA
  refine va_callr (va_runV (rest := rest) S (hM H.size) cw ⟨z_bk _ _ _ _, z_recv hP hK hN hs hc hq he, z_prek hP hK hN hA2 hD _⟩ rfl hn hsz hst (lv_room hW) hdg hf) hS (fun q _ h => hfr q h) hfr (fun u ra t H1 locs1 ht hvm _ hB hz1 hk1 hS1 => ?_)
  obtain ⟨hw, hP1, hD1⟩ := hB
  rw [ht] at hP1
  obtain ⟨a, b⟩ := z_join3 hP hD hk1 hfr hP1 hD1
  exact kk u ra H1 locs1 hw a b hS1
theorem z_ckRS {post : va_W → Nat → Prop} (S : CallFix p m c cc nL s args Ts own) (hM : z_kR l y ws fr lo mc ms X As wc post) (cw : CallB R s args own index y bytes maxL ret ws (z_R2 fr lo mc ms) mc ms n ∧ (Cond.static y).before args s = true) (hP : va_P X.1 vwCl (wl ++ (wc ++ wr)) H) (hK : va_K X.1 vwCl (z_ty X) s) (hN : z_N s) (hA2 : z_A2 X s) (hD : va_D A (wl ++ (wc ++ wr))) (hS : va_S A H0 H locs) (hA : ∀ q, H0.size ≤ q → A q) (hf : cells + mc ≤ R.cells ∧ slots + ms ≤ R.slots) (hn : As.length = n) (hsz : ls.size = nL) (hst : st0 = As.reverse ++ rest) (hW : (rest.map fun v => v.category).sum ≤ 8) (hdg : decode cc pc = .ok (.invokestatic index, 3)) (kk : ∀ (u : va_W) (ra : Nat) (H1 : Heap) (locs1 : List Loc), post u ra → va_P X.1 vwCl (wl ++ (u ++ wr)) H1 → va_D A (wl ++ (u ++ wr)) → va_S A H0 H1 locs1 → W p l e R s m args below meth c H1 locs1 (cells + mc) (slots + ms) Q (F0 m (pc + 3) ls (.ref ra :: rest))) : W p l e R s m args below meth c H locs cells slots Q (F0 m pc ls st0) := by
  have hs := z_S_mid wl wc wr
  have hfr := hs.free hD hS hA
  refine va_callr (va_runS (rest := rest) S (hM H.size) cw ⟨z_bk _ _ _ _, z_prek hP hK hN hA2 hD _⟩ rfl hn hsz hst (lv_room hW) hdg hf) hS (fun q _ h => hfr q h) hfr (fun u ra t H1 locs1 ht hvm _ hB hz1 hk1 hS1 => ?_)
  obtain ⟨hw, hP1, hD1⟩ := hB
  rw [ht] at hP1
  obtain ⟨a, b⟩ := z_join3 hP hD hk1 hfr hP1 hD1
  exact kk u ra H1 locs1 hw a b hS1
end ZO
