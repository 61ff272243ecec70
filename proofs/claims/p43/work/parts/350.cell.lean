-- ===== building a house out of the script =====
def z_NL (U : State) : Prop := va_Nw (.methodLinkNest RL 85 yX5_init "HouseBellsLaw") U
section ZNL
variable {p : Program} {l : Launch} {e : Env} {R : Room} {s : State} {m : MethodId} {args : Array Value} {below : List Frame} {meth : Method} {c : Code} {H : Heap} {locs : List Loc} {cells slots : Nat} {Q : State → Prop}
variable {y : MethodName} {bytes cc : ByteArray} {maxL nL n index fr lo : Nat} {ws : List Cond} {Ts : List Cond} {own host : String} {b : Addr} {As rest st0 : List Value} {ls : Array Slot} {pc : Nat} {X : z_X} {wl wc wr : va_W} {A : Nat → Prop} {H0 : Heap} {mc ms : Nat}
theorem z_ckN {post : va_W → Prop} (S : CallFix p m c cc nL s args Ts own) (hM : z_kV l y ws fr lo mc ms X (.ref b :: As) wc post) (cw : va_CN R s args own index y host bytes maxL none ws (z_R2 fr lo mc ms) mc ms n ∧ y.name = "<init>" ∧ (Cond.instanceMethod y).before args s = true) (hP : va_P X.1 vwCl (wl ++ (wc ++ wr)) H) (hK : va_K X.1 vwCl (z_ty X) s) (hN : z_N s) (hA2 : z_A2 X s) (hD : va_D A (wl ++ (wc ++ wr))) (hS : va_S A H0 H locs) (hA : ∀ q, H0.size ≤ q → A q) (hf : cells + mc ≤ R.cells ∧ slots + ms ≤ R.slots) (hn : As.length = n) (hsz : ls.size = nL) (hst : st0 = As.reverse ++ .ref b :: rest) (hW : (rest.map fun v => v.category).sum ≤ 8) (hdg : decode cc pc = .ok (.invokespecial index, 3)) (kk : ∀ (u : va_W) (H1 : Heap) (locs1 : List Loc), post u → va_P X.1 vwCl (wl ++ (u ++ wr)) H1 → va_D A (wl ++ (u ++ wr)) → va_S A H0 H1 locs1 → W p l e R s m args below meth c H1 locs1 (cells + mc) (slots + ms) Q (F0 m (pc + 3) ls rest)) : W p l e R s m args below meth c H locs cells slots Q (F0 m pc ls st0) := by
  have hs := z_S_mid wl wc wr
  have hfr := hs.free hD hS hA
  refine va_callv (va_runIN (rest := rest) S (hM H.size) cw ⟨z_bk _ _ _ _, z_prek hP hK hN hA2 hD _⟩ rfl hn hsz hst (lv_room hW) hdg hf) hS (fun q _ h => hfr q h) hfr (fun u t H1 locs1 ht hvm hw hB hz1 hk1 hS1 => ?_)
  obtain ⟨hP1, hD1⟩ := hB
  rw [ht] at hP1
  obtain ⟨a, b⟩ := z_join3 hP hD hk1 hfr hP1 hD1
  exact kk u H1 locs1 hw a b hS1
end ZNL
set_option maxHeartbeats 4000000 in
theorem m_L_cell (l : Launch) (sb L : Nat) (xs : Nat → Int32) (k : Int32) {RR : Int32} (hf : f_L_cell L xs k = some RR) : z_Cc l sb L xs k RR := by
  refine Met.ofW (cc := cL_cell) (maxL := 2) (ret := (some .int)) (by decide) rfl ?_
  intro p e s m args below meth c s₁ Bd hml hv
  obtain ⟨rfl, hX⟩ := hv
  have hx := Bd.exec
  have hb := Bd.bytes
  have hr := Bd.returns
  have hts := atoms_spec (ws := wsL_cell) Bd.pre
  have hown : s.vm.findClass RL = some m.cls := findClass_of_methodNamed Bd.named
  have hlocks := Bd.notSynchronized
  have hbl : sb < s.heap.size := by
    obtain ⟨scr, h1, -⟩ := hX
    exact (Array.getElem?_eq_some_iff.mp h1).1
  have hbA : ¬ (fun _ : Nat => False) sb := fun h => h
  have hS : va_S (fun _ : Nat => False) s.heap s.heap [] := va_S.rf
  have hl := lv_entry ([.ref sb, .int k]) (n := 2) (Nat.le_of_ble_eq_true rfl)
  rw [lg_entry_eq]
  generalize (lg_sl ([.ref sb, .int k]) ++ List.replicate (2 - (lg_sl ([.ref sb, .int k])).length) Slot.unset).toArray = ls at hl ⊢
  have hl : lv_has ls 2 [(0, .ref sb), (1, .int k)] := hl
  unfold f_L_cell at hf
  refine lv_iload_n (pc := 0) hx hb dL_cell_0 rfl (lv_at hl 1 rfl) ?_
  refine lv_aload_n (pc := 1) hx hb dL_cell_1 rfl (lv_at hl 0 rfl) ?_
  refine va_slen (pc := 2) hx hb hX hbl hbA hS dL_cell_2 ?_
  refine lv_icmp_ge (pc := 3) (tgt := 12) hx hb dL_cell_3 (by decide) (fun c_3 => ?_) (fun c_3 => ?_)
  · replace hf := z_ip (c := nI L ≤ k) c_3 hf
    refine lv_ldc (v := 790386105) (pc := 12) hx hb hown (hts (.constant RL 8 (790386105)) (List.mem_of_getElem? (i := 1) rfl)) dL_cell_12 ?_
    refine lv_iload_n (pc := 14) hx hb dL_cell_14 rfl (lv_at hl 1 rfl) ?_
    refine lv_iconst (v := 3) (pc := 15) hx hb dL_cell_15 (by decide) ?_
    refine lv_iadd (pc := 16) hx hb dL_cell_16 ?_
    refine lv_imul (pc := 17) hx hb dL_cell_17 ?_
    exact W.iret (pc := 18) hx hb hr (fun t ht hW => ⟨_, rfl, (Option.some.inj hf), ht⟩) (fun _ h => nomatch h) dL_cell_18
  · replace hf := z_in (c := nI L ≤ k) c_3 hf
    obtain ⟨h1, h2⟩ := z_at_s hf
    refine lv_aload_n (pc := 6) hx hb dL_cell_6 rfl (lv_at hl 0 rfl) ?_
    refine lv_iload_n (pc := 7) hx hb dL_cell_7 rfl (lv_at hl 1 rfl) ?_
    refine va_sld (pc := 8) hx hb hX hbl hbA hS h1 dL_cell_8 ?_
    refine lv_goto (pc := 9) (tgt := 18) hx hb dL_cell_9 (by decide) ?_
    exact W.iret (pc := 18) hx hb hr (fun t ht hW => ⟨_, rfl, h2, ht⟩) (fun _ h => nomatch h) dL_cell_18
theorem hdL_cell : yL_cell.cls ≠ "java/lang/invoke/MethodHandle" ∧ yL_cell.cls ≠ "java/lang/invoke/VarHandle" ∧ (parseMethodDescriptor yL_cell.desc).map (fun d => d.parameters.length) = some 2 := by decide +kernel
theorem hdL_build : yL_build.cls ≠ "java/lang/invoke/MethodHandle" ∧ yL_build.cls ≠ "java/lang/invoke/VarHandle" ∧ (parseMethodDescriptor yL_build.desc).map (fun d => d.parameters.length) = some 2 := by decide +kernel
def z_Pb (X : z_X) (w : va_W) (sb L : Nat) (xs : Nat → Int32) (sz : Nat) : State → Prop := fun U => z_Pa X w sz U ∧ va_X sb L xs U U.heap ∧ z_NL U ∧ ¬ va_A w sz sb
theorem z_bb (av : List Value) (X : z_X) (w : va_W) (sb L : Nat) (xs : Nat → Int32) (sz : Nat) : FrameBlind (va_Pc av (z_Pb X w sb L xs sz)) := fun a U g mk q => by
  obtain ⟨q0, qk, qX, qL, qn⟩ := q
  obtain ⟨b0, bk⟩ := z_ba av X w sz a U g mk ⟨q0, qk⟩
  exact ⟨b0, bk, qX.moved (U := U.calling g mk a) (Vm.Alike.refl U.vm), va_Nw.same (U := U.calling g mk a) rfl rfl qL, qn⟩
