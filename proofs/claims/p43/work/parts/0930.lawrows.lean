-- ===== rows for bells and house by hand side by side; the law's small methods =====
def z_Pa (X : z_X) (w : va_W) (sz : Nat) : State → Prop := fun U => z_Pk X w sz U ∧ z_T (va_A w sz) U U.heap
theorem z_ba (av : List Value) (X : z_X) (w : va_W) (sz : Nat) : FrameBlind (va_Pc av (z_Pa X w sz)) := fun a U g mk q => by
  obtain ⟨q0, qk, qT⟩ := q
  obtain ⟨b0, bk⟩ := z_bk av X w sz a U g mk ⟨q0, qk⟩
  exact ⟨b0, bk, z_T.same (U := U.calling g mk a) rfl qT⟩
def z_aI (l : Launch) (y : MethodName) (ws : List Cond) (fr lo mc ms : Nat) (X : z_X) (av : List Value) (w : va_W) (post : Int32 → va_W → Prop) : Prop := ∀ sz : Nat, Met l y ws (z_R2 fr lo mc ms) (va_Pc av (z_Pa X w sz)) (va_Qi post (z_Bm X (va_A w sz)) (va_A w sz)) mc ms (va_A w sz)
theorem z_tout {v : Int32} (h1 : ¬ v = 1) (h2 : ¬ v = 2) (h3 : ¬ v = 3) (h4 : ¬ v = 4) (h5 : ¬ v = 5) (h6 : ¬ v = 6) (h7 : ¬ v = 7) (h8 : ¬ v = 8) (h9 : ¬ v = 9) (h10 : ¬ v = 10) (h11 : ¬ v = 11) : v.toInt < 1 ∨ 11 < v.toInt := by
  have e : ∀ (k : Int32) (z : Int), k.toInt = z → ¬ v = k → v.toInt ≠ z := fun k z hz h q => h (Int32.toInt_inj.mp (q.trans hz.symm))
  have a1 := e 1 1 (by decide) h1; have a2 := e 2 2 (by decide) h2; have a3 := e 3 3 (by decide) h3; have a4 := e 4 4 (by decide) h4
  have a5 := e 5 5 (by decide) h5; have a6 := e 6 6 (by decide) h6; have a7 := e 7 7 (by decide) h7; have a8 := e 8 8 (by decide) h8
  have a9 := e 9 9 (by decide) h9; have a10 := e 10 10 (by decide) h10; have a11 := e 11 11 (by decide) h11
  omega
section ZV
variable {D0 : va_G} {cl : List vw_C} {wl : va_W} {X : z_X} {a : Nat} {D : z_D} {Q : z_Q} {H : Heap} {A : Nat → Prop} {q lq : Nat} {g : Nat → Int32}
theorem z_perm2 {α : Type} (wl : List α) (o r sv ln x y : α) (U V : List α) : (wl ++ ([o, sv, ln] ++ (U ++ V)) ++ [x, y]).Perm (wl ++ ([o, y, sv, ln] ++ ((U ++ [x]) ++ V))) := by
  classical
  refine List.perm_iff_count.mpr fun z => ?_
  simp only [List.count_append, List.count_cons, List.count_nil]
  omega
theorem z_perm3 {α : Type} (wl : List α) (o r sv ln x y : α) (U V : List α) : (wl ++ ([o, r, ln] ++ (U ++ V)) ++ [x, y]).Perm (wl ++ ([o, r, y, ln] ++ (U ++ (V ++ [x])))) := by
  classical
  refine List.perm_iff_count.mpr fun z => ?_
  simp only [List.count_append, List.count_cons, List.count_nil]
  omega
abbrev z_oR (D : z_D) (n q lq : Nat) : z_D := ((q, D.1.2), (z_up D.2.1 n lq, D.2.2))
abbrev z_oV (D : z_D) (n q lq : Nat) : z_D := ((D.1.1, q, D.1.2.2), (D.2.1, z_up D.2.2 n lq))
theorem zs_NR0 : (z_W wl X a D Q [(lq, .inl (X.2.1, 6, .inl g))] ++ ([(q, .inl (X.2.2.2, z_ra (Q.2.1.1 + 1) (z_pa (z_up D.2.1 Q.2.1.1 lq))))] : va_W)).set (wl.length + 0) (a, .inr (5, (z_fs D Q).set 0 (.ref q))) = wl ++ ([(a, .inr (5, (z_fs D Q).set 0 (.ref q))), (D.1.1, .inl (X.2.2.2, z_ra Q.2.1.1 (z_pa D.2.1))), (D.1.2.1, .inl (X.2.2.2, z_ra Q.2.2.1.1 (z_pa D.2.2))), (D.1.2.2, .inl (X.2.1, Q.2.2.2.1, .inl Q.2.2.2.2))] ++ (z_rows X D.2.1 6 Q.2.1.2 Q.2.1.1 ++ z_rows X D.2.2 5 Q.2.2.1.2 Q.2.2.1.1)) ++ [(lq, .inl (X.2.1, 6, .inl g)), (q, .inl (X.2.2.2, z_ra (Q.2.1.1 + 1) (z_pa (z_up D.2.1 Q.2.1.1 lq))))] := by
  unfold z_W
  rw [List.append_assoc wl, z_set_r, List.append_assoc (z_wS X a D Q), List.append_assoc wl]
  rfl
theorem zs_NR1 : z_W wl X a (z_oR D Q.2.1.1 q lq) (z_qNR Q g) [] = wl ++ ([(a, .inr (5, (z_fs D Q).set 0 (.ref q))), (q, .inl (X.2.2.2, z_ra (Q.2.1.1 + 1) (z_pa (z_up D.2.1 Q.2.1.1 lq)))), (D.1.2.1, .inl (X.2.2.2, z_ra Q.2.2.1.1 (z_pa D.2.2))), (D.1.2.2, .inl (X.2.1, Q.2.2.2.1, .inl Q.2.2.2.2))] ++ ((z_rows X D.2.1 6 Q.2.1.2 Q.2.1.1 ++ [(lq, .inl (X.2.1, 6, .inl g))]) ++ z_rows X D.2.2 5 Q.2.2.1.2 Q.2.2.1.1)) := by
  unfold z_W z_wS
  rw [List.append_nil]
  have e : z_rows X (z_up D.2.1 Q.2.1.1 lq) 6 (z_ur Q.2.1.2 Q.2.1.1 g) (Q.2.1.1 + 1) = z_rows X D.2.1 6 Q.2.1.2 Q.2.1.1 ++ [(lq, .inl (X.2.1, 6, .inl g))] := by
    rw [z_rows_s, z_up_s, z_rows_cg (p := z_up D.2.1 Q.2.1.1 lq) (p' := D.2.1) (R := z_ur Q.2.1.2 Q.2.1.1 g) (R' := Q.2.1.2) (fun i hi => z_up_n (by omega)) (fun i hi => if_neg (by omega)), show z_ur Q.2.1.2 Q.2.1.1 g Q.2.1.1 = g from if_pos rfl]
  exact congrArg (fun z => wl ++ (z_h4 X a (z_oR D Q.2.1.1 q lq) (z_qNR Q g) ++ (z ++ z_rows X D.2.2 5 Q.2.2.1.2 Q.2.2.1.1))) e
theorem zs_NRD (h : va_D A ((z_W wl X a D Q [(lq, .inl (X.2.1, 6, .inl g))] ++ ([(q, .inl (X.2.2.2, z_ra (Q.2.1.1 + 1) (z_pa (z_up D.2.1 Q.2.1.1 lq))))] : va_W)).set (wl.length + 0) (a, .inr (5, (z_fs D Q).set 0 (.ref q))))) : va_D A (z_W wl X a (z_oR D Q.2.1.1 q lq) (z_qNR Q g) []) := by
  rw [zs_NR0] at h; rw [zs_NR1]
  refine z_mvD h (z_perm2 wl _ (D.1.1, .inl (X.2.2.2, z_ra Q.2.1.1 (z_pa D.2.1))) _ _ _ _ _ _) ?_
  exact List.Sublist.append_right (List.Sublist.append_left (List.Sublist.append_right (List.Sublist.cons₂ _ (List.sublist_cons_self _ _)) _) _) _
theorem zs_NRP (h : va_P D0 cl ((z_W wl X a D Q [(lq, .inl (X.2.1, 6, .inl g))] ++ ([(q, .inl (X.2.2.2, z_ra (Q.2.1.1 + 1) (z_pa (z_up D.2.1 Q.2.1.1 lq))))] : va_W)).set (wl.length + 0) (a, .inr (5, (z_fs D Q).set 0 (.ref q)))) H) : va_P D0 cl (z_W wl X a (z_oR D Q.2.1.1 q lq) (z_qNR Q g) []) H := by
  rw [zs_NR0] at h; rw [zs_NR1]
  refine z_mvP h (fun x hx => ?_)
  have := (z_perm2 wl _ (D.1.1, .inl (X.2.2.2, z_ra Q.2.1.1 (z_pa D.2.1))) _ _ _ _ _ _).mem_iff.mpr hx
  exact (List.Sublist.append_right (List.Sublist.append_left (List.Sublist.append_right (List.Sublist.cons₂ _ (List.sublist_cons_self _ _)) _) _) _).subset this
theorem zs_NV0 : (z_W wl X a D Q [(lq, .inl (X.2.1, 5, .inl g))] ++ ([(q, .inl (X.2.2.2, z_ra (Q.2.2.1.1 + 1) (z_pa (z_up D.2.2 Q.2.2.1.1 lq))))] : va_W)).set (wl.length + 0) (a, .inr (5, (z_fs D Q).set 1 (.ref q))) = wl ++ ([(a, .inr (5, (z_fs D Q).set 1 (.ref q))), (D.1.1, .inl (X.2.2.2, z_ra Q.2.1.1 (z_pa D.2.1))), (D.1.2.1, .inl (X.2.2.2, z_ra Q.2.2.1.1 (z_pa D.2.2))), (D.1.2.2, .inl (X.2.1, Q.2.2.2.1, .inl Q.2.2.2.2))] ++ (z_rows X D.2.1 6 Q.2.1.2 Q.2.1.1 ++ z_rows X D.2.2 5 Q.2.2.1.2 Q.2.2.1.1)) ++ [(lq, .inl (X.2.1, 5, .inl g)), (q, .inl (X.2.2.2, z_ra (Q.2.2.1.1 + 1) (z_pa (z_up D.2.2 Q.2.2.1.1 lq))))] := by
  unfold z_W
  rw [List.append_assoc wl, z_set_r, List.append_assoc (z_wS X a D Q), List.append_assoc wl]
  rfl
theorem zs_NV1 : z_W wl X a (z_oV D Q.2.2.1.1 q lq) (z_qNV Q g) [] = wl ++ ([(a, .inr (5, (z_fs D Q).set 1 (.ref q))), (D.1.1, .inl (X.2.2.2, z_ra Q.2.1.1 (z_pa D.2.1))), (q, .inl (X.2.2.2, z_ra (Q.2.2.1.1 + 1) (z_pa (z_up D.2.2 Q.2.2.1.1 lq)))), (D.1.2.2, .inl (X.2.1, Q.2.2.2.1, .inl Q.2.2.2.2))] ++ (z_rows X D.2.1 6 Q.2.1.2 Q.2.1.1 ++ (z_rows X D.2.2 5 Q.2.2.1.2 Q.2.2.1.1 ++ [(lq, .inl (X.2.1, 5, .inl g))]))) := by
  unfold z_W z_wS
  rw [List.append_nil]
  have e : z_rows X (z_up D.2.2 Q.2.2.1.1 lq) 5 (z_ur Q.2.2.1.2 Q.2.2.1.1 g) (Q.2.2.1.1 + 1) = z_rows X D.2.2 5 Q.2.2.1.2 Q.2.2.1.1 ++ [(lq, .inl (X.2.1, 5, .inl g))] := by
    rw [z_rows_s, z_up_s, z_rows_cg (p := z_up D.2.2 Q.2.2.1.1 lq) (p' := D.2.2) (R := z_ur Q.2.2.1.2 Q.2.2.1.1 g) (R' := Q.2.2.1.2) (fun i hi => z_up_n (by omega)) (fun i hi => if_neg (by omega)), show z_ur Q.2.2.1.2 Q.2.2.1.1 g Q.2.2.1.1 = g from if_pos rfl]
  exact congrArg (fun z => wl ++ (z_h4 X a (z_oV D Q.2.2.1.1 q lq) (z_qNV Q g) ++ (z_rows X D.2.1 6 Q.2.1.2 Q.2.1.1 ++ z))) e
theorem zs_NVD (h : va_D A ((z_W wl X a D Q [(lq, .inl (X.2.1, 5, .inl g))] ++ ([(q, .inl (X.2.2.2, z_ra (Q.2.2.1.1 + 1) (z_pa (z_up D.2.2 Q.2.2.1.1 lq))))] : va_W)).set (wl.length + 0) (a, .inr (5, (z_fs D Q).set 1 (.ref q))))) : va_D A (z_W wl X a (z_oV D Q.2.2.1.1 q lq) (z_qNV Q g) []) := by
  rw [zs_NV0] at h; rw [zs_NV1]
  refine z_mvD h (z_perm3 wl _ _ (D.1.2.1, .inl (X.2.2.2, z_ra Q.2.2.1.1 (z_pa D.2.2))) _ _ _ _ _) ?_
  exact List.Sublist.append_right (List.Sublist.append_left (List.Sublist.append_right (List.Sublist.cons₂ _ (List.Sublist.cons₂ _ (List.sublist_cons_self _ _))) _) _) _
theorem zs_NVP (h : va_P D0 cl ((z_W wl X a D Q [(lq, .inl (X.2.1, 5, .inl g))] ++ ([(q, .inl (X.2.2.2, z_ra (Q.2.2.1.1 + 1) (z_pa (z_up D.2.2 Q.2.2.1.1 lq))))] : va_W)).set (wl.length + 0) (a, .inr (5, (z_fs D Q).set 1 (.ref q)))) H) : va_P D0 cl (z_W wl X a (z_oV D Q.2.2.1.1 q lq) (z_qNV Q g) []) H := by
  rw [zs_NV0] at h; rw [zs_NV1]
  refine z_mvP h (fun x hx => ?_)
  have := (z_perm3 wl _ _ (D.1.2.1, .inl (X.2.2.2, z_ra Q.2.2.1.1 (z_pa D.2.2))) _ _ _ _ _).mem_iff.mpr hx
  exact (List.Sublist.append_right (List.Sublist.append_left (List.Sublist.append_right (List.Sublist.cons₂ _ (List.Sublist.cons₂ _ (List.sublist_cons_self _ _))) _) _) _).subset this
theorem zg_nR {ex : va_W} : (z_W wl X a (z_oR D Q.2.1.1 q lq) (z_qNR Q g) ex)[wl.length + (4 + Q.2.1.1)]? = some (lq, .inl (X.2.1, 6, .inl g)) := by
  have h := zg_r (wl := wl) (X := X) (a := a) (D := z_oR D Q.2.1.1 q lq) (Q := z_qNR Q g) (ex := ex) (i := Q.2.1.1) (show Q.2.1.1 < Q.2.1.1 + 1 by omega)
  rw [h]
  show some (z_up D.2.1 Q.2.1.1 lq Q.2.1.1, _) = _
  rw [z_up_s]
  exact congrArg (fun z => some (lq, Sum.inl (X.2.1, 6, Sum.inl z))) (show z_ur Q.2.1.2 Q.2.1.1 g Q.2.1.1 = g from if_pos rfl)
end ZV
section ZW
variable {p : Program} {l : Launch} {e : Env} {R : Room} {s : State} {m : MethodId} {args : Array Value} {below : List Frame} {meth : Method} {c : Code} {H : Heap} {locs : List Loc} {cells slots : Nat} {Q : State → Prop}
variable {y : MethodName} {bytes cc : ByteArray} {maxL nL n index fr lo : Nat} {ret : Option FieldType} {ws : List Cond} {Ts : List Cond} {own C : String} {b : Addr} {As rest st0 : List Value} {ls : Array Slot} {pc : Nat} {X : z_X} {wl wc wr W0 : va_W} {A : Nat → Prop} {H0 : Heap} {mc ms : Nat}
theorem z_recvI {W : va_W} (hP : va_P X.1 vwCl W H) (hK : va_K X.1 vwCl (z_ty X) s) (i : Nat) {ci : Nat} {q : vw_C} {fs : List Value} (hc : vwCl[ci]? = some q) (hq : q.1 = C) (he : W[i]? = some (b, .inr (ci, fs))) : ∃ cellB : Cell, H[b]? = some cellB ∧ cellB.vm.isStatics = false ∧ s.vm.findClass C = some cellB.cls := by
  rw [← hq]
  exact va_recv hK hP hc he
/-- a call with the whole world, the receiver anywhere in it -/
theorem z_cwI {post : Int32 → va_W → Prop} {ci : Nat} {q : vw_C} {fs : List Value} (S : CallFix p m c cc nL s args Ts own) (hM : z_kI l y ws fr lo mc ms X (.ref b :: As) W0 post) (cw : CallW R s args own C index y bytes maxL ret ws (z_R2 fr lo mc ms) mc ms n) (hP : va_P X.1 vwCl W0 H) (hK : va_K X.1 vwCl (z_ty X) s) (hN : z_N s) (hA2 : z_A2 X s) (hD : va_D A W0) (hS : va_S A H0 H locs) (hA : ∀ q, H0.size ≤ q → A q) (i : Nat) (hc : vwCl[ci]? = some q) (hq : q.1 = C) (he : W0[i]? = some (b, .inr (ci, fs))) (hf : cells + mc ≤ R.cells ∧ slots + ms ≤ R.slots) (hn : As.length = n) (hsz : ls.size = nL) (hst : st0 = As.reverse ++ .ref b :: rest) (hW : (rest.map fun v => v.category).sum ≤ 8) (hdg : decode cc pc = .ok (.invokevirtual index, 3)) (kk : ∀ (z : Int32) (u : va_W) (H1 : Heap) (locs1 : List Loc), post z u → va_P X.1 vwCl u H1 → va_D A u → va_S A H0 H1 locs1 → W p l e R s m args below meth c H1 locs1 (cells + mc) (slots + ms) Q (F0 m (pc + 3) ls (.int z :: rest))) : W p l e R s m args below meth c H locs cells slots Q (F0 m pc ls st0) := by
  have hP0 : va_P X.1 vwCl ([] ++ (W0 ++ [])) H := by rw [List.append_nil]; exact hP
  have hD0 : va_D A ([] ++ (W0 ++ [])) := by rw [List.append_nil]; exact hD
  have hs := z_S_mid [] W0 []
  have hfr := hs.free hD0 hS hA
  refine va_calli (va_runV (rest := rest) S (hM H.size) cw ⟨z_bk _ _ _ _, z_recvI hP hK i hc hq he, z_prek hP0 hK hN hA2 hD0 _⟩ rfl hn hsz hst (lv_room hW) hdg hf) hS (fun q _ h => hfr q h) hfr (fun z u t H1 locs1 ht hvm hw hB hz1 hk1 hS1 => ?_)
  obtain ⟨hP1, hD1⟩ := hB
  rw [ht] at hP1
  exact kk z u H1 locs1 hw hP1 (hD1.weaken (fun k q _ h => hfr q.1 h)) hS1
/-- a static call of a method with handlers, with the whole world -/
theorem z_cwaI {post : Int32 → va_W → Prop} {hh : List (Nat × Nat × Nat × Nat)} (S : CallFix p m c cc nL s args Ts own) (hM : z_aI l y ws fr lo mc ms X As W0 post) (cw : vx_CSW R s args own index y bytes maxL ret hh ws (z_R2 fr lo mc ms) mc ms n) (hP : va_P X.1 vwCl W0 H) (hK : va_K X.1 vwCl (z_ty X) s) (hN : z_N s) (hA2 : z_A2 X s) (hT : z_T A s H) (hD : va_D A W0) (hS : va_S A H0 H locs) (hA : ∀ q, H0.size ≤ q → A q) (hf : cells + mc ≤ R.cells ∧ slots + ms ≤ R.slots) (hn : As.length = n) (hsz : ls.size = nL) (hst : st0 = As.reverse ++ rest) (hW : (rest.map fun v => v.category).sum ≤ 8) (hdg : decode cc pc = .ok (.invokestatic index, 3)) (kk : ∀ (z : Int32) (u : va_W) (H1 : Heap) (locs1 : List Loc), post z u → va_P X.1 vwCl u H1 → va_D A u → va_S A H0 H1 locs1 → W p l e R s m args below meth c H1 locs1 (cells + mc) (slots + ms) Q (F0 m (pc + 3) ls (.int z :: rest))) : W p l e R s m args below meth c H locs cells slots Q (F0 m pc ls st0) := by
  have hP0 : va_P X.1 vwCl ([] ++ (W0 ++ [])) H := by rw [List.append_nil]; exact hP
  have hD0 : va_D A ([] ++ (W0 ++ [])) := by rw [List.append_nil]; exact hD
  have hs := z_S_mid [] W0 []
  have hfr := hs.free hD0 hS hA
  refine va_calli (vx_runSW (rest := rest) S (hM H.size) cw ⟨z_ba _ _ _ _, fun U hU hW => ?_⟩ rfl hn hsz hst (lv_room hW) hdg hf) hS (fun q _ h => hfr q h) hfr (fun z u t H1 locs1 ht hvm hw hB hz1 hk1 hS1 => ?_)
  · obtain ⟨b1, b2⟩ := z_prek hP0 hK hN hA2 hD0 As U hU hW
    exact ⟨b1, b2, by rw [hU]; exact (hT.narrow hfr).warm hW⟩
  · obtain ⟨hP1, hD1⟩ := hB
    rw [ht] at hP1
    exact kk z u H1 locs1 hw hP1 (hD1.weaken (fun k q _ h => hfr q.1 h)) hS1
def z_Cc (l : Launch) (sb L : Nat) (xs : Nat → Int32) (k r : Int32) : Prop := Met l yL_cell wsL_cell (z_R 0 0) (va_Pc [.ref sb, .int k] (fun U => va_X sb L xs U U.heap)) (vp_Si (fun z => z = r)) 0 0 (fun _ => False)
theorem z_ccell {sb L : Nat} {xs : Nat → Int32} {k r : Int32} (S : CallFix p m c cc nL s args Ts own) (hM : z_Cc l sb L xs k r) (cw : CallB R s args own index yL_cell bytes maxL ret wsL_cell (z_R 0 0) 0 0 2 ∧ (Cond.static yL_cell).before args s = true) (hX : va_X sb L xs s H0) (hbl : sb < H0.size) (hbA : ¬ A sb) (hS : va_S A H0 H locs) (hf : cells ≤ R.cells ∧ slots ≤ R.slots) (hn : [Value.ref sb, .int k].length = 2) (hsz : ls.size = nL) (hst : st0 = [Value.ref sb, .int k].reverse ++ rest) (hW : (rest.map fun v => v.category).sum ≤ 8) (hdg : decode cc pc = .ok (.invokestatic index, 3)) (kk : W p l e R s m args below meth c H locs cells slots Q (F0 m (pc + 3) ls (.int r :: rest))) : W p l e R s m args below meth c H locs cells slots Q (F0 m pc ls st0) := by
  refine vp_callSi (W.runS (rest := rest) S hM cw ⟨fun a U g mk q => ?_, fun U hU hW => ?_⟩ rfl hn hsz hst (lv_room hW) hdg hf) (fun z hz => ?_)
  · exact ⟨q.1, (q.2.moved (U := U.calling g mk a) (Vm.Alike.refl U.vm))⟩
  · refine ⟨rfl, ?_⟩
    show va_X sb L xs U U.heap
    rw [hU]
    exact (hX.kept (hS.2.1 sb hbl hbA)).moved hW.alike
  · rw [hz]; exact kk
end ZW
