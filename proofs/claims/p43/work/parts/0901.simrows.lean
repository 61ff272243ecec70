-- ===== more rows of the law's side =====
def z_F14 : Nat := 14
theorem z_S_W {wl : va_W} {X : z_X} {a : Nat} {D : z_D} {Q : z_Q} {ex : va_W} : z_S (z_W wl X a D Q ex) (z_wS X a D Q) := z_S_mid _ _ _
theorem z_S_L {wl : va_W} {X : z_X} {a : Nat} {D : z_D} {Q : z_Q} {ex : va_W} : z_S (z_W wl X a D Q ex) wl := z_S_mid [] _ _
theorem z_P1 {D0 : va_G} {cl : List vw_C} {X : z_X} {a : Nat} {D : z_D} {Q : z_Q} {ex : va_W} {H : Heap} (h : va_P D0 cl (z_W [] X a D Q ex) H) : va_P D0 cl (z_wS X a D Q) H := z_dropP (w := z_wS X a D Q) (ex := ex) h
theorem z_D1 {A : Nat → Prop} {X : z_X} {a : Nat} {D : z_D} {Q : z_Q} {ex : va_W} (h : va_D A (z_W [] X a D Q ex)) : va_D A (z_wS X a D Q) := z_dropD (w := z_wS X a D Q) (ex := ex) h
theorem z_dropX {D0 : va_G} {cl : List vw_C} {wl : va_W} {X : z_X} {a : Nat} {D : z_D} {Q : z_Q} {x y : Nat × va_E} {ex : va_W} {H : Heap} (h : va_P D0 cl (z_W wl X a D Q (x :: y :: ex)) H) : va_P D0 cl (z_W wl X a D Q [x]) H := by
  have h2 : va_P D0 cl (z_W wl X a D Q [x] ++ (y :: ex)) H := by rw [z_ext]; exact h
  exact z_dropP h2
theorem z_dropY {A : Nat → Prop} {wl : va_W} {X : z_X} {a : Nat} {D : z_D} {Q : z_Q} {x y : Nat × va_E} {ex : va_W} (h : va_D A (z_W wl X a D Q (x :: y :: ex))) : va_D A (z_W wl X a D Q [x]) := by
  have h2 : va_D A (z_W wl X a D Q [x] ++ (y :: ex)) := by rw [z_ext]; exact h
  exact z_dropD h2
theorem z_mvP {D : va_G} {cl : List vw_C} {w w' : va_W} {H : Heap} (h : va_P D cl w H) (hs : ∀ q ∈ w', q ∈ w) : va_P D cl w' H := fun k q hk => by
  obtain ⟨i, hi⟩ := List.getElem?_of_mem (hs q (List.mem_of_getElem? hk))
  exact h i q hi
theorem z_D_nd {A : Nat → Prop} {w : va_W} : va_D A w ↔ (w.map (fun q => q.1)).Nodup ∧ ∀ q ∈ w, A q.1 := by
  constructor
  · intro h
    refine ⟨?_, fun q hq => ?_⟩
    · refine List.pairwise_iff_getElem.mpr fun i j hi hj hij e => ?_
      rw [List.length_map] at hi hj
      rw [List.getElem_map, List.getElem_map] at e
      have := h.1 i j _ _ (List.getElem?_eq_getElem hi) (List.getElem?_eq_getElem hj) e
      omega
    · obtain ⟨i, hi⟩ := List.getElem?_of_mem hq
      exact h.2 i q hi
  · intro h
    refine ⟨fun i j p q hp hq e => ?_, fun k q hk => h.2 q (List.mem_of_getElem? hk)⟩
    have hn := List.pairwise_iff_getElem.mp h.1
    obtain ⟨li, ei⟩ := List.getElem?_eq_some_iff.mp hp
    obtain ⟨lj, ej⟩ := List.getElem?_eq_some_iff.mp hq
    rcases Nat.lt_trichotomy i j with z | z | z
    · refine absurd ?_ (hn i j (by rw [List.length_map]; exact li) (by rw [List.length_map]; exact lj) z)
      rw [List.getElem_map, List.getElem_map, ei, ej]
      exact e
    · exact z
    · refine absurd ?_ (hn j i (by rw [List.length_map]; exact lj) (by rw [List.length_map]; exact li) z)
      rw [List.getElem_map, List.getElem_map, ei, ej]
      exact e.symm
theorem z_mvD {A : Nat → Prop} {w w' l : va_W} (h : va_D A w) (hp : l.Perm w') (hs : l.Sublist w) : va_D A w' := by
  rw [z_D_nd] at h ⊢
  refine ⟨?_, fun q hq => h.2 q (hs.subset (hp.mem_iff.mpr hq))⟩
  exact ((hp.map (fun q => q.1)).nodup_iff).mp (h.1.sublist (hs.map (fun q => q.1)))
section ZM
variable {D0 : va_G} {cl : List vw_C} {wl : va_W} {X : z_X} {a : Nat} {D : z_D} {Q : z_Q} {H : Heap} {A : Nat → Prop} {q N : Nat} {f : Nat → Int32}
theorem zs_L0 : (z_W wl X a D Q [(q, .inl (X.2.1, N, .inl f))]).set (wl.length + 0) (a, .inr (5, (z_fs D Q).set 2 (.ref q))) = wl ++ ([(a, .inr (5, z_fs (z_dL D q) (z_qL Q N f))), (D.1.1, .inl (X.2.2.2, z_ra Q.2.1.1 (z_pa D.2.1))), (D.1.2.1, .inl (X.2.2.2, z_ra Q.2.2.1.1 (z_pa D.2.2)))] ++ ((D.1.2.2, .inl (X.2.1, Q.2.2.2.1, .inl Q.2.2.2.2)) :: ((z_rows X D.2.1 6 Q.2.1.2 Q.2.1.1 ++ z_rows X D.2.2 5 Q.2.2.1.2 Q.2.2.1.1) ++ [(q, .inl (X.2.1, N, .inl f))]))) := by
  unfold z_W; rw [z_set_r]; rfl
theorem zs_L1 : z_W wl X a (z_dL D q) (z_qL Q N f) [] = wl ++ ([(a, .inr (5, z_fs (z_dL D q) (z_qL Q N f))), (D.1.1, .inl (X.2.2.2, z_ra Q.2.1.1 (z_pa D.2.1))), (D.1.2.1, .inl (X.2.2.2, z_ra Q.2.2.1.1 (z_pa D.2.2)))] ++ ((q, .inl (X.2.1, N, .inl f)) :: (z_rows X D.2.1 6 Q.2.1.2 Q.2.1.1 ++ z_rows X D.2.2 5 Q.2.2.1.2 Q.2.2.1.1))) := by
  unfold z_W; rw [List.append_nil]; rfl
/-- the line's new row stands where the old one stood -/
theorem zs_LP (h : va_P D0 cl ((z_W wl X a D Q [(q, .inl (X.2.1, N, .inl f))]).set (wl.length + 0) (a, .inr (5, (z_fs D Q).set 2 (.ref q)))) H) : va_P D0 cl (z_W wl X a (z_dL D q) (z_qL Q N f) []) H := by
  rw [zs_L0] at h; rw [zs_L1]
  refine z_mvP h (fun x hx => ?_)
  simp only [List.mem_append, List.mem_cons, List.not_mem_nil, or_false] at hx ⊢
  rcases hx with hx | hx | hx | hx | hx
  · exact Or.inl hx
  · exact Or.inr (Or.inl hx)
  · exact Or.inr (Or.inr (Or.inr (Or.inr hx)))
  · exact Or.inr (Or.inr (Or.inr (Or.inl (Or.inl hx))))
  · exact Or.inr (Or.inr (Or.inr (Or.inl (Or.inr hx))))
theorem zs_LD (h : va_D A ((z_W wl X a D Q [(q, .inl (X.2.1, N, .inl f))]).set (wl.length + 0) (a, .inr (5, (z_fs D Q).set 2 (.ref q))))) : va_D A (z_W wl X a (z_dL D q) (z_qL Q N f) []) := by
  rw [zs_L0] at h; rw [zs_L1]
  refine z_mvD h (l := wl ++ ([(a, .inr (5, z_fs (z_dL D q) (z_qL Q N f))), (D.1.1, .inl (X.2.2.2, z_ra Q.2.1.1 (z_pa D.2.1))), (D.1.2.1, .inl (X.2.2.2, z_ra Q.2.2.1.1 (z_pa D.2.2)))] ++ ((z_rows X D.2.1 6 Q.2.1.2 Q.2.1.1 ++ z_rows X D.2.2 5 Q.2.2.1.2 Q.2.2.1.1) ++ [(q, .inl (X.2.1, N, .inl f))]))) ?_ ?_
  · exact List.Perm.append_left _ (List.Perm.append_left _ (List.perm_append_singleton _ _))
  · exact List.Sublist.append_left (List.Sublist.append_left (List.sublist_cons_self _ _) _) _
end ZM
section ZN
variable {p : Program} {l : Launch} {e : Env} {R : Room} {s : State} {m : MethodId} {args : Array Value} {below : List Frame} {meth : Method} {c : Code} {H : Heap} {locs : List Loc} {cells slots : Nat} {Q : State → Prop}
variable {y : MethodName} {bytes cc : ByteArray} {maxL nL n index fr lo : Nat} {ret : Option FieldType} {ws : List Cond} {Ts : List Cond} {own C : String} {b : Addr} {As rest st0 : List Value} {ls : Array Slot} {pc : Nat} {X : z_X} {wc wc1 wr : va_W} {A : Nat → Prop} {H0 : Heap} {mc ms : Nat}
/-- a call of the bells, that stand first -/
theorem z_cbI {r : Int32} {ci : Nat} {q : vw_C} {fs : List Value} (S : CallFix p m c cc nL s args Ts own) (hM : z_mI l y ws fr lo X (.ref b :: As) wc r wc1) (cw : CallW R s args own C index y bytes maxL ret ws (z_R fr lo) 0 0 n) (hP : va_P X.1 vwCl (wc ++ wr) H) (hK : va_K X.1 vwCl (z_ty X) s) (hN : z_N s) (hD : va_D A (wc ++ wr)) (hS : va_S A H0 H locs) (hA : ∀ q, H0.size ≤ q → A q) (hc : vwCl[ci]? = some q) (hq : q.1 = C) (he : wc[0]? = some (b, .inr (ci, fs))) (hf : cells ≤ R.cells ∧ slots ≤ R.slots) (hn : As.length = n) (hsz : ls.size = nL) (hst : st0 = As.reverse ++ .ref b :: rest) (hW : (rest.map fun v => v.category).sum ≤ 8) (hdg : decode cc pc = .ok (.invokevirtual index, 3)) (kk : ∀ (H1 : Heap) (locs1 : List Loc), va_P X.1 vwCl (wc1 ++ wr) H1 → va_D A (wc1 ++ wr) → va_S A H0 H1 locs1 → W p l e R s m args below meth c H1 locs1 cells slots Q (F0 m (pc + 3) ls (.int r :: rest))) : W p l e R s m args below meth c H locs cells slots Q (F0 m pc ls st0) := by
  have hs : z_S (wc ++ wr) wc := z_S_mid [] wc wr
  have hfr := hs.free hD hS hA
  refine va_calli (va_runV (rest := rest) S (hM H.size) cw ⟨z_bm _ _ _ _, z_recv hP hK hN hs hc hq he, z_prem hP hK hN hD hs _⟩ rfl hn hsz hst (lv_room hW) hdg hf) hS (fun q _ h => hfr q h) hfr (fun z u t H1 locs1 ht hvm hw hB hz1 hk1 hS1 => ?_)
  obtain ⟨rfl, rfl⟩ := hw
  obtain ⟨hP1, hD1⟩ := hB
  rw [ht] at hP1
  obtain ⟨a, b⟩ := z_join3 (wl := []) (wc := wc) (wr := wr) hP hD hk1 hfr hP1 hD1
  exact kk H1 locs1 a b hS1
theorem z_cbL {r : Int64} {ci : Nat} {q : vw_C} {fs : List Value} (S : CallFix p m c cc nL s args Ts own) (hM : z_mL l y ws fr lo X (.ref b :: As) wc r wc1) (cw : CallW R s args own C index y bytes maxL ret ws (z_R fr lo) 0 0 n) (hP : va_P X.1 vwCl (wc ++ wr) H) (hK : va_K X.1 vwCl (z_ty X) s) (hN : z_N s) (hD : va_D A (wc ++ wr)) (hS : va_S A H0 H locs) (hA : ∀ q, H0.size ≤ q → A q) (hc : vwCl[ci]? = some q) (hq : q.1 = C) (he : wc[0]? = some (b, .inr (ci, fs))) (hf : cells ≤ R.cells ∧ slots ≤ R.slots) (hn : As.length = n) (hsz : ls.size = nL) (hst : st0 = As.reverse ++ .ref b :: rest) (hW : (rest.map fun v => v.category).sum ≤ 8) (hdg : decode cc pc = .ok (.invokevirtual index, 3)) (kk : ∀ (H1 : Heap) (locs1 : List Loc), va_P X.1 vwCl (wc1 ++ wr) H1 → va_D A (wc1 ++ wr) → va_S A H0 H1 locs1 → W p l e R s m args below meth c H1 locs1 cells slots Q (F0 m (pc + 3) ls (.long r :: rest))) : W p l e R s m args below meth c H locs cells slots Q (F0 m pc ls st0) := by
  have hs : z_S (wc ++ wr) wc := z_S_mid [] wc wr
  have hfr := hs.free hD hS hA
  refine va_calll (va_runV (rest := rest) S (hM H.size) cw ⟨z_bm _ _ _ _, z_recv hP hK hN hs hc hq he, z_prem hP hK hN hD hs _⟩ rfl hn hsz hst (lv_room hW) hdg hf) hS (fun q _ h => hfr q h) hfr (fun z u t H1 locs1 ht hvm hw hB hz1 hk1 hS1 => ?_)
  obtain ⟨rfl, rfl⟩ := hw
  obtain ⟨hP1, hD1⟩ := hB
  rw [ht] at hP1
  obtain ⟨a, b⟩ := z_join3 (wl := []) (wc := wc) (wr := wr) hP hD hk1 hfr hP1 hD1
  exact kk H1 locs1 a b hS1
end ZN
