-- parts of worlds, descriptors
set_option maxRecDepth 20000 in
theorem s_GG_RR1_12 (X : z_X) (d d2 : Nat → Nat) (G : z_G) (G2 : z_G) : z_S (z_wGG X d G d2 G2) (z_wRR X (d 16) (d 17) (G.2 0) (d2 16) (d2 17) (G2.2 0)) := ⟨[1, 2, 12, 13], rfl, rfl⟩
set_option maxRecDepth 20000 in
theorem f_GG_RR1_12 (X : z_X) (d d2 : Nat → Nat) (G : z_G) (G2 : z_G) (q : (Nat → Int32)) : z_F (z_wGG X d G d2 G2) (z_wRR X (d 16) (d 17) (G.2 0) (d2 16) (d2 17) (G2.2 0)) (z_wGG X d (z_gR G 0 q) d2 G2) (z_wRR X (d 16) (d 17) q (d2 16) (d2 17) (G2.2 0)) := ⟨[1, 2, 12, 13], [0, 3, 4, 5, 6, 7, 8, 9, 10, 11, 14, 15, 16, 17, 18, 19, 20, 21], [0, 18, 19, 1, 2, 3, 4, 5, 6, 7, 8, 9, 20, 21, 10, 11, 12, 13, 14, 15, 16, 17], ([0, 3, 4, 5, 6, 7, 8, 9, 10, 11, 14, 15, 16, 17, 18, 19, 20, 21] : List Nat).filterMap (fun i => (z_wGG X d G d2 G2)[i]?), rfl, rfl, rfl, by decide, rfl, rfl⟩
set_option maxRecDepth 20000 in
theorem s_GG_RR3_14 (X : z_X) (d d2 : Nat → Nat) (G : z_G) (G2 : z_G) : z_S (z_wGG X d G d2 G2) (z_wRR X (d 18) (d 19) (G.2 1) (d2 18) (d2 19) (G2.2 1)) := ⟨[3, 4, 14, 15], rfl, rfl⟩
set_option maxRecDepth 20000 in
theorem f_GG_RR3_14 (X : z_X) (d d2 : Nat → Nat) (G : z_G) (G2 : z_G) (q : (Nat → Int32)) : z_F (z_wGG X d G d2 G2) (z_wRR X (d 18) (d 19) (G.2 1) (d2 18) (d2 19) (G2.2 1)) (z_wGG X d (z_gR G 1 q) d2 G2) (z_wRR X (d 18) (d 19) q (d2 18) (d2 19) (G2.2 1)) := ⟨[3, 4, 14, 15], [0, 1, 2, 5, 6, 7, 8, 9, 10, 11, 12, 13, 16, 17, 18, 19, 20, 21], [0, 1, 2, 18, 19, 3, 4, 5, 6, 7, 8, 9, 10, 11, 20, 21, 12, 13, 14, 15, 16, 17], ([0, 1, 2, 5, 6, 7, 8, 9, 10, 11, 12, 13, 16, 17, 18, 19, 20, 21] : List Nat).filterMap (fun i => (z_wGG X d G d2 G2)[i]?), rfl, rfl, rfl, by decide, rfl, rfl⟩
set_option maxRecDepth 20000 in
theorem s_GG_RR5_16 (X : z_X) (d d2 : Nat → Nat) (G : z_G) (G2 : z_G) : z_S (z_wGG X d G d2 G2) (z_wRR X (d 20) (d 21) (G.2 2) (d2 20) (d2 21) (G2.2 2)) := ⟨[5, 6, 16, 17], rfl, rfl⟩
set_option maxRecDepth 20000 in
theorem f_GG_RR5_16 (X : z_X) (d d2 : Nat → Nat) (G : z_G) (G2 : z_G) (q : (Nat → Int32)) : z_F (z_wGG X d G d2 G2) (z_wRR X (d 20) (d 21) (G.2 2) (d2 20) (d2 21) (G2.2 2)) (z_wGG X d (z_gR G 2 q) d2 G2) (z_wRR X (d 20) (d 21) q (d2 20) (d2 21) (G2.2 2)) := ⟨[5, 6, 16, 17], [0, 1, 2, 3, 4, 7, 8, 9, 10, 11, 12, 13, 14, 15, 18, 19, 20, 21], [0, 1, 2, 3, 4, 18, 19, 5, 6, 7, 8, 9, 10, 11, 12, 13, 20, 21, 14, 15, 16, 17], ([0, 1, 2, 3, 4, 7, 8, 9, 10, 11, 12, 13, 14, 15, 18, 19, 20, 21] : List Nat).filterMap (fun i => (z_wGG X d G d2 G2)[i]?), rfl, rfl, rfl, by decide, rfl, rfl⟩
set_option maxRecDepth 20000 in
theorem s_GG_RR7_18 (X : z_X) (d d2 : Nat → Nat) (G : z_G) (G2 : z_G) : z_S (z_wGG X d G d2 G2) (z_wRR X (d 22) (d 23) (G.2 3) (d2 22) (d2 23) (G2.2 3)) := ⟨[7, 8, 18, 19], rfl, rfl⟩
set_option maxRecDepth 20000 in
theorem f_GG_RR7_18 (X : z_X) (d d2 : Nat → Nat) (G : z_G) (G2 : z_G) (q : (Nat → Int32)) : z_F (z_wGG X d G d2 G2) (z_wRR X (d 22) (d 23) (G.2 3) (d2 22) (d2 23) (G2.2 3)) (z_wGG X d (z_gR G 3 q) d2 G2) (z_wRR X (d 22) (d 23) q (d2 22) (d2 23) (G2.2 3)) := ⟨[7, 8, 18, 19], [0, 1, 2, 3, 4, 5, 6, 9, 10, 11, 12, 13, 14, 15, 16, 17, 20, 21], [0, 1, 2, 3, 4, 5, 6, 18, 19, 7, 8, 9, 10, 11, 12, 13, 14, 15, 20, 21, 16, 17], ([0, 1, 2, 3, 4, 5, 6, 9, 10, 11, 12, 13, 14, 15, 16, 17, 20, 21] : List Nat).filterMap (fun i => (z_wGG X d G d2 G2)[i]?), rfl, rfl, rfl, by decide, rfl, rfl⟩
set_option maxRecDepth 20000 in
theorem s_GG_RR9_20 (X : z_X) (d d2 : Nat → Nat) (G : z_G) (G2 : z_G) : z_S (z_wGG X d G d2 G2) (z_wRR X (d 24) (d 25) (G.2 4) (d2 24) (d2 25) (G2.2 4)) := ⟨[9, 10, 20, 21], rfl, rfl⟩
set_option maxRecDepth 20000 in
theorem f_GG_RR9_20 (X : z_X) (d d2 : Nat → Nat) (G : z_G) (G2 : z_G) (q : (Nat → Int32)) : z_F (z_wGG X d G d2 G2) (z_wRR X (d 24) (d 25) (G.2 4) (d2 24) (d2 25) (G2.2 4)) (z_wGG X d (z_gR G 4 q) d2 G2) (z_wRR X (d 24) (d 25) q (d2 24) (d2 25) (G2.2 4)) := ⟨[9, 10, 20, 21], [0, 1, 2, 3, 4, 5, 6, 7, 8, 11, 12, 13, 14, 15, 16, 17, 18, 19], [0, 1, 2, 3, 4, 5, 6, 7, 8, 18, 19, 9, 10, 11, 12, 13, 14, 15, 16, 17, 20, 21], ([0, 1, 2, 3, 4, 5, 6, 7, 8, 11, 12, 13, 14, 15, 16, 17, 18, 19] : List Nat).filterMap (fun i => (z_wGG X d G d2 G2)[i]?), rfl, rfl, rfl, by decide, rfl, rfl⟩
set_option maxRecDepth 20000 in
theorem s_G_G (X : z_X) (d : Nat → Nat) (G : z_G) : z_S (z_wG X d G) (z_wG X d G) := ⟨[0, 1, 2, 3, 4, 5, 6, 7, 8, 9, 10], rfl, rfl⟩
set_option maxRecDepth 20000 in
theorem f_G_G (X : z_X) (d : Nat → Nat) (G : z_G) (q : z_G) : z_F (z_wG X d G) (z_wG X d G) (z_wG X d q) (z_wG X d q) := ⟨[0, 1, 2, 3, 4, 5, 6, 7, 8, 9, 10], [], [0, 1, 2, 3, 4, 5, 6, 7, 8, 9, 10], ([] : List Nat).filterMap (fun i => (z_wG X d G)[i]?), rfl, rfl, rfl, by decide, rfl, rfl⟩
set_option maxRecDepth 20000 in
theorem s_G_R1 (X : z_X) (d : Nat → Nat) (G : z_G) : z_S (z_wG X d G) (z_wR X (d 16) (d 17) (G.2 0)) := ⟨[1, 2], rfl, rfl⟩
set_option maxRecDepth 20000 in
theorem f_G_R1 (X : z_X) (d : Nat → Nat) (G : z_G) (q : (Nat → Int32)) : z_F (z_wG X d G) (z_wR X (d 16) (d 17) (G.2 0)) (z_wG X d (z_gR G 0 q)) (z_wR X (d 16) (d 17) q) := ⟨[1, 2], [0, 3, 4, 5, 6, 7, 8, 9, 10], [0, 9, 10, 1, 2, 3, 4, 5, 6, 7, 8], ([0, 3, 4, 5, 6, 7, 8, 9, 10] : List Nat).filterMap (fun i => (z_wG X d G)[i]?), rfl, rfl, rfl, by decide, rfl, rfl⟩
set_option maxRecDepth 20000 in
theorem s_G_R3 (X : z_X) (d : Nat → Nat) (G : z_G) : z_S (z_wG X d G) (z_wR X (d 18) (d 19) (G.2 1)) := ⟨[3, 4], rfl, rfl⟩
set_option maxRecDepth 20000 in
theorem f_G_R3 (X : z_X) (d : Nat → Nat) (G : z_G) (q : (Nat → Int32)) : z_F (z_wG X d G) (z_wR X (d 18) (d 19) (G.2 1)) (z_wG X d (z_gR G 1 q)) (z_wR X (d 18) (d 19) q) := ⟨[3, 4], [0, 1, 2, 5, 6, 7, 8, 9, 10], [0, 1, 2, 9, 10, 3, 4, 5, 6, 7, 8], ([0, 1, 2, 5, 6, 7, 8, 9, 10] : List Nat).filterMap (fun i => (z_wG X d G)[i]?), rfl, rfl, rfl, by decide, rfl, rfl⟩
set_option maxRecDepth 20000 in
theorem s_G_R5 (X : z_X) (d : Nat → Nat) (G : z_G) : z_S (z_wG X d G) (z_wR X (d 20) (d 21) (G.2 2)) := ⟨[5, 6], rfl, rfl⟩
set_option maxRecDepth 20000 in
theorem f_G_R5 (X : z_X) (d : Nat → Nat) (G : z_G) (q : (Nat → Int32)) : z_F (z_wG X d G) (z_wR X (d 20) (d 21) (G.2 2)) (z_wG X d (z_gR G 2 q)) (z_wR X (d 20) (d 21) q) := ⟨[5, 6], [0, 1, 2, 3, 4, 7, 8, 9, 10], [0, 1, 2, 3, 4, 9, 10, 5, 6, 7, 8], ([0, 1, 2, 3, 4, 7, 8, 9, 10] : List Nat).filterMap (fun i => (z_wG X d G)[i]?), rfl, rfl, rfl, by decide, rfl, rfl⟩
set_option maxRecDepth 20000 in
theorem s_G_R7 (X : z_X) (d : Nat → Nat) (G : z_G) : z_S (z_wG X d G) (z_wR X (d 22) (d 23) (G.2 3)) := ⟨[7, 8], rfl, rfl⟩
set_option maxRecDepth 20000 in
theorem f_G_R7 (X : z_X) (d : Nat → Nat) (G : z_G) (q : (Nat → Int32)) : z_F (z_wG X d G) (z_wR X (d 22) (d 23) (G.2 3)) (z_wG X d (z_gR G 3 q)) (z_wR X (d 22) (d 23) q) := ⟨[7, 8], [0, 1, 2, 3, 4, 5, 6, 9, 10], [0, 1, 2, 3, 4, 5, 6, 9, 10, 7, 8], ([0, 1, 2, 3, 4, 5, 6, 9, 10] : List Nat).filterMap (fun i => (z_wG X d G)[i]?), rfl, rfl, rfl, by decide, rfl, rfl⟩
set_option maxRecDepth 20000 in
theorem s_G_R9 (X : z_X) (d : Nat → Nat) (G : z_G) : z_S (z_wG X d G) (z_wR X (d 24) (d 25) (G.2 4)) := ⟨[9, 10], rfl, rfl⟩
set_option maxRecDepth 20000 in
theorem f_G_R9 (X : z_X) (d : Nat → Nat) (G : z_G) (q : (Nat → Int32)) : z_F (z_wG X d G) (z_wR X (d 24) (d 25) (G.2 4)) (z_wG X d (z_gR G 4 q)) (z_wR X (d 24) (d 25) q) := ⟨[9, 10], [0, 1, 2, 3, 4, 5, 6, 7, 8], [0, 1, 2, 3, 4, 5, 6, 7, 8, 9, 10], ([0, 1, 2, 3, 4, 5, 6, 7, 8] : List Nat).filterMap (fun i => (z_wG X d G)[i]?), rfl, rfl, rfl, by decide, rfl, rfl⟩
set_option maxRecDepth 20000 in
theorem s_HH_GG15_41 (X : z_X) (d d2 : Nat → Nat) (h : z_H) (h2 : z_H) : z_S (z_wHH X d h d2 h2) (z_wGG X d h.2.2.2 d2 h2.2.2.2) := ⟨[15, 16, 17, 18, 19, 20, 21, 22, 23, 24, 25, 41, 42, 43, 44, 45, 46, 47, 48, 49, 50, 51], rfl, rfl⟩
set_option maxRecDepth 20000 in
theorem f_HH_GG15_41 (X : z_X) (d d2 : Nat → Nat) (h : z_H) (h2 : z_H) (q : z_G) : z_F (z_wHH X d h d2 h2) (z_wGG X d h.2.2.2 d2 h2.2.2.2) (z_wHH X d (z_hG h q) d2 h2) (z_wGG X d q d2 h2.2.2.2) := ⟨[15, 16, 17, 18, 19, 20, 21, 22, 23, 24, 25, 41, 42, 43, 44, 45, 46, 47, 48, 49, 50, 51], [0, 1, 2, 3, 4, 5, 6, 7, 8, 9, 10, 11, 12, 13, 14, 26, 27, 28, 29, 30, 31, 32, 33, 34, 35, 36, 37, 38, 39, 40], [0, 1, 2, 3, 4, 5, 6, 7, 8, 9, 10, 11, 12, 13, 14, 30, 31, 32, 33, 34, 35, 36, 37, 38, 39, 40, 15, 16, 17, 18, 19, 20, 21, 22, 23, 24, 25, 26, 27, 28, 29, 41, 42, 43, 44, 45, 46, 47, 48, 49, 50, 51], ([0, 1, 2, 3, 4, 5, 6, 7, 8, 9, 10, 11, 12, 13, 14, 26, 27, 28, 29, 30, 31, 32, 33, 34, 35, 36, 37, 38, 39, 40] : List Nat).filterMap (fun i => (z_wHH X d h d2 h2)[i]?), rfl, rfl, rfl, by decide, rfl, rfl⟩
set_option maxRecDepth 20000 in
theorem s_HH_LL13_39 (X : z_X) (d d2 : Nat → Nat) (h : z_H) (h2 : z_H) : z_S (z_wHH X d h d2 h2) (z_wLL X d h.2.2.1 d2 h2.2.2.1) := ⟨[13, 14, 39, 40], rfl, rfl⟩
set_option maxRecDepth 20000 in
theorem f_HH_LL13_39 (X : z_X) (d d2 : Nat → Nat) (h : z_H) (h2 : z_H) (q : z_L) : z_F (z_wHH X d h d2 h2) (z_wLL X d h.2.2.1 d2 h2.2.2.1) (z_wHH X d (z_hL h q) d2 h2) (z_wLL X d q d2 h2.2.2.1) := ⟨[13, 14, 39, 40], [0, 1, 2, 3, 4, 5, 6, 7, 8, 9, 10, 11, 12, 15, 16, 17, 18, 19, 20, 21, 22, 23, 24, 25, 26, 27, 28, 29, 30, 31, 32, 33, 34, 35, 36, 37, 38, 41, 42, 43, 44, 45, 46, 47, 48, 49, 50, 51], [0, 1, 2, 3, 4, 5, 6, 7, 8, 9, 10, 11, 12, 48, 49, 13, 14, 15, 16, 17, 18, 19, 20, 21, 22, 23, 24, 25, 26, 27, 28, 29, 30, 31, 32, 33, 34, 35, 36, 50, 51, 37, 38, 39, 40, 41, 42, 43, 44, 45, 46, 47], ([0, 1, 2, 3, 4, 5, 6, 7, 8, 9, 10, 11, 12, 15, 16, 17, 18, 19, 20, 21, 22, 23, 24, 25, 26, 27, 28, 29, 30, 31, 32, 33, 34, 35, 36, 37, 38, 41, 42, 43, 44, 45, 46, 47, 48, 49, 50, 51] : List Nat).filterMap (fun i => (z_wHH X d h d2 h2)[i]?), rfl, rfl, rfl, by decide, rfl, rfl⟩
set_option maxRecDepth 20000 in
theorem s_HH_RR11_37 (X : z_X) (d d2 : Nat → Nat) (h : z_H) (h2 : z_H) : z_S (z_wHH X d h d2 h2) (z_wRR X (d 11) (d 12) (h.2.1 5) (d2 11) (d2 12) (h2.2.1 5)) := ⟨[11, 12, 37, 38], rfl, rfl⟩
set_option maxRecDepth 20000 in
theorem f_HH_RR11_37 (X : z_X) (d d2 : Nat → Nat) (h : z_H) (h2 : z_H) (q : (Nat → Int32)) : z_F (z_wHH X d h d2 h2) (z_wRR X (d 11) (d 12) (h.2.1 5) (d2 11) (d2 12) (h2.2.1 5)) (z_wHH X d (z_hR h 5 q) d2 h2) (z_wRR X (d 11) (d 12) q (d2 11) (d2 12) (h2.2.1 5)) := ⟨[11, 12, 37, 38], [0, 1, 2, 3, 4, 5, 6, 7, 8, 9, 10, 13, 14, 15, 16, 17, 18, 19, 20, 21, 22, 23, 24, 25, 26, 27, 28, 29, 30, 31, 32, 33, 34, 35, 36, 39, 40, 41, 42, 43, 44, 45, 46, 47, 48, 49, 50, 51], [0, 1, 2, 3, 4, 5, 6, 7, 8, 9, 10, 48, 49, 11, 12, 13, 14, 15, 16, 17, 18, 19, 20, 21, 22, 23, 24, 25, 26, 27, 28, 29, 30, 31, 32, 33, 34, 50, 51, 35, 36, 37, 38, 39, 40, 41, 42, 43, 44, 45, 46, 47], ([0, 1, 2, 3, 4, 5, 6, 7, 8, 9, 10, 13, 14, 15, 16, 17, 18, 19, 20, 21, 22, 23, 24, 25, 26, 27, 28, 29, 30, 31, 32, 33, 34, 35, 36, 39, 40, 41, 42, 43, 44, 45, 46, 47, 48, 49, 50, 51] : List Nat).filterMap (fun i => (z_wHH X d h d2 h2)[i]?), rfl, rfl, rfl, by decide, rfl, rfl⟩
set_option maxRecDepth 20000 in
theorem s_HH_RR1_27 (X : z_X) (d d2 : Nat → Nat) (h : z_H) (h2 : z_H) : z_S (z_wHH X d h d2 h2) (z_wRR X (d 1) (d 2) (h.2.1 0) (d2 1) (d2 2) (h2.2.1 0)) := ⟨[1, 2, 27, 28], rfl, rfl⟩
set_option maxRecDepth 20000 in
theorem f_HH_RR1_27 (X : z_X) (d d2 : Nat → Nat) (h : z_H) (h2 : z_H) (q : (Nat → Int32)) : z_F (z_wHH X d h d2 h2) (z_wRR X (d 1) (d 2) (h.2.1 0) (d2 1) (d2 2) (h2.2.1 0)) (z_wHH X d (z_hR h 0 q) d2 h2) (z_wRR X (d 1) (d 2) q (d2 1) (d2 2) (h2.2.1 0)) := ⟨[1, 2, 27, 28], [0, 3, 4, 5, 6, 7, 8, 9, 10, 11, 12, 13, 14, 15, 16, 17, 18, 19, 20, 21, 22, 23, 24, 25, 26, 29, 30, 31, 32, 33, 34, 35, 36, 37, 38, 39, 40, 41, 42, 43, 44, 45, 46, 47, 48, 49, 50, 51], [0, 48, 49, 1, 2, 3, 4, 5, 6, 7, 8, 9, 10, 11, 12, 13, 14, 15, 16, 17, 18, 19, 20, 21, 22, 23, 24, 50, 51, 25, 26, 27, 28, 29, 30, 31, 32, 33, 34, 35, 36, 37, 38, 39, 40, 41, 42, 43, 44, 45, 46, 47], ([0, 3, 4, 5, 6, 7, 8, 9, 10, 11, 12, 13, 14, 15, 16, 17, 18, 19, 20, 21, 22, 23, 24, 25, 26, 29, 30, 31, 32, 33, 34, 35, 36, 37, 38, 39, 40, 41, 42, 43, 44, 45, 46, 47, 48, 49, 50, 51] : List Nat).filterMap (fun i => (z_wHH X d h d2 h2)[i]?), rfl, rfl, rfl, by decide, rfl, rfl⟩
set_option maxRecDepth 20000 in
theorem s_HH_RR3_29 (X : z_X) (d d2 : Nat → Nat) (h : z_H) (h2 : z_H) : z_S (z_wHH X d h d2 h2) (z_wRR X (d 3) (d 4) (h.2.1 1) (d2 3) (d2 4) (h2.2.1 1)) := ⟨[3, 4, 29, 30], rfl, rfl⟩
set_option maxRecDepth 20000 in
theorem f_HH_RR3_29 (X : z_X) (d d2 : Nat → Nat) (h : z_H) (h2 : z_H) (q : (Nat → Int32)) : z_F (z_wHH X d h d2 h2) (z_wRR X (d 3) (d 4) (h.2.1 1) (d2 3) (d2 4) (h2.2.1 1)) (z_wHH X d (z_hR h 1 q) d2 h2) (z_wRR X (d 3) (d 4) q (d2 3) (d2 4) (h2.2.1 1)) := ⟨[3, 4, 29, 30], [0, 1, 2, 5, 6, 7, 8, 9, 10, 11, 12, 13, 14, 15, 16, 17, 18, 19, 20, 21, 22, 23, 24, 25, 26, 27, 28, 31, 32, 33, 34, 35, 36, 37, 38, 39, 40, 41, 42, 43, 44, 45, 46, 47, 48, 49, 50, 51], [0, 1, 2, 48, 49, 3, 4, 5, 6, 7, 8, 9, 10, 11, 12, 13, 14, 15, 16, 17, 18, 19, 20, 21, 22, 23, 24, 25, 26, 50, 51, 27, 28, 29, 30, 31, 32, 33, 34, 35, 36, 37, 38, 39, 40, 41, 42, 43, 44, 45, 46, 47], ([0, 1, 2, 5, 6, 7, 8, 9, 10, 11, 12, 13, 14, 15, 16, 17, 18, 19, 20, 21, 22, 23, 24, 25, 26, 27, 28, 31, 32, 33, 34, 35, 36, 37, 38, 39, 40, 41, 42, 43, 44, 45, 46, 47, 48, 49, 50, 51] : List Nat).filterMap (fun i => (z_wHH X d h d2 h2)[i]?), rfl, rfl, rfl, by decide, rfl, rfl⟩
set_option maxRecDepth 20000 in
theorem s_HH_RR5_31 (X : z_X) (d d2 : Nat → Nat) (h : z_H) (h2 : z_H) : z_S (z_wHH X d h d2 h2) (z_wRR X (d 5) (d 6) (h.2.1 2) (d2 5) (d2 6) (h2.2.1 2)) := ⟨[5, 6, 31, 32], rfl, rfl⟩
set_option maxRecDepth 20000 in
theorem f_HH_RR5_31 (X : z_X) (d d2 : Nat → Nat) (h : z_H) (h2 : z_H) (q : (Nat → Int32)) : z_F (z_wHH X d h d2 h2) (z_wRR X (d 5) (d 6) (h.2.1 2) (d2 5) (d2 6) (h2.2.1 2)) (z_wHH X d (z_hR h 2 q) d2 h2) (z_wRR X (d 5) (d 6) q (d2 5) (d2 6) (h2.2.1 2)) := ⟨[5, 6, 31, 32], [0, 1, 2, 3, 4, 7, 8, 9, 10, 11, 12, 13, 14, 15, 16, 17, 18, 19, 20, 21, 22, 23, 24, 25, 26, 27, 28, 29, 30, 33, 34, 35, 36, 37, 38, 39, 40, 41, 42, 43, 44, 45, 46, 47, 48, 49, 50, 51], [0, 1, 2, 3, 4, 48, 49, 5, 6, 7, 8, 9, 10, 11, 12, 13, 14, 15, 16, 17, 18, 19, 20, 21, 22, 23, 24, 25, 26, 27, 28, 50, 51, 29, 30, 31, 32, 33, 34, 35, 36, 37, 38, 39, 40, 41, 42, 43, 44, 45, 46, 47], ([0, 1, 2, 3, 4, 7, 8, 9, 10, 11, 12, 13, 14, 15, 16, 17, 18, 19, 20, 21, 22, 23, 24, 25, 26, 27, 28, 29, 30, 33, 34, 35, 36, 37, 38, 39, 40, 41, 42, 43, 44, 45, 46, 47, 48, 49, 50, 51] : List Nat).filterMap (fun i => (z_wHH X d h d2 h2)[i]?), rfl, rfl, rfl, by decide, rfl, rfl⟩
set_option maxRecDepth 20000 in
theorem s_HH_RR7_33 (X : z_X) (d d2 : Nat → Nat) (h : z_H) (h2 : z_H) : z_S (z_wHH X d h d2 h2) (z_wRR X (d 7) (d 8) (h.2.1 3) (d2 7) (d2 8) (h2.2.1 3)) := ⟨[7, 8, 33, 34], rfl, rfl⟩
set_option maxRecDepth 20000 in
theorem f_HH_RR7_33 (X : z_X) (d d2 : Nat → Nat) (h : z_H) (h2 : z_H) (q : (Nat → Int32)) : z_F (z_wHH X d h d2 h2) (z_wRR X (d 7) (d 8) (h.2.1 3) (d2 7) (d2 8) (h2.2.1 3)) (z_wHH X d (z_hR h 3 q) d2 h2) (z_wRR X (d 7) (d 8) q (d2 7) (d2 8) (h2.2.1 3)) := ⟨[7, 8, 33, 34], [0, 1, 2, 3, 4, 5, 6, 9, 10, 11, 12, 13, 14, 15, 16, 17, 18, 19, 20, 21, 22, 23, 24, 25, 26, 27, 28, 29, 30, 31, 32, 35, 36, 37, 38, 39, 40, 41, 42, 43, 44, 45, 46, 47, 48, 49, 50, 51], [0, 1, 2, 3, 4, 5, 6, 48, 49, 7, 8, 9, 10, 11, 12, 13, 14, 15, 16, 17, 18, 19, 20, 21, 22, 23, 24, 25, 26, 27, 28, 29, 30, 50, 51, 31, 32, 33, 34, 35, 36, 37, 38, 39, 40, 41, 42, 43, 44, 45, 46, 47], ([0, 1, 2, 3, 4, 5, 6, 9, 10, 11, 12, 13, 14, 15, 16, 17, 18, 19, 20, 21, 22, 23, 24, 25, 26, 27, 28, 29, 30, 31, 32, 35, 36, 37, 38, 39, 40, 41, 42, 43, 44, 45, 46, 47, 48, 49, 50, 51] : List Nat).filterMap (fun i => (z_wHH X d h d2 h2)[i]?), rfl, rfl, rfl, by decide, rfl, rfl⟩
set_option maxRecDepth 20000 in
theorem s_HH_RR9_35 (X : z_X) (d d2 : Nat → Nat) (h : z_H) (h2 : z_H) : z_S (z_wHH X d h d2 h2) (z_wRR X (d 9) (d 10) (h.2.1 4) (d2 9) (d2 10) (h2.2.1 4)) := ⟨[9, 10, 35, 36], rfl, rfl⟩
set_option maxRecDepth 20000 in
theorem f_HH_RR9_35 (X : z_X) (d d2 : Nat → Nat) (h : z_H) (h2 : z_H) (q : (Nat → Int32)) : z_F (z_wHH X d h d2 h2) (z_wRR X (d 9) (d 10) (h.2.1 4) (d2 9) (d2 10) (h2.2.1 4)) (z_wHH X d (z_hR h 4 q) d2 h2) (z_wRR X (d 9) (d 10) q (d2 9) (d2 10) (h2.2.1 4)) := ⟨[9, 10, 35, 36], [0, 1, 2, 3, 4, 5, 6, 7, 8, 11, 12, 13, 14, 15, 16, 17, 18, 19, 20, 21, 22, 23, 24, 25, 26, 27, 28, 29, 30, 31, 32, 33, 34, 37, 38, 39, 40, 41, 42, 43, 44, 45, 46, 47, 48, 49, 50, 51], [0, 1, 2, 3, 4, 5, 6, 7, 8, 48, 49, 9, 10, 11, 12, 13, 14, 15, 16, 17, 18, 19, 20, 21, 22, 23, 24, 25, 26, 27, 28, 29, 30, 31, 32, 50, 51, 33, 34, 35, 36, 37, 38, 39, 40, 41, 42, 43, 44, 45, 46, 47], ([0, 1, 2, 3, 4, 5, 6, 7, 8, 11, 12, 13, 14, 15, 16, 17, 18, 19, 20, 21, 22, 23, 24, 25, 26, 27, 28, 29, 30, 31, 32, 33, 34, 37, 38, 39, 40, 41, 42, 43, 44, 45, 46, 47, 48, 49, 50, 51] : List Nat).filterMap (fun i => (z_wHH X d h d2 h2)[i]?), rfl, rfl, rfl, by decide, rfl, rfl⟩
set_option maxRecDepth 20000 in
theorem s_H_G15 (X : z_X) (d : Nat → Nat) (h : z_H) : z_S (z_wH X d h) (z_wG X d h.2.2.2) := ⟨[15, 16, 17, 18, 19, 20, 21, 22, 23, 24, 25], rfl, rfl⟩
set_option maxRecDepth 20000 in
theorem f_H_G15 (X : z_X) (d : Nat → Nat) (h : z_H) (q : z_G) : z_F (z_wH X d h) (z_wG X d h.2.2.2) (z_wH X d (z_hG h q)) (z_wG X d q) := ⟨[15, 16, 17, 18, 19, 20, 21, 22, 23, 24, 25], [0, 1, 2, 3, 4, 5, 6, 7, 8, 9, 10, 11, 12, 13, 14], [0, 1, 2, 3, 4, 5, 6, 7, 8, 9, 10, 11, 12, 13, 14, 15, 16, 17, 18, 19, 20, 21, 22, 23, 24, 25], ([0, 1, 2, 3, 4, 5, 6, 7, 8, 9, 10, 11, 12, 13, 14] : List Nat).filterMap (fun i => (z_wH X d h)[i]?), rfl, rfl, rfl, by decide, rfl, rfl⟩
set_option maxRecDepth 20000 in
theorem s_H_H (X : z_X) (d : Nat → Nat) (h : z_H) : z_S (z_wH X d h) (z_wH X d h) := ⟨[0, 1, 2, 3, 4, 5, 6, 7, 8, 9, 10, 11, 12, 13, 14, 15, 16, 17, 18, 19, 20, 21, 22, 23, 24, 25], rfl, rfl⟩
set_option maxRecDepth 20000 in
theorem f_H_H (X : z_X) (d : Nat → Nat) (h : z_H) (q : z_H) : z_F (z_wH X d h) (z_wH X d h) (z_wH X d q) (z_wH X d q) := ⟨[0, 1, 2, 3, 4, 5, 6, 7, 8, 9, 10, 11, 12, 13, 14, 15, 16, 17, 18, 19, 20, 21, 22, 23, 24, 25], [], [0, 1, 2, 3, 4, 5, 6, 7, 8, 9, 10, 11, 12, 13, 14, 15, 16, 17, 18, 19, 20, 21, 22, 23, 24, 25], ([] : List Nat).filterMap (fun i => (z_wH X d h)[i]?), rfl, rfl, rfl, by decide, rfl, rfl⟩
set_option maxRecDepth 20000 in
theorem s_H_L13 (X : z_X) (d : Nat → Nat) (h : z_H) : z_S (z_wH X d h) (z_wL X d h.2.2.1) := ⟨[13, 14], rfl, rfl⟩
set_option maxRecDepth 20000 in
theorem f_H_L13 (X : z_X) (d : Nat → Nat) (h : z_H) (q : z_L) : z_F (z_wH X d h) (z_wL X d h.2.2.1) (z_wH X d (z_hL h q)) (z_wL X d q) := ⟨[13, 14], [0, 1, 2, 3, 4, 5, 6, 7, 8, 9, 10, 11, 12, 15, 16, 17, 18, 19, 20, 21, 22, 23, 24, 25], [0, 1, 2, 3, 4, 5, 6, 7, 8, 9, 10, 11, 12, 24, 25, 13, 14, 15, 16, 17, 18, 19, 20, 21, 22, 23], ([0, 1, 2, 3, 4, 5, 6, 7, 8, 9, 10, 11, 12, 15, 16, 17, 18, 19, 20, 21, 22, 23, 24, 25] : List Nat).filterMap (fun i => (z_wH X d h)[i]?), rfl, rfl, rfl, by decide, rfl, rfl⟩
set_option maxRecDepth 20000 in
theorem s_H_R1 (X : z_X) (d : Nat → Nat) (h : z_H) : z_S (z_wH X d h) (z_wR X (d 1) (d 2) (h.2.1 0)) := ⟨[1, 2], rfl, rfl⟩
set_option maxRecDepth 20000 in
theorem f_H_R1 (X : z_X) (d : Nat → Nat) (h : z_H) (q : (Nat → Int32)) : z_F (z_wH X d h) (z_wR X (d 1) (d 2) (h.2.1 0)) (z_wH X d (z_hR h 0 q)) (z_wR X (d 1) (d 2) q) := ⟨[1, 2], [0, 3, 4, 5, 6, 7, 8, 9, 10, 11, 12, 13, 14, 15, 16, 17, 18, 19, 20, 21, 22, 23, 24, 25], [0, 24, 25, 1, 2, 3, 4, 5, 6, 7, 8, 9, 10, 11, 12, 13, 14, 15, 16, 17, 18, 19, 20, 21, 22, 23], ([0, 3, 4, 5, 6, 7, 8, 9, 10, 11, 12, 13, 14, 15, 16, 17, 18, 19, 20, 21, 22, 23, 24, 25] : List Nat).filterMap (fun i => (z_wH X d h)[i]?), rfl, rfl, rfl, by decide, rfl, rfl⟩
set_option maxRecDepth 20000 in
theorem s_H_R11 (X : z_X) (d : Nat → Nat) (h : z_H) : z_S (z_wH X d h) (z_wR X (d 11) (d 12) (h.2.1 5)) := ⟨[11, 12], rfl, rfl⟩
set_option maxRecDepth 20000 in
theorem f_H_R11 (X : z_X) (d : Nat → Nat) (h : z_H) (q : (Nat → Int32)) : z_F (z_wH X d h) (z_wR X (d 11) (d 12) (h.2.1 5)) (z_wH X d (z_hR h 5 q)) (z_wR X (d 11) (d 12) q) := ⟨[11, 12], [0, 1, 2, 3, 4, 5, 6, 7, 8, 9, 10, 13, 14, 15, 16, 17, 18, 19, 20, 21, 22, 23, 24, 25], [0, 1, 2, 3, 4, 5, 6, 7, 8, 9, 10, 24, 25, 11, 12, 13, 14, 15, 16, 17, 18, 19, 20, 21, 22, 23], ([0, 1, 2, 3, 4, 5, 6, 7, 8, 9, 10, 13, 14, 15, 16, 17, 18, 19, 20, 21, 22, 23, 24, 25] : List Nat).filterMap (fun i => (z_wH X d h)[i]?), rfl, rfl, rfl, by decide, rfl, rfl⟩
set_option maxRecDepth 20000 in
theorem s_H_R18 (X : z_X) (d : Nat → Nat) (h : z_H) : z_S (z_wH X d h) (z_wR X (d 18) (d 19) (h.2.2.2.2 1)) := ⟨[18, 19], rfl, rfl⟩
set_option maxRecDepth 20000 in
theorem f_H_R18 (X : z_X) (d : Nat → Nat) (h : z_H) (q : (Nat → Int32)) : z_F (z_wH X d h) (z_wR X (d 18) (d 19) (h.2.2.2.2 1)) (z_wH X d (z_hG h (z_gR h.2.2.2 1 q))) (z_wR X (d 18) (d 19) q) := ⟨[18, 19], [0, 1, 2, 3, 4, 5, 6, 7, 8, 9, 10, 11, 12, 13, 14, 15, 16, 17, 20, 21, 22, 23, 24, 25], [0, 1, 2, 3, 4, 5, 6, 7, 8, 9, 10, 11, 12, 13, 14, 15, 16, 17, 24, 25, 18, 19, 20, 21, 22, 23], ([0, 1, 2, 3, 4, 5, 6, 7, 8, 9, 10, 11, 12, 13, 14, 15, 16, 17, 20, 21, 22, 23, 24, 25] : List Nat).filterMap (fun i => (z_wH X d h)[i]?), rfl, rfl, rfl, by decide, rfl, rfl⟩
set_option maxRecDepth 20000 in
theorem s_H_R20 (X : z_X) (d : Nat → Nat) (h : z_H) : z_S (z_wH X d h) (z_wR X (d 20) (d 21) (h.2.2.2.2 2)) := ⟨[20, 21], rfl, rfl⟩
set_option maxRecDepth 20000 in
theorem f_H_R20 (X : z_X) (d : Nat → Nat) (h : z_H) (q : (Nat → Int32)) : z_F (z_wH X d h) (z_wR X (d 20) (d 21) (h.2.2.2.2 2)) (z_wH X d (z_hG h (z_gR h.2.2.2 2 q))) (z_wR X (d 20) (d 21) q) := ⟨[20, 21], [0, 1, 2, 3, 4, 5, 6, 7, 8, 9, 10, 11, 12, 13, 14, 15, 16, 17, 18, 19, 22, 23, 24, 25], [0, 1, 2, 3, 4, 5, 6, 7, 8, 9, 10, 11, 12, 13, 14, 15, 16, 17, 18, 19, 24, 25, 20, 21, 22, 23], ([0, 1, 2, 3, 4, 5, 6, 7, 8, 9, 10, 11, 12, 13, 14, 15, 16, 17, 18, 19, 22, 23, 24, 25] : List Nat).filterMap (fun i => (z_wH X d h)[i]?), rfl, rfl, rfl, by decide, rfl, rfl⟩
set_option maxRecDepth 20000 in
theorem s_H_R22 (X : z_X) (d : Nat → Nat) (h : z_H) : z_S (z_wH X d h) (z_wR X (d 22) (d 23) (h.2.2.2.2 3)) := ⟨[22, 23], rfl, rfl⟩
set_option maxRecDepth 20000 in
theorem f_H_R22 (X : z_X) (d : Nat → Nat) (h : z_H) (q : (Nat → Int32)) : z_F (z_wH X d h) (z_wR X (d 22) (d 23) (h.2.2.2.2 3)) (z_wH X d (z_hG h (z_gR h.2.2.2 3 q))) (z_wR X (d 22) (d 23) q) := ⟨[22, 23], [0, 1, 2, 3, 4, 5, 6, 7, 8, 9, 10, 11, 12, 13, 14, 15, 16, 17, 18, 19, 20, 21, 24, 25], [0, 1, 2, 3, 4, 5, 6, 7, 8, 9, 10, 11, 12, 13, 14, 15, 16, 17, 18, 19, 20, 21, 24, 25, 22, 23], ([0, 1, 2, 3, 4, 5, 6, 7, 8, 9, 10, 11, 12, 13, 14, 15, 16, 17, 18, 19, 20, 21, 24, 25] : List Nat).filterMap (fun i => (z_wH X d h)[i]?), rfl, rfl, rfl, by decide, rfl, rfl⟩
set_option maxRecDepth 20000 in
theorem s_H_R24 (X : z_X) (d : Nat → Nat) (h : z_H) : z_S (z_wH X d h) (z_wR X (d 24) (d 25) (h.2.2.2.2 4)) := ⟨[24, 25], rfl, rfl⟩
set_option maxRecDepth 20000 in
theorem f_H_R24 (X : z_X) (d : Nat → Nat) (h : z_H) (q : (Nat → Int32)) : z_F (z_wH X d h) (z_wR X (d 24) (d 25) (h.2.2.2.2 4)) (z_wH X d (z_hG h (z_gR h.2.2.2 4 q))) (z_wR X (d 24) (d 25) q) := ⟨[24, 25], [0, 1, 2, 3, 4, 5, 6, 7, 8, 9, 10, 11, 12, 13, 14, 15, 16, 17, 18, 19, 20, 21, 22, 23], [0, 1, 2, 3, 4, 5, 6, 7, 8, 9, 10, 11, 12, 13, 14, 15, 16, 17, 18, 19, 20, 21, 22, 23, 24, 25], ([0, 1, 2, 3, 4, 5, 6, 7, 8, 9, 10, 11, 12, 13, 14, 15, 16, 17, 18, 19, 20, 21, 22, 23] : List Nat).filterMap (fun i => (z_wH X d h)[i]?), rfl, rfl, rfl, by decide, rfl, rfl⟩
set_option maxRecDepth 20000 in
theorem s_H_R3 (X : z_X) (d : Nat → Nat) (h : z_H) : z_S (z_wH X d h) (z_wR X (d 3) (d 4) (h.2.1 1)) := ⟨[3, 4], rfl, rfl⟩
set_option maxRecDepth 20000 in
theorem f_H_R3 (X : z_X) (d : Nat → Nat) (h : z_H) (q : (Nat → Int32)) : z_F (z_wH X d h) (z_wR X (d 3) (d 4) (h.2.1 1)) (z_wH X d (z_hR h 1 q)) (z_wR X (d 3) (d 4) q) := ⟨[3, 4], [0, 1, 2, 5, 6, 7, 8, 9, 10, 11, 12, 13, 14, 15, 16, 17, 18, 19, 20, 21, 22, 23, 24, 25], [0, 1, 2, 24, 25, 3, 4, 5, 6, 7, 8, 9, 10, 11, 12, 13, 14, 15, 16, 17, 18, 19, 20, 21, 22, 23], ([0, 1, 2, 5, 6, 7, 8, 9, 10, 11, 12, 13, 14, 15, 16, 17, 18, 19, 20, 21, 22, 23, 24, 25] : List Nat).filterMap (fun i => (z_wH X d h)[i]?), rfl, rfl, rfl, by decide, rfl, rfl⟩
set_option maxRecDepth 20000 in
theorem s_H_R5 (X : z_X) (d : Nat → Nat) (h : z_H) : z_S (z_wH X d h) (z_wR X (d 5) (d 6) (h.2.1 2)) := ⟨[5, 6], rfl, rfl⟩
set_option maxRecDepth 20000 in
theorem f_H_R5 (X : z_X) (d : Nat → Nat) (h : z_H) (q : (Nat → Int32)) : z_F (z_wH X d h) (z_wR X (d 5) (d 6) (h.2.1 2)) (z_wH X d (z_hR h 2 q)) (z_wR X (d 5) (d 6) q) := ⟨[5, 6], [0, 1, 2, 3, 4, 7, 8, 9, 10, 11, 12, 13, 14, 15, 16, 17, 18, 19, 20, 21, 22, 23, 24, 25], [0, 1, 2, 3, 4, 24, 25, 5, 6, 7, 8, 9, 10, 11, 12, 13, 14, 15, 16, 17, 18, 19, 20, 21, 22, 23], ([0, 1, 2, 3, 4, 7, 8, 9, 10, 11, 12, 13, 14, 15, 16, 17, 18, 19, 20, 21, 22, 23, 24, 25] : List Nat).filterMap (fun i => (z_wH X d h)[i]?), rfl, rfl, rfl, by decide, rfl, rfl⟩
set_option maxRecDepth 20000 in
theorem s_H_R7 (X : z_X) (d : Nat → Nat) (h : z_H) : z_S (z_wH X d h) (z_wR X (d 7) (d 8) (h.2.1 3)) := ⟨[7, 8], rfl, rfl⟩
set_option maxRecDepth 20000 in
theorem f_H_R7 (X : z_X) (d : Nat → Nat) (h : z_H) (q : (Nat → Int32)) : z_F (z_wH X d h) (z_wR X (d 7) (d 8) (h.2.1 3)) (z_wH X d (z_hR h 3 q)) (z_wR X (d 7) (d 8) q) := ⟨[7, 8], [0, 1, 2, 3, 4, 5, 6, 9, 10, 11, 12, 13, 14, 15, 16, 17, 18, 19, 20, 21, 22, 23, 24, 25], [0, 1, 2, 3, 4, 5, 6, 24, 25, 7, 8, 9, 10, 11, 12, 13, 14, 15, 16, 17, 18, 19, 20, 21, 22, 23], ([0, 1, 2, 3, 4, 5, 6, 9, 10, 11, 12, 13, 14, 15, 16, 17, 18, 19, 20, 21, 22, 23, 24, 25] : List Nat).filterMap (fun i => (z_wH X d h)[i]?), rfl, rfl, rfl, by decide, rfl, rfl⟩
set_option maxRecDepth 20000 in
theorem s_H_R9 (X : z_X) (d : Nat → Nat) (h : z_H) : z_S (z_wH X d h) (z_wR X (d 9) (d 10) (h.2.1 4)) := ⟨[9, 10], rfl, rfl⟩
set_option maxRecDepth 20000 in
theorem f_H_R9 (X : z_X) (d : Nat → Nat) (h : z_H) (q : (Nat → Int32)) : z_F (z_wH X d h) (z_wR X (d 9) (d 10) (h.2.1 4)) (z_wH X d (z_hR h 4 q)) (z_wR X (d 9) (d 10) q) := ⟨[9, 10], [0, 1, 2, 3, 4, 5, 6, 7, 8, 11, 12, 13, 14, 15, 16, 17, 18, 19, 20, 21, 22, 23, 24, 25], [0, 1, 2, 3, 4, 5, 6, 7, 8, 24, 25, 9, 10, 11, 12, 13, 14, 15, 16, 17, 18, 19, 20, 21, 22, 23], ([0, 1, 2, 3, 4, 5, 6, 7, 8, 11, 12, 13, 14, 15, 16, 17, 18, 19, 20, 21, 22, 23, 24, 25] : List Nat).filterMap (fun i => (z_wH X d h)[i]?), rfl, rfl, rfl, by decide, rfl, rfl⟩
theorem hdX2_get : yX2_get.cls = RX2 ∧ yX2_get.cls ≠ "java/lang/invoke/MethodHandle" ∧ yX2_get.cls ≠ "java/lang/invoke/VarHandle" ∧ (parseMethodDescriptor yX2_get.desc).map (fun d => d.parameters.length) = some 1 := by decide +kernel
theorem hdX2_set : yX2_set.cls = RX2 ∧ yX2_set.cls ≠ "java/lang/invoke/MethodHandle" ∧ yX2_set.cls ≠ "java/lang/invoke/VarHandle" ∧ (parseMethodDescriptor yX2_set.desc).map (fun d => d.parameters.length) = some 2 := by decide +kernel
theorem hdX2_copyFrom : yX2_copyFrom.cls = RX2 ∧ yX2_copyFrom.cls ≠ "java/lang/invoke/MethodHandle" ∧ yX2_copyFrom.cls ≠ "java/lang/invoke/VarHandle" ∧ (parseMethodDescriptor yX2_copyFrom.desc).map (fun d => d.parameters.length) = some 1 := by decide +kernel
theorem hdX1_copyFrom : yX1_copyFrom.cls = RX1 ∧ yX1_copyFrom.cls ≠ "java/lang/invoke/MethodHandle" ∧ yX1_copyFrom.cls ≠ "java/lang/invoke/VarHandle" ∧ (parseMethodDescriptor yX1_copyFrom.desc).map (fun d => d.parameters.length) = some 1 := by decide +kernel
theorem hdX3_copyFrom : yX3_copyFrom.cls = RX3 ∧ yX3_copyFrom.cls ≠ "java/lang/invoke/MethodHandle" ∧ yX3_copyFrom.cls ≠ "java/lang/invoke/VarHandle" ∧ (parseMethodDescriptor yX3_copyFrom.desc).map (fun d => d.parameters.length) = some 1 := by decide +kernel
theorem hdX0_copyFrom : yX0_copyFrom.cls = RX0 ∧ yX0_copyFrom.cls ≠ "java/lang/invoke/MethodHandle" ∧ yX0_copyFrom.cls ≠ "java/lang/invoke/VarHandle" ∧ (parseMethodDescriptor yX0_copyFrom.desc).map (fun d => d.parameters.length) = some 1 := by decide +kernel
theorem hdX0_openRoom : yX0_openRoom.cls = RX0 ∧ yX0_openRoom.cls ≠ "java/lang/invoke/MethodHandle" ∧ yX0_openRoom.cls ≠ "java/lang/invoke/VarHandle" ∧ (parseMethodDescriptor yX0_openRoom.desc).map (fun d => d.parameters.length) = some 3 := by decide +kernel
theorem hdX0_isWaiting : yX0_isWaiting.cls = RX0 ∧ yX0_isWaiting.cls ≠ "java/lang/invoke/MethodHandle" ∧ yX0_isWaiting.cls ≠ "java/lang/invoke/VarHandle" ∧ (parseMethodDescriptor yX0_isWaiting.desc).map (fun d => d.parameters.length) = some 1 := by decide +kernel
theorem hdX0_isAnyoneWaiting : yX0_isAnyoneWaiting.cls = RX0 ∧ yX0_isAnyoneWaiting.cls ≠ "java/lang/invoke/MethodHandle" ∧ yX0_isAnyoneWaiting.cls ≠ "java/lang/invoke/VarHandle" ∧ (parseMethodDescriptor yX0_isAnyoneWaiting.desc).map (fun d => d.parameters.length) = some 0 := by decide +kernel
theorem hdX0_isWireCut : yX0_isWireCut.cls = RX0 ∧ yX0_isWireCut.cls ≠ "java/lang/invoke/MethodHandle" ∧ yX0_isWireCut.cls ≠ "java/lang/invoke/VarHandle" ∧ (parseMethodDescriptor yX0_isWireCut.desc).map (fun d => d.parameters.length) = some 1 := by decide +kernel
theorem hdX0_countCutWires : yX0_countCutWires.cls = RX0 ∧ yX0_countCutWires.cls ≠ "java/lang/invoke/MethodHandle" ∧ yX0_countCutWires.cls ≠ "java/lang/invoke/VarHandle" ∧ (parseMethodDescriptor yX0_countCutWires.desc).map (fun d => d.parameters.length) = some 0 := by decide +kernel
theorem hdX0_swapWires : yX0_swapWires.cls = RX0 ∧ yX0_swapWires.cls ≠ "java/lang/invoke/MethodHandle" ∧ yX0_swapWires.cls ≠ "java/lang/invoke/VarHandle" ∧ (parseMethodDescriptor yX0_swapWires.desc).map (fun d => d.parameters.length) = some 2 := by decide +kernel
theorem hdX0_isFirstOfItsCircle : yX0_isFirstOfItsCircle.cls = RX0 ∧ yX0_isFirstOfItsCircle.cls ≠ "java/lang/invoke/MethodHandle" ∧ yX0_isFirstOfItsCircle.cls ≠ "java/lang/invoke/VarHandle" ∧ (parseMethodDescriptor yX0_isFirstOfItsCircle.desc).map (fun d => d.parameters.length) = some 1 := by decide +kernel
theorem hdX0_costFrom : yX0_costFrom.cls ≠ "java/lang/invoke/MethodHandle" ∧ yX0_costFrom.cls ≠ "java/lang/invoke/VarHandle" ∧ (parseMethodDescriptor yX0_costFrom.desc).map (fun d => d.parameters.length) = some 1 := by decide +kernel
theorem hdX1_placeOf : yX1_placeOf.cls = RX1 ∧ yX1_placeOf.cls ≠ "java/lang/invoke/MethodHandle" ∧ yX1_placeOf.cls ≠ "java/lang/invoke/VarHandle" ∧ (parseMethodDescriptor yX1_placeOf.desc).map (fun d => d.parameters.length) = some 1 := by decide +kernel
theorem hdX1_append : yX1_append.cls = RX1 ∧ yX1_append.cls ≠ "java/lang/invoke/MethodHandle" ∧ yX1_append.cls ≠ "java/lang/invoke/VarHandle" ∧ (parseMethodDescriptor yX1_append.desc).map (fun d => d.parameters.length) = some 1 := by decide +kernel
theorem hdX0_pullBell : yX0_pullBell.cls = RX0 ∧ yX0_pullBell.cls ≠ "java/lang/invoke/MethodHandle" ∧ yX0_pullBell.cls ≠ "java/lang/invoke/VarHandle" ∧ (parseMethodDescriptor yX0_pullBell.desc).map (fun d => d.parameters.length) = some 1 := by decide +kernel
theorem hdX0_isMultiple : yX0_isMultiple.cls ≠ "java/lang/invoke/MethodHandle" ∧ yX0_isMultiple.cls ≠ "java/lang/invoke/VarHandle" ∧ (parseMethodDescriptor yX0_isMultiple.desc).map (fun d => d.parameters.length) = some 2 := by decide +kernel
theorem hdX0_letRoomsWait : yX0_letRoomsWait.cls = RX0 ∧ yX0_letRoomsWait.cls ≠ "java/lang/invoke/MethodHandle" ∧ yX0_letRoomsWait.cls ≠ "java/lang/invoke/VarHandle" ∧ (parseMethodDescriptor yX0_letRoomsWait.desc).map (fun d => d.parameters.length) = some 0 := by decide +kernel
theorem hdX3_isIdle : yX3_isIdle.cls = RX3 ∧ yX3_isIdle.cls ≠ "java/lang/invoke/MethodHandle" ∧ yX3_isIdle.cls ≠ "java/lang/invoke/VarHandle" ∧ (parseMethodDescriptor yX3_isIdle.desc).map (fun d => d.parameters.length) = some 1 := by decide +kernel
theorem hdX3_rest : yX3_rest.cls = RX3 ∧ yX3_rest.cls ≠ "java/lang/invoke/MethodHandle" ∧ yX3_rest.cls ≠ "java/lang/invoke/VarHandle" ∧ (parseMethodDescriptor yX3_rest.desc).map (fun d => d.parameters.length) = some 1 := by decide +kernel
theorem hdX0_arrive : yX0_arrive.cls = RX0 ∧ yX0_arrive.cls ≠ "java/lang/invoke/MethodHandle" ∧ yX0_arrive.cls ≠ "java/lang/invoke/VarHandle" ∧ (parseMethodDescriptor yX0_arrive.desc).map (fun d => d.parameters.length) = some 2 := by decide +kernel
theorem hdX0_letServantsMove : yX0_letServantsMove.cls = RX0 ∧ yX0_letServantsMove.cls ≠ "java/lang/invoke/MethodHandle" ∧ yX0_letServantsMove.cls ≠ "java/lang/invoke/VarHandle" ∧ (parseMethodDescriptor yX0_letServantsMove.desc).map (fun d => d.parameters.length) = some 0 := by decide +kernel
theorem hdX1_first : yX1_first.cls = RX1 ∧ yX1_first.cls ≠ "java/lang/invoke/MethodHandle" ∧ yX1_first.cls ≠ "java/lang/invoke/VarHandle" ∧ (parseMethodDescriptor yX1_first.desc).map (fun d => d.parameters.length) = some 0 := by decide +kernel
theorem hdX3_minutesOfWay : yX3_minutesOfWay.cls ≠ "java/lang/invoke/MethodHandle" ∧ yX3_minutesOfWay.cls ≠ "java/lang/invoke/VarHandle" ∧ (parseMethodDescriptor yX3_minutesOfWay.desc).map (fun d => d.parameters.length) = some 3 := by decide +kernel
theorem hdX3_nearestTo : yX3_nearestTo.cls = RX3 ∧ yX3_nearestTo.cls ≠ "java/lang/invoke/MethodHandle" ∧ yX3_nearestTo.cls ≠ "java/lang/invoke/VarHandle" ∧ (parseMethodDescriptor yX3_nearestTo.desc).map (fun d => d.parameters.length) = some 1 := by decide +kernel
theorem hdX1_remove : yX1_remove.cls = RX1 ∧ yX1_remove.cls ≠ "java/lang/invoke/MethodHandle" ∧ yX1_remove.cls ≠ "java/lang/invoke/VarHandle" ∧ (parseMethodDescriptor yX1_remove.desc).map (fun d => d.parameters.length) = some 1 := by decide +kernel
theorem hdX3_wayToFloor : yX3_wayToFloor.cls = RX3 ∧ yX3_wayToFloor.cls ≠ "java/lang/invoke/MethodHandle" ∧ yX3_wayToFloor.cls ≠ "java/lang/invoke/VarHandle" ∧ (parseMethodDescriptor yX3_wayToFloor.desc).map (fun d => d.parameters.length) = some 2 := by decide +kernel
theorem hdX0_sendIdleServants : yX0_sendIdleServants.cls = RX0 ∧ yX0_sendIdleServants.cls ≠ "java/lang/invoke/MethodHandle" ∧ yX0_sendIdleServants.cls ≠ "java/lang/invoke/VarHandle" ∧ (parseMethodDescriptor yX0_sendIdleServants.desc).map (fun d => d.parameters.length) = some 0 := by decide +kernel
theorem hdX0_letMinuteGoBy : yX0_letMinuteGoBy.cls = RX0 ∧ yX0_letMinuteGoBy.cls ≠ "java/lang/invoke/MethodHandle" ∧ yX0_letMinuteGoBy.cls ≠ "java/lang/invoke/VarHandle" ∧ (parseMethodDescriptor yX0_letMinuteGoBy.desc).map (fun d => d.parameters.length) = some 0 := by decide +kernel
theorem hdX3_hire : yX3_hire.cls = RX3 ∧ yX3_hire.cls ≠ "java/lang/invoke/MethodHandle" ∧ yX3_hire.cls ≠ "java/lang/invoke/VarHandle" ∧ (parseMethodDescriptor yX3_hire.desc).map (fun d => d.parameters.length) = some 1 := by decide +kernel
theorem hdX3_isServing : yX3_isServing.cls = RX3 ∧ yX3_isServing.cls ≠ "java/lang/invoke/MethodHandle" ∧ yX3_isServing.cls ≠ "java/lang/invoke/VarHandle" ∧ (parseMethodDescriptor yX3_isServing.desc).map (fun d => d.parameters.length) = some 1 := by decide +kernel
theorem z_in12 {i : Int32} (h1 : ¬ i < 0) (h2 : ¬ 12 ≤ i) : vp_in i 12 := by
  rw [vp_in_iff]
  have a : ¬ i.toInt < (0 : Int32).toInt := fun h => h1 (Int32.lt_iff_toInt_lt.mpr h)
  have b : ¬ (12 : Int32).toInt ≤ i.toInt := fun h => h2 (Int32.le_iff_toInt_le.mpr h)
  have c : (0 : Int32).toInt = 0 := by decide
  have d : (12 : Int32).toInt = 12 := by decide
  rw [c] at a; rw [d] at b
  omega
-- a row: read and written behind a look at the place
set_option maxHeartbeats 4000000 in
set_option maxRecDepth 100000 in
theorem m_X2_get (l : Launch) (X : z_X) (a b : Nat) (f : Nat → Int32) (v1 : Int32) : z_pI l yX2_get wsX2_get 0 0 X [.ref a, .int v1] (z_wR X a b f) (z_rg f v1) := by
  refine Met.ofW (cc := cX2_get) (maxL := 2) (ret := (some .int)) (by decide) rfl ?_
  intro p e s m args below meth c s₁ B hml hv
  obtain ⟨rfl, hP, hK, hN⟩ := hv
  have hx := B.exec
  have hb := B.bytes
  have hr := B.returns
  have hts := atoms_spec (ws := wsX2_get) B.pre
  have hown : s.vm.findClass RX2 = some m.cls := findClass_of_methodNamed B.named
  have hlocks := B.notSynchronized
  have S : CallFix p m c cX2_get 2 s _ wsX2_get RX2 := ⟨hx, hb, hml, hown, hts⟩
  have lk_fi9 := hts (.fieldLink RX2 9 "HouseBells$Row" "cells" "[I") (List.mem_of_getElem? (i := 1) rfl)
  have in_X2 : ∀ w ∈ wsX20, w ∈ wsX2_get := fun _ h => (List.mem_cons_of_mem _ (List.mem_append_right _ h))
  have hl := lv_entry ([.ref a, .int v1]) (n := 2) (Nat.le_of_ble_eq_true rfl)
  rw [lg_entry_eq]
  generalize (lg_sl ([.ref a, .int v1]) ++ List.replicate (2 - (lg_sl ([.ref a, .int v1])).length) Slot.unset).toArray = ls at hl ⊢
  have hl : lv_has ls 2 [(0, .ref a), (1, .int v1)] := hl
  refine lv_iload_n (pc := 0) hx hb dX2_get_0 rfl (lv_at hl 1 rfl) ?_
  refine lv_if_lt (pc := 1) (tgt := 22) hx hb dX2_get_1 (by decide) (fun c_1 => ?_) (fun c_1 => ?_)
  · refine lv_iconst (v := 0) (pc := 22) hx hb dX2_get_22 (by decide) ?_
    exact W.iret (pc := 23) (v := 0) hx hb hr (fun t ht hW => ⟨_, rfl, (if_pos c_1).symm, ht⟩) (fun _ h => nomatch h) dX2_get_23
  · refine lv_iload_n (pc := 4) hx hb dX2_get_4 rfl (lv_at hl 1 rfl) ?_
    refine lv_aload_n (pc := 5) hx hb dX2_get_5 rfl (lv_at hl 0 rfl) ?_
    refine va_get (pc := 6) (ci := 2) (C := RX2) (T := TX2) (N := 1) hx hb hts in_X2 hown hK hP 0 rfl rfl 0 (by decide) lk_fi9 (fun _ h9 => h9) rfl dX2_get_6 ?_
    refine va_alen (v := 12) (pc := 9) hx hb hK hP 1 0 rfl rfl rfl dX2_get_9 ?_
    refine lv_icmp_ge (pc := 10) (tgt := 22) hx hb dX2_get_10 (by decide) (fun c_10 => ?_) (fun c_10 => ?_)
    · refine lv_iconst (v := 0) (pc := 22) hx hb dX2_get_22 (by decide) ?_
      exact W.iret (pc := 23) (v := 0) hx hb hr (fun t ht hW => ⟨_, rfl, (show (0 : Int32) = z_rg f v1 by unfold z_rg; rw [if_neg c_1, if_pos c_10]), ht⟩) (fun _ h => nomatch h) dX2_get_23
    · refine lv_aload_n (pc := 13) hx hb dX2_get_13 rfl (lv_at hl 0 rfl) ?_
      refine va_get (pc := 14) (ci := 2) (C := RX2) (T := TX2) (N := 1) hx hb hts in_X2 hown hK hP 0 rfl rfl 0 (by decide) lk_fi9 (fun _ h9 => h9) rfl dX2_get_14 ?_
      refine lv_iload_n (pc := 17) hx hb dX2_get_17 rfl (lv_at hl 1 rfl) ?_
      refine va_iald (pc := 18) hx hb hK hP 1 0 rfl rfl (z_in12 c_1 c_10) dX2_get_18 ?_
      refine lv_goto (pc := 19) (tgt := 23) hx hb dX2_get_19 (by decide) ?_
      exact W.iret (pc := 23) hx hb hr (fun t ht hW => ⟨_, rfl, (show f v1.toNatClampNeg = z_rg f v1 by unfold z_rg; rw [if_neg c_1, if_neg c_10]), ht⟩) (fun _ h => nomatch h) dX2_get_23
set_option maxHeartbeats 4000000 in
set_option maxRecDepth 100000 in
theorem m_X2_set (l : Launch) (X : z_X) (a b : Nat) (f : Nat → Int32) (v1 v2 : Int32) : z_mV l yX2_set wsX2_set 0 0 X [.ref a, .int v1, .int v2] (z_wR X a b f) (z_wR X a b (z_rs f v1 v2)) := by
  intro sz
  refine Met.ofW (cc := cX2_set) (maxL := 3) (ret := none) (by decide) rfl ?_
  intro p e s m args below meth c s₁ B hml hv
  obtain ⟨rfl, hsz, hP, hK, hN, hD0⟩ := hv
  have hx := B.exec
  have hb := B.bytes
  have hr := B.returns
  have hts := atoms_spec (ws := wsX2_set) B.pre
  have hown : s.vm.findClass RX2 = some m.cls := findClass_of_methodNamed B.named
  have hlocks := B.notSynchronized
  have S : CallFix p m c cX2_set 3 s _ wsX2_set RX2 := ⟨hx, hb, hml, hown, hts⟩
  have lk_fi9 := hts (.fieldLink RX2 9 "HouseBells$Row" "cells" "[I") (List.mem_of_getElem? (i := 1) rfl)
  have in_X2 : ∀ w ∈ wsX20, w ∈ wsX2_set := fun _ h => (List.mem_cons_of_mem _ (List.mem_append_right _ h))
  subst hsz
  have hD := hD0.self (sz := s.heap.size)
  generalize hAe : va_A (z_wR X a b f) s.heap.size = A at hD ⊢
  have hA : ∀ q : Nat, s.heap.size ≤ q → A q := fun q h => by rw [← hAe]; exact Or.inr h
  have hS : va_S A s.heap s.heap [] := va_S.rf
  have hl := lv_entry ([.ref a, .int v1, .int v2]) (n := 3) (Nat.le_of_ble_eq_true rfl)
  rw [lg_entry_eq]
  generalize (lg_sl ([.ref a, .int v1, .int v2]) ++ List.replicate (3 - (lg_sl ([.ref a, .int v1, .int v2])).length) Slot.unset).toArray = ls at hl ⊢
  have hl : lv_has ls 3 [(0, .ref a), (1, .int v1), (2, .int v2)] := hl
  suffices hgo : ∀ (H : Heap) (locs : List Loc), va_P X.1 vwCl (z_wR X a b f) H → va_D A (z_wR X a b f) → va_S A s.heap H locs → W p l e (headSpec wsX2_set (z_R 0 0)).room s m ([.ref a, .int v1, .int v2] : List Value).toArray below meth c H locs 0 0 (MQ below (va_Qv (fun u : va_W => u = (z_wR X a b (z_rs f v1 v2))) (z_Bm X A) A) ([.ref a, .int v1, .int v2] : List Value).toArray s 0 0 A) (F0 m 0 ls []) from hgo _ _ hP hD hS
  clear hP hD hS
  intro H locs hP hD hS
  refine lv_iload_n (pc := 0) hx hb dX2_set_0 rfl (lv_at hl 1 rfl) ?_
  refine lv_if_lt (pc := 1) (tgt := 20) hx hb dX2_set_1 (by decide) (fun c_1 => ?_) (fun c_1 => ?_)
  · exact W.vret (pc := 20) hx hb hr (fun t ht hW => ⟨⟨(z_wR X a b f), rfl, by unfold z_rs; rw [if_pos c_1], by rw [ht]; exact hP, hD⟩, hS.F ht⟩) hS.2.2 dX2_set_20
  · refine lv_iload_n (pc := 4) hx hb dX2_set_4 rfl (lv_at hl 1 rfl) ?_
    refine lv_aload_n (pc := 5) hx hb dX2_set_5 rfl (lv_at hl 0 rfl) ?_
    refine va_get (pc := 6) (ci := 2) (C := RX2) (T := TX2) (N := 1) hx hb hts in_X2 hown hK hP 0 rfl rfl 0 (by decide) lk_fi9 (fun _ h9 => h9) rfl dX2_set_6 ?_
    refine va_alen (v := 12) (pc := 9) hx hb hK hP 1 0 rfl rfl rfl dX2_set_9 ?_
    refine lv_icmp_ge (pc := 10) (tgt := 20) hx hb dX2_set_10 (by decide) (fun c_10 => ?_) (fun c_10 => ?_)
    · exact W.vret (pc := 20) hx hb hr (fun t ht hW => ⟨⟨(z_wR X a b f), rfl, by unfold z_rs; rw [if_neg c_1, if_pos c_10], by rw [ht]; exact hP, hD⟩, hS.F ht⟩) hS.2.2 dX2_set_20
    · refine lv_aload_n (pc := 13) hx hb dX2_set_13 rfl (lv_at hl 0 rfl) ?_
      refine va_get (pc := 14) (ci := 2) (C := RX2) (T := TX2) (N := 1) hx hb hts in_X2 hown hK hP 0 rfl rfl 0 (by decide) lk_fi9 (fun _ h9 => h9) rfl dX2_set_14 ?_
      refine lv_iload_n (pc := 17) hx hb dX2_set_17 rfl (lv_at hl 1 rfl) ?_
      refine lv_iload_n (pc := 18) hx hb dX2_set_18 rfl (lv_at hl 2 rfl) ?_
      refine va_iast (pc := 19) hx hb hK hP hD hS 1 0 rfl rfl (z_in12 c_1 c_10) dX2_set_19 (fun H locs hP hD hS => ?_)
      have hP : va_P X.1 vwCl (z_wR X a b (upd f v1.toNatClampNeg v2)) H := hP
      have hD : va_D A (z_wR X a b (upd f v1.toNatClampNeg v2)) := hD
      exact W.vret (pc := 20) hx hb hr (fun t ht hW => ⟨⟨(z_wR X a b (upd f v1.toNatClampNeg v2)), rfl, by unfold z_rs; rw [if_neg c_1, if_neg c_10], by rw [ht]; exact hP, hD⟩, hS.F ht⟩) hS.2.2 dX2_set_20
