/-! the law: the cases of its switch -/
section
variable {X : hX} {d n b : Nat} {s I : Nat → Nat → Int32} {J : Nat → Nat → Int64} {R : Nat → Nat → Option Nat} {N : Nat → Nat} {G : hG} {Q : Option Value → hM → Prop}
theorem lc_set (hX : X.1 ≤ 384) (hn : n + 6 ≤ X.1) (hI : Inv s R N I J) (hG : GI s G) (hb : wN (s 1 15) + 20 ≤ b) (hb2 : b ≤ 1000000) (kk : ∀ v M', Nxt b v (some v) M' → XP X (d + 101) k_law 1597 (lsL n) [] M' Q) : XP X (d + 101) k_law 22 (lsL n) [] (I, J, Rx R, N, G) Q := by
  have hW := hI.2.1
  have hch := hI.2.2.2.2
  obtain ⟨w, hB⟩ := Both.g (X := X) (d := d) hI hG hb hb2 (s_set hW hch (X.2 (n + 1)) (X.2 (n + 2))).g
  exact law_i (l := [1, 2]) (y1 := n_H_set) (y2 := n_M_set) hX hn (by decide +kernel) (by decide +kernel) hB kk
theorem lc_count (hX : X.1 ≤ 384) (hn : n + 6 ≤ X.1) (hI : Inv s R N I J) (hG : GI s G) (hb : wN (s 1 15) + 20 ≤ b) (hb2 : b ≤ 1000000) (kk : ∀ v M', Nxt b v (some v) M' → XP X (d + 101) k_law 1597 (lsL n) [] M' Q) : XP X (d + 101) k_law 49 (lsL n) [] (I, J, Rx R, N, G) Q := by
  have hW := hI.2.1
  have hch := hI.2.2.2.2
  obtain ⟨w, f1, f2⟩ := f_count (X := X) (d := d + 88) (G := G) hI (X.2 (n + 1))
  have hB := Both.q (b := b) hG (by omega) f1 f2
  exact law_i (l := [1]) (y1 := n_H_count) (y2 := n_M_count) hX hn (by decide +kernel) (by decide +kernel) hB kk
theorem lc_path (hX : X.1 ≤ 384) (hn : n + 6 ≤ X.1) (hI : Inv s R N I J) (hG : GI s G) (hb : wN (s 1 15) + 20 ≤ b) (hb2 : b ≤ 1000000) (kk : ∀ v M', Nxt b v (some v) M' → XP X (d + 101) k_law 1597 (lsL n) [] M' Q) : XP X (d + 101) k_law 66 (lsL n) [] (I, J, Rx R, N, G) Q := by
  have hW := hI.2.1
  have hch := hI.2.2.2.2
  obtain ⟨w, hB⟩ := Both.g (X := X) (d := d) hI hG hb hb2 (s_path hW hch (X.2 (n + 1)) (X.2 (n + 2)) (X.2 (n + 3)) (X.2 (n + 4))).g
  exact law_i (l := [1, 2, 3, 4]) (y1 := n_H_path) (y2 := n_M_path) hX hn (by decide +kernel) (by decide +kernel) hB kk
theorem lc_weigh (hX : X.1 ≤ 384) (hn : n + 6 ≤ X.1) (hI : Inv s R N I J) (hG : GI s G) (hb : wN (s 1 15) + 20 ≤ b) (hb2 : b ≤ 1000000) (kk : ∀ v M', Nxt b v (some v) M' → XP X (d + 101) k_law 1597 (lsL n) [] M' Q) : XP X (d + 101) k_law 113 (lsL n) [] (I, J, Rx R, N, G) Q := by
  have hW := hI.2.1
  have hch := hI.2.2.2.2
  obtain ⟨w, hB⟩ := Both.g (X := X) (d := d) hI hG hb hb2 (s_weigh hW hch (X.2 (n + 1)) (X.2 (n + 2))).g
  exact law_i (l := [1, 2]) (y1 := n_H_weigh) (y2 := n_M_weigh) hX hn (by decide +kernel) (by decide +kernel) hB kk
theorem lc_storm (hX : X.1 ≤ 384) (hn : n + 6 ≤ X.1) (hI : Inv s R N I J) (hG : GI s G) (hb : wN (s 1 15) + 20 ≤ b) (hb2 : b ≤ 1000000) (kk : ∀ v M', Nxt b v (some v) M' → XP X (d + 101) k_law 1597 (lsL n) [] M' Q) : XP X (d + 101) k_law 140 (lsL n) [] (I, J, Rx R, N, G) Q := by
  have hW := hI.2.1
  have hch := hI.2.2.2.2
  obtain ⟨w, hB⟩ := Both.g (X := X) (d := d) hI hG hb hb2 ((s_stormC hW hch (X.2 (n + 1)) (X.2 (n + 2))).set (by omega)).g
  exact law_i (l := [1, 2]) (y1 := n_H_storm) (y2 := n_M_storm) hX hn (by decide +kernel) (by decide +kernel) hB kk
theorem lc_level (hX : X.1 ≤ 384) (hn : n + 6 ≤ X.1) (hI : Inv s R N I J) (hG : GI s G) (hb : wN (s 1 15) + 20 ≤ b) (hb2 : b ≤ 1000000) (kk : ∀ v M', Nxt b v (some v) M' → XP X (d + 101) k_law 1597 (lsL n) [] M' Q) : XP X (d + 101) k_law 167 (lsL n) [] (I, J, Rx R, N, G) Q := by
  have hW := hI.2.1
  have hch := hI.2.2.2.2
  obtain ⟨w, f1, f2⟩ := f_level (X := X) (d := d + 88) (G := G) hI (X.2 (n + 1)) (X.2 (n + 2))
  have hB := Both.q (b := b) hG (by omega) f1 f2
  exact law_i (l := [1, 2]) (y1 := n_H_level) (y2 := n_M_level) hX hn (by decide +kernel) (by decide +kernel) hB kk
theorem lc_flood (hX : X.1 ≤ 384) (hn : n + 6 ≤ X.1) (hI : Inv s R N I J) (hG : GI s G) (hb : wN (s 1 15) + 20 ≤ b) (hb2 : b ≤ 1000000) (kk : ∀ v M', Nxt b v (some v) M' → XP X (d + 101) k_law 1597 (lsL n) [] M' Q) : XP X (d + 101) k_law 194 (lsL n) [] (I, J, Rx R, N, G) Q := by
  have hW := hI.2.1
  have hch := hI.2.2.2.2
  obtain ⟨w, f1, f2⟩ := f_flood (X := X) (d := d + 88) (G := G) hI (X.2 (n + 1)) (X.2 (n + 2)) (X.2 (n + 3))
  have hB := Both.q (b := b) hG (by omega) f1 f2
  exact law_i (l := [1, 2, 3]) (y1 := n_H_flood) (y2 := n_M_flood) hX hn (by decide +kernel) (by decide +kernel) hB kk
theorem lc_harm (hX : X.1 ≤ 384) (hn : n + 6 ≤ X.1) (hI : Inv s R N I J) (hG : GI s G) (hb : wN (s 1 15) + 20 ≤ b) (hb2 : b ≤ 1000000) (kk : ∀ v M', Nxt b v (some v) M' → XP X (d + 101) k_law 1597 (lsL n) [] M' Q) : XP X (d + 101) k_law 231 (lsL n) [] (I, J, Rx R, N, G) Q := by
  have hW := hI.2.1
  have hch := hI.2.2.2.2
  obtain ⟨w, f1, f2⟩ := f_harm (X := X) (d := d + 88) (G := G) hI (X.2 (n + 1)) (X.2 (n + 2)) (X.2 (n + 3)) (X.2 (n + 4))
  have hB := Both.q (b := b) hG (by omega) f1 f2
  exact law_l (l := [1, 2, 3, 4]) (y1 := n_H_harm) (y2 := n_M_harm) hX hn (by decide +kernel) (by decide +kernel) hB kk
theorem lc_cost (hX : X.1 ≤ 384) (hn : n + 6 ≤ X.1) (hI : Inv s R N I J) (hG : GI s G) (hb : wN (s 1 15) + 20 ≤ b) (hb2 : b ≤ 1000000) (kk : ∀ v M', Nxt b v (some v) M' → XP X (d + 101) k_law 1597 (lsL n) [] M' Q) : XP X (d + 101) k_law 279 (lsL n) [] (I, J, Rx R, N, G) Q := by
  have hW := hI.2.1
  have hch := hI.2.2.2.2
  obtain ⟨w, f1, f2⟩ := f_cost (X := X) (d := d + 88) (G := G) hI (X.2 (n + 1)) (X.2 (n + 2)) (X.2 (n + 3)) (X.2 (n + 4))
  have hB := Both.q (b := b) hG (by omega) f1 f2
  exact law_i (l := [1, 2, 3, 4]) (y1 := n_H_cost) (y2 := n_M_cost) hX hn (by decide +kernel) (by decide +kernel) hB kk
theorem lc_behindThen (hX : X.1 ≤ 384) (hn : n + 6 ≤ X.1) (hI : Inv s R N I J) (hG : GI s G) (hb : wN (s 1 15) + 20 ≤ b) (hb2 : b ≤ 1000000) (kk : ∀ v M', Nxt b v (some v) M' → XP X (d + 101) k_law 1597 (lsL n) [] M' Q) : XP X (d + 101) k_law 326 (lsL n) [] (I, J, Rx R, N, G) Q := by
  have hW := hI.2.1
  have hch := hI.2.2.2.2
  obtain ⟨w, f1, f2⟩ := f_behindThen (X := X) (d := d + 88) (G := G) hI (X.2 (n + 1))
  have hB := Both.q (b := b) hG (by omega) f1 f2
  exact law_i (l := [1]) (y1 := n_H_behindThen) (y2 := n_M_behindThen) hX hn (by decide +kernel) (by decide +kernel) hB kk
theorem lc_seen (hX : X.1 ≤ 384) (hn : n + 6 ≤ X.1) (hI : Inv s R N I J) (hG : GI s G) (hb : wN (s 1 15) + 20 ≤ b) (hb2 : b ≤ 1000000) (kk : ∀ v M', Nxt b v (some v) M' → XP X (d + 101) k_law 1597 (lsL n) [] M' Q) : XP X (d + 101) k_law 343 (lsL n) [] (I, J, Rx R, N, G) Q := by
  have hW := hI.2.1
  have hch := hI.2.2.2.2
  obtain ⟨w, f1, f2⟩ := f_seen (X := X) (d := d + 88) (G := G) hI (X.2 (n + 1)) (X.2 (n + 2))
  have hB := Both.q (b := b) hG (by omega) f1 f2
  exact law_i (l := [1, 2]) (y1 := n_H_seen) (y2 := n_M_seen) hX hn (by decide +kernel) (by decide +kernel) hB kk
theorem lc_think (hX : X.1 ≤ 384) (hn : n + 6 ≤ X.1) (hI : Inv s R N I J) (hG : GI s G) (hb : wN (s 1 15) + 20 ≤ b) (hb2 : b ≤ 1000000) (kk : ∀ v M', Nxt b v (some v) M' → XP X (d + 101) k_law 1597 (lsL n) [] M' Q) : XP X (d + 101) k_law 370 (lsL n) [] (I, J, Rx R, N, G) Q := by
  have hW := hI.2.1
  have hch := hI.2.2.2.2
  obtain ⟨w, f1, f2⟩ := f_think (X := X) (d := d + 88) (G := G) hI (X.2 (n + 1)) (X.2 (n + 2)) (X.2 (n + 3)) (X.2 (n + 4))
  have hB := Both.q (b := b) hG (by omega) f1 f2
  exact law_l (l := [1, 2, 3, 4]) (y1 := n_H_think) (y2 := n_M_think) hX hn (by decide +kernel) (by decide +kernel) hB kk
theorem lc_rule (hX : X.1 ≤ 384) (hn : n + 6 ≤ X.1) (hI : Inv s R N I J) (hG : GI s G) (hb : wN (s 1 15) + 20 ≤ b) (hb2 : b ≤ 1000000) (kk : ∀ v M', Nxt b v (some v) M' → XP X (d + 101) k_law 1597 (lsL n) [] M' Q) : XP X (d + 101) k_law 418 (lsL n) [] (I, J, Rx R, N, G) Q := by
  have hW := hI.2.1
  have hch := hI.2.2.2.2
  obtain ⟨w, hB⟩ := Both.g (X := X) (d := d) hI hG hb hb2 (s_rule hW hch (X.2 (n + 1)) (X.2 (n + 2)) (X.2 (n + 3)) (X.2 (n + 4)))
  exact law_i (l := [1, 2, 3, 4]) (y1 := n_H_rule) (y2 := n_M_rule) hX hn (by decide +kernel) (by decide +kernel) hB kk
theorem lc_ruleTold (hX : X.1 ≤ 384) (hn : n + 6 ≤ X.1) (hI : Inv s R N I J) (hG : GI s G) (hb : wN (s 1 15) + 20 ≤ b) (hb2 : b ≤ 1000000) (kk : ∀ v M', Nxt b v (some v) M' → XP X (d + 101) k_law 1597 (lsL n) [] M' Q) : XP X (d + 101) k_law 465 (lsL n) [] (I, J, Rx R, N, G) Q := by
  have hW := hI.2.1
  have hch := hI.2.2.2.2
  obtain ⟨w, f1, f2⟩ := f_ruleTold (X := X) (d := d + 88) (G := G) hI (X.2 (n + 1)) (X.2 (n + 2))
  have hB := Both.q (b := b) hG (by omega) f1 f2
  exact law_i (l := [1, 2]) (y1 := n_H_ruleTold) (y2 := n_M_ruleTold) hX hn (by decide +kernel) (by decide +kernel) hB kk
theorem lc_text (hX : X.1 ≤ 384) (hn : n + 6 ≤ X.1) (hI : Inv s R N I J) (hG : GI s G) (hb : wN (s 1 15) + 20 ≤ b) (hb2 : b ≤ 1000000) (kk : ∀ v M', Nxt b v (some v) M' → XP X (d + 101) k_law 1597 (lsL n) [] M' Q) : XP X (d + 101) k_law 543 (lsL n) [] (I, J, Rx R, N, G) Q := by
  have hW := hI.2.1
  have hch := hI.2.2.2.2
  obtain ⟨w, hB⟩ := Both.x (X := X) (d := d) hI hb hb2 (s_text hI hG)
  exact law_i (l := []) (y1 := n_H_text) (y2 := n_M_text) hX hn (by decide +kernel) (by decide +kernel) hB kk
theorem lc_force (hX : X.1 ≤ 384) (hn : n + 6 ≤ X.1) (hI : Inv s R N I J) (hG : GI s G) (hb : wN (s 1 15) + 20 ≤ b) (hb2 : b ≤ 1000000) (kk : ∀ v M', Nxt b v (some v) M' → XP X (d + 101) k_law 1597 (lsL n) [] M' Q) : XP X (d + 101) k_law 550 (lsL n) [] (I, J, Rx R, N, G) Q := by
  have hW := hI.2.1
  have hch := hI.2.2.2.2
  obtain ⟨w, hB⟩ := Both.g (X := X) (d := d) hI hG hb hb2 (s_force hW hch (X.2 (n + 1)))
  exact law_i (l := [1]) (y1 := n_H_force) (y2 := n_M_force) hX hn (by decide +kernel) (by decide +kernel) hB kk
theorem lc_total (hX : X.1 ≤ 384) (hn : n + 6 ≤ X.1) (hI : Inv s R N I J) (hG : GI s G) (hb : wN (s 1 15) + 20 ≤ b) (hb2 : b ≤ 1000000) (kk : ∀ v M', Nxt b v (some v) M' → XP X (d + 101) k_law 1597 (lsL n) [] M' Q) : XP X (d + 101) k_law 567 (lsL n) [] (I, J, Rx R, N, G) Q := by
  have hW := hI.2.1
  have hch := hI.2.2.2.2
  obtain ⟨w, f1, f2⟩ := f_total (X := X) (d := d + 88) (G := G) hI (X.2 (n + 1)) (X.2 (n + 2))
  have hB := Both.q (b := b) hG (by omega) f1 f2
  exact law_l (l := [1, 2]) (y1 := n_H_total) (y2 := n_M_total) hX hn (by decide +kernel) (by decide +kernel) hB kk
theorem lc_spent (hX : X.1 ≤ 384) (hn : n + 6 ≤ X.1) (hI : Inv s R N I J) (hG : GI s G) (hb : wN (s 1 15) + 20 ≤ b) (hb2 : b ≤ 1000000) (kk : ∀ v M', Nxt b v (some v) M' → XP X (d + 101) k_law 1597 (lsL n) [] M' Q) : XP X (d + 101) k_law 595 (lsL n) [] (I, J, Rx R, N, G) Q := by
  have hW := hI.2.1
  have hch := hI.2.2.2.2
  obtain ⟨w, f1, f2⟩ := f_spent (X := X) (d := d + 88) (G := G) hI (X.2 (n + 1)) (X.2 (n + 2))
  have hB := Both.q (b := b) hG (by omega) f1 f2
  exact law_l (l := [1, 2]) (y1 := n_H_spent) (y2 := n_M_spent) hX hn (by decide +kernel) (by decide +kernel) hB kk
theorem lc_mean (hX : X.1 ≤ 384) (hn : n + 6 ≤ X.1) (hI : Inv s R N I J) (hG : GI s G) (hb : wN (s 1 15) + 20 ≤ b) (hb2 : b ≤ 1000000) (kk : ∀ v M', Nxt b v (some v) M' → XP X (d + 101) k_law 1597 (lsL n) [] M' Q) : XP X (d + 101) k_law 623 (lsL n) [] (I, J, Rx R, N, G) Q := by
  have hW := hI.2.1
  have hch := hI.2.2.2.2
  obtain ⟨w, f1, f2⟩ := f_mean (X := X) (d := d + 88) (G := G) hI (X.2 (n + 1)) (X.2 (n + 2))
  have hB := Both.q (b := b) hG (by omega) f1 f2
  exact law_l (l := [1, 2]) (y1 := n_H_mean) (y2 := n_M_mean) hX hn (by decide +kernel) (by decide +kernel) hB kk
theorem lc_row (hX : X.1 ≤ 384) (hn : n + 6 ≤ X.1) (hI : Inv s R N I J) (hG : GI s G) (hb : wN (s 1 15) + 20 ≤ b) (hb2 : b ≤ 1000000) (kk : ∀ v M', Nxt b v (some v) M' → XP X (d + 101) k_law 1597 (lsL n) [] M' Q) : XP X (d + 101) k_law 651 (lsL n) [] (I, J, Rx R, N, G) Q := by
  have hW := hI.2.1
  have hch := hI.2.2.2.2
  obtain ⟨w, f1, f2⟩ := f_row (X := X) (d := d + 88) (G := G) hI (X.2 (n + 1)) (X.2 (n + 2)) (X.2 (n + 3)) (X.2 (n + 4))
  have hB := Both.q (b := b) hG (by omega) f1 f2
  exact law_i (l := [1, 2, 3, 4]) (y1 := n_H_row) (y2 := n_M_row) hX hn (by decide +kernel) (by decide +kernel) hB kk
theorem lc_judge (hX : X.1 ≤ 384) (hn : n + 6 ≤ X.1) (hI : Inv s R N I J) (hG : GI s G) (hb : wN (s 1 15) + 20 ≤ b) (hb2 : b ≤ 1000000) (kk : ∀ v M', Nxt b v (some v) M' → XP X (d + 101) k_law 1597 (lsL n) [] M' Q) : XP X (d + 101) k_law 698 (lsL n) [] (I, J, Rx R, N, G) Q := by
  have hW := hI.2.1
  have hch := hI.2.2.2.2
  obtain ⟨w, f1, f2⟩ := f_judge (X := X) (d := d + 88) (G := G) hI (X.2 (n + 1)) (X.2 (n + 2))
  have hB := Both.q (b := b) hG (by omega) f1 f2
  exact law_i (l := [1, 2]) (y1 := n_H_judge) (y2 := n_M_judge) hX hn (by decide +kernel) (by decide +kernel) hB kk
theorem lc_drawn (hX : X.1 ≤ 384) (hn : n + 6 ≤ X.1) (hI : Inv s R N I J) (hG : GI s G) (hb : wN (s 1 15) + 20 ≤ b) (hb2 : b ≤ 1000000) (kk : ∀ v M', Nxt b v (some v) M' → XP X (d + 101) k_law 1597 (lsL n) [] M' Q) : XP X (d + 101) k_law 725 (lsL n) [] (I, J, Rx R, N, G) Q := by
  have hW := hI.2.1
  have hch := hI.2.2.2.2
  obtain ⟨w, f1, f2⟩ := f_drawn (X := X) (d := d + 88) (G := G) hI (X.2 (n + 1)) (X.2 (n + 2)) (X.2 (n + 3))
  have hB := Both.q (b := b) hG (by omega) f1 f2
  exact law_l (l := [1, 2, 3]) (y1 := n_H_drawn) (y2 := n_M_drawn) hX hn (by decide +kernel) (by decide +kernel) hB kk
theorem lc_best (hX : X.1 ≤ 384) (hn : n + 6 ≤ X.1) (hI : Inv s R N I J) (hG : GI s G) (hb : wN (s 1 15) + 20 ≤ b) (hb2 : b ≤ 1000000) (kk : ∀ v M', Nxt b v (some v) M' → XP X (d + 101) k_law 1597 (lsL n) [] M' Q) : XP X (d + 101) k_law 763 (lsL n) [] (I, J, Rx R, N, G) Q := by
  have hW := hI.2.1
  have hch := hI.2.2.2.2
  obtain ⟨w, f1, f2⟩ := f_best (X := X) (d := d + 88) (G := G) hI (X.2 (n + 1)) (X.2 (n + 2))
  have hB := Both.q (b := b) hG (by omega) f1 f2
  exact law_l (l := [1, 2]) (y1 := n_H_best) (y2 := n_M_best) hX hn (by decide +kernel) (by decide +kernel) hB kk
theorem lc_planned (hX : X.1 ≤ 384) (hn : n + 6 ≤ X.1) (hI : Inv s R N I J) (hG : GI s G) (hb : wN (s 1 15) + 20 ≤ b) (hb2 : b ≤ 1000000) (kk : ∀ v M', Nxt b v (some v) M' → XP X (d + 101) k_law 1597 (lsL n) [] M' Q) : XP X (d + 101) k_law 791 (lsL n) [] (I, J, Rx R, N, G) Q := by
  have hW := hI.2.1
  have hch := hI.2.2.2.2
  obtain ⟨w, f1, f2⟩ := f_planned (X := X) (d := d + 88) (G := G) hI (X.2 (n + 1)) (X.2 (n + 2))
  have hB := Both.q (b := b) hG (by omega) f1 f2
  exact law_i (l := [1, 2]) (y1 := n_H_planned) (y2 := n_M_planned) hX hn (by decide +kernel) (by decide +kernel) hB kk
theorem lc_know (hX : X.1 ≤ 384) (hn : n + 6 ≤ X.1) (hI : Inv s R N I J) (hG : GI s G) (hb : wN (s 1 15) + 20 ≤ b) (hb2 : b ≤ 1000000) (kk : ∀ v M', Nxt b v (some v) M' → XP X (d + 101) k_law 1597 (lsL n) [] M' Q) : XP X (d + 101) k_law 818 (lsL n) [] (I, J, Rx R, N, G) Q := by
  have hW := hI.2.1
  have hch := hI.2.2.2.2
  obtain ⟨w, f1, f2⟩ := f_know (X := X) (d := d + 88) (G := G) hI (X.2 (n + 1))
  have hB := Both.q (b := b) hG (by omega) f1 f2
  exact law_l (l := [1]) (y1 := n_H_know) (y2 := n_M_know) hX hn (by decide +kernel) (by decide +kernel) hB kk
theorem lc_waits (hX : X.1 ≤ 384) (hn : n + 6 ≤ X.1) (hI : Inv s R N I J) (hG : GI s G) (hb : wN (s 1 15) + 20 ≤ b) (hb2 : b ≤ 1000000) (kk : ∀ v M', Nxt b v (some v) M' → XP X (d + 101) k_law 1597 (lsL n) [] M' Q) : XP X (d + 101) k_law 836 (lsL n) [] (I, J, Rx R, N, G) Q := by
  have hW := hI.2.1
  have hch := hI.2.2.2.2
  obtain ⟨w, f1, f2⟩ := f_waits (X := X) (d := d + 88) (G := G) hI (X.2 (n + 1)) (X.2 (n + 2))
  have hB := Both.q (b := b) hG (by omega) f1 f2
  exact law_l (l := [1, 2]) (y1 := n_H_waits) (y2 := n_M_waits) hX hn (by decide +kernel) (by decide +kernel) hB kk
theorem lc_broadWorth (hX : X.1 ≤ 384) (hn : n + 6 ≤ X.1) (hI : Inv s R N I J) (hG : GI s G) (hb : wN (s 1 15) + 20 ≤ b) (hb2 : b ≤ 1000000) (kk : ∀ v M', Nxt b v (some v) M' → XP X (d + 101) k_law 1597 (lsL n) [] M' Q) : XP X (d + 101) k_law 864 (lsL n) [] (I, J, Rx R, N, G) Q := by
  have hW := hI.2.1
  have hch := hI.2.2.2.2
  obtain ⟨w, f1, f2⟩ := f_broadWorth (X := X) (d := d + 88) (G := G) hI (X.2 (n + 1))
  have hB := Both.q (b := b) hG (by omega) f1 f2
  exact law_l (l := [1]) (y1 := n_H_broadWorth) (y2 := n_M_broadWorth) hX hn (by decide +kernel) (by decide +kernel) hB kk
theorem lc_decided (hX : X.1 ≤ 384) (hn : n + 6 ≤ X.1) (hI : Inv s R N I J) (hG : GI s G) (hb : wN (s 1 15) + 20 ≤ b) (hb2 : b ≤ 1000000) (kk : ∀ v M', Nxt b v (some v) M' → XP X (d + 101) k_law 1597 (lsL n) [] M' Q) : XP X (d + 101) k_law 882 (lsL n) [] (I, J, Rx R, N, G) Q := by
  have hW := hI.2.1
  have hch := hI.2.2.2.2
  obtain ⟨w, f1, f2⟩ := f_decided (X := X) (d := d + 88) (G := G) hI 
  have hB := Both.q (b := b) hG (by omega) f1 f2
  exact law_i (l := []) (y1 := n_H_decided) (y2 := n_M_decided) hX hn (by decide +kernel) (by decide +kernel) hB kk
theorem lc_regret (hX : X.1 ≤ 384) (hn : n + 6 ≤ X.1) (hI : Inv s R N I J) (hG : GI s G) (hb : wN (s 1 15) + 20 ≤ b) (hb2 : b ≤ 1000000) (kk : ∀ v M', Nxt b v (some v) M' → XP X (d + 101) k_law 1597 (lsL n) [] M' Q) : XP X (d + 101) k_law 889 (lsL n) [] (I, J, Rx R, N, G) Q := by
  have hW := hI.2.1
  have hch := hI.2.2.2.2
  obtain ⟨w, f1, f2⟩ := f_regret (X := X) (d := d + 88) (G := G) hI (X.2 (n + 1)) (X.2 (n + 2))
  have hB := Both.q (b := b) hG (by omega) f1 f2
  exact law_l (l := [1, 2]) (y1 := n_H_regret) (y2 := n_M_regret) hX hn (by decide +kernel) (by decide +kernel) hB kk
theorem lc_worst (hX : X.1 ≤ 384) (hn : n + 6 ≤ X.1) (hI : Inv s R N I J) (hG : GI s G) (hb : wN (s 1 15) + 20 ≤ b) (hb2 : b ≤ 1000000) (kk : ∀ v M', Nxt b v (some v) M' → XP X (d + 101) k_law 1597 (lsL n) [] M' Q) : XP X (d + 101) k_law 917 (lsL n) [] (I, J, Rx R, N, G) Q := by
  have hW := hI.2.1
  have hch := hI.2.2.2.2
  obtain ⟨w, f1, f2⟩ := f_worst (X := X) (d := d + 88) (G := G) hI (X.2 (n + 1))
  have hB := Both.q (b := b) hG (by omega) f1 f2
  exact law_l (l := [1]) (y1 := n_H_worst) (y2 := n_M_worst) hX hn (by decide +kernel) (by decide +kernel) hB kk
theorem lc_sure (hX : X.1 ≤ 384) (hn : n + 6 ≤ X.1) (hI : Inv s R N I J) (hG : GI s G) (hb : wN (s 1 15) + 20 ≤ b) (hb2 : b ≤ 1000000) (kk : ∀ v M', Nxt b v (some v) M' → XP X (d + 101) k_law 1597 (lsL n) [] M' Q) : XP X (d + 101) k_law 935 (lsL n) [] (I, J, Rx R, N, G) Q := by
  have hW := hI.2.1
  have hch := hI.2.2.2.2
  obtain ⟨w, f1, f2⟩ := f_sure (X := X) (d := d + 88) (G := G) hI (X.2 (n + 1))
  have hB := Both.q (b := b) hG (by omega) f1 f2
  exact law_i (l := [1]) (y1 := n_H_sure) (y2 := n_M_sure) hX hn (by decide +kernel) (by decide +kernel) hB kk
theorem lc_thousand (hX : X.1 ≤ 384) (hn : n + 6 ≤ X.1) (hI : Inv s R N I J) (hG : GI s G) (hb : wN (s 1 15) + 20 ≤ b) (hb2 : b ≤ 1000000) (kk : ∀ v M', Nxt b v (some v) M' → XP X (d + 101) k_law 1597 (lsL n) [] M' Q) : XP X (d + 101) k_law 952 (lsL n) [] (I, J, Rx R, N, G) Q := by
  have hW := hI.2.1
  have hch := hI.2.2.2.2
  obtain ⟨w, f1, f2⟩ := f_thousand (X := X) (d := d + 88) (G := G) hI (X.2 (n + 1)) (X.2 (n + 2))
  have hB := Both.q (b := b) hG (by omega) f1 f2
  exact law_l (l := [1, 2]) (y1 := n_H_thousand) (y2 := n_M_thousand) hX hn (by decide +kernel) (by decide +kernel) hB kk
theorem lc_price (hX : X.1 ≤ 384) (hn : n + 6 ≤ X.1) (hI : Inv s R N I J) (hG : GI s G) (hb : wN (s 1 15) + 20 ≤ b) (hb2 : b ≤ 1000000) (kk : ∀ v M', Nxt b v (some v) M' → XP X (d + 101) k_law 1597 (lsL n) [] M' Q) : XP X (d + 101) k_law 980 (lsL n) [] (I, J, Rx R, N, G) Q := by
  have hW := hI.2.1
  have hch := hI.2.2.2.2
  obtain ⟨w, f1, f2⟩ := f_price (X := X) (d := d + 88) (G := G) hI (X.2 (n + 1))
  have hB := Both.q (b := b) hG (by omega) f1 f2
  exact law_i (l := [1]) (y1 := n_H_price) (y2 := n_M_price) hX hn (by decide +kernel) (by decide +kernel) hB kk
theorem lc_street (hX : X.1 ≤ 384) (hn : n + 6 ≤ X.1) (hI : Inv s R N I J) (hG : GI s G) (hb : wN (s 1 15) + 20 ≤ b) (hb2 : b ≤ 1000000) (kk : ∀ v M', Nxt b v (some v) M' → XP X (d + 101) k_law 1597 (lsL n) [] M' Q) : XP X (d + 101) k_law 997 (lsL n) [] (I, J, Rx R, N, G) Q := by
  have hW := hI.2.1
  have hch := hI.2.2.2.2
  obtain ⟨w, hB⟩ := Both.g (X := X) (d := d) hI hG hb hb2 (s_street hW hch (X.2 (n + 1)) (X.2 (n + 2))).g
  exact law_i (l := [1, 2]) (y1 := n_H_street) (y2 := n_M_street) hX hn (by decide +kernel) (by decide +kernel) hB kk
theorem lc_when (hX : X.1 ≤ 384) (hn : n + 6 ≤ X.1) (hI : Inv s R N I J) (hG : GI s G) (hb : wN (s 1 15) + 20 ≤ b) (hb2 : b ≤ 1000000) (kk : ∀ v M', Nxt b v (some v) M' → XP X (d + 101) k_law 1597 (lsL n) [] M' Q) : XP X (d + 101) k_law 1024 (lsL n) [] (I, J, Rx R, N, G) Q := by
  have hW := hI.2.1
  have hch := hI.2.2.2.2
  obtain ⟨w, f1, f2⟩ := f_when (X := X) (d := d + 88) (G := G) hI (X.2 (n + 1)) (X.2 (n + 2)) (X.2 (n + 3))
  have hB := Both.q (b := b) hG (by omega) f1 f2
  exact law_i (l := [1, 2, 3]) (y1 := n_H_when) (y2 := n_M_when) hX hn (by decide +kernel) (by decide +kernel) hB kk
theorem lc_away (hX : X.1 ≤ 384) (hn : n + 6 ≤ X.1) (hI : Inv s R N I J) (hG : GI s G) (hb : wN (s 1 15) + 20 ≤ b) (hb2 : b ≤ 1000000) (kk : ∀ v M', Nxt b v (some v) M' → XP X (d + 101) k_law 1597 (lsL n) [] M' Q) : XP X (d + 101) k_law 1061 (lsL n) [] (I, J, Rx R, N, G) Q := by
  have hW := hI.2.1
  have hch := hI.2.2.2.2
  obtain ⟨w, f1, f2⟩ := f_away (X := X) (d := d + 88) (G := G) hI (X.2 (n + 1)) (X.2 (n + 2)) (X.2 (n + 3)) (X.2 (n + 4))
  have hB := Both.q (b := b) hG (by omega) f1 f2
  exact law_i (l := [1, 2, 3, 4]) (y1 := n_H_away) (y2 := n_M_away) hX hn (by decide +kernel) (by decide +kernel) hB kk
theorem lc_town (hX : X.1 ≤ 384) (hn : n + 6 ≤ X.1) (hI : Inv s R N I J) (hG : GI s G) (hb : wN (s 1 15) + 20 ≤ b) (hb2 : b ≤ 1000000) (kk : ∀ v M', Nxt b v (some v) M' → XP X (d + 101) k_law 1597 (lsL n) [] M' Q) : XP X (d + 101) k_law 1108 (lsL n) [] (I, J, Rx R, N, G) Q := by
  have hW := hI.2.1
  have hch := hI.2.2.2.2
  obtain ⟨w, hB⟩ := Both.g (X := X) (d := d) hI hG hb hb2 (s_town hW hch (X.2 (n + 1)) (X.2 (n + 2))).g
  exact law_i (l := [1, 2]) (y1 := n_H_town) (y2 := n_M_town) hX hn (by decide +kernel) (by decide +kernel) hB kk
theorem lc_push (hX : X.1 ≤ 384) (hn : n + 6 ≤ X.1) (hI : Inv s R N I J) (hG : GI s G) (hb : wN (s 1 15) + 20 ≤ b) (hb2 : b ≤ 1000000) (kk : ∀ v M', Nxt b v (some v) M' → XP X (d + 101) k_law 1597 (lsL n) [] M' Q) : XP X (d + 101) k_law 1135 (lsL n) [] (I, J, Rx R, N, G) Q := by
  have hW := hI.2.1
  have hch := hI.2.2.2.2
  obtain ⟨w, hB⟩ := Both.g (X := X) (d := d) hI hG hb hb2 (s_push hW hch (X.2 (n + 1))).g
  exact law_i (l := [1]) (y1 := n_H_push) (y2 := n_M_push) hX hn (by decide +kernel) (by decide +kernel) hB kk
theorem lc_pays (hX : X.1 ≤ 384) (hn : n + 6 ≤ X.1) (hI : Inv s R N I J) (hG : GI s G) (hb : wN (s 1 15) + 20 ≤ b) (hb2 : b ≤ 1000000) (kk : ∀ v M', Nxt b v (some v) M' → XP X (d + 101) k_law 1597 (lsL n) [] M' Q) : XP X (d + 101) k_law 1152 (lsL n) [] (I, J, Rx R, N, G) Q := by
  have hW := hI.2.1
  have hch := hI.2.2.2.2
  obtain ⟨w, f1, f2⟩ := f_pays (X := X) (d := d + 88) (G := G) hI (X.2 (n + 1)) (X.2 (n + 2)) (X.2 (n + 3)) (X.2 (n + 4)) (X.2 (n + 5))
  have hB := Both.q (b := b) hG (by omega) f1 f2
  exact law_l (l := [1, 2, 3, 4, 5]) (y1 := n_H_pays) (y2 := n_M_pays) hX hn (by decide +kernel) (by decide +kernel) hB kk
theorem lc_rests (hX : X.1 ≤ 384) (hn : n + 6 ≤ X.1) (hI : Inv s R N I J) (hG : GI s G) (hb : wN (s 1 15) + 20 ≤ b) (hb2 : b ≤ 1000000) (kk : ∀ v M', Nxt b v (some v) M' → XP X (d + 101) k_law 1597 (lsL n) [] M' Q) : XP X (d + 101) k_law 1210 (lsL n) [] (I, J, Rx R, N, G) Q := by
  have hW := hI.2.1
  have hch := hI.2.2.2.2
  obtain ⟨w, f1, f2⟩ := f_rests (X := X) (d := d + 88) (G := G) hI (X.2 (n + 1)) (X.2 (n + 2)) (X.2 (n + 3))
  have hB := Both.q (b := b) hG (by omega) f1 f2
  exact law_i (l := [1, 2, 3]) (y1 := n_H_rests) (y2 := n_M_rests) hX hn (by decide +kernel) (by decide +kernel) hB kk
theorem lc_together (hX : X.1 ≤ 384) (hn : n + 6 ≤ X.1) (hI : Inv s R N I J) (hG : GI s G) (hb : wN (s 1 15) + 20 ≤ b) (hb2 : b ≤ 1000000) (kk : ∀ v M', Nxt b v (some v) M' → XP X (d + 101) k_law 1597 (lsL n) [] M' Q) : XP X (d + 101) k_law 1247 (lsL n) [] (I, J, Rx R, N, G) Q := by
  have hW := hI.2.1
  have hch := hI.2.2.2.2
  obtain ⟨w, f1, f2⟩ := f_together (X := X) (d := d + 88) (G := G) hI (X.2 (n + 1)) (X.2 (n + 2)) (X.2 (n + 3))
  have hB := Both.q (b := b) hG (by omega) f1 f2
  exact law_i (l := [1, 2, 3]) (y1 := n_H_together) (y2 := n_M_together) hX hn (by decide +kernel) (by decide +kernel) hB kk
theorem lc_joint (hX : X.1 ≤ 384) (hn : n + 6 ≤ X.1) (hI : Inv s R N I J) (hG : GI s G) (hb : wN (s 1 15) + 20 ≤ b) (hb2 : b ≤ 1000000) (kk : ∀ v M', Nxt b v (some v) M' → XP X (d + 101) k_law 1597 (lsL n) [] M' Q) : XP X (d + 101) k_law 1284 (lsL n) [] (I, J, Rx R, N, G) Q := by
  have hW := hI.2.1
  have hch := hI.2.2.2.2
  obtain ⟨w, f1, f2⟩ := f_joint (X := X) (d := d + 88) (G := G) hI (X.2 (n + 1)) (X.2 (n + 2)) (X.2 (n + 3)) (X.2 (n + 4))
  have hB := Both.q (b := b) hG (by omega) f1 f2
  exact law_i (l := [1, 2, 3, 4]) (y1 := n_H_joint) (y2 := n_M_joint) hX hn (by decide +kernel) (by decide +kernel) hB kk
theorem lc_join (hX : X.1 ≤ 384) (hn : n + 6 ≤ X.1) (hI : Inv s R N I J) (hG : GI s G) (hb : wN (s 1 15) + 20 ≤ b) (hb2 : b ≤ 1000000) (kk : ∀ v M', Nxt b v (some v) M' → XP X (d + 101) k_law 1597 (lsL n) [] M' Q) : XP X (d + 101) k_law 1331 (lsL n) [] (I, J, Rx R, N, G) Q := by
  have hW := hI.2.1
  have hch := hI.2.2.2.2
  obtain ⟨w, f1, f2⟩ := f_join (X := X) (d := d + 88) (G := G) hI (X.2 (n + 1)) (X.2 (n + 2)) (X.2 (n + 3)) (X.2 (n + 4))
  have hB := Both.q (b := b) hG (by omega) f1 f2
  exact law_i (l := [1, 2, 3, 4]) (y1 := n_H_join) (y2 := n_M_join) hX hn (by decide +kernel) (by decide +kernel) hB kk
theorem lc_image (hX : X.1 ≤ 384) (hn : n + 6 ≤ X.1) (hI : Inv s R N I J) (hG : GI s G) (hb : wN (s 1 15) + 20 ≤ b) (hb2 : b ≤ 1000000) (kk : ∀ v M', Nxt b v (some v) M' → XP X (d + 101) k_law 1597 (lsL n) [] M' Q) : XP X (d + 101) k_law 1378 (lsL n) [] (I, J, Rx R, N, G) Q := by
  have hW := hI.2.1
  have hch := hI.2.2.2.2
  obtain ⟨w, hB⟩ := Both.g (X := X) (d := d) hI hG hb hb2 (s_image hW hch ).g
  exact law_i (l := []) (y1 := n_H_image) (y2 := n_M_image) hX hn (by decide +kernel) (by decide +kernel) hB kk
theorem lc_back (hX : X.1 ≤ 384) (hn : n + 6 ≤ X.1) (hI : Inv s R N I J) (hG : GI s G) (hb : wN (s 1 15) + 20 ≤ b) (hb2 : b ≤ 1000000) (kk : ∀ v M', Nxt b v (some v) M' → XP X (d + 101) k_law 1597 (lsL n) [] M' Q) : XP X (d + 101) k_law 1385 (lsL n) [] (I, J, Rx R, N, G) Q := by
  have hW := hI.2.1
  have hch := hI.2.2.2.2
  obtain ⟨w, hB⟩ := Both.g (X := X) (d := d) hI hG hb hb2 (s_back hW hch )
  exact law_i (l := []) (y1 := n_H_back) (y2 := n_M_back) hX hn (by decide +kernel) (by decide +kernel) hB kk
theorem lc_sheet (hX : X.1 ≤ 384) (hn : n + 6 ≤ X.1) (hI : Inv s R N I J) (hG : GI s G) (hb : wN (s 1 15) + 20 ≤ b) (hb2 : b ≤ 1000000) (kk : ∀ v M', Nxt b v (some v) M' → XP X (d + 101) k_law 1597 (lsL n) [] M' Q) : XP X (d + 101) k_law 1392 (lsL n) [] (I, J, Rx R, N, G) Q := by
  have hW := hI.2.1
  have hch := hI.2.2.2.2
  obtain ⟨w, hB⟩ := Both.g (X := X) (d := d) hI hG hb hb2 (s_sheet hW hch (X.2 (n + 1)) (X.2 (n + 2)) (X.2 (n + 3))).g
  exact law_i (l := [1, 2, 3]) (y1 := n_H_sheet) (y2 := n_M_sheet) hX hn (by decide +kernel) (by decide +kernel) hB kk
theorem lc_cell (hX : X.1 ≤ 384) (hn : n + 6 ≤ X.1) (hI : Inv s R N I J) (hG : GI s G) (hb : wN (s 1 15) + 20 ≤ b) (hb2 : b ≤ 1000000) (kk : ∀ v M', Nxt b v (some v) M' → XP X (d + 101) k_law 1597 (lsL n) [] M' Q) : XP X (d + 101) k_law 1429 (lsL n) [] (I, J, Rx R, N, G) Q := by
  have hW := hI.2.1
  have hch := hI.2.2.2.2
  obtain ⟨w, hB⟩ := Both.g (X := X) (d := d) hI hG hb hb2 (s_cell hW hch (X.2 (n + 1)) (X.2 (n + 2)) (X.2 (n + 3))).g
  exact law_i (l := [1, 2, 3]) (y1 := n_H_cell) (y2 := n_M_cell) hX hn (by decide +kernel) (by decide +kernel) hB kk
theorem lc_copy (hX : X.1 ≤ 384) (hn : n + 6 ≤ X.1) (hI : Inv s R N I J) (hG : GI s G) (hb : wN (s 1 15) + 20 ≤ b) (hb2 : b ≤ 1000000) (kk : ∀ v M', Nxt b v (some v) M' → XP X (d + 101) k_law 1597 (lsL n) [] M' Q) : XP X (d + 101) k_law 1466 (lsL n) [] (I, J, Rx R, N, G) Q := by
  have hW := hI.2.1
  have hch := hI.2.2.2.2
  obtain ⟨w, hB⟩ := Both.g (X := X) (d := d) hI hG hb hb2 (s_copy hW hch (X.2 (n + 1)) (X.2 (n + 2)) (X.2 (n + 3)) (X.2 (n + 4)) (X.2 (n + 5))).g
  exact law_i (l := [1, 2, 3, 4, 5]) (y1 := n_H_copy) (y2 := n_M_copy) hX hn (by decide +kernel) (by decide +kernel) hB kk
theorem lc_stormsBy (hX : X.1 ≤ 384) (hn : n + 6 ≤ X.1) (hI : Inv s R N I J) (hG : GI s G) (hb : wN (s 1 15) + 20 ≤ b) (hb2 : b ≤ 1000000) (kk : ∀ v M', Nxt b v (some v) M' → XP X (d + 101) k_law 1597 (lsL n) [] M' Q) : XP X (d + 101) k_law 1523 (lsL n) [] (I, J, Rx R, N, G) Q := by
  have hW := hI.2.1
  have hch := hI.2.2.2.2
  obtain ⟨w, hB⟩ := Both.g (X := X) (d := d) hI hG hb hb2 (s_stormsBy hW hch (by omega) (X.2 (n + 1)) (X.2 (n + 2)) (X.2 (n + 3)) (X.2 (n + 4))).g
  exact law_i (l := [1, 2, 3, 4]) (y1 := n_H_stormsBy) (y2 := n_M_stormsBy) hX hn (by decide +kernel) (by decide +kernel) hB kk
theorem lc_taken (hX : X.1 ≤ 384) (hn : n + 6 ≤ X.1) (hI : Inv s R N I J) (hG : GI s G) (hb : wN (s 1 15) + 20 ≤ b) (hb2 : b ≤ 1000000) (kk : ∀ v M', Nxt b v (some v) M' → XP X (d + 101) k_law 1597 (lsL n) [] M' Q) : XP X (d + 101) k_law 1570 (lsL n) [] (I, J, Rx R, N, G) Q := by
  have hW := hI.2.1
  have hch := hI.2.2.2.2
  obtain ⟨w, f1, f2⟩ := f_taken (X := X) (d := d + 88) (G := G) hI (X.2 (n + 1)) (X.2 (n + 2))
  have hB := Both.q (b := b) hG (by omega) f1 f2
  exact law_i (l := [1, 2]) (y1 := n_H_taken) (y2 := n_M_taken) hX hn (by decide +kernel) (by decide +kernel) hB kk
theorem lc_feed (hX : X.1 ≤ 384) (hn : n + 6 ≤ X.1) (hI : Inv s R N I J) (hG : GI s G) (hb : wN (s 1 15) + 20 ≤ b) (hb2 : b ≤ 1000000) (kk : ∀ v M', Nxt b v (some v) M' → XP X (d + 101) k_law 1597 (lsL n) [] M' Q) : XP X (d + 101) k_law 492 (lsL n) [] (I, J, Rx R, N, G) Q := by
  have hW := hI.2.1
  have hch := hI.2.2.2.2
  obtain ⟨w, hB⟩ := Both.g (X := X) (d := d) hI hG hb hb2 (s_feed hW hch ((X.2 (n + 1)).toInt64 <<< ((cI 32).toInt64 &&& 63) ||| ((X.2 (n + 2)).toInt64 &&& cL 4294967295)) (X.2 (n + 3))).g
  refine XP_s (pc' := 493) (ls' := lsL n) (st' := [.ref 0]) (M' := (I, J, Rx R, N, G)) (by rw [show k_law.getD 492 .nop = .aload 1 by decide +kernel]; rfl) ?_
  refine XP_a (c := 1) (by decide +kernel) (by decide +kernel) (by decide +kernel) (by decide +kernel) (by decide +kernel) (by omega) hX ?_
  refine XP_s (pc' := 499) (ls' := lsL n) (st' := [.long (X.2 (n + 1)).toInt64, .ref 0]) (M' := (I, J, Rx R, N, G)) (by rw [show k_law.getD 498 .nop = .i2l by decide +kernel]; rfl) ?_
  refine XP_s (pc' := 500) (ls' := lsL n) (st' := [.int (cI 32), .long (X.2 (n + 1)).toInt64, .ref 0]) (M' := (I, J, Rx R, N, G)) (by rw [show k_law.getD 499 .nop = .iconst 32 by decide +kernel]; rfl) ?_
  refine XP_s (pc' := 501) (ls' := lsL n) (st' := [.long ((X.2 (n + 1)).toInt64 <<< ((cI 32).toInt64 &&& 63)), .ref 0]) (M' := (I, J, Rx R, N, G)) (by rw [show k_law.getD 500 .nop = .lshl by decide +kernel]; rfl) ?_
  refine XP_a (c := 2) (by decide +kernel) (by decide +kernel) (by decide +kernel) (by decide +kernel) (by decide +kernel) (by omega) hX ?_
  refine XP_s (pc' := 507) (ls' := lsL n) (st' := [.long (X.2 (n + 2)).toInt64, .long ((X.2 (n + 1)).toInt64 <<< ((cI 32).toInt64 &&& 63)), .ref 0]) (M' := (I, J, Rx R, N, G)) (by rw [show k_law.getD 506 .nop = .i2l by decide +kernel]; rfl) ?_
  refine XP_s (pc' := 508) (ls' := lsL n) (st' := [.long (cL 4294967295), .long (X.2 (n + 2)).toInt64, .long ((X.2 (n + 1)).toInt64 <<< ((cI 32).toInt64 &&& 63)), .ref 0]) (M' := (I, J, Rx R, N, G)) (by rw [show k_law.getD 507 .nop = .jsr 4294967295 by decide +kernel]; rfl) ?_
  refine XP_s (pc' := 509) (ls' := lsL n) (st' := [.long ((X.2 (n + 2)).toInt64 &&& cL 4294967295), .long ((X.2 (n + 1)).toInt64 <<< ((cI 32).toInt64 &&& 63)), .ref 0]) (M' := (I, J, Rx R, N, G)) (by rw [show k_law.getD 508 .nop = .land by decide +kernel]; rfl) ?_
  refine XP_s (pc' := 510) (ls' := lsL n) (st' := [.long ((X.2 (n + 1)).toInt64 <<< ((cI 32).toInt64 &&& 63) ||| ((X.2 (n + 2)).toInt64 &&& cL 4294967295)), .ref 0]) (M' := (I, J, Rx R, N, G)) (by rw [show k_law.getD 509 .nop = .lor by decide +kernel]; rfl) ?_
  refine XP_a (c := 3) (by decide +kernel) (by decide +kernel) (by decide +kernel) (by decide +kernel) (by decide +kernel) (by omega) hX ?_
  refine XP_call (d := d + 100) (y := n_H_feed) (k := 3) (by decide +kernel) rfl hB ?_
  rintro v1 M1 ⟨rfl, hB2⟩
  refine XP_s (pc' := 517) (ls' := lsL n) (st' := [.ref 99, .int w]) (M' := M1) (by rw [show k_law.getD 516 .nop = .aload 2 by decide +kernel]; rfl) ?_
  refine XP_a (c := 1) (by decide +kernel) (by decide +kernel) (by decide +kernel) (by decide +kernel) (by decide +kernel) (by omega) hX ?_
  refine XP_s (pc' := 523) (ls' := lsL n) (st' := [.long (X.2 (n + 1)).toInt64, .ref 99, .int w]) (M' := M1) (by rw [show k_law.getD 522 .nop = .i2l by decide +kernel]; rfl) ?_
  refine XP_s (pc' := 524) (ls' := lsL n) (st' := [.int (cI 32), .long (X.2 (n + 1)).toInt64, .ref 99, .int w]) (M' := M1) (by rw [show k_law.getD 523 .nop = .iconst 32 by decide +kernel]; rfl) ?_
  refine XP_s (pc' := 525) (ls' := lsL n) (st' := [.long ((X.2 (n + 1)).toInt64 <<< ((cI 32).toInt64 &&& 63)), .ref 99, .int w]) (M' := M1) (by rw [show k_law.getD 524 .nop = .lshl by decide +kernel]; rfl) ?_
  refine XP_a (c := 2) (by decide +kernel) (by decide +kernel) (by decide +kernel) (by decide +kernel) (by decide +kernel) (by omega) hX ?_
  refine XP_s (pc' := 531) (ls' := lsL n) (st' := [.long (X.2 (n + 2)).toInt64, .long ((X.2 (n + 1)).toInt64 <<< ((cI 32).toInt64 &&& 63)), .ref 99, .int w]) (M' := M1) (by rw [show k_law.getD 530 .nop = .i2l by decide +kernel]; rfl) ?_
  refine XP_s (pc' := 532) (ls' := lsL n) (st' := [.long (cL 4294967295), .long (X.2 (n + 2)).toInt64, .long ((X.2 (n + 1)).toInt64 <<< ((cI 32).toInt64 &&& 63)), .ref 99, .int w]) (M' := M1) (by rw [show k_law.getD 531 .nop = .jsr 4294967295 by decide +kernel]; rfl) ?_
  refine XP_s (pc' := 533) (ls' := lsL n) (st' := [.long ((X.2 (n + 2)).toInt64 &&& cL 4294967295), .long ((X.2 (n + 1)).toInt64 <<< ((cI 32).toInt64 &&& 63)), .ref 99, .int w]) (M' := M1) (by rw [show k_law.getD 532 .nop = .land by decide +kernel]; rfl) ?_
  refine XP_s (pc' := 534) (ls' := lsL n) (st' := [.long ((X.2 (n + 1)).toInt64 <<< ((cI 32).toInt64 &&& 63) ||| ((X.2 (n + 2)).toInt64 &&& cL 4294967295)), .ref 99, .int w]) (M' := M1) (by rw [show k_law.getD 533 .nop = .lor by decide +kernel]; rfl) ?_
  refine XP_a (c := 3) (by decide +kernel) (by decide +kernel) (by decide +kernel) (by decide +kernel) (by decide +kernel) (by omega) hX ?_
  refine XP_call (d := d + 100) (y := n_M_feed) (k := 3) (by decide +kernel) rfl hB2 ?_
  intro v2 M2 hN
  obtain ⟨rfl, hN⟩ := hN
  exact XP_icD (c := .eq) (t := 1597) (x := w) (y := w) (by decide +kernel) (fun _ => kk (.int w) M2 ⟨rfl, hN⟩) (fun z => absurd rfl z)
end
