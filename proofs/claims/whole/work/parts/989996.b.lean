/-! the law: its switch and its loop -/
section
variable {X : hX} {d n b : Nat} {s I : Nat → Nat → Int32} {J : Nat → Nat → Int64} {R : Nat → Nat → Option Nat} {N : Nat → Nat} {G : hG} {Q : Option Value → hM → Prop}
def swL : List Int := [22, 49, 66, 113, 140, 167, 194, 231, 279, 326, 343, 370, 418, 465, 492, 543, 550, 567, 595, 623, 651, 698, 725, 763, 791, 818, 836, 864, 882, 889, 917, 935, 952, 980, 997, 1024, 1061, 1108, 1135, 1152, 1210, 1247, 1284, 1331, 1378, 1385, 1392, 1429, 1466, 1523, 1570]
theorem law_sw {q : Nat} (hq : q < 64) (hX : X.1 ≤ 384) (hn : n + 6 ≤ X.1) (hI : Inv s R N I J) (hG : GI s G) (hb : wN (s 1 15) + 20 ≤ b) (hb2 : b ≤ 1000000) (kk : ∀ M', (∃ v, Nxt b v (some v) M') → XP X (d + 101) k_law 1597 (lsL n) [] M' Q) : XP X (d + 101) k_law 21 (lsL n) [.int (nI q)] (I, J, Rx R, N, G) Q := by
  have hC : k_law.getD 21 .nop = .tableswitch 1597 0 50 swL.toArray := by decide +kernel
  have k2 : ∀ v M', Nxt b v (some v) M' → XP X (d + 101) k_law 1597 (lsL n) [] M' Q := fun v M' h => kk M' ⟨v, h⟩
  match q, hq with
  | 0, _ => exact XP_tab 0 0 50 22 hC (by omega) rfl rfl (by omega) (by omega) rfl (lc_set hX hn hI hG hb hb2 k2)
  | 1, _ => exact XP_tab 1 0 50 49 hC (by omega) rfl rfl (by omega) (by omega) rfl (lc_count hX hn hI hG hb hb2 k2)
  | 2, _ => exact XP_tab 2 0 50 66 hC (by omega) rfl rfl (by omega) (by omega) rfl (lc_path hX hn hI hG hb hb2 k2)
  | 3, _ => exact XP_tab 3 0 50 113 hC (by omega) rfl rfl (by omega) (by omega) rfl (lc_weigh hX hn hI hG hb hb2 k2)
  | 4, _ => exact XP_tab 4 0 50 140 hC (by omega) rfl rfl (by omega) (by omega) rfl (lc_storm hX hn hI hG hb hb2 k2)
  | 5, _ => exact XP_tab 5 0 50 167 hC (by omega) rfl rfl (by omega) (by omega) rfl (lc_level hX hn hI hG hb hb2 k2)
  | 6, _ => exact XP_tab 6 0 50 194 hC (by omega) rfl rfl (by omega) (by omega) rfl (lc_flood hX hn hI hG hb hb2 k2)
  | 7, _ => exact XP_tab 7 0 50 231 hC (by omega) rfl rfl (by omega) (by omega) rfl (lc_harm hX hn hI hG hb hb2 k2)
  | 8, _ => exact XP_tab 8 0 50 279 hC (by omega) rfl rfl (by omega) (by omega) rfl (lc_cost hX hn hI hG hb hb2 k2)
  | 9, _ => exact XP_tab 9 0 50 326 hC (by omega) rfl rfl (by omega) (by omega) rfl (lc_behindThen hX hn hI hG hb hb2 k2)
  | 10, _ => exact XP_tab 10 0 50 343 hC (by omega) rfl rfl (by omega) (by omega) rfl (lc_seen hX hn hI hG hb hb2 k2)
  | 11, _ => exact XP_tab 11 0 50 370 hC (by omega) rfl rfl (by omega) (by omega) rfl (lc_think hX hn hI hG hb hb2 k2)
  | 12, _ => exact XP_tab 12 0 50 418 hC (by omega) rfl rfl (by omega) (by omega) rfl (lc_rule hX hn hI hG hb hb2 k2)
  | 13, _ => exact XP_tab 13 0 50 465 hC (by omega) rfl rfl (by omega) (by omega) rfl (lc_ruleTold hX hn hI hG hb hb2 k2)
  | 14, _ => exact XP_tab 14 0 50 492 hC (by omega) rfl rfl (by omega) (by omega) rfl (lc_feed hX hn hI hG hb hb2 k2)
  | 15, _ => exact XP_tab 15 0 50 543 hC (by omega) rfl rfl (by omega) (by omega) rfl (lc_text hX hn hI hG hb hb2 k2)
  | 16, _ => exact XP_tab 16 0 50 550 hC (by omega) rfl rfl (by omega) (by omega) rfl (lc_force hX hn hI hG hb hb2 k2)
  | 17, _ => exact XP_tab 17 0 50 567 hC (by omega) rfl rfl (by omega) (by omega) rfl (lc_total hX hn hI hG hb hb2 k2)
  | 18, _ => exact XP_tab 18 0 50 595 hC (by omega) rfl rfl (by omega) (by omega) rfl (lc_spent hX hn hI hG hb hb2 k2)
  | 19, _ => exact XP_tab 19 0 50 623 hC (by omega) rfl rfl (by omega) (by omega) rfl (lc_mean hX hn hI hG hb hb2 k2)
  | 20, _ => exact XP_tab 20 0 50 651 hC (by omega) rfl rfl (by omega) (by omega) rfl (lc_row hX hn hI hG hb hb2 k2)
  | 21, _ => exact XP_tab 21 0 50 698 hC (by omega) rfl rfl (by omega) (by omega) rfl (lc_judge hX hn hI hG hb hb2 k2)
  | 22, _ => exact XP_tab 22 0 50 725 hC (by omega) rfl rfl (by omega) (by omega) rfl (lc_drawn hX hn hI hG hb hb2 k2)
  | 23, _ => exact XP_tab 23 0 50 763 hC (by omega) rfl rfl (by omega) (by omega) rfl (lc_best hX hn hI hG hb hb2 k2)
  | 24, _ => exact XP_tab 24 0 50 791 hC (by omega) rfl rfl (by omega) (by omega) rfl (lc_planned hX hn hI hG hb hb2 k2)
  | 25, _ => exact XP_tab 25 0 50 818 hC (by omega) rfl rfl (by omega) (by omega) rfl (lc_know hX hn hI hG hb hb2 k2)
  | 26, _ => exact XP_tab 26 0 50 836 hC (by omega) rfl rfl (by omega) (by omega) rfl (lc_waits hX hn hI hG hb hb2 k2)
  | 27, _ => exact XP_tab 27 0 50 864 hC (by omega) rfl rfl (by omega) (by omega) rfl (lc_broadWorth hX hn hI hG hb hb2 k2)
  | 28, _ => exact XP_tab 28 0 50 882 hC (by omega) rfl rfl (by omega) (by omega) rfl (lc_decided hX hn hI hG hb hb2 k2)
  | 29, _ => exact XP_tab 29 0 50 889 hC (by omega) rfl rfl (by omega) (by omega) rfl (lc_regret hX hn hI hG hb hb2 k2)
  | 30, _ => exact XP_tab 30 0 50 917 hC (by omega) rfl rfl (by omega) (by omega) rfl (lc_worst hX hn hI hG hb hb2 k2)
  | 31, _ => exact XP_tab 31 0 50 935 hC (by omega) rfl rfl (by omega) (by omega) rfl (lc_sure hX hn hI hG hb hb2 k2)
  | 32, _ => exact XP_tab 32 0 50 952 hC (by omega) rfl rfl (by omega) (by omega) rfl (lc_thousand hX hn hI hG hb hb2 k2)
  | 33, _ => exact XP_tab 33 0 50 980 hC (by omega) rfl rfl (by omega) (by omega) rfl (lc_price hX hn hI hG hb hb2 k2)
  | 34, _ => exact XP_tab 34 0 50 997 hC (by omega) rfl rfl (by omega) (by omega) rfl (lc_street hX hn hI hG hb hb2 k2)
  | 35, _ => exact XP_tab 35 0 50 1024 hC (by omega) rfl rfl (by omega) (by omega) rfl (lc_when hX hn hI hG hb hb2 k2)
  | 36, _ => exact XP_tab 36 0 50 1061 hC (by omega) rfl rfl (by omega) (by omega) rfl (lc_away hX hn hI hG hb hb2 k2)
  | 37, _ => exact XP_tab 37 0 50 1108 hC (by omega) rfl rfl (by omega) (by omega) rfl (lc_town hX hn hI hG hb hb2 k2)
  | 38, _ => exact XP_tab 38 0 50 1135 hC (by omega) rfl rfl (by omega) (by omega) rfl (lc_push hX hn hI hG hb hb2 k2)
  | 39, _ => exact XP_tab 39 0 50 1152 hC (by omega) rfl rfl (by omega) (by omega) rfl (lc_pays hX hn hI hG hb hb2 k2)
  | 40, _ => exact XP_tab 40 0 50 1210 hC (by omega) rfl rfl (by omega) (by omega) rfl (lc_rests hX hn hI hG hb hb2 k2)
  | 41, _ => exact XP_tab 41 0 50 1247 hC (by omega) rfl rfl (by omega) (by omega) rfl (lc_together hX hn hI hG hb hb2 k2)
  | 42, _ => exact XP_tab 42 0 50 1284 hC (by omega) rfl rfl (by omega) (by omega) rfl (lc_joint hX hn hI hG hb hb2 k2)
  | 43, _ => exact XP_tab 43 0 50 1331 hC (by omega) rfl rfl (by omega) (by omega) rfl (lc_join hX hn hI hG hb hb2 k2)
  | 44, _ => exact XP_tab 44 0 50 1378 hC (by omega) rfl rfl (by omega) (by omega) rfl (lc_image hX hn hI hG hb hb2 k2)
  | 45, _ => exact XP_tab 45 0 50 1385 hC (by omega) rfl rfl (by omega) (by omega) rfl (lc_back hX hn hI hG hb hb2 k2)
  | 46, _ => exact XP_tab 46 0 50 1392 hC (by omega) rfl rfl (by omega) (by omega) rfl (lc_sheet hX hn hI hG hb hb2 k2)
  | 47, _ => exact XP_tab 47 0 50 1429 hC (by omega) rfl rfl (by omega) (by omega) rfl (lc_cell hX hn hI hG hb hb2 k2)
  | 48, _ => exact XP_tab 48 0 50 1466 hC (by omega) rfl rfl (by omega) (by omega) rfl (lc_copy hX hn hI hG hb hb2 k2)
  | 49, _ => exact XP_tab 49 0 50 1523 hC (by omega) rfl rfl (by omega) (by omega) rfl (lc_stormsBy hX hn hI hG hb hb2 k2)
  | 50, _ => exact XP_tab 50 0 50 1570 hC (by omega) rfl rfl (by omega) (by omega) rfl (lc_taken hX hn hI hG hb hb2 k2)
  | q + 51, hq => exact XP_tabD (q + 51) 0 50 1597 hC (by omega) rfl rfl (Or.inr (by omega)) rfl (kk _ ⟨.int 0, rfl, s, I, J, R, N, G, rfl, hI, hG, by omega⟩)
end
theorem neg6 : ∀ k, k < 6 → ¬ (0 ≤ nI k - nI 6) := by decide +kernel
theorem XP_x {X : hX} {d pc n : Nat} {C : List Instr} {st : List Value} {ls : List Value} {M : hM} {Q : Option Value → hM → Prop} (h4 : C.getD pc .nop = .instanceof 5) (hn : n < X.1) (hX : X.1 ≤ 384) (kk : XP X d C (pc + 1) ls (.int (X.2 n) :: st) M Q) : XP X d C pc ls (.int (nI n) :: .ref 9900 :: st) M Q := by
  refine XP_s (pc' := pc + 1) (ls' := ls) (st' := .int (X.2 n) :: st) (M' := M) ?_ kk
  rw [h4]
  show (bif Nat.beq 9900 9900 && inB (nI n) X.1 then some (pc + 1, ls, Value.int (X.2 (nI n).toNatClampNeg) :: st, M) else none) = _
  rw [inB_nI hn (by omega), nI_clamp (by omega)]
  rfl
/-- what the law ends with -/
def QL : Option Value → hM → Prop := fun v M' => v = some (.int 1) ∧ nc M'.2.2.2.2 ≤ 600000 ∧ ns M'.2.2.2.2 ≤ 7302250
theorem law_end {X : hX} {d n : Nat} {s I : Nat → Nat → Int32} {J : Nat → Nat → Int64} {R : Nat → Nat → Option Nat} {N : Nat → Nat} {G : hG} (hI : Inv s R N I J) (hG : GI s G) : XP X d k_law 1599 (lsL n) [] (I, J, Rx R, N, G) QL := by
  refine XP_s (pc' := 1600) (ls' := lsL n) (st' := [.int 1]) (M' := (I, J, Rx R, N, G)) (by rw [show k_law.getD 1599 .nop = .iconst 1 by decide +kernel]; rfl) ?_
  refine XP_ret (v := some (.int 1)) (by rw [show k_law.getD 1600 .nop = .ret 0 by decide +kernel]; rfl) ⟨rfl, ?_, ?_⟩
  · obtain ⟨g1, g2, g3, g4⟩ := hG
    have h1 := hI.2.1.r.2
    have h2 := hI.2.1.tx.2.2
    show G.2.1 + G.2.2.1 + G.2.2.2.1 ≤ 600000
    omega
  · obtain ⟨g1, g2, g3, g4⟩ := hG
    have h1 := hI.2.1.r.2
    have h2 := hI.2.1.tx.2.2
    show G.2.2.2.2 ≤ 7302250
    omega
theorem law_loop {X : hX} {d : Nat} (hX : X.1 ≤ 384) : ∀ (f n : Nat) (s I : Nat → Nat → Int32) (J : Nat → Nat → Int64) (R : Nat → Nat → Option Nat) (N : Nat → Nat) (G : hG), X.1 < n + 6 * f + 6 → n ≤ 400 → Inv s R N I J → GI s G → wN (s 1 15) ≤ 4 * n → XP X (d + 101) k_law 10 (lsL n) [] (I, J, Rx R, N, G) QL := by
  intro f
  induction f with
  | zero =>
    intro n s I J R N G hf hn hI hG hc
    refine XP_n 5 (pc' := 15) (ls' := lsL n) (st' := [.int (nI X.1 - cI 6), .int (nI n)]) (M' := (I, J, Rx R, N, G)) rfl ?_
    rw [show cI 6 = nI 6 from rfl]
    by_cases g : X.1 < 6
    · refine XP_icD (c := .gt) (t := 1599) rfl (fun _ => law_end hI hG) (fun z => ?_)
      have z : nI n ≤ nI X.1 - nI 6 := z
      exact absurd (Int32.le_trans (nI_pos' (by omega)) z) (neg6 _ g)
    · rw [nI_sub (by omega)]
      refine XP_icN (c := .gt) (t := 1599) (x := n) (y := X.1 - 6) rfl (by omega) (by omega) (fun _ => law_end hI hG) (fun z => ?_)
      have z : n ≤ X.1 - 6 := z
      omega
  | succ f ih =>
    intro n s I J R N G hf hn hI hG hc
    by_cases g : n + 6 ≤ X.1
    rotate_left
    · refine XP_n 5 (pc' := 15) (ls' := lsL n) (st' := [.int (nI X.1 - cI 6), .int (nI n)]) (M' := (I, J, Rx R, N, G)) rfl ?_
      rw [show cI 6 = nI 6 from rfl]
      by_cases g : X.1 < 6
      · refine XP_icD (c := .gt) (t := 1599) rfl (fun _ => law_end hI hG) (fun z => ?_)
        have z : nI n ≤ nI X.1 - nI 6 := z
        exact absurd (Int32.le_trans (nI_pos' (by omega)) z) (neg6 _ g)
      · rw [nI_sub (by omega)]
        refine XP_icN (c := .gt) (t := 1599) (x := n) (y := X.1 - 6) rfl (by omega) (by omega) (fun _ => law_end hI hG) (fun z => ?_)
        have z : n ≤ X.1 - 6 := z
        omega
    refine XP_n 5 (pc' := 15) (ls' := lsL n) (st' := [.int (nI X.1 - cI 6), .int (nI n)]) (M' := (I, J, Rx R, N, G)) rfl ?_
    rw [show cI 6 = nI 6 from rfl, nI_sub (by omega)]
    refine XP_icN (c := .gt) (t := 1599) (x := n) (y := X.1 - 6) rfl (by omega) (by omega) (fun z => ?_) (fun _ => ?_)
    · have z : X.1 - 6 < n := z
      omega
    refine XP_n 2 (pc' := 18) (ls' := lsL n) (st' := [.int (nI n), .ref 9900]) (M' := (I, J, Rx R, N, G)) rfl ?_
    refine XP_x rfl (by omega) hX ?_
    obtain ⟨q, hq, e⟩ := and63 (X.2 n)
    refine XP_n 2 (pc' := 21) (ls' := lsL n) (st' := [.int (X.2 n &&& nI 63)]) (M' := (I, J, Rx R, N, G)) rfl ?_
    rw [e]
    refine law_sw (b := 4 * (n + 6)) hq hX g hI hG (by omega) (by omega) (fun M' h => ?_)
    obtain ⟨v, -, s', I', J', R', N', G', rfl, hI', hG', hc'⟩ := h
    refine XP_s (pc' := 1598) (ls' := [.ref 9900, .ref 0, .ref 99, .int (nI n + cI 6)]) (st' := []) (M' := (I', J', Rx R', N', G')) (by rw [show k_law.getD 1597 .nop = .iinc 3 6 by decide +kernel]; rfl) ?_
    rw [show nI n + cI 6 = nI (n + 6) from nI_addE rfl rfl]
    refine XP_s (pc' := 10) (ls' := lsL (n + 6)) (st' := []) (M' := (I', J', Rx R', N', G')) (by rw [show k_law.getD 1598 .nop = .goto 10 by decide +kernel]; rfl) ?_
    exact ih (n + 6) s' I' J' R' N' G' (by omega) (by omega) hI' hG' hc'
