/-! the law: one round of its loop -/
/-- the pieces of the law's code: arguments out of the script -/
def aC : List Nat → List Instr
  | [] => []
  | c :: l => .aload 0 :: .iload 3 :: .iconst (Int.ofNat c) :: .iadd :: .instanceof 5 :: aC l
theorem aC_len : ∀ l : List Nat, (aC l).length = 5 * l.length
  | [] => rfl
  | c :: l => by
    show (aC l).length + 1 + 1 + 1 + 1 + 1 = 5 * (l.length + 1)
    rw [aC_len l]
    omega
def lsL (n : Nat) : List Value := [.ref 9900, .ref 0, .ref 99, .int (nI n)]
def aV (X : hX) (n : Nat) (l : List Nat) : List Value := l.map (fun c => .int (X.2 (n + c)))
theorem aV_len {X : hX} {n : Nat} {l : List Nat} : (aV X n l).length = l.length := List.length_map _
theorem aV_ini {X : hX} {n : Nat} : ∀ l : List Nat, iniA (aV X n l) = aV X n l
  | [] => rfl
  | c :: l => by
    show .int (X.2 (n + c)) :: iniA (aV X n l) = _
    rw [aV_ini l]
    rfl
theorem XP_a {X : hX} {d pc n c : Nat} {C : List Instr} {st : List Value} {M : hM} {Q : Option Value → hM → Prop} (h0 : C.getD pc .nop = .aload 0) (h1 : C.getD (pc + 1) .nop = .iload 3) (h2 : C.getD (pc + 2) .nop = .iconst (Int.ofNat c)) (h3 : C.getD (pc + 3) .nop = .iadd) (h4 : C.getD (pc + 4) .nop = .instanceof 5) (hn : n + c < X.1) (hX : X.1 ≤ 384) (kk : XP X d C (pc + 5) (lsL n) (.int (X.2 (n + c)) :: st) M Q) : XP X d C pc (lsL n) st M Q := by
  refine XP_s (pc' := pc + 1) (ls' := lsL n) (st' := .ref 9900 :: st) (M' := M) (by rw [h0]; rfl) ?_
  refine XP_s (pc' := pc + 2) (ls' := lsL n) (st' := .int (nI n) :: .ref 9900 :: st) (M' := M) (by rw [h1]; rfl) ?_
  refine XP_s (pc' := pc + 3) (ls' := lsL n) (st' := .int (nI c) :: .int (nI n) :: .ref 9900 :: st) (M' := M) (by rw [h2]; rfl) ?_
  refine XP_s (pc' := pc + 4) (ls' := lsL n) (st' := .int (nI n + nI c) :: .ref 9900 :: st) (M' := M) (by rw [h3]; rfl) ?_
  rw [nI_add]
  refine XP_s (pc' := pc + 5) (ls' := lsL n) (st' := .int (X.2 (n + c)) :: st) (M' := M) ?_ kk
  rw [h4]
  show (bif Nat.beq 9900 9900 && inB (nI (n + c)) X.1 then some (pc + 4 + 1, lsL n, Value.int (X.2 (nI (n + c)).toNatClampNeg) :: st, M) else none) = _
  rw [inB_nI hn (by omega), nI_clamp (by omega)]
  rfl
theorem XP_aC {X : hX} {d n : Nat} {C : List Instr} {M : hM} {Q : Option Value → hM → Prop} (hX : X.1 ≤ 384) : ∀ (l : List Nat) (pc : Nat) (st : List Value), (∀ i, i < 5 * l.length → C.getD (pc + i) .nop = (aC l).getD i .nop) → (∀ c ∈ l, n + c < X.1) → XP X d C (pc + 5 * l.length) (lsL n) ((aV X n l).reverse ++ st) M Q → XP X d C pc (lsL n) st M Q
  | [], pc, st, _, _, kk => kk
  | c :: l, pc, st, hC, hl, kk => by
    have hlen : (c :: l).length = l.length + 1 := rfl
    refine XP_a (c := c) (hC 0 (by omega)) (hC 1 (by omega)) (hC 2 (by omega)) (hC 3 (by omega)) (hC 4 (by omega)) (hl c List.mem_cons_self) hX ?_
    refine XP_aC hX l (pc + 5) (.int (X.2 (n + c)) :: st) (fun i hi => ?_) (fun c' h => hl c' (List.mem_cons_of_mem _ h)) ?_
    · have h := hC (i + 5) (by omega)
      rw [show pc + (i + 5) = pc + 5 + i by omega] at h
      rw [h]
      rfl
    · rw [show pc + 5 + 5 * l.length = pc + 5 * (c :: l).length by omega]
      have e : (aV X n (c :: l)).reverse ++ st = (aV X n l).reverse ++ .int (X.2 (n + c)) :: st := by
        show (Value.int (X.2 (n + c)) :: aV X n l).reverse ++ st = _
        rw [List.reverse_cons, List.append_assoc]
        rfl
      rw [← e]
      exact kk
theorem rcv_1 (y : Nat) (a : Value) (as : List Value) : rcv y (a :: as) = rcv y [a] := by
  unfold rcv
  generalize mkinds.getD y 9 = z
  match z with
  | 0 => cases a <;> rfl
  | 1 => rfl
  | 2 => cases a <;> rfl
  | z + 3 => rfl
/-- a call of the law with arguments out of the script -/
theorem XP_cl {X : hX} {d n pc y r : Nat} {C : List Instr} {ls rest : List Value} {M : hM} {Q Q1 : Option Value → hM → Prop} {l : List Nat} (h : C.getD pc .nop = .invokeinterface y (l.length + 1)) (hm : Nat.ble (l.length + 1) (mmax y) = true) (hr : rcv y [.ref r] = true) (hcat : Nat.ble (catS rest) 8 = true) (hT : TP X d y (.ref r :: aV X n l) M Q1) (kk : ∀ v M1, Q1 v M1 → XP X (d + 1) C (pc + 1) ls (v.toList ++ rest) M1 Q) : XP X (d + 1) C pc ls ((aV X n l).reverse ++ .ref r :: rest) M Q := by
  have e1 : (aV X n l).reverse ++ .ref r :: rest = ((aV X n l).reverse ++ [.ref r]) ++ rest := by rw [List.append_assoc]; rfl
  have hlen : ((aV X n l).reverse ++ [Value.ref r]).length = l.length + 1 := by rw [List.length_append, List.length_reverse, aV_len]; rfl
  have et : ((aV X n l).reverse ++ .ref r :: rest).take (l.length + 1) = (aV X n l).reverse ++ [.ref r] := by rw [e1, List.take_left' hlen]
  have ed : ((aV X n l).reverse ++ .ref r :: rest).drop (l.length + 1) = rest := by rw [e1, List.drop_left' hlen]
  have er : (((aV X n l).reverse ++ .ref r :: rest).take (l.length + 1)).reverse = .ref r :: aV X n l := by
    rw [et, List.reverse_append, List.reverse_reverse]
    rfl
  refine XP_call (Q1 := Q1) h ?_ (by rw [er]; exact hT) (fun v M1 hq => by rw [ed]; exact kk v M1 hq)
  rw [er, ed, hcat, rcv_1, hr, Bool.and_true, Bool.and_true]
  have h1 : iniA (Value.ref r :: aV X n l) = .ref r :: aV X n l := by
    show Value.ref r :: iniA (aV X n l) = _
    rw [aV_ini]
  rw [h1, List.length_cons, aV_len, hm, Bool.and_true]
  refine Nat.ble_eq.mpr ?_
  rw [e1, List.length_append, hlen]
  omega
/-- what stands after both calls -/
def Nxt (b : Nat) (v : Value) : Option Value → hM → Prop := fun v' M' => v' = some v ∧ ∃ s' I' J' R' N' G', M' = (I', J', Rx R', N', G') ∧ Inv s' R' N' I' J' ∧ GI s' G' ∧ wN (s' 1 15) ≤ b
def Both (X : hX) (d y1 y2 : Nat) (as : List Value) (M : hM) (b : Nat) (v : Value) : Prop := TP X (d + 100) y1 (.ref 0 :: as) M (fun v1 M1 => v1 = some v ∧ TP X (d + 100) y2 (.ref 99 :: as) M1 (Nxt b v))
def sgI (l : List Nat) (y1 y2 : Nat) (tl : List Instr) : List Instr := .aload 1 :: (aC l ++ .invokeinterface y1 (l.length + 1) :: .aload 2 :: (aC l ++ .invokeinterface y2 (l.length + 1) :: tl))
def sgOk (C : List Instr) (pc : Nat) (sg : List Instr) : Bool := (List.range sg.length).all (fun i => decide (C.getD (pc + i) .nop = sg.getD i .nop))
theorem sgOk_at {C : List Instr} {pc : Nat} {sg : List Instr} (h : sgOk C pc sg = true) {i : Nat} (hi : i < sg.length) : C.getD (pc + i) .nop = sg.getD i .nop := of_decide_eq_true (List.all_eq_true.mp h i (List.mem_range.mpr hi))
theorem gd_r {α : Type} {a : α} : ∀ {l r : List α} {i : Nat}, (l ++ r).getD (l.length + i) a = r.getD i a := by
  intro l r i
  rw [List.getD_eq_getElem?_getD, List.getD_eq_getElem?_getD, List.getElem?_append_right (by omega), show l.length + i - l.length = i by omega]
theorem gd_l {α : Type} {a : α} {l r : List α} {i : Nat} (h : i < l.length) : (l ++ r).getD i a = l.getD i a := by
  rw [List.getD_eq_getElem?_getD, List.getD_eq_getElem?_getD, List.getElem?_append_left h]
/-- the two calls of a piece of the law -/
theorem law_two {X : hX} {d n pc y1 y2 b : Nat} {C : List Instr} {M : hM} {Q : Option Value → hM → Prop} {l : List Nat} {v : Value} {tl : List Instr} (hX : X.1 ≤ 384) (hn : n + 6 ≤ X.1) (hs : sgOk C pc (sgI l y1 y2 tl) = true) (h2 : (Nat.ble (l.length + 1) (mmax y1) && Nat.ble (l.length + 1) (mmax y2) && rcv y1 [.ref 0] && rcv y2 [.ref 99] && l.all (fun c => Nat.blt c 6)) = true) (hv : Nat.ble (catS [v]) 8 = true) (hB : Both X d y1 y2 (aV X n l) M b v)
    (kk : ∀ M', Nxt b v (some v) M' → (∀ i, i < tl.length → C.getD (pc + (10 * l.length + 4) + i) .nop = tl.getD i .nop) → XP X (d + 101) C (pc + (10 * l.length + 4)) (lsL n) [v, v] M' Q) : XP X (d + 101) C pc (lsL n) [] M Q := by
  simp only [Bool.and_eq_true, List.all_eq_true] at h2
  obtain ⟨⟨⟨⟨m1, m2⟩, r1⟩, r2⟩, hl⟩ := h2
  have hl : ∀ c ∈ l, n + c < X.1 := fun c hc => by
    have := Nat.le_of_ble_eq_true (hl c hc)
    omega
  have la := aC_len l
  have hlen : (sgI l y1 y2 tl).length = 10 * l.length + 4 + tl.length := by
    unfold sgI
    rw [List.length_cons, List.length_append, List.length_cons, List.length_cons, List.length_append, List.length_cons, la]
    omega
  have g1 : ∀ i, i < 5 * l.length → C.getD (pc + 1 + i) .nop = (aC l).getD i .nop := fun i hi => by
    have h := sgOk_at hs (i := i + 1) (by omega)
    rw [show pc + (i + 1) = pc + 1 + i by omega] at h
    rw [h]
    show (aC l ++ _).getD i .nop = _
    exact gd_l (by omega)
  have g2 : ∀ i, C.getD (pc + 1 + 5 * l.length + i) .nop = C.getD (pc + (5 * l.length + i + 1)) .nop := fun i => by
    rw [show pc + 1 + 5 * l.length + i = pc + (5 * l.length + i + 1) by omega]
  have g3 : ∀ i, i < 3 + 5 * l.length + tl.length → C.getD (pc + (5 * l.length + i + 1)) .nop = (.invokeinterface y1 (l.length + 1) :: .aload 2 :: (aC l ++ .invokeinterface y2 (l.length + 1) :: tl) : List Instr).getD i .nop := fun i hi => by
    have h := sgOk_at hs (i := 5 * l.length + i + 1) (by omega)
    rw [h]
    show (aC l ++ _).getD (5 * l.length + i) .nop = _
    rw [← la]
    exact gd_r
  refine XP_s (pc' := pc + 1) (ls' := lsL n) (st' := [.ref 0]) (M' := M) (by rw [show C.getD pc .nop = .aload 1 from sgOk_at hs (i := 0) (by omega)]; rfl) ?_
  refine XP_aC hX l (pc + 1) [.ref 0] g1 hl ?_
  refine XP_cl (d := d + 100) (by rw [show pc + 1 + 5 * l.length = pc + (5 * l.length + 0 + 1) by omega]; exact g3 0 (by omega)) m1 r1 rfl hB ?_
  rintro v1 M1 ⟨rfl, hB2⟩
  have hi2 : C.getD (pc + 1 + 5 * l.length + 1) .nop = .aload 2 := by
    rw [show pc + 1 + 5 * l.length + 1 = pc + (5 * l.length + 1 + 1) by omega]
    exact g3 1 (by omega)
  refine XP_s (pc' := pc + 1 + 5 * l.length + 1 + 1) (ls' := lsL n) (st' := [.ref 99, v]) (M' := M1) (by rw [hi2]; rfl) ?_
  refine XP_aC hX l (pc + 1 + 5 * l.length + 2) [.ref 99, v] (fun i hi => ?_) hl ?_
  · rw [show pc + 1 + 5 * l.length + 2 + i = pc + (5 * l.length + (i + 2) + 1) by omega, g3 (i + 2) (by omega)]
    show (aC l ++ _).getD i .nop = _
    exact gd_l (by omega)
  refine XP_cl (d := d + 100) (rest := [v]) ?_ m2 r2 hv hB2 ?_
  · rw [show pc + 1 + 5 * l.length + 2 + 5 * l.length = pc + (5 * l.length + (5 * l.length + 0 + 2) + 1) by omega, g3 (5 * l.length + 0 + 2) (by omega)]
    show (aC l ++ _).getD (5 * l.length + 0) .nop = _
    rw [← la]
    exact gd_r
  · rintro v2 M2 hN
    obtain ⟨rfl, hN⟩ := hN
    rw [show pc + 1 + 5 * l.length + 2 + 5 * l.length + 1 = pc + (10 * l.length + 4) by omega]
    refine kk M2 ⟨rfl, hN⟩ (fun i hi => ?_)
    rw [show pc + (10 * l.length + 4) + i = pc + (5 * l.length + (5 * l.length + (i + 1) + 2) + 1) by omega, g3 (5 * l.length + (i + 1) + 2) (by omega)]
    show (aC l ++ _).getD (5 * l.length + (i + 1)) .nop = _
    rw [← la]
    exact gd_r
theorem law_i {X : hX} {d n pc y1 y2 b : Nat} {C : List Instr} {M : hM} {Q : Option Value → hM → Prop} {l : List Nat} {w : Int32} (hX : X.1 ≤ 384) (hn : n + 6 ≤ X.1) (hs : sgOk C pc (sgI l y1 y2 [.if_icmp .eq 1597]) = true) (h2 : (Nat.ble (l.length + 1) (mmax y1) && Nat.ble (l.length + 1) (mmax y2) && rcv y1 [.ref 0] && rcv y2 [.ref 99] && l.all (fun c => Nat.blt c 6)) = true) (hB : Both X d y1 y2 (aV X n l) M b (.int w))
    (kk : ∀ v M', Nxt b v (some v) M' → XP X (d + 101) C 1597 (lsL n) [] M' Q) : XP X (d + 101) C pc (lsL n) [] M Q := by
  refine law_two hX hn hs h2 rfl hB (fun M' hN hC => ?_)
  have h0 := hC 0 (by decide)
  refine XP_icD (c := .eq) (t := 1597) h0 (fun _ => kk _ M' hN) (fun z => absurd rfl z)
theorem law_l {X : hX} {d n pc y1 y2 b : Nat} {C : List Instr} {M : hM} {Q : Option Value → hM → Prop} {l : List Nat} {w : Int64} (hX : X.1 ≤ 384) (hn : n + 6 ≤ X.1) (hs : sgOk C pc (sgI l y1 y2 [.lcmp, .ifCond .eq 1597]) = true) (h2 : (Nat.ble (l.length + 1) (mmax y1) && Nat.ble (l.length + 1) (mmax y2) && rcv y1 [.ref 0] && rcv y2 [.ref 99] && l.all (fun c => Nat.blt c 6)) = true) (hB : Both X d y1 y2 (aV X n l) M b (.long w))
    (kk : ∀ v M', Nxt b v (some v) M' → XP X (d + 101) C 1597 (lsL n) [] M' Q) : XP X (d + 101) C pc (lsL n) [] M Q := by
  refine law_two hX hn hs h2 rfl hB (fun M' hN hC => ?_)
  have h0 := hC 0 (by decide)
  have h1 := hC 1 (by decide)
  refine XP_lcD (c := .eq) (t := 1597) h0 h1 (fun _ => kk _ M' hN) (fun z => absurd rfl z)
section
variable {X : hX} {d : Nat} {s I : Nat → Nat → Int32} {J : Nat → Nat → Int64} {R : Nat → Nat → Option Nat} {N : Nat → Nat} {G : hG}
/-- a question leaves all as it was -/
theorem Both.q {y1 y2 b : Nat} {as : List Value} {v : Value} (hG : GI s G) (hb : wN (s 1 15) ≤ b) (h1 : TP X (d + 88 + 12) y1 (.ref 0 :: as) (I, J, Rx R, N, G) (QP s R N G v)) (h2 : ∀ I J, Inv s R N I J → TP X (d + 88 + 12) y2 (.ref 99 :: as) (I, J, Rx R, N, G) (QP s R N G v)) : Both X d y1 y2 as (I, J, Rx R, N, G) b v :=
  TP_mono h1 (fun v' M' ⟨a, I', J', c, e⟩ => ⟨a, by rw [c]; exact TP_mono (h2 I' J' e) (fun v2 M2 ⟨a2, I2, J2, c2, e2⟩ => ⟨a2, s, I2, J2, R, N, G, c2, e2, hG, hb⟩)⟩)
theorem Both.x {y1 y2 b : Nat} {as : List Value} (hI : Inv s R N I J) (hb : wN (s 1 15) + 20 ≤ b) (hb2 : b ≤ 1000000) (h : SetX 20 y1 y2 as s X d I J R N G) : ∃ w, Both X d y1 y2 as (I, J, Rx R, N, G) b (.int w) := by
  obtain ⟨w, s', hW, ⟨c, u1, u2, u3⟩, h1, h2⟩ := h
  have hc : wN (s' 1 15) = c := by rw [u1]; exact wN_nI (by omega)
  refine ⟨w, TP_mono h1 (fun v' M' ⟨a, I', J', R', N', G', e, q1, q2, q3, q4, q5⟩ => ⟨a, ?_⟩)⟩
  rw [e]
  have hM : StM s I' := fun k j a b hk => by
    have hc : isC k = false := by
      unfold mpM at hk
      cases hc : isC k with
      | true => rw [hc] at hk; cases hk
      | false => rfl
    rw [q4 k hc]
    exact hI.1.M k j a b hk
  refine TP_mono (h2 I' J' R' N' G' hM q3.2.2.2.2) (fun v2 M2 ⟨a2, I2, e2, p1, p2⟩ => ⟨a2, s', I2, J', R', N', G', e2, ?_, q5, by rw [hc]; omega⟩)
  have hC2 : StC s' I2 := fun k j a b hk => by
    have hc : isC k = true := by
      unfold mpC at hk
      cases hc : isC k with
      | true => rfl
      | false => rw [hc] at hk; cases hk
    rw [p2 k hc]
    exact q1 k j a b hk
  have hisC : ∀ k, k ≤ 77 → isC k = true := fun k hk => by
    unfold isC
    rw [blt_t (show k < 99 by omega)]
    rfl
  exact ⟨St_of hC2 p1, hW, q2, q3.of (fun k _ hk => p2 k (hisC k hk)) (fun _ _ _ => rfl) hW.p.2, ⟨c, Nat.zero_le _, by omega, u1⟩⟩
theorem Both.g {y1 y2 b : Nat} {as : List Value} (hI : Inv s R N I J) (hG : GI s G) (hb : wN (s 1 15) + 20 ≤ b) (hb2 : b ≤ 1000000) (h : SetG 20 y1 y2 as s) : ∃ w, Both X d y1 y2 as (I, J, Rx R, N, G) b (.int w) := Both.x hI hb hb2 (h.x hI hG)
end
theorem and63 (x : Int32) : ∃ q, q < 64 ∧ x &&& nI 63 = nI q := by
  refine ⟨x.toBitVec.toNat % 64, Nat.mod_lt _ (by omega), ?_⟩
  apply Int32.toBitVec_inj.mp
  rw [Int32.toBitVec_and]
  apply BitVec.eq_of_toNat_eq
  rw [BitVec.toNat_and]
  have h1 : (nI 63).toBitVec.toNat = 63 := by decide
  have h2 : ∀ k, k < 64 → (nI k).toBitVec.toNat = k := by decide +kernel
  rw [h1, h2 _ (Nat.mod_lt _ (by omega)), show 63 = 2 ^ 6 - 1 from rfl, Nat.and_two_pow_sub_one_eq_mod]
