/-! setters that turn references too: force -/
theorem Rx_w {R : Nat → Nat → Option Nat} {k j : Nat} {v : Option Nat} (h : rS k j = none) : rw2 (Rx R) k j v = Rx (rw2 R k j v) := by
  funext a b
  by_cases e : a = k ∧ b = j
  · obtain ⟨rfl, rfl⟩ := e
    unfold Rx rw2
    rw [h]
    simp
  · unfold Rx
    have e1 : ∀ f : Nat → Nat → Option Nat, rw2 f k j v a b = f a b := fun f => by
      unfold rw2
      by_cases h1 : a = k
      · rw [if_pos h1, if_neg (fun z => e ⟨h1, z⟩)]
      · rw [if_neg h1]
    rw [e1, e1]
def GI (s : Nat → Nat → Int32) (G : hG) : Prop := G.2.1 = 133 ∧ G.2.2.1 = 2 * cR s ∧ G.2.2.2.1 = 4 * (cTx s - 1) ∧ G.2.2.2.2 ≤ 20000 + 21 * cR s + 400 * cTx s
theorem GI.of {s s' : Nat → Nat → Int32} {G : hG} (h : GI s G) (h1 : s' 99 13 = s 99 13) (h2 : s' 99 30 = s 99 30) : GI s' G := by
  unfold GI cR cTx at h ⊢
  rw [h1, h2]
  exact h
/-- what the class's call leaves, with references, lengths and room -/
abbrev QG (s' : Nat → Nat → Int32) (I0 : Nat → Nat → Int32) (v : Value) : Option Value → hM → Prop := fun v' M' => v' = some v ∧ ∃ I' J' R' N' G', M' = (I', J', Rx R', N', G') ∧ StC s' I' ∧ Lk s' R' N' ∧ Cch s' I' J' ∧ FrM I0 I' ∧ GI s' G'
def UpG (b : Nat) (s s' : Nat → Nat → Int32) : Prop := ∃ c, s' 1 15 = nI c ∧ wN (s 1 15) ≤ c ∧ c ≤ wN (s 1 15) + b
/-- a setter of any kind -/
def SetG (b y z : Nat) (as : List Value) (s : Nat → Nat → Int32) : Prop := ∃ w s', Wf s' ∧ UpG b s s' ∧ (∀ (X : hX) (d : Nat) (I : Nat → Nat → Int32) (J : Nat → Nat → Int64) (R : Nat → Nat → Option Nat) (N : Nat → Nat) (G : hG), Inv s R N I J → GI s G → TP X (d + 100) y (.ref 0 :: as) (I, J, Rx R, N, G) (QG s' I (.int w))) ∧
  ∀ (X : hX) (d : Nat) (I : Nat → Nat → Int32) (J : Nat → Nat → Int64) (R : Nat → Nat → Option Nat) (N : Nat → Nat) (G : hG), StM s I → WD J → TP X (d + 100) z (.ref 99 :: as) (I, J, Rx R, N, G) (QS s' R N G J I (.int w))
theorem SetOk.g {b y z : Nat} {as : List Value} {s : Nat → Nat → Int32} (h : SetOk b y z as s) : SetG b y z as s := by
  obtain ⟨w, s', h1, ⟨c, u1, u2, u3, u4, u5⟩, h3, h4⟩ := h
  refine ⟨w, s', h1, ⟨c, u1, u2, u3⟩, fun X d I J R N G hI hG => ?_, fun X d I J R N G hS _ => h4 X (d + 88) I J R N G hS⟩
  exact TP_mono (h3 X (d + 88) I J R N G hI) (fun v M' ⟨q1, I', q2, q3, q4, q5, q6⟩ => ⟨q1, I', J, R, N, G, q2, q3, q4, q5, q6, hG.of u4 u5⟩)
section
variable {X : hX} {d : Nat} {s I : Nat → Nat → Int32} {J : Nat → Nat → Int64} {R : Nat → Nat → Option Nat} {N : Nat → Nat} {G : hG}
theorem XP_putr {Q : Option Value → hM → Prop} {pc n k x : Nat} {C : List Instr} {ls r : List Value} (hC : C.getD pc .nop = .fstore n) (hk : (isO k (n / 64) && Nat.beq (fk (n / 64) (n % 64)) 3) = true) (hx : x < 8000) (hr : rS k (n % 64) = none) (kk : XP X d C (pc + 1) ls r (I, J, Rx (rw2 R k (n % 64) (some x)), N, G) Q) : XP X d C pc ls (.ref x :: .ref k :: r) (I, J, Rx R, N, G) Q := by
  rw [← Rx_w hr] at kk
  refine XP_s (M' := (I, J, rw2 (Rx R) k (n % 64) (some x), N, G)) ?_ kk
  rw [hC]
  show (bif isO k (n / 64) && Nat.beq (fk (n / 64) (n % 64)) 3 && Nat.blt x 8000 then _ else _) = _
  rw [hk, Bool.true_and, blt_t hx, cond_true]
theorem oT_lt {t : Nat} (h : t < 6) : oT t < 8000 := by
  unfold oT
  cases Nat.beq t 0 <;> simp <;> omega
theorem c_putLaw {t c : Nat} (ht : t < 6) (k0 : I 1 15 = nI c) : TP X d n_Coast_putLaw [.ref 1, .ref (oT t), .int (nI t)] (I, J, Rx R, N, G) (fun v M' => v = none ∧ M' = (rw2 (rw2 I 1 14 (nI t)) 1 15 (nI (c + 1)), J, Rx (rw2 R 1 13 (some (oT t))), N, G)) := by
  have hot := oT_lt ht
  unfold TP
  show XP X _ k_Coast_putLaw 0 [.ref (1), .ref (oT t), .int (nI (t))] [] _ _
  refine XP_n 2 (pc' := 2) (ls' := [.ref (1), .ref (oT t), .int (nI (t))]) (st' := [.ref (oT t), .ref (1)]) (M' := (I, J, Rx R, N, G)) rfl ?_
  refine XP_putr rfl (rfl) (show oT t < 8000 by omega) (rfl) ?_
  show XP X _ k_Coast_putLaw 3 [.ref (1), .ref (oT t), .int (nI (t))] [] (I, J, Rx (rw2 R 1 13 (some (oT t))), N, G) _
  refine XP_n 6 (pc' := 9) (ls' := [.ref (1), .ref (oT t), .int (nI (t))]) (st' := [.int (I 1 15), .ref (1)]) (M' := ((rw2 I 1 14 (nI (t))), J, Rx (rw2 R 1 13 (some (oT t))), N, G)) rfl ?_
  rw [k0]
  refine XP_n 2 (pc' := 11) (ls' := [.ref (1), .ref (oT t), .int (nI (t))]) (st' := [.int ((nI (c)) + (nI (1))), .ref (1)]) (M' := ((rw2 I 1 14 (nI (t))), J, Rx (rw2 R 1 13 (some (oT t))), N, G)) rfl ?_
  rw [show (nI (c)) + (nI (1)) = nI (c + 1) from nI_addE (rfl) (rfl)]
  refine XP_n 1 (pc' := 12) (ls' := [.ref (1), .ref (oT t), .int (nI (t))]) (st' := []) (M' := ((rw2 (rw2 I 1 14 (nI (t))) 1 15 (nI (c + 1))), J, Rx (rw2 R 1 13 (some (oT t))), N, G)) rfl ?_
  exact XP_ret rfl ⟨rfl, rfl⟩
theorem c_mkT (hW : Wf s) (hL : Lk s R N) {t c : Nat} (ht : t < cTx s) (k0 : I 1 15 = nI c) : TP X (d + 1) n_H_makeLaw [.ref 0, .int (nI t)] (I, J, Rx R, N, G) (fun v M' => v = some (.int (nI 1)) ∧ M' = (rw2 (rw2 I 1 14 (nI t)) 1 15 (nI (c + 1)), J, Rx (rw2 R 1 13 (some (oT t))), N, G)) := by
  have htx := hW.tx.2.2
  unfold TP
  show XP X _ k_H_makeLaw 0 [.ref (0), .int (nI (t))] [] _ _
  refine XP_n 1 (pc' := 1) (ls' := [.ref (0), .int (nI (t))]) (st' := [.int (nI (t))]) (M' := (I, J, Rx R, N, G)) rfl ?_
  refine XP_ifN (x := t)  rfl (by omega) (fun (b1 : t < 0) => absurd b1 (by omega)) (fun (b1 : 0 ≤ t) => ?_)
  refine XP_n 4 (pc' := 6) (ls' := [.ref (0), .int (nI (t))]) (st' := [.int (nI (6)), .int (nI (t))]) (M' := (I, J, Rx R, N, G)) rfl ?_
  refine XP_icN (x := t) (y := 6) rfl (by omega) (by omega) (fun (b6 : 6 ≤ t) => absurd b6 (by omega)) (fun (b6 : t < 6) => ?_)
  refine XP_n 3 (pc' := 10) (ls' := [.ref (0), .int (nI (t))]) (st' := [.int (nI (t)), .ref (12)]) (M' := (I, J, Rx R, N, G)) rfl ?_
  refine XP_aaldS (a := oT t) rfl rfl (show t < 6 by omega) rfl (by omega) ((hL.2.1 t ht).1) ?_
  refine XP_n 6 (pc' := 19) (ls' := [.ref (0), .int (nI (t))]) (st' := [.int (nI (t)), .ref (12), .ref (1)]) (M' := (I, J, Rx R, N, G)) rfl ?_
  refine XP_aaldS (a := oT t) rfl rfl (show t < 6 by omega) rfl (by omega) ((hL.2.1 t ht).1) ?_
  refine XP_n 1 (pc' := 21) (ls' := [.ref (0), .int (nI (t))]) (st' := [.int (nI (t)), .ref (oT t), .ref (1)]) (M' := (I, J, Rx R, N, G)) rfl ?_
  refine XP_call rfl rfl (c_putLaw (show t < 6 by omega) k0) ?_
  rintro v1 M1 ⟨rfl, rfl⟩
  refine XP_n 1 (pc' := 23) (ls' := [.ref (0), .int (nI (t))]) (st' := [.int (nI (1))]) (M' := ((rw2 (rw2 I 1 14 (nI (t))) 1 15 (nI (c + 1))), J, Rx (rw2 R 1 13 (some (oT t))), N, G)) rfl ?_
  exact XP_ret rfl ⟨rfl, rfl⟩
theorem c_mkF (hW : Wf s) (hL : Lk s R N) {v : Int32} (h : ¬ inN v (cTx s)) : TP X (d + 1) n_H_makeLaw [.ref 0, .int v] (I, J, Rx R, N, G) (Ret (.int (nI 0)) (I, J, Rx R, N, G)) := by
  have htx := hW.tx.2.2
  by_cases e : v < 0
  · skip
    unfold TP
    show XP X _ k_H_makeLaw 0 [.ref (0), .int (v)] [] _ _
    refine XP_n 1 (pc' := 1) (ls' := [.ref (0), .int (v)]) (st' := [.int (v)]) (M' := (I, J, Rx R, N, G)) rfl ?_
    refine XP_ifD rfl (fun (b1 : v < 0) => ?_) (fun (b1 : 0 ≤ v) => absurd b1 (by first | exact e | exact fun z => z e | exact Int32.not_le.mpr e | exact Int32.not_lt.mpr (Int32.not_lt.mp e) | omega))
    have n1 := Int32.not_le.mpr b1
    refine XP_n 1 (pc' := 13) (ls' := [.ref (0), .int (v)]) (st' := [.int (nI (0))]) (M' := (I, J, Rx R, N, G)) rfl ?_
    exact XP_ret rfl ⟨rfl, rfl⟩
  · obtain ⟨t, ht, rfl⟩ := nn_nat e
    have ht2 : cTx s ≤ t := Nat.le_of_not_lt (fun z => h (nI_inN z (by omega)))
    by_cases e2 : t < 6
    · skip
      unfold TP
      show XP X _ k_H_makeLaw 0 [.ref (0), .int (nI (t))] [] _ _
      refine XP_n 1 (pc' := 1) (ls' := [.ref (0), .int (nI (t))]) (st' := [.int (nI (t))]) (M' := (I, J, Rx R, N, G)) rfl ?_
      refine XP_ifN (x := t)  rfl (by omega) (fun (b1 : t < 0) => absurd b1 (by omega)) (fun (b1 : 0 ≤ t) => ?_)
      refine XP_n 4 (pc' := 6) (ls' := [.ref (0), .int (nI (t))]) (st' := [.int (nI (6)), .int (nI (t))]) (M' := (I, J, Rx R, N, G)) rfl ?_
      refine XP_icN (x := t) (y := 6) rfl (by omega) (by omega) (fun (b6 : 6 ≤ t) => absurd b6 (by omega)) (fun (b6 : t < 6) => ?_)
      refine XP_n 3 (pc' := 10) (ls' := [.ref (0), .int (nI (t))]) (st' := [.int (nI (t)), .ref (12)]) (M' := (I, J, Rx R, N, G)) rfl ?_
      refine XP_aaldN rfl rfl (show t < 6 by omega) rfl (by omega) (hL.2.2.1 t ht2 e2) ?_
      refine XP_n 2 (pc' := 13) (ls' := [.ref (0), .int (nI (t))]) (st' := [.int (nI (0))]) (M' := (I, J, Rx R, N, G)) rfl ?_
      exact XP_ret rfl ⟨rfl, rfl⟩
    · skip
      unfold TP
      show XP X _ k_H_makeLaw 0 [.ref (0), .int (nI (t))] [] _ _
      refine XP_n 1 (pc' := 1) (ls' := [.ref (0), .int (nI (t))]) (st' := [.int (nI (t))]) (M' := (I, J, Rx R, N, G)) rfl ?_
      refine XP_ifN (x := t)  rfl (by omega) (fun (b1 : t < 0) => absurd b1 (by omega)) (fun (b1 : 0 ≤ t) => ?_)
      refine XP_n 4 (pc' := 6) (ls' := [.ref (0), .int (nI (t))]) (st' := [.int (nI (6)), .int (nI (t))]) (M' := (I, J, Rx R, N, G)) rfl ?_
      refine XP_icN (x := t) (y := 6) rfl (by omega) (by omega) (fun (b6 : 6 ≤ t) => ?_) (fun (b6 : t < 6) => absurd b6 (by omega))
      refine XP_n 1 (pc' := 13) (ls' := [.ref (0), .int (nI (t))]) (st' := [.int (nI (0))]) (M' := (I, J, Rx R, N, G)) rfl ?_
      exact XP_ret rfl ⟨rfl, rfl⟩
end
theorem rw2_on' {α : Type} {f : Nat → Nat → α} {k j : Nat} {v : α} : rw2 f k j v k j = v := by
  unfold rw2
  rw [if_pos rfl, if_pos rfl]
/-- the class's references after another law is put -/
theorem Lk_law {s s' : Nat → Nat → Int32} {R : Nat → Nat → Option Nat} {N : Nat → Nat} {t : Nat} (hL : Lk s R N) (h1 : ∀ k, k = 95 ∨ k = 96 ∨ 3000 ≤ k → s' k = s k) (h2 : s' 117 = s 117) (h3 : s' 118 = s 118) (h4 : s' 14 = s 14) (h5 : s' 1 3 = s' 99 3) (h7 : s' 99 13 = s 99 13) (h8 : s' 99 30 = s 99 30) (h9 : cLw s' = t) : Lk s' (rw2 R 1 13 (some (oT t))) N := by
  have e2 : cTx s' = cTx s := by unfold cTx; rw [h8]
  have e3 : cR s' = cR s := by unfold cR; rw [h7]
  have e4 : tK1 s' = tK1 s := by funext t; unfold tK1; rw [h3]
  have e5 : tK2 s' = tK2 s := by funext t; unfold tK2; rw [h3]
  have e6 : tLn s' = tLn s := by funext t; unfold tLn; rw [h3]
  have e7 : tQ s' = tQ s := by funext t j; unfold tQ; rw [h2]
  have hR : ∀ k, k ≠ 1 → Rx (rw2 R 1 13 (some (oT t))) k = Rx R k := fun k hk => by
    rw [← Rx_w (show rS 1 13 = none from rfl)]
    exact rw2_ro hk
  have e8 : ∀ t' k1 k2 L q, TxC s R N t' k1 k2 L q → TxC s' (rw2 R 1 13 (some (oT t))) N t' k1 k2 L q := fun t' k1 k2 L q hT => by
    have o := oT_rg t'
    unfold TxC TxL at hT ⊢
    rw [h1 (oT t') (by omega), h1 (oT t' + 1) (by omega), hR (oT t') (by omega)]
    exact hT
  unfold Lk at hL ⊢
  rw [e2, e3, e4, e5, e6, e7, h4, h9]
  obtain ⟨a, b, c, f, g, i, j⟩ := hL
  refine ⟨?_, fun t' ht => ⟨?_, e8 _ _ _ _ _ (b t' ht).2⟩, fun t' h1 h2 => ?_, fun r hr => ⟨?_, ?_⟩, fun r h1 h2 => ?_, i, h5⟩
  · rw [← Rx_w (show rS 1 13 = none from rfl)]
    exact rw2_on'
  · rw [hR 12 (by omega)]; exact (b t' ht).1
  · rw [hR 12 (by omega)]; exact c t' h1 h2
  · rw [hR 13 (by omega)]; exact (f r hr).1
  · rw [hR _ (by omega)]; exact (f r hr).2
  · rw [hR 13 (by omega)]; exact g r h1 h2
theorem s_force {s : Nat → Nat → Int32} (hW : Wf s) (hch : iN 0 1000000 (s 1 15)) (v : Int32) : SetG 20 n_H_force n_M_force [.int v] s := by
  obtain ⟨hc1, hc2⟩ := ch_n hch
  have htx := hW.tx.2.2
  by_cases g0 : inN v (cTx s)
  rotate_left
  · refine ⟨cI (-2), s, hW, ⟨_, hc1, Nat.le_refl _, by omega⟩, fun X d I J R N G hI hG => ?_, fun X d I J R N G hS hD => ?_⟩
    · unfold TP
      show XP X _ k_H_force 0 [.ref (0), .int (v), xj] [] _ _
      refine XP_n 2 (pc' := 2) (ls' := [.ref (0), .int (v), xj]) (st' := [.ref (1)]) (M' := (I, J, Rx R, N, G)) rfl ?_
      refine XP_geti hI.1 rfl rfl rfl ?_
      rw [hW.lw.1]
      refine XP_n 3 (pc' := 6) (ls' := [.ref (0), .int (v), .int (nI (cLw s))]) (st' := [.int (v), .ref (0)]) (M' := (I, J, Rx R, N, G)) rfl ?_
      refine XP_pure rfl rfl (c_mkF hW hI.2.2.1 g0) ?_
      refine XP_ifN (x := 0)  rfl (by omega) (fun (b7 : 0 = 0) => ?_) (fun (b7 : ¬ 0 = 0) => absurd b7 (by omega))
      refine XP_n 1 (pc' := 11) (ls' := [.ref (0), .int (v), .int (nI (cLw s))]) (st' := [.int (cI (-2))]) (M' := (I, J, Rx R, N, G)) rfl ?_
      exact XP_ret rfl ⟨rfl, _, _, _, _, _, rfl, hI.1.C, hI.2.2.1, hI.2.2.2.1, FrM.rf, hG⟩
    · unfold TP
      show XP X _ k_M_force 0 [.ref (99), .int (v), xj] [] _ _
      refine XP_n 3 (pc' := 3) (ls' := [.ref (99), .int (v), xj]) (st' := [.ref (99), .int (nI (0)), .int (v)]) (M' := (I, J, Rx R, N, G)) rfl ?_
      refine XP_getiM hS rfl rfl rfl ?_
      rw [hW.tx.1]
      refine XP_n 2 (pc' := 6) (ls' := [.ref (99), .int (v), xj]) (st' := [.int ((nI (cTx s)) - (nI (1))), .int (nI (0)), .int (v)]) (M' := (I, J, Rx R, N, G)) rfl ?_
      refine XP_pure rfl rfl (t_M_in X _ _ (nI 0) (nI (cTx s) - nI 1) _) ?_
      rw [show b2i (nI 0 ≤ v ∧ v ≤ nI (cTx s) - nI 1) = b2i (inN (v) (cTx s)) from b2i_congr (in_n (by omega))]
      refine XP_s rfl ?_
      refine XP_bne (fun b7 => absurd b7 g0) (fun b7 => ?_)
      refine XP_n 1 (pc' := 9) (ls' := [.ref (99), .int (v), xj]) (st' := [.int (cI (-2))]) (M' := (I, J, Rx R, N, G)) rfl ?_
      exact XP_ret rfl ⟨rfl, _, rfl, hS, FrC.rf⟩
  obtain ⟨t, ht, rfl, -⟩ := inN_nat g0 (by omega)
  have hwf : Wf (rw2 (rw2 s 99 31 (nI t)) 1 15 (nI (wN (s 1 15) + 1))) := ⟨⟨hW.1.1, hW.1.2.1, hW.1.2.2.1, ⟨t, Nat.zero_le _, by omega, rfl⟩, by show wN (nI t) < cTx s; rw [wN_nI (by omega)]; exact ht⟩, hW.2⟩
  refine ⟨nI (cLw s), (rw2 (rw2 s 99 31 (nI t)) 1 15 (nI (wN (s 1 15) + 1))), hwf, ⟨_, rfl, Nat.le_succ _, by omega⟩, fun X d I J R N G hI hG => ?_, fun X d I J R N G hS hD => ?_⟩
  · have k15 : I 1 15 = nI (wN (s 1 15)) := (hI.1 1 15 1 15 rfl).trans hc1
    unfold TP
    show XP X _ k_H_force 0 [.ref (0), .int (nI (t)), xj] [] _ _
    refine XP_n 2 (pc' := 2) (ls' := [.ref (0), .int (nI (t)), xj]) (st' := [.ref (1)]) (M' := (I, J, Rx R, N, G)) rfl ?_
    refine XP_geti hI.1 rfl rfl rfl ?_
    rw [hW.lw.1]
    refine XP_n 3 (pc' := 6) (ls' := [.ref (0), .int (nI (t)), .int (nI (cLw s))]) (st' := [.int (nI (t)), .ref (0)]) (M' := (I, J, Rx R, N, G)) rfl ?_
    refine XP_call rfl rfl (c_mkT hW hI.2.2.1 ht k15) ?_
    rintro v1 M1 ⟨rfl, rfl⟩
    refine XP_ifN (x := 1)  rfl (by omega) (fun (b7 : 1 = 0) => absurd b7 (by omega)) (fun (b7 : ¬ 1 = 0) => ?_)
    refine XP_n 2 (pc' := 11) (ls' := [.ref (0), .int (nI (t)), .int (nI (cLw s))]) (st' := [.int (nI (cLw s))]) (M' := ((rw2 (rw2 I 1 14 (nI (t))) 1 15 (nI (wN (s 1 15) + 1))), J, Rx (rw2 R 1 13 (some (oT t))), N, G)) rfl ?_
    exact XP_ret rfl ⟨rfl, _, _, _, _, _, rfl, StC_w (StC_w hI.1.C rfl) rfl, Lk_law hI.2.2.1 (fun k hk => by rw [rw2_ro (by omega), rw2_ro (by omega)]) rfl rfl rfl hI.2.2.1.2.2.2.2.2.2 rfl rfl (by show wN (nI t) = t; exact wN_nI (by omega)), Cch.new (Cch.w (Cch.w hI.2.2.2.1 hW.p.2 (by omega)) hW.p.2 (by omega)) hW.p.2 rfl (Nat.lt_succ_self _) (by omega), FrM.w (FrM.w FrM.rf rfl) rfl, hG.of rfl rfl⟩
  · unfold TP
    show XP X _ k_M_force 0 [.ref (99), .int (nI (t)), xj] [] _ _
    refine XP_n 3 (pc' := 3) (ls' := [.ref (99), .int (nI (t)), xj]) (st' := [.ref (99), .int (nI (0)), .int (nI (t))]) (M' := (I, J, Rx R, N, G)) rfl ?_
    refine XP_getiM hS rfl rfl rfl ?_
    rw [hW.tx.1]
    refine XP_n 2 (pc' := 6) (ls' := [.ref (99), .int (nI (t)), xj]) (st' := [.int ((nI (cTx s)) - (nI (1))), .int (nI (0)), .int (nI (t))]) (M' := (I, J, Rx R, N, G)) rfl ?_
    refine XP_pure rfl rfl (t_M_in X _ _ (nI 0) (nI (cTx s) - nI 1) _) ?_
    rw [show b2i (nI 0 ≤ nI (t) ∧ nI (t) ≤ nI (cTx s) - nI 1) = b2i (inN (nI (t)) (cTx s)) from b2i_congr (in_n (by omega))]
    refine XP_s rfl ?_
    refine XP_bne (fun b7 => ?_) (fun b7 => absurd g0 b7)
    refine XP_n 1 (pc' := 11) (ls' := [.ref (99), .int (nI (t)), xj]) (st' := [.ref (99)]) (M' := (I, J, Rx R, N, G)) rfl ?_
    refine XP_getiM hS rfl rfl rfl ?_
    rw [hW.lw.1]
    refine XP_n 5 (pc' := 17) (ls' := [.ref (99), .int (nI (t)), .int (nI (cLw s))]) (st' := [.int (nI (cLw s))]) (M' := ((rw2 I 99 31 (nI (t))), J, Rx R, N, G)) rfl ?_
    exact XP_ret rfl ⟨rfl, _, rfl, StM_sC (StM_w hS rfl) rfl, FrC.w FrC.rf rfl⟩
