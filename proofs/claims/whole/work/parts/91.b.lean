/-! setter: push, whole -/
theorem rw2_ro {f : Nat → Nat → Int32} {k j a : Nat} {v : Int32} (h : a ≠ k) : rw2 f k j v a = f a := by
  funext b
  exact rw2_off (fun z => h z.1)
theorem Mid_id {s I : Nat → Nat → Int32} {J : Nat → Nat → Int64} {R : Nat → Nat → Option Nat} {N : Nat → Nat} (h : Inv s R N I J) : Mid s s R N I J := ⟨h.1.C, h.1.M, h.2⟩
theorem Mid_inv {s I : Nat → Nat → Int32} {J : Nat → Nat → Int64} {R : Nat → Nat → Option Nat} {N : Nat → Nat} (h : Mid s s R N I J) : Inv s R N I J := ⟨St_of h.1 h.2.1, h.2.2⟩
section
variable {X : hX} {d : Nat} {s I : Nat → Nat → Int32} {J : Nat → Nat → Int64} {R : Nat → Nat → Option Nat} {N : Nat → Nat} {G : hG}
theorem AgrL_pu (v : Int32) : AgrL s (rw2 s 99 25 v) := ⟨fun k hk => rw2_ro (by omega), rfl, rfl, rfl, rfl, rfl, rfl, rfl, rfl⟩
theorem g_push (hI : Inv s R N I J) (v : Int32) : ∃ w s', TP X (d + 12) n_H_push [.ref 0, .int v] (I, J, Rx R, N, G) (QM s s' R N G (.int w)) ∧ ∀ I J, Mid s s' R N I J → TP X (d + 12) n_M_push [.ref 99, .int v] (I, J, Rx R, N, G) (QP s' R N G (.int w)) := by
  have hI0 := hI
  obtain ⟨hS, hW, hL, hC, hch⟩ := hI0
  by_cases g0 : iv 0 9 v
  rotate_left
  · refine ⟨cI (-2), s, ?_, fun I J hm => ?_⟩
    · unfold TP
      show XP X _ k_H_push 0 [.ref (0), .int (v), xj] [] _ _
      refine XP_n 3 (pc' := 3) (ls' := [.ref (0), .int (v), xj]) (st' := [.int (nI (9)), .int (nI (0)), .int (v)]) (M' := (I, J, Rx R, N, G)) rfl ?_
      refine XP_pure rfl rfl (w_H X _ _ 0 9 _) ?_
      refine XP_s rfl ?_
      refine XP_bne (fun b4 => absurd b4 g0) (fun b4 => ?_)
      refine XP_n 1 (pc' := 6) (ls' := [.ref (0), .int (v), xj]) (st' := [.int (cI (-2))]) (M' := (I, J, Rx R, N, G)) rfl ?_
      exact XP_ret rfl ⟨rfl, _, _, rfl, Mid_id hI⟩
    · unfold TP
      show XP X _ k_M_push 0 [.ref (99), .int (v), xj] [] _ _
      refine XP_n 3 (pc' := 3) (ls' := [.ref (99), .int (v), xj]) (st' := [.int (nI (9)), .int (nI (0)), .int (v)]) (M' := (I, J, Rx R, N, G)) rfl ?_
      refine XP_pure rfl rfl (w_M X _ _ 0 9 _) ?_
      refine XP_s rfl ?_
      refine XP_bne (fun b4 => absurd b4 g0) (fun b4 => ?_)
      refine XP_n 1 (pc' := 6) (ls' := [.ref (99), .int (v), xj]) (st' := [.int (cI (-2))]) (M' := (I, J, Rx R, N, G)) rfl ?_
      exact XP_ret rfl ⟨rfl, _, _, rfl, Mid_inv hm⟩
  · have hv : iN 0 9 v := by
      obtain ⟨n, a, b, c, -⟩ := iv_nat g0 (by omega) (by omega)
      exact ⟨n, a, b, c⟩
    refine ⟨nI (cPu s), rw2 s 99 25 v, ?_, fun I J hm => ?_⟩
    · unfold TP
      show XP X _ k_H_push 0 [.ref (0), .int (v), xj] [] _ _
      refine XP_n 3 (pc' := 3) (ls' := [.ref (0), .int (v), xj]) (st' := [.int (nI (9)), .int (nI (0)), .int (v)]) (M' := (I, J, Rx R, N, G)) rfl ?_
      refine XP_pure rfl rfl (w_H X _ _ 0 9 _) ?_
      refine XP_s rfl ?_
      refine XP_bne (fun b4 => ?_) (fun b4 => absurd g0 b4)
      refine XP_n 2 (pc' := 9) (ls' := [.ref (0), .int (v), xj]) (st' := [.ref (80)]) (M' := (I, J, Rx R, N, G)) rfl ?_
      refine XP_geti hS rfl rfl rfl ?_
      rw [hW.pu.1]
      refine XP_n 6 (pc' := 16) (ls' := [.ref (0), .int (v), .int (nI (cPu s))]) (st' := [.int (nI (cPu s))]) (M' := ((rw2 I 80 4 (v)), J, Rx R, N, G)) rfl ?_
      exact XP_ret rfl ⟨rfl, _, _, rfl, StC_w hI.1.C rfl, StM_o hI.1.M (fun k hk => rw2_ro (fun z => by subst z; cases hk)), Wf_pu hW hv, agrl_Lk (AgrL_pu v) hL, agr_Cch (Agr_pu v) (hC.of (fun k h1 h2 => rw2_ro (by omega)) (fun _ _ _ => rfl) hW.p.2), hch⟩
    · unfold TP
      show XP X _ k_M_push 0 [.ref (99), .int (v), xj] [] _ _
      refine XP_n 3 (pc' := 3) (ls' := [.ref (99), .int (v), xj]) (st' := [.int (nI (9)), .int (nI (0)), .int (v)]) (M' := (I, J, Rx R, N, G)) rfl ?_
      refine XP_pure rfl rfl (w_M X _ _ 0 9 _) ?_
      refine XP_s rfl ?_
      refine XP_bne (fun b4 => ?_) (fun b4 => absurd g0 b4)
      refine XP_n 1 (pc' := 8) (ls' := [.ref (99), .int (v), xj]) (st' := [.ref (99)]) (M' := (I, J, Rx R, N, G)) rfl ?_
      refine XP_getiM hm.2.1 rfl rfl rfl ?_
      rw [hW.pu.1]
      refine XP_n 5 (pc' := 14) (ls' := [.ref (99), .int (v), .int (nI (cPu s))]) (st' := [.int (nI (cPu s))]) (M' := ((rw2 I 99 25 (v)), J, Rx R, N, G)) rfl ?_
      exact XP_ret rfl ⟨rfl, _, _, rfl, St_of (StC_o hm.1 (fun k hk => rw2_ro (fun z => by subst z; cases hk))) (StM_w hm.2.1 rfl), hm.2.2.1, hm.2.2.2.1, hm.2.2.2.2.1.of (fun k h1 h2 => rw2_ro (by omega)) (fun _ _ _ => rfl) hm.2.2.1.p.2, hm.2.2.2.2.2⟩
end
