/-! the model's text: what it answers -/
section
variable {s : Nat → Nat → Int32}
def bT (I : Nat → Nat → Int32) : Nat → Nat → Int32 := rw2 (rw2 I 99 44 (nI 0)) 99 52 (nI 0)
section
variable {I : Nat → Nat → Int32} {t : Nat}
theorem bT_M (h : StM s I) : StM s (bT I) := StM_z (StM_z h rfl) rfl
theorem bT_F : FrC I (bT I) := FrC.w (FrC.w FrC.rf rfl) rfl
theorem bT_99 {j : Nat} (h : j < 44) : bT I 99 j = I 99 j := by
  unfold bT
  rw [rw2_off (by omega), rw2_off (by omega)]
theorem bT_k {k : Nat} (h : k ≠ 99) : bT I k = I k := by
  unfold bT
  rw [rw2_ro h, rw2_ro h]
theorem bT_T (hW : Wf s) (h : StM s I) : TpM (bT I) (rTp s) (cTa s) := ⟨by rw [bT_99 (by omega)]; exact (h 99 27 99 27 rfl).trans hW.ta.1, fun i hi => by rw [bT_k (by omega)]; exact (h 116 i 116 i rfl).trans (hW.tp hi).1⟩
theorem bT_O : MO (bT I) t (bT I) [] := ⟨by unfold bT; exact rw2_on, fun j => by rw [if_neg (by simp only [List.length_nil]; omega)]⟩
theorem Fr0.rf {B : Nat → Nat → Int32} : Fr0 B B := ⟨fun _ _ _ _ => rfl, fun _ _ => rfl⟩
theorem TpM.w {B : Nat → Nat → Int32} {b : Nat → Nat} {L k : Nat} {x : Int32} (h : TpM B b L) : TpM (rw2 B 118 k x) b L := ⟨by rw [rw2_ro (show (99 : Nat) ≠ 118 by omega)]; exact h.1, fun i hi => by rw [rw2_ro (show (116 : Nat) ≠ 118 by omega)]; exact h.2 i hi⟩
end
theorem sb_s {s sb : Nat → Nat → Int32} {t j : Nat} {x : Int32} (h : (∀ k, k ≠ 118 → sb k = s k) ∧ ∀ i, i < 4 * t → sb 118 i = s 118 i) : (∀ k, k ≠ 118 → rw2 sb 118 (4 * t + j) x k = s k) ∧ ∀ i, i < 4 * t → rw2 sb 118 (4 * t + j) x 118 i = s 118 i := ⟨fun k hk => by rw [rw2_ro hk]; exact h.1 k hk, fun i hi => by rw [rw2_off (by omega)]; exact h.2 i hi⟩
abbrev TxRes (s s' : Nat → Nat → Int32) (w : Int32) : Prop := ∀ (X : hX) (d : Nat) (I : Nat → Nat → Int32) (J : Nat → Nat → Int64) (R : Nat → Nat → Option Nat) (N : Nat → Nat) (G : hG), StM s I → WD J → TP X (d + 11) n_M_text [.ref 99] (I, J, Rx R, N, G) (QS s' R N G J I (.int w))
theorem m_textF (hW : Wf s) (h6 : cTx s < 6) {q : Nat} (hq : TxFail (rTp s) (cTa s) q) : ∃ s', TxD s s' ∧ s' 99 30 = s 99 30 ∧ (∀ k, 3000 ≤ k → s' k = s k) ∧ TxRes s s' (cI (-100) - nI (pl (rTp s) (cTa s) q)) := by
  have htx := hW.tx
  have hta := hW.ta
  have hL := hta.2
  have hb : ∀ i, i < cTa s → rTp s i ≤ 255 := fun i hi => (hW.tp hi).2
  have k30 : ∀ I : Nat → Nat → Int32, StM s I → bT I 99 30 = nI (cTx s) := fun I h => by rw [bT_99 (by omega)]; exact (h 99 30 99 30 rfl).trans htx.1
  rcases hq with hp | ⟨u1, P1, k1, hq⟩
  · obtain ⟨uf, H⟩ := l_pf0 hL hb h6 (show ([] : List Nat).length ≤ 0 from Nat.le_refl _) (Nat.zero_le _) hp
    refine ⟨(sT (rw2 s 118 (4 * cTx s + 0) (nI ([] : List Nat).length)) (cTx s) uf), sT_D (sb_s ⟨fun _ _ => rfl, fun _ _ => rfl⟩).1 (sb_s ⟨fun _ _ => rfl, fun _ _ => rfl⟩).2, ?_, fun k hk => ?_, fun X d I J R N G hS hD => l_tst hW h6 hS ?_⟩
    · rw [sT_99 (by omega)]
      simp only [rw2_ro (show (99 : Nat) ≠ 118 by omega)]
    · rw [sT_k (by omega) (by omega) (by omega), rw2_ro (show k ≠ 118 by omega)]
    · exact H X d _ _ J R N G (bT_T hW hS) hD (k30 I hS) bT_O Fr0.rf (by rw [rw2_off (by omega)]; exact rw2_on) (fun I1 c1 c2 => ⟨rfl, _, rfl, sT_M (StM_w (bT_M hS) rfl) c1 c2, sT_F (FrC.w bT_F rfl) c2⟩)
  have b1 := k1.bnd (Nat.zero_le _) (by omega)
  have b1l : u1.length + 0 + 2 ≤ 0 + P1 := b1.2.1
  rcases hq with hp | ⟨u2, P2, k2, hq⟩
  · obtain ⟨uf, H⟩ := l_pf1 hL hb h6 (by omega) b1.1 hp
    refine ⟨(sT (rw2 (rw2 s 118 (4 * cTx s + 0) (nI ([] : List Nat).length)) 118 (4 * cTx s + 1) (nI u1.length)) (cTx s) uf), sT_D (sb_s (sb_s ⟨fun _ _ => rfl, fun _ _ => rfl⟩)).1 (sb_s (sb_s ⟨fun _ _ => rfl, fun _ _ => rfl⟩)).2, ?_, fun k hk => ?_, fun X d I J R N G hS hD => l_tst hW h6 hS ?_⟩
    · rw [sT_99 (by omega)]
      simp only [rw2_ro (show (99 : Nat) ≠ 118 by omega)]
    · rw [sT_k (by omega) (by omega) (by omega), rw2_ro (show k ≠ 118 by omega), rw2_ro (show k ≠ 118 by omega)]
    · refine l_tok0 (bT_T hW hS) hL hb hD h6 (k30 I hS) bT_O Fr0.rf (by rw [rw2_off (by omega)]; exact rw2_on) (Nat.zero_le _) (Nat.zero_le _) k1 (fun I1 o1 f1 p1 => ?_)
      exact H X d _ _ J R N G (TpM.w (bT_T hW hS)) hD (by simp only [rw2_ro (show (99 : Nat) ≠ 118 by omega)]; exact k30 I hS) o1 f1 p1 (fun I1 c1 c2 => ⟨rfl, _, rfl, sT_M (StM_w (StM_w (bT_M hS) rfl) rfl) c1 c2, sT_F (FrC.w (FrC.w bT_F rfl) rfl) c2⟩)
  have b2 := k2.bnd b1.1 (by omega)
  have b2l := b2.2.1
  rcases hq with hp | ⟨u3, P3, k3, g, rfl⟩
  · obtain ⟨uf, H⟩ := l_pf2 hL hb h6 (by omega) b2.1 hp
    refine ⟨(sT (rw2 (rw2 (rw2 s 118 (4 * cTx s + 0) (nI ([] : List Nat).length)) 118 (4 * cTx s + 1) (nI u1.length)) 118 (4 * cTx s + 2) (nI u2.length)) (cTx s) uf), sT_D (sb_s (sb_s (sb_s ⟨fun _ _ => rfl, fun _ _ => rfl⟩))).1 (sb_s (sb_s (sb_s ⟨fun _ _ => rfl, fun _ _ => rfl⟩))).2, ?_, fun k hk => ?_, fun X d I J R N G hS hD => l_tst hW h6 hS ?_⟩
    · rw [sT_99 (by omega)]
      simp only [rw2_ro (show (99 : Nat) ≠ 118 by omega)]
    · rw [sT_k (by omega) (by omega) (by omega), rw2_ro (show k ≠ 118 by omega), rw2_ro (show k ≠ 118 by omega), rw2_ro (show k ≠ 118 by omega)]
    · refine l_tok0 (bT_T hW hS) hL hb hD h6 (k30 I hS) bT_O Fr0.rf (by rw [rw2_off (by omega)]; exact rw2_on) (Nat.zero_le _) (Nat.zero_le _) k1 (fun I1 o1 f1 p1 => ?_)
      refine l_tok1 (TpM.w (bT_T hW hS)) hL hb hD h6 (by simp only [rw2_ro (show (99 : Nat) ≠ 118 by omega)]; exact k30 I hS) o1 f1 p1 (by omega) b1.1 k2 (fun I2 o2 f2 p2 => ?_)
      exact H X d _ _ J R N G (TpM.w (TpM.w (bT_T hW hS))) hD (by simp only [rw2_ro (show (99 : Nat) ≠ 118 by omega)]; exact k30 I hS) o2 f2 p2 (fun I1 c1 c2 => ⟨rfl, _, rfl, sT_M (StM_w (StM_w (StM_w (bT_M hS) rfl) rfl) rfl) c1 c2, sT_F (FrC.w (FrC.w (FrC.w bT_F rfl) rfl) rfl) c2⟩)
  have b3 := k3.bnd b2.1 (by omega)
  have b3l := b3.2.1
  refine ⟨(sT (rw2 (rw2 (rw2 s 118 (4 * cTx s + 0) (nI ([] : List Nat).length)) 118 (4 * cTx s + 1) (nI u1.length)) 118 (4 * cTx s + 2) (nI u2.length)) (cTx s) u3), sT_D (sb_s (sb_s (sb_s ⟨fun _ _ => rfl, fun _ _ => rfl⟩))).1 (sb_s (sb_s (sb_s ⟨fun _ _ => rfl, fun _ _ => rfl⟩))).2, ?_, fun k hk => ?_, fun X d I J R N G hS hD => l_tst hW h6 hS ?_⟩
  · rw [sT_99 (by omega)]
    simp only [rw2_ro (show (99 : Nat) ≠ 118 by omega)]
  · rw [sT_k (by omega) (by omega) (by omega), rw2_ro (show k ≠ 118 by omega), rw2_ro (show k ≠ 118 by omega), rw2_ro (show k ≠ 118 by omega)]
  · refine l_tok0 (bT_T hW hS) hL hb hD h6 (k30 I hS) bT_O Fr0.rf (by rw [rw2_off (by omega)]; exact rw2_on) (Nat.zero_le _) (Nat.zero_le _) k1 (fun I1 o1 f1 p1 => ?_)
    refine l_tok1 (TpM.w (bT_T hW hS)) hL hb hD h6 (by simp only [rw2_ro (show (99 : Nat) ≠ 118 by omega)]; exact k30 I hS) o1 f1 p1 (by omega) b1.1 k2 (fun I2 o2 f2 p2 => ?_)
    refine l_tok2 (TpM.w (TpM.w (bT_T hW hS))) hL hb hD h6 (by simp only [rw2_ro (show (99 : Nat) ≠ 118 by omega)]; exact k30 I hS) o2 f2 p2 (by omega) b2.1 k3 (fun I3 o3 f3 p3 => ?_)
    exact l_tend0 (TpM.w (TpM.w (TpM.w (bT_T hW hS)))) hL hb hD h6 (by simp only [rw2_ro (show (99 : Nat) ≠ 118 by omega)]; exact k30 I hS) o3 f3 p3 b3.1 g (fun I1 c1 c2 => ⟨rfl, _, rfl, sT_M (StM_w (StM_w (StM_w (bT_M hS) rfl) rfl) rfl) c1 c2, sT_F (FrC.w (FrC.w (FrC.w bT_F rfl) rfl) rfl) c2⟩)
/-- the state that the model makes of a good text -/
def sG (s : Nat → Nat → Int32) (u1 u2 u3 : List Nat) : Nat → Nat → Int32 := sT (rw2 (rw2 (rw2 s 118 (4 * cTx s + 0) (nI ([] : List Nat).length)) 118 (4 * cTx s + 1) (nI u1.length)) 118 (4 * cTx s + 2) (nI u2.length)) (cTx s) u3
theorem sG_D {u1 u2 u3 : List Nat} : TxD s (sG s u1 u2 u3) := sT_D (sb_s (sb_s (sb_s ⟨fun _ _ => rfl, fun _ _ => rfl⟩))).1 (sb_s (sb_s (sb_s ⟨fun _ _ => rfl, fun _ _ => rfl⟩))).2
theorem m_textO (hW : Wf s) (h6 : cTx s < 6) {u1 u2 u3 : List Nat} {P3 : Nat} (hq : TxOk (rTp s) (cTa s) u1 u2 u3 P3) (g : tk (rTp s) (cTa s) P3 = 2001) : TxRes s (rw2 (sG s u1 u2 u3) 99 30 (nI (cTx s + 1))) (nI (cTx s)) := by
  have htx := hW.tx
  have hta := hW.ta
  have hL := hta.2
  have hb : ∀ i, i < cTa s → rTp s i ≤ 255 := fun i hi => (hW.tp hi).2
  have k30 : ∀ I : Nat → Nat → Int32, StM s I → bT I 99 30 = nI (cTx s) := fun I h => by rw [bT_99 (by omega)]; exact (h 99 30 99 30 rfl).trans htx.1
  obtain ⟨P1, P2, k1, k2, k3⟩ := hq
  have b1 := k1.bnd (Nat.zero_le _) (by omega)
  have b1l : u1.length + 0 + 2 ≤ 0 + P1 := b1.2.1
  have b2 := k2.bnd b1.1 (by omega)
  have b2l := b2.2.1
  have b3 := k3.bnd b2.1 (by omega)
  refine fun X d I J R N G hS hD => l_tst hW h6 hS ?_
  refine l_tok0 (bT_T hW hS) hL hb hD h6 (k30 I hS) bT_O Fr0.rf (by rw [rw2_off (by omega)]; exact rw2_on) (Nat.zero_le _) (Nat.zero_le _) k1 (fun I1 o1 f1 p1 => ?_)
  refine l_tok1 (TpM.w (bT_T hW hS)) hL hb hD h6 (by simp only [rw2_ro (show (99 : Nat) ≠ 118 by omega)]; exact k30 I hS) o1 f1 p1 (by omega) b1.1 k2 (fun I2 o2 f2 p2 => ?_)
  refine l_tok2 (TpM.w (TpM.w (bT_T hW hS))) hL hb hD h6 (by simp only [rw2_ro (show (99 : Nat) ≠ 118 by omega)]; exact k30 I hS) o2 f2 p2 (by omega) b2.1 k3 (fun I3 o3 f3 p3 => ?_)
  exact l_tend1 (TpM.w (TpM.w (TpM.w (bT_T hW hS)))) hL hb hD h6 (by simp only [rw2_ro (show (99 : Nat) ≠ 118 by omega)]; exact k30 I hS) o3 f3 p3 b3.1 g (fun I1 c1 c2 => ⟨rfl, _, rfl, StM_w (sT_M (StM_w (StM_w (StM_w (bT_M hS) rfl) rfl) rfl) c1 c2) rfl, FrC.w (sT_F (FrC.w (FrC.w (FrC.w bT_F rfl) rfl) rfl) c2) rfl⟩)
end
