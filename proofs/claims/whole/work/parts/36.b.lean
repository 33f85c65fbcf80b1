/-! growth over the years: behindThen -/
def sBT (q : Nat → Nat) (k2 m : Nat) (b0 : Int32) : Nat → Int32
  | 0 => b0
  | n + 1 => sGrown q k2 m (sBT q k2 m b0 n) (nI n)
def fBT (q : Nat → Nat) (k2 m : Nat) (b0 v : Int32) : Int32 := if iv 0 16 v then sBT q k2 m b0 v.toInt.toNat else cI (-2)
theorem iv16 {v : Int32} (h : iv 0 16 v) : ∃ n, n ≤ 16 ∧ v = nI n ∧ v.toInt.toNat = n := by
  obtain ⟨j, h1, rfl⟩ := inN_nI ((in_iff (n := 17) (by omega) (by omega)).mp h) (by omega)
  exact ⟨j, by omega, rfl, by rw [nI_toInt (by omega)]; rfl⟩
theorem l_M_bt (X : hX) (d : Nat) {s I0 : Nat → Nat → Int32} {J : Nat → Nat → Int64} {R : Nat → Nat → Option Nat} {N : Nat → Nat} {G : hG} (hS0 : St s I0) {t k1 k2 L : Nat} {q : Nat → Nat} (ht : s 99 31 = nI t) (hT : TxM s t k1 k2 L q) {m : Nat} (hm : m ≤ 16) :
    ∀ (n i : Nat) (I : Nat → Nat → Int32), i + n = m → Only [125, 126] I0 I →
    XP X (d + 3) k_M_behindThen 12 [.ref 99, .int (nI m), .int (sBT q k2 (L - k2) (s 99 2) i), .int (nI i)] [] (I, J, Rx R, N, G) (fun v M' => v = some (.int (sBT q k2 (L - k2) (s 99 2) m)) ∧ ∃ I', M' = (I', J, Rx R, N, G) ∧ Only [125, 126] I0 I') := by
  intro n
  induction n with
  | zero =>
    intro i I hi hO
    obtain rfl : i = m := by omega
    refine XP_s rfl ?_
    refine XP_s rfl ?_
    refine XP_s rfl ?_
    refine XP_dle (by omega) (by omega) (fun _ => ?_) (fun z => absurd z (by omega))
    refine XP_s rfl ?_
    exact XP_ret rfl ⟨rfl, I, rfl, hO⟩
  | succ n ih =>
    intro i I hi hO
    have hS : St s I := St_only hS0 hO (by decide +kernel)
    have ih' := fun I1 h1 => ih (i + 1) I1 (by omega) h1
    simp only [sBT] at ih'
    rw [← nI_1] at ih'
    refine XP_s rfl ?_
    refine XP_s rfl ?_
    refine XP_s rfl ?_
    refine XP_dle (by omega) (by omega) (fun z => absurd z (by omega)) (fun _ => ?_)
    refine XP_s rfl ?_
    refine XP_s rfl ?_
    refine XP_s rfl ?_
    refine XP_call rfl rfl (t_M_grown X d hS ht hT _ _) ?_
    rintro v M1 ⟨rfl, I1, rfl, hO1⟩
    refine XP_s rfl ?_
    refine XP_s rfl ?_
    refine XP_s rfl ?_
    exact ih' I1 (hO.tr hO1)
theorem t_M_behindThen (X : hX) (d : Nat) {s I : Nat → Nat → Int32} {J : Nat → Nat → Int64} {R : Nat → Nat → Option Nat} {N : Nat → Nat} {G : hG} (hS : St s I) {t k1 k2 L : Nat} {q : Nat → Nat} (ht : s 99 31 = nI t) (hT : TxM s t k1 k2 L q) (v : Int32) :
    TP X (d + 3) n_M_behindThen [.ref 99, .int v] (I, J, Rx R, N, G) (fun w M' => w = some (.int (fBT q k2 (L - k2) (s 99 2) v)) ∧ ∃ I', M' = (I', J, Rx R, N, G) ∧ Only [125, 126] I I') := by
  unfold TP fBT
  refine XP_s rfl ?_
  refine XP_s rfl ?_
  refine XP_s rfl ?_
  refine XP_pure rfl rfl (w_M X (d + 2) v 0 16 _) ?_
  refine XP_s rfl ?_
  refine XP_bne (fun h1 => ?_) (fun h1 => ?_)
  · rw [if_pos h1]
    obtain ⟨n, hn, rfl, e⟩ := iv16 h1
    rw [e]
    refine XP_s rfl ?_
    refine XP_geti hS rfl rfl rfl ?_
    refine XP_s rfl ?_
    refine XP_s rfl ?_
    refine XP_s rfl ?_
    exact l_M_bt X d hS ht hT hn n 0 I (Nat.zero_add _) Only.rf
  · rw [if_neg h1]
    refine XP_s rfl ?_
    exact XP_ret rfl ⟨rfl, I, rfl, Only.rf⟩
theorem l_H_bt (X : hX) (d : Nat) {s I0 : Nat → Nat → Int32} {J : Nat → Nat → Int64} {R : Nat → Nat → Option Nat} {N : Nat → Nat} {G : hG} (hS0 : St s I0) {t k1 k2 L : Nat} {q : Nat → Nat} (hR : Rx R 1 13 = some (oT t)) (hT : TxM s t k1 k2 L q) (hC : TxC s R N t k1 k2 L q) {m : Nat} (hm : m ≤ 16) :
    ∀ (n i : Nat) (I : Nat → Nat → Int32), i + n = m → Only [oT t + 3, oT t + 2] I0 I →
    XP X (d + 4) k_H_behindThen 13 [.ref 0, .int (nI m), .int (sBT q k2 (L - k2) (s 99 2) i), .int (nI i)] [] (I, J, Rx R, N, G) (fun v M' => v = some (.int (sBT q k2 (L - k2) (s 99 2) m)) ∧ ∃ I', M' = (I', J, Rx R, N, G) ∧ Only [oT t + 3, oT t + 2] I0 I') := by
  intro n
  induction n with
  | zero =>
    intro i I hi hO
    obtain rfl : i = m := by omega
    refine XP_s rfl ?_
    refine XP_s rfl ?_
    refine XP_s rfl ?_
    refine XP_dle (by omega) (by omega) (fun _ => ?_) (fun z => absurd z (by omega))
    refine XP_s rfl ?_
    exact XP_ret rfl ⟨rfl, I, rfl, hO⟩
  | succ n ih =>
    intro i I hi hO
    have hS : St s I := St_only hS0 hO (oT_scr t hT.1)
    have ih' := fun I1 h1 => ih (i + 1) I1 (by omega) h1
    simp only [sBT] at ih'
    rw [← nI_1] at ih'
    refine XP_s rfl ?_
    refine XP_s rfl ?_
    refine XP_s rfl ?_
    refine XP_dle (by omega) (by omega) (fun z => absurd z (by omega)) (fun _ => ?_)
    refine XP_s rfl ?_
    refine XP_s rfl ?_
    refine XP_s rfl ?_
    refine XP_s rfl ?_
    refine XP_call rfl rfl (t_C_grown X d hS hR hT hC _ _) ?_
    rintro v M1 ⟨rfl, I1, rfl, hO1⟩
    refine XP_s rfl ?_
    refine XP_s rfl ?_
    refine XP_s rfl ?_
    exact ih' I1 (hO.tr hO1)
theorem t_H_behindThen (X : hX) (d : Nat) {s I : Nat → Nat → Int32} {J : Nat → Nat → Int64} {R : Nat → Nat → Option Nat} {N : Nat → Nat} {G : hG} (hS : St s I) {t k1 k2 L : Nat} {q : Nat → Nat} (hR : Rx R 1 13 = some (oT t)) (hT : TxM s t k1 k2 L q) (hC : TxC s R N t k1 k2 L q) (v : Int32) :
    TP X (d + 4) n_H_behindThen [.ref 0, .int v] (I, J, Rx R, N, G) (fun w M' => w = some (.int (fBT q k2 (L - k2) (s 99 2) v)) ∧ ∃ I', M' = (I', J, Rx R, N, G) ∧ Only [oT t + 3, oT t + 2] I I') := by
  unfold TP fBT
  refine XP_s rfl ?_
  refine XP_s rfl ?_
  refine XP_s rfl ?_
  refine XP_pure rfl rfl (w_H X (d + 3) v 0 16 _) ?_
  refine XP_s rfl ?_
  refine XP_bne (fun h1 => ?_) (fun h1 => ?_)
  · rw [if_pos h1]
    obtain ⟨n, hn, rfl, e⟩ := iv16 h1
    rw [e]
    refine XP_s rfl ?_
    refine XP_s rfl ?_
    refine XP_geti hS rfl rfl rfl ?_
    refine XP_s rfl ?_
    refine XP_s rfl ?_
    refine XP_s rfl ?_
    exact l_H_bt X d hS hR hT hC hn n 0 I (Nat.zero_add _) Only.rf
  · rw [if_neg h1]
    refine XP_s rfl ?_
    exact XP_ret rfl ⟨rfl, I, rfl, Only.rf⟩
