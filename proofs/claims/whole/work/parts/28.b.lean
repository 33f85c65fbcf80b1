/-! harm of a wall, both sides -/
def hTerm (q : Nat → Nat) (k1 : Nat) (over rich h l y : Int32) : Int32 := bnd (nI 0) (nI 9999) (sW (nmV over rich h l y (cI 0)) q 0 k1)
def sHarm (s : Nat → Nat → Int32) (q : Nat → Nat) (k1 : Nat) (l h y rich : Int32) : Nat → Int64
  | 0 => cL 0
  | n + 1 => if h < l + s 105 n then sHarm s q k1 l h y rich n + (s 106 n).toInt64 * (hTerm q k1 (l + s 105 n - h) rich h l y).toInt64 else sHarm s q k1 l h y rich n
/-- text t of the model -/
def TxM (s : Nat → Nat → Int32) (t k1 k2 L : Nat) (q : Nat → Nat) : Prop := t < 6 ∧ s 118 (4 * t) = nI 0 ∧ s 118 (4 * t + 1) = nI k1 ∧ s 118 (4 * t + 2) = nI k2 ∧ s 118 (4 * t + 3) = nI L ∧ k1 ≤ k2 ∧ k2 ≤ L ∧ L ≤ 200 ∧ (∀ j, j < L → s 117 (200 * t + j) = nI (q j)) ∧ WFp q 0 k1 ∧ WFp q k1 (k2 - k1) ∧ WFp q k2 (L - k2)
def oT (t : Nat) : Nat := bif Nat.beq t 0 then 95 else 2996 + 4 * t
/-- text t of the class -/
def TxC (s : Nat → Nat → Int32) (R : Nat → Nat → Option Nat) (N : Nat → Nat) (t k1 k2 L : Nat) (q : Nat → Nat) : Prop := TxL R N (oT t) (oT t + 1) (oT t + 3) (oT t + 2) L ∧ s (oT t) 1 = nI k1 ∧ s (oT t) 2 = nI k2 ∧ ∀ j, j < L → s (oT t + 1) j = nI (trS (q j))
theorem six_cases {P : Nat → Prop} (h0 : P 0) (h1 : P 1) (h2 : P 2) (h3 : P 3) (h4 : P 4) (h5 : P 5) : ∀ t, t < 6 → P t
  | 0, _ => h0
  | 1, _ => h1
  | 2, _ => h2
  | 3, _ => h3
  | 4, _ => h4
  | 5, _ => h5
  | _ + 6, h => absurd h (by omega)
theorem oT_1 : ∀ t, t < 6 → mp (oT t) 1 = some (oT t, 1) := six_cases rfl rfl rfl rfl rfl rfl
theorem oT_2 : ∀ t, t < 6 → mp (oT t) 2 = some (oT t, 2) := six_cases rfl rfl rfl rfl rfl rfl
theorem oT_s (j : Nat) : ∀ t, t < 6 → mp (oT t + 1) j = some (oT t + 1, j) := six_cases rfl rfl rfl rfl rfl rfl
theorem oT_scr : ∀ t, t < 6 → ∀ k ∈ [oT t + 3, oT t + 2], isScr k = true := six_cases (by decide +kernel) (by decide +kernel) (by decide +kernel) (by decide +kernel) (by decide +kernel) (by decide +kernel)
theorem l_M_harm (X : hX) (d : Nat) {s I0 : Nat → Nat → Int32} {J : Nat → Nat → Int64} {R : Nat → Nat → Option Nat} {N : Nat → Nat} {G : hG} (hS0 : St s I0) {t k1 k2 L ns : Nat} {q : Nat → Nat} (ht : s 99 31 = nI t) (hT : TxM s t k1 k2 L q) (hns : ns ≤ 6) (hn : s 99 10 = nI ns) (l h y rich : Int32) :
    ∀ (n i : Nat) (I : Nat → Nat → Int32), i + n = ns → Only [125, 126] I0 I →
      XP X (d + 2) k_M_harmOf 4 [.ref 99, .int l, .int y, .int h, .int rich, .long (sHarm s q k1 l h y rich i), xj, .int (nI i)] [] (I, J, Rx R, N, G) (fun v M' => v = some (.long (sHarm s q k1 l h y rich ns)) ∧ ∃ I', M' = (I', J, Rx R, N, G) ∧ Only [125, 126] I0 I') := by
  have hT' := hT
  obtain ⟨t6, e0, e1, e2, e3, l1, l2, l3, hq, hW1, hW2, hW3⟩ := hT'
  intro n
  induction n with
  | zero =>
    intro i I hi hO
    have hS : St s I := St_only hS0 hO (by decide +kernel)
    obtain rfl : i = ns := by omega
    refine XP_s rfl ?_
    refine XP_s rfl ?_
    refine XP_geti hS rfl rfl rfl ?_
    rw [hn]
    refine XP_s rfl ?_
    refine XP_dle (by omega) (by omega) (fun _ => ?_) (fun z => absurd z (by omega))
    refine XP_s rfl ?_
    exact XP_ret rfl ⟨rfl, I, rfl, hO⟩
  | succ n ih =>
    intro i I hi hO
    have hS : St s I := St_only hS0 hO (by decide +kernel)
    have ih' := fun I1 h1 => ih (i + 1) I1 (by omega) h1
    simp only [sHarm] at ih'
    refine XP_s rfl ?_
    refine XP_s rfl ?_
    refine XP_geti hS rfl rfl rfl ?_
    rw [hn]
    refine XP_s rfl ?_
    refine XP_dle (by omega) (by omega) (fun z => absurd z (by omega)) (fun _ => ?_)
    refine XP_s rfl ?_
    refine XP_s rfl ?_
    refine XP_s rfl ?_
    refine XP_s rfl ?_
    refine XP_ialdE i rfl hS rfl rfl rfl (show _ < 6 by omega) (Nat.le_of_ble_eq_true rfl) rfl ?_
    refine XP_s rfl ?_
    refine XP_s rfl ?_
    refine XP_s rfl ?_
    refine XP_dec (fun hb => ?_) (fun hb => ?_)
    · rw [if_neg (Int32.not_lt.mpr hb)] at ih'
      refine XP_s rfl ?_
      refine XP_s rfl ?_
      rw [← nI_1] at ih'
      exact ih' I hO
    · rw [if_pos (Int32.not_le.mp hb)] at ih'
      refine XP_s rfl ?_
      refine XP_s rfl ?_
      refine XP_s rfl ?_
      refine XP_s rfl ?_
      refine XP_s rfl ?_
      refine XP_ialdE i rfl hS rfl rfl rfl (show _ < 6 by omega) (Nat.le_of_ble_eq_true rfl) rfl ?_
      refine XP_s rfl ?_
      refine XP_s rfl ?_
      refine XP_s rfl ?_
      refine XP_s rfl ?_
      refine XP_s rfl ?_
      refine XP_s rfl ?_
      refine XP_s rfl ?_
      refine XP_s rfl ?_
      refine XP_call rfl rfl (t_M_names X (d + 1) (l + s 105 i - h) rich h l y (cI 0)) ?_
      rintro v M1 ⟨rfl, I1, rfl, hO1, hV1⟩
      have hS1 : St s I1 := St_only hS hO1 (by decide +kernel)
      refine XP_s rfl ?_
      refine XP_s rfl ?_
      refine XP_s rfl ?_
      refine XP_s rfl ?_
      refine XP_ialdE i rfl hS1 rfl rfl rfl (show _ < 6 by omega) (Nat.le_of_ble_eq_true rfl) rfl ?_
      refine XP_s rfl ?_
      refine XP_s rfl ?_
      refine XP_s rfl ?_
      refine XP_s rfl ?_
      refine XP_s rfl ?_
      refine XP_call rfl rfl (t_M_worth X d (part := 0) (k0 := 0) (m := k1) hS1 (nI 0) (nI 9999) ht t6 (by omega) e0 (by rw [Nat.zero_add]; exact e1) (by omega) (fun j hj => hq j (by omega)) hW1 hV1) ?_
      rintro v M2 ⟨rfl, I2, rfl, hO2⟩
      refine XP_s rfl ?_
      refine XP_s rfl ?_
      refine XP_s rfl ?_
      refine XP_s rfl ?_
      refine XP_s rfl ?_
      refine XP_s rfl ?_
      rw [← nI_1] at ih'
      exact ih' I2 ((hO.tr (hO1.sub (by simp))).tr (hO2.sub (by simp)))
