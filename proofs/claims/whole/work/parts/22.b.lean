/-! levels, floods -/
abbrev inN (x : Int32) (n : Nat) : Prop := 0 ≤ x.toInt ∧ x.toInt < (n : Int)
theorem inN_nI {x : Int32} {n : Nat} (h : inN x n) (hn : n < 2147483648) : ∃ j, j < n ∧ x = nI j := vp_in_of (vp_in_iff.mpr h) hn
theorem nI_inN {j n : Nat} (h : j < n) (hn : n < 2147483648) : inN (nI j) n := vp_in_iff.mp (vp_in_nI h hn)
theorem in_iff {x : Int32} {n : Nat} (hn : n < 2147483648) (h0 : 0 < n) : (nI 0 ≤ x ∧ x ≤ nI (n - 1)) ↔ inN x n := by
  rw [Int32.le_iff_toInt_le, Int32.le_iff_toInt_le, nI_toInt (by omega), nI_toInt (by omega)]
  omega
theorem lt_iff {x : Int32} {n : Nat} (hn : n < 2147483648) : (¬ x < 0 ∧ x < nI n) ↔ inN x n := by
  rw [Int32.lt_iff_toInt_lt, Int32.lt_iff_toInt_lt, nI_toInt (by omega)]
  simp
theorem b2i_congr {P P' : Prop} [Decidable P] [Decidable P'] (h : P ↔ P') : b2i P = b2i P' := by simp [b2i, h]
theorem b2i_t {P : Prop} [Decidable P] (h : P) : b2i P = 1 := if_pos h
theorem b2i_f {P : Prop} [Decidable P] (h : ¬ P) : b2i P = 0 := if_neg h
theorem ret_b {X : hX} {d pc : Nat} {C : List Instr} {ls : List Value} {M : hM} {Q : Option Value → hM → Prop} {P : Prop} [Decidable P] (h : C.getD pc .nop = .ret 0) (k : Q (some (.int (b2i P))) M) : XP X d C pc ls [.int (b2i P)] M Q := by
  refine XP_ret ?_ k
  rw [h]
  show (bif decide (b2i P = 0) || decide (b2i P = 1) then _ else _) = _
  rw [b2i_01, cond_true]
def sLevel (s : Nat → Nat → Int32) (p : Nat) (y : Int32) : Int32 := s 101 p + s 102 p * y / nI 10 + (if s 103 p < y then (y - s 103 p) * s 104 p / nI 10 else nI 0)
def sFl (s : Nat → Nat → Int32) (l h : Int32) : Nat → Int32
  | 0 => nI 0
  | t + 1 => sFl s l h t + (if h < l + s 105 t then s 106 t else nI 0)
theorem t_M_in (X : hX) (d : Nat) (v lo hi : Int32) (M : hM) : TP X d n_M_in [.int v, .int lo, .int hi] M (Ret (.int (b2i (lo ≤ v ∧ v ≤ hi))) M) := by
  unfold TP
  repeat' (first | refine XP_dec (fun h => ?_) (fun h => ?_) | refine XP_s rfl ?_ | refine XP_ret rfl ?_)
  · exact ⟨by rw [b2i_f (fun z => absurd h (Int32.not_lt.mpr z.1))]; rfl, rfl⟩
  · exact ⟨by rw [b2i_f (fun z => absurd h (Int32.not_lt.mpr z.2))]; rfl, rfl⟩
  · rename_i h0
    exact ⟨by rw [b2i_t ⟨Int32.not_lt.mp h0, Int32.not_lt.mp h⟩]; rfl, rfl⟩
theorem t_H_within (X : hX) (d : Nat) (v lo hi : Int32) (M : hM) : TP X d n_H_within [.int v, .int lo, .int hi] M (Ret (.int (b2i (lo ≤ v ∧ v ≤ hi))) M) := by
  unfold TP
  repeat' (first | refine XP_dec (fun h => ?_) (fun h => ?_) | refine XP_s rfl ?_ | refine XP_ret rfl ?_)
  · exact ⟨by rw [b2i_f (fun z => absurd h (Int32.not_lt.mpr z.1))]; rfl, rfl⟩
  · exact ⟨by rw [b2i_f (fun z => absurd h (Int32.not_lt.mpr z.2))]; rfl, rfl⟩
  · rename_i h0
    exact ⟨by rw [b2i_t ⟨Int32.not_lt.mp h0, Int32.not_lt.mp h⟩]; rfl, rfl⟩
theorem t_M_levelOf (X : hX) (d : Nat) {s I : Nat → Nat → Int32} {J : Nat → Nat → Int64} {R : Nat → Nat → Option Nat} {N : Nat → Nat} {G : hG} (hS : St s I) {p : Nat} {y : Int32} (hp : p < 4) : TP X d n_M_levelOf [.ref 99, .int (nI p), .int y] (I, J, Rx R, N, G) (Ret (.int (sLevel s p y)) (I, J, Rx R, N, G)) := by
  unfold TP
  repeat' (first
      | refine XP_bne (fun h => ?_) (fun h => ?_)
      | refine XP_beq (fun h => ?_) (fun h => ?_)
      | refine XP_dec (fun h => ?_) (fun h => ?_)
      | refine XP_geti hS rfl rfl rfl ?_
      | refine XP_iald hS rfl rfl (by assumption) rfl (Nat.le_of_ble_eq_true rfl) rfl ?_
      | refine XP_idiv rfl (by decide) ?_
      | refine XP_irem rfl (by decide) ?_
      | refine XP_s rfl ?_
      | refine XP_ret rfl ?_)
  · refine ⟨?_, rfl⟩
    simp [sLevel, Int32.not_lt.mpr h, cI]
  · refine ⟨?_, rfl⟩
    simp [sLevel, Int32.not_le.mp h, cI]
theorem t_Coast_levelAt (X : hX) (d : Nat) {s I : Nat → Nat → Int32} {J : Nat → Nat → Int64} {R : Nat → Nat → Option Nat} {N : Nat → Nat} {G : hG} (hS : St s I) {p : Nat} {y : Int32} (hp : p < 4) : TP X d n_Coast_levelAt [.ref 1, .int (nI p), .int y] (I, J, Rx R, N, G) (Ret (.int (sLevel s p y)) (I, J, Rx R, N, G)) := by
  unfold TP
  repeat' (first
      | refine XP_bne (fun h => ?_) (fun h => ?_)
      | refine XP_beq (fun h => ?_) (fun h => ?_)
      | refine XP_dec (fun h => ?_) (fun h => ?_)
      | refine XP_geti hS rfl rfl rfl ?_
      | refine XP_iald hS rfl rfl (by assumption) rfl (Nat.le_of_ble_eq_true rfl) rfl ?_
      | refine XP_idiv rfl (by decide) ?_
      | refine XP_irem rfl (by decide) ?_
      | refine XP_s rfl ?_
      | refine XP_ret rfl ?_)
  · exact absurd h (nI_pos (by omega))
  · rename_i h
    refine ⟨?_, rfl⟩
    simp [sLevel, Int32.not_lt.mpr h, cI, nI_0]
  · rename_i h
    refine ⟨?_, rfl⟩
    simp [sLevel, Int32.not_le.mp h, cI]
  · rename_i h
    exact absurd (nI_lt hp (by decide)) h
theorem l_M_floods (X : hX) (d : Nat) {s I : Nat → Nat → Int32} {J : Nat → Nat → Int64} {R : Nat → Nat → Option Nat} {N : Nat → Nat} {G : hG} (hS : St s I) {l h : Int32} {ns : Nat} (hns : ns ≤ 6) (hn : s 99 10 = nI ns) : ∀ (n t : Nat) (acc x : Int32), t + n = ns → acc = sFl s l h t → x = nI t → XP X d k_M_floods 4 [.ref 99, .int l, .int h, .int acc, .int x] [] (I, J, Rx R, N, G) (Ret (.int (sFl s l h ns)) (I, J, Rx R, N, G)) := by
  intro n
  induction n with
  | zero =>
    rintro t _ _ ht rfl rfl
    refine XP_s rfl ?_
    refine XP_s rfl ?_
    refine XP_geti hS rfl rfl rfl ?_
    refine XP_s rfl ?_
    rw [hn]
    refine XP_dec (fun h => ?_) (fun h => absurd (nI_le (by omega) (by omega)) h)
    refine XP_s rfl ?_
    refine XP_ret rfl ?_
    rw [show t = ns by omega]
    exact ⟨rfl, rfl⟩
  | succ n ih =>
    rintro t _ _ ht rfl rfl
    have ht6 : t < 6 := by omega
    refine XP_s rfl ?_
    refine XP_s rfl ?_
    refine XP_geti hS rfl rfl rfl ?_
    refine XP_s rfl ?_
    rw [hn]
    refine XP_dec (fun h => absurd h (nI_ge (by omega) (by omega))) (fun h => ?_)
    repeat' (first
      | exact ih (t + 1) _ _ (by omega) (by first | (simp only [sFl]; rw [if_pos (Int32.not_le.mp (by assumption))]; done) | (simp only [sFl]; rw [if_neg (Int32.not_lt.mpr (by assumption))]; rfl)) (nI_1 t)
      | refine XP_dec (fun h => ?_) (fun h => ?_)
      | refine XP_geti hS rfl rfl rfl ?_
      | refine XP_iald hS rfl rfl (by assumption) rfl (Nat.le_of_ble_eq_true rfl) rfl ?_
      | refine XP_s rfl ?_)
theorem t_M_floods (X : hX) (d : Nat) {s I : Nat → Nat → Int32} {J : Nat → Nat → Int64} {R : Nat → Nat → Option Nat} {N : Nat → Nat} {G : hG} (hS : St s I) {l h : Int32} {ns : Nat} (hns : ns ≤ 6) (hn : s 99 10 = nI ns) : TP X d n_M_floods [.ref 99, .int l, .int h] (I, J, Rx R, N, G) (Ret (.int (sFl s l h ns)) (I, J, Rx R, N, G)) := by
  unfold TP
  refine XP_s rfl ?_
  refine XP_s rfl ?_
  refine XP_s rfl ?_
  refine XP_s rfl ?_
  exact l_M_floods X d hS hns hn ns 0 _ _ (Nat.zero_add _) rfl rfl
theorem l_C_floods (X : hX) (d : Nat) {s I : Nat → Nat → Int32} {J : Nat → Nat → Int64} {R : Nat → Nat → Option Nat} {N : Nat → Nat} {G : hG} (hS : St s I) {l h : Int32} {ns : Nat} (hns : ns ≤ 6) (hn : s 99 10 = nI ns) : ∀ (n t : Nat) (acc x : Int32), t + n = ns → acc = sFl s l h t → x = nI t → XP X d k_Coast_floodsOver 4 [.ref 1, .int h, .int l, .int acc, .int x] [] (I, J, Rx R, N, G) (Ret (.int (sFl s l h ns)) (I, J, Rx R, N, G)) := by
  intro n
  induction n with
  | zero =>
    rintro t _ _ ht rfl rfl
    refine XP_s rfl ?_
    refine XP_s rfl ?_
    refine XP_geti hS rfl rfl rfl ?_
    refine XP_s rfl ?_
    rw [hn]
    refine XP_dec (fun h => ?_) (fun h => absurd (nI_le (by omega) (by omega)) h)
    refine XP_s rfl ?_
    refine XP_ret rfl ?_
    rw [show t = ns by omega]
    exact ⟨rfl, rfl⟩
  | succ n ih =>
    rintro t _ _ ht rfl rfl
    have ht6 : t < 6 := by omega
    refine XP_s rfl ?_
    refine XP_s rfl ?_
    refine XP_geti hS rfl rfl rfl ?_
    refine XP_s rfl ?_
    rw [hn]
    refine XP_dec (fun h => absurd h (nI_ge (by omega) (by omega))) (fun h => ?_)
    refine XP_s rfl ?_
    refine XP_s rfl ?_
    refine XP_s rfl ?_
    refine XP_dec (fun h => absurd h (nI_ge (b := 6) ht6 (by decide))) (fun h => ?_)
    repeat' (first
      | exact ih (t + 1) _ _ (by omega) (by first | (simp only [sFl]; rw [if_pos (Int32.not_le.mp (by assumption))]; done) | (simp only [sFl]; rw [if_neg (Int32.not_lt.mpr (by assumption))]; exact (Int32.add_zero _).symm)) (nI_1 t)
      | refine XP_dec (fun h => ?_) (fun h => ?_)
      | refine XP_geti hS rfl rfl rfl ?_
      | refine XP_iald hS rfl rfl (by assumption) rfl (Nat.le_of_ble_eq_true rfl) rfl ?_
      | refine XP_s rfl ?_)
theorem t_Coast_floodsOver (X : hX) (d : Nat) {s I : Nat → Nat → Int32} {J : Nat → Nat → Int64} {R : Nat → Nat → Option Nat} {N : Nat → Nat} {G : hG} (hS : St s I) {l h : Int32} {ns : Nat} (hns : ns ≤ 6) (hn : s 99 10 = nI ns) : TP X d n_Coast_floodsOver [.ref 1, .int h, .int l] (I, J, Rx R, N, G) (Ret (.int (sFl s l h ns)) (I, J, Rx R, N, G)) := by
  unfold TP
  refine XP_s rfl ?_
  refine XP_s rfl ?_
  refine XP_s rfl ?_
  refine XP_s rfl ?_
  exact l_C_floods X d hS hns hn ns 0 _ _ (Nat.zero_add _) rfl rfl
