/-! the class's value of a part of a text -/
theorem trS_num {c : Nat} (h : 100000 ≤ c) : trS c = c - 100000 := by unfold trS; rw [if_pos h]
theorem trS_nm {c : Nat} (h : c < 11) : trS c = c + 10000 := by unfold trS; rw [if_neg (by omega), if_pos h]
theorem trS_op {c : Nat} (h : ¬ 100000 ≤ c) (h2 : ¬ c < 11) : trS c = c + 9999 := by unfold trS; rw [if_neg h, if_neg h2]
theorem l_value (X : hX) (d : Nat) {I0 : Nat → Nat → Int32} {J : Nat → Nat → Int64} {R : Nat → Nat → Option Nat} {N : Nat → Nat} {G : hG} {o sg sk nl L : Nat} (hT : TxL R N o sg sk nl L) {k0 m : Nat} {q : Nat → Nat} {nm : Nat → Int32} (hk : k0 + m ≤ L) (hq : ∀ j, j < L → I0 sg j = nI (trS (q j))) (hW : WFp q k0 m) (hnm : ∀ j, j < 6 → I0 nl j = nm j) (fr : Value) :
    ∀ (n i : Nat) (I : Nat → Nat → Int32) (w5 w6 w7 w8 w9 : Value), i + n = m → Only [sk] I0 I → (∀ j, j < hpN q k0 i → I sk j = (rpF nm q k0 i).1 j) →
      XP X (d + 1) k_Text_value 4 [.ref o, fr, .int (nI (k0 + m)), .int (nI (hpN q k0 i)), .int (nI (k0 + i)), w5, w6, w7, w8, w9] [] (I, J, Rx R, N, G) (fun v M' => v = some (.int (sW nm q k0 m)) ∧ ∃ I', M' = (I', J, Rx R, N, G) ∧ Only [sk] I0 I') := by
  have hT' := hT
  obtain ⟨to9, tr0, tr3, tr4, ta0, ta3, ta4, tl0, tl3, tl4, tn1, tn2, tn3, tle⟩ := hT'
  intro n
  induction n with
  | zero =>
    rintro i I w5 w6 w7 w8 w9 hi hO hI
    have him : i = m := by omega
    subst him
    have h1 := hW.2
    have h2 := hpN_le q k0 i
    refine XP_s rfl ?_
    refine XP_s rfl ?_
    refine XP_s rfl ?_
    refine XP_dle (by omega) (by omega) (fun _ => ?_) (fun h => absurd h (by omega))
    refine XP_s rfl ?_
    refine XP_s rfl ?_
    refine XP_pos (by omega) (by omega) ?_
    refine XP_s rfl ?_
    refine XP_getr rfl to9 tr3 ?_
    refine XP_len rfl ta3 tl3 ?_
    refine XP_s rfl ?_
    refine XP_pos (by omega) (by omega) ?_
    refine XP_s rfl ?_
    refine XP_getr rfl to9 tr3 ?_
    refine XP_s rfl ?_
    refine XP_irawE 0 rfl rfl ta3 tl3 (by omega) (by omega) ?_
    rw [hI 0 h1]
    refine XP_s rfl ?_
    exact XP_ret rfl ⟨rfl, I, rfl, hO⟩
  | succ n ih =>
    rintro i I w5 w6 w7 w8 w9 hi hO hI
    obtain ⟨hok, hned⟩ := hW.1 i (by omega)
    have hhl := hpN_le q k0 i
    have hqi : I sg (k0 + i) = nI (trS (q (k0 + i))) := (congrFun (hO sg (by simp [tn1])) _).trans (hq (k0 + i) (by omega))
    have hhp : hpN q k0 (i + 1) = hsN (q (k0 + i)) (hpN q k0 i) := rfl
    have hrp : rpF nm q k0 (i + 1) = rsF nm (q (k0 + i)) (rpF nm q k0 i) := rfl
    have hh := rpF_h nm q k0 i
    have hst : ∀ (x : Int32) (h : Nat) (w5 w7 w8 w9 : Value), h < L → hpN q k0 (i + 1) = h + 1 → h ≤ hpN q k0 i → (rpF nm q k0 (i + 1)).1 = upd (rpF nm q k0 i).1 h x →
        XP X (d + 1) k_Text_value 138 [.ref o, fr, .int (nI (k0 + m)), .int (nI h), .int (nI (k0 + i)), w5, .int x, w7, w8, w9] [] (I, J, Rx R, N, G) (fun v M' => v = some (.int (sW nm q k0 m)) ∧ ∃ I', M' = (I', J, Rx R, N, G) ∧ Only [sk] I0 I') := by
      intro x h w5 w7 w8 w9 hhL hp1 hle hrow
      refine v_put X (d + 1) hT hhL ?_
      rw [← hp1]
      refine ih (i + 1) _ _ _ _ _ _ (by omega) (hO.tr (Only.rw List.mem_cons_self)) ?_
      rw [hp1, hrow]
      exact row_step hI (fun i' hi' => by omega)
    refine v_head X (d + 1) hT (te := 0) (by omega) hk hqi ?_
    generalize hc : q (k0 + i) = c at hok hned hhp hrp
    by_cases h1 : 100000 ≤ c
    · -- a number
      have h9 : c - 100000 < 10000 := by unfold okc at hok; omega
      rw [trS_num h1]
      generalize hv : c - 100000 = v at h9
      refine v_num X (d + 1) h9 ?_
      refine hst _ _ _ _ _ _ (by omega) ?_ (Nat.le_refl _) ?_
      · rw [hhp]; unfold hsN; rw [if_pos h1]
      · rw [hrp]; unfold rsF; rw [if_pos h1, hh, hv]
    by_cases h2 : c < 11
    · -- a name
      have h6 : c < 6 := by unfold okc at hok; omega
      have e3 : I nl c = nm c := (congrFun (hO nl (by simp [tn2])) _).trans (hnm c h6)
      rw [trS_nm h2]
      obtain ⟨v, hv⟩ : ∃ v, v = c + 10000 := ⟨_, rfl⟩
      rw [← hv]
      refine v_name X (d + 1) hT h6 hv e3 ?_
      refine hst _ _ _ _ _ _ (by omega) ?_ (Nat.le_refl _) ?_
      · rw [hhp]; unfold hsN; rw [if_neg h1, if_pos h2]
      · rw [hrp]; unfold rsF; rw [if_neg h1, if_pos h2, hh]
    rw [trS_op h1 h2]
    have h8 : 11 ≤ c ∧ c ≤ 19 := by unfold okc at hok; omega
    obtain ⟨v, hv⟩ : ∃ v, v = c + 9999 := ⟨_, rfl⟩
    rw [← hv]
    refine v_tk X (d + 1) (by omega) (by omega) ?_
    by_cases h3 : c = 13
    · -- not
      subst h3
      have e3 : 1 ≤ hpN q k0 i := hned
      obtain rfl : v = 10012 := by omega
      rw [if_pos (Or.inl rfl)]
      refine v_take X (d + 1) hT (Nat.le_refl 1) e3 (by omega) (hI _ (by omega)) (hI _ (by omega)) ?_
      refine v_not X (d + 1) ?_
      refine hst _ _ _ _ _ _ (by omega) ?_ (Nat.sub_le _ _) ?_
      · rw [hhp]; exact (Nat.sub_add_cancel e3).symm
      · rw [hrp, ← hh]; rfl
    by_cases h4 : c = 19
    · -- minus
      subst h4
      have e3 : 1 ≤ hpN q k0 i := hned
      obtain rfl : v = 10018 := by omega
      rw [if_pos (Or.inr rfl)]
      refine v_take X (d + 1) hT (Nat.le_refl 1) e3 (by omega) (hI _ (by omega)) (hI _ (by omega)) ?_
      refine v_mns X (d + 1) ?_
      refine hst _ _ _ _ _ _ (by omega) ?_ (Nat.sub_le _ _) ?_
      · rw [hhp]; exact (Nat.sub_add_cancel e3).symm
      · rw [hrp, ← hh]; rfl
    -- a sign of two
    have e3 : 2 ≤ hpN q k0 i := by
      have : ned c = 2 := by unfold ned; rw [if_neg h1, if_neg h2, if_neg h3, if_neg h4]
      omega
    rw [if_neg (by omega)]
    refine v_take X (d + 1) hT (by omega) e3 (by omega) (hI _ (by omega)) (hI _ (by omega)) ?_
    refine v_two X (d + 1) ⟨h8.1, by omega, h3⟩ hv ?_
    rintro x rfl
    refine hst _ _ _ _ _ _ (by omega) ?_ (Nat.sub_le _ _) ?_
    · rw [hhp]; unfold hsN; rw [if_neg h1, if_neg h2, if_neg h3, if_neg h4]; omega
    · rw [hrp]; unfold rsF; rw [if_neg h1, if_neg h2, if_neg h3, if_neg h4, hh]
theorem t_value (X : hX) (d : Nat) {I : Nat → Nat → Int32} {J : Nat → Nat → Int64} {R : Nat → Nat → Option Nat} {N : Nat → Nat} {G : hG} {o sg sk nl L : Nat} (hT : TxL R N o sg sk nl L) {k0 m : Nat} {q : Nat → Nat} {nm : Nat → Int32} (hk : k0 + m ≤ L) (hq : ∀ j, j < L → I sg j = nI (trS (q j))) (hW : WFp q k0 m) (hnm : ∀ j, j < 6 → I nl j = nm j) :
    TP X (d + 1) n_Text_value [.ref o, .int (nI k0), .int (nI (k0 + m))] (I, J, Rx R, N, G) (fun v M' => v = some (.int (sW nm q k0 m)) ∧ ∃ I', M' = (I', J, Rx R, N, G) ∧ Only [sk] I I') := by
  unfold TP
  refine XP_s rfl ?_
  refine XP_s rfl ?_
  refine XP_s rfl ?_
  refine XP_s rfl ?_
  exact l_value X d hT hk hq hW hnm _ m 0 I _ _ _ _ _ (Nat.zero_add m) Only.rf (fun j hj => absurd hj (Nat.not_lt_zero j))
theorem t_bounded (X : hX) (d : Nat) (v lo hi : Int32) (M : hM) : TP X d n_Text_bounded [.int v, .int lo, .int hi] M (Ret (.int (bnd lo hi v)) M) := by
  unfold TP bnd
  refine XP_s rfl ?_
  refine XP_s rfl ?_
  refine XP_s rfl ?_
  refine XP_dec (fun h => ?_) (fun h => ?_)
  · rw [if_neg (Int32.not_lt.mpr h)]
    refine XP_s rfl ?_
    refine XP_s rfl ?_
    refine XP_s rfl ?_
    refine XP_dec (fun h' => ?_) (fun h' => ?_)
    · rw [if_neg (Int32.not_lt.mpr h')]
      refine XP_s rfl ?_
      exact XP_ret rfl ⟨rfl, rfl⟩
    · rw [if_pos (Int32.not_le.mp h')]
      refine XP_s rfl ?_
      refine XP_s rfl ?_
      exact XP_ret rfl ⟨rfl, rfl⟩
  · rw [if_pos (Int32.not_le.mp h)]
    refine XP_s rfl ?_
    refine XP_s rfl ?_
    exact XP_ret rfl ⟨rfl, rfl⟩
