section SOUND2
theorem mono_put {G : hG} {n s : Nat} : nc G ≤ nc (bmp G n s) ∧ ns G ≤ ns (bmp G n s) := by
  rw [(nc_bmp G n s).1, (nc_bmp G n s).2]
  exact ⟨Nat.le_add_right _ _, Nat.le_add_right _ _⟩
theorem pushO_G {pc : Nat} {ls r : List Value} {M : hM} {v : Option Value} {q : hC} (h : pushO pc ls r M v = some q) : q.2.2.2 = M := by
  obtain ⟨w, -, rfl⟩ := pushO_ok h
  rfl
theorem strI_G {X : hX} {n pc : Nat} {ls st : List Value} {M : hM} {q : hC} (h : strI X n pc ls st M = some q) : q.2.2.2 = M := by
  unfold strI at h
  split at h <;> first | (cases h; done) | (obtain ⟨-, h2⟩ := cond_some h; subst h2; rfl)
theorem sstep_mono {X : hX} {i : Instr} {pc : Nat} {ls st : List Value} {M : hM} {q : hC} (h : sstep X i pc ls st M = some q) : nc M.2.2.2.2 ≤ nc q.2.2.2.2.2.2.2 ∧ ns M.2.2.2.2 ≤ ns q.2.2.2.2.2.2.2 := by
  have key : q.2.2.2 = M → nc M.2.2.2.2 ≤ nc q.2.2.2.2.2.2.2 ∧ ns M.2.2.2.2 ≤ ns q.2.2.2.2.2.2.2 := fun e => by rw [e]; exact ⟨Nat.le_refl _, Nat.le_refl _⟩
  unfold sstep at h
  split at h
  all_goals first
    | exact key (pushO_G h)
    | exact key (strI_G h)
    | skip
  all_goals (try simp only [Bool.cond_eq_ite] at h)
  all_goals (repeat' (split at h))
  all_goals first
    | (cases h; done)
    | exact key (pushO_G h)
    | (cases h; exact ⟨Nat.le_refl _, Nat.le_refl _⟩)
    | (cases h; exact mono_put)
    | (cases h; exact mono_put (G := zs _ _))
    | (rename_i hmk; cases h; obtain ⟨-, -, -, -, -, rfl⟩ := mkA_ok hmk; exact mono_put)
    | (rename_i hmk _; cases h; obtain ⟨-, -, -, -, -, rfl⟩ := mkA_ok hmk; exact mono_put)
theorem bif_some {α : Type} {b : Bool} {x : Option α} {y : α} (h : (bif b then x else none) = some y) : b = true ∧ x = some y := by
  cases b
  · cases h
  · exact ⟨rfl, h⟩
theorem exec_mono {X : hX} : ∀ (n d : Nat) (C : List Instr) (pc : Nat) (ls st : List Value) (M : hM) (v : Option Value) (M' : hM), exec X n d C pc ls st M = some (v, M') → nc M.2.2.2.2 ≤ nc M'.2.2.2.2 ∧ ns M.2.2.2.2 ≤ ns M'.2.2.2.2
  | 0, _, _, _, _, _, _, _, _, h => by cases h
  | n + 1, d, C, pc, ls, st, M, v, M', h => by
    unfold exec at h
    split at h
    · split at h
      · cases h
      · obtain ⟨-, h⟩ := bif_some h
        split at h
        · rename_i v1 M1 h1
          have a := exec_mono n _ _ _ _ _ _ _ _ h1
          have b := exec_mono n _ _ _ _ _ _ _ _ h
          exact ⟨Nat.le_trans a.1 b.1, Nat.le_trans a.2 b.2⟩
        · cases h
    · split at h
      · cases h
        exact ⟨Nat.le_refl _, Nat.le_refl _⟩
      · split at h
        · rename_i h1
          have a := sstep_mono h1
          have b := exec_mono n _ _ _ _ _ _ _ _ h
          exact ⟨Nat.le_trans a.1 b.1, Nat.le_trans a.2 b.2⟩
        · cases h
theorem iniA_len {opq : Value} {L : Nat → Nat} (hq : opq.category = 1) : ∀ as : List Value, (lg_sl (as.map (cv opq L))).length = (iniA as).length
  | [] => rfl
  | v :: r => by
    have ih := iniA_len (L := L) hq r
    unfold lg_sl at ih ⊢
    rw [List.map_cons, List.flatMap_cons, List.length_append, ih, cv_cat hq]
    cases hc : cat2 v <;> simp [iniA, hc] <;> omega
theorem iniA_args {opq : Value} {L : Nat → Nat} (hq : opq.category = 1) : ∀ (as : List Value) (i j : Nat) (w : Value), (iniA as)[j]? = some w → w ≠ xj → (i + j, cv opq L w) ∈ lv_args i (as.map (cv opq L))
  | [], _, j, w, h, _ => by simp [iniA] at h
  | v :: r, i, j, w, h, hx => by
    rw [List.map_cons]
    unfold lv_args
    rw [cv_cat hq]
    cases hc : cat2 v with
    | false =>
      simp only [iniA, hc] at h
      cases j with
      | zero => rw [List.getElem?_cons_zero] at h; cases h; exact List.mem_cons_self
      | succ j =>
        rw [List.getElem?_cons_succ] at h
        have := iniA_args (L := L) hq r (i + 1) j w h hx
        rw [show i + (j + 1) = i + 1 + j by omega]
        exact List.mem_cons_of_mem _ (by simpa using this)
    | true =>
      simp only [iniA, hc] at h
      cases j with
      | zero => rw [List.getElem?_cons_zero] at h; cases h; exact List.mem_cons_self
      | succ j =>
        rw [List.getElem?_cons_succ] at h
        cases j with
        | zero => rw [List.getElem?_cons_zero] at h; cases h; exact absurd rfl hx
        | succ j =>
          rw [List.getElem?_cons_succ] at h
          have := iniA_args (L := L) hq r (i + 2) j w h hx
          rw [show i + (j + 1 + 1) = i + 2 + j by omega]
          exact List.mem_cons_of_mem _ (by simpa using this)
theorem iniA_mem : ∀ (as : List Value) (w : Value), w ∈ iniA as → w ∈ as ∨ w = xj
  | [], w, h => by simp [iniA] at h
  | v :: r, w, h => by
    cases hc : cat2 v <;> simp only [iniA, hc, List.mem_cons] at h
    · rcases h with rfl | h
      · exact Or.inl List.mem_cons_self
      · exact (iniA_mem r w h).imp (List.mem_cons_of_mem _) id
    · rcases h with rfl | rfl | h
      · exact Or.inl List.mem_cons_self
      · exact Or.inr rfl
      · exact (iniA_mem r w h).imp (List.mem_cons_of_mem _) id
theorem LV_ini {opq : Value} {L : Nat → Nat} {dom : List Nat} {ls : Array Slot} {n : Nat} {as : List Value} (hq : opq.category = 1) (hl : (iniA as).length ≤ n) (ho : ∀ v ∈ as, okV dom v) (h : lv_has ls n (lv_args 0 (as.map (cv opq L)))) : LV opq L dom ls n (ini n as) := by
  refine ⟨lv_mono h fun q hqm => ?_, ?_, fun v hv => ?_⟩
  · obtain ⟨w, hw, hx, he⟩ := mem_lvl.mp hqm
    unfold ini at hw
    by_cases hj : q.1 < (iniA as).length
    · rw [List.getElem?_append_left hj] at hw
      have := iniA_args (L := L) hq as 0 q.1 w hw hx
      rw [Nat.zero_add] at this
      rw [show q = (q.1, cv opq L w) from Prod.ext rfl he]
      exact this
    · rw [List.getElem?_append_right (by omega)] at hw
      exact absurd (List.eq_of_mem_replicate (List.mem_of_getElem? hw)) hx
  · unfold ini
    rw [List.length_append, List.length_replicate]
    omega
  · unfold ini at hv
    rcases List.mem_append.mp hv with h1 | h1
    · rcases iniA_mem as v h1 with h2 | h2
      · exact ho v h2
      · rw [h2]; exact xj_ok dom
    · rw [List.eq_of_mem_replicate h1]; exact xj_ok dom
/-- what stands behind a method: the memory M', the answer v -/
def QF (opq : Value) (adK adV : Nat → Nat) (scr : Nat) (D : va_G) (yA : Nat → ClassId) (A : Nat → Prop) (L0 : Nat → Nat) (dom0 : List Nat) (M' : hM) (v : Option Value) : Array Value → State → Outcome → State → Prop := fun _ st oc t =>
  (∃ (L : Nat → Nat) (dom : List Nat), oc = .returned (v.map (cv opq L)) ∧ va_P D vwCl (wsM yA L M' dom) t.heap ∧ va_D A (wsM yA L M' dom) ∧ dom.Nodup ∧ (∀ k, k ∈ dom ↔ inD M'.2.2.2.2 k) ∧ szG M'.2.2.2.2 ∧ (∀ k ∈ dom, ∀ j a, M'.2.2.1 k j = some a → a ∈ dom) ∧ labL adK adV scr L ∧ (∀ k ∈ dom0, k ∈ dom ∧ L k = L0 k) ∧ (∀ w, v = some w → okV dom w)) ∧ va_F A st t
variable {y : Nat} {X : hX} {opq : Value} {adK adV : Nat → Nat} {scr : Nat} {D : va_G} {yA : Nat → ClassId} {A : Nat → Prop} {L0 : Nat → Nat} {dom0 : List Nat}
variable {p : Program} {l : Launch} {e : Env} {R : Room} {s : State} {m : MethodId} {args : Array Value} {below : List Frame} {meth : Method} {c : Code} {Q : State → Prop}
theorem qf_of {L : Nat → Nat} {dom : List Nat} {M : hM} {H : Heap} {locs : List Loc} {v : Option Value} {t : State} (hR : RM adK adV scr D yA A L0 dom0 s s.heap L dom M H locs) (hv : ∀ w, v = some w → okV dom w) (ht : t.heap = H) : QF opq adK adV scr D yA A L0 dom0 M v args s (.returned (v.map (cv opq L))) t := by
  obtain ⟨hK, hP, hD, hS, hnd, hdm, hsz, hmem, hlab, hext⟩ := hR
  exact ⟨⟨L, dom, rfl, by rw [ht]; exact hP, hD, hnd, hdm, hsz, hmem, hlab, hext, hv⟩, hS.F ht⟩
theorem nar_byte : ∀ j, j < 128 → narrow .byte (.int (nI j)) = .int (nI j) := by decide +kernel
theorem ret_ok (F : FR X opq adK adV scr y A p R s m args meth c) {pc len : Nat} {ls : List Value} {M : hM} {cells slots : Nat} {r ir : Instr} (hd : decode (mbytes y) (pcA y pc) = .ok (r, len)) (hk : lnk (mnm y).cls (mpcs y) pc (pcA y pc) len r ir = true) (hro : retOk y ir = true)
    {st : List Value} {v : Option Value} (h : retV ir st = some v) : PT X opq adK adV scr D yA A L0 dom0 p l e R s m args below meth c (MQ below (QF opq adK adV scr D yA A L0 dom0 M v) args s cells slots A) y pc ls st M cells slots := by
  obtain ⟨⟨hx, hb, hret, hml, hown, hts, hlocks, hnm, hA⟩, -⟩ := F
  intro L dom H locs lsr hR hV ho
  have hloc : ∀ q ∈ locs, A q.base := hR.2.2.2.1.2.2
  unfold retV at h
  split at h <;> first | (cases h; done) | skip
  · cases h
    simp only [lnk, Bool.and_eq_true, decide_eq_true_eq] at hk
    obtain ⟨rfl, rfl⟩ := hk
    simp only [retOk, decide_eq_true_eq] at hro
    exact W.iret hx hb (hret.trans hro) (fun t ht _ => qf_of hR (fun w hw => by cases hw; exact ho _ List.mem_cons_self) ht) hloc hd hlocks
  · obtain ⟨h1, h2⟩ := cond_some h
    cases h2
    simp only [lnk] at hk
    split at hk <;> first | (cases hk; done) | skip
    simp only [Bool.and_eq_true, decide_eq_true_eq] at hk
    obtain ⟨rfl, -⟩ := hk
    simp only [retOk] at hro
    split at hro <;> first | (cases hro; done) | skip
    all_goals first | omega | skip
    rename_i hr
    refine W.zret hx hb (hret.trans hr) ?_ (fun t ht _ => qf_of hR (fun w hw => by cases hw; exact ho _ List.mem_cons_self) ht) hloc hd hlocks
    rcases or01 h1 with rfl | rfl <;> decide
  · obtain ⟨h1, h2⟩ := cond_some h
    cases h2
    simp only [lnk] at hk
    split at hk <;> first | (cases hk; done) | skip
    simp only [Bool.and_eq_true, decide_eq_true_eq] at hk
    obtain ⟨rfl, -⟩ := hk
    simp only [retOk] at hro
    split at hro <;> first | (cases hro; done) | skip
    all_goals first | omega | skip
    rename_i hr
    refine W.zret hx hb (hret.trans hr) ?_ (fun t ht _ => qf_of hR (fun w hw => by cases hw; exact ho _ List.mem_cons_self) ht) hloc hd hlocks
    obtain ⟨j, hj, rfl⟩ := vp_in_of (inB_in h1) (by omega)
    exact (pk_charN hj).1
  · obtain ⟨h1, h2⟩ := cond_some h
    cases h2
    simp only [lnk] at hk
    split at hk <;> first | (cases hk; done) | skip
    simp only [Bool.and_eq_true, decide_eq_true_eq] at hk
    obtain ⟨rfl, -⟩ := hk
    simp only [retOk] at hro
    split at hro <;> first | (cases hro; done) | skip
    all_goals first | omega | skip
    rename_i hr
    refine W.zret hx hb (hret.trans hr) ?_ (fun t ht _ => qf_of hR (fun w hw => by cases hw; exact ho _ List.mem_cons_self) ht) hloc hd hlocks
    obtain ⟨j, hj, rfl⟩ := vp_in_of (inB_in h1) (by omega)
    exact nar_byte j hj
  · cases h
    simp only [lnk, Bool.and_eq_true, decide_eq_true_eq] at hk
    obtain ⟨rfl, rfl⟩ := hk
    simp only [retOk, decide_eq_true_eq] at hro
    exact W.lret hx hb (hret.trans hro) (fun t ht _ => qf_of hR (fun w hw => by cases hw; exact ho _ List.mem_cons_self) ht) hloc hd hlocks
  · cases h
    simp only [lnk, Bool.and_eq_true, decide_eq_true_eq] at hk
    obtain ⟨rfl, rfl⟩ := hk
    simp only [retOk] at hro
    split at hro <;> first | (cases hro; done) | skip
    · rename_i n hr
      exact W.aret hx hb (hret.trans hr) (Or.inl ⟨_, rfl⟩) (Or.inr ⟨_, rfl⟩) (fun t ht _ => qf_of (v := some (.ref _)) hR (fun w hw => by cases hw; exact ho _ List.mem_cons_self) ht) hloc hd hlocks
    · rename_i n hr
      exact W.aret hx hb (hret.trans hr) (Or.inr ⟨_, rfl⟩) (Or.inr ⟨_, rfl⟩) (fun t ht _ => qf_of (v := some (.ref _)) hR (fun w hw => by cases hw; exact ho _ List.mem_cons_self) ht) hloc hd hlocks
  · cases h
    simp only [lnk, Bool.and_eq_true, decide_eq_true_eq] at hk
    obtain ⟨rfl, rfl⟩ := hk
    simp only [retOk] at hro
    split at hro <;> first | (cases hro; done) | skip
    · rename_i n hr
      exact W.aret hx hb (hret.trans hr) (Or.inl ⟨_, rfl⟩) (Or.inl rfl) (fun t ht _ => qf_of (v := some .null) hR (fun w hw => by cases hw; exact ho _ List.mem_cons_self) ht) hloc hd hlocks
    · rename_i n hr
      exact W.aret hx hb (hret.trans hr) (Or.inr ⟨_, rfl⟩) (Or.inl rfl) (fun t ht _ => qf_of (v := some .null) hR (fun w hw => by cases hw; exact ho _ List.mem_cons_self) ht) hloc hd hlocks
  · cases h
    simp only [lnk, Bool.and_eq_true, decide_eq_true_eq] at hk
    obtain ⟨rfl, rfl⟩ := hk
    simp only [retOk, decide_eq_true_eq] at hro
    exact W.vret hx hb (hret.trans hro) (fun t ht _ => qf_of (v := none) hR (fun w hw => by cases hw) ht) hloc hd hlocks
end SOUND2
