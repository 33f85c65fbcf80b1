section MORE
variable {y : Nat} {X : hX} {opq : Value} {adK adV : Nat → Nat} {scr : Nat} {D : va_G} {yA : Nat → ClassId} {A : Nat → Prop} {L0 : Nat → Nat} {dom0 : List Nat}
variable {p : Program} {l : Launch} {e : Env} {R : Room} {s : State} {m : MethodId} {args : Array Value} {below : List Frame} {meth : Method} {c : Code} {Q : State → Prop}
theorem kdL_ok : kdL.all (fun r => r.all (fun x => match x with
  | .inl c => decide (c < 12)
  | .inr t => decide (t < 9))) = true := by decide +kernel
theorem kd_row {k : Nat} (h : (kdL.getD (k / 16) []).getD (k % 16) (.inl 99) ≠ .inl 99) : ∃ r ∈ kdL, (kdL.getD (k / 16) []).getD (k % 16) (.inl 99) ∈ r := by
  cases h1 : kdL[k / 16]? with
  | none => exact absurd (by simp [List.getD, h1]) h
  | some r =>
    refine ⟨r, List.mem_of_getElem? h1, ?_⟩
    cases h2 : r[k % 16]? with
    | none => exact absurd (by simp [List.getD, h1, h2]) h
    | some x =>
      have e : (kdL.getD (k / 16) []).getD (k % 16) (.inl 99) = x := by simp [List.getD, h1, h2]
      rw [e]
      exact List.mem_of_getElem? h2
theorem kd_lt {k t : Nat} (h : kd k = .inr t) : t < 9 := by
  unfold kd at h
  cases h1 : Nat.blt k 1000 with
  | true =>
    rw [h1, cond_true] at h
    obtain ⟨r, hr, hm⟩ := kd_row (k := k) (by rw [h]; simp)
    rw [h] at hm
    have h2 := List.all_eq_true.mp (List.all_eq_true.mp kdL_ok r hr) _ hm
    simpa using h2
  | false =>
    rw [h1, cond_false] at h
    cases h2 : Nat.blt k 3000 <;> rw [h2] at h <;> simp only [cond_true, cond_false] at h
    · cases h3 : Nat.blt k 8000 <;> rw [h3] at h <;> simp only [cond_true, cond_false] at h
      · cases h
      · cases h4 : Nat.beq (k % 4) 0 <;> rw [h4] at h <;> simp only [cond_true, cond_false] at h <;> cases h <;> omega
    · cases h4 : Nat.beq (k % 2) 0 <;> rw [h4] at h <;> simp only [cond_true, cond_false] at h <;> cases h <;> omega
theorem cellA_ref {L : Nat → Nat} {M : hM} {k t : Nat} (h : 3 ≤ t) : cellA L M k t = .inr (.inr (.inr (.inr (fun j => (M.2.2.1 k j).map L)))) := by
  unfold cellA
  match t, h with
  | n + 3, _ => rfl
theorem aty_ref {t : Nat} (h : 3 ≤ t) (h9 : t < 9) : (aty t).isReference = true := by
  match t, h, h9 with
  | 3, _, _ => rfl
  | 4, _, _ => rfl
  | 5, _, _ => rfl
  | 6, _, _ => rfl
  | 7, _, _ => rfl
  | 8, _, _ => rfl
theorem acl_ok {t : Nat} (h9 : t < 9) (h : acl t < 12) : 3 ≤ t ∧ acl t < 12 ∧ aty t = .object (cnm (acl t)) := by
  match t, h9, h with
  | 0, _, h => exact absurd h (by decide)
  | 1, _, h => exact absurd h (by decide)
  | 2, _, h => exact absurd h (by decide)
  | 3, _, _ => exact ⟨by decide, by decide, rfl⟩
  | 4, _, _ => exact ⟨by decide, by decide, rfl⟩
  | 5, _, _ => exact ⟨by decide, by decide, rfl⟩
  | 6, _, _ => exact ⟨by decide, by decide, rfl⟩
  | 7, _, h => exact absurd h (by decide)
  | 8, _, h => exact absurd h (by decide)
theorem kd_lt12 {k ci : Nat} (h : kd k = .inl ci) (hk : k < 8000) : ci < 12 ∨ ci = 99 := by
  unfold kd at h
  cases h1 : Nat.blt k 1000 with
  | true =>
    rw [h1, cond_true] at h
    by_cases hc : ci = 99
    · exact Or.inr hc
    · obtain ⟨r, hr, hm⟩ := kd_row (k := k) (by rw [h]; simpa using hc)
      rw [h] at hm
      have h2 := List.all_eq_true.mp (List.all_eq_true.mp kdL_ok r hr) _ hm
      left
      simpa using h2
  | false =>
    rw [h1, cond_false] at h
    have h3 : Nat.blt k 8000 = true := by rw [Nat.blt_eq]; omega
    cases h2 : Nat.blt k 3000 <;> rw [h2] at h <;> simp only [cond_true, cond_false, h3] at h
    · cases h4 : Nat.beq (k % 4) 0 <;> rw [h4] at h <;> simp only [cond_true, cond_false] at h <;> cases h
      left; omega
    · cases h4 : Nat.beq (k % 2) 0 <;> rw [h4] at h <;> simp only [cond_true, cond_false] at h <;> cases h
      left; omega
theorem cpC_at {own : String} {ix : Nat} {n : String} (h : cpCh own ix n = true) : Cond.classLink own ix n ∈ lw_good := by
  obtain ⟨e, he, h1⟩ := List.any_eq_true.mp h
  simp only [Bool.and_eq_true, decide_eq_true_eq] at h1
  obtain ⟨⟨rfl, rfl⟩, rfl⟩ := h1
  exact good_mem (tbW_mem (of_decide_eq_true (List.all_eq_true.mp cpC_ok e he))) rfl
theorem cpS_at {own : String} {ix n : Nat} (h : cpSh own ix n = true) : Cond.methodLink own ix (spN n) ∈ lw_good := by
  obtain ⟨e, he, h1⟩ := List.any_eq_true.mp h
  simp only [Bool.and_eq_true, decide_eq_true_eq] at h1
  obtain ⟨⟨rfl, rfl⟩, rfl⟩ := h1
  exact good_mem (tbW_mem (of_decide_eq_true (List.all_eq_true.mp cpS_ok e he))) rfl
theorem inst_ok : (List.range 12).all (fun ci => decide (tbW (instPl.getD ci (0, 0)) = some (.instantiable (cnm ci) (cN ci))) && decide (tbW (initPl.getD ci (0, 0)) = some (.initialized (cnm ci)))) = true := by decide +kernel
theorem instOk {ci : Nat} (h : ci < 12) : Cond.instantiable (cnm ci) (cN ci) ∈ lw_good ∧ Cond.initialized (cnm ci) ∈ lw_good := by
  have h1 := List.all_eq_true.mp inst_ok ci (List.mem_range.mpr h)
  simp only [Bool.and_eq_true, decide_eq_true_eq] at h1
  exact ⟨good_mem (tbW_mem h1.1) rfl, good_mem (tbW_mem h1.2) rfl⟩
theorem dflt_ok {t : FieldType} {n : Nat} {L : Nat → Nat} {M : hM} {k j : Nat} (h : tyOk t n = true) (h1 : M.1 k j = 0) (h2 : M.2.1 k j = 0) (h3 : M.2.2.1 k j = none) : defaultValue t = fval L M k j n := by
  unfold tyOk at h
  split at h <;> first | (simp [fval, h1, h2, h3, defaultValue, va_rf]; done) | cases h
theorem acl_ne (t : Nat) : acl t ≠ 99 := by
  unfold acl
  split <;> decide
theorem bmp_in {G : hG} {n s : Nat} (hs : szG G) (ho : okn G n = true) : (∀ k, inD (bmp G n s) k ↔ (inD G k ∨ (nxt G ≤ k ∧ k < nxt G + n))) ∧ szG (bmp G n s) ∧ (∀ i, i < n → ¬ inD G (nxt G + i) ∧ nxt G + i < 8000) := by
  obtain ⟨z, c0, c1, c2, ns⟩ := G
  match z with
  | 0 =>
    simp only [szG, okn, Nat.ble_eq, bmp, inD, nxt] at *
    exact ⟨fun k => by omega, by omega, fun i hi => by omega⟩
  | 1 =>
    simp only [szG, okn, Nat.ble_eq, bmp, inD, nxt] at *
    exact ⟨fun k => by omega, by omega, fun i hi => by omega⟩
  | z + 2 =>
    simp only [szG, okn, Nat.ble_eq, bmp, inD, nxt] at *
    exact ⟨fun k => by omega, by omega, fun i hi => by omega⟩
theorem nxt_fresh {G : hG} {n i : Nat} (hs : szG G) (ho : okn G n = true) (hi : i < n) : ¬ inD G (nxt G + i) ∧ nxt G + i < 8000 := (bmp_in (s := 0) hs ho).2.2 i hi
/-- one new cell -/
theorem RM_push {L : Nat → Nat} {dom : List Nat} {M : hM} {H H1 : Heap} {locs : List Loc} {t sl : Nat} {cell : va_E} {N' : Nat → Nat} (hR : RM adK adV scr D yA A L0 dom0 s s.heap L dom M H locs) (hok : okn M.2.2.2.2 1 = true)
    (hN : ∀ k, k ≠ nxt M.2.2.2.2 → alen N' k = alen M.2.2.2.1 k)
    (hc : cellE yA (fun k => if k = nxt M.2.2.2.2 then t else L k) (rwR M.1 (nxt M.2.2.2.2) (fun _ => 0), rwR M.2.1 (nxt M.2.2.2.2) (fun _ => 0), rwR M.2.2.1 (nxt M.2.2.2.2) (fun _ => none), N', bmp M.2.2.2.2 1 sl) (nxt M.2.2.2.2) = cell)
    (a1 : va_P D vwCl (wsM yA L M dom ++ [(t, cell)]) H1) (a2 : va_D A (wsM yA L M dom ++ [(t, cell)])) (a3 : va_S A s.heap H1 locs) :
    RM adK adV scr D yA A L0 dom0 s s.heap (fun k => if k = nxt M.2.2.2.2 then t else L k) (dom ++ [nxt M.2.2.2.2]) (rwR M.1 (nxt M.2.2.2.2) (fun _ => 0), rwR M.2.1 (nxt M.2.2.2.2) (fun _ => 0), rwR M.2.2.1 (nxt M.2.2.2.2) (fun _ => none), N', bmp M.2.2.2.2 1 sl) H1 locs := by
  obtain ⟨hK, hP, hD, hS, hnd, hdm, hsz, hmem, hlab, hext⟩ := hR
  obtain ⟨b1, b2, b3⟩ := bmp_in (s := sl) hsz hok
  have hfr := b3 0 (by omega)
  simp only [Nat.add_zero] at hfr
  have hne : ∀ k ∈ dom, k ≠ nxt M.2.2.2.2 := fun k hk z => hfr.1 (by rw [← z]; exact (hdm k).mp hk)
  have hw : wsM yA (fun k => if k = nxt M.2.2.2.2 then t else L k) (rwR M.1 (nxt M.2.2.2.2) (fun _ => 0), rwR M.2.1 (nxt M.2.2.2.2) (fun _ => 0), rwR M.2.2.1 (nxt M.2.2.2.2) (fun _ => none), N', bmp M.2.2.2.2 1 sl) (dom ++ [nxt M.2.2.2.2]) = wsM yA L M dom ++ [(t, cell)] := by
    unfold wsM
    rw [List.map_append, List.map_cons, List.map_nil, hc]
    congr 1
    · apply List.map_congr_left
      intro k hk
      have h1 := hne k hk
      refine Prod.ext (by simp [h1]) ?_
      refine cell_congr (rwR_ne _ _ h1) (rwR_ne _ _ h1) (fun j => ?_) (hN k h1)
      dsimp only
      rw [rwR_ne _ _ h1]
      cases ha : M.2.2.1 k j with
      | none => rfl
      | some a => simp [hne a (hmem k hk j a ha)]
    · simp
  refine ⟨hK, by rw [hw]; exact a1, by rw [hw]; exact a2, a3, ?_, ?_, b2, ?_, ?_, ?_⟩
  · rw [List.nodup_append]
    exact ⟨hnd, List.nodup_cons.mpr ⟨List.not_mem_nil, List.nodup_nil⟩, fun a ha b hb => by
      rw [List.mem_singleton] at hb
      rw [hb]
      exact hne a ha⟩
  · intro k
    rw [b1 k, List.mem_append, List.mem_singleton, hdm k]
    constructor
    · rintro (h | rfl)
      · exact Or.inl h
      · exact Or.inr ⟨Nat.le_refl _, by omega⟩
    · rintro (h | h)
      · exact Or.inl h
      · exact Or.inr (by omega)
  · intro k hk j a ha
    rcases List.mem_append.mp hk with h | h
    · dsimp only at ha
      rw [rwR_ne _ _ (hne k h)] at ha
      exact List.mem_append_left _ (hmem k h j a ha)
    · rw [List.mem_singleton] at h
      subst h
      dsimp only at ha
      rw [rwR_at] at ha
      cases ha
  · refine ⟨fun i hi => ?_, ?_⟩
    · have e1 : 9000 + 2 * i ≠ nxt M.2.2.2.2 := by omega
      have e2 : 9000 + 2 * i + 1 ≠ nxt M.2.2.2.2 := by omega
      simp only [e1, e2, if_false]
      exact hlab.1 i hi
    · have e1 : 9900 ≠ nxt M.2.2.2.2 := by omega
      simp only [e1, if_false]
      exact hlab.2
  · intro k hk
    obtain ⟨h1, h2⟩ := hext k hk
    refine ⟨List.mem_append_left _ h1, ?_⟩
    simp only [hne k h1, if_false]
    exact h2
theorem st_aald (F : FR X opq adK adV scr y A p R s m args meth c) {pc len : Nat} {ls : List Value} {M : hM} {cells slots : Nat} {r : Instr} (hd : decode (mbytes y) (pcA y pc) = .ok (r, len)) {k t : Nat} {i : Int32} {st : List Value} (hkA : kd k = .inr t) (ht3 : 3 ≤ t) (hin : inB i (alen M.2.2.2.1 k) = true) (hk : lnk (mnm y).cls (mpcs y) pc (pcA y pc) len r (.aaload) = true) (k_ : PT X opq adK adV scr D yA A L0 dom0 p l e R s m args below meth c Q y (pc + 1) (ls) (va_rf (M.2.2.1 k i.toNatClampNeg) :: st) M (cells) (slots)) : PT X opq adK adV scr D yA A L0 dom0 p l e R s m args below meth c Q y (pc) (ls) (.int i :: .ref k :: st) M (cells) (slots) := by
  obtain ⟨⟨hx, hb, hret, hml, hown, hts, hlocks, hnm, hA⟩, ⟨hq, hvS, hvR, hZ1, hZ2, hvX, hscr, hscrA⟩, hr1, hr2, hao, haoL, haoI⟩ := id F
  simp only [lnk, Bool.and_eq_true, decide_eq_true_eq] at hk
  obtain ⟨⟨⟨hn, hnlt⟩, rfl⟩, rfl⟩ := hk
  have hn : pcA y (pc + 1) = pcA y pc + 1 := hn
  intro L dom H locs lsr hR hV ho
  obtain ⟨ho1, ho2⟩ := List.forall_mem_cons.mp ho
  obtain ⟨ho3, ho4⟩ := List.forall_mem_cons.mp ho2
  have hdk := dom_ofA (ho3 k rfl) hkA
  obtain ⟨q, hq1, he⟩ := ws_at (yA := yA) (L := L) (M := M) hdk
  unfold cellE at he
  rw [hkA] at he
  have ht9 : t < 9 := kd_lt hkA
  have hlt : i.toNatClampNeg < alen M.2.2.2.1 k := Nat.not_le.mp fun q => inB_in hin (Or.inr q)
  have hc : cellA L M k t = .inr (.inr (.inr (.inr (fun j => (M.2.2.1 k j).map L)))) := cellA_ref ht3
  have he : (wsM yA L M dom)[q]? = some (L k, .inl (yA t, alen M.2.2.2.1 k, .inr (.inr (.inr (.inr (fun j => (M.2.2.1 k j).map L)))))) := by rw [← hc]; exact he
  refine W.aald (v := cv opq L (va_rf (M.2.2.1 k i.toNatClampNeg))) (ty := aty t) hx hb (hR.2.1 q _ he) ((hR.1.2 t _ (tysL_at ht9)).1 _ (fun j => va_rf ((M.2.2.1 k j).map L))) (aty_ref ht3 ht9) (fun q => by cases q) (by show ¬ (i < 0 ∨ (arrV _ _ _).slots.size ≤ _); rw [arrV_size]; exact inB_in hin) (by show (arrV _ _ _).slots[_]? = _; rw [arrV_read _ _ hlt, rf_cv]) rfl rfl hd ?_
  have w := k_ L dom H locs lsr hR hV (List.forall_mem_cons.mpr ⟨rf_ok (fun a ha => hR.2.2.2.2.2.2.2.1 k hdk _ a ha), ho4⟩)
  rw [hn] at w
  exact w
theorem st_aast (F : FR X opq adK adV scr y A p R s m args meth c) {pc len : Nat} {ls : List Value} {M : hM} {cells slots : Nat} {r : Instr} (hd : decode (mbytes y) (pcA y pc) = .ok (r, len)) {k x t ci : Nat} {i : Int32} {st : List Value} (hkA : kd k = .inr t) (hkx : kd x = .inl ci) (hac : acl t = ci) (hin : inB i (alen M.2.2.2.1 k) = true) (hx8 : x < 8000) (hk : lnk (mnm y).cls (mpcs y) pc (pcA y pc) len r (.aastore) = true) (k_ : PT X opq adK adV scr D yA A L0 dom0 p l e R s m args below meth c Q y (pc + 1) (ls) (st) (M.1, M.2.1, rw2 M.2.2.1 k i.toNatClampNeg (some x), M.2.2.2) (cells) (slots)) : PT X opq adK adV scr D yA A L0 dom0 p l e R s m args below meth c Q y (pc) (ls) (.ref x :: .int i :: .ref k :: st) M (cells) (slots) := by
  obtain ⟨⟨hx, hb, hret, hml, hown, hts, hlocks, hnm, hA⟩, ⟨hq, hvS, hvR, hZ1, hZ2, hvX, hscr, hscrA⟩, hr1, hr2, hao, haoL, haoI⟩ := id F
  simp only [lnk, Bool.and_eq_true, decide_eq_true_eq] at hk
  obtain ⟨⟨⟨hn, hnlt⟩, rfl⟩, rfl⟩ := hk
  have hn : pcA y (pc + 1) = pcA y pc + 1 := hn
  intro L dom H locs lsr hR hV ho
  obtain ⟨ho1, ho2⟩ := List.forall_mem_cons.mp ho
  obtain ⟨-, ho2⟩ := List.forall_mem_cons.mp ho2
  obtain ⟨ho3, ho4⟩ := List.forall_mem_cons.mp ho2
  have hdk := dom_ofA (ho3 k rfl) hkA
  have hxd : x ∈ dom := (ho1 x rfl).elim id (fun h => absurd h (by omega))
  obtain ⟨hK, hP, hD, hS, hnd, hdm, hsz, hmem, hlab, hext⟩ := hR
  obtain ⟨q, hq1, he⟩ := ws_at (yA := yA) (L := L) (M := M) hdk
  obtain ⟨qx, hqx1, hex⟩ := ws_at (yA := yA) (L := L) (M := M) hxd
  unfold cellE at he hex
  rw [hkA] at he
  rw [hkx] at hex
  have ht9 : t < 9 := kd_lt hkA
  obtain ⟨ht3, hc12, hty⟩ := acl_ok ht9 ((kd_lt12 hkx hx8).elim (fun h => hac ▸ h) (fun h => absurd (hac.trans h) (acl_ne t)))
  have hc : cellA L M k t = .inr (.inr (.inr (.inr (fun j => (M.2.2.1 k j).map L)))) := cellA_ref ht3
  have he : (wsM yA L M dom)[q]? = some (L k, .inl (yA t, alen M.2.2.2.1 k, .inr (.inr (.inr (.inr (fun j => (M.2.2.1 k j).map L)))))) := by rw [← hc]; exact he
  rw [hac] at hc12 hty
  refine va_astq hx hb hK hP hD hS q t qx ci he (by rw [tysL_at ht9, hty]) hex (cl_at hc12) (inB_in hin) hd (fun H1 locs1 a1 a2 a3 => ?_)
  rw [ws_set (yA := yA) (L := L) (M := M) (M' := (M.1, M.2.1, rw2 M.2.2.1 k i.toNatClampNeg (some x), M.2.2.2)) hnd hq1 (by
    unfold cellE
    rw [hkA]
    simp only [cellA_ref ht3, rw2_row]
    congr 7
    funext j
    by_cases e1 : j = i.toNatClampNeg
    · subst e1; simp [va_up]
    · simp [va_up, e1]) (fun k1 _ hk1 => cell_congr (by rfl) (by rfl) (fun j => by simp [rw2_ne _ _ _ hk1]) rfl)] at a1 a2
  rw [← hn]
  refine k_ L dom H1 locs1 lsr ⟨hK, a1, a2, a3, hnd, hdm, hsz, fun k1 hk1 j a ha => ?_, hlab, hext⟩ hV ho4
  dsimp only at ha
  by_cases e1 : k1 = k
  · subst e1
    by_cases e2 : j = i.toNatClampNeg
    · subst e2
      rw [rw2_at] at ha
      cases ha
      exact hxd
    · rw [rw2_nj _ _ _ e2] at ha
      exact hmem k1 hk1 j a ha
  · rw [rw2_ne _ _ _ e1] at ha
    exact hmem k1 hk1 j a ha
theorem st_alen (F : FR X opq adK adV scr y A p R s m args meth c) {pc len : Nat} {ls : List Value} {M : hM} {cells slots : Nat} {r : Instr} (hd : decode (mbytes y) (pcA y pc) = .ok (r, len)) {k t : Nat} {st : List Value} (hkA : kd k = .inr t) (hk : lnk (mnm y).cls (mpcs y) pc (pcA y pc) len r (.arraylength) = true) (k_ : PT X opq adK adV scr D yA A L0 dom0 p l e R s m args below meth c Q y (pc + 1) (ls) (.int (nI (alen M.2.2.2.1 k)) :: st) M (cells) (slots)) : PT X opq adK adV scr D yA A L0 dom0 p l e R s m args below meth c Q y (pc) (ls) (.ref k :: st) M (cells) (slots) := by
  obtain ⟨⟨hx, hb, hret, hml, hown, hts, hlocks, hnm, hA⟩, ⟨hq, hvS, hvR, hZ1, hZ2, hvX, hscr, hscrA⟩, hr1, hr2, hao, haoL, haoI⟩ := id F
  simp only [lnk, Bool.and_eq_true, decide_eq_true_eq] at hk
  obtain ⟨⟨⟨hn, hnlt⟩, rfl⟩, rfl⟩ := hk
  have hn : pcA y (pc + 1) = pcA y pc + 1 := hn
  intro L dom H locs lsr hR hV ho
  obtain ⟨ho3, ho4⟩ := List.forall_mem_cons.mp ho
  obtain ⟨q, hq1, he⟩ := ws_at (yA := yA) (L := L) (M := M) (dom_ofA (ho3 k rfl) hkA)
  unfold cellE at he
  rw [hkA] at he
  refine va_alen hx hb hR.1 hR.2.1 q t he (tysL_at (kd_lt hkA)) (v := nI (alen M.2.2.2.1 k)) rfl hd ?_
  rw [← hn]
  exact k_ L dom H locs lsr hR hV (List.forall_mem_cons.mpr ⟨of_eq_true (okI _ _), ho4⟩)
theorem st_new (F : FR X opq adK adV scr y A p R s m args meth c) {pc len : Nat} {ls : List Value} {M : hM} {cells slots : Nat} {r : Instr} (hd : decode (mbytes y) (pcA y pc) = .ok (r, len)) {ci : Nat} {st : List Value} (hok : okn M.2.2.2.2 1 = true) (hkO : isO (nxt M.2.2.2.2) ci = true) (hrc : cells + 1 ≤ R.cells) (hrs : slots + nf ci ≤ R.slots) (hk : lnk (mnm y).cls (mpcs y) pc (pcA y pc) len r (.new ci) = true) (k_ : PT X opq adK adV scr D yA A L0 dom0 p l e R s m args below meth c Q y (pc + 1) (ls) (.ref (nxt M.2.2.2.2) :: st) (rwR M.1 (nxt M.2.2.2.2) (fun _ => 0), rwR M.2.1 (nxt M.2.2.2.2) (fun _ => 0), rwR M.2.2.1 (nxt M.2.2.2.2) (fun _ => none), M.2.2.2.1, bmp M.2.2.2.2 1 (nf ci)) (cells + 1) (slots + nf ci)) : PT X opq adK adV scr D yA A L0 dom0 p l e R s m args below meth c Q y (pc) (ls) (st) M (cells) (slots) := by
  obtain ⟨⟨hx, hb, hret, hml, hown, hts, hlocks, hnm, hA⟩, ⟨hq, hvS, hvR, hZ1, hZ2, hvX, hscr, hscrA⟩, hr1, hr2, hao, haoL, haoI⟩ := id F
  simp only [lnk, Bool.and_eq_true, decide_eq_true_eq] at hk
  obtain ⟨⟨hn, hnlt⟩, hk⟩ := hk
  have hn : pcA y (pc + 1) = pcA y pc + len := hn
  split at hk <;> (try (cases hk; done))
  simp only [Bool.and_eq_true, decide_eq_true_eq] at hk
  obtain ⟨⟨rfl, hc⟩, h12⟩ := hk
  intro L dom H locs lsr hR hV ho
  have hRR := hR
  obtain ⟨hK, hP, hD, hS, hnd, hdm, hsz, hmem, hlab, hext⟩ := hR
  have hN := cl_N h12
  obtain ⟨p1, p2⟩ := instOk h12
  refine va_new (ci := ci) (fs := (List.range (nf ci)).map (fun j => fval L (rwR M.1 (nxt M.2.2.2.2) (fun _ => 0), rwR M.2.1 (nxt M.2.2.2.2) (fun _ => 0), rwR M.2.2.1 (nxt M.2.2.2.2) (fun _ => none), M.2.2.2.1, bmp M.2.2.2.2 1 (nf ci)) (nxt M.2.2.2.2) j (fk ci j))) hx hb hts (cl_in h12) (fty ci) (fun i hi => (cl_ty h12 hi).1) hown (hts _ (cpC_at hc)) (hts _ p1) (hts _ p2) hK hP hD hS hA (cl_at h12) (fun j hj => ?_) hrc (by rw [← hN]; exact hrs) hd (fun q H1 a1 a2 a3 => ?_)
  · unfold vp_V
    rw [List.getD, List.getElem?_map, List.getElem?_range (by rw [hN]; exact hj)]
    show _ = fval L _ _ _ _
    exact dflt_ok (cl_ty h12 hj).2 (by simp [rwR_at]) (by simp [rwR_at]) (by simp [rwR_at])
  · have hfr := nxt_fresh (i := 0) hsz hok (by omega)
    simp only [Nat.add_zero] at hfr
    have hL : ∀ k, inL dom k → (fun k => if k = nxt M.2.2.2.2 then q else L k) k = L k := fun k hk => by
      have : k ≠ nxt M.2.2.2.2 := fun z => by
        subst z
        rcases hk with h | h | h
        · exact hfr.1 ((hdm _).mp h)
        · omega
        · omega
      simp [this]
    have hR' := RM_push (t := q) (cell := .inr (ci, (List.range (nf ci)).map (fun j => fval L (rwR M.1 (nxt M.2.2.2.2) (fun _ => 0), rwR M.2.1 (nxt M.2.2.2.2) (fun _ => 0), rwR M.2.2.1 (nxt M.2.2.2.2) (fun _ => none), M.2.2.2.1, bmp M.2.2.2.2 1 (nf ci)) (nxt M.2.2.2.2) j (fk ci j)))) hRR hok (sl := nf ci) (N' := M.2.2.2.1) (fun k _ => rfl) (by
      unfold cellE
      rw [isO_kd hkO]
      simp only
      congr 2
      apply List.map_congr_left
      intro j _
      unfold fval
      split <;> simp [rwR_at]) a1 a2 a3
    have w := k_ (fun k => if k = nxt M.2.2.2.2 then q else L k) (dom ++ [nxt M.2.2.2.2]) H1 locs lsr hR' (hV.ext (fun k hk => List.mem_append_left _ hk) hL) (List.forall_mem_cons.mpr ⟨fun k hk => by cases hk; exact Or.inl (List.mem_append_right _ List.mem_cons_self), fun v hv => okV_mono (fun k hk => List.mem_append_left _ hk) (ho v hv)⟩)
    rw [hn, List.map_cons, cv_map hL ho] at w
    rw [← hN]
    simpa [cv] using w
end MORE
