section MORE2
variable {y : Nat} {X : hX} {opq : Value} {adK adV : Nat → Nat} {scr : Nat} {D : va_G} {yA : Nat → ClassId} {A : Nat → Prop} {L0 : Nat → Nat} {dom0 : List Nat}
variable {p : Program} {l : Launch} {e : Env} {R : Room} {s : State} {m : MethodId} {args : Array Value} {below : List Frame} {meth : Method} {c : Code} {Q : State → Prop}
theorem oi_inst : Cond.instanceMethod Lib.objectInit ∈ lw_good := good_mem (tbW_mem (q := (1, 26)) (by decide +kernel)) rfl
theorem oi_code : Cond.code Lib.objectInit ⟨#[0xb1]⟩ 1 none ∈ lw_good := good_mem (tbW_mem (q := (1, 27)) (by decide +kernel)) rfl
theorem mi_init : Cond.initialized "java/lang/Math" ∈ lw_good := good_mem (tbW_mem (q := (1, 17)) (by decide +kernel)) rfl
theorem max_st : Cond.static Lib.Math.max.name ∈ lw_good := good_mem (tbW_mem (q := (3, 233)) (by decide +kernel)) rfl
theorem max_code : Cond.code Lib.Math.max.name Lib.Math.max.code 2 (some .int) ∈ lw_good := good_mem (tbW_mem (q := (3, 234)) (by decide +kernel)) rfl
theorem min_st : Cond.static Lib.Math.min.name ∈ lw_good := good_mem (tbW_mem (q := (3, 34)) (by decide +kernel)) rfl
theorem min_code : Cond.code Lib.Math.min.name Lib.Math.min.code 2 (some .int) ∈ lw_good := good_mem (tbW_mem (q := (3, 35)) (by decide +kernel)) rfl
theorem abs_st : Cond.static Lib.MathLoose.abs_long.x ∈ lw_good := good_mem (tbW_mem (q := (4, 15)) (by decide +kernel)) rfl
theorem abs_code : Cond.code Lib.MathLoose.abs_long.x Lib.MathLoose.abs_long.code 2 (some .long) ∈ lw_good := good_mem (tbW_mem (q := (4, 16)) (by decide +kernel)) rfl
theorem maxl_st : Cond.static Lib.MathLoose.max_long.x ∈ lw_good := good_mem (tbW_mem (q := (5, 54)) (by decide +kernel)) rfl
theorem maxl_code : Cond.code Lib.MathLoose.max_long.x Lib.MathLoose.max_long.code 4 (some .long) ∈ lw_good := good_mem (tbW_mem (q := (5, 55)) (by decide +kernel)) rfl
theorem s_sval : Cond.fieldLink "java/lang/String" 9 "java/lang/String" "value" "[B" ∈ lw_good := good_mem (tbW_mem (q := (8, 125)) (by decide +kernel)) rfl
theorem s_scod : Cond.fieldLink "java/lang/String" 15 "java/lang/String" "coder" "B" ∈ lw_good := good_mem (tbW_mem (q := (8, 126)) (by decide +kernel)) rfl
theorem s_comp : Cond.fieldLink "java/lang/String" 38 "java/lang/String" "COMPACT_STRINGS" "Z" ∈ lw_good := good_mem (tbW_mem (q := (2, 135)) (by decide +kernel)) rfl
theorem s_sio : Cond.fieldLink "java/lang/String" 1053 "jdk/internal/util/Preconditions" "SIOOBE_FORMATTER" "Ljava/util/function/BiFunction;" ∈ lw_good := good_mem (tbW_mem (q := (2, 151)) (by decide +kernel)) rfl
theorem ar_int : Cond.arrayClass .int ∈ lw_good := good_mem (tbW_mem (q := (1, 108)) (by decide +kernel)) rfl
theorem ar_long : Cond.arrayClass .long ∈ lw_good := good_mem (tbW_mem (q := (2, 36)) (by decide +kernel)) rfl
theorem ar_bool : Cond.arrayClass .boolean ∈ lw_good := good_mem (tbW_mem (q := (1, 206)) (by decide +kernel)) rfl
theorem ac_nat : Cond.native arraycopyName ∈ lw_good := good_mem (tbW_mem (q := (3, 38)) (by decide +kernel)) rfl
theorem ac_st : Cond.static arraycopyName ∈ lw_good := good_mem (tbW_mem (q := (3, 37)) (by decide +kernel)) rfl
theorem ac_init : Cond.initialized "java/lang/System" ∈ lw_good := good_mem (tbW_mem (q := (1, 18)) (by decide +kernel)) rfl
theorem catS_map {opq : Value} {L : Nat → Nat} (hq : opq.category = 1) : ∀ st : List Value, ((st.map (cv opq L)).map fun v => v.category).sum = catS st
  | [] => rfl
  | v :: r => by
    rw [List.map_cons, List.map_cons, List.sum_cons, catS_map hq r, cv_cat hq]
    rfl
theorem stlen {i : Nat} (hi : i < 13) : (stL.map List.length).getD i 0 = (stL.getD i []).length := by
  have h : (List.range 13).all (fun i => decide ((stL.map List.length).getD i 0 = (stL.getD i []).length)) = true := by decide +kernel
  exact of_decide_eq_true (List.all_eq_true.mp h i (List.mem_range.mpr hi))
def zcell (t : Nat) : (Nat → Int32) ⊕ (Nat → Int64) ⊕ (Nat → UInt32) ⊕ (Nat → UInt64) ⊕ (Nat → Option Nat) := match t with
  | 0 => .inl (fun _ => 0)
  | 2 => .inl (fun _ => 0)
  | 1 => .inr (.inl (fun _ => 0))
  | _ => .inr (.inr (.inr (.inr (fun _ => none))))
theorem zcell_ok {L : Nat → Nat} {M : hM} {k t : Nat} (h : t < 9) (h1 : M.1 k = fun _ => 0) (h2 : M.2.1 k = fun _ => 0) (h3 : M.2.2.1 k = fun _ => none) : cellA L M k t = zcell t := by
  unfold cellA zcell
  split <;> simp [h1, h2, h3]
theorem mkA_ok {N N' : Nat → Nat} {G G' : hG} {t n : Nat} (h : mkA N G t n = some (N', G')) : okn G 1 = true ∧ kd (nxt G) = .inr t ∧ n ≤ 65536 ∧ alen N' (nxt G) = n ∧ (∀ k, k ≠ nxt G → alen N' k = alen N k) ∧ G' = bmp G 1 n := by
  unfold mkA at h
  cases hc : (okn G 1 && isA (nxt G) t && Nat.ble n 65536) with
  | false => rw [hc] at h; cases h
  | true =>
    rw [hc, cond_true] at h
    simp only [Bool.and_eq_true, Nat.ble_eq] at hc
    obtain ⟨⟨h1, h2⟩, h3⟩ := hc
    refine ⟨h1, isA_kd h2, h3, ?_⟩
    cases hl : Nat.blt (nxt G) 3000 with
    | true =>
      rw [hl, cond_true] at h
      cases hs : Nat.beq (slen (nxt G)) n with
      | false => rw [hs] at h; cases h
      | true =>
        rw [hs] at h
        cases h
        exact ⟨by unfold alen; rw [hl]; exact Nat.eq_of_beq_eq_true hs, fun k _ => rfl, rfl⟩
    | false =>
      rw [hl] at h
      cases h
      refine ⟨by unfold alen; rw [hl]; simp, fun k hk => ?_, rfl⟩
      unfold alen
      simp [hk]
theorem ato_ok {a : ArrayType} {t : Nat} (h : ato a = some t) : t < 9 ∧ newarray.typeOf a = aty t ∧ Cond.arrayClass (newarray.typeOf a) ∈ lw_good ∧ (∀ cA n, vp_cell cA (n, zcell t) = arrV cA n (fun _ => defaultValue (aty t))) ∧ componentBytes (aty t) ≤ 8 := by
  cases a <;> first | (cases h; done) | cases h
  · exact ⟨by decide, rfl, ar_bool, fun _ _ => rfl, by decide⟩
  · exact ⟨by decide, rfl, ar_int, fun _ _ => rfl, by decide⟩
  · exact ⟨by decide, rfl, ar_long, fun _ _ => rfl, by decide⟩
theorem inB_nn {n : Int32} {k : Nat} (h : inB n k = true) : ¬ n < 0 := by
  simp only [inB, Bool.and_eq_true, decide_eq_true_eq] at h
  intro z
  have := Int32.lt_iff_toInt_lt.mp z
  simp at this
  omega
theorem RA_inj {c1 c2 : ClassId} {t : Nat} (h : t < 9) (h1 : va_RA s c1 (aty t)) (h2 : va_RA s c2 (aty t)) : c1 = c2 := by
  match t, h with
  | 0, _ => exact Option.some.inj (h1.symm.trans h2)
  | 1, _ => exact Option.some.inj (h1.symm.trans h2)
  | 2, _ => exact Option.some.inj (h1.symm.trans h2)
  | 3, _ => obtain ⟨_, _, -, -, -, a⟩ := h1; obtain ⟨_, _, -, -, -, b⟩ := h2; exact Option.some.inj (a.symm.trans b)
  | 4, _ => obtain ⟨_, _, -, -, -, a⟩ := h1; obtain ⟨_, _, -, -, -, b⟩ := h2; exact Option.some.inj (a.symm.trans b)
  | 5, _ => obtain ⟨_, _, -, -, -, a⟩ := h1; obtain ⟨_, _, -, -, -, b⟩ := h2; exact Option.some.inj (a.symm.trans b)
  | 6, _ => obtain ⟨_, _, -, -, -, a⟩ := h1; obtain ⟨_, _, -, -, -, b⟩ := h2; exact Option.some.inj (a.symm.trans b)
  | 7, _ => exact Option.some.inj (h1.symm.trans h2)
  | 8, _ => exact Option.some.inj (h1.symm.trans h2)
theorem an_ok {t : Nat} (h3 : 3 ≤ t) (h6 : t ≤ 6) : ∃ C, aty t = .object C ∧ C ∈ ["HowHigh$Text", "HowHigh$Rule", "HowHigh$Sheet", "HowHigh$Plan"] ∧ zcell t = .inr (.inr (.inr (.inr (fun _ => none)))) := by
  match t, h3, h6 with
  | 3, _, _ => exact ⟨_, rfl, by decide, rfl⟩
  | 4, _, _ => exact ⟨_, rfl, by decide, rfl⟩
  | 5, _, _ => exact ⟨_, rfl, by decide, rfl⟩
  | 6, _, _ => exact ⟨_, rfl, by decide, rfl⟩
theorem st_newa (F : FR X opq adK adV scr y A p R s m args meth c) {pc len : Nat} {ls : List Value} {M : hM} {cells slots : Nat} {r : Instr} (hd : decode (mbytes y) (pcA y pc) = .ok (r, len)) {at_ : ArrayType} {t : Nat} {n : Int32} {st : List Value} {N' : Nat → Nat} {G' : hG} (hat : ato at_ = some t) (hin : inB n 65537 = true) (hmk : mkA M.2.2.2.1 M.2.2.2.2 t n.toNatClampNeg = some (N', G')) (hrc : cells + 1 ≤ R.cells) (hrs : slots + n.toNatClampNeg ≤ R.slots) (hk : lnk (mnm y).cls (mpcs y) pc (pcA y pc) len r (.newarray at_) = true) (k_ : PT X opq adK adV scr D yA A L0 dom0 p l e R s m args below meth c Q y (pc + 1) (ls) (.ref (nxt M.2.2.2.2) :: st) (rwR M.1 (nxt M.2.2.2.2) (fun _ => 0), rwR M.2.1 (nxt M.2.2.2.2) (fun _ => 0), rwR M.2.2.1 (nxt M.2.2.2.2) (fun _ => none), N', G') (cells + 1) (slots + n.toNatClampNeg)) : PT X opq adK adV scr D yA A L0 dom0 p l e R s m args below meth c Q y (pc) (ls) (.int n :: st) M (cells) (slots) := by
  obtain ⟨⟨hx, hb, hret, hml, hown, hts, hlocks, hnm, hA⟩, ⟨hq, hvS, hvR, hZ1, hZ2, hvX, hscr, hscrA⟩, hr1, hr2, hao, haoL, haoI⟩ := id F
  simp only [lnk, Bool.and_eq_true, decide_eq_true_eq] at hk
  obtain ⟨⟨hn, hnlt⟩, hk⟩ := hk
  have hn : pcA y (pc + 1) = pcA y pc + len := hn
  split at hk <;> (try (cases hk; done))
  simp only [Bool.and_eq_true, decide_eq_true_eq] at hk
  obtain ⟨rfl, rfl⟩ := hk
  intro L dom H locs lsr hR hV ho
  obtain ⟨-, ho4⟩ := List.forall_mem_cons.mp ho
  have hRR := hR
  obtain ⟨hK, hP, hD, hS, hnd, hdm, hsz, hmem, hlab, hext⟩ := hR
  obtain ⟨hok, hkd, hle, hN1, hN2, rfl⟩ := mkA_ok hmk
  obtain ⟨hz9, hz2, hz3, hz4, hz5⟩ := ato_ok hat
  have hn0 : ¬ n < 0 := inB_nn hin
  refine va_newa hx hb (hts _ hz3) hz2 hK hP hD hS hA (n := n) (N' := n.toNatClampNeg) (a0 := (n.toNatClampNeg, zcell t)) (fun cA => hz4 cA n.toNatClampNeg) hn0 rfl (Nat.le_trans (Nat.mul_le_mul hle hz5) (by decide)) hrc hrs hd (fun q cA H1 a0 a1 a2 a3 => ?_)
  have hcA : cA = yA t := by
    have h1 := (a0.2 9 (cA, aty t) (by rw [List.getElem?_append_right (by simp [tysL])]; simp [tysL])).2
    have h2 := (hK.2 t _ (tysL_at hz9)).2
    exact RA_inj hz9 h1 h2
  subst hcA
  rw [← hN1] at a1 a2
  have hfr := nxt_fresh (i := 0) hsz hok (by omega)
  simp only [Nat.add_zero] at hfr
  have hL : ∀ k, inL dom k → (fun k => if k = nxt M.2.2.2.2 then q else L k) k = L k := fun k hk => by
    have : k ≠ nxt M.2.2.2.2 := fun z => by
      subst z
      rcases hk with h | h | h
      · exact hfr.1 ((hdm _).mp h)
      · omega
      · omega
    simp [this]
  have hR' := RM_push (t := q) (cell := .inl (yA t, alen N' (nxt M.2.2.2.2), zcell t)) hRR hok (sl := n.toNatClampNeg) (N' := N') hN2 (by
    unfold cellE
    rw [hkd]
    simp only
    rw [zcell_ok hz9]
    · simp [rwR_at]
    · simp [rwR_at]
    · simp [rwR_at]) a1 a2 a3
  have w := k_ (fun k => if k = nxt M.2.2.2.2 then q else L k) (dom ++ [nxt M.2.2.2.2]) H1 locs lsr hR' (hV.ext (fun k hk => List.mem_append_left _ hk) hL) (List.forall_mem_cons.mpr ⟨fun k hk => by cases hk; exact Or.inl (List.mem_append_right _ List.mem_cons_self), fun v hv => okV_mono (fun k hk => List.mem_append_left _ hk) (ho4 v hv)⟩)
  rw [hn, List.map_cons, cv_map hL ho4] at w
  simpa [cv] using w
theorem st_anewa (F : FR X opq adK adV scr y A p R s m args meth c) {pc len : Nat} {ls : List Value} {M : hM} {cells slots : Nat} {r : Instr} (hd : decode (mbytes y) (pcA y pc) = .ok (r, len)) {t : Nat} {n : Int32} {st : List Value} {N' : Nat → Nat} {G' : hG} (ht3 : 3 ≤ t) (ht6 : t ≤ 6) (hin : inB n 65537 = true) (hmk : mkA M.2.2.2.1 M.2.2.2.2 t n.toNatClampNeg = some (N', G')) (hrc : cells + 1 ≤ R.cells) (hrs : slots + n.toNatClampNeg ≤ R.slots) (hk : lnk (mnm y).cls (mpcs y) pc (pcA y pc) len r (.anewarray t) = true) (k_ : PT X opq adK adV scr D yA A L0 dom0 p l e R s m args below meth c Q y (pc + 1) (ls) (.ref (nxt M.2.2.2.2) :: st) (rwR M.1 (nxt M.2.2.2.2) (fun _ => 0), rwR M.2.1 (nxt M.2.2.2.2) (fun _ => 0), rwR M.2.2.1 (nxt M.2.2.2.2) (fun _ => none), N', G') (cells + 1) (slots + n.toNatClampNeg)) : PT X opq adK adV scr D yA A L0 dom0 p l e R s m args below meth c Q y (pc) (ls) (.int n :: st) M (cells) (slots) := by
  obtain ⟨⟨hx, hb, hret, hml, hown, hts, hlocks, hnm, hA⟩, ⟨hq, hvS, hvR, hZ1, hZ2, hvX, hscr, hscrA⟩, hr1, hr2, hao, haoL, haoI⟩ := id F
  simp only [lnk, Bool.and_eq_true, decide_eq_true_eq] at hk
  obtain ⟨⟨hn, hnlt⟩, hk⟩ := hk
  have hn : pcA y (pc + 1) = pcA y pc + len := hn
  split at hk <;> (try (cases hk; done))
  rename_i ix
  simp only [Bool.and_eq_true, decide_eq_true_eq] at hk
  obtain ⟨rfl, hc⟩ := hk
  intro L dom H locs lsr hR hV ho
  obtain ⟨-, ho4⟩ := List.forall_mem_cons.mp ho
  have hRR := hR
  obtain ⟨hK, hP, hD, hS, hnd, hdm, hsz, hmem, hlab, hext⟩ := hR
  obtain ⟨hok, hkd, hle, hN1, hN2, rfl⟩ := mkA_ok hmk
  obtain ⟨C, hC, hCm, hz⟩ := an_ok ht3 ht6
  have hz9 : t < 9 := by omega
  have hcl : cpCh (mnm y).cls ix C = true := by
    obtain ⟨u, -, hu⟩ := List.any_eq_true.mp hc
    simp only [Bool.and_eq_true, decide_eq_true_eq] at hu
    obtain ⟨rfl, hu⟩ := hu
    rw [hC] at hu
    exact hu
  have hn0 : ¬ n < 0 := inB_nn hin
  refine va_newq hx hb hown (hts _ (cpC_at hcl)) (hao C hCm) hK hP hD hS hA (n := n) (N' := n.toNatClampNeg) hn0 rfl (by omega) hrc hrs hd (fun q cA H1 a0 a1 a2 a3 => ?_)
  have hcA : cA = yA t := by
    have h1 := (a0.2 9 (cA, aty t) (by rw [List.getElem?_append_right (by simp [tysL])]; simp [tysL, hC])).2
    have h2 := (hK.2 t _ (tysL_at hz9)).2
    exact RA_inj hz9 h1 h2
  subst hcA
  rw [← hN1, ← hz] at a1 a2
  have hfr := nxt_fresh (i := 0) hsz hok (by omega)
  simp only [Nat.add_zero] at hfr
  have hL : ∀ k, inL dom k → (fun k => if k = nxt M.2.2.2.2 then q else L k) k = L k := fun k hk => by
    have : k ≠ nxt M.2.2.2.2 := fun z => by
      subst z
      rcases hk with h | h | h
      · exact hfr.1 ((hdm _).mp h)
      · omega
      · omega
    simp [this]
  have hR' := RM_push (t := q) (cell := .inl (yA t, alen N' (nxt M.2.2.2.2), zcell t)) hRR hok (sl := n.toNatClampNeg) (N' := N') hN2 (by
    unfold cellE
    rw [hkd]
    simp only
    rw [zcell_ok hz9]
    · simp [rwR_at]
    · simp [rwR_at]
    · simp [rwR_at]) a1 a2 a3
  have w := k_ (fun k => if k = nxt M.2.2.2.2 then q else L k) (dom ++ [nxt M.2.2.2.2]) H1 locs lsr hR' (hV.ext (fun k hk => List.mem_append_left _ hk) hL) (List.forall_mem_cons.mpr ⟨fun k hk => by cases hk; exact Or.inl (List.mem_append_right _ List.mem_cons_self), fun v hv => okV_mono (fun k hk => List.mem_append_left _ hk) (ho4 v hv)⟩)
  rw [hn, List.map_cons, cv_map hL ho4] at w
  simpa [cv] using w
theorem st_oinit (F : FR X opq adK adV scr y A p R s m args meth c) {pc len : Nat} {ls : List Value} {M : hM} {cells slots : Nat} {r : Instr} (hd : decode (mbytes y) (pcA y pc) = .ok (r, len)) {k : Nat} {st : List Value} (hs8 : catS st ≤ 8) (hk : lnk (mnm y).cls (mpcs y) pc (pcA y pc) len r (.checkcast 0) = true) (k_ : PT X opq adK adV scr D yA A L0 dom0 p l e R s m args below meth c Q y (pc + 1) (ls) (st) M (cells) (slots)) : PT X opq adK adV scr D yA A L0 dom0 p l e R s m args below meth c Q y (pc) (ls) (.ref k :: st) M (cells) (slots) := by
  obtain ⟨⟨hx, hb, hret, hml, hown, hts, hlocks, hnm, hA⟩, ⟨hq, hvS, hvR, hZ1, hZ2, hvX, hscr, hscrA⟩, hr1, hr2, hao, haoL, haoI⟩ := id F
  simp only [lnk, Bool.and_eq_true, decide_eq_true_eq] at hk
  obtain ⟨⟨hn, hnlt⟩, hk⟩ := hk
  have hn : pcA y (pc + 1) = pcA y pc + len := hn
  split at hk <;> (try (cases hk; done)) <;> simp only [Bool.and_eq_true, decide_eq_true_eq] at hk
  · obtain ⟨⟨rfl, -⟩, hc⟩ := hk
    intro L dom H locs lsr hR hV ho
    have w := k_ L dom H locs lsr hR hV (List.forall_mem_cons.mp ho).2
    rw [hn] at w
    refine W.objInit hx hb hown (hts _ (cpS_at hc)) (hts _ oi_inst) (hts _ oi_code) (g := F0 m (pcA y pc) lsr (.ref (L k) :: st.map (cv opq L))) rfl (by rw [hml]; exact hV.1.1) rfl hd hr1 ?_ w
    have h1 := lv_room (m := m) (pc := pcA y pc) (ls := lsr) (rest := .ref (L k) :: st.map (cv opq L)) (st := st.map (cv opq L)) (by rw [catS_map hq]; exact hs8)
    omega
  · omega
theorem st_imax (F : FR X opq adK adV scr y A p R s m args meth c) {pc len : Nat} {ls : List Value} {M : hM} {cells slots : Nat} (hcc1 : cells ≤ R.cells) (hcc2 : slots ≤ R.slots) {r : Instr} (hd : decode (mbytes y) (pcA y pc) = .ok (r, len)) {st : List Value} {x z : Int32} (hs8 : catS st ≤ 8) (hk : lnk (mnm y).cls (mpcs y) pc (pcA y pc) len r (.checkcast 2) = true) (k_ : PT X opq adK adV scr D yA A L0 dom0 p l e R s m args below meth c Q y (pc + 1) (ls) (.int (if x < z then z else x) :: st) M (cells) (slots)) : PT X opq adK adV scr D yA A L0 dom0 p l e R s m args below meth c Q y (pc) (ls) (.int z :: .int x :: st) M (cells) (slots) := by
  obtain ⟨⟨hx, hb, hret, hml, hown, hts, hlocks, hnm, hA⟩, ⟨hq, hvS, hvR, hZ1, hZ2, hvX, hscr, hscrA⟩, hr1, hr2, hao, haoL, haoI⟩ := id F
  simp only [lnk, Bool.and_eq_true, decide_eq_true_eq] at hk
  obtain ⟨⟨hn, hnlt⟩, hk⟩ := hk
  have hn : pcA y (pc + 1) = pcA y pc + len := hn
  intro L dom H locs lsr hR hV ho
  have ho2 : ∀ v ∈ st, okV dom v := fun v hv => ho v (by simp [hv])
  have w := k_ L dom H locs lsr hR hV (List.forall_mem_cons.mpr ⟨of_eq_true (okI _ _), ho2⟩)
  rw [hn] at w
  have hcc := catS_map (L := L) hq st
  split at hk <;> (try (cases hk; done)) <;> simp only [Bool.and_eq_true, decide_eq_true_eq] at hk
  · omega
  · obtain ⟨⟨⟨rfl, -⟩, -⟩, hc⟩ := hk
    exact va_mmax hx hb (hml.trans hV.1.1.symm) hown (hts _ (cpS_at hc)) (hts _ max_st) (hts _ mi_init) (hts _ max_code) hr1 (by omega) hcc1 hcc2 hd w
theorem st_imin (F : FR X opq adK adV scr y A p R s m args meth c) {pc len : Nat} {ls : List Value} {M : hM} {cells slots : Nat} (hcc1 : cells ≤ R.cells) (hcc2 : slots ≤ R.slots) {r : Instr} (hd : decode (mbytes y) (pcA y pc) = .ok (r, len)) {st : List Value} {x z : Int32} (hs8 : catS st ≤ 8) (hk : lnk (mnm y).cls (mpcs y) pc (pcA y pc) len r (.checkcast 3) = true) (k_ : PT X opq adK adV scr D yA A L0 dom0 p l e R s m args below meth c Q y (pc + 1) (ls) (.int (if z < x then z else x) :: st) M (cells) (slots)) : PT X opq adK adV scr D yA A L0 dom0 p l e R s m args below meth c Q y (pc) (ls) (.int z :: .int x :: st) M (cells) (slots) := by
  obtain ⟨⟨hx, hb, hret, hml, hown, hts, hlocks, hnm, hA⟩, ⟨hq, hvS, hvR, hZ1, hZ2, hvX, hscr, hscrA⟩, hr1, hr2, hao, haoL, haoI⟩ := id F
  simp only [lnk, Bool.and_eq_true, decide_eq_true_eq] at hk
  obtain ⟨⟨hn, hnlt⟩, hk⟩ := hk
  have hn : pcA y (pc + 1) = pcA y pc + len := hn
  intro L dom H locs lsr hR hV ho
  have ho2 : ∀ v ∈ st, okV dom v := fun v hv => ho v (by simp [hv])
  have w := k_ L dom H locs lsr hR hV (List.forall_mem_cons.mpr ⟨of_eq_true (okI _ _), ho2⟩)
  rw [hn] at w
  have hcc := catS_map (L := L) hq st
  split at hk <;> (try (cases hk; done)) <;> simp only [Bool.and_eq_true, decide_eq_true_eq] at hk
  · omega
  · obtain ⟨⟨⟨rfl, -⟩, -⟩, hc⟩ := hk
    exact va_mmin hx hb (hml.trans hV.1.1.symm) hown (hts _ (cpS_at hc)) (hts _ min_st) (hts _ mi_init) (hts _ min_code) hr1 (by omega) hcc1 hcc2 hd w
theorem st_labs (F : FR X opq adK adV scr y A p R s m args meth c) {pc len : Nat} {ls : List Value} {M : hM} {cells slots : Nat} (hcc1 : cells ≤ R.cells) (hcc2 : slots ≤ R.slots) {r : Instr} (hd : decode (mbytes y) (pcA y pc) = .ok (r, len)) {st : List Value} {x : Int64} (hs8 : catS st ≤ 8) (hk : lnk (mnm y).cls (mpcs y) pc (pcA y pc) len r (.checkcast 4) = true) (k_ : PT X opq adK adV scr D yA A L0 dom0 p l e R s m args below meth c Q y (pc + 1) (ls) (.long (if 0 < x then x else -x) :: st) M (cells) (slots)) : PT X opq adK adV scr D yA A L0 dom0 p l e R s m args below meth c Q y (pc) (ls) (.long x :: st) M (cells) (slots) := by
  obtain ⟨⟨hx, hb, hret, hml, hown, hts, hlocks, hnm, hA⟩, ⟨hq, hvS, hvR, hZ1, hZ2, hvX, hscr, hscrA⟩, hr1, hr2, hao, haoL, haoI⟩ := id F
  simp only [lnk, Bool.and_eq_true, decide_eq_true_eq] at hk
  obtain ⟨⟨hn, hnlt⟩, hk⟩ := hk
  have hn : pcA y (pc + 1) = pcA y pc + len := hn
  intro L dom H locs lsr hR hV ho
  have ho2 : ∀ v ∈ st, okV dom v := fun v hv => ho v (by simp [hv])
  have w := k_ L dom H locs lsr hR hV (List.forall_mem_cons.mpr ⟨of_eq_true (okG _ _), ho2⟩)
  rw [hn] at w
  have hcc := catS_map (L := L) hq st
  split at hk <;> (try (cases hk; done)) <;> simp only [Bool.and_eq_true, decide_eq_true_eq] at hk
  · omega
  · obtain ⟨⟨⟨rfl, -⟩, -⟩, hc⟩ := hk
    exact va_mabs_long hx hb (hml.trans hV.1.1.symm) hown (hts _ (cpS_at hc)) (hts _ abs_st) (hts _ mi_init) (hts _ abs_code) hr1 (by omega) hcc1 hcc2 hd w
theorem st_lmax (F : FR X opq adK adV scr y A p R s m args meth c) {pc len : Nat} {ls : List Value} {M : hM} {cells slots : Nat} (hcc1 : cells ≤ R.cells) (hcc2 : slots ≤ R.slots) {r : Instr} (hd : decode (mbytes y) (pcA y pc) = .ok (r, len)) {st : List Value} {x z : Int64} (hs8 : catS st ≤ 8) (hk : lnk (mnm y).cls (mpcs y) pc (pcA y pc) len r (.checkcast 5) = true) (k_ : PT X opq adK adV scr D yA A L0 dom0 p l e R s m args below meth c Q y (pc + 1) (ls) (.long (if z < x then x else z) :: st) M (cells) (slots)) : PT X opq adK adV scr D yA A L0 dom0 p l e R s m args below meth c Q y (pc) (ls) (.long z :: .long x :: st) M (cells) (slots) := by
  obtain ⟨⟨hx, hb, hret, hml, hown, hts, hlocks, hnm, hA⟩, ⟨hq, hvS, hvR, hZ1, hZ2, hvX, hscr, hscrA⟩, hr1, hr2, hao, haoL, haoI⟩ := id F
  simp only [lnk, Bool.and_eq_true, decide_eq_true_eq] at hk
  obtain ⟨⟨hn, hnlt⟩, hk⟩ := hk
  have hn : pcA y (pc + 1) = pcA y pc + len := hn
  intro L dom H locs lsr hR hV ho
  have ho2 : ∀ v ∈ st, okV dom v := fun v hv => ho v (by simp [hv])
  have w := k_ L dom H locs lsr hR hV (List.forall_mem_cons.mpr ⟨of_eq_true (okG _ _), ho2⟩)
  rw [hn] at w
  have hcc := catS_map (L := L) hq st
  split at hk <;> (try (cases hk; done)) <;> simp only [Bool.and_eq_true, decide_eq_true_eq] at hk
  · omega
  · obtain ⟨⟨⟨rfl, -⟩, -⟩, hc⟩ := hk
    exact va_mmax_long hx hb (hml.trans hV.1.1.symm) hown (hts _ (cpS_at hc)) (hts _ maxl_st) (hts _ mi_init) (hts _ maxl_code) hr1 (by omega) hcc1 hcc2 hd w
theorem st_sval (F : FR X opq adK adV scr y A p R s m args meth c) {pc len : Nat} {ls : List Value} {M : hM} {cells slots : Nat} {r : Instr} (hd : decode (mbytes y) (pcA y pc) = .ok (r, len)) {i : Nat} {st : List Value} (hi : i < 13) (hk : lnk (mnm y).cls (mpcs y) pc (pcA y pc) len r (.instanceof 0) = true) (k_ : PT X opq adK adV scr D yA A L0 dom0 p l e R s m args below meth c Q y (pc + 1) (ls) (.ref (9000 + 2 * i + 1) :: st) M (cells) (slots)) : PT X opq adK adV scr D yA A L0 dom0 p l e R s m args below meth c Q y (pc) (ls) (.ref (9000 + 2 * i) :: st) M (cells) (slots) := by
  obtain ⟨⟨hx, hb, hret, hml, hown, hts, hlocks, hnm, hA⟩, ⟨hq, hvS, hvR, hZ1, hZ2, hvX, hscr, hscrA⟩, hr1, hr2, hao, haoL, haoI⟩ := id F
  simp only [lnk, Bool.and_eq_true, decide_eq_true_eq] at hk
  obtain ⟨⟨hn, hnlt⟩, hk⟩ := hk
  have hn : pcA y (pc + 1) = pcA y pc + len := hn
  intro L dom H locs lsr hR hV ho
  have ho2 := (List.forall_mem_cons.mp ho).2
  have w := k_ L dom H locs lsr hR hV (List.forall_mem_cons.mpr ⟨fun k hk => by cases hk; exact Or.inr (Or.inl (by omega)), ho2⟩)
  rw [hn] at w
  obtain ⟨l1, l2⟩ := hR.2.2.2.2.2.2.2.2.1.1 i hi
  split at hk <;> (try (cases hk; done)) <;> simp only [Bool.and_eq_true, Bool.or_eq_true, decide_eq_true_eq] at hk
  · obtain ⟨⟨rfl, ho⟩, h3⟩ := hk
    have hix := h3.resolve_right (fun z => absurd z.1 (by decide))
    obtain ⟨-, rfl⟩ := hix
    rw [ho] at hown
    have hf := (hvS.1 i hi).2.2.1
    rw [← l1] at hf
    refine vk_getf hx hb hf hR.2.2.2.1 (q := L (9000 + 2 * i)) hown (hts _ s_sval) (fun _ h => h) hd ?_
    first | exact w | (simpa [cv, l1, l2] using w)
  · omega
  · omega
  · omega
theorem st_scod (F : FR X opq adK adV scr y A p R s m args meth c) {pc len : Nat} {ls : List Value} {M : hM} {cells slots : Nat} {r : Instr} (hd : decode (mbytes y) (pcA y pc) = .ok (r, len)) {i : Nat} {st : List Value} (hi : i < 13) (hk : lnk (mnm y).cls (mpcs y) pc (pcA y pc) len r (.instanceof 1) = true) (k_ : PT X opq adK adV scr D yA A L0 dom0 p l e R s m args below meth c Q y (pc + 1) (ls) (.int (nI 0) :: st) M (cells) (slots)) : PT X opq adK adV scr D yA A L0 dom0 p l e R s m args below meth c Q y (pc) (ls) (.ref (9000 + 2 * i) :: st) M (cells) (slots) := by
  obtain ⟨⟨hx, hb, hret, hml, hown, hts, hlocks, hnm, hA⟩, ⟨hq, hvS, hvR, hZ1, hZ2, hvX, hscr, hscrA⟩, hr1, hr2, hao, haoL, haoI⟩ := id F
  simp only [lnk, Bool.and_eq_true, decide_eq_true_eq] at hk
  obtain ⟨⟨hn, hnlt⟩, hk⟩ := hk
  have hn : pcA y (pc + 1) = pcA y pc + len := hn
  intro L dom H locs lsr hR hV ho
  have ho2 := (List.forall_mem_cons.mp ho).2
  have w := k_ L dom H locs lsr hR hV (List.forall_mem_cons.mpr ⟨of_eq_true (okI _ _), ho2⟩)
  rw [hn] at w
  obtain ⟨l1, l2⟩ := hR.2.2.2.2.2.2.2.2.1.1 i hi
  split at hk <;> (try (cases hk; done)) <;> simp only [Bool.and_eq_true, Bool.or_eq_true, decide_eq_true_eq] at hk
  · obtain ⟨⟨rfl, ho⟩, h3⟩ := hk
    have hix := h3.resolve_left (fun z => absurd z.1 (by decide))
    obtain ⟨-, rfl⟩ := hix
    rw [ho] at hown
    have hf := (hvS.1 i hi).2.1
    rw [← l1] at hf
    refine vk_getf hx hb hf hR.2.2.2.1 (q := L (9000 + 2 * i)) hown (hts _ s_scod) (fun _ h => h) hd ?_
    first | exact w | (simpa [cv, l1, l2] using w)
  · omega
  · omega
  · omega
theorem st_salen (F : FR X opq adK adV scr y A p R s m args meth c) {pc len : Nat} {ls : List Value} {M : hM} {cells slots : Nat} {r : Instr} (hd : decode (mbytes y) (pcA y pc) = .ok (r, len)) {i : Nat} {st : List Value} (hi : i < 13) (hk : lnk (mnm y).cls (mpcs y) pc (pcA y pc) len r (.instanceof 2) = true) (k_ : PT X opq adK adV scr D yA A L0 dom0 p l e R s m args below meth c Q y (pc + 1) (ls) (.int (nI (stL.getD i []).length) :: st) M (cells) (slots)) : PT X opq adK adV scr D yA A L0 dom0 p l e R s m args below meth c Q y (pc) (ls) (.ref (9000 + 2 * i + 1) :: st) M (cells) (slots) := by
  obtain ⟨⟨hx, hb, hret, hml, hown, hts, hlocks, hnm, hA⟩, ⟨hq, hvS, hvR, hZ1, hZ2, hvX, hscr, hscrA⟩, hr1, hr2, hao, haoL, haoI⟩ := id F
  simp only [lnk, Bool.and_eq_true, decide_eq_true_eq] at hk
  obtain ⟨⟨hn, hnlt⟩, hk⟩ := hk
  have hn : pcA y (pc + 1) = pcA y pc + len := hn
  intro L dom H locs lsr hR hV ho
  have ho2 := (List.forall_mem_cons.mp ho).2
  have w := k_ L dom H locs lsr hR hV (List.forall_mem_cons.mpr ⟨of_eq_true (okI _ _), ho2⟩)
  rw [hn] at w
  obtain ⟨l1, l2⟩ := hR.2.2.2.2.2.2.2.2.1.1 i hi
  split at hk <;> (try (cases hk; done)) <;> simp only [Bool.and_eq_true, Bool.or_eq_true, decide_eq_true_eq] at hk
  · omega
  · obtain ⟨rfl, -⟩ := hk
    have hf := (hvS.1 i hi).2.2.2
    rw [← l2] at hf
    refine va_tlen hx hb hf hR.2.2.2.1 (v := nI (stL.getD i []).length) (by rw [stlen hi]; rfl) hd ?_
    simpa [cv] using w
  · omega
  · omega
theorem st_sbald (F : FR X opq adK adV scr y A p R s m args meth c) {pc len : Nat} {ls : List Value} {M : hM} {cells slots : Nat} {r : Instr} (hd : decode (mbytes y) (pcA y pc) = .ok (r, len)) {i : Nat} {j : Int32} {st : List Value} (hi : i < 13) (hin : inB j (stL.getD i []).length = true) (hk : lnk (mnm y).cls (mpcs y) pc (pcA y pc) len r (.instanceof 3) = true) (k_ : PT X opq adK adV scr D yA A L0 dom0 p l e R s m args below meth c Q y (pc + 1) (ls) (.int ((stL.getD i []).getD j.toNatClampNeg 0) :: st) M (cells) (slots)) : PT X opq adK adV scr D yA A L0 dom0 p l e R s m args below meth c Q y (pc) (ls) (.int j :: .ref (9000 + 2 * i + 1) :: st) M (cells) (slots) := by
  obtain ⟨⟨hx, hb, hret, hml, hown, hts, hlocks, hnm, hA⟩, ⟨hq, hvS, hvR, hZ1, hZ2, hvX, hscr, hscrA⟩, hr1, hr2, hao, haoL, haoI⟩ := id F
  simp only [lnk, Bool.and_eq_true, decide_eq_true_eq] at hk
  obtain ⟨⟨hn, hnlt⟩, hk⟩ := hk
  have hn : pcA y (pc + 1) = pcA y pc + len := hn
  intro L dom H locs lsr hR hV ho
  have ho2 := (List.forall_mem_cons.mp (List.forall_mem_cons.mp ho).2).2
  have w := k_ L dom H locs lsr hR hV (List.forall_mem_cons.mpr ⟨of_eq_true (okI _ _), ho2⟩)
  rw [hn] at w
  obtain ⟨l1, l2⟩ := hR.2.2.2.2.2.2.2.2.1.1 i hi
  split at hk <;> (try (cases hk; done)) <;> simp only [Bool.and_eq_true, Bool.or_eq_true, decide_eq_true_eq] at hk
  · omega
  · omega
  · obtain ⟨rfl, -⟩ := hk
    have hf := (hvS.1 i hi).2.2.2
    rw [← l2] at hf
    refine va_tb hx hb hf hR.2.2.2.1 (i := j) (inB_in (by rw [stlen hi]; exact hin)) (v := .int ((stL.getD i []).getD j.toNatClampNeg 0)) rfl hd ?_
    simpa [cv] using w
  · omega
theorem st_xalen (F : FR X opq adK adV scr y A p R s m args meth c) {pc len : Nat} {ls : List Value} {M : hM} {cells slots : Nat} {r : Instr} (hd : decode (mbytes y) (pcA y pc) = .ok (r, len)) {st : List Value} (hk : lnk (mnm y).cls (mpcs y) pc (pcA y pc) len r (.instanceof 4) = true) (k_ : PT X opq adK adV scr D yA A L0 dom0 p l e R s m args below meth c Q y (pc + 1) (ls) (.int (nI X.1) :: st) M (cells) (slots)) : PT X opq adK adV scr D yA A L0 dom0 p l e R s m args below meth c Q y (pc) (ls) (.ref 9900 :: st) M (cells) (slots) := by
  obtain ⟨⟨hx, hb, hret, hml, hown, hts, hlocks, hnm, hA⟩, ⟨hq, hvS, hvR, hZ1, hZ2, hvX, hscr, hscrA⟩, hr1, hr2, hao, haoL, haoI⟩ := id F
  simp only [lnk, Bool.and_eq_true, decide_eq_true_eq] at hk
  obtain ⟨⟨hn, hnlt⟩, hk⟩ := hk
  have hn : pcA y (pc + 1) = pcA y pc + len := hn
  intro L dom H locs lsr hR hV ho
  have ho2 := (List.forall_mem_cons.mp ho).2
  have w := k_ L dom H locs lsr hR hV (List.forall_mem_cons.mpr ⟨of_eq_true (okI _ _), ho2⟩)
  rw [hn] at w
  have l2 := hR.2.2.2.2.2.2.2.2.1.2
  split at hk <;> (try (cases hk; done)) <;> simp only [Bool.and_eq_true, Bool.or_eq_true, decide_eq_true_eq] at hk
  · omega
  · obtain ⟨rfl, -⟩ := hk
    rw [← l2] at hvX hscr hscrA
    exact va_slen hx hb hvX hscr hscrA hR.2.2.2.1 hd w
  · omega
  · omega
theorem st_xald (F : FR X opq adK adV scr y A p R s m args meth c) {pc len : Nat} {ls : List Value} {M : hM} {cells slots : Nat} {r : Instr} (hd : decode (mbytes y) (pcA y pc) = .ok (r, len)) {j : Int32} {st : List Value} (hin : inB j X.1 = true) (hk : lnk (mnm y).cls (mpcs y) pc (pcA y pc) len r (.instanceof 5) = true) (k_ : PT X opq adK adV scr D yA A L0 dom0 p l e R s m args below meth c Q y (pc + 1) (ls) (.int (X.2 j.toNatClampNeg) :: st) M (cells) (slots)) : PT X opq adK adV scr D yA A L0 dom0 p l e R s m args below meth c Q y (pc) (ls) (.int j :: .ref 9900 :: st) M (cells) (slots) := by
  obtain ⟨⟨hx, hb, hret, hml, hown, hts, hlocks, hnm, hA⟩, ⟨hq, hvS, hvR, hZ1, hZ2, hvX, hscr, hscrA⟩, hr1, hr2, hao, haoL, haoI⟩ := id F
  simp only [lnk, Bool.and_eq_true, decide_eq_true_eq] at hk
  obtain ⟨⟨hn, hnlt⟩, hk⟩ := hk
  have hn : pcA y (pc + 1) = pcA y pc + len := hn
  intro L dom H locs lsr hR hV ho
  have ho2 := (List.forall_mem_cons.mp (List.forall_mem_cons.mp ho).2).2
  have w := k_ L dom H locs lsr hR hV (List.forall_mem_cons.mpr ⟨of_eq_true (okI _ _), ho2⟩)
  rw [hn] at w
  have l2 := hR.2.2.2.2.2.2.2.2.1.2
  split at hk <;> (try (cases hk; done)) <;> simp only [Bool.and_eq_true, Bool.or_eq_true, decide_eq_true_eq] at hk
  · omega
  · omega
  · omega
  · obtain ⟨rfl, -⟩ := hk
    rw [← l2] at hvX hscr hscrA
    exact va_sld hx hb hvX hscr hscrA hR.2.2.2.1 (inB_in hin) hd (by simpa [cv] using w)
theorem st_gets0 (F : FR X opq adK adV scr y A p R s m args meth c) {pc len : Nat} {ls : List Value} {M : hM} {cells slots : Nat} {r : Instr} (hd : decode (mbytes y) (pcA y pc) = .ok (r, len)) {st : List Value} (hk : lnk (mnm y).cls (mpcs y) pc (pcA y pc) len r (.getstatic 0) = true) (k_ : PT X opq adK adV scr D yA A L0 dom0 p l e R s m args below meth c Q y (pc + 1) (ls) (.int 1 :: st) M (cells) (slots)) : PT X opq adK adV scr D yA A L0 dom0 p l e R s m args below meth c Q y (pc) (ls) (st) M (cells) (slots) := by
  obtain ⟨⟨hx, hb, hret, hml, hown, hts, hlocks, hnm, hA⟩, ⟨hq, hvS, hvR, hZ1, hZ2, hvX, hscr, hscrA⟩, hr1, hr2, hao, haoL, haoI⟩ := id F
  simp only [lnk, Bool.and_eq_true, decide_eq_true_eq] at hk
  obtain ⟨⟨hn, hnlt⟩, hk⟩ := hk
  have hn : pcA y (pc + 1) = pcA y pc + len := hn
  intro L dom H locs lsr hR hV ho
  have w := k_ L dom H locs lsr hR hV (List.forall_mem_cons.mpr ⟨of_eq_true (okI _ _), ho⟩)
  rw [hn] at w
  split at hk <;> (try (cases hk; done))
  simp only [Bool.and_eq_true, Bool.or_eq_true, decide_eq_true_eq] at hk
  obtain ⟨rfl, hc⟩ := hk
  have hix := hc.resolve_right (fun z => absurd z.1.1 (by decide))
  obtain ⟨⟨-, ho'⟩, rfl⟩ := hix
  rw [ho'] at hown
  exact va_gets hx hb hZ1 hR.2.2.2.1 hown (hts _ s_comp) (fun _ h => h) hd w
theorem st_gets1 (F : FR X opq adK adV scr y A p R s m args meth c) {pc len : Nat} {ls : List Value} {M : hM} {cells slots : Nat} {r : Instr} (hd : decode (mbytes y) (pcA y pc) = .ok (r, len)) {st : List Value} (hk : lnk (mnm y).cls (mpcs y) pc (pcA y pc) len r (.getstatic 1) = true) (k_ : PT X opq adK adV scr D yA A L0 dom0 p l e R s m args below meth c Q y (pc + 1) (ls) (.retAddr 1 :: st) M (cells) (slots)) : PT X opq adK adV scr D yA A L0 dom0 p l e R s m args below meth c Q y (pc) (ls) (st) M (cells) (slots) := by
  obtain ⟨⟨hx, hb, hret, hml, hown, hts, hlocks, hnm, hA⟩, ⟨hq, hvS, hvR, hZ1, hZ2, hvX, hscr, hscrA⟩, hr1, hr2, hao, haoL, haoI⟩ := id F
  simp only [lnk, Bool.and_eq_true, decide_eq_true_eq] at hk
  obtain ⟨⟨hn, hnlt⟩, hk⟩ := hk
  have hn : pcA y (pc + 1) = pcA y pc + len := hn
  intro L dom H locs lsr hR hV ho
  have w := k_ L dom H locs lsr hR hV (List.forall_mem_cons.mpr ⟨(fun k hk => by cases hk), ho⟩)
  rw [hn] at w
  split at hk <;> (try (cases hk; done))
  simp only [Bool.and_eq_true, Bool.or_eq_true, decide_eq_true_eq] at hk
  obtain ⟨rfl, hc⟩ := hk
  have hix := hc.resolve_left (fun z => absurd z.1.1 (by decide))
  obtain ⟨⟨-, ho'⟩, rfl⟩ := hix
  rw [ho'] at hown
  exact va_gets hx hb hZ2 hR.2.2.2.1 hown (hts _ s_sio) (fun _ h => h) hd w
theorem st_acopy (F : FR X opq adK adV scr y A p R s m args meth c) {pc len : Nat} {ls : List Value} {M : hM} {cells slots : Nat} {r : Instr} (hd : decode (mbytes y) (pcA y pc) = .ok (r, len)) {k k0 : Nat} {n sp dp : Int32} {st : List Value} (hkA : isA k 0 = true) (hkA0 : isA k0 0 = true) (hin : inB n 65537 = true) (his : inB sp 65537 = true) (hid : inB dp 65537 = true) (hb1 : sp.toNatClampNeg + n.toNatClampNeg ≤ alen M.2.2.2.1 k0) (hb2 : dp.toNatClampNeg + n.toNatClampNeg ≤ alen M.2.2.2.1 k) (hs8 : catS st ≤ 8) (hk : lnk (mnm y).cls (mpcs y) pc (pcA y pc) len r (.checkcast 1) = true) (k_ : PT X opq adK adV scr D yA A L0 dom0 p l e R s m args below meth c Q y (pc + 1) (ls) (st) (rwR M.1 k (va_cpy (M.1 k0) (M.1 k) sp.toNatClampNeg dp.toNatClampNeg n.toNatClampNeg), M.2) (cells) (slots)) : PT X opq adK adV scr D yA A L0 dom0 p l e R s m args below meth c Q y (pc) (ls) (.int n :: .int dp :: .ref k :: .int sp :: .ref k0 :: st) M (cells) (slots) := by
  obtain ⟨⟨hx, hb, hret, hml, hown, hts, hlocks, hnm, hA⟩, ⟨hq, hvS, hvR, hZ1, hZ2, hvX, hscr, hscrA⟩, hr1, hr2, hao, haoL, haoI⟩ := id F
  simp only [lnk, Bool.and_eq_true, decide_eq_true_eq] at hk
  obtain ⟨⟨hn, hnlt⟩, hk⟩ := hk
  have hn : pcA y (pc + 1) = pcA y pc + len := hn
  split at hk <;> (try (cases hk; done)) <;> simp only [Bool.and_eq_true, decide_eq_true_eq] at hk
  · omega
  obtain ⟨⟨⟨rfl, -⟩, -⟩, hc⟩ := hk
  intro L dom H locs lsr hR hV ho
  have ho2 : ∀ v ∈ st, okV dom v := fun v hv => ho v (by simp [hv])
  have ok1 := ho (.ref k) (by simp)
  have ok0 := ho (.ref k0) (by simp)
  have hcc := catS_map (L := L) hq st
  obtain ⟨hK, hP, hD, hS, hnd, hdm, hsz, hmem, hlab, hext⟩ := hR
  obtain ⟨q, hq1, he⟩ := ws_at (yA := yA) (L := L) (M := M) (dom_ofA (ok1 k rfl) (isA_kd hkA))
  obtain ⟨q0, hq0, he0⟩ := ws_at (yA := yA) (L := L) (M := M) (dom_ofA (ok0 k0 rfl) (isA_kd hkA0))
  unfold cellE at he he0
  rw [isA_kd hkA] at he
  rw [isA_kd hkA0] at he0
  refine va_copyi hx hb (hml.trans hV.1.1.symm) hown (hts _ (cpS_at hc)) (hts _ ac_nat) (hts _ ac_st) (hts _ ac_init) hK hP hD hS q0 q 0 0 he0 he (tysL_at (by decide)) (tysL_at (by decide)) rfl (inB_nn his) (inB_nn hid) (inB_nn hin) hb1 hb2 (fun i _ => rfl) hr1 ?_ hd (fun H1 locs1 a1 a2 a3 => ?_)
  · have : nativeFrameWords "java/lang/System" "arraycopy" 5 ≤ 60 := by decide +kernel
    omega
  · rw [ws_set (yA := yA) (L := L) (M := M) (M' := (rwR M.1 k (va_cpy (M.1 k0) (M.1 k) sp.toNatClampNeg dp.toNatClampNeg n.toNatClampNeg), M.2)) hnd hq1 (by unfold cellE; rw [isA_kd hkA]; simp only [cellA, rwR_at]) (fun k1 _ hk1 => cell_congr (by simp [rwR_ne _ _ hk1]) (by rfl) (fun j => rfl) rfl)] at a1 a2
    rw [← hn]
    exact k_ L dom H1 locs1 lsr ⟨hK, a1, a2, a3, hnd, hdm, hsz, hmem, hlab, hext⟩ hV ho2
end MORE2
