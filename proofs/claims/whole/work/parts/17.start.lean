def tmS (i : Nat) : Term := .string (stO.getD i ("", 0, "")).1 (stO.getD i ("", 0, "")).2.1
def flatL : List Jvm.Cond := flatC (Jvm.Cond.and given_1 narrow_1)
def vF (i : Nat) : Term := .field (tmS i) "java/lang/String" "value" "[B"
def flP1 : List (Nat × Nat × Nat × Nat) := [(57, 58, 59, 60), (119, 120, 121, 122), (128, 129, 130, 131), (140, 141, 142, 143), (151, 152, 153, 154), (164, 165, 166, 167), (177, 178, 179, 180), (189, 190, 191, 192), (204, 205, 206, 207), (220, 221, 222, 223), (237, 238, 239, 240), (253, 254, 255, 256), (271, 272, 273, 274)]
def flP2 : List (List Nat) := [[61, 62, 63, 64, 65, 66, 67, 68, 69, 70, 71, 72, 73, 74, 75, 76, 77, 78, 79, 80, 81, 82, 83, 84, 85, 86, 87, 88, 89, 90, 91, 92, 93, 94, 95, 96, 97, 98, 99, 100, 101, 102, 103, 104, 105, 106, 107, 108, 109, 110, 111, 112, 113, 114, 115, 116, 117, 118], [123, 124, 125, 126], [132, 133, 134, 135, 136, 137], [144, 145, 146, 147], [155, 156, 157, 158, 159], [168, 169, 170, 171], [181, 182], [193, 194, 195, 196], [208, 209, 210, 211], [224, 225, 226, 227], [241, 242], [257, 258, 259], [275, 276, 277]]
def flP3 : List (Nat × Nat × Nat) := [(0, 1, 127), (0, 2, 138), (0, 3, 148), (0, 4, 160), (0, 5, 172), (0, 6, 183), (0, 7, 197), (0, 8, 212), (0, 9, 228), (0, 10, 243), (0, 11, 260), (0, 12, 278), (1, 2, 139), (1, 3, 149), (1, 4, 161), (1, 5, 173), (1, 6, 184), (1, 7, 198), (1, 8, 213), (1, 9, 229), (1, 10, 244), (1, 11, 261), (1, 12, 279), (2, 3, 150), (2, 4, 162), (2, 5, 174), (2, 6, 185), (2, 7, 199), (2, 8, 214), (2, 9, 230), (2, 10, 245), (2, 11, 262), (2, 12, 280), (3, 4, 163), (3, 5, 175), (3, 6, 186), (3, 7, 200), (3, 8, 215), (3, 9, 231), (3, 10, 246), (3, 11, 263), (3, 12, 281), (4, 5, 176), (4, 6, 187), (4, 7, 201), (4, 8, 216), (4, 9, 232), (4, 10, 247), (4, 11, 264), (4, 12, 282), (5, 6, 188), (5, 7, 202), (5, 8, 217), (5, 9, 233), (5, 10, 248), (5, 11, 265), (5, 12, 283), (6, 7, 203), (6, 8, 218), (6, 9, 234), (6, 10, 249), (6, 11, 266), (6, 12, 284), (7, 8, 219), (7, 9, 235), (7, 10, 250), (7, 11, 267), (7, 12, 285), (8, 9, 236), (8, 10, 251), (8, 11, 268), (8, 12, 286), (9, 10, 252), (9, 11, 269), (9, 12, 287), (10, 11, 270), (10, 12, 288), (11, 12, 289)]
theorem str_ok1 : (List.range 13).all (fun i => let q := flP1.getD i (0, 0, 0, 0); decide (flatL[q.1]? = some (Cond.exactly (tmS i) "java/lang/String")) && decide (flatL[q.2.1]? = some (Cond.eq (.field (tmS i) "java/lang/String" "coder" "B") (.int 0))) && decide (flatL[q.2.2.1]? = some (Cond.arrayOf (vF i) .byte)) && decide (flatL[q.2.2.2]? = some (Cond.eq (.length (vF i)) (.int (Int32.ofNat ((stL.map List.length).getD i 0))))) && decide ((stL.map List.length).getD i 0 < 100)) = true := by decide +kernel
theorem str_ok2 : (List.range 13).all (fun i => (List.range ((stL.map List.length).getD i 0)).all (fun j => decide (flatL[(flP2.getD i []).getD j 0]? = some (Cond.eq (.elem (vF i) (.int (Int32.ofNat j))) (.int ((stL.getD i []).getD j 0)))))) = true := by decide +kernel
theorem str_ok3 : flP3.all (fun q => decide (flatL[q.2.2]? = some (Cond.not (Cond.eq (tmS q.1) (tmS q.2.1))))) = true := by decide +kernel
theorem str_ok3b : (List.range 13).all (fun i => (List.range 13).all (fun j => decide (i = j) || flP3.any (fun q => decide (q.1 = i) && decide (q.2.1 = j)) || flP3.any (fun q => decide (q.1 = j) && decide (q.2.1 = i)))) = true := by decide +kernel
theorem str_ok4 : (List.range 13).all (fun i => decide (tbW (stPl.getD i (0, 0)) = some (.stringRef (stO.getD i ("", 0, "")).1 (stO.getD i ("", 0, "")).2.1 (stO.getD i ("", 0, "")).2.2))) = true := by decide +kernel
theorem str_ne {i j : Nat} (hi : i < 13) (hj : j < 13) (h : i ≠ j) : Cond.not (Cond.eq (tmS i) (tmS j)) ∈ flatL ∨ Cond.not (Cond.eq (tmS j) (tmS i)) ∈ flatL := by
  have h1 := List.all_eq_true.mp (List.all_eq_true.mp str_ok3b i (List.mem_range.mpr hi)) j (List.mem_range.mpr hj)
  have key : ∀ a b, flP3.any (fun q => decide (q.1 = a) && decide (q.2.1 = b)) = true → Cond.not (Cond.eq (tmS a) (tmS b)) ∈ flatL := by
    intro a b hab
    obtain ⟨q, hq, h2⟩ := List.any_eq_true.mp hab
    simp only [Bool.and_eq_true, decide_eq_true_eq] at h2
    obtain ⟨rfl, rfl⟩ := h2
    exact List.mem_of_getElem? (of_decide_eq_true (List.all_eq_true.mp str_ok3 q hq))
  rcases Bool.or_eq_true _ _ ▸ h1 with h1 | h1
  · rcases Bool.or_eq_true _ _ ▸ h1 with h1 | h1
    · exact absurd (of_decide_eq_true h1) h
    · exact Or.inl (key _ _ h1)
  · exact Or.inr (key _ _ h1)
theorem wz_cs : Cond.laysStatic "java/lang/String" "COMPACT_STRINGS" "Z" ∈ lw_tbl := tbW_mem (q := (2, 136)) (by decide +kernel)
theorem wz_si : Cond.laysStatic "jdk/internal/util/Preconditions" "SIOOBE_FORMATTER" "Ljava/util/function/BiFunction;" ∈ lw_tbl := tbW_mem (q := (2, 152)) (by decide +kernel)
theorem wz_is : Cond.initialized "java/lang/String" ∈ lw_tbl := tbW_mem (q := (1, 12)) (by decide +kernel)
theorem wz_ip : Cond.initialized "jdk/internal/util/Preconditions" ∈ lw_tbl := tbW_mem (q := (1, 14)) (by decide +kernel)
theorem ao3 : Cond.arrayOver (.object "HowHigh$Text") ∈ lw_tbl := tbW_mem (q := (1, 143)) (by decide +kernel)
theorem ao4 : Cond.arrayOver (.object "HowHigh$Rule") ∈ lw_tbl := tbW_mem (q := (1, 145)) (by decide +kernel)
theorem ao5 : Cond.arrayOver (.object "HowHigh$Sheet") ∈ lw_tbl := tbW_mem (q := (2, 72)) (by decide +kernel)
theorem ao6 : Cond.arrayOver (.object "HowHigh$Plan") ∈ lw_tbl := tbW_mem (q := (1, 214)) (by decide +kernel)
theorem ao7 : Cond.arrayOver (.array .long) ∈ lw_tbl := tbW_mem (q := (1, 233)) (by decide +kernel)
theorem ao8 : Cond.arrayOver (.array .int) ∈ lw_tbl := tbW_mem (q := (1, 235)) (by decide +kernel)
theorem fz_cs : Cond.eq (.static "java/lang/String" "COMPACT_STRINGS" "Z") (.int 1) ∈ flatL := List.mem_of_getElem? (i := 4) (by decide +kernel)
theorem fz_si : Cond.isRef (.static "jdk/internal/util/Preconditions" "SIOOBE_FORMATTER" "Ljava/util/function/BiFunction;") ∈ flatL := List.mem_of_getElem? (i := 5) (by decide +kernel)
/-! THE CLAIM OUT OF ONE WALK OF THE LAW'S BODY. Your part is whole_start (and what it stands on); all else here is the same for every law, but numbers. -/
def R_law : String := "HowHighLaw"
def lw_P (b : Addr) (xs : List Int32) (args : Array Value) (s : State) : Prop := args = #[.ref b] ∧ s.IntsAt b xs ∧ xs.length ≤ 384 ∧ (Jvm.Cond.and given_1 narrow_1).before args s = true
def lw_Q (_ : Array Value) (s : State) (o : Outcome) (t : State) : Prop := o = .returned (some (.int 1)) ∧ Framed s o t [] 600000 7302250
def lw_Z (below : List Frame) (a : Array Value) (s : State) : State → Prop := fun t => ∃ o, t.status = .running ∧ Ended t below o ∧ lw_Q a s o t
/-- the law's own end, with 1 on the stack, nothing written that was there before, its room as the claim has it -/
theorem lw_ret {p : Program} {l : Launch} {e : Env} {s : State} {m : MethodId} {below : List Frame} {meth : Method} {c : Code} {b : Nat} (hx : p.tables.exec = Jvm.exec) (hb : c.code = code) (hr : meth.sig.returnType = ret) (hlocks : meth.locks = false) {pc : Nat} {H : Heap} {ls : Array Slot} (hdg : decode code pc = .ok (.ireturn, 1)) : W p l e room_1 s m #[Value.ref b] below meth c H [] 600000 7302250 (lw_Z below #[Value.ref b] s) (F0 m pc ls [.int 1]) := by
  intro T hT X
  obtain ⟨fs, hret, hrun, hended, hW, hframe⟩ := X.leave (v := some (.int 1)) (hlocks := hlocks) (fun h => by rw [hr] at h; cases h)
  have hmeth' : T.vm.method? m = some meth := X.method'
  refine ⟨T.setFrames fs, ?_, .returned (some (.int 1)), hrun, hended, rfl, ⟨_, rfl⟩, hW, hframe⟩
  jvm_step X.here [X.here.top, hx, hb, hdg, hmeth', hr, ret, narrow_b1]
  (try refine ⟨rfl, ?_⟩); (try refine ⟨rfl, ?_⟩)
  first | (intro acts; rw [hret _ acts rfl rfl rfl]) | rw [hret _ _ rfl rfl rfl]
  exact Steps.refl _
/-- what holds at the law's entry: the machine, the code, the tables' words (any of lw_tbl by 'hts w (by decide +kernel)'), the script of L ints xs at the cell b, what the Statement gives of the start (any of its parts by flat_of_before) -/
def lw_At (p : Program) (s : State) (m : MethodId) (meth : Method) (c : Code) (b L : Nat) (xs : Nat → Int32) : Prop :=
  p.tables.exec = Jvm.exec ∧ c.code = code ∧ meth.sig.returnType = ret ∧ c.maxLocals = 4 ∧ s.vm.findClass R_law = some m.cls ∧ (∀ w ∈ lw_tbl, w.before #[Value.ref b] s = true) ∧ va_X b L xs s s.heap ∧ b < s.heap.size ∧ meth.locks = false ∧ (Jvm.Cond.and given_1 narrow_1).before #[Value.ref b] s = true
def M00 : hM := (fun _ _ => 0, fun _ _ => 0, Rx (fun _ _ => none), fun _ => 0, (0, 0, 0, 0, 0))
/-- what the B-phase owes: the law's plain code ends with 1, on every script, within the room -/
def LAWRUN : Prop := ∀ X : hX, X.1 ≤ 384 → ∃ n M', exec X n 1000 (mcode 0) 0 (ini 4 [.ref 9900]) [] M00 = some (some (.int 1), M') ∧ nc M'.2.2.2.2 ≤ 600000 ∧ ns M'.2.2.2.2 ≤ 7302250
theorem RA_prim {s : State} {args : Array Value} {ty : FieldType} (h : (Cond.arrayClass ty).before args s = true) (hp : ∀ c, va_RA s c ty ↔ s.vm.findClass ("[" ++ ty.toString) = some c) : ∃ cA, ArrOfT s cA ty ∧ va_RA s cA ty := by
  obtain ⟨c, k, comp, h1, h2, h3⟩ := Cond.arrayClass_spec h
  exact ⟨c, fun n z => ⟨fun k h => (by cases h), k, h2, comp, h3⟩, (hp c).mpr h1⟩
theorem RA_obj {s : State} {C : String} (h : va_AO C s) : ∃ cA, ArrOfT s cA (.object C) ∧ va_RA s cA (.object C) := by
  obtain ⟨comp, c, k, h1, h2, h3, h4, h5⟩ := Cond.arrayOver_spec h
  exact ⟨c, fun n z => ⟨fun k h => (by cases h), k, h3, comp, h4⟩, k, comp, h3, h4, h1, h5⟩
theorem RA_arr {s : State} {ty : FieldType} (h : hAOA ty s) : ∃ cA, ArrOfT s cA (.array ty) ∧ va_RA s cA (.array ty) := by
  unfold hAOA Cond.before Cond.holds at h
  simp only [Cond.value, beq_iff_eq] at h
  cases hc : s.vm.findClass (FieldType.array ty).toString with
  | none => rw [hc] at h; cases h
  | some comp =>
    rw [hc, Option.bind_some] at h
    obtain ⟨c, hi, h2⟩ := Option.bind_eq_some_iff.mp h
    obtain ⟨k, hk, hb⟩ := Option.map_eq_some_iff.mp h2
    cases hkind : k.kind with
    | array component t =>
      rw [hkind] at hb
      simp only [Bool.and_eq_true, decide_eq_true_eq] at hb
      obtain ⟨rfl, hf⟩ := hb
      exact ⟨c, fun n z => ⟨fun k h => (by cases h), k, hk, component, hkind⟩, hf⟩
    | _ => rw [hkind] at hb; simp at hb
theorem start_open (hC : CHK) (hM : MNA) (hLR : LAWRUN) {p : Program} {e : Env} {s : State} {m : MethodId} {below : List Frame} {meth : Method} {c : Code} (l : Launch) {b L : Nat} {xs : Nat → Int32} (hL : L ≤ 384) (C0 : lw_At p s m meth c b L xs) : W p l e room_1 s m #[Value.ref b] below meth c s.heap [] 0 0 (lw_Z below #[Value.ref b] s) (entryFrame m ([Value.ref b] : List Value).toArray 4) := by
  obtain ⟨hx, hb, hr, hml, hown, hts, hX, hbl, hlocks, hgv⟩ := C0
  have hs : ∀ c ∈ flatL, c.before #[Value.ref b] s = true := flat_of_before _ hgv
  have hAlt : ∀ a : Nat, a < s.heap.size → ¬ (fun q : Nat => s.heap.size ≤ q) a := fun a h => Nat.not_le.mpr h
  have hst1 : ∀ i, i < 13 → _ := fun i hi => List.all_eq_true.mp str_ok1 i (List.mem_range.mpr hi)
  simp only [Bool.and_eq_true, decide_eq_true_eq] at hst1
  obtain ⟨adK, adV, hvS, hev⟩ := vk_Sof (args := #[Value.ref b]) (s := s) (N := 13) (tm := tmS) (len := stL.map List.length) (byt := stL) (A := fun q : Nat => s.heap.size ≤ q)
    (fun i hi => by have := (hst1 i hi).2; omega) (fun i hi => hs _ (List.mem_of_getElem? (hst1 i hi).1.1.1.1)) (fun i hi => hs _ (List.mem_of_getElem? (hst1 i hi).1.1.1.2)) (fun i hi => hs _ (List.mem_of_getElem? (hst1 i hi).1.1.2)) (fun i hi => hs _ (List.mem_of_getElem? (hst1 i hi).1.2))
    (fun i hi j hj => hs _ (List.mem_of_getElem? (of_decide_eq_true (List.all_eq_true.mp (List.all_eq_true.mp str_ok2 i (List.mem_range.mpr hi)) j (List.mem_range.mpr hj)))))
    (fun i j hi hj hij => (str_ne hi hj hij).imp (hs _) (hs _)) hAlt
  have hvR : ∀ i, i < 13 → vk_R (stO.getD i ("", 0, "")).1 (stO.getD i ("", 0, "")).2.1 (stO.getD i ("", 0, "")).2.2 (adK i) s := fun i hi =>
    vk_R.of (hts _ (tbW_mem (of_decide_eq_true (List.all_eq_true.mp str_ok4 i (List.mem_range.mpr hi))))) (hev i hi)
  have hZ1 := va_Zof (A := fun q : Nat => s.heap.size ≤ q) (hts _ wz_cs) (hts _ wz_is) (va_eqi (hs _ fz_cs)) hAlt
  have hZq := va_Zqof (A := fun q : Nat => s.heap.size ≤ q) (hts _ wz_si) (hts _ wz_ip) (hs _ fz_si) hAlt
  obtain ⟨opq, hopq, hZ2⟩ : ∃ opq : Value, opq.category = 1 ∧ va_Z "jdk/internal/util/Preconditions" "SIOOBE_FORMATTER" "Ljava/util/function/BiFunction;" opq (fun q : Nat => s.heap.size ≤ q) s s.heap := by
    rcases hZq with h | ⟨t, h⟩
    · exact ⟨.null, rfl, h⟩
    · exact ⟨.ref t, rfl, h⟩
  have hao : ∀ C ∈ ["HowHigh$Text", "HowHigh$Rule", "HowHigh$Sheet", "HowHigh$Plan"], va_AO C s := by
    intro C hC
    simp only [List.mem_cons, List.not_mem_nil, or_false] at hC
    rcases hC with rfl | rfl | rfl | rfl
    · exact hts _ ao3
    · exact hts _ ao4
    · exact hts _ ao5
    · exact hts _ ao6
  have haL : hAOA .long s := hts _ ao7
  have haI : hAOA .int s := hts _ ao8
  have hKn : ∀ ci, ci < 12 → ∃ (cC : ClassId) (iS : Nat → Nat), u_Kn s (cnm ci) (ctb ci) (cN ci) cC iS := fun ci hci =>
    u_known (ws := lw_good) (args := #[Value.ref b]) (fun w hw => hts w (List.mem_filter.mp hw).1) (cl_in hci) (hts _ (List.mem_filter.mp (instOk hci).1).1)
  have hRA : ∀ t, t < 9 → ∃ cA, ArrOfT s cA (aty t) ∧ va_RA s cA (aty t) := by
    intro t ht
    match t, ht with
    | 0, _ => exact RA_prim (ty := .int) (hts _ (List.mem_filter.mp ar_int).1) (fun c => Iff.rfl)
    | 1, _ => exact RA_prim (ty := .long) (hts _ (List.mem_filter.mp ar_long).1) (fun c => Iff.rfl)
    | 2, _ => exact RA_prim (ty := .boolean) (hts _ (List.mem_filter.mp ar_bool).1) (fun c => Iff.rfl)
    | 3, _ => exact RA_obj (hao _ (by decide))
    | 4, _ => exact RA_obj (hao _ (by decide))
    | 5, _ => exact RA_obj (hao _ (by decide))
    | 6, _ => exact RA_obj (hao _ (by decide))
    | 7, _ => exact RA_arr haL
    | 8, _ => exact RA_arr haI
  obtain ⟨D, hD⟩ : ∃ D : va_G, ∀ ci, ci < 12 → u_Kn s (cnm ci) (ctb ci) (cN ci) (D.1 ci) (D.2 ci) := by
    refine ⟨(fun ci => if h : ci < 12 then Classical.choose (hKn ci h) else 0, fun ci => if h : ci < 12 then Classical.choose (Classical.choose_spec (hKn ci h)) else fun _ => 0), fun ci hci => ?_⟩
    simp only [hci, dif_pos]
    exact Classical.choose_spec (Classical.choose_spec (hKn ci hci))
  obtain ⟨yA, hyA⟩ : ∃ yA : Nat → ClassId, ∀ t, t < 9 → ArrOfT s (yA t) (aty t) ∧ va_RA s (yA t) (aty t) := by
    refine ⟨fun t => if h : t < 9 then Classical.choose (hRA t h) else 0, fun t ht => ?_⟩
    simp only [ht, dif_pos]
    exact Classical.choose_spec (hRA t ht)
  have hK : va_K D vwCl (tysL yA) s := by
    refine ⟨fun ci q hq => ?_, fun t q hq => ?_⟩
    · have hci : ci < 12 := (List.getElem?_eq_some_iff.mp hq).1
      rw [cl_at hci] at hq
      cases hq
      exact hD ci hci
    · have ht : t < 9 := by
        have := (List.getElem?_eq_some_iff.mp hq).1
        simpa [tysL] using this
      rw [tysL_at ht] at hq
      cases hq
      exact hyA t ht
  have hnst : hNest s := by
    intro q hq h1
    have h2 := List.all_eq_true.mp cpM_ok q hq
    simp only [Bool.and_eq_true, decide_eq_true_eq] at h2
    have h3 := h2.1.1.1
    rw [h1] at h3
    exact va_Nw.of rfl (hts _ (tbW_mem h3))
  have hF : FR (L, xs) opq adK adV b 0 (fun q : Nat => s.heap.size ≤ q) p room_1 s m #[Value.ref b] meth c :=
    ⟨⟨hx, hb, hr, hml, hown, fun w hw => hts w (List.mem_filter.mp hw).1, hlocks, fun h => absurd h (by decide), fun q h => h⟩, ⟨hopq, hvS, hvR, hZ1, hZ2, hX, hbl, Nat.not_le.mpr hbl⟩, by decide, by decide, hao, haL, haI, hnst⟩
  obtain ⟨n, M', hex, hn1, hn2⟩ := hLR (L, xs) hL
  have hP := exec_ok (X := (L, xs)) (opq := opq) (adK := adK) (adV := adV) (scr := b) (D := D) (yA := yA) (l := l) hC hM n 1000 0 0 (ini 4 [.ref 9900]) [] M00 (some (.int 1)) M' (by decide) hex (fun q : Nat => s.heap.size ≤ q) (fun k => if k = 9900 then b else if k % 2 = 0 then adK ((k - 9000) / 2) else adV ((k - 9000) / 2)) [] p e room_1 s m #[Value.ref b] below meth c 0 0 _ _ hF (by decide) (by decide) rfl rfl (by show 0 + (nc M'.2.2.2.2 - nc M00.2.2.2.2) ≤ 600000; omega) (by show 0 + (ns M'.2.2.2.2 - ns M00.2.2.2.2) ≤ 7302250; omega)
  have hlab : labL adK adV b (fun k => if k = 9900 then b else if k % 2 = 0 then adK ((k - 9000) / 2) else adV ((k - 9000) / 2)) := by
    refine ⟨fun i hi => ⟨?_, ?_⟩, by simp⟩
    · have e1 : 9000 + 2 * i ≠ 9900 := by omega
      have e2 : (9000 + 2 * i) % 2 = 0 := by omega
      have e3 : (9000 + 2 * i - 9000) / 2 = i := by omega
      simp [e1, e2, e3]
    · have e1 : 9000 + 2 * i + 1 ≠ 9900 := by omega
      have e2 : ¬ (9000 + 2 * i + 1) % 2 = 0 := by omega
      have e3 : (9000 + 2 * i + 1 - 9000) / 2 = i := by omega
      simp only [e1, e2, e3, if_false]
  have hlv := lv_entry ([.ref b]) (n := 4) (Nat.le_of_ble_eq_true rfl)
  have hok : ∀ v ∈ [Value.ref 9900], okV [] v := fun v hv => by
    rw [List.mem_singleton] at hv
    subst hv
    intro k hk
    cases hk
    exact Or.inr (Or.inr rfl)
  have hlvl := LV_ini (opq := opq) (L := fun k => if k = 9900 then b else if k % 2 = 0 then adK ((k - 9000) / 2) else adV ((k - 9000) / 2)) (dom := []) (n := 4) (as := [.ref 9900]) hopq (by decide) hok (by simpa [cv] using hlv)
  have g1 : va_P D vwCl (wsM yA (fun k => if k = 9900 then b else if k % 2 = 0 then adK ((k - 9000) / 2) else adV ((k - 9000) / 2)) M00 []) s.heap := fun k q h => by simp [wsM] at h
  have g2 : va_D (fun q : Nat => s.heap.size ≤ q) (wsM yA (fun k => if k = 9900 then b else if k % 2 = 0 then adK ((k - 9000) / 2) else adV ((k - 9000) / 2)) M00 []) := ⟨fun i j p q h => by simp [wsM] at h, fun k q h => by simp [wsM] at h⟩
  have g3 : ∀ k, k ∈ ([] : List Nat) ↔ inD M00.2.2.2.2 k := fun k => ⟨fun h => (by cases h), fun h => (by
    simp only [inD, M00] at h
    omega)⟩
  have g4 : szG M00.2.2.2.2 := ⟨Nat.zero_le _, Nat.zero_le _, Nat.zero_le _⟩
  have g5 : ∀ k ∈ ([] : List Nat), ∀ j a, M00.2.2.1 k j = some a → a ∈ ([] : List Nat) := fun k hk => by cases hk
  have g6 : ∀ k ∈ ([] : List Nat), k ∈ ([] : List Nat) ∧ (fun k => if k = 9900 then b else if k % 2 = 0 then adK ((k - 9000) / 2) else adV ((k - 9000) / 2)) k = (fun k => if k = 9900 then b else if k % 2 = 0 then adK ((k - 9000) / 2) else adV ((k - 9000) / 2)) k := fun k hk => by cases hk
  have hW := hP _ [] s.heap [] _ ⟨hK, g1, g2, va_S.rf, List.nodup_nil, g3, g4, g5, hlab, g6⟩ hlvl (fun v hv => by cases hv)
  rw [lg_entry_eq]
  intro T hT Xs
  obtain ⟨t, a1, o, b1, b2, ⟨⟨⟨L1, dom1, ho, -⟩, -⟩, Lc, ⟨hret, hWm, hfr⟩, hLc⟩⟩ := hW T hT Xs
  refine ⟨t, a1, o, b1, b2, ho, hret, hWm, ?_⟩
  refine hfr.weaken (fun y hy hlt => absurd hlt (Nat.not_lt.mpr (hLc y hy))) ?_ ?_
  · show 0 + (nc M'.2.2.2.2 - nc M00.2.2.2.2) ≤ 600000
    omega
  · show 0 + (ns M'.2.2.2.2 - ns M00.2.2.2.2) ≤ 7302250
    omega
