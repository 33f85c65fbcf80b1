section HEAP
variable {y : Nat} {X : hX} {opq : Value} {adK adV : Nat → Nat} {scr : Nat} {D : va_G} {yA : Nat → ClassId} {A : Nat → Prop} {L0 : Nat → Nat} {dom0 : List Nat}
variable {p : Program} {l : Launch} {e : Env} {R : Room} {s : State} {m : MethodId} {args : Array Value} {below : List Frame} {meth : Method} {c : Code} {Q : State → Prop}
theorem kd_big {k : Nat} (h : 8000 ≤ k) : kd k = .inl 99 := by
  unfold kd
  have h1 : Nat.blt k 1000 = false := by rw [← Bool.not_eq_true, Nat.blt_eq]; omega
  have h2 : Nat.blt k 3000 = false := by rw [← Bool.not_eq_true, Nat.blt_eq]; omega
  have h3 : Nat.blt k 8000 = false := by rw [← Bool.not_eq_true, Nat.blt_eq]; omega
  rw [h1, h2, h3]
  rfl
theorem isO_kd {k ci : Nat} (h : isO k ci = true) : kd k = .inl ci := by
  unfold isO at h
  split at h
  · rename_i c hc
    rw [hc, Nat.eq_of_beq_eq_true h]
  · cases h
theorem isA_kd {k t : Nat} (h : isA k t = true) : kd k = .inr t := by
  unfold isA at h
  split at h
  · cases h
  · rename_i c hc
    rw [hc, Nat.eq_of_beq_eq_true h]
theorem dom_of {dom : List Nat} {k : Nat} (h : inL dom k) (h2 : kd k ≠ .inl 99) : k ∈ dom := by
  rcases h with h | h | h
  · exact h
  · exact absurd (kd_big (by omega)) h2
  · exact absurd (kd_big (by omega)) h2
theorem dom_ofO {dom : List Nat} {k ci : Nat} (h : inL dom k) (h2 : isO k ci = true) (h3 : ci < 12) : k ∈ dom := dom_of h (by rw [isO_kd h2]; intro z; cases z; omega)
theorem dom_ofA {dom : List Nat} {k t : Nat} (h : inL dom k) (h2 : kd k = .inr t) : k ∈ dom := dom_of h (by rw [h2]; intro z; cases z)
theorem ws_at {L : Nat → Nat} {M : hM} {dom : List Nat} {k : Nat} (h : k ∈ dom) : ∃ q : Nat, dom[q]? = some k ∧ (wsM yA L M dom)[q]? = some (L k, cellE yA L M k) := by
  obtain ⟨q, hq⟩ := List.getElem?_of_mem h
  exact ⟨q, hq, by unfold wsM; rw [List.getElem?_map, hq]; rfl⟩
theorem ws_set {L : Nat → Nat} {M M' : hM} {dom : List Nat} (hn : dom.Nodup) {q k : Nat} {cell : va_E} (hq : dom[q]? = some k) (h1 : cellE yA L M' k = cell) (h2 : ∀ k' ∈ dom, k' ≠ k → cellE yA L M' k' = cellE yA L M k') : (wsM yA L M dom).set q (L k, cell) = wsM yA L M' dom := by
  apply List.ext_getElem?
  intro i
  unfold wsM
  by_cases hi : i = q
  · subst hi
    rw [List.getElem?_set_self (by rw [List.length_map]; exact (List.getElem?_eq_some_iff.mp hq).1), List.getElem?_map, hq]
    simp [h1]
  · rw [List.getElem?_set_ne (Ne.symm hi), List.getElem?_map, List.getElem?_map]
    cases hk : dom[i]? with
    | none => rfl
    | some k' =>
      have hne : k' ≠ k := by
        intro z
        subst z
        have a1 := (List.getElem?_eq_some_iff.mp hk)
        have a2 := (List.getElem?_eq_some_iff.mp hq)
        obtain ⟨b1, c1⟩ := a1
        obtain ⟨b2, c2⟩ := a2
        exact hi ((List.getElem_inj hn).mp (c1.trans c2.symm))
      simp [h2 k' (List.mem_of_getElem? hk) hne]
theorem range_set {n j : Nat} (f g : Nat → Value) (v : Value) (h1 : g j = v) (h2 : ∀ i, i ≠ j → g i = f i) : ((List.range n).map f).set j v = (List.range n).map g := by
  apply List.ext_getElem?
  intro i
  by_cases hi : i = j
  · subst hi
    by_cases hl : i < n
    · rw [List.getElem?_set_self (by simpa using hl), List.getElem?_map, List.getElem?_range hl]
      simp [h1]
    · rw [List.getElem?_eq_none (by simpa using hl), List.getElem?_eq_none (by simpa using hl)]
  · rw [List.getElem?_set_ne (Ne.symm hi), List.getElem?_map, List.getElem?_map]
    by_cases hl : i < n
    · rw [List.getElem?_range hl]
      simp [h2 i hi]
    · rw [List.getElem?_eq_none (by simpa using hl)]
      rfl
theorem cpF_at {own : String} {ix ci j : Nat} (h : cpFh own ix ci j = true) : Cond.fieldLink own ix (ctb ci j).1 (ctb ci j).2.1 (ctb ci j).2.2.1 ∈ lw_good ∧ ci < 12 ∧ j < nf ci := by
  obtain ⟨e, he, h1⟩ := List.any_eq_true.mp h
  simp only [Bool.and_eq_true, decide_eq_true_eq] at h1
  obtain ⟨⟨⟨rfl, rfl⟩, rfl⟩, rfl⟩ := h1
  have h2 := List.all_eq_true.mp cpF_ok e he
  simp only [Bool.and_eq_true, decide_eq_true_eq] at h2
  exact ⟨good_mem (tbW_mem h2.1.1) rfl, h2.1.2, h2.2⟩
theorem rf_cv {opq : Value} {L : Nat → Nat} (o : Option Nat) : va_rf (o.map L) = cv opq L (va_rf o) := by cases o <;> rfl
theorem rf_ok {dom : List Nat} {o : Option Nat} (h : ∀ a, o = some a → a ∈ dom) : okV dom (va_rf o) := by
  intro k hk
  cases o with
  | none => cases hk
  | some a => cases hk; exact Or.inl (h _ rfl)
/-- a field's value -/
theorem get_core (F : FR X opq adK adV scr y A p R s m args meth c) {pc ix ci j k : Nat} {L : Nat → Nat} {dom : List Nat} {M : hM} {H : Heap} {locs : List Loc} {cells slots : Nat} {lsr : Array Slot} {rest : List Value} (hd : decode (mbytes y) (pcA y pc) = .ok (.getfield ix, 3))
    (hc : cpFh (mnm y).cls ix ci j = true) (hR : RM adK adV scr D yA A L0 dom0 s s.heap L dom M H locs) (hkd : isO k ci = true) (hok : inL dom k) (w : W p l e R s m args below meth c H locs cells slots Q (F0 m (pcA y pc + 3) lsr (fval L M k j (fk ci j) :: rest))) : W p l e R s m args below meth c H locs cells slots Q (F0 m (pcA y pc) lsr (.ref (L k) :: rest)) := by
  obtain ⟨⟨hx, hb, hret, hml, hown, hts, hlocks, hnm, hA⟩, -⟩ := F
  obtain ⟨h1, h2, h3⟩ := cpF_at hc
  obtain ⟨hK, hP, -⟩ := hR
  obtain ⟨q, hq, he⟩ := ws_at (yA := yA) (L := L) (M := M) (dom_ofO hok hkd h2)
  unfold cellE at he
  rw [isO_kd hkd] at he
  refine va_get hx hb hts (cl_in h2) hown hK hP q he (cl_at h2) j (by rw [← cl_N h2]; exact h3) (hts _ h1) (fun _ h => h) (v := fval L M k j (fk ci j)) ?_ hd w
  rw [List.getElem?_map, List.getElem?_range h3]
  rfl
theorem nar_ok {t : FieldType} {n : Nat} {v : Value} (h : tyOk t n = true) (hv : (n = 0 ∧ ∃ x, v = .int x) ∨ (n = 2 ∧ (v = .int 0 ∨ v = .int 1)) ∨ (n = 1 ∧ ∃ x, v = .long x) ∨ (n = 3 ∧ (v = .null ∨ ∃ a, v = .ref a))) : narrow t v = v ∧ fits t v = true := by
  rcases hv with ⟨rfl, x, rfl⟩ | ⟨rfl, rfl | rfl⟩ | ⟨rfl, x, rfl⟩ | ⟨rfl, rfl | ⟨a, rfl⟩⟩ <;> cases t <;> first | (simp [tyOk] at h; done) | exact ⟨rfl, rfl⟩ | exact ⟨by decide, by decide⟩
/-- a store into a field -/
theorem put_core (F : FR X opq adK adV scr y A p R s m args meth c) {pc ix ci j k : Nat} {L : Nat → Nat} {dom : List Nat} {M M' : hM} {H : Heap} {locs : List Loc} {cells slots : Nat} {lsr : Array Slot} {rest : List Value} {v : Value} (hd : decode (mbytes y) (pcA y pc) = .ok (.putfield ix, 3))
    (hc : cpFh (mnm y).cls ix ci j = true) (hfin : (!(ctb ci j).2.2.2 || (decide ((mnm y).name = "<init>") && decide ((mnm y).cls = (ctb ci j).1))) = true) (hR : RM adK adV scr D yA A L0 dom0 s s.heap L dom M H locs) (hkd : isO k ci = true) (hok : inL dom k)
    (hv : (fk ci j = 0 ∧ ∃ x, v = .int x) ∨ (fk ci j = 2 ∧ (v = .int 0 ∨ v = .int 1)) ∨ (fk ci j = 1 ∧ ∃ x, v = .long x) ∨ (fk ci j = 3 ∧ (v = .null ∨ ∃ a, v = .ref a)))
    (h1' : fval L M' k j (fk ci j) = v) (h2' : ∀ i, i ≠ j → fval L M' k i (fk ci i) = fval L M k i (fk ci i)) (h3' : ∀ k' ∈ dom, k' ≠ k → cellE yA L M' k' = cellE yA L M k') (h4' : M'.2.2.2.2 = M.2.2.2.2) (h5' : ∀ k ∈ dom, ∀ j a, M'.2.2.1 k j = some a → a ∈ dom)
    (w : ∀ (H1 : Heap) (locs1 : List Loc), RM adK adV scr D yA A L0 dom0 s s.heap L dom M' H1 locs1 → W p l e R s m args below meth c H1 locs1 cells slots Q (F0 m (pcA y pc + 3) lsr rest)) : W p l e R s m args below meth c H locs cells slots Q (F0 m (pcA y pc) lsr (v :: .ref (L k) :: rest)) := by
  obtain ⟨⟨hx, hb, hret, hml, hown, hts, hlocks, hnm, hA⟩, -⟩ := F
  obtain ⟨h1, h2, h3⟩ := cpF_at hc
  obtain ⟨hK, hP, hD, hS, hn, hdm, hsz, hmem, hlab, hext⟩ := hR
  obtain ⟨q, hq, he⟩ := ws_at (yA := yA) (L := L) (M := M) (dom_ofO hok hkd h2)
  have hN : j < cN ci := by rw [← cl_N h2]; exact h3
  obtain ⟨ht1, ht2⟩ := cl_ty h2 hN
  obtain ⟨g1, g2⟩ := nar_ok ht2 hv
  have he2 := he
  unfold cellE at he
  rw [isO_kd hkd] at he
  have hset : (wsM yA L M dom).set q (L k, .inr (ci, ((List.range (nf ci)).map (fun i => fval L M k i (fk ci i))).set j v)) = wsM yA L M' dom := by
    refine ws_set hn hq ?_ h3'
    unfold cellE
    rw [isO_kd hkd]
    simp only
    rw [range_set (fun i => fval L M k i (fk ci i)) (fun i => fval L M' k i (fk ci i)) v h1' h2']
  by_cases hf : (ctb ci j).2.2.2 = false
  · refine va_put hx hb hts (cl_in h2) (fty ci) (fun i hi => (cl_ty h2 hi).1) (cl_nm h2) hown hK hP hD hS q he (cl_at h2) j hN (hts _ h1) (fun _ h => h) hf ht1 g1 g2 (by simpa using h3) hd (fun H1 locs1 a1 a2 a3 => ?_)
    rw [hset] at a1 a2
    exact w H1 locs1 ⟨hK, a1, a2, a3, hn, by rw [h4']; exact hdm, by rw [h4']; exact hsz, h5', hlab, hext⟩
  · have hf2 : (ctb ci j).2.2.2 = true := by simpa using hf
    rw [hf2] at hfin
    simp only [Bool.not_true, Bool.false_or, Bool.and_eq_true, decide_eq_true_eq] at hfin
    refine va_putF hx hb hts (cl_in h2) (fty ci) (fun i hi => (cl_ty h2 hi).1) (cl_nm h2) hown hK hP hD hS q he (cl_at h2) j hN (hts _ h1) (fun _ h => h) hf2 (hnm hfin.1) hfin.2.symm ht1 g1 g2 (by simpa using h3) hd (fun H1 locs1 a1 a2 a3 => ?_)
    rw [hset] at a1 a2
    exact w H1 locs1 ⟨hK, a1, a2, a3, hn, by rw [h4']; exact hdm, by rw [h4']; exact hsz, h5', hlab, hext⟩
theorem rw2_ne {α : Type} (f : Nat → Nat → α) {k k' : Nat} (j : Nat) (v : α) (h : k' ≠ k) : rw2 f k j v k' = f k' := by
  funext b
  simp [rw2, h]
theorem rw2_at {α : Type} (f : Nat → Nat → α) (k j : Nat) (v : α) : rw2 f k j v k j = v := by simp [rw2]
theorem rw2_nj {α : Type} (f : Nat → Nat → α) (k : Nat) {j i : Nat} (v : α) (h : i ≠ j) : rw2 f k j v k i = f k i := by simp [rw2, h]
theorem rw2_row {α : Type} (f : Nat → Nat → α) (k j : Nat) (v : α) : rw2 f k j v k = fun b => if b = j then v else f k b := by
  funext b
  simp [rw2]
theorem rwR_ne {α : Type} (f : Nat → Nat → α) {k k' : Nat} (g : Nat → α) (h : k' ≠ k) : rwR f k g k' = f k' := by
  funext b
  simp [rwR, h]
theorem rwR_at {α : Type} (f : Nat → Nat → α) (k : Nat) (g : Nat → α) : rwR f k g k = g := by
  funext b
  simp [rwR]
/-- a cell depends on its own rows -/
theorem cell_congr {L L' : Nat → Nat} {M M' : hM} {k : Nat} (h1 : M'.1 k = M.1 k) (h2 : M'.2.1 k = M.2.1 k) (h3 : ∀ j, (M'.2.2.1 k j).map L' = (M.2.2.1 k j).map L) (h4 : alen M'.2.2.2.1 k = alen M.2.2.2.1 k) : cellE yA L' M' k = cellE yA L M k := by
  unfold cellE cellA fval
  split
  · congr 2
    apply List.map_congr_left
    intro j _
    split <;> simp [h1, h2, h3]
  · rw [h4]
    split <;> simp [h1, h2, h3]
theorem inB_in {i : Int32} {n : Nat} (h : inB i n = true) : vp_in i n := by
  simp only [inB, Bool.and_eq_true, decide_eq_true_eq] at h
  exact vp_in_iff.mpr h
theorem st_geti (F : FR X opq adK adV scr y A p R s m args meth c) {pc len : Nat} {ls : List Value} {M : hM} {cells slots : Nat} {r : Instr} (hd : decode (mbytes y) (pcA y pc) = .ok (r, len)) {n k : Nat} {st : List Value} (ho1 : isO k (n / 64) = true) (hf : fk (n / 64) (n % 64) = 0 ∨ fk (n / 64) (n % 64) = 2) (hk : lnk (mnm y).cls (mpcs y) pc (pcA y pc) len r (.getfield n) = true) (k_ : PT X opq adK adV scr D yA A L0 dom0 p l e R s m args below meth c Q y (pc + 1) (ls) (.int (M.1 k (n % 64)) :: st) M (cells) (slots)) : PT X opq adK adV scr D yA A L0 dom0 p l e R s m args below meth c Q y (pc) (ls) (.ref k :: st) M (cells) (slots) := by
  simp only [lnk, Bool.and_eq_true, decide_eq_true_eq] at hk
  obtain ⟨⟨hn, hnlt⟩, hk⟩ := hk
  have hn : pcA y (pc + 1) = pcA y pc + len := hn
  split at hk <;> (try (cases hk; done))
  simp only [Bool.and_eq_true, decide_eq_true_eq] at hk
  obtain ⟨rfl, hc⟩ := hk
  intro L dom H locs lsr hR hV ho
  obtain ⟨ho2, ho3⟩ := List.forall_mem_cons.mp ho
  refine get_core F hd hc hR ho1 (ho2 k rfl) ?_
  have e : fval L M k (n % 64) (fk (n / 64) (n % 64)) = .int (M.1 k (n % 64)) := by rcases hf with h | h <;> rw [h] <;> rfl
  rw [e, ← hn]
  exact k_ L dom H locs lsr hR hV (List.forall_mem_cons.mpr ⟨of_eq_true (okI _ _), ho3⟩)
theorem st_getl (F : FR X opq adK adV scr y A p R s m args meth c) {pc len : Nat} {ls : List Value} {M : hM} {cells slots : Nat} {r : Instr} (hd : decode (mbytes y) (pcA y pc) = .ok (r, len)) {n k : Nat} {st : List Value} (ho1 : isO k (n / 64) = true) (hf : fk (n / 64) (n % 64) = 1) (hk : lnk (mnm y).cls (mpcs y) pc (pcA y pc) len r (.dload n) = true) (k_ : PT X opq adK adV scr D yA A L0 dom0 p l e R s m args below meth c Q y (pc + 1) (ls) (.long (M.2.1 k (n % 64)) :: st) M (cells) (slots)) : PT X opq adK adV scr D yA A L0 dom0 p l e R s m args below meth c Q y (pc) (ls) (.ref k :: st) M (cells) (slots) := by
  simp only [lnk, Bool.and_eq_true, decide_eq_true_eq] at hk
  obtain ⟨⟨hn, hnlt⟩, hk⟩ := hk
  have hn : pcA y (pc + 1) = pcA y pc + len := hn
  split at hk <;> (try (cases hk; done))
  simp only [Bool.and_eq_true, decide_eq_true_eq] at hk
  obtain ⟨rfl, hc⟩ := hk
  intro L dom H locs lsr hR hV ho
  obtain ⟨ho2, ho3⟩ := List.forall_mem_cons.mp ho
  refine get_core F hd hc hR ho1 (ho2 k rfl) ?_
  have e : fval L M k (n % 64) (fk (n / 64) (n % 64)) = .long (M.2.1 k (n % 64)) := by rw [hf]; rfl
  rw [e, ← hn]
  exact k_ L dom H locs lsr hR hV (List.forall_mem_cons.mpr ⟨of_eq_true (okG _ _), ho3⟩)
theorem st_getr (F : FR X opq adK adV scr y A p R s m args meth c) {pc len : Nat} {ls : List Value} {M : hM} {cells slots : Nat} {r : Instr} (hd : decode (mbytes y) (pcA y pc) = .ok (r, len)) {n k : Nat} {st : List Value} (ho1 : isO k (n / 64) = true) (hf : fk (n / 64) (n % 64) = 3) (hk : lnk (mnm y).cls (mpcs y) pc (pcA y pc) len r (.fload n) = true) (k_ : PT X opq adK adV scr D yA A L0 dom0 p l e R s m args below meth c Q y (pc + 1) (ls) (va_rf (M.2.2.1 k (n % 64)) :: st) M (cells) (slots)) : PT X opq adK adV scr D yA A L0 dom0 p l e R s m args below meth c Q y (pc) (ls) (.ref k :: st) M (cells) (slots) := by
  simp only [lnk, Bool.and_eq_true, decide_eq_true_eq] at hk
  obtain ⟨⟨hn, hnlt⟩, hk⟩ := hk
  have hn : pcA y (pc + 1) = pcA y pc + len := hn
  split at hk <;> (try (cases hk; done))
  simp only [Bool.and_eq_true, decide_eq_true_eq] at hk
  obtain ⟨rfl, hc⟩ := hk
  intro L dom H locs lsr hR hV ho
  obtain ⟨ho2, ho3⟩ := List.forall_mem_cons.mp ho
  refine get_core F hd hc hR ho1 (ho2 k rfl) ?_
  have e : fval L M k (n % 64) (fk (n / 64) (n % 64)) = cv opq L (va_rf (M.2.2.1 k (n % 64))) := by rw [hf]; exact rf_cv _
  rw [e, ← hn]
  have hdk := dom_ofO (ho2 k rfl) ho1 (cpF_at hc).2.1
  exact k_ L dom H locs lsr hR hV (List.forall_mem_cons.mpr ⟨rf_ok (fun a ha => hR.2.2.2.2.2.2.2.1 k hdk _ a ha), ho3⟩)
theorem st_puti (F : FR X opq adK adV scr y A p R s m args meth c) {pc len : Nat} {ls : List Value} {M : hM} {cells slots : Nat} {r : Instr} (hd : decode (mbytes y) (pcA y pc) = .ok (r, len)) {n k : Nat} {st : List Value} {x : Int32} (hkO : isO k (n / 64) = true) (hf : fk (n / 64) (n % 64) = 0) (hfo : finOk y (.putfield n) = true) (hk : lnk (mnm y).cls (mpcs y) pc (pcA y pc) len r (.putfield n) = true) (k_ : PT X opq adK adV scr D yA A L0 dom0 p l e R s m args below meth c Q y (pc + 1) (ls) (st) (rw2 M.1 k (n % 64) x, M.2) (cells) (slots)) : PT X opq adK adV scr D yA A L0 dom0 p l e R s m args below meth c Q y (pc) (ls) (.int x :: .ref k :: st) M (cells) (slots) := by
  simp only [lnk, Bool.and_eq_true, decide_eq_true_eq] at hk
  obtain ⟨⟨hn, hnlt⟩, hk⟩ := hk
  have hn : pcA y (pc + 1) = pcA y pc + len := hn
  split at hk <;> (try (cases hk; done))
  simp only [Bool.and_eq_true, decide_eq_true_eq] at hk
  obtain ⟨rfl, hc⟩ := hk
  intro L dom H locs lsr hR hV ho
  obtain ⟨ho1, ho2⟩ := List.forall_mem_cons.mp ho
  obtain ⟨ho3, ho4⟩ := List.forall_mem_cons.mp ho2
  refine put_core F hd hc hfo hR hkO (ho3 k rfl) (v := cv opq L (.int x)) (Or.inl ⟨hf, x, rfl⟩) (M' := (rw2 M.1 k (n % 64) x, M.2)) ?_ ?_ ?_ rfl hR.2.2.2.2.2.2.2.1 (fun H1 locs1 hR1 => ?_)
  · rw [hf]; simp [fval, rw2_at, cv, va_rf]
  · intro i hi; simp [fval, rw2_nj _ _ _ hi]
  · intro k1 _ hk1; exact cell_congr (by simp [rw2_ne _ _ _ hk1]) (by simp [rw2_ne _ _ _ hk1]) (fun j => by simp [rw2_ne _ _ _ hk1]) rfl
  · rw [← hn]; exact k_ L dom H1 locs1 _ hR1 hV ho4
theorem st_putz (F : FR X opq adK adV scr y A p R s m args meth c) {pc len : Nat} {ls : List Value} {M : hM} {cells slots : Nat} {r : Instr} (hd : decode (mbytes y) (pcA y pc) = .ok (r, len)) {n k : Nat} {st : List Value} {x : Int32} (hx01 : x = 0 ∨ x = 1) (hkO : isO k (n / 64) = true) (hf : fk (n / 64) (n % 64) = 2) (hfo : finOk y (.putstatic n) = true) (hk : lnk (mnm y).cls (mpcs y) pc (pcA y pc) len r (.putstatic n) = true) (k_ : PT X opq adK adV scr D yA A L0 dom0 p l e R s m args below meth c Q y (pc + 1) (ls) (st) (rw2 M.1 k (n % 64) x, M.2) (cells) (slots)) : PT X opq adK adV scr D yA A L0 dom0 p l e R s m args below meth c Q y (pc) (ls) (.int x :: .ref k :: st) M (cells) (slots) := by
  simp only [lnk, Bool.and_eq_true, decide_eq_true_eq] at hk
  obtain ⟨⟨hn, hnlt⟩, hk⟩ := hk
  have hn : pcA y (pc + 1) = pcA y pc + len := hn
  split at hk <;> (try (cases hk; done))
  simp only [Bool.and_eq_true, decide_eq_true_eq] at hk
  obtain ⟨rfl, hc⟩ := hk
  intro L dom H locs lsr hR hV ho
  obtain ⟨ho1, ho2⟩ := List.forall_mem_cons.mp ho
  obtain ⟨ho3, ho4⟩ := List.forall_mem_cons.mp ho2
  refine put_core F hd hc hfo hR hkO (ho3 k rfl) (v := cv opq L (.int x)) (Or.inr (Or.inl ⟨hf, hx01.imp (congrArg _) (congrArg _)⟩)) (M' := (rw2 M.1 k (n % 64) x, M.2)) ?_ ?_ ?_ rfl hR.2.2.2.2.2.2.2.1 (fun H1 locs1 hR1 => ?_)
  · rw [hf]; simp [fval, rw2_at, cv, va_rf]
  · intro i hi; simp [fval, rw2_nj _ _ _ hi]
  · intro k1 _ hk1; exact cell_congr (by simp [rw2_ne _ _ _ hk1]) (by simp [rw2_ne _ _ _ hk1]) (fun j => by simp [rw2_ne _ _ _ hk1]) rfl
  · rw [← hn]; exact k_ L dom H1 locs1 _ hR1 hV ho4
theorem st_putl (F : FR X opq adK adV scr y A p R s m args meth c) {pc len : Nat} {ls : List Value} {M : hM} {cells slots : Nat} {r : Instr} (hd : decode (mbytes y) (pcA y pc) = .ok (r, len)) {n k : Nat} {st : List Value} {x : Int64} (hkO : isO k (n / 64) = true) (hf : fk (n / 64) (n % 64) = 1) (hfo : finOk y (.dstore n) = true) (hk : lnk (mnm y).cls (mpcs y) pc (pcA y pc) len r (.dstore n) = true) (k_ : PT X opq adK adV scr D yA A L0 dom0 p l e R s m args below meth c Q y (pc + 1) (ls) (st) (M.1, rw2 M.2.1 k (n % 64) x, M.2.2) (cells) (slots)) : PT X opq adK adV scr D yA A L0 dom0 p l e R s m args below meth c Q y (pc) (ls) (.long x :: .ref k :: st) M (cells) (slots) := by
  simp only [lnk, Bool.and_eq_true, decide_eq_true_eq] at hk
  obtain ⟨⟨hn, hnlt⟩, hk⟩ := hk
  have hn : pcA y (pc + 1) = pcA y pc + len := hn
  split at hk <;> (try (cases hk; done))
  simp only [Bool.and_eq_true, decide_eq_true_eq] at hk
  obtain ⟨rfl, hc⟩ := hk
  intro L dom H locs lsr hR hV ho
  obtain ⟨ho1, ho2⟩ := List.forall_mem_cons.mp ho
  obtain ⟨ho3, ho4⟩ := List.forall_mem_cons.mp ho2
  refine put_core F hd hc hfo hR hkO (ho3 k rfl) (v := cv opq L (.long x)) (Or.inr (Or.inr (Or.inl ⟨hf, x, rfl⟩))) (M' := (M.1, rw2 M.2.1 k (n % 64) x, M.2.2)) ?_ ?_ ?_ rfl hR.2.2.2.2.2.2.2.1 (fun H1 locs1 hR1 => ?_)
  · rw [hf]; simp [fval, rw2_at, cv, va_rf]
  · intro i hi; simp [fval, rw2_nj _ _ _ hi]
  · intro k1 _ hk1; exact cell_congr (by simp [rw2_ne _ _ _ hk1]) (by simp [rw2_ne _ _ _ hk1]) (fun j => by simp [rw2_ne _ _ _ hk1]) rfl
  · rw [← hn]; exact k_ L dom H1 locs1 _ hR1 hV ho4
theorem st_putr (F : FR X opq adK adV scr y A p R s m args meth c) {pc len : Nat} {ls : List Value} {M : hM} {cells slots : Nat} {r : Instr} (hd : decode (mbytes y) (pcA y pc) = .ok (r, len)) {n k : Nat} {st : List Value} {x : Nat} (hx8 : x < 8000) (hkO : isO k (n / 64) = true) (hf : fk (n / 64) (n % 64) = 3) (hfo : finOk y (.fstore n) = true) (hk : lnk (mnm y).cls (mpcs y) pc (pcA y pc) len r (.fstore n) = true) (k_ : PT X opq adK adV scr D yA A L0 dom0 p l e R s m args below meth c Q y (pc + 1) (ls) (st) (M.1, M.2.1, rw2 M.2.2.1 k (n % 64) (some x), M.2.2.2) (cells) (slots)) : PT X opq adK adV scr D yA A L0 dom0 p l e R s m args below meth c Q y (pc) (ls) (.ref x :: .ref k :: st) M (cells) (slots) := by
  simp only [lnk, Bool.and_eq_true, decide_eq_true_eq] at hk
  obtain ⟨⟨hn, hnlt⟩, hk⟩ := hk
  have hn : pcA y (pc + 1) = pcA y pc + len := hn
  split at hk <;> (try (cases hk; done))
  simp only [Bool.and_eq_true, decide_eq_true_eq] at hk
  obtain ⟨rfl, hc⟩ := hk
  intro L dom H locs lsr hR hV ho
  obtain ⟨ho1, ho2⟩ := List.forall_mem_cons.mp ho
  obtain ⟨ho3, ho4⟩ := List.forall_mem_cons.mp ho2
  refine put_core F hd hc hfo hR hkO (ho3 k rfl) (v := cv opq L (.ref x)) (Or.inr (Or.inr (Or.inr ⟨hf, Or.inr ⟨_, rfl⟩⟩))) (M' := (M.1, M.2.1, rw2 M.2.2.1 k (n % 64) (some x), M.2.2.2)) ?_ ?_ ?_ rfl (fun k1 hk1 j a ha => by
    dsimp only at ha
    by_cases e1 : k1 = k
    · subst e1
      by_cases e2 : j = n % 64
      · subst e2
        rw [rw2_at] at ha
        cases ha; exact (ho1 x rfl).elim id (fun h => absurd h (by omega))
      · rw [rw2_nj _ _ _ e2] at ha
        exact hR.2.2.2.2.2.2.2.1 k1 hk1 j a ha
    · rw [rw2_ne _ _ _ e1] at ha
      exact hR.2.2.2.2.2.2.2.1 k1 hk1 j a ha) (fun H1 locs1 hR1 => ?_)
  · rw [hf]; simp [fval, rw2_at, cv, va_rf]
  · intro i hi; simp [fval, rw2_nj _ _ _ hi]
  · intro k1 _ hk1; exact cell_congr (by simp [rw2_ne _ _ _ hk1]) (by simp [rw2_ne _ _ _ hk1]) (fun j => by simp [rw2_ne _ _ _ hk1]) rfl
  · rw [← hn]; exact k_ L dom H1 locs1 _ hR1 hV ho4
theorem st_putrN (F : FR X opq adK adV scr y A p R s m args meth c) {pc len : Nat} {ls : List Value} {M : hM} {cells slots : Nat} {r : Instr} (hd : decode (mbytes y) (pcA y pc) = .ok (r, len)) {n k : Nat} {st : List Value}  (hkO : isO k (n / 64) = true) (hf : fk (n / 64) (n % 64) = 3) (hfo : finOk y (.fstore n) = true) (hk : lnk (mnm y).cls (mpcs y) pc (pcA y pc) len r (.fstore n) = true) (k_ : PT X opq adK adV scr D yA A L0 dom0 p l e R s m args below meth c Q y (pc + 1) (ls) (st) (M.1, M.2.1, rw2 M.2.2.1 k (n % 64) none, M.2.2.2) (cells) (slots)) : PT X opq adK adV scr D yA A L0 dom0 p l e R s m args below meth c Q y (pc) (ls) (.null :: .ref k :: st) M (cells) (slots) := by
  simp only [lnk, Bool.and_eq_true, decide_eq_true_eq] at hk
  obtain ⟨⟨hn, hnlt⟩, hk⟩ := hk
  have hn : pcA y (pc + 1) = pcA y pc + len := hn
  split at hk <;> (try (cases hk; done))
  simp only [Bool.and_eq_true, decide_eq_true_eq] at hk
  obtain ⟨rfl, hc⟩ := hk
  intro L dom H locs lsr hR hV ho
  obtain ⟨ho1, ho2⟩ := List.forall_mem_cons.mp ho
  obtain ⟨ho3, ho4⟩ := List.forall_mem_cons.mp ho2
  refine put_core F hd hc hfo hR hkO (ho3 k rfl) (v := cv opq L (.null)) (Or.inr (Or.inr (Or.inr ⟨hf, Or.inl rfl⟩))) (M' := (M.1, M.2.1, rw2 M.2.2.1 k (n % 64) none, M.2.2.2)) ?_ ?_ ?_ rfl (fun k1 hk1 j a ha => by
    dsimp only at ha
    by_cases e1 : k1 = k
    · subst e1
      by_cases e2 : j = n % 64
      · subst e2
        rw [rw2_at] at ha
        cases ha
      · rw [rw2_nj _ _ _ e2] at ha
        exact hR.2.2.2.2.2.2.2.1 k1 hk1 j a ha
    · rw [rw2_ne _ _ _ e1] at ha
      exact hR.2.2.2.2.2.2.2.1 k1 hk1 j a ha) (fun H1 locs1 hR1 => ?_)
  · rw [hf]; simp [fval, rw2_at, cv, va_rf]
  · intro i hi; simp [fval, rw2_nj _ _ _ hi]
  · intro k1 _ hk1; exact cell_congr (by simp [rw2_ne _ _ _ hk1]) (by simp [rw2_ne _ _ _ hk1]) (fun j => by simp [rw2_ne _ _ _ hk1]) rfl
  · rw [← hn]; exact k_ L dom H1 locs1 _ hR1 hV ho4
theorem st_iald (F : FR X opq adK adV scr y A p R s m args meth c) {pc len : Nat} {ls : List Value} {M : hM} {cells slots : Nat} {r : Instr} (hd : decode (mbytes y) (pcA y pc) = .ok (r, len)) {k : Nat} {i : Int32} {st : List Value} (hkA : isA k 0 = true) (hin : inB i (alen M.2.2.2.1 k) = true) (hk : lnk (mnm y).cls (mpcs y) pc (pcA y pc) len r (.iaload) = true) (k_ : PT X opq adK adV scr D yA A L0 dom0 p l e R s m args below meth c Q y (pc + 1) (ls) (.int (M.1 k i.toNatClampNeg) :: st) M (cells) (slots)) : PT X opq adK adV scr D yA A L0 dom0 p l e R s m args below meth c Q y (pc) (ls) (.int i :: .ref k :: st) M (cells) (slots) := by
  obtain ⟨⟨hx, hb, hret, hml, hown, hts, hlocks, hnm, hA⟩, ⟨hq, hvS, hvR, hZ1, hZ2, hvX, hscr, hscrA⟩, hr1, hr2⟩ := id F
  simp only [lnk, Bool.and_eq_true, decide_eq_true_eq] at hk
  obtain ⟨⟨⟨hn, hnlt⟩, rfl⟩, rfl⟩ := hk
  have hn : pcA y (pc + 1) = pcA y pc + 1 := hn
  intro L dom H locs lsr hR hV ho
  obtain ⟨ho1, ho2⟩ := List.forall_mem_cons.mp ho
  obtain ⟨ho3, ho4⟩ := List.forall_mem_cons.mp ho2
  obtain ⟨q, hq1, he⟩ := ws_at (yA := yA) (L := L) (M := M) (dom_ofA (ho3 k rfl) (isA_kd hkA))
  unfold cellE at he
  rw [isA_kd hkA] at he
  refine va_iald hx hb hR.1 hR.2.1 q 0 he (tysL_at (by decide)) (inB_in hin) hd ?_
  rw [← hn]
  exact k_ L dom H locs lsr hR hV (List.forall_mem_cons.mpr ⟨of_eq_true (okI _ _), ho4⟩)
theorem st_zald (F : FR X opq adK adV scr y A p R s m args meth c) {pc len : Nat} {ls : List Value} {M : hM} {cells slots : Nat} {r : Instr} (hd : decode (mbytes y) (pcA y pc) = .ok (r, len)) {k : Nat} {i : Int32} {st : List Value} (hkA : isA k 2 = true) (hin : inB i (alen M.2.2.2.1 k) = true) (hk : lnk (mnm y).cls (mpcs y) pc (pcA y pc) len r (.baload) = true) (k_ : PT X opq adK adV scr D yA A L0 dom0 p l e R s m args below meth c Q y (pc + 1) (ls) (.int (M.1 k i.toNatClampNeg) :: st) M (cells) (slots)) : PT X opq adK adV scr D yA A L0 dom0 p l e R s m args below meth c Q y (pc) (ls) (.int i :: .ref k :: st) M (cells) (slots) := by
  obtain ⟨⟨hx, hb, hret, hml, hown, hts, hlocks, hnm, hA⟩, ⟨hq, hvS, hvR, hZ1, hZ2, hvX, hscr, hscrA⟩, hr1, hr2⟩ := id F
  simp only [lnk, Bool.and_eq_true, decide_eq_true_eq] at hk
  obtain ⟨⟨⟨hn, hnlt⟩, rfl⟩, rfl⟩ := hk
  have hn : pcA y (pc + 1) = pcA y pc + 1 := hn
  intro L dom H locs lsr hR hV ho
  obtain ⟨ho1, ho2⟩ := List.forall_mem_cons.mp ho
  obtain ⟨ho3, ho4⟩ := List.forall_mem_cons.mp ho2
  obtain ⟨q, hq1, he⟩ := ws_at (yA := yA) (L := L) (M := M) (dom_ofA (ho3 k rfl) (isA_kd hkA))
  unfold cellE at he
  rw [isA_kd hkA] at he
  refine va_zald hx hb hR.1 hR.2.1 q 2 he (tysL_at (by decide)) (inB_in hin) hd ?_
  rw [← hn]
  exact k_ L dom H locs lsr hR hV (List.forall_mem_cons.mpr ⟨of_eq_true (okI _ _), ho4⟩)
theorem st_lald (F : FR X opq adK adV scr y A p R s m args meth c) {pc len : Nat} {ls : List Value} {M : hM} {cells slots : Nat} {r : Instr} (hd : decode (mbytes y) (pcA y pc) = .ok (r, len)) {k : Nat} {i : Int32} {st : List Value} (hkA : isA k 1 = true) (hin : inB i (alen M.2.2.2.1 k) = true) (hk : lnk (mnm y).cls (mpcs y) pc (pcA y pc) len r (.laload) = true) (k_ : PT X opq adK adV scr D yA A L0 dom0 p l e R s m args below meth c Q y (pc + 1) (ls) (.long (M.2.1 k i.toNatClampNeg) :: st) M (cells) (slots)) : PT X opq adK adV scr D yA A L0 dom0 p l e R s m args below meth c Q y (pc) (ls) (.int i :: .ref k :: st) M (cells) (slots) := by
  obtain ⟨⟨hx, hb, hret, hml, hown, hts, hlocks, hnm, hA⟩, ⟨hq, hvS, hvR, hZ1, hZ2, hvX, hscr, hscrA⟩, hr1, hr2⟩ := id F
  simp only [lnk, Bool.and_eq_true, decide_eq_true_eq] at hk
  obtain ⟨⟨⟨hn, hnlt⟩, rfl⟩, rfl⟩ := hk
  have hn : pcA y (pc + 1) = pcA y pc + 1 := hn
  intro L dom H locs lsr hR hV ho
  obtain ⟨ho1, ho2⟩ := List.forall_mem_cons.mp ho
  obtain ⟨ho3, ho4⟩ := List.forall_mem_cons.mp ho2
  obtain ⟨q, hq1, he⟩ := ws_at (yA := yA) (L := L) (M := M) (dom_ofA (ho3 k rfl) (isA_kd hkA))
  unfold cellE at he
  rw [isA_kd hkA] at he
  refine va_lald hx hb hR.1 hR.2.1 q 1 he (tysL_at (by decide)) (inB_in hin) hd ?_
  rw [← hn]
  exact k_ L dom H locs lsr hR hV (List.forall_mem_cons.mpr ⟨of_eq_true (okG _ _), ho4⟩)
theorem st_iast (F : FR X opq adK adV scr y A p R s m args meth c) {pc len : Nat} {ls : List Value} {M : hM} {cells slots : Nat} {r : Instr} (hd : decode (mbytes y) (pcA y pc) = .ok (r, len)) {k : Nat} {i : Int32} {st : List Value} {x : Int32}  (hkA : isA k 0 = true) (hin : inB i (alen M.2.2.2.1 k) = true) (hk : lnk (mnm y).cls (mpcs y) pc (pcA y pc) len r (.iastore) = true) (k_ : PT X opq adK adV scr D yA A L0 dom0 p l e R s m args below meth c Q y (pc + 1) (ls) (st) (rw2 M.1 k i.toNatClampNeg x, M.2) (cells) (slots)) : PT X opq adK adV scr D yA A L0 dom0 p l e R s m args below meth c Q y (pc) (ls) (.int x :: .int i :: .ref k :: st) M (cells) (slots) := by
  obtain ⟨⟨hx, hb, hret, hml, hown, hts, hlocks, hnm, hA⟩, ⟨hq, hvS, hvR, hZ1, hZ2, hvX, hscr, hscrA⟩, hr1, hr2⟩ := id F
  simp only [lnk, Bool.and_eq_true, decide_eq_true_eq] at hk
  obtain ⟨⟨⟨hn, hnlt⟩, rfl⟩, rfl⟩ := hk
  have hn : pcA y (pc + 1) = pcA y pc + 1 := hn
  intro L dom H locs lsr hR hV ho
  obtain ⟨ho1, ho2⟩ := List.forall_mem_cons.mp ho
  obtain ⟨-, ho2⟩ := List.forall_mem_cons.mp ho2
  obtain ⟨ho3, ho4⟩ := List.forall_mem_cons.mp ho2
  obtain ⟨hK, hP, hD, hS, hnd, hdm, hsz, hmem, hlab, hext⟩ := hR
  obtain ⟨q, hq1, he⟩ := ws_at (yA := yA) (L := L) (M := M) (dom_ofA (ho3 k rfl) (isA_kd hkA))
  unfold cellE at he
  rw [isA_kd hkA] at he
  refine va_iast hx hb hK hP hD hS q 0 he (tysL_at (by decide)) (inB_in hin) hd (fun H1 locs1 a1 a2 a3 => ?_)
  rw [ws_set (yA := yA) (L := L) (M := M) (M' := (rw2 M.1 k i.toNatClampNeg x, M.2)) hnd hq1 (by unfold cellE; rw [isA_kd hkA]; simp only [cellA, rw2_row]; rfl) (fun k1 _ hk1 => cell_congr (by simp [rw2_ne _ _ _ hk1]) (by simp [rw2_ne _ _ _ hk1]) (fun j => rfl) rfl)] at a1 a2
  rw [← hn]
  exact k_ L dom H1 locs1 lsr ⟨hK, a1, a2, a3, hnd, hdm, hsz, hmem, hlab, hext⟩ hV ho4
theorem st_zast (F : FR X opq adK adV scr y A p R s m args meth c) {pc len : Nat} {ls : List Value} {M : hM} {cells slots : Nat} {r : Instr} (hd : decode (mbytes y) (pcA y pc) = .ok (r, len)) {k : Nat} {i : Int32} {st : List Value} {x : Int32} (hx01 : x = 0 ∨ x = 1) (hkA : isA k 2 = true) (hin : inB i (alen M.2.2.2.1 k) = true) (hk : lnk (mnm y).cls (mpcs y) pc (pcA y pc) len r (.bastore) = true) (k_ : PT X opq adK adV scr D yA A L0 dom0 p l e R s m args below meth c Q y (pc + 1) (ls) (st) (rw2 M.1 k i.toNatClampNeg x, M.2) (cells) (slots)) : PT X opq adK adV scr D yA A L0 dom0 p l e R s m args below meth c Q y (pc) (ls) (.int x :: .int i :: .ref k :: st) M (cells) (slots) := by
  obtain ⟨⟨hx, hb, hret, hml, hown, hts, hlocks, hnm, hA⟩, ⟨hq, hvS, hvR, hZ1, hZ2, hvX, hscr, hscrA⟩, hr1, hr2⟩ := id F
  simp only [lnk, Bool.and_eq_true, decide_eq_true_eq] at hk
  obtain ⟨⟨⟨hn, hnlt⟩, rfl⟩, rfl⟩ := hk
  have hn : pcA y (pc + 1) = pcA y pc + 1 := hn
  intro L dom H locs lsr hR hV ho
  obtain ⟨ho1, ho2⟩ := List.forall_mem_cons.mp ho
  obtain ⟨-, ho2⟩ := List.forall_mem_cons.mp ho2
  obtain ⟨ho3, ho4⟩ := List.forall_mem_cons.mp ho2
  obtain ⟨hK, hP, hD, hS, hnd, hdm, hsz, hmem, hlab, hext⟩ := hR
  obtain ⟨q, hq1, he⟩ := ws_at (yA := yA) (L := L) (M := M) (dom_ofA (ho3 k rfl) (isA_kd hkA))
  unfold cellE at he
  rw [isA_kd hkA] at he
  refine va_zast hx hb hK hP hD hS q 2 he (tysL_at (by decide)) (inB_in hin) hd (fun H1 locs1 a1 a2 a3 => ?_)
  rw [ws_set (yA := yA) (L := L) (M := M) (M' := (rw2 M.1 k i.toNatClampNeg x, M.2)) hnd hq1 (by unfold cellE; rw [isA_kd hkA]; simp only [cellA, rw2_row]; rcases hx01 with rfl | rfl <;> rfl) (fun k1 _ hk1 => cell_congr (by simp [rw2_ne _ _ _ hk1]) (by simp [rw2_ne _ _ _ hk1]) (fun j => rfl) rfl)] at a1 a2
  rw [← hn]
  exact k_ L dom H1 locs1 lsr ⟨hK, a1, a2, a3, hnd, hdm, hsz, hmem, hlab, hext⟩ hV ho4
theorem st_last (F : FR X opq adK adV scr y A p R s m args meth c) {pc len : Nat} {ls : List Value} {M : hM} {cells slots : Nat} {r : Instr} (hd : decode (mbytes y) (pcA y pc) = .ok (r, len)) {k : Nat} {i : Int32} {st : List Value} {x : Int64}  (hkA : isA k 1 = true) (hin : inB i (alen M.2.2.2.1 k) = true) (hk : lnk (mnm y).cls (mpcs y) pc (pcA y pc) len r (.lastore) = true) (k_ : PT X opq adK adV scr D yA A L0 dom0 p l e R s m args below meth c Q y (pc + 1) (ls) (st) (M.1, rw2 M.2.1 k i.toNatClampNeg x, M.2.2) (cells) (slots)) : PT X opq adK adV scr D yA A L0 dom0 p l e R s m args below meth c Q y (pc) (ls) (.long x :: .int i :: .ref k :: st) M (cells) (slots) := by
  obtain ⟨⟨hx, hb, hret, hml, hown, hts, hlocks, hnm, hA⟩, ⟨hq, hvS, hvR, hZ1, hZ2, hvX, hscr, hscrA⟩, hr1, hr2⟩ := id F
  simp only [lnk, Bool.and_eq_true, decide_eq_true_eq] at hk
  obtain ⟨⟨⟨hn, hnlt⟩, rfl⟩, rfl⟩ := hk
  have hn : pcA y (pc + 1) = pcA y pc + 1 := hn
  intro L dom H locs lsr hR hV ho
  obtain ⟨ho1, ho2⟩ := List.forall_mem_cons.mp ho
  obtain ⟨-, ho2⟩ := List.forall_mem_cons.mp ho2
  obtain ⟨ho3, ho4⟩ := List.forall_mem_cons.mp ho2
  obtain ⟨hK, hP, hD, hS, hnd, hdm, hsz, hmem, hlab, hext⟩ := hR
  obtain ⟨q, hq1, he⟩ := ws_at (yA := yA) (L := L) (M := M) (dom_ofA (ho3 k rfl) (isA_kd hkA))
  unfold cellE at he
  rw [isA_kd hkA] at he
  refine va_last hx hb hK hP hD hS q 1 he (tysL_at (by decide)) (inB_in hin) hd (fun H1 locs1 a1 a2 a3 => ?_)
  rw [ws_set (yA := yA) (L := L) (M := M) (M' := (M.1, rw2 M.2.1 k i.toNatClampNeg x, M.2.2)) hnd hq1 (by unfold cellE; rw [isA_kd hkA]; simp only [cellA, rw2_row]; rfl) (fun k1 _ hk1 => cell_congr (by simp [rw2_ne _ _ _ hk1]) (by simp [rw2_ne _ _ _ hk1]) (fun j => rfl) rfl)] at a1 a2
  rw [← hn]
  exact k_ L dom H1 locs1 lsr ⟨hK, a1, a2, a3, hnd, hdm, hsz, hmem, hlab, hext⟩ hV ho4
end HEAP
