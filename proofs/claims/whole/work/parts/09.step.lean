/-! one step of the abstract machine is one of the real one -/
def hAOA (ty : FieldType) (s : State) : Prop := (Cond.arrayOver (.array ty)).before #[] s = true
/-- the private constructors that nest mates call -/
def hNest (s : State) : Prop := ∀ q ∈ cpM, q.2.2.2.1 = 1 → va_Nw (.methodLinkNest q.1 q.2.1 (mnm q.2.2.1) "HowHigh") s
/-- what a frame of method y is given -/
def FR (X : hX) (opq : Value) (adK adV : Nat → Nat) (scr : Nat) (y : Nat) (A : Nat → Prop) (p : Program) (R : Room) (s : State) (m : MethodId) (args : Array Value) (meth : Method) (c : Code) : Prop :=
  (p.tables.exec = Jvm.exec ∧ c.code = mbytes y ∧ meth.sig.returnType = mret y ∧ c.maxLocals = mmax y ∧ s.vm.findClass (mnm y).cls = some m.cls ∧ (∀ w ∈ lw_good, w.before args s = true) ∧ meth.locks = false ∧ ((mnm y).name = "<init>" → meth.name = "<init>") ∧ (∀ q, s.heap.size ≤ q → A q)) ∧
  (opq.category = 1 ∧ vk_S 13 (stL.map List.length) stL adK adV A s s.heap ∧ (∀ i, i < 13 → vk_R (stO.getD i ("", 0, "")).1 (stO.getD i ("", 0, "")).2.1 (stO.getD i ("", 0, "")).2.2 (adK i) s) ∧ va_Z "java/lang/String" "COMPACT_STRINGS" "Z" (.int 1) A s s.heap ∧ va_Z "jdk/internal/util/Preconditions" "SIOOBE_FORMATTER" "Ljava/util/function/BiFunction;" opq A s s.heap ∧ va_X scr X.1 X.2 s s.heap ∧ scr < s.heap.size ∧ ¬ A scr) ∧ (1 ≤ R.frames ∧ 100 ≤ R.locals ∧ (∀ C ∈ ["HowHigh$Text", "HowHigh$Rule", "HowHigh$Sheet", "HowHigh$Plan"], va_AO C s) ∧ hAOA .long s ∧ hAOA .int s ∧ hNest s)
section STEP
variable {y : Nat} {X : hX} {opq : Value} {adK adV : Nat → Nat} {scr : Nat} {D : va_G} {yA : Nat → ClassId} {A : Nat → Prop} {L0 : Nat → Nat} {dom0 : List Nat}
variable {p : Program} {l : Launch} {e : Env} {R : Room} {s : State} {m : MethodId} {args : Array Value} {below : List Frame} {meth : Method} {c : Code} {Q : State → Prop}
/-- from this abstract state the real machine comes to Q, wherever the labels lie -/
def PT (X : hX) (opq : Value) (adK adV : Nat → Nat) (scr : Nat) (D : va_G) (yA : Nat → ClassId) (A : Nat → Prop) (L0 : Nat → Nat) (dom0 : List Nat) (p : Program) (l : Launch) (e : Env) (R : Room) (s : State) (m : MethodId) (args : Array Value) (below : List Frame) (meth : Method) (c : Code) (Q : State → Prop) (y pc : Nat) (ls st : List Value) (M : hM) (cells slots : Nat) : Prop :=
  ∀ (L : Nat → Nat) (dom : List Nat) (H : Heap) (locs : List Loc) (lsr : Array Slot), RM adK adV scr D yA A L0 dom0 s s.heap L dom M H locs → LV opq L dom lsr (mmax y) ls → (∀ v ∈ st, okV dom v) → W p l e R s m args below meth c H locs cells slots Q (F0 m (pcA y pc) lsr (st.map (cv opq L)))
theorem okI (dom : List Nat) (x : Int32) : okV dom (.int x) = True := eq_true (fun k h => by cases h)
theorem okG (dom : List Nat) (x : Int64) : okV dom (.long x) = True := eq_true (fun k h => by cases h)
theorem okN (dom : List Nat) : okV dom .null = True := eq_true (fun k h => by cases h)
theorem PT_pure {pc pc' : Nat} {ls st st' : List Value} {M : hM} {cells slots : Nat} (h : ∀ (L : Nat → Nat) (dom : List Nat) (H : Heap) (locs : List Loc) (lsr : Array Slot), LV opq L dom lsr (mmax y) ls → (∀ v ∈ st, okV dom v) → (∀ v ∈ st', okV dom v) ∧ (W p l e R s m args below meth c H locs cells slots Q (F0 m (pcA y pc') lsr (st'.map (cv opq L))) → W p l e R s m args below meth c H locs cells slots Q (F0 m (pcA y pc) lsr (st.map (cv opq L)))))
    (k : PT X opq adK adV scr D yA A L0 dom0 p l e R s m args below meth c Q y pc' ls st' M cells slots) : PT X opq adK adV scr D yA A L0 dom0 p l e R s m args below meth c Q y pc ls st M cells slots := by
  intro L dom H locs lsr hR hV ho
  obtain ⟨h1, h2⟩ := h L dom H locs lsr hV ho
  exact h2 (k L dom H locs lsr hR hV h1)
theorem cpK_at {own : String} {ix : Nat} {v : Int} (h : cpKh own ix v = true) : Cond.constant own ix (cI v) ∈ lw_good := by
  obtain ⟨e, he, h1⟩ := List.any_eq_true.mp h
  simp only [Bool.and_eq_true, decide_eq_true_eq] at h1
  obtain ⟨⟨rfl, rfl⟩, rfl⟩ := h1
  exact good_mem (tbW_mem (of_decide_eq_true (List.all_eq_true.mp cpK_ok e he))) rfl
theorem cpL_at {own : String} {ix : Nat} {v : Int} (h : cpLh own ix v = true) : Cond.constantLong own ix (cL v) ∈ lw_good := by
  obtain ⟨e, he, h1⟩ := List.any_eq_true.mp h
  simp only [Bool.and_eq_true, decide_eq_true_eq] at h1
  obtain ⟨⟨rfl, rfl⟩, rfl⟩ := h1
  exact good_mem (tbW_mem (of_decide_eq_true (List.all_eq_true.mp cpL_ok e he))) rfl

theorem st_iconst (F : FR X opq adK adV scr y A p R s m args meth c) {pc len : Nat} {ls : List Value} {M : hM} {cells slots : Nat} {r : Instr} (hd : decode (mbytes y) (pcA y pc) = .ok (r, len)) {v : Int} {st : List Value} (hk : lnk (mnm y).cls (mpcs y) pc (pcA y pc) len r (.iconst v) = true) (k : PT X opq adK adV scr D yA A L0 dom0 p l e R s m args below meth c Q y (pc + 1) (ls) (.int (cI v) :: st) M (cells) (slots)) : PT X opq adK adV scr D yA A L0 dom0 p l e R s m args below meth c Q y (pc) (ls) (st) M (cells) (slots) := by
  obtain ⟨⟨hx, hb, hret, hml, hown, hts, hlocks, hnm, hA⟩, ⟨hq, hvS, hvR, hZ1, hZ2, hvX, hscr, hscrA⟩, hr1, hr2⟩ := F
  simp only [lnk, Bool.and_eq_true, decide_eq_true_eq] at hk
  obtain ⟨⟨hn, hnlt⟩, hk⟩ := hk
  have hn : pcA y (pc + 1) = pcA y pc + len := hn
  refine PT_pure (fun L dom H locs lsr hV ho => ⟨by simpa [okI] using ho, fun w => ?_⟩) k
  rw [hn] at w
  split at hk <;> (try (cases hk; done)) <;> simp only [Bool.and_eq_true, decide_eq_true_eq] at hk <;> obtain ⟨rfl, h2⟩ := hk
  · exact lv_iconst hx hb hd h2 w
  · exact lv_bipush hx hb hd h2 w
  · exact lv_sipush hx hb hd h2 w
  · exact lv_ldc hx hb hown (hts _ (cpK_at h2)) hd w
  · exact lv_ldcw hx hb hown (hts _ (cpK_at h2)) hd w
theorem st_jsr (F : FR X opq adK adV scr y A p R s m args meth c) {pc len : Nat} {ls : List Value} {M : hM} {cells slots : Nat} {r : Instr} (hd : decode (mbytes y) (pcA y pc) = .ok (r, len)) {v : Int} {st : List Value} (hk : lnk (mnm y).cls (mpcs y) pc (pcA y pc) len r (.jsr v) = true) (k : PT X opq adK adV scr D yA A L0 dom0 p l e R s m args below meth c Q y (pc + 1) (ls) (.long (cL v) :: st) M (cells) (slots)) : PT X opq adK adV scr D yA A L0 dom0 p l e R s m args below meth c Q y (pc) (ls) (st) M (cells) (slots) := by
  obtain ⟨⟨hx, hb, hret, hml, hown, hts, hlocks, hnm, hA⟩, ⟨hq, hvS, hvR, hZ1, hZ2, hvX, hscr, hscrA⟩, hr1, hr2⟩ := F
  simp only [lnk, Bool.and_eq_true, decide_eq_true_eq] at hk
  obtain ⟨⟨hn, hnlt⟩, hk⟩ := hk
  have hn : pcA y (pc + 1) = pcA y pc + len := hn
  refine PT_pure (fun L dom H locs lsr hV ho => ⟨by simpa [okG] using ho, fun w => ?_⟩) k
  rw [hn] at w
  split at hk <;> (try (cases hk; done)) <;> simp only [Bool.and_eq_true, decide_eq_true_eq] at hk <;> obtain ⟨rfl, h2⟩ := hk
  · exact lv_lconst hx hb hd h2 w
  · exact lv_ldc2 hx hb hown (hts _ (cpL_at h2)) hd w
theorem st_null (F : FR X opq adK adV scr y A p R s m args meth c) {pc len : Nat} {ls : List Value} {M : hM} {cells slots : Nat} {r : Instr} (hd : decode (mbytes y) (pcA y pc) = .ok (r, len)) {st : List Value} (hk : lnk (mnm y).cls (mpcs y) pc (pcA y pc) len r (.aconst_null) = true) (k : PT X opq adK adV scr D yA A L0 dom0 p l e R s m args below meth c Q y (pc + 1) (ls) (.null :: st) M (cells) (slots)) : PT X opq adK adV scr D yA A L0 dom0 p l e R s m args below meth c Q y (pc) (ls) (st) M (cells) (slots) := by
  obtain ⟨⟨hx, hb, hret, hml, hown, hts, hlocks, hnm, hA⟩, ⟨hq, hvS, hvR, hZ1, hZ2, hvX, hscr, hscrA⟩, hr1, hr2⟩ := F
  simp only [lnk, Bool.and_eq_true, decide_eq_true_eq] at hk
  obtain ⟨⟨⟨hn, hnlt⟩, rfl⟩, rfl⟩ := hk
  have hn : pcA y (pc + 1) = pcA y pc + 1 := hn
  refine PT_pure (fun L dom H locs lsr hV ho => ⟨by simpa [okN] using ho, fun w => ?_⟩) k
  rw [hn] at w
  exact lv_null hx hb hd w
theorem st_ldc (F : FR X opq adK adV scr y A p R s m args meth c) {pc len : Nat} {ls : List Value} {M : hM} {cells slots : Nat} {r : Instr} (hd : decode (mbytes y) (pcA y pc) = .ok (r, len)) {n : Nat} {st : List Value} (hn13 : n < 13) (hk : lnk (mnm y).cls (mpcs y) pc (pcA y pc) len r (.ldc n) = true) (k : PT X opq adK adV scr D yA A L0 dom0 p l e R s m args below meth c Q y (pc + 1) (ls) (.ref (9000 + 2 * n) :: st) M (cells) (slots)) : PT X opq adK adV scr D yA A L0 dom0 p l e R s m args below meth c Q y (pc) (ls) (st) M (cells) (slots) := by
  obtain ⟨⟨hx, hb, hret, hml, hown, hts, hlocks, hnm, hA⟩, ⟨hq, hvS, hvR, hZ1, hZ2, hvX, hscr, hscrA⟩, hr1, hr2⟩ := F
  simp only [lnk, Bool.and_eq_true, decide_eq_true_eq] at hk
  obtain ⟨⟨hn, hnlt⟩, hk⟩ := hk
  have hn : pcA y (pc + 1) = pcA y pc + len := hn
  split at hk <;> (try (cases hk; done))
  simp only [Bool.and_eq_true, decide_eq_true_eq] at hk
  obtain ⟨⟨rfl, h2⟩, h3⟩ := hk
  intro L dom H locs lsr hR hV ho
  have w := k L dom H locs lsr hR hV (fun v hv => by
    rcases List.mem_cons.mp hv with rfl | h
    · intro q hq; cases hq; exact Or.inr (Or.inl (by omega))
    · exact ho v h)
  rw [hn] at w
  have hl := (hR.2.2.2.2.2.2.2.2.1.1 n hn13).1
  have hv := hvR n hn13
  rw [h2, h3] at hv
  refine va_ldcS hx hb hown hv hd ?_
  rw [← hl]
  exact w
theorem st_iload (F : FR X opq adK adV scr y A p R s m args meth c) {pc len : Nat} {ls : List Value} {M : hM} {cells slots : Nat} {r : Instr} (hd : decode (mbytes y) (pcA y pc) = .ok (r, len)) {n : Nat} {st : List Value} {x : Int32} (hv : ls.getD n xj = .int x) (hk : lnk (mnm y).cls (mpcs y) pc (pcA y pc) len r (.iload n) = true) (k : PT X opq adK adV scr D yA A L0 dom0 p l e R s m args below meth c Q y (pc + 1) (ls) (.int x :: st) M (cells) (slots)) : PT X opq adK adV scr D yA A L0 dom0 p l e R s m args below meth c Q y (pc) (ls) (st) M (cells) (slots) := by
  obtain ⟨⟨hx, hb, hret, hml, hown, hts, hlocks, hnm, hA⟩, ⟨hq, hvS, hvR, hZ1, hZ2, hvX, hscr, hscrA⟩, hr1, hr2⟩ := F
  simp only [lnk, Bool.and_eq_true, decide_eq_true_eq] at hk
  obtain ⟨⟨hn, hnlt⟩, hk⟩ := hk
  have hn : pcA y (pc + 1) = pcA y pc + len := hn
  refine PT_pure (fun L dom H locs lsr hV ho => ⟨List.forall_mem_cons.mpr ⟨hV.2.2 _ (getD_mem hv (by simp [xj])), ho⟩, fun w => ?_⟩) k
  rw [hn] at w
  have hl := hV.at hv (by simp [xj])
  split at hk <;> (try (cases hk; done)) <;> simp only [Bool.and_eq_true, decide_eq_true_eq] at hk <;> obtain ⟨rfl, rfl⟩ := hk
  · exact lv_iload hx hb hd hl w
  · exact lv_iload_n hx hb hd rfl hl w
theorem st_lload (F : FR X opq adK adV scr y A p R s m args meth c) {pc len : Nat} {ls : List Value} {M : hM} {cells slots : Nat} {r : Instr} (hd : decode (mbytes y) (pcA y pc) = .ok (r, len)) {n : Nat} {st : List Value} {x : Int64} (hv : ls.getD n xj = .long x) (hk : lnk (mnm y).cls (mpcs y) pc (pcA y pc) len r (.lload n) = true) (k : PT X opq adK adV scr D yA A L0 dom0 p l e R s m args below meth c Q y (pc + 1) (ls) (.long x :: st) M (cells) (slots)) : PT X opq adK adV scr D yA A L0 dom0 p l e R s m args below meth c Q y (pc) (ls) (st) M (cells) (slots) := by
  obtain ⟨⟨hx, hb, hret, hml, hown, hts, hlocks, hnm, hA⟩, ⟨hq, hvS, hvR, hZ1, hZ2, hvX, hscr, hscrA⟩, hr1, hr2⟩ := F
  simp only [lnk, Bool.and_eq_true, decide_eq_true_eq] at hk
  obtain ⟨⟨hn, hnlt⟩, hk⟩ := hk
  have hn : pcA y (pc + 1) = pcA y pc + len := hn
  refine PT_pure (fun L dom H locs lsr hV ho => ⟨List.forall_mem_cons.mpr ⟨hV.2.2 _ (getD_mem hv (by simp [xj])), ho⟩, fun w => ?_⟩) k
  rw [hn] at w
  have hl := hV.at hv (by simp [xj])
  split at hk <;> (try (cases hk; done)) <;> simp only [Bool.and_eq_true, decide_eq_true_eq] at hk <;> obtain ⟨rfl, rfl⟩ := hk
  · exact lv_lload hx hb hd hl w
  · exact lv_lload_n hx hb hd rfl hl w
theorem st_aload (F : FR X opq adK adV scr y A p R s m args meth c) {pc len : Nat} {ls : List Value} {M : hM} {cells slots : Nat} {r : Instr} (hd : decode (mbytes y) (pcA y pc) = .ok (r, len)) {n : Nat} {st : List Value} {x : Nat} (hv : ls.getD n xj = .ref x) (hk : lnk (mnm y).cls (mpcs y) pc (pcA y pc) len r (.aload n) = true) (k : PT X opq adK adV scr D yA A L0 dom0 p l e R s m args below meth c Q y (pc + 1) (ls) (.ref x :: st) M (cells) (slots)) : PT X opq adK adV scr D yA A L0 dom0 p l e R s m args below meth c Q y (pc) (ls) (st) M (cells) (slots) := by
  obtain ⟨⟨hx, hb, hret, hml, hown, hts, hlocks, hnm, hA⟩, ⟨hq, hvS, hvR, hZ1, hZ2, hvX, hscr, hscrA⟩, hr1, hr2⟩ := F
  simp only [lnk, Bool.and_eq_true, decide_eq_true_eq] at hk
  obtain ⟨⟨hn, hnlt⟩, hk⟩ := hk
  have hn : pcA y (pc + 1) = pcA y pc + len := hn
  refine PT_pure (fun L dom H locs lsr hV ho => ⟨List.forall_mem_cons.mpr ⟨hV.2.2 _ (getD_mem hv (by simp [xj])), ho⟩, fun w => ?_⟩) k
  rw [hn] at w
  have hl := hV.at hv (by simp [xj])
  split at hk <;> (try (cases hk; done)) <;> simp only [Bool.and_eq_true, decide_eq_true_eq] at hk <;> obtain ⟨rfl, rfl⟩ := hk
  · exact lv_aload hx hb hd hl w
  · exact lv_aload_n hx hb hd rfl hl w
theorem st_aloadN (F : FR X opq adK adV scr y A p R s m args meth c) {pc len : Nat} {ls : List Value} {M : hM} {cells slots : Nat} {r : Instr} (hd : decode (mbytes y) (pcA y pc) = .ok (r, len)) {n : Nat} {st : List Value} (hv : ls.getD n xj = .null) (hk : lnk (mnm y).cls (mpcs y) pc (pcA y pc) len r (.aload n) = true) (k : PT X opq adK adV scr D yA A L0 dom0 p l e R s m args below meth c Q y (pc + 1) (ls) (.null :: st) M (cells) (slots)) : PT X opq adK adV scr D yA A L0 dom0 p l e R s m args below meth c Q y (pc) (ls) (st) M (cells) (slots) := by
  obtain ⟨⟨hx, hb, hret, hml, hown, hts, hlocks, hnm, hA⟩, ⟨hq, hvS, hvR, hZ1, hZ2, hvX, hscr, hscrA⟩, hr1, hr2⟩ := F
  simp only [lnk, Bool.and_eq_true, decide_eq_true_eq] at hk
  obtain ⟨⟨hn, hnlt⟩, hk⟩ := hk
  have hn : pcA y (pc + 1) = pcA y pc + len := hn
  refine PT_pure (fun L dom H locs lsr hV ho => ⟨List.forall_mem_cons.mpr ⟨hV.2.2 _ (getD_mem hv (by simp [xj])), ho⟩, fun w => ?_⟩) k
  rw [hn] at w
  have hl := hV.at hv (by simp [xj])
  split at hk <;> (try (cases hk; done)) <;> simp only [Bool.and_eq_true, decide_eq_true_eq] at hk <;> obtain ⟨rfl, rfl⟩ := hk
  · exact lv_aloadN hx hb hd hl w
  · exact lv_aload_nN hx hb hd rfl hl w
theorem st_istore (F : FR X opq adK adV scr y A p R s m args meth c) {pc len : Nat} {ls : List Value} {M : hM} {cells slots : Nat} {r : Instr} (hd : decode (mbytes y) (pcA y pc) = .ok (r, len)) {n : Nat} {st : List Value} {x : Int32} (hv : n < ls.length) (hk : lnk (mnm y).cls (mpcs y) pc (pcA y pc) len r (.istore n) = true) (k : PT X opq adK adV scr D yA A L0 dom0 p l e R s m args below meth c Q y (pc + 1) (set1 ls n (.int x)) (st) M (cells) (slots)) : PT X opq adK adV scr D yA A L0 dom0 p l e R s m args below meth c Q y (pc) (ls) (.int x :: st) M (cells) (slots) := by
  obtain ⟨⟨hx, hb, hret, hml, hown, hts, hlocks, hnm, hA⟩, ⟨hq, hvS, hvR, hZ1, hZ2, hvX, hscr, hscrA⟩, hr1, hr2⟩ := F
  simp only [lnk, Bool.and_eq_true, decide_eq_true_eq] at hk
  obtain ⟨⟨hn, hnlt⟩, hk⟩ := hk
  have hn : pcA y (pc + 1) = pcA y pc + len := hn
  intro L dom H locs lsr hR hV ho
  obtain ⟨ho1, ho2⟩ := List.forall_mem_cons.mp ho
  have w := fun lsr2 hV2 => k L dom H locs lsr2 hR hV2 ho2
  rw [hn] at w
  have hlt := hV.2.1 ▸ hv
  split at hk <;> (try (cases hk; done)) <;> simp only [Bool.and_eq_true, decide_eq_true_eq] at hk <;> obtain ⟨rfl, rfl⟩ := hk
  · exact lv_istore hx hb hd hV.1 hlt rfl (fun ls2 h2 => w ls2 (LV_set1 hq hV ho1 h2))
  · exact lv_istore_n hx hb hd rfl hV.1 hlt rfl (fun ls2 h2 => w ls2 (LV_set1 hq hV ho1 h2))
theorem st_lstore (F : FR X opq adK adV scr y A p R s m args meth c) {pc len : Nat} {ls : List Value} {M : hM} {cells slots : Nat} {r : Instr} (hd : decode (mbytes y) (pcA y pc) = .ok (r, len)) {n : Nat} {st : List Value} {x : Int64} (hv : n + 1 < ls.length) (hk : lnk (mnm y).cls (mpcs y) pc (pcA y pc) len r (.lstore n) = true) (k : PT X opq adK adV scr D yA A L0 dom0 p l e R s m args below meth c Q y (pc + 1) (set2 ls n (.long x)) (st) M (cells) (slots)) : PT X opq adK adV scr D yA A L0 dom0 p l e R s m args below meth c Q y (pc) (ls) (.long x :: st) M (cells) (slots) := by
  obtain ⟨⟨hx, hb, hret, hml, hown, hts, hlocks, hnm, hA⟩, ⟨hq, hvS, hvR, hZ1, hZ2, hvX, hscr, hscrA⟩, hr1, hr2⟩ := F
  simp only [lnk, Bool.and_eq_true, decide_eq_true_eq] at hk
  obtain ⟨⟨hn, hnlt⟩, hk⟩ := hk
  have hn : pcA y (pc + 1) = pcA y pc + len := hn
  intro L dom H locs lsr hR hV ho
  obtain ⟨ho1, ho2⟩ := List.forall_mem_cons.mp ho
  have w := fun lsr2 hV2 => k L dom H locs lsr2 hR hV2 ho2
  rw [hn] at w
  have hlt := hV.2.1 ▸ hv
  split at hk <;> (try (cases hk; done)) <;> simp only [Bool.and_eq_true, decide_eq_true_eq] at hk <;> obtain ⟨rfl, rfl⟩ := hk
  · exact lv_lstore hx hb hd hV.1 hlt rfl (fun ls2 h2 => w ls2 (LV_set2 hq hV ho1 h2))
  · exact lv_lstore_n hx hb hd rfl hV.1 hlt rfl (fun ls2 h2 => w ls2 (LV_set2 hq hV ho1 h2))
theorem st_astore (F : FR X opq adK adV scr y A p R s m args meth c) {pc len : Nat} {ls : List Value} {M : hM} {cells slots : Nat} {r : Instr} (hd : decode (mbytes y) (pcA y pc) = .ok (r, len)) {n : Nat} {st : List Value} {x : Nat} (hv : n < ls.length) (hk : lnk (mnm y).cls (mpcs y) pc (pcA y pc) len r (.astore n) = true) (k : PT X opq adK adV scr D yA A L0 dom0 p l e R s m args below meth c Q y (pc + 1) (set1 ls n (.ref x)) (st) M (cells) (slots)) : PT X opq adK adV scr D yA A L0 dom0 p l e R s m args below meth c Q y (pc) (ls) (.ref x :: st) M (cells) (slots) := by
  obtain ⟨⟨hx, hb, hret, hml, hown, hts, hlocks, hnm, hA⟩, ⟨hq, hvS, hvR, hZ1, hZ2, hvX, hscr, hscrA⟩, hr1, hr2⟩ := F
  simp only [lnk, Bool.and_eq_true, decide_eq_true_eq] at hk
  obtain ⟨⟨hn, hnlt⟩, hk⟩ := hk
  have hn : pcA y (pc + 1) = pcA y pc + len := hn
  intro L dom H locs lsr hR hV ho
  obtain ⟨ho1, ho2⟩ := List.forall_mem_cons.mp ho
  have w := fun lsr2 hV2 => k L dom H locs lsr2 hR hV2 ho2
  rw [hn] at w
  have hlt := hV.2.1 ▸ hv
  split at hk <;> (try (cases hk; done)) <;> simp only [Bool.and_eq_true, decide_eq_true_eq] at hk <;> obtain ⟨rfl, rfl⟩ := hk
  · exact lv_astore hx hb hd hV.1 hlt rfl (fun ls2 h2 => w ls2 (LV_set1 hq hV ho1 h2))
  · exact lv_astore_n hx hb hd rfl hV.1 hlt rfl (fun ls2 h2 => w ls2 (LV_set1 hq hV ho1 h2))
theorem st_astoreN (F : FR X opq adK adV scr y A p R s m args meth c) {pc len : Nat} {ls : List Value} {M : hM} {cells slots : Nat} {r : Instr} (hd : decode (mbytes y) (pcA y pc) = .ok (r, len)) {n : Nat} {st : List Value} (hv : n < ls.length) (hk : lnk (mnm y).cls (mpcs y) pc (pcA y pc) len r (.astore n) = true) (k : PT X opq adK adV scr D yA A L0 dom0 p l e R s m args below meth c Q y (pc + 1) (set1 ls n (.null)) (st) M (cells) (slots)) : PT X opq adK adV scr D yA A L0 dom0 p l e R s m args below meth c Q y (pc) (ls) (.null :: st) M (cells) (slots) := by
  obtain ⟨⟨hx, hb, hret, hml, hown, hts, hlocks, hnm, hA⟩, ⟨hq, hvS, hvR, hZ1, hZ2, hvX, hscr, hscrA⟩, hr1, hr2⟩ := F
  simp only [lnk, Bool.and_eq_true, decide_eq_true_eq] at hk
  obtain ⟨⟨hn, hnlt⟩, hk⟩ := hk
  have hn : pcA y (pc + 1) = pcA y pc + len := hn
  intro L dom H locs lsr hR hV ho
  obtain ⟨ho1, ho2⟩ := List.forall_mem_cons.mp ho
  have w := fun lsr2 hV2 => k L dom H locs lsr2 hR hV2 ho2
  rw [hn] at w
  have hlt := hV.2.1 ▸ hv
  split at hk <;> (try (cases hk; done)) <;> simp only [Bool.and_eq_true, decide_eq_true_eq] at hk <;> obtain ⟨rfl, rfl⟩ := hk
  · exact lv_astoreN hx hb hd hV.1 hlt rfl (fun ls2 h2 => w ls2 (LV_set1 hq hV ho1 h2))
  · exact lv_astore_nN hx hb hd rfl hV.1 hlt rfl (fun ls2 h2 => w ls2 (LV_set1 hq hV ho1 h2))
theorem st_iinc (F : FR X opq adK adV scr y A p R s m args meth c) {pc len : Nat} {ls : List Value} {M : hM} {cells slots : Nat} {r : Instr} (hd : decode (mbytes y) (pcA y pc) = .ok (r, len)) {n : Nat} {v : Int} {x : Int32} {st : List Value} (hv : ls.getD n xj = .int x) (hlt : n < ls.length) (hk : lnk (mnm y).cls (mpcs y) pc (pcA y pc) len r (.iinc n v) = true) (k : PT X opq adK adV scr D yA A L0 dom0 p l e R s m args below meth c Q y (pc + 1) (set1 ls n (.int (x + cI v))) (st) M (cells) (slots)) : PT X opq adK adV scr D yA A L0 dom0 p l e R s m args below meth c Q y (pc) (ls) (st) M (cells) (slots) := by
  obtain ⟨⟨hx, hb, hret, hml, hown, hts, hlocks, hnm, hA⟩, ⟨hq, hvS, hvR, hZ1, hZ2, hvX, hscr, hscrA⟩, hr1, hr2⟩ := F
  simp only [lnk, Bool.and_eq_true, decide_eq_true_eq] at hk
  obtain ⟨⟨hn, hnlt⟩, hk⟩ := hk
  have hn : pcA y (pc + 1) = pcA y pc + len := hn
  intro L dom H locs lsr hR hV ho
  have w := fun lsr2 hV2 => k L dom H locs lsr2 hR hV2 ho
  rw [hn] at w
  have hlt := hV.2.1 ▸ hlt
  split at hk <;> (try (cases hk; done))
  simp only [Bool.and_eq_true, decide_eq_true_eq] at hk
  obtain ⟨⟨rfl, hmn⟩, h3⟩ := hk
  rw [hmn] at hd
  have h1 : ls[n]? = some (.int x) := by
    unfold List.getD at hv
    cases h2 : ls[n]? with
    | none => rw [h2] at hv; cases hv
    | some w => rw [h2] at hv; exact congrArg some hv
  obtain ⟨q, hq1⟩ := List.getElem?_of_mem (mem_lvl (opq := opq) (L := L) (q := (n, .int x)) |>.mpr ⟨_, h1, by simp [xj], rfl⟩)
  exact lv_iinc hx hb hd hV.1 hq1 (by rw [h3]) hlt rfl (fun ls2 h2 => w ls2 (LV_set1 (v := .int (x + cI v)) hq hV (of_eq_true (okI _ _)) h2))
theorem st_if_eq (F : FR X opq adK adV scr y A p R s m args meth c) {pc len : Nat} {ls : List Value} {M : hM} {cells slots : Nat} {r : Instr} (hd : decode (mbytes y) (pcA y pc) = .ok (r, len)) {x : Int32} {t : Int} {st : List Value} (hk : lnk (mnm y).cls (mpcs y) pc (pcA y pc) len r (.ifCond .eq t) = true) (k : PT X opq adK adV scr D yA A L0 dom0 p l e R s m args below meth c Q y (bif cndB .eq x 0 then t.toNat else pc + 1) ls st M cells slots) : PT X opq adK adV scr D yA A L0 dom0 p l e R s m args below meth c Q y (pc) (ls) (.int x :: st) M (cells) (slots) := by
  obtain ⟨⟨hx, hb, hret, hml, hown, hts, hlocks, hnm, hA⟩, ⟨hq, hvS, hvR, hZ1, hZ2, hvX, hscr, hscrA⟩, hr1, hr2⟩ := F
  simp only [lnk, Bool.and_eq_true, decide_eq_true_eq] at hk
  obtain ⟨⟨hn, hnlt⟩, hk⟩ := hk
  have hn : pcA y (pc + 1) = pcA y pc + len := hn
  split at hk <;> (try (cases hk; done))
  simp only [Bool.and_eq_true, decide_eq_true_eq, mtgt] at hk
  obtain ⟨⟨rfl, rfl⟩, ht, -⟩ := hk
  intro L dom H locs lsr hR hV ho
  have w := k L dom H locs lsr hR hV (List.forall_mem_cons.mp ho).2
  refine lv_if_eq hx hb hd ht (fun h => ?_) (fun h => ?_)
  · have e : cndB .eq x 0 = true := decide_eq_true (by first | exact h | exact Int32.not_lt.mp h | exact Int32.not_le.mp h)
    rw [e] at w
    exact w
  · have e : cndB .eq x 0 = false := decide_eq_false (by first | exact h | exact fun z => h z | exact fun z => h (Int32.not_lt.mpr z) | exact fun z => h (Int32.not_le.mpr z) | exact fun z => z h)
    rw [e, cond_false, hn] at w
    exact w
theorem st_if_ne (F : FR X opq adK adV scr y A p R s m args meth c) {pc len : Nat} {ls : List Value} {M : hM} {cells slots : Nat} {r : Instr} (hd : decode (mbytes y) (pcA y pc) = .ok (r, len)) {x : Int32} {t : Int} {st : List Value} (hk : lnk (mnm y).cls (mpcs y) pc (pcA y pc) len r (.ifCond .ne t) = true) (k : PT X opq adK adV scr D yA A L0 dom0 p l e R s m args below meth c Q y (bif cndB .ne x 0 then t.toNat else pc + 1) ls st M cells slots) : PT X opq adK adV scr D yA A L0 dom0 p l e R s m args below meth c Q y (pc) (ls) (.int x :: st) M (cells) (slots) := by
  obtain ⟨⟨hx, hb, hret, hml, hown, hts, hlocks, hnm, hA⟩, ⟨hq, hvS, hvR, hZ1, hZ2, hvX, hscr, hscrA⟩, hr1, hr2⟩ := F
  simp only [lnk, Bool.and_eq_true, decide_eq_true_eq] at hk
  obtain ⟨⟨hn, hnlt⟩, hk⟩ := hk
  have hn : pcA y (pc + 1) = pcA y pc + len := hn
  split at hk <;> (try (cases hk; done))
  simp only [Bool.and_eq_true, decide_eq_true_eq, mtgt] at hk
  obtain ⟨⟨rfl, rfl⟩, ht, -⟩ := hk
  intro L dom H locs lsr hR hV ho
  have w := k L dom H locs lsr hR hV (List.forall_mem_cons.mp ho).2
  refine lv_if_ne hx hb hd ht (fun h => ?_) (fun h => ?_)
  · have e : cndB .ne x 0 = true := decide_eq_true (by first | exact h | exact Int32.not_lt.mp h | exact Int32.not_le.mp h)
    rw [e] at w
    exact w
  · have e : cndB .ne x 0 = false := decide_eq_false (by first | exact h | exact fun z => h z | exact fun z => h (Int32.not_lt.mpr z) | exact fun z => h (Int32.not_le.mpr z) | exact fun z => z h)
    rw [e, cond_false, hn] at w
    exact w
theorem st_if_lt (F : FR X opq adK adV scr y A p R s m args meth c) {pc len : Nat} {ls : List Value} {M : hM} {cells slots : Nat} {r : Instr} (hd : decode (mbytes y) (pcA y pc) = .ok (r, len)) {x : Int32} {t : Int} {st : List Value} (hk : lnk (mnm y).cls (mpcs y) pc (pcA y pc) len r (.ifCond .lt t) = true) (k : PT X opq adK adV scr D yA A L0 dom0 p l e R s m args below meth c Q y (bif cndB .lt x 0 then t.toNat else pc + 1) ls st M cells slots) : PT X opq adK adV scr D yA A L0 dom0 p l e R s m args below meth c Q y (pc) (ls) (.int x :: st) M (cells) (slots) := by
  obtain ⟨⟨hx, hb, hret, hml, hown, hts, hlocks, hnm, hA⟩, ⟨hq, hvS, hvR, hZ1, hZ2, hvX, hscr, hscrA⟩, hr1, hr2⟩ := F
  simp only [lnk, Bool.and_eq_true, decide_eq_true_eq] at hk
  obtain ⟨⟨hn, hnlt⟩, hk⟩ := hk
  have hn : pcA y (pc + 1) = pcA y pc + len := hn
  split at hk <;> (try (cases hk; done))
  simp only [Bool.and_eq_true, decide_eq_true_eq, mtgt] at hk
  obtain ⟨⟨rfl, rfl⟩, ht, -⟩ := hk
  intro L dom H locs lsr hR hV ho
  have w := k L dom H locs lsr hR hV (List.forall_mem_cons.mp ho).2
  refine lv_if_lt hx hb hd ht (fun h => ?_) (fun h => ?_)
  · have e : cndB .lt x 0 = true := decide_eq_true (by first | exact h | exact Int32.not_lt.mp h | exact Int32.not_le.mp h)
    rw [e] at w
    exact w
  · have e : cndB .lt x 0 = false := decide_eq_false (by first | exact h | exact fun z => h z | exact fun z => h (Int32.not_lt.mpr z) | exact fun z => h (Int32.not_le.mpr z) | exact fun z => z h)
    rw [e, cond_false, hn] at w
    exact w
theorem st_if_ge (F : FR X opq adK adV scr y A p R s m args meth c) {pc len : Nat} {ls : List Value} {M : hM} {cells slots : Nat} {r : Instr} (hd : decode (mbytes y) (pcA y pc) = .ok (r, len)) {x : Int32} {t : Int} {st : List Value} (hk : lnk (mnm y).cls (mpcs y) pc (pcA y pc) len r (.ifCond .ge t) = true) (k : PT X opq adK adV scr D yA A L0 dom0 p l e R s m args below meth c Q y (bif cndB .ge x 0 then t.toNat else pc + 1) ls st M cells slots) : PT X opq adK adV scr D yA A L0 dom0 p l e R s m args below meth c Q y (pc) (ls) (.int x :: st) M (cells) (slots) := by
  obtain ⟨⟨hx, hb, hret, hml, hown, hts, hlocks, hnm, hA⟩, ⟨hq, hvS, hvR, hZ1, hZ2, hvX, hscr, hscrA⟩, hr1, hr2⟩ := F
  simp only [lnk, Bool.and_eq_true, decide_eq_true_eq] at hk
  obtain ⟨⟨hn, hnlt⟩, hk⟩ := hk
  have hn : pcA y (pc + 1) = pcA y pc + len := hn
  split at hk <;> (try (cases hk; done))
  simp only [Bool.and_eq_true, decide_eq_true_eq, mtgt] at hk
  obtain ⟨⟨rfl, rfl⟩, ht, -⟩ := hk
  intro L dom H locs lsr hR hV ho
  have w := k L dom H locs lsr hR hV (List.forall_mem_cons.mp ho).2
  refine lv_if_ge hx hb hd ht (fun h => ?_) (fun h => ?_)
  · have e : cndB .ge x 0 = true := decide_eq_true (by first | exact h | exact Int32.not_lt.mp h | exact Int32.not_le.mp h)
    rw [e] at w
    exact w
  · have e : cndB .ge x 0 = false := decide_eq_false (by first | exact h | exact fun z => h z | exact fun z => h (Int32.not_lt.mpr z) | exact fun z => h (Int32.not_le.mpr z) | exact fun z => z h)
    rw [e, cond_false, hn] at w
    exact w
theorem st_if_gt (F : FR X opq adK adV scr y A p R s m args meth c) {pc len : Nat} {ls : List Value} {M : hM} {cells slots : Nat} {r : Instr} (hd : decode (mbytes y) (pcA y pc) = .ok (r, len)) {x : Int32} {t : Int} {st : List Value} (hk : lnk (mnm y).cls (mpcs y) pc (pcA y pc) len r (.ifCond .gt t) = true) (k : PT X opq adK adV scr D yA A L0 dom0 p l e R s m args below meth c Q y (bif cndB .gt x 0 then t.toNat else pc + 1) ls st M cells slots) : PT X opq adK adV scr D yA A L0 dom0 p l e R s m args below meth c Q y (pc) (ls) (.int x :: st) M (cells) (slots) := by
  obtain ⟨⟨hx, hb, hret, hml, hown, hts, hlocks, hnm, hA⟩, ⟨hq, hvS, hvR, hZ1, hZ2, hvX, hscr, hscrA⟩, hr1, hr2⟩ := F
  simp only [lnk, Bool.and_eq_true, decide_eq_true_eq] at hk
  obtain ⟨⟨hn, hnlt⟩, hk⟩ := hk
  have hn : pcA y (pc + 1) = pcA y pc + len := hn
  split at hk <;> (try (cases hk; done))
  simp only [Bool.and_eq_true, decide_eq_true_eq, mtgt] at hk
  obtain ⟨⟨rfl, rfl⟩, ht, -⟩ := hk
  intro L dom H locs lsr hR hV ho
  have w := k L dom H locs lsr hR hV (List.forall_mem_cons.mp ho).2
  refine lv_if_gt hx hb hd ht (fun h => ?_) (fun h => ?_)
  · have e : cndB .gt x 0 = true := decide_eq_true (by first | exact h | exact Int32.not_lt.mp h | exact Int32.not_le.mp h)
    rw [e] at w
    exact w
  · have e : cndB .gt x 0 = false := decide_eq_false (by first | exact h | exact fun z => h z | exact fun z => h (Int32.not_lt.mpr z) | exact fun z => h (Int32.not_le.mpr z) | exact fun z => z h)
    rw [e, cond_false, hn] at w
    exact w
theorem st_if_le (F : FR X opq adK adV scr y A p R s m args meth c) {pc len : Nat} {ls : List Value} {M : hM} {cells slots : Nat} {r : Instr} (hd : decode (mbytes y) (pcA y pc) = .ok (r, len)) {x : Int32} {t : Int} {st : List Value} (hk : lnk (mnm y).cls (mpcs y) pc (pcA y pc) len r (.ifCond .le t) = true) (k : PT X opq adK adV scr D yA A L0 dom0 p l e R s m args below meth c Q y (bif cndB .le x 0 then t.toNat else pc + 1) ls st M cells slots) : PT X opq adK adV scr D yA A L0 dom0 p l e R s m args below meth c Q y (pc) (ls) (.int x :: st) M (cells) (slots) := by
  obtain ⟨⟨hx, hb, hret, hml, hown, hts, hlocks, hnm, hA⟩, ⟨hq, hvS, hvR, hZ1, hZ2, hvX, hscr, hscrA⟩, hr1, hr2⟩ := F
  simp only [lnk, Bool.and_eq_true, decide_eq_true_eq] at hk
  obtain ⟨⟨hn, hnlt⟩, hk⟩ := hk
  have hn : pcA y (pc + 1) = pcA y pc + len := hn
  split at hk <;> (try (cases hk; done))
  simp only [Bool.and_eq_true, decide_eq_true_eq, mtgt] at hk
  obtain ⟨⟨rfl, rfl⟩, ht, -⟩ := hk
  intro L dom H locs lsr hR hV ho
  have w := k L dom H locs lsr hR hV (List.forall_mem_cons.mp ho).2
  refine lv_if_le hx hb hd ht (fun h => ?_) (fun h => ?_)
  · have e : cndB .le x 0 = true := decide_eq_true (by first | exact h | exact Int32.not_lt.mp h | exact Int32.not_le.mp h)
    rw [e] at w
    exact w
  · have e : cndB .le x 0 = false := decide_eq_false (by first | exact h | exact fun z => h z | exact fun z => h (Int32.not_lt.mpr z) | exact fun z => h (Int32.not_le.mpr z) | exact fun z => z h)
    rw [e, cond_false, hn] at w
    exact w
theorem st_ic_eq (F : FR X opq adK adV scr y A p R s m args meth c) {pc len : Nat} {ls : List Value} {M : hM} {cells slots : Nat} {r : Instr} (hd : decode (mbytes y) (pcA y pc) = .ok (r, len)) {x z : Int32} {t : Int} {st : List Value} (hk : lnk (mnm y).cls (mpcs y) pc (pcA y pc) len r (.if_icmp .eq t) = true) (k : PT X opq adK adV scr D yA A L0 dom0 p l e R s m args below meth c Q y (bif cndB .eq x z then t.toNat else pc + 1) ls st M cells slots) : PT X opq adK adV scr D yA A L0 dom0 p l e R s m args below meth c Q y (pc) (ls) (.int z :: .int x :: st) M (cells) (slots) := by
  obtain ⟨⟨hx, hb, hret, hml, hown, hts, hlocks, hnm, hA⟩, ⟨hq, hvS, hvR, hZ1, hZ2, hvX, hscr, hscrA⟩, hr1, hr2⟩ := F
  simp only [lnk, Bool.and_eq_true, decide_eq_true_eq] at hk
  obtain ⟨⟨hn, hnlt⟩, hk⟩ := hk
  have hn : pcA y (pc + 1) = pcA y pc + len := hn
  split at hk <;> (try (cases hk; done))
  simp only [Bool.and_eq_true, decide_eq_true_eq, mtgt] at hk
  obtain ⟨⟨rfl, rfl⟩, ht, -⟩ := hk
  intro L dom H locs lsr hR hV ho
  have w := k L dom H locs lsr hR hV (List.forall_mem_cons.mp (List.forall_mem_cons.mp ho).2).2
  refine lv_icmp_eq hx hb hd ht (fun h => ?_) (fun h => ?_)
  · have e : cndB .eq x z = true := decide_eq_true (by first | exact h | exact Int32.not_lt.mp h | exact Int32.not_le.mp h)
    rw [e] at w
    exact w
  · have e : cndB .eq x z = false := decide_eq_false (by first | exact h | exact fun z => h z | exact fun z => h (Int32.not_lt.mpr z) | exact fun z => h (Int32.not_le.mpr z) | exact fun z => z h)
    rw [e, cond_false, hn] at w
    exact w
theorem st_ic_ne (F : FR X opq adK adV scr y A p R s m args meth c) {pc len : Nat} {ls : List Value} {M : hM} {cells slots : Nat} {r : Instr} (hd : decode (mbytes y) (pcA y pc) = .ok (r, len)) {x z : Int32} {t : Int} {st : List Value} (hk : lnk (mnm y).cls (mpcs y) pc (pcA y pc) len r (.if_icmp .ne t) = true) (k : PT X opq adK adV scr D yA A L0 dom0 p l e R s m args below meth c Q y (bif cndB .ne x z then t.toNat else pc + 1) ls st M cells slots) : PT X opq adK adV scr D yA A L0 dom0 p l e R s m args below meth c Q y (pc) (ls) (.int z :: .int x :: st) M (cells) (slots) := by
  obtain ⟨⟨hx, hb, hret, hml, hown, hts, hlocks, hnm, hA⟩, ⟨hq, hvS, hvR, hZ1, hZ2, hvX, hscr, hscrA⟩, hr1, hr2⟩ := F
  simp only [lnk, Bool.and_eq_true, decide_eq_true_eq] at hk
  obtain ⟨⟨hn, hnlt⟩, hk⟩ := hk
  have hn : pcA y (pc + 1) = pcA y pc + len := hn
  split at hk <;> (try (cases hk; done))
  simp only [Bool.and_eq_true, decide_eq_true_eq, mtgt] at hk
  obtain ⟨⟨rfl, rfl⟩, ht, -⟩ := hk
  intro L dom H locs lsr hR hV ho
  have w := k L dom H locs lsr hR hV (List.forall_mem_cons.mp (List.forall_mem_cons.mp ho).2).2
  refine lv_icmp_ne hx hb hd ht (fun h => ?_) (fun h => ?_)
  · have e : cndB .ne x z = true := decide_eq_true (by first | exact h | exact Int32.not_lt.mp h | exact Int32.not_le.mp h)
    rw [e] at w
    exact w
  · have e : cndB .ne x z = false := decide_eq_false (by first | exact h | exact fun z => h z | exact fun z => h (Int32.not_lt.mpr z) | exact fun z => h (Int32.not_le.mpr z) | exact fun z => z h)
    rw [e, cond_false, hn] at w
    exact w
theorem st_ic_lt (F : FR X opq adK adV scr y A p R s m args meth c) {pc len : Nat} {ls : List Value} {M : hM} {cells slots : Nat} {r : Instr} (hd : decode (mbytes y) (pcA y pc) = .ok (r, len)) {x z : Int32} {t : Int} {st : List Value} (hk : lnk (mnm y).cls (mpcs y) pc (pcA y pc) len r (.if_icmp .lt t) = true) (k : PT X opq adK adV scr D yA A L0 dom0 p l e R s m args below meth c Q y (bif cndB .lt x z then t.toNat else pc + 1) ls st M cells slots) : PT X opq adK adV scr D yA A L0 dom0 p l e R s m args below meth c Q y (pc) (ls) (.int z :: .int x :: st) M (cells) (slots) := by
  obtain ⟨⟨hx, hb, hret, hml, hown, hts, hlocks, hnm, hA⟩, ⟨hq, hvS, hvR, hZ1, hZ2, hvX, hscr, hscrA⟩, hr1, hr2⟩ := F
  simp only [lnk, Bool.and_eq_true, decide_eq_true_eq] at hk
  obtain ⟨⟨hn, hnlt⟩, hk⟩ := hk
  have hn : pcA y (pc + 1) = pcA y pc + len := hn
  split at hk <;> (try (cases hk; done))
  simp only [Bool.and_eq_true, decide_eq_true_eq, mtgt] at hk
  obtain ⟨⟨rfl, rfl⟩, ht, -⟩ := hk
  intro L dom H locs lsr hR hV ho
  have w := k L dom H locs lsr hR hV (List.forall_mem_cons.mp (List.forall_mem_cons.mp ho).2).2
  refine lv_icmp_lt hx hb hd ht (fun h => ?_) (fun h => ?_)
  · have e : cndB .lt x z = true := decide_eq_true (by first | exact h | exact Int32.not_lt.mp h | exact Int32.not_le.mp h)
    rw [e] at w
    exact w
  · have e : cndB .lt x z = false := decide_eq_false (by first | exact h | exact fun z => h z | exact fun z => h (Int32.not_lt.mpr z) | exact fun z => h (Int32.not_le.mpr z) | exact fun z => z h)
    rw [e, cond_false, hn] at w
    exact w
theorem st_ic_ge (F : FR X opq adK adV scr y A p R s m args meth c) {pc len : Nat} {ls : List Value} {M : hM} {cells slots : Nat} {r : Instr} (hd : decode (mbytes y) (pcA y pc) = .ok (r, len)) {x z : Int32} {t : Int} {st : List Value} (hk : lnk (mnm y).cls (mpcs y) pc (pcA y pc) len r (.if_icmp .ge t) = true) (k : PT X opq adK adV scr D yA A L0 dom0 p l e R s m args below meth c Q y (bif cndB .ge x z then t.toNat else pc + 1) ls st M cells slots) : PT X opq adK adV scr D yA A L0 dom0 p l e R s m args below meth c Q y (pc) (ls) (.int z :: .int x :: st) M (cells) (slots) := by
  obtain ⟨⟨hx, hb, hret, hml, hown, hts, hlocks, hnm, hA⟩, ⟨hq, hvS, hvR, hZ1, hZ2, hvX, hscr, hscrA⟩, hr1, hr2⟩ := F
  simp only [lnk, Bool.and_eq_true, decide_eq_true_eq] at hk
  obtain ⟨⟨hn, hnlt⟩, hk⟩ := hk
  have hn : pcA y (pc + 1) = pcA y pc + len := hn
  split at hk <;> (try (cases hk; done))
  simp only [Bool.and_eq_true, decide_eq_true_eq, mtgt] at hk
  obtain ⟨⟨rfl, rfl⟩, ht, -⟩ := hk
  intro L dom H locs lsr hR hV ho
  have w := k L dom H locs lsr hR hV (List.forall_mem_cons.mp (List.forall_mem_cons.mp ho).2).2
  refine lv_icmp_ge hx hb hd ht (fun h => ?_) (fun h => ?_)
  · have e : cndB .ge x z = true := decide_eq_true (by first | exact h | exact Int32.not_lt.mp h | exact Int32.not_le.mp h)
    rw [e] at w
    exact w
  · have e : cndB .ge x z = false := decide_eq_false (by first | exact h | exact fun z => h z | exact fun z => h (Int32.not_lt.mpr z) | exact fun z => h (Int32.not_le.mpr z) | exact fun z => z h)
    rw [e, cond_false, hn] at w
    exact w
theorem st_ic_gt (F : FR X opq adK adV scr y A p R s m args meth c) {pc len : Nat} {ls : List Value} {M : hM} {cells slots : Nat} {r : Instr} (hd : decode (mbytes y) (pcA y pc) = .ok (r, len)) {x z : Int32} {t : Int} {st : List Value} (hk : lnk (mnm y).cls (mpcs y) pc (pcA y pc) len r (.if_icmp .gt t) = true) (k : PT X opq adK adV scr D yA A L0 dom0 p l e R s m args below meth c Q y (bif cndB .gt x z then t.toNat else pc + 1) ls st M cells slots) : PT X opq adK adV scr D yA A L0 dom0 p l e R s m args below meth c Q y (pc) (ls) (.int z :: .int x :: st) M (cells) (slots) := by
  obtain ⟨⟨hx, hb, hret, hml, hown, hts, hlocks, hnm, hA⟩, ⟨hq, hvS, hvR, hZ1, hZ2, hvX, hscr, hscrA⟩, hr1, hr2⟩ := F
  simp only [lnk, Bool.and_eq_true, decide_eq_true_eq] at hk
  obtain ⟨⟨hn, hnlt⟩, hk⟩ := hk
  have hn : pcA y (pc + 1) = pcA y pc + len := hn
  split at hk <;> (try (cases hk; done))
  simp only [Bool.and_eq_true, decide_eq_true_eq, mtgt] at hk
  obtain ⟨⟨rfl, rfl⟩, ht, -⟩ := hk
  intro L dom H locs lsr hR hV ho
  have w := k L dom H locs lsr hR hV (List.forall_mem_cons.mp (List.forall_mem_cons.mp ho).2).2
  refine lv_icmp_gt hx hb hd ht (fun h => ?_) (fun h => ?_)
  · have e : cndB .gt x z = true := decide_eq_true (by first | exact h | exact Int32.not_lt.mp h | exact Int32.not_le.mp h)
    rw [e] at w
    exact w
  · have e : cndB .gt x z = false := decide_eq_false (by first | exact h | exact fun z => h z | exact fun z => h (Int32.not_lt.mpr z) | exact fun z => h (Int32.not_le.mpr z) | exact fun z => z h)
    rw [e, cond_false, hn] at w
    exact w
theorem st_ic_le (F : FR X opq adK adV scr y A p R s m args meth c) {pc len : Nat} {ls : List Value} {M : hM} {cells slots : Nat} {r : Instr} (hd : decode (mbytes y) (pcA y pc) = .ok (r, len)) {x z : Int32} {t : Int} {st : List Value} (hk : lnk (mnm y).cls (mpcs y) pc (pcA y pc) len r (.if_icmp .le t) = true) (k : PT X opq adK adV scr D yA A L0 dom0 p l e R s m args below meth c Q y (bif cndB .le x z then t.toNat else pc + 1) ls st M cells slots) : PT X opq adK adV scr D yA A L0 dom0 p l e R s m args below meth c Q y (pc) (ls) (.int z :: .int x :: st) M (cells) (slots) := by
  obtain ⟨⟨hx, hb, hret, hml, hown, hts, hlocks, hnm, hA⟩, ⟨hq, hvS, hvR, hZ1, hZ2, hvX, hscr, hscrA⟩, hr1, hr2⟩ := F
  simp only [lnk, Bool.and_eq_true, decide_eq_true_eq] at hk
  obtain ⟨⟨hn, hnlt⟩, hk⟩ := hk
  have hn : pcA y (pc + 1) = pcA y pc + len := hn
  split at hk <;> (try (cases hk; done))
  simp only [Bool.and_eq_true, decide_eq_true_eq, mtgt] at hk
  obtain ⟨⟨rfl, rfl⟩, ht, -⟩ := hk
  intro L dom H locs lsr hR hV ho
  have w := k L dom H locs lsr hR hV (List.forall_mem_cons.mp (List.forall_mem_cons.mp ho).2).2
  refine lv_icmp_le hx hb hd ht (fun h => ?_) (fun h => ?_)
  · have e : cndB .le x z = true := decide_eq_true (by first | exact h | exact Int32.not_lt.mp h | exact Int32.not_le.mp h)
    rw [e] at w
    exact w
  · have e : cndB .le x z = false := decide_eq_false (by first | exact h | exact fun z => h z | exact fun z => h (Int32.not_lt.mpr z) | exact fun z => h (Int32.not_le.mpr z) | exact fun z => z h)
    rw [e, cond_false, hn] at w
    exact w
theorem st_goto (F : FR X opq adK adV scr y A p R s m args meth c) {pc len : Nat} {ls : List Value} {M : hM} {cells slots : Nat} {r : Instr} (hd : decode (mbytes y) (pcA y pc) = .ok (r, len)) {t : Int} {st : List Value} (hk : lnk (mnm y).cls (mpcs y) pc (pcA y pc) len r (.goto t) = true) (k : PT X opq adK adV scr D yA A L0 dom0 p l e R s m args below meth c Q y (t.toNat) (ls) (st) M (cells) (slots)) : PT X opq adK adV scr D yA A L0 dom0 p l e R s m args below meth c Q y (pc) (ls) (st) M (cells) (slots) := by
  obtain ⟨⟨hx, hb, hret, hml, hown, hts, hlocks, hnm, hA⟩, ⟨hq, hvS, hvR, hZ1, hZ2, hvX, hscr, hscrA⟩, hr1, hr2⟩ := F
  simp only [lnk] at hk
  split at hk <;> (try (cases hk; done))
  simp only [Bool.and_eq_true, decide_eq_true_eq, mtgt] at hk
  obtain ⟨rfl, ht, -⟩ := hk
  intro L dom H locs lsr hR hV ho
  exact lv_goto hx hb hd ht (k L dom H locs lsr hR hV ho)
theorem st_ifnull (F : FR X opq adK adV scr y A p R s m args meth c) {pc len : Nat} {ls : List Value} {M : hM} {cells slots : Nat} {r : Instr} (hd : decode (mbytes y) (pcA y pc) = .ok (r, len)) {t : Int} {st : List Value} (hk : lnk (mnm y).cls (mpcs y) pc (pcA y pc) len r (.ifnull t) = true) (k : PT X opq adK adV scr D yA A L0 dom0 p l e R s m args below meth c Q y (t.toNat) (ls) (st) M (cells) (slots)) : PT X opq adK adV scr D yA A L0 dom0 p l e R s m args below meth c Q y (pc) (ls) (.null :: st) M (cells) (slots) := by
  obtain ⟨⟨hx, hb, hret, hml, hown, hts, hlocks, hnm, hA⟩, ⟨hq, hvS, hvR, hZ1, hZ2, hvX, hscr, hscrA⟩, hr1, hr2⟩ := F
  simp only [lnk, Bool.and_eq_true, decide_eq_true_eq] at hk
  obtain ⟨⟨hn, hnlt⟩, hk⟩ := hk
  have hn : pcA y (pc + 1) = pcA y pc + len := hn
  split at hk <;> (try (cases hk; done))
  simp only [Bool.and_eq_true, decide_eq_true_eq, mtgt] at hk
  obtain ⟨rfl, ht, -⟩ := hk
  intro L dom H locs lsr hR hV ho
  have w := k L dom H locs lsr hR hV (List.forall_mem_cons.mp ho).2
  exact lv_ifnullN hx hb hd ht w
theorem st_ifnullR (F : FR X opq adK adV scr y A p R s m args meth c) {pc len : Nat} {ls : List Value} {M : hM} {cells slots : Nat} {r : Instr} (hd : decode (mbytes y) (pcA y pc) = .ok (r, len)) {t : Int} {st : List Value} {x : Nat} (hk : lnk (mnm y).cls (mpcs y) pc (pcA y pc) len r (.ifnull t) = true) (k : PT X opq adK adV scr D yA A L0 dom0 p l e R s m args below meth c Q y (pc + 1) (ls) (st) M (cells) (slots)) : PT X opq adK adV scr D yA A L0 dom0 p l e R s m args below meth c Q y (pc) (ls) (.ref x :: st) M (cells) (slots) := by
  obtain ⟨⟨hx, hb, hret, hml, hown, hts, hlocks, hnm, hA⟩, ⟨hq, hvS, hvR, hZ1, hZ2, hvX, hscr, hscrA⟩, hr1, hr2⟩ := F
  simp only [lnk, Bool.and_eq_true, decide_eq_true_eq] at hk
  obtain ⟨⟨hn, hnlt⟩, hk⟩ := hk
  have hn : pcA y (pc + 1) = pcA y pc + len := hn
  split at hk <;> (try (cases hk; done))
  simp only [Bool.and_eq_true, decide_eq_true_eq, mtgt] at hk
  obtain ⟨rfl, ht, -⟩ := hk
  intro L dom H locs lsr hR hV ho
  have w := k L dom H locs lsr hR hV (List.forall_mem_cons.mp ho).2
  rw [hn] at w
  exact lv_ifnull hx hb hd w
theorem st_ifnn (F : FR X opq adK adV scr y A p R s m args meth c) {pc len : Nat} {ls : List Value} {M : hM} {cells slots : Nat} {r : Instr} (hd : decode (mbytes y) (pcA y pc) = .ok (r, len)) {t : Int} {st : List Value} (hk : lnk (mnm y).cls (mpcs y) pc (pcA y pc) len r (.ifnonnull t) = true) (k : PT X opq adK adV scr D yA A L0 dom0 p l e R s m args below meth c Q y (pc + 1) (ls) (st) M (cells) (slots)) : PT X opq adK adV scr D yA A L0 dom0 p l e R s m args below meth c Q y (pc) (ls) (.null :: st) M (cells) (slots) := by
  obtain ⟨⟨hx, hb, hret, hml, hown, hts, hlocks, hnm, hA⟩, ⟨hq, hvS, hvR, hZ1, hZ2, hvX, hscr, hscrA⟩, hr1, hr2⟩ := F
  simp only [lnk, Bool.and_eq_true, decide_eq_true_eq] at hk
  obtain ⟨⟨hn, hnlt⟩, hk⟩ := hk
  have hn : pcA y (pc + 1) = pcA y pc + len := hn
  split at hk <;> (try (cases hk; done))
  simp only [Bool.and_eq_true, decide_eq_true_eq, mtgt] at hk
  obtain ⟨rfl, ht, -⟩ := hk
  intro L dom H locs lsr hR hV ho
  have w := k L dom H locs lsr hR hV (List.forall_mem_cons.mp ho).2
  rw [hn] at w
  exact lv_ifnonnullN hx hb hd w
theorem st_ifnnR (F : FR X opq adK adV scr y A p R s m args meth c) {pc len : Nat} {ls : List Value} {M : hM} {cells slots : Nat} {r : Instr} (hd : decode (mbytes y) (pcA y pc) = .ok (r, len)) {t : Int} {st : List Value} {x : Nat} (hk : lnk (mnm y).cls (mpcs y) pc (pcA y pc) len r (.ifnonnull t) = true) (k : PT X opq adK adV scr D yA A L0 dom0 p l e R s m args below meth c Q y (t.toNat) (ls) (st) M (cells) (slots)) : PT X opq adK adV scr D yA A L0 dom0 p l e R s m args below meth c Q y (pc) (ls) (.ref x :: st) M (cells) (slots) := by
  obtain ⟨⟨hx, hb, hret, hml, hown, hts, hlocks, hnm, hA⟩, ⟨hq, hvS, hvR, hZ1, hZ2, hvX, hscr, hscrA⟩, hr1, hr2⟩ := F
  simp only [lnk, Bool.and_eq_true, decide_eq_true_eq] at hk
  obtain ⟨⟨hn, hnlt⟩, hk⟩ := hk
  have hn : pcA y (pc + 1) = pcA y pc + len := hn
  split at hk <;> (try (cases hk; done))
  simp only [Bool.and_eq_true, decide_eq_true_eq, mtgt] at hk
  obtain ⟨rfl, ht, -⟩ := hk
  intro L dom H locs lsr hR hV ho
  have w := k L dom H locs lsr hR hV (List.forall_mem_cons.mp ho).2
  exact lv_ifnonnull hx hb hd ht w
theorem st_tsw (F : FR X opq adK adV scr y A p R s m args meth c) {pc len : Nat} {ls : List Value} {M : hM} {cells slots : Nat} {r : Instr} (hd : decode (mbytes y) (pcA y pc) = .ok (r, len)) {d lo hi : Int} {ts : Array Int} {x : Int32} {st : List Value} (hk : lnk (mnm y).cls (mpcs y) pc (pcA y pc) len r (.tableswitch d lo hi ts) = true) (k : PT X opq adK adV scr D yA A L0 dom0 p l e R s m args below meth c Q y (if x.toInt < lo ∨ hi < x.toInt then d.toNat else (ts.toList.getD (x.toInt - lo).toNat 0).toNat) ls st M cells slots) : PT X opq adK adV scr D yA A L0 dom0 p l e R s m args below meth c Q y (pc) (ls) (.int x :: st) M (cells) (slots) := by
  obtain ⟨⟨hx, hb, hret, hml, hown, hts, hlocks, hnm, hA⟩, ⟨hq, hvS, hvR, hZ1, hZ2, hvX, hscr, hscrA⟩, hr1, hr2⟩ := F
  simp only [lnk] at hk
  split at hk <;> (try (cases hk; done))
  rename_i d' lo' hi' ts'
  simp only [Bool.and_eq_true, decide_eq_true_eq] at hk
  obtain ⟨⟨⟨⟨⟨rfl, rfl⟩, h3⟩, h4⟩, h5⟩, h6⟩ := hk
  intro L dom H locs lsr hR hV ho
  have w := k L dom H locs lsr hR hV (List.forall_mem_cons.mp ho).2
  by_cases hc : x.toInt < lo' ∨ hi' < x.toInt
  · rw [if_pos hc] at w
    simp only [mtgt, Bool.and_eq_true, decide_eq_true_eq] at h3
    exact lv_tableOut hx hb hd hc h3.1 w
  · rw [if_neg hc] at w
    have h1 : ¬ x.toInt < lo' := fun z => hc (Or.inl z)
    have h2 : ¬ hi' < x.toInt := fun z => hc (Or.inr z)
    have hj : (x.toInt - lo').toNat < (hi' - lo' + 1).toNat := by omega
    have h7 := List.all_eq_true.mp h6 _ (List.mem_range.mpr hj)
    simp only [mtgt, Bool.and_eq_true, decide_eq_true_eq] at h7
    have h8 : ts'[(x.toInt - lo').toNat]? = some (ts'.toList.getD (x.toInt - lo').toNat 0) := by
      rw [← Array.getElem?_toList, List.getD, List.getElem?_eq_getElem (by rw [h4]; exact hj)]
      rfl
    exact lv_tableIn hx hb hd h1 h2 h8 h7.1 w
theorem st_dupI (F : FR X opq adK adV scr y A p R s m args meth c) {pc len : Nat} {ls : List Value} {M : hM} {cells slots : Nat} {r : Instr} (hd : decode (mbytes y) (pcA y pc) = .ok (r, len)) {st : List Value} {x : Int32} (hk : lnk (mnm y).cls (mpcs y) pc (pcA y pc) len r (.dup) = true) (k : PT X opq adK adV scr D yA A L0 dom0 p l e R s m args below meth c Q y (pc + 1) (ls) (.int x :: .int x :: st) M (cells) (slots)) : PT X opq adK adV scr D yA A L0 dom0 p l e R s m args below meth c Q y (pc) (ls) (.int x :: st) M (cells) (slots) := by
  obtain ⟨⟨hx, hb, hret, hml, hown, hts, hlocks, hnm, hA⟩, ⟨hq, hvS, hvR, hZ1, hZ2, hvX, hscr, hscrA⟩, hr1, hr2⟩ := F
  simp only [lnk, Bool.and_eq_true, decide_eq_true_eq] at hk
  obtain ⟨⟨⟨hn, hnlt⟩, rfl⟩, rfl⟩ := hk
  have hn : pcA y (pc + 1) = pcA y pc + 1 := hn
  refine PT_pure (fun L dom H locs lsr hV ho => ⟨by simp only [List.forall_mem_cons, okI, okG, okN, true_and, and_true] at ho ⊢; first | exact ho | exact ho.2 | exact ⟨ho.1, ho⟩ | exact ⟨ho.1, ho.1, ho.2⟩ | exact ⟨ho.1, ho.2⟩, fun w => ?_⟩) k
  rw [hn] at w
  exact lv_dup hx hb hd rfl w
theorem st_dupR (F : FR X opq adK adV scr y A p R s m args meth c) {pc len : Nat} {ls : List Value} {M : hM} {cells slots : Nat} {r : Instr} (hd : decode (mbytes y) (pcA y pc) = .ok (r, len)) {st : List Value} {x : Nat} (hk : lnk (mnm y).cls (mpcs y) pc (pcA y pc) len r (.dup) = true) (k : PT X opq adK adV scr D yA A L0 dom0 p l e R s m args below meth c Q y (pc + 1) (ls) (.ref x :: .ref x :: st) M (cells) (slots)) : PT X opq adK adV scr D yA A L0 dom0 p l e R s m args below meth c Q y (pc) (ls) (.ref x :: st) M (cells) (slots) := by
  obtain ⟨⟨hx, hb, hret, hml, hown, hts, hlocks, hnm, hA⟩, ⟨hq, hvS, hvR, hZ1, hZ2, hvX, hscr, hscrA⟩, hr1, hr2⟩ := F
  simp only [lnk, Bool.and_eq_true, decide_eq_true_eq] at hk
  obtain ⟨⟨⟨hn, hnlt⟩, rfl⟩, rfl⟩ := hk
  have hn : pcA y (pc + 1) = pcA y pc + 1 := hn
  refine PT_pure (fun L dom H locs lsr hV ho => ⟨by simp only [List.forall_mem_cons, okI, okG, okN, true_and, and_true] at ho ⊢; first | exact ho | exact ho.2 | exact ⟨ho.1, ho⟩ | exact ⟨ho.1, ho.1, ho.2⟩ | exact ⟨ho.1, ho.2⟩, fun w => ?_⟩) k
  rw [hn] at w
  exact lv_dup hx hb hd rfl w
theorem st_dupx1 (F : FR X opq adK adV scr y A p R s m args meth c) {pc len : Nat} {ls : List Value} {M : hM} {cells slots : Nat} {r : Instr} (hd : decode (mbytes y) (pcA y pc) = .ok (r, len)) {st : List Value} {x : Int32} {z : Nat} (hk : lnk (mnm y).cls (mpcs y) pc (pcA y pc) len r (.dup_x1) = true) (k : PT X opq adK adV scr D yA A L0 dom0 p l e R s m args below meth c Q y (pc + 1) (ls) (.int x :: .ref z :: .int x :: st) M (cells) (slots)) : PT X opq adK adV scr D yA A L0 dom0 p l e R s m args below meth c Q y (pc) (ls) (.int x :: .ref z :: st) M (cells) (slots) := by
  obtain ⟨⟨hx, hb, hret, hml, hown, hts, hlocks, hnm, hA⟩, ⟨hq, hvS, hvR, hZ1, hZ2, hvX, hscr, hscrA⟩, hr1, hr2⟩ := F
  simp only [lnk, Bool.and_eq_true, decide_eq_true_eq] at hk
  obtain ⟨⟨⟨hn, hnlt⟩, rfl⟩, rfl⟩ := hk
  have hn : pcA y (pc + 1) = pcA y pc + 1 := hn
  refine PT_pure (fun L dom H locs lsr hV ho => ⟨by simp only [List.forall_mem_cons, okI, okG, okN, true_and, and_true] at ho ⊢; first | exact ho | exact ho.2 | exact ⟨ho.1, ho⟩ | exact ⟨ho.1, ho.1, ho.2⟩ | exact ⟨ho.1, ho.2⟩, fun w => ?_⟩) k
  rw [hn] at w
  exact lv_dup_x1 hx hb hd rfl rfl w
theorem st_dupx1i (F : FR X opq adK adV scr y A p R s m args meth c) {pc len : Nat} {ls : List Value} {M : hM} {cells slots : Nat} {r : Instr} (hd : decode (mbytes y) (pcA y pc) = .ok (r, len)) {st : List Value} {x z : Int32} (hk : lnk (mnm y).cls (mpcs y) pc (pcA y pc) len r (.dup_x1) = true) (k : PT X opq adK adV scr D yA A L0 dom0 p l e R s m args below meth c Q y (pc + 1) (ls) (.int x :: .int z :: .int x :: st) M (cells) (slots)) : PT X opq adK adV scr D yA A L0 dom0 p l e R s m args below meth c Q y (pc) (ls) (.int x :: .int z :: st) M (cells) (slots) := by
  obtain ⟨⟨hx, hb, hret, hml, hown, hts, hlocks, hnm, hA⟩, ⟨hq, hvS, hvR, hZ1, hZ2, hvX, hscr, hscrA⟩, hr1, hr2⟩ := F
  simp only [lnk, Bool.and_eq_true, decide_eq_true_eq] at hk
  obtain ⟨⟨⟨hn, hnlt⟩, rfl⟩, rfl⟩ := hk
  have hn : pcA y (pc + 1) = pcA y pc + 1 := hn
  refine PT_pure (fun L dom H locs lsr hV ho => ⟨by simp only [List.forall_mem_cons, okI, okG, okN, true_and, and_true] at ho ⊢; first | exact ho | exact ho.2 | exact ⟨ho.1, ho⟩ | exact ⟨ho.1, ho.1, ho.2⟩ | exact ⟨ho.1, ho.2⟩, fun w => ?_⟩) k
  rw [hn] at w
  exact lv_dup_x1 hx hb hd rfl rfl w
theorem st_dup2 (F : FR X opq adK adV scr y A p R s m args meth c) {pc len : Nat} {ls : List Value} {M : hM} {cells slots : Nat} {r : Instr} (hd : decode (mbytes y) (pcA y pc) = .ok (r, len)) {st : List Value} {x : Int32} {z : Nat} (hk : lnk (mnm y).cls (mpcs y) pc (pcA y pc) len r (.dup2) = true) (k : PT X opq adK adV scr D yA A L0 dom0 p l e R s m args below meth c Q y (pc + 1) (ls) (.int x :: .ref z :: .int x :: .ref z :: st) M (cells) (slots)) : PT X opq adK adV scr D yA A L0 dom0 p l e R s m args below meth c Q y (pc) (ls) (.int x :: .ref z :: st) M (cells) (slots) := by
  obtain ⟨⟨hx, hb, hret, hml, hown, hts, hlocks, hnm, hA⟩, ⟨hq, hvS, hvR, hZ1, hZ2, hvX, hscr, hscrA⟩, hr1, hr2⟩ := F
  simp only [lnk, Bool.and_eq_true, decide_eq_true_eq] at hk
  obtain ⟨⟨⟨hn, hnlt⟩, rfl⟩, rfl⟩ := hk
  have hn : pcA y (pc + 1) = pcA y pc + 1 := hn
  refine PT_pure (fun L dom H locs lsr hV ho => ⟨by simp only [List.forall_mem_cons, okI, okG, okN, true_and, and_true] at ho ⊢; first | exact ho | exact ho.2 | exact ⟨ho.1, ho⟩ | exact ⟨ho.1, ho.1, ho.2⟩ | exact ⟨ho.1, ho.2⟩, fun w => ?_⟩) k
  rw [hn] at w
  exact lv_dup2_11 hx hb hd rfl rfl w
theorem st_pop (F : FR X opq adK adV scr y A p R s m args meth c) {pc len : Nat} {ls : List Value} {M : hM} {cells slots : Nat} {r : Instr} (hd : decode (mbytes y) (pcA y pc) = .ok (r, len)) {st : List Value} {x : Int32} (hk : lnk (mnm y).cls (mpcs y) pc (pcA y pc) len r (.pop) = true) (k : PT X opq adK adV scr D yA A L0 dom0 p l e R s m args below meth c Q y (pc + 1) (ls) (st) M (cells) (slots)) : PT X opq adK adV scr D yA A L0 dom0 p l e R s m args below meth c Q y (pc) (ls) (.int x :: st) M (cells) (slots) := by
  obtain ⟨⟨hx, hb, hret, hml, hown, hts, hlocks, hnm, hA⟩, ⟨hq, hvS, hvR, hZ1, hZ2, hvX, hscr, hscrA⟩, hr1, hr2⟩ := F
  simp only [lnk, Bool.and_eq_true, decide_eq_true_eq] at hk
  obtain ⟨⟨⟨hn, hnlt⟩, rfl⟩, rfl⟩ := hk
  have hn : pcA y (pc + 1) = pcA y pc + 1 := hn
  refine PT_pure (fun L dom H locs lsr hV ho => ⟨by simp only [List.forall_mem_cons, okI, okG, okN, true_and, and_true] at ho ⊢; first | exact ho | exact ho.2 | exact ⟨ho.1, ho⟩ | exact ⟨ho.1, ho.1, ho.2⟩ | exact ⟨ho.1, ho.2⟩, fun w => ?_⟩) k
  rw [hn] at w
  exact lv_pop hx hb hd rfl w
theorem st_pop2 (F : FR X opq adK adV scr y A p R s m args meth c) {pc len : Nat} {ls : List Value} {M : hM} {cells slots : Nat} {r : Instr} (hd : decode (mbytes y) (pcA y pc) = .ok (r, len)) {st : List Value} {x : Int64} (hk : lnk (mnm y).cls (mpcs y) pc (pcA y pc) len r (.pop2) = true) (k : PT X opq adK adV scr D yA A L0 dom0 p l e R s m args below meth c Q y (pc + 1) (ls) (st) M (cells) (slots)) : PT X opq adK adV scr D yA A L0 dom0 p l e R s m args below meth c Q y (pc) (ls) (.long x :: st) M (cells) (slots) := by
  obtain ⟨⟨hx, hb, hret, hml, hown, hts, hlocks, hnm, hA⟩, ⟨hq, hvS, hvR, hZ1, hZ2, hvX, hscr, hscrA⟩, hr1, hr2⟩ := F
  simp only [lnk, Bool.and_eq_true, decide_eq_true_eq] at hk
  obtain ⟨⟨⟨hn, hnlt⟩, rfl⟩, rfl⟩ := hk
  have hn : pcA y (pc + 1) = pcA y pc + 1 := hn
  refine PT_pure (fun L dom H locs lsr hV ho => ⟨by simp only [List.forall_mem_cons, okI, okG, okN, true_and, and_true] at ho ⊢; first | exact ho | exact ho.2 | exact ⟨ho.1, ho⟩ | exact ⟨ho.1, ho.1, ho.2⟩ | exact ⟨ho.1, ho.2⟩, fun w => ?_⟩) k
  rw [hn] at w
  exact lv_pop2_2 hx hb hd rfl w
theorem st_lcmp (F : FR X opq adK adV scr y A p R s m args meth c) {pc len : Nat} {ls : List Value} {M : hM} {cells slots : Nat} {r : Instr} (hd : decode (mbytes y) (pcA y pc) = .ok (r, len)) {st : List Value} {x z : Int64} (hk : lnk (mnm y).cls (mpcs y) pc (pcA y pc) len r (.lcmp) = true) (k : PT X opq adK adV scr D yA A L0 dom0 p l e R s m args below meth c Q y (pc + 1) (ls) (.int (lg_cmp x z) :: st) M (cells) (slots)) : PT X opq adK adV scr D yA A L0 dom0 p l e R s m args below meth c Q y (pc) (ls) (.long z :: .long x :: st) M (cells) (slots) := by
  obtain ⟨⟨hx, hb, hret, hml, hown, hts, hlocks, hnm, hA⟩, ⟨hq, hvS, hvR, hZ1, hZ2, hvX, hscr, hscrA⟩, hr1, hr2⟩ := F
  simp only [lnk, Bool.and_eq_true, decide_eq_true_eq] at hk
  obtain ⟨⟨⟨hn, hnlt⟩, rfl⟩, rfl⟩ := hk
  have hn : pcA y (pc + 1) = pcA y pc + 1 := hn
  refine PT_pure (fun L dom H locs lsr hV ho => ⟨by simp only [List.forall_mem_cons, okI, okG, okN, true_and, and_true] at ho ⊢; first | exact ho | exact ho.2 | exact ⟨ho.1, ho⟩ | exact ⟨ho.1, ho.1, ho.2⟩ | exact ⟨ho.1, ho.2⟩, fun w => ?_⟩) k
  rw [hn] at w
  exact W.lcmp hx hb hd w
theorem st_l2i (F : FR X opq adK adV scr y A p R s m args meth c) {pc len : Nat} {ls : List Value} {M : hM} {cells slots : Nat} {r : Instr} (hd : decode (mbytes y) (pcA y pc) = .ok (r, len)) {st : List Value} {x : Int64} (hk : lnk (mnm y).cls (mpcs y) pc (pcA y pc) len r (.l2i) = true) (k : PT X opq adK adV scr D yA A L0 dom0 p l e R s m args below meth c Q y (pc + 1) (ls) (.int x.toInt32 :: st) M (cells) (slots)) : PT X opq adK adV scr D yA A L0 dom0 p l e R s m args below meth c Q y (pc) (ls) (.long x :: st) M (cells) (slots) := by
  obtain ⟨⟨hx, hb, hret, hml, hown, hts, hlocks, hnm, hA⟩, ⟨hq, hvS, hvR, hZ1, hZ2, hvX, hscr, hscrA⟩, hr1, hr2⟩ := F
  simp only [lnk, Bool.and_eq_true, decide_eq_true_eq] at hk
  obtain ⟨⟨⟨hn, hnlt⟩, rfl⟩, rfl⟩ := hk
  have hn : pcA y (pc + 1) = pcA y pc + 1 := hn
  refine PT_pure (fun L dom H locs lsr hV ho => ⟨by simp only [List.forall_mem_cons, okI, okG, okN, true_and, and_true] at ho ⊢; first | exact ho | exact ho.2 | exact ⟨ho.1, ho⟩ | exact ⟨ho.1, ho.1, ho.2⟩ | exact ⟨ho.1, ho.2⟩, fun w => ?_⟩) k
  rw [hn] at w
  exact lv_l2i hx hb hd rfl w
theorem st_lneg (F : FR X opq adK adV scr y A p R s m args meth c) {pc len : Nat} {ls : List Value} {M : hM} {cells slots : Nat} {r : Instr} (hd : decode (mbytes y) (pcA y pc) = .ok (r, len)) {st : List Value} {x : Int64} (hk : lnk (mnm y).cls (mpcs y) pc (pcA y pc) len r (.lneg) = true) (k : PT X opq adK adV scr D yA A L0 dom0 p l e R s m args below meth c Q y (pc + 1) (ls) (.long (-x) :: st) M (cells) (slots)) : PT X opq adK adV scr D yA A L0 dom0 p l e R s m args below meth c Q y (pc) (ls) (.long x :: st) M (cells) (slots) := by
  obtain ⟨⟨hx, hb, hret, hml, hown, hts, hlocks, hnm, hA⟩, ⟨hq, hvS, hvR, hZ1, hZ2, hvX, hscr, hscrA⟩, hr1, hr2⟩ := F
  simp only [lnk, Bool.and_eq_true, decide_eq_true_eq] at hk
  obtain ⟨⟨⟨hn, hnlt⟩, rfl⟩, rfl⟩ := hk
  have hn : pcA y (pc + 1) = pcA y pc + 1 := hn
  refine PT_pure (fun L dom H locs lsr hV ho => ⟨by simp only [List.forall_mem_cons, okI, okG, okN, true_and, and_true] at ho ⊢; first | exact ho | exact ho.2 | exact ⟨ho.1, ho⟩ | exact ⟨ho.1, ho.1, ho.2⟩ | exact ⟨ho.1, ho.2⟩, fun w => ?_⟩) k
  rw [hn] at w
  exact lv_lneg hx hb hd w
theorem st_lshl (F : FR X opq adK adV scr y A p R s m args meth c) {pc len : Nat} {ls : List Value} {M : hM} {cells slots : Nat} {r : Instr} (hd : decode (mbytes y) (pcA y pc) = .ok (r, len)) {st : List Value} {x : Int64} {z : Int32} (hk : lnk (mnm y).cls (mpcs y) pc (pcA y pc) len r (.lshl) = true) (k : PT X opq adK adV scr D yA A L0 dom0 p l e R s m args below meth c Q y (pc + 1) (ls) (.long (x <<< (z.toInt64 &&& 63)) :: st) M (cells) (slots)) : PT X opq adK adV scr D yA A L0 dom0 p l e R s m args below meth c Q y (pc) (ls) (.int z :: .long x :: st) M (cells) (slots) := by
  obtain ⟨⟨hx, hb, hret, hml, hown, hts, hlocks, hnm, hA⟩, ⟨hq, hvS, hvR, hZ1, hZ2, hvX, hscr, hscrA⟩, hr1, hr2⟩ := F
  simp only [lnk, Bool.and_eq_true, decide_eq_true_eq] at hk
  obtain ⟨⟨⟨hn, hnlt⟩, rfl⟩, rfl⟩ := hk
  have hn : pcA y (pc + 1) = pcA y pc + 1 := hn
  refine PT_pure (fun L dom H locs lsr hV ho => ⟨by simp only [List.forall_mem_cons, okI, okG, okN, true_and, and_true] at ho ⊢; first | exact ho | exact ho.2 | exact ⟨ho.1, ho⟩ | exact ⟨ho.1, ho.1, ho.2⟩ | exact ⟨ho.1, ho.2⟩, fun w => ?_⟩) k
  rw [hn] at w
  exact lv_lshl hx hb hd rfl w
theorem st_lshr (F : FR X opq adK adV scr y A p R s m args meth c) {pc len : Nat} {ls : List Value} {M : hM} {cells slots : Nat} {r : Instr} (hd : decode (mbytes y) (pcA y pc) = .ok (r, len)) {st : List Value} {x : Int64} {z : Int32} (hk : lnk (mnm y).cls (mpcs y) pc (pcA y pc) len r (.lshr) = true) (k : PT X opq adK adV scr D yA A L0 dom0 p l e R s m args below meth c Q y (pc + 1) (ls) (.long (x >>> (z.toInt64 &&& 63)) :: st) M (cells) (slots)) : PT X opq adK adV scr D yA A L0 dom0 p l e R s m args below meth c Q y (pc) (ls) (.int z :: .long x :: st) M (cells) (slots) := by
  obtain ⟨⟨hx, hb, hret, hml, hown, hts, hlocks, hnm, hA⟩, ⟨hq, hvS, hvR, hZ1, hZ2, hvX, hscr, hscrA⟩, hr1, hr2⟩ := F
  simp only [lnk, Bool.and_eq_true, decide_eq_true_eq] at hk
  obtain ⟨⟨⟨hn, hnlt⟩, rfl⟩, rfl⟩ := hk
  have hn : pcA y (pc + 1) = pcA y pc + 1 := hn
  refine PT_pure (fun L dom H locs lsr hV ho => ⟨by simp only [List.forall_mem_cons, okI, okG, okN, true_and, and_true] at ho ⊢; first | exact ho | exact ho.2 | exact ⟨ho.1, ho⟩ | exact ⟨ho.1, ho.1, ho.2⟩ | exact ⟨ho.1, ho.2⟩, fun w => ?_⟩) k
  rw [hn] at w
  exact lv_lshr hx hb hd rfl w
theorem st_ineg (F : FR X opq adK adV scr y A p R s m args meth c) {pc len : Nat} {ls : List Value} {M : hM} {cells slots : Nat} {r : Instr} (hd : decode (mbytes y) (pcA y pc) = .ok (r, len)) {st : List Value} {x : Int32} (hk : lnk (mnm y).cls (mpcs y) pc (pcA y pc) len r (.ineg) = true) (k : PT X opq adK adV scr D yA A L0 dom0 p l e R s m args below meth c Q y (pc + 1) (ls) (.int (-x) :: st) M (cells) (slots)) : PT X opq adK adV scr D yA A L0 dom0 p l e R s m args below meth c Q y (pc) (ls) (.int x :: st) M (cells) (slots) := by
  obtain ⟨⟨hx, hb, hret, hml, hown, hts, hlocks, hnm, hA⟩, ⟨hq, hvS, hvR, hZ1, hZ2, hvX, hscr, hscrA⟩, hr1, hr2⟩ := F
  simp only [lnk, Bool.and_eq_true, decide_eq_true_eq] at hk
  obtain ⟨⟨⟨hn, hnlt⟩, rfl⟩, rfl⟩ := hk
  have hn : pcA y (pc + 1) = pcA y pc + 1 := hn
  refine PT_pure (fun L dom H locs lsr hV ho => ⟨by simp only [List.forall_mem_cons, okI, okG, okN, true_and, and_true] at ho ⊢; first | exact ho | exact ho.2 | exact ⟨ho.1, ho⟩ | exact ⟨ho.1, ho.1, ho.2⟩ | exact ⟨ho.1, ho.2⟩, fun w => ?_⟩) k
  rw [hn] at w
  exact lv_ineg hx hb hd w
theorem st_i2b (F : FR X opq adK adV scr y A p R s m args meth c) {pc len : Nat} {ls : List Value} {M : hM} {cells slots : Nat} {r : Instr} (hd : decode (mbytes y) (pcA y pc) = .ok (r, len)) {st : List Value} {x : Int32} (hk : lnk (mnm y).cls (mpcs y) pc (pcA y pc) len r (.i2b) = true) (k : PT X opq adK adV scr D yA A L0 dom0 p l e R s m args below meth c Q y (pc + 1) (ls) (.int x.toInt8.toInt32 :: st) M (cells) (slots)) : PT X opq adK adV scr D yA A L0 dom0 p l e R s m args below meth c Q y (pc) (ls) (.int x :: st) M (cells) (slots) := by
  obtain ⟨⟨hx, hb, hret, hml, hown, hts, hlocks, hnm, hA⟩, ⟨hq, hvS, hvR, hZ1, hZ2, hvX, hscr, hscrA⟩, hr1, hr2⟩ := F
  simp only [lnk, Bool.and_eq_true, decide_eq_true_eq] at hk
  obtain ⟨⟨⟨hn, hnlt⟩, rfl⟩, rfl⟩ := hk
  have hn : pcA y (pc + 1) = pcA y pc + 1 := hn
  refine PT_pure (fun L dom H locs lsr hV ho => ⟨by simp only [List.forall_mem_cons, okI, okG, okN, true_and, and_true] at ho ⊢; first | exact ho | exact ho.2 | exact ⟨ho.1, ho⟩ | exact ⟨ho.1, ho.1, ho.2⟩ | exact ⟨ho.1, ho.2⟩, fun w => ?_⟩) k
  rw [hn] at w
  exact lv_i2b hx hb hd rfl w
theorem st_i2s (F : FR X opq adK adV scr y A p R s m args meth c) {pc len : Nat} {ls : List Value} {M : hM} {cells slots : Nat} {r : Instr} (hd : decode (mbytes y) (pcA y pc) = .ok (r, len)) {st : List Value} {x : Int32} (hk : lnk (mnm y).cls (mpcs y) pc (pcA y pc) len r (.i2s) = true) (k : PT X opq adK adV scr D yA A L0 dom0 p l e R s m args below meth c Q y (pc + 1) (ls) (.int x.toInt16.toInt32 :: st) M (cells) (slots)) : PT X opq adK adV scr D yA A L0 dom0 p l e R s m args below meth c Q y (pc) (ls) (.int x :: st) M (cells) (slots) := by
  obtain ⟨⟨hx, hb, hret, hml, hown, hts, hlocks, hnm, hA⟩, ⟨hq, hvS, hvR, hZ1, hZ2, hvX, hscr, hscrA⟩, hr1, hr2⟩ := F
  simp only [lnk, Bool.and_eq_true, decide_eq_true_eq] at hk
  obtain ⟨⟨⟨hn, hnlt⟩, rfl⟩, rfl⟩ := hk
  have hn : pcA y (pc + 1) = pcA y pc + 1 := hn
  refine PT_pure (fun L dom H locs lsr hV ho => ⟨by simp only [List.forall_mem_cons, okI, okG, okN, true_and, and_true] at ho ⊢; first | exact ho | exact ho.2 | exact ⟨ho.1, ho⟩ | exact ⟨ho.1, ho.1, ho.2⟩ | exact ⟨ho.1, ho.2⟩, fun w => ?_⟩) k
  rw [hn] at w
  exact lv_i2s hx hb hd rfl w
theorem st_i2c (F : FR X opq adK adV scr y A p R s m args meth c) {pc len : Nat} {ls : List Value} {M : hM} {cells slots : Nat} {r : Instr} (hd : decode (mbytes y) (pcA y pc) = .ok (r, len)) {st : List Value} {x : Int32} (hk : lnk (mnm y).cls (mpcs y) pc (pcA y pc) len r (.i2c) = true) (k : PT X opq adK adV scr D yA A L0 dom0 p l e R s m args below meth c Q y (pc + 1) (ls) (.int (x.toUInt32 % 65536).toInt32 :: st) M (cells) (slots)) : PT X opq adK adV scr D yA A L0 dom0 p l e R s m args below meth c Q y (pc) (ls) (.int x :: st) M (cells) (slots) := by
  obtain ⟨⟨hx, hb, hret, hml, hown, hts, hlocks, hnm, hA⟩, ⟨hq, hvS, hvR, hZ1, hZ2, hvX, hscr, hscrA⟩, hr1, hr2⟩ := F
  simp only [lnk, Bool.and_eq_true, decide_eq_true_eq] at hk
  obtain ⟨⟨⟨hn, hnlt⟩, rfl⟩, rfl⟩ := hk
  have hn : pcA y (pc + 1) = pcA y pc + 1 := hn
  refine PT_pure (fun L dom H locs lsr hV ho => ⟨by simp only [List.forall_mem_cons, okI, okG, okN, true_and, and_true] at ho ⊢; first | exact ho | exact ho.2 | exact ⟨ho.1, ho⟩ | exact ⟨ho.1, ho.1, ho.2⟩ | exact ⟨ho.1, ho.2⟩, fun w => ?_⟩) k
  rw [hn] at w
  exact lv_i2c hx hb hd rfl w
theorem st_i2l (F : FR X opq adK adV scr y A p R s m args meth c) {pc len : Nat} {ls : List Value} {M : hM} {cells slots : Nat} {r : Instr} (hd : decode (mbytes y) (pcA y pc) = .ok (r, len)) {st : List Value} {x : Int32} (hk : lnk (mnm y).cls (mpcs y) pc (pcA y pc) len r (.i2l) = true) (k : PT X opq adK adV scr D yA A L0 dom0 p l e R s m args below meth c Q y (pc + 1) (ls) (.long x.toInt64 :: st) M (cells) (slots)) : PT X opq adK adV scr D yA A L0 dom0 p l e R s m args below meth c Q y (pc) (ls) (.int x :: st) M (cells) (slots) := by
  obtain ⟨⟨hx, hb, hret, hml, hown, hts, hlocks, hnm, hA⟩, ⟨hq, hvS, hvR, hZ1, hZ2, hvX, hscr, hscrA⟩, hr1, hr2⟩ := F
  simp only [lnk, Bool.and_eq_true, decide_eq_true_eq] at hk
  obtain ⟨⟨⟨hn, hnlt⟩, rfl⟩, rfl⟩ := hk
  have hn : pcA y (pc + 1) = pcA y pc + 1 := hn
  refine PT_pure (fun L dom H locs lsr hV ho => ⟨by simp only [List.forall_mem_cons, okI, okG, okN, true_and, and_true] at ho ⊢; first | exact ho | exact ho.2 | exact ⟨ho.1, ho⟩ | exact ⟨ho.1, ho.1, ho.2⟩ | exact ⟨ho.1, ho.2⟩, fun w => ?_⟩) k
  rw [hn] at w
  exact lv_i2l hx hb hd rfl w
theorem st_iadd (F : FR X opq adK adV scr y A p R s m args meth c) {pc len : Nat} {ls : List Value} {M : hM} {cells slots : Nat} {r : Instr} (hd : decode (mbytes y) (pcA y pc) = .ok (r, len)) {st : List Value} {x z : Int32} (hk : lnk (mnm y).cls (mpcs y) pc (pcA y pc) len r (.iadd) = true) (k : PT X opq adK adV scr D yA A L0 dom0 p l e R s m args below meth c Q y (pc + 1) (ls) (.int (x + z) :: st) M (cells) (slots)) : PT X opq adK adV scr D yA A L0 dom0 p l e R s m args below meth c Q y (pc) (ls) (.int z :: .int x :: st) M (cells) (slots) := by
  obtain ⟨⟨hx, hb, hret, hml, hown, hts, hlocks, hnm, hA⟩, ⟨hq, hvS, hvR, hZ1, hZ2, hvX, hscr, hscrA⟩, hr1, hr2⟩ := F
  simp only [lnk, Bool.and_eq_true, decide_eq_true_eq] at hk
  obtain ⟨⟨⟨hn, hnlt⟩, rfl⟩, rfl⟩ := hk
  have hn : pcA y (pc + 1) = pcA y pc + 1 := hn
  refine PT_pure (fun L dom H locs lsr hV ho => ⟨by simp only [List.forall_mem_cons, okI, okG, okN, true_and, and_true] at ho ⊢; first | exact ho | exact ho.2 | exact ⟨ho.1, ho⟩ | exact ⟨ho.1, ho.1, ho.2⟩ | exact ⟨ho.1, ho.2⟩, fun w => ?_⟩) k
  rw [hn] at w
  exact lv_iadd hx hb hd w
theorem st_isub (F : FR X opq adK adV scr y A p R s m args meth c) {pc len : Nat} {ls : List Value} {M : hM} {cells slots : Nat} {r : Instr} (hd : decode (mbytes y) (pcA y pc) = .ok (r, len)) {st : List Value} {x z : Int32} (hk : lnk (mnm y).cls (mpcs y) pc (pcA y pc) len r (.isub) = true) (k : PT X opq adK adV scr D yA A L0 dom0 p l e R s m args below meth c Q y (pc + 1) (ls) (.int (x - z) :: st) M (cells) (slots)) : PT X opq adK adV scr D yA A L0 dom0 p l e R s m args below meth c Q y (pc) (ls) (.int z :: .int x :: st) M (cells) (slots) := by
  obtain ⟨⟨hx, hb, hret, hml, hown, hts, hlocks, hnm, hA⟩, ⟨hq, hvS, hvR, hZ1, hZ2, hvX, hscr, hscrA⟩, hr1, hr2⟩ := F
  simp only [lnk, Bool.and_eq_true, decide_eq_true_eq] at hk
  obtain ⟨⟨⟨hn, hnlt⟩, rfl⟩, rfl⟩ := hk
  have hn : pcA y (pc + 1) = pcA y pc + 1 := hn
  refine PT_pure (fun L dom H locs lsr hV ho => ⟨by simp only [List.forall_mem_cons, okI, okG, okN, true_and, and_true] at ho ⊢; first | exact ho | exact ho.2 | exact ⟨ho.1, ho⟩ | exact ⟨ho.1, ho.1, ho.2⟩ | exact ⟨ho.1, ho.2⟩, fun w => ?_⟩) k
  rw [hn] at w
  exact lv_isub hx hb hd w
theorem st_imul (F : FR X opq adK adV scr y A p R s m args meth c) {pc len : Nat} {ls : List Value} {M : hM} {cells slots : Nat} {r : Instr} (hd : decode (mbytes y) (pcA y pc) = .ok (r, len)) {st : List Value} {x z : Int32} (hk : lnk (mnm y).cls (mpcs y) pc (pcA y pc) len r (.imul) = true) (k : PT X opq adK adV scr D yA A L0 dom0 p l e R s m args below meth c Q y (pc + 1) (ls) (.int (x * z) :: st) M (cells) (slots)) : PT X opq adK adV scr D yA A L0 dom0 p l e R s m args below meth c Q y (pc) (ls) (.int z :: .int x :: st) M (cells) (slots) := by
  obtain ⟨⟨hx, hb, hret, hml, hown, hts, hlocks, hnm, hA⟩, ⟨hq, hvS, hvR, hZ1, hZ2, hvX, hscr, hscrA⟩, hr1, hr2⟩ := F
  simp only [lnk, Bool.and_eq_true, decide_eq_true_eq] at hk
  obtain ⟨⟨⟨hn, hnlt⟩, rfl⟩, rfl⟩ := hk
  have hn : pcA y (pc + 1) = pcA y pc + 1 := hn
  refine PT_pure (fun L dom H locs lsr hV ho => ⟨by simp only [List.forall_mem_cons, okI, okG, okN, true_and, and_true] at ho ⊢; first | exact ho | exact ho.2 | exact ⟨ho.1, ho⟩ | exact ⟨ho.1, ho.1, ho.2⟩ | exact ⟨ho.1, ho.2⟩, fun w => ?_⟩) k
  rw [hn] at w
  exact lv_imul hx hb hd w
theorem st_iand (F : FR X opq adK adV scr y A p R s m args meth c) {pc len : Nat} {ls : List Value} {M : hM} {cells slots : Nat} {r : Instr} (hd : decode (mbytes y) (pcA y pc) = .ok (r, len)) {st : List Value} {x z : Int32} (hk : lnk (mnm y).cls (mpcs y) pc (pcA y pc) len r (.iand) = true) (k : PT X opq adK adV scr D yA A L0 dom0 p l e R s m args below meth c Q y (pc + 1) (ls) (.int (x &&& z) :: st) M (cells) (slots)) : PT X opq adK adV scr D yA A L0 dom0 p l e R s m args below meth c Q y (pc) (ls) (.int z :: .int x :: st) M (cells) (slots) := by
  obtain ⟨⟨hx, hb, hret, hml, hown, hts, hlocks, hnm, hA⟩, ⟨hq, hvS, hvR, hZ1, hZ2, hvX, hscr, hscrA⟩, hr1, hr2⟩ := F
  simp only [lnk, Bool.and_eq_true, decide_eq_true_eq] at hk
  obtain ⟨⟨⟨hn, hnlt⟩, rfl⟩, rfl⟩ := hk
  have hn : pcA y (pc + 1) = pcA y pc + 1 := hn
  refine PT_pure (fun L dom H locs lsr hV ho => ⟨by simp only [List.forall_mem_cons, okI, okG, okN, true_and, and_true] at ho ⊢; first | exact ho | exact ho.2 | exact ⟨ho.1, ho⟩ | exact ⟨ho.1, ho.1, ho.2⟩ | exact ⟨ho.1, ho.2⟩, fun w => ?_⟩) k
  rw [hn] at w
  exact lv_iand hx hb hd w
theorem st_ior (F : FR X opq adK adV scr y A p R s m args meth c) {pc len : Nat} {ls : List Value} {M : hM} {cells slots : Nat} {r : Instr} (hd : decode (mbytes y) (pcA y pc) = .ok (r, len)) {st : List Value} {x z : Int32} (hk : lnk (mnm y).cls (mpcs y) pc (pcA y pc) len r (.ior) = true) (k : PT X opq adK adV scr D yA A L0 dom0 p l e R s m args below meth c Q y (pc + 1) (ls) (.int (x ||| z) :: st) M (cells) (slots)) : PT X opq adK adV scr D yA A L0 dom0 p l e R s m args below meth c Q y (pc) (ls) (.int z :: .int x :: st) M (cells) (slots) := by
  obtain ⟨⟨hx, hb, hret, hml, hown, hts, hlocks, hnm, hA⟩, ⟨hq, hvS, hvR, hZ1, hZ2, hvX, hscr, hscrA⟩, hr1, hr2⟩ := F
  simp only [lnk, Bool.and_eq_true, decide_eq_true_eq] at hk
  obtain ⟨⟨⟨hn, hnlt⟩, rfl⟩, rfl⟩ := hk
  have hn : pcA y (pc + 1) = pcA y pc + 1 := hn
  refine PT_pure (fun L dom H locs lsr hV ho => ⟨by simp only [List.forall_mem_cons, okI, okG, okN, true_and, and_true] at ho ⊢; first | exact ho | exact ho.2 | exact ⟨ho.1, ho⟩ | exact ⟨ho.1, ho.1, ho.2⟩ | exact ⟨ho.1, ho.2⟩, fun w => ?_⟩) k
  rw [hn] at w
  exact lv_ior hx hb hd w
theorem st_ixor (F : FR X opq adK adV scr y A p R s m args meth c) {pc len : Nat} {ls : List Value} {M : hM} {cells slots : Nat} {r : Instr} (hd : decode (mbytes y) (pcA y pc) = .ok (r, len)) {st : List Value} {x z : Int32} (hk : lnk (mnm y).cls (mpcs y) pc (pcA y pc) len r (.ixor) = true) (k : PT X opq adK adV scr D yA A L0 dom0 p l e R s m args below meth c Q y (pc + 1) (ls) (.int (x ^^^ z) :: st) M (cells) (slots)) : PT X opq adK adV scr D yA A L0 dom0 p l e R s m args below meth c Q y (pc) (ls) (.int z :: .int x :: st) M (cells) (slots) := by
  obtain ⟨⟨hx, hb, hret, hml, hown, hts, hlocks, hnm, hA⟩, ⟨hq, hvS, hvR, hZ1, hZ2, hvX, hscr, hscrA⟩, hr1, hr2⟩ := F
  simp only [lnk, Bool.and_eq_true, decide_eq_true_eq] at hk
  obtain ⟨⟨⟨hn, hnlt⟩, rfl⟩, rfl⟩ := hk
  have hn : pcA y (pc + 1) = pcA y pc + 1 := hn
  refine PT_pure (fun L dom H locs lsr hV ho => ⟨by simp only [List.forall_mem_cons, okI, okG, okN, true_and, and_true] at ho ⊢; first | exact ho | exact ho.2 | exact ⟨ho.1, ho⟩ | exact ⟨ho.1, ho.1, ho.2⟩ | exact ⟨ho.1, ho.2⟩, fun w => ?_⟩) k
  rw [hn] at w
  exact lv_ixor hx hb hd w
theorem st_ishl (F : FR X opq adK adV scr y A p R s m args meth c) {pc len : Nat} {ls : List Value} {M : hM} {cells slots : Nat} {r : Instr} (hd : decode (mbytes y) (pcA y pc) = .ok (r, len)) {st : List Value} {x z : Int32} (hk : lnk (mnm y).cls (mpcs y) pc (pcA y pc) len r (.ishl) = true) (k : PT X opq adK adV scr D yA A L0 dom0 p l e R s m args below meth c Q y (pc + 1) (ls) (.int (x <<< (z &&& 31)) :: st) M (cells) (slots)) : PT X opq adK adV scr D yA A L0 dom0 p l e R s m args below meth c Q y (pc) (ls) (.int z :: .int x :: st) M (cells) (slots) := by
  obtain ⟨⟨hx, hb, hret, hml, hown, hts, hlocks, hnm, hA⟩, ⟨hq, hvS, hvR, hZ1, hZ2, hvX, hscr, hscrA⟩, hr1, hr2⟩ := F
  simp only [lnk, Bool.and_eq_true, decide_eq_true_eq] at hk
  obtain ⟨⟨⟨hn, hnlt⟩, rfl⟩, rfl⟩ := hk
  have hn : pcA y (pc + 1) = pcA y pc + 1 := hn
  refine PT_pure (fun L dom H locs lsr hV ho => ⟨by simp only [List.forall_mem_cons, okI, okG, okN, true_and, and_true] at ho ⊢; first | exact ho | exact ho.2 | exact ⟨ho.1, ho⟩ | exact ⟨ho.1, ho.1, ho.2⟩ | exact ⟨ho.1, ho.2⟩, fun w => ?_⟩) k
  rw [hn] at w
  exact lv_ishl hx hb hd w
theorem st_ishr (F : FR X opq adK adV scr y A p R s m args meth c) {pc len : Nat} {ls : List Value} {M : hM} {cells slots : Nat} {r : Instr} (hd : decode (mbytes y) (pcA y pc) = .ok (r, len)) {st : List Value} {x z : Int32} (hk : lnk (mnm y).cls (mpcs y) pc (pcA y pc) len r (.ishr) = true) (k : PT X opq adK adV scr D yA A L0 dom0 p l e R s m args below meth c Q y (pc + 1) (ls) (.int (x >>> (z &&& 31)) :: st) M (cells) (slots)) : PT X opq adK adV scr D yA A L0 dom0 p l e R s m args below meth c Q y (pc) (ls) (.int z :: .int x :: st) M (cells) (slots) := by
  obtain ⟨⟨hx, hb, hret, hml, hown, hts, hlocks, hnm, hA⟩, ⟨hq, hvS, hvR, hZ1, hZ2, hvX, hscr, hscrA⟩, hr1, hr2⟩ := F
  simp only [lnk, Bool.and_eq_true, decide_eq_true_eq] at hk
  obtain ⟨⟨⟨hn, hnlt⟩, rfl⟩, rfl⟩ := hk
  have hn : pcA y (pc + 1) = pcA y pc + 1 := hn
  refine PT_pure (fun L dom H locs lsr hV ho => ⟨by simp only [List.forall_mem_cons, okI, okG, okN, true_and, and_true] at ho ⊢; first | exact ho | exact ho.2 | exact ⟨ho.1, ho⟩ | exact ⟨ho.1, ho.1, ho.2⟩ | exact ⟨ho.1, ho.2⟩, fun w => ?_⟩) k
  rw [hn] at w
  exact lv_ishr hx hb hd w
theorem st_ladd (F : FR X opq adK adV scr y A p R s m args meth c) {pc len : Nat} {ls : List Value} {M : hM} {cells slots : Nat} {r : Instr} (hd : decode (mbytes y) (pcA y pc) = .ok (r, len)) {st : List Value} {x z : Int64} (hk : lnk (mnm y).cls (mpcs y) pc (pcA y pc) len r (.ladd) = true) (k : PT X opq adK adV scr D yA A L0 dom0 p l e R s m args below meth c Q y (pc + 1) (ls) (.long (x + z) :: st) M (cells) (slots)) : PT X opq adK adV scr D yA A L0 dom0 p l e R s m args below meth c Q y (pc) (ls) (.long z :: .long x :: st) M (cells) (slots) := by
  obtain ⟨⟨hx, hb, hret, hml, hown, hts, hlocks, hnm, hA⟩, ⟨hq, hvS, hvR, hZ1, hZ2, hvX, hscr, hscrA⟩, hr1, hr2⟩ := F
  simp only [lnk, Bool.and_eq_true, decide_eq_true_eq] at hk
  obtain ⟨⟨⟨hn, hnlt⟩, rfl⟩, rfl⟩ := hk
  have hn : pcA y (pc + 1) = pcA y pc + 1 := hn
  refine PT_pure (fun L dom H locs lsr hV ho => ⟨by simp only [List.forall_mem_cons, okI, okG, okN, true_and, and_true] at ho ⊢; first | exact ho | exact ho.2 | exact ⟨ho.1, ho⟩ | exact ⟨ho.1, ho.1, ho.2⟩ | exact ⟨ho.1, ho.2⟩, fun w => ?_⟩) k
  rw [hn] at w
  exact lv_ladd hx hb hd w
theorem st_lsub (F : FR X opq adK adV scr y A p R s m args meth c) {pc len : Nat} {ls : List Value} {M : hM} {cells slots : Nat} {r : Instr} (hd : decode (mbytes y) (pcA y pc) = .ok (r, len)) {st : List Value} {x z : Int64} (hk : lnk (mnm y).cls (mpcs y) pc (pcA y pc) len r (.lsub) = true) (k : PT X opq adK adV scr D yA A L0 dom0 p l e R s m args below meth c Q y (pc + 1) (ls) (.long (x - z) :: st) M (cells) (slots)) : PT X opq adK adV scr D yA A L0 dom0 p l e R s m args below meth c Q y (pc) (ls) (.long z :: .long x :: st) M (cells) (slots) := by
  obtain ⟨⟨hx, hb, hret, hml, hown, hts, hlocks, hnm, hA⟩, ⟨hq, hvS, hvR, hZ1, hZ2, hvX, hscr, hscrA⟩, hr1, hr2⟩ := F
  simp only [lnk, Bool.and_eq_true, decide_eq_true_eq] at hk
  obtain ⟨⟨⟨hn, hnlt⟩, rfl⟩, rfl⟩ := hk
  have hn : pcA y (pc + 1) = pcA y pc + 1 := hn
  refine PT_pure (fun L dom H locs lsr hV ho => ⟨by simp only [List.forall_mem_cons, okI, okG, okN, true_and, and_true] at ho ⊢; first | exact ho | exact ho.2 | exact ⟨ho.1, ho⟩ | exact ⟨ho.1, ho.1, ho.2⟩ | exact ⟨ho.1, ho.2⟩, fun w => ?_⟩) k
  rw [hn] at w
  exact lv_lsub hx hb hd w
theorem st_lmul (F : FR X opq adK adV scr y A p R s m args meth c) {pc len : Nat} {ls : List Value} {M : hM} {cells slots : Nat} {r : Instr} (hd : decode (mbytes y) (pcA y pc) = .ok (r, len)) {st : List Value} {x z : Int64} (hk : lnk (mnm y).cls (mpcs y) pc (pcA y pc) len r (.lmul) = true) (k : PT X opq adK adV scr D yA A L0 dom0 p l e R s m args below meth c Q y (pc + 1) (ls) (.long (x * z) :: st) M (cells) (slots)) : PT X opq adK adV scr D yA A L0 dom0 p l e R s m args below meth c Q y (pc) (ls) (.long z :: .long x :: st) M (cells) (slots) := by
  obtain ⟨⟨hx, hb, hret, hml, hown, hts, hlocks, hnm, hA⟩, ⟨hq, hvS, hvR, hZ1, hZ2, hvX, hscr, hscrA⟩, hr1, hr2⟩ := F
  simp only [lnk, Bool.and_eq_true, decide_eq_true_eq] at hk
  obtain ⟨⟨⟨hn, hnlt⟩, rfl⟩, rfl⟩ := hk
  have hn : pcA y (pc + 1) = pcA y pc + 1 := hn
  refine PT_pure (fun L dom H locs lsr hV ho => ⟨by simp only [List.forall_mem_cons, okI, okG, okN, true_and, and_true] at ho ⊢; first | exact ho | exact ho.2 | exact ⟨ho.1, ho⟩ | exact ⟨ho.1, ho.1, ho.2⟩ | exact ⟨ho.1, ho.2⟩, fun w => ?_⟩) k
  rw [hn] at w
  exact lv_lmul hx hb hd w
theorem st_land (F : FR X opq adK adV scr y A p R s m args meth c) {pc len : Nat} {ls : List Value} {M : hM} {cells slots : Nat} {r : Instr} (hd : decode (mbytes y) (pcA y pc) = .ok (r, len)) {st : List Value} {x z : Int64} (hk : lnk (mnm y).cls (mpcs y) pc (pcA y pc) len r (.land) = true) (k : PT X opq adK adV scr D yA A L0 dom0 p l e R s m args below meth c Q y (pc + 1) (ls) (.long (x &&& z) :: st) M (cells) (slots)) : PT X opq adK adV scr D yA A L0 dom0 p l e R s m args below meth c Q y (pc) (ls) (.long z :: .long x :: st) M (cells) (slots) := by
  obtain ⟨⟨hx, hb, hret, hml, hown, hts, hlocks, hnm, hA⟩, ⟨hq, hvS, hvR, hZ1, hZ2, hvX, hscr, hscrA⟩, hr1, hr2⟩ := F
  simp only [lnk, Bool.and_eq_true, decide_eq_true_eq] at hk
  obtain ⟨⟨⟨hn, hnlt⟩, rfl⟩, rfl⟩ := hk
  have hn : pcA y (pc + 1) = pcA y pc + 1 := hn
  refine PT_pure (fun L dom H locs lsr hV ho => ⟨by simp only [List.forall_mem_cons, okI, okG, okN, true_and, and_true] at ho ⊢; first | exact ho | exact ho.2 | exact ⟨ho.1, ho⟩ | exact ⟨ho.1, ho.1, ho.2⟩ | exact ⟨ho.1, ho.2⟩, fun w => ?_⟩) k
  rw [hn] at w
  exact lv_land hx hb hd w
theorem st_lor (F : FR X opq adK adV scr y A p R s m args meth c) {pc len : Nat} {ls : List Value} {M : hM} {cells slots : Nat} {r : Instr} (hd : decode (mbytes y) (pcA y pc) = .ok (r, len)) {st : List Value} {x z : Int64} (hk : lnk (mnm y).cls (mpcs y) pc (pcA y pc) len r (.lor) = true) (k : PT X opq adK adV scr D yA A L0 dom0 p l e R s m args below meth c Q y (pc + 1) (ls) (.long (x ||| z) :: st) M (cells) (slots)) : PT X opq adK adV scr D yA A L0 dom0 p l e R s m args below meth c Q y (pc) (ls) (.long z :: .long x :: st) M (cells) (slots) := by
  obtain ⟨⟨hx, hb, hret, hml, hown, hts, hlocks, hnm, hA⟩, ⟨hq, hvS, hvR, hZ1, hZ2, hvX, hscr, hscrA⟩, hr1, hr2⟩ := F
  simp only [lnk, Bool.and_eq_true, decide_eq_true_eq] at hk
  obtain ⟨⟨⟨hn, hnlt⟩, rfl⟩, rfl⟩ := hk
  have hn : pcA y (pc + 1) = pcA y pc + 1 := hn
  refine PT_pure (fun L dom H locs lsr hV ho => ⟨by simp only [List.forall_mem_cons, okI, okG, okN, true_and, and_true] at ho ⊢; first | exact ho | exact ho.2 | exact ⟨ho.1, ho⟩ | exact ⟨ho.1, ho.1, ho.2⟩ | exact ⟨ho.1, ho.2⟩, fun w => ?_⟩) k
  rw [hn] at w
  exact lv_lor hx hb hd w
theorem st_idiv (F : FR X opq adK adV scr y A p R s m args meth c) {pc len : Nat} {ls : List Value} {M : hM} {cells slots : Nat} {r : Instr} (hd : decode (mbytes y) (pcA y pc) = .ok (r, len)) {st : List Value} {x z : Int32} (hne : ¬ z = 0) (hk : lnk (mnm y).cls (mpcs y) pc (pcA y pc) len r (.idiv) = true) (k : PT X opq adK adV scr D yA A L0 dom0 p l e R s m args below meth c Q y (pc + 1) (ls) (.int (x / z) :: st) M (cells) (slots)) : PT X opq adK adV scr D yA A L0 dom0 p l e R s m args below meth c Q y (pc) (ls) (.int z :: .int x :: st) M (cells) (slots) := by
  obtain ⟨⟨hx, hb, hret, hml, hown, hts, hlocks, hnm, hA⟩, ⟨hq, hvS, hvR, hZ1, hZ2, hvX, hscr, hscrA⟩, hr1, hr2⟩ := F
  simp only [lnk, Bool.and_eq_true, decide_eq_true_eq] at hk
  obtain ⟨⟨⟨hn, hnlt⟩, rfl⟩, rfl⟩ := hk
  have hn : pcA y (pc + 1) = pcA y pc + 1 := hn
  refine PT_pure (fun L dom H locs lsr hV ho => ⟨by simp only [List.forall_mem_cons, okI, okG, okN, true_and, and_true] at ho ⊢; first | exact ho | exact ho.2 | exact ⟨ho.1, ho⟩ | exact ⟨ho.1, ho.1, ho.2⟩ | exact ⟨ho.1, ho.2⟩, fun w => ?_⟩) k
  rw [hn] at w
  exact lv_idiv hx hb hd hne w
theorem st_irem (F : FR X opq adK adV scr y A p R s m args meth c) {pc len : Nat} {ls : List Value} {M : hM} {cells slots : Nat} {r : Instr} (hd : decode (mbytes y) (pcA y pc) = .ok (r, len)) {st : List Value} {x z : Int32} (hne : ¬ z = 0) (hk : lnk (mnm y).cls (mpcs y) pc (pcA y pc) len r (.irem) = true) (k : PT X opq adK adV scr D yA A L0 dom0 p l e R s m args below meth c Q y (pc + 1) (ls) (.int (x - x / z * z) :: st) M (cells) (slots)) : PT X opq adK adV scr D yA A L0 dom0 p l e R s m args below meth c Q y (pc) (ls) (.int z :: .int x :: st) M (cells) (slots) := by
  obtain ⟨⟨hx, hb, hret, hml, hown, hts, hlocks, hnm, hA⟩, ⟨hq, hvS, hvR, hZ1, hZ2, hvX, hscr, hscrA⟩, hr1, hr2⟩ := F
  simp only [lnk, Bool.and_eq_true, decide_eq_true_eq] at hk
  obtain ⟨⟨⟨hn, hnlt⟩, rfl⟩, rfl⟩ := hk
  have hn : pcA y (pc + 1) = pcA y pc + 1 := hn
  refine PT_pure (fun L dom H locs lsr hV ho => ⟨by simp only [List.forall_mem_cons, okI, okG, okN, true_and, and_true] at ho ⊢; first | exact ho | exact ho.2 | exact ⟨ho.1, ho⟩ | exact ⟨ho.1, ho.1, ho.2⟩ | exact ⟨ho.1, ho.2⟩, fun w => ?_⟩) k
  rw [hn] at w
  exact lv_irem hx hb hd hne w
theorem st_ldiv (F : FR X opq adK adV scr y A p R s m args meth c) {pc len : Nat} {ls : List Value} {M : hM} {cells slots : Nat} {r : Instr} (hd : decode (mbytes y) (pcA y pc) = .ok (r, len)) {st : List Value} {x z : Int64} (hne : ¬ z = 0) (hk : lnk (mnm y).cls (mpcs y) pc (pcA y pc) len r (.ldiv) = true) (k : PT X opq adK adV scr D yA A L0 dom0 p l e R s m args below meth c Q y (pc + 1) (ls) (.long (x / z) :: st) M (cells) (slots)) : PT X opq adK adV scr D yA A L0 dom0 p l e R s m args below meth c Q y (pc) (ls) (.long z :: .long x :: st) M (cells) (slots) := by
  obtain ⟨⟨hx, hb, hret, hml, hown, hts, hlocks, hnm, hA⟩, ⟨hq, hvS, hvR, hZ1, hZ2, hvX, hscr, hscrA⟩, hr1, hr2⟩ := F
  simp only [lnk, Bool.and_eq_true, decide_eq_true_eq] at hk
  obtain ⟨⟨⟨hn, hnlt⟩, rfl⟩, rfl⟩ := hk
  have hn : pcA y (pc + 1) = pcA y pc + 1 := hn
  refine PT_pure (fun L dom H locs lsr hV ho => ⟨by simp only [List.forall_mem_cons, okI, okG, okN, true_and, and_true] at ho ⊢; first | exact ho | exact ho.2 | exact ⟨ho.1, ho⟩ | exact ⟨ho.1, ho.1, ho.2⟩ | exact ⟨ho.1, ho.2⟩, fun w => ?_⟩) k
  rw [hn] at w
  exact lv_ldiv hx hb hd hne w
theorem st_lrem (F : FR X opq adK adV scr y A p R s m args meth c) {pc len : Nat} {ls : List Value} {M : hM} {cells slots : Nat} {r : Instr} (hd : decode (mbytes y) (pcA y pc) = .ok (r, len)) {st : List Value} {x z : Int64} (hne : ¬ z = 0) (hk : lnk (mnm y).cls (mpcs y) pc (pcA y pc) len r (.lrem) = true) (k : PT X opq adK adV scr D yA A L0 dom0 p l e R s m args below meth c Q y (pc + 1) (ls) (.long (x - x / z * z) :: st) M (cells) (slots)) : PT X opq adK adV scr D yA A L0 dom0 p l e R s m args below meth c Q y (pc) (ls) (.long z :: .long x :: st) M (cells) (slots) := by
  obtain ⟨⟨hx, hb, hret, hml, hown, hts, hlocks, hnm, hA⟩, ⟨hq, hvS, hvR, hZ1, hZ2, hvX, hscr, hscrA⟩, hr1, hr2⟩ := F
  simp only [lnk, Bool.and_eq_true, decide_eq_true_eq] at hk
  obtain ⟨⟨⟨hn, hnlt⟩, rfl⟩, rfl⟩ := hk
  have hn : pcA y (pc + 1) = pcA y pc + 1 := hn
  refine PT_pure (fun L dom H locs lsr hV ho => ⟨by simp only [List.forall_mem_cons, okI, okG, okN, true_and, and_true] at ho ⊢; first | exact ho | exact ho.2 | exact ⟨ho.1, ho⟩ | exact ⟨ho.1, ho.1, ho.2⟩ | exact ⟨ho.1, ho.2⟩, fun w => ?_⟩) k
  rw [hn] at w
  exact lv_lrem hx hb hd hne w
end STEP
