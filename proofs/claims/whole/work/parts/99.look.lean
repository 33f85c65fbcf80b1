/-! the machine's law for an array of arrays, over the abstract memory -/
section MNAS
variable {y : Nat} {X : hX} {opq : Value} {adK adV : Nat → Nat} {scr : Nat} {D : va_G} {yA : Nat → ClassId} {A : Nat → Prop} {L0 : Nat → Nat} {dom0 : List Nat}
variable {p : Program} {l : Launch} {e : Env} {R : Room} {s : State} {m : MethodId} {args : Array Value} {below : List Frame} {meth : Method} {c : Code} {Q : State → Prop}
def mnL (L : Nat → Nat) (k n h0 : Nat) : Nat → Nat := fun a => if k ≤ a ∧ a ≤ k + n then h0 + (a - k) else L a
def mnD (dom : List Nat) (k n : Nat) : List Nat := dom ++ k :: (List.range n).map (fun i => k + 1 + i)
theorem mnD_mem {dom : List Nat} {k n a : Nat} : a ∈ mnD dom k n ↔ a ∈ dom ∨ (k ≤ a ∧ a ≤ k + n) := by
  unfold mnD
  rw [List.mem_append, List.mem_cons, List.mem_map]
  constructor
  · rintro (h | rfl | ⟨i, hi, rfl⟩)
    · exact Or.inl h
    · exact Or.inr ⟨Nat.le_refl _, Nat.le_add_right _ _⟩
    · have := List.mem_range.mp hi
      exact Or.inr ⟨by omega, by omega⟩
  · rintro (h | ⟨h1, h2⟩)
    · exact Or.inl h
    · by_cases g : a = k
      · exact Or.inr (Or.inl g)
      · exact Or.inr (Or.inr ⟨a - k - 1, List.mem_range.mpr (by omega), by omega⟩)
/-- the memory with the new cells -/
def mnM (M : hM) (n sl : Nat) : hM := (mnI M.1 (nxt M.2.2.2.2) n, mnI M.2.1 (nxt M.2.2.2.2) n, mnR M.2.2.1 (nxt M.2.2.2.2) n, M.2.2.2.1, bmp M.2.2.2.2 (n + 1) sl)
/-- the rows of the world that the new cells are -/
def mnW (h0 n : Nat) (cO cN : va_E) : va_W := (h0, cO) :: (List.range n).map (fun i => (h0 + 1 + i, cN))
theorem mnW_at {h0 n k : Nat} {cO cN : va_E} {q : Nat × va_E} (h : (mnW h0 n cO cN)[k]? = some q) : k ≤ n ∧ q.1 = h0 + k ∧ (k = 0 → q.2 = cO) ∧ (k ≠ 0 → q.2 = cN) := by
  unfold mnW at h
  match k, h with
  | 0, h =>
    rw [List.getElem?_cons_zero] at h
    cases h
    exact ⟨Nat.zero_le _, rfl, fun _ => rfl, fun z => absurd rfl z⟩
  | k + 1, h =>
    rw [List.getElem?_cons_succ, List.getElem?_map] at h
    by_cases g : k < n
    · rw [List.getElem?_range g] at h
      cases h
      exact ⟨g, by show h0 + 1 + k = h0 + (k + 1); omega, fun z => absurd z (by omega), fun _ => rfl⟩
    · rw [List.getElem?_eq_none (by rw [List.length_range]; omega)] at h
      cases h
theorem RM_mn {L : Nat → Nat} {dom : List Nat} {M : hM} {H H1 : Heap} {locs : List Loc} {h0 n sl : Nat} {cO cN : va_E} (hR : RM adK adV scr D yA A L0 dom0 s s.heap L dom M H locs) (hok : okn M.2.2.2.2 (n + 1) = true)
    (hcO : cellE yA (mnL L (nxt M.2.2.2.2) n h0) (mnM M n sl) (nxt M.2.2.2.2) = cO) (hcN : ∀ i, i < n → cellE yA (mnL L (nxt M.2.2.2.2) n h0) (mnM M n sl) (nxt M.2.2.2.2 + 1 + i) = cN)
    (a1 : va_P D vwCl (wsM yA L M dom ++ mnW h0 n cO cN) H1) (a2 : va_D A (wsM yA L M dom ++ mnW h0 n cO cN)) (a3 : va_S A s.heap H1 locs) :
    RM adK adV scr D yA A L0 dom0 s s.heap (mnL L (nxt M.2.2.2.2) n h0) (mnD dom (nxt M.2.2.2.2) n) (mnM M n sl) H1 locs := by
  obtain ⟨hK, hP, hD, hS, hnd, hdm, hsz, hmem, hlab, hext⟩ := hR
  obtain ⟨b1, b2, b3⟩ := bmp_in (s := sl) hsz hok
  have b4 := (b3 n (by omega)).2
  have hout : ∀ a, a ∈ dom → ¬ (nxt M.2.2.2.2 ≤ a ∧ a ≤ nxt M.2.2.2.2 + n) := fun a ha z => by
    have := (b3 (a - nxt M.2.2.2.2) (by omega)).1
    rw [show nxt M.2.2.2.2 + (a - nxt M.2.2.2.2) = a by omega] at this
    exact this ((hdm a).mp ha)
  have hRk : ∀ a, a ∈ dom → ∀ j, mnR M.2.2.1 (nxt M.2.2.2.2) n a j = M.2.2.1 a j := fun a ha j => by
    have h1 := hout a ha
    unfold mnR
    rw [if_neg (fun z => h1 (by omega)), if_neg h1]
  have hw : wsM yA (mnL L (nxt M.2.2.2.2) n h0) (mnM M n sl) (mnD dom (nxt M.2.2.2.2) n) = wsM yA L M dom ++ mnW h0 n cO cN := by
    unfold wsM mnD mnW
    have e0 : mnL L (nxt M.2.2.2.2) n h0 (nxt M.2.2.2.2) = h0 := by
      unfold mnL
      rw [if_pos ⟨Nat.le_refl _, Nat.le_add_right _ _⟩]
      omega
    rw [List.map_append, List.map_cons, List.map_map, hcO, e0]
    congr 1
    · apply List.map_congr_left
      intro a ha
      have h1 := hout a ha
      refine Prod.ext (by show mnL L _ n h0 a = L a; unfold mnL; rw [if_neg h1]) ?_
      refine cell_congr ?_ ?_ (fun j => ?_) rfl
      · funext b
        show mnI M.1 _ n a b = M.1 a b
        unfold mnI
        rw [if_neg h1]
      · funext b
        show mnI M.2.1 _ n a b = M.2.1 a b
        unfold mnI
        rw [if_neg h1]
      · show (mnR M.2.2.1 _ n a j).map _ = _
        rw [hRk a ha j]
        cases hj : M.2.2.1 a j with
        | none => rfl
        | some x =>
          have hx := hout x (hmem a ha j x hj)
          show some (mnL L _ n h0 x) = some (L x)
          unfold mnL
          rw [if_neg hx]
    · congr 1
      apply List.map_congr_left
      intro i hi
      have hi := List.mem_range.mp hi
      refine Prod.ext ?_ (hcN i hi)
      show mnL L _ n h0 (nxt M.2.2.2.2 + 1 + i) = h0 + 1 + i
      unfold mnL
      rw [if_pos (by omega)]
      omega
  refine ⟨hK, by rw [hw]; exact a1, by rw [hw]; exact a2, a3, ?_, fun k => ?_, b2, fun k hk j a ha => ?_, ⟨fun i hi => ?_, ?_⟩, fun k hk => ?_⟩
  · unfold mnD
    rw [List.nodup_append]
    refine ⟨hnd, List.nodup_cons.mpr ⟨fun z => ?_, List.pairwise_map.mpr (List.nodup_range.imp (fun h z => h (by omega)))⟩, fun a ha b hb z => ?_⟩
    · obtain ⟨i, -, hi⟩ := List.mem_map.mp z
      omega
    · subst z
      have h2 : a ∈ mnD [] (nxt M.2.2.2.2) n := hb
      rcases mnD_mem.mp h2 with h3 | h3
      · cases h3
      · exact hout a ha h3
  · rw [mnD_mem, hdm k]
    show _ ↔ inD (bmp M.2.2.2.2 (n + 1) sl) k
    rw [b1 k]
    constructor
    · rintro (h | h)
      · exact Or.inl h
      · exact Or.inr (by omega)
    · rintro (h | h)
      · exact Or.inl h
      · exact Or.inr (by omega)
  · have ha : mnR M.2.2.1 (nxt M.2.2.2.2) n k j = some a := ha
    rcases mnD_mem.mp hk with h | h
    · rw [hRk k h j] at ha
      exact mnD_mem.mpr (Or.inl (hmem k h j a ha))
    · unfold mnR at ha
      by_cases g : k = nxt M.2.2.2.2
      · rw [if_pos g] at ha
        by_cases g2 : j < n
        · rw [if_pos g2] at ha
          cases ha
          exact mnD_mem.mpr (Or.inr (by omega))
        · rw [if_neg g2] at ha
          cases ha
      · rw [if_neg g, if_pos h] at ha
        cases ha
  · have hn : ∀ a, 8000 ≤ a → mnL L (nxt M.2.2.2.2) n h0 a = L a := fun a ha => by
      unfold mnL
      rw [if_neg (by omega)]
    rw [hn _ (by omega), hn _ (by omega)]
    exact hlab.1 i hi
  · unfold mnL
    rw [if_neg (by omega)]
    exact hlab.2
  · obtain ⟨h1, h2⟩ := hext k hk
    refine ⟨mnD_mem.mpr (Or.inl h1), ?_⟩
    unfold mnL
    rw [if_neg (hout k h1)]
    exact h2
theorem mn_outer (c : ClassId) (N h0 : Nat) : ∀ i : Nat, Jvm.Free.Multi.outerC c N h0 i = arrV c N (fun j => va_rf (if j < i then some (h0 + 1 + j) else none))
  | 0 => by
    show ({ cls := c, slots := Array.replicate N .null, vm := .none } : Cell) = _
    rw [arrV_new]
    congr 1
  | i + 1 => by
    show (Jvm.Free.Multi.outerC c N h0 i).setSlot i (.ref (h0 + 1 + i)) = _
    rw [mn_outer c N h0 i, arrV_store]
    congr 1
    funext j
    unfold updV
    by_cases e : j = i
    · rw [e]
      simp [va_rf]
    · by_cases h : j < i
      · simp [e, h, Nat.lt_succ_of_lt h]
      · simp [e, h, show ¬ j < i + 1 by omega]
/-- the law itself: the outer cell at the heap's end, its rows behind it -/
theorem mn_law {ws : va_W} {H H0 : Heap} {locs : List Loc} {cells slots pc : Nat} {ls : Array Slot} {rest : List Value} {cl : List vw_C} (hexec : p.tables.exec = Jvm.exec) {own : String} {index : Nat} {ty : FieldType} (hown : s.vm.findClass own = some m.cls) (hclink : (Cond.classLink own index ("[" ++ (FieldType.array ty).toString)).before args s = true) (hover : (Cond.arrayOver (.array ty)).before args s = true) (harr : (Cond.arrayClass ty).before args s = true)
    (hP : va_P D cl ws H) (hD : va_D A ws) (hS : va_S A H0 H locs) (hA : ∀ q, H0.size ≤ q → A q) {n k : Int32} {N K : Nat} {z : vp_A} (hn : ¬ n < 0) (hk : ¬ k < 0) (hN : n.toNatClampNeg = N) (hM : k.toNatClampNeg = K)
    (hb1 : N * 4 ≤ 536870912) (hb2 : K * componentBytes ty ≤ 536870912) (hb3 : K ≤ 536870912) (hdf : fits ty (defaultValue ty) = true) (hdd : (defaultValue ty).isDefault = true) (hcells : cells + (1 + N) ≤ R.cells) (hslots : slots + (N + N * K) ≤ R.slots) (hz : ∀ c : ClassId, Jvm.Free.Multi.innerC c K (defaultValue ty) = vp_cell c z) (hdg : decode c.code pc = .ok (.multianewarray index 2, 4))
    (kk : ∀ (cA cy : ClassId) (H1 : Heap), s.vm.findClass ("[" ++ (FieldType.array ty).toString) = some cA → s.vm.findClass (FieldType.array ty).toString = some cy →
      va_P D cl (ws ++ mnW H.size N (.inl (cA, N, .inr (.inr (.inr (.inr (fun i => if i < N then some (H.size + 1 + i) else none)))))) (.inl (cy, z))) H1 → va_D A (ws ++ mnW H.size N (.inl (cA, N, .inr (.inr (.inr (.inr (fun i => if i < N then some (H.size + 1 + i) else none)))))) (.inl (cy, z))) → va_S A H0 H1 locs →
      W p l e R s m args below meth c H1 locs (cells + 1 + N) (slots + N + N * K) Q (F0 m (pc + 4) ls (.ref H.size :: rest))) : W p l e R s m args below meth c H locs cells slots Q (F0 m pc ls (.int k :: .int n :: rest)) := by
  subst hN
  subst hM
  intro T hT Xs
  obtain ⟨vm₁, cA, cy, -, fA, fC, -, -, X', step⟩ := Xs.multianewarray2F hexec hown hclink hover harr (g := F0 m pc ls (.int k :: .int n :: rest)) rfl hdg rfl hn hk hb1 hb2 hb3 hdf hdd hcells hslots
  generalize hF : Jvm.Free.Multi.fill (T.setVm vm₁) cA cy n.toNatClampNeg k.toNatClampNeg (defaultValue ty) n.toNatClampNeg = F at X' step
  have hTh : (T.setVm vm₁).heap = H := hT
  obtain ⟨f1, f2, -, -⟩ := Jvm.Free.Multi.fill_facts (T.setVm vm₁) cA cy n.toNatClampNeg k.toNatClampNeg (defaultValue ty) n.toNatClampNeg
  rw [hF, hTh] at f1 f2
  have hold : ∀ x : Nat, x < H.size → F.heap[x]? = H[x]? := fun x hx => by
    have := Jvm.Free.Multi.fill_old (T.setVm vm₁) cA cy n.toNatClampNeg k.toNatClampNeg (defaultValue ty) (a := x) (by rw [hTh]; exact hx) n.toNatClampNeg
    rw [hF, hTh] at this
    exact this
  have hrow : ∀ j : Nat, j < n.toNatClampNeg → F.heap[H.size + 1 + j]? = some (vp_cell cy z) := fun j hj => by
    have := Jvm.Free.Multi.fill_inner (T.setVm vm₁) cA cy n.toNatClampNeg k.toNatClampNeg (defaultValue ty) n.toNatClampNeg j hj
    rw [hF, hTh, hz] at this
    exact this
  rw [mn_outer] at f2
  have hP0 : va_P D cl ws F.heap := hP.kept (fun k9 x hx => hold x.1 ((hP k9 x hx).lt))
  have hat : ∀ (k9 : Nat) (x : Nat × va_E), (mnW H.size n.toNatClampNeg (.inl (cA, n.toNatClampNeg, .inr (.inr (.inr (.inr (fun i => if i < n.toNatClampNeg then some (H.size + 1 + i) else none)))))) (.inl (cy, z)))[k9]? = some x → va_at D cl x F.heap := fun k9 x hx => by
    obtain ⟨h1, h2, h3, h4⟩ := mnW_at hx
    by_cases g : k9 = 0
    · have h5 := h3 g
      subst g
      obtain ⟨x1, x2⟩ := x
      have h6 : x2 = _ := h5
      subst h6
      have h2 : x1 = H.size := h2
      subst h2
      exact f2
    · have h5 := h4 g
      obtain ⟨x1, x2⟩ := x
      have h6 : x2 = _ := h5
      subst h6
      have h2 : x1 = H.size + k9 := h2
      have := hrow (k9 - 1) (by omega)
      rw [show H.size + 1 + (k9 - 1) = x1 by omega] at this
      exact this
  have hlt : ∀ (k9 : Nat) (x : Nat × va_E), ws[k9]? = some x → x.1 < H.size := fun k9 x hx => (hP k9 x hx).lt
  obtain ⟨t, a1, b1⟩ := kk cA cy F.heap fA fC (hP0.app hat) ⟨fun i j x y hi hj hxy => by
    by_cases h1 : i < ws.length <;> by_cases h2 : j < ws.length
    · rw [List.getElem?_append_left h1] at hi
      rw [List.getElem?_append_left h2] at hj
      exact hD.1 i j x y hi hj hxy
    · rw [List.getElem?_append_left h1] at hi
      rw [List.getElem?_append_right (by omega)] at hj
      have := hlt _ _ hi
      have := (mnW_at hj).2.1
      omega
    · rw [List.getElem?_append_right (by omega)] at hi
      rw [List.getElem?_append_left h2] at hj
      have := hlt _ _ hj
      have := (mnW_at hi).2.1
      omega
    · rw [List.getElem?_append_right (by omega)] at hi hj
      have := (mnW_at hi).2.1
      have := (mnW_at hj).2.1
      omega, fun k9 x hx => by
    by_cases h1 : k9 < ws.length
    · rw [List.getElem?_append_left h1] at hx
      exact hD.2 k9 x hx
    · rw [List.getElem?_append_right (by omega)] at hx
      have := (mnW_at hx).2.1
      exact hA _ (by have := hS.1; omega)⟩ ⟨by rw [f1]; have := hS.1; omega, fun x h1 h2 => (hold x (Nat.lt_of_lt_of_le h1 hS.1)).trans (hS.2.1 x h1 h2), hS.2.2⟩ F rfl X'
  refine ⟨t, step t ?_, b1⟩
  have e : T.heap.size = H.size := by rw [hT]
  rw [e]
  exact a1
theorem inB_cl {n : Int32} {k : Nat} (h : inB n k = true) : n.toNatClampNeg < k := by
  simp only [inB, Bool.and_eq_true, decide_eq_true_eq] at h
  show n.toInt.toNat < k
  omega
theorem st_mna (F : FR X opq adK adV scr y A p R s m args meth c) {pc len : Nat} {ls : List Value} {M : hM} {cells slots : Nat} {r : Instr} (hd : decode (mbytes y) (pcA y pc) = .ok (r, len)) {t d : Nat} {a b : Int32} {st : List Value} (ha : inB a 100 = true) (hb : inB b 10000 = true) (ht7 : 7 ≤ t) (ht8 : t ≤ 8) (hok : okn M.2.2.2.2 (a.toNatClampNeg + 1) = true) (hkd : kd (nxt M.2.2.2.2) = .inr t) (hlen : slen (nxt M.2.2.2.2) = a.toNatClampNeg) (hrow : ∀ i, i < a.toNatClampNeg → kd (nxt M.2.2.2.2 + 1 + i) = .inr (8 - t) ∧ slen (nxt M.2.2.2.2 + 1 + i) = b.toNatClampNeg)
    (h3 : nxt M.2.2.2.2 + a.toNatClampNeg < 3000) (hrc : cells + (1 + a.toNatClampNeg) ≤ R.cells) (hrs : slots + (a.toNatClampNeg + a.toNatClampNeg * b.toNatClampNeg) ≤ R.slots) (hk : lnk (mnm y).cls (mpcs y) pc (pcA y pc) len r (.multianewarray t d) = true)
    (k_ : PT X opq adK adV scr D yA A L0 dom0 p l e R s m args below meth c Q y (pc + 1) (ls) (.ref (nxt M.2.2.2.2) :: st) (mnM M a.toNatClampNeg (a.toNatClampNeg + a.toNatClampNeg * b.toNatClampNeg)) (cells + 1 + a.toNatClampNeg) (slots + a.toNatClampNeg + a.toNatClampNeg * b.toNatClampNeg)) : PT X opq adK adV scr D yA A L0 dom0 p l e R s m args below meth c Q y (pc) (ls) (.int b :: .int a :: st) M (cells) (slots) := by
  obtain ⟨⟨hx, hbc, hret, hml, hown, hts, hlocks, hnm, hA⟩, ⟨hq, hvS, hvR, hZ1, hZ2, hvX, hscr, hscrA⟩, hr1, hr2, hao, haoL, haoI, hnst⟩ := id F
  simp only [lnk, Bool.and_eq_true, decide_eq_true_eq] at hk
  obtain ⟨⟨hn, hnlt⟩, hk⟩ := hk
  have hn : pcA y (pc + 1) = pcA y pc + len := hn
  split at hk <;> (try (cases hk; done))
  rename_i ix dd
  simp only [Bool.and_eq_true, Bool.or_eq_true, decide_eq_true_eq] at hk
  obtain ⟨⟨rfl, rfl⟩, hc⟩ := hk
  intro L dom H locs lsr hR hV ho
  obtain ⟨-, ho3⟩ := List.forall_mem_cons.mp ho
  obtain ⟨-, ho4⟩ := List.forall_mem_cons.mp ho3
  have hRR := hR
  obtain ⟨hK, hP, hD, hS, hnd, hdm, hsz, hmem, hlab, hext⟩ := hR
  have ha0 := inB_nn ha
  have hb0 := inB_nn hb
  have ha1 := inB_cl ha
  have hb1 := inB_cl hb
  obtain ⟨ty, e8, e9, hty, hcl, hov, har, hcb, hdf, hdd, hra, hz⟩ : ∃ ty : FieldType, aty (8 - t) = ty ∧ aty t = .array ty ∧ 8 - t < 2 ∧ cpCh (mnm y).cls ix ("[" ++ (FieldType.array ty).toString) = true ∧ (Cond.arrayOver (.array ty)).before args s = true ∧ (Cond.arrayClass ty).before args s = true ∧ componentBytes ty ≤ 8 ∧ fits ty (defaultValue ty) = true ∧ (defaultValue ty).isDefault = true ∧ (∀ cy, s.vm.findClass (FieldType.array ty).toString = some cy → va_RA s cy ty) ∧ ∀ (K : Nat) (c : ClassId), Jvm.Free.Multi.innerC c K (defaultValue ty) = vp_cell c (K, zcell (8 - t)) := by
    rcases hc with ⟨rfl, hc⟩ | ⟨rfl, hc⟩
    · exact ⟨.long, rfl, rfl, by decide, hc, haoL, hts _ ar_long, by decide, rfl, rfl, fun cy h => h, fun K c => arrV_new _ _ _⟩
    · exact ⟨.int, rfl, rfl, by decide, hc, haoI, hts _ ar_int, by decide, rfl, rfl, fun cy h => h, fun K c => arrV_new _ _ _⟩
  have hmul : b.toNatClampNeg * componentBytes ty ≤ 10000 * 8 := Nat.mul_le_mul (by omega) hcb
  have hd2 : decode c.code (pcA y pc) = .ok (.multianewarray ix 2, 4) := by rw [hbc]; exact hd
  refine mn_law (D := D) (cl := vwCl) hx hown (hts _ (cpC_at hcl)) hov har hP hD hS hA ha0 hb0 rfl rfl (by omega) (by omega) (by omega) hdf hdd hrc hrs (hz _) hd2 (fun cA cy H1 fA fC a1 a2 a3 => ?_)
  have hcA : cA = yA t := by
    have h2 := (hK.2 t _ (tysL_at (by omega))).2
    rw [e9] at h2
    exact Option.some.inj (fA.symm.trans h2)
  have hcy : cy = yA (8 - t) := by
    have h2 := (hK.2 (8 - t) _ (tysL_at (by omega))).2
    have h3 := hra cy fC
    rw [← e8] at h3
    exact RA_inj (by omega) h3 h2
  subst hcA
  subst hcy
  have hfr := fun i (hi : i < a.toNatClampNeg + 1) => nxt_fresh (i := i) hsz hok hi
  have hL : ∀ k, inL dom k → mnL L (nxt M.2.2.2.2) a.toNatClampNeg H.size k = L k := fun k hk => by
    unfold mnL
    rw [if_neg (fun z => ?_)]
    have h5 := hfr (k - nxt M.2.2.2.2) (by omega)
    rw [show nxt M.2.2.2.2 + (k - nxt M.2.2.2.2) = k by omega] at h5
    rcases hk with h | h | h
    · exact h5.1 ((hdm _).mp h)
    · omega
    · omega
  have hR' := RM_mn (h0 := H.size) (n := a.toNatClampNeg) (sl := a.toNatClampNeg + a.toNatClampNeg * b.toNatClampNeg) hRR hok (by
    unfold cellE
    rw [hkd]
    show Sum.inl (yA t, alen M.2.2.2.1 (nxt M.2.2.2.2), _) = _
    unfold alen
    rw [Nat.blt_eq.mpr (show nxt M.2.2.2.2 < 3000 by omega), cond_true, hlen]
    congr 2
    have e3 : cellA (mnL L (nxt M.2.2.2.2) a.toNatClampNeg H.size) (mnM M a.toNatClampNeg (a.toNatClampNeg + a.toNatClampNeg * b.toNatClampNeg)) (nxt M.2.2.2.2) t = .inr (.inr (.inr (.inr (fun j => (mnR M.2.2.1 (nxt M.2.2.2.2) a.toNatClampNeg (nxt M.2.2.2.2) j).map (mnL L (nxt M.2.2.2.2) a.toNatClampNeg H.size))))) := by
      have : t = 7 ∨ t = 8 := by omega
      rcases this with rfl | rfl <;> rfl
    rw [e3]
    congr 5
    funext j
    unfold mnR
    rw [if_pos rfl]
    by_cases g : j < a.toNatClampNeg
    · rw [if_pos g, if_pos g]
      show some (mnL _ _ _ _ _) = _
      unfold mnL
      rw [if_pos (by omega)]
      congr 1
      omega
    · rw [if_neg g, if_neg g]
      rfl) (fun i hi => by
    obtain ⟨g1, g2⟩ := hrow i hi
    unfold cellE
    rw [g1]
    show Sum.inl (yA (8 - t), alen M.2.2.2.1 (nxt M.2.2.2.2 + 1 + i), _) = _
    unfold alen
    rw [Nat.blt_eq.mpr (show nxt M.2.2.2.2 + 1 + i < 3000 by omega), cond_true, g2, zcell_ok (by omega)]
    · funext j
      show mnI M.1 _ _ _ j = 0
      unfold mnI
      rw [if_pos (by omega)]
    · funext j
      show mnI M.2.1 _ _ _ j = 0
      unfold mnI
      rw [if_pos (by omega)]
    · funext j
      show mnR M.2.2.1 _ _ _ j = none
      unfold mnR
      rw [if_neg (by omega), if_pos (by omega)]) a1 a2 a3
  have hi : ∀ k ∈ dom, k ∈ mnD dom (nxt M.2.2.2.2) a.toNatClampNeg := fun k hk => mnD_mem.mpr (Or.inl hk)
  have w := k_ (mnL L (nxt M.2.2.2.2) a.toNatClampNeg H.size) (mnD dom (nxt M.2.2.2.2) a.toNatClampNeg) H1 locs lsr hR' (hV.ext hi hL) (List.forall_mem_cons.mpr ⟨fun k hk => by cases hk; exact Or.inl (mnD_mem.mpr (Or.inr (by omega))), fun v hv => okV_mono hi (ho4 v hv)⟩)
  rw [hn, List.map_cons, cv_map hL ho4] at w
  have e1 : cv opq (mnL L (nxt M.2.2.2.2) a.toNatClampNeg H.size) (.ref (nxt M.2.2.2.2)) = .ref H.size := by
    show Value.ref (mnL _ _ _ _ _) = _
    unfold mnL
    rw [if_pos ⟨Nat.le_refl _, Nat.le_add_right _ _⟩, Nat.sub_self, Nat.add_zero]
  rw [e1] at w
  exact w
theorem mna : MNA := by
  intro y X opq adK adV scr D yA A L0 dom0 p l e R s m args below meth c Q F pc len ls M cells slots r hd t d hk st pc' ls' st' M' h hcc hss k
  simp only [sstep] at h
  split at h
  · rename_i b a r2
    obtain ⟨h1, h2⟩ := cond_some h
    simp only [Bool.and_eq_true, Nat.ble_eq, List.all_eq_true, List.mem_range] at h1
    obtain ⟨⟨⟨⟨⟨⟨⟨⟨c1, c2⟩, c3⟩, c4⟩, c5⟩, c6⟩, c7⟩, c8⟩, c9⟩ := h1
    cases h2
    have c5 := Nat.eq_of_beq_eq_true c5
    have hG : nc (bmp M.2.2.2.2 (a.toNatClampNeg + 1) (a.toNatClampNeg + a.toNatClampNeg * b.toNatClampNeg)) = _ ∧ _ := nc_bmp M.2.2.2.2 (a.toNatClampNeg + 1) (a.toNatClampNeg + a.toNatClampNeg * b.toNatClampNeg)
    have e1 : cells + (nc (bmp M.2.2.2.2 (a.toNatClampNeg + 1) (a.toNatClampNeg + a.toNatClampNeg * b.toNatClampNeg)) - nc M.2.2.2.2) = cells + 1 + a.toNatClampNeg := by rw [hG.1]; omega
    have e2 : slots + (ns (bmp M.2.2.2.2 (a.toNatClampNeg + 1) (a.toNatClampNeg + a.toNatClampNeg * b.toNatClampNeg)) - ns M.2.2.2.2) = slots + a.toNatClampNeg + a.toNatClampNeg * b.toNatClampNeg := by rw [hG.2]; omega
    have hcc : cells + (nc (bmp M.2.2.2.2 (a.toNatClampNeg + 1) (a.toNatClampNeg + a.toNatClampNeg * b.toNatClampNeg)) - nc M.2.2.2.2) ≤ R.cells := hcc
    have hss : slots + (ns (bmp M.2.2.2.2 (a.toNatClampNeg + 1) (a.toNatClampNeg + a.toNatClampNeg * b.toNatClampNeg)) - ns M.2.2.2.2) ≤ R.slots := hss
    have k : PT X opq adK adV scr D yA A L0 dom0 p l e R s m args below meth c Q y (pc + 1) ls (.ref (nxt M.2.2.2.2) :: r2) (mnM M a.toNatClampNeg (a.toNatClampNeg + a.toNatClampNeg * b.toNatClampNeg)) (cells + (nc (bmp M.2.2.2.2 (a.toNatClampNeg + 1) (a.toNatClampNeg + a.toNatClampNeg * b.toNatClampNeg)) - nc M.2.2.2.2)) (slots + (ns (bmp M.2.2.2.2 (a.toNatClampNeg + 1) (a.toNatClampNeg + a.toNatClampNeg * b.toNatClampNeg)) - ns M.2.2.2.2)) := k
    rw [e1] at hcc k
    rw [e2] at hss k
    refine st_mna F hd c1 c2 c3 c4 c6 (isA_kd c7) (Nat.eq_of_beq_eq_true c8) (fun i hi => ⟨isA_kd (c9 i hi).1, Nat.eq_of_beq_eq_true (c9 i hi).2⟩) ?_ (by omega) (by omega) hk k
    have hz := c6
    unfold okn at hz
    rw [c5] at hz
    have hz2 : M.2.2.2.2.2.1 + (a.toNatClampNeg + 1) ≤ 1000 := Nat.ble_eq.mp hz
    unfold nxt
    rw [c5]
    show M.2.2.2.2.2.1 + _ < 3000
    omega
  · cases h
end MNAS
/-- from the entry, for every script of at most 384 ints, the law comes to its end with true -/
theorem whole_start {p : Program} {e : Env} {s : State} {m : MethodId} {below : List Frame} {meth : Method} {c : Code} (l : Launch) (hflags : l.flags = flags0) {b L : Nat} {xs : Nat → Int32} (hL : L ≤ 384) (C0 : lw_At p s m meth c b L xs) : W p l e room_1 s m #[Value.ref b] below meth c s.heap [] 0 0 (lw_Z below #[Value.ref b] s) (entryFrame m ([Value.ref b] : List Value).toArray 4) := start_open chk mna lawrun l hL C0
set_option maxHeartbeats 4000000 in
theorem lw_walk (l : Launch) (hflags : l.flags = flags0) (b : Addr) (xs : List Int32) : MetFree l x (headSpec (Jvm.Cond.code x code maxLocals ret :: tables_1) room_1) (lw_P b xs) (fun _ _ _ _ _ => True) lw_Q := by
  refine MetFree.of_bodyS (code := code) (maxLocals := maxLocals) (ret := ret) (by decide) ?_ ?_
  · intro args s m h hn
    obtain ⟨meth, c, h1, h2, h3, h4, h5, h6, -, -⟩ := Cond.code_spec hn (atoms_spec (ws := Jvm.Cond.code x code maxLocals ret :: tables_1) h _ List.mem_cons_self)
    exact ⟨meth, c, h1, h2, h3, h4, h5, h6⟩
  · intro p e s m args below meth c s₁ B hml0 hP _
    obtain ⟨rfl, hx, hbd, hgv⟩ := hP
    obtain ⟨scr, harrAt, hlist, hof, hsmall⟩ := hx
    obtain ⟨hcb, hkn, -, -⟩ := State.arrayAt?_spec harrAt
    have hown : s.vm.findClass R_law = some m.cls := findClass_of_methodNamed B.named
    have hts0 : ∀ c ∈ (Jvm.Cond.code x code maxLocals ret :: tables_1), c.before #[Value.ref b] s = true := atoms_spec (ws := Jvm.Cond.code x code maxLocals ret :: tables_1) B.pre
    have hts : ∀ w ∈ lw_tbl, w.before #[Value.ref b] s = true := k2_hts_sels lw_privs (fun w hw => hts0 w (List.mem_cons_of_mem _ hw)) lw_privs_ok
    have hml : c.maxLocals = 4 := B.maxLocals_eq (hts0 _ List.mem_cons_self)
    have X₀ : Stand p l e room_1 s m #[Value.ref b] below meth c s₁ [] 0 0 := Stand.of_body B
    have hh0 : s₁.heap = s.heap := by rw [B.state]; rfl
    have hsz : scr.slots.size = xs.length := by rw [← Array.length_toList, hlist, List.length_map]
    have hval : ∀ j : Nat, j < xs.length → scr.slots[j]? = some (.int (xs.getD j 0)) := fun j hj => by
      rw [← Array.getElem?_toList, hlist]
      simp [hj]
    have hbl : b < s.heap.size := (Array.getElem?_eq_some_iff.mp hcb).1
    have hX : va_X b xs.length (fun j => xs.getD j 0) s s.heap := ⟨scr, hcb, hof, hkn, hsz, hval⟩
    have K : W p l e room_1 s m #[Value.ref b] below meth c s₁.heap [] 0 0 (lw_Z below #[Value.ref b] s) (entryFrame m ([Value.ref b] : List Value).toArray 4) := by
      rw [hh0]
      exact whole_start l hflags hbd ⟨B.exec, B.bytes, B.returns, hml, hown, hts, hX, hbl, B.notSynchronized, hgv⟩
    obtain ⟨t, a1, o, b1, b2, b3⟩ := K s₁ rfl X₀
    exact ⟨t, o, a1, b1, b2, b3⟩
theorem lw_pre_spec {args : Array Value} {s : State} (h : (Jvm.Cond.and given_1 narrow_1).before args s = true) (hr : rest_1_c.before args s = true) : ∃ (b : Addr) (xs : List Int32), lw_P b xs args s := by
  have hs := flat_of_before _ h
  have hq := flat_of_before _ hr
  have hc : (Cond.count 1).before args s = true := hs _ (by decide +kernel)
  have harr : (Cond.arrayOf (.arg 0) .int).before args s = true := hs _ (by decide +kernel)
  have hle : (Cond.le (.length (.arg 0)) (.int 384)).before args s = true := hs _ (by decide +kernel)
  have hlen : (Cond.isInt (.length (.arg 0))).before args s = true := hq _ (by decide +kernel)
  have hall : (Cond.all (.arg 0) (.isInt (.elem (.arg 0) (.index 0)))).before args s = true := hq _ (by decide +kernel)
  obtain ⟨b, xs, hb, hx⟩ := State.ints_of_pre rfl harr hlen hall
  have hsm : xs.length < 2 ^ 31 := hx.choose_spec.2.2.2
  have hev : (Term.length (.arg 0)).eval args s none [] s = some (.int xs.length.toInt32) := hx.length_eval hb
  have hv := Cond.le_ints hev (show (Term.int 384).eval args s none [] s = some (.int 384) from rfl)
  have hd : xs.length.toInt32 ≤ 384 := by
    simpa [Cond.before, Cond.holds, hv] using hle
  have hN : xs.length ≤ 384 := (Int32.ofNat_le_ofNat hsm (by decide)).mp (show Int32.ofNat xs.length ≤ Int32.ofNat 384 from hd)
  exact ⟨b, xs, Cond.one_arg hc (show args[0]? = some (.ref b) from hb), hx, hN, h⟩
theorem lw_comes (l : Launch) (hflags : l.flags = flags0) : Comes l x (Jvm.Cond.code x code maxLocals ret :: tables_1) room_1 (fun tb e args s => Calls_1 tb e args s ∧ rest_1 tb e args s ∧ Pre_1 tb e args s)
    (fun _ _ args s o t => lw_Q args s o t) := by
  intro p e ha hc hk s m args below hf hfit hheap happ hpre
  obtain ⟨b, xs, hP⟩ := lw_pre_spec hpre.2.2 hpre.2.1
  obtain ⟨k, o, h1, h2, h3, hQ⟩ := lw_walk l hflags b xs p e ha hc hk s m args below hf ((Spec.applies_iff_loose hf).mp happ).1 hP trivial
  exact ⟨k, o, h1, h2, h3, hQ⟩
theorem lw_frame {s t : State} {o : Outcome} {args : Array Value} (h : Framed s o t [] 600000 7302250) :
    Framed s o t (fieldLocs frame_1_writes args s ++ arrayLocs frame_1_arrays args s ++ staticLocs frame_1_statics s) 600000 7302250 := h
theorem lw_limb (L : Cond) (hL : ∀ (args : Array Value) (s t : State), L.after args s (.returned (some (.int 1))) t = true) :
    ArmFor flags0 classFile x code maxLocals ret World_1 tables_1 room_1 Calls_1 rest_1 Pre_1
      (fun tb e a s o t => postC L tb e a s o t ∧ Framed s o t (fieldLocs frame_1_writes a s ++ arrayLocs frame_1_arrays a s ++ staticLocs frame_1_statics s) 600000 7302250) := by
  intro l hflags _ _ p e ha hc hk s m args below hf hfit hheap happ hpre
  obtain ⟨k, o, h1, h2, h3, rfl, hF⟩ := lw_comes l hflags p e ha hc hk s m args below hf hfit hheap happ hpre
  exact ⟨k, _, h1, h2, h3, hL args s _, lw_frame hF⟩
theorem i_vc : Claimed_1_1 ∧ Claimed_1_2 := ⟨lw_limb limb_1_1 (fun args s t => by simp [limb_1_1, Cond.after, Cond.holds, Cond.value]), lw_limb limb_1_2 (fun args s t => Cond.after_iff.mpr (by
  first | (rw [show limb_1_2 = Cond.eq .result (.int 1) from rfl, Cond.eq_ints (x := 1) (y := 1) rfl rfl]; simp; done) | (simp [limb_1_2, Cond.value, Term.eval]; done)))⟩
