/-! the abstract machine against the real one: the relation -/
def cN (ci : Nat) : Nat := (vwCl.getD ci ("", fun _ => ("", "", "", false), 0)).2.2
def fty (ci k : Nat) : FieldType := (parseFieldDescriptor (ctb ci k).2.2.1).getD .int
def tyOk (t : FieldType) (n : Nat) : Bool := match t, n with
  | .int, 0 => true
  | .long, 1 => true
  | .boolean, 2 => true
  | .object _, 3 => true
  | .array _, 3 => true
  | _, _ => false
theorem cl_ok : (List.range 12).all (fun ci => decide (nf ci = cN ci) && (List.range (cN ci)).all (fun k => decide (parseFieldDescriptor (ctb ci k).2.2.1 = some (fty ci k)) && tyOk (fty ci k) (fk ci k)) && (List.range (cN ci)).all (fun a => (List.range (cN ci)).all fun b => decide (a = b) || decide ((ctb ci a).2.1 ≠ (ctb ci b).2.1))) = true := by decide +kernel
theorem cl_at {ci : Nat} (h : ci < 12) : vwCl[ci]? = some (cnm ci, ctb ci, cN ci) := by
  have h2 : vwCl.length = 12 := rfl
  have h3 : vwCl[ci]? = some vwCl[ci] := List.getElem?_eq_getElem (by omega)
  have h4 : vwCl.getD ci ("", fun _ => ("", "", "", false), 0) = vwCl[ci] := by simp [List.getD, h3]
  rw [h3]
  unfold cnm ctb cN
  rw [h4]
theorem cl_N {ci : Nat} (h : ci < 12) : nf ci = cN ci := by
  have h1 := List.all_eq_true.mp cl_ok ci (List.mem_range.mpr h)
  simp only [Bool.and_eq_true, decide_eq_true_eq] at h1
  exact h1.1.1
theorem cl_ty {ci : Nat} (h : ci < 12) {k : Nat} (hk : k < cN ci) : parseFieldDescriptor (ctb ci k).2.2.1 = some (fty ci k) ∧ tyOk (fty ci k) (fk ci k) = true := by
  have h1 := List.all_eq_true.mp cl_ok ci (List.mem_range.mpr h)
  simp only [Bool.and_eq_true, decide_eq_true_eq] at h1
  have h2 := List.all_eq_true.mp h1.1.2 k (List.mem_range.mpr hk)
  simpa only [Bool.and_eq_true, decide_eq_true_eq] using h2
theorem cl_nm {ci : Nat} (h : ci < 12) : ∀ a, a < cN ci → ∀ b, b < cN ci → a ≠ b → (ctb ci a).2.1 ≠ (ctb ci b).2.1 := by
  intro a ha b hb hab
  have h1 := List.all_eq_true.mp cl_ok ci (List.mem_range.mpr h)
  simp only [Bool.and_eq_true, decide_eq_true_eq] at h1
  have h2 := List.all_eq_true.mp (List.all_eq_true.mp h1.2 a (List.mem_range.mpr ha)) b (List.mem_range.mpr hb)
  rcases Bool.or_eq_true _ _ ▸ h2 with h3 | h3
  · exact absurd (of_decide_eq_true h3) hab
  · exact of_decide_eq_true h3
theorem u_ws_good {C : String} {T : u_T} {N : Nat} : ∀ w ∈ u_ws C T N, goodWord w = true := by
  intro w hw
  obtain ⟨k, hk, rfl⟩ := List.mem_map.mp hw
  unfold u_lay
  split <;> rfl
theorem cl_in {ci : Nat} (h : ci < 12) : ∀ w ∈ u_ws (cnm ci) (ctb ci) (cN ci), w ∈ lw_good := by
  have key : ∀ w ∈ u_ws (cnm ci) (ctb ci) (cN ci), w ∈ lw_tbl := by
    match ci, h with
    | 0, _ => exact inX0
    | 1, _ => exact inX1
    | 2, _ => exact inX2
    | 3, _ => exact inX3
    | 4, _ => exact inX4
    | 5, _ => exact inX5
    | 6, _ => exact inX6
    | 7, _ => exact inX7
    | 8, _ => exact inX8
    | 9, _ => exact inX9
    | 10, _ => exact inX10
    | 11, _ => exact inX11
  exact fun w hw => good_mem (key w hw) (u_ws_good w hw)
def cv (opq : Value) (L : Nat → Nat) (v : Value) : Value := match v with
  | .ref k => .ref (L k)
  | .retAddr _ => opq
  | v => v
def inL (dom : List Nat) (k : Nat) : Prop := k ∈ dom ∨ (9000 ≤ k ∧ k < 9026) ∨ k = 9900
def okV (dom : List Nat) (v : Value) : Prop := ∀ k, v = .ref k → inL dom k
def fval (L : Nat → Nat) (M : hM) (k j t : Nat) : Value := match t with
  | 1 => .long (M.2.1 k j)
  | 3 => va_rf ((M.2.2.1 k j).map L)
  | _ => .int (M.1 k j)
def cellA (L : Nat → Nat) (M : hM) (k t : Nat) : (Nat → Int32) ⊕ (Nat → Int64) ⊕ (Nat → UInt32) ⊕ (Nat → UInt64) ⊕ (Nat → Option Nat) := match t with
  | 0 => .inl (M.1 k)
  | 2 => .inl (M.1 k)
  | 1 => .inr (.inl (M.2.1 k))
  | _ => .inr (.inr (.inr (.inr (fun j => (M.2.2.1 k j).map L))))
def cellE (yA : Nat → ClassId) (L : Nat → Nat) (M : hM) (k : Nat) : va_E := match kd k with
  | .inl ci => .inr (ci, (List.range (nf ci)).map (fun j => fval L M k j (fk ci j)))
  | .inr t => .inl (yA t, alen M.2.2.2.1 k, cellA L M k t)
def wsM (yA : Nat → ClassId) (L : Nat → Nat) (M : hM) (dom : List Nat) : va_W := dom.map (fun k => (L k, cellE yA L M k))
def tysL (yA : Nat → ClassId) : List (ClassId × FieldType) := (List.range 9).map (fun t => (yA t, aty t))
theorem tysL_at {yA : Nat → ClassId} {t : Nat} (h : t < 9) : (tysL yA)[t]? = some (yA t, aty t) := by
  unfold tysL
  rw [List.getElem?_map, List.getElem?_range h]
  rfl
def inD (G : hG) (k : Nat) : Prop := k < G.2.1 ∨ (1000 ≤ k ∧ k < 1000 + G.2.2.1) ∨ (3000 ≤ k ∧ k < 3000 + G.2.2.2.1)
def szG (G : hG) : Prop := G.2.1 ≤ 1000 ∧ G.2.2.1 ≤ 2000 ∧ G.2.2.2.1 ≤ 5000
/-- what the labels of strings and of the script are -/
def labL (adK adV : Nat → Nat) (scr : Nat) (L : Nat → Nat) : Prop := (∀ i, i < 13 → L (9000 + 2 * i) = adK i ∧ L (9000 + 2 * i + 1) = adV i) ∧ L 9900 = scr
def RM (adK adV : Nat → Nat) (scr : Nat) (D : va_G) (yA : Nat → ClassId) (A : Nat → Prop) (L0 : Nat → Nat) (dom0 : List Nat) (s : State) (H0 : Heap) (L : Nat → Nat) (dom : List Nat) (M : hM) (H : Heap) (locs : List Loc) : Prop :=
  va_K D vwCl (tysL yA) s ∧ va_P D vwCl (wsM yA L M dom) H ∧ va_D A (wsM yA L M dom) ∧ va_S A H0 H locs ∧ dom.Nodup ∧ (∀ k, k ∈ dom ↔ inD M.2.2.2.2 k) ∧ szG M.2.2.2.2 ∧ (∀ k ∈ dom, ∀ j a, M.2.2.1 k j = some a → a ∈ dom) ∧ labL adK adV scr L ∧ (∀ k ∈ dom0, k ∈ dom ∧ L k = L0 k)
def lvl (opq : Value) (L : Nat → Nat) (ab : List Value) : List (Nat × Value) := (List.range ab.length).filterMap (fun j => match ab[j]? with
  | some w => if w = xj then none else some (j, cv opq L w)
  | none => none)
theorem mem_lvl {opq : Value} {L : Nat → Nat} {ab : List Value} {q : Nat × Value} : q ∈ lvl opq L ab ↔ ∃ w, ab[q.1]? = some w ∧ w ≠ xj ∧ q.2 = cv opq L w := by
  unfold lvl
  rw [List.mem_filterMap]
  constructor
  · rintro ⟨j, hj, h⟩
    cases hw : ab[j]? with
    | none => rw [hw] at h; cases h
    | some w =>
      rw [hw] at h
      by_cases hx : w = xj
      · simp [hx] at h
      · simp [hx] at h
        subst h
        exact ⟨w, hw, hx, rfl⟩
  · rintro ⟨w, hw, hx, h2⟩
    refine ⟨q.1, List.mem_range.mpr (List.getElem?_eq_some_iff.mp hw).1, ?_⟩
    rw [hw]
    simp [hx]
    exact Prod.ext rfl h2.symm
def LV (opq : Value) (L : Nat → Nat) (dom : List Nat) (ls : Array Slot) (n : Nat) (ab : List Value) : Prop := lv_has ls n (lvl opq L ab) ∧ ab.length = n ∧ ∀ v ∈ ab, okV dom v
theorem lv_mono {ls : Array Slot} {n : Nat} {l l' : List (Nat × Value)} (h : lv_has ls n l) (hs : ∀ q ∈ l', q ∈ l) : lv_has ls n l' := ⟨h.1, h.2.1, fun q hq => h.2.2 q (hs q hq)⟩
theorem LV.at {opq : Value} {L : Nat → Nat} {dom : List Nat} {ls : Array Slot} {n : Nat} {ab : List Value} (h : LV opq L dom ls n ab) {i : Nat} {v : Value} (hv : ab.getD i xj = v) (hx : v ≠ xj) : ls[i]? = some (.val (cv opq L v)) := by
  have h1 : ab[i]? = some v := by
    unfold List.getD at hv
    cases h2 : ab[i]? with
    | none => rw [h2] at hv; exact absurd hv.symm hx
    | some w => rw [h2] at hv; exact congrArg some hv
  exact h.1.2.2 (i, cv opq L v) (mem_lvl.mpr ⟨v, h1, hx, rfl⟩)
theorem getD_mem {ab : List Value} {i : Nat} {v : Value} (hv : ab.getD i xj = v) (hx : v ≠ xj) : v ∈ ab := by
  unfold List.getD at hv
  cases h2 : ab[i]? with
  | none => rw [h2] at hv; exact absurd hv.symm hx
  | some w => rw [h2] at hv; cases hv; exact List.mem_of_getElem? h2
theorem killP_len (ls : List Value) (i : Nat) : (killP ls i).length = ls.length := by
  unfold killP
  split
  · rfl
  · split <;> simp
theorem killP_at {ls : List Value} {i j : Nat} {w : Value} (h : (killP ls i)[j]? = some w) (hx : w ≠ xj) : ls[j]? = some w ∧ ¬ (j + 1 = i ∧ cat2 w = true) := by
  unfold killP at h
  split at h
  · exact ⟨h, by omega⟩
  · rename_i k
    split at h
    · rename_i hc
      by_cases hj : j = k
      · subst hj
        rw [List.getElem?_set] at h
        simp at h
        exact absurd h.2.symm hx
      · rw [List.getElem?_set_ne (Ne.symm hj)] at h
        exact ⟨h, by omega⟩
    · rename_i hc
      refine ⟨h, fun ⟨h1, h2⟩ => ?_⟩
      have hjk : j = k := by omega
      subst hjk
      rw [List.getD, h] at hc
      simp [h2] at hc
theorem xj_ok (dom : List Nat) : okV dom xj := fun k h => by simp [xj] at h
theorem killP_ok {dom : List Nat} {ls : List Value} {i : Nat} (h : ∀ v ∈ ls, okV dom v) : ∀ v ∈ killP ls i, okV dom v := by
  unfold killP
  split
  · exact h
  · split
    · intro v hv
      rcases List.mem_or_eq_of_mem_set hv with h1 | h1
      · exact h v h1
      · rw [h1]; exact xj_ok dom
    · exact h
theorem cv_cat {opq : Value} {L : Nat → Nat} (hq : opq.category = 1) (v : Value) : (cv opq L v).category = if cat2 v = true then 2 else 1 := by
  cases v <;> simp [cv, cat2, Value.category, hq]
  exact hq
theorem LV_set1 {opq : Value} {L : Nat → Nat} {dom : List Nat} {ls : Array Slot} {n i : Nat} {ab : List Value} {v : Value} (hq : opq.category = 1) (h : LV opq L dom ls n ab) (hv : okV dom v) {ls' : Array Slot}
    (hl : lv_has ls' n ((i, cv opq L v) :: (lvl opq L ab).filter (fun q => !(q.1 == i) && !(q.1 + 1 == i && q.2.category == 2)))) : LV opq L dom ls' n (set1 ab i v) := by
  obtain ⟨h1, h2, h3⟩ := h
  refine ⟨lv_mono hl fun q hqm => ?_, by unfold set1; rw [List.length_set, killP_len, h2], fun w hw => ?_⟩
  · obtain ⟨w, hw, hx, he⟩ := mem_lvl.mp hqm
    unfold set1 at hw
    by_cases hi : q.1 = i
    · rw [hi, List.getElem?_set] at hw
      simp at hw
      obtain ⟨-, rfl⟩ := hw
      exact List.mem_cons.mpr (Or.inl (Prod.ext hi he))
    · rw [List.getElem?_set_ne (Ne.symm hi)] at hw
      obtain ⟨hw1, hw2⟩ := killP_at hw hx
      refine List.mem_cons.mpr (Or.inr (List.mem_filter.mpr ⟨mem_lvl.mpr ⟨w, hw1, hx, he⟩, ?_⟩))
      rw [he, cv_cat hq]
      simp only [Bool.and_eq_true, Bool.not_eq_true', beq_eq_false_iff_ne, Bool.and_eq_false_iff]
      refine ⟨hi, ?_⟩
      by_cases hj : q.1 + 1 = i
      · right
        have : ¬ cat2 w = true := fun z => hw2 ⟨hj, z⟩
        simp [this]
      · left; exact hj
  · unfold set1 at hw
    rcases List.mem_or_eq_of_mem_set hw with h4 | h4
    · exact killP_ok h3 w h4
    · rw [h4]; exact hv
theorem LV_set2 {opq : Value} {L : Nat → Nat} {dom : List Nat} {ls : Array Slot} {n i : Nat} {ab : List Value} {v : Value} (hq : opq.category = 1) (h : LV opq L dom ls n ab) (hv : okV dom v) {ls' : Array Slot}
    (hl : lv_has ls' n ((i, cv opq L v) :: (lvl opq L ab).filter (fun q => !(q.1 == i) && (!(q.1 == i + 1) && !(q.1 + 1 == i && q.2.category == 2))))) : LV opq L dom ls' n (set2 ab i v) := by
  obtain ⟨h1, h2, h3⟩ := h
  refine ⟨lv_mono hl fun q hqm => ?_, by unfold set2; rw [List.length_set, List.length_set, killP_len, h2], fun w hw => ?_⟩
  · obtain ⟨w, hw, hx, he⟩ := mem_lvl.mp hqm
    unfold set2 at hw
    by_cases hi1 : q.1 = i + 1
    · rw [hi1, List.getElem?_set] at hw
      simp at hw
      exact absurd hw.2.symm hx
    · rw [List.getElem?_set_ne (Ne.symm hi1)] at hw
      by_cases hi : q.1 = i
      · rw [hi, List.getElem?_set] at hw
        simp at hw
        obtain ⟨-, rfl⟩ := hw
        exact List.mem_cons.mpr (Or.inl (Prod.ext hi he))
      · rw [List.getElem?_set_ne (Ne.symm hi)] at hw
        obtain ⟨hw1, hw2⟩ := killP_at hw hx
        refine List.mem_cons.mpr (Or.inr (List.mem_filter.mpr ⟨mem_lvl.mpr ⟨w, hw1, hx, he⟩, ?_⟩))
        rw [he, cv_cat hq]
        simp only [Bool.and_eq_true, Bool.not_eq_true', beq_eq_false_iff_ne, Bool.and_eq_false_iff]
        refine ⟨hi, hi1, ?_⟩
        by_cases hj : q.1 + 1 = i
        · right
          have : ¬ cat2 w = true := fun z => hw2 ⟨hj, z⟩
          simp [this]
        · left; exact hj
  · unfold set2 at hw
    rcases List.mem_or_eq_of_mem_set hw with h4 | h4
    · rcases List.mem_or_eq_of_mem_set h4 with h5 | h5
      · exact killP_ok h3 w h5
      · rw [h5]; exact hv
    · rw [h4]; exact xj_ok dom
theorem cv_congr {opq : Value} {L L' : Nat → Nat} {dom : List Nat} (h : ∀ k, inL dom k → L' k = L k) {v : Value} (hv : okV dom v) : cv opq L' v = cv opq L v := by
  cases v <;> first | rfl | (rename_i k; show Value.ref (L' k) = Value.ref (L k); rw [h k (hv k rfl)])
theorem cv_map {opq : Value} {L L' : Nat → Nat} {dom : List Nat} (h : ∀ k, inL dom k → L' k = L k) {st : List Value} (hv : ∀ v ∈ st, okV dom v) : st.map (cv opq L') = st.map (cv opq L) := List.map_congr_left fun v hm => cv_congr h (hv v hm)
theorem inL_mono {dom dom' : List Nat} (h : ∀ k ∈ dom, k ∈ dom') {k : Nat} (hk : inL dom k) : inL dom' k := hk.imp (h k) id
theorem okV_mono {dom dom' : List Nat} (h : ∀ k ∈ dom, k ∈ dom') {v : Value} (hv : okV dom v) : okV dom' v := fun k hk => inL_mono h (hv k hk)
theorem LV.ext {opq : Value} {L L' : Nat → Nat} {dom dom' : List Nat} {ls : Array Slot} {n : Nat} {ab : List Value} (h : LV opq L dom ls n ab) (hd : ∀ k ∈ dom, k ∈ dom') (hL : ∀ k, inL dom k → L' k = L k) : LV opq L' dom' ls n ab := by
  obtain ⟨h1, h2, h3⟩ := h
  refine ⟨lv_mono h1 fun q hq => ?_, h2, fun v hv => okV_mono hd (h3 v hv)⟩
  obtain ⟨w, hw, hx, he⟩ := mem_lvl.mp hq
  exact mem_lvl.mpr ⟨w, hw, hx, by rw [he, cv_congr hL (h3 w (List.mem_of_getElem? hw))]⟩
