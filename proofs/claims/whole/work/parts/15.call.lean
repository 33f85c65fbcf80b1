section SOUND3
theorem hAOA_moved {ty : FieldType} {u U : State} (hvm : u.vm.Alike U.vm) (h : hAOA ty u) : hAOA ty U := by
  unfold hAOA Cond.before Cond.holds at h ⊢
  simp only [Cond.value, beq_iff_eq] at h ⊢
  cases hc : u.vm.findClass (FieldType.array ty).toString with
  | none => rw [hc] at h; cases h
  | some comp =>
    rw [hc, Option.bind_some] at h
    rw [hvm.findClass, hc, Option.bind_some]
    obtain ⟨c, hi, h2⟩ := Option.bind_eq_some_iff.mp h
    obtain ⟨k, hk, hb⟩ := Option.map_eq_some_iff.mp h2
    obtain ⟨k', hk', he⟩ := hvm.2.2 _ _ hk
    have hi2 : (U.vm.classes.findIdx? fun (x : Class) => match x.kind with | .array component _ => component == comp | _ => false) = some c := by
      have e1 := va_idx_bare U.vm comp
      have e2 := va_idx_bare u.vm comp
      first | rw [hvm.bare_eq] at e2 | rw [← hvm.bare_eq] at e2
      exact e1.symm.trans (e2.trans hi)
    refine Option.bind_eq_some_iff.mpr ⟨c, hi2, Option.map_eq_some_iff.mpr ⟨k', hk', ?_⟩⟩
    rw [he]
    have e : ({ k with resolved := k'.resolved, nestHost := k'.nestHost } : Class).kind = k.kind := rfl
    first
      | (simp only [hvm.findClass]; exact hb)
      | (rw [← hb]; simp [hvm.findClass])
/-- what a callee is given -/
def CTX (X : hX) (opq : Value) (adK adV : Nat → Nat) (scr : Nat) (D : va_G) (yA : Nat → ClassId) (L : Nat → Nat) (M : hM) (dom : List Nat) (sz : Nat) (U : State) : Prop :=
  U.heap.size = sz ∧ va_P D vwCl (wsM yA L M dom) U.heap ∧ va_K D vwCl (tysL yA) U ∧ va_D (fun _ => True) (wsM yA L M dom) ∧
  (vk_S 13 (stL.map List.length) stL adK adV (va_A (wsM yA L M dom) sz) U U.heap ∧ (∀ i, i < 13 → vk_R (stO.getD i ("", 0, "")).1 (stO.getD i ("", 0, "")).2.1 (stO.getD i ("", 0, "")).2.2 (adK i) U) ∧ va_Z "java/lang/String" "COMPACT_STRINGS" "Z" (.int 1) (va_A (wsM yA L M dom) sz) U U.heap ∧ va_Z "jdk/internal/util/Preconditions" "SIOOBE_FORMATTER" "Ljava/util/function/BiFunction;" opq (va_A (wsM yA L M dom) sz) U U.heap ∧ va_X scr X.1 X.2 U U.heap ∧ scr < U.heap.size ∧ ¬ va_A (wsM yA L M dom) sz scr) ∧
  ((∀ C ∈ ["HowHigh$Text", "HowHigh$Rule", "HowHigh$Sheet", "HowHigh$Plan"], va_AO C U) ∧ hAOA .long U ∧ hAOA .int U ∧ hNest U)
theorem CTX_blind {X : hX} {opq : Value} {adK adV : Nat → Nat} {scr : Nat} {D : va_G} {yA : Nat → ClassId} {L : Nat → Nat} {M : hM} {dom : List Nat} {sz : Nat} {av : List Value} : FrameBlind (va_Pc av (CTX X opq adK adV scr D yA L M dom sz)) := by
  intro a U g mk h
  obtain ⟨h0, h1, h2, h3, h4, ⟨k1, k2, k3, k4, k5, k6, k7⟩, l1, l2, l3, l4⟩ := h
  have hal : U.vm.Alike (U.calling g mk a).vm := Vm.Alike.refl U.vm
  exact ⟨h0, h1, h2, va_K.moved (u := U) (U := U.calling g mk a) hal h3, h4, ⟨vk_S.moved (u := U) (U := U.calling g mk a) hal k1, fun i hi => vk_R.same (u := U) (U := U.calling g mk a) rfl (k2 i hi), va_Z.moved (u := U) (U := U.calling g mk a) hal k3, va_Z.moved (u := U) (U := U.calling g mk a) hal k4, va_X.moved (u := U) (U := U.calling g mk a) hal k5, k6, k7⟩, fun C hC => va_AO.moved (u := U) (U := U.calling g mk a) hal (l1 C hC), hAOA_moved (u := U) (U := U.calling g mk a) hal l2, hAOA_moved (u := U) (U := U.calling g mk a) hal l3, fun q hq h1 => va_Nw.same (u := U) (U := U.calling g mk a) rfl rfl (l4 q hq h1)⟩
variable {y : Nat} {X : hX} {opq : Value} {adK adV : Nat → Nat} {scr : Nat} {D : va_G} {yA : Nat → ClassId} {A : Nat → Prop} {L0 : Nat → Nat} {dom0 : List Nat}
variable {p : Program} {l : Launch} {e : Env} {R : Room} {s : State} {m : MethodId} {args : Array Value} {below : List Frame} {meth : Method} {c : Code} {Q : State → Prop}
theorem sub_A {L : Nat → Nat} {dom : List Nat} {M : hM} {H : Heap} {locs : List Loc} (hR : RM adK adV scr D yA A L0 dom0 s s.heap L dom M H locs) (hA : ∀ q, s.heap.size ≤ q → A q) : ∀ q, va_A (wsM yA L M dom) H.size q → A q := by
  rintro q (⟨k, e, h⟩ | h)
  · exact hR.2.2.1.2 k (q, e) h
  · exact hA q (Nat.le_trans hR.2.2.2.1.1 h)
theorem CTX_of (F : FR X opq adK adV scr y A p R s m args meth c) {L : Nat → Nat} {dom : List Nat} {M : hM} {H : Heap} {locs : List Loc} (hR : RM adK adV scr D yA A L0 dom0 s s.heap L dom M H locs) {U : State} (hU : U.heap = H) (hW : s.WarmedH U.vm) : CTX X opq adK adV scr D yA L M dom H.size U := by
  obtain ⟨⟨hx, hb, hret, hml, hown, hts, hlocks, hnm, hA⟩, ⟨hq, hvS, hvR, hZ1, hZ2, hvX, hscr, hscrA⟩, hr1, hr2, hao, haoL, haoI, hnst⟩ := F
  have hsub := sub_A hR hA
  obtain ⟨hK, hP, hD, hS, hnd, hdm, hsz, hmem, hlab, hext⟩ := hR
  have hal := hW.alike
  subst hU
  exact ⟨rfl, hP, va_K.moved hal hK, hD.weaken (fun _ _ _ _ => trivial), ⟨((hvS.kept hS.2.1).moved hal).narrow hsub, fun i hi => (hvR i hi).warm hW, ((hZ1.kept hS.2.1).moved hal).narrow hsub, ((hZ2.kept hS.2.1).moved hal).narrow hsub, (hvX.kept (hS.2.1 scr hscr hscrA)).moved hal, Nat.lt_of_lt_of_le hscr hS.1, fun h => hscrA (hsub _ h)⟩, fun C hC => va_AO.moved hal (hao C hC), hAOA_moved hal haoL, hAOA_moved hal haoI, fun q hq h1 => va_Nw.warmM hW (hnst q hq h1)⟩
def wsY (y : Nat) : List Cond := Cond.code (mnm y) (mbytes y) (mmax y) (mret y) :: lw_good
def rmD (d mc ms : Nat) : Room := { frames := d + 1, cells := mc, slots := ms, locals := 100 + 60 * d }
/-- the checks over all methods, proved elsewhere -/
def CHK : Prop := (∀ y, y < 286 → ∀ i, i < (mpcs y).length → chkI y i = true) ∧ (∀ y, y < 286 → (mpcs y).length = (mcode y).length ∧ pcA y 0 = 0) ∧ (∀ y, y < 286 → 0 < y → mwok y = true ∧ mwC y)
/-- runs of at most n instructions are sound -/
def EXOK (X : hX) (opq : Value) (adK adV : Nat → Nat) (scr : Nat) (D : va_G) (yA : Nat → ClassId) (l : Launch) (n : Nat) : Prop := ∀ (d y pc : Nat) (ls st : List Value) (M : hM) (v : Option Value) (M' : hM), y < 286 → exec X n d (mcode y) pc ls st M = some (v, M') →
  ∀ (A : Nat → Prop) (L0 : Nat → Nat) (dom0 : List Nat) (p : Program) (e : Env) (R : Room) (s : State) (m : MethodId) (args : Array Value) (below : List Frame) (meth : Method) (c : Code) (cells slots mc ms : Nat),
    FR X opq adK adV scr y A p R s m args meth c → d + 1 ≤ R.frames → 100 + 60 * d ≤ R.locals → cells + (nc M'.2.2.2.2 - nc M.2.2.2.2) = mc → slots + (ns M'.2.2.2.2 - ns M.2.2.2.2) = ms → mc ≤ R.cells → ms ≤ R.slots →
    PT X opq adK adV scr D yA A L0 dom0 p l e R s m args below meth c (MQ below (QF opq adK adV scr D yA A L0 dom0 M' v) args s mc ms A) y pc ls st M cells slots
theorem mw_at (hC : CHK) {y : Nat} (h : y < 286) (h0 : 0 < y) : Cond.code (mnm y) (mbytes y) (mmax y) (mret y) ∈ lw_good ∧ Cond.initialized (mnm y).cls ∈ lw_good ∧ plainName (mnm y).cls = true ∧ ((mnm y).cls ≠ "java/lang/invoke/MethodHandle" ∧ (mnm y).cls ≠ "java/lang/invoke/VarHandle") ∧ mmax y ≤ 41 := by
  obtain ⟨h1, h2⟩ := hC.2.2 y h h0
  simp only [mwok, Bool.and_eq_true, decide_eq_true_eq] at h1
  exact ⟨good_mem (tbW_mem h2) rfl, good_mem (tbW_mem h1.1.1.1.1) rfl, h1.1.1.1.2, h1.1.1.2, h1.1.2⟩
theorem goodY (hC : CHK) {y : Nat} (h : y < 286) (h0 : 0 < y) : GoodIn lw_good (wsY y) := by
  intro w hw
  rcases List.mem_cons.mp hw with rfl | hw
  · exact ⟨(mw_at hC h h0).1, good_of_word rfl⟩
  · exact ⟨hw, good_of_word (List.mem_filter.mp hw).2⟩
/-- a method's contract out of its run -/
theorem met_of (hC : CHK) {n : Nat} (IH : EXOK X opq adK adV scr D yA l n) (hq : opq.category = 1) {d y2 : Nat} {as : List Value} {M M1 : hM} {v1 : Option Value} (hy : y2 < 286) (hy0 : 0 < y2) (hex : exec X n d (mcode y2) 0 (ini (mmax y2) as) [] M = some (v1, M1)) (hlen : (iniA as).length ≤ mmax y2)
    {L : Nat → Nat} {dom : List Nat} (ho : ∀ v ∈ as, okV dom v) (hnd : dom.Nodup) (hdm : ∀ k, k ∈ dom ↔ inD M.2.2.2.2 k) (hsz : szG M.2.2.2.2) (hmem : ∀ k ∈ dom, ∀ j a, M.2.2.1 k j = some a → a ∈ dom) (hlab : labL adK adV scr L) (sz : Nat) :
    Met l (mnm y2) (wsY y2) (rmD d (nc M1.2.2.2.2 - nc M.2.2.2.2) (ns M1.2.2.2.2 - ns M.2.2.2.2)) (va_Pc (as.map (cv opq L)) (CTX X opq adK adV scr D yA L M dom sz)) (QF opq adK adV scr D yA (va_A (wsM yA L M dom) sz) L dom M1 v1) (nc M1.2.2.2.2 - nc M.2.2.2.2) (ns M1.2.2.2.2 - ns M.2.2.2.2) (va_A (wsM yA L M dom) sz) := by
  obtain ⟨w1, w2, w3, w4, w5⟩ := mw_at hC hy hy0
  refine Met.ofW (cc := mbytes y2) (maxL := mmax y2) (ret := mret y2) w3 rfl ?_
  intro p e s m args below meth c s₁ B hml hv
  obtain ⟨rfl, h0, h1, h2, h3, ⟨k1, k2, k3, k4, k5, k6, k7⟩, l1, l2, l3, l4⟩ := hv
  have hts := atoms_spec (ws := wsY y2) B.pre
  have hF : FR X opq adK adV scr y2 (va_A (wsM yA L M dom) sz) p (rmD d (nc M1.2.2.2.2 - nc M.2.2.2.2) (ns M1.2.2.2.2 - ns M.2.2.2.2)) s m (as.map (cv opq L)).toArray meth c :=
    ⟨⟨B.exec, B.bytes, B.returns, hml, findClass_of_methodNamed B.named, fun w hw => hts w (List.mem_cons_of_mem _ hw), B.notSynchronized, fun hn => (name_of_methodNamed B.named B.method).1.trans hn, fun q hq => Or.inr (by rw [← h0]; exact hq)⟩, ⟨hq, k1, k2, k3, k4, k5, k6, k7⟩, Nat.le_add_left _ _, Nat.le_add_right _ _, l1, l2, l3, l4⟩
  have hP := IH d y2 0 (ini (mmax y2) as) [] M v1 M1 hy hex (va_A (wsM yA L M dom) sz) L dom p e (rmD d (nc M1.2.2.2.2 - nc M.2.2.2.2) (ns M1.2.2.2.2 - ns M.2.2.2.2)) s m (as.map (cv opq L)).toArray below meth c 0 0 _ _ hF (Nat.le_refl _) (Nat.le_refl _) (Nat.zero_add _) (Nat.zero_add _) (Nat.le_refl _) (Nat.le_refl _)
  have hlv := lv_entry (as.map (cv opq L)) (n := mmax y2) (by rw [iniA_len hq]; exact hlen)
  rw [lg_entry_eq]
  have hp0 := (hC.2.1 y2 hy).2
  have h4 := h3.self (sz := sz)
  have := hP L dom s.heap [] _ ⟨h2, h1, h4, va_S.rf, hnd, hdm, hsz, hmem, hlab, fun k hk => ⟨hk, rfl⟩⟩ (LV_ini hq hlen ho hlv) (fun v hv => by cases hv)
  rw [hp0] at this
  exact this
end SOUND3
