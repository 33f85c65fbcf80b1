section SOUND4
variable {y : Nat} {X : hX} {opq : Value} {adK adV : Nat → Nat} {scr : Nat} {D : va_G} {yA : Nat → ClassId} {A : Nat → Prop} {L0 : Nat → Nat} {dom0 : List Nat}
variable {p : Program} {l : Launch} {e : Env} {R : Room} {s : State} {m : MethodId} {args : Array Value} {below : List Frame} {meth : Method} {c : Code} {Q : State → Prop}
theorem after_call {L : Nat → Nat} {dom : List Nat} {M M1 : hM} {H : Heap} {locs : List Loc} {cells slots mc ms pc : Nat} {lsr : Array Slot} {ls rest : List Value} {st0 : List Value} {v1 : Option Value} {a : Array Value} (hA : ∀ q, s.heap.size ≤ q → A q) (hR : RM adK adV scr D yA A L0 dom0 s s.heap L dom M H locs) (hV : LV opq L dom lsr (mmax y) ls) (ho : ∀ v ∈ rest, okV dom v) (hn : pcA y (pc + 1) = pcA y pc + 3)
    (hr : va_Run p l e R s m args below meth c H locs cells slots mc ms (F0 m (pcA y pc) lsr st0) (rest.map (cv opq L)) (QF opq adK adV scr D yA (va_A (wsM yA L M dom) H.size) L dom M1 v1 a) (va_A (wsM yA L M dom) H.size))
    (k : PT X opq adK adV scr D yA A L0 dom0 p l e R s m args below meth c Q y (pc + 1) ls (v1.toList ++ rest) M1 (cells + mc) (slots + ms)) : W p l e R s m args below meth c H locs cells slots Q (F0 m (pcA y pc) lsr st0) := by
  have hsub := sub_A hR hA
  obtain ⟨hK, hP, hD, hS, hnd, hdm, hsz, hmem, hlab, hext⟩ := hR
  intro T hT Xs
  obtain ⟨v, st₀, t, T', L', h0, X', hL, e1, e2, ⟨⟨L1, dom1, hv, hP1, hD1, hnd1, hdm1, hsz1, hmem1, hlab1, hext1, hok1⟩, hz, hkp⟩, stp⟩ := hr T hT Xs
  cases hv
  rw [h0] at hz hkp
  have hsubd : ∀ k ∈ dom, k ∈ dom1 := fun k hk => (hext1 k hk).1
  have hLL : ∀ k, inL dom k → L1 k = L k := by
    intro k hk
    rcases hk with h | ⟨h1, h2⟩ | h
    · exact (hext1 k h).2
    · have hi : (k - 9000) / 2 < 13 := by omega
      obtain ⟨a1, a2⟩ := hlab.1 _ hi
      obtain ⟨b1, b2⟩ := hlab1.1 _ hi
      rcases Nat.mod_two_eq_zero_or_one k with h3 | h3
      · rw [show 9000 + 2 * ((k - 9000) / 2) = k by omega] at a1 b1
        rw [a1, b1]
      · rw [show 9000 + 2 * ((k - 9000) / 2) + 1 = k by omega] at a2 b2
        rw [a2, b2]
    · rw [h, hlab.2, hlab1.2]
  have hS1 : va_S A s.heap T'.heap (locs ++ L') :=
    ⟨Nat.le_trans hS.1 (by rw [e1]; exact hz), fun q h1 h2 => by rw [e1, hkp q (Nat.lt_of_lt_of_le h1 hS.1) (fun z => h2 (hsub q z))]; exact hS.2.1 q h1 h2, fun q hq => by
      rcases List.mem_append.mp hq with h | h
      · exact hS.2.2 q h
      · exact hsub _ (hL q h)⟩
  have w := k L1 dom1 T'.heap (locs ++ L') lsr ⟨hK, by rw [e1]; exact hP1, hD1.weaken (fun _ q _ h => hsub q.1 h), hS1, hnd1, hdm1, hsz1, hmem1, hlab1, fun k hk => ⟨hsubd k (hext k hk).1, ((hext1 k (hext k hk).1).2).trans (hext k hk).2⟩⟩ (hV.ext hsubd hLL) (fun v hv => by
    rcases List.mem_append.mp hv with h | h
    · exact hok1 v (by simpa using h)
    · exact okV_mono hsubd (ho v h))
  rw [hn, List.map_append, cv_map hLL ho] at w
  obtain ⟨t2, a1, b1⟩ := w T' rfl X'
  refine ⟨t2, stp t2 ?_, b1⟩
  cases v1 with
  | none => exact a1
  | some v => exact a1
theorem cpM_at {own : String} {ix y2 kd : Nat} (h : cpMh own ix y2 kd = true) : (kd = 0 → Cond.methodLink own ix (mnm y2) ∈ lw_good) ∧ (kd = 1 → ∀ s : State, hNest s → va_Nw (.methodLinkNest own ix (mnm y2) "HowHigh") s) := by
  obtain ⟨e, he, h1⟩ := List.any_eq_true.mp h
  simp only [Bool.and_eq_true, decide_eq_true_eq] at h1
  obtain ⟨⟨⟨rfl, rfl⟩, rfl⟩, rfl⟩ := h1
  have h2 := List.all_eq_true.mp cpM_ok e he
  simp only [Bool.and_eq_true, decide_eq_true_eq] at h2
  have h3 := h2.1.1.1
  refine ⟨fun hk => ?_, fun hk => ?_⟩
  · rw [hk] at h3
    exact good_mem (tbW_mem h3) rfl
  · exact fun s hs => hs e he hk
theorem mc99 : (List.range 286).all (fun y => decide (mcis.getD y 60 ≠ 99)) = true := by decide +kernel
theorem mci_ok : (List.range 286).all (fun y => decide (mcis.getD y 60 ≥ 12) || decide (cnm (mcis.getD y 60) = (mnm y).cls)) = true := by decide +kernel
theorem mci_str : (List.range 286).all (fun y => decide (mcis.getD y 60 ≠ 50) || decide ((mnm y).cls = "java/lang/String")) = true := by decide +kernel
theorem recv_ok (F : FR X opq adK adV scr y A p R s m args meth c) {L : Nat → Nat} {dom : List Nat} {M : hM} {H : Heap} {locs : List Loc} (hR : RM adK adV scr D yA A L0 dom0 s s.heap L dom M H locs) {y2 k0 : Nat} (hy : y2 < 286) (h : (isO k0 (mcis.getD y2 60) || (Nat.beq (mcis.getD y2 60) 50 && Nat.ble 9000 k0 && Nat.blt k0 9026 && Nat.beq (k0 % 2) 0)) = true) (hok : inL dom k0) :
    ∃ cellB : Cell, H[L k0]? = some cellB ∧ cellB.vm.isStatics = false ∧ s.vm.findClass (mnm y2).cls = some cellB.cls := by
  obtain ⟨⟨hx, hb, hret, hml, hown, hts, hlocks, hnm, hA⟩, ⟨hq, hvS, hvR, hZ1, hZ2, hvX, hscr, hscrA⟩, -⟩ := F
  rcases Bool.or_eq_true _ _ ▸ h with h | h
  · have hkd := isO_kd h
    have h12 : mcis.getD y2 60 < 12 := by
      rcases Nat.lt_or_ge k0 8000 with h8 | h8
      · rcases kd_lt12 hkd h8 with h9 | h9
        · exact h9
        · have h1 := List.all_eq_true.mp mc99 y2 (List.mem_range.mpr hy)
          simp only [decide_eq_true_eq] at h1
          exact absurd h9 h1
      · rw [kd_big h8] at hkd
        have h1 := List.all_eq_true.mp mc99 y2 (List.mem_range.mpr hy)
        simp only [decide_eq_true_eq] at h1
        exact absurd (Sum.inl.inj hkd).symm h1
    obtain ⟨q, -, he⟩ := ws_at (yA := yA) (L := L) (M := M) (dom_ofO hok h h12)
    unfold cellE at he
    rw [hkd] at he
    obtain ⟨cell, c1, c2, c3⟩ := va_recv hR.1 hR.2.1 (cl_at h12) he
    have h1 := List.all_eq_true.mp mci_ok y2 (List.mem_range.mpr hy)
    rcases Bool.or_eq_true _ _ ▸ h1 with h2 | h2
    · exact absurd (of_decide_eq_true h2) (by omega)
    · exact ⟨cell, c1, c2, by rw [← of_decide_eq_true h2]; exact c3⟩
  · simp only [Bool.and_eq_true, Nat.ble_eq, Nat.blt_eq] at h
    have h50 := Nat.eq_of_beq_eq_true h.1.1.1
    have hev := Nat.eq_of_beq_eq_true h.2
    obtain ⟨i, hi, rfl⟩ : ∃ i : Nat, i < 13 ∧ k0 = 9000 + 2 * i := ⟨(k0 - 9000) / 2, by omega, by omega⟩
    obtain ⟨cell, c1, c2, c3⟩ := vk_recv hvS hi hR.2.2.2.1
    have h1 := List.all_eq_true.mp mci_str y2 (List.mem_range.mpr hy)
    rcases Bool.or_eq_true _ _ ▸ h1 with h2 | h2
    · exact absurd h50 (of_decide_eq_true h2)
    · exact ⟨cell, by rw [(hR.2.2.2.2.2.2.2.2.1.1 i hi).1]; exact c1, c2, by rw [of_decide_eq_true h2]; exact c3⟩
theorem call_ok (hC : CHK) {n : Nat} (IH : EXOK X opq adK adV scr D yA l n) (F : FR X opq adK adV scr y A p R s m args meth c) {pc len : Nat} {ls : List Value} {M M1 : hM} {cells slots d k y2 : Nat} {r : Instr} (hd : decode (mbytes y) (pcA y pc) = .ok (r, len)) (hk : lnk (mnm y).cls (mpcs y) pc (pcA y pc) len r (.invokeinterface y2 k) = true)
    {st : List Value} {v1 : Option Value} (hks : k ≤ st.length) (hcs : catS (st.drop k) ≤ 8) (hia : (iniA (st.take k).reverse).length ≤ mmax y2) (hrcv : rcv y2 (st.take k).reverse = true) (hex : exec X n d (mcode y2) 0 (ini (mmax y2) (st.take k).reverse) [] M = some (v1, M1))
    (hfr : d + 1 + 1 ≤ R.frames) (hlo : 100 + 60 * (d + 1) ≤ R.locals) (hmc : cells + (nc M1.2.2.2.2 - nc M.2.2.2.2) ≤ R.cells) (hms : slots + (ns M1.2.2.2.2 - ns M.2.2.2.2) ≤ R.slots)
    (kk : PT X opq adK adV scr D yA A L0 dom0 p l e R s m args below meth c Q y (pc + 1) ls (v1.toList ++ st.drop k) M1 (cells + (nc M1.2.2.2.2 - nc M.2.2.2.2)) (slots + (ns M1.2.2.2.2 - ns M.2.2.2.2))) : PT X opq adK adV scr D yA A L0 dom0 p l e R s m args below meth c Q y pc ls st M cells slots := by
  intro L dom H locs lsr hR hV ho
  have F' := F
  obtain ⟨⟨hx, hb, hret, hml, hown, hts, hlocks, hnm, hA⟩, ⟨hq, hvS, hvR, hZ1, hZ2, hvX, hscr, hscrA⟩, hr1, hr2, hao, haoL, haoI, hnst⟩ := F'
  simp only [lnk, Bool.and_eq_true, decide_eq_true_eq] at hk
  obtain ⟨⟨⟨⟨⟨hn, hnlt⟩, hkn⟩, hy⟩, hy0⟩, hk⟩ := hk
  have hn : pcA y (pc + 1) = pcA y pc + len := hn
  obtain ⟨w1, w2, w3, w4, w5⟩ := mw_at hC hy hy0
  have hR0 := hR
  obtain ⟨hK, hP, hD, hS, hnd, hdm, hsz, hmem, hlab, hext⟩ := hR0
  have hoas : ∀ v ∈ (st.take k).reverse, okV dom v := fun v hv => ho v (List.mem_of_mem_take (List.mem_reverse.mp hv))
  have hor : ∀ v ∈ st.drop k, okV dom v := fun v hv => ho v (List.mem_of_mem_drop hv)
  have hM := met_of hC IH hq hy hy0 hex hia hoas hnd hdm hsz hmem hlab H.size
  have hG := goodY hC hy hy0
  have hCT : ∀ U : State, U.heap = H → s.WarmedH U.vm → CTX X opq adK adV scr D yA L M dom H.size U := fun U h1 h2 => CTX_of F hR h1 h2
  have hlen : (st.take k).reverse.length = k := by rw [List.length_reverse, List.length_take]; omega
  have hstk : st.map (cv opq L) = ((st.take k).reverse.map (cv opq L)).reverse ++ (st.drop k).map (cv opq L) := by
    rw [List.map_reverse, List.reverse_reverse, ← List.map_append, List.take_append_drop]
  have hcat := catS_map (L := L) hq (st.drop k)
  have hW : 2 * (F0 m (pcA y pc) lsr (st.map (cv opq L))).monitorRoom + (((st.drop k).map (cv opq L)).map fun v => v.category).sum ≤ 8 := lv_room (m := m) (pc := pcA y pc) (ls := lsr) (rest := st.map (cv opq L)) (st := (st.drop k).map (cv opq L)) (by rw [hcat]; exact hcs)
  have hRR : (rmD d (nc M1.2.2.2.2 - nc M.2.2.2.2) (ns M1.2.2.2.2 - ns M.2.2.2.2)).frames + 1 ≤ R.frames ∧ 8 + (mmax y2 + 11) + (rmD d (nc M1.2.2.2.2 - nc M.2.2.2.2) (ns M1.2.2.2.2 - ns M.2.2.2.2)).locals ≤ R.locals := ⟨hfr, by show 8 + (mmax y2 + 11) + (100 + 60 * d) ≤ R.locals; omega⟩
  have hmw := (hC.2.2 y2 hy hy0).1
  simp only [mwok, Bool.and_eq_true] at hmw
  have hmw := hmw.2
  generalize has : (st.take k).reverse = as at hM hlen hstk hrcv hoas
  split at hk <;> first | (cases hk; done) | skip
  · -- virtual
    simp only [Bool.and_eq_true, decide_eq_true_eq] at hk
    obtain ⟨⟨rfl, hkind⟩, hcp⟩ := hk
    rw [hkind] at hmw
    simp only [Bool.and_eq_true, decide_eq_true_eq] at hmw
    obtain ⟨⟨m1, m2⟩, m3⟩ := hmw
    unfold rcv at hrcv
    rw [hkind] at hrcv
    split at hrcv <;> first | (cases hrcv; done) | skip
    all_goals first | (rename_i hz _; cases hz; done) | (rename_i hz; cases hz; done) | skip
    rename_i k0 as' hz
    rw [List.map_cons, List.reverse_cons, List.append_assoc] at hstk
    have hna : as'.length + 1 = k := hlen
    have hok0 := hoas (.ref k0) List.mem_cons_self k0 rfl
    obtain ⟨d0, hd0, hd1⟩ := Option.map_eq_some_iff.mp m3
    have hn1 : (parseMethodDescriptor (mnm y2).desc).map (fun d => d.parameters.length) = some as'.length := by rw [hd0]; simp only [Option.map_some]; congr 1; omega
    rw [hstk] at hW ⊢
    refine after_call (a := (Value.ref (L k0) :: as'.map (cv opq L)).toArray) hA hR hV hor hn ?_ kk
    exact va_runV (As := as'.map (cv opq L)) ⟨hx, hb, hml, hown, hts⟩ hM ⟨callB_of as'.length hts hG rfl rfl rfl (hts _ w2) (hts _ ((cpM_at hcp).1 rfl)) ⟨w4.1, w4.2, hn1⟩ hRR, hts _ (good_mem (tbW_mem m1) rfl), hts _ (good_mem (tbW_mem m2) rfl)⟩ ⟨CTX_blind, recv_ok F hR hy hrcv hok0, fun U h1 h2 => ⟨rfl, hCT U h1 h2⟩⟩ rfl (by rw [List.length_map]) hV.1.1 rfl hW hd ⟨hmc, hms⟩
  · -- static
    simp only [Bool.and_eq_true, decide_eq_true_eq] at hk
    obtain ⟨⟨rfl, hkind⟩, hcp⟩ := hk
    rw [hkind] at hmw
    simp only [Bool.and_eq_true, decide_eq_true_eq] at hmw
    obtain ⟨m1, m3⟩ := hmw
    have hn1 : (parseMethodDescriptor (mnm y2).desc).map (fun d => d.parameters.length) = some as.length := by rw [m3, ← hkn, hlen]
    rw [hstk] at hW ⊢
    refine after_call (a := (as.map (cv opq L)).toArray) hA hR hV hor hn ?_ kk
    exact va_runS (As := as.map (cv opq L)) ⟨hx, hb, hml, hown, hts⟩ hM ⟨callB_of as.length hts hG rfl rfl rfl (hts _ w2) (hts _ ((cpM_at hcp).1 rfl)) ⟨w4.1, w4.2, hn1⟩ hRR, hts _ (good_mem (tbW_mem m1) rfl)⟩ ⟨CTX_blind, fun U h1 h2 => ⟨rfl, hCT U h1 h2⟩⟩ rfl (by rw [List.length_map]) hV.1.1 rfl hW hd ⟨hmc, hms⟩
  · -- constructors
    simp only [Bool.and_eq_true, decide_eq_true_eq] at hk
    obtain ⟨⟨rfl, hkind⟩, hcp⟩ := hk
    rw [hkind] at hmw
    simp only [Bool.and_eq_true, decide_eq_true_eq] at hmw
    obtain ⟨⟨⟨m1, mi⟩, mr⟩, m3⟩ := hmw
    unfold rcv at hrcv
    rw [hkind] at hrcv
    split at hrcv <;> first | (cases hrcv; done) | skip
    all_goals first | (rename_i hz _; cases hz; done) | (rename_i hz; cases hz; done) | skip
    rename_i k0 as' hz
    rw [List.map_cons, List.reverse_cons, List.append_assoc] at hstk
    have hna : as'.length + 1 = k := hlen
    obtain ⟨d0, hd0, hd1⟩ := Option.map_eq_some_iff.mp m3
    have hn1 : (parseMethodDescriptor (mnm y2).desc).map (fun d => d.parameters.length) = some as'.length := by rw [hd0]; simp only [Option.map_some]; congr 1; omega
    rw [hstk] at hW ⊢
    refine after_call (a := (Value.ref (L k0) :: as'.map (cv opq L)).toArray) hA hR hV hor hn ?_ kk
    have hw0 : wsY y2 = Cond.code (mnm y2) (mbytes y2) (mmax y2) none :: lw_good := by unfold wsY; rw [mr]
    rcases Bool.or_eq_true _ _ ▸ hcp with hcp | hcp
    · exact va_runI (As := as'.map (cv opq L)) ⟨hx, hb, hml, hown, hts⟩ hM ⟨callB_of as'.length hts hG hw0 rfl rfl (hts _ w2) (hts _ ((cpM_at hcp).1 rfl)) ⟨w4.1, w4.2, hn1⟩ hRR, mi, hts _ (good_mem (tbW_mem m1) rfl)⟩ ⟨CTX_blind, fun U h1 h2 => ⟨rfl, hCT U h1 h2⟩⟩ rfl (by rw [List.length_map]) hV.1.1 rfl hW hd ⟨hmc, hms⟩
    · exact va_runIN (As := as'.map (cv opq L)) ⟨hx, hb, hml, hown, hts⟩ hM ⟨va_cnB as'.length hts hG hw0 rfl rfl ((cpM_at hcp).2 rfl s hnst) (hts _ w2) ⟨w4.1, w4.2, hn1⟩ hRR, mi, hts _ (good_mem (tbW_mem m1) rfl)⟩ ⟨CTX_blind, fun U h1 h2 => ⟨rfl, hCT U h1 h2⟩⟩ rfl (by rw [List.length_map]) hV.1.1 rfl hW hd ⟨hmc, hms⟩
theorem PT_eq {y pc : Nat} {ls st : List Value} {M : hM} {cells slots c2 s2 : Nat} (h1 : cells = c2) (h2 : slots = s2) (k : PT X opq adK adV scr D yA A L0 dom0 p l e R s m args below meth c Q y pc ls st M cells slots) : PT X opq adK adV scr D yA A L0 dom0 p l e R s m args below meth c Q y pc ls st M c2 s2 := h1 ▸ h2 ▸ k
/-- THE MACHINE DOES WHAT THE ABSTRACT ONE DOES -/
theorem exec_ok (hC : CHK) (hmna : MNA) : ∀ n, EXOK X opq adK adV scr D yA l n
  | 0 => fun d y pc ls st M v M' hy hex => by cases hex
  | n + 1 => by
    intro d y pc ls st M v M' hy hex A L0 dom0 p e R s m args below meth c cells slots mc ms F hfr hlo hmc hms hRc hRs
    have IH := exec_ok hC hmna n
    -- the real instruction
    obtain ⟨hlen, -⟩ := hC.2.1 y hy
    unfold exec at hex
    by_cases hpc : pc < (mpcs y).length
    · have hck := hC.1 y hy pc hpc
      unfold chkI at hck
      split at hck <;> first | (cases hck; done) | skip
      rename_i r len hd
      rw [Bool.and_eq_true, Bool.and_eq_true] at hck
      obtain ⟨⟨hk, hro⟩, hfo⟩ := hck
      generalize hir : (mcode y).getD pc .nop = ir at hk hro hfo hex
      split at hex
      · split at hex
        · cases hex
        · obtain ⟨hcd, hex⟩ := bif_some hex
          rw [Bool.and_eq_true, Bool.and_eq_true, Bool.and_eq_true, Nat.ble_eq, Nat.ble_eq, Nat.ble_eq] at hcd
          obtain ⟨⟨⟨h1, h2⟩, h3⟩, h4⟩ := hcd
          split at hex
          · rename_i v1 M1 hex1
            have m1 := exec_mono _ _ _ _ _ _ _ _ _ hex1
            have m2 := exec_mono _ _ _ _ _ _ _ _ _ hex
            refine call_ok hC IH F hd hk h1 h2 h3 h4 hex1 hfr hlo (by omega) (by omega) ?_
            exact IH _ y (pc + 1) ls _ M1 v M' hy hex A L0 dom0 p e R s m args below meth c _ _ mc ms F hfr hlo (by omega) (by omega) hRc hRs
          · cases hex
      · split at hex
        · rename_i v0 hrv
          cases hex
          have hm1 : cells = mc := by omega
          have hm2 : slots = ms := by omega
          subst hm1
          subst hm2
          exact ret_ok F hd hk hro hrv
        · split at hex
          · rename_i pc' ls' st' M1 hst
            have m1 := sstep_mono hst
            have m2 := exec_mono _ _ _ _ _ _ _ _ _ hex
            dsimp only at m1
            refine so_all hmna F hd hk hfo hst (by omega) (by omega) ?_
            exact IH _ y pc' ls' st' M1 v M' hy hex A L0 dom0 p e R s m args below meth c _ _ mc ms F hfr hlo (by omega) (by omega) hRc hRs
          · cases hex
    · have : (mcode y).getD pc .nop = .nop := by
        rw [List.getD, List.getElem?_eq_none (by omega)]
        rfl
      rw [this] at hex
      have e1 : retV .nop st = none := by
        rcases st with _ | ⟨a, _ | ⟨b, t⟩⟩ <;> first | rfl | (cases a <;> rfl)
      have e2 : sstep X .nop pc ls st M = none := by
        simp only [sstep]
        split <;> simp [iop, iop1, lop, pushO]
      simp only [e1, e2] at hex
      cases hex
end SOUND4
