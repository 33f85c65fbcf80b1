section SOUND
variable {y : Nat} {X : hX} {opq : Value} {adK adV : Nat → Nat} {scr : Nat} {D : va_G} {yA : Nat → ClassId} {A : Nat → Prop} {L0 : Nat → Nat} {dom0 : List Nat}
variable {p : Program} {l : Launch} {e : Env} {R : Room} {s : State} {m : MethodId} {args : Array Value} {below : List Frame} {meth : Method} {c : Code} {Q : State → Prop}
def ns (G : hG) : Nat := G.2.2.2.2
theorem nc_bmp (G : hG) (n s : Nat) : nc (bmp G n s) = nc G + n ∧ ns (bmp G n s) = ns G + s := by
  obtain ⟨z, c0, c1, c2, q⟩ := G
  match z with
  | 0 => refine ⟨?_, ?_⟩ <;> simp only [nc, ns, bmp] <;> omega
  | 1 => refine ⟨?_, ?_⟩ <;> simp only [nc, ns, bmp] <;> omega
  | z + 2 => refine ⟨?_, ?_⟩ <;> simp only [nc, ns, bmp] <;> omega
/-- new T[n][m]: the law of the machine is given at the end -/
def MNA : Prop := ∀ (y : Nat) (X : hX) (opq : Value) (adK adV : Nat → Nat) (scr : Nat) (D : va_G) (yA : Nat → ClassId) (A : Nat → Prop) (L0 : Nat → Nat) (dom0 : List Nat) (p : Program) (l : Launch) (e : Env) (R : Room) (s : State) (m : MethodId) (args : Array Value) (below : List Frame) (meth : Method) (c : Code) (Q : State → Prop)
  (_ : FR X opq adK adV scr y A p R s m args meth c) (pc len : Nat) (ls : List Value) (M : hM) (cells slots : Nat) (r : Instr) (_ : decode (mbytes y) (pcA y pc) = .ok (r, len)) (t d : Nat) (_ : lnk (mnm y).cls (mpcs y) pc (pcA y pc) len r (.multianewarray t d) = true) (st : List Value) (pc' : Nat) (ls' st' : List Value) (M' : hM)
  (_ : sstep X (.multianewarray t d) pc ls st M = some (pc', ls', st', M')) (_ : cells + (nc M'.2.2.2.2 - nc M.2.2.2.2) ≤ R.cells) (_ : slots + (ns M'.2.2.2.2 - ns M.2.2.2.2) ≤ R.slots) (_ : PT X opq adK adV scr D yA A L0 dom0 p l e R s m args below meth c Q y pc' ls' st' M' (cells + (nc M'.2.2.2.2 - nc M.2.2.2.2)) (slots + (ns M'.2.2.2.2 - ns M.2.2.2.2))),
  PT X opq adK adV scr D yA A L0 dom0 p l e R s m args below meth c Q y pc ls st M cells slots
theorem ldV_ok {ls : List Value} {n t : Nat} {v : Value} (h : ldV ls n t = some v) : ls.getD n xj = v ∧ ((t = 0 ∧ ∃ x, v = .int x) ∨ (t = 1 ∧ ∃ x, v = .long x) ∨ (t = 2 ∧ (v = .null ∨ ∃ x, v = .ref x))) := by
  unfold ldV at h
  split at h
  · cases hb : Nat.beq t 0 <;> rw [hb] at h <;> cases h
    rename_i x hx
    exact ⟨hx, Or.inl ⟨Nat.eq_of_beq_eq_true hb, _, rfl⟩⟩
  · cases hb : Nat.beq t 1 <;> rw [hb] at h <;> cases h
    rename_i x hx
    exact ⟨hx, Or.inr (Or.inl ⟨Nat.eq_of_beq_eq_true hb, _, rfl⟩)⟩
  · cases hb : Nat.beq t 2 <;> rw [hb] at h <;> cases h
    rename_i x hx
    exact ⟨hx, Or.inr (Or.inr ⟨Nat.eq_of_beq_eq_true hb, Or.inr ⟨_, rfl⟩⟩)⟩
  · cases hb : Nat.beq t 2 <;> rw [hb] at h <;> cases h
    rename_i hx
    exact ⟨hx, Or.inr (Or.inr ⟨Nat.eq_of_beq_eq_true hb, Or.inl rfl⟩)⟩
  · cases h
theorem pushO_ok {pc : Nat} {ls r : List Value} {M : hM} {v : Option Value} {q : hC} (h : pushO pc ls r M v = some q) : ∃ w, v = some w ∧ q = (pc + 1, ls, w :: r, M) := by
  unfold pushO at h
  split at h
  · exact ⟨_, rfl, (Option.some.inj h).symm⟩
  · cases h
theorem cond_some {α : Type} {b : Bool} {x y : α} (h : (bif b then some x else none) = some y) : b = true ∧ x = y := by
  cases b
  · cases h
  · exact ⟨rfl, Option.some.inj h⟩
theorem or01 {x : Int32} (h : (decide (x = 0) || decide (x = 1)) = true) : x = 0 ∨ x = 1 := by simpa using h
theorem ev_lab {k : Nat} {P : Prop} (h : (9000 ≤ k ∧ k < 9026) ∧ P) (h3 : k % 2 = 0) : ∃ i, i < 13 ∧ k = 9000 + 2 * i := ⟨(k - 9000) / 2, by omega, by omega⟩
theorem od_lab {k : Nat} {P : Prop} (h : (9000 ≤ k ∧ k < 9026) ∧ P) (h3 : k % 2 = 1) : ∃ i, i < 13 ∧ k = 9000 + 2 * i + 1 := ⟨(k - 9000) / 2, by omega, by omega⟩
theorem cmp_eq {q1 q2 : hC} (h : q1 = q2) : q1.1 = q2.1 ∧ q1.2.1 = q2.2.1 ∧ q1.2.2.1 = q2.2.2.1 ∧ q1.2.2.2 = q2.2.2.2 := by subst h; exact ⟨rfl, rfl, rfl, rfl⟩
theorem so_iconst (F : FR X opq adK adV scr y A p R s m args meth c) {pc len : Nat} {ls : List Value} {M : hM} {cells slots : Nat} {r : Instr} (hd : decode (mbytes y) (pcA y pc) = .ok (r, len)) {v : Int} (hk : lnk (mnm y).cls (mpcs y) pc (pcA y pc) len r (.iconst v) = true) {st : List Value} {pc' : Nat} {ls' st' : List Value} {M' : hM} (h : sstep X (.iconst v) pc ls st M = some (pc', ls', st', M')) (hcc : cells + (nc M'.2.2.2.2 - nc M.2.2.2.2) ≤ R.cells) (hss : slots + (ns M'.2.2.2.2 - ns M.2.2.2.2) ≤ R.slots) (k : PT X opq adK adV scr D yA A L0 dom0 p l e R s m args below meth c Q y pc' ls' st' M' (cells + (nc M'.2.2.2.2 - nc M.2.2.2.2)) (slots + (ns M'.2.2.2.2 - ns M.2.2.2.2))) : PT X opq adK adV scr D yA A L0 dom0 p l e R s m args below meth c Q y pc ls st M cells slots := by
  simp only [sstep] at h
  cases h
  simp only [Nat.sub_self, Nat.add_zero] at k hcc hss
  exact st_iconst F hd hk k
theorem so_jsr (F : FR X opq adK adV scr y A p R s m args meth c) {pc len : Nat} {ls : List Value} {M : hM} {cells slots : Nat} {r : Instr} (hd : decode (mbytes y) (pcA y pc) = .ok (r, len)) {v : Int} (hk : lnk (mnm y).cls (mpcs y) pc (pcA y pc) len r (.jsr v) = true) {st : List Value} {pc' : Nat} {ls' st' : List Value} {M' : hM} (h : sstep X (.jsr v) pc ls st M = some (pc', ls', st', M')) (hcc : cells + (nc M'.2.2.2.2 - nc M.2.2.2.2) ≤ R.cells) (hss : slots + (ns M'.2.2.2.2 - ns M.2.2.2.2) ≤ R.slots) (k : PT X opq adK adV scr D yA A L0 dom0 p l e R s m args below meth c Q y pc' ls' st' M' (cells + (nc M'.2.2.2.2 - nc M.2.2.2.2)) (slots + (ns M'.2.2.2.2 - ns M.2.2.2.2))) : PT X opq adK adV scr D yA A L0 dom0 p l e R s m args below meth c Q y pc ls st M cells slots := by
  simp only [sstep] at h
  cases h
  simp only [Nat.sub_self, Nat.add_zero] at k hcc hss
  exact st_jsr F hd hk k
theorem so_null (F : FR X opq adK adV scr y A p R s m args meth c) {pc len : Nat} {ls : List Value} {M : hM} {cells slots : Nat} {r : Instr} (hd : decode (mbytes y) (pcA y pc) = .ok (r, len))  (hk : lnk (mnm y).cls (mpcs y) pc (pcA y pc) len r (.aconst_null) = true) {st : List Value} {pc' : Nat} {ls' st' : List Value} {M' : hM} (h : sstep X (.aconst_null) pc ls st M = some (pc', ls', st', M')) (hcc : cells + (nc M'.2.2.2.2 - nc M.2.2.2.2) ≤ R.cells) (hss : slots + (ns M'.2.2.2.2 - ns M.2.2.2.2) ≤ R.slots) (k : PT X opq adK adV scr D yA A L0 dom0 p l e R s m args below meth c Q y pc' ls' st' M' (cells + (nc M'.2.2.2.2 - nc M.2.2.2.2)) (slots + (ns M'.2.2.2.2 - ns M.2.2.2.2))) : PT X opq adK adV scr D yA A L0 dom0 p l e R s m args below meth c Q y pc ls st M cells slots := by
  simp only [sstep] at h
  cases h
  simp only [Nat.sub_self, Nat.add_zero] at k hcc hss
  exact st_null F hd hk k
theorem so_ldc (F : FR X opq adK adV scr y A p R s m args meth c) {pc len : Nat} {ls : List Value} {M : hM} {cells slots : Nat} {r : Instr} (hd : decode (mbytes y) (pcA y pc) = .ok (r, len)) {n : Nat} (hk : lnk (mnm y).cls (mpcs y) pc (pcA y pc) len r (.ldc n) = true) {st : List Value} {pc' : Nat} {ls' st' : List Value} {M' : hM} (h : sstep X (.ldc n) pc ls st M = some (pc', ls', st', M')) (hcc : cells + (nc M'.2.2.2.2 - nc M.2.2.2.2) ≤ R.cells) (hss : slots + (ns M'.2.2.2.2 - ns M.2.2.2.2) ≤ R.slots) (k : PT X opq adK adV scr D yA A L0 dom0 p l e R s m args below meth c Q y pc' ls' st' M' (cells + (nc M'.2.2.2.2 - nc M.2.2.2.2)) (slots + (ns M'.2.2.2.2 - ns M.2.2.2.2))) : PT X opq adK adV scr D yA A L0 dom0 p l e R s m args below meth c Q y pc ls st M cells slots := by
  simp only [sstep] at h
  obtain ⟨h1, h2⟩ := cond_some h
  cases h2
  simp only [Nat.sub_self, Nat.add_zero] at k hcc hss
  exact st_ldc F hd (Nat.blt_eq.mp h1) hk k
theorem so_iload (F : FR X opq adK adV scr y A p R s m args meth c) {pc len : Nat} {ls : List Value} {M : hM} {cells slots : Nat} {r : Instr} (hd : decode (mbytes y) (pcA y pc) = .ok (r, len)) {n : Nat} (hk : lnk (mnm y).cls (mpcs y) pc (pcA y pc) len r (.iload n) = true) {st : List Value} {pc' : Nat} {ls' st' : List Value} {M' : hM} (h : sstep X (.iload n) pc ls st M = some (pc', ls', st', M')) (hcc : cells + (nc M'.2.2.2.2 - nc M.2.2.2.2) ≤ R.cells) (hss : slots + (ns M'.2.2.2.2 - ns M.2.2.2.2) ≤ R.slots) (k : PT X opq adK adV scr D yA A L0 dom0 p l e R s m args below meth c Q y pc' ls' st' M' (cells + (nc M'.2.2.2.2 - nc M.2.2.2.2)) (slots + (ns M'.2.2.2.2 - ns M.2.2.2.2))) : PT X opq adK adV scr D yA A L0 dom0 p l e R s m args below meth c Q y pc ls st M cells slots := by
  simp only [sstep] at h
  obtain ⟨w, h1, h2⟩ := pushO_ok h
  cases h2
  obtain ⟨h3, h4⟩ := ldV_ok h1
  simp only [Nat.sub_self, Nat.add_zero] at k hcc hss
  rcases h4 with ⟨h4, x, rfl⟩ | ⟨h4, x, rfl⟩ | ⟨h4, -⟩ <;> first | omega | exact st_iload F hd h3 hk k
theorem so_lload (F : FR X opq adK adV scr y A p R s m args meth c) {pc len : Nat} {ls : List Value} {M : hM} {cells slots : Nat} {r : Instr} (hd : decode (mbytes y) (pcA y pc) = .ok (r, len)) {n : Nat} (hk : lnk (mnm y).cls (mpcs y) pc (pcA y pc) len r (.lload n) = true) {st : List Value} {pc' : Nat} {ls' st' : List Value} {M' : hM} (h : sstep X (.lload n) pc ls st M = some (pc', ls', st', M')) (hcc : cells + (nc M'.2.2.2.2 - nc M.2.2.2.2) ≤ R.cells) (hss : slots + (ns M'.2.2.2.2 - ns M.2.2.2.2) ≤ R.slots) (k : PT X opq adK adV scr D yA A L0 dom0 p l e R s m args below meth c Q y pc' ls' st' M' (cells + (nc M'.2.2.2.2 - nc M.2.2.2.2)) (slots + (ns M'.2.2.2.2 - ns M.2.2.2.2))) : PT X opq adK adV scr D yA A L0 dom0 p l e R s m args below meth c Q y pc ls st M cells slots := by
  simp only [sstep] at h
  obtain ⟨w, h1, h2⟩ := pushO_ok h
  cases h2
  obtain ⟨h3, h4⟩ := ldV_ok h1
  simp only [Nat.sub_self, Nat.add_zero] at k hcc hss
  rcases h4 with ⟨h4, x, rfl⟩ | ⟨h4, x, rfl⟩ | ⟨h4, -⟩ <;> first | omega | exact st_lload F hd h3 hk k
theorem so_aload (F : FR X opq adK adV scr y A p R s m args meth c) {pc len : Nat} {ls : List Value} {M : hM} {cells slots : Nat} {r : Instr} (hd : decode (mbytes y) (pcA y pc) = .ok (r, len)) {n : Nat} (hk : lnk (mnm y).cls (mpcs y) pc (pcA y pc) len r (.aload n) = true) {st : List Value} {pc' : Nat} {ls' st' : List Value} {M' : hM} (h : sstep X (.aload n) pc ls st M = some (pc', ls', st', M')) (hcc : cells + (nc M'.2.2.2.2 - nc M.2.2.2.2) ≤ R.cells) (hss : slots + (ns M'.2.2.2.2 - ns M.2.2.2.2) ≤ R.slots) (k : PT X opq adK adV scr D yA A L0 dom0 p l e R s m args below meth c Q y pc' ls' st' M' (cells + (nc M'.2.2.2.2 - nc M.2.2.2.2)) (slots + (ns M'.2.2.2.2 - ns M.2.2.2.2))) : PT X opq adK adV scr D yA A L0 dom0 p l e R s m args below meth c Q y pc ls st M cells slots := by
  simp only [sstep] at h
  obtain ⟨w, h1, h2⟩ := pushO_ok h
  cases h2
  obtain ⟨h3, h4⟩ := ldV_ok h1
  simp only [Nat.sub_self, Nat.add_zero] at k hcc hss
  rcases h4 with ⟨h4, -⟩ | ⟨h4, -⟩ | ⟨-, rfl | ⟨x, rfl⟩⟩ <;> first | omega | exact st_aloadN F hd h3 hk k | exact st_aload F hd h3 hk k
theorem so_istore (F : FR X opq adK adV scr y A p R s m args meth c) {pc len : Nat} {ls : List Value} {M : hM} {cells slots : Nat} {r : Instr} (hd : decode (mbytes y) (pcA y pc) = .ok (r, len)) {n : Nat} (hk : lnk (mnm y).cls (mpcs y) pc (pcA y pc) len r (.istore n) = true) {st : List Value} {pc' : Nat} {ls' st' : List Value} {M' : hM} (h : sstep X (.istore n) pc ls st M = some (pc', ls', st', M')) (hcc : cells + (nc M'.2.2.2.2 - nc M.2.2.2.2) ≤ R.cells) (hss : slots + (ns M'.2.2.2.2 - ns M.2.2.2.2) ≤ R.slots) (k : PT X opq adK adV scr D yA A L0 dom0 p l e R s m args below meth c Q y pc' ls' st' M' (cells + (nc M'.2.2.2.2 - nc M.2.2.2.2)) (slots + (ns M'.2.2.2.2 - ns M.2.2.2.2))) : PT X opq adK adV scr D yA A L0 dom0 p l e R s m args below meth c Q y pc ls st M cells slots := by
  simp only [sstep] at h
  split at h <;> first | (cases h; done) | skip
  · obtain ⟨h1, h2⟩ := cond_some h
    cases h2
    simp only [Nat.sub_self, Nat.add_zero] at k hcc hss
    exact st_istore F hd (Nat.blt_eq.mp h1) hk k

theorem so_lstore (F : FR X opq adK adV scr y A p R s m args meth c) {pc len : Nat} {ls : List Value} {M : hM} {cells slots : Nat} {r : Instr} (hd : decode (mbytes y) (pcA y pc) = .ok (r, len)) {n : Nat} (hk : lnk (mnm y).cls (mpcs y) pc (pcA y pc) len r (.lstore n) = true) {st : List Value} {pc' : Nat} {ls' st' : List Value} {M' : hM} (h : sstep X (.lstore n) pc ls st M = some (pc', ls', st', M')) (hcc : cells + (nc M'.2.2.2.2 - nc M.2.2.2.2) ≤ R.cells) (hss : slots + (ns M'.2.2.2.2 - ns M.2.2.2.2) ≤ R.slots) (k : PT X opq adK adV scr D yA A L0 dom0 p l e R s m args below meth c Q y pc' ls' st' M' (cells + (nc M'.2.2.2.2 - nc M.2.2.2.2)) (slots + (ns M'.2.2.2.2 - ns M.2.2.2.2))) : PT X opq adK adV scr D yA A L0 dom0 p l e R s m args below meth c Q y pc ls st M cells slots := by
  simp only [sstep] at h
  split at h <;> first | (cases h; done) | skip
  · obtain ⟨h1, h2⟩ := cond_some h
    cases h2
    simp only [Nat.sub_self, Nat.add_zero] at k hcc hss
    exact st_lstore F hd (Nat.blt_eq.mp h1) hk k

theorem so_astore (F : FR X opq adK adV scr y A p R s m args meth c) {pc len : Nat} {ls : List Value} {M : hM} {cells slots : Nat} {r : Instr} (hd : decode (mbytes y) (pcA y pc) = .ok (r, len)) {n : Nat} (hk : lnk (mnm y).cls (mpcs y) pc (pcA y pc) len r (.astore n) = true) {st : List Value} {pc' : Nat} {ls' st' : List Value} {M' : hM} (h : sstep X (.astore n) pc ls st M = some (pc', ls', st', M')) (hcc : cells + (nc M'.2.2.2.2 - nc M.2.2.2.2) ≤ R.cells) (hss : slots + (ns M'.2.2.2.2 - ns M.2.2.2.2) ≤ R.slots) (k : PT X opq adK adV scr D yA A L0 dom0 p l e R s m args below meth c Q y pc' ls' st' M' (cells + (nc M'.2.2.2.2 - nc M.2.2.2.2)) (slots + (ns M'.2.2.2.2 - ns M.2.2.2.2))) : PT X opq adK adV scr D yA A L0 dom0 p l e R s m args below meth c Q y pc ls st M cells slots := by
  simp only [sstep] at h
  split at h <;> first | (cases h; done) | skip
  · obtain ⟨h1, h2⟩ := cond_some h
    cases h2
    simp only [Nat.sub_self, Nat.add_zero] at k hcc hss
    exact st_astore F hd (Nat.blt_eq.mp h1) hk k
  · obtain ⟨h1, h2⟩ := cond_some h
    cases h2
    simp only [Nat.sub_self, Nat.add_zero] at k hcc hss
    exact st_astoreN F hd (Nat.blt_eq.mp h1) hk k

theorem so_iinc (F : FR X opq adK adV scr y A p R s m args meth c) {pc len : Nat} {ls : List Value} {M : hM} {cells slots : Nat} {r : Instr} (hd : decode (mbytes y) (pcA y pc) = .ok (r, len)) {n : Nat} {v : Int} (hk : lnk (mnm y).cls (mpcs y) pc (pcA y pc) len r (.iinc n v) = true) {st : List Value} {pc' : Nat} {ls' st' : List Value} {M' : hM} (h : sstep X (.iinc n v) pc ls st M = some (pc', ls', st', M')) (hcc : cells + (nc M'.2.2.2.2 - nc M.2.2.2.2) ≤ R.cells) (hss : slots + (ns M'.2.2.2.2 - ns M.2.2.2.2) ≤ R.slots) (k : PT X opq adK adV scr D yA A L0 dom0 p l e R s m args below meth c Q y pc' ls' st' M' (cells + (nc M'.2.2.2.2 - nc M.2.2.2.2)) (slots + (ns M'.2.2.2.2 - ns M.2.2.2.2))) : PT X opq adK adV scr D yA A L0 dom0 p l e R s m args below meth c Q y pc ls st M cells slots := by
  simp only [sstep] at h
  split at h <;> first | (cases h; done) | skip
  rename_i x hx
  obtain ⟨h1, h2⟩ := cond_some h
  cases h2
  simp only [Nat.sub_self, Nat.add_zero] at k hcc hss
  exact st_iinc F hd hx (Nat.blt_eq.mp h1) hk k
theorem so_goto (F : FR X opq adK adV scr y A p R s m args meth c) {pc len : Nat} {ls : List Value} {M : hM} {cells slots : Nat} {r : Instr} (hd : decode (mbytes y) (pcA y pc) = .ok (r, len)) {t : Int} (hk : lnk (mnm y).cls (mpcs y) pc (pcA y pc) len r (.goto t) = true) {st : List Value} {pc' : Nat} {ls' st' : List Value} {M' : hM} (h : sstep X (.goto t) pc ls st M = some (pc', ls', st', M')) (hcc : cells + (nc M'.2.2.2.2 - nc M.2.2.2.2) ≤ R.cells) (hss : slots + (ns M'.2.2.2.2 - ns M.2.2.2.2) ≤ R.slots) (k : PT X opq adK adV scr D yA A L0 dom0 p l e R s m args below meth c Q y pc' ls' st' M' (cells + (nc M'.2.2.2.2 - nc M.2.2.2.2)) (slots + (ns M'.2.2.2.2 - ns M.2.2.2.2))) : PT X opq adK adV scr D yA A L0 dom0 p l e R s m args below meth c Q y pc ls st M cells slots := by
  simp only [sstep] at h
  cases h
  simp only [Nat.sub_self, Nat.add_zero] at k hcc hss
  exact st_goto F hd hk k
theorem so_ifCond (F : FR X opq adK adV scr y A p R s m args meth c) {pc len : Nat} {ls : List Value} {M : hM} {cells slots : Nat} {r : Instr} (hd : decode (mbytes y) (pcA y pc) = .ok (r, len)) {q : Jvm.ClassFile.Cond} {t : Int} (hk : lnk (mnm y).cls (mpcs y) pc (pcA y pc) len r (.ifCond q t) = true) {st : List Value} {pc' : Nat} {ls' st' : List Value} {M' : hM} (h : sstep X (.ifCond q t) pc ls st M = some (pc', ls', st', M')) (hcc : cells + (nc M'.2.2.2.2 - nc M.2.2.2.2) ≤ R.cells) (hss : slots + (ns M'.2.2.2.2 - ns M.2.2.2.2) ≤ R.slots) (k : PT X opq adK adV scr D yA A L0 dom0 p l e R s m args below meth c Q y pc' ls' st' M' (cells + (nc M'.2.2.2.2 - nc M.2.2.2.2)) (slots + (ns M'.2.2.2.2 - ns M.2.2.2.2))) : PT X opq adK adV scr D yA A L0 dom0 p l e R s m args below meth c Q y pc ls st M cells slots := by
  simp only [sstep] at h
  split at h <;> first | (cases h; done) | skip
  cases h
  simp only [Nat.sub_self, Nat.add_zero] at k hcc hss
  cases q
  · exact st_if_eq F hd hk k
  · exact st_if_ne F hd hk k
  · exact st_if_lt F hd hk k
  · exact st_if_ge F hd hk k
  · exact st_if_gt F hd hk k
  · exact st_if_le F hd hk k

theorem so_if_icmp (F : FR X opq adK adV scr y A p R s m args meth c) {pc len : Nat} {ls : List Value} {M : hM} {cells slots : Nat} {r : Instr} (hd : decode (mbytes y) (pcA y pc) = .ok (r, len)) {q : Jvm.ClassFile.Cond} {t : Int} (hk : lnk (mnm y).cls (mpcs y) pc (pcA y pc) len r (.if_icmp q t) = true) {st : List Value} {pc' : Nat} {ls' st' : List Value} {M' : hM} (h : sstep X (.if_icmp q t) pc ls st M = some (pc', ls', st', M')) (hcc : cells + (nc M'.2.2.2.2 - nc M.2.2.2.2) ≤ R.cells) (hss : slots + (ns M'.2.2.2.2 - ns M.2.2.2.2) ≤ R.slots) (k : PT X opq adK adV scr D yA A L0 dom0 p l e R s m args below meth c Q y pc' ls' st' M' (cells + (nc M'.2.2.2.2 - nc M.2.2.2.2)) (slots + (ns M'.2.2.2.2 - ns M.2.2.2.2))) : PT X opq adK adV scr D yA A L0 dom0 p l e R s m args below meth c Q y pc ls st M cells slots := by
  simp only [sstep] at h
  split at h <;> first | (cases h; done) | skip
  cases h
  simp only [Nat.sub_self, Nat.add_zero] at k hcc hss
  cases q
  · exact st_ic_eq F hd hk k
  · exact st_ic_ne F hd hk k
  · exact st_ic_lt F hd hk k
  · exact st_ic_ge F hd hk k
  · exact st_ic_gt F hd hk k
  · exact st_ic_le F hd hk k

theorem so_ifnull (F : FR X opq adK adV scr y A p R s m args meth c) {pc len : Nat} {ls : List Value} {M : hM} {cells slots : Nat} {r : Instr} (hd : decode (mbytes y) (pcA y pc) = .ok (r, len)) {t : Int} (hk : lnk (mnm y).cls (mpcs y) pc (pcA y pc) len r (.ifnull t) = true) {st : List Value} {pc' : Nat} {ls' st' : List Value} {M' : hM} (h : sstep X (.ifnull t) pc ls st M = some (pc', ls', st', M')) (hcc : cells + (nc M'.2.2.2.2 - nc M.2.2.2.2) ≤ R.cells) (hss : slots + (ns M'.2.2.2.2 - ns M.2.2.2.2) ≤ R.slots) (k : PT X opq adK adV scr D yA A L0 dom0 p l e R s m args below meth c Q y pc' ls' st' M' (cells + (nc M'.2.2.2.2 - nc M.2.2.2.2)) (slots + (ns M'.2.2.2.2 - ns M.2.2.2.2))) : PT X opq adK adV scr D yA A L0 dom0 p l e R s m args below meth c Q y pc ls st M cells slots := by
  simp only [sstep] at h
  split at h <;> first | (cases h; done) | skip
  · cases h
    simp only [Nat.sub_self, Nat.add_zero] at k hcc hss
    exact st_ifnull F hd hk k
  · cases h
    simp only [Nat.sub_self, Nat.add_zero] at k hcc hss
    exact st_ifnullR F hd hk k
theorem so_ifnonnull (F : FR X opq adK adV scr y A p R s m args meth c) {pc len : Nat} {ls : List Value} {M : hM} {cells slots : Nat} {r : Instr} (hd : decode (mbytes y) (pcA y pc) = .ok (r, len)) {t : Int} (hk : lnk (mnm y).cls (mpcs y) pc (pcA y pc) len r (.ifnonnull t) = true) {st : List Value} {pc' : Nat} {ls' st' : List Value} {M' : hM} (h : sstep X (.ifnonnull t) pc ls st M = some (pc', ls', st', M')) (hcc : cells + (nc M'.2.2.2.2 - nc M.2.2.2.2) ≤ R.cells) (hss : slots + (ns M'.2.2.2.2 - ns M.2.2.2.2) ≤ R.slots) (k : PT X opq adK adV scr D yA A L0 dom0 p l e R s m args below meth c Q y pc' ls' st' M' (cells + (nc M'.2.2.2.2 - nc M.2.2.2.2)) (slots + (ns M'.2.2.2.2 - ns M.2.2.2.2))) : PT X opq adK adV scr D yA A L0 dom0 p l e R s m args below meth c Q y pc ls st M cells slots := by
  simp only [sstep] at h
  split at h <;> first | (cases h; done) | skip
  · cases h
    simp only [Nat.sub_self, Nat.add_zero] at k hcc hss
    exact st_ifnn F hd hk k
  · cases h
    simp only [Nat.sub_self, Nat.add_zero] at k hcc hss
    exact st_ifnnR F hd hk k
theorem so_tsw (F : FR X opq adK adV scr y A p R s m args meth c) {pc len : Nat} {ls : List Value} {M : hM} {cells slots : Nat} {r : Instr} (hd : decode (mbytes y) (pcA y pc) = .ok (r, len)) {d lo hi : Int} {ts : Array Int} (hk : lnk (mnm y).cls (mpcs y) pc (pcA y pc) len r (.tableswitch d lo hi ts) = true) {st : List Value} {pc' : Nat} {ls' st' : List Value} {M' : hM} (h : sstep X (.tableswitch d lo hi ts) pc ls st M = some (pc', ls', st', M')) (hcc : cells + (nc M'.2.2.2.2 - nc M.2.2.2.2) ≤ R.cells) (hss : slots + (ns M'.2.2.2.2 - ns M.2.2.2.2) ≤ R.slots) (k : PT X opq adK adV scr D yA A L0 dom0 p l e R s m args below meth c Q y pc' ls' st' M' (cells + (nc M'.2.2.2.2 - nc M.2.2.2.2)) (slots + (ns M'.2.2.2.2 - ns M.2.2.2.2))) : PT X opq adK adV scr D yA A L0 dom0 p l e R s m args below meth c Q y pc ls st M cells slots := by
  simp only [sstep] at h
  split at h <;> first | (cases h; done) | skip
  cases h
  simp only [Nat.sub_self, Nat.add_zero] at k hcc hss
  exact st_tsw F hd hk k
theorem so_dup (F : FR X opq adK adV scr y A p R s m args meth c) {pc len : Nat} {ls : List Value} {M : hM} {cells slots : Nat} {r : Instr} (hd : decode (mbytes y) (pcA y pc) = .ok (r, len))  (hk : lnk (mnm y).cls (mpcs y) pc (pcA y pc) len r (.dup) = true) {st : List Value} {pc' : Nat} {ls' st' : List Value} {M' : hM} (h : sstep X (.dup) pc ls st M = some (pc', ls', st', M')) (hcc : cells + (nc M'.2.2.2.2 - nc M.2.2.2.2) ≤ R.cells) (hss : slots + (ns M'.2.2.2.2 - ns M.2.2.2.2) ≤ R.slots) (k : PT X opq adK adV scr D yA A L0 dom0 p l e R s m args below meth c Q y pc' ls' st' M' (cells + (nc M'.2.2.2.2 - nc M.2.2.2.2)) (slots + (ns M'.2.2.2.2 - ns M.2.2.2.2))) : PT X opq adK adV scr D yA A L0 dom0 p l e R s m args below meth c Q y pc ls st M cells slots := by
  simp only [sstep] at h
  split at h <;> first | (cases h; done) | skip
  · cases h
    simp only [Nat.sub_self, Nat.add_zero] at k hcc hss
    exact st_dupI F hd hk k
  · cases h
    simp only [Nat.sub_self, Nat.add_zero] at k hcc hss
    exact st_dupR F hd hk k

theorem so_dupx1 (F : FR X opq adK adV scr y A p R s m args meth c) {pc len : Nat} {ls : List Value} {M : hM} {cells slots : Nat} {r : Instr} (hd : decode (mbytes y) (pcA y pc) = .ok (r, len))  (hk : lnk (mnm y).cls (mpcs y) pc (pcA y pc) len r (.dup_x1) = true) {st : List Value} {pc' : Nat} {ls' st' : List Value} {M' : hM} (h : sstep X (.dup_x1) pc ls st M = some (pc', ls', st', M')) (hcc : cells + (nc M'.2.2.2.2 - nc M.2.2.2.2) ≤ R.cells) (hss : slots + (ns M'.2.2.2.2 - ns M.2.2.2.2) ≤ R.slots) (k : PT X opq adK adV scr D yA A L0 dom0 p l e R s m args below meth c Q y pc' ls' st' M' (cells + (nc M'.2.2.2.2 - nc M.2.2.2.2)) (slots + (ns M'.2.2.2.2 - ns M.2.2.2.2))) : PT X opq adK adV scr D yA A L0 dom0 p l e R s m args below meth c Q y pc ls st M cells slots := by
  simp only [sstep] at h
  split at h <;> first | (cases h; done) | skip
  · cases h
    simp only [Nat.sub_self, Nat.add_zero] at k hcc hss
    exact st_dupx1 F hd hk k
  · cases h
    simp only [Nat.sub_self, Nat.add_zero] at k hcc hss
    exact st_dupx1i F hd hk k

theorem so_dup2 (F : FR X opq adK adV scr y A p R s m args meth c) {pc len : Nat} {ls : List Value} {M : hM} {cells slots : Nat} {r : Instr} (hd : decode (mbytes y) (pcA y pc) = .ok (r, len))  (hk : lnk (mnm y).cls (mpcs y) pc (pcA y pc) len r (.dup2) = true) {st : List Value} {pc' : Nat} {ls' st' : List Value} {M' : hM} (h : sstep X (.dup2) pc ls st M = some (pc', ls', st', M')) (hcc : cells + (nc M'.2.2.2.2 - nc M.2.2.2.2) ≤ R.cells) (hss : slots + (ns M'.2.2.2.2 - ns M.2.2.2.2) ≤ R.slots) (k : PT X opq adK adV scr D yA A L0 dom0 p l e R s m args below meth c Q y pc' ls' st' M' (cells + (nc M'.2.2.2.2 - nc M.2.2.2.2)) (slots + (ns M'.2.2.2.2 - ns M.2.2.2.2))) : PT X opq adK adV scr D yA A L0 dom0 p l e R s m args below meth c Q y pc ls st M cells slots := by
  simp only [sstep] at h
  split at h <;> first | (cases h; done) | skip
  · cases h
    simp only [Nat.sub_self, Nat.add_zero] at k hcc hss
    exact st_dup2 F hd hk k

theorem so_pop (F : FR X opq adK adV scr y A p R s m args meth c) {pc len : Nat} {ls : List Value} {M : hM} {cells slots : Nat} {r : Instr} (hd : decode (mbytes y) (pcA y pc) = .ok (r, len))  (hk : lnk (mnm y).cls (mpcs y) pc (pcA y pc) len r (.pop) = true) {st : List Value} {pc' : Nat} {ls' st' : List Value} {M' : hM} (h : sstep X (.pop) pc ls st M = some (pc', ls', st', M')) (hcc : cells + (nc M'.2.2.2.2 - nc M.2.2.2.2) ≤ R.cells) (hss : slots + (ns M'.2.2.2.2 - ns M.2.2.2.2) ≤ R.slots) (k : PT X opq adK adV scr D yA A L0 dom0 p l e R s m args below meth c Q y pc' ls' st' M' (cells + (nc M'.2.2.2.2 - nc M.2.2.2.2)) (slots + (ns M'.2.2.2.2 - ns M.2.2.2.2))) : PT X opq adK adV scr D yA A L0 dom0 p l e R s m args below meth c Q y pc ls st M cells slots := by
  simp only [sstep] at h
  split at h <;> first | (cases h; done) | skip
  · cases h
    simp only [Nat.sub_self, Nat.add_zero] at k hcc hss
    exact st_pop F hd hk k

theorem so_pop2 (F : FR X opq adK adV scr y A p R s m args meth c) {pc len : Nat} {ls : List Value} {M : hM} {cells slots : Nat} {r : Instr} (hd : decode (mbytes y) (pcA y pc) = .ok (r, len))  (hk : lnk (mnm y).cls (mpcs y) pc (pcA y pc) len r (.pop2) = true) {st : List Value} {pc' : Nat} {ls' st' : List Value} {M' : hM} (h : sstep X (.pop2) pc ls st M = some (pc', ls', st', M')) (hcc : cells + (nc M'.2.2.2.2 - nc M.2.2.2.2) ≤ R.cells) (hss : slots + (ns M'.2.2.2.2 - ns M.2.2.2.2) ≤ R.slots) (k : PT X opq adK adV scr D yA A L0 dom0 p l e R s m args below meth c Q y pc' ls' st' M' (cells + (nc M'.2.2.2.2 - nc M.2.2.2.2)) (slots + (ns M'.2.2.2.2 - ns M.2.2.2.2))) : PT X opq adK adV scr D yA A L0 dom0 p l e R s m args below meth c Q y pc ls st M cells slots := by
  simp only [sstep] at h
  split at h <;> first | (cases h; done) | skip
  · cases h
    simp only [Nat.sub_self, Nat.add_zero] at k hcc hss
    exact st_pop2 F hd hk k

theorem so_lcmp (F : FR X opq adK adV scr y A p R s m args meth c) {pc len : Nat} {ls : List Value} {M : hM} {cells slots : Nat} {r : Instr} (hd : decode (mbytes y) (pcA y pc) = .ok (r, len))  (hk : lnk (mnm y).cls (mpcs y) pc (pcA y pc) len r (.lcmp) = true) {st : List Value} {pc' : Nat} {ls' st' : List Value} {M' : hM} (h : sstep X (.lcmp) pc ls st M = some (pc', ls', st', M')) (hcc : cells + (nc M'.2.2.2.2 - nc M.2.2.2.2) ≤ R.cells) (hss : slots + (ns M'.2.2.2.2 - ns M.2.2.2.2) ≤ R.slots) (k : PT X opq adK adV scr D yA A L0 dom0 p l e R s m args below meth c Q y pc' ls' st' M' (cells + (nc M'.2.2.2.2 - nc M.2.2.2.2)) (slots + (ns M'.2.2.2.2 - ns M.2.2.2.2))) : PT X opq adK adV scr D yA A L0 dom0 p l e R s m args below meth c Q y pc ls st M cells slots := by
  simp only [sstep] at h
  split at h <;> first | (cases h; done) | skip
  · cases h
    simp only [Nat.sub_self, Nat.add_zero] at k hcc hss
    exact st_lcmp F hd hk k

theorem so_l2i (F : FR X opq adK adV scr y A p R s m args meth c) {pc len : Nat} {ls : List Value} {M : hM} {cells slots : Nat} {r : Instr} (hd : decode (mbytes y) (pcA y pc) = .ok (r, len))  (hk : lnk (mnm y).cls (mpcs y) pc (pcA y pc) len r (.l2i) = true) {st : List Value} {pc' : Nat} {ls' st' : List Value} {M' : hM} (h : sstep X (.l2i) pc ls st M = some (pc', ls', st', M')) (hcc : cells + (nc M'.2.2.2.2 - nc M.2.2.2.2) ≤ R.cells) (hss : slots + (ns M'.2.2.2.2 - ns M.2.2.2.2) ≤ R.slots) (k : PT X opq adK adV scr D yA A L0 dom0 p l e R s m args below meth c Q y pc' ls' st' M' (cells + (nc M'.2.2.2.2 - nc M.2.2.2.2)) (slots + (ns M'.2.2.2.2 - ns M.2.2.2.2))) : PT X opq adK adV scr D yA A L0 dom0 p l e R s m args below meth c Q y pc ls st M cells slots := by
  simp only [sstep] at h
  split at h <;> first | (cases h; done) | skip
  · cases h
    simp only [Nat.sub_self, Nat.add_zero] at k hcc hss
    exact st_l2i F hd hk k

theorem so_lneg (F : FR X opq adK adV scr y A p R s m args meth c) {pc len : Nat} {ls : List Value} {M : hM} {cells slots : Nat} {r : Instr} (hd : decode (mbytes y) (pcA y pc) = .ok (r, len))  (hk : lnk (mnm y).cls (mpcs y) pc (pcA y pc) len r (.lneg) = true) {st : List Value} {pc' : Nat} {ls' st' : List Value} {M' : hM} (h : sstep X (.lneg) pc ls st M = some (pc', ls', st', M')) (hcc : cells + (nc M'.2.2.2.2 - nc M.2.2.2.2) ≤ R.cells) (hss : slots + (ns M'.2.2.2.2 - ns M.2.2.2.2) ≤ R.slots) (k : PT X opq adK adV scr D yA A L0 dom0 p l e R s m args below meth c Q y pc' ls' st' M' (cells + (nc M'.2.2.2.2 - nc M.2.2.2.2)) (slots + (ns M'.2.2.2.2 - ns M.2.2.2.2))) : PT X opq adK adV scr D yA A L0 dom0 p l e R s m args below meth c Q y pc ls st M cells slots := by
  simp only [sstep] at h
  split at h <;> first | (cases h; done) | skip
  · cases h
    simp only [Nat.sub_self, Nat.add_zero] at k hcc hss
    exact st_lneg F hd hk k

theorem so_lshl (F : FR X opq adK adV scr y A p R s m args meth c) {pc len : Nat} {ls : List Value} {M : hM} {cells slots : Nat} {r : Instr} (hd : decode (mbytes y) (pcA y pc) = .ok (r, len))  (hk : lnk (mnm y).cls (mpcs y) pc (pcA y pc) len r (.lshl) = true) {st : List Value} {pc' : Nat} {ls' st' : List Value} {M' : hM} (h : sstep X (.lshl) pc ls st M = some (pc', ls', st', M')) (hcc : cells + (nc M'.2.2.2.2 - nc M.2.2.2.2) ≤ R.cells) (hss : slots + (ns M'.2.2.2.2 - ns M.2.2.2.2) ≤ R.slots) (k : PT X opq adK adV scr D yA A L0 dom0 p l e R s m args below meth c Q y pc' ls' st' M' (cells + (nc M'.2.2.2.2 - nc M.2.2.2.2)) (slots + (ns M'.2.2.2.2 - ns M.2.2.2.2))) : PT X opq adK adV scr D yA A L0 dom0 p l e R s m args below meth c Q y pc ls st M cells slots := by
  simp only [sstep] at h
  split at h <;> first | (cases h; done) | skip
  · cases h
    simp only [Nat.sub_self, Nat.add_zero] at k hcc hss
    exact st_lshl F hd hk k

theorem so_lshr (F : FR X opq adK adV scr y A p R s m args meth c) {pc len : Nat} {ls : List Value} {M : hM} {cells slots : Nat} {r : Instr} (hd : decode (mbytes y) (pcA y pc) = .ok (r, len))  (hk : lnk (mnm y).cls (mpcs y) pc (pcA y pc) len r (.lshr) = true) {st : List Value} {pc' : Nat} {ls' st' : List Value} {M' : hM} (h : sstep X (.lshr) pc ls st M = some (pc', ls', st', M')) (hcc : cells + (nc M'.2.2.2.2 - nc M.2.2.2.2) ≤ R.cells) (hss : slots + (ns M'.2.2.2.2 - ns M.2.2.2.2) ≤ R.slots) (k : PT X opq adK adV scr D yA A L0 dom0 p l e R s m args below meth c Q y pc' ls' st' M' (cells + (nc M'.2.2.2.2 - nc M.2.2.2.2)) (slots + (ns M'.2.2.2.2 - ns M.2.2.2.2))) : PT X opq adK adV scr D yA A L0 dom0 p l e R s m args below meth c Q y pc ls st M cells slots := by
  simp only [sstep] at h
  split at h <;> first | (cases h; done) | skip
  · cases h
    simp only [Nat.sub_self, Nat.add_zero] at k hcc hss
    exact st_lshr F hd hk k

theorem so_gets (F : FR X opq adK adV scr y A p R s m args meth c) {pc len : Nat} {ls : List Value} {M : hM} {cells slots : Nat} {r : Instr} (hd : decode (mbytes y) (pcA y pc) = .ok (r, len)) {n : Nat} (hk : lnk (mnm y).cls (mpcs y) pc (pcA y pc) len r (.getstatic n) = true) {st : List Value} {pc' : Nat} {ls' st' : List Value} {M' : hM} (h : sstep X (.getstatic n) pc ls st M = some (pc', ls', st', M')) (hcc : cells + (nc M'.2.2.2.2 - nc M.2.2.2.2) ≤ R.cells) (hss : slots + (ns M'.2.2.2.2 - ns M.2.2.2.2) ≤ R.slots) (k : PT X opq adK adV scr D yA A L0 dom0 p l e R s m args below meth c Q y pc' ls' st' M' (cells + (nc M'.2.2.2.2 - nc M.2.2.2.2)) (slots + (ns M'.2.2.2.2 - ns M.2.2.2.2))) : PT X opq adK adV scr D yA A L0 dom0 p l e R s m args below meth c Q y pc ls st M cells slots := by
  simp only [sstep] at h
  cases hb : Nat.beq n 0 <;> rw [hb] at h <;> simp only [cond_true, cond_false] at h <;> cases h <;> simp only [Nat.sub_self, Nat.add_zero] at k hcc hss
  · have hn : n = 1 := by
      simp only [lnk, Bool.and_eq_true] at hk
      have h2 := hk.2
      split at h2 <;> first | (cases h2; done) | skip
      simp only [Bool.and_eq_true, Bool.or_eq_true, decide_eq_true_eq] at h2
      rcases h2.2 with h3 | h3
      · rw [h3.1.1] at hb; cases hb
      · exact h3.1.1
    subst hn
    exact st_gets1 F hd hk k
  · obtain rfl := Nat.eq_of_beq_eq_true hb
    exact st_gets0 F hd hk k
theorem so_str (F : FR X opq adK adV scr y A p R s m args meth c) {pc len : Nat} {ls : List Value} {M : hM} {cells slots : Nat} {r : Instr} (hd : decode (mbytes y) (pcA y pc) = .ok (r, len)) {n : Nat} (hk : lnk (mnm y).cls (mpcs y) pc (pcA y pc) len r (.instanceof n) = true) {st : List Value} {pc' : Nat} {ls' st' : List Value} {M' : hM} (h : sstep X (.instanceof n) pc ls st M = some (pc', ls', st', M')) (hcc : cells + (nc M'.2.2.2.2 - nc M.2.2.2.2) ≤ R.cells) (hss : slots + (ns M'.2.2.2.2 - ns M.2.2.2.2) ≤ R.slots) (k : PT X opq adK adV scr D yA A L0 dom0 p l e R s m args below meth c Q y pc' ls' st' M' (cells + (nc M'.2.2.2.2 - nc M.2.2.2.2)) (slots + (ns M'.2.2.2.2 - ns M.2.2.2.2))) : PT X opq adK adV scr D yA A L0 dom0 p l e R s m args below meth c Q y pc ls st M cells slots := by
  simp only [sstep] at h
  unfold strI at h
  split at h <;> first | (cases h; done) | skip
  · rename_i k0 r0
    obtain ⟨h1, h2⟩ := cond_some h
    cases h2
    simp only [Nat.sub_self, Nat.add_zero] at k hcc hss
    simp only [Bool.and_eq_true, Nat.ble_eq, Nat.blt_eq] at h1
    have h3 := Nat.eq_of_beq_eq_true h1.2
    obtain ⟨i, hi, rfl⟩ := ev_lab h1 h3
    exact st_sval F hd hi hk k
  · rename_i k0 r0
    obtain ⟨h1, h2⟩ := cond_some h
    cases h2
    simp only [Nat.sub_self, Nat.add_zero] at k hcc hss
    simp only [Bool.and_eq_true, Nat.ble_eq, Nat.blt_eq] at h1
    have h3 := Nat.eq_of_beq_eq_true h1.2
    obtain ⟨i, hi, rfl⟩ := ev_lab h1 h3
    exact st_scod F hd hi hk k
  · rename_i k0 r0
    obtain ⟨h1, h2⟩ := cond_some h
    cases h2
    simp only [Nat.sub_self, Nat.add_zero] at k hcc hss
    simp only [Bool.and_eq_true, Nat.ble_eq, Nat.blt_eq] at h1
    have h3 := Nat.eq_of_beq_eq_true h1.2
    obtain ⟨i, hi, rfl⟩ := od_lab h1 h3
    rw [show (9000 + 2 * i + 1 - 9000) / 2 = i by omega] at k
    exact st_salen F hd hi hk k
  · rename_i i0 k0 r0
    obtain ⟨h1, h2⟩ := cond_some h
    cases h2
    simp only [Nat.sub_self, Nat.add_zero] at k hcc hss
    simp only [Bool.and_eq_true, Nat.ble_eq, Nat.blt_eq] at h1
    have h3 := Nat.eq_of_beq_eq_true h1.1.2
    have h1x := h1
    have h1 := h1.1
    obtain ⟨i, hi, rfl⟩ := od_lab h1 h3
    rw [show (9000 + 2 * i + 1 - 9000) / 2 = i by omega] at k h1x
    exact st_sbald F hd hi h1x.2 hk k
  · rename_i k0 r0
    obtain ⟨h1, h2⟩ := cond_some h
    cases h2
    simp only [Nat.sub_self, Nat.add_zero] at k hcc hss
    obtain rfl := Nat.eq_of_beq_eq_true h1
    exact st_xalen F hd hk k
  · rename_i i0 k0 r0
    obtain ⟨h1, h2⟩ := cond_some h
    cases h2
    simp only [Nat.sub_self, Nat.add_zero] at k hcc hss
    simp only [Bool.and_eq_true] at h1
    obtain rfl := Nat.eq_of_beq_eq_true h1.1
    exact st_xald F hd h1.2 hk k
theorem so_geti (F : FR X opq adK adV scr y A p R s m args meth c) {pc len : Nat} {ls : List Value} {M : hM} {cells slots : Nat} {r : Instr} (hd : decode (mbytes y) (pcA y pc) = .ok (r, len)) {n : Nat} (hk : lnk (mnm y).cls (mpcs y) pc (pcA y pc) len r (.getfield n) = true) {st : List Value} {pc' : Nat} {ls' st' : List Value} {M' : hM} (h : sstep X (.getfield n) pc ls st M = some (pc', ls', st', M')) (hcc : cells + (nc M'.2.2.2.2 - nc M.2.2.2.2) ≤ R.cells) (hss : slots + (ns M'.2.2.2.2 - ns M.2.2.2.2) ≤ R.slots) (k : PT X opq adK adV scr D yA A L0 dom0 p l e R s m args below meth c Q y pc' ls' st' M' (cells + (nc M'.2.2.2.2 - nc M.2.2.2.2)) (slots + (ns M'.2.2.2.2 - ns M.2.2.2.2))) : PT X opq adK adV scr D yA A L0 dom0 p l e R s m args below meth c Q y pc ls st M cells slots := by
  simp only [sstep] at h
  split at h <;> first | (cases h; done) | skip
  obtain ⟨h1, h2⟩ := cond_some h
  cases h2
  simp only [Nat.sub_self, Nat.add_zero] at k hcc hss
  simp only [Bool.and_eq_true, Bool.or_eq_true] at h1
  exact st_geti F hd h1.1 (h1.2.imp Nat.eq_of_beq_eq_true Nat.eq_of_beq_eq_true) hk k
theorem so_getl (F : FR X opq adK adV scr y A p R s m args meth c) {pc len : Nat} {ls : List Value} {M : hM} {cells slots : Nat} {r : Instr} (hd : decode (mbytes y) (pcA y pc) = .ok (r, len)) {n : Nat} (hk : lnk (mnm y).cls (mpcs y) pc (pcA y pc) len r (.dload n) = true) {st : List Value} {pc' : Nat} {ls' st' : List Value} {M' : hM} (h : sstep X (.dload n) pc ls st M = some (pc', ls', st', M')) (hcc : cells + (nc M'.2.2.2.2 - nc M.2.2.2.2) ≤ R.cells) (hss : slots + (ns M'.2.2.2.2 - ns M.2.2.2.2) ≤ R.slots) (k : PT X opq adK adV scr D yA A L0 dom0 p l e R s m args below meth c Q y pc' ls' st' M' (cells + (nc M'.2.2.2.2 - nc M.2.2.2.2)) (slots + (ns M'.2.2.2.2 - ns M.2.2.2.2))) : PT X opq adK adV scr D yA A L0 dom0 p l e R s m args below meth c Q y pc ls st M cells slots := by
  simp only [sstep] at h
  split at h <;> first | (cases h; done) | skip
  obtain ⟨h1, h2⟩ := cond_some h
  cases h2
  simp only [Nat.sub_self, Nat.add_zero] at k hcc hss
  simp only [Bool.and_eq_true] at h1
  exact st_getl F hd h1.1 (Nat.eq_of_beq_eq_true h1.2) hk k
theorem so_getr (F : FR X opq adK adV scr y A p R s m args meth c) {pc len : Nat} {ls : List Value} {M : hM} {cells slots : Nat} {r : Instr} (hd : decode (mbytes y) (pcA y pc) = .ok (r, len)) {n : Nat} (hk : lnk (mnm y).cls (mpcs y) pc (pcA y pc) len r (.fload n) = true) {st : List Value} {pc' : Nat} {ls' st' : List Value} {M' : hM} (h : sstep X (.fload n) pc ls st M = some (pc', ls', st', M')) (hcc : cells + (nc M'.2.2.2.2 - nc M.2.2.2.2) ≤ R.cells) (hss : slots + (ns M'.2.2.2.2 - ns M.2.2.2.2) ≤ R.slots) (k : PT X opq adK adV scr D yA A L0 dom0 p l e R s m args below meth c Q y pc' ls' st' M' (cells + (nc M'.2.2.2.2 - nc M.2.2.2.2)) (slots + (ns M'.2.2.2.2 - ns M.2.2.2.2))) : PT X opq adK adV scr D yA A L0 dom0 p l e R s m args below meth c Q y pc ls st M cells slots := by
  simp only [sstep] at h
  split at h <;> first | (cases h; done) | skip
  obtain ⟨h1, h2⟩ := cond_some h
  cases h2
  simp only [Nat.sub_self, Nat.add_zero] at k hcc hss
  simp only [Bool.and_eq_true] at h1
  exact st_getr F hd h1.1 (Nat.eq_of_beq_eq_true h1.2) hk k
theorem so_puti (F : FR X opq adK adV scr y A p R s m args meth c) {pc len : Nat} {ls : List Value} {M : hM} {cells slots : Nat} {r : Instr} (hd : decode (mbytes y) (pcA y pc) = .ok (r, len)) {n : Nat} (hk : lnk (mnm y).cls (mpcs y) pc (pcA y pc) len r (.putfield n) = true) (hfo : finOk y (.putfield n) = true) {st : List Value} {pc' : Nat} {ls' st' : List Value} {M' : hM} (h : sstep X (.putfield n) pc ls st M = some (pc', ls', st', M')) (hcc : cells + (nc M'.2.2.2.2 - nc M.2.2.2.2) ≤ R.cells) (hss : slots + (ns M'.2.2.2.2 - ns M.2.2.2.2) ≤ R.slots) (k : PT X opq adK adV scr D yA A L0 dom0 p l e R s m args below meth c Q y pc' ls' st' M' (cells + (nc M'.2.2.2.2 - nc M.2.2.2.2)) (slots + (ns M'.2.2.2.2 - ns M.2.2.2.2))) : PT X opq adK adV scr D yA A L0 dom0 p l e R s m args below meth c Q y pc ls st M cells slots := by
  simp only [sstep] at h
  split at h <;> first | (cases h; done) | skip
  obtain ⟨h1, h2⟩ := cond_some h
  cases h2
  simp only [Nat.sub_self, Nat.add_zero] at k hcc hss
  simp only [Bool.and_eq_true] at h1
  exact st_puti F hd h1.1 (Nat.eq_of_beq_eq_true h1.2) hfo hk k
theorem so_putz (F : FR X opq adK adV scr y A p R s m args meth c) {pc len : Nat} {ls : List Value} {M : hM} {cells slots : Nat} {r : Instr} (hd : decode (mbytes y) (pcA y pc) = .ok (r, len)) {n : Nat} (hk : lnk (mnm y).cls (mpcs y) pc (pcA y pc) len r (.putstatic n) = true) (hfo : finOk y (.putstatic n) = true) {st : List Value} {pc' : Nat} {ls' st' : List Value} {M' : hM} (h : sstep X (.putstatic n) pc ls st M = some (pc', ls', st', M')) (hcc : cells + (nc M'.2.2.2.2 - nc M.2.2.2.2) ≤ R.cells) (hss : slots + (ns M'.2.2.2.2 - ns M.2.2.2.2) ≤ R.slots) (k : PT X opq adK adV scr D yA A L0 dom0 p l e R s m args below meth c Q y pc' ls' st' M' (cells + (nc M'.2.2.2.2 - nc M.2.2.2.2)) (slots + (ns M'.2.2.2.2 - ns M.2.2.2.2))) : PT X opq adK adV scr D yA A L0 dom0 p l e R s m args below meth c Q y pc ls st M cells slots := by
  simp only [sstep] at h
  split at h <;> first | (cases h; done) | skip
  obtain ⟨h1, h2⟩ := cond_some h
  cases h2
  simp only [Nat.sub_self, Nat.add_zero] at k hcc hss
  rw [Bool.and_eq_true, Bool.and_eq_true] at h1
  exact st_putz F hd (or01 h1.2) h1.1.1 (Nat.eq_of_beq_eq_true h1.1.2) hfo hk k
theorem so_putl (F : FR X opq adK adV scr y A p R s m args meth c) {pc len : Nat} {ls : List Value} {M : hM} {cells slots : Nat} {r : Instr} (hd : decode (mbytes y) (pcA y pc) = .ok (r, len)) {n : Nat} (hk : lnk (mnm y).cls (mpcs y) pc (pcA y pc) len r (.dstore n) = true) (hfo : finOk y (.dstore n) = true) {st : List Value} {pc' : Nat} {ls' st' : List Value} {M' : hM} (h : sstep X (.dstore n) pc ls st M = some (pc', ls', st', M')) (hcc : cells + (nc M'.2.2.2.2 - nc M.2.2.2.2) ≤ R.cells) (hss : slots + (ns M'.2.2.2.2 - ns M.2.2.2.2) ≤ R.slots) (k : PT X opq adK adV scr D yA A L0 dom0 p l e R s m args below meth c Q y pc' ls' st' M' (cells + (nc M'.2.2.2.2 - nc M.2.2.2.2)) (slots + (ns M'.2.2.2.2 - ns M.2.2.2.2))) : PT X opq adK adV scr D yA A L0 dom0 p l e R s m args below meth c Q y pc ls st M cells slots := by
  simp only [sstep] at h
  split at h <;> first | (cases h; done) | skip
  obtain ⟨h1, h2⟩ := cond_some h
  cases h2
  simp only [Nat.sub_self, Nat.add_zero] at k hcc hss
  simp only [Bool.and_eq_true] at h1
  exact st_putl F hd h1.1 (Nat.eq_of_beq_eq_true h1.2) hfo hk k
theorem so_putr (F : FR X opq adK adV scr y A p R s m args meth c) {pc len : Nat} {ls : List Value} {M : hM} {cells slots : Nat} {r : Instr} (hd : decode (mbytes y) (pcA y pc) = .ok (r, len)) {n : Nat} (hk : lnk (mnm y).cls (mpcs y) pc (pcA y pc) len r (.fstore n) = true) (hfo : finOk y (.fstore n) = true) {st : List Value} {pc' : Nat} {ls' st' : List Value} {M' : hM} (h : sstep X (.fstore n) pc ls st M = some (pc', ls', st', M')) (hcc : cells + (nc M'.2.2.2.2 - nc M.2.2.2.2) ≤ R.cells) (hss : slots + (ns M'.2.2.2.2 - ns M.2.2.2.2) ≤ R.slots) (k : PT X opq adK adV scr D yA A L0 dom0 p l e R s m args below meth c Q y pc' ls' st' M' (cells + (nc M'.2.2.2.2 - nc M.2.2.2.2)) (slots + (ns M'.2.2.2.2 - ns M.2.2.2.2))) : PT X opq adK adV scr D yA A L0 dom0 p l e R s m args below meth c Q y pc ls st M cells slots := by
  simp only [sstep] at h
  split at h <;> first | (cases h; done) | skip
  · obtain ⟨h1, h2⟩ := cond_some h
    cases h2
    simp only [Nat.sub_self, Nat.add_zero] at k hcc hss
    simp only [Bool.and_eq_true, Nat.blt_eq] at h1
    exact st_putr F hd h1.2 h1.1.1 (Nat.eq_of_beq_eq_true h1.1.2) hfo hk k
  · obtain ⟨h1, h2⟩ := cond_some h
    cases h2
    simp only [Nat.sub_self, Nat.add_zero] at k hcc hss
    simp only [Bool.and_eq_true] at h1
    exact st_putrN F hd h1.1 (Nat.eq_of_beq_eq_true h1.2) hfo hk k
theorem so_iald (F : FR X opq adK adV scr y A p R s m args meth c) {pc len : Nat} {ls : List Value} {M : hM} {cells slots : Nat} {r : Instr} (hd : decode (mbytes y) (pcA y pc) = .ok (r, len))  (hk : lnk (mnm y).cls (mpcs y) pc (pcA y pc) len r (.iaload) = true) {st : List Value} {pc' : Nat} {ls' st' : List Value} {M' : hM} (h : sstep X (.iaload) pc ls st M = some (pc', ls', st', M')) (hcc : cells + (nc M'.2.2.2.2 - nc M.2.2.2.2) ≤ R.cells) (hss : slots + (ns M'.2.2.2.2 - ns M.2.2.2.2) ≤ R.slots) (k : PT X opq adK adV scr D yA A L0 dom0 p l e R s m args below meth c Q y pc' ls' st' M' (cells + (nc M'.2.2.2.2 - nc M.2.2.2.2)) (slots + (ns M'.2.2.2.2 - ns M.2.2.2.2))) : PT X opq adK adV scr D yA A L0 dom0 p l e R s m args below meth c Q y pc ls st M cells slots := by
  simp only [sstep] at h
  split at h <;> first | (cases h; done) | skip
  obtain ⟨h1, h2⟩ := cond_some h
  cases h2
  simp only [Nat.sub_self, Nat.add_zero] at k hcc hss
  rw [Bool.and_eq_true] at h1
  exact st_iald F hd h1.1 h1.2 hk k
theorem so_zald (F : FR X opq adK adV scr y A p R s m args meth c) {pc len : Nat} {ls : List Value} {M : hM} {cells slots : Nat} {r : Instr} (hd : decode (mbytes y) (pcA y pc) = .ok (r, len))  (hk : lnk (mnm y).cls (mpcs y) pc (pcA y pc) len r (.baload) = true) {st : List Value} {pc' : Nat} {ls' st' : List Value} {M' : hM} (h : sstep X (.baload) pc ls st M = some (pc', ls', st', M')) (hcc : cells + (nc M'.2.2.2.2 - nc M.2.2.2.2) ≤ R.cells) (hss : slots + (ns M'.2.2.2.2 - ns M.2.2.2.2) ≤ R.slots) (k : PT X opq adK adV scr D yA A L0 dom0 p l e R s m args below meth c Q y pc' ls' st' M' (cells + (nc M'.2.2.2.2 - nc M.2.2.2.2)) (slots + (ns M'.2.2.2.2 - ns M.2.2.2.2))) : PT X opq adK adV scr D yA A L0 dom0 p l e R s m args below meth c Q y pc ls st M cells slots := by
  simp only [sstep] at h
  split at h <;> first | (cases h; done) | skip
  obtain ⟨h1, h2⟩ := cond_some h
  cases h2
  simp only [Nat.sub_self, Nat.add_zero] at k hcc hss
  rw [Bool.and_eq_true] at h1
  exact st_zald F hd h1.1 h1.2 hk k
theorem so_lald (F : FR X opq adK adV scr y A p R s m args meth c) {pc len : Nat} {ls : List Value} {M : hM} {cells slots : Nat} {r : Instr} (hd : decode (mbytes y) (pcA y pc) = .ok (r, len))  (hk : lnk (mnm y).cls (mpcs y) pc (pcA y pc) len r (.laload) = true) {st : List Value} {pc' : Nat} {ls' st' : List Value} {M' : hM} (h : sstep X (.laload) pc ls st M = some (pc', ls', st', M')) (hcc : cells + (nc M'.2.2.2.2 - nc M.2.2.2.2) ≤ R.cells) (hss : slots + (ns M'.2.2.2.2 - ns M.2.2.2.2) ≤ R.slots) (k : PT X opq adK adV scr D yA A L0 dom0 p l e R s m args below meth c Q y pc' ls' st' M' (cells + (nc M'.2.2.2.2 - nc M.2.2.2.2)) (slots + (ns M'.2.2.2.2 - ns M.2.2.2.2))) : PT X opq adK adV scr D yA A L0 dom0 p l e R s m args below meth c Q y pc ls st M cells slots := by
  simp only [sstep] at h
  split at h <;> first | (cases h; done) | skip
  obtain ⟨h1, h2⟩ := cond_some h
  cases h2
  simp only [Nat.sub_self, Nat.add_zero] at k hcc hss
  rw [Bool.and_eq_true] at h1
  exact st_lald F hd h1.1 h1.2 hk k
theorem so_iast (F : FR X opq adK adV scr y A p R s m args meth c) {pc len : Nat} {ls : List Value} {M : hM} {cells slots : Nat} {r : Instr} (hd : decode (mbytes y) (pcA y pc) = .ok (r, len))  (hk : lnk (mnm y).cls (mpcs y) pc (pcA y pc) len r (.iastore) = true) {st : List Value} {pc' : Nat} {ls' st' : List Value} {M' : hM} (h : sstep X (.iastore) pc ls st M = some (pc', ls', st', M')) (hcc : cells + (nc M'.2.2.2.2 - nc M.2.2.2.2) ≤ R.cells) (hss : slots + (ns M'.2.2.2.2 - ns M.2.2.2.2) ≤ R.slots) (k : PT X opq adK adV scr D yA A L0 dom0 p l e R s m args below meth c Q y pc' ls' st' M' (cells + (nc M'.2.2.2.2 - nc M.2.2.2.2)) (slots + (ns M'.2.2.2.2 - ns M.2.2.2.2))) : PT X opq adK adV scr D yA A L0 dom0 p l e R s m args below meth c Q y pc ls st M cells slots := by
  simp only [sstep] at h
  split at h <;> first | (cases h; done) | skip
  obtain ⟨h1, h2⟩ := cond_some h
  cases h2
  simp only [Nat.sub_self, Nat.add_zero] at k hcc hss
  rw [Bool.and_eq_true] at h1
  exact st_iast F hd h1.1 h1.2 hk k
theorem so_last (F : FR X opq adK adV scr y A p R s m args meth c) {pc len : Nat} {ls : List Value} {M : hM} {cells slots : Nat} {r : Instr} (hd : decode (mbytes y) (pcA y pc) = .ok (r, len))  (hk : lnk (mnm y).cls (mpcs y) pc (pcA y pc) len r (.lastore) = true) {st : List Value} {pc' : Nat} {ls' st' : List Value} {M' : hM} (h : sstep X (.lastore) pc ls st M = some (pc', ls', st', M')) (hcc : cells + (nc M'.2.2.2.2 - nc M.2.2.2.2) ≤ R.cells) (hss : slots + (ns M'.2.2.2.2 - ns M.2.2.2.2) ≤ R.slots) (k : PT X opq adK adV scr D yA A L0 dom0 p l e R s m args below meth c Q y pc' ls' st' M' (cells + (nc M'.2.2.2.2 - nc M.2.2.2.2)) (slots + (ns M'.2.2.2.2 - ns M.2.2.2.2))) : PT X opq adK adV scr D yA A L0 dom0 p l e R s m args below meth c Q y pc ls st M cells slots := by
  simp only [sstep] at h
  split at h <;> first | (cases h; done) | skip
  obtain ⟨h1, h2⟩ := cond_some h
  cases h2
  simp only [Nat.sub_self, Nat.add_zero] at k hcc hss
  rw [Bool.and_eq_true] at h1
  exact st_last F hd h1.1 h1.2 hk k
theorem so_zast (F : FR X opq adK adV scr y A p R s m args meth c) {pc len : Nat} {ls : List Value} {M : hM} {cells slots : Nat} {r : Instr} (hd : decode (mbytes y) (pcA y pc) = .ok (r, len))  (hk : lnk (mnm y).cls (mpcs y) pc (pcA y pc) len r (.bastore) = true) {st : List Value} {pc' : Nat} {ls' st' : List Value} {M' : hM} (h : sstep X (.bastore) pc ls st M = some (pc', ls', st', M')) (hcc : cells + (nc M'.2.2.2.2 - nc M.2.2.2.2) ≤ R.cells) (hss : slots + (ns M'.2.2.2.2 - ns M.2.2.2.2) ≤ R.slots) (k : PT X opq adK adV scr D yA A L0 dom0 p l e R s m args below meth c Q y pc' ls' st' M' (cells + (nc M'.2.2.2.2 - nc M.2.2.2.2)) (slots + (ns M'.2.2.2.2 - ns M.2.2.2.2))) : PT X opq adK adV scr D yA A L0 dom0 p l e R s m args below meth c Q y pc ls st M cells slots := by
  simp only [sstep] at h
  split at h <;> first | (cases h; done) | skip
  obtain ⟨h1, h2⟩ := cond_some h
  cases h2
  simp only [Nat.sub_self, Nat.add_zero] at k hcc hss
  rw [Bool.and_eq_true, Bool.and_eq_true] at h1
  exact st_zast F hd (or01 h1.2) h1.1.1 h1.1.2 hk k
theorem so_aald (F : FR X opq adK adV scr y A p R s m args meth c) {pc len : Nat} {ls : List Value} {M : hM} {cells slots : Nat} {r : Instr} (hd : decode (mbytes y) (pcA y pc) = .ok (r, len))  (hk : lnk (mnm y).cls (mpcs y) pc (pcA y pc) len r (.aaload) = true) {st : List Value} {pc' : Nat} {ls' st' : List Value} {M' : hM} (h : sstep X (.aaload) pc ls st M = some (pc', ls', st', M')) (hcc : cells + (nc M'.2.2.2.2 - nc M.2.2.2.2) ≤ R.cells) (hss : slots + (ns M'.2.2.2.2 - ns M.2.2.2.2) ≤ R.slots) (k : PT X opq adK adV scr D yA A L0 dom0 p l e R s m args below meth c Q y pc' ls' st' M' (cells + (nc M'.2.2.2.2 - nc M.2.2.2.2)) (slots + (ns M'.2.2.2.2 - ns M.2.2.2.2))) : PT X opq adK adV scr D yA A L0 dom0 p l e R s m args below meth c Q y pc ls st M cells slots := by
  simp only [sstep] at h
  split at h <;> first | (cases h; done) | skip
  split at h <;> first | (cases h; done) | skip
  rename_i hkd
  obtain ⟨h1, h2⟩ := cond_some h
  cases h2
  simp only [Nat.sub_self, Nat.add_zero] at k hcc hss
  rw [Bool.and_eq_true, Nat.ble_eq] at h1
  exact st_aald F hd hkd h1.1 h1.2 hk k
theorem so_aast (F : FR X opq adK adV scr y A p R s m args meth c) {pc len : Nat} {ls : List Value} {M : hM} {cells slots : Nat} {r : Instr} (hd : decode (mbytes y) (pcA y pc) = .ok (r, len))  (hk : lnk (mnm y).cls (mpcs y) pc (pcA y pc) len r (.aastore) = true) {st : List Value} {pc' : Nat} {ls' st' : List Value} {M' : hM} (h : sstep X (.aastore) pc ls st M = some (pc', ls', st', M')) (hcc : cells + (nc M'.2.2.2.2 - nc M.2.2.2.2) ≤ R.cells) (hss : slots + (ns M'.2.2.2.2 - ns M.2.2.2.2) ≤ R.slots) (k : PT X opq adK adV scr D yA A L0 dom0 p l e R s m args below meth c Q y pc' ls' st' M' (cells + (nc M'.2.2.2.2 - nc M.2.2.2.2)) (slots + (ns M'.2.2.2.2 - ns M.2.2.2.2))) : PT X opq adK adV scr D yA A L0 dom0 p l e R s m args below meth c Q y pc ls st M cells slots := by
  simp only [sstep] at h
  split at h <;> first | (cases h; done) | skip
  split at h <;> first | (cases h; done) | skip
  rename_i hkd hkx
  obtain ⟨h1, h2⟩ := cond_some h
  cases h2
  simp only [Nat.sub_self, Nat.add_zero] at k hcc hss
  rw [Bool.and_eq_true, Bool.and_eq_true, Nat.blt_eq] at h1
  exact st_aast F hd hkd hkx (Nat.eq_of_beq_eq_true h1.1.1) h1.1.2 h1.2 hk k
theorem so_alen (F : FR X opq adK adV scr y A p R s m args meth c) {pc len : Nat} {ls : List Value} {M : hM} {cells slots : Nat} {r : Instr} (hd : decode (mbytes y) (pcA y pc) = .ok (r, len))  (hk : lnk (mnm y).cls (mpcs y) pc (pcA y pc) len r (.arraylength) = true) {st : List Value} {pc' : Nat} {ls' st' : List Value} {M' : hM} (h : sstep X (.arraylength) pc ls st M = some (pc', ls', st', M')) (hcc : cells + (nc M'.2.2.2.2 - nc M.2.2.2.2) ≤ R.cells) (hss : slots + (ns M'.2.2.2.2 - ns M.2.2.2.2) ≤ R.slots) (k : PT X opq adK adV scr D yA A L0 dom0 p l e R s m args below meth c Q y pc' ls' st' M' (cells + (nc M'.2.2.2.2 - nc M.2.2.2.2)) (slots + (ns M'.2.2.2.2 - ns M.2.2.2.2))) : PT X opq adK adV scr D yA A L0 dom0 p l e R s m args below meth c Q y pc ls st M cells slots := by
  simp only [sstep] at h
  split at h <;> first | (cases h; done) | skip
  split at h <;> first | (cases h; done) | skip
  rename_i hkd
  cases h
  simp only [Nat.sub_self, Nat.add_zero] at k hcc hss
  exact st_alen F hd hkd hk k
theorem PT_zone {y pc : Nat} {ls st : List Value} {M : hM} {cells slots ci : Nat} (k : PT X opq adK adV scr D yA A L0 dom0 p l e R s m args below meth c Q y pc ls st (M.1, M.2.1, M.2.2.1, M.2.2.2.1, zs ci M.2.2.2.2) cells slots) : PT X opq adK adV scr D yA A L0 dom0 p l e R s m args below meth c Q y pc ls st M cells slots := by
  intro L dom H locs lsr hR hV ho
  exact k L dom H locs lsr hR hV ho
theorem so_new (F : FR X opq adK adV scr y A p R s m args meth c) {pc len : Nat} {ls : List Value} {M : hM} {cells slots : Nat} {r : Instr} (hd : decode (mbytes y) (pcA y pc) = .ok (r, len)) {ci : Nat} (hk : lnk (mnm y).cls (mpcs y) pc (pcA y pc) len r (.new ci) = true) {st : List Value} {pc' : Nat} {ls' st' : List Value} {M' : hM} (h : sstep X (.new ci) pc ls st M = some (pc', ls', st', M')) (hcc : cells + (nc M'.2.2.2.2 - nc M.2.2.2.2) ≤ R.cells) (hss : slots + (ns M'.2.2.2.2 - ns M.2.2.2.2) ≤ R.slots) (k : PT X opq adK adV scr D yA A L0 dom0 p l e R s m args below meth c Q y pc' ls' st' M' (cells + (nc M'.2.2.2.2 - nc M.2.2.2.2)) (slots + (ns M'.2.2.2.2 - ns M.2.2.2.2))) : PT X opq adK adV scr D yA A L0 dom0 p l e R s m args below meth c Q y pc ls st M cells slots := by
  simp only [sstep] at h
  obtain ⟨h1, h2⟩ := cond_some h
  cases h2
  rw [Bool.and_eq_true] at h1
  have e1 : nc (bmp (zs ci M.2.2.2.2) 1 (nf ci)) - nc M.2.2.2.2 = 1 := by
    have := (nc_bmp (zs ci M.2.2.2.2) 1 (nf ci)).1
    have e : nc (zs ci M.2.2.2.2) = nc M.2.2.2.2 := rfl
    omega
  have e2 : ns (bmp (zs ci M.2.2.2.2) 1 (nf ci)) - ns M.2.2.2.2 = nf ci := by
    have := (nc_bmp (zs ci M.2.2.2.2) 1 (nf ci)).2
    have e : ns (zs ci M.2.2.2.2) = ns M.2.2.2.2 := rfl
    omega
  simp only [e1, e2] at k hcc hss
  exact PT_zone (ci := ci) (st_new F hd h1.1 h1.2 hcc hss hk k)
theorem so_newa (F : FR X opq adK adV scr y A p R s m args meth c) {pc len : Nat} {ls : List Value} {M : hM} {cells slots : Nat} {r : Instr} (hd : decode (mbytes y) (pcA y pc) = .ok (r, len)) {at_ : ArrayType} (hk : lnk (mnm y).cls (mpcs y) pc (pcA y pc) len r (.newarray at_) = true) {st : List Value} {pc' : Nat} {ls' st' : List Value} {M' : hM} (h : sstep X (.newarray at_) pc ls st M = some (pc', ls', st', M')) (hcc : cells + (nc M'.2.2.2.2 - nc M.2.2.2.2) ≤ R.cells) (hss : slots + (ns M'.2.2.2.2 - ns M.2.2.2.2) ≤ R.slots) (k : PT X opq adK adV scr D yA A L0 dom0 p l e R s m args below meth c Q y pc' ls' st' M' (cells + (nc M'.2.2.2.2 - nc M.2.2.2.2)) (slots + (ns M'.2.2.2.2 - ns M.2.2.2.2))) : PT X opq adK adV scr D yA A L0 dom0 p l e R s m args below meth c Q y pc ls st M cells slots := by
  simp only [sstep] at h
  split at h <;> first | (cases h; done) | skip
  rename_i t n r0 hat
  cases hin : inB n 65537 <;> rw [hin] at h <;> simp only [cond_true, cond_false] at h <;> first | (cases h; done) | skip
  split at h <;> first | (cases h; done) | skip
  rename_i N' G' hmk
  cases h
  obtain ⟨-, -, -, -, -, rfl⟩ := mkA_ok hmk
  simp only [(nc_bmp _ _ _).1, (nc_bmp _ _ _).2, Nat.add_sub_cancel_left] at k hcc hss
  exact st_newa F hd hat hin hmk hcc hss hk k
theorem so_anewa (F : FR X opq adK adV scr y A p R s m args meth c) {pc len : Nat} {ls : List Value} {M : hM} {cells slots : Nat} {r : Instr} (hd : decode (mbytes y) (pcA y pc) = .ok (r, len)) {t : Nat} (hk : lnk (mnm y).cls (mpcs y) pc (pcA y pc) len r (.anewarray t) = true) {st : List Value} {pc' : Nat} {ls' st' : List Value} {M' : hM} (h : sstep X (.anewarray t) pc ls st M = some (pc', ls', st', M')) (hcc : cells + (nc M'.2.2.2.2 - nc M.2.2.2.2) ≤ R.cells) (hss : slots + (ns M'.2.2.2.2 - ns M.2.2.2.2) ≤ R.slots) (k : PT X opq adK adV scr D yA A L0 dom0 p l e R s m args below meth c Q y pc' ls' st' M' (cells + (nc M'.2.2.2.2 - nc M.2.2.2.2)) (slots + (ns M'.2.2.2.2 - ns M.2.2.2.2))) : PT X opq adK adV scr D yA A L0 dom0 p l e R s m args below meth c Q y pc ls st M cells slots := by
  simp only [sstep] at h
  split at h <;> first | (cases h; done) | skip
  rename_i n r0
  cases hin : (inB n 65537 && Nat.ble 3 t && Nat.ble t 6) <;> rw [hin] at h <;> simp only [cond_true, cond_false] at h <;> first | (cases h; done) | skip
  split at h <;> first | (cases h; done) | skip
  rename_i N' G' hmk
  cases h
  obtain ⟨-, -, -, -, -, rfl⟩ := mkA_ok hmk
  rw [Bool.and_eq_true, Bool.and_eq_true, Nat.ble_eq, Nat.ble_eq] at hin
  simp only [(nc_bmp _ _ _).1, (nc_bmp _ _ _).2, Nat.add_sub_cancel_left] at k hcc hss
  exact st_anewa F hd hin.1.2 hin.2 hin.1.1 hmk hcc hss hk k
theorem so_cc (F : FR X opq adK adV scr y A p R s m args meth c) {pc len : Nat} {ls : List Value} {M : hM} {cells slots : Nat} {r : Instr} (hd : decode (mbytes y) (pcA y pc) = .ok (r, len)) {n : Nat} (hk : lnk (mnm y).cls (mpcs y) pc (pcA y pc) len r (.checkcast n) = true) {st : List Value} {pc' : Nat} {ls' st' : List Value} {M' : hM} (h : sstep X (.checkcast n) pc ls st M = some (pc', ls', st', M')) (hcc : cells + (nc M'.2.2.2.2 - nc M.2.2.2.2) ≤ R.cells) (hss : slots + (ns M'.2.2.2.2 - ns M.2.2.2.2) ≤ R.slots) (k : PT X opq adK adV scr D yA A L0 dom0 p l e R s m args below meth c Q y pc' ls' st' M' (cells + (nc M'.2.2.2.2 - nc M.2.2.2.2)) (slots + (ns M'.2.2.2.2 - ns M.2.2.2.2))) : PT X opq adK adV scr D yA A L0 dom0 p l e R s m args below meth c Q y pc ls st M cells slots := by
  simp only [sstep] at h
  split at h <;> first | (cases h; done) | skip
  · obtain ⟨h1, h2⟩ := cond_some h
    cases h2
    simp only [Nat.sub_self, Nat.add_zero] at k hcc hss
    exact st_oinit F hd (Nat.ble_eq.mp h1) hk k
  · obtain ⟨h1, h2⟩ := cond_some h
    cases h2
    simp only [Nat.sub_self, Nat.add_zero] at k hcc hss
    simp only [Bool.and_eq_true, Nat.ble_eq] at h1
    obtain ⟨⟨⟨⟨⟨⟨⟨a1, a2⟩, a3⟩, a4⟩, a5⟩, a6⟩, a7⟩, a8⟩ := h1
    exact st_acopy F hd a1 a2 a3 a4 a5 a6 a7 a8 hk k
  · obtain ⟨h1, h2⟩ := cond_some h
    cases h2
    simp only [Nat.sub_self, Nat.add_zero] at k hcc hss
    exact st_imax F hcc hss hd (Nat.ble_eq.mp h1) hk k
  · obtain ⟨h1, h2⟩ := cond_some h
    cases h2
    simp only [Nat.sub_self, Nat.add_zero] at k hcc hss
    exact st_imin F hcc hss hd (Nat.ble_eq.mp h1) hk k
  · obtain ⟨h1, h2⟩ := cond_some h
    cases h2
    simp only [Nat.sub_self, Nat.add_zero] at k hcc hss
    exact st_labs F hcc hss hd (Nat.ble_eq.mp h1) hk k
  · obtain ⟨h1, h2⟩ := cond_some h
    cases h2
    simp only [Nat.sub_self, Nat.add_zero] at k hcc hss
    exact st_lmax F hcc hss hd (Nat.ble_eq.mp h1) hk k

theorem so_iadd (F : FR X opq adK adV scr y A p R s m args meth c) {pc len : Nat} {ls : List Value} {M : hM} {cells slots : Nat} {r : Instr} (hd : decode (mbytes y) (pcA y pc) = .ok (r, len))  (hk : lnk (mnm y).cls (mpcs y) pc (pcA y pc) len r (.iadd) = true) {st : List Value} {pc' : Nat} {ls' st' : List Value} {M' : hM} (h : sstep X (.iadd) pc ls st M = some (pc', ls', st', M')) (hcc : cells + (nc M'.2.2.2.2 - nc M.2.2.2.2) ≤ R.cells) (hss : slots + (ns M'.2.2.2.2 - ns M.2.2.2.2) ≤ R.slots) (k : PT X opq adK adV scr D yA A L0 dom0 p l e R s m args below meth c Q y pc' ls' st' M' (cells + (nc M'.2.2.2.2 - nc M.2.2.2.2)) (slots + (ns M'.2.2.2.2 - ns M.2.2.2.2))) : PT X opq adK adV scr D yA A L0 dom0 p l e R s m args below meth c Q y pc ls st M cells slots := by
  simp only [sstep] at h
  split at h
  all_goals first
    | (cases h; done)
    | (simp only [iop] at h; cases h; simp only [Nat.sub_self, Nat.add_zero] at k hcc hss; exact st_iadd F hd hk k)
    | (obtain ⟨w, h1, h2⟩ := pushO_ok h; cases h1; done)
    | (simp only [iop] at h; obtain ⟨w, h1, h2⟩ := pushO_ok h; cases h1; done)
theorem so_isub (F : FR X opq adK adV scr y A p R s m args meth c) {pc len : Nat} {ls : List Value} {M : hM} {cells slots : Nat} {r : Instr} (hd : decode (mbytes y) (pcA y pc) = .ok (r, len))  (hk : lnk (mnm y).cls (mpcs y) pc (pcA y pc) len r (.isub) = true) {st : List Value} {pc' : Nat} {ls' st' : List Value} {M' : hM} (h : sstep X (.isub) pc ls st M = some (pc', ls', st', M')) (hcc : cells + (nc M'.2.2.2.2 - nc M.2.2.2.2) ≤ R.cells) (hss : slots + (ns M'.2.2.2.2 - ns M.2.2.2.2) ≤ R.slots) (k : PT X opq adK adV scr D yA A L0 dom0 p l e R s m args below meth c Q y pc' ls' st' M' (cells + (nc M'.2.2.2.2 - nc M.2.2.2.2)) (slots + (ns M'.2.2.2.2 - ns M.2.2.2.2))) : PT X opq adK adV scr D yA A L0 dom0 p l e R s m args below meth c Q y pc ls st M cells slots := by
  simp only [sstep] at h
  split at h
  all_goals first
    | (cases h; done)
    | (simp only [iop] at h; cases h; simp only [Nat.sub_self, Nat.add_zero] at k hcc hss; exact st_isub F hd hk k)
    | (obtain ⟨w, h1, h2⟩ := pushO_ok h; cases h1; done)
    | (simp only [iop] at h; obtain ⟨w, h1, h2⟩ := pushO_ok h; cases h1; done)
theorem so_imul (F : FR X opq adK adV scr y A p R s m args meth c) {pc len : Nat} {ls : List Value} {M : hM} {cells slots : Nat} {r : Instr} (hd : decode (mbytes y) (pcA y pc) = .ok (r, len))  (hk : lnk (mnm y).cls (mpcs y) pc (pcA y pc) len r (.imul) = true) {st : List Value} {pc' : Nat} {ls' st' : List Value} {M' : hM} (h : sstep X (.imul) pc ls st M = some (pc', ls', st', M')) (hcc : cells + (nc M'.2.2.2.2 - nc M.2.2.2.2) ≤ R.cells) (hss : slots + (ns M'.2.2.2.2 - ns M.2.2.2.2) ≤ R.slots) (k : PT X opq adK adV scr D yA A L0 dom0 p l e R s m args below meth c Q y pc' ls' st' M' (cells + (nc M'.2.2.2.2 - nc M.2.2.2.2)) (slots + (ns M'.2.2.2.2 - ns M.2.2.2.2))) : PT X opq adK adV scr D yA A L0 dom0 p l e R s m args below meth c Q y pc ls st M cells slots := by
  simp only [sstep] at h
  split at h
  all_goals first
    | (cases h; done)
    | (simp only [iop] at h; cases h; simp only [Nat.sub_self, Nat.add_zero] at k hcc hss; exact st_imul F hd hk k)
    | (obtain ⟨w, h1, h2⟩ := pushO_ok h; cases h1; done)
    | (simp only [iop] at h; obtain ⟨w, h1, h2⟩ := pushO_ok h; cases h1; done)
theorem so_iand (F : FR X opq adK adV scr y A p R s m args meth c) {pc len : Nat} {ls : List Value} {M : hM} {cells slots : Nat} {r : Instr} (hd : decode (mbytes y) (pcA y pc) = .ok (r, len))  (hk : lnk (mnm y).cls (mpcs y) pc (pcA y pc) len r (.iand) = true) {st : List Value} {pc' : Nat} {ls' st' : List Value} {M' : hM} (h : sstep X (.iand) pc ls st M = some (pc', ls', st', M')) (hcc : cells + (nc M'.2.2.2.2 - nc M.2.2.2.2) ≤ R.cells) (hss : slots + (ns M'.2.2.2.2 - ns M.2.2.2.2) ≤ R.slots) (k : PT X opq adK adV scr D yA A L0 dom0 p l e R s m args below meth c Q y pc' ls' st' M' (cells + (nc M'.2.2.2.2 - nc M.2.2.2.2)) (slots + (ns M'.2.2.2.2 - ns M.2.2.2.2))) : PT X opq adK adV scr D yA A L0 dom0 p l e R s m args below meth c Q y pc ls st M cells slots := by
  simp only [sstep] at h
  split at h
  all_goals first
    | (cases h; done)
    | (simp only [iop] at h; cases h; simp only [Nat.sub_self, Nat.add_zero] at k hcc hss; exact st_iand F hd hk k)
    | (obtain ⟨w, h1, h2⟩ := pushO_ok h; cases h1; done)
    | (simp only [iop] at h; obtain ⟨w, h1, h2⟩ := pushO_ok h; cases h1; done)
theorem so_ior (F : FR X opq adK adV scr y A p R s m args meth c) {pc len : Nat} {ls : List Value} {M : hM} {cells slots : Nat} {r : Instr} (hd : decode (mbytes y) (pcA y pc) = .ok (r, len))  (hk : lnk (mnm y).cls (mpcs y) pc (pcA y pc) len r (.ior) = true) {st : List Value} {pc' : Nat} {ls' st' : List Value} {M' : hM} (h : sstep X (.ior) pc ls st M = some (pc', ls', st', M')) (hcc : cells + (nc M'.2.2.2.2 - nc M.2.2.2.2) ≤ R.cells) (hss : slots + (ns M'.2.2.2.2 - ns M.2.2.2.2) ≤ R.slots) (k : PT X opq adK adV scr D yA A L0 dom0 p l e R s m args below meth c Q y pc' ls' st' M' (cells + (nc M'.2.2.2.2 - nc M.2.2.2.2)) (slots + (ns M'.2.2.2.2 - ns M.2.2.2.2))) : PT X opq adK adV scr D yA A L0 dom0 p l e R s m args below meth c Q y pc ls st M cells slots := by
  simp only [sstep] at h
  split at h
  all_goals first
    | (cases h; done)
    | (simp only [iop] at h; cases h; simp only [Nat.sub_self, Nat.add_zero] at k hcc hss; exact st_ior F hd hk k)
    | (obtain ⟨w, h1, h2⟩ := pushO_ok h; cases h1; done)
    | (simp only [iop] at h; obtain ⟨w, h1, h2⟩ := pushO_ok h; cases h1; done)
theorem so_ixor (F : FR X opq adK adV scr y A p R s m args meth c) {pc len : Nat} {ls : List Value} {M : hM} {cells slots : Nat} {r : Instr} (hd : decode (mbytes y) (pcA y pc) = .ok (r, len))  (hk : lnk (mnm y).cls (mpcs y) pc (pcA y pc) len r (.ixor) = true) {st : List Value} {pc' : Nat} {ls' st' : List Value} {M' : hM} (h : sstep X (.ixor) pc ls st M = some (pc', ls', st', M')) (hcc : cells + (nc M'.2.2.2.2 - nc M.2.2.2.2) ≤ R.cells) (hss : slots + (ns M'.2.2.2.2 - ns M.2.2.2.2) ≤ R.slots) (k : PT X opq adK adV scr D yA A L0 dom0 p l e R s m args below meth c Q y pc' ls' st' M' (cells + (nc M'.2.2.2.2 - nc M.2.2.2.2)) (slots + (ns M'.2.2.2.2 - ns M.2.2.2.2))) : PT X opq adK adV scr D yA A L0 dom0 p l e R s m args below meth c Q y pc ls st M cells slots := by
  simp only [sstep] at h
  split at h
  all_goals first
    | (cases h; done)
    | (simp only [iop] at h; cases h; simp only [Nat.sub_self, Nat.add_zero] at k hcc hss; exact st_ixor F hd hk k)
    | (obtain ⟨w, h1, h2⟩ := pushO_ok h; cases h1; done)
    | (simp only [iop] at h; obtain ⟨w, h1, h2⟩ := pushO_ok h; cases h1; done)
theorem so_ishl (F : FR X opq adK adV scr y A p R s m args meth c) {pc len : Nat} {ls : List Value} {M : hM} {cells slots : Nat} {r : Instr} (hd : decode (mbytes y) (pcA y pc) = .ok (r, len))  (hk : lnk (mnm y).cls (mpcs y) pc (pcA y pc) len r (.ishl) = true) {st : List Value} {pc' : Nat} {ls' st' : List Value} {M' : hM} (h : sstep X (.ishl) pc ls st M = some (pc', ls', st', M')) (hcc : cells + (nc M'.2.2.2.2 - nc M.2.2.2.2) ≤ R.cells) (hss : slots + (ns M'.2.2.2.2 - ns M.2.2.2.2) ≤ R.slots) (k : PT X opq adK adV scr D yA A L0 dom0 p l e R s m args below meth c Q y pc' ls' st' M' (cells + (nc M'.2.2.2.2 - nc M.2.2.2.2)) (slots + (ns M'.2.2.2.2 - ns M.2.2.2.2))) : PT X opq adK adV scr D yA A L0 dom0 p l e R s m args below meth c Q y pc ls st M cells slots := by
  simp only [sstep] at h
  split at h
  all_goals first
    | (cases h; done)
    | (simp only [iop] at h; cases h; simp only [Nat.sub_self, Nat.add_zero] at k hcc hss; exact st_ishl F hd hk k)
    | (obtain ⟨w, h1, h2⟩ := pushO_ok h; cases h1; done)
    | (simp only [iop] at h; obtain ⟨w, h1, h2⟩ := pushO_ok h; cases h1; done)
theorem so_ishr (F : FR X opq adK adV scr y A p R s m args meth c) {pc len : Nat} {ls : List Value} {M : hM} {cells slots : Nat} {r : Instr} (hd : decode (mbytes y) (pcA y pc) = .ok (r, len))  (hk : lnk (mnm y).cls (mpcs y) pc (pcA y pc) len r (.ishr) = true) {st : List Value} {pc' : Nat} {ls' st' : List Value} {M' : hM} (h : sstep X (.ishr) pc ls st M = some (pc', ls', st', M')) (hcc : cells + (nc M'.2.2.2.2 - nc M.2.2.2.2) ≤ R.cells) (hss : slots + (ns M'.2.2.2.2 - ns M.2.2.2.2) ≤ R.slots) (k : PT X opq adK adV scr D yA A L0 dom0 p l e R s m args below meth c Q y pc' ls' st' M' (cells + (nc M'.2.2.2.2 - nc M.2.2.2.2)) (slots + (ns M'.2.2.2.2 - ns M.2.2.2.2))) : PT X opq adK adV scr D yA A L0 dom0 p l e R s m args below meth c Q y pc ls st M cells slots := by
  simp only [sstep] at h
  split at h
  all_goals first
    | (cases h; done)
    | (simp only [iop] at h; cases h; simp only [Nat.sub_self, Nat.add_zero] at k hcc hss; exact st_ishr F hd hk k)
    | (obtain ⟨w, h1, h2⟩ := pushO_ok h; cases h1; done)
    | (simp only [iop] at h; obtain ⟨w, h1, h2⟩ := pushO_ok h; cases h1; done)
theorem so_idiv (F : FR X opq adK adV scr y A p R s m args meth c) {pc len : Nat} {ls : List Value} {M : hM} {cells slots : Nat} {r : Instr} (hd : decode (mbytes y) (pcA y pc) = .ok (r, len))  (hk : lnk (mnm y).cls (mpcs y) pc (pcA y pc) len r (.idiv) = true) {st : List Value} {pc' : Nat} {ls' st' : List Value} {M' : hM} (h : sstep X (.idiv) pc ls st M = some (pc', ls', st', M')) (hcc : cells + (nc M'.2.2.2.2 - nc M.2.2.2.2) ≤ R.cells) (hss : slots + (ns M'.2.2.2.2 - ns M.2.2.2.2) ≤ R.slots) (k : PT X opq adK adV scr D yA A L0 dom0 p l e R s m args below meth c Q y pc' ls' st' M' (cells + (nc M'.2.2.2.2 - nc M.2.2.2.2)) (slots + (ns M'.2.2.2.2 - ns M.2.2.2.2))) : PT X opq adK adV scr D yA A L0 dom0 p l e R s m args below meth c Q y pc ls st M cells slots := by
  simp only [sstep] at h
  split at h
  all_goals first
    | (cases h; done)
    | (rename_i z x r0
       by_cases hz : z = 0
       · simp only [iop, if_pos hz] at h
         cases h
       · simp only [iop, if_neg hz] at h
         cases h
         simp only [Nat.sub_self, Nat.add_zero] at k hcc hss
         exact st_idiv F hd hz hk k)
    | (obtain ⟨w, h1, h2⟩ := pushO_ok h; cases h1; done)
    | (simp only [iop] at h; obtain ⟨w, h1, h2⟩ := pushO_ok h; cases h1; done)
theorem so_irem (F : FR X opq adK adV scr y A p R s m args meth c) {pc len : Nat} {ls : List Value} {M : hM} {cells slots : Nat} {r : Instr} (hd : decode (mbytes y) (pcA y pc) = .ok (r, len))  (hk : lnk (mnm y).cls (mpcs y) pc (pcA y pc) len r (.irem) = true) {st : List Value} {pc' : Nat} {ls' st' : List Value} {M' : hM} (h : sstep X (.irem) pc ls st M = some (pc', ls', st', M')) (hcc : cells + (nc M'.2.2.2.2 - nc M.2.2.2.2) ≤ R.cells) (hss : slots + (ns M'.2.2.2.2 - ns M.2.2.2.2) ≤ R.slots) (k : PT X opq adK adV scr D yA A L0 dom0 p l e R s m args below meth c Q y pc' ls' st' M' (cells + (nc M'.2.2.2.2 - nc M.2.2.2.2)) (slots + (ns M'.2.2.2.2 - ns M.2.2.2.2))) : PT X opq adK adV scr D yA A L0 dom0 p l e R s m args below meth c Q y pc ls st M cells slots := by
  simp only [sstep] at h
  split at h
  all_goals first
    | (cases h; done)
    | (rename_i z x r0
       by_cases hz : z = 0
       · simp only [iop, if_pos hz] at h
         cases h
       · simp only [iop, if_neg hz] at h
         cases h
         simp only [Nat.sub_self, Nat.add_zero] at k hcc hss
         exact st_irem F hd hz hk k)
    | (obtain ⟨w, h1, h2⟩ := pushO_ok h; cases h1; done)
    | (simp only [iop] at h; obtain ⟨w, h1, h2⟩ := pushO_ok h; cases h1; done)
theorem so_ineg (F : FR X opq adK adV scr y A p R s m args meth c) {pc len : Nat} {ls : List Value} {M : hM} {cells slots : Nat} {r : Instr} (hd : decode (mbytes y) (pcA y pc) = .ok (r, len))  (hk : lnk (mnm y).cls (mpcs y) pc (pcA y pc) len r (.ineg) = true) {st : List Value} {pc' : Nat} {ls' st' : List Value} {M' : hM} (h : sstep X (.ineg) pc ls st M = some (pc', ls', st', M')) (hcc : cells + (nc M'.2.2.2.2 - nc M.2.2.2.2) ≤ R.cells) (hss : slots + (ns M'.2.2.2.2 - ns M.2.2.2.2) ≤ R.slots) (k : PT X opq adK adV scr D yA A L0 dom0 p l e R s m args below meth c Q y pc' ls' st' M' (cells + (nc M'.2.2.2.2 - nc M.2.2.2.2)) (slots + (ns M'.2.2.2.2 - ns M.2.2.2.2))) : PT X opq adK adV scr D yA A L0 dom0 p l e R s m args below meth c Q y pc ls st M cells slots := by
  simp only [sstep] at h
  split at h
  all_goals first
    | (cases h; done)
    | (simp only [iop] at h; obtain ⟨w, h1, h2⟩ := pushO_ok h; cases h2; cases h1; simp only [Nat.sub_self, Nat.add_zero] at k hcc hss; exact st_ineg F hd hk k)
    | (obtain ⟨w, h1, h2⟩ := pushO_ok h; cases h2; cases h1; simp only [Nat.sub_self, Nat.add_zero] at k hcc hss; exact st_ineg F hd hk k)
    | (obtain ⟨w, h1, h2⟩ := pushO_ok h; cases h1; done)
    | (simp only [iop] at h; obtain ⟨w, h1, h2⟩ := pushO_ok h; cases h1; done)
theorem so_i2b (F : FR X opq adK adV scr y A p R s m args meth c) {pc len : Nat} {ls : List Value} {M : hM} {cells slots : Nat} {r : Instr} (hd : decode (mbytes y) (pcA y pc) = .ok (r, len))  (hk : lnk (mnm y).cls (mpcs y) pc (pcA y pc) len r (.i2b) = true) {st : List Value} {pc' : Nat} {ls' st' : List Value} {M' : hM} (h : sstep X (.i2b) pc ls st M = some (pc', ls', st', M')) (hcc : cells + (nc M'.2.2.2.2 - nc M.2.2.2.2) ≤ R.cells) (hss : slots + (ns M'.2.2.2.2 - ns M.2.2.2.2) ≤ R.slots) (k : PT X opq adK adV scr D yA A L0 dom0 p l e R s m args below meth c Q y pc' ls' st' M' (cells + (nc M'.2.2.2.2 - nc M.2.2.2.2)) (slots + (ns M'.2.2.2.2 - ns M.2.2.2.2))) : PT X opq adK adV scr D yA A L0 dom0 p l e R s m args below meth c Q y pc ls st M cells slots := by
  simp only [sstep] at h
  split at h
  all_goals first
    | (cases h; done)
    | (simp only [iop] at h; obtain ⟨w, h1, h2⟩ := pushO_ok h; cases h2; cases h1; simp only [Nat.sub_self, Nat.add_zero] at k hcc hss; exact st_i2b F hd hk k)
    | (obtain ⟨w, h1, h2⟩ := pushO_ok h; cases h2; cases h1; simp only [Nat.sub_self, Nat.add_zero] at k hcc hss; exact st_i2b F hd hk k)
    | (obtain ⟨w, h1, h2⟩ := pushO_ok h; cases h1; done)
    | (simp only [iop] at h; obtain ⟨w, h1, h2⟩ := pushO_ok h; cases h1; done)
theorem so_i2s (F : FR X opq adK adV scr y A p R s m args meth c) {pc len : Nat} {ls : List Value} {M : hM} {cells slots : Nat} {r : Instr} (hd : decode (mbytes y) (pcA y pc) = .ok (r, len))  (hk : lnk (mnm y).cls (mpcs y) pc (pcA y pc) len r (.i2s) = true) {st : List Value} {pc' : Nat} {ls' st' : List Value} {M' : hM} (h : sstep X (.i2s) pc ls st M = some (pc', ls', st', M')) (hcc : cells + (nc M'.2.2.2.2 - nc M.2.2.2.2) ≤ R.cells) (hss : slots + (ns M'.2.2.2.2 - ns M.2.2.2.2) ≤ R.slots) (k : PT X opq adK adV scr D yA A L0 dom0 p l e R s m args below meth c Q y pc' ls' st' M' (cells + (nc M'.2.2.2.2 - nc M.2.2.2.2)) (slots + (ns M'.2.2.2.2 - ns M.2.2.2.2))) : PT X opq adK adV scr D yA A L0 dom0 p l e R s m args below meth c Q y pc ls st M cells slots := by
  simp only [sstep] at h
  split at h
  all_goals first
    | (cases h; done)
    | (simp only [iop] at h; obtain ⟨w, h1, h2⟩ := pushO_ok h; cases h2; cases h1; simp only [Nat.sub_self, Nat.add_zero] at k hcc hss; exact st_i2s F hd hk k)
    | (obtain ⟨w, h1, h2⟩ := pushO_ok h; cases h2; cases h1; simp only [Nat.sub_self, Nat.add_zero] at k hcc hss; exact st_i2s F hd hk k)
    | (obtain ⟨w, h1, h2⟩ := pushO_ok h; cases h1; done)
    | (simp only [iop] at h; obtain ⟨w, h1, h2⟩ := pushO_ok h; cases h1; done)
theorem so_i2c (F : FR X opq adK adV scr y A p R s m args meth c) {pc len : Nat} {ls : List Value} {M : hM} {cells slots : Nat} {r : Instr} (hd : decode (mbytes y) (pcA y pc) = .ok (r, len))  (hk : lnk (mnm y).cls (mpcs y) pc (pcA y pc) len r (.i2c) = true) {st : List Value} {pc' : Nat} {ls' st' : List Value} {M' : hM} (h : sstep X (.i2c) pc ls st M = some (pc', ls', st', M')) (hcc : cells + (nc M'.2.2.2.2 - nc M.2.2.2.2) ≤ R.cells) (hss : slots + (ns M'.2.2.2.2 - ns M.2.2.2.2) ≤ R.slots) (k : PT X opq adK adV scr D yA A L0 dom0 p l e R s m args below meth c Q y pc' ls' st' M' (cells + (nc M'.2.2.2.2 - nc M.2.2.2.2)) (slots + (ns M'.2.2.2.2 - ns M.2.2.2.2))) : PT X opq adK adV scr D yA A L0 dom0 p l e R s m args below meth c Q y pc ls st M cells slots := by
  simp only [sstep] at h
  split at h
  all_goals first
    | (cases h; done)
    | (simp only [iop] at h; obtain ⟨w, h1, h2⟩ := pushO_ok h; cases h2; cases h1; simp only [Nat.sub_self, Nat.add_zero] at k hcc hss; exact st_i2c F hd hk k)
    | (obtain ⟨w, h1, h2⟩ := pushO_ok h; cases h2; cases h1; simp only [Nat.sub_self, Nat.add_zero] at k hcc hss; exact st_i2c F hd hk k)
    | (obtain ⟨w, h1, h2⟩ := pushO_ok h; cases h1; done)
    | (simp only [iop] at h; obtain ⟨w, h1, h2⟩ := pushO_ok h; cases h1; done)
theorem so_i2l (F : FR X opq adK adV scr y A p R s m args meth c) {pc len : Nat} {ls : List Value} {M : hM} {cells slots : Nat} {r : Instr} (hd : decode (mbytes y) (pcA y pc) = .ok (r, len))  (hk : lnk (mnm y).cls (mpcs y) pc (pcA y pc) len r (.i2l) = true) {st : List Value} {pc' : Nat} {ls' st' : List Value} {M' : hM} (h : sstep X (.i2l) pc ls st M = some (pc', ls', st', M')) (hcc : cells + (nc M'.2.2.2.2 - nc M.2.2.2.2) ≤ R.cells) (hss : slots + (ns M'.2.2.2.2 - ns M.2.2.2.2) ≤ R.slots) (k : PT X opq adK adV scr D yA A L0 dom0 p l e R s m args below meth c Q y pc' ls' st' M' (cells + (nc M'.2.2.2.2 - nc M.2.2.2.2)) (slots + (ns M'.2.2.2.2 - ns M.2.2.2.2))) : PT X opq adK adV scr D yA A L0 dom0 p l e R s m args below meth c Q y pc ls st M cells slots := by
  simp only [sstep] at h
  split at h
  all_goals first
    | (cases h; done)
    | (simp only [iop] at h; obtain ⟨w, h1, h2⟩ := pushO_ok h; cases h2; cases h1; simp only [Nat.sub_self, Nat.add_zero] at k hcc hss; exact st_i2l F hd hk k)
    | (obtain ⟨w, h1, h2⟩ := pushO_ok h; cases h2; cases h1; simp only [Nat.sub_self, Nat.add_zero] at k hcc hss; exact st_i2l F hd hk k)
    | (obtain ⟨w, h1, h2⟩ := pushO_ok h; cases h1; done)
    | (simp only [iop] at h; obtain ⟨w, h1, h2⟩ := pushO_ok h; cases h1; done)
theorem so_ladd (F : FR X opq adK adV scr y A p R s m args meth c) {pc len : Nat} {ls : List Value} {M : hM} {cells slots : Nat} {r : Instr} (hd : decode (mbytes y) (pcA y pc) = .ok (r, len))  (hk : lnk (mnm y).cls (mpcs y) pc (pcA y pc) len r (.ladd) = true) {st : List Value} {pc' : Nat} {ls' st' : List Value} {M' : hM} (h : sstep X (.ladd) pc ls st M = some (pc', ls', st', M')) (hcc : cells + (nc M'.2.2.2.2 - nc M.2.2.2.2) ≤ R.cells) (hss : slots + (ns M'.2.2.2.2 - ns M.2.2.2.2) ≤ R.slots) (k : PT X opq adK adV scr D yA A L0 dom0 p l e R s m args below meth c Q y pc' ls' st' M' (cells + (nc M'.2.2.2.2 - nc M.2.2.2.2)) (slots + (ns M'.2.2.2.2 - ns M.2.2.2.2))) : PT X opq adK adV scr D yA A L0 dom0 p l e R s m args below meth c Q y pc ls st M cells slots := by
  simp only [sstep] at h
  split at h
  all_goals first
    | (cases h; done)
    | (simp only [lop] at h; cases h; simp only [Nat.sub_self, Nat.add_zero] at k hcc hss; exact st_ladd F hd hk k)
    | (obtain ⟨w, h1, h2⟩ := pushO_ok h; cases h1; done)
    | (simp only [iop] at h; obtain ⟨w, h1, h2⟩ := pushO_ok h; cases h1; done)
theorem so_lsub (F : FR X opq adK adV scr y A p R s m args meth c) {pc len : Nat} {ls : List Value} {M : hM} {cells slots : Nat} {r : Instr} (hd : decode (mbytes y) (pcA y pc) = .ok (r, len))  (hk : lnk (mnm y).cls (mpcs y) pc (pcA y pc) len r (.lsub) = true) {st : List Value} {pc' : Nat} {ls' st' : List Value} {M' : hM} (h : sstep X (.lsub) pc ls st M = some (pc', ls', st', M')) (hcc : cells + (nc M'.2.2.2.2 - nc M.2.2.2.2) ≤ R.cells) (hss : slots + (ns M'.2.2.2.2 - ns M.2.2.2.2) ≤ R.slots) (k : PT X opq adK adV scr D yA A L0 dom0 p l e R s m args below meth c Q y pc' ls' st' M' (cells + (nc M'.2.2.2.2 - nc M.2.2.2.2)) (slots + (ns M'.2.2.2.2 - ns M.2.2.2.2))) : PT X opq adK adV scr D yA A L0 dom0 p l e R s m args below meth c Q y pc ls st M cells slots := by
  simp only [sstep] at h
  split at h
  all_goals first
    | (cases h; done)
    | (simp only [lop] at h; cases h; simp only [Nat.sub_self, Nat.add_zero] at k hcc hss; exact st_lsub F hd hk k)
    | (obtain ⟨w, h1, h2⟩ := pushO_ok h; cases h1; done)
    | (simp only [iop] at h; obtain ⟨w, h1, h2⟩ := pushO_ok h; cases h1; done)
theorem so_lmul (F : FR X opq adK adV scr y A p R s m args meth c) {pc len : Nat} {ls : List Value} {M : hM} {cells slots : Nat} {r : Instr} (hd : decode (mbytes y) (pcA y pc) = .ok (r, len))  (hk : lnk (mnm y).cls (mpcs y) pc (pcA y pc) len r (.lmul) = true) {st : List Value} {pc' : Nat} {ls' st' : List Value} {M' : hM} (h : sstep X (.lmul) pc ls st M = some (pc', ls', st', M')) (hcc : cells + (nc M'.2.2.2.2 - nc M.2.2.2.2) ≤ R.cells) (hss : slots + (ns M'.2.2.2.2 - ns M.2.2.2.2) ≤ R.slots) (k : PT X opq adK adV scr D yA A L0 dom0 p l e R s m args below meth c Q y pc' ls' st' M' (cells + (nc M'.2.2.2.2 - nc M.2.2.2.2)) (slots + (ns M'.2.2.2.2 - ns M.2.2.2.2))) : PT X opq adK adV scr D yA A L0 dom0 p l e R s m args below meth c Q y pc ls st M cells slots := by
  simp only [sstep] at h
  split at h
  all_goals first
    | (cases h; done)
    | (simp only [lop] at h; cases h; simp only [Nat.sub_self, Nat.add_zero] at k hcc hss; exact st_lmul F hd hk k)
    | (obtain ⟨w, h1, h2⟩ := pushO_ok h; cases h1; done)
    | (simp only [iop] at h; obtain ⟨w, h1, h2⟩ := pushO_ok h; cases h1; done)
theorem so_land (F : FR X opq adK adV scr y A p R s m args meth c) {pc len : Nat} {ls : List Value} {M : hM} {cells slots : Nat} {r : Instr} (hd : decode (mbytes y) (pcA y pc) = .ok (r, len))  (hk : lnk (mnm y).cls (mpcs y) pc (pcA y pc) len r (.land) = true) {st : List Value} {pc' : Nat} {ls' st' : List Value} {M' : hM} (h : sstep X (.land) pc ls st M = some (pc', ls', st', M')) (hcc : cells + (nc M'.2.2.2.2 - nc M.2.2.2.2) ≤ R.cells) (hss : slots + (ns M'.2.2.2.2 - ns M.2.2.2.2) ≤ R.slots) (k : PT X opq adK adV scr D yA A L0 dom0 p l e R s m args below meth c Q y pc' ls' st' M' (cells + (nc M'.2.2.2.2 - nc M.2.2.2.2)) (slots + (ns M'.2.2.2.2 - ns M.2.2.2.2))) : PT X opq adK adV scr D yA A L0 dom0 p l e R s m args below meth c Q y pc ls st M cells slots := by
  simp only [sstep] at h
  split at h
  all_goals first
    | (cases h; done)
    | (simp only [lop] at h; cases h; simp only [Nat.sub_self, Nat.add_zero] at k hcc hss; exact st_land F hd hk k)
    | (obtain ⟨w, h1, h2⟩ := pushO_ok h; cases h1; done)
    | (simp only [iop] at h; obtain ⟨w, h1, h2⟩ := pushO_ok h; cases h1; done)
theorem so_lor (F : FR X opq adK adV scr y A p R s m args meth c) {pc len : Nat} {ls : List Value} {M : hM} {cells slots : Nat} {r : Instr} (hd : decode (mbytes y) (pcA y pc) = .ok (r, len))  (hk : lnk (mnm y).cls (mpcs y) pc (pcA y pc) len r (.lor) = true) {st : List Value} {pc' : Nat} {ls' st' : List Value} {M' : hM} (h : sstep X (.lor) pc ls st M = some (pc', ls', st', M')) (hcc : cells + (nc M'.2.2.2.2 - nc M.2.2.2.2) ≤ R.cells) (hss : slots + (ns M'.2.2.2.2 - ns M.2.2.2.2) ≤ R.slots) (k : PT X opq adK adV scr D yA A L0 dom0 p l e R s m args below meth c Q y pc' ls' st' M' (cells + (nc M'.2.2.2.2 - nc M.2.2.2.2)) (slots + (ns M'.2.2.2.2 - ns M.2.2.2.2))) : PT X opq adK adV scr D yA A L0 dom0 p l e R s m args below meth c Q y pc ls st M cells slots := by
  simp only [sstep] at h
  split at h
  all_goals first
    | (cases h; done)
    | (simp only [lop] at h; cases h; simp only [Nat.sub_self, Nat.add_zero] at k hcc hss; exact st_lor F hd hk k)
    | (obtain ⟨w, h1, h2⟩ := pushO_ok h; cases h1; done)
    | (simp only [iop] at h; obtain ⟨w, h1, h2⟩ := pushO_ok h; cases h1; done)
theorem so_ldiv (F : FR X opq adK adV scr y A p R s m args meth c) {pc len : Nat} {ls : List Value} {M : hM} {cells slots : Nat} {r : Instr} (hd : decode (mbytes y) (pcA y pc) = .ok (r, len))  (hk : lnk (mnm y).cls (mpcs y) pc (pcA y pc) len r (.ldiv) = true) {st : List Value} {pc' : Nat} {ls' st' : List Value} {M' : hM} (h : sstep X (.ldiv) pc ls st M = some (pc', ls', st', M')) (hcc : cells + (nc M'.2.2.2.2 - nc M.2.2.2.2) ≤ R.cells) (hss : slots + (ns M'.2.2.2.2 - ns M.2.2.2.2) ≤ R.slots) (k : PT X opq adK adV scr D yA A L0 dom0 p l e R s m args below meth c Q y pc' ls' st' M' (cells + (nc M'.2.2.2.2 - nc M.2.2.2.2)) (slots + (ns M'.2.2.2.2 - ns M.2.2.2.2))) : PT X opq adK adV scr D yA A L0 dom0 p l e R s m args below meth c Q y pc ls st M cells slots := by
  simp only [sstep] at h
  split at h
  all_goals first
    | (cases h; done)
    | (rename_i z x r0
       by_cases hz : z = 0
       · simp only [lop, if_pos hz] at h
         cases h
       · simp only [lop, if_neg hz] at h
         cases h
         simp only [Nat.sub_self, Nat.add_zero] at k hcc hss
         exact st_ldiv F hd hz hk k)
    | (obtain ⟨w, h1, h2⟩ := pushO_ok h; cases h1; done)
    | (simp only [iop] at h; obtain ⟨w, h1, h2⟩ := pushO_ok h; cases h1; done)
theorem so_lrem (F : FR X opq adK adV scr y A p R s m args meth c) {pc len : Nat} {ls : List Value} {M : hM} {cells slots : Nat} {r : Instr} (hd : decode (mbytes y) (pcA y pc) = .ok (r, len))  (hk : lnk (mnm y).cls (mpcs y) pc (pcA y pc) len r (.lrem) = true) {st : List Value} {pc' : Nat} {ls' st' : List Value} {M' : hM} (h : sstep X (.lrem) pc ls st M = some (pc', ls', st', M')) (hcc : cells + (nc M'.2.2.2.2 - nc M.2.2.2.2) ≤ R.cells) (hss : slots + (ns M'.2.2.2.2 - ns M.2.2.2.2) ≤ R.slots) (k : PT X opq adK adV scr D yA A L0 dom0 p l e R s m args below meth c Q y pc' ls' st' M' (cells + (nc M'.2.2.2.2 - nc M.2.2.2.2)) (slots + (ns M'.2.2.2.2 - ns M.2.2.2.2))) : PT X opq adK adV scr D yA A L0 dom0 p l e R s m args below meth c Q y pc ls st M cells slots := by
  simp only [sstep] at h
  split at h
  all_goals first
    | (cases h; done)
    | (rename_i z x r0
       by_cases hz : z = 0
       · simp only [lop, if_pos hz] at h
         cases h
       · simp only [lop, if_neg hz] at h
         cases h
         simp only [Nat.sub_self, Nat.add_zero] at k hcc hss
         exact st_lrem F hd hz hk k)
    | (obtain ⟨w, h1, h2⟩ := pushO_ok h; cases h1; done)
    | (simp only [iop] at h; obtain ⟨w, h1, h2⟩ := pushO_ok h; cases h1; done)
/-- any step -/
theorem so_all (hmna : MNA) {ir : Instr} (F : FR X opq adK adV scr y A p R s m args meth c) {pc len : Nat} {ls : List Value} {M : hM} {cells slots : Nat} {r : Instr} (hd : decode (mbytes y) (pcA y pc) = .ok (r, len))  (hk : lnk (mnm y).cls (mpcs y) pc (pcA y pc) len r (ir) = true) (hfo : finOk y ir = true) {st : List Value} {pc' : Nat} {ls' st' : List Value} {M' : hM} (h : sstep X (ir) pc ls st M = some (pc', ls', st', M')) (hcc : cells + (nc M'.2.2.2.2 - nc M.2.2.2.2) ≤ R.cells) (hss : slots + (ns M'.2.2.2.2 - ns M.2.2.2.2) ≤ R.slots) (k : PT X opq adK adV scr D yA A L0 dom0 p l e R s m args below meth c Q y pc' ls' st' M' (cells + (nc M'.2.2.2.2 - nc M.2.2.2.2)) (slots + (ns M'.2.2.2.2 - ns M.2.2.2.2))) : PT X opq adK adV scr D yA A L0 dom0 p l e R s m args below meth c Q y pc ls st M cells slots := by
  cases ir
  case aaload => exact so_aald F hd hk h hcc hss k
  case aastore => exact so_aast F hd hk h hcc hss k
  case aconst_null => exact so_null F hd hk h hcc hss k
  case aload => exact so_aload F hd hk h hcc hss k
  case anewarray => exact so_anewa F hd hk h hcc hss k
  case arraylength => exact so_alen F hd hk h hcc hss k
  case astore => exact so_astore F hd hk h hcc hss k
  case baload => exact so_zald F hd hk h hcc hss k
  case bastore => exact so_zast F hd hk h hcc hss k
  case checkcast => exact so_cc F hd hk h hcc hss k
  case dload => exact so_getl F hd hk h hcc hss k
  case dstore => exact so_putl F hd hk hfo h hcc hss k
  case dup => exact so_dup F hd hk h hcc hss k
  case dup_x1 => exact so_dupx1 F hd hk h hcc hss k
  case dup2 => exact so_dup2 F hd hk h hcc hss k
  case fload => exact so_getr F hd hk h hcc hss k
  case fstore => exact so_putr F hd hk hfo h hcc hss k
  case getfield => exact so_geti F hd hk h hcc hss k
  case getstatic => exact so_gets F hd hk h hcc hss k
  case goto => exact so_goto F hd hk h hcc hss k
  case i2b => exact so_i2b F hd hk h hcc hss k
  case i2c => exact so_i2c F hd hk h hcc hss k
  case i2l => exact so_i2l F hd hk h hcc hss k
  case i2s => exact so_i2s F hd hk h hcc hss k
  case iadd => exact so_iadd F hd hk h hcc hss k
  case iaload => exact so_iald F hd hk h hcc hss k
  case iand => exact so_iand F hd hk h hcc hss k
  case iastore => exact so_iast F hd hk h hcc hss k
  case iconst => exact so_iconst F hd hk h hcc hss k
  case idiv => exact so_idiv F hd hk h hcc hss k
  case if_icmp => exact so_if_icmp F hd hk h hcc hss k
  case ifCond => exact so_ifCond F hd hk h hcc hss k
  case ifnonnull => exact so_ifnonnull F hd hk h hcc hss k
  case ifnull => exact so_ifnull F hd hk h hcc hss k
  case iinc => exact so_iinc F hd hk h hcc hss k
  case iload => exact so_iload F hd hk h hcc hss k
  case imul => exact so_imul F hd hk h hcc hss k
  case ineg => exact so_ineg F hd hk h hcc hss k
  case instanceof => exact so_str F hd hk h hcc hss k
  case ior => exact so_ior F hd hk h hcc hss k
  case irem => exact so_irem F hd hk h hcc hss k
  case ishl => exact so_ishl F hd hk h hcc hss k
  case ishr => exact so_ishr F hd hk h hcc hss k
  case istore => exact so_istore F hd hk h hcc hss k
  case isub => exact so_isub F hd hk h hcc hss k
  case ixor => exact so_ixor F hd hk h hcc hss k
  case jsr => exact so_jsr F hd hk h hcc hss k
  case l2i => exact so_l2i F hd hk h hcc hss k
  case ladd => exact so_ladd F hd hk h hcc hss k
  case laload => exact so_lald F hd hk h hcc hss k
  case land => exact so_land F hd hk h hcc hss k
  case lastore => exact so_last F hd hk h hcc hss k
  case lcmp => exact so_lcmp F hd hk h hcc hss k
  case ldc => exact so_ldc F hd hk h hcc hss k
  case ldiv => exact so_ldiv F hd hk h hcc hss k
  case lload => exact so_lload F hd hk h hcc hss k
  case lmul => exact so_lmul F hd hk h hcc hss k
  case lneg => exact so_lneg F hd hk h hcc hss k
  case lor => exact so_lor F hd hk h hcc hss k
  case lrem => exact so_lrem F hd hk h hcc hss k
  case lshl => exact so_lshl F hd hk h hcc hss k
  case lshr => exact so_lshr F hd hk h hcc hss k
  case lstore => exact so_lstore F hd hk h hcc hss k
  case lsub => exact so_lsub F hd hk h hcc hss k
  case multianewarray t d => exact hmna y X opq adK adV scr D yA A L0 dom0 p l e R s m args below meth c Q F pc len ls M cells slots r hd t d hk st pc' ls' st' M' h hcc hss k
  case new => exact so_new F hd hk h hcc hss k
  case newarray => exact so_newa F hd hk h hcc hss k
  case pop => exact so_pop F hd hk h hcc hss k
  case pop2 => exact so_pop2 F hd hk h hcc hss k
  case putfield => exact so_puti F hd hk hfo h hcc hss k
  case putstatic => exact so_putz F hd hk hfo h hcc hss k
  case tableswitch => exact so_tsw F hd hk h hcc hss k
  all_goals (simp only [sstep] at h; split at h <;> simp [iop, iop1, lop, pushO] at h)
end SOUND
