/-! the state as numbers; what always holds of it -/
def iN (lo hi : Nat) (x : Int32) : Prop := ∃ n, lo ≤ n ∧ n ≤ hi ∧ x = nI n
def wN (x : Int32) : Nat := x.toInt.toNat
theorem wN_nI {n : Nat} (h : n < 2147483648) : wN (nI n) = n := by unfold wN; rw [nI_toInt (by omega)]; rfl
theorem iN.nat {lo hi : Nat} {x : Int32} (h : iN lo hi x) (hh : hi < 2147483648) : x = nI (wN x) ∧ lo ≤ wN x ∧ wN x ≤ hi := by
  obtain ⟨n, h1, h2, rfl⟩ := h
  rw [wN_nI (by omega)]
  exact ⟨rfl, h1, h2⟩
def cY (s : Nat → Nat → Int32) : Nat := wN (s 99 0)
def cW (s : Nat → Nat → Int32) : Nat := wN (s 99 1)
def cB (s : Nat → Nat → Int32) : Nat := wN (s 99 2)
def cBr (s : Nat → Nat → Int32) : Nat := wN (s 99 3)
def cP (s : Nat → Nat → Int32) : Nat := wN (s 99 4)
def cS (s : Nat → Nat → Int32) : Nat := wN (s 99 10)
def cR (s : Nat → Nat → Int32) : Nat := wN (s 99 13)
def cSt (s : Nat → Nat → Int32) : Nat := wN (s 99 19)
def cT (s : Nat → Nat → Int32) : Nat := wN (s 99 22)
def cPu (s : Nat → Nat → Int32) : Nat := wN (s 99 25)
def cTa (s : Nat → Nat → Int32) : Nat := wN (s 99 27)
def cTx (s : Nat → Nat → Int32) : Nat := wN (s 99 30)
def cLw (s : Nat → Nat → Int32) : Nat := wN (s 99 31)
def cIP (s : Nat → Nat → Int32) : Nat := wN (s 99 37)
def cIL (s : Nat → Nat → Int32) : Nat := wN (s 99 39)
def rWt (s : Nat → Nat → Int32) (p : Nat) : Nat := wN (s 100 p)
def rBa (s : Nat → Nat → Int32) (p : Nat) : Nat := wN (s 101 p)
def rRa (s : Nat → Nat → Int32) (p : Nat) : Nat := wN (s 102 p)
def rBe (s : Nat → Nat → Int32) (p : Nat) : Nat := wN (s 103 p)
def rFa (s : Nat → Nat → Int32) (p : Nat) : Nat := wN (s 104 p)
def rHt (s : Nat → Nat → Int32) (t : Nat) : Nat := wN (s 105 t)
def rOf (s : Nat → Nat → Int32) (t : Nat) : Nat := wN (s 106 t)
def rKd (s : Nat → Nat → Int32) (r : Nat) : Nat := wN (s 107 r)
def rMo (s : Nat → Nat → Int32) (r : Nat) : Nat := wN (s 108 r)
def rSp (s : Nat → Nat → Int32) (r : Nat) : Nat := wN (s 109 r)
def rNe (s : Nat → Nat → Int32) (r : Nat) : Nat := wN (s 110 r)
def rTo (s : Nat → Nat → Int32) (i : Nat) : Nat := wN (s 111 i)
def rSH (s : Nat → Nat → Int32) (t : Nat) : Nat := wN (s 112 t)
def rSW (s : Nat → Nat → Int32) (t : Nat) : Nat := wN (s 113 t)
def rTW (s : Nat → Nat → Int32) (t : Nat) : Nat := wN (s 114 t)
def rTR (s : Nat → Nat → Int32) (t : Nat) : Nat := wN (s 115 t)
def rTp (s : Nat → Nat → Int32) (i : Nat) : Nat := wN (s 116 i)
def tK1 (s : Nat → Nat → Int32) (t : Nat) : Nat := wN (s 118 (4 * t + 1))
def tK2 (s : Nat → Nat → Int32) (t : Nat) : Nat := wN (s 118 (4 * t + 2))
def tLn (s : Nat → Nat → Int32) (t : Nat) : Nat := wN (s 118 (4 * t + 3))
def tQ (s : Nat → Nat → Int32) (t : Nat) (j : Nat) : Nat := wN (s 117 (200 * t + j))
def sumN (f : Nat → Nat) : Nat → Nat
  | 0 => 0
  | n + 1 => sumN f n + f n
/-- single numbers -/
def WfF (s : Nat → Nat → Int32) : Prop := (iN 1 16 (s 99 0) ∧ iN 0 60 (s 99 1) ∧ iN 0 999 (s 99 2) ∧ iN 0 1 (s 99 3)) ∧ (iN 0 4 (s 99 4) ∧ iN 0 6 (s 99 10) ∧ iN 0 8 (s 99 13) ∧ iN 0 8 (s 99 19)) ∧ (iN 0 3 (s 99 22) ∧ iN 0 9 (s 99 25) ∧ iN 0 160 (s 99 27) ∧ iN 1 6 (s 99 30)) ∧ iN 0 5 (s 99 31) ∧ cLw s < cTx s
def WfP (s : Nat → Nat → Int32) : Prop := ∀ p, p < cP s → iN 1 99 (s 100 p) ∧ iN 0 30 (s 101 p) ∧ iN 0 40 (s 102 p) ∧ iN 0 15 (s 103 p) ∧ iN 0 40 (s 104 p)
def WfS (s : Nat → Nat → Int32) : Prop := (∀ t, t < cS s → iN 0 40 (s 105 t) ∧ iN 1 1000 (s 106 t)) ∧ sumN (rOf s) (cS s) ≤ 1000
def WfR (s : Nat → Nat → Int32) : Prop := ∀ r, r < cR s → iN 0 5 (s 107 r) ∧ iN 0 1000 (s 108 r) ∧ iN 0 9 (s 109 r) ∧ iN 0 20 (s 110 r) ∧ ∀ y, y < 16 → iN 0 20 (s 111 (16 * r + y)) ∧ (¬ rKd s r = 4 → s 111 (16 * r + y) = nI 0)
def WfSt (s : Nat → Nat → Int32) : Prop := ∀ t, t < cSt s → iN 0 60 (s 112 t) ∧ iN 0 999 (s 113 t)
def WfT (s : Nat → Nat → Int32) : Prop := ∀ t, t < cT s → iN 0 60 (s 114 t) ∧ iN 0 999 (s 115 t)
def WfTa (s : Nat → Nat → Int32) : Prop := ∀ i, i < cTa s → iN 0 255 (s 116 i) ∧ s 10 i = s 116 i
def WfTx (s : Nat → Nat → Int32) : Prop := ∀ t, t < cTx s → TxM s t (tK1 s t) (tK2 s t) (tLn s t) (tQ s t)
def WfSh (s : Nat → Nat → Int32) : Prop := ∀ i, i < 4 → (s 120 i = cI (-1) ∨ iN 0 2 (s 120 i)) ∧ iN 0 40 (s 121 i)
def WfI (s : Nat → Nat → Int32) : Prop := iN 0 1 (s 99 32) ∧ (s 99 32 = nI 1 → (iN 1 16 (s 99 33) ∧ iN 0 60 (s 99 34) ∧ iN 0 999 (s 99 35) ∧ iN 0 1 (s 99 36)) ∧ iN 0 4 (s 99 37) ∧ iN 0 9 (s 99 38) ∧ iN 0 5 (s 99 39) ∧ cIL s < cTx s ∧ cIP s ≤ cP s ∧ ∀ p, p < cIP s → iN 1 99 (s 119 p)) ∧ ∀ p, cP s ≤ p → p < 4 → s 100 p = nI 0 ∧ s 119 p = nI 0
def Wf (s : Nat → Nat → Int32) : Prop := WfF s ∧ WfP s ∧ WfS s ∧ WfR s ∧ WfSt s ∧ WfT s ∧ WfTa s ∧ WfTx s ∧ WfSh s ∧ WfI s
section
variable {s : Nat → Nat → Int32}
theorem Wf.y (h : Wf s) : s 99 0 = nI (cY s) ∧ 1 ≤ cY s ∧ cY s ≤ 16 := h.1.1.1.nat (by omega)
theorem Wf.w (h : Wf s) : s 99 1 = nI (cW s) ∧ cW s ≤ 60 := ⟨(h.1.1.2.1.nat (by omega)).1, (h.1.1.2.1.nat (by omega)).2.2⟩
theorem Wf.b (h : Wf s) : s 99 2 = nI (cB s) ∧ cB s ≤ 999 := ⟨(h.1.1.2.2.1.nat (by omega)).1, (h.1.1.2.2.1.nat (by omega)).2.2⟩
theorem Wf.br (h : Wf s) : s 99 3 = nI (cBr s) ∧ cBr s ≤ 1 := ⟨(h.1.1.2.2.2.nat (by omega)).1, (h.1.1.2.2.2.nat (by omega)).2.2⟩
theorem Wf.p (h : Wf s) : s 99 4 = nI (cP s) ∧ cP s ≤ 4 := ⟨(h.1.2.1.1.nat (by omega)).1, (h.1.2.1.1.nat (by omega)).2.2⟩
theorem Wf.ns (h : Wf s) : s 99 10 = nI (cS s) ∧ cS s ≤ 6 := ⟨(h.1.2.1.2.1.nat (by omega)).1, (h.1.2.1.2.1.nat (by omega)).2.2⟩
theorem Wf.r (h : Wf s) : s 99 13 = nI (cR s) ∧ cR s ≤ 8 := ⟨(h.1.2.1.2.2.1.nat (by omega)).1, (h.1.2.1.2.2.1.nat (by omega)).2.2⟩
theorem Wf.st (h : Wf s) : s 99 19 = nI (cSt s) ∧ cSt s ≤ 8 := ⟨(h.1.2.1.2.2.2.nat (by omega)).1, (h.1.2.1.2.2.2.nat (by omega)).2.2⟩
theorem Wf.t (h : Wf s) : s 99 22 = nI (cT s) ∧ cT s ≤ 3 := ⟨(h.1.2.2.1.1.nat (by omega)).1, (h.1.2.2.1.1.nat (by omega)).2.2⟩
theorem Wf.pu (h : Wf s) : s 99 25 = nI (cPu s) ∧ cPu s ≤ 9 := ⟨(h.1.2.2.1.2.1.nat (by omega)).1, (h.1.2.2.1.2.1.nat (by omega)).2.2⟩
theorem Wf.ta (h : Wf s) : s 99 27 = nI (cTa s) ∧ cTa s ≤ 160 := ⟨(h.1.2.2.1.2.2.1.nat (by omega)).1, (h.1.2.2.1.2.2.1.nat (by omega)).2.2⟩
theorem Wf.tx (h : Wf s) : s 99 30 = nI (cTx s) ∧ 1 ≤ cTx s ∧ cTx s ≤ 6 := h.1.2.2.1.2.2.2.nat (by omega)
theorem Wf.lw (h : Wf s) : s 99 31 = nI (cLw s) ∧ cLw s < cTx s := ⟨(h.1.2.2.2.1.nat (by omega)).1, h.1.2.2.2.2⟩
theorem Wf.pw (h : Wf s) {p : Nat} (hp : p < cP s) : s 100 p = nI (rWt s p) ∧ 1 ≤ rWt s p ∧ rWt s p ≤ 99 := (h.2.1 p hp).1.nat (by omega)
theorem Wf.pba (h : Wf s) {p : Nat} (hp : p < cP s) : s 101 p = nI (rBa s p) ∧ rBa s p ≤ 30 := ⟨((h.2.1 p hp).2.1.nat (by omega)).1, ((h.2.1 p hp).2.1.nat (by omega)).2.2⟩
theorem Wf.pra (h : Wf s) {p : Nat} (hp : p < cP s) : s 102 p = nI (rRa s p) ∧ rRa s p ≤ 40 := ⟨((h.2.1 p hp).2.2.1.nat (by omega)).1, ((h.2.1 p hp).2.2.1.nat (by omega)).2.2⟩
theorem Wf.pbe (h : Wf s) {p : Nat} (hp : p < cP s) : s 103 p = nI (rBe s p) ∧ rBe s p ≤ 15 := ⟨((h.2.1 p hp).2.2.2.1.nat (by omega)).1, ((h.2.1 p hp).2.2.2.1.nat (by omega)).2.2⟩
theorem Wf.pfa (h : Wf s) {p : Nat} (hp : p < cP s) : s 104 p = nI (rFa s p) ∧ rFa s p ≤ 40 := ⟨((h.2.1 p hp).2.2.2.2.nat (by omega)).1, ((h.2.1 p hp).2.2.2.2.nat (by omega)).2.2⟩
theorem Wf.sh (h : Wf s) {t : Nat} (ht : t < cS s) : s 105 t = nI (rHt s t) ∧ rHt s t ≤ 40 := ⟨((h.2.2.1.1 t ht).1.nat (by omega)).1, ((h.2.2.1.1 t ht).1.nat (by omega)).2.2⟩
theorem Wf.so (h : Wf s) {t : Nat} (ht : t < cS s) : s 106 t = nI (rOf s t) ∧ 1 ≤ rOf s t ∧ rOf s t ≤ 1000 := (h.2.2.1.1 t ht).2.nat (by omega)
theorem Wf.ssum (h : Wf s) : sumN (rOf s) (cS s) ≤ 1000 := h.2.2.1.2
theorem Wf.rk (h : Wf s) {r : Nat} (hr : r < cR s) : s 107 r = nI (rKd s r) ∧ rKd s r ≤ 5 := ⟨((h.2.2.2.1 r hr).1.nat (by omega)).1, ((h.2.2.2.1 r hr).1.nat (by omega)).2.2⟩
theorem Wf.rm (h : Wf s) {r : Nat} (hr : r < cR s) : s 108 r = nI (rMo s r) ∧ rMo s r ≤ 1000 := ⟨((h.2.2.2.1 r hr).2.1.nat (by omega)).1, ((h.2.2.2.1 r hr).2.1.nat (by omega)).2.2⟩
theorem Wf.rs (h : Wf s) {r : Nat} (hr : r < cR s) : s 109 r = nI (rSp s r) ∧ rSp s r ≤ 9 := ⟨((h.2.2.2.1 r hr).2.2.1.nat (by omega)).1, ((h.2.2.2.1 r hr).2.2.1.nat (by omega)).2.2⟩
theorem Wf.rn (h : Wf s) {r : Nat} (hr : r < cR s) : s 110 r = nI (rNe s r) ∧ rNe s r ≤ 20 := ⟨((h.2.2.2.1 r hr).2.2.2.1.nat (by omega)).1, ((h.2.2.2.1 r hr).2.2.2.1.nat (by omega)).2.2⟩
theorem Wf.rt (h : Wf s) {r y : Nat} (hr : r < cR s) (hy : y < 16) : s 111 (16 * r + y) = nI (rTo s (16 * r + y)) ∧ rTo s (16 * r + y) ≤ 20 := ⟨(((h.2.2.2.1 r hr).2.2.2.2 y hy).1.nat (by omega)).1, (((h.2.2.2.1 r hr).2.2.2.2 y hy).1.nat (by omega)).2.2⟩
theorem Wf.sth (h : Wf s) {t : Nat} (ht : t < cSt s) : s 112 t = nI (rSH s t) ∧ rSH s t ≤ 60 := ⟨((h.2.2.2.2.1 t ht).1.nat (by omega)).1, ((h.2.2.2.2.1 t ht).1.nat (by omega)).2.2⟩
theorem Wf.stw (h : Wf s) {t : Nat} (ht : t < cSt s) : s 113 t = nI (rSW s t) ∧ rSW s t ≤ 999 := ⟨((h.2.2.2.2.1 t ht).2.nat (by omega)).1, ((h.2.2.2.2.1 t ht).2.nat (by omega)).2.2⟩
theorem Wf.tw (h : Wf s) {t : Nat} (ht : t < cT s) : s 114 t = nI (rTW s t) ∧ rTW s t ≤ 60 := ⟨((h.2.2.2.2.2.1 t ht).1.nat (by omega)).1, ((h.2.2.2.2.2.1 t ht).1.nat (by omega)).2.2⟩
theorem Wf.tr (h : Wf s) {t : Nat} (ht : t < cT s) : s 115 t = nI (rTR s t) ∧ rTR s t ≤ 999 := ⟨((h.2.2.2.2.2.1 t ht).2.nat (by omega)).1, ((h.2.2.2.2.2.1 t ht).2.nat (by omega)).2.2⟩
theorem Wf.tp (h : Wf s) {i : Nat} (hi : i < cTa s) : s 116 i = nI (rTp s i) ∧ rTp s i ≤ 255 := ⟨((h.2.2.2.2.2.2.1 i hi).1.nat (by omega)).1, ((h.2.2.2.2.2.2.1 i hi).1.nat (by omega)).2.2⟩
theorem Wf.t10 (h : Wf s) {i : Nat} (hi : i < cTa s) : s 10 i = nI (rTp s i) := (h.2.2.2.2.2.2.1 i hi).2.trans (h.tp hi).1
theorem Wf.txt (h : Wf s) {t : Nat} (ht : t < cTx s) : TxM s t (tK1 s t) (tK2 s t) (tLn s t) (tQ s t) := h.2.2.2.2.2.2.2.1 t ht
theorem Wf.lwt (h : Wf s) : TxM s (cLw s) (tK1 s (cLw s)) (tK2 s (cLw s)) (tLn s (cLw s)) (tQ s (cLw s)) := h.txt h.lw.2
end
/-- how the class's references lie -/
def Lk (s : Nat → Nat → Int32) (R : Nat → Nat → Option Nat) (N : Nat → Nat) : Prop := Rx R 1 13 = some (oT (cLw s)) ∧ (∀ t, t < cTx s → Rx R 12 t = some (oT t) ∧ TxC s R N t (tK1 s t) (tK2 s t) (tLn s t) (tQ s t)) ∧ (∀ t, cTx s ≤ t → t < 6 → Rx R 12 t = none) ∧ (∀ r, r < cR s → Rx R 13 r = some (1000 + 2 * r) ∧ Rx R (1000 + 2 * r) 4 = some (1001 + 2 * r)) ∧ (∀ r, cR s ≤ r → r < 8 → Rx R 13 r = none) ∧ s 14 0 = nI 1 ∧ s 1 3 = s 99 3
theorem Lk.lw {s : Nat → Nat → Int32} {R : Nat → Nat → Option Nat} {N : Nat → Nat} (h : Lk s R N) (hW : Wf s) : TxC s R N (cLw s) (tK1 s (cLw s)) (tK2 s (cLw s)) (tLn s (cLw s)) (tQ s (cLw s)) := (h.2.1 _ hW.lw.2).2
def OnlyJ (L : List Nat) (J J' : Nat → Nat → Int64) : Prop := ∀ k, k ∉ L → J' k = J k
theorem OnlyJ.rf {L : List Nat} {J : Nat → Nat → Int64} : OnlyJ L J J := fun _ _ => rfl
theorem OnlyJ.tr {L : List Nat} {J J1 J2 : Nat → Nat → Int64} (h1 : OnlyJ L J J1) (h2 : OnlyJ L J1 J2) : OnlyJ L J J2 := fun k hk => (h2 k hk).trans (h1 k hk)
theorem OnlyJ.sub {L L' : List Nat} {J J1 : Nat → Nat → Int64} (h1 : OnlyJ L J J1) (h : ∀ k ∈ L, k ∈ L') : OnlyJ L' J J1 := fun k hk => h1 k (fun z => hk (h k z))
theorem OnlyJ.rw {L : List Nat} {J : Nat → Nat → Int64} {k j : Nat} {x : Int64} (h : k ∈ L) : OnlyJ L J (rw2 J k j x) := fun k' hk' => rw2_ne _ _ _ (fun z => hk' (z ▸ h))
/-! the law's numbers, by the state alone -/
def gHarm (s : Nat → Nat → Int32) (l h y rich : Int32) : Int64 := sHarm s (tQ s (cLw s)) (tK1 s (cLw s)) l h y rich (cS s)
def gCost (s : Nat → Nat → Int32) (broad up h y rich : Int32) : Int32 := sCost (tQ s (cLw s)) (tK1 s (cLw s)) (tK2 s (cLw s) - tK1 s (cLw s)) broad up h y rich
def gGrow (s : Nat → Nat → Int32) (rich y : Int32) : Int32 := sGrown (tQ s (cLw s)) (tK2 s (cLw s)) (tLn s (cLw s) - tK2 s (cLw s)) rich y
def gFl (s : Nat → Nat → Int32) (l h : Int32) : Int32 := sFl s l h (cS s)
def gNeed (s : Nat → Nat → Int32) (l h most : Int32) : Nat := sNeed s (cS s) l h most 20 0
section
variable {X : hX} {d : Nat} {s I : Nat → Nat → Int32} {J : Nat → Nat → Int64} {R : Nat → Nat → Option Nat} {N : Nat → Nat} {G : hG}
theorem m_harm (hS : St s I) (hW : Wf s) (l h y rich : Int32) : TP X (d + 2) n_M_harmOf [.ref 99, .int l, .int y, .int h, .int rich] (I, J, Rx R, N, G) (fun v M' => v = some (.long (gHarm s l h y rich)) ∧ ∃ I', M' = (I', J, Rx R, N, G) ∧ Only [125, 126] I I') := t_M_harmOf X d hS hW.lw.1 hW.lwt hW.ns.2 hW.ns.1 l h y rich
theorem m_cost (hS : St s I) (hW : Wf s) (up h y rich : Int32) : TP X (d + 2) n_M_costOf [.ref 99, .int up, .int h, .int y, .int rich] (I, J, Rx R, N, G) (fun v M' => v = some (.int (gCost s (s 99 3) up h y rich)) ∧ ∃ I', M' = (I', J, Rx R, N, G) ∧ Only [125, 126] I I') := t_M_costOf X d hS hW.lw.1 hW.lwt up h y rich
theorem m_grow (hS : St s I) (hW : Wf s) (rich y : Int32) : TP X (d + 2) n_M_grown [.ref 99, .int rich, .int y] (I, J, Rx R, N, G) (fun v M' => v = some (.int (gGrow s rich y)) ∧ ∃ I', M' = (I', J, Rx R, N, G) ∧ Only [125, 126] I I') := t_M_grown X d hS hW.lw.1 hW.lwt rich y
theorem c_harm (hS : St s I) (hW : Wf s) (hL : Lk s R N) {l h : Nat} (hl : l < 100000000) (hh : h < 100000000) (y rich : Int32) : TP X (d + 3) n_Coast_harmAt [.ref 1, .int (nI l), .int (nI h), .int y, .int rich] (I, J, Rx R, N, G) (fun v M' => v = some (.long (gHarm s (nI l) (nI h) y rich)) ∧ ∃ I', M' = (I', J, Rx R, N, G) ∧ Only [oT (cLw s) + 3, oT (cLw s) + 2] I I') := by
  refine t_C_harmAt X d hS hL.1 hW.lwt (hL.lw hW) hW.ns.2 hW.ns.1 _ _ y rich (fun j hj => ?_)
  obtain ⟨e, h4⟩ := hW.sh hj
  rw [e, nI_add]
  exact over_iff (by omega) (by omega)
theorem c_cost (hS : St s I) (hW : Wf s) (hL : Lk s R N) (up h y rich broad : Int32) : TP X (d + 3) n_Coast_costAt [.ref 1, .int up, .int h, .int y, .int rich, .int broad] (I, J, Rx R, N, G) (fun v M' => v = some (.int (gCost s broad up h y rich)) ∧ ∃ I', M' = (I', J, Rx R, N, G) ∧ Only [oT (cLw s) + 3, oT (cLw s) + 2] I I') := t_C_costAt X d hS hL.1 hW.lwt (hL.lw hW) up h y rich broad
theorem c_grow (hS : St s I) (hW : Wf s) (hL : Lk s R N) (rich y : Int32) : TP X (d + 3) n_Coast_grown [.ref 1, .int rich, .int y] (I, J, Rx R, N, G) (fun v M' => v = some (.int (gGrow s rich y)) ∧ ∃ I', M' = (I', J, Rx R, N, G) ∧ Only [oT (cLw s) + 3, oT (cLw s) + 2] I I') := t_C_grown X d hS hL.1 hW.lwt (hL.lw hW) rich y
theorem m_fl (hS : St s I) (hW : Wf s) (l h : Int32) : TP X d n_M_floods [.ref 99, .int l, .int h] (I, J, Rx R, N, G) (Ret (.int (gFl s l h)) (I, J, Rx R, N, G)) := t_M_floods X d hS hW.ns.2 hW.ns.1
theorem c_fl (hS : St s I) (hW : Wf s) (h l : Int32) : TP X d n_Coast_floodsOver [.ref 1, .int h, .int l] (I, J, Rx R, N, G) (Ret (.int (gFl s l h)) (I, J, Rx R, N, G)) := t_Coast_floodsOver X d hS hW.ns.2 hW.ns.1
theorem m_need (hS : St s I) (hW : Wf s) (l h most : Int32) : TP X (d + 1) n_M_need [.ref 99, .int l, .int h, .int most] (I, J, Rx R, N, G) (Ret (.int (nI (gNeed s l h most))) (I, J, Rx R, N, G)) := t_M_need X d hS hW.ns.2 hW.ns.1 l h most
theorem c_need (hS : St s I) (hW : Wf s) (h l most : Int32) : TP X (d + 1) n_Coast_needAt [.ref 1, .int h, .int l, .int most] (I, J, Rx R, N, G) (Ret (.int (nI (gNeed s l h most))) (I, J, Rx R, N, G)) := t_C_needAt X d hS hW.ns.2 hW.ns.1 l h most
theorem m_isPath (hS : St s I) (hW : Wf s) (v : Int32) : TP X (d + 1) n_M_isPath [.ref 99, .int v] (I, J, Rx R, N, G) (Ret (.int (b2i (inN v (cP s)))) (I, J, Rx R, N, G)) := by
  rcases Nat.eq_zero_or_pos (cP s) with h0 | h0
  · unfold TP
    refine XP_s rfl ?_
    refine XP_s rfl ?_
    refine XP_s rfl ?_
    refine XP_geti hS rfl rfl rfl ?_
    rw [hW.p.1, h0]
    refine XP_s rfl ?_
    refine XP_s rfl ?_
    refine XP_pure rfl rfl (t_M_in X d v (nI 0) (nI 0 - cI 1) _) ?_
    have e : ¬ (nI 0 ≤ v ∧ v ≤ nI 0 - cI 1) := by
      rintro ⟨z1, z2⟩
      exact absurd (Int32.le_trans z1 z2) (by decide)
    rw [b2i_f e, show b2i (inN v 0) = 0 from b2i_f (fun z => by unfold inN at z; omega)]
    exact XP_ret rfl ⟨rfl, rfl⟩
  · exact t_M_isPath X d hS hW.p.2 h0 hW.p.1 v
theorem c_hasPath (hS : St s I) (hW : Wf s) (v : Int32) : TP X d n_Coast_hasPath [.ref 1, .int v] (I, J, Rx R, N, G) (Ret (.int (b2i (inN v (cP s)))) (I, J, Rx R, N, G)) := t_C_hasPath X d hS hW.p.2 hW.p.1 v
end
/-- the level as a number -/
def nLv (s : Nat → Nat → Int32) (p y : Nat) : Nat := rBa s p + rRa s p * y / 10 + (if rBe s p < y then (y - rBe s p) * rFa s p / 10 else 0)
theorem nLv_ok {s : Nat → Nat → Int32} (hW : Wf s) {p y : Nat} (hp : p < cP s) (hy : y ≤ 15) : sLevel s p (nI y) = nI (nLv s p y) ∧ nLv s p y ≤ 150 := by
  obtain ⟨e1, h1⟩ := hW.pba hp
  obtain ⟨e2, h2⟩ := hW.pra hp
  obtain ⟨e3, h3⟩ := hW.pbe hp
  obtain ⟨e4, h4⟩ := hW.pfa hp
  unfold sLevel nLv
  rw [e1, e2, e3, e4]
  have m1 : rRa s p * y ≤ 40 * 15 := Nat.mul_le_mul h2 hy
  have m2 : (y - rBe s p) * rFa s p ≤ 15 * 40 := Nat.mul_le_mul (by omega) h4
  rw [nI_mul, pk_div (by omega) (by omega) (by omega), nI_add]
  by_cases h : rBe s p < y
  · rw [if_pos ((nI_ltI (by omega) (by omega)).mpr h), if_pos h, nI_sub (by omega), nI_mul, pk_div (by omega) (by omega) (by omega), nI_add]
    refine ⟨rfl, ?_⟩
    omega
  · rw [if_neg (fun z => h ((nI_ltI (by omega) (by omega)).mp z)), if_neg h, nI_add]
    refine ⟨rfl, ?_⟩
    omega
section
variable {X : hX} {d : Nat} {s I : Nat → Nat → Int32} {J : Nat → Nat → Int64} {R : Nat → Nat → Option Nat} {N : Nat → Nat} {G : hG}
theorem m_lv (hS : St s I) (hW : Wf s) {p y : Nat} (hp : p < cP s) (hy : y ≤ 15) : TP X d n_M_levelOf [.ref 99, .int (nI p), .int (nI y)] (I, J, Rx R, N, G) (Ret (.int (nI (nLv s p y))) (I, J, Rx R, N, G)) := by
  have h := t_M_levelOf X d hS (p := p) (y := nI y) (J := J) (R := R) (N := N) (G := G) (by have := hW.p.2; omega)
  rw [(nLv_ok hW hp hy).1] at h
  exact h
theorem c_lv (hS : St s I) (hW : Wf s) {p y : Nat} (hp : p < cP s) (hy : y ≤ 15) : TP X d n_Coast_levelAt [.ref 1, .int (nI p), .int (nI y)] (I, J, Rx R, N, G) (Ret (.int (nI (nLv s p y))) (I, J, Rx R, N, G)) := by
  have h := t_Coast_levelAt X d hS (p := p) (y := nI y) (J := J) (R := R) (N := N) (G := G) (by have := hW.p.2; omega)
  rw [(nLv_ok hW hp hy).1] at h
  exact h
end
theorem Only.w {L : List Nat} {I0 I : Nat → Nat → Int32} {k j : Nat} {x : Int32} (h : Only L I0 I) (hk : k ∈ L) : Only L I0 (rw2 I k j x) := h.tr (Only.rw hk)
theorem Only.c {L L2 : List Nat} {I0 I I2 : Nat → Nat → Int32} (h : Only L I0 I) (h2 : Only L2 I I2) (hs : ∀ k ∈ L2, k ∈ L) : Only L I0 I2 := h.tr (h2.sub hs)
theorem OnlyJ.w {L : List Nat} {I0 I : Nat → Nat → Int64} {k j : Nat} {x : Int64} (h : OnlyJ L I0 I) (hk : k ∈ L) : OnlyJ L I0 (rw2 I k j x) := h.tr (OnlyJ.rw hk)
theorem OnlyJ.c {L L2 : List Nat} {I0 I I2 : Nat → Nat → Int64} (h : OnlyJ L I0 I) (h2 : OnlyJ L2 I I2) (hs : ∀ k ∈ L2, k ∈ L) : OnlyJ L I0 I2 := h.tr (h2.sub hs)
