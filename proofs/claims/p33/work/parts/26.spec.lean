/-! WHAT EACH CALL ANSWERS AND LEAVES (but the text's), and the reference's proof of it -/
abbrev sA (s : Sg) : Nat := s.1
abbrev sV (s : Sg) : Nat := s.2.1
abbrev sX (s : Sg) : Int32 := s.2.2.1
abbrev sY (s : Sg) : Int32 := s.2.2.2.1
abbrev sT (s : Sg) : Int32 := s.2.2.2.2.1
abbrev sD (s : Sg) : Nat → Itm := s.2.2.2.2.2.2.1
abbrev sM (s : Sg) : Nat := s.2.2.2.2.2.2.2.1
abbrev sI (s : Sg) : Nat := s.2.2.2.2.2.2.2.2.1
abbrev sL (s : Sg) : Nat := s.2.2.2.2.2.2.2.2.2
def BIG : Nat := 1000000000
def setA : Sg → Nat → Sg | (_, v, r), a => (a, v, r)
def setV : Sg → Nat → Sg | (a, _, r), v => (a, v, r)
def addI : Sg → Itm → Sg | (a, v, x, y, t, n, d, r), q => (a, v, x, y, t, n + 1, (fun j => if j = n then q else d j), r)
def remI : Sg → Nat → Sg | (a, v, x, y, t, n, d, r), i => (a, v, x, y, t, n - 1, dropD d i, r)
def stopS : Sg → Sg | (a, v, x, y, t, _, d, m, i, _) => if i = 0 then (a, v, x, y, t, 0, d, 0, 0, 0) else (a, v, x, y, t, 1, d, m, i, i)
def shownX (s : Sg) (z : Int) : Int32 := (if z = 0 then sX s else sY s) + zI 100000
def apx : Nat → Int32 → Int32 → Nat → Int32
  | 0, v, _, _ => v
  | e+1, v, r, k => apx e (v - (zI 2 * v + r) / zI (4 * k + 1)) ((zI 2 * v + r) - (zI 2 * v + r) / zI (4 * k + 1) * zI (4 * k + 1)) (k + 1)
def lstA (v len : Nat) (K : Int) : Nat → Nat → Int
  | 0, _ => -9
  | e+1, a => if (mv a (cr v) len : Int) ≤ K then a else lstA v len K e (a + 1)
def grtL (a v : Nat) (K : Int) : Nat → Int
  | 0 => -9
  | l+1 => if (mv a (cr v) (l + 1) : Int) ≤ K then (l + 1 : Int) else grtL a v K l
def cmdS (s : Sg) (c w : Int) : Bool × Sg :=
  if c = 1 then (if w = 0 then (false, s) else if nS s = 0 then (false, s) else (true, (runS w.toNat BIG s).2))
  else if c = 2 then (if w = 0 then (false, s) else (true, setV s w.toNat))
  else if c = 3 then (if w ≠ 0 then (false, s) else if sM s = 0 then (false, s) else (true, stopS s))
  else if c = 4 then (decide (sX s = zI w), s)
  else if c = 5 then (decide (sM s ≠ 0 ∧ (sI s : Int) = w), s)
  else if c = 6 then (decide ((nS s : Int) = w), s)
  else (false, s)
def scrS (z : Int) (n : Nat) : Nat → Nat → Sg → Int
  | 0, _, _ => -9
  | e+1, i, s => if (cmdS s (z / 10000 ^ (n - 1 - i) % 10000 / 1000) (z / 10000 ^ (n - 1 - i) % 10000 % 1000)).1 = true then scrS z n e (i + 1) (cmdS s (z / 10000 ^ (n - 1 - i) % 10000 / 1000) (z / 10000 ^ (n - 1 - i) % 10000 % 1000)).2 else i
def rndX (x : Int64) : Int64 := x * 6364136223846793005 + 1442695040888963407
def rndV (x : Int64) : Int := ((x.toUInt64 >>> (((33 : Int32)).toInt64.toUInt64 &&& Int64.toUInt64 63)).toInt64.toInt32).toInt
def rndS : Nat → Int64 → Sg → Sg
  | 0, _, s => s
  | e+1, x, s => if nS s = 0 then s else rndS e (rndX x) (stepS (if rndV (rndX x) % 4 = 0 then setV s (rndV (rndX x) / 4 % 999 + 1).toNat else s))
def actG (g : GS) (s : Sg) : GS := setG (remG g) s
def savG : GS → Nat → GS | (tl, tx, s, hc, he, hh, sv), b => (tl, tx, s, hc, he, hh, fun c => if c = b then some s else sv c)
def undG : GS → GS | (tl, tx, _, hc, he, hh, sv) => (tl, tx, hh 0, hc - 1, he - 1, fun i => hh (i + 1), sv)
def resG : GS → Sg → GS | (tl, tx, _, _, he, hh, sv), z => (tl, tx, z, 0, he, hh, sv)
def nSav (g : GS) (b : Nat) : Option Sg := g.2.2.2.2.2.2 b
def nHc (g : GS) : Nat := g.2.2.2.1
def spPos (g : GS) (z : Int) : Int32 × GS := (if z = 0 ∨ z = 1 then shownX (sG g) z else zI (-1), g)
def spItem (g : GS) (z : Int) : Int32 × GS := (zI (if 0 ≤ z ∧ z < nS (sG g) then (if 0 < (sD (sG g) z.toNat).2.2 then (sD (sG g) z.toNat).2.2 + 10000 else if z = 0 ∧ sM (sG g) ≠ 0 then (sL (sG g) : Int) else (lenI (sD (sG g) z.toNat) : Int)) else -1), g)
def spRamp (g : GS) : Int32 × GS := (zI (if sM (sG g) = 0 then -9 else (sI (sG g) : Int)), g)
def spTop (g : GS) : Int32 × GS := (zI (topN (sA (sG g)) (cr (sV (sG g))) 999 : Int), g)
def spInt (g : GS) (z : Int) : Int32 × GS := (zI (if 0 ≤ z ∧ z ≤ 999 then (itv (sA (sG g)) (cr (sV (sG g))) z.toNat : Int) else -2), g)
def spApx (g : GS) (z : Int) : Int32 × GS := (if 0 ≤ z ∧ z ≤ 999 then apx z.toNat (zI (676 * T (sA (sG g)) 1) / zI 1000) (zI 0) 1 else zI (-2), g)
def spSetA (g : GS) (z : Int) : Int32 × GS := if 1 ≤ z ∧ z ≤ 999 then (if sM (sG g) ≠ 0 then (zI (-3), g) else (zI (sA (sG g) : Int), actG g (setA (sG g) z.toNat))) else (zI (-2), g)
def spSetV (g : GS) (z : Int) : Int32 × GS := if 1 ≤ z ∧ z ≤ 999 then (zI (sV (sG g) : Int), actG g (setV (sG g) z.toNat)) else (zI (-2), g)
def spAdd (g : GS) (q : Itm) : Int32 × GS := if nS (sG g) = 8 then (zI (-4), g) else (zI ((nS (sG g) + 1 : Nat) : Int), actG g (addI (sG g) q))
def spMove (g : GS) (z w : Int) : Int32 × GS := if -999 ≤ z ∧ z ≤ 999 ∧ -999 ≤ w ∧ w ≤ 999 ∧ ¬ (z = 0 ∧ w = 0) then spAdd g (z, w, 0) else (zI (-2), g)
def spWait (g : GS) (z : Int) : Int32 × GS := if 1 ≤ z ∧ z ≤ 9999 then spAdd g (0, 0, z) else (zI (-2), g)
def spStep (g : GS) : Int32 × GS := if nS (sG g) = 0 then (zI (-3), g) else (zI (tkS (sG g) : Int), actG g (stepS (sG g)))
def spRun (g : GS) (z : Int) : Int32 × GS := if 1 ≤ z ∧ z ≤ 99999 then (if nS (sG g) = 0 then (zI (-3), g) else (zI ((runS 8000 z (sG g)).1 : Int), actG g (runS 8000 z (sG g)).2)) else (zI (-2), g)
def spStop (g : GS) : Int32 × GS := if sM (sG g) = 0 then (zI (-3), g) else (zI (sI (sG g) : Int), actG g (stopS (sG g)))
def spRem (g : GS) (z : Int) : Int32 × GS := if 0 ≤ z ∧ z < nS (sG g) then (if z = 0 ∧ sM (sG g) ≠ 0 then (zI (-3), g) else (zI ((nS (sG g) - 1 : Nat) : Int), actG g (remI (sG g) z.toNat))) else (zI (-1), g)
def spUndo (g : GS) : Int32 × GS := if nHc g = 0 then (zI (-3), g) else (zI ((nHc g - 1 : Nat) : Int), undG g)
def spLeft (g : GS) : Int32 × GS := (sT (runS 8000 BIG (sG g)).2 - sT (sG g), g)
def spMoveT (g : GS) (z : Int) : Int32 × GS := (zI (if 1 ≤ z ∧ z ≤ 999 then (mv (sA (sG g)) (cr (sV (sG g))) z.toNat : Int) else -2), g)
def spAfter (g : GS) (z w : Int) : Int32 × GS := (if z = 0 ∨ z = 1 then (if 0 ≤ w ∧ w ≤ 99999 then shownX (runS 8000 w (sG g)).2 z else zI (-2)) else zI (-1), g)
def spLeast (g : GS) (z w : Int) : Int32 × GS := (zI (if 1 ≤ z ∧ z ≤ 999 ∧ 1 ≤ w ∧ w ≤ 99999 then lstA (sV (sG g)) z.toNat w 999 1 else -2), g)
def spGreat (g : GS) (z : Int) : Int32 × GS := (zI (if 1 ≤ z ∧ z ≤ 99999 then grtL (sA (sG g)) (sV (sG g)) z 999 else -2), g)
def spScript (g : GS) (n z : Int) : Int32 × GS := (zI (if 1 ≤ n ∧ n ≤ 4 ∧ 0 ≤ z ∧ z < 10000 ^ n.toNat then scrS z n.toNat n.toNat 0 (sG g) else -2), g)
def spRnd (g : GS) (x : Int64) (z : Int) : Int32 × GS := (if 1 ≤ z ∧ z ≤ 500 then sT (rndS z.toNat x (sG g)) - sT (sG g) else zI (-2), g)
def spSave (g : GS) (z : Int) : Int32 × GS := if z = 0 ∨ z = 1 then (zI (nS (sG g) : Int), savG g z.toNat) else (zI (-1), g)
def spRest (g : GS) (z : Int) : Int32 × GS := if z = 0 ∨ z = 1 then (match nSav g z.toNat with | none => (zI (-3), g) | some s => (zI (nS s : Int), resG g s)) else (zI (-1), g)
/-! the answers leave the state well -/
theorem ok_setA {s : Sg} {a : Nat} (h : OkS s) (h1 : 1 ≤ a) (h2 : a ≤ 999) : OkS (setA s a) := by
  obtain ⟨b, v, x, y, t, n, d, m, i, l⟩ := s
  exact ⟨h1, h2, h.2.2⟩
theorem ok_setV {s : Sg} {v : Nat} (h : OkS s) (h1 : 1 ≤ v) (h2 : v ≤ 999) : OkS (setV s v) := by
  obtain ⟨a, b, x, y, t, n, d, m, i, l⟩ := s
  exact ⟨h.1, h.2.1, h1, h2, h.2.2.2.2⟩
theorem ok_addI {s : Sg} {q : Itm} (h : OkS s) (hn : nS s < 8) (hq : ItOk q) : OkS (addI s q) := by
  obtain ⟨a, v, x, y, t, n, d, m, i, l⟩ := s
  have hn : n < 8 := hn
  obtain ⟨h1, h2, h3, h4, h5, h6, h7, h8⟩ := h
  refine ⟨h1, h2, h3, h4, by omega, fun j hj => ?_, h7, fun hm => ?_⟩
  · show ItOk (if j = n then q else d j)
    by_cases c : j = n
    · rw [if_pos c]; exact hq
    · rw [if_neg c]; exact h6 j (by omega)
  · obtain ⟨b1, b2, b3, b4, b5⟩ := h8 hm
    have e : (fun j => if j = n then q else d j) 0 = d 0 := if_neg (by omega)
    rw [e]
    exact ⟨by omega, b2, b3, b4, b5⟩
theorem ok_remI {s : Sg} {i : Nat} (h : OkS s) (hi : i < nS s) (hm : i = 0 → sM s = 0) : OkS (remI s i) := by
  obtain ⟨a, v, x, y, t, n, d, m, p, l⟩ := s
  have hi : i < n := hi
  have hm : i = 0 → m = 0 := hm
  obtain ⟨h1, h2, h3, h4, h5, h6, h7, h8⟩ := h
  refine ⟨h1, h2, h3, h4, by omega, dropD_ok h6, h7, fun q => ?_⟩
  obtain ⟨b1, b2, b3, b4, b5⟩ := h8 q
  have hi0 : ¬ i = 0 := fun e => by have := hm e; omega
  have e : dropD d i 0 = d 0 := if_pos (by omega)
  rw [e]
  exact ⟨by omega, b2, b3, b4, b5⟩
theorem ok_stopS {s : Sg} (h : OkS s) (hm : sM s ≠ 0) : OkS (stopS s) := by
  obtain ⟨a, v, x, y, t, n, d, m, i, l⟩ := s
  have hm : m ≠ 0 := hm
  obtain ⟨h1, h2, h3, h4, h5, h6, h7, h8⟩ := h
  obtain ⟨b1, b2, b3, b4, b5⟩ := h8 (by omega)
  unfold stopS
  by_cases c : i = 0
  · simp only [if_pos c]
    exact ⟨h1, h2, h3, h4, by omega, fun j hj => by omega, fun _ => ⟨rfl, rfl⟩, fun q => absurd q (Nat.lt_irrefl 0)⟩
  · simp only [if_neg c]
    exact ⟨h1, h2, h3, h4, by omega, fun j hj => h6 j (by omega), fun q => absurd q hm, fun _ => ⟨by omega, b2, by omega, by omega, Nat.le_refl _⟩⟩
theorem ok_act {g : GS} {s : Sg} (h : OkG g) (he : g.2.2.2.2.1 < 100000) (hs : OkS s) : OkG (actG g s) := (h.rem he).set hs
def heG (g : GS) : Nat := g.2.2.2.2.1
theorem he_act (g : GS) (s : Sg) : heG (actG g s) = heG g + 1 := by
  obtain ⟨tl, tx, s0, hc, he, hh, sv⟩ := g
  rfl
/-! the reference's answers -/
theorem fm_cs {I I1 : Mem} {k : Nat} (h : Cs I I1 k) : ∀ x, x < k → I1 x = I x := fun x hx => h.1 x (by omega) (by omega)
theorem fm_cr {I I1 : Mem} {k row : Nat} (h : Cr I I1 k row) (hr : k ≤ row) : ∀ x, x < k → I1 x = I x := fun x hx => h.1 x (by omega) (by omega) (by omega)
