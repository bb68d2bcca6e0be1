/-! THE PURE HALF: books, their layings, the relation of the two states -/
abbrev Pb : Type := (Nat → Nat) × (Nat → Nat) × (Nat → Nat) × (Nat → Nat) × Nat × Nat × Nat
def pK (P : Pb) : Nat → Nat := P.1
def pZ (P : Pb) : Nat → Nat := P.2.1
def pL (P : Pb) : Nat → Nat := P.2.2.1
def pM (P : Pb) : Nat → Nat := P.2.2.2.1
def pn (P : Pb) : Nat := P.2.2.2.2.1
def pg (P : Pb) : Nat := P.2.2.2.2.2.1
def ph (P : Pb) : Nat := P.2.2.2.2.2.2
/-- a book as the document allows it -/
def VI (P : Pb) (i : Nat) : Prop := pK P i ≤ 2 ∧ (pK P i = 0 → 1 ≤ pZ P i ∧ pZ P i ≤ 12 ∧ pL P i = 0 ∧ pM P i = 0) ∧ (pK P i ≠ 0 → 1 ≤ pZ P i ∧ pZ P i ≤ 80 ∧ pL P i ≤ pM P i ∧ pM P i ≤ 30)
def VB (P : Pb) : Prop := pn P ≤ 12 ∧ 3 ≤ pg P ∧ pg P ≤ 20 ∧ 12 ≤ ph P ∧ ph P ≤ 200 ∧ ∀ i, i < pn P → VI P i
/-- the class's cells hold the book -/
def RB (P : Pb) (bK bZ bL bM : Nat → Int32) (bi bg bh : Int32) : Prop := bi = nI (pn P) ∧ bg = nI (pg P) ∧ bh = nI (ph P) ∧ ∀ i, i < pn P → bK i = nI (pK P i) ∧ bZ i = nI (pZ P i) ∧ bL i = nI (pL P i) ∧ bM i = nI (pM P i)
/-- the reference's row holds the book, from place o on -/
def RG (P : Pb) (o : Nat) (gS : Nat → Int32) : Prop := gS (o + 50) = nI (pn P) ∧ gS (o + 48) = nI (pg P) ∧ gS (o + 49) = nI (ph P) ∧ ∀ i, i < pn P → gS (o + i) = nI (pK P i) ∧ gS (o + 12 + i) = nI (pZ P i) ∧ gS (o + 24 + i) = nI (pL P i) ∧ gS (o + 36 + i) = nI (pM P i)
def tn (P : Pb) (i : Nat) : Nat := if pK P i = 0 then pZ P i else 1
def ta (P : Pb) (i : Nat) : Nat := if pK P i = 0 then pg P else pZ P i
def pr (P : Pb) : Nat → Nat
  | 0 => 0
  | i + 1 => pr P i + tn P i
/-- how many things there are -/
def tt (P : Pb) : Nat := pr P (pn P)
def nx (P : Pb) (i k : Nat) : Nat × Nat := if k + 1 < tn P i then (i, k + 1) else (i + 1, 0)
def om : Option Nat → Option Nat → Option Nat
  | none, b => b
  | some a, none => some a
  | some a, some b => some (if b < a then b else a)
def oa (x : Option Nat) (k : Nat) : Option Nat := x.map (· + k)
/-- the least over the rooms lo, lo + 1 .. (so many) -/
def rm (f : Nat → Option Nat) : Nat → Nat → Option Nat
  | _, 0 => none
  | lo, m + 1 => om (f lo) (rm f (lo + 1) m)
/-- the first room from lo on (of so many) that comes to v -/
def fd (f : Nat → Option Nat) (v : Option Nat) : Nat → Nat → Option Nat
  | _, 0 => none
  | lo, m + 1 => if f lo = v then some lo else fd f v (lo + 1) m
abbrev mB (P : Pb) (i k c : Nat) : Prop := ta P i ≤ ph P ∧ ¬ (k = 0 ∧ 0 < i ∧ pK P (i - 1) = 1) ∧ (pK P i ≠ 0 ∨ k = 0 ∨ (c = 2 ∧ k + 1 < pZ P i))
def nc (P : Pb) (i k c : Nat) : Nat := if pK P i ≠ 0 then 0 else if k = 0 ∨ c = 0 then 1 else 2
def fc (P : Pb) (i : Nat) : Nat := if pK P i = 0 then 1 else 0
def oz (P : Pb) (i top : Nat) : Nat := if pK P i = 0 ∧ ¬ top % pg P = 0 then 1000 else 0
/-- what a thing comes to with a room x behind the end e, v being what follows -/
def wi (P : Pb) (i e : Nat) (v : Nat → Option Nat) (x : Nat) : Option Nat := if e + x + ta P i ≤ ph P then oa (v (e + x + ta P i)) (x + oz P i (e + x)) else none
/-- the least that r things from thing k of item i on come to, behind the end e, with c lines of their text (two are enough) in the column -/
def V (P : Pb) : Nat → Nat → Nat → Nat → Nat → Option Nat
  | 0, _, _, _, _ => some 0
  | r + 1, i, k, e, c => om (if mB P i k c then oa (V P r (nx P i k).1 (nx P i k).2 (ta P i) (fc P i)) 1000000 else none)
      (rm (wi P i e (fun e' => V P r (nx P i k).1 (nx P i k).2 e' (nc P i k c))) (pL P i) (pM P i + 1 - pL P i))
/-- the least that a whole book comes to -/
def VT (P : Pb) : Option Nat := if tt P = 0 then some 0 else if ta P 0 ≤ ph P then oa (V P (tt P - 1) (nx P 0 0).1 (nx P 0 0).2 (ta P 0) (fc P 0)) 1000000 else none
/-- the room of the best laying at a state, none: it is first in its column -/
def ch (P : Pb) (r i k e c : Nat) : Option Nat := match r with
  | 0 => none
  | r + 1 => fd (wi P i e (fun e' => V P r (nx P i k).1 (nx P i k).2 e' (nc P i k c))) (V P (r + 1) i k e c) (pL P i) (pM P i + 1 - pL P i)
/-- before thing t of the best laying: its item, its line, the end before it, lines of its text in the column, columns so far -/
def sq (P : Pb) : Nat → Nat × Nat × Nat × Nat × Nat
  | 0 => (0, 0, 0, 2, 0)
  | t + 1 => match sq P t with
    | (i, k, e, c, n) => match (if t = 0 then none else ch P (tt P - t) i k e c) with
      | some x => ((nx P i k).1, (nx P i k).2, e + x + ta P i, nc P i k c, n)
      | none => ((nx P i k).1, (nx P i k).2, ta P i, fc P i, n + 1)
def qi (P : Pb) (t : Nat) : Nat := (sq P t).1
def qk (P : Pb) (t : Nat) : Nat := (sq P t).2.1
def qe (P : Pb) (t : Nat) : Nat := (sq P t).2.2.1
def qc (P : Pb) (t : Nat) : Nat := (sq P t).2.2.2.1
def qn (P : Pb) (t : Nat) : Nat := (sq P t).2.2.2.2
/-- thing t of the best laying: its room (none: it is first), its column, its top -/
def qx (P : Pb) (t : Nat) : Option Nat := if t = 0 then none else ch P (tt P - t) (qi P t) (qk P t) (qe P t) (qc P t)
def qo (P : Pb) (t : Nat) : Nat := qn P (t + 1) - 1
def qt (P : Pb) (t : Nat) : Nat := match qx P t with
  | some x => qe P t + x
  | none => 0
def qr (P : Pb) (t : Nat) : Nat := (qx P t).getD 0
/-- sums over the things before t -/
def sm (f : Nat → Nat) : Nat → Nat
  | 0 => 0
  | t + 1 => sm f t + f t
def isO (P : Pb) (t : Nat) : Nat := if pK P (qi P t) = 0 ∧ ¬ qt P t % pg P = 0 then 1 else 0
def isS (P : Pb) (t : Nat) : Nat := if (qx P t).isNone ∧ pK P (qi P t) = 0 ∧ 0 < qk P t then 1 else 0
def isE (P : Pb) (t : Nat) : Nat := if t + 1 = tt P ∨ (qx P (t + 1)).isNone then ph P - (qt P t + ta P (qi P t)) else 0
/-- the class's laying cells hold the best laying of the book -/
def LD (P : Pb) (lI lC lT lR : Nat → Int32) (lth lro lsp lle lex lco lou : Int32) : Prop :=
  (VT P = none ∧ lex = 0) ∨ ((∃ v, VT P = some v) ∧ lex = 1 ∧ lth = nI (tt P) ∧ (∀ t, t < tt P → lI t = nI (qi P t) ∧ lC t = nI (qo P t) ∧ lT t = nI (qt P t) ∧ lR t = nI (qr P t)) ∧
    lco = nI (qn P (tt P)) ∧ lou = nI (sm (isO P) (tt P)) ∧ lro = nI (sm (qr P) (tt P)) ∧ lsp = nI (sm (isS P) (tt P)) ∧ lle = nI (sm (isE P) (tt P)))
