/-! what the document says, over numbers and lists; a number or row stands at the model's own column: (column, number, place) -/
abbrev SP : Type := (Nat → Nat → Nat → Nat) × (Nat → Nat → Nat → Option (List Nat))
def zN (S : SP) (f i j v : Nat) : SP := (up3 S.1 f i j v, S.2)
def zR (S : SP) (f i j : Nat) (r : Option (List Nat)) : SP := (S.1, up3 S.2 f i j r)
abbrev nS (S : SP) : Nat := S.1 643 0 0
abbrev fe (S : SP) (i : Nat) : Nat := S.1 704 11 i
/-- 0: there is no sound with these features; else its number and 1 -/
abbrev wi (S : SP) (f : Nat) : Nat := S.1 704 12 f
abbrev nC (S : SP) : Nat := S.1 646 0 0
abbrev ne (S : SP) (i : Nat) : Nat := S.1 704 14 i
abbrev ba (S : SP) (i : Nat) : Nat := S.1 704 15 i
abbrev dr (S : SP) : List Nat := (S.2 647 0 0).getD []
abbrev fo (S : SP) (l : Nat) : List Nat := (S.2 768 408 l).getD []
abbrev th (S : SP) (l : Nat) : Nat := S.1 832 9 l
abbrev nL (S : SP) : Nat := S.1 650 0 0
abbrev en (S : SP) (c : Nat) : List Nat := (S.2 768 411 c).getD []
abbrev xc9 (S : SP) (l c : Nat) : Option (List Nat) := S.2 768 412 (8 * l + c)
abbrev ta (S : SP) (r : Nat) : Nat := S.1 704 23 r
abbrev tu (S : SP) (r : Nat) : Nat := S.1 704 24 r
/-- 0: EDGE, 1: ANY, else the class's number and 2 -/
abbrev le9 (S : SP) (r : Nat) : Nat := S.1 704 25 r
abbrev ri9 (S : SP) (r : Nat) : Nat := S.1 704 26 r
abbrev orr (S : SP) (p : Nat) : Nat := S.1 704 27 p
abbrev on9 (S : SP) : Nat := S.1 658 0 0
abbrev nR (S : SP) : Nat := S.1 659 0 0
abbrev ol (S : SP) (w : Nat) : Nat := S.1 704 31 w
abbrev cw (S : SP) (w : Nat) : Nat := S.1 704 32 w
abbrev sw (S : SP) (w : Nat) : Nat := S.1 704 33 w
abbrev hr (S : SP) (w : Nat) : List Nat := (S.2 768 424 w).getD []
abbrev hd9 (S : SP) (w : Nat) : Nat := S.1 832 25 w
abbrev nW (S : SP) : Nat := S.1 666 0 0
abbrev im (S : SP) (d : Nat) : Nat := S.1 832 27 d
abbrev d1 (S : SP) (d : Nat) : Nat := S.1 704 38 d
abbrev d2 (S : SP) (d : Nat) : Nat := S.1 704 39 d
abbrev mv (S : SP) (d : Nat) : Nat := S.1 768 430 d
abbrev kp (S : SP) (k : Nat) : Option (List Nat) := S.2 768 431 k
abbrev nD (S : SP) : Nat := S.1 672 0 0
/-- a number between 0 and n - 1 -/
def inI (x : Int32) (n : Nat) : Bool := decide (0 ≤ x.toInt) && decide (x.toInt < (n : Int))
abbrev xN (x : Int32) : Nat := x.toNatClampNeg
def isOf (S : SP) (s c : Nat) : Bool := decide (fe S s &&& ne S c = ne S c) && decide (fe S s &&& ba S c = 0)
def okSide (S : SP) (side : Nat) (o : Option Nat) : Bool := if side = 1 then true else if side = 0 then o.isNone else match o with
  | none => false
  | some s => isOf S s (side - 2)
def met (S : SP) (r : Nat) (ahead : Option Nat) (s : Nat) (behind : Option Nat) : Bool := okSide S (le9 S r) ahead && okSide S (ri9 S r) behind && isOf S s (ta S r)
/-- the row behind k places of a rule's going over, and how many sounds were met and turned or left out -/
def gol (S : SP) (r : Nat) (row : List Nat) : Nat → List Nat × Nat
  | 0 => ([], 0)
  | k + 1 => match row[k]? with
    | none => gol S r row k
    | some s => if met S r (gol S r row k).1.getLast? s row[k + 1]? = true then (if tu S r = 0 then ((gol S r row k).1, (gol S r row k).2 + 1) else if wi S (fe S s ^^^ tu S r) = 0 then ((gol S r row k).1 ++ [s], (gol S r row k).2) else ((gol S r row k).1 ++ [wi S (fe S s ^^^ tu S r) - 1], (gol S r row k).2 + 1)) else ((gol S r row k).1 ++ [s], (gol S r row k).2)
def gone (S : SP) (r : Nat) (row : List Nat) : List Nat × Nat := gol S r row row.length
def derP (S : SP) (set : Nat) (row : List Nat) : Nat → List Nat
  | 0 => row
  | p + 1 => if set.testBit (orr S p) = true then (gone S (orr S p) (derP S set row p)).1 else derP S set row p
def der (S : SP) (set : Nat) (row : List Nat) : List Nat := derP S set row (nR S)
def base9 (S : SP) (l c : Nat) : List Nat := fo S l ++ en S c
def word9 (S : SP) (l c : Nat) : List Nat := (xc9 S l c).getD (der S (on9 S) (base9 S l c))
/-- a rule's place in the order: the first place from p on, of n more -/
def posF (S : SP) (r : Nat) : Nat → Nat → Nat
  | 0, p => p
  | n + 1, p => if orr S p = r then p else posF S r n (p + 1)
def pos9 (S : SP) (r : Nat) : Nat := posF S r (nR S) 0
def steps9 (S : SP) (l c r : Nat) : Nat := if (on9 S).testBit r = true then (gone S r (derP S (on9 S) (base9 S l c) (pos9 S r))).2 else 0
def bare (S : SP) (w : Nat) : Bool := decide (hd9 S w = 1) && (xc9 S (ol S w) (cw S w)).isNone
def fits9 (S : SP) (w : Nat) : Bool := decide (hr S w = word9 S (ol S w) (cw S w))
def fitsBy (S : SP) (w set : Nat) : Bool := decide (hr S w = der S set (base9 S (ol S w) (cw S w)))
def fitset (S : SP) (set : Nat) : Bool := (List.range (nW S)).all (fun w => !bare S w || fitsBy S w set)
def ones (s : Nat) : Nat := fb_ct (fun k => s.testBit k) 6
def smal (S : SP) : Nat → Option Nat
  | 0 => none
  | s + 1 => if fitset S s = true ∧ (∀ b, smal S s = some b → ones s < ones b) then some s else smal S s
def heardIn (S : SP) (l : Nat) : Nat → Nat
  | 0 => 0
  | w + 1 => if hd9 S w = 1 ∧ ol S w = l then heardIn S l w ||| 2 ^ cw S w else heardIn S l w
/-- how many unlike rows the first n fitting sets tell -/
def unl (S : SP) (row : List Nat) (n : Nat) : Nat := fb_ct (fun s => fitset S s && decide (∀ k, k < s → fitset S k = true → der S k row ≠ der S s row)) n
def qn (S : SP) (l c : Nat) : Nat := if (xc9 S l c).isNone = true ∧ (heardIn S l (nW S)).testBit c = false then unl S (base9 S l c) (2 ^ nR S) else 0
/-- the question behind k cells of lexemes (8 to a lexeme): the most, and where -/
def ques (S : SP) : Nat → Nat × Option Nat
  | 0 => (1, none)
  | k + 1 => if th S (k / 8) = 1 ∧ (ques S k).1 < qn S (k / 8) (k % 8) then (qn S (k / 8) (k % 8), some k) else ques S k
def isPair9 (S : SP) (v w a b : Nat) : Bool := decide (hd9 S v = 1 ∧ hd9 S w = 1 ∧ ol S v ≠ ol S w ∧ (hr S v).length = (hr S w).length) && decide (fb_ct (fun k => decide ((hr S v)[k]? ≠ (hr S w)[k]?)) (hr S v).length = 1) && decide (∃ k, k < (hr S v).length ∧ (((hr S v)[k]? = some a ∧ (hr S w)[k]? = some b) ∨ ((hr S v)[k]? = some b ∧ (hr S w)[k]? = some a)))
def pairs9 (S : SP) (a b : Nat) : Nat := fb_sm (fun v => fb_ct (fun w => decide (v < w) && isPair9 S v w a b) (nW S)) (nW S)
def isShared9 (S : SP) (l c a b : Nat) : Bool := decide (∃ v, v < nW S ∧ ∃ w, w < nW S ∧ hd9 S v = 1 ∧ hd9 S w = 1 ∧ ol S v = l ∧ ol S w = l ∧ cw S v = c ∧ cw S w = c ∧ sw S v = a ∧ sw S w = b ∧ hr S v = hr S w)
def shared9 (S : SP) (a b : Nat) : Nat := fb_sm (fun l => fb_ct (fun c => isShared9 S l c a b) 8) (nL S)
def isLex (S : SP) (x : Int32) : Bool := inI x (nL S) && decide (th S (xN x) = 1)
def isWrd (S : SP) (x : Int32) : Bool := inI x (nW S) && decide (hd9 S (xN x) = 1)
/-! the calls: the exception's place (0 for none), the answer, the state behind -/
abbrev Ans : Type := Nat × Int32 × SP
def s_sound (S : SP) (x : Int32) : Ans := if inI x 64 = false then (1, 0, S) else if wi S (xN x) ≠ 0 ∨ nS S = 16 then (2, 0, S) else (0, nI (nS S), zN (zN (zN S 704 11 (nS S) (xN x)) 704 12 (xN x) (nS S + 1)) 643 0 0 (nS S + 1))
def s_kind (S : SP) (x y : Int32) : Ans := if (inI x 64 && inI y 64) = false then (1, 0, S) else if nC S = 12 then (2, 0, S) else (0, nI (nC S), zN (zN (zN S 704 14 (nC S) (xN x)) 704 15 (nC S) (xN y)) 646 0 0 (nC S + 1))
def s_put (S : SP) (x : Int32) : Ans := if inI x (nS S) = false then (1, 0, S) else if (dr S).length = 8 then (2, 0, S) else (0, nI ((dr S).length + 1), zR S 647 0 0 (some (dr S ++ [xN x])))
def s_wipe (S : SP) : Ans := (0, nI (dr S).length, zR S 647 0 0 (some []))
def isForm9 (S : SP) : Bool := decide (1 ≤ (dr S).length) && decide ((dr S).length ≤ 6)
/-- a new lexeme with a form -/
def makes9 (S : SP) (r : List Nat) : SP := zN (zN (zR S 768 408 (nL S) (some r)) 832 9 (nL S) 1) 650 0 0 (nL S + 1)
def noDraft (S : SP) : SP := zR S 647 0 0 (some [])
def s_lexeme (S : SP) : Ans := if nL S = 16 ∨ isForm9 S = false then (1, 0, S) else (0, nI (nL S), makes9 (noDraft S) (dr S))
def s_reform (S : SP) (x : Int32) : Ans := if isLex S x = false then (1, 0, S) else if isForm9 S = false then (2, 0, S) else (0, 0, zR (noDraft S) 768 408 (xN x) (some (dr S)))
def s_ending (S : SP) (x : Int32) : Ans := if inI x 8 = false then (1, 0, S) else if 2 < (dr S).length then (2, 0, S) else (0, 0, zR (noDraft S) 768 411 (xN x) (some (dr S)))
def isSide9 (S : SP) (x : Int32) : Bool := decide (x = -1) || decide (x = -2) || inI x (nC S)
def sideN (x : Int32) : Nat := if x = -1 then 1 else if x = -2 then 0 else xN x + 2
def s_rule (S : SP) (t u l r : Int32) : Ans := if (inI t (nC S) && isSide9 S l && isSide9 S r) = false then (1, 0, S) else if inI u 64 = false then (2, 0, S) else if nR S = 6 then (3, 0, S) else (0, nI (nR S), zN (zN (zN (zN (zN (zN (zN S 704 23 (nR S) (xN t)) 704 24 (nR S) (xN u)) 704 25 (nR S) (sideN l)) 704 26 (nR S) (sideN r)) 704 27 (nR S) (nR S)) 658 0 0 (on9 S ||| 2 ^ nR S)) 659 0 0 (nR S + 1))
/-- a set with a rule, or without -/
def setOn (s r : Nat) (b : Bool) : Nat := if b then s ||| 2 ^ r else if s.testBit r then s - 2 ^ r else s
def s_turn (S : SP) (x : Int32) (b : Bool) : Ans := if inI x (nR S) = false then (1, 0, S) else (0, bI (decide ((on9 S).testBit (xN x) ≠ b)), zN S 658 0 0 (setOn (on9 S) (xN x) b))
def s_raise (S : SP) (x : Int32) : Ans := if inI x (nR S) = false then (1, 0, S) else if pos9 S (xN x) = 0 then (0, 0, S) else (0, nI (pos9 S (xN x) - 1), zN (zN S 704 27 (pos9 S (xN x)) (orr S (pos9 S (xN x) - 1))) 704 27 (pos9 S (xN x) - 1) (xN x))
def s_hear (S : SP) (x c p : Int32) : Ans := if (isLex S x && inI c 8 && inI p 4) = false then (1, 0, S) else if nW S = 40 then (2, 0, S) else (0, nI (nW S), zN (zN (zR (noDraft (zN (zN (zN S 704 31 (nW S) (xN x)) 704 32 (nW S) (xN c)) 704 33 (nW S) (xN p))) 768 424 (nW S) (some (dr S))) 832 25 (nW S) 1) 666 0 0 (nW S + 1))
def s_correct (S : SP) (x : Int32) : Ans := if isWrd S x = false then (1, 0, S) else (0, bI (decide (dr S ≠ hr S (xN x))), zR (noDraft S) 768 424 (xN x) (some (dr S)))
def heards (S : SP) (n : Nat) : Nat := fb_ct (fun w => decide (hd9 S w = 1)) n
def s_forget (S : SP) (x : Int32) : Ans := if isWrd S x = false then (1, 0, S) else (0, nI (heards (zN S 832 25 (xN x) 0) (nW S)), zN S 832 25 (xN x) 0)
def s_except (S : SP) (x c : Int32) (b : Bool) : Ans := if (isLex S x && inI c 8) = false then (1, 0, S) else (0, bI (xc9 S (xN x) (xN c)).isSome, if b then zR (noDraft S) 768 412 (8 * xN x + xN c) (some (dr S)) else zR S 768 412 (8 * xN x + xN c) none)
/-- what is kept ahead of a deed -/
def keepC (S : SP) (its into : Nat) : Nat → SP
  | 0 => S
  | c + 1 => zR (zR (keepC S its into c) 768 431 (16 * nD S + c) (xc9 S its c)) 768 431 (16 * nD S + 8 + c) (xc9 S into c)
def keeps9 (S : SP) (m its into : Nat) : SP := keepC (zN (zN (zN (zN S 832 27 (nD S) m) 704 38 (nD S) its) 704 39 (nD S) into) 768 430 (nD S) 0) its into 8
/-- the words of a lexeme in some cells, of the first n, are moved -/
def moveW (S : SP) (l into cells : Nat) : Nat → SP
  | 0 => S
  | w + 1 => if hd9 S w = 1 ∧ ol S w = l ∧ cells.testBit (cw S w) = true then zN (zN (moveW S l into cells w) 704 31 w into) 768 430 (nD S) (mv (moveW S l into cells w) (nD S) ||| 2 ^ w) else moveW S l into cells w
def moveN (S : SP) (l cells n : Nat) : Nat := fb_ct (fun w => decide (hd9 S w = 1 ∧ ol S w = l ∧ cells.testBit (cw S w) = true)) n
def mergeX (S : SP) (l into : Nat) : Nat → SP
  | 0 => S
  | c + 1 => zR (zR (mergeX S l into c) 768 412 (8 * into + c) (if (xc9 S into c).isNone then xc9 S l c else xc9 S into c)) 768 412 (8 * l + c) none
def s_merge (S : SP) (x y : Int32) : Ans := if (isLex S x && isLex S y) = false then (1, 0, S) else if xN x = xN y then (2, 0, S) else (0, nI (moveN S (xN x) 255 (nW S)), zN (zN (mergeX (moveW (keeps9 S 1 (xN x) (xN y)) (xN x) (xN y) 255 (nW S)) (xN x) (xN y) 8) 832 9 (xN x) 0) 672 0 0 (nD S + 1))
def splitX (S : SP) (l made cells : Nat) : Nat → SP
  | 0 => S
  | c + 1 => if cells.testBit c = true then zR (zR (splitX S l made cells c) 768 412 (8 * made + c) (xc9 S l c)) 768 412 (8 * l + c) none else splitX S l made cells c
def s_split (S : SP) (x y : Int32) : Ans := if isLex S x = false then (1, 0, S) else if (inI y 256 && decide (xN y ≠ 0)) = false then (2, 0, S) else if nL S = 16 then (3, 0, S) else (0, nI (nL S), zN (splitX (moveW (keeps9 (makes9 S (fo S (xN x))) 0 (nL S) (xN x)) (xN x) (nL S) (xN y) (nW S)) (xN x) (nL S) (xN y) 8) 672 0 0 (nD S + 1))
/-- the words of the first n go back: d is the deed's number -/
def backW (S : SP) (d : Nat) : Nat → SP
  | 0 => S
  | w + 1 => if (if im S d = 1 then (mv S d).testBit w else decide (ol S w = d1 S d)) = true then zN (backW S d w) 704 31 w (if im S d = 1 then d1 S d else d2 S d) else backW S d w
def backX (S : SP) (d : Nat) : Nat → SP
  | 0 => S
  | c + 1 => zR (zR (backX S d c) 768 412 (8 * d1 S d + c) (kp S (16 * d + c))) 768 412 (8 * d2 S d + c) (kp S (16 * d + 8 + c))
def s_undo (S : SP) : Ans := if nD S = 0 then (1, 0, S) else (0, nI (nD S - 1), zN (backX (backW (zN S 672 0 0 (nD S - 1)) (nD S - 1) (nW S)) (nD S - 1) 8) 832 9 (d1 S (nD S - 1)) (im S (nD S - 1)))
def s_length (S : SP) (x c : Int32) : Ans := if (isLex S x && inI c 8) = false then (1, 0, S) else (0, nI (word9 S (xN x) (xN c)).length, S)
def s_at (S : SP) (x c p : Int32) : Ans := if (isLex S x && inI c 8 && decide (0 ≤ p.toInt)) = false then (1, 0, S) else (0, nI (cd (word9 S (xN x) (xN c)) (xN p)) - 1, S)
def s_step (S : SP) (x c r : Int32) : Ans := if (isLex S x && inI c 8 && inI r (nR S)) = false then (1, 0, S) else (0, nI (steps9 S (xN x) (xN c) (xN r)), S)
def s_ofWord (S : SP) (x y : Int32) : Ans := if isWrd S x = false then (1, 0, S) else if inI y 5 = false then (2, 0, S) else (0, (match xN y with
  | 0 => nI (ol S (xN x))
  | 1 => nI (cw S (xN x))
  | 2 => nI (sw S (xN x))
  | 3 => nI (hr S (xN x)).length
  | _ => bI (fits9 S (xN x))), S)
/-- the misfit behind k others, from the word w on, n words at most -/
def misF (S : SP) : Nat → Nat → Nat → Option Nat
  | 0, _, _ => none
  | n + 1, w, k => if hd9 S w = 1 ∧ fits9 S w = false then (if k = 0 then some w else misF S n (w + 1) (k - 1)) else misF S n (w + 1) k
def noneI (o : Option Nat) : Int32 := match o with
  | some n => nI n
  | none => -1
def s_misfit (S : SP) (x : Int32) : Ans := if decide (0 ≤ x.toInt) = false then (1, 0, S) else (0, noneI (misF S (nW S) 0 (xN x)), S)
def isClaim (S : SP) (r : Nat) (b : Bool) (w : Nat) : Bool := if b then bare S w && fitsBy S w (on9 S) && decide (0 < steps9 S (ol S w) (cw S w) r) else bare S w && !fitsBy S w (on9 S) && fitsBy S w (setOn (on9 S) r false)
def s_claims (S : SP) (x : Int32) (b : Bool) : Ans := if inI x (nR S) = false then (1, 0, S) else (0, if (on9 S).testBit (xN x) = true then nI (fb_ct (isClaim S (xN x) b) (nW S)) else 0, S)
def s_fitting (S : SP) : Ans := (0, nI (fb_ct (fitset S) (2 ^ nR S)), S)
def s_smallest (S : SP) : Ans := (0, noneI (smal S (2 ^ nR S)), S)
def s_question (S : SP) : Ans := (0, noneI (ques S (8 * nL S)).2, S)
def s_pairs (S : SP) (x y : Int32) : Ans := if (inI x (nS S) && inI y (nS S)) = false then (1, 0, S) else if xN x = xN y then (2, 0, S) else (0, nI (pairs9 S (xN x) (xN y)), S)
def s_holes (S : SP) (x : Int32) : Ans := if isLex S x = false then (1, 0, S) else (0, nI (255 - heardIn S (xN x) (nW S)), S)
def s_shared (S : SP) (x y : Int32) : Ans := if (inI x 4 && inI y 4) = false then (1, 0, S) else (0, nI (shared9 S (xN x) (xN y)), S)
