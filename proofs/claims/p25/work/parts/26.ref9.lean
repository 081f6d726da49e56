/-! THE REFERENCE: what is told -/
abbrev gHas (S : Nat → Int) (b : Nat) (p : Int) : Prop := ¬ gArr S b ∧ (gF S b 2 = p ∨ (0 < gF S b 4 ∧ gNx S b = p))
def gAgN (S : Nat → Int) : Nat → Int
  | 0 => 0
  | n + 1 => gAgN S n + if ¬ gArr S n ∧ gAg S n then 1 else 0
def gSum (S : Nat → Int) (f : Nat) : Nat → Int
  | 0 => 0
  | n + 1 => gSum S f n + if f = 6 then (if 0 < S (6 + n) then 1 else 0) else S (f + n)
def gWat (S : Nat → Int) : Nat → Int
  | 0 => 0
  | n + 1 => gWat S n + S n
def gBoatOf (S : Nat → Int) (b : Nat) (w : Int) : Int :=
  if w = 0 then gF S b 0 else if w = 1 then gF S b 1 else if w = 2 then gF S b 2 else if w = 3 then gF S b 3 else if w = 4 then gF S b 4
  else if w = 5 then (if gArr S b then 1 else 0) else if w = 6 then (if gArr S b then -5 else gLk S b) else if w = 7 then (if gArr S b then -5 else gPl S b (gMany S)) else if w = 8 then gF S b 6 else if w = 9 then gF S b 5 else -2
def gLockOf (S : Nat → Int) (k : Nat) (w : Int) : Int :=
  if w = 0 then (if 0 < S (6 + k) then 1 else 0) else if w = 1 then gQue S k 1 (gMany S) else if w = 2 then gQue S k 0 (gMany S) else if w = 3 then gFst S k 1 (gMany S) else if w = 4 then gFst S k 0 (gMany S) else if w = 5 then S (11 + k) else if w = 6 then S (16 + k) else if w = 7 then S (6 + k) else -2
section
variable {sh : List (Nat × Nat × Nat)} {rm : Nat → Nat → Option Nat} {im : Nat → Nat → Int} {m : Nat} {S : Nat → Int} {sc : Nat × (Nat → Int)} {o : Nat × Nat} {Q : Option cs_A → cs_H → Prop}
end
