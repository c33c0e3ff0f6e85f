/-! the tape's state: first, next, number -/
abbrev TX := Nat × Nat × Int32
def advT (tp : Nat → Int32) (T : Nat) (X : TX) : TX := (tokA tp T X.2.1, tokB tp T X.2.1, numX tp T (tokA tp T X.2.1) (tokB tp T X.2.1) X.2.2)
def tnC (tp : Nat → Int32) (T : Nat) (X : TX) (v : Int32) : Bool := decide (sortF tp T X.1 = nI 2) && decide (X.2.2 ≤ v)
def tnF (tp : Nat → Int32) (T : Nat) (X : TX) (v : Int32) : TX := if tnC tp T X v = true then advT tp T X else X
