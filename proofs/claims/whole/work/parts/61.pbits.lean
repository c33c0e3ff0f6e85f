/-! the bits of a set -/
def ush (x y : Int32) : Int32 := (x.toUInt32 >>> (y.toUInt32 &&& Int32.toUInt32 31)).toInt32
def bc1 (q : Int32) : Int32 := q - (ush q (nI 1) &&& nI 1431655765)
def bc2 (q : Int32) : Int32 := (q &&& nI 858993459) + (ush q (nI 2) &&& nI 858993459)
def bc3 (q : Int32) : Int32 := (q + ush q (nI 4)) &&& nI 252645135
def bc4 (q : Int32) : Int32 := q + ush q (nI 8)
def bc5 (q : Int32) : Int32 := q + ush q (nI 16)
def bcE (q : Int32) : Int32 := bc5 (bc4 (bc3 (bc2 (bc1 q)))) &&& nI 63
theorem bc_k : ∀ k, k < 256 → bcE (nI k) = nI (onesL k k 0) := by decide +kernel
