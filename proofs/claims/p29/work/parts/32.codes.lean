/-! what a throw is as a number -/
def wzc : List Nat → Nat → Int32 → Int32
  | [], _, _ => 0
  | a :: r, k, i => if k = a then i else wzc r k (i + 1)
/-- what the wrapper answers of a call's code, by the exceptions that it catches -/
def wzcode (l : List Nat) (k : Nat) : Int32 := if k = 0 then 0 else wzc l k 1
