/-! The layout: where a Rule stands at u, its three Tables stand at u+1, u+3, u+5, each with its cells behind it; a Hall at h: its Tables at h+1, h+3, h+5, h+7, its Rule at h+9 (16 cells); a Standing at g: its Table at g+1, the cells at g+2. -/
def ruleF (ad : Nat → Nat) (u : Nat) (cl td hg : Int32) : List Value := [.ref (ad (u + 1)), .int cl, .int td, .ref (ad (u + 3)), .ref (ad (u + 5)), .int hg]
def hallF (ad : Nat → Nat) (h : Nat) (hv : Nat → Int32) : List Value := [.ref (ad (h + 1)), .ref (ad (h + 3)), .ref (ad (h + 5)), .ref (ad (h + 7)), .ref (ad (h + 9)), .int (hv 5), .int (hv 6), .int (hv 7), .int (hv 8), .int (hv 9), .int (hv 10), .int (hv 11)]
def standF (ad : Nat → Nat) (g h : Nat) (op : Int32) : List Value := [.ref (ad h), .ref (ad (g + 1)), .int op]
def logF (ad : Nat → Nat) (o : Nat) (ak sk : Int32) : List Value := [.ref (ad (o + 1)), .int ak, .ref (ad (o + 3)), .int sk, .ref (ad (o + 5))]
def packF (ad : Nat → Nat) (k : Nat) : List Value := [.ref (ad (k + 1)), .ref (ad (k + 3)), .ref (ad (k + 5))]
def plansF (ad : Nat → Nat) (a : Nat) (tf fk ck : Int32) : List Value := [.ref (ad (a + 1)), .int tf, .int fk, .ref (ad (a + 3)), .ref (ad (a + 5)), .ref (ad (a + 7)), .int ck, .ref (ad (a + 9)), .ref (ad (a + 11))]
theorem va_up_up {α : Type} (f : Nat → α) (k : Nat) (v w : α) : va_up (va_up f k v) k w = va_up f k w := by
  funext j
  by_cases hj : j = k <;> simp [va_up, hj]

