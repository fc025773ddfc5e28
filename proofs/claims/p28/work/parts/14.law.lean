def lawv (g : Nat → Nat) : Option Nat → Value
  | none => .null
  | some i => .ref (g (3 * i + 52))
