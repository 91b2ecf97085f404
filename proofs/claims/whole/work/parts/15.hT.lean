/-! to be replaced by the kernel's reading of the tables (wip/whole/later) -/
def am_okP (mi pc : Nat) : Bool := match am_P mi pc with
  | none => true
  | some e => am_okE mi pc e
theorem am_hT (mi pc : Nat) (i : Instr) (len : Nat) (ops : List Nat) (v : Value) (h : am_P mi pc = some (i, len, ops, v)) : am_okE mi pc (i, len, ops, v) = true := sorry
