/-! what stands at a place -/
abbrev FF (m pc : Nat) (ins : Instr) (ln a b c w : Nat) : Prop := am_find (am_code m) pc = some (pc, ins, ln, a, b, c, w)
