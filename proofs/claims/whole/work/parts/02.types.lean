/-- an instruction of the code tables: instruction, length, two numbers (link or target), an int, a long -/
abbrev zN : Type := Instr × Nat × Nat × Nat × Int32 × Int64
