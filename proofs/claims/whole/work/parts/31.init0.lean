theorem mRA {U : State} {cA : ClassId} {C : String} (h : va_RA U cA (.object C)) : U.vm.findClass ("[" ++ (FieldType.object C).toString) = some cA := by
  obtain ⟨kA, comp, h1, h2, h3, h4⟩ := h
  exact h4
/-- the numbers of a new object -/
def eI0 (seed : Int32) : Nat → Nat → Int32 := fun a i =>
  if a = 0 then (if i = 0 then seed else if i = 1 then 1000 else if i = 2 then 4 else if i = 3 then 500 else 600) else
  if a = 1 then (if i < 16 then 1 else 0) else if a = 2 then 0 else 1
def eJ0 : Nat → Nat → Int64 := fun _ _ => 1000000
def eF0 : Nat → Nat → Nat → Int32 := fun _ _ _ => 0
