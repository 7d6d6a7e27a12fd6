/-- a new table -/
def zi : Nat → Nat := fun k => if k < 52 then k else if k = 324 then 8 else if k = 325 then 3 else if k = 326 then 1 else if k = 328 then 4294967290 else 0
