def lw_last : Nat := 0
