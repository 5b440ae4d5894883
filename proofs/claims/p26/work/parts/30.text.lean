/-! ===== Text, and the class's Code ===== -/
def hTx (mem : gM) (n : Nat) (t : Nat → Nat) : Prop := mem 7 3 1 = n ∧ mem 7 4 = t ∧ n ≤ 80 ∧ ∀ j, j < n → t j < 65536
