noncomputable section
/-! the table without macros (and without the texts' places, but for the sines) -/
def code1 (M pc : Nat) : eE := bif Nat.beq M 249 then te_249m pc else ecode0 M pc
theorem c1_ni (M pc : Nat) : e_niP (code1 M pc) := by
  unfold code1
  cases Nat.beq M 249 with
  | true => exact e_ni_249 pc
  | false => exact e_niP.of (e_tr_ok M pc)
theorem c1lk : e_Alk elay code1 := fun M pc f a b h => c1_ni M pc f a b h
end
