noncomputable section
/-! the readers in lockstep: statements -/
theorem sE_all : ∀ n, sE n := fun n => Nat.strongRecOn n (fun n ih N cd d d' w v r' v' hz hp hM => e_144 hz hp (fun k hk => ih k hk) hM)
end
