noncomputable section
/-! the readers in lockstep: statements -/
set_option maxHeartbeats 4000000 in
end
