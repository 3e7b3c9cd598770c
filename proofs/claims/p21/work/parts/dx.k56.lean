noncomputable section
/-! (nothing more is needed here) -/
end
