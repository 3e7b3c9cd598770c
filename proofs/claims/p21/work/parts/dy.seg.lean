noncomputable section
/-! (nothing more is needed here either) -/
end
