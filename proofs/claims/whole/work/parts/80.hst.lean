/-! the constants of text are known in every state -/
theorem hst (G : Glb) : HST G := fun _ _ _ _ _ hX => hX.2.2.2.2.2.2.1.2.2.2.2.2
