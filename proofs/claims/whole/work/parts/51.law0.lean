/-! The law's cases, one after another. -/
abbrev Lq (a : Nat) (i : Int) : List (Option AV) := [some (aX a), some (aR 0 0), some (aR 12 0), some (aR 29 0), some (aI i), none, none]
theorem nlW {as : List Int} : ∀ v, v ∈ aR 0 0 :: (as.map aI ++ [aR 29 0]) → okv v → okl v := fun v hv h => by
  rcases List.mem_cons.mp hv with rfl | hv
  · trivial
  · rcases List.mem_append.mp hv with hv | hv
    · exact nlI v hv h
    · rw [List.mem_singleton.mp hv]; trivial
