theorem mt_ok : ∃ I : Sg → Sg → Prop, I σ0 τ0 ∧ OkAll I := sorry
