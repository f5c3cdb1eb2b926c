theorem II_start : II σ0 τ0 := by
  have n2 : np τ0 = 0 := rfl
  have n3 : no τ0 = 0 := rfl
  have n4 : ndr τ0 = 0 := rfl
  have n5 : npl τ0 = 0 := rfl
  have n6 : nqt τ0 = 0 := rfl
  have mz : ∀ o, mm τ0 o = 0 := fun _ => rfl
  have no0 : ∀ {k : Nat} {P : Prop}, k < 0 → P := fun h => absurd h (Nat.not_lt_zero _)
  refine ⟨⟨⟨⟨rfl, by rw [n2]; omega⟩, ⟨rfl, by rw [n3]; omega⟩, ⟨rfl, by rw [n4]; omega⟩, ⟨rfl, by rw [n5]; omega⟩, ⟨rfl, by rw [n6]; omega⟩⟩, ⟨fun o _ => ⟨by rw [mz]; rfl, by rw [mz]; omega⟩, fun o _ k hk => no0 (by rw [mz] at hk; exact hk)⟩, fun j hj => no0 hj, fun k hk => no0 hk, fun d hd => no0 hd, fun k hk => no0 hk, fun o _ _ => rfl, (show ¬ (0 : Int32) < 0 by decide), rfl⟩, ⟨⟨fun o _ => rfl, fun o _ k hk => no0 (by rw [mz] at hk; exact hk)⟩, ⟨rfl, fun j hj => no0 hj, fun j hj => no0 hj⟩, ⟨rfl, fun k hk => no0 hk⟩, ⟨rfl, fun o ho => no0 ho⟩, ⟨fun o _ => ⟨rfl, rfl⟩, fun i _ => rfl, fun o ho => no0 ho⟩, ⟨rfl, fun d hd => no0 hd⟩, ⟨rfl, fun k hk => no0 hk⟩, rfl⟩, rfl⟩
theorem mt_ok : ∃ I : Sg → Sg → Prop, I σ0 τ0 ∧ OkAll I :=
  ⟨II, II_start, ok_place, ok_object, ok_keys, ok_key, ok_box, ok_move, ok_into, ok_lost, ok_where, ok_last, ok_history, ok_door, ok_passes, ok_way, ok_planned, ok_used, ok_quiet, ok_count⟩
