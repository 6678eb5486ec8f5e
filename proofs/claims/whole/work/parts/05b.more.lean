theorem xs_er1 {α β : Type} {f : α → Option β} {z : α ⊕ β} {r b : β} (h : Sum.elim f (fun er => some er) z = some r) (e : z = .inr b) : b = r := by
  rw [e] at h; exact Option.some.inj h
theorem xs_er2 {α β γ : Type} {f : α → Option (γ ⊕ β)} {z : α ⊕ β} {r : γ ⊕ β} {b : β} (h : Sum.elim f (fun er => some (.inr er)) z = some r) (e : z = .inr b) : r = .inr b := by
  rw [e] at h; exact (Option.some.inj h).symm
