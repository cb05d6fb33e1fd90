/-! ===== the reference, V: roots ===== -/
theorem cdl_1 {Q : Prop} {E : Nat → Prop} {q w : Nat} (h : cdb (Q ∧ ∀ r, r < q → E r) w) (h1 : ¬ nI w = 0) (h2 : E q) : cdb (Q ∧ ∀ r, r < q + 1 → E r) 1 := by
  have h3 := cdb_t h h1
  refine Or.inl ⟨rfl, h3.1, fun r hr => ?_⟩
  by_cases e : r = q
  · rw [e]; exact h2
  · exact h3.2 r (by omega)
theorem cdl_0 {Q : Prop} {E : Nat → Prop} {q w : Nat} (h : cdb (Q ∧ ∀ r, r < q → E r) w) (h1 : nI w = 0) : cdb (Q ∧ ∀ r, r < q + 1 → E r) 0 := Or.inr ⟨rfl, fun k => cdb_f h h1 ⟨k.1, fun r hr => k.2 r (by omega)⟩⟩
theorem cdl_2 {Q : Prop} {E : Nat → Prop} {q : Nat} (h : ¬ E q) : cdb (Q ∧ ∀ r, r < q + 1 → E r) 0 := Or.inr ⟨rfl, fun k => h (k.2 q (by omega))⟩
theorem cdl_i {Q : Prop} {E : Nat → Prop} {w : Nat} (h : cdb Q w) : cdb (Q ∧ ∀ r, r < 0 → E r) w := by
  rcases h with ⟨rfl, h⟩ | ⟨rfl, h⟩
  · exact Or.inl ⟨rfl, h, fun r hr => absurd hr (by omega)⟩
  · exact Or.inr ⟨rfl, fun k => h k.1⟩
