/-! ===== A COPIED BOOK (3) ===== -/
section Re19
variable {d i k g s l t q p j : Nat} {v w a b c e x y z : Int32} {S S' X Y : zS}
theorem cpLo_h {f : Nat} (h : (k = 3 ∧ f < 13) ∨ k = 14) : z_I (cpLo S i Y i) k i f = z_I Y k i f := by
  rcases h with ⟨rfl, h⟩ | rfl
  · unfold cpLo
    rw [z_I_cp, if_neg (by omega)]
    have : f = 0 ∨ f = 1 ∨ f = 2 ∨ f = 3 ∨ f = 4 ∨ f = 5 ∨ f = 6 ∨ f = 7 ∨ f = 8 ∨ f = 9 ∨ f = 10 ∨ f = 11 ∨ f = 12 := by omega
    rcases this with rfl | rfl | rfl | rfl | rfl | rfl | rfl | rfl | rfl | rfl | rfl | rfl | rfl <;> simp [z_I_u, z_I_uJ]
  · unfold cpLo
    rw [z_I_cp, if_pos ⟨rfl, rfl⟩]
theorem cpKi_h {f : Nat} (h : (k = 2 ∧ 2 ≤ f ∧ f < 5) ∨ k = 12 ∨ k = 13) : z_I (cpKi S i Y i) k i f = z_I Y k i f := by
  rcases h with ⟨rfl, h⟩ | rfl | rfl
  · unfold cpKi
    have : f = 2 ∨ f = 3 ∨ f = 4 := by omega
    rcases this with rfl | rfl | rfl <;> simp [z_I_u]
  · unfold cpKi; simp [z_I_u, z_I_cp]
  · unfold cpKi; simp [z_I_u, z_I_cp]
theorem cpSr_h {f : Nat} (h : (k = 4 ∧ f = 2) ∨ k = 15 ∨ k = 16) : z_I (cpSr S i Y i) k i f = z_I Y k i f := by
  rcases h with ⟨rfl, rfl⟩ | rfl | rfl <;> (unfold cpSr; simp [z_I_u, z_I_cp])
theorem cpGu_h {f : Nat} (h : f < 3) : z_I (cpGu S i Y i) 1 i f = z_I Y 1 i f := by
  unfold cpGu
  have : f = 0 ∨ f = 1 ∨ f = 2 := by omega
  rcases this with rfl | rfl | rfl <;> simp [z_I_u, z_I_uJ]
theorem cpHd_h {f : Nat} (h : f < 6) : z_I (cpHd S Y) 0 0 f = z_I Y 0 0 f := by
  unfold cpHd
  have : f = 0 ∨ f = 1 ∨ f = 2 ∨ f = 3 ∨ f = 4 ∨ f = 5 := by omega
  rcases this with rfl | rfl | rfl | rfl | rfl | rfl <;> simp [z_I_u]
end Re19
