/-! ===== A COPIED BOOK (5) ===== -/
section Re21
variable {d i k g s l t q p j : Nat} {S X Y : zS}
theorem cpBk_J (k i f : Nat) (h : lvJ (cG Y) (cL Y) k i f) : z_J (cpBk S Y) k i f = z_J Y k i f := by
  have xk : ∀ (n : Nat) (S : zS), z_J (z_it (fun i S => cpKi S i Y i) n 0 S) k i f = z_J S k i f := fun n S => z_it_I (F := fun i S => cpKi S i Y i) (π := fun M => z_J M k i f) (fun _ _ => rfl) n 0 S
  have xs : ∀ (n : Nat) (S : zS), z_J (z_it (fun i S => cpSr S i Y i) n 0 S) k i f = z_J S k i f := fun n S => z_it_I (F := fun i S => cpSr S i Y i) (π := fun M => z_J M k i f) (fun _ _ => rfl) n 0 S
  unfold cpBk
  rcases h with ⟨rfl, h1, h2⟩ | ⟨rfl, h1, h2⟩
  · rw [z_it_I (F := fun i S => cpLo S i Y i) (π := fun M => z_J M 1 i f) (fun _ _ => by unfold cpLo; simp [z_J_u, z_J_uI, z_J_cp]) (cL Y) 0, xk, xs]
    refine z_it_hitJ (F := fun i S => cpGu S i Y i) (fun j S u => ?_) (fun S => ?_) (cG Y) 0 _ (by omega) (by omega)
    · have u' : i ≠ j := fun e => u e.symm
      unfold cpGu; simp [z_J_u, z_J_uI, u']
    · rcases h2 with rfl | rfl <;> (unfold cpGu; simp [z_J_u, z_J_uI])
  · refine z_it_hitJ (F := fun i S => cpLo S i Y i) (fun j S u => ?_) (fun S => ?_) (cL Y) 0 _ (by omega) (by omega)
    · have u' : i ≠ j := fun e => u e.symm
      unfold cpLo; simp [z_J_u, z_J_uI, z_J_cp, u']
    · rcases h2 with rfl | rfl <;> (unfold cpLo; simp [z_J_u, z_J_uI, z_J_cp])
theorem Alk.cp : Alk Y (cpBk S Y) := ⟨cpBk_I, cpBk_J⟩
end Re21
