/-! ===== A COPIED BOOK (4) ===== -/
section Re20
variable {d i k g s l t q p j : Nat} {v w a b c e x y z : Int32} {S S' X Y : zS}
theorem cpBk_I (k i f : Nat) (h : lvI (cG Y) (cS Y) (cL Y) k i f) : z_I (cpBk S Y) k i f = z_I Y k i f := by
  have xl : ∀ (n : Nat) (S : zS), k ≠ 3 → k ≠ 14 → z_I (z_it (fun i S => cpLo S i Y i) n 0 S) k i f = z_I S k i f := fun n S h1 h2 => z_it_I (F := fun i S => cpLo S i Y i) (π := fun M => z_I M k i f) (fun _ _ => cpLo_x h1 h2) n 0 S
  have xk : ∀ (n : Nat) (S : zS), k ≠ 2 → k ≠ 12 → k ≠ 13 → z_I (z_it (fun i S => cpKi S i Y i) n 0 S) k i f = z_I S k i f := fun n S h1 h2 h3 => z_it_I (F := fun i S => cpKi S i Y i) (π := fun M => z_I M k i f) (fun _ _ => cpKi_x h1 h2 h3) n 0 S
  have xs : ∀ (n : Nat) (S : zS), k ≠ 4 → k ≠ 15 → k ≠ 16 → z_I (z_it (fun i S => cpSr S i Y i) n 0 S) k i f = z_I S k i f := fun n S h1 h2 h3 => z_it_I (F := fun i S => cpSr S i Y i) (π := fun M => z_I M k i f) (fun _ _ => cpSr_x h1 h2 h3) n 0 S
  have xg : ∀ (n : Nat) (S : zS), k ≠ 1 → z_I (z_it (fun i S => cpGu S i Y i) n 0 S) k i f = z_I S k i f := fun n S h1 => z_it_I (F := fun i S => cpGu S i Y i) (π := fun M => z_I M k i f) (fun _ _ => cpGu_x h1) n 0 S
  have hl : ∀ (S : zS), i < cL Y → ((k = 3 ∧ f < 13) ∨ k = 14) → z_I (z_it (fun i S => cpLo S i Y i) (cL Y) 0 S) k i f = z_I Y k i f := fun S h1 h2 => z_it_hit (F := fun i S => cpLo S i Y i) (fun _ _ u => cpLo_n u) (fun _ => cpLo_h h2) (cL Y) 0 S (by omega) (by omega)
  have hk : ∀ (S : zS), i < 5 → ((k = 2 ∧ 2 ≤ f ∧ f < 5) ∨ k = 12 ∨ k = 13) → z_I (z_it (fun i S => cpKi S i Y i) 5 0 S) k i f = z_I Y k i f := fun S h1 h2 => z_it_hit (F := fun i S => cpKi S i Y i) (fun _ _ u => cpKi_n u) (fun _ => cpKi_h h2) 5 0 S (by omega) (by omega)
  have hs : ∀ (S : zS), i < cS Y → ((k = 4 ∧ f = 2) ∨ k = 15 ∨ k = 16) → z_I (z_it (fun i S => cpSr S i Y i) (cS Y) 0 S) k i f = z_I Y k i f := fun S h1 h2 => z_it_hit (F := fun i S => cpSr S i Y i) (fun _ _ u => cpSr_n u) (fun _ => cpSr_h h2) (cS Y) 0 S (by omega) (by omega)
  unfold cpBk
  rcases h with ⟨rfl, rfl, h⟩ | ⟨rfl, h1, h2⟩ | ⟨rfl, h1, h2, h3⟩ | ⟨h0, h1⟩ | ⟨rfl, h1, h2⟩ | ⟨rfl, h1, h2⟩ | ⟨rfl, h1, h2⟩ | ⟨rfl, h1⟩ | ⟨rfl, h1, h2⟩
  · rw [xl _ _ (by omega) (by omega), xk _ _ (by omega) (by omega) (by omega), xs _ _ (by omega) (by omega) (by omega), xg _ _ (by omega)]
    exact cpHd_h h
  · rw [xl _ _ (by omega) (by omega), xk _ _ (by omega) (by omega) (by omega), xs _ _ (by omega) (by omega) (by omega)]
    exact z_it_hit (F := fun i S => cpGu S i Y i) (fun _ _ u => cpGu_n u) (fun _ => cpGu_h h2) (cG Y) 0 _ (by omega) (by omega)
  · rw [xl _ _ (by omega) (by omega)]
    exact hk _ h1 (.inl ⟨rfl, h2, h3⟩)
  · rw [xl _ _ (by omega) (by omega)]
    exact hk _ h1 (.inr h0)
  · exact hl _ h1 (.inl ⟨rfl, h2⟩)
  · exact hl _ h1 (.inr rfl)
  · rw [xl _ _ (by omega) (by omega), xk _ _ (by omega) (by omega) (by omega)]
    exact hs _ h1 (.inr (.inl rfl))
  · rw [xl _ _ (by omega) (by omega), xk _ _ (by omega) (by omega) (by omega)]
    exact hs _ h1 (.inr (.inr rfl))
  · rw [xl _ _ (by omega) (by omega), xk _ _ (by omega) (by omega) (by omega)]
    exact hs _ h1 (.inl ⟨rfl, h2⟩)
end Re20
