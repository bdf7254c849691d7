/-! ===== A COPIED BOOK (2) ===== -/
section Re18
variable {d i k g s l t q p j : Nat} {v w a b c e x y z : Int32} {S S' X Y : zS}
theorem cpLo_x {f : Nat} (h : k ≠ 3) (h2 : k ≠ 14) : z_I (cpLo S j Y j) k i f = z_I S k i f := by
  unfold cpLo
  rw [z_I_cp, if_neg (by omega)]
  simp only [z_I_uJ, z_I_u]
  simp [h]
theorem cpKi_x {f : Nat} (h : k ≠ 2) (h2 : k ≠ 12) (h3 : k ≠ 13) : z_I (cpKi S j Y j) k i f = z_I S k i f := by
  unfold cpKi
  simp [z_I_u, z_I_cp, h, h2, h3]
theorem cpSr_x {f : Nat} (h : k ≠ 4) (h2 : k ≠ 15) (h3 : k ≠ 16) : z_I (cpSr S j Y j) k i f = z_I S k i f := by
  unfold cpSr
  simp [z_I_u, z_I_cp, h, h2, h3]
theorem cpGu_x {f : Nat} (h : k ≠ 1) : z_I (cpGu S j Y j) k i f = z_I S k i f := by
  unfold cpGu
  simp [z_I_u, z_I_uJ, h]
theorem cpLo_n {f : Nat} (h : j ≠ i) : z_I (cpLo S j Y j) k i f = z_I S k i f := by
  have h' : i ≠ j := fun u => h u.symm
  unfold cpLo
  simp [z_I_u, z_I_uJ, z_I_cp, h']
theorem cpKi_n {f : Nat} (h : j ≠ i) : z_I (cpKi S j Y j) k i f = z_I S k i f := by
  have h' : i ≠ j := fun u => h u.symm
  unfold cpKi
  simp [z_I_u, z_I_cp, h']
theorem cpSr_n {f : Nat} (h : j ≠ i) : z_I (cpSr S j Y j) k i f = z_I S k i f := by
  have h' : i ≠ j := fun u => h u.symm
  unfold cpSr
  simp [z_I_u, z_I_cp, h']
theorem cpGu_n {f : Nat} (h : j ≠ i) : z_I (cpGu S j Y j) k i f = z_I S k i f := by
  have h' : i ≠ j := fun u => h u.symm
  unfold cpGu
  simp [z_I_u, z_I_uJ, h']
end Re18
