/-! ===== A COPIED BOOK ===== -/
section Re17
variable {d i k g s l t q p j : Nat} {v w a b c e f x y z : Int32} {S S' X Y : zS}
theorem z_it_hit {F : Nat → zS → zS} {f : Nat} (h1 : ∀ j S, j ≠ i → z_I (F j S) k i f = z_I S k i f) (h2 : ∀ S, z_I (F i S) k i f = v) : ∀ (n j : Nat) (S : zS), j ≤ i → i < j + n → z_I (z_it F n j S) k i f = v
  | 0, j, S, ha, hb => by omega
  | n + 1, j, S, ha, hb => by
    show z_I (z_it F n (j + 1) (F j S)) k i f = v
    rcases Nat.lt_or_ge j i with u | u
    · exact z_it_hit h1 h2 n (j + 1) _ (by omega) (by omega)
    · have e : j = i := by omega
      subst e
      have aft : ∀ (n i' : Nat) (S : zS), j < i' → z_I (z_it F n i' S) k j f = z_I S k j f := fun n => by
        induction n with
        | zero => intros; rfl
        | succ n ih => intro i' S hi; show z_I (z_it F n (i' + 1) (F i' S)) k j f = _; rw [ih _ _ (by omega), h1 _ _ (by omega)]
      rw [aft n (j + 1) _ (by omega), h2]
theorem z_it_hitJ {F : Nat → zS → zS} {f : Nat} {o : Int64} (h1 : ∀ j S, j ≠ i → z_J (F j S) k i f = z_J S k i f) (h2 : ∀ S, z_J (F i S) k i f = o) : ∀ (n j : Nat) (S : zS), j ≤ i → i < j + n → z_J (z_it F n j S) k i f = o
  | 0, j, S, ha, hb => by omega
  | n + 1, j, S, ha, hb => by
    show z_J (z_it F n (j + 1) (F j S)) k i f = o
    rcases Nat.lt_or_ge j i with u | u
    · exact z_it_hitJ h1 h2 n (j + 1) _ (by omega) (by omega)
    · have e : j = i := by omega
      subst e
      have aft : ∀ (n i' : Nat) (S : zS), j < i' → z_J (z_it F n i' S) k j f = z_J S k j f := fun n => by
        induction n with
        | zero => intros; rfl
        | succ n ih => intro i' S hi; show z_J (z_it F n (i' + 1) (F i' S)) k j f = _; rw [ih _ _ (by omega), h1 _ _ (by omega)]
      rw [aft n (j + 1) _ (by omega), h2]
end Re17
