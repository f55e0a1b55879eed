/-! the reference: who rides; taking a fare; riding; coming back; being paid -/
section T6
variable {l : Launch} {L : Nat} {I : Nat → Nat → Int32} {Q : Nat → Nat → Option Nat} {P : Option Value → PH → Prop}
theorem b2_n0 {c : Prop} [Decidable c] : (¬ b2 c = 0) = c := by rw [b2_0]; simp
theorem upd_e (z : Nat → Int32) (k : Nat) (v : Int32) : upd z k v k = v := by simp [upd]
theorem upd_n (z : Nat → Int32) {k j : Nat} (v : Int32) (h : j ≠ k) : upd z k v j = z j := by simp [upd, h]
def zQuick (z : Nat → Int32) (i p m : Nat) : Nat → Int32 := upd (upd (zStand z i p m) (tp i 8) 1) (tp i 7) (zStand z i p m (tp i 7) + 1)
def zBack (z : Nat → Int32) (i n m : Nat) : Nat → Int32 := if tired z i then upd (upd z (tp i 1) 4) (tp i 2) (z 4) else if z (tp i 12) = 1 then zQuick z i (qO z n m 0) m else zStand z i m m
end T6

