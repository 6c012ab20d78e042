/-! acts: what its cases compute -/
theorem nI_k1 (c : Nat) : nI c - 1 + nI 1 = nI c := Int32.sub_add_cancel _ _
def n_lst (p : Nat) : Nat := if n_leastN p 9 0 = 9 then 0 else n_leastN p 9 0 + 1
theorem n_least_k {p : Nat} : n_least p = nI (n_lst p) - 1 := by
  unfold n_least n_lst
  split
  · decide
  · exact (nI_pred _).symm
theorem n_leastN_le {p : Nat} : ∀ (r k : Nat), n_leastN p r k ≤ k + r := by
  intro r
  induction r with
  | zero => intro k; exact Nat.le_refl _
  | succ r ih =>
    intro k
    rw [n_leastN]
    split
    · have := ih (k + 1)
      omega
    · omega
theorem n_lst_le {p : Nat} : n_lst p ≤ 9 := by
  have := n_leastN_le (p := p) 9 0
  unfold n_lst
  split <;> omega
theorem pow_37 {k : Nat} (h : k ≤ 7) : 1 * 2 ^ (3 * k) < 2 ^ 32 := by
  have := Nat.pow_lt_pow_right (a := 2) (by decide) (m := 3 * k) (n := 22) (by omega)
  omega
theorem pow_32 {k : Nat} (h : k < 6) : 32 * 2 ^ k < 2 ^ 32 := by
  have := Nat.pow_lt_pow_right (a := 2) (by decide) (m := k) (n := 6) h
  omega
section ANM
variable {x : Cx} {Q : State → Prop} {c n : Nat} {sg : Sg} {pc pc' : Nat} {ls : List (Nat × Value)} {st : List Value} {cc : ByteArray} {nL : Nat} {own : String} {R : Room} {ret : Option FieldType} {a b : Nat}
theorem an_kmul (C : AWC x cc nL own R ret) (h0 : ¬ b = 0) (hdg : decode cc pc = .ok (.imul, 1)) (hpc : pc + 1 = pc') (kk : AW x Q c n sg pc' ls (.int (nI (a * (b - 1))) :: st)) : AW x Q c n sg pc ls (.int (nI b - 1) :: .int (nI a) :: st) := by
  rw [nI_sub1 h0]
  exact an_mul C hdg hpc kk
end ANM
def n_add_264_s0 (L : ZU) (d part : Nat) : Bool := (if (L.1 5 d) % 4 = 0 then (if (L.1 4 d) &&& part = 0 then true else false) else false)
def n_add_283_s0 (L : ZU) (d part : Nat) : Nat := (if (n_add_264_s0 L d part) = true then part else 0)
def n_add_317_s0 (L : ZU) (d part : Nat) : Int32 := (if (n_add_264_s0 L d part) = true then (nI (((L.1 4 d) ||| (n_add_283_s0 L d part)) % 32)) else (-1003))
def n_witness_435_s0 (L : ZU) (d one : Nat) : Bool := (if (L.1 5 d) % 4 = 0 then (if (n_able L one) = true then (if one = (((L.1 1 d) / 8) % 8) then false else (if one = (((L.1 1 d) / 64) % 8) then false else (if (n_kin L one (((L.1 1 d) / 8) % 8)) = true then false else (if (n_kin L one (((L.1 1 d) / 64) % 8)) = true then false else (if ((L.1 4 d) / 2 ^ (5 + one)) % 2 = 0 then true else false))))) else false) else false)
def n_witness_465_s0 (L : ZU) (d one : Nat) : Nat := (if (n_witness_435_s0 L d one) = true then (if 0 < (L.1 4 d) / 32 then 8 else 0) else 0)
def n_witness_487_s0 (L : ZU) (d one : Nat) : Nat := (if (n_witness_435_s0 L d one) = true then 32 * 2 ^ one else 0)
def n_witness_521_s0 (L : ZU) (d one : Nat) : Int32 := (if (n_witness_435_s0 L d one) = true then (nI ((((L.1 4 d) ||| (n_witness_465_s0 L d one)) ||| (n_witness_487_s0 L d one)) % 32)) else (-1003))
def n_copy_800_s0 (L : ZU) (d : Nat) : Bool := (if 0 < n_lst (L.1 9 d) then (if (n_many (L.1 9 d) 9) < 4 then true else false) else false)
def n_copy_823_s0 (L : ZU) (d : Nat) : Nat := (if (n_copy_800_s0 L d) = true then 1 * 2 ^ (3 * (n_lst (L.1 9 d))) else 0)
def n_copy_851_s0 (L : ZU) (d : Nat) : Int32 := (if (n_copy_800_s0 L d) = true then (nI (n_lst (L.1 9 d))) else (-1003))
def n_lose_897_s0 (L : ZU) (d : Nat) : Nat := (if n_lst (L.1 9 d) = 0 then 0 else 1 * 2 ^ (3 * ((n_lst (L.1 9 d)) - 1)))
def n_lose_931_s0 (L : ZU) (d : Nat) : Int32 := (if n_lst (L.1 9 d) = 0 then (-1003) else (nI (n_lst ((L.1 9 d) - (n_lose_897_s0 L d))) - 1))
def n_revoke_708_s0 (L : ZU) (d : Nat) (told : Bool) : Nat := (if (L.1 5 d) / 4 = 0 then (if told = true then 8 else 4) else (if ((L.1 5 d) / 4) = 1 then (if told = true then 4 else 0) else 0))
