/-! a char's return -/
def oRetC : Hd := fun _ st h => match st with
  | [.inl x] => if x.toUInt32.toUInt16.toUInt32.toInt32 = x then some (.inr (.inr (.inl (some (.inl x)), h))) else none
  | _ => none
section RETC
variable (l : Launch) (D : va_G) (AC : Nat → ClassId) (b : Nat × (Nat → Nat)) (z L : Nat) (xs : Nat → Int32) (G : Pg) {j pc : Nat}
theorem sn_retC (hd : decode (mC j) pc = .ok (.ireturn, 1)) (hr : mR j = some .char) : Snd l D AC b z L xs G j pc oRetC := by
  intro ls st h Q kk p e R s m args below meth c QQ X E H locs lsR cells slots hP hS hB hL
  unfold oRetC at kk
  split at kk
  · rename_i x
    split at kk
    · rename_i hx
      exact E.1 (some (.inl x)) h H locs lsR cells slots pc kk hP hS hB ⟨⟨_, hr, congrArg Value.int hx⟩, hd⟩
    · exact kk.elim
  · exact kk.elim
end RETC
