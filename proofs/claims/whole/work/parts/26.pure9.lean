/-! The reference: what stands behind its reckoning -/
theorem qK_b {kn : Bool} {T U : Nat → Nat} {n : Nat} {HI KD : Nat → Nat} {HE AV : Nat → Bool} (hK : ∀ x, KD x < 32) : ∀ x, qK kn T U n HI KD HE AV x < 32 := by
  cases kn
  · exact kdU_lt (by decide) (rkK2_b hK)
  · exact hK
theorem qH_b {kn : Bool} {T : Nat → Nat} {n : Nat} {HI : Nat → Nat} (hT : ∀ a, T a < 4096) (hH : ∀ a, HI a < 4096) : ∀ a, qH kn T n HI a < 4096 := by
  cases kn
  · exact rkH_b hT hH
  · exact hH
theorem lt32 {x : Nat} (h : x < 32) : x < 2 ^ 31 := Nat.lt_trans h (by decide)
/-- the state between two askings of a kind: as it was, with nothing asked yet, or reckoned -/
def RKs (i : Nat) (kn : Bool) (T U : Nat → Nat) (n : Nat) (HI KD : Nat → Nat) (HE AV : Nat → Bool) (MR : Nat → Nat) (gr : Nat) (kn1 : Bool) (H1 K1 : Nat → Nat) (E1 A1 : Nat → Bool) (R1 : Nat → Nat) (g1 : Nat) : Prop :=
  (i = 0 ∧ kn1 = kn ∧ H1 = HI ∧ K1 = KD ∧ E1 = HE ∧ A1 = AV ∧ R1 = MR ∧ g1 = gr) ∨
  (kn1 = true ∧ H1 = qH kn T n HI ∧ K1 = qK kn T U n HI KD HE AV ∧ E1 = qE kn T U n HI HE ∧ A1 = qA kn T U n HI HE AV ∧ R1 = qR kn T U n HI MR ∧ g1 = qG kn T U n HI gr)
section RK
variable {i : Nat} {kn : Bool} {T U : Nat → Nat} {n : Nat} {HI KD : Nat → Nat} {HE AV : Nat → Bool} {MR : Nat → Nat} {gr : Nat} {kn1 : Bool} {H1 K1 : Nat → Nat} {E1 A1 : Nat → Bool} {R1 : Nat → Nat} {g1 : Nat}
theorem RKs_0 : RKs 0 kn T U n HI KD HE AV MR gr kn HI KD HE AV MR gr := Or.inl ⟨rfl, rfl, rfl, rfl, rfl, rfl, rfl, rfl⟩
theorem RKs_s : RKs i kn T U n HI KD HE AV MR gr true (qH kn T n HI) (qK kn T U n HI KD HE AV) (qE kn T U n HI HE) (qA kn T U n HI HE AV) (qR kn T U n HI MR) (qG kn T U n HI gr) := Or.inr ⟨rfl, rfl, rfl, rfl, rfl, rfl, rfl⟩
theorem RKs.canon (h : RKs i kn T U n HI KD HE AV MR gr kn1 H1 K1 E1 A1 R1 g1) : qH kn1 T n H1 = qH kn T n HI ∧ qK kn1 T U n H1 K1 E1 A1 = qK kn T U n HI KD HE AV ∧ qE kn1 T U n H1 E1 = qE kn T U n HI HE ∧ qA kn1 T U n H1 E1 A1 = qA kn T U n HI HE AV ∧ qR kn1 T U n H1 R1 = qR kn T U n HI MR ∧ qG kn1 T U n H1 g1 = qG kn T U n HI gr := by
  rcases h with ⟨_, rfl, rfl, rfl, rfl, rfl, rfl, rfl⟩ | ⟨rfl, rfl, rfl, rfl, rfl, rfl, rfl⟩
  · exact ⟨rfl, rfl, rfl, rfl, rfl, rfl⟩
  · exact ⟨rfl, rfl, rfl, rfl, rfl, rfl⟩
theorem RKs.end_ (h : RKs i kn T U n HI KD HE AV MR gr kn1 H1 K1 E1 A1 R1 g1) (hi : i ≠ 0) : kn1 = true ∧ H1 = qH kn T n HI ∧ K1 = qK kn T U n HI KD HE AV ∧ E1 = qE kn T U n HI HE ∧ A1 = qA kn T U n HI HE AV ∧ R1 = qR kn T U n HI MR ∧ g1 = qG kn T U n HI gr := by
  rcases h with ⟨h, _⟩ | h
  · exact absurd h hi
  · exact h
theorem RKs.hb (h : RKs i kn T U n HI KD HE AV MR gr kn1 H1 K1 E1 A1 R1 g1) (hT : ∀ a, T a < 4096) (hH : ∀ a, HI a < 4096) : ∀ a, H1 a < 4096 := by
  rcases h with ⟨_, rfl, rfl, rfl, rfl, rfl, rfl, rfl⟩ | ⟨rfl, rfl, rfl, rfl, rfl, rfl, rfl⟩
  · exact hH
  · exact qH_b hT hH
theorem RKs.kb (h : RKs i kn T U n HI KD HE AV MR gr kn1 H1 K1 E1 A1 R1 g1) (hK : ∀ x, KD x < 32) : ∀ x, K1 x < 32 := by
  rcases h with ⟨_, rfl, rfl, rfl, rfl, rfl, rfl, rfl⟩ | ⟨rfl, rfl, rfl, rfl, rfl, rfl, rfl⟩
  · exact hK
  · exact qK_b hK
end RK
/-- the greatest of the least rounds, looked for from above: the reference's choice -/
def agU (U MR : Nat → Nat) (a n : Nat) : Nat → Option Nat
  | 0 => none
  | d + 1 => if (U a).testBit (n - 1 - d) = true ∧ 0 < MR (n - 1 - d) ∧ (∀ b, agU U MR a n d = some b → MR (n - 1 - d) ≤ MR b) then some (n - 1 - d) else agU U MR a n d
