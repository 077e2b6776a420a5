/-! what holds of the yard and the model at the head of the law's loop -/
def REL (T : MT) : Prop := (T 4 6 = T 0 2 ∧ T 4 8 = T 0 4 ∧ T 4 9 = T 0 5) ∧ (∀ j : Nat, j < 60 → T 9 j = T 1 j) ∧ (∀ j : Nat, (j : Int) < T 0 2 → T 7 j = T 14 j ∧ T 5 j = T 15 j ∧ T 6 j = T 16 j ∧ T 8 j = T 17 j) ∧ ∀ a : Nat, a < 4096 → T 10 a = T 2 a
def GEO (T : MT) : Prop := (T 15 0 = 0 ∧ T 16 0 = 4096 ∧ T 14 0 = -1) ∧ (∀ j : Nat, j < 60 → T 1 j ≠ 0 → pw13 (T 16 j) ∧ T 15 j % T 16 j = 0 ∧ (j ≠ 0 → 0 ≤ T 14 j ∧ T 15 (T 14 j).toNat ≤ T 15 j ∧ T 15 j + T 16 j ≤ T 15 (T 14 j).toNat + T 16 (T 14 j).toNat ∧ T 16 j ≤ T 16 (T 14 j).toNat)) ∧ ∀ i j : Nat, i < 60 → j < 60 → i ≠ j → T 1 i ≠ 0 → T 1 j ≠ 0 → T 14 i = T 14 j → T 15 i + T 16 i ≤ T 15 j ∨ T 15 j + T 16 j ≤ T 15 i
def LEN (T : MT) : Prop := T 0 4 = lnt (T 2) 0 4096
def ROW (T : MT) : Prop := T 0 7 ≠ 0 → ∀ a : Nat, a < 4096 → T 3 a = nsI T a 60
def Inv (np : Nat) (T : MT) : Prop := VC np T ∧ VA T ∧ VP T ∧ VT T ∧ VM T ∧ REL T ∧ GEO T ∧ LEN T ∧ ROW T
