/-! how many bits: checked for all sets of 16 -/
def bc1 (m : Nat) : Nat := Nat.sub m (Nat.land (Nat.div m 2) 1431655765)
def bc2 (m : Nat) : Nat := Nat.add (Nat.land m 858993459) (Nat.land (Nat.div m 4) 858993459)
def bc3 (m : Nat) : Nat := Nat.land (Nat.add m (Nat.div m 16)) 252645135
def bc4 (m : Nat) : Nat := Nat.add m (Nat.div m 256)
def bc5 (m : Nat) : Nat := Nat.add m (Nat.div m 65536)
def bcN (m : Nat) : Nat := Nat.land (bc5 (bc4 (bc3 (bc2 (bc1 m))))) 63
/-- the ones among the k lowest digits -/
def pcn (m : Nat) : Nat → Nat
  | 0 => 0
  | k + 1 => Nat.add (pcn m k) (Nat.mod (Nat.div m (Nat.pow 2 k)) 2)
def bct (m : Nat) : Bool := Nat.beq (bcN m) (pcn m 16)
noncomputable def bck (d : Nat) : Nat → Bool := Nat.rec (fun lo => bct lo) (fun d ih lo => and (ih lo) (ih (Nat.add lo (Nat.pow 2 d)))) d
set_option maxRecDepth 20000 in
theorem bck_all : bck 16 0 = true := by decide +kernel
theorem bck_of : ∀ (d lo : Nat), bck d lo = true → ∀ m, lo ≤ m → m < lo + 2 ^ d → bct m = true := by
  intro d
  induction d with
  | zero =>
    intro lo h m h1 h2
    have : m = lo := by rw [Nat.pow_zero] at h2; omega
    subst this
    exact h
  | succ d ih =>
    intro lo h m h1 h2
    have h' : (bck d lo && bck d (lo + 2 ^ d)) = true := h
    rw [Bool.and_eq_true] at h'
    by_cases hm : m < lo + 2 ^ d
    · exact ih lo h'.1 m h1 hm
    · refine ih (lo + 2 ^ d) h'.2 m (by omega) ?_
      rw [Nat.pow_succ] at h2
      omega
theorem bcN_eq {m : Nat} (hm : m < 65536) : bcN m = pcn m 16 := Nat.eq_of_beq_eq_true (bck_of 16 0 bck_all m (by omega) (by omega))
