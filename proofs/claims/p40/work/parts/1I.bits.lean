/-! ===== shifts, masks: by their numbers ===== -/
theorem lshl38 (a : Int) : lI a <<< ((iI 38).toInt64 &&& 63) = lI (a * 274877906944) := by
  rw [show (274877906944 : Int) = 2 ^ 38 from rfl]
  exact lshl a 38 (by decide)
theorem lshl24 (a : Int) : lI a <<< ((iI 24).toInt64 &&& 63) = lI (a * 16777216) := by
  rw [show (16777216 : Int) = 2 ^ 24 from rfl]
  exact lshl a 24 (by decide)
theorem lshl17 (a : Int) : lI a <<< ((iI 17).toInt64 &&& 63) = lI (a * 131072) := by
  rw [show (131072 : Int) = 2 ^ 17 from rfl]
  exact lshl a 17 (by decide)
theorem lshl7 (a : Int) : lI a <<< ((iI 7).toInt64 &&& 63) = lI (a * 128) := by
  rw [show (128 : Int) = 2 ^ 7 from rfl]
  exact lshl a 7 (by decide)
theorem lshl18 (a : Int) : lI a <<< ((iI 18).toInt64 &&& 63) = lI (a * 262144) := by
  rw [show (262144 : Int) = 2 ^ 18 from rfl]
  exact lshl a 18 (by decide)
theorem lshl14 (a : Int) : lI a <<< ((iI 14).toInt64 &&& 63) = lI (a * 16384) := by
  rw [show (16384 : Int) = 2 ^ 14 from rfl]
  exact lshl a 14 (by decide)
theorem lshl20 (a : Int) : lI a <<< ((iI 20).toInt64 &&& 63) = lI (a * 1048576) := by
  rw [show (1048576 : Int) = 2 ^ 20 from rfl]
  exact lshl a 20 (by decide)
theorem lshr38 {a : Int} (h1 : -9223372036854775808 ≤ a) (h2 : a < 9223372036854775808) : lI a >>> ((iI 38).toInt64 &&& 63) = lI (a / 274877906944) := by
  rw [show (274877906944 : Int) = 2 ^ 38 from rfl]
  exact lshr 38 (by decide) h1 h2
theorem lshr24 {a : Int} (h1 : -9223372036854775808 ≤ a) (h2 : a < 9223372036854775808) : lI a >>> ((iI 24).toInt64 &&& 63) = lI (a / 16777216) := by
  rw [show (16777216 : Int) = 2 ^ 24 from rfl]
  exact lshr 24 (by decide) h1 h2
theorem lshr17 {a : Int} (h1 : -9223372036854775808 ≤ a) (h2 : a < 9223372036854775808) : lI a >>> ((iI 17).toInt64 &&& 63) = lI (a / 131072) := by
  rw [show (131072 : Int) = 2 ^ 17 from rfl]
  exact lshr 17 (by decide) h1 h2
theorem lshr7 {a : Int} (h1 : -9223372036854775808 ≤ a) (h2 : a < 9223372036854775808) : lI a >>> ((iI 7).toInt64 &&& 63) = lI (a / 128) := by
  rw [show (128 : Int) = 2 ^ 7 from rfl]
  exact lshr 7 (by decide) h1 h2
theorem lshr18 {a : Int} (h1 : -9223372036854775808 ≤ a) (h2 : a < 9223372036854775808) : lI a >>> ((iI 18).toInt64 &&& 63) = lI (a / 262144) := by
  rw [show (262144 : Int) = 2 ^ 18 from rfl]
  exact lshr 18 (by decide) h1 h2
theorem lshr14 {a : Int} (h1 : -9223372036854775808 ≤ a) (h2 : a < 9223372036854775808) : lI a >>> ((iI 14).toInt64 &&& 63) = lI (a / 16384) := by
  rw [show (16384 : Int) = 2 ^ 14 from rfl]
  exact lshr 14 (by decide) h1 h2
theorem lshr20 {a : Int} (h1 : -9223372036854775808 ≤ a) (h2 : a < 9223372036854775808) : lI a >>> ((iI 20).toInt64 &&& 63) = lI (a / 1048576) := by
  rw [show (1048576 : Int) = 2 ^ 20 from rfl]
  exact lshr 20 (by decide) h1 h2
theorem lshr21 {a : Int} (h1 : -9223372036854775808 ≤ a) (h2 : a < 9223372036854775808) : lI a >>> ((iI 21).toInt64 &&& 63) = lI (a / 2097152) := by
  rw [show (2097152 : Int) = 2 ^ 21 from rfl]
  exact lshr 21 (by decide) h1 h2
theorem iand7 {a : Int} (h1 : 0 ≤ a) : iI a &&& iI 7 = iI (a % 8) := by
  rw [show (8 : Int) = 2 ^ 3 from rfl]
  exact iand 3 (by decide) h1
theorem iand16383 {a : Int} (h1 : 0 ≤ a) : iI a &&& iI 16383 = iI (a % 16384) := by
  rw [show (16384 : Int) = 2 ^ 14 from rfl]
  exact iand 14 (by decide) h1
theorem iand127 {a : Int} (h1 : 0 ≤ a) : iI a &&& iI 127 = iI (a % 128) := by
  rw [show (128 : Int) = 2 ^ 7 from rfl]
  exact iand 7 (by decide) h1
theorem iand1023 {a : Int} (h1 : 0 ≤ a) : iI a &&& iI 1023 = iI (a % 1024) := by
  rw [show (1024 : Int) = 2 ^ 10 from rfl]
  exact iand 10 (by decide) h1
theorem iand63 {a : Int} (h1 : 0 ≤ a) : iI a &&& iI 63 = iI (a % 64) := by
  rw [show (64 : Int) = 2 ^ 6 from rfl]
  exact iand 6 (by decide) h1
theorem iand1 {a : Int} (h1 : 0 ≤ a) : iI a &&& iI 1 = iI (a % 2) := by
  rw [show (2 : Int) = 2 ^ 1 from rfl]
  exact iand 1 (by decide) h1
theorem land127 {a : Int} (h1 : 0 ≤ a) : lI a &&& lI 127 = lI (a % 128) := by
  rw [show (128 : Int) = 2 ^ 7 from rfl]
  exact land 7 (by decide) h1
theorem land63 {a : Int} (h1 : 0 ≤ a) : lI a &&& lI 63 = lI (a % 64) := by
  rw [show (64 : Int) = 2 ^ 6 from rfl]
  exact land 6 (by decide) h1
theorem land1 {a : Int} (h1 : 0 ≤ a) : lI a &&& lI 1 = lI (a % 2) := by
  rw [show (2 : Int) = 2 ^ 1 from rfl]
  exact land 1 (by decide) h1
theorem lor38 {a b : Int} (h1 : 0 ≤ a) (h2 : 0 ≤ b) (h3 : b < 274877906944) (h4 : a < 33554432) : lI (a * 274877906944) ||| lI b = lI (a * 274877906944 + b) := by
  have h5 : a * 274877906944 + b < 9223372036854775808 := by omega
  rw [show (274877906944 : Int) = 2 ^ 38 from rfl] at h3 h5 ⊢
  exact lor 38 h1 h2 h3 h5
theorem lor24 {a b : Int} (h1 : 0 ≤ a) (h2 : 0 ≤ b) (h3 : b < 16777216) (h4 : a < 549755813888) : lI (a * 16777216) ||| lI b = lI (a * 16777216 + b) := by
  have h5 : a * 16777216 + b < 9223372036854775808 := by omega
  rw [show (16777216 : Int) = 2 ^ 24 from rfl] at h3 h5 ⊢
  exact lor 24 h1 h2 h3 h5
theorem lor17 {a b : Int} (h1 : 0 ≤ a) (h2 : 0 ≤ b) (h3 : b < 131072) (h4 : a < 70368744177664) : lI (a * 131072) ||| lI b = lI (a * 131072 + b) := by
  have h5 : a * 131072 + b < 9223372036854775808 := by omega
  rw [show (131072 : Int) = 2 ^ 17 from rfl] at h3 h5 ⊢
  exact lor 17 h1 h2 h3 h5
theorem lor7 {a b : Int} (h1 : 0 ≤ a) (h2 : 0 ≤ b) (h3 : b < 128) (h4 : a < 72057594037927936) : lI (a * 128) ||| lI b = lI (a * 128 + b) := by
  have h5 : a * 128 + b < 9223372036854775808 := by omega
  rw [show (128 : Int) = 2 ^ 7 from rfl] at h3 h5 ⊢
  exact lor 7 h1 h2 h3 h5
theorem lor18 {a b : Int} (h1 : 0 ≤ a) (h2 : 0 ≤ b) (h3 : b < 262144) (h4 : a < 35184372088832) : lI (a * 262144) ||| lI b = lI (a * 262144 + b) := by
  have h5 : a * 262144 + b < 9223372036854775808 := by omega
  rw [show (262144 : Int) = 2 ^ 18 from rfl] at h3 h5 ⊢
  exact lor 18 h1 h2 h3 h5
theorem lor14 {a b : Int} (h1 : 0 ≤ a) (h2 : 0 ≤ b) (h3 : b < 16384) (h4 : a < 562949953421312) : lI (a * 16384) ||| lI b = lI (a * 16384 + b) := by
  have h5 : a * 16384 + b < 9223372036854775808 := by omega
  rw [show (16384 : Int) = 2 ^ 14 from rfl] at h3 h5 ⊢
  exact lor 14 h1 h2 h3 h5
/-! a note as a number: track, beginning, pitch, length, force -/
def cO (t s p l f : Nat) : Nat := t * 274877906944 + s * 16777216 + p * 131072 + l * 128 + f
def cT (c : Nat) : Nat := c / 274877906944
def cS (c : Nat) : Nat := c / 16777216 % 16384
def cP (c : Nat) : Nat := c / 131072 % 128
def cL (c : Nat) : Nat := c / 128 % 1024
def cF (c : Nat) : Nat := c % 128
/-- eight tracks -/
def cOk (c : Nat) : Prop := c < 2199023255552
theorem cO_ok {t s p l f : Nat} (ht : t < 8) (hs : s < 16384) (hp : p < 128) (hl : l < 1024) (hf : f < 128) : cOk (cO t s p l f) := by unfold cOk cO; omega
theorem cT_O {t s p l f : Nat} (hs : s < 16384) (hp : p < 128) (hl : l < 1024) (hf : f < 128) : cT (cO t s p l f) = t := by unfold cT cO; omega
theorem cS_O {t s p l f : Nat} (hs : s < 16384) (hp : p < 128) (hl : l < 1024) (hf : f < 128) : cS (cO t s p l f) = s := by unfold cS cO; omega
theorem cP_O {t s p l f : Nat} (hp : p < 128) (hl : l < 1024) (hf : f < 128) : cP (cO t s p l f) = p := by unfold cP cO; omega
theorem cL_O {t s p l f : Nat} (hl : l < 1024) (hf : f < 128) : cL (cO t s p l f) = l := by unfold cL cO; omega
theorem cF_O {t s p l f : Nat} (hf : f < 128) : cF (cO t s p l f) = f := by unfold cF cO; omega
theorem cT_lt {c : Nat} (h : cOk c) : cT c < 8 := by unfold cOk at h; unfold cT; omega
theorem cS_lt (c : Nat) : cS c < 16384 := by unfold cS; omega
theorem cP_lt (c : Nat) : cP c < 128 := by unfold cP; omega
theorem cL_lt (c : Nat) : cL c < 1024 := by unfold cL; omega
theorem cF_lt (c : Nat) : cF c < 128 := by unfold cF; omega
theorem cO_eta (c : Nat) : cO (cT c) (cS c) (cP c) (cL c) (cF c) = c := by unfold cO cT cS cP cL cF; omega
/-- the numbers' order is the notes' order -/
theorem cO_lt {t s p l f t' s' p' l' f' : Nat} (hs : s < 16384) (hp : p < 128) (hl : l < 1024) (hf : f < 128) (hs' : s' < 16384) (hp' : p' < 128) (hl' : l' < 1024) (hf' : f' < 128) :
    cO t s p l f < cO t' s' p' l' f' ↔ t < t' ∨ t = t' ∧ (s < s' ∨ s = s' ∧ (p < p' ∨ p = p' ∧ (l < l' ∨ l = l' ∧ f < f'))) := by
  unfold cO; omega
