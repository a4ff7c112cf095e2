theorem lit (n : Nat) : (OfNat.ofNat n : Int32) = nI n := rfl
theorem ix_nI {n : Nat} (h : n < 2 ^ 31) : ix (nI n) = n := nI_clamp h
/-! ints as Int -/
theorem z_le {a b : Int32} : a ≤ b ↔ a.toInt ≤ b.toInt := Int32.le_iff_toInt_le
theorem z_lt {a b : Int32} : a < b ↔ a.toInt < b.toInt := Int32.lt_iff_toInt_lt
theorem z_eq {a b : Int32} : a = b ↔ a.toInt = b.toInt := Int32.toInt_inj.symm
theorem z_ix (x : Int32) : ix x = x.toInt.toNat := rfl
theorem z_bm (x : Int) : x.bmod (2 ^ 32) = x - 4294967296 * ((x + 2147483648) / 4294967296) := by
  rw [Int.bmod_def]
  split <;> omega
theorem z_rng (x : Int32) : -2147483648 ≤ x.toInt ∧ x.toInt < 2147483648 := ⟨Int32.le_toInt x, Int32.toInt_lt x⟩
theorem z_add {a b : Int32} (h1 : -2147483648 ≤ a.toInt + b.toInt) (h2 : a.toInt + b.toInt < 2147483648) : (a + b).toInt = a.toInt + b.toInt := by
  rw [Int32.toInt_add, z_bm]; omega
theorem z_sub {a b : Int32} (h1 : -2147483648 ≤ a.toInt - b.toInt) (h2 : a.toInt - b.toInt < 2147483648) : (a - b).toInt = a.toInt - b.toInt := by
  rw [Int32.toInt_sub, z_bm]; omega
theorem z_nI {n : Nat} (h : n < 2147483648) : (nI n).toInt = n := nI_toInt h
theorem z_of {x : Int32} (h : 0 ≤ x.toInt) : x = nI (ix x) := by
  rw [z_eq, z_nI (by have := z_rng x; rw [z_ix]; omega), z_ix]; omega
theorem z_and (x : Int32) {m : Int32} (k : Nat) (hm : m.toBitVec.toNat = 2 ^ k - 1) (hk : k ≤ 30) : (x &&& m).toInt = x.toInt % 2 ^ k := by
  rw [pk_and x k hm, nI_toInt (Nat.lt_of_lt_of_le (Nat.mod_lt _ (Nat.two_pow_pos k)) (Nat.pow_le_pow_right (by omega) (by omega)))]
  have h : x.toInt = (x.toBitVec.toNat : Int) ∨ x.toInt = (x.toBitVec.toNat : Int) - 4294967296 := by
    show x.toBitVec.toInt = _ ∨ x.toBitVec.toInt = _
    rw [BitVec.toInt_eq_toNat_cond]
    split
    · exact Or.inl rfl
    · exact Or.inr rfl
  have e : (4294967296 : Int) = 2 ^ (32 - k) * 2 ^ k := by
    rw [← Int.pow_add]
    rw [show 32 - k + k = 32 by omega]
    decide
  rcases h with h | h
  · rw [h]; exact Int.natCast_emod _ _
  · rw [h, e, Int.sub_mul_emod_self_right]; exact Int.natCast_emod _ _
theorem z_and1 (x : Int32) : (x &&& 1).toInt = x.toInt % 2 := z_and x 1 rfl (by decide)
theorem z_and15 (x : Int32) : (x &&& 15).toInt = x.toInt % 16 := z_and x 4 rfl (by decide)
theorem z_and63 (x : Int32) : (x &&& 63).toInt = x.toInt % 64 := z_and x 6 rfl (by decide)
theorem z_and255 (x : Int32) : (x &&& 255).toInt = x.toInt % 256 := z_and x 8 rfl (by decide)
theorem z_shr (x s : Int32) (k : Nat) (hs : (s.toBitVec.smod 32).toNat = k) : (x >>> s).toInt = x.toInt / 2 ^ k := by
  rw [pk_shr x s k hs, Int.shiftRight_eq_div_pow]; rfl
theorem z_shr8 (x : Int32) : (x >>> ((8 : Int32) &&& 31)).toInt = x.toInt / 256 := z_shr x _ 8 (by decide)
theorem z_shr5 (x : Int32) : (x >>> ((5 : Int32) &&& 31)).toInt = x.toInt / 32 := z_shr x _ 5 (by decide)
theorem z_shr6 (x : Int32) : (x >>> ((6 : Int32) &&& 31)).toInt = x.toInt / 64 := z_shr x _ 6 (by decide)
theorem z_div16 {x : Int32} (h : 0 ≤ x.toInt) : (x / 16).toInt = x.toInt / 16 := by
  rw [Int32.toInt_div_of_ne_right _ _ (by decide)]
  exact Int.tdiv_eq_ediv_of_nonneg h
theorem ix0 : ix (0 : Int32) = 0 := by decide +kernel
theorem ix1 : ix (1 : Int32) = 1 := by decide +kernel
theorem ix2 : ix (2 : Int32) = 2 := by decide +kernel
theorem ix3 : ix (3 : Int32) = 3 := by decide +kernel
theorem ix4 : ix (4 : Int32) = 4 := by decide +kernel
theorem ix5 : ix (5 : Int32) = 5 := by decide +kernel
theorem ix6 : ix (6 : Int32) = 6 := by decide +kernel
theorem ix7 : ix (7 : Int32) = 7 := by decide +kernel
theorem nI_m1 {n : Nat} (h : 1 ≤ n) : nI n - 1 = nI (n - 1) := pk_sub (b := 1) h
/-! partial functions: what holds of what they give -/
def ok {α : Type} (a : Option α) (P : α → Prop) : Prop := ∃ x, a = some x ∧ P x
def ok2 {α β : Type} (a : Option α) (b : Option β) (P : α → β → Prop) : Prop := ∃ x y, a = some x ∧ b = some y ∧ P x y
section OK
variable {α β γ δ : Type} {c : Prop} {P : α → Prop} {Q : β → Prop} {R : α → β → Prop} {S : γ → δ → Prop} {a a' : Option α} {b b' : Option β}
theorem ok_some {x : α} (h : P x) : ok (some x) P := ⟨x, rfl, h⟩
theorem ok_brc (h1 : c → ok a P) (h2 : ¬ c → ok a' P) : ok (brc c a a') P := by
  by_cases h : c
  · rw [brc_t h]; exact h1 h
  · rw [brc_f h]; exact h2 h
theorem ok_grd (h : c) (h1 : ok a P) : ok (grd c a) P := by rw [grd_t h]; exact h1
theorem ok_bnd {f : β → Option α} (h : ok b Q) (h1 : ∀ u, Q u → ok (f u) P) : ok (bnd b f) P := by
  obtain ⟨u, e, q⟩ := h
  rw [bnd_t e]; exact h1 u q
theorem ok_eq {x : α} (e : a = some x) (h : P x) : ok a P := ⟨x, e, h⟩
theorem ok_mono {P' : α → Prop} (h : ok a P) (h1 : ∀ x, P x → P' x) : ok a P' := by
  obtain ⟨x, e, q⟩ := h
  exact ⟨x, e, h1 x q⟩
theorem ok2_ss {x : α} {y : β} (h : R x y) : ok2 (some x) (some y) R := ⟨x, y, rfl, rfl, h⟩
theorem ok2_lb (h1 : c → ok2 a b R) (h2 : ¬ c → ok2 a' b R) : ok2 (brc c a a') b R := by
  by_cases h : c
  · rw [brc_t h]; exact h1 h
  · rw [brc_f h]; exact h2 h
theorem ok2_rb (h1 : c → ok2 a b R) (h2 : ¬ c → ok2 a b' R) : ok2 a (brc c b b') R := by
  by_cases h : c
  · rw [brc_t h]; exact h1 h
  · rw [brc_f h]; exact h2 h
theorem ok2_lg (h : c) (h1 : ok2 a b R) : ok2 (grd c a) b R := by rw [grd_t h]; exact h1
theorem ok2_rg (h : c) (h1 : ok2 a b R) : ok2 a (grd c b) R := by rw [grd_t h]; exact h1
theorem ok2_lc {x : Option γ} {T : γ → Prop} {f : γ → Option α} (h : ok x T) (h1 : ∀ u, T u → ok2 (f u) b R) : ok2 (bnd x f) b R := by
  obtain ⟨u, e, q⟩ := h
  rw [bnd_t e]; exact h1 u q
theorem ok2_rc {x : Option γ} {T : γ → Prop} {f : γ → Option β} (h : ok x T) (h1 : ∀ u, T u → ok2 a (f u) R) : ok2 a (bnd x f) R := by
  obtain ⟨u, e, q⟩ := h
  rw [bnd_t e]; exact h1 u q
theorem ok2_cc {x : Option γ} {y : Option δ} {f : γ → Option α} {g : δ → Option β} (h : ok2 x y S) (h1 : ∀ u v, S u v → ok2 (f u) (g v) R) : ok2 (bnd x f) (bnd y g) R := by
  obtain ⟨u, v, e, e', q⟩ := h
  rw [bnd_t e, bnd_t e']; exact h1 u v q
theorem ok2_of (h : ok a P) (h' : ok b Q) (h1 : ∀ x y, P x → Q y → R x y) : ok2 a b R := by
  obtain ⟨x, e, q⟩ := h
  obtain ⟨y, e', q'⟩ := h'
  exact ⟨x, y, e, e', h1 x y q q'⟩
theorem ok2_mono {R' : α → β → Prop} (h : ok2 a b R) (h1 : ∀ x y, R x y → R' x y) : ok2 a b R' := by
  obtain ⟨x, y, e, e', q⟩ := h
  exact ⟨x, y, e, e', h1 x y q⟩
end OK
/-! rows -/
def byt (f : Nat → Int32) : Prop := ∀ i, 0 ≤ (f i).toInt ∧ (f i).toInt ≤ 255
theorem byt_upd {f : Nat → Int32} {k : Nat} {x : Int32} (h : byt f) (h0 : 0 ≤ x.toInt) (h1 : x.toInt ≤ 255) : byt (upd f k x) := by
  intro i
  by_cases e : i = k
  · rw [e, pk_us]; exact ⟨h0, h1⟩
  · rw [pk_un e]; exact h i
theorem byt_cpy {f g : Nat → Int32} {sp dp n : Nat} (h : byt f) (h1 : byt g) : byt (va_cpy f g sp dp n) := by
  intro i
  by_cases e : dp ≤ i ∧ i < dp + n
  · rw [pk_cpy_in e.1 e.2]; exact h _
  · rw [pk_cpy_out (by omega)]; exact h1 _
