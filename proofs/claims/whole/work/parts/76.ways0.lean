/-! rows of gaps: numbers of states, as the class and as the reference count them -/
def Wt (st : Nat → Nat) : Nat → Nat
  | 0 => 1
  | k + 1 => Wt st k * st k
def sW (st d : Nat → Nat) : Nat → Nat
  | 0 => 0
  | k + 1 => sW st d k + d k * Wt st k
def Pr (st : Nat → Nat) : Nat → Nat → Nat
  | _, 0 => 1
  | i, f + 1 => st i * Pr st (i + 1) f
def eH (st d : Nat → Nat) : Nat → Nat → Nat
  | _, 0 => 0
  | i, f + 1 => d i + st i * eH st d (i + 1) f
def h6 (d : Nat → Nat) : Nat → Nat → Nat
  | _, 0 => 0
  | i, f + 1 => d i + 6 * h6 d (i + 1) f
def dv (st : Nat → Nat) (s : Nat) : Nat → Nat
  | 0 => s
  | i + 1 => dv st s i / st i
def dg (st : Nat → Nat) (s i : Nat) : Nat := dv st s i % st i
/-- the reference's number of a state of the class -/
def JJ (st : Nat → Nat) (n s : Nat) : Nat := h6 (dg st s) 0 n
def okS (st : Nat → Nat) (n : Nat) : Prop := ∀ k, k < n → 1 ≤ st k ∧ st k ≤ 6
section PW
variable {st d e : Nat → Nat} {n : Nat}
theorem Wt_pos (h : okS st n) : ∀ k, k ≤ n → 0 < Wt st k
  | 0, _ => Nat.one_pos
  | k + 1, hk => Nat.mul_pos (Wt_pos h k (by omega)) (h k (by omega)).1
theorem Wt_le (h : okS st n) : ∀ k, k ≤ n → Wt st k ≤ 6 ^ k
  | 0, _ => Nat.le_refl 1
  | k + 1, hk => by
    show Wt st k * st k ≤ 6 ^ k * 6
    exact Nat.mul_le_mul (Wt_le h k (by omega)) (h k (by omega)).2
theorem Wt_Pr : ∀ f i, Wt st (i + f) = Wt st i * Pr st i f
  | 0, i => (Nat.mul_one _).symm
  | f + 1, i => by
    show Wt st (i + (f + 1)) = Wt st i * (st i * Pr st (i + 1) f)
    rw [show i + (f + 1) = (i + 1) + f by omega, Wt_Pr f (i + 1)]
    show Wt st i * st i * Pr st (i + 1) f = _
    rw [Nat.mul_assoc]
theorem sW_add : ∀ k, sW st (fun i => d i + e i) k = sW st d k + sW st e k
  | 0 => rfl
  | k + 1 => by
    show sW st (fun i => d i + e i) k + (d k + e k) * Wt st k = sW st d k + d k * Wt st k + (sW st e k + e k * Wt st k)
    rw [sW_add k, Nat.add_mul]
    omega
theorem sW_cg : ∀ {k : Nat}, (∀ i, i < k → d i = e i) → sW st d k = sW st e k
  | 0, _ => rfl
  | k + 1, h => by
    show sW st d k + d k * Wt st k = sW st e k + e k * Wt st k
    rw [sW_cg (fun i hi => h i (by omega)), h k (by omega)]
theorem sW_z {i : Nat} : ∀ k, sW st (va_up d i 0) k + (if i < k then d i * Wt st i else 0) = sW st d k
  | 0 => rfl
  | k + 1 => by
    have ih := sW_z (i := i) k
    show sW st (va_up d i 0) k + va_up d i 0 k * Wt st k + (if i < k + 1 then d i * Wt st i else 0) = sW st d k + d k * Wt st k
    by_cases h : k = i
    · subst h
      rw [show va_up d k 0 k = 0 from if_pos rfl, if_pos (by omega)]
      rw [if_neg (by omega)] at ih
      omega
    · rw [show va_up d i 0 k = d k from if_neg h]
      by_cases h2 : i < k
      · rw [if_pos (by omega)]
        rw [if_pos h2] at ih
        omega
      · rw [if_neg (by omega)]
        rw [if_neg h2] at ih
        omega
theorem sW_eH : ∀ f i, sW st d (i + f) = sW st d i + Wt st i * eH st d i f
  | 0, i => by simp [eH]
  | f + 1, i => by
    rw [show i + (f + 1) = (i + 1) + f by omega, sW_eH f (i + 1)]
    show sW st d i + d i * Wt st i + Wt st i * st i * eH st d (i + 1) f = sW st d i + Wt st i * (d i + st i * eH st d (i + 1) f)
    rw [Nat.mul_add, Nat.mul_comm (d i), Nat.mul_assoc, Nat.add_assoc]
theorem sW0 : sW st d n = eH st d 0 n := by
  have := sW_eH (st := st) (d := d) n 0
  rw [Nat.zero_add] at this
  rw [this]
  show 0 + 1 * eH st d 0 n = _
  omega
theorem eH_lt (hd : ∀ k, k < n → d k < st k) : ∀ f i, i + f = n → eH st d i f < Pr st i f
  | 0, _, _ => Nat.one_pos
  | f + 1, i, hi => by
    have ih := eH_lt hd f (i + 1) (by omega)
    have h1 := hd i (by omega)
    show d i + st i * eH st d (i + 1) f < st i * Pr st (i + 1) f
    have : st i * (eH st d (i + 1) f + 1) ≤ st i * Pr st (i + 1) f := Nat.mul_le_mul_left _ ih
    rw [Nat.mul_add, Nat.mul_one] at this
    omega
theorem Pr_W : Pr st 0 n = Wt st n := by
  have := Wt_Pr (st := st) n 0
  rw [Nat.zero_add] at this
  rw [this]
  show _ = 1 * Pr st 0 n
  omega
theorem sW_lt (hd : ∀ k, k < n → d k < st k) : sW st d n < Wt st n := by
  rw [sW0, ← Pr_W]
  exact eH_lt hd n 0 (by omega)
theorem dv_eH (hd : ∀ k, k < n → d k < st k) : ∀ i, i ≤ n → dv st (eH st d 0 n) i = eH st d i (n - i)
  | 0, _ => rfl
  | i + 1, hi => by
    have h1 := hd i (by omega)
    show dv st (eH st d 0 n) i / st i = _
    rw [dv_eH hd i (by omega), show n - i = (n - (i + 1)) + 1 by omega]
    show (d i + st i * eH st d (i + 1) (n - (i + 1))) / st i = _
    rw [Nat.add_mul_div_left _ _ (by omega), Nat.div_eq_of_lt h1, Nat.zero_add]
theorem dg_eH (hd : ∀ k, k < n → d k < st k) {i : Nat} (hi : i < n) : dg st (sW st d n) i = d i := by
  have h1 := hd i hi
  unfold dg
  rw [sW0, dv_eH hd i (by omega), show n - i = (n - (i + 1)) + 1 by omega]
  show (d i + st i * eH st d (i + 1) (n - (i + 1))) % st i = d i
  rw [Nat.add_mul_mod_self_left, Nat.mod_eq_of_lt h1]
theorem h6_cg : ∀ {f i : Nat}, (∀ k, i ≤ k → k < i + f → d k = e k) → h6 d i f = h6 e i f
  | 0, _, _ => rfl
  | f + 1, i, h => by
    show d i + 6 * h6 d (i + 1) f = e i + 6 * h6 e (i + 1) f
    rw [h i (by omega) (by omega), h6_cg (fun k h1 h2 => h k (by omega) (by omega))]
theorem JJ_sW (hd : ∀ k, k < n → d k < st k) : JJ st n (sW st d n) = h6 d 0 n := h6_cg (fun k _ h2 => dg_eH hd (by omega))
theorem eH_dg {s : Nat} : ∀ f i, i + f = n → dv st s i < Pr st i f → eH st (dg st s) i f = dv st s i
  | 0, i, _, h => by
    have : dv st s i < 1 := h
    show 0 = dv st s i
    omega
  | f + 1, i, hi, h => by
    have h2 : dv st s i < st i * Pr st (i + 1) f := h
    have ih := eH_dg (s := s) f (i + 1) (by omega) (Nat.div_lt_of_lt_mul h2)
    show dv st s i % st i + st i * eH st (dg st s) (i + 1) f = dv st s i
    rw [ih]
    exact Nat.mod_add_div _ _
theorem sW_dg {s : Nat} (hs : s < Wt st n) : sW st (dg st s) n = s := by
  rw [sW0]
  exact eH_dg (n := n) n 0 (by omega) (by rw [Pr_W]; exact hs)
theorem dg_lt (h : okS st n) {s i : Nat} (hi : i < n) : dg st s i < st i := Nat.mod_lt _ (h i hi).1
theorem h6_lt (hd : ∀ k, k < n → d k < 6) : ∀ f i, i + f = n → h6 d i f < 6 ^ f
  | 0, _, _ => Nat.one_pos
  | f + 1, i, hi => by
    have ih := h6_lt hd f (i + 1) (by omega)
    have h1 := hd i (by omega)
    show d i + 6 * h6 d (i + 1) f < 6 ^ f * 6
    omega
theorem JJ_lt (h : okS st n) {s : Nat} : JJ st n s < 6 ^ n := h6_lt (fun k hk => by have := dg_lt h (s := s) hk; have := (h k hk).2; omega) n 0 (by omega)
theorem h6_div (hd : ∀ k, k < n → d k < 6) : ∀ k, k ≤ n → h6 d 0 n / 6 ^ k = h6 d k (n - k)
  | 0, _ => by rw [Nat.pow_zero, Nat.div_one]; rfl
  | k + 1, hk => by
    have h1 := hd k (by omega)
    rw [Nat.pow_succ, ← Nat.div_div_eq_div_mul, h6_div hd k (by omega), show n - k = (n - (k + 1)) + 1 by omega]
    show (d k + 6 * h6 d (k + 1) (n - (k + 1))) / 6 = _
    omega
theorem h6_dig (hd : ∀ k, k < n → d k < 6) {k : Nat} (hk : k < n) : h6 d 0 n / 6 ^ k % 6 = d k := by
  have h1 := hd k hk
  rw [h6_div hd k (by omega), show n - k = (n - (k + 1)) + 1 by omega]
  show (d k + 6 * h6 d (k + 1) (n - (k + 1))) % 6 = d k
  omega
theorem J_mono (h : okS st n) : ∀ f i x y, i + f = n → x < y → y < Pr st i f → h6 (fun k => dv (fun j => st (j + i)) x (k - i) % st k) i f < h6 (fun k => dv (fun j => st (j + i)) y (k - i) % st k) i f := by
  intro f
  induction f with
  | zero =>
    intro i x y _ hxy hy
    have : y < 1 := hy
    omega
  | succ f ih =>
    intro i x y hi hxy hy
    have hst := h i (by omega)
    have key : ∀ z, h6 (fun k => dv (fun j => st (j + i)) z (k - i) % st k) i (f + 1) = z % st i + 6 * h6 (fun k => dv (fun j => st (j + (i + 1))) (z / st i) (k - (i + 1)) % st k) (i + 1) f := by
      intro z
      show dv (fun j => st (j + i)) z (i - i) % st i + 6 * h6 (fun k => dv (fun j => st (j + i)) z (k - i) % st k) (i + 1) f = _
      rw [Nat.sub_self]
      congr 1
      congr 1
      apply h6_cg
      intro k h1 h2
      have : ∀ m, dv (fun j => st (j + i)) z (m + 1) = dv (fun j => st (j + (i + 1))) (z / st i) m := by
        intro m
        induction m with
        | zero =>
          show z / st (0 + i) = z / st i
          rw [Nat.zero_add]
        | succ m ihm =>
          show dv (fun j => st (j + i)) z (m + 1) / st (m + 1 + i) = dv (fun j => st (j + (i + 1))) (z / st i) m / st (m + (i + 1))
          rw [ihm, show m + 1 + i = m + (i + 1) by omega]
      rw [show k - i = (k - (i + 1)) + 1 by omega, this]
    rw [key x, key y]
    have hx6 : x % st i < st i := Nat.mod_lt _ hst.1
    have hy2 : y < st i * Pr st (i + 1) f := hy
    have hdy : y / st i < Pr st (i + 1) f := Nat.div_lt_of_lt_mul hy2
    have hle : x / st i ≤ y / st i := Nat.div_le_div_right (by omega)
    rcases Nat.lt_or_ge (x / st i) (y / st i) with hlt | hge
    · have := ih (i + 1) (x / st i) (y / st i) (by omega) hlt hdy
      omega
    · have heq : x / st i = y / st i := by omega
      have h1 := Nat.mod_add_div x (st i)
      have h2 := Nat.mod_add_div y (st i)
      rw [heq] at h1 ⊢
      omega
theorem JJ_mono (h : okS st n) {x y : Nat} (hxy : x < y) (hy : y < Wt st n) : JJ st n x < JJ st n y := by
  have := J_mono h n 0 x y (by omega) hxy (by rw [Pr_W]; exact hy)
  exact this
end PW
