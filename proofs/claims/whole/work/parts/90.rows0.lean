/-! rows of climbers: all orders of a set, the best kept -/
def fct : Nat → Nat
  | 0 => 1
  | k + 1 => (k + 1) * fct k
def dlt (x : Int32) (i : Nat) : Int32 := x &&& (1 <<< (nI i &&& 31) ^^^ -1)
def prC : Nat → Int32 → Nat → List Nat
  | 0, _, _ => []
  | k + 1, x, v => pos (bt x) (v / fct k) :: prC k (dlt x (pos (bt x) (v / fct k))) (v % fct k)
def upC (pt : Nat → Int32 → Int32) (H : Nat) : List Nat → Int32 → Nat → Nat
  | [], _, u => u
  | i :: l, F, u => upC pt H l (F &&& (pt i F ^^^ -1)) (u + (if bt (pt i F) H then 1 else 0))
def bf (f : Nat → Int32 × List Nat) : Nat → Int32 × List Nat → Int32 × List Nat
  | 0, a => a
  | n + 1, a => if (f n).1 ≤ (bf f n a).1 then bf f n a else f n
theorem bf_add {f : Nat → Int32 × List Nat} {n : Nat} {a : Int32 × List Nat} : ∀ m, bf f (n + m) a = bf (fun v => f (n + v)) m (bf f n a)
  | 0 => rfl
  | m + 1 => by
    show (if (f (n + m)).1 ≤ (bf f (n + m) a).1 then bf f (n + m) a else f (n + m)) = _
    rw [bf_add m]
    rfl
theorem bf_cg {f g : Nat → Int32 × List Nat} {a : Int32 × List Nat} : ∀ {m : Nat}, (∀ v, v < m → f v = g v) → bf f m a = bf g m a
  | 0, _ => rfl
  | m + 1, h => by
    show (if (f m).1 ≤ (bf f m a).1 then bf f m a else f m) = (if (g m).1 ≤ (bf g m a).1 then bf g m a else g m)
    rw [bf_cg (fun v hv => h v (by omega)), h m (by omega)]
theorem fct_pos : ∀ k, 0 < fct k
  | 0 => Nat.one_pos
  | k + 1 => Nat.mul_pos (Nat.succ_pos k) (fct_pos k)
theorem bt_dlt {x : Int32} {i k : Nat} (hi : i < 32) (hk : k < 32) : bt (dlt x i) k = (bt x k && !decide (k = i)) := by
  unfold dlt
  rw [b_and, b_xor, b_m1 k hk, b_shl i hi 1 hk]
  by_cases h : i ≤ k
  · have e : decide (k - i = 0) = decide (k = i) := by
      by_cases q : k = i
      · rw [decide_eq_true q, decide_eq_true (show k - i = 0 by omega)]
      · rw [decide_eq_false q, decide_eq_false (show ¬ k - i = 0 by omega)]
    rw [b_one (k - i) (by omega), decide_eq_true h, Bool.true_and, e]
    cases bt x k <;> cases decide (k = i) <;> rfl
  · rw [decide_eq_false h, decide_eq_false (show ¬ k = i by omega)]
    cases bt x k <;> rfl
theorem bt_dlt2 {x : Int32} {i k : Nat} (hi : i < 32) (h : bt x k = false) : bt (dlt x i) k = false := by
  rcases Nat.lt_or_ge k 32 with q | q
  · rw [bt_dlt hi q, h]
    rfl
  · exact b_big q
theorem cnt_del {f g : Nat → Bool} {i : Nat} (hf : f i = true) : ∀ n, (∀ k, k < n → g k = (f k && !decide (k = i))) → cnt g n + (if i < n then 1 else 0) = cnt f n
  | 0, _ => rfl
  | n + 1, h => by
    have ih := cnt_del hf n (fun k hk => h k (by omega))
    have hn := h n (by omega)
    show cnt g n + (if g n then 1 else 0) + _ = cnt f n + (if f n then 1 else 0)
    by_cases e : n = i
    · subst e
      rw [if_neg (Nat.lt_irrefl n)] at ih
      rw [hn, hf, if_pos (show n < n + 1 by omega), decide_eq_true rfl]
      simp
      omega
    · rw [hn, decide_eq_false e]
      by_cases e2 : i < n
      · rw [if_pos e2] at ih
        rw [if_pos (show i < n + 1 by omega)]
        cases f n <;> simp <;> omega
      · rw [if_neg e2] at ih
        rw [if_neg (show ¬ i < n + 1 by omega)]
        cases f n <;> simp <;> omega
theorem cnt_dlt {x : Int32} {i : Nat} (hi : i < 5) (hb : bt x i = true) : cnt (bt (dlt x i)) 5 + 1 = cnt (bt x) 5 := by
  have := cnt_del (g := bt (dlt x i)) hb 5 (fun k hk => bt_dlt (by omega) (by omega))
  rw [if_pos hi] at this
  exact this
theorem pos_at {x : Int32} {i : Nat} (hi : i < 20) (hb : bt x i = true) : pos (bt x) (cnt (bt x) i) = i := by
  have hlt : cnt (bt x) i < cnt (bt x) 20 := cnt_lt (bt x) hi hb
  have sp := pos_spec hlt
  exact cnt_un (bt x) sp.2.1 hb sp.2.2
theorem prC_at {x : Int32} {i k v : Nat} (hi : i < 20) (hb : bt x i = true) (hv : v < fct k) : prC (k + 1) x (cnt (bt x) i * fct k + v) = i :: prC k (dlt x i) v := by
  have hp := fct_pos k
  have e1 : (cnt (bt x) i * fct k + v) / fct k = cnt (bt x) i := by
    rw [Nat.add_comm, Nat.add_mul_div_right _ _ hp, Nat.div_eq_of_lt hv, Nat.zero_add]
  have e2 : (cnt (bt x) i * fct k + v) % fct k = v := by
    rw [Nat.add_comm, Nat.add_mul_mod_self_right, Nat.mod_eq_of_lt hv]
  show pos (bt x) ((cnt (bt x) i * fct k + v) / fct k) :: prC k (dlt x (pos (bt x) ((cnt (bt x) i * fct k + v) / fct k))) ((cnt (bt x) i * fct k + v) % fct k) = _
  rw [e1, e2, pos_at hi hb]
theorem prC_len : ∀ k x v, (prC k x v).length = k
  | 0, _, _ => rfl
  | k + 1, x, v => by
    show (prC k _ _).length + 1 = k + 1
    rw [prC_len k]
theorem upC_le {pt : Nat → Int32 → Int32} {H : Nat} : ∀ l F u, upC pt H l F u ≤ u + l.length
  | [], _, u => Nat.le_refl u
  | i :: l, F, u => by
    have := upC_le (pt := pt) (H := H) l (F &&& (pt i F ^^^ -1)) (u + (if bt (pt i F) H then 1 else 0))
    show upC pt H l (F &&& (pt i F ^^^ -1)) (u + (if bt (pt i F) H then 1 else 0)) ≤ u + (l.length + 1)
    have h1 : (if bt (pt i F) H then 1 else 0 : Nat) ≤ 1 := by split <;> omega
    omega
theorem zero_of {x : Int32} (h : ∀ i, 5 ≤ i → bt x i = false) (hc : cnt (bt x) 5 = 0) : x = 0 := by
  apply b_ext
  intro i hi
  rw [b_0]
  rcases Nat.lt_or_ge i 5 with q | q
  · cases hb : bt x i with
    | false => rfl
    | true => have := cnt_pos q hb; omega
  · exact h i q
theorem nz_of {x : Int32} (hc : 0 < cnt (bt x) 5) : ¬ x = 0 := fun e => by
  have : cnt (bt x) 5 = 0 := cnt_zero (fun i _ => by rw [e]; exact b_0 i)
  omega
