/-! HANDINGS: all orders, their rounds, and the longest chain of sets that come out even -/
def q_gen : Nat → List Nat → List (List Nat)
  | 0, _ => [[]]
  | n + 1, av => av.flatMap fun a => (q_gen n (av.erase a)).map (a :: ·)
theorem gen_mem : ∀ (n : Nat) (av l : List Nat), l.length = n → l.Nodup → (∀ x, x ∈ l → x ∈ av) → l ∈ q_gen n av := by
  intro n
  induction n with
  | zero =>
    intro av l h1 _ _
    rw [List.length_eq_zero_iff.mp h1]
    exact List.mem_singleton.mpr rfl
  | succ n ih =>
    intro av l h1 h2 h3
    match l, h1, h2, h3 with
    | a :: l', h1, h2, h3 =>
      obtain ⟨h4, h5⟩ := List.nodup_cons.mp h2
      refine List.mem_flatMap.mpr ⟨a, h3 a (List.mem_cons_self ..), List.mem_map.mpr ⟨l', ih _ _ (by simpa using h1) h5 fun x hx => ?_, rfl⟩⟩
      have hne : x ≠ a := fun e => h4 (e ▸ hx)
      exact (List.mem_erase_of_ne hne).mpr (h3 x (List.mem_cons_of_mem _ hx))
def q_n1 (σ : List Nat) : Nat → Option Nat
  | 0 => none
  | k + 1 => if σ.getD k 0 ≤ σ.getD (k + 1) 0 then some k else q_n1 σ k
def q_n2 (σ : List Nat) (i : Nat) : Nat → Nat
  | 0 => 0
  | k + 1 => if σ.getD i 0 ≤ σ.getD (k + 1) 0 then k + 1 else q_n2 σ i k
def q_sw (σ : List Nat) (a b : Nat) : List Nat := (σ.set a (σ.getD b 0)).set b (σ.getD a 0)
def q_rv : Nat → Nat → Nat → List Nat → List Nat
  | 0, _, _, σ => σ
  | g + 1, a, b, σ => if b ≤ a then σ else q_rv g (a + 1) (b - 1) (q_sw σ a b)
def q_nx (n : Nat) (σ : List Nat) : Option (List Nat) := match q_n1 σ (n - 1) with
  | none => none
  | some i => some (q_rv 6 (i + 1) (n - 1) (q_sw σ i (q_n2 σ i (n - 1))))
def q_wk (σ : List Nat) : Nat → Nat → Nat → Option Nat
  | 0, _, _ => none
  | g + 1, m, x => if m / 2 ^ x % 2 = 1 then some m else q_wk σ g (m + 2 ^ x) (σ.getD x 0)
def q_ms1 (σ : List Nat) (k : Nat) : Option (List Nat) → Option (List Nat)
  | some (m :: r) => if m / 2 ^ k % 2 = 1 then some (m :: r) else match q_wk σ 7 m k with
    | some m' => some (m' :: m :: r)
    | none => none
  | _ => none
def q_ms (σ : List Nat) : Nat → Option (List Nat)
  | 0 => some [0]
  | k + 1 => q_ms1 σ k (q_ms σ k)
def q_clo (n : Nat) (σ : List Nat) (m : Nat) : Bool := decide (m < 64) && (List.range n).all fun k => decide (m / 2 ^ k % 2 = m / 2 ^ (σ.getD k 0) % 2)
def q_lad (n : Nat) : List Nat → Bool
  | m' :: m :: r => ((List.range n).all fun k => decide (m / 2 ^ k % 2 = 1 → m' / 2 ^ k % 2 = 1)) && ((List.range n).any fun k => decide (m' / 2 ^ k % 2 = 1 ∧ ¬ m / 2 ^ k % 2 = 1)) && q_lad n (m :: r)
  | _ => true
def q_li (σ : List Nat) : Nat → Nat → Nat
  | 0, k => k
  | i + 1, k => σ.getD (q_li σ i k) 0
def q_sta (f : Nat → Nat → Nat) (k : Nat) : Bool := (List.range 6).all fun i => decide (k ≤ f i k)
def q_str (n : Nat) (σ : List Nat) : Nat := q_cnt (q_sta (q_li σ)) n
def q_ok1 (n : Nat) (σ : List Nat) : Bool := σ.isPerm (List.range n) && match q_ms σ n with
  | some (m :: r) => (m :: r).all (q_clo n σ) && q_lad n (m :: r) && decide (q_str n σ ≤ r.length)
  | _ => false
def q_ch (n : Nat) : List (List Nat) → Bool
  | [] => true
  | [σ] => (q_nx n σ).isNone
  | σ :: τ :: r => (q_nx n σ == some τ) && q_ch n (τ :: r)
def q_L (n : Nat) : List (List Nat) := q_gen n (List.range n)
theorem ords_ok : ∀ n, n < 7 → q_ch n (q_L n) = true ∧ (q_L n).all (q_ok1 n) = true ∧ (q_L n).head? = some (List.range n) := by decide +kernel
