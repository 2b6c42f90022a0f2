/-! PURE: terms, the least closed set, counting. A term: sort, label, its four numbers, its four terms (by their places). -/
abbrev sp_T : Type := Int32 × Int32 × (Nat → Int32) × (Nat → Option Nat)
def sp_so (d : sp_T) : Int32 := d.1
def sp_la (d : sp_T) : Int32 := d.2.1
def sp_nu (d : sp_T) : Nat → Int32 := d.2.2.1
def sp_pa (d : sp_T) : Nat → Option Nat := d.2.2.2
/-- NOTHING counts as in it -/
def sp_in (S : Nat → Prop) (o : Option Nat) : Prop := ∀ j, o = some j → S j
/-- the PUBLIC of s is in it, MADE or not -/
def sp_sh (n : Nat) (t : Nat → sp_T) (S : Nat → Prop) (s : Nat) : Prop := S s ∨ ∃ j, j < n ∧ sp_so (t j) = 2 ∧ sp_pa (t j) 0 = some s ∧ S j
/-- the term d can be made of those in S -/
def sp_mk (n : Nat) (t : Nat → sp_T) (S : Nat → Prop) (d : sp_T) : Prop :=
  (sp_so d = 3 ∧ ∃ a b, sp_pa d 0 = some a ∧ sp_pa d 1 = some b ∧ ((S a ∧ sp_sh n t S b) ∨ (S b ∧ sp_sh n t S a))) ∨
  (sp_so d ≠ 1 ∧ sp_so d ≠ 3 ∧ ∀ k, k < 4 → sp_in S (sp_pa d k))
/-- what comes of the term d, taken apart -/
def sp_an (S : Nat → Prop) (d : sp_T) : Prop :=
  (sp_so d = 7 → ∀ k, k < 4 → sp_in S (sp_pa d k)) ∧ (sp_so d = 5 → sp_in S (sp_pa d 1) ∧ (sp_in S (sp_pa d 0) → sp_in S (sp_pa d 2))) ∧ (sp_so d = 6 → sp_in S (sp_pa d 1))
def sp_cl (n : Nat) (t : Nat → sp_T) (g : Nat → Prop) (S : Nat → Prop) : Prop :=
  (∀ i, i < n → g i → S i) ∧ (∀ i, i < n → S i → sp_an S (t i)) ∧ (∀ i, i < n → sp_mk n t S (t i) → S i)
def sp_der (n : Nat) (t : Nat → sp_T) (g : Nat → Prop) (i : Nat) : Prop := ∀ S : Nat → Prop, sp_cl n t g S → S i
theorem sp_in_mono {S S' : Nat → Prop} (h : ∀ i, S i → S' i) {o : Option Nat} (a : sp_in S o) : sp_in S' o := fun j e => h j (a j e)
theorem sp_sh_mono {n : Nat} {t : Nat → sp_T} {S S' : Nat → Prop} (h : ∀ i, S i → S' i) {s : Nat} (a : sp_sh n t S s) : sp_sh n t S' s := by
  rcases a with a | ⟨j, h1, h2, h3, h4⟩
  · exact Or.inl (h _ a)
  · exact Or.inr ⟨j, h1, h2, h3, h _ h4⟩
theorem sp_mk_mono {n : Nat} {t : Nat → sp_T} {S S' : Nat → Prop} (h : ∀ i, S i → S' i) {d : sp_T} (a : sp_mk n t S d) : sp_mk n t S' d := by
  rcases a with ⟨h1, x, y, h2, h3, h4⟩ | ⟨h1, h2, h3⟩
  · refine Or.inl ⟨h1, x, y, h2, h3, ?_⟩
    rcases h4 with ⟨a, b⟩ | ⟨a, b⟩
    · exact Or.inl ⟨h _ a, sp_sh_mono h b⟩
    · exact Or.inr ⟨h _ a, sp_sh_mono h b⟩
  · exact Or.inr ⟨h1, h2, fun k hk => sp_in_mono h (h3 k hk)⟩
theorem sp_der_le {n : Nat} {t : Nat → sp_T} {g : Nat → Prop} {S : Nat → Prop} (h : sp_cl n t g S) : ∀ i, sp_der n t g i → S i := fun _ a => a S h
theorem sp_der_cl (n : Nat) (t : Nat → sp_T) (g : Nat → Prop) : sp_cl n t g (sp_der n t g) := by
  refine ⟨fun i hi hg S hS => hS.1 i hi hg, fun i hi hd => ⟨fun h7 k hk j e S hS => ?_, fun h5 => ⟨fun j e S hS => ?_, fun hk j e S hS => ?_⟩, fun h6 j e S hS => ?_⟩, fun i hi hm S hS => hS.2.2 i hi (sp_mk_mono (sp_der_le hS) hm)⟩
  · exact (hS.2.1 i hi (hd S hS)).1 h7 k hk j e
  · exact ((hS.2.1 i hi (hd S hS)).2.1 h5).1 j e
  · exact ((hS.2.1 i hi (hd S hS)).2.1 h5).2 (sp_in_mono (sp_der_le hS) hk) j e
  · exact (hS.2.1 i hi (hd S hS)).2.2 h6 j e
/-- what a term is made of was MADE before it -/
def sp_bd (n : Nat) (d : sp_T) : Prop := ∀ k, k < 4 → ∀ j, sp_pa d k = some j → j < n
/-- only what lies below n counts -/
theorem sp_in_low {n : Nat} {S S' : Nat → Prop} (h : ∀ i, i < n → S i → S' i) {d : sp_T} (hb : sp_bd n d) {k : Nat} (hk : k < 4) (a : sp_in S (sp_pa d k)) : sp_in S' (sp_pa d k) := fun j e => h j (hb k hk j e) (a j e)
/-- a new term: nothing else comes to be derived -/
theorem sp_der_new {n : Nat} {t : Nat → sp_T} {g : Nat → Prop} (hbd : ∀ i, i < n → sp_bd n (t i)) {d : sp_T} (hd : sp_bd n d) {t' : Nat → sp_T} (ht : ∀ i, i < n → t' i = t i) (hn : t' n = d) (hg : ¬ g n) :
    (∀ i, i < n → (sp_der (n + 1) t' g i ↔ sp_der n t g i)) ∧ (sp_der (n + 1) t' g n ↔ sp_mk n t (sp_der n t g) d) := by
  have D := sp_der_cl n t g
  have D' := sp_der_cl (n + 1) t' g
  -- the old set is within the new
  have up : ∀ i, i < n → sp_der n t g i → sp_der (n + 1) t' g i := by
    intro i hi h S hS
    have hc : sp_cl n t g (fun j => S j) := by
      refine ⟨fun j hj hgj => hS.1 j (by omega) hgj, fun j hj hs => by have := hS.2.1 j (by omega) hs; rw [ht j hj] at this; exact this, fun j hj hm => hS.2.2 j (by omega) ?_⟩
      rw [ht j hj]
      have sh : ∀ s, sp_sh n t S s → sp_sh (n + 1) t' S s := by
        intro s a
        rcases a with a | ⟨q, h1, h2, h3, h4⟩
        · exact Or.inl a
        · exact Or.inr ⟨q, by omega, by rw [ht q h1]; exact h2, by rw [ht q h1]; exact h3, h4⟩
      rcases hm with ⟨h1, x, y, h2, h3, h4⟩ | hm
      · refine Or.inl ⟨h1, x, y, h2, h3, ?_⟩
        rcases h4 with ⟨a, b⟩ | ⟨a, b⟩
        · exact Or.inl ⟨a, sh _ b⟩
        · exact Or.inr ⟨a, sh _ b⟩
      · exact Or.inr hm
    exact h _ hc
  -- the candidate
  let C : Nat → Prop := fun i => (i < n ∧ sp_der n t g i) ∨ (i = n ∧ sp_mk n t (sp_der n t g) d)
  have low : ∀ i, i < n → C i → sp_der n t g i := by
    intro i hi h
    rcases h with h | h
    · exact h.2
    · omega
  have mkp : sp_mk n t (sp_der n t g) d → sp_so d ≠ 3 → ∀ k, k < 4 → sp_in (sp_der n t g) (sp_pa d k) := by
    intro h h3
    rcases h with h | h
    · exact absurd h.1 h3
    · exact h.2.2
  have shl : ∀ s, s < n → sp_sh (n + 1) t' C s → sp_sh n t (sp_der n t g) s := by
    intro s hs a
    rcases a with a | ⟨q, h1, h2, h3, h4⟩
    · exact Or.inl (low s hs a)
    · by_cases hq : q < n
      · rw [ht q hq] at h2 h3
        exact Or.inr ⟨q, hq, h2, h3, low q hq h4⟩
      · have hqn : q = n := by omega
        subst hqn
        rw [hn] at h2 h3
        rcases h4 with h4 | h4
        · omega
        · exact Or.inl (mkp h4.2 (by rw [h2]; decide) 0 (by omega) s h3)
  have mkl : ∀ x : sp_T, sp_bd n x → sp_mk (n + 1) t' C x → sp_mk n t (sp_der n t g) x := by
    intro x hx h
    rcases h with ⟨h1, a, b, h2, h3, h4⟩ | ⟨h1, h2, h3⟩
    · refine Or.inl ⟨h1, a, b, h2, h3, ?_⟩
      have ha := hx 0 (by omega) a h2
      have hb := hx 1 (by omega) b h3
      rcases h4 with ⟨u, v⟩ | ⟨u, v⟩
      · exact Or.inl ⟨low a ha u, shl b hb v⟩
      · exact Or.inr ⟨low b hb u, shl a ha v⟩
    · exact Or.inr ⟨h1, h2, fun k hk => sp_in_low (fun i hi => low i hi) hx hk (h3 k hk)⟩
  have inC : ∀ x : sp_T, sp_bd n x → ∀ k, k < 4 → sp_in (sp_der n t g) (sp_pa x k) → sp_in C (sp_pa x k) := fun x hx k hk h => sp_in_low (S' := C) (fun i hi a => Or.inl ⟨hi, a⟩) hx hk h
  have inL : ∀ x : sp_T, sp_bd n x → ∀ k, k < 4 → sp_in C (sp_pa x k) → sp_in (sp_der n t g) (sp_pa x k) := fun x hx k hk h => sp_in_low (fun i hi a => low i hi a) hx hk h
  have cC : sp_cl (n + 1) t' g C := by
    refine ⟨fun i hi hgi => ?_, fun i hi hs => ?_, fun i hi hm => ?_⟩
    · by_cases h : i < n
      · exact Or.inl ⟨h, D.1 i h hgi⟩
      · exact absurd (by rw [← show i = n by omega]; exact hgi) hg
    · by_cases h : i < n
      · rw [ht i h]
        have a := D.2.1 i h (low i h hs)
        have hb := hbd i h
        exact ⟨fun h7 k hk => inC _ hb k hk (a.1 h7 k hk), fun h5 => ⟨inC _ hb 1 (by omega) (a.2.1 h5).1, fun hk => inC _ hb 2 (by omega) ((a.2.1 h5).2 (inL _ hb 0 (by omega) hk))⟩, fun h6 => inC _ hb 1 (by omega) (a.2.2 h6)⟩
      · have hin : i = n := by omega
        subst hin
        rw [hn]
        rcases hs with hs | hs
        · omega
        · have q : sp_so d ≠ 3 → ∀ k, k < 4 → sp_in C (sp_pa d k) := fun h3 k hk => inC _ hd k hk (mkp hs.2 h3 k hk)
          exact ⟨fun h7 => q (by rw [h7]; decide), fun h5 => ⟨q (by rw [h5]; decide) 1 (by omega), fun _ => q (by rw [h5]; decide) 2 (by omega)⟩, fun h6 => q (by rw [h6]; decide) 1 (by omega)⟩
    · by_cases h : i < n
      · rw [ht i h] at hm
        exact Or.inl ⟨h, D.2.2 i h (mkl _ (hbd i h) hm)⟩
      · have hin : i = n := by omega
        subst hin
        rw [hn] at hm
        exact Or.inr ⟨rfl, mkl d hd hm⟩
  have shu : ∀ s, s < n → sp_sh n t (sp_der n t g) s → sp_sh (n + 1) t' (sp_der (n + 1) t' g) s := by
    intro s hs a
    rcases a with a | ⟨q, h1, h2, h3, h4⟩
    · exact Or.inl (up s hs a)
    · exact Or.inr ⟨q, by omega, by rw [ht q h1]; exact h2, by rw [ht q h1]; exact h3, up q h1 h4⟩
  refine ⟨fun i hi => ⟨fun h => low i hi (h C cC), up i hi⟩, fun h => ?_, fun h => ?_⟩
  · rcases h C cC with h | h
    · omega
    · exact h.2
  · refine D'.2.2 n (by omega) ?_
    rw [hn]
    rcases h with ⟨h1, x, y, h2, h3, h4⟩ | ⟨h1, h2, h3⟩
    · refine Or.inl ⟨h1, x, y, h2, h3, ?_⟩
      have hx := hd 0 (by omega) x h2
      have hy := hd 1 (by omega) y h3
      rcases h4 with ⟨u, v⟩ | ⟨u, v⟩
      · exact Or.inl ⟨up x hx u, shu y hy v⟩
      · exact Or.inr ⟨up y hy u, shu x hx v⟩
    · exact Or.inr ⟨h1, h2, fun k hk => sp_in_low up hd hk (h3 k hk)⟩
/-- GIVEN one more -/
def sp_gv (g : Nat → Prop) (x : Nat) : Nat → Prop := fun i => g i ∨ i = x
theorem sp_der_gv_mono {n : Nat} {t : Nat → sp_T} {g : Nat → Prop} (x i : Nat) (h : sp_der n t g i) : sp_der n t (sp_gv g x) i := fun S hS => h S ⟨fun j hj hg => hS.1 j hj (Or.inl hg), hS.2⟩
theorem sp_der_gv_old {n : Nat} {t : Nat → sp_T} {g : Nat → Prop} {x : Nat} (hx : sp_der n t g x) (i : Nat) (h : sp_der n t (sp_gv g x) i) : sp_der n t g i := by
  refine h _ ⟨fun j hj hg => ?_, (sp_der_cl n t g).2⟩
  rcases hg with hg | rfl
  · exact (sp_der_cl n t g).1 j hj hg
  · exact hx
theorem sp_der_gv_self {n : Nat} {t : Nat → sp_T} {g : Nat → Prop} {x : Nat} (hx : x < n) : sp_der n t (sp_gv g x) x := fun _ hS => hS.1 x hx (Or.inr rfl)
/-- how many -/
def sp_ct (b : Nat → Bool) : Nat → Nat
  | 0 => 0
  | k + 1 => sp_ct b k + (if b k = true then 1 else 0)
theorem sp_ct_le (b : Nat → Bool) (n : Nat) : sp_ct b n ≤ n := by
  induction n with
  | zero => exact Nat.le_refl _
  | succ k ih =>
    show sp_ct b k + _ ≤ _
    split <;> omega
theorem sp_ct_eq {b b' : Nat → Bool} {n : Nat} (h : ∀ i, i < n → b i = b' i) : sp_ct b n = sp_ct b' n := by
  induction n with
  | zero => rfl
  | succ k ih =>
    show sp_ct b k + _ = sp_ct b' k + _
    rw [ih (fun i hi => h i (by omega)), h k (by omega)]
theorem sp_ct_mono {b b' : Nat → Bool} {n : Nat} (h : ∀ i, i < n → b i = true → b' i = true) : sp_ct b n ≤ sp_ct b' n := by
  induction n with
  | zero => exact Nat.le_refl _
  | succ k ih =>
    have h1 := ih (fun i hi => h i (by omega))
    show sp_ct b k + _ ≤ sp_ct b' k + _
    by_cases hk : b k = true
    · rw [if_pos hk, if_pos (h k (by omega) hk)]; omega
    · rw [if_neg hk]; omega
theorem sp_ct_same {b b' : Nat → Bool} {n : Nat} (h : ∀ i, i < n → b i = true → b' i = true) (hc : sp_ct b' n ≤ sp_ct b n) : ∀ i, i < n → b' i = true → b i = true := by
  induction n with
  | zero => intro i hi; omega
  | succ k ih =>
    have h1 := sp_ct_mono (n := k) (fun i hi => h i (by omega))
    have e : sp_ct b (k + 1) = sp_ct b k + (if b k = true then 1 else 0) := rfl
    have e' : sp_ct b' (k + 1) = sp_ct b' k + (if b' k = true then 1 else 0) := rfl
    intro i hi hb
    by_cases hk : b k = true
    · have hk' := h k (by omega) hk
      rw [if_pos hk] at e
      rw [if_pos hk'] at e'
      by_cases hik : i = k
      · rw [hik]; exact hk
      · exact ih (fun i hi => h i (by omega)) (by omega) i (by omega) hb
    · rw [if_neg hk] at e
      by_cases hk' : b' k = true
      · rw [if_pos hk'] at e'; omega
      · rw [if_neg hk'] at e'
        by_cases hik : i = k
        · rw [hik] at hb; exact absurd hb hk'
        · exact ih (fun i hi => h i (by omega)) (by omega) i (by omega) hb
/-- one more -/
def sp_up (b : Nat → Bool) (x : Nat) : Nat → Bool := fun i => if i = x then true else b i
theorem sp_up_self (b : Nat → Bool) (x : Nat) : sp_up b x x = true := by simp [sp_up]
theorem sp_up_ne (b : Nat → Bool) {x i : Nat} (h : i ≠ x) : sp_up b x i = b i := by simp [sp_up, h]
theorem sp_up_mono (b : Nat → Bool) (x i : Nat) (h : b i = true) : sp_up b x i = true := by
  by_cases e : i = x
  · rw [e]; exact sp_up_self b x
  · rw [sp_up_ne b e]; exact h
theorem sp_up_of {b : Nat → Bool} {x i : Nat} (h : sp_up b x i = true) : i = x ∨ b i = true := by
  by_cases e : i = x
  · exact Or.inl e
  · rw [sp_up_ne b e] at h; exact Or.inr h
theorem sp_ct_up {b : Nat → Bool} {x n : Nat} (hx : x < n) (hb : b x = false) : sp_ct (sp_up b x) n = sp_ct b n + 1 := by
  induction n with
  | zero => omega
  | succ k ih =>
    show sp_ct (sp_up b x) k + _ = sp_ct b k + _ + 1
    by_cases e : x = k
    · subst e
      rw [sp_up_self, if_pos rfl, hb, if_neg (by decide), sp_ct_eq (b := sp_up b x) (b' := b) (fun i hi => sp_up_ne b (by omega))]
    · rw [ih (by omega), sp_up_ne b (Ne.symm e)]; omega
