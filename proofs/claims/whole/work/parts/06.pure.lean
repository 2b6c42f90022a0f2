/-! small pure rows -/
def bI (b : Bool) : Int32 := if b = true then 1 else 0
theorem bI_f {b : Bool} (h : bI b = 0) : b = false := by cases b <;> first | rfl | (exact absurd h (by decide))
theorem bI_t {b : Bool} (h : ¬ bI b = 0) : b = true := by cases b <;> first | rfl | (exact absurd rfl h)
theorem bI_and (b : Bool) : bI b &&& 1 = bI b := by cases b <;> decide
theorem pu1 {B : Bool} {H : Heap} (h : B = true) : xPu (.int (bI B)) H (some (.int 1)) H := ⟨by rw [h]; rfl, rfl⟩
theorem pu0 {B : Bool} {H : Heap} (h : B = false) : xPu (.int (bI B)) H (some (.int 0)) H := ⟨by rw [h]; rfl, rfl⟩
theorem bF {B : Bool} {P : Prop} (h : B = true ↔ P) (n : ¬ P) : B = false := by
  cases B with
  | false => rfl
  | true => exact absurd (h.mp rfl) n
/-- a term object -/
abbrev tob (G : sg_G) (H : Heap) (a : Nat) (so la : Int32) (na pa : Nat) (pl : Int32) (dv fc : Bool) : Prop := ob_ G H a 0 [.int so, .int la, .ref na, .ref pa, .int pl, .int (bI dv), .int (bI fc)]
/-- a part is in what is DERIVED, or NOTHING -/
def pin (G : sg_G) (H : Heap) (o : Option Nat) (B : Bool) : Prop := (o = none → B = true) ∧ ∀ q, o = some q → ∃ (so la : Int32) (na pa : Nat) (pl : Int32) (fc : Bool), tob G H q so la na pa pl B fc
theorem ia_to {G : sg_G} {H : Heap} {a n : Nat} {f g : Nat → Int32} (h : ia_ G H a n f) (e : ∀ j, j < n → f j = g j) : ia_ G H a n g := by
  have h1 : H[a]? = some (arrV (sg_I G) n (fun j => .int (f j))) := h
  show H[a]? = some (arrV (sg_I G) n (fun j => .int (g j)))
  rw [h1]
  congr 1
  unfold arrV
  congr 1
  apply Array.ext
  · simp
  · intro i h1 h2
    simp at h1
    simp [e i h1]
theorem za_to {G : sg_G} {H : Heap} {a n : Nat} {f g : Nat → Int32} (h : za_ G H a n f) (e : ∀ j, j < n → f j = g j) : za_ G H a n g := by
  have h1 : H[a]? = some (arrV (sg_Z G) n (fun j => .int (f j))) := h
  show H[a]? = some (arrV (sg_Z G) n (fun j => .int (g j)))
  rw [h1]
  congr 1
  unfold arrV
  congr 1
  apply Array.ext
  · simp
  · intro i h1 h2
    simp at h1
    simp [e i h1]
theorem ra_to {G : sg_G} {H : Heap} {a n : Nat} {f g : Nat → Option Nat} (h : ra_ G H a n f) (e : ∀ j, j < n → f j = g j) : ra_ G H a n g := by
  have h1 : H[a]? = some (arrV (sg_Y G) n (fun j => va_rf (f j))) := h
  show H[a]? = some (arrV (sg_Y G) n (fun j => va_rf (g j)))
  rw [h1]
  congr 1
  unfold arrV
  congr 1
  apply Array.ext
  · simp
  · intro i h1 h2
    simp at h1
    simp [e i h1]
theorem nI_le4 {i : Nat} (h : i < 2 ^ 31) {n : Nat} (hn : n < 2 ^ 31) (c : nI n ≤ nI i) : n ≤ i := (nI_leI hn h).mp c
theorem nI_nle4 {i : Nat} (h : i < 2 ^ 31) {n : Nat} (hn : n < 2 ^ 31) (c : ¬ nI n ≤ nI i) : i < n := Nat.not_le.mp fun q => c ((nI_leI hn h).mpr q)
theorem cat_rf (o : Option Nat) : (va_rf o).category = 1 := by cases o <;> rfl
theorem cat_int (x : Int32) : (Value.int x).category = 1 := rfl
theorem cat_ref (x : Nat) : (Value.ref x).category = 1 := rfl
theorem cat_null : (Value.null).category = 1 := rfl
