/-! BASE: my own judgement xV (W, with the writes hidden: only cells from sg_B G on are written), and its rows. G: class numbers, slots, array classes, the law's first own cell, the addresses of the static tables. -/
abbrev sg_G : Type := va_G × (ClassId × ClassId × ClassId) × Nat × (Nat → Nat)
def sg_D (G : sg_G) : va_G := G.1
def sg_I (G : sg_G) : ClassId := G.2.1.1
def sg_Z (G : sg_G) : ClassId := G.2.1.2.1
def sg_Y (G : sg_G) : ClassId := G.2.1.2.2
def sg_B (G : sg_G) : Nat := G.2.2.1
def sg_A (G : sg_G) : Nat → Nat := G.2.2.2
def sg_ty (G : sg_G) : List (ClassId × FieldType) := [(sg_I G, .int), (sg_Z G, .boolean), (sg_Y G, .object sg_term)]
def sg_fr (G : sg_G) : Nat → Prop := fun q => sg_B G ≤ q
def sg_K (G : sg_G) (U : State) : Prop := va_K (sg_D G) vwCl (sg_ty G) U ∧ va_AO sg_term U ∧ ∀ k, k < 5 → va_Z sg_own (sg_nm k) "[I" (.ref (sg_A G k)) (sg_fr G) U U.heap ∧ va_T .int (sg_A G k) (sg_len k) (fun j => .int (sg_tab k j)) (sg_fr G) U U.heap
theorem sg_K.moved {G : sg_G} {u U : State} (hvm : u.vm.Alike U.vm) (hq : ∀ q, q < sg_B G → U.heap[q]? = u.heap[q]?) (h : sg_K G u) : sg_K G U :=
  ⟨h.1.moved hvm, h.2.1.moved hvm, fun k hk => ⟨((h.2.2 k hk).1.moved hvm).kept (fun a _ ha => hq a (Nat.not_le.mp ha)), ((h.2.2 k hk).2.moved hvm).kept (fun a _ ha => hq a (Nat.not_le.mp ha))⟩⟩
/-- an object, an array of ints, of booleans, of terms -/
abbrev ob_ (G : sg_G) (H : Heap) (a ci : Nat) (fs : List Value) : Prop := va_at (sg_D G) vwCl (a, .inr (ci, fs)) H
abbrev ia_ (G : sg_G) (H : Heap) (a n : Nat) (f : Nat → Int32) : Prop := va_at (sg_D G) vwCl (a, .inl (sg_I G, n, .inl f)) H
abbrev za_ (G : sg_G) (H : Heap) (a n : Nat) (f : Nat → Int32) : Prop := va_at (sg_D G) vwCl (a, .inl (sg_Z G, n, .inl f)) H
abbrev ra_ (G : sg_G) (H : Heap) (a n : Nat) (f : Nat → Option Nat) : Prop := va_at (sg_D G) vwCl (a, .inl (sg_Y G, n, .inr (.inr (.inr (.inr f))))) H
theorem x_one {D : va_G} {cl : List vw_C} {q : Nat × va_E} {H : Heap} (h : va_at D cl q H) : va_P D cl [q] H := by
  intro k r hk
  cases k with
  | zero => cases hk; exact h
  | succ k => cases hk
section BASE
variable {p : Program} {l : Launch} {e : Env} {R : Room} {s : State} {m : MethodId} {args : Array Value} {below : List Frame} {meth : Method} {c : Code} {H : Heap} {locs : List Loc} {cells slots : Nat} {Q : State → Prop}
variable {G : sg_G} {cc : ByteArray} {pc : Nat} {ls : Array Slot} {rest : List Value}
def xV (p : Program) (l : Launch) (e : Env) (R : Room) (s : State) (m : MethodId) (args : Array Value) (below : List Frame) (meth : Method) (c : Code) (G : sg_G) (H : Heap) (cells slots : Nat) (Q : State → Prop) (g : JFrame) : Prop :=
  ∀ locs : List Loc, va_S (sg_fr G) s.heap H locs → W p l e R s m args below meth c H locs cells slots Q g
def xE (p : Program) (s : State) (m : MethodId) (args : Array Value) (meth : Method) (c : Code) (G : sg_G) (own : String) (cc : ByteArray) (nL : Nat) (ret : Option FieldType) : Prop :=
  p.tables.exec = Jvm.exec ∧ c.code = cc ∧ c.maxLocals = nL ∧ s.vm.findClass own = some m.cls ∧ (∀ w ∈ xW, w.before args s = true) ∧ meth.sig.returnType = ret ∧ meth.locks = false ∧ sg_K G s ∧ sg_B G ≤ s.heap.size
theorem xl {g g2 : JFrame} (h : ∀ locs, W p l e R s m args below meth c H locs cells slots Q g2 → W p l e R s m args below meth c H locs cells slots Q g) (k : xV p l e R s m args below meth c G H cells slots Q g2) : xV p l e R s m args below meth c G H cells slots Q g := fun locs hS => h locs (k locs hS)
theorem xb {P1 P2 : Prop} {g g1 g2 : JFrame} (h : ∀ locs, (P1 → W p l e R s m args below meth c H locs cells slots Q g1) → (P2 → W p l e R s m args below meth c H locs cells slots Q g2) → W p l e R s m args below meth c H locs cells slots Q g)
    (k1 : P1 → xV p l e R s m args below meth c G H cells slots Q g1) (k2 : P2 → xV p l e R s m args below meth c G H cells slots Q g2) : xV p l e R s m args below meth c G H cells slots Q g := fun locs hS => h locs (fun a => k1 a locs hS) (fun a => k2 a locs hS)
theorem xs {nL pc2 : Nat} {lv' : List (Nat × Value)} {st2 : List Value} {g : JFrame} (h : ∀ locs, (∀ ls' : Array Slot, lv_has ls' nL lv' → W p l e R s m args below meth c H locs cells slots Q (F0 m pc2 ls' st2)) → W p l e R s m args below meth c H locs cells slots Q g)
    (k : ∀ ls' : Array Slot, lv_has ls' nL lv' → xV p l e R s m args below meth c G H cells slots Q (F0 m pc2 ls' st2)) : xV p l e R s m args below meth c G H cells slots Q g := fun locs hS => h locs (fun a b => k a b locs hS)
theorem xw {g : JFrame} {k n : Nat} (h1 : cells ≤ k) (h2 : slots ≤ n) (kk : xV p l e R s m args below meth c G H k n Q g) : xV p l e R s m args below meth c G H cells slots Q g := fun locs hS => W.widen h1 h2 (kk locs hS)
theorem xg {g g2 : JFrame} (h : g = g2) (k : xV p l e R s m args below meth c G H cells slots Q g2) : xV p l e R s m args below meth c G H cells slots Q g := h ▸ k
/-- a reference that may be null: loaded, kept -/
theorem x_aload_nq (hx : p.tables.exec = Jvm.exec) (hb : c.code = cc) {k : Fin 4} {i : Nat} {o : Option Nat} (hdg : decode cc pc = .ok (.aload_n k, 1)) (hi : (k : Nat) = i) (hl : ls[i]? = some (.val (va_rf o)))
    (kk : xV p l e R s m args below meth c G H cells slots Q (F0 m (pc + 1) ls (va_rf o :: rest))) : xV p l e R s m args below meth c G H cells slots Q (F0 m pc ls rest) := by
  cases o with
  | none => exact xl (fun _ => lv_aload_nN hx hb hdg hi hl) kk
  | some a => exact xl (fun _ => lv_aload_n hx hb hdg hi hl) kk
theorem x_aloadq (hx : p.tables.exec = Jvm.exec) (hb : c.code = cc) {i : Nat} {o : Option Nat} (hdg : decode cc pc = .ok (.aload i, 2)) (hl : ls[i]? = some (.val (va_rf o)))
    (kk : xV p l e R s m args below meth c G H cells slots Q (F0 m (pc + 2) ls (va_rf o :: rest))) : xV p l e R s m args below meth c G H cells slots Q (F0 m pc ls rest) := by
  cases o with
  | none => exact xl (fun _ => lv_aloadN hx hb hdg hl) kk
  | some a => exact xl (fun _ => lv_aload hx hb hdg hl) kk
theorem x_astore_nq (hx : p.tables.exec = Jvm.exec) (hb : c.code = cc) {k : Fin 4} {i nL : Nat} {o : Option Nat} {lv lv' : List (Nat × Value)} (hdg : decode cc pc = .ok (.astore_n k, 1)) (hi : (k : Nat) = i) (h : lv_has ls nL lv) (hn : i < nL) (hl : (i, va_rf o) :: lv.filter (fun q => !(q.1 == i) && !(q.1 + 1 == i && q.2.category == 2)) = lv')
    (kk : ∀ ls' : Array Slot, lv_has ls' nL lv' → xV p l e R s m args below meth c G H cells slots Q (F0 m (pc + 1) ls' rest)) : xV p l e R s m args below meth c G H cells slots Q (F0 m pc ls (va_rf o :: rest)) := by
  cases o with
  | none => exact xs (fun _ => lv_astore_nN hx hb hdg hi h hn hl) kk
  | some a => exact xs (fun _ => lv_astore_n hx hb hdg hi h hn hl) kk
theorem x_astoreq (hx : p.tables.exec = Jvm.exec) (hb : c.code = cc) {i nL : Nat} {o : Option Nat} {lv lv' : List (Nat × Value)} (hdg : decode cc pc = .ok (.astore i, 2)) (h : lv_has ls nL lv) (hn : i < nL) (hl : (i, va_rf o) :: lv.filter (fun q => !(q.1 == i) && !(q.1 + 1 == i && q.2.category == 2)) = lv')
    (kk : ∀ ls' : Array Slot, lv_has ls' nL lv' → xV p l e R s m args below meth c G H cells slots Q (F0 m (pc + 2) ls' rest)) : xV p l e R s m args below meth c G H cells slots Q (F0 m pc ls (va_rf o :: rest)) := by
  cases o with
  | none => exact xs (fun _ => lv_astoreN hx hb hdg h hn hl) kk
  | some a => exact xs (fun _ => lv_astore hx hb hdg h hn hl) kk
theorem x_ifnullq (hx : p.tables.exec = Jvm.exec) (hb : c.code = cc) {o : Option Nat} {off : Int} {tgt : Nat} (hdg : decode cc pc = .ok (.ifnull off, 3)) (ht : (pc : Int) + off = (tgt : Int))
    (k1 : o = none → xV p l e R s m args below meth c G H cells slots Q (F0 m tgt ls rest)) (k2 : ∀ a, o = some a → xV p l e R s m args below meth c G H cells slots Q (F0 m (pc + 3) ls rest)) : xV p l e R s m args below meth c G H cells slots Q (F0 m pc ls (va_rf o :: rest)) := by
  cases o with
  | none => exact xl (fun _ => lv_ifnullN hx hb hdg ht) (k1 rfl)
  | some a => exact xl (fun _ => lv_ifnull hx hb hdg) (k2 a rfl)
theorem x_ifnonnullq (hx : p.tables.exec = Jvm.exec) (hb : c.code = cc) {o : Option Nat} {off : Int} {tgt : Nat} (hdg : decode cc pc = .ok (.ifnonnull off, 3)) (ht : (pc : Int) + off = (tgt : Int))
    (k1 : ∀ a, o = some a → xV p l e R s m args below meth c G H cells slots Q (F0 m tgt ls rest)) (k2 : o = none → xV p l e R s m args below meth c G H cells slots Q (F0 m (pc + 3) ls rest)) : xV p l e R s m args below meth c G H cells slots Q (F0 m pc ls (va_rf o :: rest)) := by
  cases o with
  | none => exact xl (fun _ => lv_ifnonnullN hx hb hdg) (k2 rfl)
  | some a => exact xl (fun _ => lv_ifnonnull hx hb hdg ht) (k1 a rfl)
/-- fields -/
theorem x_get (hx : p.tables.exec = Jvm.exec) (hb : c.code = cc) (hts : ∀ w ∈ xW, w.before args s = true) {own ref C : String} (hown : s.vm.findClass own = some m.cls) (hK : sg_K G s) {T : u_T} {N ci index : Nat} (hin : ∀ w ∈ u_ws C T N, w ∈ xW) {a : Nat} {fs : List Value} (ho : ob_ G H a ci fs) (hc : vwCl[ci]? = some (C, T, N)) (k : Nat) (hk : k < N)
    (hlink : Cond.fieldLink own index ref (T k).2.1 (T k).2.2.1 ∈ xW) (hre : (T k).1 = ref) {v : Value} (hv : fs[k]? = some v) (hdg : decode cc pc = .ok (.getfield index, 3)) (kk : xV p l e R s m args below meth c G H cells slots Q (F0 m (pc + 3) ls (v :: rest))) : xV p l e R s m args below meth c G H cells slots Q (F0 m pc ls (.ref a :: rest)) :=
  xl (fun _ => va_get hx hb hts hin hown hK.1 (x_one ho) 0 rfl hc k hk (hts _ hlink) (fun _ h => by rw [← hre]; exact h) hv hdg) kk
theorem x_put (hx : p.tables.exec = Jvm.exec) (hb : c.code = cc) (hts : ∀ w ∈ xW, w.before args s = true) {own ref C : String} (hown : s.vm.findClass own = some m.cls) (hK : sg_K G s) {T : u_T} {N ci index : Nat} (hin : ∀ w ∈ u_ws C T N, w ∈ xW) (ty0 : Nat → FieldType) (hty : ∀ k, k < N → parseFieldDescriptor (T k).2.2.1 = some (ty0 k)) (hnm : ∀ a, a < N → ∀ b, b < N → a ≠ b → (T a).2.1 ≠ (T b).2.1)
    {a : Nat} {fs : List Value} (ho : ob_ G H a ci fs) (hc : vwCl[ci]? = some (C, T, N)) (k : Nat) (hk : k < N) (hlink : Cond.fieldLink own index ref (T k).2.1 (T k).2.2.1 ∈ xW) (hre : (T k).1 = ref) (hfin : (T k).2.2.2 = false) {v : Value} (hn : narrow (ty0 k) v = v) (hfit : fits (ty0 k) v = true) (hl : k < fs.length) (hba : sg_B G ≤ a)
    (hdg : decode cc pc = .ok (.putfield index, 3)) (kk : ∀ H1 : Heap, ob_ G H1 a ci (fs.set k v) → H1.size = H.size → (∀ q, q ≠ a → H1[q]? = H[q]?) → xV p l e R s m args below meth c G H1 cells slots Q (F0 m (pc + 3) ls rest)) : xV p l e R s m args below meth c G H cells slots Q (F0 m pc ls (v :: .ref a :: rest)) := by
  intro locs hS0
  have hap := va_apart (own := own) hts hin ty0 hty hnm hK.1 hc
  obtain ⟨r, h1, cell, q1, q2, q3, q4⟩ := ho
  have hr : r = (C, T, N) := Option.some.inj (h1.symm.trans hc)
  subst hr
  obtain ⟨hS, hfc, kC, hkC, hkind⟩ := hK.1.1 ci _ hc
  obtain ⟨cf, kf, fi, f, hi, hsl⟩ := hS k hk
  have hlay := hts _ (hin _ (u_in_lay hk))
  unfold u_lay at hlay
  rw [if_neg (by rw [hfin]; decide)] at hlay
  have hst := (u_facts hfc hkC (u_lays hts hin hk) hi).1
  have h6 := u_store hfc hkC hkind hlay hi (hty k hk) hn hfit
  refine W.putK hx hb (f := f) ⟨hown, hts _ hlink, ⟨_, _, _, by rw [← hre]; exact hi⟩, hst⟩ (by rw [q2]; exact h6) q1 q3 (by rw [hsl]; exact k2_hasslot (q4 k hk)) rfl rfl hdg fun H' e1 e2 e3 => ?_
  rw [hsl] at e1 ⊢
  exact kk H' ⟨_, hc, t_OB.to (V := updV (vp_V fs) k v) ⟨_, e1, q2, q3, t_set q4 hap hk v⟩ (fun j _ => vp_updV_set hl v j)⟩ e2 e3 _ (hS0.put e2 e3 hba)
theorem x_putF (hx : p.tables.exec = Jvm.exec) (hb : c.code = cc) (hts : ∀ w ∈ xW, w.before args s = true) {own ref C : String} (hown : s.vm.findClass own = some m.cls) (hK : sg_K G s) {T : u_T} {N ci index : Nat} (hin : ∀ w ∈ u_ws C T N, w ∈ xW) (ty0 : Nat → FieldType) (hty : ∀ k, k < N → parseFieldDescriptor (T k).2.2.1 = some (ty0 k)) (hnm : ∀ a, a < N → ∀ b, b < N → a ≠ b → (T a).2.1 ≠ (T b).2.1)
    {a : Nat} {fs : List Value} (ho : ob_ G H a ci fs) (hc : vwCl[ci]? = some (C, T, N)) (k : Nat) (hk : k < N) (hlink : Cond.fieldLink own index ref (T k).2.1 (T k).2.2.1 ∈ xW) (hre : (T k).1 = ref) (hfin : (T k).2.2.2 = true) (hin2 : meth.name = "<init>") (hdecl : (T k).1 = own) {v : Value} (hn : narrow (ty0 k) v = v) (hfit : fits (ty0 k) v = true) (hl : k < fs.length) (hba : sg_B G ≤ a)
    (hdg : decode cc pc = .ok (.putfield index, 3)) (kk : ∀ H1 : Heap, ob_ G H1 a ci (fs.set k v) → H1.size = H.size → (∀ q, q ≠ a → H1[q]? = H[q]?) → xV p l e R s m args below meth c G H1 cells slots Q (F0 m (pc + 3) ls rest)) : xV p l e R s m args below meth c G H cells slots Q (F0 m pc ls (v :: .ref a :: rest)) := by
  intro locs hS0
  have hap := va_apart (own := own) hts hin ty0 hty hnm hK.1 hc
  obtain ⟨r, h1, cell, q1, q2, q3, q4⟩ := ho
  have hr : r = (C, T, N) := Option.some.inj (h1.symm.trans hc)
  subst hr
  obtain ⟨hS, hfc, kC, hkC, hkind⟩ := hK.1.1 ci _ hc
  obtain ⟨cf, kf, fi, f, hi, hsl⟩ := hS k hk
  have hlay := hts _ (hin _ (u_in_lay hk))
  unfold u_lay at hlay
  rw [if_pos hfin] at hlay
  have hst := (u_facts hfc hkC (u_lays hts hin hk) hi).1
  have hcf : m.cls = cf := by
    obtain ⟨_, _, c', _, _, _, -, -, hf', -, -, -, hown2, -⟩ := Cond.laysFinal_spec hlay
    have e1 : c' = cf := by have := hi.symm.trans hf'; simp at this; exact this.1.symm
    rw [hdecl] at hown2
    rw [← e1]; exact Option.some.inj (hown.symm.trans hown2)
  have h6 := u_fits hfc hkC hkind (Or.inr hlay) hi (hty k hk) hn hfit
  refine W.putFinK hx hb hown (hts _ hlink) (by rw [← hre]; exact hi) hst hcf hin2 (by rw [q2]; exact h6) q1 q3 (by rw [hsl]; exact k2_hasslot (q4 k hk)) rfl rfl hdg fun H' e1 e2 e3 => ?_
  rw [hsl] at e1 ⊢
  exact kk H' ⟨_, hc, t_OB.to (V := updV (vp_V fs) k v) ⟨_, e1, q2, q3, t_set q4 hap hk v⟩ (fun j _ => vp_updV_set hl v j)⟩ e2 e3 _ (hS0.put e2 e3 hba)
/-- what is new -/
theorem x_fresh {H0 H1 : Heap} {A : Nat → Prop} {n : Nat} (h : va_S A H0 H locs) (z : H1.size = n) (hn : H.size ≤ n) (o1 : ∀ q, q < H.size → H1[q]? = H[q]?) : va_S A H0 H1 locs :=
  ⟨by rw [z]; exact Nat.le_trans h.1 hn, fun x h1 h2 => (o1 x (Nat.lt_of_lt_of_le h1 h.1)).trans (h.2.1 x h1 h2), h.2.2⟩
theorem x_new (hx : p.tables.exec = Jvm.exec) (hb : c.code = cc) (hts : ∀ w ∈ xW, w.before args s = true) {own C : String} (hown : s.vm.findClass own = some m.cls) (hK : sg_K G s) {T : u_T} {N ci index : Nat} (hin : ∀ w ∈ u_ws C T N, w ∈ xW) (ty : Nat → FieldType) (hty : ∀ k, k < N → parseFieldDescriptor (T k).2.2.1 = some (ty k)) (hcl : Cond.classLink own index C ∈ xW) (hinst : Cond.instantiable C N ∈ xW) (hini : Cond.initialized C ∈ xW)
    (hc : vwCl[ci]? = some (C, T, N)) {fs : List Value} (hfs : ∀ j, j < N → defaultValue (ty j) = vp_V fs j) (hcells : cells + 1 ≤ R.cells) (hslots : slots + N ≤ R.slots) (hdg : decode cc pc = .ok (.new index, 3))
    (kk : ∀ H1 : Heap, ob_ G H1 H.size ci fs → H1.size = H.size + 1 → (∀ q, q < H.size → H1[q]? = H[q]?) → xV p l e R s m args below meth c G H1 (cells + 1) (slots + N) Q (F0 m (pc + 3) ls (.ref H.size :: rest))) : xV p l e R s m args below meth c G H cells slots Q (F0 m pc ls rest) := by
  intro locs hS
  have hKn := hK.1.1 ci _ hc
  refine W.newcK hx hb hown (hts _ hcl) (hts _ hinst) (hts _ hini) rfl hdg hcells hslots hKn.2.1 rfl fun H1 kC hkC e1 z1 o1 => ?_
  exact kk H1 ⟨_, hc, (u_born ty hts hin hKn hkC e1 hty).to hfs⟩ z1 o1 locs (x_fresh hS z1 (Nat.le_succ _) o1)
theorem x_newi (hx : p.tables.exec = Jvm.exec) (hb : c.code = cc) (hts : ∀ w ∈ xW, w.before args s = true) (hK : sg_K G s) (harr : Cond.arrayClass .int ∈ xW) {n : Int32} {N : Nat} (hn : ¬ n < 0) (hN : n.toNatClampNeg = N) (hbytes : N * 4 ≤ 536870912) (hcells : cells + 1 ≤ R.cells) (hslots : slots + N ≤ R.slots) (hdg : decode cc pc = .ok (.newarray .int, 2))
    (kk : ∀ H1 : Heap, ia_ G H1 H.size N (fun _ => 0) → H1.size = H.size + 1 → (∀ q, q < H.size → H1[q]? = H[q]?) → xV p l e R s m args below meth c G H1 (cells + 1) (slots + N) Q (F0 m (pc + 2) ls (.ref H.size :: rest))) : xV p l e R s m args below meth c G H cells slots Q (F0 m pc ls (.int n :: rest)) := by
  intro locs hS
  refine va_newaK (atype := .int) hx hb (hts _ harr) rfl hdg rfl hn hN hbytes hcells hslots rfl fun H1 cA e1 z1 o1 hAr hNm => ?_
  have hcA : cA = sg_I G := Option.some.inj (hNm.symm.trans (hK.1.2 0 (sg_I G, .int) rfl).2)
  subst hcA
  exact kk H1 e1 z1 o1 locs (x_fresh hS z1 (Nat.le_succ _) o1)
theorem x_newz (hx : p.tables.exec = Jvm.exec) (hb : c.code = cc) (hts : ∀ w ∈ xW, w.before args s = true) (hK : sg_K G s) (harr : Cond.arrayClass .boolean ∈ xW) {n : Int32} {N : Nat} (hn : ¬ n < 0) (hN : n.toNatClampNeg = N) (hbytes : N * 1 ≤ 536870912) (hcells : cells + 1 ≤ R.cells) (hslots : slots + N ≤ R.slots) (hdg : decode cc pc = .ok (.newarray .boolean, 2))
    (kk : ∀ H1 : Heap, za_ G H1 H.size N (fun _ => 0) → H1.size = H.size + 1 → (∀ q, q < H.size → H1[q]? = H[q]?) → xV p l e R s m args below meth c G H1 (cells + 1) (slots + N) Q (F0 m (pc + 2) ls (.ref H.size :: rest))) : xV p l e R s m args below meth c G H cells slots Q (F0 m pc ls (.int n :: rest)) := by
  intro locs hS
  refine va_newaK (atype := .boolean) hx hb (hts _ harr) rfl hdg rfl hn hN hbytes hcells hslots rfl fun H1 cA e1 z1 o1 hAr hNm => ?_
  have hcA : cA = sg_Z G := Option.some.inj (hNm.symm.trans (hK.1.2 1 (sg_Z G, .boolean) rfl).2)
  subst hcA
  exact kk H1 e1 z1 o1 locs (x_fresh hS z1 (Nat.le_succ _) o1)
theorem x_newr (hx : p.tables.exec = Jvm.exec) (hb : c.code = cc) (hts : ∀ w ∈ xW, w.before args s = true) {own : String} {index : Nat} (hown : s.vm.findClass own = some m.cls) (hK : sg_K G s) (hcl : Cond.classLink own index sg_term ∈ xW) {n : Int32} {N : Nat} (hn : ¬ n < 0) (hN : n.toNatClampNeg = N) (hbytes : N * 4 ≤ 536870912) (hcells : cells + 1 ≤ R.cells) (hslots : slots + N ≤ R.slots) (hdg : decode cc pc = .ok (.anewarray index, 3))
    (kk : ∀ H1 : Heap, ra_ G H1 H.size N (fun _ => none) → H1.size = H.size + 1 → (∀ q, q < H.size → H1[q]? = H[q]?) → xV p l e R s m args below meth c G H1 (cells + 1) (slots + N) Q (F0 m (pc + 3) ls (.ref H.size :: rest))) : xV p l e R s m args below meth c G H cells slots Q (F0 m pc ls (.int n :: rest)) := by
  intro locs hS
  subst hN
  refine W.anew hx hb hown (hts _ hcl) hK.2.1.use rfl hdg rfl hn hbytes hcells hslots fun cA kA comp h1 h2 h3 h4 => ?_
  obtain ⟨_, _, _, _, _, h5⟩ := (hK.1.2 2 (sg_Y G, .object sg_term) rfl).2
  have hcA : cA = sg_Y G := Option.some.inj (h1.symm.trans h5)
  subst hcA
  have o1 : ∀ q, q < H.size → (H.push { cls := sg_Y G, slots := Array.replicate n.toNatClampNeg .null, vm := .none })[q]? = H[q]? := fun q hq => by
    rw [Array.getElem?_push, if_neg (Nat.ne_of_lt hq)]
  refine kk _ ?_ (by simp) o1 locs (x_fresh hS (n := H.size + 1) (by simp) (Nat.le_succ _) o1)
  show (H.push { cls := sg_Y G, slots := Array.replicate n.toNatClampNeg .null, vm := .none })[H.size]? = some (arrV (sg_Y G) n.toNatClampNeg (fun _ => Value.null))
  rw [← arrV_new]; simp
/-- arrays -/
theorem x_alen (hx : p.tables.exec = Jvm.exec) (hb : c.code = cc) (hK : sg_K G s) {a : Nat} {cA : ClassId} {x : vp_A} (t0 : Nat) {ty : FieldType} (ht : (sg_ty G)[t0]? = some (cA, ty)) (ha : va_at (sg_D G) vwCl (a, .inl (cA, x)) H) {n : Nat} (hv : x.1 = n) (hdg : decode cc pc = .ok (.arraylength, 1))
    (kk : xV p l e R s m args below meth c G H cells slots Q (F0 m (pc + 1) ls (.int (nI n) :: rest))) : xV p l e R s m args below meth c G H cells slots Q (F0 m pc ls (.ref a :: rest)) :=
  xl (fun _ => va_alen hx hb hK.1 (x_one ha) 0 t0 rfl ht (by rw [hv]; rfl) hdg) kk
theorem x_iald (hx : p.tables.exec = Jvm.exec) (hb : c.code = cc) (hK : sg_K G s) {a n : Nat} {f : Nat → Int32} (ha : ia_ G H a n f) {i : Int32} (k : Nat) (hi : i = nI k) (hk : k < n) (hn : n < 2 ^ 31) (hdg : decode cc pc = .ok (.iaload, 1))
    (kk : xV p l e R s m args below meth c G H cells slots Q (F0 m (pc + 1) ls (.int (f k) :: rest))) : xV p l e R s m args below meth c G H cells slots Q (F0 m pc ls (.int i :: .ref a :: rest)) := by
  subst hi
  have e : (nI k).toNatClampNeg = k := nI_clamp (by omega)
  rw [← e] at kk
  exact xl (fun _ => va_iald hx hb hK.1 (x_one ha) 0 0 rfl rfl (vp_in_nI hk hn) hdg) kk
theorem x_zald (hx : p.tables.exec = Jvm.exec) (hb : c.code = cc) (hK : sg_K G s) {a n : Nat} {f : Nat → Int32} (ha : za_ G H a n f) {i : Int32} (k : Nat) (hi : i = nI k) (hk : k < n) (hn : n < 2 ^ 31) (hdg : decode cc pc = .ok (.baload, 1))
    (kk : xV p l e R s m args below meth c G H cells slots Q (F0 m (pc + 1) ls (.int (f k) :: rest))) : xV p l e R s m args below meth c G H cells slots Q (F0 m pc ls (.int i :: .ref a :: rest)) := by
  subst hi
  have e : (nI k).toNatClampNeg = k := nI_clamp (by omega)
  rw [← e] at kk
  exact xl (fun _ => va_zald hx hb hK.1 (x_one ha) 0 1 rfl rfl (vp_in_nI hk hn) hdg) kk
theorem x_aald (hx : p.tables.exec = Jvm.exec) (hb : c.code = cc) (hK : sg_K G s) {a n : Nat} {f : Nat → Option Nat} (ha : ra_ G H a n f) {i : Int32} (k : Nat) (hi : i = nI k) (hk : k < n) (hn : n < 2 ^ 31) (hdg : decode cc pc = .ok (.aaload, 1))
    (kk : xV p l e R s m args below meth c G H cells slots Q (F0 m (pc + 1) ls (va_rf (f k) :: rest))) : xV p l e R s m args below meth c G H cells slots Q (F0 m pc ls (.int i :: .ref a :: rest)) := by
  subst hi
  have e : (nI k).toNatClampNeg = k := nI_clamp (by omega)
  rw [← e] at kk
  exact xl (fun _ => va_aldq hx hb hK.1 (x_one ha) 0 2 rfl rfl (vp_in_nI hk hn) hdg) kk
theorem x_iast (hx : p.tables.exec = Jvm.exec) (hb : c.code = cc) (hK : sg_K G s) {a n : Nat} {f : Nat → Int32} (ha : ia_ G H a n f) {i x : Int32} (k : Nat) (hi : i = nI k) (hk : k < n) (hn : n < 2 ^ 31) (hba : sg_B G ≤ a) (hdg : decode cc pc = .ok (.iastore, 1))
    (kk : ∀ H1 : Heap, ia_ G H1 a n (upd f k x) → H1.size = H.size → (∀ q, q ≠ a → H1[q]? = H[q]?) → xV p l e R s m args below meth c G H1 cells slots Q (F0 m (pc + 1) ls rest)) : xV p l e R s m args below meth c G H cells slots Q (F0 m pc ls (.int x :: .int i :: .ref a :: rest)) := by
  intro locs hS
  subst hi
  have e : (nI k).toNatClampNeg = k := nI_clamp (by omega)
  refine W.iast hx hb ha ((hK.1.2 0 _ rfl).1 n (fun j => .int (f j))) (fun q => by cases q) (by show ¬ (nI k < 0 ∨ (arrV _ _ _).slots.size ≤ _); rw [arrV_size]; exact vp_in_nI hk hn) rfl rfl hdg fun H1 e1 z oq => ?_
  rw [e] at e1 ⊢
  refine kk H1 ?_ z oq _ (hS.put z oq hba)
  show H1[a]? = some (vp_cell _ _)
  rw [e1]
  rw [vp_cell_i, vp_cell_i, arrV_store]
  congr 2
  funext q
  by_cases hq : q = k
  · subst hq
    simp [updV, upd]
  · simp [updV, upd, hq]
theorem x_zast (hx : p.tables.exec = Jvm.exec) (hb : c.code = cc) (hK : sg_K G s) {a n : Nat} {f : Nat → Int32} (ha : za_ G H a n f) {i x : Int32} (k : Nat) (hi : i = nI k) (hk : k < n) (hn : n < 2 ^ 31) (hba : sg_B G ≤ a) (hx1 : x &&& 1 = x) (hdg : decode cc pc = .ok (.bastore, 1))
    (kk : ∀ H1 : Heap, za_ G H1 a n (upd f k x) → H1.size = H.size → (∀ q, q ≠ a → H1[q]? = H[q]?) → xV p l e R s m args below meth c G H1 cells slots Q (F0 m (pc + 1) ls rest)) : xV p l e R s m args below meth c G H cells slots Q (F0 m pc ls (.int x :: .int i :: .ref a :: rest)) := by
  intro locs hS
  subst hi
  have e : (nI k).toNatClampNeg = k := nI_clamp (by omega)
  refine W.zast hx hb ha ((hK.1.2 1 _ rfl).1 n (fun j => .int (f j))) (fun q => by cases q) (by show ¬ (nI k < 0 ∨ (arrV _ _ _).slots.size ≤ _); rw [arrV_size]; exact vp_in_nI hk hn) rfl rfl hdg fun H1 e1 z oq => ?_
  rw [e] at e1 ⊢
  refine kk H1 ?_ z oq _ (hS.put z oq hba)
  show H1[a]? = some (vp_cell _ _)
  rw [e1]
  rw [vp_cell_i, vp_cell_i, arrV_store]
  congr 2
  funext q
  by_cases hq : q = k
  · subst hq
    simp [updV, upd, narrow, hx1]
  · simp [updV, upd, hq]
theorem x_aast (hx : p.tables.exec = Jvm.exec) (hb : c.code = cc) (hK : sg_K G s) {a n : Nat} {f : Nat → Option Nat} (ha : ra_ G H a n f) {o : Option Nat} (ho : ∀ v, o = some v → ∃ fs, ob_ G H v sg_ti fs) {i : Int32} (k : Nat) (hi : i = nI k) (hk : k < n) (hn : n < 2 ^ 31) (hba : sg_B G ≤ a) (hdg : decode cc pc = .ok (.aastore, 1))
    (kk : ∀ H1 : Heap, ra_ G H1 a n (va_up f k o) → H1.size = H.size → (∀ q, q ≠ a → H1[q]? = H[q]?) → xV p l e R s m args below meth c G H1 cells slots Q (F0 m (pc + 1) ls rest)) : xV p l e R s m args below meth c G H cells slots Q (F0 m pc ls (va_rf o :: .int i :: .ref a :: rest)) := by
  intro locs hS
  subst hi
  have e : (nI k).toNatClampNeg = k := nI_clamp (by omega)
  have hin := vp_in_nI hk hn
  cases o with
  | none =>
    refine va_WaastN (C := sg_term) hx hb ha ((hK.1.2 2 _ rfl).1 n (fun j => va_rf (f j))) (fun h => by cases h) (by show ¬ (nI k < 0 ∨ (arrV _ _ _).slots.size ≤ _); rw [arrV_size]; exact hin) rfl rfl hdg fun H1 e1 z oq => ?_
    rw [e] at e1 ⊢
    refine kk H1 ?_ z oq _ (hS.put z oq hba)
    show H1[a]? = some (vp_cell _ _)
    rw [e1]
    rw [vp_cell_q, vp_cell_q, arrV_store]
    congr 2
    funext q
    by_cases hq : q = k
    · subst hq
      simp [updV, va_up, va_rf]
    · simp [updV, va_up, hq]
  | some v =>
    obtain ⟨fs, r', hr', cellV, g1, g2, g3, -⟩ := ho v rfl
    have hcls := (hK.1.1 sg_ti _ sg_ti_ok).2
    obtain ⟨kA, comp, k1, k2, k3, -⟩ := (hK.1.2 2 (sg_Y G, .object sg_term) rfl).2
    have hcomp : comp = (sg_D G).1 sg_ti := Option.some.inj (k3.symm.trans hcls.1)
    subst hcomp
    obtain ⟨kC, hkC, -⟩ := hcls.2
    refine W.aast hx hb ha (fun q h => by cases h) (fun h => by cases h) k1 k2 rfl hkC ⟨fun q => hin (Or.inl q), by show _ < (arrV _ _ _).slots.size; rw [arrV_size, e]; exact hk⟩ g1 (fun q h => by rw [g3] at h; cases h) (by rw [g2]; exact hkC) (by rw [g2]; exact va_assign hcls) rfl rfl hdg fun H1 e1 z oq => ?_
    rw [e] at e1 ⊢
    refine kk H1 ?_ z oq _ (hS.put z oq hba)
    show H1[a]? = some (vp_cell _ _)
    rw [e1]
    rw [vp_cell_q, vp_cell_q, arrV_store]
    congr 2
    funext q
    by_cases hq : q = k
    · subst hq
      simp [updV, va_up, va_rf]
    · simp [updV, va_up, hq]
/-- the class's static tables -/
theorem x_gets (hx : p.tables.exec = Jvm.exec) (hb : c.code = cc) (hts : ∀ w ∈ xW, w.before args s = true) {own : String} {index : Nat} (hown : s.vm.findClass own = some m.cls) (hK : sg_K G s) (k : Nat) (hk : k < 5) (hlink : Cond.fieldLink own index sg_own (sg_nm k) "[I" ∈ xW) (hdg : decode cc pc = .ok (.getstatic index, 3))
    (kk : xV p l e R s m args below meth c G H cells slots Q (F0 m (pc + 3) ls (.ref (sg_A G k) :: rest))) : xV p l e R s m args below meth c G H cells slots Q (F0 m pc ls rest) := fun locs hS =>
  va_gets hx hb (hK.2.2 k hk).1 hS hown (hts _ hlink) (fun _ h => h) hdg (kk locs hS)
theorem x_tlen (hx : p.tables.exec = Jvm.exec) (hb : c.code = cc) (hK : sg_K G s) (k : Nat) (hk : k < 5) (hdg : decode cc pc = .ok (.arraylength, 1))
    (kk : xV p l e R s m args below meth c G H cells slots Q (F0 m (pc + 1) ls (.int (nI (sg_len k)) :: rest))) : xV p l e R s m args below meth c G H cells slots Q (F0 m pc ls (.ref (sg_A G k) :: rest)) := fun locs hS => by
  obtain ⟨cell, h1, h2, h3, h4, h5, h6, h7⟩ := (hK.2.2 k hk).2
  exact W.alen (n := nI (sg_len k)) hx hb (by rw [hS.2.1 _ (Array.getElem?_eq_some_iff.mp h1).1 h7]; exact h1) h2 h5 rfl rfl hdg (kk locs hS)
theorem x_tald (hx : p.tables.exec = Jvm.exec) (hb : c.code = cc) (hK : sg_K G s) (k : Nat) (hk : k < 5) {i : Int32} (j : Nat) (hi : i = nI j) (hj : j < sg_len k) (hn : sg_len k < 2 ^ 31) (hdg : decode cc pc = .ok (.iaload, 1))
    (kk : xV p l e R s m args below meth c G H cells slots Q (F0 m (pc + 1) ls (.int (sg_tab k j) :: rest))) : xV p l e R s m args below meth c G H cells slots Q (F0 m pc ls (.int i :: .ref (sg_A G k) :: rest)) := fun locs hS => by
  subst hi
  exact va_ti hx hb (hK.2.2 k hk).2 hS (vp_in_nI hj hn) (by rw [nI_clamp (by omega)]) hdg (kk locs hS)
end BASE
/-! CONTRACTS over a heap H: the facts about H are hypotheses of the contract's theorem, not of its start -/
def xR (lv mc ms : Nat) : Room := { frames := lv, cells := mc, slots := ms, locals := 40 * lv }
def xQ (G : sg_G) (H : Heap) (Post : Option Value → Heap → Prop) : Array Value → State → Outcome → State → Prop := fun _ _ o t => ∃ v, o = .returned v ∧ Post v t.heap ∧ H.size ≤ t.heap.size ∧ ∀ q, q < sg_B G → t.heap[q]? = H[q]?
def xP (G : sg_G) (H : Heap) (U : State) : Prop := U.heap = H ∧ sg_K G U ∧ sg_B G ≤ H.size
def xC (l : Launch) (G : sg_G) (y : MethodName) (bytes : ByteArray) (maxL : Nat) (ret : Option FieldType) (lv mc ms : Nat) (As : List Value) (H : Heap) (Post : Option Value → Heap → Prop) : Prop :=
  Met l y (.code y bytes maxL ret :: xW) (xR lv mc ms) (va_Pc As (xP G H)) (xQ G H Post) mc ms (sg_fr G)
theorem xC.start {l : Launch} {G : sg_G} {y : MethodName} {bytes : ByteArray} {maxL : Nat} {ret : Option FieldType} {lv mc ms : Nat} {As : List Value} {H : Heap} {Post : Option Value → Heap → Prop} (hy : plainName y.cls = true) (hA : (lg_sl As).length ≤ maxL)
    (body : ∀ (p : Program) (e : Env) (s : State) (m : MethodId) (args : Array Value) (below : List Frame) (meth : Method) (c : Code) (ls : Array Slot), xE p s m args meth c G y.cls bytes maxL ret → meth.name = y.name → s.heap = H → lv_has ls maxL (lv_args 0 As) → xV p l e (xR lv mc ms) s m args below meth c G H 0 0 (MQ below (xQ G H Post) args s mc ms (sg_fr G)) (F0 m 0 ls [])) : xC l G y bytes maxL ret lv mc ms As H Post := by
  refine Met.ofW (cc := bytes) (maxL := maxL) (ret := ret) hy rfl ?_
  intro p e s m args below meth c s₁ B hml hv
  obtain ⟨rfl, hh, hK, hsz⟩ := hv
  have hts := atoms_spec (ws := .code y bytes maxL ret :: xW) B.pre
  have hl := lv_entry As (n := maxL) hA
  rw [lg_entry_eq]
  subst hh
  exact body p e s m _ below meth c _ ⟨B.exec, B.bytes, hml, findClass_of_methodNamed B.named, fun w h => hts w (List.mem_cons_of_mem _ h), B.returns, B.notSynchronized, hK, hsz⟩ (name_of_methodNamed B.named B.method).1 rfl hl [] va_S.rf
section RET
variable {p : Program} {l : Launch} {e : Env} {R : Room} {s : State} {m : MethodId} {args : Array Value} {below : List Frame} {meth : Method} {c : Code} {H H0 : Heap} {cells slots mc ms : Nat}
variable {G : sg_G} {cc : ByteArray} {pc : Nat} {ls : Array Slot} {Post : Option Value → Heap → Prop}
theorem x_post {locs : List Loc} {v : Option Value} (hs0 : s.heap = H0) (hbs : sg_B G ≤ s.heap.size) (hS : va_S (sg_fr G) s.heap H locs) (hp : Post v H) (t : State) (ht : t.heap = H) (a : Array Value) : xQ G H0 Post a s (.returned v) t := by
  subst hs0
  refine ⟨v, rfl, by rw [ht]; exact hp, by rw [ht]; exact hS.1, fun q hq => ?_⟩
  rw [ht]
  exact hS.2.1 q (Nat.lt_of_lt_of_le hq hbs) (Nat.not_le.mpr hq)
theorem x_iret (hx : p.tables.exec = Jvm.exec) (hb : c.code = cc) (hr : meth.sig.returnType = some .int) (hlocks : meth.locks = false) (hs0 : s.heap = H0) (hbs : sg_B G ≤ s.heap.size) {v : Int32} (hc : cells ≤ mc) (hs : slots ≤ ms) (hdg : decode cc pc = .ok (.ireturn, 1)) (hp : Post (some (.int v)) H) :
    xV p l e R s m args below meth c G H cells slots (MQ below (xQ G H0 Post) args s mc ms (sg_fr G)) (F0 m pc ls [.int v]) := fun locs hS =>
  W.widen hc hs (W.iret hx hb hr (fun t ht _ => x_post hs0 hbs hS hp t ht _) hS.2.2 hdg)
theorem x_zret (hx : p.tables.exec = Jvm.exec) (hb : c.code = cc) (hr : meth.sig.returnType = some .boolean) (hlocks : meth.locks = false) (hs0 : s.heap = H0) (hbs : sg_B G ≤ s.heap.size) {v : Int32} (hv : v &&& 1 = v) (hc : cells ≤ mc) (hs : slots ≤ ms) (hdg : decode cc pc = .ok (.ireturn, 1)) (hp : Post (some (.int v)) H) :
    xV p l e R s m args below meth c G H cells slots (MQ below (xQ G H0 Post) args s mc ms (sg_fr G)) (F0 m pc ls [.int v]) := fun locs hS =>
  W.widen hc hs (W.zret hx hb hr (by show Value.int (v &&& 1) = _; rw [hv]) (fun t ht _ => x_post hs0 hbs hS hp t ht _) hS.2.2 hdg)
theorem x_vret (hx : p.tables.exec = Jvm.exec) (hb : c.code = cc) (hr : meth.sig.returnType = none) (hlocks : meth.locks = false) (hs0 : s.heap = H0) (hbs : sg_B G ≤ s.heap.size) (hc : cells ≤ mc) (hs : slots ≤ ms) (hdg : decode cc pc = .ok (.return_, 1)) (hp : Post none H) :
    xV p l e R s m args below meth c G H cells slots (MQ below (xQ G H0 Post) args s mc ms (sg_fr G)) (F0 m pc ls []) := fun locs hS =>
  W.widen hc hs (W.vret hx hb hr (fun t ht _ => x_post hs0 hbs hS hp t ht _) hS.2.2 hdg)
theorem x_aret (hx : p.tables.exec = Jvm.exec) (hb : c.code = cc) {C : String} (hr : meth.sig.returnType = some (.object C)) (hlocks : meth.locks = false) (hs0 : s.heap = H0) (hbs : sg_B G ≤ s.heap.size) {v : Value} (hv : v = .null ∨ ∃ a, v = .ref a) (hc : cells ≤ mc) (hs : slots ≤ ms) (hdg : decode cc pc = .ok (.areturn, 1)) (hp : Post (some v) H) :
    xV p l e R s m args below meth c G H cells slots (MQ below (xQ G H0 Post) args s mc ms (sg_fr G)) (F0 m pc ls [v]) := fun locs hS =>
  W.widen hc hs (W.aret hx hb hr (Or.inl ⟨C, rfl⟩) hv (fun t ht _ => x_post hs0 hbs hS hp t ht _) hS.2.2 hdg)
end RET
section CALLS
variable {p : Program} {l : Launch} {e : Env} {R : Room} {s : State} {m : MethodId} {args : Array Value} {below : List Frame} {meth : Method} {c : Code} {H : Heap} {cells slots : Nat} {Q : State → Prop}
variable {G : sg_G} {cc : ByteArray} {pc : Nat} {ls : Array Slot} {rest st0 : List Value} {Post : Option Value → Heap → Prop}
variable {y : MethodName} {bytes : ByteArray} {maxL nL lv mc ms index : Nat} {ret : Option FieldType} {own : String} {As : List Value} {b : Nat} {ret0 : Option FieldType} {lvs : List (Nat × Value)}
/-- the words that a call needs, of its method -/
def xM (y : MethodName) (bytes : ByteArray) (maxL : Nat) (ret : Option FieldType) (n : Nat) : Prop :=
  Cond.code y bytes maxL ret ∈ xW ∧ Cond.initialized y.cls ∈ xW ∧ (y.cls ≠ "java/lang/invoke/MethodHandle" ∧ y.cls ≠ "java/lang/invoke/VarHandle" ∧ (parseMethodDescriptor y.desc).map (fun d => d.parameters.length) = some n)
theorem x_good (h : Cond.code y bytes maxL ret ∈ xW) : GoodIn xW (.code y bytes maxL ret :: xW) := by
  intro w hw
  rcases List.mem_cons.mp hw with rfl | hw
  · exact ⟨h, Or.inl rfl⟩
  · exact ⟨hw, good_of_word (List.mem_filter.mp hw).2⟩
theorem x_blind {Bs : List Value} : FrameBlind (va_Pc Bs (xP G H)) := by
  intro a U g mk q
  obtain ⟨q0, q1, q2, q3⟩ := q
  exact ⟨q0, q1, sg_K.moved (u := U) (U := U.calling g mk a) (Vm.Alike.refl U.vm) (fun _ _ => rfl) q2, q3⟩
theorem x_pre {Bs : List Value} {locs : List Loc} (hK : sg_K G s) (hbs : sg_B G ≤ s.heap.size) (hS : va_S (sg_fr G) s.heap H locs) (U : State) (hU : U.heap = H) (hW : s.WarmedH U.vm) : va_Pc Bs (xP G H) Bs.toArray U :=
  ⟨rfl, hU, sg_K.moved hW.alike (fun q hq => by rw [hU]; exact hS.2.1 q (Nat.lt_of_lt_of_le hq hbs) (Nat.not_le.mpr hq)) hK, Nat.le_trans hbs hS.1⟩
theorem x_go {ar : Array Value} (hbs : sg_B G ≤ s.heap.size) (hr : ∀ locs, va_S (sg_fr G) s.heap H locs → va_Run p l e R s m args below meth c H locs cells slots mc ms (F0 m pc ls st0) rest (xQ G H Post ar) (sg_fr G))
    (kk : ∀ (v : Option Value) (H1 : Heap), Post v H1 → H.size ≤ H1.size → (∀ q, q < sg_B G → H1[q]? = H[q]?) → xV p l e R s m args below meth c G H1 (cells + mc) (slots + ms) Q (F0 m (pc + 3) ls (v.toList ++ rest))) : xV p l e R s m args below meth c G H cells slots Q (F0 m pc ls st0) := by
  intro locs hS T hT X
  obtain ⟨v, st₀, t, T', L, h0, X', hL, e1, e2, ⟨v', hv, hp, hz, hk⟩, st⟩ := hr locs hS T hT X
  cases hv
  have hS1 : va_S (sg_fr G) s.heap T'.heap (locs ++ L) := by
    refine ⟨by rw [e1]; exact Nat.le_trans hS.1 hz, fun q h1 h2 => ?_, fun q hq => ?_⟩
    · rw [e1, hk q (Nat.not_le.mp h2)]
      exact hS.2.1 q h1 h2
    · rcases List.mem_append.mp hq with h | h
      · exact hS.2.2 q h
      · exact hL q h
  obtain ⟨t2, a1, b1⟩ := kk v T'.heap (by rw [e1]; exact hp) (by rw [e1]; exact hz) (fun q hq => by rw [e1]; exact hk q hq) (locs ++ L) hS1 T' rfl X'
  exact ⟨t2, st t2 a1, b1⟩
theorem x_callV (E : xE p s m args meth c G own cc nL ret0) (hl : lv_has ls nL lvs) (hM : xC l G y bytes maxL ret lv mc ms (.ref b :: As) H Post) (hm : xM y bytes maxL ret As.length) (hlk : Cond.methodLink own index y ∈ xW) (hin : Cond.instanceMethod y ∈ xW) (hse : Cond.selects y.cls y y ∈ xW) {ci : Nat} {fs : List Value} {q : vw_C} (hc : vwCl[ci]? = some q) (hq : q.1 = y.cls) (hob : ob_ G H b ci fs)
    (hst : st0 = As.reverse ++ .ref b :: rest) (hW : (rest.map fun v => v.category).sum ≤ 8) (hR : lv + 1 ≤ R.frames ∧ 8 + (maxL + 11) + 40 * lv ≤ R.locals) (hf : cells + mc ≤ R.cells ∧ slots + ms ≤ R.slots) (hdg : decode cc pc = .ok (.invokevirtual index, 3))
    (kk : ∀ (v : Option Value) (H1 : Heap), Post v H1 → H.size ≤ H1.size → (∀ q, q < sg_B G → H1[q]? = H[q]?) → xV p l e R s m args below meth c G H1 (cells + mc) (slots + ms) Q (F0 m (pc + 3) ls (v.toList ++ rest))) : xV p l e R s m args below meth c G H cells slots Q (F0 m pc ls st0) := by
  obtain ⟨hx, hb, hml, hown, hts, hr, hlocks, hK, hbs⟩ := E
  refine x_go (ar := (Value.ref b :: As).toArray) hbs (fun locs hS => ?_) kk
  refine va_runV ⟨hx, hb, hml, hown, hts⟩ hM ⟨callB_of As.length hts (x_good hm.1) rfl rfl rfl (hts _ hm.2.1) (hts _ hlk) hm.2.2 hR, hts _ hin, hts _ hse⟩ ⟨x_blind, ?_, fun U hU hW => x_pre hK hbs hS U hU hW⟩ rfl rfl hl.1 hst (lv_room hW) hdg hf
  rw [← hq]
  exact va_recv hK.1 (x_one hob) hc (q0 := 0) rfl
theorem x_callS (E : xE p s m args meth c G own cc nL ret0) (hl : lv_has ls nL lvs) (hM : xC l G y bytes maxL ret lv mc ms As H Post) (hm : xM y bytes maxL ret As.length) (hlk : Cond.methodLink own index y ∈ xW) (hstt : Cond.static y ∈ xW)
    (hst : st0 = As.reverse ++ rest) (hW : (rest.map fun v => v.category).sum ≤ 8) (hR : lv + 1 ≤ R.frames ∧ 8 + (maxL + 11) + 40 * lv ≤ R.locals) (hf : cells + mc ≤ R.cells ∧ slots + ms ≤ R.slots) (hdg : decode cc pc = .ok (.invokestatic index, 3))
    (kk : ∀ (v : Option Value) (H1 : Heap), Post v H1 → H.size ≤ H1.size → (∀ q, q < sg_B G → H1[q]? = H[q]?) → xV p l e R s m args below meth c G H1 (cells + mc) (slots + ms) Q (F0 m (pc + 3) ls (v.toList ++ rest))) : xV p l e R s m args below meth c G H cells slots Q (F0 m pc ls st0) := by
  obtain ⟨hx, hb, hml, hown, hts, hr, hlocks, hK, hbs⟩ := E
  refine x_go (ar := As.toArray) hbs (fun locs hS => ?_) kk
  exact va_runS ⟨hx, hb, hml, hown, hts⟩ hM ⟨callB_of As.length hts (x_good hm.1) rfl rfl rfl (hts _ hm.2.1) (hts _ hlk) hm.2.2 hR, hts _ hstt⟩ ⟨x_blind, fun U hU hW => x_pre hK hbs hS U hU hW⟩ rfl rfl hl.1 hst (lv_room hW) hdg hf
theorem x_callI (E : xE p s m args meth c G own cc nL ret0) (hl : lv_has ls nL lvs) (hM : xC l G y bytes maxL none lv mc ms (.ref b :: As) H Post) (hm : xM y bytes maxL none As.length) (hy1 : y.name = "<init>") (hlk : Cond.methodLink own index y ∈ xW) (hin : Cond.instanceMethod y ∈ xW)
    (hst : st0 = As.reverse ++ .ref b :: rest) (hW : (rest.map fun v => v.category).sum ≤ 8) (hR : lv + 1 ≤ R.frames ∧ 8 + (maxL + 11) + 40 * lv ≤ R.locals) (hf : cells + mc ≤ R.cells ∧ slots + ms ≤ R.slots) (hdg : decode cc pc = .ok (.invokespecial index, 3))
    (kk : ∀ (v : Option Value) (H1 : Heap), Post v H1 → H.size ≤ H1.size → (∀ q, q < sg_B G → H1[q]? = H[q]?) → xV p l e R s m args below meth c G H1 (cells + mc) (slots + ms) Q (F0 m (pc + 3) ls (v.toList ++ rest))) : xV p l e R s m args below meth c G H cells slots Q (F0 m pc ls st0) := by
  obtain ⟨hx, hb, hml, hown, hts, hr, hlocks, hK, hbs⟩ := E
  refine x_go (ar := (Value.ref b :: As).toArray) hbs (fun locs hS => ?_) kk
  exact va_runI ⟨hx, hb, hml, hown, hts⟩ hM ⟨callB_of As.length hts (x_good hm.1) rfl rfl rfl (hts _ hm.2.1) (hts _ hlk) hm.2.2 hR, hy1, hts _ hin⟩ ⟨x_blind, fun U hU hW => x_pre hK hbs hS U hU hW⟩ rfl rfl hl.1 hst (lv_room hW) hdg hf
/-- a method that only reads -/
abbrev xPu (r : Value) (H : Heap) : Option Value → Heap → Prop := fun v H' => v = some r ∧ H' = H
theorem x_pure {r : Value} {st1 : List Value} (kk : xV p l e R s m args below meth c G H cells slots Q (F0 m (pc + 3) ls (r :: rest))) : ∀ (v : Option Value) (H1 : Heap), xPu r H v H1 → H.size ≤ H1.size → (∀ q, q < sg_B G → H1[q]? = H[q]?) → xV p l e R s m args below meth c G H1 (cells + 0) (slots + 0) Q (F0 m (pc + 3) ls (v.toList ++ rest)) := by
  intro v H1 ⟨hv, hH⟩ _ _
  subst hv
  subst hH
  exact kk
end CALLS
