/-! A small machine for this claim: cells have places (0, 1, ..), not addresses; a step is a predicate transformer. Written by hand. -/
abbrev zH : Type := (Nat → va_E) × Nat
abbrev zLc : Type := List (Option Value)
abbrev zC : Type := Nat × zLc × List Value × zH × Nat × Nat
abbrev zP : Type := Option Value → zH → Prop
abbrev zM : Type := Nat → List Value → zH → Nat → Nat → zP → Prop
abbrev zE : Type := zM × (Nat × Nat) × (Nat × (Nat → Int32))
abbrev zI : Type := zE → zC → (zC → Prop) → zP → Prop
abbrev zCd : Type := List (Nat × List (Nat × zI))
def z_def : va_E := .inl (0, 0, .inl (fun _ => 0))
def z_tok (j : Nat) : Int32 := ([1, 0, 0, 0, 1, 3, 2, 4, 2, 5, 0, 0, 1, 4, 2, 6, 1, 3, 5, 0] : List Int32).getD j 0
def z_lk1 : List (Nat × zI) → Nat → Option zI
  | [], _ => none
  | q :: r, pc => cond (Nat.beq q.1 pc) (some q.2) (z_lk1 r pc)
def z_lk : zCd → Nat → Option zI
  | [], _ => none
  | q :: r, pc => cond (Nat.blt pc q.1) (z_lk1 q.2 pc) (z_lk r pc)
-- the instructions
def i_push (v : Int32) (n : Nat) : zI := fun _ c X _ => X (c.1 + n, c.2.1, .int v :: c.2.2.1, c.2.2.2)
def i_null : zI := fun _ c X _ => X (c.1 + 1, c.2.1, .null :: c.2.2.1, c.2.2.2)
def i_ild (i n : Nat) : zI := fun _ c X _ => match c.2.1[i]? with
  | some (some (.int v)) => X (c.1 + n, c.2.1, .int v :: c.2.2.1, c.2.2.2)
  | _ => False
def i_ald (i n : Nat) : zI := fun _ c X _ => match c.2.1[i]? with
  | some (some (.ref v)) => X (c.1 + n, c.2.1, .ref v :: c.2.2.1, c.2.2.2)
  | some (some (.retAddr v)) => X (c.1 + n, c.2.1, .retAddr v :: c.2.2.1, c.2.2.2)
  | some (some .null) => X (c.1 + n, c.2.1, .null :: c.2.2.1, c.2.2.2)
  | _ => False
def i_ist (i n : Nat) : zI := fun _ c X _ => match c.2.2.1 with
  | .int v :: r => X (c.1 + n, c.2.1.set i (some (.int v)), r, c.2.2.2)
  | _ => False
def i_ast (i n : Nat) : zI := fun _ c X _ => match c.2.2.1 with
  | .ref v :: r => X (c.1 + n, c.2.1.set i (some (.ref v)), r, c.2.2.2)
  | .null :: r => X (c.1 + n, c.2.1.set i (some .null), r, c.2.2.2)
  | _ => False
def i_inc (i : Nat) (k : Int32) : zI := fun _ c X _ => match c.2.1[i]? with
  | some (some (.int v)) => X (c.1 + 3, c.2.1.set i (some (.int (v + k))), c.2.2.1, c.2.2.2)
  | _ => False
def i_bin (f : Int32 → Int32 → Int32) : zI := fun _ c X _ => match c.2.2.1 with
  | .int y :: .int x :: r => X (c.1 + 1, c.2.1, .int (f x y) :: r, c.2.2.2)
  | _ => False
def i_div (f : Int32 → Int32 → Int32) : zI := fun _ c X _ => match c.2.2.1 with
  | .int y :: .int x :: r => ¬ y = 0 ∧ X (c.1 + 1, c.2.1, .int (f x y) :: r, c.2.2.2)
  | _ => False
def i_un (f : Int32 → Int32) : zI := fun _ c X _ => match c.2.2.1 with
  | .int x :: r => X (c.1 + 1, c.2.1, .int (f x) :: r, c.2.2.2)
  | _ => False
def i_dup : zI := fun _ c X _ => match c.2.2.1 with
  | a :: r => a.category = 1 ∧ X (c.1 + 1, c.2.1, a :: a :: r, c.2.2.2)
  | _ => False
def i_pop : zI := fun _ c X _ => match c.2.2.1 with
  | a :: r => a.category = 1 ∧ X (c.1 + 1, c.2.1, r, c.2.2.2)
  | _ => False
def i_dupx1 : zI := fun _ c X _ => match c.2.2.1 with
  | a :: b :: r => a.category = 1 ∧ b.category = 1 ∧ X (c.1 + 1, c.2.1, a :: b :: a :: r, c.2.2.2)
  | _ => False
def i_dupx2 : zI := fun _ c X _ => match c.2.2.1 with
  | a :: b :: d :: r => a.category = 1 ∧ b.category = 1 ∧ d.category = 1 ∧ X (c.1 + 1, c.2.1, a :: b :: d :: a :: r, c.2.2.2)
  | _ => False
def i_dup2 : zI := fun _ c X _ => match c.2.2.1 with
  | a :: b :: r => a.category = 1 ∧ b.category = 1 ∧ X (c.1 + 1, c.2.1, a :: b :: a :: b :: r, c.2.2.2)
  | _ => False
def i_if (f g : Int32 → Prop) (t : Nat) : zI := fun _ c X _ => match c.2.2.1 with
  | .int x :: r => (f x → X (t, c.2.1, r, c.2.2.2)) ∧ (g x → X (c.1 + 3, c.2.1, r, c.2.2.2))
  | _ => False
def i_icmp (f g : Int32 → Int32 → Prop) (t : Nat) : zI := fun _ c X _ => match c.2.2.1 with
  | .int y :: .int x :: r => (f x y → X (t, c.2.1, r, c.2.2.2)) ∧ (g x y → X (c.1 + 3, c.2.1, r, c.2.2.2))
  | _ => False
def i_nul (t : Nat) : zI := fun _ c X _ => match c.2.2.1 with
  | .null :: r => X (t, c.2.1, r, c.2.2.2)
  | .ref _ :: r => X (c.1 + 3, c.2.1, r, c.2.2.2)
  | _ => False
def i_nnl (t : Nat) : zI := fun _ c X _ => match c.2.2.1 with
  | .null :: r => X (c.1 + 3, c.2.1, r, c.2.2.2)
  | .ref _ :: r => X (t, c.2.1, r, c.2.2.2)
  | _ => False
def i_goto (t : Nat) : zI := fun _ c X _ => X (t, c.2.1, c.2.2.1, c.2.2.2)
def i_tsw (lo : Int) (ts : List Nat) (df : Nat) : zI := fun _ c X _ => match c.2.2.1 with
  | .int x :: r => (∀ (k t : Nat), ts[k]? = some t → x.toInt = lo + k → X (t, c.2.1, r, c.2.2.2)) ∧ ((x.toInt < lo ∨ lo + ts.length ≤ x.toInt) → X (df, c.2.1, r, c.2.2.2))
  | _ => False
def i_getf (ci k : Nat) : zI := fun _ c X _ => match c.2.2.1 with
  | .ref a :: r => (match c.2.2.2.1.1 a with
    | .inr o => o.1 = ci ∧ (match o.2[k]? with
      | some v => X (c.1 + 3, c.2.1, v :: r, c.2.2.2)
      | none => False)
    | _ => False)
  | _ => False
def z_fit (z : Nat) (v : Value) : Prop := match v with
  | .int x => z = 0 ∨ (z = 1 ∧ (x = 0 ∨ x = 1))
  | .ref _ => z = 2
  | .null => z = 2
  | _ => False
def i_putf (ci k z : Nat) : zI := fun _ c X _ => match c.2.2.1 with
  | v :: .ref a :: r => (match c.2.2.2.1.1 a with
    | .inr o => o.1 = ci ∧ k < o.2.length ∧ z_fit z v ∧ X (c.1 + 3, c.2.1, r, (va_up c.2.2.2.1.1 a (.inr (o.1, o.2.set k v)), c.2.2.2.1.2), c.2.2.2.2)
    | _ => False)
  | _ => False
def i_gets : zI := fun _ c X _ => X (c.1 + 3, c.2.1, .retAddr 1 :: c.2.2.1, c.2.2.2)
def i_nald (kd : Nat) : zI := fun E c X _ => match c.2.2.1 with
  | .int i :: .ref a :: r => (match c.2.2.2.1.1 a with
    | .inl (k, n, .inl f) => k = kd ∧ vp_in i n ∧ X (c.1 + 1, c.2.1, .int (f i.toNatClampNeg) :: r, c.2.2.2)
    | _ => False)
  | .int i :: .retAddr j :: r => kd = 0 ∧ ((j = 0 ∧ vp_in i E.2.2.1 ∧ X (c.1 + 1, c.2.1, .int (E.2.2.2 i.toNatClampNeg) :: r, c.2.2.2)) ∨ (j = 1 ∧ vp_in i 20 ∧ X (c.1 + 1, c.2.1, .int (z_tok i.toNatClampNeg) :: r, c.2.2.2)))
  | _ => False
def i_nast (kd : Nat) (f : Int32 → Int32) : zI := fun _ c X _ => match c.2.2.1 with
  | .int x :: .int i :: .ref a :: r => (match c.2.2.2.1.1 a with
    | .inl (k, n, .inl g) => k = kd ∧ vp_in i n ∧ X (c.1 + 1, c.2.1, r, (va_up c.2.2.2.1.1 a (.inl (k, n, .inl (upd g i.toNatClampNeg (f x)))), c.2.2.2.1.2), c.2.2.2.2)
    | _ => False)
  | _ => False
def i_aald : zI := fun _ c X _ => match c.2.2.1 with
  | .int i :: .ref a :: r => (match c.2.2.2.1.1 a with
    | .inl (k, n, .inr (.inr (.inr (.inr f)))) => k = 4 ∧ vp_in i n ∧ X (c.1 + 1, c.2.1, va_rf (f i.toNatClampNeg) :: r, c.2.2.2)
    | _ => False)
  | _ => False
def i_aast (ci : Nat) : zI := fun _ c X _ => match c.2.2.1 with
  | .ref v :: .int i :: .ref a :: r => (match c.2.2.2.1.1 a with
    | .inl (k, n, .inr (.inr (.inr (.inr f)))) => k = 4 ∧ vp_in i n ∧ (match c.2.2.2.1.1 v with
      | .inr o => o.1 = ci
      | _ => False) ∧ X (c.1 + 1, c.2.1, r, (va_up c.2.2.2.1.1 a (.inl (k, n, .inr (.inr (.inr (.inr (va_up f i.toNatClampNeg (some v))))))), c.2.2.2.1.2), c.2.2.2.2)
    | _ => False)
  | _ => False
def i_alen : zI := fun E c X _ => match c.2.2.1 with
  | .ref a :: r => (match c.2.2.2.1.1 a with
    | .inl (k, n, _) => k < 5 ∧ 0 < n ∧ X (c.1 + 1, c.2.1, .int (Int32.ofNat n) :: r, c.2.2.2)
    | _ => False)
  | .retAddr j :: r => (j = 0 ∧ X (c.1 + 1, c.2.1, .int (Int32.ofNat E.2.2.1) :: r, c.2.2.2)) ∨ (j = 1 ∧ X (c.1 + 1, c.2.1, .int 20 :: r, c.2.2.2))
  | _ => False
def i_new (ci N : Nat) (fs : List Value) : zI := fun E c X _ => c.2.2.2.2.1 + 1 ≤ E.2.1.1 ∧ c.2.2.2.2.2 + N ≤ E.2.1.2 ∧ X (c.1 + 3, c.2.1, .ref c.2.2.2.1.2 :: c.2.2.1, (va_up c.2.2.2.1.1 c.2.2.2.1.2 (.inr (ci, fs)), c.2.2.2.1.2 + 1), c.2.2.2.2.1 + 1, c.2.2.2.2.2 + N)
def i_newa (kd : Nat) : zI := fun E c X _ => match c.2.2.1 with
  | .int n :: r => ¬ n < 0 ∧ n.toNatClampNeg ≤ 65536 ∧ c.2.2.2.2.1 + 1 ≤ E.2.1.1 ∧ c.2.2.2.2.2 + n.toNatClampNeg ≤ E.2.1.2 ∧ X (c.1 + 2, c.2.1, .ref c.2.2.2.1.2 :: r, (va_up c.2.2.2.1.1 c.2.2.2.1.2 (.inl (kd, n.toNatClampNeg, .inl (fun _ => 0))), c.2.2.2.1.2 + 1), c.2.2.2.2.1 + 1, c.2.2.2.2.2 + n.toNatClampNeg)
  | _ => False
def i_newq : zI := fun E c X _ => match c.2.2.1 with
  | .int n :: r => ¬ n < 0 ∧ n.toNatClampNeg ≤ 65536 ∧ c.2.2.2.2.1 + 1 ≤ E.2.1.1 ∧ c.2.2.2.2.2 + n.toNatClampNeg ≤ E.2.1.2 ∧ X (c.1 + 3, c.2.1, .ref c.2.2.2.1.2 :: r, (va_up c.2.2.2.1.1 c.2.2.2.1.2 (.inl (4, n.toNatClampNeg, .inr (.inr (.inr (.inr (fun _ => none)))))), c.2.2.2.1.2 + 1), c.2.2.2.2.1 + 1, c.2.2.2.2.2 + n.toNatClampNeg)
  | _ => False
def z_recv (h : zH) (ci : Nat) (v : Value) : Prop := match v with
  | .ref a => (match h.1 a with
    | .inr o => o.1 = ci
    | _ => False)
  | _ => False
/-- a call; n: how many words it takes, with the receiver; the receiver stands below the others -/
def z_call (mi n : Nat) (E : zE) (c : zC) (X : zC → Prop) : Prop := n ≤ c.2.2.1.length ∧ ((c.2.2.1.drop n).map fun v => v.category).sum ≤ 8 ∧ ∃ (mc ms : Nat) (P : zP), E.1 mi (c.2.2.1.take n).reverse c.2.2.2.1 mc ms P ∧ c.2.2.2.2.1 + mc ≤ E.2.1.1 ∧ c.2.2.2.2.2 + ms ≤ E.2.1.2 ∧ ∀ (r : Option Value) (h : zH), P r h → X (c.1 + 3, c.2.1, r.toList ++ c.2.2.1.drop n, h, c.2.2.2.2.1 + mc, c.2.2.2.2.2 + ms)
def i_callV (ci mi n : Nat) : zI := fun E c X _ => (∃ v, (c.2.2.1.take (n + 1)).reverse[0]? = some v ∧ z_recv c.2.2.2.1 ci v) ∧ z_call mi (n + 1) E c X
def i_callS (mi n : Nat) : zI := fun E c X _ => z_call mi n E c X
def i_callI (mi n : Nat) : zI := fun E c X _ => (∃ a, (c.2.2.1.take (n + 1)).reverse[0]? = some (.ref a)) ∧ z_call mi (n + 1) E c X
def i_math (f : Int32 → Int32 → Int32) : zI := fun _ c X _ => match c.2.2.1 with
  | .int y :: .int x :: r => (r.map fun v => v.category).sum ≤ 8 ∧ X (c.1 + 3, c.2.1, .int (f x y) :: r, c.2.2.2)
  | _ => False
def i_oini : zI := fun _ c X _ => match c.2.2.1 with
  | .ref _ :: r => (r.map fun v => v.category).sum ≤ 8 ∧ X (c.1 + 3, c.2.1, r, c.2.2.2)
  | _ => False
def i_iret : zI := fun _ c _ Q => match c.2.2.1 with
  | [.int v] => Q (some (.int v)) c.2.2.2.1
  | _ => False
def i_zret : zI := fun _ c _ Q => match c.2.2.1 with
  | [.int v] => (v = 0 ∨ v = 1) ∧ Q (some (.int v)) c.2.2.2.1
  | _ => False
def i_aret : zI := fun _ c _ Q => match c.2.2.1 with
  | [.ref a] => Q (some (.ref a)) c.2.2.2.1
  | [.null] => Q (some .null) c.2.2.2.1
  | _ => False
def i_vret : zI := fun _ c _ Q => match c.2.2.1 with
  | [] => Q none c.2.2.2.1
  | _ => False
-- what a stretch of code does: the least thing that is closed under steps
def zS (E : zE) (cd : zCd) (Q : zP) (c : zC) : Prop := ∀ X : zC → Prop, (∀ (c' : zC) (ins : zI) (Y : zC → Prop), z_lk cd c'.1 = some ins → ins E c' Y Q → (∀ c'', Y c'' → X c'') → X c') → X c
theorem zS_one {E : zE} {cd : zCd} {Q : zP} {c : zC} {ins : zI} (hl : z_lk cd c.1 = some ins) (k : ins E c (zS E cd Q) Q) : zS E cd Q c := fun X hX => hX c ins (zS E cd Q) hl k (fun _ h => h X hX)
abbrev zR : Type := MethodName × ByteArray × Nat × Option FieldType × zCd
def zMt (tab : List zR) (sc : Nat × (Nat → Int32)) : Nat → zM
  | 0 => fun _ _ _ _ _ _ => False
  | d + 1 => fun mi as h mc ms P => ∃ r : zR, tab[mi]? = some r ∧ as.length ≤ r.2.2.1 ∧ (∀ v ∈ as, v.category = 1) ∧ zS (zMt tab sc d, (mc, ms), sc) r.2.2.2.2 P (0, as.map some ++ List.replicate (r.2.2.1 - as.length) none, [], h, 0, 0)
