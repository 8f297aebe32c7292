/-! A deep semantics of the claim's own methods over a memory of ints by handles: what a method does, as a predicate transformer, with no machine in it. Part 04 shows it sound over the machine. -/
abbrev dp_M : Type := Nat → Nat → Int32
abbrev dp_L : Type := List (Option Value)
abbrev dp_R : Type := Option Value ⊕ Nat
/-- what is made while it runs: an object (kind, fields), an array of ints (or, where the sign is true, of truth values), an array of references (to int arrays; true: to clients) -/
abbrev dp_Ce : Type := (Nat × List Value) ⊕ (Bool × Nat × (Nat → Int32)) ⊕ (Bool × Nat × (Nat → Option Nat))
/-- the cells made, by handle; a handle is 10000 and the address -/
abbrev dp_O : Type := Nat → Option dp_Ce
abbrev dp_Q : Type := dp_R → dp_M → dp_O → Prop
abbrev dp_K : Type := Nat → dp_L → List Value → Nat → Nat → Nat → dp_M → dp_O → Prop
abbrev dp_X : Type := Nat × (Nat → Int32)
abbrev dp_C : Type := Nat → List Value → Nat → dp_M → dp_O → dp_Q → Prop
def dp_up (M : dp_M) (h k : Nat) (x : Int32) : dp_M := fun a j => if a = h ∧ j = k then x else M a j
def dp_ou (o : dp_O) (h : Nat) (c : dp_Ce) : dp_O := fun a => if a = h then some c else o a
def dp_row (M : dp_M) (h : Nat) (f : Nat → Int32) : dp_M := fun a j => if a = h then f j else M a j
/-- the objects: their kind (by vwCl) and fields -/
def dp_obj (M : dp_M) : Nat → Option (Nat × List Value)
  | 0 => some (3, [.ref 1, .ref 2, .ref 3, .ref 4, .ref 5])
  | 1 => some (2, [.ref 6, .ref 7, .ref 8, .ref 9, .ref 10, .int (M 1 5)])
  | 2 => some (1, [.ref 11, .ref 12, .ref 13, .int (M 2 3)])
  | 3 => some (0, [.ref 14, .ref 15, .ref 16, .ref 17, .int (M 3 4)])
  | 4 => some (0, [.ref 18, .ref 19, .ref 20, .ref 21, .int (M 4 4)])
  | _ => none
def dp_isA (h : Nat) : Bool := !(h == 0 || h == 1 || h == 2 || h == 3 || h == 4 || h == 22 || h == 7 || h == 9 || h == 11 || h == 26 || h == 23 || h == 24 || h == 25)
def dp_len (h : Nat) : Nat :=
  if h < 27 then (if h = 5 then 5 else if h = 6 ∨ h = 23 then 40 else if h = 8 ∨ h = 14 ∨ h = 18 then 16 else if h = 10 then 20 else if h = 24 then 224 else if h = 25 then 60 else 6)
  else if h < 43 then 12 else if h < 59 then 20 else if h < 65 then 5 else if h = 65 then 224 else 60
-- readers of stacks and locals
def dp_p1 (st : List Value) (f : Value → List Value → Prop) : Prop := match st with
  | v :: r => f v r
  | _ => False
def dp_pi (st : List Value) (f : Int32 → List Value → Prop) : Prop := match st with
  | .int x :: r => f x r
  | _ => False
def dp_pj (st : List Value) (f : Int64 → List Value → Prop) : Prop := match st with
  | .long x :: r => f x r
  | _ => False
def dp_pd (st : List Value) (f : UInt64 → List Value → Prop) : Prop := match st with
  | .double x :: r => f x r
  | _ => False
def dp_pr (st : List Value) (f : Nat → List Value → Prop) : Prop := match st with
  | .ref x :: r => f x r
  | _ => False
def dp_gt : dp_L → Nat → Option Value
  | [], _ => none
  | a :: _, 0 => a
  | _ :: t, i + 1 => dp_gt t i
def dp_li (L : dp_L) (i : Nat) (f : Int32 → Prop) : Prop := match dp_gt L i with
  | some (.int x) => f x
  | _ => False
def dp_lj (L : dp_L) (i : Nat) (f : Int64 → Prop) : Prop := match dp_gt L i with
  | some (.long x) => f x
  | _ => False
def dp_ld (L : dp_L) (i : Nat) (f : UInt64 → Prop) : Prop := match dp_gt L i with
  | some (.double x) => f x
  | _ => False
def dp_lr (L : dp_L) (i : Nat) (f : Nat → Prop) : Prop := match dp_gt L i with
  | some (.ref x) => f x
  | _ => False
def dp_c2 : Option Value → Option Value
  | some (.long _) => none
  | some (.double _) => none
  | a => a
/-- store a value of one slot -/
def dp_s1 : dp_L → Nat → Value → dp_L
  | [], _, _ => []
  | _ :: t, 0, v => some v :: t
  | a :: t, 1, v => dp_c2 a :: dp_s1 t 0 v
  | a :: t, i + 2, v => a :: dp_s1 t (i + 1) v
/-- store a value of two slots -/
def dp_h0 : dp_L → dp_L
  | [] => []
  | _ :: t => none :: t
def dp_s2 : dp_L → Nat → Value → dp_L
  | [], _, _ => []
  | _ :: t, 0, v => some v :: dp_h0 t
  | a :: t, 1, v => dp_c2 a :: dp_s2 t 0 v
  | a :: t, i + 2, v => a :: dp_s2 t (i + 1) v
def dp_msk : List Bool → dp_L → dp_L
  | _, [] => []
  | [], t => t
  | b :: bs, a :: t => (if b then a else none) :: dp_msk bs t
def dp_f4 (k : Fin 4) : Nat := k.val
def dp_kI (n : Int) : Int32 := Int32.ofInt n
def dp_kB (n : Int) : Int32 := (Int8.ofInt n).toInt32
def dp_kS (n : Int) : Int32 := (Int16.ofInt n).toInt32
def dp_jt (pc : Nat) (off : Int) : Nat := ((pc : Int) + off).toNat
def dp_br (p A B : Prop) : Prop := (p → A) ∧ (¬ p → B)
def dp_lo {α : Type} : List (Nat × Nat × α) → Nat → Nat → Option α
  | [], _, _ => none
  | (a, b, x) :: t, o, i => if a = o ∧ b = i then some x else dp_lo t o i
def dp_fld (o i : Nat) : Option (Nat × Nat) := dp_lo (dp_fl.map fun e => (e.1, e.2.1, e.2.2)) o i
def dp_iv (o i : Nat) : Option (Nat × Nat × Nat × Nat × Bool × Nat × Nat) := (dp_lo dp_ml o i).map fun z => (z, dp_na z, dp_mc z, dp_ms z, dp_sta z, dp_ow z, dp_mL z)
/-- the slots of arguments -/
def dp_asz : List Value → Nat
  | [] => 0
  | .long _ :: t => dp_asz t + 2
  | .double _ :: t => dp_asz t + 2
  | _ :: t => dp_asz t + 1
def dp_nat (o i : Nat) : Option Nat := dp_lo dp_nl o i
def dp_gtv : List Value → Nat → Option Value
  | [], _ => none
  | a :: _, 0 => some a
  | _ :: t, i + 1 => dp_gtv t i
def dp_get (M : dp_M) (h : Nat) (e : Option (Nat × Nat)) (f : Value → Prop) : Prop := match e with
  | some (ci, k) => (match dp_obj M h with
    | some q => q.1 = ci ∧ (match dp_gtv q.2 k with
      | some v => f v
      | none => False)
    | none => False)
  | none => False
def dp_put (M : dp_M) (h : Nat) (e : Option (Nat × Nat)) (f : Nat → Prop) : Prop := match e with
  | some (ci, k) => (match dp_obj M h with
    | some q => q.1 = ci ∧ (match dp_gtv q.2 k with
      | some (.int _) => f k
      | _ => False)
    | none => False)
  | none => False
def dp_ald (X : dp_X) (n : Nat) (M : dp_M) (o : dp_O) (h : Nat) (i : Int32) (f : Int32 → Prop) : Prop := (h = 1000 ∧ vp_in i X.1 ∧ f (X.2 i.toNatClampNeg)) ∨ (h ≠ 1000 ∧ dp_isA h = true ∧ h < n ∧ vp_in i (dp_len h) ∧ f (M h i.toNatClampNeg)) ∨ (∃ m g, o h = some (.inr (.inl (false, m, g))) ∧ vp_in i m ∧ f (g i.toNatClampNeg))
def dp_cln' : dp_Ce → Option Nat
  | .inl _ => none
  | .inr (.inl (_, m, _)) => some m
  | .inr (.inr (_, m, _)) => some m
def dp_aln (X : dp_X) (n : Nat) (o : dp_O) (h : Nat) (f : Nat → Prop) : Prop := (h = 1000 ∧ f X.1) ∨ (h ≠ 1000 ∧ dp_isA h = true ∧ h < n ∧ f (dp_len h)) ∨ (∃ c m, o h = some c ∧ dp_cln' c = some m ∧ f m)
def dp_aal (h : Nat) (i : Int32) (f : Nat → Prop) : Prop := match h with
  | 7 => vp_in i 16 ∧ f (27 + i.toNatClampNeg)
  | 9 => vp_in i 16 ∧ f (43 + i.toNatClampNeg)
  | 11 => vp_in i 6 ∧ f (59 + i.toNatClampNeg)
  | _ => False
def dp_take : Nat → List Value → List Value → (List Value → List Value → Prop) → Prop
  | 0, st, acc, f => f acc st
  | _ + 1, [], _, _ => False
  | k + 1, v :: st, acc, f => dp_take k st (v :: acc) f
def dp_hdl (y : Nat) (Q : dp_Q) (E c q : Nat) (M : dp_M) (o : dp_O) : Prop := Q (.inr E) M o ∧ c ≤ dp_mc y ∧ q ≤ dp_ms y
/-- behind a call -/
def dp_aft (y : Nat) (Q : dp_Q) (K : dp_K) (pc : Nat) (L : dp_L) (r : List Value) (n c q : Nat) : dp_Q := fun res M o => match res with
  | .inl none => K (pc + 3) L r n c q M o
  | .inl (some v) => K (pc + 3) L (v :: r) n c q M o
  | .inr E => dp_hdl y Q E c q M o
/-- the receiver of a call -/
def dp_rcv (n : Nat) (M : dp_M) (o : dp_O) (as : List Value) (w : Nat) : Prop := match as with
  | .ref h :: _ => (h < n ∧ (match dp_obj M h with
    | some q => q.1 = w
    | none => False)) ∨ (∃ fs, o h = some (.inl (w, fs)))
  | _ => False
/-- no constructor -/
def dp_nin (z : Nat) : Bool := !(z == 59 || z == 60)
/-- locals of the methods with many -/
def dp_xl (y : Nat) : Nat := if y = 77 then 38 else if y = 76 then 7 else 0
def dp_inv (call : dp_C) (y : Nat) (Q : dp_Q) (K : dp_K) (pc : Nat) (L : dp_L) (st : List Value) (n c q : Nat) (M : dp_M) (o : dp_O) (s : Bool) : Option (Nat × Nat × Nat × Nat × Bool × Nat × Nat) → Prop
  | some (z, na, mc, ms, sta, ow, mL) => dp_take na st [] fun as r => sta = s ∧ 65 ≤ n ∧ dp_asz as ≤ mL ∧ mL + dp_xl z ≤ 11 + dp_xl y ∧ r.length ≤ 4 ∧ c + mc ≤ dp_mc y ∧ q + ms ≤ dp_ms y ∧ (s = true ∨ (dp_rcv n M o as ow ∧ dp_nin z = true)) ∧ call z as n M o (dp_aft y Q K pc L r n (c + mc) (q + ms))
  | none => False
/-- a constructor's call -/
def dp_ins (call : dp_C) (y : Nat) (Q : dp_Q) (K : dp_K) (pc : Nat) (L : dp_L) (st : List Value) (n c q : Nat) (M : dp_M) (o : dp_O) : Option (Nat × Nat × Nat × Nat × Bool × Nat × Nat) → Prop
  | some (z, na, mc, ms, _, ow, mL) => dp_take na st [] fun as r => (z = 59 ∨ z = 60) ∧ 65 ≤ n ∧ dp_asz as ≤ mL ∧ mL + dp_xl z ≤ 11 + dp_xl y ∧ r.length ≤ 4 ∧ c + mc ≤ dp_mc y ∧ q + ms ≤ dp_ms y ∧ dp_rcv n M o as ow ∧ call z as n M o (dp_aft y Q K pc L r n (c + mc) (q + ms))
  | none => False
/-- the call of a nest mate's private constructor -/
def dp_ivN (o i : Nat) : Option (Nat × Nat × Nat × Nat × Bool × Nat × Nat) := if o = 6 ∧ i = 48 then some (59, dp_na 59, dp_mc 59, dp_ms 59, dp_sta 59, dp_ow 59, dp_mL 59) else none
def dp_cpyr (n : Nat) (M : dp_M) (h1 h2 : Nat) (sp dp k : Int32) (P : Prop) : Prop := dp_isA h1 = true ∧ dp_isA h2 = true ∧ h1 < n ∧ h2 < n ∧ ¬ sp < 0 ∧ ¬ dp < 0 ∧ ¬ k < 0 ∧ sp.toNatClampNeg + k.toNatClampNeg ≤ dp_len h1 ∧ dp.toNatClampNeg + k.toNatClampNeg ≤ dp_len h2 ∧ P
def dp_natw (y : Nat) (K : dp_K) (pc : Nat) (L : dp_L) (st : List Value) (n c q : Nat) (M : dp_M) (o : dp_O) : Option Nat → Prop
  | some 200 => dp_pi st fun b r => dp_pi r fun a r => r.length ≤ 4 ∧ c ≤ dp_mc y ∧ q ≤ dp_ms y ∧ K (pc + 3) L (.int (if b < a then b else a) :: r) n c q M o
  | some 201 => dp_pi st fun b r => dp_pi r fun a r => r.length ≤ 4 ∧ c ≤ dp_mc y ∧ q ≤ dp_ms y ∧ K (pc + 3) L (.int (if a < b then b else a) :: r) n c q M o
  | some 202 => dp_pi st fun k r => dp_pi r fun dp r => dp_pr r fun h2 r => dp_pi r fun sp r => dp_pr r fun h1 r => r.length ≤ 4 ∧ dp_cpyr n M h1 h2 sp dp k (K (pc + 3) L r n c q (dp_row M h2 (va_cpy (M h1) (M h2) sp.toNatClampNeg dp.toNatClampNeg k.toNatClampNeg)) o)
  | _ => False
def dp_ts (x : Int32) : Int → List Int → (Int → Prop) → Prop
  | _, [], _ => True
  | lo, o :: t, F => (x.toInt = lo → F o) ∧ dp_ts x (lo + 1) t F
def dp_thr (d y : Nat) (Q : dp_Q) (st : List Value) (c q : Nat) (M : dp_M) (o : dp_O) (E : Nat) : Prop := 6 ≤ d ∧ st.length ≤ 4 ∧ c + 1 ≤ dp_mc y ∧ q + 6 ≤ dp_ms y ∧ Q (.inr E) M o
def dp_new (i : Nat) (f : Nat → Prop) : Prop := match i with
  | 197 => f 0
  | 54 => f 1
  | 81 => f 2
  | _ => False
/-- classes made by the law: kind, by owner and index -/
def dp_nw (o i : Nat) : Option Nat := if o = 6 ∧ i = 10 then some 5 else if o = 6 ∧ i = 46 then some 4 else none
def dp_df : Nat → List Value
  | 4 => [.int 0, .int 0, .int 0, .null, .null]
  | _ => [.null, .null, .null, .null, .int 0]
/-- arrays of references made: false of int arrays, true of clients -/
def dp_an (o i : Nat) : Option Bool := if o = 6 ∧ i = 34 then some false else if o = 6 ∧ i = 46 then some true else if o = 5 ∧ i = 13 then some false else if o = 5 ∧ i = 21 then some true else none
/-- fields of ints -/
def dp_ft : Nat → Nat → Bool
  | 4, k => decide (k < 3)
  | _, k => decide (k = 4)
def dp_fv (b : Bool) (v : Value) : Prop := match v with
  | .int _ => b = true
  | .ref _ => b = false
  | _ => False
def dp_nty (t : ArrayType) : Option Bool := match t with
  | .int => some false
  | .boolean => some true
  | _ => none
/-- what may stand in an array of references -/
def dp_el (o : dp_O) (b : Bool) (v : Nat) : Prop := (b = false ∧ ∃ m g, o v = some (.inr (.inl (false, m, g)))) ∨ (b = true ∧ ∃ fs, o v = some (.inl (4, fs)))
def dp_rz (k : Nat) (x : Int32) : Prop := match k with
  | 1 => True
  | 4 => x = 0 ∨ x = 1
  | _ => False
def dp_opt {α : Type} (e : Option α) (f : α → Prop) : Prop := match e with
  | some v => f v
  | none => False
/-- one instruction -/
def dp_wp (X : dp_X) (call : dp_C) (d y : Nat) (Q : dp_Q) (K : dp_K) (pc : Nat) (L : dp_L) (st : List Value) (n c q : Nat) (M : dp_M) (o : dp_O) : Jvm.ClassFile.Instr → Prop
  | .aload_n k => dp_lr L (dp_f4 k) fun h => K (pc + 1) L (.ref h :: st) n c q M o
  | .aload k => dp_lr L k fun h => K (pc + 2) L (.ref h :: st) n c q M o
  | .iload_n k => dp_li L (dp_f4 k) fun x => K (pc + 1) L (.int x :: st) n c q M o
  | .iload k => dp_li L k fun x => K (pc + 2) L (.int x :: st) n c q M o
  | .lload_n k => dp_lj L (dp_f4 k) fun x => K (pc + 1) L (.long x :: st) n c q M o
  | .lload k => dp_lj L k fun x => K (pc + 2) L (.long x :: st) n c q M o
  | .dload k => dp_ld L k fun x => K (pc + 2) L (.double x :: st) n c q M o
  | .iconst v => K (pc + 1) L (.int (dp_kI v) :: st) n c q M o
  | .bipush v => K (pc + 2) L (.int (dp_kB v) :: st) n c q M o
  | .sipush v => K (pc + 3) L (.int (dp_kS v) :: st) n c q M o
  | .ldc i => dp_opt (dp_lo dp_ci (dp_ow y) i) fun v => K (pc + 2) L (.int v :: st) n c q M o
  | .ldc_w i => dp_opt (dp_lo dp_ci (dp_ow y) i) fun v => K (pc + 3) L (.int v :: st) n c q M o
  | .dconst v => v = 0 ∧ K (pc + 1) L (.double FP.dconst0 :: st) n c q M o
  | .istore_n k => dp_pi st fun x r => K (pc + 1) (dp_s1 L (dp_f4 k) (.int x)) r n c q M o
  | .istore k => dp_pi st fun x r => K (pc + 2) (dp_s1 L k (.int x)) r n c q M o
  | .lstore_n k => dp_pj st fun x r => K (pc + 1) (dp_s2 L (dp_f4 k) (.long x)) r n c q M o
  | .lstore k => dp_pj st fun x r => K (pc + 2) (dp_s2 L k (.long x)) r n c q M o
  | .dstore k => dp_pd st fun x r => K (pc + 2) (dp_s2 L k (.double x)) r n c q M o
  | .astore_n k => dp_pr st fun x r => K (pc + 1) (dp_s1 L (dp_f4 k) (.ref x)) r n c q M o
  | .astore k => dp_pr st fun x r => K (pc + 2) (dp_s1 L k (.ref x)) r n c q M o
  | .iinc i v => dp_li L i fun x => K (pc + 3) (dp_s1 L i (.int (x + dp_kI v))) st n c q M o
  | .iadd => dp_pi st fun b r => dp_pi r fun a r => K (pc + 1) L (.int (a + b) :: r) n c q M o
  | .isub => dp_pi st fun b r => dp_pi r fun a r => K (pc + 1) L (.int (a - b) :: r) n c q M o
  | .irem => dp_pi st fun b r => dp_pi r fun a r => ¬ b = 0 ∧ K (pc + 1) L (.int (a - a / b * b) :: r) n c q M o
  | .imul => dp_pi st fun b r => dp_pi r fun a r => K (pc + 1) L (.int (a * b) :: r) n c q M o
  | .idiv => dp_pi st fun b r => dp_pi r fun a r => ¬ b = 0 ∧ K (pc + 1) L (.int (a / b) :: r) n c q M o
  | .iand => dp_pi st fun b r => dp_pi r fun a r => K (pc + 1) L (.int (a &&& b) :: r) n c q M o
  | .ior => dp_pi st fun b r => dp_pi r fun a r => K (pc + 1) L (.int (a ||| b) :: r) n c q M o
  | .ishl => dp_pi st fun b r => dp_pi r fun a r => K (pc + 1) L (.int (a <<< (b &&& 31)) :: r) n c q M o
  | .ishr => dp_pi st fun b r => dp_pi r fun a r => K (pc + 1) L (.int (a >>> (b &&& 31)) :: r) n c q M o
  | .iushr => dp_pi st fun b r => dp_pi r fun a r => K (pc + 1) L (.int (a.toUInt32 >>> (b.toUInt32 &&& Int32.toUInt32 31)).toInt32 :: r) n c q M o
  | .i2l => dp_pi st fun a r => K (pc + 1) L (.long a.toInt64 :: r) n c q M o
  | .i2d => dp_pi st fun a r => K (pc + 1) L (.double (FP.i2d a) :: r) n c q M o
  | .ladd => dp_pj st fun b r => dp_pj r fun a r => K (pc + 1) L (.long (a + b) :: r) n c q M o
  | .lmul => dp_pj st fun b r => dp_pj r fun a r => K (pc + 1) L (.long (a * b) :: r) n c q M o
  | .lcmp => dp_pj st fun b r => dp_pj r fun a r => K (pc + 1) L (.int (lg_cmp a b) :: r) n c q M o
  | .ddiv => dp_pd st fun b r => dp_pd r fun a r => vf_n64 (FP.ddiv a b) ∧ K (pc + 1) L (.double (FP.ddiv a b) :: r) n c q M o
  | .dcmp e => dp_pd st fun b r => dp_pd r fun a r => K (pc + 1) L (.int (Op.cmpValue (FP.dcmp a b) e) :: r) n c q M o
  | .ifCond .eq off => dp_pi st fun x r => dp_br (x = 0) (K (dp_jt pc off) L r n c q M o) (K (pc + 3) L r n c q M o)
  | .ifCond .ne off => dp_pi st fun x r => dp_br (x = 0) (K (pc + 3) L r n c q M o) (K (dp_jt pc off) L r n c q M o)
  | .ifCond .lt off => dp_pi st fun x r => dp_br (x < 0) (K (dp_jt pc off) L r n c q M o) (K (pc + 3) L r n c q M o)
  | .ifCond .ge off => dp_pi st fun x r => dp_br (x < 0) (K (pc + 3) L r n c q M o) (K (dp_jt pc off) L r n c q M o)
  | .ifCond .gt off => dp_pi st fun x r => dp_br (0 < x) (K (dp_jt pc off) L r n c q M o) (K (pc + 3) L r n c q M o)
  | .ifCond .le off => dp_pi st fun x r => dp_br (0 < x) (K (pc + 3) L r n c q M o) (K (dp_jt pc off) L r n c q M o)
  | .if_icmp .eq off => dp_pi st fun b r => dp_pi r fun a r => dp_br (a = b) (K (dp_jt pc off) L r n c q M o) (K (pc + 3) L r n c q M o)
  | .if_icmp .ne off => dp_pi st fun b r => dp_pi r fun a r => dp_br (a = b) (K (pc + 3) L r n c q M o) (K (dp_jt pc off) L r n c q M o)
  | .if_icmp .lt off => dp_pi st fun b r => dp_pi r fun a r => dp_br (a < b) (K (dp_jt pc off) L r n c q M o) (K (pc + 3) L r n c q M o)
  | .if_icmp .ge off => dp_pi st fun b r => dp_pi r fun a r => dp_br (a < b) (K (pc + 3) L r n c q M o) (K (dp_jt pc off) L r n c q M o)
  | .if_icmp .gt off => dp_pi st fun b r => dp_pi r fun a r => dp_br (b < a) (K (dp_jt pc off) L r n c q M o) (K (pc + 3) L r n c q M o)
  | .if_icmp .le off => dp_pi st fun b r => dp_pi r fun a r => dp_br (b < a) (K (pc + 3) L r n c q M o) (K (dp_jt pc off) L r n c q M o)
  | .goto off => K (dp_jt pc off) L st n c q M o
  | .tableswitch dflt lo hi offs => dp_pi st fun x r => (x.toInt < lo ∨ hi < x.toInt → K (dp_jt pc dflt) L r n c q M o) ∧ dp_ts x lo offs.toList fun off => K (dp_jt pc off) L r n c q M o
  | .getfield i => dp_pr st fun h r => (h < n ∧ dp_get M h (dp_fld (dp_ow y) i) fun v => K (pc + 3) L (v :: r) n c q M o) ∨ (∃ ci k fs v, dp_fld (dp_ow y) i = some (ci, k) ∧ o h = some (.inl (ci, fs)) ∧ dp_gtv fs k = some v ∧ K (pc + 3) L (v :: r) n c q M o)
  | .putfield i => (dp_pi st fun x r => dp_pr r fun h r => h < n ∧ dp_put M h (dp_fld (dp_ow y) i) fun k => K (pc + 3) L r n c q (dp_up M h k x) o) ∨ (dp_p1 st fun v r => dp_pr r fun h r => ∃ ci k fs, dp_fld (dp_ow y) i = some (ci, k) ∧ (ci = 4 ∨ ci = 5) ∧ o h = some (.inl (ci, fs)) ∧ k < fs.length ∧ dp_fv (dp_ft ci k) v ∧ K (pc + 3) L r n c q M (dp_ou o h (.inl (ci, fs.set k v))))
  | .iaload => dp_pi st fun i r => dp_pr r fun h r => dp_ald X n M o h i fun x => K (pc + 1) L (.int x :: r) n c q M o
  | .iastore => dp_pi st fun x r => dp_pi r fun i r => dp_pr r fun h r => (dp_isA h = true ∧ h < n ∧ vp_in i (dp_len h) ∧ K (pc + 1) L r n c q (dp_up M h i.toNatClampNeg x) o) ∨ (∃ m g, o h = some (.inr (.inl (false, m, g))) ∧ vp_in i m ∧ K (pc + 1) L r n c q M (dp_ou o h (.inr (.inl (false, m, upd g i.toNatClampNeg x)))))
  | .baload => dp_pi st fun i r => dp_pr r fun h r => ∃ m g, o h = some (.inr (.inl (true, m, g))) ∧ vp_in i m ∧ K (pc + 1) L (.int (g i.toNatClampNeg) :: r) n c q M o
  | .bastore => dp_pi st fun x r => dp_pi r fun i r => dp_pr r fun h r => ∃ m g, o h = some (.inr (.inl (true, m, g))) ∧ vp_in i m ∧ K (pc + 1) L r n c q M (dp_ou o h (.inr (.inl (true, m, upd g i.toNatClampNeg (vp_nar .boolean x)))))
  | .aastore => dp_pr st fun v r => dp_pi r fun i r => dp_pr r fun h r => ∃ b m g, o h = some (.inr (.inr (b, m, g))) ∧ vp_in i m ∧ dp_el o b v ∧ K (pc + 1) L r n c q M (dp_ou o h (.inr (.inr (b, m, fun j => if j = i.toNatClampNeg then some v else g j))))
  | .newarray ty => dp_pi st fun k r => dp_opt (dp_nty ty) fun b => ¬ k < 0 ∧ k.toNatClampNeg ≤ 1000 ∧ c + 1 ≤ dp_mc y ∧ q + k.toNatClampNeg ≤ dp_ms y ∧ ∀ a : Nat, o (10000 + a) = none → K (pc + 2) L (.ref (10000 + a) :: r) n (c + 1) (q + k.toNatClampNeg) M (dp_ou o (10000 + a) (.inr (.inl (b, k.toNatClampNeg, fun _ => 0))))
  | .anewarray i => dp_pi st fun k r => dp_opt (dp_an (dp_ow y) i) fun b => ¬ k < 0 ∧ k.toNatClampNeg ≤ 1000 ∧ c + 1 ≤ dp_mc y ∧ q + k.toNatClampNeg ≤ dp_ms y ∧ ∀ a : Nat, o (10000 + a) = none → K (pc + 3) L (.ref (10000 + a) :: r) n (c + 1) (q + k.toNatClampNeg) M (dp_ou o (10000 + a) (.inr (.inr (b, k.toNatClampNeg, fun _ => none))))
  | .ifnonnull off => dp_pr st fun _ r => K (dp_jt pc off) L r n c q M o
  | .areturn => dp_pr st fun h r => r = [] ∧ (dp_rk y = 5 ∨ dp_rk y = 6) ∧ c ≤ dp_mc y ∧ q ≤ dp_ms y ∧ Q (.inl (some (.ref h))) M o
  | .invokespecial i => dp_ins call y Q K pc L st n c q M o (dp_iv (dp_ow y) i) ∨ dp_ins call y Q K pc L st n c q M o (dp_ivN (dp_ow y) i) ∨ (dp_nat (dp_ow y) i = some 210 ∧ dp_pr st fun _ r => r.length ≤ 4 ∧ K (pc + 3) L r n c q M o)
  | .aaload => dp_pi st fun i r => dp_pr r fun h r => (h < n ∧ dp_aal h i fun a => K (pc + 1) L (.ref a :: r) n c q M o) ∨ (∃ b m g a, o h = some (.inr (.inr (b, m, g))) ∧ vp_in i m ∧ g i.toNatClampNeg = some a ∧ K (pc + 1) L (.ref a :: r) n c q M o)
  | .arraylength => dp_pr st fun h r => dp_aln X n o h fun k => K (pc + 1) L (.int (nI k) :: r) n c q M o
  | .dup => dp_p1 st fun v r => v.category = 1 ∧ K (pc + 1) L (v :: v :: r) n c q M o
  | .dup2 => dp_p1 st fun v r => dp_p1 r fun w r => v.category = 1 ∧ w.category = 1 ∧ K (pc + 1) L (v :: w :: v :: w :: r) n c q M o
  | .pop => dp_p1 st fun v r => v.category = 1 ∧ K (pc + 1) L r n c q M o
  | .return_ => st = [] ∧ dp_rk y = 0 ∧ c ≤ dp_mc y ∧ q ≤ dp_ms y ∧ Q (.inl none) M o
  | .ireturn => dp_pi st fun x r => r = [] ∧ dp_rz (dp_rk y) x ∧ c ≤ dp_mc y ∧ q ≤ dp_ms y ∧ Q (.inl (some (.int x))) M o
  | .lreturn => dp_pj st fun x r => r = [] ∧ dp_rk y = 2 ∧ c ≤ dp_mc y ∧ q ≤ dp_ms y ∧ Q (.inl (some (.long x))) M o
  | .dreturn => dp_pd st fun x r => r = [] ∧ dp_rk y = 3 ∧ c ≤ dp_mc y ∧ q ≤ dp_ms y ∧ Q (.inl (some (.double x))) M o
  | .invokevirtual i => dp_inv call y Q K pc L st n c q M o false (dp_iv (dp_ow y) i)
  | .invokestatic i => dp_inv call y Q K pc L st n c q M o true (dp_iv (dp_ow y) i) ∨ dp_natw y K pc L st n c q M o (dp_nat (dp_ow y) i)
  | .new i => (dp_ow y = 3 ∧ dp_new i fun E => dp_thr d y Q st c q M o E) ∨ dp_opt (dp_nw (dp_ow y) i) fun ci => c + 1 ≤ dp_mc y ∧ q + 5 ≤ dp_ms y ∧ ∀ a : Nat, o (10000 + a) = none → K (pc + 3) L (.ref (10000 + a) :: st) n (c + 1) (q + 5) M (dp_ou o (10000 + a) (.inl (ci, dp_df ci)))
  | _ => False
/-- K is closed under a method's instructions, and under forgetting of locals -/
def dp_clo (X : dp_X) (call : dp_C) (d y : Nat) (Q : dp_Q) (K : dp_K) : Prop :=
  (∀ pc L st n c q M o, dp_wp X call d y Q K pc L st n c q M o (dp_tab y pc).1 → K pc L st n c q M o) ∧ (∀ b pc L st n c q M o, K pc (dp_msk b L) st n c q M o → K pc L st n c q M o) ∧ (∀ pc L st n c q c' q' M o, c ≤ c' → q ≤ q' → K pc L st n c' q' M o → K pc L st n c q M o)
def dp_args : Nat → List Value → dp_L
  | m, [] => List.replicate m none
  | m, .long x :: t => some (.long x) :: none :: dp_args (m - 2) t
  | m, .double x :: t => some (.double x) :: none :: dp_args (m - 2) t
  | m, v :: t => some v :: dp_args (m - 1) t
/-- what a method does, with calls at most d deep -/
def dp_run (X : dp_X) : Nat → dp_C
  | 0 => fun _ _ _ _ _ _ => False
  | d + 1 => fun y as n M o Q => ∀ K : dp_K, dp_clo X (dp_run X d) (d + 1) y Q K → K 0 (dp_args (dp_mL y) as) [] n 0 0 M o
