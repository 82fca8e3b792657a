/-! what one instruction asks -/
def j_pi (st : List Value) (k : Int32 → List Value → Prop) : Prop := match st with
  | .int x :: st => k x st
  | _ => False
def j_pii (st : List Value) (k : Int32 → Int32 → List Value → Prop) : Prop := match st with
  | .int y :: .int x :: st => k x y st
  | _ => False
def j_pl (st : List Value) (k : Int64 → List Value → Prop) : Prop := match st with
  | .long x :: st => k x st
  | _ => False
def j_pll (st : List Value) (k : Int64 → Int64 → List Value → Prop) : Prop := match st with
  | .long y :: .long x :: st => k x y st
  | _ => False
def j_pli (st : List Value) (k : Int64 → Int32 → List Value → Prop) : Prop := match st with
  | .int y :: .long x :: st => k x y st
  | _ => False
def j_pr (st : List Value) (k : Nat → List Value → Prop) : Prop := match st with
  | .ref a :: st => k a st
  | _ => False
def j_pri (st : List Value) (k : Nat → Int32 → List Value → Prop) : Prop := match st with
  | .int i :: .ref a :: st => k a i st
  | _ => False
def j_prii (st : List Value) (k : Nat → Int32 → Int32 → List Value → Prop) : Prop := match st with
  | .int x :: .int i :: .ref a :: st => k a i x st
  | _ => False
def j_pvr (st : List Value) (ki : Nat → Int32 → List Value → Prop) (kr : Nat → Nat → List Value → Prop) : Prop := match st with
  | .int x :: .ref a :: st => ki a x st
  | .ref r :: .ref a :: st => kr a r st
  | _ => False
def j_pop : Nat → List Value → List Value → (List Value → List Value → Prop) → Prop
  | 0, as, st, k => k as st
  | n + 1, as, v :: st, k => j_pop n (v :: as) st k
  | _ + 1, _, [], _ => False
def j_gi (x : Option Value) (k : Int32 → Prop) : Prop := match x with
  | some (.int v) => k v
  | _ => False
def j_gl (x : Option Value) (k : Int64 → Prop) : Prop := match x with
  | some (.long v) => k v
  | _ => False
def j_ga (x : Option Value) (k : Nat → Prop) : Prop := match x with
  | some (.ref v) => k v
  | _ => False
def j_ob (s : Option j_S) (k : Nat → List j_K → Prop) : Prop := match s with
  | some (.inr (ci, ks)) => k ci ks
  | _ => False
def j_ar (s : Option j_S) (k : FieldType → Nat → Prop) : Prop := match s with
  | some (.inl (ty, n)) => k ty n
  | _ => False
def j_fd (s : Option j_K) (ki : Prop) (kv : Prop) (kn : Prop) (kr : Nat → Prop) : Prop := match s with
  | some none => ki
  | some (some none) => kv
  | some (some (some none)) => kn
  | some (some (some (some r))) => kr r
  | none => False
def j_fo (s : Option (Nat × Nat × Bool)) (k : Nat → Nat → Bool → Prop) : Prop := match s with
  | some (ci, f, b) => k ci f b
  | none => False
def j_mo (s : Option (MethodName × Nat × Bool × Nat)) (k : MethodName → Nat → Bool → Nat → Prop) : Prop := match s with
  | some (y, n, b, ci) => k y n b ci
  | none => False
def j_br (c : ClassFile.Cond) (x y : Int32) (A B : Prop) : Prop := match c with
  | .eq => (x = y → A) ∧ (¬ x = y → B)
  | .ne => (¬ x = y → A) ∧ (x = y → B)
  | .lt => (x < y → A) ∧ (y ≤ x → B)
  | .ge => (y ≤ x → A) ∧ (x < y → B)
  | .gt => (y < x → A) ∧ (x ≤ y → B)
  | .le => (x ≤ y → A) ∧ (y < x → B)
def j_to (pc : Nat) (off : Int) (k : Nat → Prop) : Prop := 0 ≤ (pc : Int) + off ∧ k ((pc : Int) + off).toNat
def j_tab (x : Int32) (k : Int → Prop) : List Int → Int → Prop
  | [], _ => True
  | o :: os, lo => (x.toInt = lo → k o) ∧ j_tab x k os (lo + 1)
def j_lku (x : Int32) (dflt : Int) (k : Int → Prop) : List (Int × Int) → Prop
  | [] => k dflt
  | (a, o) :: r => (x.toInt = a → k o) ∧ (¬ x.toInt = a → j_lku x dflt k r)
/-- what a field or a boolean method's answer may be -/
def j_nf (ty : FieldType) (x : Int32) : Prop := match ty with
  | .int => True
  | .boolean => x = 0 ∨ x = 1
  | .char => 0 ≤ x ∧ x ≤ 65535
  | _ => False
def j_rt (ret : Option FieldType) (x : Int32) : Prop := match ret with
  | some ty => j_nf ty x
  | none => False
def j_lo (s : Option Int64) (k : Int64 → Prop) : Prop := match s with
  | some x => k x
  | none => False
def j_min (o i : Nat) : Bool := (o == 9 && i == 271) || (o == 7 && i == 55)
def j_acp (o i : Nat) : Bool := o == 6 && i == 36
def j_co (s : Option (Nat × Nat)) (k : Nat → Nat → Prop) : Prop := match s with
  | some (ci, n) => k ci n
  | none => False
def j_no (s : Option (MethodName × Bool)) (k : MethodName → Prop) : Prop := match s with
  | some (y, _) => k y
  | none => False
/-- the kind of a field of this type in a new object -/
def j_k00 (ty : FieldType) : j_K := match ty with
  | .object _ => some (some none)
  | .array _ => some (some none)
  | _ => none
def j_k0 (ci N : Nat) : List j_K := (List.range N).map (fun k => j_k00 (j_ty ci k))
def j_scr (xs : Option (Nat × (Nat → Int32))) (k : Nat → (Nat → Int32) → Prop) : Prop := match xs with
  | some (L, f) => k L f
  | none => False
def j_at (t : ArrayType) : FieldType := match t with
  | .boolean => .boolean
  | .char => .char
  | .float => .float
  | .double => .double
  | .byte => .byte
  | .short => .short
  | .int => .int
  | .long => .long
/-- what comes behind a call -/
def j_kt (K : List j_S → Nat → Nat → Nat → j_L → List Value → j_M → Prop) (pc : Nat) (ls : j_L) (st : List Value) (mc ms : Nat) (r : Option Int32) (sh' : List j_S) (μ' : j_M) : Prop := K sh' mc ms (pc + 3) ls ((r.map Value.int).toList ++ st) μ'
def j_wp (o : Nat) (ret : Option FieldType) (ini : Bool) (d : Nat) (xs : Option (Nat × (Nat → Int32))) (Q : j_Q) (i : Instr) (len : Nat) (sh : List j_S) (mc ms pc : Nat) (ls : j_L) (st : List Value) (μ : j_M) (K : List j_S → Nat → Nat → Nat → j_L → List Value → j_M → Prop) : Prop := match i with
  | .iconst n => len = 1 ∧ K sh mc ms (pc + 1) ls (.int (Int32.ofInt n) :: st) μ
  | .bipush n => len = 2 ∧ K sh mc ms (pc + 2) ls (.int (Int8.ofInt n).toInt32 :: st) μ
  | .sipush n => len = 3 ∧ K sh mc ms (pc + 3) ls (.int (Int16.ofInt n).toInt32 :: st) μ
  | .ldc2_w n => len = 3 ∧ j_lo (j_long o n) fun x => K sh mc ms (pc + 3) ls (.long x :: st) μ
  | .iload n => len = 2 ∧ j_gi (j_ld ls n) fun x => K sh mc ms (pc + 2) ls (.int x :: st) μ
  | .iload_n n => len = 1 ∧ j_gi (j_ld ls n.val) fun x => K sh mc ms (pc + 1) ls (.int x :: st) μ
  | .lload n => len = 2 ∧ j_gl (j_ld ls n) fun x => K sh mc ms (pc + 2) ls (.long x :: st) μ
  | .lload_n n => len = 1 ∧ j_gl (j_ld ls n.val) fun x => K sh mc ms (pc + 1) ls (.long x :: st) μ
  | .aload n => len = 2 ∧ j_ga (j_ld ls n) fun x => K sh mc ms (pc + 2) ls (.ref x :: st) μ
  | .aload_n n => len = 1 ∧ j_ga (j_ld ls n.val) fun x => K sh mc ms (pc + 1) ls (.ref x :: st) μ
  | .istore n => len = 2 ∧ n < ls.length ∧ j_pi st fun x st => K sh mc ms (pc + 2) (j_st1 ls n (.int x)) st μ
  | .istore_n n => len = 1 ∧ n.val < ls.length ∧ j_pi st fun x st => K sh mc ms (pc + 1) (j_st1 ls n.val (.int x)) st μ
  | .astore n => len = 2 ∧ n < ls.length ∧ j_pr st fun x st => K sh mc ms (pc + 2) (j_st1 ls n (.ref x)) st μ
  | .astore_n n => len = 1 ∧ n.val < ls.length ∧ j_pr st fun x st => K sh mc ms (pc + 1) (j_st1 ls n.val (.ref x)) st μ
  | .lstore n => len = 2 ∧ n + 1 < ls.length ∧ j_pl st fun x st => K sh mc ms (pc + 2) (j_st2 ls n (.long x)) st μ
  | .iinc n k => len = 3 ∧ j_gi (j_ld ls n) fun x => K sh mc ms (pc + 3) (j_st1 ls n (.int (x + Int32.ofInt k))) st μ
  | .iadd => len = 1 ∧ j_pii st fun x y st => K sh mc ms (pc + 1) ls (.int (x + y) :: st) μ
  | .isub => len = 1 ∧ j_pii st fun x y st => K sh mc ms (pc + 1) ls (.int (x - y) :: st) μ
  | .imul => len = 1 ∧ j_pii st fun x y st => K sh mc ms (pc + 1) ls (.int (x * y) :: st) μ
  | .idiv => len = 1 ∧ j_pii st fun x y st => ¬ y = 0 ∧ K sh mc ms (pc + 1) ls (.int (x / y) :: st) μ
  | .iand => len = 1 ∧ j_pii st fun x y st => K sh mc ms (pc + 1) ls (.int (x &&& y) :: st) μ
  | .ior => len = 1 ∧ j_pii st fun x y st => K sh mc ms (pc + 1) ls (.int (x ||| y) :: st) μ
  | .ishl => len = 1 ∧ j_pii st fun x y st => K sh mc ms (pc + 1) ls (.int (x <<< (y &&& 31)) :: st) μ
  | .ishr => len = 1 ∧ j_pii st fun x y st => K sh mc ms (pc + 1) ls (.int (x >>> (y &&& 31)) :: st) μ
  | .iushr => len = 1 ∧ j_pii st fun x y st => K sh mc ms (pc + 1) ls (.int (x.toUInt32 >>> (y.toUInt32 &&& Int32.toUInt32 31)).toInt32 :: st) μ
  | .ladd => len = 1 ∧ j_pll st fun x y st => K sh mc ms (pc + 1) ls (.long (x + y) :: st) μ
  | .lmul => len = 1 ∧ j_pll st fun x y st => K sh mc ms (pc + 1) ls (.long (x * y) :: st) μ
  | .lrem => len = 1 ∧ j_pll st fun x y st => ¬ y = 0 ∧ K sh mc ms (pc + 1) ls (.long (x - x / y * y) :: st) μ
  | .land => len = 1 ∧ j_pll st fun x y st => K sh mc ms (pc + 1) ls (.long (x &&& y) :: st) μ
  | .lor => len = 1 ∧ j_pll st fun x y st => K sh mc ms (pc + 1) ls (.long (x ||| y) :: st) μ
  | .lushr => len = 1 ∧ j_pli st fun x y st => K sh mc ms (pc + 1) ls (.long (x.toUInt64 >>> (y.toInt64.toUInt64 &&& Int64.toUInt64 63)).toInt64 :: st) μ
  | .lshl => len = 1 ∧ j_pli st fun x y st => K sh mc ms (pc + 1) ls (.long (x <<< (y.toInt64 &&& 63)) :: st) μ
  | .lcmp => len = 1 ∧ j_pll st fun x y st => K sh mc ms (pc + 1) ls (.int (lg_cmp x y) :: st) μ
  | .i2l => len = 1 ∧ j_pi st fun x st => K sh mc ms (pc + 1) ls (.long x.toInt64 :: st) μ
  | .l2i => len = 1 ∧ j_pl st fun x st => K sh mc ms (pc + 1) ls (.int x.toInt32 :: st) μ
  | .i2b => len = 1 ∧ j_pi st fun x st => K sh mc ms (pc + 1) ls (.int x.toInt8.toInt32 :: st) μ
  | .i2c => len = 1 ∧ j_pi st fun x st => K sh mc ms (pc + 1) ls (.int (x.toUInt32 % 65536).toInt32 :: st) μ
  | .dup => len = 1 ∧ match st with
    | .int x :: st => K sh mc ms (pc + 1) ls (.int x :: .int x :: st) μ
    | .ref x :: st => K sh mc ms (pc + 1) ls (.ref x :: .ref x :: st) μ
    | _ => False
  | .dup2 => len = 1 ∧ j_pri st fun a i st => K sh mc ms (pc + 1) ls (.int i :: .ref a :: .int i :: .ref a :: st) μ
  | .goto off => len = 3 ∧ j_to pc off fun t => K sh mc ms t ls st μ
  | .ifCond c off => len = 3 ∧ j_pi st fun x st => j_to pc off fun t => j_br c x 0 (K sh mc ms t ls st μ) (K sh mc ms (pc + 3) ls st μ)
  | .if_icmp c off => len = 3 ∧ j_pii st fun x y st => j_to pc off fun t => j_br c x y (K sh mc ms t ls st μ) (K sh mc ms (pc + 3) ls st μ)
  | .tableswitch dflt lo hi offs => offs.toList.length = (hi - lo + 1).toNat ∧ j_pi st fun x st => (x.toInt < lo ∨ hi < x.toInt → j_to pc dflt fun t => K sh mc ms t ls st μ) ∧ j_tab x (fun off => j_to pc off fun t => K sh mc ms t ls st μ) offs.toList lo
  | .lookupswitch dflt ps => (ps.toList.zip (ps.toList.drop 1)).all (fun (a, next) => a.1 < next.1) = true ∧ j_pi st fun x st => j_lku x dflt (fun off => j_to pc off fun t => K sh mc ms t ls st μ) ps.toList
  | .getfield n => len = 3 ∧ j_fo (j_fl o n) fun ci f _ => j_pr st fun a st => j_ob sh[a]? fun ci' ks => ci' = ci ∧ j_fd ks[f]? (K sh mc ms (pc + 3) ls (.int (μ a f) :: st) μ) ((μ a f).toNatClampNeg < sh.length ∧ K sh mc ms (pc + 3) ls (.ref (μ a f).toNatClampNeg :: st) μ) False (fun r => r < sh.length ∧ K sh mc ms (pc + 3) ls (.ref r :: st) μ)
  | .putfield n => len = 3 ∧ j_fo (j_fl o n) fun ci f b => j_pvr st
      (fun a x st => j_ob sh[a]? fun ci' ks => ci' = ci ∧ b = false ∧ j_nf (j_ty ci f) x ∧ j_fd ks[f]? (K sh mc ms (pc + 3) ls st (j_up μ a f x)) False False (fun _ => False))
      (fun a r st => j_ob sh[a]? fun ci' ks => ci' = ci ∧ r < sh.length ∧ fits (j_ty ci f) (.ref r) = true ∧ if b = true then ini = true ∧ ci = o ∧ j_fd ks[f]? False False (K (sh.set a (.inr (ci, ks.set f (some (some (some r)))))) mc ms (pc + 3) ls st μ) (fun _ => False)
        else r < 2147483648 ∧ j_fd ks[f]? False (K sh mc ms (pc + 3) ls st (j_up μ a f (nI r))) (K (sh.set a (.inr (ci, ks.set f (some none)))) mc ms (pc + 3) ls st (j_up μ a f (nI r))) (fun _ => False))
  | .iaload => len = 1 ∧ j_pri st fun a i st => if a = j_sc then j_scr xs fun L f => vp_in i L ∧ K sh mc ms (pc + 1) ls (.int (f i.toNatClampNeg) :: st) μ else j_ar sh[a]? fun ty n => ty = .int ∧ vp_in i n ∧ K sh mc ms (pc + 1) ls (.int (μ a i.toNatClampNeg) :: st) μ
  | .baload => len = 1 ∧ j_pri st fun a i st => j_ar sh[a]? fun ty n => (ty = .byte ∨ ty = .boolean) ∧ vp_in i n ∧ K sh mc ms (pc + 1) ls (.int (μ a i.toNatClampNeg) :: st) μ
  | .caload => len = 1 ∧ j_pri st fun a i st => j_ar sh[a]? fun ty n => ty = .char ∧ vp_in i n ∧ K sh mc ms (pc + 1) ls (.int (μ a i.toNatClampNeg) :: st) μ
  | .laload => len = 1 ∧ j_pri st fun a i st => j_ar sh[a]? fun ty n => ty = .long ∧ vp_in i n ∧ K sh mc ms (pc + 1) ls (.long (μ a i.toNatClampNeg).toInt64 :: st) μ
  | .iastore => len = 1 ∧ j_prii st fun a i x st => j_ar sh[a]? fun ty n => ty = .int ∧ vp_in i n ∧ K sh mc ms (pc + 1) ls st (j_up μ a i.toNatClampNeg x)
  | .bastore => len = 1 ∧ j_prii st fun a i x st => j_ar sh[a]? fun ty n => vp_in i n ∧ (ty = .byte → K sh mc ms (pc + 1) ls st (j_up μ a i.toNatClampNeg (vp_nar .byte x))) ∧ (ty = .boolean → K sh mc ms (pc + 1) ls st (j_up μ a i.toNatClampNeg (vp_nar .boolean x))) ∧ (ty = .byte ∨ ty = .boolean)
  | .castore => len = 1 ∧ j_prii st fun a i x st => j_ar sh[a]? fun ty n => ty = .char ∧ vp_in i n ∧ K sh mc ms (pc + 1) ls st (j_up μ a i.toNatClampNeg (vp_nar .char x))
  | .arraylength => len = 1 ∧ j_pr st fun a st => if a = j_sc then j_scr xs fun L _ => K sh mc ms (pc + 1) ls (.int (nI L) :: st) μ else j_ar sh[a]? fun ty n => (ty = .int ∨ ty = .char ∨ ty = .byte ∨ ty = .boolean) ∧ K sh mc ms (pc + 1) ls (.int (nI n) :: st) μ
  | .newarray t => len = 2 ∧ j_pi st fun n st => ¬ n < 0 ∧ n.toNatClampNeg ≤ 1000000 ∧ 1 ≤ mc ∧ n.toNatClampNeg ≤ ms ∧ sh.length < j_sc ∧ j_okr sh.length sh μ ∧ (t = .int ∨ t = .char ∨ t = .byte ∨ t = .boolean ∨ t = .long) ∧ K (sh ++ [.inl (j_at t, n.toNatClampNeg)]) (mc - 1) (ms - n.toNatClampNeg) (pc + 2) ls (.ref sh.length :: st) (j_row μ sh.length (fun _ => 0))
  | .invokevirtual n => len = 3 ∧ j_mo (j_ml o n) fun y k b ci => b = false ∧ j_pop k [] st fun as st => j_pr st fun a st => j_ob sh[a]? fun ci' _ => ci' = ci ∧ (st.map fun v => v.category).sum ≤ 8 ∧ j_X d mc ms y sh (.ref a :: as) μ (j_kt K pc ls st)
  | .invokestatic n => len = 3 ∧ if j_min o n = true then 1 ≤ d ∧ j_pii st fun x y st => (st.map fun v => v.category).sum ≤ 8 ∧ K sh mc ms (pc + 3) ls (.int (if y < x then y else x) :: st) μ
      else if j_acp o n = true then 1 ≤ d ∧ match st with
        | .int k :: .int dp :: .ref a :: .int sp :: .ref a0 :: st => st = [] ∧ ¬ sp < 0 ∧ ¬ dp < 0 ∧ ¬ k < 0 ∧ j_ar sh[a0]? (fun ty n0 => ty = .char ∧ sp.toNatClampNeg + k.toNatClampNeg ≤ n0) ∧ j_ar sh[a]? (fun ty n1 => ty = .char ∧ dp.toNatClampNeg + k.toNatClampNeg ≤ n1) ∧ (∀ i, i < k.toNatClampNeg → fits .char (.int (μ a0 (sp.toNatClampNeg + i))) = true) ∧ K sh mc ms (pc + 3) ls [] (j_row μ a (va_cpy (μ a0) (μ a) sp.toNatClampNeg dp.toNatClampNeg k.toNatClampNeg))
        | _ => False
      else j_mo (j_ml o n) fun y k b _ => b = true ∧ j_pop k [] st fun as st => (st.map fun v => v.category).sum ≤ 8 ∧ j_X d mc ms y sh as μ (j_kt K pc ls st)
  | .new n => len = 3 ∧ j_co (j_cl o n) fun ci N => 1 ≤ mc ∧ N ≤ ms ∧ sh.length < j_sc ∧ j_okr sh.length sh μ ∧ K (sh ++ [.inr (ci, j_k0 ci N)]) (mc - 1) (ms - N) (pc + 3) ls (.ref sh.length :: st) (j_row μ sh.length (fun _ => 0))
  | .invokespecial n => len = 3 ∧ j_pr st fun a st => (st.map fun v => v.category).sum ≤ 8 ∧ if j_oi o n = true then 1 ≤ d ∧ K sh mc ms (pc + 3) ls st μ
      else j_no (j_nl o n) fun y => j_X d mc ms y sh [.ref a] μ (j_kt K pc ls st)
  | .ireturn => len = 1 ∧ match st with
    | [.int v] => j_rt ret v ∧ Q (some v) sh μ
    | _ => False
  | .return_ => len = 1 ∧ ret = none ∧ st = [] ∧ Q none sh μ
  | _ => False
