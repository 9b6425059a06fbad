/-! AN ABSTRACT MACHINE: what an instruction does, over an exact map of the cells that the run has made. Nothing here speaks of the JVM model but by its values. -/
abbrev zE : Type := (Nat × Nat × (Nat → Int32)) ⊕ ((Nat × (Nat → Int64)) ⊕ ((Nat × Nat × (Nat → Option Nat)) ⊕ (Nat × List Value)))
/-- arrays of int (kind 0), of boolean (1), the script (4, only read); of long; of references (kind 3; 5, only read); objects of a class by its number -/
abbrev zEi (k n : Nat) (f : Nat → Int32) : zE := .inl (k, n, f)
abbrev zEl (n : Nat) (f : Nat → Int64) : zE := .inr (.inl (n, f))
abbrev zEq (k n : Nat) (f : Nat → Option Nat) : zE := .inr (.inr (.inl (k, n, f)))
abbrev zEo (ci : Nat) (fs : List Value) : zE := .inr (.inr (.inr (ci, fs)))
/-- the next address, the fields and elements made, the cells -/
abbrev zW : Type := Nat × Nat × (Nat → Option zE)
abbrev zO : Type := Option Value ⊕ Nat
abbrev zR : Type := Option (zO × zW)
abbrev zF : Type := Nat → Nat → List Value → List Value → zW → zR
abbrev zK : Type := Nat → List Value → List Value → zW → zR
abbrev zSem : Type := zF → zK → List Value → List Value → zW → zR
/-- a local that holds nothing that is read -/
abbrev zU : Value := .retAddr 0
def znth : List Value → Nat → Option Value
  | [], _ => none
  | v :: _, 0 => some v
  | _ :: l, n + 1 => znth l n
def zset : List Value → Nat → Value → List Value
  | [], _, _ => []
  | _ :: l, 0, v => v :: l
  | w :: l, n + 1, v => w :: zset l n v
def zcs : List Value → Nat
  | [] => 0
  | v :: l => v.category + zcs l
def zsp : Nat → List Value → List Value → Option (List Value × List Value)
  | 0, acc, st => bif Nat.ble (zcs st) 8 then some (acc, st) else none
  | n + 1, acc, .int x :: st => zsp n (.int x :: acc) st
  | n + 1, acc, .ref x :: st => zsp n (.ref x :: acc) st
  | n + 1, acc, .null :: st => zsp n (.null :: acc) st
  | _ + 1, _, _ => none
def zup (M : Nat → Option zE) (a : Nat) (e : zE) : Nat → Option zE := fun b => if b = a then some e else M b
def zob (ci : Nat) (W : zW) (a : Nat) : Option (List Value) := match W.2.2 a with
  | some (.inr (.inr (.inr (c, fs)))) => if c = ci then some fs else none
  | _ => none
def zgI (ci k : Nat) (W : zW) (a : Nat) : Option Int32 := match zob ci W a with
  | some fs => match znth fs k with
    | some (.int x) => some x
    | _ => none
  | none => none
def zgR (ci k : Nat) (W : zW) (a : Nat) : Option Nat := match zob ci W a with
  | some fs => match znth fs k with
    | some (.ref x) => some x
    | _ => none
  | none => none
def zpt (ci k : Nat) (W : zW) (a : Nat) (v : Value) : Option zW := match zob ci W a with
  | some fs => if k < fs.length then some (W.1, W.2.1, zup W.2.2 a (zEo ci (zset fs k v))) else none
  | none => none
/-- whether an index is outside -/
abbrev zoff (i : Int32) (n : Nat) : Prop := i < 0 ∨ n ≤ i.toNatClampNeg
def zld (b : Bool) (W : zW) (a : Nat) (i : Int32) : Option Int32 := match W.2.2 a with
  | some (.inl (k, n, f)) => if zoff i n ∨ b ≠ decide (k = 1) then none else some (f i.toNatClampNeg)
  | _ => none
def zsto (k0 : Nat) (W : zW) (a : Nat) (i x : Int32) : Option zW := match W.2.2 a with
  | some (.inl (k, n, f)) => if zoff i n ∨ k ≠ k0 then none else some (W.1, W.2.1, zup W.2.2 a (zEi k n (upd f i.toNatClampNeg x)))
  | _ => none
def zldl (W : zW) (a : Nat) (i : Int32) : Option Int64 := match W.2.2 a with
  | some (.inr (.inl (n, f))) => if zoff i n then none else some (f i.toNatClampNeg)
  | _ => none
def zstl (W : zW) (a : Nat) (i : Int32) (x : Int64) : Option zW := match W.2.2 a with
  | some (.inr (.inl (n, f))) => if zoff i n then none else some (W.1, W.2.1, zup W.2.2 a (zEl n (vp_updL f i.toNatClampNeg x)))
  | _ => none
def zldq (W : zW) (a : Nat) (i : Int32) : Option Nat := match W.2.2 a with
  | some (.inr (.inr (.inl (_, n, f)))) => if zoff i n then none else f i.toNatClampNeg
  | _ => none
def zstq (W : zW) (a : Nat) (i : Int32) (v : Nat) : Option zW := match W.2.2 a with
  | some (.inr (.inr (.inl (k, n, f)))) => if zoff i n ∨ k ≠ 3 then none else some (W.1, W.2.1, zup W.2.2 a (zEq k n (va_up f i.toNatClampNeg (some v))))
  | _ => none
def zlen (W : zW) (a : Nat) : Option Int32 := match W.2.2 a with
  | some (.inl (_, n, _)) => some (Int32.ofNat n)
  | some (.inr (.inl (n, _))) => some (Int32.ofNat n)
  | some (.inr (.inr (.inl (_, n, _)))) => some (Int32.ofNat n)
  | _ => none
/-- a new object; new arrays -/
def znew (ci n : Nat) (fs : List Value) (W : zW) : zW := (W.1 + 1, W.2.1 + n, zup W.2.2 W.1 (zEo ci fs))
abbrev zbad (n : Int32) : Prop := n < 0 ∨ 100000 < n.toNatClampNeg
def znai (k : Nat) (n : Int32) (W : zW) : zW := (W.1 + 1, W.2.1 + n.toNatClampNeg, zup W.2.2 W.1 (zEi k n.toNatClampNeg (fun _ => 0)))
def znal (n : Int32) (W : zW) : zW := (W.1 + 1, W.2.1 + n.toNatClampNeg, zup W.2.2 W.1 (zEl n.toNatClampNeg (fun _ => 0)))
def znaq (n : Int32) (W : zW) : zW := (W.1 + 1, W.2.1 + n.toNatClampNeg, zup W.2.2 W.1 (zEq 3 n.toNatClampNeg (fun _ => none)))
/-- whether a number is an object's -/
def zio (W : zW) (a : Nat) : Bool := match W.2.2 a with
  | some (.inr (.inr (.inr (c, _)))) => Nat.blt c 14
  | _ => false
/-- System.arraycopy between two different arrays of references -/
def zcpy (W : zW) (s : Nat) (sp : Int32) (d : Nat) (dp n : Int32) : Option zW := match W.2.2 s, W.2.2 d with
  | some (.inr (.inr (.inl (ks, ns, f)))), some (.inr (.inr (.inl (kd, nd, g)))) =>
    if s = d ∨ (kd ≠ 3 ∨ ks ≠ 3) ∨ sp < 0 ∨ dp < 0 ∨ n < 0 ∨ ns < sp.toNatClampNeg + n.toNatClampNeg ∨ nd < dp.toNatClampNeg + n.toNatClampNeg ∨ (List.range n.toNatClampNeg).any (fun j => match f (sp.toNatClampNeg + j) with | some y => !zio W y | none => false) = true then none
    else some (W.1, W.2.1, zup W.2.2 d (zEq kd nd (va_cpy f g sp.toNatClampNeg dp.toNatClampNeg n.toNatClampNeg)))
  | _, _ => none
/-- which way a table switch goes -/
def zsw (lo : Int) (ts : List Nat) (d : Nat) (x : Int32) : Nat := if x.toInt < lo then d else match ts[(x.toInt - lo).toNat]? with
  | some t => t
  | none => d
-- what an instruction does
def s_iload (i nx : Nat) : zSem := fun _ K ls st W => match znth ls i with
  | some (.int x) => K nx ls (.int x :: st) W
  | _ => none
def s_aload (i nx : Nat) : zSem := fun _ K ls st W => match znth ls i with
  | some (.ref a) => K nx ls (.ref a :: st) W
  | some .null => K nx ls (.null :: st) W
  | _ => none
def s_istore (i nx : Nat) : zSem := fun _ K ls st W => match st with
  | .int x :: r => K nx (zset ls i (.int x)) r W
  | _ => none
def s_astore (i nx : Nat) : zSem := fun _ K ls st W => match st with
  | .ref a :: r => K nx (zset ls i (.ref a)) r W
  | .null :: r => K nx (zset ls i .null) r W
  | _ => none
def s_iinc (i : Nat) (d : Int32) (nx : Nat) : zSem := fun _ K ls st W => match znth ls i with
  | some (.int x) => K nx (zset ls i (.int (x + d))) st W
  | _ => none
def s_ic (v : Int32) (nx : Nat) : zSem := fun _ K ls st W => K nx ls (.int v :: st) W
def s_lc (v : Int64) (nx : Nat) : zSem := fun _ K ls st W => K nx ls (.long v :: st) W
def s_null (nx : Nat) : zSem := fun _ K ls st W => K nx ls (.null :: st) W
def s_iadd (nx : Nat) : zSem := fun _ K ls st W => match st with
  | .int y :: .int x :: r => K nx ls (.int (x + y) :: r) W
  | _ => none
def s_isub (nx : Nat) : zSem := fun _ K ls st W => match st with
  | .int y :: .int x :: r => K nx ls (.int (x - y) :: r) W
  | _ => none
def s_imul (nx : Nat) : zSem := fun _ K ls st W => match st with
  | .int y :: .int x :: r => K nx ls (.int (x * y) :: r) W
  | _ => none
def s_iand (nx : Nat) : zSem := fun _ K ls st W => match st with
  | .int y :: .int x :: r => K nx ls (.int (x &&& y) :: r) W
  | _ => none
def s_ior (nx : Nat) : zSem := fun _ K ls st W => match st with
  | .int y :: .int x :: r => K nx ls (.int (x ||| y) :: r) W
  | _ => none
def s_ixor (nx : Nat) : zSem := fun _ K ls st W => match st with
  | .int y :: .int x :: r => K nx ls (.int (x ^^^ y) :: r) W
  | _ => none
def s_ishl (nx : Nat) : zSem := fun _ K ls st W => match st with
  | .int y :: .int x :: r => K nx ls (.int (x <<< (y &&& 31)) :: r) W
  | _ => none
def s_ishr (nx : Nat) : zSem := fun _ K ls st W => match st with
  | .int y :: .int x :: r => K nx ls (.int (x >>> (y &&& 31)) :: r) W
  | _ => none
def z_ushr (x y : Int32) : Int32 := (x.toUInt32 >>> (y.toUInt32 &&& Int32.toUInt32 31)).toInt32
def s_iushr (nx : Nat) : zSem := fun _ K ls st W => match st with
  | .int y :: .int x :: r => K nx ls (.int (z_ushr x y) :: r) W
  | _ => none
def s_idiv (nx : Nat) : zSem := fun _ K ls st W => match st with
  | .int y :: .int x :: r => if y = 0 then none else K nx ls (.int (x / y) :: r) W
  | _ => none
def s_irem (nx : Nat) : zSem := fun _ K ls st W => match st with
  | .int y :: .int x :: r => if y = 0 then none else K nx ls (.int (x - x / y * y) :: r) W
  | _ => none
def s_ineg (nx : Nat) : zSem := fun _ K ls st W => match st with
  | .int x :: r => K nx ls (.int (-x) :: r) W
  | _ => none
def s_i2l (nx : Nat) : zSem := fun _ K ls st W => match st with
  | .int x :: r => K nx ls (.long x.toInt64 :: r) W
  | _ => none
def s_lcmp (nx : Nat) : zSem := fun _ K ls st W => match st with
  | .long y :: .long x :: r => K nx ls (.int (lg_cmp x y) :: r) W
  | _ => none
def s_dup (nx : Nat) : zSem := fun _ K ls st W => match st with
  | .int x :: r => K nx ls (.int x :: .int x :: r) W
  | .ref x :: r => K nx ls (.ref x :: .ref x :: r) W
  | _ => none
def s_dup2 (nx : Nat) : zSem := fun _ K ls st W => match st with
  | .int x :: .ref y :: r => K nx ls (.int x :: .ref y :: .int x :: .ref y :: r) W
  | _ => none
def s_dupx1 (nx : Nat) : zSem := fun _ K ls st W => match st with
  | .ref x :: .ref y :: r => K nx ls (.ref x :: .ref y :: .ref x :: r) W
  | _ => none
def s_pop (nx : Nat) : zSem := fun _ K ls st W => match st with
  | .int _ :: r => K nx ls r W
  | .ref _ :: r => K nx ls r W
  | _ => none
def s_goto (t : Nat) : zSem := fun _ K ls st W => K t ls st W
def s_ifeq (t nx : Nat) : zSem := fun _ K ls st W => match st with
  | .int x :: r => if x = 0 then K t ls r W else K nx ls r W
  | _ => none
def s_ifne (t nx : Nat) : zSem := fun _ K ls st W => match st with
  | .int x :: r => if x = 0 then K nx ls r W else K t ls r W
  | _ => none
def s_iflt (t nx : Nat) : zSem := fun _ K ls st W => match st with
  | .int x :: r => if x < 0 then K t ls r W else K nx ls r W
  | _ => none
def s_ifge (t nx : Nat) : zSem := fun _ K ls st W => match st with
  | .int x :: r => if 0 ≤ x then K t ls r W else K nx ls r W
  | _ => none
def s_ifgt (t nx : Nat) : zSem := fun _ K ls st W => match st with
  | .int x :: r => if 0 < x then K t ls r W else K nx ls r W
  | _ => none
def s_ifle (t nx : Nat) : zSem := fun _ K ls st W => match st with
  | .int x :: r => if x ≤ 0 then K t ls r W else K nx ls r W
  | _ => none
def s_cmpeq (t nx : Nat) : zSem := fun _ K ls st W => match st with
  | .int y :: .int x :: r => if x = y then K t ls r W else K nx ls r W
  | _ => none
def s_cmpne (t nx : Nat) : zSem := fun _ K ls st W => match st with
  | .int y :: .int x :: r => if x = y then K nx ls r W else K t ls r W
  | _ => none
def s_cmplt (t nx : Nat) : zSem := fun _ K ls st W => match st with
  | .int y :: .int x :: r => if x < y then K t ls r W else K nx ls r W
  | _ => none
def s_cmpge (t nx : Nat) : zSem := fun _ K ls st W => match st with
  | .int y :: .int x :: r => if y ≤ x then K t ls r W else K nx ls r W
  | _ => none
def s_cmpgt (t nx : Nat) : zSem := fun _ K ls st W => match st with
  | .int y :: .int x :: r => if y < x then K t ls r W else K nx ls r W
  | _ => none
def s_cmple (t nx : Nat) : zSem := fun _ K ls st W => match st with
  | .int y :: .int x :: r => if x ≤ y then K t ls r W else K nx ls r W
  | _ => none
def s_acmpeq (t nx : Nat) : zSem := fun _ K ls st W => match st with
  | .ref y :: .ref x :: r => if x = y then K t ls r W else K nx ls r W
  | _ => none
def s_acmpne (t nx : Nat) : zSem := fun _ K ls st W => match st with
  | .ref y :: .ref x :: r => if x = y then K nx ls r W else K t ls r W
  | _ => none
def s_nonnull (t nx : Nat) : zSem := fun _ K ls st W => match st with
  | .ref _ :: r => K t ls r W
  | .null :: r => K nx ls r W
  | _ => none
def s_sw (lo : Int) (ts : List Nat) (d : Nat) : zSem := fun _ K ls st W => match st with
  | .int x :: r => K (zsw lo ts d x) ls r W
  | _ => none
def s_gI (ci k nx : Nat) : zSem := fun _ K ls st W => match st with
  | .ref a :: r => (zgI ci k W a).bind fun x => K nx ls (.int x :: r) W
  | _ => none
def s_gR (ci k nx : Nat) : zSem := fun _ K ls st W => match st with
  | .ref a :: r => (zgR ci k W a).bind fun x => K nx ls (.ref x :: r) W
  | _ => none
def s_pI (ci k nx : Nat) : zSem := fun _ K ls st W => match st with
  | .int x :: .ref a :: r => (zpt ci k W a (.int x)).bind fun W' => K nx ls r W'
  | _ => none
def s_pZ (ci k nx : Nat) : zSem := fun _ K ls st W => match st with
  | .int x :: .ref a :: r => if x &&& 1 = x then (zpt ci k W a (.int x)).bind fun W' => K nx ls r W' else none
  | _ => none
def s_pR (ci k nx : Nat) : zSem := fun _ K ls st W => match st with
  | .ref x :: .ref a :: r => (zpt ci k W a (.ref x)).bind fun W' => K nx ls r W'
  | _ => none
/-- a static field of the JDK's, or a class object, at its address -/
def s_gs (q nx : Nat) : zSem := fun _ K ls st W => K nx ls (.ref q :: st) W
def s_new (ci n : Nat) (fs : List Value) (nx : Nat) : zSem := fun _ K ls st W => K nx ls (.ref W.1 :: st) (znew ci n fs W)
def s_nai (k nx : Nat) : zSem := fun _ K ls st W => match st with
  | .int n :: r => if zbad n then none else K nx ls (.ref W.1 :: r) (znai k n W)
  | _ => none
def s_nal (nx : Nat) : zSem := fun _ K ls st W => match st with
  | .int n :: r => if zbad n then none else K nx ls (.ref W.1 :: r) (znal n W)
  | _ => none
def s_naq (nx : Nat) : zSem := fun _ K ls st W => match st with
  | .int n :: r => if zbad n then none else K nx ls (.ref W.1 :: r) (znaq n W)
  | _ => none
def s_alen (nx : Nat) : zSem := fun _ K ls st W => match st with
  | .ref a :: r => (zlen W a).bind fun x => K nx ls (.int x :: r) W
  | _ => none
def s_iald (nx : Nat) : zSem := fun _ K ls st W => match st with
  | .int i :: .ref a :: r => (zld false W a i).bind fun x => K nx ls (.int x :: r) W
  | _ => none
def s_zald (nx : Nat) : zSem := fun _ K ls st W => match st with
  | .int i :: .ref a :: r => (zld true W a i).bind fun x => K nx ls (.int x :: r) W
  | _ => none
def s_lald (nx : Nat) : zSem := fun _ K ls st W => match st with
  | .int i :: .ref a :: r => (zldl W a i).bind fun x => K nx ls (.long x :: r) W
  | _ => none
def s_qald (nx : Nat) : zSem := fun _ K ls st W => match st with
  | .int i :: .ref a :: r => (zldq W a i).bind fun x => K nx ls (.ref x :: r) W
  | _ => none
def s_iast (nx : Nat) : zSem := fun _ K ls st W => match st with
  | .int x :: .int i :: .ref a :: r => (zsto 0 W a i x).bind fun W' => K nx ls r W'
  | _ => none
def s_zast (nx : Nat) : zSem := fun _ K ls st W => match st with
  | .int x :: .int i :: .ref a :: r => (zsto 1 W a i (x &&& 1)).bind fun W' => K nx ls r W'
  | _ => none
def s_last (nx : Nat) : zSem := fun _ K ls st W => match st with
  | .long x :: .int i :: .ref a :: r => (zstl W a i x).bind fun W' => K nx ls r W'
  | _ => none
def zany (W : zW) (a : Nat) (o : zR) : zR := bif zio W a then o else none
def s_qast (nx : Nat) : zSem := fun _ K ls st W => match st with
  | .ref x :: .int i :: .ref a :: r => zany W x ((zstq W a i x).bind fun W' => K nx ls r W')
  | _ => none
def zck (ci : Nat) (W : zW) (a : Nat) (o : zR) : zR := match zob ci W a with
  | some _ => o
  | none => none
def s_cast (ci nx : Nat) : zSem := fun _ K ls st W => match st with
  | .ref a :: r => zck ci W a (K nx ls (.ref a :: r) W)
  | _ => none
def zckq (W : zW) (a : Nat) (o : zR) : zR := match W.2.2 a with
  | some (.inr (.inr (.inl (k, _, _)))) => if k = 3 then o else none
  | _ => none
def s_gcls (mi nx : Nat) : zSem := fun _ K ls st W => match st with
  | .ref a :: r => bif Nat.ble (zcs r) 8 then zckq W a (K nx ls (.ref mi :: r) W) else none
  | _ => none
def s_cpy (nx : Nat) : zSem := fun _ K ls st W => match st with
  | [.int n, .int dp, .ref d, .int sp, .ref s] => (zcpy W s sp d dp n).bind fun W' => K nx ls [] W'
  | _ => none
def s_rI : zSem := fun _ _ _ st W => match st with
  | [.int x] => some (.inl (some (.int x)), W)
  | _ => none
def s_rZ : zSem := fun _ _ _ st W => match st with
  | [.int x] => if x &&& 1 = x then some (.inl (some (.int x)), W) else none
  | _ => none
def s_rR : zSem := fun _ _ _ st W => match st with
  | [.ref x] => some (.inl (some (.ref x)), W)
  | [.null] => some (.inl (some .null), W)
  | _ => none
def s_rV : zSem := fun _ _ _ st W => match st with
  | [] => some (.inl none, W)
  | _ => none
def s_thr (E : Nat) : zSem := fun _ _ _ st W => match st with
  | [] => some (.inr E, (W.1 + 1, W.2.1 + 6, W.2.2))
  | _ => none
/-- behind a call: by what comes back -/
def zthI (o : zR) (f : Int32 → zW → zR) (fe : Nat → zW → zR) : zR := match o with
  | some (.inl (some (.int x)), W) => f x W
  | some (.inr E, W) => fe E W
  | _ => none
def zthR (o : zR) (f : Nat → zW → zR) (fe : Nat → zW → zR) : zR := match o with
  | some (.inl (some (.ref x)), W) => f x W
  | some (.inr E, W) => fe E W
  | _ => none
def zthN (o : zR) (f : Nat → zW → zR) (fn : zW → zR) (fe : Nat → zW → zR) : zR := match o with
  | some (.inl (some (.ref x)), W) => f x W
  | some (.inl (some .null), W) => fn W
  | some (.inr E, W) => fe E W
  | _ => none
def zthV (o : zR) (f : zW → zR) (fe : Nat → zW → zR) : zR := match o with
  | some (.inl none, W) => f W
  | some (.inr E, W) => fe E W
  | _ => none
/-- ahead of a call: whose method it is -/
def zpS : List Value → zW → zR → zR := fun _ _ o => o
def zpI : List Value → zW → zR → zR := fun as _ o => match as with
  | .ref _ :: _ => o
  | _ => none
def zpV (ci : Nat) : List Value → zW → zR → zR := fun as W o => match as with
  | .ref b :: _ => zck ci W b o
  | _ => none
/-- an exception that goes on to the caller; one that is caught -/
abbrev zH : Type := zK → List Value → Nat → zW → zR
def zx0 : zH := fun _ _ E W => some (.inr E, W)
def zxc (v : Nat) (hs : List (Nat × Nat)) : zH := fun K ls E W => match hs with
  | [] => none
  | (e0, h0) :: t0 => if E = e0 then K h0 (zset ls v zU) [] W else match t0 with
    | [] => none
    | (e1, h1) :: t1 => if E = e1 then K h1 (zset ls v zU) [] W else match t1 with
      | [] => none
      | (e2, h2) :: _ => if E = e2 then K h2 (zset ls v zU) [] W else none
def s_cI (p : List Value → zW → zR → zR) (y n : Nat) (pad : List Value) (hx : zH) (nx : Nat) : zSem := fun F K ls st W => match zsp n [] st with
  | some (as, r) => zthI (p as W (F y 0 (as ++ pad) [] W)) (fun x W' => K nx ls (.int x :: r) W') (hx K ls)
  | none => none
def s_cR (p : List Value → zW → zR → zR) (y n : Nat) (pad : List Value) (hx : zH) (nx : Nat) : zSem := fun F K ls st W => match zsp n [] st with
  | some (as, r) => zthR (p as W (F y 0 (as ++ pad) [] W)) (fun x W' => K nx ls (.ref x :: r) W') (hx K ls)
  | none => none
def s_cN (p : List Value → zW → zR → zR) (y n : Nat) (pad : List Value) (hx : zH) (nx : Nat) : zSem := fun F K ls st W => match zsp n [] st with
  | some (as, r) => zthN (p as W (F y 0 (as ++ pad) [] W)) (fun x W' => K nx ls (.ref x :: r) W') (fun W' => K nx ls (.null :: r) W') (hx K ls)
  | none => none
def s_cV (p : List Value → zW → zR → zR) (y n : Nat) (pad : List Value) (hx : zH) (nx : Nat) : zSem := fun F K ls st W => match zsp n [] st with
  | some (as, r) => zthV (p as W (F y 0 (as ++ pad) [] W)) (fun W' => K nx ls r W') (hx K ls)
  | none => none
/-- Object's constructor, which does nothing -/
def s_obj (nx : Nat) : zSem := fun _ K ls st W => match st with
  | [.ref _] => K nx ls [] W
  | _ => none
def s_no : zSem := fun _ _ _ _ _ => none
/-! its runs: the least fixed point -/
def zMon (S : zSem) : Prop := ∀ (F F' : zF) (K K' : zK), (∀ y pc ls st W r, F y pc ls st W = some r → F' y pc ls st W = some r) → (∀ pc ls st W r, K pc ls st W = some r → K' pc ls st W = some r) → ∀ ls st W r, S F K ls st W = some r → S F' K' ls st W = some r
def zstep (code : Nat → Nat → zSem) : zF → zF := fun F y pc ls st W => code y pc F (F y) ls st W
theorem zrel_some {α : Type} {x y : Option α} (h : Lean.Order.PartialOrder.rel x y) (r : α) (hx : x = some r) : y = some r := by
  cases h with
  | bot => cases hx
  | refl => exact hx
theorem zrel_of {α : Type} {x y : Option α} (h : ∀ r, x = some r → y = some r) : Lean.Order.PartialOrder.rel x y := by
  cases x with
  | none => exact Lean.Order.FlatOrder.rel.bot
  | some r => rw [h r rfl]; exact Lean.Order.PartialOrder.rel_refl
theorem zstep_mono {code : Nat → Nat → zSem} (h : ∀ y pc, zMon (code y pc)) : Lean.Order.monotone (zstep code) := by
  intro F F' hF y pc ls st W
  refine zrel_of fun r hr => ?_
  have h1 : ∀ y pc ls st W r, F y pc ls st W = some r → F' y pc ls st W = some r := fun y pc ls st W r hr => zrel_some (hF y pc ls st W) r hr
  exact h y pc F F' (F y) (F' y) h1 (h1 y) ls st W r hr
noncomputable def zfix (code : Nat → Nat → zSem) (h : ∀ y pc, zMon (code y pc)) : zF := Lean.Order.fix (zstep code) (zstep_mono h)
theorem zfix_eq (code : Nat → Nat → zSem) (h : ∀ y pc, zMon (code y pc)) (y pc : Nat) (ls st : List Value) (W : zW) : zfix code h y pc ls st W = code y pc (zfix code h) (zfix code h y) ls st W := by
  have e : zfix code h = zstep code (zfix code h) := Lean.Order.fix_eq (zstep_mono h)
  exact congrFun (congrFun (congrFun (congrFun (congrFun e y) pc) ls) st) W
theorem zfix_ind (code : Nat → Nat → zSem) (h : ∀ y pc, zMon (code y pc)) (P : Nat → Nat → List Value → List Value → zW → zO × zW → Prop)
    (hs : ∀ F : zF, (∀ y pc ls st W r, F y pc ls st W = some r → P y pc ls st W r) → ∀ y pc ls st W r, code y pc F (F y) ls st W = some r → P y pc ls st W r) :
    ∀ y pc ls st W r, zfix code h y pc ls st W = some r → P y pc ls st W r := by
  refine Lean.Order.fix_induct (zstep_mono h) (fun F : zF => ∀ y pc ls st W r, F y pc ls st W = some r → P y pc ls st W r) ?_ (fun F hF => hs F hF)
  refine Lean.Order.admissible_pi_apply (fun y (g : Nat → List Value → List Value → zW → zR) => ∀ pc ls st W r, g pc ls st W = some r → P y pc ls st W r) fun y => ?_
  refine Lean.Order.admissible_pi_apply (fun pc (g : List Value → List Value → zW → zR) => ∀ ls st W r, g ls st W = some r → P y pc ls st W r) fun pc => ?_
  refine Lean.Order.admissible_pi_apply (fun ls (g : List Value → zW → zR) => ∀ st W r, g st W = some r → P y pc ls st W r) fun ls => ?_
  refine Lean.Order.admissible_pi_apply (fun st (g : zW → zR) => ∀ W r, g W = some r → P y pc ls st W r) fun st => ?_
  refine Lean.Order.admissible_pi_apply (fun W (g : zR) => ∀ r, g = some r → P y pc ls st W r) fun W => ?_
  exact Lean.Order.admissible_flatOrder (b := (none : Option (zO × zW))) _ (fun r hr => by cases hr)
/-- a stretch of instructions, up to its heads -/
def zin : List Nat → Nat → Bool
  | [], _ => false
  | a :: l, b => bif Nat.beq a b then true else zin l b
def zx (F : zF) (cd : Nat → zSem) (y : Nat) (stop : List Nat) : Nat → zK
  | 0 => F y
  | n + 1 => fun pc ls st W => bif zin stop pc then F y pc ls st W else cd pc F (zx F cd y stop n) ls st W
theorem zx_eq {F : zF} {cd : Nat → zSem} {y : Nat} (hF : ∀ pc ls st W, F y pc ls st W = cd pc F (F y) ls st W) (stop : List Nat) : ∀ n, zx F cd y stop n = F y
  | 0 => rfl
  | n + 1 => by
    funext pc ls st W
    show (bif zin stop pc then F y pc ls st W else cd pc F (zx F cd y stop n) ls st W) = _
    rw [zx_eq hF stop n]
    cases zin stop pc
    · exact (hF pc ls st W).symm
    · rfl
theorem zx_st {F : zF} {cd : Nat → zSem} {y : Nat} (hF : ∀ pc ls st W, F y pc ls st W = cd pc F (F y) ls st W) (stop : List Nat) (n pc : Nat) (ls st : List Value) (W : zW) : F y pc ls st W = cd pc F (zx F cd y stop n) ls st W := by
  rw [zx_eq hF stop n]
  exact hF pc ls st W
abbrev zxe : Nat → zW → zR := fun E W => some (.inr E, W)
theorem mo_ite {c : Prop} {_ : Decidable c} {a b a' b' : zR} {r : zO × zW} (ha : a = some r → a' = some r) (hb : b = some r → b' = some r) (h : (if c then a else b) = some r) : (if c then a' else b') = some r := by
  by_cases hc : c
  · rw [if_pos hc] at h ⊢; exact ha h
  · rw [if_neg hc] at h ⊢; exact hb h
theorem mo_bind {α : Type} {o : Option α} {f f' : α → zR} {r : zO × zW} (hf : ∀ x, f x = some r → f' x = some r) (h : o.bind f = some r) : o.bind f' = some r := by
  cases o with
  | none => exact h
  | some x => exact hf x h
theorem mo_zck {ci : Nat} {W : zW} {a : Nat} {o o' : zR} {r : zO × zW} (ho : o = some r → o' = some r) (h : zck ci W a o = some r) : zck ci W a o' = some r := by
  unfold zck at h ⊢
  split at h
  · exact ho h
  · cases h
theorem mo_zckq {W : zW} {a : Nat} {o o' : zR} {r : zO × zW} (ho : o = some r → o' = some r) (h : zckq W a o = some r) : zckq W a o' = some r := by
  unfold zckq at h ⊢
  split at h
  · exact mo_ite ho id h
  · cases h
theorem mo_zany {W : zW} {a : Nat} {o o' : zR} {r : zO × zW} (ho : o = some r → o' = some r) (h : zany W a o = some r) : zany W a o' = some r := by
  unfold zany at h ⊢
  cases hz : zio W a with
  | true => rw [hz] at h; exact ho h
  | false => rw [hz] at h; exact h
theorem mo_bif {b : Bool} {o o' : zR} {r : zO × zW} (ho : o = some r → o' = some r) (h : (bif b then o else none) = some r) : (bif b then o' else none) = some r := by
  cases b
  · exact h
  · exact ho h
theorem mo_iload (i nx : Nat) : zMon (s_iload i nx) := by
  intro F F' K K' hF hK ls st W r h
  simp only [s_iload] at h ⊢
  first
    | exact hK _ _ _ _ _ h
    | exact h
    | (split at h <;> first | exact hK _ _ _ _ _ h | exact h | (cases h; done) | (refine mo_ite (fun h => ?_) (fun h => ?_) h <;> first | exact hK _ _ _ _ _ h | exact h | exact mo_bind (fun x h => hK _ _ _ _ _ h) h) | exact mo_bind (fun x h => hK _ _ _ _ _ h) h | exact mo_zck (hK _ _ _ _ _) h | exact mo_zckq (hK _ _ _ _ _) h | exact mo_bif (mo_zckq (hK _ _ _ _ _)) h | exact mo_zany (fun h => mo_bind (fun x h => hK _ _ _ _ _ h) h) h)
theorem mo_aload (i nx : Nat) : zMon (s_aload i nx) := by
  intro F F' K K' hF hK ls st W r h
  simp only [s_aload] at h ⊢
  first
    | exact hK _ _ _ _ _ h
    | exact h
    | (split at h <;> first | exact hK _ _ _ _ _ h | exact h | (cases h; done) | (refine mo_ite (fun h => ?_) (fun h => ?_) h <;> first | exact hK _ _ _ _ _ h | exact h | exact mo_bind (fun x h => hK _ _ _ _ _ h) h) | exact mo_bind (fun x h => hK _ _ _ _ _ h) h | exact mo_zck (hK _ _ _ _ _) h | exact mo_zckq (hK _ _ _ _ _) h | exact mo_bif (mo_zckq (hK _ _ _ _ _)) h | exact mo_zany (fun h => mo_bind (fun x h => hK _ _ _ _ _ h) h) h)
theorem mo_istore (i nx : Nat) : zMon (s_istore i nx) := by
  intro F F' K K' hF hK ls st W r h
  simp only [s_istore] at h ⊢
  first
    | exact hK _ _ _ _ _ h
    | exact h
    | (split at h <;> first | exact hK _ _ _ _ _ h | exact h | (cases h; done) | (refine mo_ite (fun h => ?_) (fun h => ?_) h <;> first | exact hK _ _ _ _ _ h | exact h | exact mo_bind (fun x h => hK _ _ _ _ _ h) h) | exact mo_bind (fun x h => hK _ _ _ _ _ h) h | exact mo_zck (hK _ _ _ _ _) h | exact mo_zckq (hK _ _ _ _ _) h | exact mo_bif (mo_zckq (hK _ _ _ _ _)) h | exact mo_zany (fun h => mo_bind (fun x h => hK _ _ _ _ _ h) h) h)
theorem mo_astore (i nx : Nat) : zMon (s_astore i nx) := by
  intro F F' K K' hF hK ls st W r h
  simp only [s_astore] at h ⊢
  first
    | exact hK _ _ _ _ _ h
    | exact h
    | (split at h <;> first | exact hK _ _ _ _ _ h | exact h | (cases h; done) | (refine mo_ite (fun h => ?_) (fun h => ?_) h <;> first | exact hK _ _ _ _ _ h | exact h | exact mo_bind (fun x h => hK _ _ _ _ _ h) h) | exact mo_bind (fun x h => hK _ _ _ _ _ h) h | exact mo_zck (hK _ _ _ _ _) h | exact mo_zckq (hK _ _ _ _ _) h | exact mo_bif (mo_zckq (hK _ _ _ _ _)) h | exact mo_zany (fun h => mo_bind (fun x h => hK _ _ _ _ _ h) h) h)
theorem mo_iinc (i : Nat) (d : Int32) (nx : Nat) : zMon (s_iinc i d nx) := by
  intro F F' K K' hF hK ls st W r h
  simp only [s_iinc] at h ⊢
  first
    | exact hK _ _ _ _ _ h
    | exact h
    | (split at h <;> first | exact hK _ _ _ _ _ h | exact h | (cases h; done) | (refine mo_ite (fun h => ?_) (fun h => ?_) h <;> first | exact hK _ _ _ _ _ h | exact h | exact mo_bind (fun x h => hK _ _ _ _ _ h) h) | exact mo_bind (fun x h => hK _ _ _ _ _ h) h | exact mo_zck (hK _ _ _ _ _) h | exact mo_zckq (hK _ _ _ _ _) h | exact mo_bif (mo_zckq (hK _ _ _ _ _)) h | exact mo_zany (fun h => mo_bind (fun x h => hK _ _ _ _ _ h) h) h)
theorem mo_ic (v : Int32) (nx : Nat) : zMon (s_ic v nx) := by
  intro F F' K K' hF hK ls st W r h
  simp only [s_ic] at h ⊢
  first
    | exact hK _ _ _ _ _ h
    | exact h
    | (split at h <;> first | exact hK _ _ _ _ _ h | exact h | (cases h; done) | (refine mo_ite (fun h => ?_) (fun h => ?_) h <;> first | exact hK _ _ _ _ _ h | exact h | exact mo_bind (fun x h => hK _ _ _ _ _ h) h) | exact mo_bind (fun x h => hK _ _ _ _ _ h) h | exact mo_zck (hK _ _ _ _ _) h | exact mo_zckq (hK _ _ _ _ _) h | exact mo_bif (mo_zckq (hK _ _ _ _ _)) h | exact mo_zany (fun h => mo_bind (fun x h => hK _ _ _ _ _ h) h) h)
theorem mo_lc (v : Int64) (nx : Nat) : zMon (s_lc v nx) := by
  intro F F' K K' hF hK ls st W r h
  simp only [s_lc] at h ⊢
  first
    | exact hK _ _ _ _ _ h
    | exact h
    | (split at h <;> first | exact hK _ _ _ _ _ h | exact h | (cases h; done) | (refine mo_ite (fun h => ?_) (fun h => ?_) h <;> first | exact hK _ _ _ _ _ h | exact h | exact mo_bind (fun x h => hK _ _ _ _ _ h) h) | exact mo_bind (fun x h => hK _ _ _ _ _ h) h | exact mo_zck (hK _ _ _ _ _) h | exact mo_zckq (hK _ _ _ _ _) h | exact mo_bif (mo_zckq (hK _ _ _ _ _)) h | exact mo_zany (fun h => mo_bind (fun x h => hK _ _ _ _ _ h) h) h)
theorem mo_null (nx : Nat) : zMon (s_null nx) := by
  intro F F' K K' hF hK ls st W r h
  simp only [s_null] at h ⊢
  first
    | exact hK _ _ _ _ _ h
    | exact h
    | (split at h <;> first | exact hK _ _ _ _ _ h | exact h | (cases h; done) | (refine mo_ite (fun h => ?_) (fun h => ?_) h <;> first | exact hK _ _ _ _ _ h | exact h | exact mo_bind (fun x h => hK _ _ _ _ _ h) h) | exact mo_bind (fun x h => hK _ _ _ _ _ h) h | exact mo_zck (hK _ _ _ _ _) h | exact mo_zckq (hK _ _ _ _ _) h | exact mo_bif (mo_zckq (hK _ _ _ _ _)) h | exact mo_zany (fun h => mo_bind (fun x h => hK _ _ _ _ _ h) h) h)
theorem mo_iadd (nx : Nat) : zMon (s_iadd nx) := by
  intro F F' K K' hF hK ls st W r h
  simp only [s_iadd] at h ⊢
  first
    | exact hK _ _ _ _ _ h
    | exact h
    | (split at h <;> first | exact hK _ _ _ _ _ h | exact h | (cases h; done) | (refine mo_ite (fun h => ?_) (fun h => ?_) h <;> first | exact hK _ _ _ _ _ h | exact h | exact mo_bind (fun x h => hK _ _ _ _ _ h) h) | exact mo_bind (fun x h => hK _ _ _ _ _ h) h | exact mo_zck (hK _ _ _ _ _) h | exact mo_zckq (hK _ _ _ _ _) h | exact mo_bif (mo_zckq (hK _ _ _ _ _)) h | exact mo_zany (fun h => mo_bind (fun x h => hK _ _ _ _ _ h) h) h)
theorem mo_isub (nx : Nat) : zMon (s_isub nx) := by
  intro F F' K K' hF hK ls st W r h
  simp only [s_isub] at h ⊢
  first
    | exact hK _ _ _ _ _ h
    | exact h
    | (split at h <;> first | exact hK _ _ _ _ _ h | exact h | (cases h; done) | (refine mo_ite (fun h => ?_) (fun h => ?_) h <;> first | exact hK _ _ _ _ _ h | exact h | exact mo_bind (fun x h => hK _ _ _ _ _ h) h) | exact mo_bind (fun x h => hK _ _ _ _ _ h) h | exact mo_zck (hK _ _ _ _ _) h | exact mo_zckq (hK _ _ _ _ _) h | exact mo_bif (mo_zckq (hK _ _ _ _ _)) h | exact mo_zany (fun h => mo_bind (fun x h => hK _ _ _ _ _ h) h) h)
theorem mo_imul (nx : Nat) : zMon (s_imul nx) := by
  intro F F' K K' hF hK ls st W r h
  simp only [s_imul] at h ⊢
  first
    | exact hK _ _ _ _ _ h
    | exact h
    | (split at h <;> first | exact hK _ _ _ _ _ h | exact h | (cases h; done) | (refine mo_ite (fun h => ?_) (fun h => ?_) h <;> first | exact hK _ _ _ _ _ h | exact h | exact mo_bind (fun x h => hK _ _ _ _ _ h) h) | exact mo_bind (fun x h => hK _ _ _ _ _ h) h | exact mo_zck (hK _ _ _ _ _) h | exact mo_zckq (hK _ _ _ _ _) h | exact mo_bif (mo_zckq (hK _ _ _ _ _)) h | exact mo_zany (fun h => mo_bind (fun x h => hK _ _ _ _ _ h) h) h)
theorem mo_iand (nx : Nat) : zMon (s_iand nx) := by
  intro F F' K K' hF hK ls st W r h
  simp only [s_iand] at h ⊢
  first
    | exact hK _ _ _ _ _ h
    | exact h
    | (split at h <;> first | exact hK _ _ _ _ _ h | exact h | (cases h; done) | (refine mo_ite (fun h => ?_) (fun h => ?_) h <;> first | exact hK _ _ _ _ _ h | exact h | exact mo_bind (fun x h => hK _ _ _ _ _ h) h) | exact mo_bind (fun x h => hK _ _ _ _ _ h) h | exact mo_zck (hK _ _ _ _ _) h | exact mo_zckq (hK _ _ _ _ _) h | exact mo_bif (mo_zckq (hK _ _ _ _ _)) h | exact mo_zany (fun h => mo_bind (fun x h => hK _ _ _ _ _ h) h) h)
theorem mo_ior (nx : Nat) : zMon (s_ior nx) := by
  intro F F' K K' hF hK ls st W r h
  simp only [s_ior] at h ⊢
  first
    | exact hK _ _ _ _ _ h
    | exact h
    | (split at h <;> first | exact hK _ _ _ _ _ h | exact h | (cases h; done) | (refine mo_ite (fun h => ?_) (fun h => ?_) h <;> first | exact hK _ _ _ _ _ h | exact h | exact mo_bind (fun x h => hK _ _ _ _ _ h) h) | exact mo_bind (fun x h => hK _ _ _ _ _ h) h | exact mo_zck (hK _ _ _ _ _) h | exact mo_zckq (hK _ _ _ _ _) h | exact mo_bif (mo_zckq (hK _ _ _ _ _)) h | exact mo_zany (fun h => mo_bind (fun x h => hK _ _ _ _ _ h) h) h)
theorem mo_ixor (nx : Nat) : zMon (s_ixor nx) := by
  intro F F' K K' hF hK ls st W r h
  simp only [s_ixor] at h ⊢
  first
    | exact hK _ _ _ _ _ h
    | exact h
    | (split at h <;> first | exact hK _ _ _ _ _ h | exact h | (cases h; done) | (refine mo_ite (fun h => ?_) (fun h => ?_) h <;> first | exact hK _ _ _ _ _ h | exact h | exact mo_bind (fun x h => hK _ _ _ _ _ h) h) | exact mo_bind (fun x h => hK _ _ _ _ _ h) h | exact mo_zck (hK _ _ _ _ _) h | exact mo_zckq (hK _ _ _ _ _) h | exact mo_bif (mo_zckq (hK _ _ _ _ _)) h | exact mo_zany (fun h => mo_bind (fun x h => hK _ _ _ _ _ h) h) h)
theorem mo_ishl (nx : Nat) : zMon (s_ishl nx) := by
  intro F F' K K' hF hK ls st W r h
  simp only [s_ishl] at h ⊢
  first
    | exact hK _ _ _ _ _ h
    | exact h
    | (split at h <;> first | exact hK _ _ _ _ _ h | exact h | (cases h; done) | (refine mo_ite (fun h => ?_) (fun h => ?_) h <;> first | exact hK _ _ _ _ _ h | exact h | exact mo_bind (fun x h => hK _ _ _ _ _ h) h) | exact mo_bind (fun x h => hK _ _ _ _ _ h) h | exact mo_zck (hK _ _ _ _ _) h | exact mo_zckq (hK _ _ _ _ _) h | exact mo_bif (mo_zckq (hK _ _ _ _ _)) h | exact mo_zany (fun h => mo_bind (fun x h => hK _ _ _ _ _ h) h) h)
theorem mo_ishr (nx : Nat) : zMon (s_ishr nx) := by
  intro F F' K K' hF hK ls st W r h
  simp only [s_ishr] at h ⊢
  first
    | exact hK _ _ _ _ _ h
    | exact h
    | (split at h <;> first | exact hK _ _ _ _ _ h | exact h | (cases h; done) | (refine mo_ite (fun h => ?_) (fun h => ?_) h <;> first | exact hK _ _ _ _ _ h | exact h | exact mo_bind (fun x h => hK _ _ _ _ _ h) h) | exact mo_bind (fun x h => hK _ _ _ _ _ h) h | exact mo_zck (hK _ _ _ _ _) h | exact mo_zckq (hK _ _ _ _ _) h | exact mo_bif (mo_zckq (hK _ _ _ _ _)) h | exact mo_zany (fun h => mo_bind (fun x h => hK _ _ _ _ _ h) h) h)
theorem mo_iushr (nx : Nat) : zMon (s_iushr nx) := by
  intro F F' K K' hF hK ls st W r h
  simp only [s_iushr] at h ⊢
  first
    | exact hK _ _ _ _ _ h
    | exact h
    | (split at h <;> first | exact hK _ _ _ _ _ h | exact h | (cases h; done) | (refine mo_ite (fun h => ?_) (fun h => ?_) h <;> first | exact hK _ _ _ _ _ h | exact h | exact mo_bind (fun x h => hK _ _ _ _ _ h) h) | exact mo_bind (fun x h => hK _ _ _ _ _ h) h | exact mo_zck (hK _ _ _ _ _) h | exact mo_zckq (hK _ _ _ _ _) h | exact mo_bif (mo_zckq (hK _ _ _ _ _)) h | exact mo_zany (fun h => mo_bind (fun x h => hK _ _ _ _ _ h) h) h)
theorem mo_idiv (nx : Nat) : zMon (s_idiv nx) := by
  intro F F' K K' hF hK ls st W r h
  simp only [s_idiv] at h ⊢
  first
    | exact hK _ _ _ _ _ h
    | exact h
    | (split at h <;> first | exact hK _ _ _ _ _ h | exact h | (cases h; done) | (refine mo_ite (fun h => ?_) (fun h => ?_) h <;> first | exact hK _ _ _ _ _ h | exact h | exact mo_bind (fun x h => hK _ _ _ _ _ h) h) | exact mo_bind (fun x h => hK _ _ _ _ _ h) h | exact mo_zck (hK _ _ _ _ _) h | exact mo_zckq (hK _ _ _ _ _) h | exact mo_bif (mo_zckq (hK _ _ _ _ _)) h | exact mo_zany (fun h => mo_bind (fun x h => hK _ _ _ _ _ h) h) h)
theorem mo_irem (nx : Nat) : zMon (s_irem nx) := by
  intro F F' K K' hF hK ls st W r h
  simp only [s_irem] at h ⊢
  first
    | exact hK _ _ _ _ _ h
    | exact h
    | (split at h <;> first | exact hK _ _ _ _ _ h | exact h | (cases h; done) | (refine mo_ite (fun h => ?_) (fun h => ?_) h <;> first | exact hK _ _ _ _ _ h | exact h | exact mo_bind (fun x h => hK _ _ _ _ _ h) h) | exact mo_bind (fun x h => hK _ _ _ _ _ h) h | exact mo_zck (hK _ _ _ _ _) h | exact mo_zckq (hK _ _ _ _ _) h | exact mo_bif (mo_zckq (hK _ _ _ _ _)) h | exact mo_zany (fun h => mo_bind (fun x h => hK _ _ _ _ _ h) h) h)
theorem mo_ineg (nx : Nat) : zMon (s_ineg nx) := by
  intro F F' K K' hF hK ls st W r h
  simp only [s_ineg] at h ⊢
  first
    | exact hK _ _ _ _ _ h
    | exact h
    | (split at h <;> first | exact hK _ _ _ _ _ h | exact h | (cases h; done) | (refine mo_ite (fun h => ?_) (fun h => ?_) h <;> first | exact hK _ _ _ _ _ h | exact h | exact mo_bind (fun x h => hK _ _ _ _ _ h) h) | exact mo_bind (fun x h => hK _ _ _ _ _ h) h | exact mo_zck (hK _ _ _ _ _) h | exact mo_zckq (hK _ _ _ _ _) h | exact mo_bif (mo_zckq (hK _ _ _ _ _)) h | exact mo_zany (fun h => mo_bind (fun x h => hK _ _ _ _ _ h) h) h)
theorem mo_i2l (nx : Nat) : zMon (s_i2l nx) := by
  intro F F' K K' hF hK ls st W r h
  simp only [s_i2l] at h ⊢
  first
    | exact hK _ _ _ _ _ h
    | exact h
    | (split at h <;> first | exact hK _ _ _ _ _ h | exact h | (cases h; done) | (refine mo_ite (fun h => ?_) (fun h => ?_) h <;> first | exact hK _ _ _ _ _ h | exact h | exact mo_bind (fun x h => hK _ _ _ _ _ h) h) | exact mo_bind (fun x h => hK _ _ _ _ _ h) h | exact mo_zck (hK _ _ _ _ _) h | exact mo_zckq (hK _ _ _ _ _) h | exact mo_bif (mo_zckq (hK _ _ _ _ _)) h | exact mo_zany (fun h => mo_bind (fun x h => hK _ _ _ _ _ h) h) h)
theorem mo_lcmp (nx : Nat) : zMon (s_lcmp nx) := by
  intro F F' K K' hF hK ls st W r h
  simp only [s_lcmp] at h ⊢
  first
    | exact hK _ _ _ _ _ h
    | exact h
    | (split at h <;> first | exact hK _ _ _ _ _ h | exact h | (cases h; done) | (refine mo_ite (fun h => ?_) (fun h => ?_) h <;> first | exact hK _ _ _ _ _ h | exact h | exact mo_bind (fun x h => hK _ _ _ _ _ h) h) | exact mo_bind (fun x h => hK _ _ _ _ _ h) h | exact mo_zck (hK _ _ _ _ _) h | exact mo_zckq (hK _ _ _ _ _) h | exact mo_bif (mo_zckq (hK _ _ _ _ _)) h | exact mo_zany (fun h => mo_bind (fun x h => hK _ _ _ _ _ h) h) h)
theorem mo_dup (nx : Nat) : zMon (s_dup nx) := by
  intro F F' K K' hF hK ls st W r h
  simp only [s_dup] at h ⊢
  first
    | exact hK _ _ _ _ _ h
    | exact h
    | (split at h <;> first | exact hK _ _ _ _ _ h | exact h | (cases h; done) | (refine mo_ite (fun h => ?_) (fun h => ?_) h <;> first | exact hK _ _ _ _ _ h | exact h | exact mo_bind (fun x h => hK _ _ _ _ _ h) h) | exact mo_bind (fun x h => hK _ _ _ _ _ h) h | exact mo_zck (hK _ _ _ _ _) h | exact mo_zckq (hK _ _ _ _ _) h | exact mo_bif (mo_zckq (hK _ _ _ _ _)) h | exact mo_zany (fun h => mo_bind (fun x h => hK _ _ _ _ _ h) h) h)
theorem mo_dup2 (nx : Nat) : zMon (s_dup2 nx) := by
  intro F F' K K' hF hK ls st W r h
  simp only [s_dup2] at h ⊢
  first
    | exact hK _ _ _ _ _ h
    | exact h
    | (split at h <;> first | exact hK _ _ _ _ _ h | exact h | (cases h; done) | (refine mo_ite (fun h => ?_) (fun h => ?_) h <;> first | exact hK _ _ _ _ _ h | exact h | exact mo_bind (fun x h => hK _ _ _ _ _ h) h) | exact mo_bind (fun x h => hK _ _ _ _ _ h) h | exact mo_zck (hK _ _ _ _ _) h | exact mo_zckq (hK _ _ _ _ _) h | exact mo_bif (mo_zckq (hK _ _ _ _ _)) h | exact mo_zany (fun h => mo_bind (fun x h => hK _ _ _ _ _ h) h) h)
theorem mo_dupx1 (nx : Nat) : zMon (s_dupx1 nx) := by
  intro F F' K K' hF hK ls st W r h
  simp only [s_dupx1] at h ⊢
  first
    | exact hK _ _ _ _ _ h
    | exact h
    | (split at h <;> first | exact hK _ _ _ _ _ h | exact h | (cases h; done) | (refine mo_ite (fun h => ?_) (fun h => ?_) h <;> first | exact hK _ _ _ _ _ h | exact h | exact mo_bind (fun x h => hK _ _ _ _ _ h) h) | exact mo_bind (fun x h => hK _ _ _ _ _ h) h | exact mo_zck (hK _ _ _ _ _) h | exact mo_zckq (hK _ _ _ _ _) h | exact mo_bif (mo_zckq (hK _ _ _ _ _)) h | exact mo_zany (fun h => mo_bind (fun x h => hK _ _ _ _ _ h) h) h)
theorem mo_pop (nx : Nat) : zMon (s_pop nx) := by
  intro F F' K K' hF hK ls st W r h
  simp only [s_pop] at h ⊢
  first
    | exact hK _ _ _ _ _ h
    | exact h
    | (split at h <;> first | exact hK _ _ _ _ _ h | exact h | (cases h; done) | (refine mo_ite (fun h => ?_) (fun h => ?_) h <;> first | exact hK _ _ _ _ _ h | exact h | exact mo_bind (fun x h => hK _ _ _ _ _ h) h) | exact mo_bind (fun x h => hK _ _ _ _ _ h) h | exact mo_zck (hK _ _ _ _ _) h | exact mo_zckq (hK _ _ _ _ _) h | exact mo_bif (mo_zckq (hK _ _ _ _ _)) h | exact mo_zany (fun h => mo_bind (fun x h => hK _ _ _ _ _ h) h) h)
theorem mo_goto (t : Nat) : zMon (s_goto t) := by
  intro F F' K K' hF hK ls st W r h
  simp only [s_goto] at h ⊢
  first
    | exact hK _ _ _ _ _ h
    | exact h
    | (split at h <;> first | exact hK _ _ _ _ _ h | exact h | (cases h; done) | (refine mo_ite (fun h => ?_) (fun h => ?_) h <;> first | exact hK _ _ _ _ _ h | exact h | exact mo_bind (fun x h => hK _ _ _ _ _ h) h) | exact mo_bind (fun x h => hK _ _ _ _ _ h) h | exact mo_zck (hK _ _ _ _ _) h | exact mo_zckq (hK _ _ _ _ _) h | exact mo_bif (mo_zckq (hK _ _ _ _ _)) h | exact mo_zany (fun h => mo_bind (fun x h => hK _ _ _ _ _ h) h) h)
theorem mo_ifeq (t nx : Nat) : zMon (s_ifeq t nx) := by
  intro F F' K K' hF hK ls st W r h
  simp only [s_ifeq] at h ⊢
  first
    | exact hK _ _ _ _ _ h
    | exact h
    | (split at h <;> first | exact hK _ _ _ _ _ h | exact h | (cases h; done) | (refine mo_ite (fun h => ?_) (fun h => ?_) h <;> first | exact hK _ _ _ _ _ h | exact h | exact mo_bind (fun x h => hK _ _ _ _ _ h) h) | exact mo_bind (fun x h => hK _ _ _ _ _ h) h | exact mo_zck (hK _ _ _ _ _) h | exact mo_zckq (hK _ _ _ _ _) h | exact mo_bif (mo_zckq (hK _ _ _ _ _)) h | exact mo_zany (fun h => mo_bind (fun x h => hK _ _ _ _ _ h) h) h)
theorem mo_ifne (t nx : Nat) : zMon (s_ifne t nx) := by
  intro F F' K K' hF hK ls st W r h
  simp only [s_ifne] at h ⊢
  first
    | exact hK _ _ _ _ _ h
    | exact h
    | (split at h <;> first | exact hK _ _ _ _ _ h | exact h | (cases h; done) | (refine mo_ite (fun h => ?_) (fun h => ?_) h <;> first | exact hK _ _ _ _ _ h | exact h | exact mo_bind (fun x h => hK _ _ _ _ _ h) h) | exact mo_bind (fun x h => hK _ _ _ _ _ h) h | exact mo_zck (hK _ _ _ _ _) h | exact mo_zckq (hK _ _ _ _ _) h | exact mo_bif (mo_zckq (hK _ _ _ _ _)) h | exact mo_zany (fun h => mo_bind (fun x h => hK _ _ _ _ _ h) h) h)
theorem mo_iflt (t nx : Nat) : zMon (s_iflt t nx) := by
  intro F F' K K' hF hK ls st W r h
  simp only [s_iflt] at h ⊢
  first
    | exact hK _ _ _ _ _ h
    | exact h
    | (split at h <;> first | exact hK _ _ _ _ _ h | exact h | (cases h; done) | (refine mo_ite (fun h => ?_) (fun h => ?_) h <;> first | exact hK _ _ _ _ _ h | exact h | exact mo_bind (fun x h => hK _ _ _ _ _ h) h) | exact mo_bind (fun x h => hK _ _ _ _ _ h) h | exact mo_zck (hK _ _ _ _ _) h | exact mo_zckq (hK _ _ _ _ _) h | exact mo_bif (mo_zckq (hK _ _ _ _ _)) h | exact mo_zany (fun h => mo_bind (fun x h => hK _ _ _ _ _ h) h) h)
theorem mo_ifge (t nx : Nat) : zMon (s_ifge t nx) := by
  intro F F' K K' hF hK ls st W r h
  simp only [s_ifge] at h ⊢
  first
    | exact hK _ _ _ _ _ h
    | exact h
    | (split at h <;> first | exact hK _ _ _ _ _ h | exact h | (cases h; done) | (refine mo_ite (fun h => ?_) (fun h => ?_) h <;> first | exact hK _ _ _ _ _ h | exact h | exact mo_bind (fun x h => hK _ _ _ _ _ h) h) | exact mo_bind (fun x h => hK _ _ _ _ _ h) h | exact mo_zck (hK _ _ _ _ _) h | exact mo_zckq (hK _ _ _ _ _) h | exact mo_bif (mo_zckq (hK _ _ _ _ _)) h | exact mo_zany (fun h => mo_bind (fun x h => hK _ _ _ _ _ h) h) h)
theorem mo_ifgt (t nx : Nat) : zMon (s_ifgt t nx) := by
  intro F F' K K' hF hK ls st W r h
  simp only [s_ifgt] at h ⊢
  first
    | exact hK _ _ _ _ _ h
    | exact h
    | (split at h <;> first | exact hK _ _ _ _ _ h | exact h | (cases h; done) | (refine mo_ite (fun h => ?_) (fun h => ?_) h <;> first | exact hK _ _ _ _ _ h | exact h | exact mo_bind (fun x h => hK _ _ _ _ _ h) h) | exact mo_bind (fun x h => hK _ _ _ _ _ h) h | exact mo_zck (hK _ _ _ _ _) h | exact mo_zckq (hK _ _ _ _ _) h | exact mo_bif (mo_zckq (hK _ _ _ _ _)) h | exact mo_zany (fun h => mo_bind (fun x h => hK _ _ _ _ _ h) h) h)
theorem mo_ifle (t nx : Nat) : zMon (s_ifle t nx) := by
  intro F F' K K' hF hK ls st W r h
  simp only [s_ifle] at h ⊢
  first
    | exact hK _ _ _ _ _ h
    | exact h
    | (split at h <;> first | exact hK _ _ _ _ _ h | exact h | (cases h; done) | (refine mo_ite (fun h => ?_) (fun h => ?_) h <;> first | exact hK _ _ _ _ _ h | exact h | exact mo_bind (fun x h => hK _ _ _ _ _ h) h) | exact mo_bind (fun x h => hK _ _ _ _ _ h) h | exact mo_zck (hK _ _ _ _ _) h | exact mo_zckq (hK _ _ _ _ _) h | exact mo_bif (mo_zckq (hK _ _ _ _ _)) h | exact mo_zany (fun h => mo_bind (fun x h => hK _ _ _ _ _ h) h) h)
theorem mo_cmpeq (t nx : Nat) : zMon (s_cmpeq t nx) := by
  intro F F' K K' hF hK ls st W r h
  simp only [s_cmpeq] at h ⊢
  first
    | exact hK _ _ _ _ _ h
    | exact h
    | (split at h <;> first | exact hK _ _ _ _ _ h | exact h | (cases h; done) | (refine mo_ite (fun h => ?_) (fun h => ?_) h <;> first | exact hK _ _ _ _ _ h | exact h | exact mo_bind (fun x h => hK _ _ _ _ _ h) h) | exact mo_bind (fun x h => hK _ _ _ _ _ h) h | exact mo_zck (hK _ _ _ _ _) h | exact mo_zckq (hK _ _ _ _ _) h | exact mo_bif (mo_zckq (hK _ _ _ _ _)) h | exact mo_zany (fun h => mo_bind (fun x h => hK _ _ _ _ _ h) h) h)
theorem mo_cmpne (t nx : Nat) : zMon (s_cmpne t nx) := by
  intro F F' K K' hF hK ls st W r h
  simp only [s_cmpne] at h ⊢
  first
    | exact hK _ _ _ _ _ h
    | exact h
    | (split at h <;> first | exact hK _ _ _ _ _ h | exact h | (cases h; done) | (refine mo_ite (fun h => ?_) (fun h => ?_) h <;> first | exact hK _ _ _ _ _ h | exact h | exact mo_bind (fun x h => hK _ _ _ _ _ h) h) | exact mo_bind (fun x h => hK _ _ _ _ _ h) h | exact mo_zck (hK _ _ _ _ _) h | exact mo_zckq (hK _ _ _ _ _) h | exact mo_bif (mo_zckq (hK _ _ _ _ _)) h | exact mo_zany (fun h => mo_bind (fun x h => hK _ _ _ _ _ h) h) h)
theorem mo_cmplt (t nx : Nat) : zMon (s_cmplt t nx) := by
  intro F F' K K' hF hK ls st W r h
  simp only [s_cmplt] at h ⊢
  first
    | exact hK _ _ _ _ _ h
    | exact h
    | (split at h <;> first | exact hK _ _ _ _ _ h | exact h | (cases h; done) | (refine mo_ite (fun h => ?_) (fun h => ?_) h <;> first | exact hK _ _ _ _ _ h | exact h | exact mo_bind (fun x h => hK _ _ _ _ _ h) h) | exact mo_bind (fun x h => hK _ _ _ _ _ h) h | exact mo_zck (hK _ _ _ _ _) h | exact mo_zckq (hK _ _ _ _ _) h | exact mo_bif (mo_zckq (hK _ _ _ _ _)) h | exact mo_zany (fun h => mo_bind (fun x h => hK _ _ _ _ _ h) h) h)
theorem mo_cmpge (t nx : Nat) : zMon (s_cmpge t nx) := by
  intro F F' K K' hF hK ls st W r h
  simp only [s_cmpge] at h ⊢
  first
    | exact hK _ _ _ _ _ h
    | exact h
    | (split at h <;> first | exact hK _ _ _ _ _ h | exact h | (cases h; done) | (refine mo_ite (fun h => ?_) (fun h => ?_) h <;> first | exact hK _ _ _ _ _ h | exact h | exact mo_bind (fun x h => hK _ _ _ _ _ h) h) | exact mo_bind (fun x h => hK _ _ _ _ _ h) h | exact mo_zck (hK _ _ _ _ _) h | exact mo_zckq (hK _ _ _ _ _) h | exact mo_bif (mo_zckq (hK _ _ _ _ _)) h | exact mo_zany (fun h => mo_bind (fun x h => hK _ _ _ _ _ h) h) h)
theorem mo_cmpgt (t nx : Nat) : zMon (s_cmpgt t nx) := by
  intro F F' K K' hF hK ls st W r h
  simp only [s_cmpgt] at h ⊢
  first
    | exact hK _ _ _ _ _ h
    | exact h
    | (split at h <;> first | exact hK _ _ _ _ _ h | exact h | (cases h; done) | (refine mo_ite (fun h => ?_) (fun h => ?_) h <;> first | exact hK _ _ _ _ _ h | exact h | exact mo_bind (fun x h => hK _ _ _ _ _ h) h) | exact mo_bind (fun x h => hK _ _ _ _ _ h) h | exact mo_zck (hK _ _ _ _ _) h | exact mo_zckq (hK _ _ _ _ _) h | exact mo_bif (mo_zckq (hK _ _ _ _ _)) h | exact mo_zany (fun h => mo_bind (fun x h => hK _ _ _ _ _ h) h) h)
theorem mo_cmple (t nx : Nat) : zMon (s_cmple t nx) := by
  intro F F' K K' hF hK ls st W r h
  simp only [s_cmple] at h ⊢
  first
    | exact hK _ _ _ _ _ h
    | exact h
    | (split at h <;> first | exact hK _ _ _ _ _ h | exact h | (cases h; done) | (refine mo_ite (fun h => ?_) (fun h => ?_) h <;> first | exact hK _ _ _ _ _ h | exact h | exact mo_bind (fun x h => hK _ _ _ _ _ h) h) | exact mo_bind (fun x h => hK _ _ _ _ _ h) h | exact mo_zck (hK _ _ _ _ _) h | exact mo_zckq (hK _ _ _ _ _) h | exact mo_bif (mo_zckq (hK _ _ _ _ _)) h | exact mo_zany (fun h => mo_bind (fun x h => hK _ _ _ _ _ h) h) h)
theorem mo_acmpeq (t nx : Nat) : zMon (s_acmpeq t nx) := by
  intro F F' K K' hF hK ls st W r h
  simp only [s_acmpeq] at h ⊢
  first
    | exact hK _ _ _ _ _ h
    | exact h
    | (split at h <;> first | exact hK _ _ _ _ _ h | exact h | (cases h; done) | (refine mo_ite (fun h => ?_) (fun h => ?_) h <;> first | exact hK _ _ _ _ _ h | exact h | exact mo_bind (fun x h => hK _ _ _ _ _ h) h) | exact mo_bind (fun x h => hK _ _ _ _ _ h) h | exact mo_zck (hK _ _ _ _ _) h | exact mo_zckq (hK _ _ _ _ _) h | exact mo_bif (mo_zckq (hK _ _ _ _ _)) h | exact mo_zany (fun h => mo_bind (fun x h => hK _ _ _ _ _ h) h) h)
theorem mo_acmpne (t nx : Nat) : zMon (s_acmpne t nx) := by
  intro F F' K K' hF hK ls st W r h
  simp only [s_acmpne] at h ⊢
  first
    | exact hK _ _ _ _ _ h
    | exact h
    | (split at h <;> first | exact hK _ _ _ _ _ h | exact h | (cases h; done) | (refine mo_ite (fun h => ?_) (fun h => ?_) h <;> first | exact hK _ _ _ _ _ h | exact h | exact mo_bind (fun x h => hK _ _ _ _ _ h) h) | exact mo_bind (fun x h => hK _ _ _ _ _ h) h | exact mo_zck (hK _ _ _ _ _) h | exact mo_zckq (hK _ _ _ _ _) h | exact mo_bif (mo_zckq (hK _ _ _ _ _)) h | exact mo_zany (fun h => mo_bind (fun x h => hK _ _ _ _ _ h) h) h)
theorem mo_nonnull (t nx : Nat) : zMon (s_nonnull t nx) := by
  intro F F' K K' hF hK ls st W r h
  simp only [s_nonnull] at h ⊢
  first
    | exact hK _ _ _ _ _ h
    | exact h
    | (split at h <;> first | exact hK _ _ _ _ _ h | exact h | (cases h; done) | (refine mo_ite (fun h => ?_) (fun h => ?_) h <;> first | exact hK _ _ _ _ _ h | exact h | exact mo_bind (fun x h => hK _ _ _ _ _ h) h) | exact mo_bind (fun x h => hK _ _ _ _ _ h) h | exact mo_zck (hK _ _ _ _ _) h | exact mo_zckq (hK _ _ _ _ _) h | exact mo_bif (mo_zckq (hK _ _ _ _ _)) h | exact mo_zany (fun h => mo_bind (fun x h => hK _ _ _ _ _ h) h) h)
theorem mo_sw (lo : Int) (ts : List Nat) (d : Nat) : zMon (s_sw lo ts d) := by
  intro F F' K K' hF hK ls st W r h
  simp only [s_sw] at h ⊢
  first
    | exact hK _ _ _ _ _ h
    | exact h
    | (split at h <;> first | exact hK _ _ _ _ _ h | exact h | (cases h; done) | (refine mo_ite (fun h => ?_) (fun h => ?_) h <;> first | exact hK _ _ _ _ _ h | exact h | exact mo_bind (fun x h => hK _ _ _ _ _ h) h) | exact mo_bind (fun x h => hK _ _ _ _ _ h) h | exact mo_zck (hK _ _ _ _ _) h | exact mo_zckq (hK _ _ _ _ _) h | exact mo_bif (mo_zckq (hK _ _ _ _ _)) h | exact mo_zany (fun h => mo_bind (fun x h => hK _ _ _ _ _ h) h) h)
theorem mo_gI (ci k nx : Nat) : zMon (s_gI ci k nx) := by
  intro F F' K K' hF hK ls st W r h
  simp only [s_gI] at h ⊢
  first
    | exact hK _ _ _ _ _ h
    | exact h
    | (split at h <;> first | exact hK _ _ _ _ _ h | exact h | (cases h; done) | (refine mo_ite (fun h => ?_) (fun h => ?_) h <;> first | exact hK _ _ _ _ _ h | exact h | exact mo_bind (fun x h => hK _ _ _ _ _ h) h) | exact mo_bind (fun x h => hK _ _ _ _ _ h) h | exact mo_zck (hK _ _ _ _ _) h | exact mo_zckq (hK _ _ _ _ _) h | exact mo_bif (mo_zckq (hK _ _ _ _ _)) h | exact mo_zany (fun h => mo_bind (fun x h => hK _ _ _ _ _ h) h) h)
theorem mo_gR (ci k nx : Nat) : zMon (s_gR ci k nx) := by
  intro F F' K K' hF hK ls st W r h
  simp only [s_gR] at h ⊢
  first
    | exact hK _ _ _ _ _ h
    | exact h
    | (split at h <;> first | exact hK _ _ _ _ _ h | exact h | (cases h; done) | (refine mo_ite (fun h => ?_) (fun h => ?_) h <;> first | exact hK _ _ _ _ _ h | exact h | exact mo_bind (fun x h => hK _ _ _ _ _ h) h) | exact mo_bind (fun x h => hK _ _ _ _ _ h) h | exact mo_zck (hK _ _ _ _ _) h | exact mo_zckq (hK _ _ _ _ _) h | exact mo_bif (mo_zckq (hK _ _ _ _ _)) h | exact mo_zany (fun h => mo_bind (fun x h => hK _ _ _ _ _ h) h) h)
theorem mo_pI (ci k nx : Nat) : zMon (s_pI ci k nx) := by
  intro F F' K K' hF hK ls st W r h
  simp only [s_pI] at h ⊢
  first
    | exact hK _ _ _ _ _ h
    | exact h
    | (split at h <;> first | exact hK _ _ _ _ _ h | exact h | (cases h; done) | (refine mo_ite (fun h => ?_) (fun h => ?_) h <;> first | exact hK _ _ _ _ _ h | exact h | exact mo_bind (fun x h => hK _ _ _ _ _ h) h) | exact mo_bind (fun x h => hK _ _ _ _ _ h) h | exact mo_zck (hK _ _ _ _ _) h | exact mo_zckq (hK _ _ _ _ _) h | exact mo_bif (mo_zckq (hK _ _ _ _ _)) h | exact mo_zany (fun h => mo_bind (fun x h => hK _ _ _ _ _ h) h) h)
theorem mo_pZ (ci k nx : Nat) : zMon (s_pZ ci k nx) := by
  intro F F' K K' hF hK ls st W r h
  simp only [s_pZ] at h ⊢
  first
    | exact hK _ _ _ _ _ h
    | exact h
    | (split at h <;> first | exact hK _ _ _ _ _ h | exact h | (cases h; done) | (refine mo_ite (fun h => ?_) (fun h => ?_) h <;> first | exact hK _ _ _ _ _ h | exact h | exact mo_bind (fun x h => hK _ _ _ _ _ h) h) | exact mo_bind (fun x h => hK _ _ _ _ _ h) h | exact mo_zck (hK _ _ _ _ _) h | exact mo_zckq (hK _ _ _ _ _) h | exact mo_bif (mo_zckq (hK _ _ _ _ _)) h | exact mo_zany (fun h => mo_bind (fun x h => hK _ _ _ _ _ h) h) h)
theorem mo_pR (ci k nx : Nat) : zMon (s_pR ci k nx) := by
  intro F F' K K' hF hK ls st W r h
  simp only [s_pR] at h ⊢
  first
    | exact hK _ _ _ _ _ h
    | exact h
    | (split at h <;> first | exact hK _ _ _ _ _ h | exact h | (cases h; done) | (refine mo_ite (fun h => ?_) (fun h => ?_) h <;> first | exact hK _ _ _ _ _ h | exact h | exact mo_bind (fun x h => hK _ _ _ _ _ h) h) | exact mo_bind (fun x h => hK _ _ _ _ _ h) h | exact mo_zck (hK _ _ _ _ _) h | exact mo_zckq (hK _ _ _ _ _) h | exact mo_bif (mo_zckq (hK _ _ _ _ _)) h | exact mo_zany (fun h => mo_bind (fun x h => hK _ _ _ _ _ h) h) h)
theorem mo_gs (q nx : Nat) : zMon (s_gs q nx) := by
  intro F F' K K' hF hK ls st W r h
  simp only [s_gs] at h ⊢
  first
    | exact hK _ _ _ _ _ h
    | exact h
    | (split at h <;> first | exact hK _ _ _ _ _ h | exact h | (cases h; done) | (refine mo_ite (fun h => ?_) (fun h => ?_) h <;> first | exact hK _ _ _ _ _ h | exact h | exact mo_bind (fun x h => hK _ _ _ _ _ h) h) | exact mo_bind (fun x h => hK _ _ _ _ _ h) h | exact mo_zck (hK _ _ _ _ _) h | exact mo_zckq (hK _ _ _ _ _) h | exact mo_bif (mo_zckq (hK _ _ _ _ _)) h | exact mo_zany (fun h => mo_bind (fun x h => hK _ _ _ _ _ h) h) h)
theorem mo_new (ci n : Nat) (fs : List Value) (nx : Nat) : zMon (s_new ci n fs nx) := by
  intro F F' K K' hF hK ls st W r h
  simp only [s_new] at h ⊢
  first
    | exact hK _ _ _ _ _ h
    | exact h
    | (split at h <;> first | exact hK _ _ _ _ _ h | exact h | (cases h; done) | (refine mo_ite (fun h => ?_) (fun h => ?_) h <;> first | exact hK _ _ _ _ _ h | exact h | exact mo_bind (fun x h => hK _ _ _ _ _ h) h) | exact mo_bind (fun x h => hK _ _ _ _ _ h) h | exact mo_zck (hK _ _ _ _ _) h | exact mo_zckq (hK _ _ _ _ _) h | exact mo_bif (mo_zckq (hK _ _ _ _ _)) h | exact mo_zany (fun h => mo_bind (fun x h => hK _ _ _ _ _ h) h) h)
theorem mo_nai (k nx : Nat) : zMon (s_nai k nx) := by
  intro F F' K K' hF hK ls st W r h
  simp only [s_nai] at h ⊢
  first
    | exact hK _ _ _ _ _ h
    | exact h
    | (split at h <;> first | exact hK _ _ _ _ _ h | exact h | (cases h; done) | (refine mo_ite (fun h => ?_) (fun h => ?_) h <;> first | exact hK _ _ _ _ _ h | exact h | exact mo_bind (fun x h => hK _ _ _ _ _ h) h) | exact mo_bind (fun x h => hK _ _ _ _ _ h) h | exact mo_zck (hK _ _ _ _ _) h | exact mo_zckq (hK _ _ _ _ _) h | exact mo_bif (mo_zckq (hK _ _ _ _ _)) h | exact mo_zany (fun h => mo_bind (fun x h => hK _ _ _ _ _ h) h) h)
theorem mo_nal (nx : Nat) : zMon (s_nal nx) := by
  intro F F' K K' hF hK ls st W r h
  simp only [s_nal] at h ⊢
  first
    | exact hK _ _ _ _ _ h
    | exact h
    | (split at h <;> first | exact hK _ _ _ _ _ h | exact h | (cases h; done) | (refine mo_ite (fun h => ?_) (fun h => ?_) h <;> first | exact hK _ _ _ _ _ h | exact h | exact mo_bind (fun x h => hK _ _ _ _ _ h) h) | exact mo_bind (fun x h => hK _ _ _ _ _ h) h | exact mo_zck (hK _ _ _ _ _) h | exact mo_zckq (hK _ _ _ _ _) h | exact mo_bif (mo_zckq (hK _ _ _ _ _)) h | exact mo_zany (fun h => mo_bind (fun x h => hK _ _ _ _ _ h) h) h)
theorem mo_naq (nx : Nat) : zMon (s_naq nx) := by
  intro F F' K K' hF hK ls st W r h
  simp only [s_naq] at h ⊢
  first
    | exact hK _ _ _ _ _ h
    | exact h
    | (split at h <;> first | exact hK _ _ _ _ _ h | exact h | (cases h; done) | (refine mo_ite (fun h => ?_) (fun h => ?_) h <;> first | exact hK _ _ _ _ _ h | exact h | exact mo_bind (fun x h => hK _ _ _ _ _ h) h) | exact mo_bind (fun x h => hK _ _ _ _ _ h) h | exact mo_zck (hK _ _ _ _ _) h | exact mo_zckq (hK _ _ _ _ _) h | exact mo_bif (mo_zckq (hK _ _ _ _ _)) h | exact mo_zany (fun h => mo_bind (fun x h => hK _ _ _ _ _ h) h) h)
theorem mo_alen (nx : Nat) : zMon (s_alen nx) := by
  intro F F' K K' hF hK ls st W r h
  simp only [s_alen] at h ⊢
  first
    | exact hK _ _ _ _ _ h
    | exact h
    | (split at h <;> first | exact hK _ _ _ _ _ h | exact h | (cases h; done) | (refine mo_ite (fun h => ?_) (fun h => ?_) h <;> first | exact hK _ _ _ _ _ h | exact h | exact mo_bind (fun x h => hK _ _ _ _ _ h) h) | exact mo_bind (fun x h => hK _ _ _ _ _ h) h | exact mo_zck (hK _ _ _ _ _) h | exact mo_zckq (hK _ _ _ _ _) h | exact mo_bif (mo_zckq (hK _ _ _ _ _)) h | exact mo_zany (fun h => mo_bind (fun x h => hK _ _ _ _ _ h) h) h)
theorem mo_iald (nx : Nat) : zMon (s_iald nx) := by
  intro F F' K K' hF hK ls st W r h
  simp only [s_iald] at h ⊢
  first
    | exact hK _ _ _ _ _ h
    | exact h
    | (split at h <;> first | exact hK _ _ _ _ _ h | exact h | (cases h; done) | (refine mo_ite (fun h => ?_) (fun h => ?_) h <;> first | exact hK _ _ _ _ _ h | exact h | exact mo_bind (fun x h => hK _ _ _ _ _ h) h) | exact mo_bind (fun x h => hK _ _ _ _ _ h) h | exact mo_zck (hK _ _ _ _ _) h | exact mo_zckq (hK _ _ _ _ _) h | exact mo_bif (mo_zckq (hK _ _ _ _ _)) h | exact mo_zany (fun h => mo_bind (fun x h => hK _ _ _ _ _ h) h) h)
theorem mo_zald (nx : Nat) : zMon (s_zald nx) := by
  intro F F' K K' hF hK ls st W r h
  simp only [s_zald] at h ⊢
  first
    | exact hK _ _ _ _ _ h
    | exact h
    | (split at h <;> first | exact hK _ _ _ _ _ h | exact h | (cases h; done) | (refine mo_ite (fun h => ?_) (fun h => ?_) h <;> first | exact hK _ _ _ _ _ h | exact h | exact mo_bind (fun x h => hK _ _ _ _ _ h) h) | exact mo_bind (fun x h => hK _ _ _ _ _ h) h | exact mo_zck (hK _ _ _ _ _) h | exact mo_zckq (hK _ _ _ _ _) h | exact mo_bif (mo_zckq (hK _ _ _ _ _)) h | exact mo_zany (fun h => mo_bind (fun x h => hK _ _ _ _ _ h) h) h)
theorem mo_lald (nx : Nat) : zMon (s_lald nx) := by
  intro F F' K K' hF hK ls st W r h
  simp only [s_lald] at h ⊢
  first
    | exact hK _ _ _ _ _ h
    | exact h
    | (split at h <;> first | exact hK _ _ _ _ _ h | exact h | (cases h; done) | (refine mo_ite (fun h => ?_) (fun h => ?_) h <;> first | exact hK _ _ _ _ _ h | exact h | exact mo_bind (fun x h => hK _ _ _ _ _ h) h) | exact mo_bind (fun x h => hK _ _ _ _ _ h) h | exact mo_zck (hK _ _ _ _ _) h | exact mo_zckq (hK _ _ _ _ _) h | exact mo_bif (mo_zckq (hK _ _ _ _ _)) h | exact mo_zany (fun h => mo_bind (fun x h => hK _ _ _ _ _ h) h) h)
theorem mo_qald (nx : Nat) : zMon (s_qald nx) := by
  intro F F' K K' hF hK ls st W r h
  simp only [s_qald] at h ⊢
  first
    | exact hK _ _ _ _ _ h
    | exact h
    | (split at h <;> first | exact hK _ _ _ _ _ h | exact h | (cases h; done) | (refine mo_ite (fun h => ?_) (fun h => ?_) h <;> first | exact hK _ _ _ _ _ h | exact h | exact mo_bind (fun x h => hK _ _ _ _ _ h) h) | exact mo_bind (fun x h => hK _ _ _ _ _ h) h | exact mo_zck (hK _ _ _ _ _) h | exact mo_zckq (hK _ _ _ _ _) h | exact mo_bif (mo_zckq (hK _ _ _ _ _)) h | exact mo_zany (fun h => mo_bind (fun x h => hK _ _ _ _ _ h) h) h)
theorem mo_iast (nx : Nat) : zMon (s_iast nx) := by
  intro F F' K K' hF hK ls st W r h
  simp only [s_iast] at h ⊢
  first
    | exact hK _ _ _ _ _ h
    | exact h
    | (split at h <;> first | exact hK _ _ _ _ _ h | exact h | (cases h; done) | (refine mo_ite (fun h => ?_) (fun h => ?_) h <;> first | exact hK _ _ _ _ _ h | exact h | exact mo_bind (fun x h => hK _ _ _ _ _ h) h) | exact mo_bind (fun x h => hK _ _ _ _ _ h) h | exact mo_zck (hK _ _ _ _ _) h | exact mo_zckq (hK _ _ _ _ _) h | exact mo_bif (mo_zckq (hK _ _ _ _ _)) h | exact mo_zany (fun h => mo_bind (fun x h => hK _ _ _ _ _ h) h) h)
theorem mo_zast (nx : Nat) : zMon (s_zast nx) := by
  intro F F' K K' hF hK ls st W r h
  simp only [s_zast] at h ⊢
  first
    | exact hK _ _ _ _ _ h
    | exact h
    | (split at h <;> first | exact hK _ _ _ _ _ h | exact h | (cases h; done) | (refine mo_ite (fun h => ?_) (fun h => ?_) h <;> first | exact hK _ _ _ _ _ h | exact h | exact mo_bind (fun x h => hK _ _ _ _ _ h) h) | exact mo_bind (fun x h => hK _ _ _ _ _ h) h | exact mo_zck (hK _ _ _ _ _) h | exact mo_zckq (hK _ _ _ _ _) h | exact mo_bif (mo_zckq (hK _ _ _ _ _)) h | exact mo_zany (fun h => mo_bind (fun x h => hK _ _ _ _ _ h) h) h)
theorem mo_last (nx : Nat) : zMon (s_last nx) := by
  intro F F' K K' hF hK ls st W r h
  simp only [s_last] at h ⊢
  first
    | exact hK _ _ _ _ _ h
    | exact h
    | (split at h <;> first | exact hK _ _ _ _ _ h | exact h | (cases h; done) | (refine mo_ite (fun h => ?_) (fun h => ?_) h <;> first | exact hK _ _ _ _ _ h | exact h | exact mo_bind (fun x h => hK _ _ _ _ _ h) h) | exact mo_bind (fun x h => hK _ _ _ _ _ h) h | exact mo_zck (hK _ _ _ _ _) h | exact mo_zckq (hK _ _ _ _ _) h | exact mo_bif (mo_zckq (hK _ _ _ _ _)) h | exact mo_zany (fun h => mo_bind (fun x h => hK _ _ _ _ _ h) h) h)
theorem mo_qast (nx : Nat) : zMon (s_qast nx) := by
  intro F F' K K' hF hK ls st W r h
  simp only [s_qast] at h ⊢
  first
    | exact hK _ _ _ _ _ h
    | exact h
    | (split at h <;> first | exact hK _ _ _ _ _ h | exact h | (cases h; done) | (refine mo_ite (fun h => ?_) (fun h => ?_) h <;> first | exact hK _ _ _ _ _ h | exact h | exact mo_bind (fun x h => hK _ _ _ _ _ h) h) | exact mo_bind (fun x h => hK _ _ _ _ _ h) h | exact mo_zck (hK _ _ _ _ _) h | exact mo_zckq (hK _ _ _ _ _) h | exact mo_bif (mo_zckq (hK _ _ _ _ _)) h | exact mo_zany (fun h => mo_bind (fun x h => hK _ _ _ _ _ h) h) h)
theorem mo_cast (ci nx : Nat) : zMon (s_cast ci nx) := by
  intro F F' K K' hF hK ls st W r h
  simp only [s_cast] at h ⊢
  first
    | exact hK _ _ _ _ _ h
    | exact h
    | (split at h <;> first | exact hK _ _ _ _ _ h | exact h | (cases h; done) | (refine mo_ite (fun h => ?_) (fun h => ?_) h <;> first | exact hK _ _ _ _ _ h | exact h | exact mo_bind (fun x h => hK _ _ _ _ _ h) h) | exact mo_bind (fun x h => hK _ _ _ _ _ h) h | exact mo_zck (hK _ _ _ _ _) h | exact mo_zckq (hK _ _ _ _ _) h | exact mo_bif (mo_zckq (hK _ _ _ _ _)) h | exact mo_zany (fun h => mo_bind (fun x h => hK _ _ _ _ _ h) h) h)
theorem mo_gcls (mi nx : Nat) : zMon (s_gcls mi nx) := by
  intro F F' K K' hF hK ls st W r h
  simp only [s_gcls] at h ⊢
  first
    | exact hK _ _ _ _ _ h
    | exact h
    | (split at h <;> first | exact hK _ _ _ _ _ h | exact h | (cases h; done) | (refine mo_ite (fun h => ?_) (fun h => ?_) h <;> first | exact hK _ _ _ _ _ h | exact h | exact mo_bind (fun x h => hK _ _ _ _ _ h) h) | exact mo_bind (fun x h => hK _ _ _ _ _ h) h | exact mo_zck (hK _ _ _ _ _) h | exact mo_zckq (hK _ _ _ _ _) h | exact mo_bif (mo_zckq (hK _ _ _ _ _)) h | exact mo_zany (fun h => mo_bind (fun x h => hK _ _ _ _ _ h) h) h)
theorem mo_cpy (nx : Nat) : zMon (s_cpy nx) := by
  intro F F' K K' hF hK ls st W r h
  simp only [s_cpy] at h ⊢
  first
    | exact hK _ _ _ _ _ h
    | exact h
    | (split at h <;> first | exact hK _ _ _ _ _ h | exact h | (cases h; done) | (refine mo_ite (fun h => ?_) (fun h => ?_) h <;> first | exact hK _ _ _ _ _ h | exact h | exact mo_bind (fun x h => hK _ _ _ _ _ h) h) | exact mo_bind (fun x h => hK _ _ _ _ _ h) h | exact mo_zck (hK _ _ _ _ _) h | exact mo_zckq (hK _ _ _ _ _) h | exact mo_bif (mo_zckq (hK _ _ _ _ _)) h | exact mo_zany (fun h => mo_bind (fun x h => hK _ _ _ _ _ h) h) h)
theorem mo_rI  : zMon (s_rI) := by
  intro F F' K K' hF hK ls st W r h
  simp only [s_rI] at h ⊢
  first
    | exact hK _ _ _ _ _ h
    | exact h
    | (split at h <;> first | exact hK _ _ _ _ _ h | exact h | (cases h; done) | (refine mo_ite (fun h => ?_) (fun h => ?_) h <;> first | exact hK _ _ _ _ _ h | exact h | exact mo_bind (fun x h => hK _ _ _ _ _ h) h) | exact mo_bind (fun x h => hK _ _ _ _ _ h) h | exact mo_zck (hK _ _ _ _ _) h | exact mo_zckq (hK _ _ _ _ _) h | exact mo_bif (mo_zckq (hK _ _ _ _ _)) h | exact mo_zany (fun h => mo_bind (fun x h => hK _ _ _ _ _ h) h) h)
theorem mo_rZ  : zMon (s_rZ) := by
  intro F F' K K' hF hK ls st W r h
  simp only [s_rZ] at h ⊢
  first
    | exact hK _ _ _ _ _ h
    | exact h
    | (split at h <;> first | exact hK _ _ _ _ _ h | exact h | (cases h; done) | (refine mo_ite (fun h => ?_) (fun h => ?_) h <;> first | exact hK _ _ _ _ _ h | exact h | exact mo_bind (fun x h => hK _ _ _ _ _ h) h) | exact mo_bind (fun x h => hK _ _ _ _ _ h) h | exact mo_zck (hK _ _ _ _ _) h | exact mo_zckq (hK _ _ _ _ _) h | exact mo_bif (mo_zckq (hK _ _ _ _ _)) h | exact mo_zany (fun h => mo_bind (fun x h => hK _ _ _ _ _ h) h) h)
theorem mo_rR  : zMon (s_rR) := by
  intro F F' K K' hF hK ls st W r h
  simp only [s_rR] at h ⊢
  first
    | exact hK _ _ _ _ _ h
    | exact h
    | (split at h <;> first | exact hK _ _ _ _ _ h | exact h | (cases h; done) | (refine mo_ite (fun h => ?_) (fun h => ?_) h <;> first | exact hK _ _ _ _ _ h | exact h | exact mo_bind (fun x h => hK _ _ _ _ _ h) h) | exact mo_bind (fun x h => hK _ _ _ _ _ h) h | exact mo_zck (hK _ _ _ _ _) h | exact mo_zckq (hK _ _ _ _ _) h | exact mo_bif (mo_zckq (hK _ _ _ _ _)) h | exact mo_zany (fun h => mo_bind (fun x h => hK _ _ _ _ _ h) h) h)
theorem mo_rV  : zMon (s_rV) := by
  intro F F' K K' hF hK ls st W r h
  simp only [s_rV] at h ⊢
  first
    | exact hK _ _ _ _ _ h
    | exact h
    | (split at h <;> first | exact hK _ _ _ _ _ h | exact h | (cases h; done) | (refine mo_ite (fun h => ?_) (fun h => ?_) h <;> first | exact hK _ _ _ _ _ h | exact h | exact mo_bind (fun x h => hK _ _ _ _ _ h) h) | exact mo_bind (fun x h => hK _ _ _ _ _ h) h | exact mo_zck (hK _ _ _ _ _) h | exact mo_zckq (hK _ _ _ _ _) h | exact mo_bif (mo_zckq (hK _ _ _ _ _)) h | exact mo_zany (fun h => mo_bind (fun x h => hK _ _ _ _ _ h) h) h)
theorem mo_thr (E : Nat) : zMon (s_thr E) := by
  intro F F' K K' hF hK ls st W r h
  simp only [s_thr] at h ⊢
  first
    | exact hK _ _ _ _ _ h
    | exact h
    | (split at h <;> first | exact hK _ _ _ _ _ h | exact h | (cases h; done) | (refine mo_ite (fun h => ?_) (fun h => ?_) h <;> first | exact hK _ _ _ _ _ h | exact h | exact mo_bind (fun x h => hK _ _ _ _ _ h) h) | exact mo_bind (fun x h => hK _ _ _ _ _ h) h | exact mo_zck (hK _ _ _ _ _) h | exact mo_zckq (hK _ _ _ _ _) h | exact mo_bif (mo_zckq (hK _ _ _ _ _)) h | exact mo_zany (fun h => mo_bind (fun x h => hK _ _ _ _ _ h) h) h)
theorem mo_obj (nx : Nat) : zMon (s_obj nx) := by
  intro F F' K K' hF hK ls st W r h
  simp only [s_obj] at h ⊢
  first
    | exact hK _ _ _ _ _ h
    | exact h
    | (split at h <;> first | exact hK _ _ _ _ _ h | exact h | (cases h; done) | (refine mo_ite (fun h => ?_) (fun h => ?_) h <;> first | exact hK _ _ _ _ _ h | exact h | exact mo_bind (fun x h => hK _ _ _ _ _ h) h) | exact mo_bind (fun x h => hK _ _ _ _ _ h) h | exact mo_zck (hK _ _ _ _ _) h | exact mo_zckq (hK _ _ _ _ _) h | exact mo_bif (mo_zckq (hK _ _ _ _ _)) h | exact mo_zany (fun h => mo_bind (fun x h => hK _ _ _ _ _ h) h) h)
theorem mo_no  : zMon (s_no) := by
  intro F F' K K' hF hK ls st W r h
  simp only [s_no] at h ⊢
  first
    | exact hK _ _ _ _ _ h
    | exact h
    | (split at h <;> first | exact hK _ _ _ _ _ h | exact h | (cases h; done) | (refine mo_ite (fun h => ?_) (fun h => ?_) h <;> first | exact hK _ _ _ _ _ h | exact h | exact mo_bind (fun x h => hK _ _ _ _ _ h) h) | exact mo_bind (fun x h => hK _ _ _ _ _ h) h | exact mo_zck (hK _ _ _ _ _) h | exact mo_zckq (hK _ _ _ _ _) h | exact mo_bif (mo_zckq (hK _ _ _ _ _)) h | exact mo_zany (fun h => mo_bind (fun x h => hK _ _ _ _ _ h) h) h)
def zPre (p : List Value → zW → zR → zR) : Prop := ∀ as W o o' r, (o = some r → o' = some r) → p as W o = some r → p as W o' = some r
theorem zPre_S : zPre zpS := fun _ _ _ _ _ h => h
theorem zPre_I : zPre zpI := by
  intro as W o o' r ho h
  unfold zpI at h ⊢
  split at h
  · exact ho h
  · cases h
theorem zPre_V (ci : Nat) : zPre (zpV ci) := by
  intro as W o o' r ho h
  unfold zpV at h ⊢
  split at h
  · exact mo_zck ho h
  · cases h
def zHm (hx : zH) : Prop := ∀ (K K' : zK), (∀ pc ls st W r, K pc ls st W = some r → K' pc ls st W = some r) → ∀ ls E W r, hx K ls E W = some r → hx K' ls E W = some r
theorem zHm_0 : zHm zx0 := fun _ _ _ _ _ _ _ h => h
theorem zHm_c (v : Nat) (hs : List (Nat × Nat)) : zHm (zxc v hs) := by
  intro K K' hK ls E W r h
  unfold zxc at h ⊢
  match hs, h with
  | [], h => exact h
  | [_], h => exact mo_ite (hK _ _ _ _ _) id h
  | [_, _], h => exact mo_ite (hK _ _ _ _ _) (fun h => mo_ite (hK _ _ _ _ _) id h) h
  | _ :: _ :: _ :: _, h => exact mo_ite (hK _ _ _ _ _) (fun h => mo_ite (hK _ _ _ _ _) (fun h => mo_ite (hK _ _ _ _ _) id h) h) h
theorem mo_cI {p : List Value → zW → zR → zR} (y n : Nat) (pad : List Value) {hx : zH} (nx : Nat) (hp : zPre p) (hh : zHm hx) : zMon (s_cI p y n pad hx nx) := by
  intro F F' K K' hF hK ls st W r h
  simp only [s_cI] at h ⊢
  cases hz : zsp n [] st with
  | none => rw [hz] at h; exact h
  | some q =>
    rw [hz] at h
    obtain ⟨as, rr⟩ := q
    have h : zthI (p as W (F y 0 (as ++ pad) [] W)) _ _ = some r := h
    show zthI (p as W (F' y 0 (as ++ pad) [] W)) _ _ = some r
    cases ho : p as W (F y 0 (as ++ pad) [] W) with
    | none => rw [ho] at h; cases h
    | some o =>
      rw [ho] at h
      rw [hp as W _ _ o (hF _ _ _ _ _ _) ho]
      unfold zthI at h ⊢
      split at h <;> first | exact hK _ _ _ _ _ h | exact hh K K' hK _ _ _ _ h | cases h
theorem mo_cR {p : List Value → zW → zR → zR} (y n : Nat) (pad : List Value) {hx : zH} (nx : Nat) (hp : zPre p) (hh : zHm hx) : zMon (s_cR p y n pad hx nx) := by
  intro F F' K K' hF hK ls st W r h
  simp only [s_cR] at h ⊢
  cases hz : zsp n [] st with
  | none => rw [hz] at h; exact h
  | some q =>
    rw [hz] at h
    obtain ⟨as, rr⟩ := q
    have h : zthR (p as W (F y 0 (as ++ pad) [] W)) _ _ = some r := h
    show zthR (p as W (F' y 0 (as ++ pad) [] W)) _ _ = some r
    cases ho : p as W (F y 0 (as ++ pad) [] W) with
    | none => rw [ho] at h; cases h
    | some o =>
      rw [ho] at h
      rw [hp as W _ _ o (hF _ _ _ _ _ _) ho]
      unfold zthR at h ⊢
      split at h <;> first | exact hK _ _ _ _ _ h | exact hh K K' hK _ _ _ _ h | cases h
theorem mo_cN {p : List Value → zW → zR → zR} (y n : Nat) (pad : List Value) {hx : zH} (nx : Nat) (hp : zPre p) (hh : zHm hx) : zMon (s_cN p y n pad hx nx) := by
  intro F F' K K' hF hK ls st W r h
  simp only [s_cN] at h ⊢
  cases hz : zsp n [] st with
  | none => rw [hz] at h; exact h
  | some q =>
    rw [hz] at h
    obtain ⟨as, rr⟩ := q
    have h : zthN (p as W (F y 0 (as ++ pad) [] W)) _ _ _ = some r := h
    show zthN (p as W (F' y 0 (as ++ pad) [] W)) _ _ _ = some r
    cases ho : p as W (F y 0 (as ++ pad) [] W) with
    | none => rw [ho] at h; cases h
    | some o =>
      rw [ho] at h
      rw [hp as W _ _ o (hF _ _ _ _ _ _) ho]
      unfold zthN at h ⊢
      split at h <;> first | exact hK _ _ _ _ _ h | exact hh K K' hK _ _ _ _ h | cases h
theorem mo_cV {p : List Value → zW → zR → zR} (y n : Nat) (pad : List Value) {hx : zH} (nx : Nat) (hp : zPre p) (hh : zHm hx) : zMon (s_cV p y n pad hx nx) := by
  intro F F' K K' hF hK ls st W r h
  simp only [s_cV] at h ⊢
  cases hz : zsp n [] st with
  | none => rw [hz] at h; exact h
  | some q =>
    rw [hz] at h
    obtain ⟨as, rr⟩ := q
    have h : zthV (p as W (F y 0 (as ++ pad) [] W)) _ _ = some r := h
    show zthV (p as W (F' y 0 (as ++ pad) [] W)) _ _ = some r
    cases ho : p as W (F y 0 (as ++ pad) [] W) with
    | none => rw [ho] at h; cases h
    | some o =>
      rw [ho] at h
      rw [hp as W _ _ o (hF _ _ _ _ _ _) ho]
      unfold zthV at h ⊢
      split at h <;> first | exact hK _ _ _ _ _ h | exact hh K K' hK _ _ _ _ h | cases h
