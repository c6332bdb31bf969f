def tbat (p : Int) (w : Jvm.Cond) : Bool := decide (0 ≤ p) && decide (wsL_law[p.toNat]? = some w)
def in32 (v : Int) : Bool := decide (-2147483648 ≤ v ∧ v < 2147483648)
def in64 (v : Int) : Bool := decide (-9223372036854775808 ≤ v ∧ v < 9223372036854775808)
def stok (nL : Nat) (lg : List Nat) (i : Nat) : Bool := decide (i < nL) && lg.all (fun j => decide (j + 1 ≠ i))
def ftab (c k : Int) : String × String × String × Bool := (am_T c.toNat).2.1 k.toNat
def fok (own : String) (i : Nat) (c k p r : Int) : Bool := decide (0 ≤ c ∧ c < 7 ∧ 0 ≤ k ∧ k.toNat < (am_T c.toNat).2.2) && tbat p (.fieldLink own i (ftab c k).1 (ftab c k).2.1 (ftab c k).2.2.1) && (decide (r = 1) == am_isref c.toNat k.toNat)
def mth (own : String) (i : Nat) (m n hr p : Int) : Bool := decide (0 ≤ m ∧ m < 179 ∧ 0 ≤ n ∧ n.toNat = (am_at m.toNat).2.2.2.2.2.2.1 ∧ hr = (if (am_at m.toNat).2.2.2.2.1.isSome then 1 else 0)) && (if p < 10000 then tbat p (.methodLink own i (am_at m.toNat).2.1) else (match am_NM[(p - 10000).toNat]? with
  | some q => decide (q.1 = own ∧ q.2.1 = i ∧ q.2.2.1 = (am_at m.toNat).2.1)
  | none => false))
def isSt (m : Int) : Nat := (am_at m.toNat).2.2.2.2.2.2.2.1
/-- what a decoded row must keep -/
def okE (own nm : String) (nL : Nat) (lg : List Nat) (ret : Option FieldType) (q : Nat × AI) : Bool := match q.2.1, q.2.2.2 with
  | .iconst n, _ => in32 n && q.2.2.1 == 1
  | .bipush n, _ => decide (-128 ≤ n ∧ n < 128) && q.2.2.1 == 2
  | .sipush n, _ => decide (-32768 ≤ n ∧ n < 32768) && q.2.2.1 == 3
  | .ldc i, [0, v, p] => in32 v && tbat p (.constant own i (Int32.ofInt v)) && q.2.2.1 == 2
  | .ldc i, [1, a, _] => ((a == 3 && own == "StripsFromAbove" && i == 58) || (a == 4 && own == "StripsFromAbove$Reader" && i == 105)) && q.2.2.1 == 2
  | .ldc_w i, [0, v, p] => in32 v && tbat p (.constant own i (Int32.ofInt v)) && q.2.2.1 == 3
  | .ldc2_w i, [v, p] => in64 v && tbat p (.constantLong own i (Int64.ofInt v)) && q.2.2.1 == 3
  | .iload _, _ => q.2.2.1 == 2
  | .lload _, _ => q.2.2.1 == 2
  | .aload _, _ => q.2.2.1 == 2
  | .istore i, _ => stok nL lg i && q.2.2.1 == 2
  | .astore i, _ => stok nL lg i && q.2.2.1 == 2
  | .lstore i, _ => stok nL lg i && decide (i + 1 < nL) && decide (i ∈ lg) && q.2.2.1 == 2
  | .istore_n i, _ => stok nL lg i && q.2.2.1 == 1
  | .astore_n i, _ => stok nL lg i && q.2.2.1 == 1
  | .lstore_n i, _ => stok nL lg i && decide ((i : Nat) + 1 < nL) && decide ((i : Nat) ∈ lg) && q.2.2.1 == 1
  | .iinc i _, _ => stok nL lg i && q.2.2.1 == 3
  | .goto off, _ => decide (0 ≤ (q.1 : Int) + off) && q.2.2.1 == 3
  | .ifCond _ off, _ => decide (0 ≤ (q.1 : Int) + off) && q.2.2.1 == 3
  | .if_icmp _ off, _ => decide (0 ≤ (q.1 : Int) + off) && q.2.2.1 == 3
  | .ifnull off, _ => decide (0 ≤ (q.1 : Int) + off) && q.2.2.1 == 3
  | .ifnonnull off, _ => decide (0 ≤ (q.1 : Int) + off) && q.2.2.1 == 3
  | .tableswitch d _ _ offs, _ => decide (0 ≤ (q.1 : Int) + d) && offs.toList.all (fun o => decide (0 ≤ (q.1 : Int) + o))
  | .lookupswitch d ps, _ => decide (0 ≤ (q.1 : Int) + d) && ps.toList.all (fun o => decide (0 ≤ (q.1 : Int) + o.2)) && (ps.toList.zip (ps.toList.drop 1)).all (fun (a, next) => a.1 < next.1)
  | .getstatic i, [a, p] => (if p < 10000 then (a == 0 && tbat p (.fieldLink own i "StripsFromAbove" "ABOVE" "[I")) else (match am_NF[(p - 10000).toNat]? with
    | some w => w.1 == own && w.2.1 == i && w.2.2.1 == "StripsFromAbove" && ((a == 1 && w.2.2.2.1 == "LEAST_SAID") || (a == 2 && w.2.2.2.1 == "MOST_SAID")) && w.2.2.2.2.1 == "[I"
    | none => false)) && q.2.2.1 == 3
  | .getfield i, [c, k, p, r] => fok own i c k p r && q.2.2.1 == 3
  | .putfield i, [c, k, p, r] => fok own i c k p r && (decide (am_ty c.toNat k.toNat = .boolean) == decide (r = 2)) && (!(ftab c k).2.2.2 || (nm == "<init>" && (ftab c k).1 == own)) && q.2.2.1 == 3
  | .new i, [c, p1, p2, p3] => decide (0 ≤ c ∧ c < 7) && tbat p1 (.classLink own i (am_T c.toNat).1) && tbat p2 (.instantiable (am_T c.toNat).1 (am_T c.toNat).2.2) && tbat p3 (.initialized (am_T c.toNat).1) && q.2.2.1 == 3
  | .newarray .int, [p] => tbat p (.arrayClass .int) && q.2.2.1 == 2
  | .newarray _, _ => false
  | .anewarray i, [c, p] => ((c == 8 && tbat p (.classLink own i RX1)) || (c == 9 && tbat p (.classLink own i RX4))) && q.2.2.1 == 3
  | .invokestatic i, [m, n, hr, p] => mth own i m n hr p && isSt m == 1 && q.2.2.1 == 3
  | .invokevirtual i, [m, n, hr, p] => mth own i m n hr p && isSt m == 0 && decide (p < 10000) && !((am_at m.toNat).2.1.name == "<init>") && q.2.2.1 == 3
  | .invokespecial i, [m, n, hr, p] => mth own i m n hr p && isSt m == 0 && ((am_at m.toNat).2.1.name == "<init>") && q.2.2.1 == 3
  | .invokestatic i, [-2, p] => tbat p (.methodLink own i arraycopyName) && q.2.2.1 == 3
  | .invokestatic i, [-5, p] => tbat p (.methodLink own i Lib.Math.max.name) && q.2.2.1 == 3
  | .invokestatic i, [-6, p] => tbat p (.methodLink own i Lib.Math.min.name) && q.2.2.1 == 3
  | .invokespecial i, [-1, p] => tbat p (.methodLink own i objectInit) && q.2.2.1 == 3
  | .invokevirtual i, [-3, p] => tbat p (.methodLink own i yJ0_charAt_5068e) && q.2.2.1 == 3
  | .invokevirtual i, [-4, p] => tbat p (.methodLink own i yJ0_length_8abf5) && q.2.2.1 == 3
  | .ireturn, [z] => ((z == 0 && decide (ret = some .int)) || (z == 1 && decide (ret = some .boolean))) && q.2.2.1 == 1
  | .ireturn, _ => false
  | .lreturn, _ => decide (ret = some .long) && q.2.2.1 == 1
  | .areturn, _ => (match ret with
    | some t => isRefTy t
    | none => false) && q.2.2.1 == 1
  | .return_, _ => decide (ret = none) && q.2.2.1 == 1
  | _, _ => q.2.2.1 == 1
def okR (r : MR) : Bool := r.1.all (okE r.2.1.cls r.2.1.name r.2.2.2.1 r.2.2.2.2.2.2.2.2 r.2.2.2.2.1)
/-- what a method's record must keep -/
def okMR (r : MR) : Bool := plainName r.2.1.cls && decide (r.2.1.cls ≠ "java/lang/invoke/MethodHandle") && decide (r.2.1.cls ≠ "java/lang/invoke/VarHandle") && decide (r.2.2.2.1 ≤ 40) && wsL_law.contains (.initialized r.2.1.cls) && decide ((parseMethodDescriptor r.2.1.desc).map (fun d => d.parameters.length) = some (r.2.2.2.2.2.2.1 - (1 - r.2.2.2.2.2.2.2.1))) &&
  (if r.2.2.2.2.2.2.2.1 = 1 then wsL_law.contains (.static r.2.1) else decide (1 ≤ r.2.2.2.2.2.2.1) && decide (r.2.2.2.2.2.1 < 7) && decide ((am_T r.2.2.2.2.2.1).1 = r.2.1.cls) && wsL_law.contains (.instanceMethod r.2.1) && (r.2.1.name == "<init>" || wsL_law.contains (.selects r.2.1.cls r.2.1 r.2.1)))
theorem am_o0 : okR am_m0 = true := by decide +kernel
theorem am_p0 : okMR am_m0 = true := by decide +kernel
theorem am_o1 : okR am_m1 = true := by decide +kernel
theorem am_p1 : okMR am_m1 = true := by decide +kernel
theorem am_o2 : okR am_m2 = true := by decide +kernel
theorem am_p2 : okMR am_m2 = true := by decide +kernel
theorem am_o3 : okR am_m3 = true := by decide +kernel
theorem am_p3 : okMR am_m3 = true := by decide +kernel
theorem am_o4 : okR am_m4 = true := by decide +kernel
theorem am_p4 : okMR am_m4 = true := by decide +kernel
theorem am_o5 : okR am_m5 = true := by decide +kernel
theorem am_p5 : okMR am_m5 = true := by decide +kernel
theorem am_o6 : okR am_m6 = true := by decide +kernel
theorem am_p6 : okMR am_m6 = true := by decide +kernel
theorem am_o7 : okR am_m7 = true := by decide +kernel
theorem am_p7 : okMR am_m7 = true := by decide +kernel
theorem am_o8 : okR am_m8 = true := by decide +kernel
theorem am_p8 : okMR am_m8 = true := by decide +kernel
theorem am_o9 : okR am_m9 = true := by decide +kernel
theorem am_p9 : okMR am_m9 = true := by decide +kernel
theorem am_o10 : okR am_m10 = true := by decide +kernel
theorem am_p10 : okMR am_m10 = true := by decide +kernel
theorem am_o11 : okR am_m11 = true := by decide +kernel
theorem am_p11 : okMR am_m11 = true := by decide +kernel
theorem am_o12 : okR am_m12 = true := by decide +kernel
theorem am_p12 : okMR am_m12 = true := by decide +kernel
theorem am_o13 : okR am_m13 = true := by decide +kernel
theorem am_p13 : okMR am_m13 = true := by decide +kernel
theorem am_o14 : okR am_m14 = true := by decide +kernel
theorem am_p14 : okMR am_m14 = true := by decide +kernel
theorem am_o15 : okR am_m15 = true := by decide +kernel
theorem am_p15 : okMR am_m15 = true := by decide +kernel
theorem am_o16 : okR am_m16 = true := by decide +kernel
theorem am_p16 : okMR am_m16 = true := by decide +kernel
theorem am_o17 : okR am_m17 = true := by decide +kernel
theorem am_p17 : okMR am_m17 = true := by decide +kernel
theorem am_o18 : okR am_m18 = true := by decide +kernel
theorem am_p18 : okMR am_m18 = true := by decide +kernel
theorem am_o19 : okR am_m19 = true := by decide +kernel
theorem am_p19 : okMR am_m19 = true := by decide +kernel
theorem am_o20 : okR am_m20 = true := by decide +kernel
theorem am_p20 : okMR am_m20 = true := by decide +kernel
theorem am_o21 : okR am_m21 = true := by decide +kernel
theorem am_p21 : okMR am_m21 = true := by decide +kernel
theorem am_o22 : okR am_m22 = true := by decide +kernel
theorem am_p22 : okMR am_m22 = true := by decide +kernel
theorem am_o23 : okR am_m23 = true := by decide +kernel
theorem am_p23 : okMR am_m23 = true := by decide +kernel
theorem am_o24 : okR am_m24 = true := by decide +kernel
theorem am_p24 : okMR am_m24 = true := by decide +kernel
theorem am_o25 : okR am_m25 = true := by decide +kernel
theorem am_p25 : okMR am_m25 = true := by decide +kernel
theorem am_o26 : okR am_m26 = true := by decide +kernel
theorem am_p26 : okMR am_m26 = true := by decide +kernel
theorem am_o27 : okR am_m27 = true := by decide +kernel
theorem am_p27 : okMR am_m27 = true := by decide +kernel
theorem am_o28 : okR am_m28 = true := by decide +kernel
theorem am_p28 : okMR am_m28 = true := by decide +kernel
theorem am_o29 : okR am_m29 = true := by decide +kernel
theorem am_p29 : okMR am_m29 = true := by decide +kernel
theorem am_o30 : okR am_m30 = true := by decide +kernel
theorem am_p30 : okMR am_m30 = true := by decide +kernel
theorem am_o31 : okR am_m31 = true := by decide +kernel
theorem am_p31 : okMR am_m31 = true := by decide +kernel
theorem am_o32 : okR am_m32 = true := by decide +kernel
theorem am_p32 : okMR am_m32 = true := by decide +kernel
theorem am_o33 : okR am_m33 = true := by decide +kernel
theorem am_p33 : okMR am_m33 = true := by decide +kernel
theorem am_o34 : okR am_m34 = true := by decide +kernel
theorem am_p34 : okMR am_m34 = true := by decide +kernel
theorem am_o35 : okR am_m35 = true := by decide +kernel
theorem am_p35 : okMR am_m35 = true := by decide +kernel
theorem am_o36 : okR am_m36 = true := by decide +kernel
theorem am_p36 : okMR am_m36 = true := by decide +kernel
theorem am_o37 : okR am_m37 = true := by decide +kernel
theorem am_p37 : okMR am_m37 = true := by decide +kernel
theorem am_o38 : okR am_m38 = true := by decide +kernel
theorem am_p38 : okMR am_m38 = true := by decide +kernel
theorem am_o39 : okR am_m39 = true := by decide +kernel
theorem am_p39 : okMR am_m39 = true := by decide +kernel
theorem am_o40 : okR am_m40 = true := by decide +kernel
theorem am_p40 : okMR am_m40 = true := by decide +kernel
theorem am_o41 : okR am_m41 = true := by decide +kernel
theorem am_p41 : okMR am_m41 = true := by decide +kernel
theorem am_o42 : okR am_m42 = true := by decide +kernel
theorem am_p42 : okMR am_m42 = true := by decide +kernel
theorem am_o43 : okR am_m43 = true := by decide +kernel
theorem am_p43 : okMR am_m43 = true := by decide +kernel
theorem am_o44 : okR am_m44 = true := by decide +kernel
theorem am_p44 : okMR am_m44 = true := by decide +kernel
theorem am_o45 : okR am_m45 = true := by decide +kernel
theorem am_p45 : okMR am_m45 = true := by decide +kernel
theorem am_o46 : okR am_m46 = true := by decide +kernel
theorem am_p46 : okMR am_m46 = true := by decide +kernel
theorem am_o47 : okR am_m47 = true := by decide +kernel
theorem am_p47 : okMR am_m47 = true := by decide +kernel
theorem am_o48 : okR am_m48 = true := by decide +kernel
theorem am_p48 : okMR am_m48 = true := by decide +kernel
theorem am_o49 : okR am_m49 = true := by decide +kernel
theorem am_p49 : okMR am_m49 = true := by decide +kernel
theorem am_o50 : okR am_m50 = true := by decide +kernel
theorem am_p50 : okMR am_m50 = true := by decide +kernel
theorem am_o51 : okR am_m51 = true := by decide +kernel
theorem am_p51 : okMR am_m51 = true := by decide +kernel
theorem am_o52 : okR am_m52 = true := by decide +kernel
theorem am_p52 : okMR am_m52 = true := by decide +kernel
theorem am_o53 : okR am_m53 = true := by decide +kernel
theorem am_p53 : okMR am_m53 = true := by decide +kernel
theorem am_o54 : okR am_m54 = true := by decide +kernel
theorem am_p54 : okMR am_m54 = true := by decide +kernel
theorem am_o55 : okR am_m55 = true := by decide +kernel
theorem am_p55 : okMR am_m55 = true := by decide +kernel
theorem am_o56 : okR am_m56 = true := by decide +kernel
theorem am_p56 : okMR am_m56 = true := by decide +kernel
theorem am_o57 : okR am_m57 = true := by decide +kernel
theorem am_p57 : okMR am_m57 = true := by decide +kernel
theorem am_o58 : okR am_m58 = true := by decide +kernel
theorem am_p58 : okMR am_m58 = true := by decide +kernel
theorem am_o59 : okR am_m59 = true := by decide +kernel
theorem am_p59 : okMR am_m59 = true := by decide +kernel
theorem am_o60 : okR am_m60 = true := by decide +kernel
theorem am_p60 : okMR am_m60 = true := by decide +kernel
theorem am_o61 : okR am_m61 = true := by decide +kernel
theorem am_p61 : okMR am_m61 = true := by decide +kernel
theorem am_o62 : okR am_m62 = true := by decide +kernel
theorem am_p62 : okMR am_m62 = true := by decide +kernel
theorem am_o63 : okR am_m63 = true := by decide +kernel
theorem am_p63 : okMR am_m63 = true := by decide +kernel
theorem am_o64 : okR am_m64 = true := by decide +kernel
theorem am_p64 : okMR am_m64 = true := by decide +kernel
theorem am_o65 : okR am_m65 = true := by decide +kernel
theorem am_p65 : okMR am_m65 = true := by decide +kernel
theorem am_o66 : okR am_m66 = true := by decide +kernel
theorem am_p66 : okMR am_m66 = true := by decide +kernel
theorem am_o67 : okR am_m67 = true := by decide +kernel
theorem am_p67 : okMR am_m67 = true := by decide +kernel
theorem am_o68 : okR am_m68 = true := by decide +kernel
theorem am_p68 : okMR am_m68 = true := by decide +kernel
theorem am_o69 : okR am_m69 = true := by decide +kernel
theorem am_p69 : okMR am_m69 = true := by decide +kernel
theorem am_o70 : okR am_m70 = true := by decide +kernel
theorem am_p70 : okMR am_m70 = true := by decide +kernel
theorem am_o71 : okR am_m71 = true := by decide +kernel
theorem am_p71 : okMR am_m71 = true := by decide +kernel
theorem am_o72 : okR am_m72 = true := by decide +kernel
theorem am_p72 : okMR am_m72 = true := by decide +kernel
theorem am_o73 : okR am_m73 = true := by decide +kernel
theorem am_p73 : okMR am_m73 = true := by decide +kernel
theorem am_o74 : okR am_m74 = true := by decide +kernel
theorem am_p74 : okMR am_m74 = true := by decide +kernel
theorem am_o75 : okR am_m75 = true := by decide +kernel
theorem am_p75 : okMR am_m75 = true := by decide +kernel
theorem am_o76 : okR am_m76 = true := by decide +kernel
theorem am_p76 : okMR am_m76 = true := by decide +kernel
theorem am_o77 : okR am_m77 = true := by decide +kernel
theorem am_p77 : okMR am_m77 = true := by decide +kernel
theorem am_o78 : okR am_m78 = true := by decide +kernel
theorem am_p78 : okMR am_m78 = true := by decide +kernel
theorem am_o79 : okR am_m79 = true := by decide +kernel
theorem am_p79 : okMR am_m79 = true := by decide +kernel
theorem am_o80 : okR am_m80 = true := by decide +kernel
theorem am_p80 : okMR am_m80 = true := by decide +kernel
theorem am_o81 : okR am_m81 = true := by decide +kernel
theorem am_p81 : okMR am_m81 = true := by decide +kernel
theorem am_o82 : okR am_m82 = true := by decide +kernel
theorem am_p82 : okMR am_m82 = true := by decide +kernel
theorem am_o83 : okR am_m83 = true := by decide +kernel
theorem am_p83 : okMR am_m83 = true := by decide +kernel
theorem am_o84 : okR am_m84 = true := by decide +kernel
theorem am_p84 : okMR am_m84 = true := by decide +kernel
theorem am_o85 : okR am_m85 = true := by decide +kernel
theorem am_p85 : okMR am_m85 = true := by decide +kernel
theorem am_o86 : okR am_m86 = true := by decide +kernel
theorem am_p86 : okMR am_m86 = true := by decide +kernel
theorem am_o87 : okR am_m87 = true := by decide +kernel
theorem am_p87 : okMR am_m87 = true := by decide +kernel
theorem am_o88 : okR am_m88 = true := by decide +kernel
theorem am_p88 : okMR am_m88 = true := by decide +kernel
theorem am_o89 : okR am_m89 = true := by decide +kernel
theorem am_p89 : okMR am_m89 = true := by decide +kernel
theorem am_o90 : okR am_m90 = true := by decide +kernel
theorem am_p90 : okMR am_m90 = true := by decide +kernel
theorem am_o91 : okR am_m91 = true := by decide +kernel
theorem am_p91 : okMR am_m91 = true := by decide +kernel
theorem am_o92 : okR am_m92 = true := by decide +kernel
theorem am_p92 : okMR am_m92 = true := by decide +kernel
theorem am_o93 : okR am_m93 = true := by decide +kernel
theorem am_p93 : okMR am_m93 = true := by decide +kernel
theorem am_o94 : okR am_m94 = true := by decide +kernel
theorem am_p94 : okMR am_m94 = true := by decide +kernel
theorem am_o95 : okR am_m95 = true := by decide +kernel
theorem am_p95 : okMR am_m95 = true := by decide +kernel
theorem am_o96 : okR am_m96 = true := by decide +kernel
theorem am_p96 : okMR am_m96 = true := by decide +kernel
theorem am_o97 : okR am_m97 = true := by decide +kernel
theorem am_p97 : okMR am_m97 = true := by decide +kernel
theorem am_o98 : okR am_m98 = true := by decide +kernel
theorem am_p98 : okMR am_m98 = true := by decide +kernel
theorem am_o99 : okR am_m99 = true := by decide +kernel
theorem am_p99 : okMR am_m99 = true := by decide +kernel
theorem am_o100 : okR am_m100 = true := by decide +kernel
theorem am_p100 : okMR am_m100 = true := by decide +kernel
theorem am_o101 : okR am_m101 = true := by decide +kernel
theorem am_p101 : okMR am_m101 = true := by decide +kernel
theorem am_o102 : okR am_m102 = true := by decide +kernel
theorem am_p102 : okMR am_m102 = true := by decide +kernel
theorem am_o103 : okR am_m103 = true := by decide +kernel
theorem am_p103 : okMR am_m103 = true := by decide +kernel
theorem am_o104 : okR am_m104 = true := by decide +kernel
theorem am_p104 : okMR am_m104 = true := by decide +kernel
theorem am_o105 : okR am_m105 = true := by decide +kernel
theorem am_p105 : okMR am_m105 = true := by decide +kernel
theorem am_o106 : okR am_m106 = true := by decide +kernel
theorem am_p106 : okMR am_m106 = true := by decide +kernel
theorem am_o107 : okR am_m107 = true := by decide +kernel
theorem am_p107 : okMR am_m107 = true := by decide +kernel
theorem am_o108 : okR am_m108 = true := by decide +kernel
theorem am_p108 : okMR am_m108 = true := by decide +kernel
theorem am_o109 : okR am_m109 = true := by decide +kernel
theorem am_p109 : okMR am_m109 = true := by decide +kernel
theorem am_o110 : okR am_m110 = true := by decide +kernel
theorem am_p110 : okMR am_m110 = true := by decide +kernel
theorem am_o111 : okR am_m111 = true := by decide +kernel
theorem am_p111 : okMR am_m111 = true := by decide +kernel
theorem am_o112 : okR am_m112 = true := by decide +kernel
theorem am_p112 : okMR am_m112 = true := by decide +kernel
theorem am_o113 : okR am_m113 = true := by decide +kernel
theorem am_p113 : okMR am_m113 = true := by decide +kernel
theorem am_o114 : okR am_m114 = true := by decide +kernel
theorem am_p114 : okMR am_m114 = true := by decide +kernel
theorem am_o115 : okR am_m115 = true := by decide +kernel
theorem am_p115 : okMR am_m115 = true := by decide +kernel
theorem am_o116 : okR am_m116 = true := by decide +kernel
theorem am_p116 : okMR am_m116 = true := by decide +kernel
theorem am_o117 : okR am_m117 = true := by decide +kernel
theorem am_p117 : okMR am_m117 = true := by decide +kernel
theorem am_o118 : okR am_m118 = true := by decide +kernel
theorem am_p118 : okMR am_m118 = true := by decide +kernel
theorem am_o119 : okR am_m119 = true := by decide +kernel
theorem am_p119 : okMR am_m119 = true := by decide +kernel
theorem am_o120 : okR am_m120 = true := by decide +kernel
theorem am_p120 : okMR am_m120 = true := by decide +kernel
theorem am_o121 : okR am_m121 = true := by decide +kernel
theorem am_p121 : okMR am_m121 = true := by decide +kernel
theorem am_o122 : okR am_m122 = true := by decide +kernel
theorem am_p122 : okMR am_m122 = true := by decide +kernel
theorem am_o123 : okR am_m123 = true := by decide +kernel
theorem am_p123 : okMR am_m123 = true := by decide +kernel
theorem am_o124 : okR am_m124 = true := by decide +kernel
theorem am_p124 : okMR am_m124 = true := by decide +kernel
theorem am_o125 : okR am_m125 = true := by decide +kernel
theorem am_p125 : okMR am_m125 = true := by decide +kernel
theorem am_o126 : okR am_m126 = true := by decide +kernel
theorem am_p126 : okMR am_m126 = true := by decide +kernel
theorem am_o127 : okR am_m127 = true := by decide +kernel
theorem am_p127 : okMR am_m127 = true := by decide +kernel
theorem am_o128 : okR am_m128 = true := by decide +kernel
theorem am_p128 : okMR am_m128 = true := by decide +kernel
theorem am_o129 : okR am_m129 = true := by decide +kernel
theorem am_p129 : okMR am_m129 = true := by decide +kernel
theorem am_o130 : okR am_m130 = true := by decide +kernel
theorem am_p130 : okMR am_m130 = true := by decide +kernel
theorem am_o131 : okR am_m131 = true := by decide +kernel
theorem am_p131 : okMR am_m131 = true := by decide +kernel
theorem am_o132 : okR am_m132 = true := by decide +kernel
theorem am_p132 : okMR am_m132 = true := by decide +kernel
theorem am_o133 : okR am_m133 = true := by decide +kernel
theorem am_p133 : okMR am_m133 = true := by decide +kernel
theorem am_o134 : okR am_m134 = true := by decide +kernel
theorem am_p134 : okMR am_m134 = true := by decide +kernel
theorem am_o135 : okR am_m135 = true := by decide +kernel
theorem am_p135 : okMR am_m135 = true := by decide +kernel
theorem am_o136 : okR am_m136 = true := by decide +kernel
theorem am_p136 : okMR am_m136 = true := by decide +kernel
theorem am_o137 : okR am_m137 = true := by decide +kernel
theorem am_p137 : okMR am_m137 = true := by decide +kernel
theorem am_o138 : okR am_m138 = true := by decide +kernel
theorem am_p138 : okMR am_m138 = true := by decide +kernel
theorem am_o139 : okR am_m139 = true := by decide +kernel
theorem am_p139 : okMR am_m139 = true := by decide +kernel
theorem am_o140 : okR am_m140 = true := by decide +kernel
theorem am_p140 : okMR am_m140 = true := by decide +kernel
theorem am_o141 : okR am_m141 = true := by decide +kernel
theorem am_p141 : okMR am_m141 = true := by decide +kernel
theorem am_o142 : okR am_m142 = true := by decide +kernel
theorem am_p142 : okMR am_m142 = true := by decide +kernel
theorem am_o143 : okR am_m143 = true := by decide +kernel
theorem am_p143 : okMR am_m143 = true := by decide +kernel
theorem am_o144 : okR am_m144 = true := by decide +kernel
theorem am_p144 : okMR am_m144 = true := by decide +kernel
theorem am_o145 : okR am_m145 = true := by decide +kernel
theorem am_p145 : okMR am_m145 = true := by decide +kernel
theorem am_o146 : okR am_m146 = true := by decide +kernel
theorem am_p146 : okMR am_m146 = true := by decide +kernel
theorem am_o147 : okR am_m147 = true := by decide +kernel
theorem am_p147 : okMR am_m147 = true := by decide +kernel
theorem am_o148 : okR am_m148 = true := by decide +kernel
theorem am_p148 : okMR am_m148 = true := by decide +kernel
theorem am_o149 : okR am_m149 = true := by decide +kernel
theorem am_p149 : okMR am_m149 = true := by decide +kernel
theorem am_o150 : okR am_m150 = true := by decide +kernel
theorem am_p150 : okMR am_m150 = true := by decide +kernel
theorem am_o151 : okR am_m151 = true := by decide +kernel
theorem am_p151 : okMR am_m151 = true := by decide +kernel
theorem am_o152 : okR am_m152 = true := by decide +kernel
theorem am_p152 : okMR am_m152 = true := by decide +kernel
theorem am_o153 : okR am_m153 = true := by decide +kernel
theorem am_p153 : okMR am_m153 = true := by decide +kernel
theorem am_o154 : okR am_m154 = true := by decide +kernel
theorem am_p154 : okMR am_m154 = true := by decide +kernel
theorem am_o155 : okR am_m155 = true := by decide +kernel
theorem am_p155 : okMR am_m155 = true := by decide +kernel
theorem am_o156 : okR am_m156 = true := by decide +kernel
theorem am_p156 : okMR am_m156 = true := by decide +kernel
theorem am_o157 : okR am_m157 = true := by decide +kernel
theorem am_p157 : okMR am_m157 = true := by decide +kernel
theorem am_o158 : okR am_m158 = true := by decide +kernel
theorem am_p158 : okMR am_m158 = true := by decide +kernel
theorem am_o159 : okR am_m159 = true := by decide +kernel
theorem am_p159 : okMR am_m159 = true := by decide +kernel
theorem am_o160 : okR am_m160 = true := by decide +kernel
theorem am_p160 : okMR am_m160 = true := by decide +kernel
theorem am_o161 : okR am_m161 = true := by decide +kernel
theorem am_p161 : okMR am_m161 = true := by decide +kernel
theorem am_o162 : okR am_m162 = true := by decide +kernel
theorem am_p162 : okMR am_m162 = true := by decide +kernel
theorem am_o163 : okR am_m163 = true := by decide +kernel
theorem am_p163 : okMR am_m163 = true := by decide +kernel
theorem am_o164 : okR am_m164 = true := by decide +kernel
theorem am_p164 : okMR am_m164 = true := by decide +kernel
theorem am_o165 : okR am_m165 = true := by decide +kernel
theorem am_p165 : okMR am_m165 = true := by decide +kernel
theorem am_o166 : okR am_m166 = true := by decide +kernel
theorem am_p166 : okMR am_m166 = true := by decide +kernel
theorem am_o167 : okR am_m167 = true := by decide +kernel
theorem am_p167 : okMR am_m167 = true := by decide +kernel
theorem am_o168 : okR am_m168 = true := by decide +kernel
theorem am_p168 : okMR am_m168 = true := by decide +kernel
theorem am_o169 : okR am_m169 = true := by decide +kernel
theorem am_p169 : okMR am_m169 = true := by decide +kernel
theorem am_o170 : okR am_m170 = true := by decide +kernel
theorem am_p170 : okMR am_m170 = true := by decide +kernel
theorem am_o171 : okR am_m171 = true := by decide +kernel
theorem am_p171 : okMR am_m171 = true := by decide +kernel
theorem am_o172 : okR am_m172 = true := by decide +kernel
theorem am_p172 : okMR am_m172 = true := by decide +kernel
theorem am_o173 : okR am_m173 = true := by decide +kernel
theorem am_p173 : okMR am_m173 = true := by decide +kernel
theorem am_o174 : okR am_m174 = true := by decide +kernel
theorem am_p174 : okMR am_m174 = true := by decide +kernel
theorem am_o175 : okR am_m175 = true := by decide +kernel
theorem am_p175 : okMR am_m175 = true := by decide +kernel
theorem am_o176 : okR am_m176 = true := by decide +kernel
theorem am_p176 : okMR am_m176 = true := by decide +kernel
theorem am_o177 : okR am_m177 = true := by decide +kernel
theorem am_p177 : okMR am_m177 = true := by decide +kernel
theorem am_o178 : okR am_m178 = true := by decide +kernel
theorem am_p178 : okMR am_m178 = true := by decide +kernel
theorem am_o179 : okR am_m179 = true := by decide +kernel
