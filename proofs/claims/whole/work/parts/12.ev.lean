/-! ===== evaluation rows ===== -/
theorem e_ci {x : Int32} {k k1 k2 : ak_K} {lo : List (Option Value)} {st : List Value} {M : ak_M} : k_ci x k lo st M = k lo (.int x :: st) M := rfl
theorem e_cl {x : Int64} {k k1 k2 : ak_K} {lo : List (Option Value)} {st : List Value} {M : ak_M} : k_cl x k lo st M = k lo (.long x :: st) M := rfl
theorem e_cn {k k1 k2 : ak_K} {lo : List (Option Value)} {st : List Value} {M : ak_M} : k_cn k lo st M = k lo (.null :: st) M := rfl
theorem e_il {i : Nat} {k k1 k2 : ak_K} {lo : List (Option Value)} {st : List Value} {M : ak_M} : k_il i k lo st M = match lg lo i with | some (.int x) => k lo (.int x :: st) M | _ => none := rfl
theorem e_ll {i : Nat} {k k1 k2 : ak_K} {lo : List (Option Value)} {st : List Value} {M : ak_M} : k_ll i k lo st M = match lg lo i with | some (.long x) => k lo (.long x :: st) M | _ => none := rfl
theorem e_al {i : Nat} {k k1 k2 : ak_K} {lo : List (Option Value)} {st : List Value} {M : ak_M} : k_al i k lo st M = match lg lo i with | some (.ref x) => k lo (.ref x :: st) M | some .null => k lo (.null :: st) M | _ => none := rfl
theorem e_is {i : Nat} {x : Int32} {k k1 k2 : ak_K} {lo : List (Option Value)} {st : List Value} {M : ak_M} : k_is i k lo (.int x :: st) M = if ak_ok1 lo i = true then k (lset lo i (some (.int x))) st M else none := rfl
theorem e_as {i : Nat} {x : Addr} {k k1 k2 : ak_K} {lo : List (Option Value)} {st : List Value} {M : ak_M} : k_as i k lo (.ref x :: st) M = if ak_ok1 lo i = true then k (lset lo i (some (.ref x))) st M else none := rfl
theorem e_asn {i : Nat} {k k1 k2 : ak_K} {lo : List (Option Value)} {st : List Value} {M : ak_M} : k_as i k lo (.null :: st) M = if ak_ok1 lo i = true then k (lset lo i (some .null)) st M else none := rfl
theorem e_ls {i : Nat} {x : Int64} {k k1 k2 : ak_K} {lo : List (Option Value)} {st : List Value} {M : ak_M} : k_ls i k lo (.long x :: st) M = if ak_ok1 lo i = true then k (lset (lset lo (i + 1) none) i (some (.long x))) st M else none := rfl
theorem e_ii {i : Nat} {y : Int32} {k k1 k2 : ak_K} {lo : List (Option Value)} {st : List Value} {M : ak_M} : k_ii i y k lo st M = match lg lo i with | some (.int x) => if ak_ok1 lo i = true then k (lset lo i (some (.int (x + y)))) st M else none | _ => none := rfl
theorem e_pop {x : Int32} {k k1 k2 : ak_K} {lo : List (Option Value)} {st : List Value} {M : ak_M} : k_pop k lo (.int x :: st) M = k lo st M := rfl
theorem e_dupi {x : Int32} {k k1 k2 : ak_K} {lo : List (Option Value)} {st : List Value} {M : ak_M} : k_dup k lo (.int x :: st) M = k lo (.int x :: .int x :: st) M := rfl
theorem e_dupr {x : Addr} {k k1 k2 : ak_K} {lo : List (Option Value)} {st : List Value} {M : ak_M} : k_dup k lo (.ref x :: st) M = k lo (.ref x :: .ref x :: st) M := rfl
theorem e_dup2r {x : Int32} {y : Addr} {k k1 k2 : ak_K} {lo : List (Option Value)} {st : List Value} {M : ak_M} : k_dup2 k lo (.int x :: .ref y :: st) M = k lo (.int x :: .ref y :: .int x :: .ref y :: st) M := rfl
theorem e_dup2i {x y : Int32} {k k1 k2 : ak_K} {lo : List (Option Value)} {st : List Value} {M : ak_M} : k_dup2 k lo (.int x :: .int y :: st) M = k lo (.int x :: .int y :: .int x :: .int y :: st) M := rfl
theorem e_b {f : Int32 → Int32 → Int32} {x y : Int32} {k k1 k2 : ak_K} {lo : List (Option Value)} {st : List Value} {M : ak_M} : k_b f k lo (.int y :: .int x :: st) M = k lo (.int (f x y) :: st) M := rfl
theorem e_bd {f : Int32 → Int32 → Int32} {x y : Int32} {k k1 k2 : ak_K} {lo : List (Option Value)} {st : List Value} {M : ak_M} : k_bd f k lo (.int y :: .int x :: st) M = if y = 0 then none else k lo (.int (f x y) :: st) M := rfl
theorem e_lb {f : Int64 → Int64 → Int64} {x y : Int64} {k k1 k2 : ak_K} {lo : List (Option Value)} {st : List Value} {M : ak_M} : k_lb f k lo (.long y :: .long x :: st) M = k lo (.long (f x y) :: st) M := rfl
theorem e_lbd {f : Int64 → Int64 → Int64} {x y : Int64} {k k1 k2 : ak_K} {lo : List (Option Value)} {st : List Value} {M : ak_M} : k_lbd f k lo (.long y :: .long x :: st) M = if y = 0 then none else k lo (.long (f x y) :: st) M := rfl
theorem e_i2l {x : Int32} {k k1 k2 : ak_K} {lo : List (Option Value)} {st : List Value} {M : ak_M} : k_i2l k lo (.int x :: st) M = k lo (.long x.toInt64 :: st) M := rfl
theorem e_l2i {x : Int64} {k k1 k2 : ak_K} {lo : List (Option Value)} {st : List Value} {M : ak_M} : k_l2i k lo (.long x :: st) M = k lo (.int x.toInt32 :: st) M := rfl
theorem e_lcmp {x y : Int64} {k k1 k2 : ak_K} {lo : List (Option Value)} {st : List Value} {M : ak_M} : k_lcmp k lo (.long y :: .long x :: st) M = k lo (.int (lg_cmp x y) :: st) M := rfl
theorem e_ifeq {x : Int32} {k k1 k2 : ak_K} {lo : List (Option Value)} {st : List Value} {M : ak_M} : k_ifeq k1 k2 lo (.int x :: st) M = if x = 0 then k1 lo st M else k2 lo st M := rfl
theorem e_iflt {x : Int32} {k k1 k2 : ak_K} {lo : List (Option Value)} {st : List Value} {M : ak_M} : k_iflt k1 k2 lo (.int x :: st) M = if x < 0 then k1 lo st M else k2 lo st M := rfl
theorem e_ifge {x : Int32} {k k1 k2 : ak_K} {lo : List (Option Value)} {st : List Value} {M : ak_M} : k_ifge k1 k2 lo (.int x :: st) M = if 0 ≤ x then k1 lo st M else k2 lo st M := rfl
theorem e_ifgt {x : Int32} {k k1 k2 : ak_K} {lo : List (Option Value)} {st : List Value} {M : ak_M} : k_ifgt k1 k2 lo (.int x :: st) M = if 0 < x then k1 lo st M else k2 lo st M := rfl
theorem e_ifle {x : Int32} {k k1 k2 : ak_K} {lo : List (Option Value)} {st : List Value} {M : ak_M} : k_ifle k1 k2 lo (.int x :: st) M = if x ≤ 0 then k1 lo st M else k2 lo st M := rfl
theorem e_cmeq {x y : Int32} {k k1 k2 : ak_K} {lo : List (Option Value)} {st : List Value} {M : ak_M} : k_cmeq k1 k2 lo (.int y :: .int x :: st) M = if x = y then k1 lo st M else k2 lo st M := rfl
theorem e_cmlt {x y : Int32} {k k1 k2 : ak_K} {lo : List (Option Value)} {st : List Value} {M : ak_M} : k_cmlt k1 k2 lo (.int y :: .int x :: st) M = if x < y then k1 lo st M else k2 lo st M := rfl
theorem e_cmge {x y : Int32} {k k1 k2 : ak_K} {lo : List (Option Value)} {st : List Value} {M : ak_M} : k_cmge k1 k2 lo (.int y :: .int x :: st) M = if y ≤ x then k1 lo st M else k2 lo st M := rfl
theorem e_cmgt {x y : Int32} {k k1 k2 : ak_K} {lo : List (Option Value)} {st : List Value} {M : ak_M} : k_cmgt k1 k2 lo (.int y :: .int x :: st) M = if y < x then k1 lo st M else k2 lo st M := rfl
theorem e_cmle {x y : Int32} {k k1 k2 : ak_K} {lo : List (Option Value)} {st : List Value} {M : ak_M} : k_cmle k1 k2 lo (.int y :: .int x :: st) M = if x ≤ y then k1 lo st M else k2 lo st M := rfl
theorem e_nulln {k k1 k2 : ak_K} {lo : List (Option Value)} {st : List Value} {M : ak_M} : k_ifnull k1 k2 lo (.null :: st) M = k1 lo st M := rfl
theorem e_nullr {x : Addr} {k k1 k2 : ak_K} {lo : List (Option Value)} {st : List Value} {M : ak_M} : k_ifnull k1 k2 lo (.ref x :: st) M = k2 lo st M := rfl
theorem e_sw {x : Int32} {cs : List (Int32 × ak_K)} {k k1 k2 : ak_K} {lo : List (Option Value)} {st : List Value} {M : ak_M} : k_sw cs k lo (.int x :: st) M = k_swf cs k x lo st M := rfl
theorem e_swn {x : Int32} {k k1 k2 : ak_K} {lo : List (Option Value)} {st : List Value} {M : ak_M} : k_swf [] k x lo st M = k lo st M := rfl
theorem e_swc {x : Int32} {q : Int32 × ak_K} {cs : List (Int32 × ak_K)} {k k1 k2 : ak_K} {lo : List (Option Value)} {st : List Value} {M : ak_M} : k_swf (q :: cs) k x lo st M = if x = q.1 then q.2 lo st M else k_swf cs k x lo st M := by
  show (if x = q.1 then q.2 else k_swf cs k x) lo st M = _
  split <;> rfl
theorem e_gi {i j : Nat} {a : Addr} {k k1 k2 : ak_K} {lo : List (Option Value)} {st : List Value} {M : ak_M} : k_gi i j k lo (.ref a :: st) M = if (mS M a).1 = 10 + i then k lo (.int (mI M a j) :: st) M else none := rfl
theorem e_gl {i j : Nat} {a : Addr} {k k1 k2 : ak_K} {lo : List (Option Value)} {st : List Value} {M : ak_M} : k_gl i j k lo (.ref a :: st) M = if (mS M a).1 = 10 + i then k lo (.long (mL M a j) :: st) M else none := rfl
theorem e_gp {i j : Nat} {a : Addr} {k k1 k2 : ak_K} {lo : List (Option Value)} {st : List Value} {M : ak_M} : k_gp i j k lo (.ref a :: st) M = if (mS M a).1 = 10 + i then k lo (va_rf (mP M a j) :: st) M else none := rfl
theorem e_pi {i j : Nat} {a : Addr} {x : Int32} {k k1 k2 : ak_K} {lo : List (Option Value)} {st : List Value} {M : ak_M} : k_pi i j k lo (.int x :: .ref a :: st) M = if (mS M a).1 = 10 + i then k lo st (uI M a j x) else none := rfl
theorem e_pz {i j : Nat} {a : Addr} {x : Int32} {k k1 k2 : ak_K} {lo : List (Option Value)} {st : List Value} {M : ak_M} : k_pz i j k lo (.int x :: .ref a :: st) M = if (mS M a).1 = 10 + i ∧ (x = 0 ∨ x = 1) then k lo st (uI M a j x) else none := rfl
theorem e_pl {i j : Nat} {a : Addr} {x : Int64} {k k1 k2 : ak_K} {lo : List (Option Value)} {st : List Value} {M : ak_M} : k_pl i j k lo (.long x :: .ref a :: st) M = if (mS M a).1 = 10 + i then k lo st (uL M a j x) else none := rfl
theorem e_pp {i j : Nat} {a x : Addr} {k k1 k2 : ak_K} {lo : List (Option Value)} {st : List Value} {M : ak_M} : k_pp i j k lo (.ref x :: .ref a :: st) M = if (mS M a).1 = 10 + i then k lo st (uP M a j (some x)) else none := rfl
theorem e_ald {i : Int32} {a : Addr} {k k1 k2 : ak_K} {lo : List (Option Value)} {st : List Value} {M : ak_M} : k_ald k lo (.int i :: .ref a :: st) M = if (mS M a).1 = 1 ∧ 0 ≤ i ∧ i.toNatClampNeg < (mS M a).2 then k lo (.int (mI M a i.toNatClampNeg) :: st) M else none := rfl
theorem e_zld {i : Int32} {a : Addr} {k k1 k2 : ak_K} {lo : List (Option Value)} {st : List Value} {M : ak_M} : k_zld k lo (.int i :: .ref a :: st) M = if (mS M a).1 = 2 ∧ 0 ≤ i ∧ i.toNatClampNeg < (mS M a).2 then k lo (.int (mI M a i.toNatClampNeg) :: st) M else none := rfl
theorem e_qld {i : Int32} {a : Addr} {k k1 k2 : ak_K} {lo : List (Option Value)} {st : List Value} {M : ak_M} : k_qld k lo (.int i :: .ref a :: st) M = if (mS M a).1 = 3 ∧ 0 ≤ i ∧ i.toNatClampNeg < (mS M a).2 then k lo (va_rf (mP M a i.toNatClampNeg) :: st) M else none := rfl
theorem e_ast {x i : Int32} {a : Addr} {k k1 k2 : ak_K} {lo : List (Option Value)} {st : List Value} {M : ak_M} : k_ast k lo (.int x :: .int i :: .ref a :: st) M = if (mS M a).1 = 1 ∧ 0 ≤ i ∧ i.toNatClampNeg < (mS M a).2 then k lo st (uI M a i.toNatClampNeg x) else none := rfl
theorem e_zst {x i : Int32} {a : Addr} {k k1 k2 : ak_K} {lo : List (Option Value)} {st : List Value} {M : ak_M} : k_zst k lo (.int x :: .int i :: .ref a :: st) M = if ((mS M a).1 = 2 ∧ 0 ≤ i ∧ i.toNatClampNeg < (mS M a).2) ∧ (x = 0 ∨ x = 1) then k lo st (uI M a i.toNatClampNeg x) else none := rfl
theorem e_qst {i : Int32} {x a : Addr} {k k1 k2 : ak_K} {lo : List (Option Value)} {st : List Value} {M : ak_M} : k_qst k lo (.ref x :: .int i :: .ref a :: st) M = if ((mS M a).1 = 3 ∧ 0 ≤ i ∧ i.toNatClampNeg < (mS M a).2) ∧ (mS M x).1 = 18 then k lo st (uP M a i.toNatClampNeg (some x)) else none := rfl
theorem e_len {a : Addr} {k k1 k2 : ak_K} {lo : List (Option Value)} {st : List Value} {M : ak_M} : k_len k lo (.ref a :: st) M = if (mS M a).1 = 1 ∨ (mS M a).1 = 3 then k lo (.int (Int32.ofNat (mS M a).2) :: st) M else none := rfl
theorem e_cs {n : Nat} {f : List Value → ak_M → ak_R} {k k1 k2 : ak_K} {lo : List (Option Value)} {st : List Value} {M : ak_M} : k_cs n f k lo st M = match ak_pop n st [] with | some q => if ak_s4 q.2 = true then (match f q.1 M with | some r => k lo (r.1.toList ++ q.2) r.2 | none => none) else none | none => none := rfl
theorem e_cv {i n : Nat} {f : List Value → ak_M → ak_R} {k k1 k2 : ak_K} {lo : List (Option Value)} {st : List Value} {M : ak_M} : k_cv i n f k lo st M = match ak_pop n st [] with | some (.ref a :: As, rest) => if ak_s4 rest = true ∧ (mS M a).1 = 10 + i then (match f (.ref a :: As) M with | some r => k lo (r.1.toList ++ rest) r.2 | none => none) else none | _ => none := rfl
theorem e_cn0 {n : Nat} {f : List Value → ak_M → ak_R} {k k1 k2 : ak_K} {lo : List (Option Value)} {st : List Value} {M : ak_M} : k_cn0 n f k lo st M = match ak_pop n st [] with | some (.ref a :: As, rest) => if ak_s4 rest = true ∧ a ≠ 0 then (match f (.ref a :: As) M with | some r => k lo (r.1.toList ++ rest) r.2 | none => none) else none | _ => none := rfl
theorem e_obj {a : Addr} {k k1 k2 : ak_K} {lo : List (Option Value)} {st : List Value} {M : ak_M} : k_obj k lo (.ref a :: st) M = if ak_s4 st = true then k lo st M else none := rfl
theorem e_max {x y : Int32} {k k1 k2 : ak_K} {lo : List (Option Value)} {st : List Value} {M : ak_M} : k_max k lo (.int y :: .int x :: st) M = if ak_s4 st = true then k lo (.int (if x < y then y else x) :: st) M else none := rfl
theorem e_min {x y : Int32} {k k1 k2 : ak_K} {lo : List (Option Value)} {st : List Value} {M : ak_M} : k_min k lo (.int y :: .int x :: st) M = if ak_s4 st = true then k lo (.int (if y < x then y else x) :: st) M else none := rfl
theorem e_ri {x : Int32} {k k1 k2 : ak_K} {lo : List (Option Value)} {st : List Value} {M : ak_M} : k_ri lo [.int x] M = some (some (.int x), M) := rfl
theorem e_rz {x : Int32} {k k1 k2 : ak_K} {lo : List (Option Value)} {st : List Value} {M : ak_M} : k_rz lo [.int x] M = if x = 0 ∨ x = 1 then some (some (.int x), M) else none := rfl
theorem e_rq {x : Addr} {k k1 k2 : ak_K} {lo : List (Option Value)} {st : List Value} {M : ak_M} : k_rq lo [.ref x] M = some (some (.ref x), M) := rfl
theorem e_rqn {k k1 k2 : ak_K} {lo : List (Option Value)} {st : List Value} {M : ak_M} : k_rq lo [.null] M = some (some .null, M) := rfl
theorem e_rv {k k1 k2 : ak_K} {lo : List (Option Value)} {st : List Value} {M : ak_M} : k_rv lo [] M = some (none, M) := rfl
theorem e_rfs {a : Nat} : va_rf (some a) = .ref a := rfl
theorem e_rfn : va_rf none = .null := rfl
theorem e_mS_uI {M : ak_M} {a j : Nat} {x : Int32} : mS (uI M a j x) = mS M := rfl
theorem e_mZ_uI {M : ak_M} {a j : Nat} {x : Int32} : mZ (uI M a j x) = mZ M := rfl
theorem e_mT_uI {M : ak_M} {a j : Nat} {x : Int32} : mT (uI M a j x) = mT M := rfl
theorem e_mI_uI {M : ak_M} {a j b q : Nat} {x : Int32} : mI (uI M a j x) b q = if b = a ∧ q = j then x else mI M b q := rfl
theorem e_mL_uI {M : ak_M} {a j : Nat} {x : Int32} : mL (uI M a j x) = mL M := rfl
theorem e_mP_uI {M : ak_M} {a j : Nat} {x : Int32} : mP (uI M a j x) = mP M := rfl
theorem e_mS_uL {M : ak_M} {a j : Nat} {x : Int64} : mS (uL M a j x) = mS M := rfl
theorem e_mZ_uL {M : ak_M} {a j : Nat} {x : Int64} : mZ (uL M a j x) = mZ M := rfl
theorem e_mT_uL {M : ak_M} {a j : Nat} {x : Int64} : mT (uL M a j x) = mT M := rfl
theorem e_mI_uL {M : ak_M} {a j : Nat} {x : Int64} : mI (uL M a j x) = mI M := rfl
theorem e_mL_uL {M : ak_M} {a j b q : Nat} {x : Int64} : mL (uL M a j x) b q = if b = a ∧ q = j then x else mL M b q := rfl
theorem e_mP_uL {M : ak_M} {a j : Nat} {x : Int64} : mP (uL M a j x) = mP M := rfl
theorem e_mS_uP {M : ak_M} {a j : Nat} {x : Option Nat} : mS (uP M a j x) = mS M := rfl
theorem e_mZ_uP {M : ak_M} {a j : Nat} {x : Option Nat} : mZ (uP M a j x) = mZ M := rfl
theorem e_mT_uP {M : ak_M} {a j : Nat} {x : Option Nat} : mT (uP M a j x) = mT M := rfl
theorem e_mI_uP {M : ak_M} {a j : Nat} {x : Option Nat} : mI (uP M a j x) = mI M := rfl
theorem e_mL_uP {M : ak_M} {a j : Nat} {x : Option Nat} : mL (uP M a j x) = mL M := rfl
theorem e_mP_uP {M : ak_M} {a j b q : Nat} {x : Option Nat} : mP (uP M a j x) b q = if b = a ∧ q = j then x else mP M b q := rfl
