/-! ===== evaluation rows ===== -/
theorem e_ci {x : Int32} {k k1 k2 : ak_K} {lo : List (Option Value)} {st : List Value} {M : ak_M} : k_ci x k lo st M = k lo (.int x :: st) M := rfl
theorem e_cl {x : Int64} {k k1 k2 : ak_K} {lo : List (Option Value)} {st : List Value} {M : ak_M} : k_cl x k lo st M = k lo (.long x :: st) M := rfl
theorem e_cn {k k1 k2 : ak_K} {lo : List (Option Value)} {st : List Value} {M : ak_M} : k_cn k lo st M = k lo (.null :: st) M := rfl
theorem e_il {i : Nat} {k k1 k2 : ak_K} {lo : List (Option Value)} {st : List Value} {M : ak_M} : k_il i k lo st M = match lg lo i with | some (.int x) => k lo (.int x :: st) M | _ => none := rfl
theorem e_ll {i : Nat} {k k1 k2 : ak_K} {lo : List (Option Value)} {st : List Value} {M : ak_M} : k_ll i k lo st M = match lg lo i with | some (.long x) => k lo (.long x :: st) M | _ => none := rfl
theorem e_al {i : Nat} {k k1 k2 : ak_K} {lo : List (Option Value)} {st : List Value} {M : ak_M} : k_al i k lo st M = match lg lo i with | some (.ref x) => k lo (.ref x :: st) M | some .null => k lo (.null :: st) M | _ => none := rfl
theorem e_is {i : Nat} {x : Int32} {k k1 k2 : ak_K} {lo : List (Option Value)} {st : List Value} {M : ak_M} : k_is i k lo (.int x :: st) M = if ak_ok1 lo i = true then k (lset lo i (some (.int x))) st M else none := rfl
theorem e_as {i : Nat} {x : Addr} {k k1 k2 : ak_K} {lo : List (Option Value)} {st : List Value} {M : ak_M} : k_as i k lo (.ref x :: st) M = if ak_ok1 lo i = true then k (lset lo i (some (.ref x))) st M else none := rfl
theorem e_asn {i : Nat} {k k1 k2 : ak_K} {lo : List (Option Value)} {st : List Value} {M : ak_M} : k_as i k lo (.null :: st) M = if ak_ok1 lo i = true then k (lset lo i (some .null)) st M else none := rfl
theorem e_ls {i : Nat} {x : Int64} {k k1 k2 : ak_K} {lo : List (Option Value)} {st : List Value} {M : ak_M} : k_ls i k lo (.long x :: st) M = if ak_ok1 lo i = true then k (lset (lset lo (i + 1) none) i (some (.long x))) st M else none := rfl
theorem e_ii {i : Nat} {y : Int32} {k k1 k2 : ak_K} {lo : List (Option Value)} {st : List Value} {M : ak_M} : k_ii i y k lo st M = match lg lo i with | some (.int x) => if ak_ok1 lo i = true then k (lset lo i (some (.int (x + y)))) st M else none | _ => none := rfl
theorem e_pop {x : Int32} {k k1 k2 : ak_K} {lo : List (Option Value)} {st : List Value} {M : ak_M} : k_pop k lo (.int x :: st) M = k lo st M := rfl
theorem e_dupi {x : Int32} {k k1 k2 : ak_K} {lo : List (Option Value)} {st : List Value} {M : ak_M} : k_dup k lo (.int x :: st) M = k lo (.int x :: .int x :: st) M := rfl
theorem e_dupr {x : Addr} {k k1 k2 : ak_K} {lo : List (Option Value)} {st : List Value} {M : ak_M} : k_dup k lo (.ref x :: st) M = k lo (.ref x :: .ref x :: st) M := rfl
theorem e_dup2r {x : Int32} {y : Addr} {k k1 k2 : ak_K} {lo : List (Option Value)} {st : List Value} {M : ak_M} : k_dup2 k lo (.int x :: .ref y :: st) M = k lo (.int x :: .ref y :: .int x :: .ref y :: st) M := rfl
theorem e_dup2i {x y : Int32} {k k1 k2 : ak_K} {lo : List (Option Value)} {st : List Value} {M : ak_M} : k_dup2 k lo (.int x :: .int y :: st) M = k lo (.int x :: .int y :: .int x :: .int y :: st) M := rfl
theorem e_b {f : Int32 → Int32 → Int32} {x y : Int32} {k k1 k2 : ak_K} {lo : List (Option Value)} {st : List Value} {M : ak_M} : k_b f k lo (.int y :: .int x :: st) M = k lo (.int (f x y) :: st) M := rfl
theorem e_bd {f : Int32 → Int32 → Int32} {x y : Int32} {k k1 k2 : ak_K} {lo : List (Option Value)} {st : List Value} {M : ak_M} : k_bd f k lo (.int y :: .int x :: st) M = if y = 0 then none else k lo (.int (f x y) :: st) M := rfl
theorem e_lb {f : Int64 → Int64 → Int64} {x y : Int64} {k k1 k2 : ak_K} {lo : List (Option Value)} {st : List Value} {M : ak_M} : k_lb f k lo (.long y :: .long x :: st) M = k lo (.long (f x y) :: st) M := rfl
theorem e_lbd {f : Int64 → Int64 → Int64} {x y : Int64} {k k1 k2 : ak_K} {lo : List (Option Value)} {st : List Value} {M : ak_M} : k_lbd f k lo (.long y :: .long x :: st) M = if y = 0 then none else k lo (.long (f x y) :: st) M := rfl
theorem e_i2l {x : Int32} {k k1 k2 : ak_K} {lo : List (Option Value)} {st : List Value} {M : ak_M} : k_i2l k lo (.int x :: st) M = k lo (.long x.toInt64 :: st) M := rfl
theorem e_l2i {x : Int64} {k k1 k2 : ak_K} {lo : List (Option Value)} {st : List Value} {M : ak_M} : k_l2i k lo (.long x :: st) M = k lo (.int x.toInt32 :: st) M := rfl
theorem e_lcmp {x y : Int64} {k k1 k2 : ak_K} {lo : List (Option Value)} {st : List Value} {M : ak_M} : k_lcmp k lo (.long y :: .long x :: st) M = k lo (.int (lg_cmp x y) :: st) M := rfl
theorem e_ifeq {x : Int32} {k k1 k2 : ak_K} {lo : List (Option Value)} {st : List Value} {M : ak_M} : k_ifeq k1 k2 lo (.int x :: st) M = if x = 0 then k1 lo st M else k2 lo st M := rfl
theorem e_iflt {x : Int32} {k k1 k2 : ak_K} {lo : List (Option Value)} {st : List Value} {M : ak_M} : k_iflt k1 k2 lo (.int x :: st) M = if x < 0 then k1 lo st M else k2 lo st M := rfl
theorem e_ifge {x : Int32} {k k1 k2 : ak_K} {lo : List (Option Value)} {st : List Value} {M : ak_M} : k_ifge k1 k2 lo (.int x :: st) M = if 0 ≤ x then k1 lo st M else k2 lo st M := rfl
theorem e_ifgt {x : Int32} {k k1 k2 : ak_K} {lo : List (Option Value)} {st : List Value} {M : ak_M} : k_ifgt k1 k2 lo (.int x :: st) M = if 0 < x then k1 lo st M else k2 lo st M := rfl
theorem e_ifle {x : Int32} {k k1 k2 : ak_K} {lo : List (Option Value)} {st : List Value} {M : ak_M} : k_ifle k1 k2 lo (.int x :: st) M = if x ≤ 0 then k1 lo st M else k2 lo st M := rfl
theorem e_cmeq {x y : Int32} {k k1 k2 : ak_K} {lo : List (Option Value)} {st : List Value} {M : ak_M} : k_cmeq k1 k2 lo (.int y :: .int x :: st) M = if x = y then k1 lo st M else k2 lo st M := rfl
theorem e_cmlt {x y : Int32} {k k1 k2 : ak_K} {lo : List (Option Value)} {st : List Value} {M : ak_M} : k_cmlt k1 k2 lo (.int y :: .int x :: st) M = if x < y then k1 lo st M else k2 lo st M := rfl
theorem e_cmge {x y : Int32} {k k1 k2 : ak_K} {lo : List (Option Value)} {st : List Value} {M : ak_M} : k_cmge k1 k2 lo (.int y :: .int x :: st) M = if y ≤ x then k1 lo st M else k2 lo st M := rfl
theorem e_cmgt {x y : Int32} {k k1 k2 : ak_K} {lo : List (Option Value)} {st : List Value} {M : ak_M} : k_cmgt k1 k2 lo (.int y :: .int x :: st) M = if y < x then k1 lo st M else k2 lo st M := rfl
theorem e_cmle {x y : Int32} {k k1 k2 : ak_K} {lo : List (Option Value)} {st : List Value} {M : ak_M} : k_cmle k1 k2 lo (.int y :: .int x :: st) M = if x ≤ y then k1 lo st M else k2 lo st M := rfl
theorem e_nulln {k k1 k2 : ak_K} {lo : List (Option Value)} {st : List Value} {M : ak_M} : k_ifnull k1 k2 lo (.null :: st) M = k1 lo st M := rfl
theorem e_nullr {x : Addr} {k k1 k2 : ak_K} {lo : List (Option Value)} {st : List Value} {M : ak_M} : k_ifnull k1 k2 lo (.ref x :: st) M = k2 lo st M := rfl
theorem e_sw {x : Int32} {cs : List (Int32 × ak_K)} {k k1 k2 : ak_K} {lo : List (Option Value)} {st : List Value} {M : ak_M} : k_sw cs k lo (.int x :: st) M = k_swf cs k x lo st M := rfl
theorem e_swn {x : Int32} {k k1 k2 : ak_K} {lo : List (Option Value)} {st : List Value} {M : ak_M} : k_swf [] k x lo st M = k lo st M := rfl
theorem e_swc {x : Int32} {q : Int32 × ak_K} {cs : List (Int32 × ak_K)} {k k1 k2 : ak_K} {lo : List (Option Value)} {st : List Value} {M : ak_M} : k_swf (q :: cs) k x lo st M = if x = q.1 then q.2 lo st M else k_swf cs k x lo st M := by
  show (if x = q.1 then q.2 else k_swf cs k x) lo st M = _
  split <;> rfl
theorem e_gi {i j : Nat} {a : Addr} {k k1 k2 : ak_K} {lo : List (Option Value)} {st : List Value} {M : ak_M} : k_gi i j k lo (.ref a :: st) M = if (mS M a).1 = 10 + i then k lo (.int (mI M a j) :: st) M else none := rfl
theorem e_gl {i j : Nat} {a : Addr} {k k1 k2 : ak_K} {lo : List (Option Value)} {st : List Value} {M : ak_M} : k_gl i j k lo (.ref a :: st) M = if (mS M a).1 = 10 + i then k lo (.long (mL M a j) :: st) M else none := rfl
theorem e_gp {i j : Nat} {a : Addr} {k k1 k2 : ak_K} {lo : List (Option Value)} {st : List Value} {M : ak_M} : k_gp i j k lo (.ref a :: st) M = if (mS M a).1 = 10 + i then k lo (va_rf (mP M a j) :: st) M else none := rfl
theorem e_pi {i j : Nat} {a : Addr} {x : Int32} {k k1 k2 : ak_K} {lo : List (Option Value)} {st : List Value} {M : ak_M} : k_pi i j k lo (.int x :: .ref a :: st) M = if (mS M a).1 = 10 + i then k lo st (uI M a j x) else none := rfl
theorem e_pz {i j : Nat} {a : Addr} {x : Int32} {k k1 k2 : ak_K} {lo : List (Option Value)} {st : List Value} {M : ak_M} : k_pz i j k lo (.int x :: .ref a :: st) M = if (mS M a).1 = 10 + i ∧ (x = 0 ∨ x = 1) then k lo st (uI M a j x) else none := rfl
theorem e_pl {i j : Nat} {a : Addr} {x : Int64} {k k1 k2 : ak_K} {lo : List (Option Value)} {st : List Value} {M : ak_M} : k_pl i j k lo (.long x :: .ref a :: st) M = if (mS M a).1 = 10 + i then k lo st (uL M a j x) else none := rfl
theorem e_pp {i j : Nat} {a x : Addr} {k k1 k2 : ak_K} {lo : List (Option Value)} {st : List Value} {M : ak_M} : k_pp i j k lo (.ref x :: .ref a :: st) M = if (mS M a).1 = 10 + i then k lo st (uP M a j (some x)) else none := rfl
theorem e_ald {i : Int32} {a : Addr} {k k1 k2 : ak_K} {lo : List (Option Value)} {st : List Value} {M : ak_M} : k_ald k lo (.int i :: .ref a :: st) M = if (mS M a).1 = 1 ∧ 0 ≤ i ∧ i.toNatClampNeg < (mS M a).2 then k lo (.int (mI M a i.toNatClampNeg) :: st) M else none := rfl
theorem e_zld {i : Int32} {a : Addr} {k k1 k2 : ak_K} {lo : List (Option Value)} {st : List Value} {M : ak_M} : k_zld k lo (.int i :: .ref a :: st) M = if (mS M a).1 = 2 ∧ 0 ≤ i ∧ i.toNatClampNeg < (mS M a).2 then k lo (.int (mI M a i.toNatClampNeg) :: st) M else none := rfl
theorem e_qld {i : Int32} {a : Addr} {k k1 k2 : ak_K} {lo : List (Option Value)} {st : List Value} {M : ak_M} : k_qld k lo (.int i :: .ref a :: st) M = if (mS M a).1 = 3 ∧ 0 ≤ i ∧ i.toNatClampNeg < (mS M a).2 then k lo (va_rf (mP M a i.toNatClampNeg) :: st) M else none := rfl
theorem e_ast {x i : Int32} {a : Addr} {k k1 k2 : ak_K} {lo : List (Option Value)} {st : List Value} {M : ak_M} : k_ast k lo (.int x :: .int i :: .ref a :: st) M = if (mS M a).1 = 1 ∧ 0 ≤ i ∧ i.toNatClampNeg < (mS M a).2 then k lo st (uI M a i.toNatClampNeg x) else none := rfl
theorem e_zst {x i : Int32} {a : Addr} {k k1 k2 : ak_K} {lo : List (Option Value)} {st : List Value} {M : ak_M} : k_zst k lo (.int x :: .int i :: .ref a :: st) M = if ((mS M a).1 = 2 ∧ 0 ≤ i ∧ i.toNatClampNeg < (mS M a).2) ∧ (x = 0 ∨ x = 1) then k lo st (uI M a i.toNatClampNeg x) else none := rfl
theorem e_qst {i : Int32} {x a : Addr} {k k1 k2 : ak_K} {lo : List (Option Value)} {st : List Value} {M : ak_M} : k_qst k lo (.ref x :: .int i :: .ref a :: st) M = if ((mS M a).1 = 3 ∧ 0 ≤ i ∧ i.toNatClampNeg < (mS M a).2) ∧ (mS M x).1 = 18 then k lo st (uP M a i.toNatClampNeg (some x)) else none := rfl
theorem e_len {a : Addr} {k k1 k2 : ak_K} {lo : List (Option Value)} {st : List Value} {M : ak_M} : k_len k lo (.ref a :: st) M = if (mS M a).1 = 1 ∨ (mS M a).1 = 3 then k lo (.int (Int32.ofNat (mS M a).2) :: st) M else none := rfl
theorem e_cs {n : Nat} {f : List Value → ak_M → ak_R} {k k1 k2 : ak_K} {lo : List (Option Value)} {st : List Value} {M : ak_M} : k_cs n f k lo st M = match ak_pop n st [] with | some q => if ak_s4 q.2 = true then (match f q.1 M with | some r => k lo (r.1.toList ++ q.2) r.2 | none => none) else none | none => none := rfl
theorem e_cv {i n : Nat} {f : List Value → ak_M → ak_R} {k k1 k2 : ak_K} {lo : List (Option Value)} {st : List Value} {M : ak_M} : k_cv i n f k lo st M = match ak_pop n st [] with | some (.ref a :: As, rest) => if ak_s4 rest = true ∧ (mS M a).1 = 10 + i then (match f (.ref a :: As) M with | some r => k lo (r.1.toList ++ rest) r.2 | none => none) else none | _ => none := rfl
theorem e_cn0 {n : Nat} {f : List Value → ak_M → ak_R} {k k1 k2 : ak_K} {lo : List (Option Value)} {st : List Value} {M : ak_M} : k_cn0 n f k lo st M = match ak_pop n st [] with | some (.ref a :: As, rest) => if ak_s4 rest = true ∧ a ≠ 0 then (match f (.ref a :: As) M with | some r => k lo (r.1.toList ++ rest) r.2 | none => none) else none | _ => none := rfl
theorem e_obj {a : Addr} {k k1 k2 : ak_K} {lo : List (Option Value)} {st : List Value} {M : ak_M} : k_obj k lo (.ref a :: st) M = if ak_s4 st = true then k lo st M else none := rfl
theorem e_max {x y : Int32} {k k1 k2 : ak_K} {lo : List (Option Value)} {st : List Value} {M : ak_M} : k_max k lo (.int y :: .int x :: st) M = if ak_s4 st = true then k lo (.int (if x < y then y else x) :: st) M else none := rfl
theorem e_min {x y : Int32} {k k1 k2 : ak_K} {lo : List (Option Value)} {st : List Value} {M : ak_M} : k_min k lo (.int y :: .int x :: st) M = if ak_s4 st = true then k lo (.int (if y < x then y else x) :: st) M else none := rfl
theorem e_ri {x : Int32} {k k1 k2 : ak_K} {lo : List (Option Value)} {st : List Value} {M : ak_M} : k_ri lo [.int x] M = some (some (.int x), M) := rfl
theorem e_rz {x : Int32} {k k1 k2 : ak_K} {lo : List (Option Value)} {st : List Value} {M : ak_M} : k_rz lo [.int x] M = if x = 0 ∨ x = 1 then some (some (.int x), M) else none := rfl
theorem e_rq {x : Addr} {k k1 k2 : ak_K} {lo : List (Option Value)} {st : List Value} {M : ak_M} : k_rq lo [.ref x] M = some (some (.ref x), M) := rfl
theorem e_rqn {k k1 k2 : ak_K} {lo : List (Option Value)} {st : List Value} {M : ak_M} : k_rq lo [.null] M = some (some .null, M) := rfl
theorem e_rv {k k1 k2 : ak_K} {lo : List (Option Value)} {st : List Value} {M : ak_M} : k_rv lo [] M = some (none, M) := rfl
theorem e_rfs {a : Nat} : va_rf (some a) = .ref a := rfl
theorem e_rfn : va_rf none = .null := rfl
theorem e_mS_uI {M : ak_M} {a j : Nat} {x : Int32} : mS (uI M a j x) = mS M := rfl
theorem e_mZ_uI {M : ak_M} {a j : Nat} {x : Int32} : mZ (uI M a j x) = mZ M := rfl
theorem e_mT_uI {M : ak_M} {a j : Nat} {x : Int32} : mT (uI M a j x) = mT M := rfl
theorem e_mI_uI {M : ak_M} {a j b q : Nat} {x : Int32} : mI (uI M a j x) b q = if b = a ∧ q = j then x else mI M b q := rfl
theorem e_mL_uI {M : ak_M} {a j : Nat} {x : Int32} : mL (uI M a j x) = mL M := rfl
theorem e_mP_uI {M : ak_M} {a j : Nat} {x : Int32} : mP (uI M a j x) = mP M := rfl
theorem e_mS_uL {M : ak_M} {a j : Nat} {x : Int64} : mS (uL M a j x) = mS M := rfl
theorem e_mZ_uL {M : ak_M} {a j : Nat} {x : Int64} : mZ (uL M a j x) = mZ M := rfl
theorem e_mT_uL {M : ak_M} {a j : Nat} {x : Int64} : mT (uL M a j x) = mT M := rfl
theorem e_mI_uL {M : ak_M} {a j : Nat} {x : Int64} : mI (uL M a j x) = mI M := rfl
theorem e_mL_uL {M : ak_M} {a j b q : Nat} {x : Int64} : mL (uL M a j x) b q = if b = a ∧ q = j then x else mL M b q := rfl
theorem e_mP_uL {M : ak_M} {a j : Nat} {x : Int64} : mP (uL M a j x) = mP M := rfl
theorem e_mS_uP {M : ak_M} {a j : Nat} {x : Option Nat} : mS (uP M a j x) = mS M := rfl
theorem e_mZ_uP {M : ak_M} {a j : Nat} {x : Option Nat} : mZ (uP M a j x) = mZ M := rfl
theorem e_mT_uP {M : ak_M} {a j : Nat} {x : Option Nat} : mT (uP M a j x) = mT M := rfl
theorem e_mI_uP {M : ak_M} {a j : Nat} {x : Option Nat} : mI (uP M a j x) = mI M := rfl
theorem e_mL_uP {M : ak_M} {a j : Nat} {x : Option Nat} : mL (uP M a j x) = mL M := rfl
theorem e_mP_uP {M : ak_M} {a j b q : Nat} {x : Option Nat} : mP (uP M a j x) b q = if b = a ∧ q = j then x else mP M b q := rfl
theorem i_00 : ((0 : Int32) = 0) = True := eq_true rfl
theorem i_11 : ((1 : Int32) = 1) = True := eq_true rfl
theorem i_01 : ((0 : Int32) = 1) = False := eq_false (by decide +kernel)
theorem i_10 : ((1 : Int32) = 0) = False := eq_false (by decide +kernel)
theorem x_Book_init {a : Addr} {M : ak_M} : Book_init [.ref a] M = Book_init_b0 [some (.ref a)] [] M := rfl
theorem x_G_put {x0 : Addr} {x1 : Int32} {x2 : Int32} {M : ak_M} : G_put [.ref x0, .int x1, .int x2] M = G_put_b0 [some (.ref x0), some (.int x1), some (.int x2)] [] M := rfl
theorem x_Book_enter {a : Addr} {x0 : Int32} {x1 : Int32} {M : ak_M} : Book_enter [.ref a, .int x0, .int x1] M = Book_enter_b0 [some (.ref a), some (.int x0), some (.int x1)] [] M := rfl
theorem x_G_at {x0 : Addr} {x1 : Int32} {M : ak_M} : G_at [.ref x0, .int x1] M = G_at_b0 [some (.ref x0), some (.int x1)] [] M := rfl
theorem x_Book_firstWrong {a : Addr} {x0 : Addr} {M : ak_M} : Book_firstWrong [.ref a, .ref x0] M = Book_firstWrong_b0 [some (.ref a), some (.ref x0), none] [] M := rfl
theorem x_Draws_init {a : Addr} {M : ak_M} : Draws_init [.ref a] M = Draws_init_b0 [some (.ref a)] [] M := rfl
theorem x_Draws_next {a : Addr} {x0 : Int32} {M : ak_M} : Draws_next [.ref a, .int x0] M = Draws_next_b0 [some (.ref a), some (.int x0)] [] M := rfl
theorem x_House_init {a : Addr} {M : ak_M} : House_init [.ref a] M = House_init_b0 [some (.ref a)] [] M := rfl
theorem x_G_fill {x0 : Addr} {x1 : Int32} {M : ak_M} : G_fill [.ref x0, .int x1] M = G_fill_b0 [some (.ref x0), some (.int x1), none] [] M := rfl
theorem x_House_empty {a : Addr} {M : ak_M} : House_empty [.ref a] M = House_empty_b0 [some (.ref a)] [] M := rfl
theorem x_House_hasRoom {a : Addr} {x0 : Int32} {M : ak_M} : House_hasRoom [.ref a, .int x0] M = House_hasRoom_b0 [some (.ref a), some (.int x0)] [] M := rfl
theorem x_House_hasDoor {a : Addr} {x0 : Int32} {M : ak_M} : House_hasDoor [.ref a, .int x0] M = House_hasDoor_b0 [some (.ref a), some (.int x0)] [] M := rfl
theorem x_House_hasMirror {a : Addr} {x0 : Int32} {M : ak_M} : House_hasMirror [.ref a, .int x0] M = House_hasMirror_b0 [some (.ref a), some (.int x0)] [] M := rfl
theorem x_House_hasPerson {a : Addr} {x0 : Int32} {M : ak_M} : House_hasPerson [.ref a, .int x0] M = House_hasPerson_b0 [some (.ref a), some (.int x0)] [] M := rfl
theorem x_House_allMirrors {a : Addr} {M : ak_M} : House_allMirrors [.ref a] M = House_allMirrors_b0 [some (.ref a)] [] M := rfl
theorem x_G_with {x0 : Int32} {x1 : Int32} {x2 : Int32} {M : ak_M} : G_with [.int x0, .int x1, .int x2] M = G_with_b0 [some (.int x0), some (.int x1), some (.int x2)] [] M := rfl
theorem x_House_mirrorsIn {a : Addr} {x0 : Int32} {M : ak_M} : House_mirrorsIn [.ref a, .int x0] M = House_mirrorsIn_b0 [some (.ref a), some (.int x0), none, none] [] M := rfl
theorem x_House_hungAhead {a : Addr} {x0 : Int32} {M : ak_M} : House_hungAhead [.ref a, .int x0] M = House_hungAhead_b0 [some (.ref a), some (.int x0), none] [] M := rfl
theorem x_House_breathOf {a : Addr} {x0 : Int32} {M : ak_M} : House_breathOf [.ref a, .int x0] M = House_breathOf_b0 [some (.ref a), some (.int x0)] [] M := rfl
theorem x_House_haveDoor {a : Addr} {x0 : Int32} {x1 : Int32} {M : ak_M} : House_haveDoor [.ref a, .int x0, .int x1] M = House_haveDoor_b0 [some (.ref a), some (.int x0), some (.int x1), none, none, none] [] M := rfl
theorem x_House_addDoor {a : Addr} {x0 : Int32} {x1 : Int32} {M : ak_M} : House_addDoor [.ref a, .int x0, .int x1] M = House_addDoor_b0 [some (.ref a), some (.int x0), some (.int x1)] [] M := rfl
theorem x_House_addMirror {a : Addr} {x0 : Int32} {x1 : Int32} {M : ak_M} : House_addMirror [.ref a, .int x0, .int x1] M = House_addMirror_b0 [some (.ref a), some (.int x0), some (.int x1)] [] M := rfl
theorem x_House_addPerson {a : Addr} {x0 : Int32} {M : ak_M} : House_addPerson [.ref a, .int x0] M = House_addPerson_b0 [some (.ref a), some (.int x0)] [] M := rfl
theorem x_State_init {a : Addr} {M : ak_M} : State_init [.ref a] M = State_init_b0 [some (.ref a)] [] M := rfl
theorem x_Image_init {a : Addr} {M : ak_M} : Image_init [.ref a] M = Image_init_b0 [some (.ref a)] [] M := rfl
theorem x_Inquiry_init {a : Addr} {M : ak_M} : Inquiry_init [.ref a] M = Inquiry_init_b0 [some (.ref a)] [] M := rfl
theorem x_Inquiry_note {a : Addr} {x0 : Int32} {x1 : Int32} {x2 : Int32} {M : ak_M} : Inquiry_note [.ref a, .int x0, .int x1, .int x2] M = Inquiry_note_b0 [some (.ref a), some (.int x0), some (.int x1), some (.int x2)] [] M := rfl
theorem x_Inquiry_forget {a : Addr} {M : ak_M} : Inquiry_forget [.ref a] M = Inquiry_forget_b0 [some (.ref a)] [] M := rfl
theorem x_Inquiry_nameBy {a : Addr} {x0 : Addr} {x1 : Int32} {x2 : Int32} {M : ak_M} : Inquiry_nameBy [.ref a, .ref x0, .int x1, .int x2] M = Inquiry_nameBy_b0 [some (.ref a), some (.ref x0), some (.int x1), some (.int x2), none, none] [] M := rfl
theorem x_Inquiry_fits {a : Addr} {x0 : Addr} {x1 : Int32} {M : ak_M} : Inquiry_fits [.ref a, .ref x0, .int x1] M = Inquiry_fits_b0 [some (.ref a), some (.ref x0), some (.int x1), none, none] [] M := rfl
theorem x_Inquiry_findPairs {a : Addr} {x0 : Addr} {M : ak_M} : Inquiry_findPairs [.ref a, .ref x0] M = Inquiry_findPairs_b0 [some (.ref a), some (.ref x0), none, none, none, none] [] M := rfl
theorem x_Inquiry_greatestPart {a : Addr} {x0 : Addr} {x1 : Int32} {x2 : Int32} {x3 : Int32} {M : ak_M} : Inquiry_greatestPart [.ref a, .ref x0, .int x1, .int x2, .int x3] M = Inquiry_greatestPart_b0 [some (.ref a), some (.ref x0), some (.int x1), some (.int x2), some (.int x3), none, none] [] M := rfl
theorem x_Inquiry_bestQuestion {a : Addr} {x0 : Addr} {M : ak_M} : Inquiry_bestQuestion [.ref a, .ref x0] M = Inquiry_bestQuestion_b0 [some (.ref a), some (.ref x0), none, none, none, none, none, none] [] M := rfl
theorem x_Inquiry_namesThatFit {a : Addr} {x0 : Int32} {M : ak_M} : Inquiry_namesThatFit [.ref a, .int x0] M = Inquiry_namesThatFit_b0 [some (.ref a), some (.int x0), none, none, none] [] M := rfl
theorem x_Past_init {a : Addr} {M : ak_M} : Past_init [.ref a] M = Past_init_b0 [some (.ref a), none] [] M := rfl
theorem x_Past_stateAt {a : Addr} {x0 : Int32} {M : ak_M} : Past_stateAt [.ref a, .int x0] M = Past_stateAt_b0 [some (.ref a), some (.int x0)] [] M := rfl
theorem x_G_copy {x0 : Addr} {x1 : Addr} {M : ak_M} : G_copy [.ref x0, .ref x1] M = G_copy_b0 [some (.ref x0), some (.ref x1), none] [] M := rfl
theorem x_State_become {a : Addr} {x0 : Addr} {M : ak_M} : State_become [.ref a, .ref x0] M = State_become_b0 [some (.ref a), some (.ref x0)] [] M := rfl
theorem x_Past_push {a : Addr} {x0 : Addr} {M : ak_M} : Past_push [.ref a, .ref x0] M = Past_push_b0 [some (.ref a), some (.ref x0), none] [] M := rfl
theorem x_Past_pop {a : Addr} {x0 : Addr} {M : ak_M} : Past_pop [.ref a, .ref x0] M = Past_pop_b0 [some (.ref a), some (.ref x0), none, none] [] M := rfl
theorem x_Past_forget {a : Addr} {M : ak_M} : Past_forget [.ref a] M = Past_forget_b0 [some (.ref a)] [] M := rfl
theorem x_Reader_init {a : Addr} {M : ak_M} : Reader_init [.ref a] M = Reader_init_b0 [some (.ref a)] [] M := rfl
theorem x_Reader_append {a : Addr} {x0 : Int32} {M : ak_M} : Reader_append [.ref a, .int x0] M = Reader_append_b0 [some (.ref a), some (.int x0)] [] M := rfl
theorem x_Reader_here {a : Addr} {M : ak_M} : Reader_here [.ref a] M = Reader_here_b0 [some (.ref a)] [] M := rfl
theorem x_Reader_skipBlanks {a : Addr} {M : ak_M} : Reader_skipBlanks [.ref a] M = Reader_skipBlanks_l0 ak_fuel [some (.ref a)] [] M := rfl
theorem x_Reader_isWord {a : Addr} {x0 : Int32} {M : ak_M} : Reader_isWord [.ref a, .int x0] M = Reader_isWord_b0 [some (.ref a), some (.int x0)] [] M := rfl
theorem x_Reader_mark {a : Addr} {x0 : Int32} {x1 : Int32} {M : ak_M} : Reader_mark [.ref a, .int x0, .int x1] M = Reader_mark_b0 [some (.ref a), some (.int x0), some (.int x1)] [] M := rfl
theorem x_Reader_isOneTooMany {a : Addr} {x0 : Addr} {x1 : Int32} {M : ak_M} : Reader_isOneTooMany [.ref a, .ref x0, .int x1] M = Reader_isOneTooMany_b0 [some (.ref a), some (.ref x0), some (.int x1)] [] M := rfl
theorem x_Reader_readWord {a : Addr} {x0 : Addr} {M : ak_M} : Reader_readWord [.ref a, .ref x0] M = Reader_readWord_b0 [some (.ref a), some (.ref x0), none, none] [] M := rfl
theorem x_Reader_isFigure {a : Addr} {x0 : Int32} {M : ak_M} : Reader_isFigure [.ref a, .int x0] M = Reader_isFigure_b0 [some (.ref a), some (.int x0)] [] M := rfl
theorem x_Reader_readNumber {a : Addr} {x0 : Int32} {x1 : Int32} {M : ak_M} : Reader_readNumber [.ref a, .int x0, .int x1] M = Reader_readNumber_b0 [some (.ref a), some (.int x0), some (.int x1), none, none] [] M := rfl
theorem x_Reader_readRooms {a : Addr} {x0 : Addr} {M : ak_M} : Reader_readRooms [.ref a, .ref x0] M = Reader_readRooms_b0 [some (.ref a), some (.ref x0)] [] M := rfl
theorem x_Reader_readDoor {a : Addr} {x0 : Addr} {M : ak_M} : Reader_readDoor [.ref a, .ref x0] M = Reader_readDoor_b0 [some (.ref a), some (.ref x0), none, none] [] M := rfl
theorem x_Reader_readMirror {a : Addr} {x0 : Addr} {M : ak_M} : Reader_readMirror [.ref a, .ref x0] M = Reader_readMirror_b0 [some (.ref a), some (.ref x0), none, none] [] M := rfl
theorem x_Reader_readOpposite {a : Addr} {x0 : Addr} {M : ak_M} : Reader_readOpposite [.ref a, .ref x0] M = Reader_readOpposite_b0 [some (.ref a), some (.ref x0), none, none] [] M := rfl
theorem x_Reader_readBreath {a : Addr} {x0 : Addr} {M : ak_M} : Reader_readBreath [.ref a, .ref x0] M = Reader_readBreath_b0 [some (.ref a), some (.ref x0), none, none] [] M := rfl
theorem x_Reader_readPerson {a : Addr} {x0 : Addr} {M : ak_M} : Reader_readPerson [.ref a, .ref x0] M = Reader_readPerson_b0 [some (.ref a), some (.ref x0), none] [] M := rfl
theorem x_Reader_readNumbers {a : Addr} {x0 : Addr} {x1 : Int32} {M : ak_M} : Reader_readNumbers [.ref a, .ref x0, .int x1] M = Reader_readNumbers_b0 [some (.ref a), some (.ref x0), some (.int x1)] [] M := rfl
theorem x_Reader_readEnd {a : Addr} {M : ak_M} : Reader_readEnd [.ref a] M = Reader_readEnd_b0 [some (.ref a)] [] M := rfl
theorem x_Reader_readInto {a : Addr} {x0 : Addr} {M : ak_M} : Reader_readInto [.ref a, .ref x0] M = Reader_readInto_b0 [some (.ref a), some (.ref x0), none, none] [] M := rfl
theorem x_Rounds_init {a : Addr} {M : ak_M} : Rounds_init [.ref a] M = Rounds_init_b0 [some (.ref a)] [] M := rfl
theorem x_G_has {x0 : Int32} {x1 : Int32} {M : ak_M} : G_has [.int x0, .int x1] M = G_has_b0 [some (.int x0), some (.int x1)] [] M := rfl
theorem x_State_openBeside {a : Addr} {x0 : Addr} {x1 : Int32} {M : ak_M} : State_openBeside [.ref a, .ref x0, .int x1] M = State_openBeside_b0 [some (.ref a), some (.ref x0), some (.int x1), none, none, none, none] [] M := rfl
theorem x_Rounds_measureFrom {a : Addr} {x0 : Addr} {x1 : Addr} {x2 : Int32} {M : ak_M} : Rounds_measureFrom [.ref a, .ref x0, .ref x1, .int x2] M = Rounds_measureFrom_b0 [some (.ref a), some (.ref x0), some (.ref x1), some (.int x2), none, none, none, none, none] [] M := rfl
theorem x_Rounds_fromHere {a : Addr} {x0 : Int32} {M : ak_M} : Rounds_fromHere [.ref a, .int x0] M = Rounds_fromHere_b0 [some (.ref a), some (.int x0)] [] M := rfl
theorem x_Rounds_measure {a : Addr} {x0 : Addr} {x1 : Addr} {M : ak_M} : Rounds_measure [.ref a, .ref x0, .ref x1] M = Rounds_measure_b0 [some (.ref a), some (.ref x0), some (.ref x1), none] [] M := rfl
theorem x_Rounds_canGreet {a : Addr} {x0 : Addr} {x1 : Int32} {M : ak_M} : Rounds_canGreet [.ref a, .ref x0, .int x1] M = Rounds_canGreet_b0 [some (.ref a), some (.ref x0), some (.int x1)] [] M := rfl
theorem x_Rounds_measureWays {a : Addr} {x0 : Addr} {x1 : Addr} {M : ak_M} : Rounds_measureWays [.ref a, .ref x0, .ref x1] M = Rounds_measureWays_b0 [some (.ref a), some (.ref x0), some (.ref x1), none, none] [] M := rfl
theorem x_Rounds_leastFrom {a : Addr} {x0 : Int32} {x1 : Int32} {M : ak_M} : Rounds_leastFrom [.ref a, .int x0, .int x1] M = Rounds_leastFrom_b0 [some (.ref a), some (.int x0), some (.int x1)] [] M := rfl
theorem x_Rounds_stepsBy {a : Addr} {x0 : Addr} {x1 : Int32} {x2 : Int32} {x3 : Int32} {M : ak_M} : Rounds_stepsBy [.ref a, .ref x0, .int x1, .int x2, .int x3] M = Rounds_stepsBy_b0 [some (.ref a), some (.ref x0), some (.int x1), some (.int x2), some (.int x3), none, none] [] M := rfl
theorem x_Rounds_weighFrom {a : Addr} {x0 : Addr} {x1 : Int32} {x2 : Int32} {M : ak_M} : Rounds_weighFrom [.ref a, .ref x0, .int x1, .int x2] M = Rounds_weighFrom_b0 [some (.ref a), some (.ref x0), some (.int x1), some (.int x2), none, none] [] M := rfl
theorem x_Rounds_weigh {a : Addr} {x0 : Addr} {x1 : Int32} {M : ak_M} : Rounds_weigh [.ref a, .ref x0, .int x1] M = Rounds_weigh_b0 [some (.ref a), some (.ref x0), some (.int x1), none] [] M := rfl
theorem x_Rounds_plan {a : Addr} {x0 : Addr} {x1 : Addr} {x2 : Int32} {M : ak_M} : Rounds_plan [.ref a, .ref x0, .ref x1, .int x2] M = Rounds_plan_b0 [some (.ref a), some (.ref x0), some (.ref x1), some (.int x2), none] [] M := rfl
theorem x_Rounds_breath {a : Addr} {x0 : Addr} {x1 : Addr} {M : ak_M} : Rounds_breath [.ref a, .ref x0, .ref x1] M = Rounds_breath_b0 [some (.ref a), some (.ref x0), some (.ref x1), none, none] [] M := rfl
theorem x_Rounds_nextOf {a : Addr} {x0 : Addr} {x1 : Int32} {x2 : Int32} {M : ak_M} : Rounds_nextOf [.ref a, .ref x0, .int x1, .int x2] M = Rounds_nextOf_b0 [some (.ref a), some (.ref x0), some (.int x1), some (.int x2), none, none] [] M := rfl
theorem x_Rounds_mirrorAt {a : Addr} {x0 : Addr} {x1 : Int32} {M : ak_M} : Rounds_mirrorAt [.ref a, .ref x0, .int x1] M = Rounds_mirrorAt_b0 [some (.ref a), some (.ref x0), some (.int x1), none, none, none, none] [] M := rfl
theorem x_State_startIn {a : Addr} {x0 : Addr} {M : ak_M} : State_startIn [.ref a, .ref x0] M = State_startIn_b0 [some (.ref a), some (.ref x0)] [] M := rfl
theorem x_State_endCount {a : Addr} {x0 : Int32} {M : ak_M} : State_endCount [.ref a, .int x0] M = State_endCount_b0 [some (.ref a), some (.int x0)] [] M := rfl
theorem x_State_countOther {a : Addr} {x0 : Int32} {x1 : Int32} {M : ak_M} : State_countOther [.ref a, .int x0, .int x1] M = State_countOther_b0 [some (.ref a), some (.int x0), some (.int x1), none] [] M := rfl
theorem x_State_hear {a : Addr} {x0 : Addr} {x1 : Int32} {x2 : Int32} {M : ak_M} : State_hear [.ref a, .ref x0, .int x1, .int x2] M = State_hear_b0 [some (.ref a), some (.ref x0), some (.int x1), some (.int x2), none] [] M := rfl
theorem x_State_seenFrom {a : Addr} {x0 : Addr} {x1 : Int32} {M : ak_M} : State_seenFrom [.ref a, .ref x0, .int x1] M = State_seenFrom_b0 [some (.ref a), some (.ref x0), some (.int x1)] [] M := rfl
theorem x_State_personsIn {a : Addr} {x0 : Addr} {x1 : Int32} {M : ak_M} : State_personsIn [.ref a, .ref x0, .int x1] M = State_personsIn_b0 [some (.ref a), some (.ref x0), some (.int x1), none, none] [] M := rfl
theorem x_G_init {a : Addr} {M : ak_M} : G_init [.ref a] M = G_init_b0 [some (.ref a)] [] M := rfl
theorem x_G_feed {a : Addr} {x0 : Int32} {M : ak_M} : G_feed [.ref a, .int x0] M = G_feed_b0 [some (.ref a), some (.int x0)] [] M := rfl
theorem x_G_house {a : Addr} {M : ak_M} : G_house [.ref a] M = G_house_b0 [some (.ref a), none, none] [] M := rfl
theorem x_G_fault {a : Addr} {M : ak_M} : G_fault [.ref a] M = G_fault_b0 [some (.ref a)] [] M := rfl
theorem x_G_told {a : Addr} {x0 : Int32} {M : ak_M} : G_told [.ref a, .int x0] M = G_told_b0 [some (.ref a), some (.int x0)] [] M := rfl
theorem x_G_mirror {a : Addr} {x0 : Int32} {x1 : Int32} {M : ak_M} : G_mirror [.ref a, .int x0, .int x1] M = G_mirror_b0 [some (.ref a), some (.int x0), some (.int x1)] [] M := rfl
theorem x_G_doorOf {a : Addr} {x0 : Int32} {x1 : Int32} {M : ak_M} : G_doorOf [.ref a, .int x0, .int x1] M = G_doorOf_b0 [some (.ref a), some (.int x0), some (.int x1)] [] M := rfl
theorem x_G_person {a : Addr} {x0 : Int32} {M : ak_M} : G_person [.ref a, .int x0] M = G_person_b0 [some (.ref a), some (.int x0)] [] M := rfl
theorem x_G_sees {a : Addr} {x0 : Int32} {x1 : Int32} {M : ak_M} : G_sees [.ref a, .int x0, .int x1] M = G_sees_b0 [some (.ref a), some (.int x0), some (.int x1), none, none] [] M := rfl
theorem x_G_step {a : Addr} {x0 : Int32} {M : ak_M} : G_step [.ref a, .int x0] M = G_step_b0 [some (.ref a), some (.int x0)] [] M := rfl
theorem x_G_isName {x0 : Int32} {M : ak_M} : G_isName [.int x0] M = G_isName_b0 [some (.int x0)] [] M := rfl
theorem x_G_greet {a : Addr} {x0 : Int32} {x1 : Int32} {M : ak_M} : G_greet [.ref a, .int x0, .int x1] M = G_greet_b0 [some (.ref a), some (.int x0), some (.int x1)] [] M := rfl
theorem x_G_steam {a : Addr} {x0 : Int32} {x1 : Int32} {M : ak_M} : G_steam [.ref a, .int x0, .int x1] M = G_steam_b0 [some (.ref a), some (.int x0), some (.int x1), none] [] M := rfl
theorem x_G_door {a : Addr} {x0 : Int32} {x1 : Int32} {M : ak_M} : G_door [.ref a, .int x0, .int x1] M = G_door_b0 [some (.ref a), some (.int x0), some (.int x1), none] [] M := rfl
theorem x_G_night {a : Addr} {M : ak_M} : G_night [.ref a] M = G_night_b0 [some (.ref a)] [] M := rfl
theorem x_G_envelope {a : Addr} {x0 : Int32} {M : ak_M} : G_envelope [.ref a, .int x0] M = G_envelope_b0 [some (.ref a), some (.int x0)] [] M := rfl
theorem x_G_walk {a : Addr} {x0 : Int32} {x1 : Int32} {M : ak_M} : G_walk [.ref a, .int x0, .int x1] M = G_walk_b0 [some (.ref a), some (.int x0), some (.int x1), none] [] M := rfl
theorem x_G_passEvening {a : Addr} {M : ak_M} : G_passEvening [.ref a] M = G_passEvening_b0 [some (.ref a), none, none] [] M := rfl
theorem x_G_drift {a : Addr} {x0 : Int32} {M : ak_M} : G_drift [.ref a, .int x0] M = G_drift_b0 [some (.ref a), some (.int x0), none] [] M := rfl
theorem x_G_undo {a : Addr} {M : ak_M} : G_undo [.ref a] M = G_undo_b0 [some (.ref a)] [] M := rfl
theorem x_G_round {a : Addr} {x0 : Int32} {x1 : Int32} {M : ak_M} : G_round [.ref a, .int x0, .int x1] M = G_round_b0 [some (.ref a), some (.int x0), some (.int x1), none] [] M := rfl
theorem x_G_canLightAlone {a : Addr} {x0 : Int32} {M : ak_M} : G_canLightAlone [.ref a, .int x0] M = G_canLightAlone_b0 [some (.ref a), some (.int x0), none] [] M := rfl
theorem x_G_cannot {a : Addr} {M : ak_M} : G_cannot [.ref a] M = G_cannot_b0 [some (.ref a), none, none] [] M := rfl
theorem x_G_steps {a : Addr} {x0 : Int32} {M : ak_M} : G_steps [.ref a, .int x0] M = G_steps_b0 [some (.ref a), some (.int x0)] [] M := rfl
theorem x_G_mostSeen {a : Addr} {x0 : Int32} {M : ak_M} : G_mostSeen [.ref a, .int x0] M = G_mostSeen_b0 [some (.ref a), some (.int x0), none, none, none, none] [] M := rfl
theorem x_G_learn {a : Addr} {M : ak_M} : G_learn [.ref a] M = G_learn_b0 [some (.ref a), none, none] [] M := rfl
theorem x_G_steamed {a : Addr} {x0 : Int32} {x1 : Int32} {M : ak_M} : G_steamed [.ref a, .int x0, .int x1] M = G_steamed_b0 [some (.ref a), some (.int x0), some (.int x1), none, none, none] [] M := rfl
theorem x_G_ask {a : Addr} {x0 : Int32} {x1 : Int32} {x2 : Int32} {M : ak_M} : G_ask [.ref a, .int x0, .int x1, .int x2] M = G_ask_b0 [some (.ref a), some (.int x0), some (.int x1), some (.int x2)] [] M := rfl
theorem x_G_changed {a : Addr} {x0 : Int32} {M : ak_M} : G_changed [.ref a, .int x0] M = G_changed_b0 [some (.ref a), some (.int x0), none] [] M := rfl
theorem x_G_askNext {a : Addr} {M : ak_M} : G_askNext [.ref a] M = G_askNext_b0 [some (.ref a)] [] M := rfl
theorem x_G_called {a : Addr} {x0 : Int32} {M : ak_M} : G_called [.ref a, .int x0] M = G_called_b0 [some (.ref a), some (.int x0)] [] M := rfl
theorem x_G_write {a : Addr} {x0 : Int32} {x1 : Int32} {M : ak_M} : G_write [.ref a, .int x0, .int x1] M = G_write_b0 [some (.ref a), some (.int x0), some (.int x1)] [] M := rfl
theorem x_G_tear {a : Addr} {M : ak_M} : G_tear [.ref a] M = G_tear_b0 [some (.ref a), none] [] M := rfl
theorem x_G_judge {a : Addr} {M : ak_M} : G_judge [.ref a] M = G_judge_b0 [some (.ref a)] [] M := rfl
theorem x_G_seed {a : Addr} {x0 : Int32} {M : ak_M} : G_seed [.ref a, .int x0] M = G_seed_b0 [some (.ref a), some (.int x0), none] [] M := rfl
theorem x_G_imageOf {a : Addr} {x0 : Int32} {M : ak_M} : G_imageOf [.ref a, .int x0] M = G_imageOf_b0 [some (.ref a), some (.int x0)] [] M := rfl
theorem x_G_keep {a : Addr} {x0 : Int32} {M : ak_M} : G_keep [.ref a, .int x0] M = G_keep_b0 [some (.ref a), some (.int x0), none] [] M := rfl
theorem x_G_goBack {a : Addr} {x0 : Int32} {M : ak_M} : G_goBack [.ref a, .int x0] M = G_goBack_b0 [some (.ref a), some (.int x0), none] [] M := rfl
theorem x_R_init {a : Addr} {M : ak_M} : R_init [.ref a] M = R_init_b0 [some (.ref a), none] [] M := rfl
theorem x_R_in {x0 : Int64} {x1 : Int64} {x2 : Int64} {M : ak_M} : R_in [.long x0, .long x1, .long x2] M = R_in_b0 [some (.long x0), none, some (.long x1), none, some (.long x2), none] [] M := rfl
theorem x_R_has {x0 : Int32} {x1 : Int32} {M : ak_M} : R_has [.int x0, .int x1] M = R_has_b0 [some (.int x0), some (.int x1)] [] M := rfl
theorem x_R_copy {a : Addr} {x0 : Int32} {x1 : Int32} {M : ak_M} : R_copy [.ref a, .int x0, .int x1] M = R_copy_b0 [some (.ref a), some (.int x0), some (.int x1), none] [] M := rfl
theorem x_R_isRoom {a : Addr} {x0 : Int32} {M : ak_M} : R_isRoom [.ref a, .int x0] M = R_isRoom_b0 [some (.ref a), some (.int x0)] [] M := rfl
theorem x_R_isDoor {a : Addr} {x0 : Int32} {M : ak_M} : R_isDoor [.ref a, .int x0] M = R_isDoor_b0 [some (.ref a), some (.int x0)] [] M := rfl
theorem x_R_isMirror {a : Addr} {x0 : Int32} {M : ak_M} : R_isMirror [.ref a, .int x0] M = R_isMirror_b0 [some (.ref a), some (.int x0)] [] M := rfl
theorem x_R_isPerson {a : Addr} {x0 : Int32} {M : ak_M} : R_isPerson [.ref a, .int x0] M = R_isPerson_b0 [some (.ref a), some (.int x0)] [] M := rfl
theorem x_R_isName {x0 : Int32} {M : ak_M} : R_isName [.int x0] M = R_isName_b0 [some (.int x0)] [] M := rfl
theorem x_R_feed {a : Addr} {x0 : Int32} {M : ak_M} : R_feed [.ref a, .int x0] M = R_feed_b0 [some (.ref a), some (.int x0)] [] M := rfl
theorem x_R_letterAt {a : Addr} {x0 : Int32} {M : ak_M} : R_letterAt [.ref a, .int x0] M = R_letterAt_b0 [some (.ref a), some (.int x0)] [] M := rfl
theorem x_R_here {a : Addr} {M : ak_M} : R_here [.ref a] M = R_here_l0 ak_fuel [some (.ref a)] [] M := rfl
theorem x_R_fails {a : Addr} {x0 : Int32} {x1 : Int32} {M : ak_M} : R_fails [.ref a, .int x0, .int x1] M = R_fails_b0 [some (.ref a), some (.int x0), some (.int x1)] [] M := rfl
theorem x_R_takes {a : Addr} {x0 : Int32} {M : ak_M} : R_takes [.ref a, .int x0] M = R_takes_b0 [some (.ref a), some (.int x0)] [] M := rfl
theorem x_R_takesNumber {a : Addr} {x0 : Int32} {x1 : Int32} {M : ak_M} : R_takesNumber [.ref a, .int x0, .int x1] M = R_takesNumber_b0 [some (.ref a), some (.int x0), some (.int x1)] [] M := rfl
theorem x_R_takesHouse {a : Addr} {M : ak_M} : R_takesHouse [.ref a] M = R_takesHouse_b0 [some (.ref a)] [] M := rfl
theorem x_R_takesDoor {a : Addr} {M : ak_M} : R_takesDoor [.ref a] M = R_takesDoor_b0 [some (.ref a), none, none, none] [] M := rfl
theorem x_R_takesMirror {a : Addr} {M : ak_M} : R_takesMirror [.ref a] M = R_takesMirror_b0 [some (.ref a)] [] M := rfl
theorem x_R_takesOpposite {a : Addr} {M : ak_M} : R_takesOpposite [.ref a] M = R_takesOpposite_b0 [some (.ref a), none] [] M := rfl
theorem x_R_takesBreaths {a : Addr} {M : ak_M} : R_takesBreaths [.ref a] M = R_takesBreaths_b0 [some (.ref a), none] [] M := rfl
theorem x_R_takesPerson {a : Addr} {M : ak_M} : R_takesPerson [.ref a] M = R_takesPerson_b0 [some (.ref a)] [] M := rfl
theorem x_R_takesWords {a : Addr} {x0 : Int32} {M : ak_M} : R_takesWords [.ref a, .int x0] M = R_takesWords_b0 [some (.ref a), some (.int x0)] [] M := rfl
theorem x_R_takesClause {a : Addr} {M : ak_M} : R_takesClause [.ref a] M = R_takesClause_b0 [some (.ref a), none, none, none] [] M := rfl
theorem x_R_house {a : Addr} {M : ak_M} : R_house [.ref a] M = R_house_b0 [some (.ref a), none, none, none] [] M := rfl
theorem x_R_fault {a : Addr} {M : ak_M} : R_fault [.ref a] M = R_fault_b0 [some (.ref a)] [] M := rfl
theorem x_R_told {a : Addr} {x0 : Int32} {M : ak_M} : R_told [.ref a, .int x0] M = R_told_b0 [some (.ref a), some (.int x0)] [] M := rfl
theorem x_R_mirror {a : Addr} {x0 : Int32} {x1 : Int32} {M : ak_M} : R_mirror [.ref a, .int x0, .int x1] M = R_mirror_b0 [some (.ref a), some (.int x0), some (.int x1)] [] M := rfl
theorem x_R_doorOf {a : Addr} {x0 : Int32} {x1 : Int32} {M : ak_M} : R_doorOf [.ref a, .int x0, .int x1] M = R_doorOf_b0 [some (.ref a), some (.int x0), some (.int x1)] [] M := rfl
theorem x_R_person {a : Addr} {x0 : Int32} {M : ak_M} : R_person [.ref a, .int x0] M = R_person_b0 [some (.ref a), some (.int x0)] [] M := rfl
theorem x_R_isOpen {a : Addr} {x0 : Int32} {x1 : Int32} {M : ak_M} : R_isOpen [.ref a, .int x0, .int x1] M = R_isOpen_b0 [some (.ref a), some (.int x0), some (.int x1), none, none, none] [] M := rfl
theorem x_R_isNear {a : Addr} {x0 : Int32} {x1 : Int32} {M : ak_M} : R_isNear [.ref a, .int x0, .int x1] M = R_isNear_b0 [some (.ref a), some (.int x0), some (.int x1)] [] M := rfl
theorem x_R_sees {a : Addr} {x0 : Int32} {x1 : Int32} {M : ak_M} : R_sees [.ref a, .int x0, .int x1] M = R_sees_b0 [some (.ref a), some (.int x0), some (.int x1), none, none, none] [] M := rfl
theorem x_R_minds {a : Addr} {M : ak_M} : R_minds [.ref a] M = R_minds_b0 [some (.ref a), none] [] M := rfl
theorem x_R_undo {a : Addr} {M : ak_M} : R_undo [.ref a] M = R_undo_b0 [some (.ref a), none] [] M := rfl
theorem x_R_step {a : Addr} {x0 : Int32} {M : ak_M} : R_step [.ref a, .int x0] M = R_step_b0 [some (.ref a), some (.int x0)] [] M := rfl
theorem x_R_isTooEarly {a : Addr} {x0 : Int32} {x1 : Int32} {x2 : Int32} {M : ak_M} : R_isTooEarly [.ref a, .int x0, .int x1, .int x2] M = R_isTooEarly_b0 [some (.ref a), some (.int x0), some (.int x1), some (.int x2), none] [] M := rfl
theorem x_R_greets {a : Addr} {x0 : Int32} {x1 : Int32} {M : ak_M} : R_greets [.ref a, .int x0, .int x1] M = R_greets_b0 [some (.ref a), some (.int x0), some (.int x1)] [] M := rfl
theorem x_R_greet {a : Addr} {x0 : Int32} {x1 : Int32} {M : ak_M} : R_greet [.ref a, .int x0, .int x1] M = R_greet_b0 [some (.ref a), some (.int x0), some (.int x1)] [] M := rfl
theorem x_R_steam {a : Addr} {x0 : Int32} {x1 : Int32} {M : ak_M} : R_steam [.ref a, .int x0, .int x1] M = R_steam_b0 [some (.ref a), some (.int x0), some (.int x1), none] [] M := rfl
theorem x_R_door {a : Addr} {x0 : Int32} {x1 : Int32} {M : ak_M} : R_door [.ref a, .int x0, .int x1] M = R_door_b0 [some (.ref a), some (.int x0), some (.int x1), none] [] M := rfl
theorem x_R_night {a : Addr} {M : ak_M} : R_night [.ref a] M = R_night_b0 [some (.ref a)] [] M := rfl
theorem x_R_envelope {a : Addr} {x0 : Int32} {M : ak_M} : R_envelope [.ref a, .int x0] M = R_envelope_b0 [some (.ref a), some (.int x0)] [] M := rfl
theorem x_R_walk {a : Addr} {x0 : Int32} {x1 : Int32} {M : ak_M} : R_walk [.ref a, .int x0, .int x1] M = R_walk_b0 [some (.ref a), some (.int x0), some (.int x1), none] [] M := rfl
theorem x_R_draw {a : Addr} {x0 : Int32} {M : ak_M} : R_draw [.ref a, .int x0] M = R_draw_b0 [some (.ref a), some (.int x0)] [] M := rfl
theorem x_R_drift {a : Addr} {x0 : Int32} {M : ak_M} : R_drift [.ref a, .int x0] M = R_drift_b0 [some (.ref a), some (.int x0), none, none, none] [] M := rfl
theorem x_R_layWays {a : Addr} {M : ak_M} : R_layWays [.ref a] M = R_layWays_b0 [some (.ref a), none, none, none, none] [] M := rfl
theorem x_R_canBeLit {a : Addr} {x0 : Int32} {x1 : Int32} {M : ak_M} : R_canBeLit [.ref a, .int x0, .int x1] M = R_canBeLit_b0 [some (.ref a), some (.int x0), some (.int x1), none] [] M := rfl
theorem x_R_costOf {a : Addr} {x0 : Int32} {x1 : Int32} {M : ak_M} : R_costOf [.ref a, .int x0, .int x1] M = R_costOf_b0 [some (.ref a), some (.int x0), some (.int x1)] [] M := rfl
theorem x_R_restBy {a : Addr} {x0 : Int32} {x1 : Int32} {x2 : Int32} {M : ak_M} : R_restBy [.ref a, .int x0, .int x1, .int x2] M = R_restBy_b0 [some (.ref a), some (.int x0), some (.int x1), some (.int x2), none, none] [] M := rfl
theorem x_R_layRests {a : Addr} {x0 : Int32} {M : ak_M} : R_layRests [.ref a, .int x0] M = R_layRests_b0 [some (.ref a), some (.int x0), none, none, none, none, none] [] M := rfl
theorem x_R_round {a : Addr} {x0 : Int32} {x1 : Int32} {M : ak_M} : R_round [.ref a, .int x0, .int x1] M = R_round_b0 [some (.ref a), some (.int x0), some (.int x1), none, none, none, none, none, none, none] [] M := rfl
theorem x_R_cannot {a : Addr} {M : ak_M} : R_cannot [.ref a] M = R_cannot_b0 [some (.ref a), none, none, none] [] M := rfl
theorem x_R_steps {a : Addr} {x0 : Int32} {M : ak_M} : R_steps [.ref a, .int x0] M = R_steps_b0 [some (.ref a), some (.int x0), none] [] M := rfl
theorem x_R_mostSeen {a : Addr} {x0 : Int32} {M : ak_M} : R_mostSeen [.ref a, .int x0] M = R_mostSeen_b0 [some (.ref a), some (.int x0), none, none, none, none, none, none] [] M := rfl
theorem x_R_learn {a : Addr} {M : ak_M} : R_learn [.ref a] M = R_learn_b0 [some (.ref a), none, none] [] M := rfl
theorem x_R_steamed {a : Addr} {x0 : Int32} {x1 : Int32} {M : ak_M} : R_steamed [.ref a, .int x0, .int x1] M = R_steamed_b0 [some (.ref a), some (.int x0), some (.int x1), none, none, none] [] M := rfl
theorem x_R_ask {a : Addr} {x0 : Int32} {x1 : Int32} {x2 : Int32} {M : ak_M} : R_ask [.ref a, .int x0, .int x1, .int x2] M = R_ask_b0 [some (.ref a), some (.int x0), some (.int x1), some (.int x2)] [] M := rfl
theorem x_R_nameBy {a : Addr} {x0 : Int32} {x1 : Int32} {x2 : Int32} {M : ak_M} : R_nameBy [.ref a, .int x0, .int x1, .int x2] M = R_nameBy_b0 [some (.ref a), some (.int x0), some (.int x1), some (.int x2)] [] M := rfl
theorem x_R_isSo {a : Addr} {x0 : Int32} {x1 : Int32} {M : ak_M} : R_isSo [.ref a, .int x0, .int x1] M = R_isSo_b0 [some (.ref a), some (.int x0), some (.int x1), none, none] [] M := rfl
theorem x_R_mayBe {a : Addr} {x0 : Int32} {x1 : Int32} {M : ak_M} : R_mayBe [.ref a, .int x0, .int x1] M = R_mayBe_b0 [some (.ref a), some (.int x0), some (.int x1)] [] M := rfl
theorem x_R_changed {a : Addr} {x0 : Int32} {M : ak_M} : R_changed [.ref a, .int x0] M = R_changed_b0 [some (.ref a), some (.int x0), none, none, none] [] M := rfl
theorem x_R_askNext {a : Addr} {M : ak_M} : R_askNext [.ref a] M = R_askNext_b0 [some (.ref a), none, none, none, none, none, none, none, none, none, none] [] M := rfl
theorem x_R_called {a : Addr} {x0 : Int32} {M : ak_M} : R_called [.ref a, .int x0] M = R_called_b0 [some (.ref a), some (.int x0), none, none, none, none] [] M := rfl
theorem x_R_write {a : Addr} {x0 : Int32} {x1 : Int32} {M : ak_M} : R_write [.ref a, .int x0, .int x1] M = R_write_b0 [some (.ref a), some (.int x0), some (.int x1)] [] M := rfl
theorem x_R_tear {a : Addr} {M : ak_M} : R_tear [.ref a] M = R_tear_b0 [some (.ref a), none] [] M := rfl
theorem x_R_judge {a : Addr} {M : ak_M} : R_judge [.ref a] M = R_judge_b0 [some (.ref a), none] [] M := rfl
theorem x_R_seed {a : Addr} {x0 : Int32} {M : ak_M} : R_seed [.ref a, .int x0] M = R_seed_b0 [some (.ref a), some (.int x0), none] [] M := rfl
theorem x_R_keep {a : Addr} {x0 : Int32} {M : ak_M} : R_keep [.ref a, .int x0] M = R_keep_b0 [some (.ref a), some (.int x0)] [] M := rfl
theorem x_R_goBack {a : Addr} {x0 : Int32} {M : ak_M} : R_goBack [.ref a, .int x0] M = R_goBack_b0 [some (.ref a), some (.int x0)] [] M := rfl
