/-! ===== THE ABSTRACT MACHINE, 2: the stack, arithmetic, branches ===== -/
section EK2
variable {cc : ByteArray} {own : String} {nL rk F L : Nat} {sc : Nat × (Nat → Int32)} {pc : Nat} {k k1 k2 : ak_K}
def k_pop (k : ak_K) : ak_K := fun lo st M => match st with
  | .int _ :: st' => k lo st' M
  | _ => none
theorem s_pop (hd : decode cc pc = .ok (.pop, 1)) (hk : ak_S cc own nL rk F L sc (pc + 1) k) : ak_S cc own nL rk F L sc pc (k_pop k) := by
  refine ak_stay fun lo st M res h => ?_
  unfold k_pop at h
  split at h
  next x st' => exact ⟨_, _, lo, st', hk, h, fun C H locs cells slots ls hR hF hl hc hs kk => lv_pop C.1 C.2.1 hd rfl (kk ls hl)⟩
  next => cases h
def k_dup (k : ak_K) : ak_K := fun lo st M => match st with
  | .int x :: st' => k lo (.int x :: .int x :: st') M
  | .ref x :: st' => k lo (.ref x :: .ref x :: st') M
  | _ => none
theorem s_dup (hd : decode cc pc = .ok (.dup, 1)) (hk : ak_S cc own nL rk F L sc (pc + 1) k) : ak_S cc own nL rk F L sc pc (k_dup k) := by
  refine ak_stay fun lo st M res h => ?_
  unfold k_dup at h
  split at h
  next x st' => exact ⟨_, _, lo, .int x :: .int x :: st', hk, h, fun C H locs cells slots ls hR hF hl hc hs kk => lv_dup C.1 C.2.1 hd rfl (kk ls hl)⟩
  next x st' => exact ⟨_, _, lo, .ref x :: .ref x :: st', hk, h, fun C H locs cells slots ls hR hF hl hc hs kk => lv_dup C.1 C.2.1 hd rfl (kk ls hl)⟩
  next => cases h
def k_dup2 (k : ak_K) : ak_K := fun lo st M => match st with
  | .int x :: .ref y :: st' => k lo (.int x :: .ref y :: .int x :: .ref y :: st') M
  | .int x :: .int y :: st' => k lo (.int x :: .int y :: .int x :: .int y :: st') M
  | _ => none
theorem s_dup2 (hd : decode cc pc = .ok (.dup2, 1)) (hk : ak_S cc own nL rk F L sc (pc + 1) k) : ak_S cc own nL rk F L sc pc (k_dup2 k) := by
  refine ak_stay fun lo st M res h => ?_
  unfold k_dup2 at h
  split at h
  next x y st' => exact ⟨_, _, lo, .int x :: .ref y :: .int x :: .ref y :: st', hk, h, fun C H locs cells slots ls hR hF hl hc hs kk => lv_dup2_11 C.1 C.2.1 hd rfl rfl (kk ls hl)⟩
  next x y st' => exact ⟨_, _, lo, .int x :: .int y :: .int x :: .int y :: st', hk, h, fun C H locs cells slots ls hR hF hl hc hs kk => lv_dup2_11 C.1 C.2.1 hd rfl rfl (kk ls hl)⟩
  next => cases h
def k_b (f : Int32 → Int32 → Int32) (k : ak_K) : ak_K := fun lo st M => match st with
  | .int y :: .int x :: st' => k lo (.int (f x y) :: st') M
  | _ => none
def k_bd (f : Int32 → Int32 → Int32) (k : ak_K) : ak_K := fun lo st M => match st with
  | .int y :: .int x :: st' => if y = 0 then none else k lo (.int (f x y) :: st') M
  | _ => none
def k_lb (f : Int64 → Int64 → Int64) (k : ak_K) : ak_K := fun lo st M => match st with
  | .long y :: .long x :: st' => k lo (.long (f x y) :: st') M
  | _ => none
def k_lbd (f : Int64 → Int64 → Int64) (k : ak_K) : ak_K := fun lo st M => match st with
  | .long y :: .long x :: st' => if y = 0 then none else k lo (.long (f x y) :: st') M
  | _ => none
theorem s_iadd (hd : decode cc pc = .ok (.iadd, 1)) (hk : ak_S cc own nL rk F L sc (pc + 1) k) : ak_S cc own nL rk F L sc pc (k_b (fun x y => x + y) k) := by
  refine ak_stay fun lo st M res h => ?_
  unfold k_b at h
  split at h
  next y x st' => exact ⟨_, _, lo, .int (x + y) :: st', hk, h, fun C H locs cells slots ls hR hF hl hc hs kk => lv_iadd C.1 C.2.1 hd (kk ls hl)⟩
  next => cases h
theorem s_isub (hd : decode cc pc = .ok (.isub, 1)) (hk : ak_S cc own nL rk F L sc (pc + 1) k) : ak_S cc own nL rk F L sc pc (k_b (fun x y => x - y) k) := by
  refine ak_stay fun lo st M res h => ?_
  unfold k_b at h
  split at h
  next y x st' => exact ⟨_, _, lo, .int (x - y) :: st', hk, h, fun C H locs cells slots ls hR hF hl hc hs kk => lv_isub C.1 C.2.1 hd (kk ls hl)⟩
  next => cases h
theorem s_imul (hd : decode cc pc = .ok (.imul, 1)) (hk : ak_S cc own nL rk F L sc (pc + 1) k) : ak_S cc own nL rk F L sc pc (k_b (fun x y => x * y) k) := by
  refine ak_stay fun lo st M res h => ?_
  unfold k_b at h
  split at h
  next y x st' => exact ⟨_, _, lo, .int (x * y) :: st', hk, h, fun C H locs cells slots ls hR hF hl hc hs kk => lv_imul C.1 C.2.1 hd (kk ls hl)⟩
  next => cases h
theorem s_iand (hd : decode cc pc = .ok (.iand, 1)) (hk : ak_S cc own nL rk F L sc (pc + 1) k) : ak_S cc own nL rk F L sc pc (k_b (fun x y => x &&& y) k) := by
  refine ak_stay fun lo st M res h => ?_
  unfold k_b at h
  split at h
  next y x st' => exact ⟨_, _, lo, .int (x &&& y) :: st', hk, h, fun C H locs cells slots ls hR hF hl hc hs kk => lv_iand C.1 C.2.1 hd (kk ls hl)⟩
  next => cases h
theorem s_ior (hd : decode cc pc = .ok (.ior, 1)) (hk : ak_S cc own nL rk F L sc (pc + 1) k) : ak_S cc own nL rk F L sc pc (k_b (fun x y => x ||| y) k) := by
  refine ak_stay fun lo st M res h => ?_
  unfold k_b at h
  split at h
  next y x st' => exact ⟨_, _, lo, .int (x ||| y) :: st', hk, h, fun C H locs cells slots ls hR hF hl hc hs kk => lv_ior C.1 C.2.1 hd (kk ls hl)⟩
  next => cases h
theorem s_ixor (hd : decode cc pc = .ok (.ixor, 1)) (hk : ak_S cc own nL rk F L sc (pc + 1) k) : ak_S cc own nL rk F L sc pc (k_b (fun x y => x ^^^ y) k) := by
  refine ak_stay fun lo st M res h => ?_
  unfold k_b at h
  split at h
  next y x st' => exact ⟨_, _, lo, .int (x ^^^ y) :: st', hk, h, fun C H locs cells slots ls hR hF hl hc hs kk => lv_ixor C.1 C.2.1 hd (kk ls hl)⟩
  next => cases h
theorem s_ishl (hd : decode cc pc = .ok (.ishl, 1)) (hk : ak_S cc own nL rk F L sc (pc + 1) k) : ak_S cc own nL rk F L sc pc (k_b (fun x y => x <<< (y &&& 31)) k) := by
  refine ak_stay fun lo st M res h => ?_
  unfold k_b at h
  split at h
  next y x st' => exact ⟨_, _, lo, .int (x <<< (y &&& 31)) :: st', hk, h, fun C H locs cells slots ls hR hF hl hc hs kk => lv_ishl C.1 C.2.1 hd (kk ls hl)⟩
  next => cases h
theorem s_ishr (hd : decode cc pc = .ok (.ishr, 1)) (hk : ak_S cc own nL rk F L sc (pc + 1) k) : ak_S cc own nL rk F L sc pc (k_b (fun x y => x >>> (y &&& 31)) k) := by
  refine ak_stay fun lo st M res h => ?_
  unfold k_b at h
  split at h
  next y x st' => exact ⟨_, _, lo, .int (x >>> (y &&& 31)) :: st', hk, h, fun C H locs cells slots ls hR hF hl hc hs kk => lv_ishr C.1 C.2.1 hd (kk ls hl)⟩
  next => cases h
theorem s_idiv (hd : decode cc pc = .ok (.idiv, 1)) (hk : ak_S cc own nL rk F L sc (pc + 1) k) : ak_S cc own nL rk F L sc pc (k_bd (fun x y => x / y) k) := by
  refine ak_stay fun lo st M res h => ?_
  unfold k_bd at h
  split at h
  next y x st' =>
    split at h
    next => cases h
    next hy => exact ⟨_, _, lo, .int (x / y) :: st', hk, h, fun C H locs cells slots ls hR hF hl hc hs kk => lv_idiv C.1 C.2.1 hd hy (kk ls hl)⟩
  next => cases h
theorem s_irem (hd : decode cc pc = .ok (.irem, 1)) (hk : ak_S cc own nL rk F L sc (pc + 1) k) : ak_S cc own nL rk F L sc pc (k_bd (fun x y => x - x / y * y) k) := by
  refine ak_stay fun lo st M res h => ?_
  unfold k_bd at h
  split at h
  next y x st' =>
    split at h
    next => cases h
    next hy => exact ⟨_, _, lo, .int (x - x / y * y) :: st', hk, h, fun C H locs cells slots ls hR hF hl hc hs kk => lv_irem C.1 C.2.1 hd hy (kk ls hl)⟩
  next => cases h
theorem s_ladd (hd : decode cc pc = .ok (.ladd, 1)) (hk : ak_S cc own nL rk F L sc (pc + 1) k) : ak_S cc own nL rk F L sc pc (k_lb (fun x y => x + y) k) := by
  refine ak_stay fun lo st M res h => ?_
  unfold k_lb at h
  split at h
  next y x st' => exact ⟨_, _, lo, .long (x + y) :: st', hk, h, fun C H locs cells slots ls hR hF hl hc hs kk => lv_ladd C.1 C.2.1 hd (kk ls hl)⟩
  next => cases h
theorem s_lmul (hd : decode cc pc = .ok (.lmul, 1)) (hk : ak_S cc own nL rk F L sc (pc + 1) k) : ak_S cc own nL rk F L sc pc (k_lb (fun x y => x * y) k) := by
  refine ak_stay fun lo st M res h => ?_
  unfold k_lb at h
  split at h
  next y x st' => exact ⟨_, _, lo, .long (x * y) :: st', hk, h, fun C H locs cells slots ls hR hF hl hc hs kk => lv_lmul C.1 C.2.1 hd (kk ls hl)⟩
  next => cases h
theorem s_land (hd : decode cc pc = .ok (.land, 1)) (hk : ak_S cc own nL rk F L sc (pc + 1) k) : ak_S cc own nL rk F L sc pc (k_lb (fun x y => x &&& y) k) := by
  refine ak_stay fun lo st M res h => ?_
  unfold k_lb at h
  split at h
  next y x st' => exact ⟨_, _, lo, .long (x &&& y) :: st', hk, h, fun C H locs cells slots ls hR hF hl hc hs kk => lv_land C.1 C.2.1 hd (kk ls hl)⟩
  next => cases h
theorem s_ldiv (hd : decode cc pc = .ok (.ldiv, 1)) (hk : ak_S cc own nL rk F L sc (pc + 1) k) : ak_S cc own nL rk F L sc pc (k_lbd (fun x y => x / y) k) := by
  refine ak_stay fun lo st M res h => ?_
  unfold k_lbd at h
  split at h
  next y x st' =>
    split at h
    next => cases h
    next hy => exact ⟨_, _, lo, .long (x / y) :: st', hk, h, fun C H locs cells slots ls hR hF hl hc hs kk => lv_ldiv C.1 C.2.1 hd hy (kk ls hl)⟩
  next => cases h
theorem s_lrem (hd : decode cc pc = .ok (.lrem, 1)) (hk : ak_S cc own nL rk F L sc (pc + 1) k) : ak_S cc own nL rk F L sc pc (k_lbd (fun x y => x - x / y * y) k) := by
  refine ak_stay fun lo st M res h => ?_
  unfold k_lbd at h
  split at h
  next y x st' =>
    split at h
    next => cases h
    next hy => exact ⟨_, _, lo, .long (x - x / y * y) :: st', hk, h, fun C H locs cells slots ls hR hF hl hc hs kk => lv_lrem C.1 C.2.1 hd hy (kk ls hl)⟩
  next => cases h
def k_i2l (k : ak_K) : ak_K := fun lo st M => match st with
  | .int x :: st' => k lo (.long x.toInt64 :: st') M
  | _ => none
def k_l2i (k : ak_K) : ak_K := fun lo st M => match st with
  | .long x :: st' => k lo (.int x.toInt32 :: st') M
  | _ => none
def k_lcmp (k : ak_K) : ak_K := fun lo st M => match st with
  | .long y :: .long x :: st' => k lo (.int (lg_cmp x y) :: st') M
  | _ => none
theorem s_i2l (hd : decode cc pc = .ok (.i2l, 1)) (hk : ak_S cc own nL rk F L sc (pc + 1) k) : ak_S cc own nL rk F L sc pc (k_i2l k) := by
  refine ak_stay fun lo st M res h => ?_
  unfold k_i2l at h
  split at h
  next x st' => exact ⟨_, _, lo, .long x.toInt64 :: st', hk, h, fun C H locs cells slots ls hR hF hl hc hs kk => lv_i2l C.1 C.2.1 hd rfl (kk ls hl)⟩
  next => cases h
theorem s_l2i (hd : decode cc pc = .ok (.l2i, 1)) (hk : ak_S cc own nL rk F L sc (pc + 1) k) : ak_S cc own nL rk F L sc pc (k_l2i k) := by
  refine ak_stay fun lo st M res h => ?_
  unfold k_l2i at h
  split at h
  next x st' => exact ⟨_, _, lo, .int x.toInt32 :: st', hk, h, fun C H locs cells slots ls hR hF hl hc hs kk => lv_l2i C.1 C.2.1 hd rfl (kk ls hl)⟩
  next => cases h
theorem s_lcmp (hd : decode cc pc = .ok (.lcmp, 1)) (hk : ak_S cc own nL rk F L sc (pc + 1) k) : ak_S cc own nL rk F L sc pc (k_lcmp k) := by
  refine ak_stay fun lo st M res h => ?_
  unfold k_lcmp at h
  split at h
  next y x st' => exact ⟨_, _, lo, .int (lg_cmp x y) :: st', hk, h, fun C H locs cells slots ls hR hF hl hc hs kk => W.lcmp C.1 C.2.1 hd (kk ls hl)⟩
  next => cases h
def k_ifeq (k1 k2 : ak_K) : ak_K := fun lo st M => match st with
  | .int x :: st' => if x = 0 then k1 lo st' M else k2 lo st' M
  | _ => none
def k_iflt (k1 k2 : ak_K) : ak_K := fun lo st M => match st with
  | .int x :: st' => if x < 0 then k1 lo st' M else k2 lo st' M
  | _ => none
def k_ifge (k1 k2 : ak_K) : ak_K := fun lo st M => match st with
  | .int x :: st' => if 0 ≤ x then k1 lo st' M else k2 lo st' M
  | _ => none
def k_ifgt (k1 k2 : ak_K) : ak_K := fun lo st M => match st with
  | .int x :: st' => if 0 < x then k1 lo st' M else k2 lo st' M
  | _ => none
def k_ifle (k1 k2 : ak_K) : ak_K := fun lo st M => match st with
  | .int x :: st' => if x ≤ 0 then k1 lo st' M else k2 lo st' M
  | _ => none
def k_cmeq (k1 k2 : ak_K) : ak_K := fun lo st M => match st with
  | .int y :: .int x :: st' => if x = y then k1 lo st' M else k2 lo st' M
  | _ => none
def k_cmlt (k1 k2 : ak_K) : ak_K := fun lo st M => match st with
  | .int y :: .int x :: st' => if x < y then k1 lo st' M else k2 lo st' M
  | _ => none
def k_cmge (k1 k2 : ak_K) : ak_K := fun lo st M => match st with
  | .int y :: .int x :: st' => if y ≤ x then k1 lo st' M else k2 lo st' M
  | _ => none
def k_cmgt (k1 k2 : ak_K) : ak_K := fun lo st M => match st with
  | .int y :: .int x :: st' => if y < x then k1 lo st' M else k2 lo st' M
  | _ => none
def k_cmle (k1 k2 : ak_K) : ak_K := fun lo st M => match st with
  | .int y :: .int x :: st' => if x ≤ y then k1 lo st' M else k2 lo st' M
  | _ => none
theorem s_ifeq {off : Int} {tgt : Nat} (hd : decode cc pc = .ok (.ifCond .eq off, 3)) (ht : (pc : Int) + off = (tgt : Int)) (h1 : ak_S cc own nL rk F L sc tgt k1) (h2 : ak_S cc own nL rk F L sc (pc + 3) k2) : ak_S cc own nL rk F L sc pc (k_ifeq k1 k2) := by
  refine ak_stay fun lo st M res h => ?_
  unfold k_ifeq at h
  split at h
  next x st' =>
    split at h
    next hc0 => exact ⟨_, _, lo, st', h1, h, fun C H locs cells slots ls hR hF hl hc hs kk => lv_if_eq C.1 C.2.1 hd ht (fun _ => kk ls hl) (fun q => absurd hc0 q)⟩
    next hc0 => exact ⟨_, _, lo, st', h2, h, fun C H locs cells slots ls hR hF hl hc hs kk => lv_if_eq C.1 C.2.1 hd ht (fun q => absurd q hc0) (fun _ => kk ls hl)⟩
  next => cases h
theorem s_cmeq {off : Int} {tgt : Nat} (hd : decode cc pc = .ok (.if_icmp .eq off, 3)) (ht : (pc : Int) + off = (tgt : Int)) (h1 : ak_S cc own nL rk F L sc tgt k1) (h2 : ak_S cc own nL rk F L sc (pc + 3) k2) : ak_S cc own nL rk F L sc pc (k_cmeq k1 k2) := by
  refine ak_stay fun lo st M res h => ?_
  unfold k_cmeq at h
  split at h
  next y x st' =>
    split at h
    next hc0 => exact ⟨_, _, lo, st', h1, h, fun C H locs cells slots ls hR hF hl hc hs kk => lv_icmp_eq C.1 C.2.1 hd ht (fun _ => kk ls hl) (fun q => absurd hc0 q)⟩
    next hc0 => exact ⟨_, _, lo, st', h2, h, fun C H locs cells slots ls hR hF hl hc hs kk => lv_icmp_eq C.1 C.2.1 hd ht (fun q => absurd q hc0) (fun _ => kk ls hl)⟩
  next => cases h
theorem s_iflt {off : Int} {tgt : Nat} (hd : decode cc pc = .ok (.ifCond .lt off, 3)) (ht : (pc : Int) + off = (tgt : Int)) (h1 : ak_S cc own nL rk F L sc tgt k1) (h2 : ak_S cc own nL rk F L sc (pc + 3) k2) : ak_S cc own nL rk F L sc pc (k_iflt k1 k2) := by
  refine ak_stay fun lo st M res h => ?_
  unfold k_iflt at h
  split at h
  next x st' =>
    split at h
    next hc0 => exact ⟨_, _, lo, st', h1, h, fun C H locs cells slots ls hR hF hl hc hs kk => lv_if_lt C.1 C.2.1 hd ht (fun _ => kk ls hl) (fun q => absurd hc0 q)⟩
    next hc0 => exact ⟨_, _, lo, st', h2, h, fun C H locs cells slots ls hR hF hl hc hs kk => lv_if_lt C.1 C.2.1 hd ht (fun q => absurd q hc0) (fun _ => kk ls hl)⟩
  next => cases h
theorem s_cmlt {off : Int} {tgt : Nat} (hd : decode cc pc = .ok (.if_icmp .lt off, 3)) (ht : (pc : Int) + off = (tgt : Int)) (h1 : ak_S cc own nL rk F L sc tgt k1) (h2 : ak_S cc own nL rk F L sc (pc + 3) k2) : ak_S cc own nL rk F L sc pc (k_cmlt k1 k2) := by
  refine ak_stay fun lo st M res h => ?_
  unfold k_cmlt at h
  split at h
  next y x st' =>
    split at h
    next hc0 => exact ⟨_, _, lo, st', h1, h, fun C H locs cells slots ls hR hF hl hc hs kk => lv_icmp_lt C.1 C.2.1 hd ht (fun _ => kk ls hl) (fun q => absurd hc0 q)⟩
    next hc0 => exact ⟨_, _, lo, st', h2, h, fun C H locs cells slots ls hR hF hl hc hs kk => lv_icmp_lt C.1 C.2.1 hd ht (fun q => absurd q hc0) (fun _ => kk ls hl)⟩
  next => cases h
theorem s_ifge {off : Int} {tgt : Nat} (hd : decode cc pc = .ok (.ifCond .ge off, 3)) (ht : (pc : Int) + off = (tgt : Int)) (h1 : ak_S cc own nL rk F L sc tgt k1) (h2 : ak_S cc own nL rk F L sc (pc + 3) k2) : ak_S cc own nL rk F L sc pc (k_ifge k1 k2) := by
  refine ak_stay fun lo st M res h => ?_
  unfold k_ifge at h
  split at h
  next x st' =>
    split at h
    next hc0 => exact ⟨_, _, lo, st', h1, h, fun C H locs cells slots ls hR hF hl hc hs kk => lv_if_ge C.1 C.2.1 hd ht (fun _ => kk ls hl) (fun q => absurd hc0 q)⟩
    next hc0 => exact ⟨_, _, lo, st', h2, h, fun C H locs cells slots ls hR hF hl hc hs kk => lv_if_ge C.1 C.2.1 hd ht (fun q => absurd q hc0) (fun _ => kk ls hl)⟩
  next => cases h
theorem s_cmge {off : Int} {tgt : Nat} (hd : decode cc pc = .ok (.if_icmp .ge off, 3)) (ht : (pc : Int) + off = (tgt : Int)) (h1 : ak_S cc own nL rk F L sc tgt k1) (h2 : ak_S cc own nL rk F L sc (pc + 3) k2) : ak_S cc own nL rk F L sc pc (k_cmge k1 k2) := by
  refine ak_stay fun lo st M res h => ?_
  unfold k_cmge at h
  split at h
  next y x st' =>
    split at h
    next hc0 => exact ⟨_, _, lo, st', h1, h, fun C H locs cells slots ls hR hF hl hc hs kk => lv_icmp_ge C.1 C.2.1 hd ht (fun _ => kk ls hl) (fun q => absurd hc0 q)⟩
    next hc0 => exact ⟨_, _, lo, st', h2, h, fun C H locs cells slots ls hR hF hl hc hs kk => lv_icmp_ge C.1 C.2.1 hd ht (fun q => absurd q hc0) (fun _ => kk ls hl)⟩
  next => cases h
theorem s_ifgt {off : Int} {tgt : Nat} (hd : decode cc pc = .ok (.ifCond .gt off, 3)) (ht : (pc : Int) + off = (tgt : Int)) (h1 : ak_S cc own nL rk F L sc tgt k1) (h2 : ak_S cc own nL rk F L sc (pc + 3) k2) : ak_S cc own nL rk F L sc pc (k_ifgt k1 k2) := by
  refine ak_stay fun lo st M res h => ?_
  unfold k_ifgt at h
  split at h
  next x st' =>
    split at h
    next hc0 => exact ⟨_, _, lo, st', h1, h, fun C H locs cells slots ls hR hF hl hc hs kk => lv_if_gt C.1 C.2.1 hd ht (fun _ => kk ls hl) (fun q => absurd hc0 q)⟩
    next hc0 => exact ⟨_, _, lo, st', h2, h, fun C H locs cells slots ls hR hF hl hc hs kk => lv_if_gt C.1 C.2.1 hd ht (fun q => absurd q hc0) (fun _ => kk ls hl)⟩
  next => cases h
theorem s_cmgt {off : Int} {tgt : Nat} (hd : decode cc pc = .ok (.if_icmp .gt off, 3)) (ht : (pc : Int) + off = (tgt : Int)) (h1 : ak_S cc own nL rk F L sc tgt k1) (h2 : ak_S cc own nL rk F L sc (pc + 3) k2) : ak_S cc own nL rk F L sc pc (k_cmgt k1 k2) := by
  refine ak_stay fun lo st M res h => ?_
  unfold k_cmgt at h
  split at h
  next y x st' =>
    split at h
    next hc0 => exact ⟨_, _, lo, st', h1, h, fun C H locs cells slots ls hR hF hl hc hs kk => lv_icmp_gt C.1 C.2.1 hd ht (fun _ => kk ls hl) (fun q => absurd hc0 q)⟩
    next hc0 => exact ⟨_, _, lo, st', h2, h, fun C H locs cells slots ls hR hF hl hc hs kk => lv_icmp_gt C.1 C.2.1 hd ht (fun q => absurd q hc0) (fun _ => kk ls hl)⟩
  next => cases h
theorem s_ifle {off : Int} {tgt : Nat} (hd : decode cc pc = .ok (.ifCond .le off, 3)) (ht : (pc : Int) + off = (tgt : Int)) (h1 : ak_S cc own nL rk F L sc tgt k1) (h2 : ak_S cc own nL rk F L sc (pc + 3) k2) : ak_S cc own nL rk F L sc pc (k_ifle k1 k2) := by
  refine ak_stay fun lo st M res h => ?_
  unfold k_ifle at h
  split at h
  next x st' =>
    split at h
    next hc0 => exact ⟨_, _, lo, st', h1, h, fun C H locs cells slots ls hR hF hl hc hs kk => lv_if_le C.1 C.2.1 hd ht (fun _ => kk ls hl) (fun q => absurd hc0 q)⟩
    next hc0 => exact ⟨_, _, lo, st', h2, h, fun C H locs cells slots ls hR hF hl hc hs kk => lv_if_le C.1 C.2.1 hd ht (fun q => absurd q hc0) (fun _ => kk ls hl)⟩
  next => cases h
theorem s_cmle {off : Int} {tgt : Nat} (hd : decode cc pc = .ok (.if_icmp .le off, 3)) (ht : (pc : Int) + off = (tgt : Int)) (h1 : ak_S cc own nL rk F L sc tgt k1) (h2 : ak_S cc own nL rk F L sc (pc + 3) k2) : ak_S cc own nL rk F L sc pc (k_cmle k1 k2) := by
  refine ak_stay fun lo st M res h => ?_
  unfold k_cmle at h
  split at h
  next y x st' =>
    split at h
    next hc0 => exact ⟨_, _, lo, st', h1, h, fun C H locs cells slots ls hR hF hl hc hs kk => lv_icmp_le C.1 C.2.1 hd ht (fun _ => kk ls hl) (fun q => absurd hc0 q)⟩
    next hc0 => exact ⟨_, _, lo, st', h2, h, fun C H locs cells slots ls hR hF hl hc hs kk => lv_icmp_le C.1 C.2.1 hd ht (fun q => absurd q hc0) (fun _ => kk ls hl)⟩
  next => cases h
theorem s_ifne {off : Int} {tgt : Nat} (hd : decode cc pc = .ok (.ifCond .ne off, 3)) (ht : (pc : Int) + off = (tgt : Int)) (h1 : ak_S cc own nL rk F L sc (pc + 3) k1) (h2 : ak_S cc own nL rk F L sc tgt k2) : ak_S cc own nL rk F L sc pc (k_ifeq k1 k2) := by
  refine ak_stay fun lo st M res h => ?_
  unfold k_ifeq at h
  split at h
  next x st' =>
    split at h
    next hc0 => exact ⟨_, _, lo, st', h1, h, fun C H locs cells slots ls hR hF hl hc hs kk => lv_if_ne C.1 C.2.1 hd ht (fun q => absurd hc0 q) (fun _ => kk ls hl)⟩
    next hc0 => exact ⟨_, _, lo, st', h2, h, fun C H locs cells slots ls hR hF hl hc hs kk => lv_if_ne C.1 C.2.1 hd ht (fun _ => kk ls hl) (fun q => absurd q hc0)⟩
  next => cases h
theorem s_cmne {off : Int} {tgt : Nat} (hd : decode cc pc = .ok (.if_icmp .ne off, 3)) (ht : (pc : Int) + off = (tgt : Int)) (h1 : ak_S cc own nL rk F L sc (pc + 3) k1) (h2 : ak_S cc own nL rk F L sc tgt k2) : ak_S cc own nL rk F L sc pc (k_cmeq k1 k2) := by
  refine ak_stay fun lo st M res h => ?_
  unfold k_cmeq at h
  split at h
  next y x st' =>
    split at h
    next hc0 => exact ⟨_, _, lo, st', h1, h, fun C H locs cells slots ls hR hF hl hc hs kk => lv_icmp_ne C.1 C.2.1 hd ht (fun q => absurd hc0 q) (fun _ => kk ls hl)⟩
    next hc0 => exact ⟨_, _, lo, st', h2, h, fun C H locs cells slots ls hR hF hl hc hs kk => lv_icmp_ne C.1 C.2.1 hd ht (fun _ => kk ls hl) (fun q => absurd q hc0)⟩
  next => cases h
/-- null: k1, else k2 -/
def k_ifnull (k1 k2 : ak_K) : ak_K := fun lo st M => match st with
  | .null :: st' => k1 lo st' M
  | .ref _ :: st' => k2 lo st' M
  | _ => none
theorem s_ifnull {off : Int} {tgt : Nat} (hd : decode cc pc = .ok (.ifnull off, 3)) (ht : (pc : Int) + off = (tgt : Int)) (h1 : ak_S cc own nL rk F L sc tgt k1) (h2 : ak_S cc own nL rk F L sc (pc + 3) k2) : ak_S cc own nL rk F L sc pc (k_ifnull k1 k2) := by
  refine ak_stay fun lo st M res h => ?_
  unfold k_ifnull at h
  split at h
  next st' => exact ⟨_, _, lo, st', h1, h, fun C H locs cells slots ls hR hF hl hc hs kk => lv_ifnullN C.1 C.2.1 hd ht (kk ls hl)⟩
  next x st' => exact ⟨_, _, lo, st', h2, h, fun C H locs cells slots ls hR hF hl hc hs kk => lv_ifnull C.1 C.2.1 hd (kk ls hl)⟩
  next => cases h
theorem s_ifnonnull {off : Int} {tgt : Nat} (hd : decode cc pc = .ok (.ifnonnull off, 3)) (ht : (pc : Int) + off = (tgt : Int)) (h1 : ak_S cc own nL rk F L sc (pc + 3) k1) (h2 : ak_S cc own nL rk F L sc tgt k2) : ak_S cc own nL rk F L sc pc (k_ifnull k1 k2) := by
  refine ak_stay fun lo st M res h => ?_
  unfold k_ifnull at h
  split at h
  next st' => exact ⟨_, _, lo, st', h1, h, fun C H locs cells slots ls hR hF hl hc hs kk => lv_ifnonnullN C.1 C.2.1 hd (kk ls hl)⟩
  next x st' => exact ⟨_, _, lo, st', h2, h, fun C H locs cells slots ls hR hF hl hc hs kk => lv_ifnonnull C.1 C.2.1 hd ht (kk ls hl)⟩
  next => cases h
/-- a jump: the same text, at another place -/
theorem s_goto {off : Int} {tgt : Nat} (hd : decode cc pc = .ok (.goto off, 3)) (ht : (pc : Int) + off = (tgt : Int)) (hk : ak_S cc own nL rk F L sc tgt k) : ak_S cc own nL rk F L sc pc k :=
  ak_stay fun lo st M res h => ⟨_, _, lo, st, hk, h, fun C H locs cells slots ls hR hF hl hc hs kk => lv_goto C.1 C.2.1 hd ht (kk ls hl)⟩
/-! switches: by the first case that is equal -/
def k_swf : List (Int32 × ak_K) → ak_K → Int32 → ak_K
  | [], kd, _ => kd
  | q :: t, kd, x => if x = q.1 then q.2 else k_swf t kd x
def k_sw (cs : List (Int32 × ak_K)) (kd : ak_K) : ak_K := fun lo st M => match st with
  | .int x :: st' => k_swf cs kd x lo st' M
  | _ => none
theorem ak_swf (x : Int32) (kd : ak_K) : ∀ cs : List (Int32 × ak_K), (∃ q ∈ cs, x = q.1 ∧ k_swf cs kd x = q.2) ∨ ((∀ q ∈ cs, x ≠ q.1) ∧ k_swf cs kd x = kd)
  | [] => Or.inr ⟨fun q h => absurd h List.not_mem_nil, rfl⟩
  | q :: t => by
    by_cases hx : x = q.1
    · exact Or.inl ⟨q, List.mem_cons_self, hx, by simp only [k_swf, if_pos hx]⟩
    · rcases ak_swf x kd t with ⟨r, h1, h2, h3⟩ | ⟨h1, h2⟩
      · exact Or.inl ⟨r, List.mem_cons_of_mem _ h1, h2, by simp only [k_swf, if_neg hx]; exact h3⟩
      · refine Or.inr ⟨fun r hr => ?_, by simp only [k_swf, if_neg hx]; exact h2⟩
        rcases List.mem_cons.mp hr with rfl | hr
        · exact hx
        · exact h1 r hr
theorem s_table {dflt lo' hi : Int} {offs : Array Int} {len tgd : Nat} {cs : List (Int32 × ak_K)} {kd : ak_K} (vs : List Int32) (hvs : cs.map (fun q => q.1) = vs) (hd : decode cc pc = .ok (.tableswitch dflt lo' hi offs, len)) (htd : (pc : Int) + dflt = (tgd : Int)) (hkd : ak_S cc own nL rk F L sc tgd kd)
    (hcs : ∀ q ∈ cs, ∃ tgt : Nat, ak_S cc own nL rk F L sc tgt q.2 ∧ (lo' ≤ q.1.toInt ∧ q.1.toInt ≤ hi ∧ ∃ off, offs[(q.1.toInt - lo').toNat]? = some off ∧ (pc : Int) + off = (tgt : Int)))
    (hall : (List.range (hi - lo' + 1).toNat).all (fun j => vs.any (fun v => v.toInt == lo' + j) || offs[j]? == some dflt) = true) : ak_S cc own nL rk F L sc pc (k_sw cs kd) := by
  refine ak_stay fun lo st M res h => ?_
  unfold k_sw at h
  split at h
  next x st' =>
    rcases ak_swf x kd cs with ⟨q, hq, hx, he⟩ | ⟨hx, he⟩
    · rw [he] at h
      obtain ⟨tgt, hS, h1, h2, off, h3, h4⟩ := hcs q hq
      subst hx
      exact ⟨_, _, lo, st', hS, h, fun C H locs cells slots ls hR hF hl hc hs kk => lv_tableIn C.1 C.2.1 hd (by omega) (by omega) h3 h4 (kk ls hl)⟩
    · rw [he] at h
      refine ⟨_, _, lo, st', hkd, h, fun C H locs cells slots ls hR hF hl hc hs kk => ?_⟩
      by_cases ho : x.toInt < lo' ∨ hi < x.toInt
      · exact lv_tableOut C.1 C.2.1 hd ho htd (kk ls hl)
      · have h5 := List.all_eq_true.mp hall (x.toInt - lo').toNat (List.mem_range.mpr (by omega))
        simp only [Bool.or_eq_true, beq_iff_eq, List.any_eq_true] at h5
        rcases h5 with ⟨v, hv, h6⟩ | h6
        · exfalso
          rw [← hvs] at hv
          obtain ⟨q, hq, rfl⟩ := List.mem_map.mp hv
          refine hx q hq (Int32.toInt_inj.mp ?_)
          omega
        · exact lv_tableIn C.1 C.2.1 hd (by omega) (by omega) h6 htd (kk ls hl)
  next => cases h
theorem s_lookup {dflt : Int} {ps : Array (Int × Int)} {len tgd : Nat} {cs : List (Int32 × ak_K)} {kd : ak_K} (vs : List Int32) (hvs : cs.map (fun q => q.1) = vs) (hd : decode cc pc = .ok (.lookupswitch dflt ps, len)) (hp : (ps.toList.zip (ps.toList.drop 1)).all (fun (a, next) => a.1 < next.1) = true) (htd : (pc : Int) + dflt = (tgd : Int)) (hkd : ak_S cc own nL rk F L sc tgd kd)
    (hcs : ∀ q ∈ cs, ∃ tgt : Nat, ak_S cc own nL rk F L sc tgt q.2 ∧ ∃ off, Op.lookupswitch.offset ps.toList dflt q.1.toInt = off ∧ (pc : Int) + off = (tgt : Int))
    (hall : ∀ x : Int32, (∀ v ∈ vs, x ≠ v) → Op.lookupswitch.offset ps.toList dflt x.toInt = dflt) : ak_S cc own nL rk F L sc pc (k_sw cs kd) := by
  refine ak_stay fun lo st M res h => ?_
  unfold k_sw at h
  split at h
  next x st' =>
    rcases ak_swf x kd cs with ⟨q, hq, hx, he⟩ | ⟨hx, he⟩
    · rw [he] at h
      obtain ⟨tgt, hS, off, h3, h4⟩ := hcs q hq
      subst hx
      exact ⟨_, _, lo, st', hS, h, fun C H locs cells slots ls hR hF hl hc hs kk => lv_lookup C.1 C.2.1 hd hp h3 h4 (kk ls hl)⟩
    · rw [he] at h
      refine ⟨_, _, lo, st', hkd, h, fun C H locs cells slots ls hR hF hl hc hs kk => lv_lookup C.1 C.2.1 hd hp (hall x (fun v hv => ?_)) htd (kk ls hl)⟩
      rw [← hvs] at hv
      obtain ⟨q, hq, rfl⟩ := List.mem_map.mp hv
      exact hx q hq
  next => cases h
end EK2
