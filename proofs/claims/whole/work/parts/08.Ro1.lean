theorem d_Ro_copyFrom_0 : decode b_Ro_copyFrom 0 = .ok (.aload_n 0, 1) := by decide +kernel
theorem d_Ro_copyFrom_1 : decode b_Ro_copyFrom 1 = .ok (.aload_n 1, 1) := by decide +kernel
theorem d_Ro_copyFrom_2 : decode b_Ro_copyFrom 2 = .ok (.getfield 20, 3) := by decide +kernel
theorem d_Ro_copyFrom_5 : decode b_Ro_copyFrom 5 = .ok (.putfield 20, 3) := by decide +kernel
theorem d_Ro_copyFrom_8 : decode b_Ro_copyFrom 8 = .ok (.aload_n 0, 1) := by decide +kernel
theorem d_Ro_copyFrom_9 : decode b_Ro_copyFrom 9 = .ok (.aload_n 1, 1) := by decide +kernel
theorem d_Ro_copyFrom_10 : decode b_Ro_copyFrom 10 = .ok (.getfield 24, 3) := by decide +kernel
theorem d_Ro_copyFrom_13 : decode b_Ro_copyFrom 13 = .ok (.putfield 24, 3) := by decide +kernel
theorem d_Ro_copyFrom_16 : decode b_Ro_copyFrom 16 = .ok (.iconst 0, 1) := by decide +kernel
theorem d_Ro_copyFrom_17 : decode b_Ro_copyFrom 17 = .ok (.istore_n 2, 1) := by decide +kernel
theorem d_Ro_copyFrom_18 : decode b_Ro_copyFrom 18 = .ok (.iload_n 2, 1) := by decide +kernel
theorem d_Ro_copyFrom_19 : decode b_Ro_copyFrom 19 = .ok (.aload_n 0, 1) := by decide +kernel
theorem d_Ro_copyFrom_20 : decode b_Ro_copyFrom 20 = .ok (.getfield 20, 3) := by decide +kernel
theorem d_Ro_copyFrom_23 : decode b_Ro_copyFrom 23 = .ok (.if_icmp .ge 24, 3) := by decide +kernel
theorem d_Ro_copyFrom_26 : decode b_Ro_copyFrom 26 = .ok (.aload_n 0, 1) := by decide +kernel
theorem d_Ro_copyFrom_27 : decode b_Ro_copyFrom 27 = .ok (.getfield 11, 3) := by decide +kernel
theorem d_Ro_copyFrom_30 : decode b_Ro_copyFrom 30 = .ok (.iload_n 2, 1) := by decide +kernel
theorem d_Ro_copyFrom_31 : decode b_Ro_copyFrom 31 = .ok (.aaload, 1) := by decide +kernel
theorem d_Ro_copyFrom_32 : decode b_Ro_copyFrom 32 = .ok (.aload_n 1, 1) := by decide +kernel
theorem d_Ro_copyFrom_33 : decode b_Ro_copyFrom 33 = .ok (.getfield 11, 3) := by decide +kernel
theorem d_Ro_copyFrom_36 : decode b_Ro_copyFrom 36 = .ok (.iload_n 2, 1) := by decide +kernel
theorem d_Ro_copyFrom_37 : decode b_Ro_copyFrom 37 = .ok (.aaload, 1) := by decide +kernel
theorem d_Ro_copyFrom_38 : decode b_Ro_copyFrom 38 = .ok (.invokevirtual 27, 3) := by decide +kernel
theorem d_Ro_copyFrom_41 : decode b_Ro_copyFrom 41 = .ok (.iinc 2 1, 3) := by decide +kernel
theorem d_Ro_copyFrom_44 : decode b_Ro_copyFrom 44 = .ok (.goto (-26), 3) := by decide +kernel
theorem d_Ro_copyFrom_47 : decode b_Ro_copyFrom 47 = .ok (.return_, 1) := by decide +kernel
theorem d_Ro_find_0 : decode b_Ro_find 0 = .ok (.iload_n 1, 1) := by decide +kernel
theorem d_Ro_find_1 : decode b_Ro_find 1 = .ok (.ifCond .lt 20, 3) := by decide +kernel
theorem d_Ro_find_4 : decode b_Ro_find 4 = .ok (.iload_n 1, 1) := by decide +kernel
theorem d_Ro_find_5 : decode b_Ro_find 5 = .ok (.aload_n 0, 1) := by decide +kernel
theorem d_Ro_find_6 : decode b_Ro_find 6 = .ok (.getfield 20, 3) := by decide +kernel
theorem d_Ro_find_9 : decode b_Ro_find 9 = .ok (.if_icmp .ge 12, 3) := by decide +kernel
theorem d_Ro_find_12 : decode b_Ro_find 12 = .ok (.aload_n 0, 1) := by decide +kernel
theorem d_Ro_find_13 : decode b_Ro_find 13 = .ok (.getfield 11, 3) := by decide +kernel
theorem d_Ro_find_16 : decode b_Ro_find 16 = .ok (.iload_n 1, 1) := by decide +kernel
theorem d_Ro_find_17 : decode b_Ro_find 17 = .ok (.aaload, 1) := by decide +kernel
theorem d_Ro_find_18 : decode b_Ro_find 18 = .ok (.goto 4, 3) := by decide +kernel
theorem d_Ro_find_21 : decode b_Ro_find 21 = .ok (.aconst_null, 1) := by decide +kernel
theorem d_Ro_find_22 : decode b_Ro_find 22 = .ok (.areturn, 1) := by decide +kernel
theorem d_Ro_make_0 : decode b_Ro_make 0 = .ok (.aload_n 0, 1) := by decide +kernel
theorem d_Ro_make_1 : decode b_Ro_make 1 = .ok (.getfield 20, 3) := by decide +kernel
theorem d_Ro_make_4 : decode b_Ro_make 4 = .ok (.bipush 40, 2) := by decide +kernel
theorem d_Ro_make_6 : decode b_Ro_make 6 = .ok (.if_icmp .lt 5, 3) := by decide +kernel
theorem d_Ro_make_9 : decode b_Ro_make 9 = .ok (.aconst_null, 1) := by decide +kernel
theorem d_Ro_make_10 : decode b_Ro_make 10 = .ok (.areturn, 1) := by decide +kernel
theorem d_Ro_make_11 : decode b_Ro_make 11 = .ok (.aload_n 0, 1) := by decide +kernel
theorem d_Ro_make_12 : decode b_Ro_make 12 = .ok (.getfield 11, 3) := by decide +kernel
theorem d_Ro_make_15 : decode b_Ro_make 15 = .ok (.aload_n 0, 1) := by decide +kernel
theorem d_Ro_make_16 : decode b_Ro_make 16 = .ok (.getfield 20, 3) := by decide +kernel
theorem d_Ro_make_19 : decode b_Ro_make 19 = .ok (.aaload, 1) := by decide +kernel
theorem d_Ro_make_20 : decode b_Ro_make 20 = .ok (.astore_n 3, 1) := by decide +kernel
theorem d_Ro_make_21 : decode b_Ro_make 21 = .ok (.aload_n 0, 1) := by decide +kernel
theorem d_Ro_make_22 : decode b_Ro_make 22 = .ok (.dup, 1) := by decide +kernel
theorem d_Ro_make_23 : decode b_Ro_make 23 = .ok (.getfield 20, 3) := by decide +kernel
theorem d_Ro_make_26 : decode b_Ro_make 26 = .ok (.iconst 1, 1) := by decide +kernel
theorem d_Ro_make_27 : decode b_Ro_make 27 = .ok (.iadd, 1) := by decide +kernel
theorem d_Ro_make_28 : decode b_Ro_make 28 = .ok (.putfield 20, 3) := by decide +kernel
theorem d_Ro_make_31 : decode b_Ro_make 31 = .ok (.aload_n 3, 1) := by decide +kernel
theorem d_Ro_make_32 : decode b_Ro_make 32 = .ok (.iload_n 1, 1) := by decide +kernel
theorem d_Ro_make_33 : decode b_Ro_make 33 = .ok (.iload_n 2, 1) := by decide +kernel
theorem d_Ro_make_34 : decode b_Ro_make 34 = .ok (.invokevirtual 31, 3) := by decide +kernel
theorem d_Ro_make_37 : decode b_Ro_make 37 = .ok (.aload_n 3, 1) := by decide +kernel
theorem d_Ro_make_38 : decode b_Ro_make 38 = .ok (.areturn, 1) := by decide +kernel
theorem d_Ro_enter_0 : decode b_Ro_enter 0 = .ok (.aload_n 1, 1) := by decide +kernel
theorem d_Ro_enter_1 : decode b_Ro_enter 1 = .ok (.iload_n 2, 1) := by decide +kernel
theorem d_Ro_enter_2 : decode b_Ro_enter 2 = .ok (.putfield 35, 3) := by decide +kernel
theorem d_Ro_enter_5 : decode b_Ro_enter 5 = .ok (.aload_n 1, 1) := by decide +kernel
theorem d_Ro_enter_6 : decode b_Ro_enter 6 = .ok (.aload_n 0, 1) := by decide +kernel
theorem d_Ro_enter_7 : decode b_Ro_enter 7 = .ok (.getfield 24, 3) := by decide +kernel
theorem d_Ro_enter_10 : decode b_Ro_enter 10 = .ok (.putfield 38, 3) := by decide +kernel
theorem d_Ro_enter_13 : decode b_Ro_enter 13 = .ok (.aload_n 0, 1) := by decide +kernel
theorem d_Ro_enter_14 : decode b_Ro_enter 14 = .ok (.dup, 1) := by decide +kernel
theorem d_Ro_enter_15 : decode b_Ro_enter 15 = .ok (.getfield 24, 3) := by decide +kernel
theorem d_Ro_enter_18 : decode b_Ro_enter 18 = .ok (.iconst 1, 1) := by decide +kernel
theorem d_Ro_enter_19 : decode b_Ro_enter 19 = .ok (.iadd, 1) := by decide +kernel
theorem d_Ro_enter_20 : decode b_Ro_enter 20 = .ok (.putfield 24, 3) := by decide +kernel
theorem d_Ro_enter_23 : decode b_Ro_enter 23 = .ok (.return_, 1) := by decide +kernel
theorem d_Ro_releaseIfComplete_0 : decode b_Ro_releaseIfComplete 0 = .ok (.aload_n 1, 1) := by decide +kernel
theorem d_Ro_releaseIfComplete_1 : decode b_Ro_releaseIfComplete 1 = .ok (.getfield 35, 3) := by decide +kernel
theorem d_Ro_releaseIfComplete_4 : decode b_Ro_releaseIfComplete 4 = .ok (.bipush 6, 2) := by decide +kernel
theorem d_Ro_releaseIfComplete_6 : decode b_Ro_releaseIfComplete 6 = .ok (.if_icmp .ne 23, 3) := by decide +kernel
theorem d_Ro_releaseIfComplete_9 : decode b_Ro_releaseIfComplete 9 = .ok (.aload_n 1, 1) := by decide +kernel
theorem d_Ro_releaseIfComplete_10 : decode b_Ro_releaseIfComplete 10 = .ok (.getfield 41, 3) := by decide +kernel
theorem d_Ro_releaseIfComplete_13 : decode b_Ro_releaseIfComplete 13 = .ok (.ifCond .eq 16, 3) := by decide +kernel
theorem d_Ro_releaseIfComplete_16 : decode b_Ro_releaseIfComplete 16 = .ok (.aload_n 1, 1) := by decide +kernel
theorem d_Ro_releaseIfComplete_17 : decode b_Ro_releaseIfComplete 17 = .ok (.getfield 45, 3) := by decide +kernel
theorem d_Ro_releaseIfComplete_20 : decode b_Ro_releaseIfComplete 20 = .ok (.ifCond .ne 9, 3) := by decide +kernel
theorem d_Ro_releaseIfComplete_23 : decode b_Ro_releaseIfComplete 23 = .ok (.aload_n 0, 1) := by decide +kernel
theorem d_Ro_releaseIfComplete_24 : decode b_Ro_releaseIfComplete 24 = .ok (.aload_n 1, 1) := by decide +kernel
theorem d_Ro_releaseIfComplete_25 : decode b_Ro_releaseIfComplete 25 = .ok (.iconst 1, 1) := by decide +kernel
theorem d_Ro_releaseIfComplete_26 : decode b_Ro_releaseIfComplete 26 = .ok (.invokevirtual 48, 3) := by decide +kernel
theorem d_Ro_releaseIfComplete_29 : decode b_Ro_releaseIfComplete 29 = .ok (.return_, 1) := by decide +kernel
theorem d_Ro_releaseReserved_0 : decode b_Ro_releaseReserved 0 = .ok (.iconst 0, 1) := by decide +kernel
theorem d_Ro_releaseReserved_1 : decode b_Ro_releaseReserved 1 = .ok (.istore_n 1, 1) := by decide +kernel
theorem d_Ro_releaseReserved_2 : decode b_Ro_releaseReserved 2 = .ok (.iload_n 1, 1) := by decide +kernel
theorem d_Ro_releaseReserved_3 : decode b_Ro_releaseReserved 3 = .ok (.aload_n 0, 1) := by decide +kernel
theorem d_Ro_releaseReserved_4 : decode b_Ro_releaseReserved 4 = .ok (.getfield 20, 3) := by decide +kernel
theorem d_Ro_releaseReserved_7 : decode b_Ro_releaseReserved 7 = .ok (.if_icmp .ge 33, 3) := by decide +kernel
theorem d_Ro_releaseReserved_10 : decode b_Ro_releaseReserved 10 = .ok (.aload_n 0, 1) := by decide +kernel
theorem d_Ro_releaseReserved_11 : decode b_Ro_releaseReserved 11 = .ok (.getfield 11, 3) := by decide +kernel
theorem d_Ro_releaseReserved_14 : decode b_Ro_releaseReserved 14 = .ok (.iload_n 1, 1) := by decide +kernel
theorem d_Ro_releaseReserved_15 : decode b_Ro_releaseReserved 15 = .ok (.aaload, 1) := by decide +kernel
theorem d_Ro_releaseReserved_16 : decode b_Ro_releaseReserved 16 = .ok (.getfield 35, 3) := by decide +kernel
theorem d_Ro_releaseReserved_19 : decode b_Ro_releaseReserved 19 = .ok (.iconst 2, 1) := by decide +kernel
theorem d_Ro_releaseReserved_20 : decode b_Ro_releaseReserved 20 = .ok (.if_icmp .ne 14, 3) := by decide +kernel
theorem d_Ro_releaseReserved_23 : decode b_Ro_releaseReserved 23 = .ok (.aload_n 0, 1) := by decide +kernel
theorem d_Ro_releaseReserved_24 : decode b_Ro_releaseReserved 24 = .ok (.aload_n 0, 1) := by decide +kernel
theorem d_Ro_releaseReserved_25 : decode b_Ro_releaseReserved 25 = .ok (.getfield 11, 3) := by decide +kernel
theorem d_Ro_releaseReserved_28 : decode b_Ro_releaseReserved 28 = .ok (.iload_n 1, 1) := by decide +kernel
theorem d_Ro_releaseReserved_29 : decode b_Ro_releaseReserved 29 = .ok (.aaload, 1) := by decide +kernel
theorem d_Ro_releaseReserved_30 : decode b_Ro_releaseReserved 30 = .ok (.iconst 1, 1) := by decide +kernel
theorem d_Ro_releaseReserved_31 : decode b_Ro_releaseReserved 31 = .ok (.invokevirtual 48, 3) := by decide +kernel
theorem d_Ro_releaseReserved_34 : decode b_Ro_releaseReserved 34 = .ok (.iinc 1 1, 3) := by decide +kernel
theorem d_Ro_releaseReserved_37 : decode b_Ro_releaseReserved 37 = .ok (.goto (-35), 3) := by decide +kernel
theorem d_Ro_releaseReserved_40 : decode b_Ro_releaseReserved 40 = .ok (.return_, 1) := by decide +kernel
theorem d_Ro_countIn_0 : decode b_Ro_countIn 0 = .ok (.iconst 0, 1) := by decide +kernel
theorem d_Ro_countIn_1 : decode b_Ro_countIn 1 = .ok (.istore_n 2, 1) := by decide +kernel
theorem d_Ro_countIn_2 : decode b_Ro_countIn 2 = .ok (.iconst 0, 1) := by decide +kernel
theorem d_Ro_countIn_3 : decode b_Ro_countIn 3 = .ok (.istore_n 3, 1) := by decide +kernel
theorem d_Ro_countIn_4 : decode b_Ro_countIn 4 = .ok (.iload_n 3, 1) := by decide +kernel
theorem d_Ro_countIn_5 : decode b_Ro_countIn 5 = .ok (.aload_n 0, 1) := by decide +kernel
theorem d_Ro_countIn_6 : decode b_Ro_countIn 6 = .ok (.getfield 20, 3) := by decide +kernel
theorem d_Ro_countIn_9 : decode b_Ro_countIn 9 = .ok (.if_icmp .ge 25, 3) := by decide +kernel
theorem d_Ro_countIn_12 : decode b_Ro_countIn 12 = .ok (.aload_n 0, 1) := by decide +kernel
theorem d_Ro_countIn_13 : decode b_Ro_countIn 13 = .ok (.getfield 11, 3) := by decide +kernel
theorem d_Ro_countIn_16 : decode b_Ro_countIn 16 = .ok (.iload_n 3, 1) := by decide +kernel
theorem d_Ro_countIn_17 : decode b_Ro_countIn 17 = .ok (.aaload, 1) := by decide +kernel
theorem d_Ro_countIn_18 : decode b_Ro_countIn 18 = .ok (.getfield 35, 3) := by decide +kernel
theorem d_Ro_countIn_21 : decode b_Ro_countIn 21 = .ok (.iload_n 1, 1) := by decide +kernel
theorem d_Ro_countIn_22 : decode b_Ro_countIn 22 = .ok (.if_icmp .ne 6, 3) := by decide +kernel
theorem d_Ro_countIn_25 : decode b_Ro_countIn 25 = .ok (.iinc 2 1, 3) := by decide +kernel
theorem d_Ro_countIn_28 : decode b_Ro_countIn 28 = .ok (.iinc 3 1, 3) := by decide +kernel
theorem d_Ro_countIn_31 : decode b_Ro_countIn 31 = .ok (.goto (-27), 3) := by decide +kernel
theorem d_Ro_countIn_34 : decode b_Ro_countIn 34 = .ok (.iload_n 2, 1) := by decide +kernel
theorem d_Ro_countIn_35 : decode b_Ro_countIn 35 = .ok (.ireturn, 1) := by decide +kernel
theorem d_Ro_oldestDead_0 : decode b_Ro_oldestDead 0 = .ok (.aconst_null, 1) := by decide +kernel
theorem d_Ro_oldestDead_1 : decode b_Ro_oldestDead 1 = .ok (.astore_n 1, 1) := by decide +kernel
theorem d_Ro_oldestDead_2 : decode b_Ro_oldestDead 2 = .ok (.iconst 0, 1) := by decide +kernel
theorem d_Ro_oldestDead_3 : decode b_Ro_oldestDead 3 = .ok (.istore_n 2, 1) := by decide +kernel
theorem d_Ro_oldestDead_4 : decode b_Ro_oldestDead 4 = .ok (.iload_n 2, 1) := by decide +kernel
theorem d_Ro_oldestDead_5 : decode b_Ro_oldestDead 5 = .ok (.aload_n 0, 1) := by decide +kernel
theorem d_Ro_oldestDead_6 : decode b_Ro_oldestDead 6 = .ok (.getfield 20, 3) := by decide +kernel
theorem d_Ro_oldestDead_9 : decode b_Ro_oldestDead 9 = .ok (.if_icmp .ge 49, 3) := by decide +kernel
theorem d_Ro_oldestDead_12 : decode b_Ro_oldestDead 12 = .ok (.aload_n 0, 1) := by decide +kernel
theorem d_Ro_oldestDead_13 : decode b_Ro_oldestDead 13 = .ok (.getfield 11, 3) := by decide +kernel
theorem d_Ro_oldestDead_16 : decode b_Ro_oldestDead 16 = .ok (.iload_n 2, 1) := by decide +kernel
theorem d_Ro_oldestDead_17 : decode b_Ro_oldestDead 17 = .ok (.aaload, 1) := by decide +kernel
theorem d_Ro_oldestDead_18 : decode b_Ro_oldestDead 18 = .ok (.getfield 35, 3) := by decide +kernel
theorem d_Ro_oldestDead_21 : decode b_Ro_oldestDead 21 = .ok (.iconst 5, 1) := by decide +kernel
theorem d_Ro_oldestDead_22 : decode b_Ro_oldestDead 22 = .ok (.if_icmp .ne 30, 3) := by decide +kernel
theorem d_Ro_oldestDead_25 : decode b_Ro_oldestDead 25 = .ok (.aload_n 1, 1) := by decide +kernel
theorem d_Ro_oldestDead_26 : decode b_Ro_oldestDead 26 = .ok (.ifnull 19, 3) := by decide +kernel
theorem d_Ro_oldestDead_29 : decode b_Ro_oldestDead 29 = .ok (.aload_n 0, 1) := by decide +kernel
theorem d_Ro_oldestDead_30 : decode b_Ro_oldestDead 30 = .ok (.getfield 11, 3) := by decide +kernel
theorem d_Ro_oldestDead_33 : decode b_Ro_oldestDead 33 = .ok (.iload_n 2, 1) := by decide +kernel
theorem d_Ro_oldestDead_34 : decode b_Ro_oldestDead 34 = .ok (.aaload, 1) := by decide +kernel
theorem d_Ro_oldestDead_35 : decode b_Ro_oldestDead 35 = .ok (.getfield 38, 3) := by decide +kernel
theorem d_Ro_oldestDead_38 : decode b_Ro_oldestDead 38 = .ok (.aload_n 1, 1) := by decide +kernel
theorem d_Ro_oldestDead_39 : decode b_Ro_oldestDead 39 = .ok (.getfield 38, 3) := by decide +kernel
theorem d_Ro_oldestDead_42 : decode b_Ro_oldestDead 42 = .ok (.if_icmp .ge 10, 3) := by decide +kernel
theorem d_Ro_oldestDead_45 : decode b_Ro_oldestDead 45 = .ok (.aload_n 0, 1) := by decide +kernel
theorem d_Ro_oldestDead_46 : decode b_Ro_oldestDead 46 = .ok (.getfield 11, 3) := by decide +kernel
theorem d_Ro_oldestDead_49 : decode b_Ro_oldestDead 49 = .ok (.iload_n 2, 1) := by decide +kernel
theorem d_Ro_oldestDead_50 : decode b_Ro_oldestDead 50 = .ok (.aaload, 1) := by decide +kernel
theorem d_Ro_oldestDead_51 : decode b_Ro_oldestDead 51 = .ok (.astore_n 1, 1) := by decide +kernel
theorem d_Ro_oldestDead_52 : decode b_Ro_oldestDead 52 = .ok (.iinc 2 1, 3) := by decide +kernel
theorem d_Ro_oldestDead_55 : decode b_Ro_oldestDead 55 = .ok (.goto (-51), 3) := by decide +kernel
theorem d_Ro_oldestDead_58 : decode b_Ro_oldestDead 58 = .ok (.aload_n 1, 1) := by decide +kernel
theorem d_Ro_oldestDead_59 : decode b_Ro_oldestDead 59 = .ok (.areturn, 1) := by decide +kernel
def fn_Ro_copyFrom_L18 (N : Nat) (u0 : Nat) (u1 : Nat) : Nat → Int32 → gx_M → Option gx_M
  | 0, _, _ => none
  | n + 1, v2, σ => if (σ u0 1) ≤ v2 then (some σ) else (if 0 ≤ v2 ∧ v2 < 40 then (if 0 ≤ v2 ∧ v2 < 40 then (gx_bv (fn_Jb_copyFrom N (gx_el (u0 + 17) v2.toNatClampNeg) (gx_el (u1 + 17) v2.toNatClampNeg) σ) (fun σ_6 => fn_Ro_copyFrom_L18 N u0 u1 n (v2 + 1) σ_6)) else none) else none)
def fn_Ro_copyFrom (N : Nat) (o0 : Nat) (q0 : Nat) (σ : gx_M) : Option gx_M := if 8 ≤ o0 ∧ o0 < 25 then (if 8 ≤ q0 ∧ q0 < 25 then (gx_lt (gx_up σ o0 1 (σ q0 1)) (fun σ_1 => gx_lt (gx_up σ_1 o0 2 (σ_1 q0 2)) (fun σ_2 => fn_Ro_copyFrom_L18 N o0 q0 N ((0 : Int32)) σ_2))) else none) else none
set_option maxHeartbeats 4000000 in
set_option maxRecDepth 100000 in
theorem wl_Ro_copyFrom_L18 {p : Program} {l : Launch} {e : Env} {s : State} {m : MethodId} {args : Array Value} {below : List Frame} {meth : Method} {c : Code} {D : va_G} {dA : Nat → ClassId} {adr : Nat → Nat} {A : Nat → Prop} (G : gx_G p m c b_Ro_copyFrom 3 s args gx_tb R_Ro D dA) (hr : meth.sig.returnType = none) (hlocks : meth.locks = false) (hA : gx_A A adr) (N : Nat) (res : gx_M) (u0 : Nat) (u1 : Nat) (hu0 : 8 ≤ u0 ∧ u0 < 25) (hu1 : 8 ≤ u1 ∧ u1 < 25) : ∀ (n : Nat) (v2 : Int32) (σ : gx_M) (H : Heap) (locs : List Loc) (ls : Array Slot), fn_Ro_copyFrom_L18 N u0 u1 n v2 σ = some res → gx_I D dA adr A s.heap σ H locs → lv_has ls 3 [(2, .int v2), (0, .ref (adr u0)), (1, .ref (adr u1))] → W p l e (headSpec w_Ro_copyFrom rm_Ro_copyFrom).room s m args below meth c H locs 0 0 (MQ below (gx_Q D dA adr A none res) args s 0 0 A) (F0 m 18 ls []) := by
  obtain ⟨⟨hx, hb, hml, hown, ht⟩, hK⟩ := id G
  intro n
  induction n with
  | zero =>
    intro v2 σ H locs ls hf
    cases hf
  | succ n ih =>
    intro v2 σ H locs ls hf hI hl
    rw [fn_Ro_copyFrom_L18] at hf
    refine lv_iload_n hx hb d_Ro_copyFrom_18 rfl (lv_at hl 0 rfl) ?_
    refine lv_aload_n hx hb d_Ro_copyFrom_19 rfl (lv_at hl 1 rfl) ?_
    refine gx_getI G hI cl_Ro (gx_ci_r hu0) 1 (by decide) (gx_rf_r hu0 (by decide)) fl_Ro_20 d_Ro_copyFrom_20 ?_
    refine lv_icmp_ge (tgt := 47) hx hb d_Ro_copyFrom_23 (by decide) (fun c_3 => ?_) (fun c_3 => ?_)
    · replace hf := (if_pos c_3).symm.trans hf
      cases hf
      exact W.vret hx hb hr (gx_F hI) hI.2.2.2 d_Ro_copyFrom_47
    · replace hf := (if_neg c_3).symm.trans hf
      refine lv_aload_n hx hb d_Ro_copyFrom_26 rfl (lv_at hl 1 rfl) ?_
      refine gx_getR (o' := u0 + 17) G hI cl_Ro (gx_ci_r hu0) 0 (by decide) (gx_rf_r0 hu0) fl_Ro_11 d_Ro_copyFrom_27 ?_
      refine lv_iload_n hx hb d_Ro_copyFrom_30 rfl (lv_at hl 0 rfl) ?_
      obtain ⟨hi_4, hf⟩ := gx_gd hf
      refine gx_aldJ G hI hu0 hi_4 d_Ro_copyFrom_31 ?_
      refine lv_aload_n hx hb d_Ro_copyFrom_32 rfl (lv_at hl 2 rfl) ?_
      refine gx_getR (o' := u1 + 17) G hI cl_Ro (gx_ci_r hu1) 0 (by decide) (gx_rf_r0 hu1) fl_Ro_11 d_Ro_copyFrom_33 ?_
      refine lv_iload_n hx hb d_Ro_copyFrom_36 rfl (lv_at hl 0 rfl) ?_
      obtain ⟨hi_5, hf⟩ := gx_gd hf
      refine gx_aldJ G hI hu1 hi_5 d_Ro_copyFrom_37 ?_
      obtain ⟨σ_6, hc_7, hf⟩ := gx_bve hf
      refine gx_go (va_runV (As := [.ref (adr (gx_el (u1 + 17) v2.toNatClampNeg))]) (rest := []) G.1 (ct_Jb_copyFrom l D dA adr A hA N (gx_el (u0 + 17) v2.toNatClampNeg) (gx_el (u1 + 17) v2.toNatClampNeg) σ σ_6 hc_7) (cwV 1 ht gi_Ro_27 rfl rfl rfl (by decide +kernel) ⟨Nat.le_of_ble_eq_true rfl, Nat.le_of_ble_eq_true rfl⟩) (gx_preV G hI cl_Jb (gx_ci_j (gx_el_j hu0 hi_4))) rfl rfl hl.1 rfl (lv_room (Nat.le_of_ble_eq_true rfl)) d_Ro_copyFrom_38 ⟨Nat.zero_le _, Nat.zero_le _⟩) hI (st1 := []) rfl (fun H locs hI => ?_)
      refine lv_iinc (v := v2 + 1) (lv' := [(2, .int (v2 + 1)), (0, .ref (adr u0)), (1, .ref (adr u1))]) hx hb d_Ro_copyFrom_41 hl (k := 0) rfl rfl (by decide) rfl (fun ls hl => ?_)
      refine lv_goto (tgt := 18) hx hb d_Ro_copyFrom_44 (by decide) ?_
      exact ih (v2 + 1) σ_6 H locs ls hf hI (lv_sub hl [0, 1, 2] rfl)
set_option maxHeartbeats 4000000 in
set_option maxRecDepth 100000 in
theorem ct_Ro_copyFrom (l : Launch) (D : va_G) (dA : Nat → ClassId) (adr : Nat → Nat) (A : Nat → Prop) (hA : gx_A A adr) (N : Nat) (o0 : Nat) (q0 : Nat) (σ : gx_M) (σ' : gx_M) (hf : fn_Ro_copyFrom N o0 q0 σ = some σ') : Met l y_Ro_copyFrom w_Ro_copyFrom rm_Ro_copyFrom (gx_Pc D dA adr σ [.ref (adr o0), .ref (adr q0)]) (gx_Q D dA adr A none σ') 0 0 A := by
  refine Met.ofW (cc := b_Ro_copyFrom) (maxL := 3) (ret := none) (by decide) rfl ?_
  intro p e s m args below meth c s₁ B hml hv
  obtain ⟨rfl, hP, hK⟩ := hv
  have hx := B.exec
  have hb := B.bytes
  have hr := B.returns
  have hlocks := B.notSynchronized
  have ht : ∀ w ∈ gx_tb, w.before _ s = true := fun w h => atoms_spec (ws := w_Ro_copyFrom) B.pre w (List.mem_cons_of_mem _ h)
  have hown : s.vm.findClass R_Ro = some m.cls := findClass_of_methodNamed B.named
  have G : gx_G p m c b_Ro_copyFrom 3 s _ gx_tb R_Ro D dA := ⟨⟨hx, hb, hml, hown, ht⟩, hK⟩
  have hI : gx_I D dA adr A s.heap σ s.heap [] := ⟨hP, va_S.rf⟩
  have hl := lv_entry ([.ref (adr o0), .ref (adr q0)]) (n := 3) (Nat.le_of_ble_eq_true rfl)
  rw [lg_entry_eq]
  generalize (lg_sl ([.ref (adr o0), .ref (adr q0)]) ++ List.replicate (3 - (lg_sl ([.ref (adr o0), .ref (adr q0)])).length) Slot.unset).toArray = ls at hl ⊢
  have hl : lv_has ls 3 [(0, .ref (adr o0)), (1, .ref (adr q0))] := hl
  rw [fn_Ro_copyFrom] at hf
  obtain ⟨ho0, hf⟩ := gx_gd hf
  obtain ⟨hq0, hf⟩ := gx_gd hf
  refine lv_aload_n hx hb d_Ro_copyFrom_0 rfl (lv_at hl 0 rfl) ?_
  refine lv_aload_n hx hb d_Ro_copyFrom_1 rfl (lv_at hl 1 rfl) ?_
  refine gx_getI G hI cl_Ro (gx_ci_r hq0) 1 (by decide) (gx_rf_r hq0 (by decide)) fl_Ro_20 d_Ro_copyFrom_2 ?_
  obtain ⟨σ_1, eσ_1, hf⟩ := gx_lte hf
  refine gx_put G hI hA cl_Ro (gx_ci_r ho0) 1 (by decide) (gx_rf_r ho0 (by decide)) fl_Ro_20 rfl rfl rfl eσ_1 d_Ro_copyFrom_5 (fun H locs hI => ?_)
  refine lv_aload_n hx hb d_Ro_copyFrom_8 rfl (lv_at hl 0 rfl) ?_
  refine lv_aload_n hx hb d_Ro_copyFrom_9 rfl (lv_at hl 1 rfl) ?_
  refine gx_getI G hI cl_Ro (gx_ci_r hq0) 2 (by decide) (gx_rf_r hq0 (by decide)) fl_Ro_24 d_Ro_copyFrom_10 ?_
  obtain ⟨σ_2, eσ_2, hf⟩ := gx_lte hf
  refine gx_put G hI hA cl_Ro (gx_ci_r ho0) 2 (by decide) (gx_rf_r ho0 (by decide)) fl_Ro_24 rfl rfl rfl eσ_2 d_Ro_copyFrom_13 (fun H locs hI => ?_)
  refine lv_iconst (v := 0) hx hb d_Ro_copyFrom_16 (by decide) ?_
  refine lv_istore_n (i := 2) (lv' := [(2, .int ((0 : Int32))), (0, .ref (adr o0)), (1, .ref (adr q0))]) hx hb d_Ro_copyFrom_17 rfl hl (by decide) rfl (fun ls hl => ?_)
  exact wl_Ro_copyFrom_L18 G hr hlocks hA N _ o0 q0 ho0 hq0 N ((0 : Int32)) σ_2 _ _ ls hf hI (lv_sub hl [0, 1, 2] rfl)
def fn_Ro_find (N : Nat) (o0 : Nat) (p0 : Int32) (σ : gx_M) : Option (Option Nat × gx_M) := if 8 ≤ o0 ∧ o0 < 25 then (if p0 < 0 then (some (none, σ)) else (if (σ o0 1) ≤ p0 then (some (none, σ)) else (if 0 ≤ p0 ∧ p0 < 40 then (some (some (gx_el (o0 + 17) p0.toNatClampNeg), σ)) else none))) else none
set_option maxHeartbeats 4000000 in
set_option maxRecDepth 100000 in
theorem ct_Ro_find (l : Launch) (D : va_G) (dA : Nat → ClassId) (adr : Nat → Nat) (A : Nat → Prop) (hA : gx_A A adr) (N : Nat) (o0 : Nat) (p0 : Int32) (σ : gx_M) (r : Option Nat) (σ' : gx_M) (hf : fn_Ro_find N o0 p0 σ = some (r, σ')) : Met l y_Ro_find w_Ro_find rm_Ro_find (gx_Pc D dA adr σ [.ref (adr o0), .int p0]) (gx_Q D dA adr A (some (va_rf (Option.map adr r))) σ') 0 0 A := by
  refine Met.ofW (cc := b_Ro_find) (maxL := 2) (ret := some (.object R_Jb)) (by decide) rfl ?_
  intro p e s m args below meth c s₁ B hml hv
  obtain ⟨rfl, hP, hK⟩ := hv
  have hx := B.exec
  have hb := B.bytes
  have hr := B.returns
  have hlocks := B.notSynchronized
  have ht : ∀ w ∈ gx_tb, w.before _ s = true := fun w h => atoms_spec (ws := w_Ro_find) B.pre w (List.mem_cons_of_mem _ h)
  have hown : s.vm.findClass R_Ro = some m.cls := findClass_of_methodNamed B.named
  have G : gx_G p m c b_Ro_find 2 s _ gx_tb R_Ro D dA := ⟨⟨hx, hb, hml, hown, ht⟩, hK⟩
  have hI : gx_I D dA adr A s.heap σ s.heap [] := ⟨hP, va_S.rf⟩
  have hl := lv_entry ([.ref (adr o0), .int p0]) (n := 2) (Nat.le_of_ble_eq_true rfl)
  rw [lg_entry_eq]
  generalize (lg_sl ([.ref (adr o0), .int p0]) ++ List.replicate (2 - (lg_sl ([.ref (adr o0), .int p0])).length) Slot.unset).toArray = ls at hl ⊢
  have hl : lv_has ls 2 [(0, .ref (adr o0)), (1, .int p0)] := hl
  rw [fn_Ro_find] at hf
  obtain ⟨ho0, hf⟩ := gx_gd hf
  refine lv_iload_n hx hb d_Ro_find_0 rfl (lv_at hl 1 rfl) ?_
  refine lv_if_lt (tgt := 21) hx hb d_Ro_find_1 (by decide) (fun c_1 => ?_) (fun c_1 => ?_)
  · replace hf := (if_pos c_1).symm.trans hf
    refine lv_null hx hb d_Ro_find_21 ?_
    cases hf
    exact W.aret (v := .null) hx hb hr (Or.inl ⟨_, rfl⟩) (Or.inl rfl) (gx_F hI) hI.2.2.2 d_Ro_find_22
  · replace hf := (if_neg c_1).symm.trans hf
    refine lv_iload_n hx hb d_Ro_find_4 rfl (lv_at hl 1 rfl) ?_
    refine lv_aload_n hx hb d_Ro_find_5 rfl (lv_at hl 0 rfl) ?_
    refine gx_getI G hI cl_Ro (gx_ci_r ho0) 1 (by decide) (gx_rf_r ho0 (by decide)) fl_Ro_20 d_Ro_find_6 ?_
    refine lv_icmp_ge (tgt := 21) hx hb d_Ro_find_9 (by decide) (fun c_2 => ?_) (fun c_2 => ?_)
    · replace hf := (if_pos c_2).symm.trans hf
      refine lv_null hx hb d_Ro_find_21 ?_
      cases hf
      exact W.aret (v := .null) hx hb hr (Or.inl ⟨_, rfl⟩) (Or.inl rfl) (gx_F hI) hI.2.2.2 d_Ro_find_22
    · replace hf := (if_neg c_2).symm.trans hf
      refine lv_aload_n hx hb d_Ro_find_12 rfl (lv_at hl 0 rfl) ?_
      refine gx_getR (o' := o0 + 17) G hI cl_Ro (gx_ci_r ho0) 0 (by decide) (gx_rf_r0 ho0) fl_Ro_11 d_Ro_find_13 ?_
      refine lv_iload_n hx hb d_Ro_find_16 rfl (lv_at hl 1 rfl) ?_
      obtain ⟨hi_3, hf⟩ := gx_gd hf
      refine gx_aldJ G hI ho0 hi_3 d_Ro_find_17 ?_
      refine lv_goto (tgt := 22) hx hb d_Ro_find_18 (by decide) ?_
      cases hf
      exact W.aret hx hb hr (Or.inl ⟨_, rfl⟩) (Or.inr ⟨_, rfl⟩) (gx_F hI) hI.2.2.2 d_Ro_find_22
def fn_Ro_make (N : Nat) (o0 : Nat) (p0 : Int32) (p1 : Int32) (σ : gx_M) : Option (Option Nat × gx_M) := if 8 ≤ o0 ∧ o0 < 25 then (if (σ o0 1) < ((40 : Int32)) then (if 0 ≤ (σ o0 1) ∧ (σ o0 1) < 40 then (gx_lt (gx_up σ o0 1 ((σ o0 1) + ((1 : Int32)))) (fun σ_3 => gx_bv (fn_Jb_begin N (gx_el (o0 + 17) (σ o0 1).toNatClampNeg) p0 p1 σ_3) (fun σ_4 => some (some (gx_el (o0 + 17) (σ o0 1).toNatClampNeg), σ_4)))) else none) else (some (none, σ))) else none
set_option maxHeartbeats 4000000 in
set_option maxRecDepth 100000 in
theorem ct_Ro_make (l : Launch) (D : va_G) (dA : Nat → ClassId) (adr : Nat → Nat) (A : Nat → Prop) (hA : gx_A A adr) (N : Nat) (o0 : Nat) (p0 : Int32) (p1 : Int32) (σ : gx_M) (r : Option Nat) (σ' : gx_M) (hf : fn_Ro_make N o0 p0 p1 σ = some (r, σ')) : Met l y_Ro_make w_Ro_make rm_Ro_make (gx_Pc D dA adr σ [.ref (adr o0), .int p0, .int p1]) (gx_Q D dA adr A (some (va_rf (Option.map adr r))) σ') 0 0 A := by
  refine Met.ofW (cc := b_Ro_make) (maxL := 4) (ret := some (.object R_Jb)) (by decide) rfl ?_
  intro p e s m args below meth c s₁ B hml hv
  obtain ⟨rfl, hP, hK⟩ := hv
  have hx := B.exec
  have hb := B.bytes
  have hr := B.returns
  have hlocks := B.notSynchronized
  have ht : ∀ w ∈ gx_tb, w.before _ s = true := fun w h => atoms_spec (ws := w_Ro_make) B.pre w (List.mem_cons_of_mem _ h)
  have hown : s.vm.findClass R_Ro = some m.cls := findClass_of_methodNamed B.named
  have G : gx_G p m c b_Ro_make 4 s _ gx_tb R_Ro D dA := ⟨⟨hx, hb, hml, hown, ht⟩, hK⟩
  have hI : gx_I D dA adr A s.heap σ s.heap [] := ⟨hP, va_S.rf⟩
  have hl := lv_entry ([.ref (adr o0), .int p0, .int p1]) (n := 4) (Nat.le_of_ble_eq_true rfl)
  rw [lg_entry_eq]
  generalize (lg_sl ([.ref (adr o0), .int p0, .int p1]) ++ List.replicate (4 - (lg_sl ([.ref (adr o0), .int p0, .int p1])).length) Slot.unset).toArray = ls at hl ⊢
  have hl : lv_has ls 4 [(0, .ref (adr o0)), (1, .int p0), (2, .int p1)] := hl
  rw [fn_Ro_make] at hf
  obtain ⟨ho0, hf⟩ := gx_gd hf
  refine lv_aload_n hx hb d_Ro_make_0 rfl (lv_at hl 0 rfl) ?_
  refine gx_getI G hI cl_Ro (gx_ci_r ho0) 1 (by decide) (gx_rf_r ho0 (by decide)) fl_Ro_20 d_Ro_make_1 ?_
  refine lv_bipush (v := 40) hx hb d_Ro_make_4 (by decide) ?_
  refine lv_icmp_lt (tgt := 11) hx hb d_Ro_make_6 (by decide) (fun c_1 => ?_) (fun c_1 => ?_)
  · replace hf := (if_pos c_1).symm.trans hf
    refine lv_aload_n hx hb d_Ro_make_11 rfl (lv_at hl 0 rfl) ?_
    refine gx_getR (o' := o0 + 17) G hI cl_Ro (gx_ci_r ho0) 0 (by decide) (gx_rf_r0 ho0) fl_Ro_11 d_Ro_make_12 ?_
    refine lv_aload_n hx hb d_Ro_make_15 rfl (lv_at hl 0 rfl) ?_
    refine gx_getI G hI cl_Ro (gx_ci_r ho0) 1 (by decide) (gx_rf_r ho0 (by decide)) fl_Ro_20 d_Ro_make_16 ?_
    obtain ⟨hi_2, hf⟩ := gx_gd hf
    refine gx_aldJ G hI ho0 hi_2 d_Ro_make_19 ?_
    refine lv_astore_n (i := 3) (lv' := [(3, .ref (adr (gx_el (o0 + 17) (σ o0 1).toNatClampNeg))), (0, .ref (adr o0)), (1, .int p0), (2, .int p1)]) hx hb d_Ro_make_20 rfl hl (by decide) rfl (fun ls hl => ?_)
    refine lv_aload_n hx hb d_Ro_make_21 rfl (lv_at hl 1 rfl) ?_
    refine lv_dup hx hb d_Ro_make_22 rfl ?_
    refine gx_getI G hI cl_Ro (gx_ci_r ho0) 1 (by decide) (gx_rf_r ho0 (by decide)) fl_Ro_20 d_Ro_make_23 ?_
    refine lv_iconst (v := 1) hx hb d_Ro_make_26 (by decide) ?_
    refine lv_iadd hx hb d_Ro_make_27 ?_
    obtain ⟨σ_3, eσ_3, hf⟩ := gx_lte hf
    refine gx_put G hI hA cl_Ro (gx_ci_r ho0) 1 (by decide) (gx_rf_r ho0 (by decide)) fl_Ro_20 rfl rfl rfl eσ_3 d_Ro_make_28 (fun H locs hI => ?_)
    refine lv_aload_n hx hb d_Ro_make_31 rfl (lv_at hl 0 rfl) ?_
    refine lv_iload_n hx hb d_Ro_make_32 rfl (lv_at hl 2 rfl) ?_
    refine lv_iload_n hx hb d_Ro_make_33 rfl (lv_at hl 3 rfl) ?_
    obtain ⟨σ_4, hc_5, hf⟩ := gx_bve hf
    refine gx_go (va_runV (As := [.int p0, .int p1]) (rest := []) G.1 (ct_Jb_begin l D dA adr A hA N (gx_el (o0 + 17) (σ o0 1).toNatClampNeg) p0 p1 σ_3 σ_4 hc_5) (cwV 2 ht gi_Ro_31 rfl rfl rfl (by decide +kernel) ⟨Nat.le_of_ble_eq_true rfl, Nat.le_of_ble_eq_true rfl⟩) (gx_preV G hI cl_Jb (gx_ci_j (gx_el_j ho0 hi_2))) rfl rfl hl.1 rfl (lv_room (Nat.le_of_ble_eq_true rfl)) d_Ro_make_34 ⟨Nat.zero_le _, Nat.zero_le _⟩) hI (st1 := []) rfl (fun H locs hI => ?_)
    refine lv_aload_n hx hb d_Ro_make_37 rfl (lv_at hl 0 rfl) ?_
    cases hf
    exact W.aret hx hb hr (Or.inl ⟨_, rfl⟩) (Or.inr ⟨_, rfl⟩) (gx_F hI) hI.2.2.2 d_Ro_make_38
  · replace hf := (if_neg c_1).symm.trans hf
    refine lv_null hx hb d_Ro_make_9 ?_
    cases hf
    exact W.aret (v := .null) hx hb hr (Or.inl ⟨_, rfl⟩) (Or.inl rfl) (gx_F hI) hI.2.2.2 d_Ro_make_10
def fn_Ro_enter (N : Nat) (o0 : Nat) (q0 : Nat) (p1 : Int32) (σ : gx_M) : Option gx_M := if 8 ≤ o0 ∧ o0 < 25 then (if 42 ≤ q0 ∧ q0 < 722 then (gx_lt (gx_up σ q0 10 p1) (fun σ_1 => gx_lt (gx_up σ_1 q0 13 (σ_1 o0 2)) (fun σ_2 => gx_lt (gx_up σ_2 o0 2 ((σ_2 o0 2) + ((1 : Int32)))) (fun σ_3 => some σ_3)))) else none) else none
set_option maxHeartbeats 4000000 in
set_option maxRecDepth 100000 in
theorem ct_Ro_enter (l : Launch) (D : va_G) (dA : Nat → ClassId) (adr : Nat → Nat) (A : Nat → Prop) (hA : gx_A A adr) (N : Nat) (o0 : Nat) (q0 : Nat) (p1 : Int32) (σ : gx_M) (σ' : gx_M) (hf : fn_Ro_enter N o0 q0 p1 σ = some σ') : Met l y_Ro_enter w_Ro_enter rm_Ro_enter (gx_Pc D dA adr σ [.ref (adr o0), .ref (adr q0), .int p1]) (gx_Q D dA adr A none σ') 0 0 A := by
  refine Met.ofW (cc := b_Ro_enter) (maxL := 3) (ret := none) (by decide) rfl ?_
  intro p e s m args below meth c s₁ B hml hv
  obtain ⟨rfl, hP, hK⟩ := hv
  have hx := B.exec
  have hb := B.bytes
  have hr := B.returns
  have hlocks := B.notSynchronized
  have ht : ∀ w ∈ gx_tb, w.before _ s = true := fun w h => atoms_spec (ws := w_Ro_enter) B.pre w (List.mem_cons_of_mem _ h)
  have hown : s.vm.findClass R_Ro = some m.cls := findClass_of_methodNamed B.named
  have G : gx_G p m c b_Ro_enter 3 s _ gx_tb R_Ro D dA := ⟨⟨hx, hb, hml, hown, ht⟩, hK⟩
  have hI : gx_I D dA adr A s.heap σ s.heap [] := ⟨hP, va_S.rf⟩
  have hl := lv_entry ([.ref (adr o0), .ref (adr q0), .int p1]) (n := 3) (Nat.le_of_ble_eq_true rfl)
  rw [lg_entry_eq]
  generalize (lg_sl ([.ref (adr o0), .ref (adr q0), .int p1]) ++ List.replicate (3 - (lg_sl ([.ref (adr o0), .ref (adr q0), .int p1])).length) Slot.unset).toArray = ls at hl ⊢
  have hl : lv_has ls 3 [(0, .ref (adr o0)), (1, .ref (adr q0)), (2, .int p1)] := hl
  rw [fn_Ro_enter] at hf
  obtain ⟨ho0, hf⟩ := gx_gd hf
  obtain ⟨hq0, hf⟩ := gx_gd hf
  refine lv_aload_n hx hb d_Ro_enter_0 rfl (lv_at hl 1 rfl) ?_
  refine lv_iload_n hx hb d_Ro_enter_1 rfl (lv_at hl 2 rfl) ?_
  obtain ⟨σ_1, eσ_1, hf⟩ := gx_lte hf
  refine gx_put G hI hA cl_Jb (gx_ci_j hq0) 10 (by decide) (gx_rf_j hq0 10) fl_Ro_35 rfl rfl rfl eσ_1 d_Ro_enter_2 (fun H locs hI => ?_)
  refine lv_aload_n hx hb d_Ro_enter_5 rfl (lv_at hl 1 rfl) ?_
  refine lv_aload_n hx hb d_Ro_enter_6 rfl (lv_at hl 0 rfl) ?_
  refine gx_getI G hI cl_Ro (gx_ci_r ho0) 2 (by decide) (gx_rf_r ho0 (by decide)) fl_Ro_24 d_Ro_enter_7 ?_
  obtain ⟨σ_2, eσ_2, hf⟩ := gx_lte hf
  refine gx_put G hI hA cl_Jb (gx_ci_j hq0) 13 (by decide) (gx_rf_j hq0 13) fl_Ro_38 rfl rfl rfl eσ_2 d_Ro_enter_10 (fun H locs hI => ?_)
  refine lv_aload_n hx hb d_Ro_enter_13 rfl (lv_at hl 0 rfl) ?_
  refine lv_dup hx hb d_Ro_enter_14 rfl ?_
  refine gx_getI G hI cl_Ro (gx_ci_r ho0) 2 (by decide) (gx_rf_r ho0 (by decide)) fl_Ro_24 d_Ro_enter_15 ?_
  refine lv_iconst (v := 1) hx hb d_Ro_enter_18 (by decide) ?_
  refine lv_iadd hx hb d_Ro_enter_19 ?_
  obtain ⟨σ_3, eσ_3, hf⟩ := gx_lte hf
  refine gx_put G hI hA cl_Ro (gx_ci_r ho0) 2 (by decide) (gx_rf_r ho0 (by decide)) fl_Ro_24 rfl rfl rfl eσ_3 d_Ro_enter_20 (fun H locs hI => ?_)
  cases hf
  exact W.vret hx hb hr (gx_F hI) hI.2.2.2 d_Ro_enter_23
def fn_Ro_releaseIfComplete (N : Nat) (o0 : Nat) (q0 : Nat) (σ : gx_M) : Option gx_M := if 8 ≤ o0 ∧ o0 < 25 then (if 42 ≤ q0 ∧ q0 < 722 then (if (σ q0 10) = ((6 : Int32)) then (if (σ q0 9) = 0 then (some σ) else (if (σ q0 8) = 0 then (gx_bv (fn_Ro_enter N o0 q0 ((1 : Int32)) σ) (fun σ_4 => some σ_4)) else (some σ))) else (some σ)) else none) else none
set_option maxHeartbeats 4000000 in
set_option maxRecDepth 100000 in
theorem ct_Ro_releaseIfComplete (l : Launch) (D : va_G) (dA : Nat → ClassId) (adr : Nat → Nat) (A : Nat → Prop) (hA : gx_A A adr) (N : Nat) (o0 : Nat) (q0 : Nat) (σ : gx_M) (σ' : gx_M) (hf : fn_Ro_releaseIfComplete N o0 q0 σ = some σ') : Met l y_Ro_releaseIfComplete w_Ro_releaseIfComplete rm_Ro_releaseIfComplete (gx_Pc D dA adr σ [.ref (adr o0), .ref (adr q0)]) (gx_Q D dA adr A none σ') 0 0 A := by
  refine Met.ofW (cc := b_Ro_releaseIfComplete) (maxL := 2) (ret := none) (by decide) rfl ?_
  intro p e s m args below meth c s₁ B hml hv
  obtain ⟨rfl, hP, hK⟩ := hv
  have hx := B.exec
  have hb := B.bytes
  have hr := B.returns
  have hlocks := B.notSynchronized
  have ht : ∀ w ∈ gx_tb, w.before _ s = true := fun w h => atoms_spec (ws := w_Ro_releaseIfComplete) B.pre w (List.mem_cons_of_mem _ h)
  have hown : s.vm.findClass R_Ro = some m.cls := findClass_of_methodNamed B.named
  have G : gx_G p m c b_Ro_releaseIfComplete 2 s _ gx_tb R_Ro D dA := ⟨⟨hx, hb, hml, hown, ht⟩, hK⟩
  have hI : gx_I D dA adr A s.heap σ s.heap [] := ⟨hP, va_S.rf⟩
  have hl := lv_entry ([.ref (adr o0), .ref (adr q0)]) (n := 2) (Nat.le_of_ble_eq_true rfl)
  rw [lg_entry_eq]
  generalize (lg_sl ([.ref (adr o0), .ref (adr q0)]) ++ List.replicate (2 - (lg_sl ([.ref (adr o0), .ref (adr q0)])).length) Slot.unset).toArray = ls at hl ⊢
  have hl : lv_has ls 2 [(0, .ref (adr o0)), (1, .ref (adr q0))] := hl
  rw [fn_Ro_releaseIfComplete] at hf
  obtain ⟨ho0, hf⟩ := gx_gd hf
  obtain ⟨hq0, hf⟩ := gx_gd hf
  refine lv_aload_n hx hb d_Ro_releaseIfComplete_0 rfl (lv_at hl 1 rfl) ?_
  refine gx_getI G hI cl_Jb (gx_ci_j hq0) 10 (by decide) (gx_rf_j hq0 10) fl_Ro_35 d_Ro_releaseIfComplete_1 ?_
  refine lv_bipush (v := 6) hx hb d_Ro_releaseIfComplete_4 (by decide) ?_
  refine lv_icmp_ne (tgt := 29) hx hb d_Ro_releaseIfComplete_6 (by decide) (fun c_1 => ?_) (fun c_1 => ?_)
  · replace hf := (if_neg c_1).symm.trans hf
    cases hf
    exact W.vret hx hb hr (gx_F hI) hI.2.2.2 d_Ro_releaseIfComplete_29
  · replace hf := (if_pos c_1).symm.trans hf
    refine lv_aload_n hx hb d_Ro_releaseIfComplete_9 rfl (lv_at hl 1 rfl) ?_
    refine gx_getI G hI cl_Jb (gx_ci_j hq0) 9 (by decide) (gx_rf_j hq0 9) fl_Ro_41 d_Ro_releaseIfComplete_10 ?_
    refine lv_if_eq (tgt := 29) hx hb d_Ro_releaseIfComplete_13 (by decide) (fun c_2 => ?_) (fun c_2 => ?_)
    · replace hf := (if_pos c_2).symm.trans hf
      cases hf
      exact W.vret hx hb hr (gx_F hI) hI.2.2.2 d_Ro_releaseIfComplete_29
    · replace hf := (if_neg c_2).symm.trans hf
      refine lv_aload_n hx hb d_Ro_releaseIfComplete_16 rfl (lv_at hl 1 rfl) ?_
      refine gx_getI G hI cl_Jb (gx_ci_j hq0) 8 (by decide) (gx_rf_j hq0 8) fl_Ro_45 d_Ro_releaseIfComplete_17 ?_
      refine lv_if_ne (tgt := 29) hx hb d_Ro_releaseIfComplete_20 (by decide) (fun c_3 => ?_) (fun c_3 => ?_)
      · replace hf := (if_neg c_3).symm.trans hf
        cases hf
        exact W.vret hx hb hr (gx_F hI) hI.2.2.2 d_Ro_releaseIfComplete_29
      · replace hf := (if_pos c_3).symm.trans hf
        refine lv_aload_n hx hb d_Ro_releaseIfComplete_23 rfl (lv_at hl 0 rfl) ?_
        refine lv_aload_n hx hb d_Ro_releaseIfComplete_24 rfl (lv_at hl 1 rfl) ?_
        refine lv_iconst (v := 1) hx hb d_Ro_releaseIfComplete_25 (by decide) ?_
        obtain ⟨σ_4, hc_5, hf⟩ := gx_bve hf
        refine gx_go (va_runV (As := [.ref (adr q0), .int ((1 : Int32))]) (rest := []) G.1 (ct_Ro_enter l D dA adr A hA N o0 q0 ((1 : Int32)) σ σ_4 hc_5) (cwV 2 ht gi_Ro_48 rfl rfl rfl (by decide +kernel) ⟨Nat.le_of_ble_eq_true rfl, Nat.le_of_ble_eq_true rfl⟩) (gx_preV G hI cl_Ro (gx_ci_r ho0)) rfl rfl hl.1 rfl (lv_room (Nat.le_of_ble_eq_true rfl)) d_Ro_releaseIfComplete_26 ⟨Nat.zero_le _, Nat.zero_le _⟩) hI (st1 := []) rfl (fun H locs hI => ?_)
        cases hf
        exact W.vret hx hb hr (gx_F hI) hI.2.2.2 d_Ro_releaseIfComplete_29
def fn_Ro_releaseReserved_L2 (N : Nat) (u0 : Nat) : Nat → Int32 → gx_M → Option gx_M
  | 0, _, _ => none
  | n + 1, v1, σ => if (σ u0 1) ≤ v1 then (some σ) else (if 0 ≤ v1 ∧ v1 < 40 then (if (σ (gx_el (u0 + 17) v1.toNatClampNeg) 10) = ((2 : Int32)) then (if 0 ≤ v1 ∧ v1 < 40 then (gx_bv (fn_Ro_enter N u0 (gx_el (u0 + 17) v1.toNatClampNeg) ((1 : Int32)) σ) (fun σ_5 => fn_Ro_releaseReserved_L2 N u0 n (v1 + 1) σ_5)) else none) else (fn_Ro_releaseReserved_L2 N u0 n (v1 + 1) σ)) else none)
def fn_Ro_releaseReserved (N : Nat) (o0 : Nat) (σ : gx_M) : Option gx_M := if 8 ≤ o0 ∧ o0 < 25 then (fn_Ro_releaseReserved_L2 N o0 N ((0 : Int32)) σ) else none
set_option maxHeartbeats 4000000 in
set_option maxRecDepth 100000 in
theorem wl_Ro_releaseReserved_L2 {p : Program} {l : Launch} {e : Env} {s : State} {m : MethodId} {args : Array Value} {below : List Frame} {meth : Method} {c : Code} {D : va_G} {dA : Nat → ClassId} {adr : Nat → Nat} {A : Nat → Prop} (G : gx_G p m c b_Ro_releaseReserved 2 s args gx_tb R_Ro D dA) (hr : meth.sig.returnType = none) (hlocks : meth.locks = false) (hA : gx_A A adr) (N : Nat) (res : gx_M) (u0 : Nat) (hu0 : 8 ≤ u0 ∧ u0 < 25) : ∀ (n : Nat) (v1 : Int32) (σ : gx_M) (H : Heap) (locs : List Loc) (ls : Array Slot), fn_Ro_releaseReserved_L2 N u0 n v1 σ = some res → gx_I D dA adr A s.heap σ H locs → lv_has ls 2 [(1, .int v1), (0, .ref (adr u0))] → W p l e (headSpec w_Ro_releaseReserved rm_Ro_releaseReserved).room s m args below meth c H locs 0 0 (MQ below (gx_Q D dA adr A none res) args s 0 0 A) (F0 m 2 ls []) := by
  obtain ⟨⟨hx, hb, hml, hown, ht⟩, hK⟩ := id G
  intro n
  induction n with
  | zero =>
    intro v1 σ H locs ls hf
    cases hf
  | succ n ih =>
    intro v1 σ H locs ls hf hI hl
    rw [fn_Ro_releaseReserved_L2] at hf
    refine lv_iload_n hx hb d_Ro_releaseReserved_2 rfl (lv_at hl 0 rfl) ?_
    refine lv_aload_n hx hb d_Ro_releaseReserved_3 rfl (lv_at hl 1 rfl) ?_
    refine gx_getI G hI cl_Ro (gx_ci_r hu0) 1 (by decide) (gx_rf_r hu0 (by decide)) fl_Ro_20 d_Ro_releaseReserved_4 ?_
    refine lv_icmp_ge (tgt := 40) hx hb d_Ro_releaseReserved_7 (by decide) (fun c_1 => ?_) (fun c_1 => ?_)
    · replace hf := (if_pos c_1).symm.trans hf
      cases hf
      exact W.vret hx hb hr (gx_F hI) hI.2.2.2 d_Ro_releaseReserved_40
    · replace hf := (if_neg c_1).symm.trans hf
      refine lv_aload_n hx hb d_Ro_releaseReserved_10 rfl (lv_at hl 1 rfl) ?_
      refine gx_getR (o' := u0 + 17) G hI cl_Ro (gx_ci_r hu0) 0 (by decide) (gx_rf_r0 hu0) fl_Ro_11 d_Ro_releaseReserved_11 ?_
      refine lv_iload_n hx hb d_Ro_releaseReserved_14 rfl (lv_at hl 0 rfl) ?_
      obtain ⟨hi_2, hf⟩ := gx_gd hf
      refine gx_aldJ G hI hu0 hi_2 d_Ro_releaseReserved_15 ?_
      refine gx_getI G hI cl_Jb (gx_ci_j (gx_el_j hu0 hi_2)) 10 (by decide) (gx_rf_j (gx_el_j hu0 hi_2) 10) fl_Ro_35 d_Ro_releaseReserved_16 ?_
      refine lv_iconst (v := 2) hx hb d_Ro_releaseReserved_19 (by decide) ?_
      refine lv_icmp_ne (tgt := 34) hx hb d_Ro_releaseReserved_20 (by decide) (fun c_3 => ?_) (fun c_3 => ?_)
      · replace hf := (if_neg c_3).symm.trans hf
        refine lv_iinc (v := v1 + 1) (lv' := [(1, .int (v1 + 1)), (0, .ref (adr u0))]) hx hb d_Ro_releaseReserved_34 hl (k := 0) rfl rfl (by decide) rfl (fun ls hl => ?_)
        refine lv_goto (tgt := 2) hx hb d_Ro_releaseReserved_37 (by decide) ?_
        exact ih (v1 + 1) σ H locs ls hf hI (lv_sub hl [0, 1] rfl)
      · replace hf := (if_pos c_3).symm.trans hf
        refine lv_aload_n hx hb d_Ro_releaseReserved_23 rfl (lv_at hl 1 rfl) ?_
        refine lv_aload_n hx hb d_Ro_releaseReserved_24 rfl (lv_at hl 1 rfl) ?_
        refine gx_getR (o' := u0 + 17) G hI cl_Ro (gx_ci_r hu0) 0 (by decide) (gx_rf_r0 hu0) fl_Ro_11 d_Ro_releaseReserved_25 ?_
        refine lv_iload_n hx hb d_Ro_releaseReserved_28 rfl (lv_at hl 0 rfl) ?_
        obtain ⟨hi_4, hf⟩ := gx_gd hf
        refine gx_aldJ G hI hu0 hi_4 d_Ro_releaseReserved_29 ?_
        refine lv_iconst (v := 1) hx hb d_Ro_releaseReserved_30 (by decide) ?_
        obtain ⟨σ_5, hc_6, hf⟩ := gx_bve hf
        refine gx_go (va_runV (As := [.ref (adr (gx_el (u0 + 17) v1.toNatClampNeg)), .int ((1 : Int32))]) (rest := []) G.1 (ct_Ro_enter l D dA adr A hA N u0 (gx_el (u0 + 17) v1.toNatClampNeg) ((1 : Int32)) σ σ_5 hc_6) (cwV 2 ht gi_Ro_48 rfl rfl rfl (by decide +kernel) ⟨Nat.le_of_ble_eq_true rfl, Nat.le_of_ble_eq_true rfl⟩) (gx_preV G hI cl_Ro (gx_ci_r hu0)) rfl rfl hl.1 rfl (lv_room (Nat.le_of_ble_eq_true rfl)) d_Ro_releaseReserved_31 ⟨Nat.zero_le _, Nat.zero_le _⟩) hI (st1 := []) rfl (fun H locs hI => ?_)
        refine lv_iinc (v := v1 + 1) (lv' := [(1, .int (v1 + 1)), (0, .ref (adr u0))]) hx hb d_Ro_releaseReserved_34 hl (k := 0) rfl rfl (by decide) rfl (fun ls hl => ?_)
        refine lv_goto (tgt := 2) hx hb d_Ro_releaseReserved_37 (by decide) ?_
        exact ih (v1 + 1) σ_5 H locs ls hf hI (lv_sub hl [0, 1] rfl)
set_option maxHeartbeats 4000000 in
set_option maxRecDepth 100000 in
theorem ct_Ro_releaseReserved (l : Launch) (D : va_G) (dA : Nat → ClassId) (adr : Nat → Nat) (A : Nat → Prop) (hA : gx_A A adr) (N : Nat) (o0 : Nat) (σ : gx_M) (σ' : gx_M) (hf : fn_Ro_releaseReserved N o0 σ = some σ') : Met l y_Ro_releaseReserved w_Ro_releaseReserved rm_Ro_releaseReserved (gx_Pc D dA adr σ [.ref (adr o0)]) (gx_Q D dA adr A none σ') 0 0 A := by
  refine Met.ofW (cc := b_Ro_releaseReserved) (maxL := 2) (ret := none) (by decide) rfl ?_
  intro p e s m args below meth c s₁ B hml hv
  obtain ⟨rfl, hP, hK⟩ := hv
  have hx := B.exec
  have hb := B.bytes
  have hr := B.returns
  have hlocks := B.notSynchronized
  have ht : ∀ w ∈ gx_tb, w.before _ s = true := fun w h => atoms_spec (ws := w_Ro_releaseReserved) B.pre w (List.mem_cons_of_mem _ h)
  have hown : s.vm.findClass R_Ro = some m.cls := findClass_of_methodNamed B.named
  have G : gx_G p m c b_Ro_releaseReserved 2 s _ gx_tb R_Ro D dA := ⟨⟨hx, hb, hml, hown, ht⟩, hK⟩
  have hI : gx_I D dA adr A s.heap σ s.heap [] := ⟨hP, va_S.rf⟩
  have hl := lv_entry ([.ref (adr o0)]) (n := 2) (Nat.le_of_ble_eq_true rfl)
  rw [lg_entry_eq]
  generalize (lg_sl ([.ref (adr o0)]) ++ List.replicate (2 - (lg_sl ([.ref (adr o0)])).length) Slot.unset).toArray = ls at hl ⊢
  have hl : lv_has ls 2 [(0, .ref (adr o0))] := hl
  rw [fn_Ro_releaseReserved] at hf
  obtain ⟨ho0, hf⟩ := gx_gd hf
  refine lv_iconst (v := 0) hx hb d_Ro_releaseReserved_0 (by decide) ?_
  refine lv_istore_n (i := 1) (lv' := [(1, .int ((0 : Int32))), (0, .ref (adr o0))]) hx hb d_Ro_releaseReserved_1 rfl hl (by decide) rfl (fun ls hl => ?_)
  exact wl_Ro_releaseReserved_L2 G hr hlocks hA N _ o0 ho0 N ((0 : Int32)) σ _ _ ls hf hI (lv_sub hl [0, 1] rfl)
def fn_Ro_countIn_L4 (N : Nat) (u0 : Nat) (u1 : Int32) : Nat → Int32 → Int32 → gx_M → Option (Int32 × gx_M)
  | 0, _, _, _ => none
  | n + 1, v3, v2, σ => if (σ u0 1) ≤ v3 then (some (v2, σ)) else (if 0 ≤ v3 ∧ v3 < 40 then (if (σ (gx_el (u0 + 17) v3.toNatClampNeg) 10) = u1 then (fn_Ro_countIn_L4 N u0 u1 n (v3 + 1) (v2 + 1) σ) else (fn_Ro_countIn_L4 N u0 u1 n (v3 + 1) v2 σ)) else none)
def fn_Ro_countIn (N : Nat) (o0 : Nat) (p0 : Int32) (σ : gx_M) : Option (Int32 × gx_M) := if 8 ≤ o0 ∧ o0 < 25 then (fn_Ro_countIn_L4 N o0 p0 N ((0 : Int32)) ((0 : Int32)) σ) else none
set_option maxHeartbeats 4000000 in
set_option maxRecDepth 100000 in
theorem wl_Ro_countIn_L4 {p : Program} {l : Launch} {e : Env} {s : State} {m : MethodId} {args : Array Value} {below : List Frame} {meth : Method} {c : Code} {D : va_G} {dA : Nat → ClassId} {adr : Nat → Nat} {A : Nat → Prop} (G : gx_G p m c b_Ro_countIn 4 s args gx_tb R_Ro D dA) (hr : meth.sig.returnType = some .int) (hlocks : meth.locks = false) (hA : gx_A A adr) (N : Nat) (res : Int32 × gx_M) (u0 : Nat) (u1 : Int32) (hu0 : 8 ≤ u0 ∧ u0 < 25) : ∀ (n : Nat) (v3 : Int32) (v2 : Int32) (σ : gx_M) (H : Heap) (locs : List Loc) (ls : Array Slot), fn_Ro_countIn_L4 N u0 u1 n v3 v2 σ = some res → gx_I D dA adr A s.heap σ H locs → lv_has ls 4 [(3, .int v3), (2, .int v2), (0, .ref (adr u0)), (1, .int u1)] → W p l e (headSpec w_Ro_countIn rm_Ro_countIn).room s m args below meth c H locs 0 0 (MQ below (gx_Q D dA adr A (some (.int res.1)) res.2) args s 0 0 A) (F0 m 4 ls []) := by
  obtain ⟨⟨hx, hb, hml, hown, ht⟩, hK⟩ := id G
  intro n
  induction n with
  | zero =>
    intro v3 v2 σ H locs ls hf
    cases hf
  | succ n ih =>
    intro v3 v2 σ H locs ls hf hI hl
    rw [fn_Ro_countIn_L4] at hf
    refine lv_iload_n hx hb d_Ro_countIn_4 rfl (lv_at hl 0 rfl) ?_
    refine lv_aload_n hx hb d_Ro_countIn_5 rfl (lv_at hl 2 rfl) ?_
    refine gx_getI G hI cl_Ro (gx_ci_r hu0) 1 (by decide) (gx_rf_r hu0 (by decide)) fl_Ro_20 d_Ro_countIn_6 ?_
    refine lv_icmp_ge (tgt := 34) hx hb d_Ro_countIn_9 (by decide) (fun c_1 => ?_) (fun c_1 => ?_)
    · replace hf := (if_pos c_1).symm.trans hf
      refine lv_iload_n hx hb d_Ro_countIn_34 rfl (lv_at hl 1 rfl) ?_
      cases hf
      exact W.iret hx hb hr (gx_F hI) hI.2.2.2 d_Ro_countIn_35
    · replace hf := (if_neg c_1).symm.trans hf
      refine lv_aload_n hx hb d_Ro_countIn_12 rfl (lv_at hl 2 rfl) ?_
      refine gx_getR (o' := u0 + 17) G hI cl_Ro (gx_ci_r hu0) 0 (by decide) (gx_rf_r0 hu0) fl_Ro_11 d_Ro_countIn_13 ?_
      refine lv_iload_n hx hb d_Ro_countIn_16 rfl (lv_at hl 0 rfl) ?_
      obtain ⟨hi_2, hf⟩ := gx_gd hf
      refine gx_aldJ G hI hu0 hi_2 d_Ro_countIn_17 ?_
      refine gx_getI G hI cl_Jb (gx_ci_j (gx_el_j hu0 hi_2)) 10 (by decide) (gx_rf_j (gx_el_j hu0 hi_2) 10) fl_Ro_35 d_Ro_countIn_18 ?_
      refine lv_iload_n hx hb d_Ro_countIn_21 rfl (lv_at hl 3 rfl) ?_
      refine lv_icmp_ne (tgt := 28) hx hb d_Ro_countIn_22 (by decide) (fun c_3 => ?_) (fun c_3 => ?_)
      · replace hf := (if_neg c_3).symm.trans hf
        refine lv_iinc (v := v3 + 1) (lv' := [(3, .int (v3 + 1)), (2, .int v2), (0, .ref (adr u0)), (1, .int u1)]) hx hb d_Ro_countIn_28 hl (k := 0) rfl rfl (by decide) rfl (fun ls hl => ?_)
        refine lv_goto (tgt := 4) hx hb d_Ro_countIn_31 (by decide) ?_
        exact ih (v3 + 1) v2 σ H locs ls hf hI (lv_sub hl [0, 1, 2, 3] rfl)
      · replace hf := (if_pos c_3).symm.trans hf
        refine lv_iinc (v := v2 + 1) (lv' := [(2, .int (v2 + 1)), (3, .int v3), (0, .ref (adr u0)), (1, .int u1)]) hx hb d_Ro_countIn_25 hl (k := 1) rfl rfl (by decide) rfl (fun ls hl => ?_)
        refine lv_iinc (v := v3 + 1) (lv' := [(3, .int (v3 + 1)), (2, .int (v2 + 1)), (0, .ref (adr u0)), (1, .int u1)]) hx hb d_Ro_countIn_28 hl (k := 1) rfl rfl (by decide) rfl (fun ls hl => ?_)
        refine lv_goto (tgt := 4) hx hb d_Ro_countIn_31 (by decide) ?_
        exact ih (v3 + 1) (v2 + 1) σ H locs ls hf hI (lv_sub hl [0, 1, 2, 3] rfl)
set_option maxHeartbeats 4000000 in
set_option maxRecDepth 100000 in
theorem ct_Ro_countIn (l : Launch) (D : va_G) (dA : Nat → ClassId) (adr : Nat → Nat) (A : Nat → Prop) (hA : gx_A A adr) (N : Nat) (o0 : Nat) (p0 : Int32) (σ : gx_M) (r : Int32) (σ' : gx_M) (hf : fn_Ro_countIn N o0 p0 σ = some (r, σ')) : Met l y_Ro_countIn w_Ro_countIn rm_Ro_countIn (gx_Pc D dA adr σ [.ref (adr o0), .int p0]) (gx_Q D dA adr A (some (.int r)) σ') 0 0 A := by
  refine Met.ofW (cc := b_Ro_countIn) (maxL := 4) (ret := some .int) (by decide) rfl ?_
  intro p e s m args below meth c s₁ B hml hv
  obtain ⟨rfl, hP, hK⟩ := hv
  have hx := B.exec
  have hb := B.bytes
  have hr := B.returns
  have hlocks := B.notSynchronized
  have ht : ∀ w ∈ gx_tb, w.before _ s = true := fun w h => atoms_spec (ws := w_Ro_countIn) B.pre w (List.mem_cons_of_mem _ h)
  have hown : s.vm.findClass R_Ro = some m.cls := findClass_of_methodNamed B.named
  have G : gx_G p m c b_Ro_countIn 4 s _ gx_tb R_Ro D dA := ⟨⟨hx, hb, hml, hown, ht⟩, hK⟩
  have hI : gx_I D dA adr A s.heap σ s.heap [] := ⟨hP, va_S.rf⟩
  have hl := lv_entry ([.ref (adr o0), .int p0]) (n := 4) (Nat.le_of_ble_eq_true rfl)
  rw [lg_entry_eq]
  generalize (lg_sl ([.ref (adr o0), .int p0]) ++ List.replicate (4 - (lg_sl ([.ref (adr o0), .int p0])).length) Slot.unset).toArray = ls at hl ⊢
  have hl : lv_has ls 4 [(0, .ref (adr o0)), (1, .int p0)] := hl
  rw [fn_Ro_countIn] at hf
  obtain ⟨ho0, hf⟩ := gx_gd hf
  refine lv_iconst (v := 0) hx hb d_Ro_countIn_0 (by decide) ?_
  refine lv_istore_n (i := 2) (lv' := [(2, .int ((0 : Int32))), (0, .ref (adr o0)), (1, .int p0)]) hx hb d_Ro_countIn_1 rfl hl (by decide) rfl (fun ls hl => ?_)
  refine lv_iconst (v := 0) hx hb d_Ro_countIn_2 (by decide) ?_
  refine lv_istore_n (i := 3) (lv' := [(3, .int ((0 : Int32))), (2, .int ((0 : Int32))), (0, .ref (adr o0)), (1, .int p0)]) hx hb d_Ro_countIn_3 rfl hl (by decide) rfl (fun ls hl => ?_)
  exact wl_Ro_countIn_L4 G hr hlocks hA N _ o0 p0 ho0 N ((0 : Int32)) ((0 : Int32)) σ _ _ ls hf hI (lv_sub hl [0, 1, 2, 3] rfl)
def fn_Ro_oldestDead_L4 (N : Nat) (u0 : Nat) : Nat → Int32 → Option Nat → gx_M → Option (Option Nat × gx_M)
  | 0, _, _, _ => none
  | n + 1, v2, v1, σ => if (σ u0 1) ≤ v2 then (gx_mt v1 (some (none, σ)) (fun o_2 => if 42 ≤ o_2 ∧ o_2 < 722 then (some (some o_2, σ)) else none)) else (if 0 ≤ v2 ∧ v2 < 40 then (if (σ (gx_el (u0 + 17) v2.toNatClampNeg) 10) = ((5 : Int32)) then (gx_mt v1 (if 0 ≤ v2 ∧ v2 < 40 then (fn_Ro_oldestDead_L4 N u0 n (v2 + 1) (some (gx_el (u0 + 17) v2.toNatClampNeg)) σ) else none) (fun o_6 => if 42 ≤ o_6 ∧ o_6 < 722 then (if 0 ≤ v2 ∧ v2 < 40 then (if (σ o_6 13) ≤ (σ (gx_el (u0 + 17) v2.toNatClampNeg) 13) then (fn_Ro_oldestDead_L4 N u0 n (v2 + 1) (some o_6) σ) else (if 0 ≤ v2 ∧ v2 < 40 then (fn_Ro_oldestDead_L4 N u0 n (v2 + 1) (some (gx_el (u0 + 17) v2.toNatClampNeg)) σ) else none)) else none) else none)) else (fn_Ro_oldestDead_L4 N u0 n (v2 + 1) v1 σ)) else none)
def fn_Ro_oldestDead (N : Nat) (o0 : Nat) (σ : gx_M) : Option (Option Nat × gx_M) := if 8 ≤ o0 ∧ o0 < 25 then (fn_Ro_oldestDead_L4 N o0 N ((0 : Int32)) none σ) else none
set_option maxHeartbeats 4000000 in
set_option maxRecDepth 100000 in
theorem wl_Ro_oldestDead_L4 {p : Program} {l : Launch} {e : Env} {s : State} {m : MethodId} {args : Array Value} {below : List Frame} {meth : Method} {c : Code} {D : va_G} {dA : Nat → ClassId} {adr : Nat → Nat} {A : Nat → Prop} (G : gx_G p m c b_Ro_oldestDead 3 s args gx_tb R_Ro D dA) (hr : meth.sig.returnType = some (.object R_Jb)) (hlocks : meth.locks = false) (hA : gx_A A adr) (N : Nat) (res : Option Nat × gx_M) (u0 : Nat) (hu0 : 8 ≤ u0 ∧ u0 < 25) : ∀ (n : Nat) (v2 : Int32) (v1 : Option Nat) (σ : gx_M) (H : Heap) (locs : List Loc) (ls : Array Slot), fn_Ro_oldestDead_L4 N u0 n v2 v1 σ = some res → gx_I D dA adr A s.heap σ H locs → lv_has ls 3 [(2, .int v2), (1, va_rf (Option.map adr v1)), (0, .ref (adr u0))] → W p l e (headSpec w_Ro_oldestDead rm_Ro_oldestDead).room s m args below meth c H locs 0 0 (MQ below (gx_Q D dA adr A (some (va_rf (Option.map adr res.1))) res.2) args s 0 0 A) (F0 m 4 ls []) := by
  obtain ⟨⟨hx, hb, hml, hown, ht⟩, hK⟩ := id G
  intro n
  induction n with
  | zero =>
    intro v2 v1 σ H locs ls hf
    cases hf
  | succ n ih =>
    intro v2 v1 σ H locs ls hf hI hl
    rw [fn_Ro_oldestDead_L4] at hf
    refine lv_iload_n hx hb d_Ro_oldestDead_4 rfl (lv_at hl 0 rfl) ?_
    refine lv_aload_n hx hb d_Ro_oldestDead_5 rfl (lv_at hl 2 rfl) ?_
    refine gx_getI G hI cl_Ro (gx_ci_r hu0) 1 (by decide) (gx_rf_r hu0 (by decide)) fl_Ro_20 d_Ro_oldestDead_6 ?_
    refine lv_icmp_ge (tgt := 58) hx hb d_Ro_oldestDead_9 (by decide) (fun c_1 => ?_) (fun c_1 => ?_)
    · replace hf := (if_pos c_1).symm.trans hf
      rcases v1 with _ | o_2
      · replace hf := gx_mtn hf
        refine lv_aload_nN hx hb d_Ro_oldestDead_58 rfl (lv_at hl 1 rfl) ?_
        cases hf
        exact W.aret (v := .null) hx hb hr (Or.inl ⟨_, rfl⟩) (Or.inl rfl) (gx_F hI) hI.2.2.2 d_Ro_oldestDead_59
      · replace hf := gx_mts hf
        obtain ⟨hg_3, hf⟩ := gx_gd hf
        refine lv_aload_n hx hb d_Ro_oldestDead_58 rfl (lv_at hl 1 rfl) ?_
        cases hf
        exact W.aret hx hb hr (Or.inl ⟨_, rfl⟩) (Or.inr ⟨_, rfl⟩) (gx_F hI) hI.2.2.2 d_Ro_oldestDead_59
    · replace hf := (if_neg c_1).symm.trans hf
      refine lv_aload_n hx hb d_Ro_oldestDead_12 rfl (lv_at hl 2 rfl) ?_
      refine gx_getR (o' := u0 + 17) G hI cl_Ro (gx_ci_r hu0) 0 (by decide) (gx_rf_r0 hu0) fl_Ro_11 d_Ro_oldestDead_13 ?_
      refine lv_iload_n hx hb d_Ro_oldestDead_16 rfl (lv_at hl 0 rfl) ?_
      obtain ⟨hi_4, hf⟩ := gx_gd hf
      refine gx_aldJ G hI hu0 hi_4 d_Ro_oldestDead_17 ?_
      refine gx_getI G hI cl_Jb (gx_ci_j (gx_el_j hu0 hi_4)) 10 (by decide) (gx_rf_j (gx_el_j hu0 hi_4) 10) fl_Ro_35 d_Ro_oldestDead_18 ?_
      refine lv_iconst (v := 5) hx hb d_Ro_oldestDead_21 (by decide) ?_
      refine lv_icmp_ne (tgt := 52) hx hb d_Ro_oldestDead_22 (by decide) (fun c_5 => ?_) (fun c_5 => ?_)
      · replace hf := (if_neg c_5).symm.trans hf
        refine lv_iinc (v := v2 + 1) (lv' := [(2, .int (v2 + 1)), (1, va_rf (Option.map adr v1)), (0, .ref (adr u0))]) hx hb d_Ro_oldestDead_52 hl (k := 0) rfl rfl (by decide) (by simp [gx_cat, gx_rfs, gx_rfn]) (fun ls hl => ?_)
        refine lv_goto (tgt := 4) hx hb d_Ro_oldestDead_55 (by decide) ?_
        exact ih (v2 + 1) v1 σ H locs ls hf hI (lv_sub hl [0, 1, 2] rfl)
      · replace hf := (if_pos c_5).symm.trans hf
        rcases v1 with _ | o_6
        · replace hf := gx_mtn hf
          refine lv_aload_nN hx hb d_Ro_oldestDead_25 rfl (lv_at hl 1 rfl) ?_
          refine lv_ifnullN (tgt := 45) hx hb d_Ro_oldestDead_26 (by decide) ?_
          refine lv_aload_n hx hb d_Ro_oldestDead_45 rfl (lv_at hl 2 rfl) ?_
          refine gx_getR (o' := u0 + 17) G hI cl_Ro (gx_ci_r hu0) 0 (by decide) (gx_rf_r0 hu0) fl_Ro_11 d_Ro_oldestDead_46 ?_
          refine lv_iload_n hx hb d_Ro_oldestDead_49 rfl (lv_at hl 0 rfl) ?_
          obtain ⟨hi_8, hf⟩ := gx_gd hf
          refine gx_aldJ G hI hu0 hi_8 d_Ro_oldestDead_50 ?_
          refine lv_astore_n (i := 1) (lv' := [(1, .ref (adr (gx_el (u0 + 17) v2.toNatClampNeg))), (2, .int v2), (0, .ref (adr u0))]) hx hb d_Ro_oldestDead_51 rfl hl (by decide) rfl (fun ls hl => ?_)
          refine lv_iinc (v := v2 + 1) (lv' := [(2, .int (v2 + 1)), (1, .ref (adr (gx_el (u0 + 17) v2.toNatClampNeg))), (0, .ref (adr u0))]) hx hb d_Ro_oldestDead_52 hl (k := 1) rfl rfl (by decide) rfl (fun ls hl => ?_)
          refine lv_goto (tgt := 4) hx hb d_Ro_oldestDead_55 (by decide) ?_
          exact ih (v2 + 1) (some (gx_el (u0 + 17) v2.toNatClampNeg)) σ H locs ls hf hI (lv_sub hl [0, 1, 2] rfl)
        · replace hf := gx_mts hf
          obtain ⟨hg_7, hf⟩ := gx_gd hf
          refine lv_aload_n hx hb d_Ro_oldestDead_25 rfl (lv_at hl 1 rfl) ?_
          refine lv_ifnull hx hb d_Ro_oldestDead_26 ?_
          refine lv_aload_n hx hb d_Ro_oldestDead_29 rfl (lv_at hl 2 rfl) ?_
          refine gx_getR (o' := u0 + 17) G hI cl_Ro (gx_ci_r hu0) 0 (by decide) (gx_rf_r0 hu0) fl_Ro_11 d_Ro_oldestDead_30 ?_
          refine lv_iload_n hx hb d_Ro_oldestDead_33 rfl (lv_at hl 0 rfl) ?_
          obtain ⟨hi_9, hf⟩ := gx_gd hf
          refine gx_aldJ G hI hu0 hi_9 d_Ro_oldestDead_34 ?_
          refine gx_getI G hI cl_Jb (gx_ci_j (gx_el_j hu0 hi_9)) 13 (by decide) (gx_rf_j (gx_el_j hu0 hi_9) 13) fl_Ro_38 d_Ro_oldestDead_35 ?_
          refine lv_aload_n hx hb d_Ro_oldestDead_38 rfl (lv_at hl 1 rfl) ?_
          refine gx_getI G hI cl_Jb (gx_ci_j hg_7) 13 (by decide) (gx_rf_j hg_7 13) fl_Ro_38 d_Ro_oldestDead_39 ?_
          refine lv_icmp_ge (tgt := 52) hx hb d_Ro_oldestDead_42 (by decide) (fun c_10 => ?_) (fun c_10 => ?_)
          · replace hf := (if_pos c_10).symm.trans hf
            refine lv_iinc (v := v2 + 1) (lv' := [(2, .int (v2 + 1)), (1, .ref (adr o_6)), (0, .ref (adr u0))]) hx hb d_Ro_oldestDead_52 hl (k := 0) rfl rfl (by decide) rfl (fun ls hl => ?_)
            refine lv_goto (tgt := 4) hx hb d_Ro_oldestDead_55 (by decide) ?_
            exact ih (v2 + 1) (some o_6) σ H locs ls hf hI (lv_sub hl [0, 1, 2] rfl)
          · replace hf := (if_neg c_10).symm.trans hf
            refine lv_aload_n hx hb d_Ro_oldestDead_45 rfl (lv_at hl 2 rfl) ?_
            refine gx_getR (o' := u0 + 17) G hI cl_Ro (gx_ci_r hu0) 0 (by decide) (gx_rf_r0 hu0) fl_Ro_11 d_Ro_oldestDead_46 ?_
            refine lv_iload_n hx hb d_Ro_oldestDead_49 rfl (lv_at hl 0 rfl) ?_
            obtain ⟨hi_11, hf⟩ := gx_gd hf
            refine gx_aldJ G hI hu0 hi_11 d_Ro_oldestDead_50 ?_
            refine lv_astore_n (i := 1) (lv' := [(1, .ref (adr (gx_el (u0 + 17) v2.toNatClampNeg))), (2, .int v2), (0, .ref (adr u0))]) hx hb d_Ro_oldestDead_51 rfl hl (by decide) rfl (fun ls hl => ?_)
            refine lv_iinc (v := v2 + 1) (lv' := [(2, .int (v2 + 1)), (1, .ref (adr (gx_el (u0 + 17) v2.toNatClampNeg))), (0, .ref (adr u0))]) hx hb d_Ro_oldestDead_52 hl (k := 1) rfl rfl (by decide) rfl (fun ls hl => ?_)
            refine lv_goto (tgt := 4) hx hb d_Ro_oldestDead_55 (by decide) ?_
            exact ih (v2 + 1) (some (gx_el (u0 + 17) v2.toNatClampNeg)) σ H locs ls hf hI (lv_sub hl [0, 1, 2] rfl)
set_option maxHeartbeats 4000000 in
set_option maxRecDepth 100000 in
theorem ct_Ro_oldestDead (l : Launch) (D : va_G) (dA : Nat → ClassId) (adr : Nat → Nat) (A : Nat → Prop) (hA : gx_A A adr) (N : Nat) (o0 : Nat) (σ : gx_M) (r : Option Nat) (σ' : gx_M) (hf : fn_Ro_oldestDead N o0 σ = some (r, σ')) : Met l y_Ro_oldestDead w_Ro_oldestDead rm_Ro_oldestDead (gx_Pc D dA adr σ [.ref (adr o0)]) (gx_Q D dA adr A (some (va_rf (Option.map adr r))) σ') 0 0 A := by
  refine Met.ofW (cc := b_Ro_oldestDead) (maxL := 3) (ret := some (.object R_Jb)) (by decide) rfl ?_
  intro p e s m args below meth c s₁ B hml hv
  obtain ⟨rfl, hP, hK⟩ := hv
  have hx := B.exec
  have hb := B.bytes
  have hr := B.returns
  have hlocks := B.notSynchronized
  have ht : ∀ w ∈ gx_tb, w.before _ s = true := fun w h => atoms_spec (ws := w_Ro_oldestDead) B.pre w (List.mem_cons_of_mem _ h)
  have hown : s.vm.findClass R_Ro = some m.cls := findClass_of_methodNamed B.named
  have G : gx_G p m c b_Ro_oldestDead 3 s _ gx_tb R_Ro D dA := ⟨⟨hx, hb, hml, hown, ht⟩, hK⟩
  have hI : gx_I D dA adr A s.heap σ s.heap [] := ⟨hP, va_S.rf⟩
  have hl := lv_entry ([.ref (adr o0)]) (n := 3) (Nat.le_of_ble_eq_true rfl)
  rw [lg_entry_eq]
  generalize (lg_sl ([.ref (adr o0)]) ++ List.replicate (3 - (lg_sl ([.ref (adr o0)])).length) Slot.unset).toArray = ls at hl ⊢
  have hl : lv_has ls 3 [(0, .ref (adr o0))] := hl
  rw [fn_Ro_oldestDead] at hf
  obtain ⟨ho0, hf⟩ := gx_gd hf
  refine lv_null hx hb d_Ro_oldestDead_0 ?_
  refine lv_astore_nN (i := 1) (lv' := [(1, .null), (0, .ref (adr o0))]) hx hb d_Ro_oldestDead_1 rfl hl (by decide) rfl (fun ls hl => ?_)
  refine lv_iconst (v := 0) hx hb d_Ro_oldestDead_2 (by decide) ?_
  refine lv_istore_n (i := 2) (lv' := [(2, .int ((0 : Int32))), (1, .null), (0, .ref (adr o0))]) hx hb d_Ro_oldestDead_3 rfl hl (by decide) rfl (fun ls hl => ?_)
  exact wl_Ro_oldestDead_L4 G hr hlocks hA N _ o0 ho0 N ((0 : Int32)) none σ _ _ ls hf hI (lv_sub hl [0, 1, 2] rfl)
