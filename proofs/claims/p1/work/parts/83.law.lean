theorem dL_law_475 : decode cL_law 475 = .ok (.aload_n 1, 1) := by decide +kernel
theorem dL_law_476 : decode cL_law 476 = .ok (.aload_n 0, 1) := by decide +kernel
theorem dL_law_477 : decode cL_law 477 = .ok (.iload 4, 2) := by decide +kernel
theorem dL_law_479 : decode cL_law 479 = .ok (.iconst 1, 1) := by decide +kernel
theorem dL_law_480 : decode cL_law 480 = .ok (.iadd, 1) := by decide +kernel
theorem dL_law_481 : decode cL_law 481 = .ok (.iaload, 1) := by decide +kernel
theorem dL_law_482 : decode cL_law 482 = .ok (.aload_n 0, 1) := by decide +kernel
theorem dL_law_483 : decode cL_law 483 = .ok (.iload 4, 2) := by decide +kernel
theorem dL_law_485 : decode cL_law 485 = .ok (.iconst 2, 1) := by decide +kernel
theorem dL_law_486 : decode cL_law 486 = .ok (.iadd, 1) := by decide +kernel
theorem dL_law_487 : decode cL_law 487 = .ok (.iaload, 1) := by decide +kernel
theorem dL_law_488 : decode cL_law 488 = .ok (.invokevirtual 74, 3) := by decide +kernel
theorem dL_law_491 : decode cL_law 491 = .ok (.aload_n 2, 1) := by decide +kernel
theorem dL_law_492 : decode cL_law 492 = .ok (.aload_n 0, 1) := by decide +kernel
theorem dL_law_493 : decode cL_law 493 = .ok (.iload 4, 2) := by decide +kernel
theorem dL_law_495 : decode cL_law 495 = .ok (.iconst 1, 1) := by decide +kernel
theorem dL_law_496 : decode cL_law 496 = .ok (.iadd, 1) := by decide +kernel
theorem dL_law_497 : decode cL_law 497 = .ok (.iaload, 1) := by decide +kernel
theorem dL_law_498 : decode cL_law 498 = .ok (.aload_n 0, 1) := by decide +kernel
theorem dL_law_499 : decode cL_law 499 = .ok (.iload 4, 2) := by decide +kernel
theorem dL_law_501 : decode cL_law 501 = .ok (.iconst 2, 1) := by decide +kernel
theorem dL_law_502 : decode cL_law 502 = .ok (.iadd, 1) := by decide +kernel
theorem dL_law_503 : decode cL_law 503 = .ok (.iaload, 1) := by decide +kernel
theorem dL_law_504 : decode cL_law 504 = .ok (.invokevirtual 77, 3) := by decide +kernel
theorem dL_law_507 : decode cL_law 507 = .ok (.if_icmp .eq 590, 3) := by decide +kernel
theorem dL_law_512 : decode cL_law 512 = .ok (.aload_n 1, 1) := by decide +kernel
theorem dL_law_513 : decode cL_law 513 = .ok (.aload_n 0, 1) := by decide +kernel
theorem dL_law_514 : decode cL_law 514 = .ok (.iload 4, 2) := by decide +kernel
theorem dL_law_516 : decode cL_law 516 = .ok (.iconst 1, 1) := by decide +kernel
theorem dL_law_517 : decode cL_law 517 = .ok (.iadd, 1) := by decide +kernel
theorem dL_law_518 : decode cL_law 518 = .ok (.iaload, 1) := by decide +kernel
theorem dL_law_519 : decode cL_law 519 = .ok (.aload_n 0, 1) := by decide +kernel
theorem dL_law_520 : decode cL_law 520 = .ok (.iload 4, 2) := by decide +kernel
theorem dL_law_522 : decode cL_law 522 = .ok (.iconst 2, 1) := by decide +kernel
theorem dL_law_523 : decode cL_law 523 = .ok (.iadd, 1) := by decide +kernel
theorem dL_law_524 : decode cL_law 524 = .ok (.iaload, 1) := by decide +kernel
theorem dL_law_525 : decode cL_law 525 = .ok (.aload_n 0, 1) := by decide +kernel
theorem dL_law_526 : decode cL_law 526 = .ok (.iload 4, 2) := by decide +kernel
theorem dL_law_528 : decode cL_law 528 = .ok (.iconst 3, 1) := by decide +kernel
theorem dL_law_529 : decode cL_law 529 = .ok (.iadd, 1) := by decide +kernel
theorem dL_law_530 : decode cL_law 530 = .ok (.iaload, 1) := by decide +kernel
theorem dL_law_531 : decode cL_law 531 = .ok (.invokevirtual 78, 3) := by decide +kernel
theorem dL_law_534 : decode cL_law 534 = .ok (.aload_n 2, 1) := by decide +kernel
theorem dL_law_535 : decode cL_law 535 = .ok (.aload_n 0, 1) := by decide +kernel
theorem dL_law_536 : decode cL_law 536 = .ok (.iload 4, 2) := by decide +kernel
theorem dL_law_538 : decode cL_law 538 = .ok (.iconst 1, 1) := by decide +kernel
theorem dL_law_539 : decode cL_law 539 = .ok (.iadd, 1) := by decide +kernel
theorem dL_law_540 : decode cL_law 540 = .ok (.iaload, 1) := by decide +kernel
theorem dL_law_541 : decode cL_law 541 = .ok (.aload_n 0, 1) := by decide +kernel
theorem dL_law_542 : decode cL_law 542 = .ok (.iload 4, 2) := by decide +kernel
theorem dL_law_544 : decode cL_law 544 = .ok (.iconst 2, 1) := by decide +kernel
theorem dL_law_545 : decode cL_law 545 = .ok (.iadd, 1) := by decide +kernel
theorem dL_law_546 : decode cL_law 546 = .ok (.iaload, 1) := by decide +kernel
theorem dL_law_547 : decode cL_law 547 = .ok (.aload_n 0, 1) := by decide +kernel
theorem dL_law_548 : decode cL_law 548 = .ok (.iload 4, 2) := by decide +kernel
theorem dL_law_550 : decode cL_law 550 = .ok (.iconst 3, 1) := by decide +kernel
theorem dL_law_551 : decode cL_law 551 = .ok (.iadd, 1) := by decide +kernel
theorem dL_law_552 : decode cL_law 552 = .ok (.iaload, 1) := by decide +kernel
theorem dL_law_553 : decode cL_law 553 = .ok (.invokevirtual 82, 3) := by decide +kernel
theorem dL_law_556 : decode cL_law 556 = .ok (.if_icmp .eq 541, 3) := by decide +kernel
theorem g_law_c_X6_hand0_74 : GoodIn lw_tbl (wsV RL 74 RX6 yX6_hand v_c_X6_hand0) := goodIn_app (goodIn_r _ [781, 782, 783, 89] (by decide +kernel) (by decide +kernel)) (fun w h => ⟨tl_c_X6_hand0 w h, good_of_word (vg_c_X6_hand0 w h)⟩)
theorem g_law_m_hand_77 : GoodIn lw_tbl (wsV RL 77 RX7 yX7_hand v_m_hand) := goodIn_app (goodIn_r _ [1407, 1408, 1409, 95] (by decide +kernel) (by decide +kernel)) (fun w h => ⟨tl_m_hand w h, good_of_word (vg_m_hand w h)⟩)
theorem g_law_c_X6_laid0_78 : GoodIn lw_tbl (wsV RL 78 RX6 yX6_laid v_c_X6_laid0) := goodIn_app (goodIn_r _ [785, 786, 787, 89] (by decide +kernel) (by decide +kernel)) (fun w h => ⟨tl_c_X6_laid0 w h, good_of_word (vg_c_X6_laid0 w h)⟩)
theorem g_law_m_laid_82 : GoodIn lw_tbl (wsV RL 82 RX7 yX7_laid v_m_laid) := goodIn_app (goodIn_r _ [1411, 1412, 1413, 95] (by decide +kernel) (by decide +kernel)) (fun w h => ⟨tl_m_laid w h, good_of_word (vg_m_laid w h)⟩)
set_option maxHeartbeats 4000000 in
set_option maxRecDepth 100000 in
theorem law_11 {p : Program} {e : Env} {s : State} {m : MethodId} {below : List Frame} {meth : Method} {c : Code} (l : Launch) (hst : l.stackTraces = false) {b : Nat} {xs : Nat → Int32} (C0 : lw_At p s m meth c b 7 xs) (G : va_G) (k : Nat → ClassId) (hK : va_K G vwCl (tyF k) s) (hN : NW s) {A : Nat → Prop} (hA : ∀ q : Nat, s.heap.size ≤ q → A q) (hA2 : ∀ q : Nat, A q → s.heap.size ≤ q) (qx qm qo : Nat) (ux um : Nat → Nat) {H : Heap} {locs : List Loc} (hP : va_P G vwCl (lwW k qx qm qo ux um) H) (hD : va_D A (lwW k qx qm qo ux um)) (hS : va_S A s.heap H locs) (hXW0 : XW A s s.heap) {ls : Array Slot} (hl : lv_has ls 7 [(4, .int 0), (3, .ref qo), (2, .ref qm), (1, .ref qx), (0, .ref b)]) : W p l e room_1 s m #[Value.ref b] below meth c H locs 79 2184 (lw_Z below #[Value.ref b] s) (F0 m 475 ls []) := by
  obtain ⟨hx, hb, hr, hml, hown, hts0, hX, hbl, hlocks, hgv⟩ := id C0
  have hts := hts0
  replace hb : c.code = cL_law := hb
  replace hown : s.vm.findClass RL = some m.cls := hown
  have hbA : ¬ A b := fun h9 => Nat.not_le.mpr hbl (hA2 b h9)
  obtain ⟨x0, ex0⟩ : ∃ x : Int32, x = xs 0 := ⟨_, rfl⟩
  obtain ⟨x1, ex1⟩ : ∃ x : Int32, x = xs 1 := ⟨_, rfl⟩
  obtain ⟨x2, ex2⟩ : ∃ x : Int32, x = xs 2 := ⟨_, rfl⟩
  obtain ⟨x3, ex3⟩ : ∃ x : Int32, x = xs 3 := ⟨_, rfl⟩
  obtain ⟨x4, ex4⟩ : ∃ x : Int32, x = xs 4 := ⟨_, rfl⟩
  obtain ⟨x5, ex5⟩ : ∃ x : Int32, x = xs 5 := ⟨_, rfl⟩
  obtain ⟨x6, ex6⟩ : ∃ x : Int32, x = xs 6 := ⟨_, rfl⟩
  replace hP : va_P G vwCl [(qx, .inr (5, [.ref (ux 0), .ref (ux 1), .ref (ux 3), .ref (ux 7), .ref (ux 8), .ref (ux 13), .int 0, .int 0, .int 0, .int 0, .int 0, .int 0, .int 0, .int 0, .int 0, .int (-1), .int 0, .int 0, .long 0])), ((ux 0), .inl (k 3, 4, .inr (.inr (.inr (.inr (va_up (va_up (va_up (va_up (fun _ => none) 0 (some (ux 17))) 1 (some (ux 25))) 2 (some (ux 33))) 3 (some (ux 41)))))))), ((ux 1), .inr (3, [.ref (ux 2), .int 0, .int 0, .int 0])), ((ux 2), .inl (k 0, 136, .inl (fun _ => 0))), ((ux 3), .inr (0, [.int 0, .int 0, .int 0, .long 0, .int 0, .null, .int 0, .int 0, .int 0, .int 0, .int 0, .int 0, .long 0, .ref (ux 4), .ref (ux 5), .int 0, .long 0, .long 0, .ref (ux 6)])), ((ux 4), .inl (k 0, 4, .inl (fun _ => 0))), ((ux 5), .inl (k 0, 4, .inl (fun _ => 0))), ((ux 6), .inl (k 0, 4, .inl (fun _ => 0))), ((ux 7), .inl (k 4, 4, .inr (.inr (.inr (.inr (va_up (va_up (va_up (va_up (fun _ => none) 0 (some (ux 24))) 1 (some (ux 32))) 2 (some (ux 40))) 3 (some (ux 48)))))))), ((ux 8), .inr (2, [.ref (ux 9), .ref (ux 10), .ref (ux 11), .ref (ux 12), .int 0, .int 0])), ((ux 9), .inl (k 0, 34, .inl (fun _ => 0))), ((ux 10), .inl (k 0, 34, .inl (fun _ => 0))), ((ux 11), .inl (k 0, 4, .inl (fun _ => 0))), ((ux 12), .inl (k 0, 4, .inl (fun _ => 0))), ((ux 13), .inr (0, [.int 0, .int 0, .int 0, .long 0, .int 0, .null, .int 0, .int 0, .int 0, .int 0, .int 0, .int 0, .long 0, .ref (ux 14), .ref (ux 15), .int 0, .long 0, .long 0, .ref (ux 16)])), ((ux 14), .inl (k 0, 4, .inl (fun _ => 0))), ((ux 15), .inl (k 0, 4, .inl (fun _ => 0))), ((ux 16), .inl (k 0, 4, .inl (fun _ => 0))), ((ux 17), .inr (1, [.ref (ux 18), .ref (ux 23), .int 0, .long 0, .int 25000, .int 0, .int 0, .int 0, .int 0, .int 0])), ((ux 18), .inr (2, [.ref (ux 19), .ref (ux 20), .ref (ux 21), .ref (ux 22), .int 0, .int 0])), ((ux 19), .inl (k 0, 34, .inl (fun _ => 0))), ((ux 20), .inl (k 0, 34, .inl (fun _ => 0))), ((ux 21), .inl (k 0, 4, .inl (fun _ => 0))), ((ux 22), .inl (k 0, 4, .inl (fun _ => 0))), ((ux 23), .inl (k 0, 86, .inl (fun _ => 0))), ((ux 24), .inr (4, [.int 0, .int 0, .int 0, .int 0, .int 0, .int 0, .int 0, .long 0])), ((ux 25), .inr (1, [.ref (ux 26), .ref (ux 31), .int 0, .long 0, .int 25000, .int 0, .int 0, .int 0, .int 0, .int 0])), ((ux 26), .inr (2, [.ref (ux 27), .ref (ux 28), .ref (ux 29), .ref (ux 30), .int 0, .int 0])), ((ux 27), .inl (k 0, 34, .inl (fun _ => 0))), ((ux 28), .inl (k 0, 34, .inl (fun _ => 0))), ((ux 29), .inl (k 0, 4, .inl (fun _ => 0))), ((ux 30), .inl (k 0, 4, .inl (fun _ => 0))), ((ux 31), .inl (k 0, 86, .inl (fun _ => 0))), ((ux 32), .inr (4, [.int 0, .int 0, .int 0, .int 0, .int 0, .int 0, .int 0, .long 0])), ((ux 33), .inr (1, [.ref (ux 34), .ref (ux 39), .int 0, .long 0, .int 25000, .int 0, .int 0, .int 0, .int 0, .int 0])), ((ux 34), .inr (2, [.ref (ux 35), .ref (ux 36), .ref (ux 37), .ref (ux 38), .int 0, .int 0])), ((ux 35), .inl (k 0, 34, .inl (fun _ => 0))), ((ux 36), .inl (k 0, 34, .inl (fun _ => 0))), ((ux 37), .inl (k 0, 4, .inl (fun _ => 0))), ((ux 38), .inl (k 0, 4, .inl (fun _ => 0))), ((ux 39), .inl (k 0, 86, .inl (fun _ => 0))), ((ux 40), .inr (4, [.int 0, .int 0, .int 0, .int 0, .int 0, .int 0, .int 0, .long 0])), ((ux 41), .inr (1, [.ref (ux 42), .ref (ux 47), .int 0, .long 0, .int 25000, .int 0, .int 0, .int 0, .int 0, .int 0])), ((ux 42), .inr (2, [.ref (ux 43), .ref (ux 44), .ref (ux 45), .ref (ux 46), .int 0, .int 0])), ((ux 43), .inl (k 0, 34, .inl (fun _ => 0))), ((ux 44), .inl (k 0, 34, .inl (fun _ => 0))), ((ux 45), .inl (k 0, 4, .inl (fun _ => 0))), ((ux 46), .inl (k 0, 4, .inl (fun _ => 0))), ((ux 47), .inl (k 0, 86, .inl (fun _ => 0))), ((ux 48), .inr (4, [.int 0, .int 0, .int 0, .int 0, .int 0, .int 0, .int 0, .long 0])), (qm, .inr (6, [.int 0, .ref (um 0), .ref (um 1), .ref (um 2), .int 0, .ref (um 3), .ref (um 4), .int 0, .int 0, .int 0, .int 0, .int 0, .long 0, .int 0, .int 0, .int 0, .int 0, .long 0, .int 0, .ref (um 5), .ref (um 6), .int 0, .int 0, .int 0, .long 0, .long 0, .ref (um 7), .ref (um 8), .ref (um 9), .ref (um 10), .ref (um 11), .ref (um 12), .ref (um 13), .ref (um 14), .ref (um 15), .ref (um 16), .ref (um 17), .ref (um 18), .ref (um 19), .ref (um 20), .int 0, .int 0, .int 0, .int 0, .int 0, .int 0, .int 0, .int 0, .int 0, .int (-1), .int (-1), .int (-1), .int 0, .int 0, .int 0, .int 0, .int 0, .int 0, .int 0, .int 0, .ref (um 21), .ref (um 22), .ref (um 23), .ref (um 24), .ref (um 25), .ref (um 26), .int 0, .long 0])), ((um 0), .inl (k 0, 34, .inl (fun _ => 0))), ((um 1), .inl (k 0, 8, .inl (fun _ => 0))), ((um 2), .inl (k 0, 8, .inl (fun _ => 0))), ((um 3), .inl (k 0, 5, .inl (fun _ => 0))), ((um 4), .inl (k 0, 5, .inl (fun _ => 0))), ((um 5), .inl (k 0, 4, .inl (fun _ => 0))), ((um 6), .inl (k 0, 4, .inl (fun _ => 0))), ((um 7), .inl (k 0, 34, .inl (fun _ => 0))), ((um 8), .inl (k 0, 136, .inl (fun _ => 0))), ((um 9), .inl (k 0, 136, .inl (fun _ => 0))), ((um 10), .inl (k 0, 4, .inl (upd (upd (upd (upd (fun _ => 0) (0 : Int32).toNatClampNeg 25000) (1 : Int32).toNatClampNeg 25000) (2 : Int32).toNatClampNeg 25000) (3 : Int32).toNatClampNeg 25000))), ((um 11), .inl (k 0, 16, .inl (fun _ => 0))), ((um 12), .inl (k 0, 16, .inl (fun _ => 0))), ((um 13), .inl (k 0, 4, .inl (fun _ => 0))), ((um 14), .inl (k 0, 544, .inl (fun _ => 0))), ((um 15), .inl (k 0, 4, .inl (fun _ => 0))), ((um 16), .inl (k 0, 4, .inl (fun _ => 0))), ((um 17), .inl (k 0, 4, .inl (fun _ => 0))), ((um 18), .inl (k 2, 4, .inl (fun _ => 0))), ((um 19), .inl (k 2, 4, .inl (fun _ => 0))), ((um 20), .inl (k 2, 4, .inl (fun _ => 0))), ((um 21), .inl (k 0, 28, .inl (fun _ => 0))), ((um 22), .inl (k 1, 4, .inr (.inl (fun _ => 0)))), ((um 23), .inl (k 0, 34, .inl (fun _ => 0))), ((um 24), .inl (k 0, 4, .inl (fun _ => 0))), ((um 25), .inl (k 0, 4, .inl (fun _ => 0))), ((um 26), .inl (k 0, 4, .inl (fun _ => 0))), (qo, .inl (k 1, 1, .inr (.inl (fun _ => 0))))] H := hP
  replace hD : va_D A [(qx, .inr (5, [.ref (ux 0), .ref (ux 1), .ref (ux 3), .ref (ux 7), .ref (ux 8), .ref (ux 13), .int 0, .int 0, .int 0, .int 0, .int 0, .int 0, .int 0, .int 0, .int 0, .int (-1), .int 0, .int 0, .long 0])), ((ux 0), .inl (k 3, 4, .inr (.inr (.inr (.inr (va_up (va_up (va_up (va_up (fun _ => none) 0 (some (ux 17))) 1 (some (ux 25))) 2 (some (ux 33))) 3 (some (ux 41)))))))), ((ux 1), .inr (3, [.ref (ux 2), .int 0, .int 0, .int 0])), ((ux 2), .inl (k 0, 136, .inl (fun _ => 0))), ((ux 3), .inr (0, [.int 0, .int 0, .int 0, .long 0, .int 0, .null, .int 0, .int 0, .int 0, .int 0, .int 0, .int 0, .long 0, .ref (ux 4), .ref (ux 5), .int 0, .long 0, .long 0, .ref (ux 6)])), ((ux 4), .inl (k 0, 4, .inl (fun _ => 0))), ((ux 5), .inl (k 0, 4, .inl (fun _ => 0))), ((ux 6), .inl (k 0, 4, .inl (fun _ => 0))), ((ux 7), .inl (k 4, 4, .inr (.inr (.inr (.inr (va_up (va_up (va_up (va_up (fun _ => none) 0 (some (ux 24))) 1 (some (ux 32))) 2 (some (ux 40))) 3 (some (ux 48)))))))), ((ux 8), .inr (2, [.ref (ux 9), .ref (ux 10), .ref (ux 11), .ref (ux 12), .int 0, .int 0])), ((ux 9), .inl (k 0, 34, .inl (fun _ => 0))), ((ux 10), .inl (k 0, 34, .inl (fun _ => 0))), ((ux 11), .inl (k 0, 4, .inl (fun _ => 0))), ((ux 12), .inl (k 0, 4, .inl (fun _ => 0))), ((ux 13), .inr (0, [.int 0, .int 0, .int 0, .long 0, .int 0, .null, .int 0, .int 0, .int 0, .int 0, .int 0, .int 0, .long 0, .ref (ux 14), .ref (ux 15), .int 0, .long 0, .long 0, .ref (ux 16)])), ((ux 14), .inl (k 0, 4, .inl (fun _ => 0))), ((ux 15), .inl (k 0, 4, .inl (fun _ => 0))), ((ux 16), .inl (k 0, 4, .inl (fun _ => 0))), ((ux 17), .inr (1, [.ref (ux 18), .ref (ux 23), .int 0, .long 0, .int 25000, .int 0, .int 0, .int 0, .int 0, .int 0])), ((ux 18), .inr (2, [.ref (ux 19), .ref (ux 20), .ref (ux 21), .ref (ux 22), .int 0, .int 0])), ((ux 19), .inl (k 0, 34, .inl (fun _ => 0))), ((ux 20), .inl (k 0, 34, .inl (fun _ => 0))), ((ux 21), .inl (k 0, 4, .inl (fun _ => 0))), ((ux 22), .inl (k 0, 4, .inl (fun _ => 0))), ((ux 23), .inl (k 0, 86, .inl (fun _ => 0))), ((ux 24), .inr (4, [.int 0, .int 0, .int 0, .int 0, .int 0, .int 0, .int 0, .long 0])), ((ux 25), .inr (1, [.ref (ux 26), .ref (ux 31), .int 0, .long 0, .int 25000, .int 0, .int 0, .int 0, .int 0, .int 0])), ((ux 26), .inr (2, [.ref (ux 27), .ref (ux 28), .ref (ux 29), .ref (ux 30), .int 0, .int 0])), ((ux 27), .inl (k 0, 34, .inl (fun _ => 0))), ((ux 28), .inl (k 0, 34, .inl (fun _ => 0))), ((ux 29), .inl (k 0, 4, .inl (fun _ => 0))), ((ux 30), .inl (k 0, 4, .inl (fun _ => 0))), ((ux 31), .inl (k 0, 86, .inl (fun _ => 0))), ((ux 32), .inr (4, [.int 0, .int 0, .int 0, .int 0, .int 0, .int 0, .int 0, .long 0])), ((ux 33), .inr (1, [.ref (ux 34), .ref (ux 39), .int 0, .long 0, .int 25000, .int 0, .int 0, .int 0, .int 0, .int 0])), ((ux 34), .inr (2, [.ref (ux 35), .ref (ux 36), .ref (ux 37), .ref (ux 38), .int 0, .int 0])), ((ux 35), .inl (k 0, 34, .inl (fun _ => 0))), ((ux 36), .inl (k 0, 34, .inl (fun _ => 0))), ((ux 37), .inl (k 0, 4, .inl (fun _ => 0))), ((ux 38), .inl (k 0, 4, .inl (fun _ => 0))), ((ux 39), .inl (k 0, 86, .inl (fun _ => 0))), ((ux 40), .inr (4, [.int 0, .int 0, .int 0, .int 0, .int 0, .int 0, .int 0, .long 0])), ((ux 41), .inr (1, [.ref (ux 42), .ref (ux 47), .int 0, .long 0, .int 25000, .int 0, .int 0, .int 0, .int 0, .int 0])), ((ux 42), .inr (2, [.ref (ux 43), .ref (ux 44), .ref (ux 45), .ref (ux 46), .int 0, .int 0])), ((ux 43), .inl (k 0, 34, .inl (fun _ => 0))), ((ux 44), .inl (k 0, 34, .inl (fun _ => 0))), ((ux 45), .inl (k 0, 4, .inl (fun _ => 0))), ((ux 46), .inl (k 0, 4, .inl (fun _ => 0))), ((ux 47), .inl (k 0, 86, .inl (fun _ => 0))), ((ux 48), .inr (4, [.int 0, .int 0, .int 0, .int 0, .int 0, .int 0, .int 0, .long 0])), (qm, .inr (6, [.int 0, .ref (um 0), .ref (um 1), .ref (um 2), .int 0, .ref (um 3), .ref (um 4), .int 0, .int 0, .int 0, .int 0, .int 0, .long 0, .int 0, .int 0, .int 0, .int 0, .long 0, .int 0, .ref (um 5), .ref (um 6), .int 0, .int 0, .int 0, .long 0, .long 0, .ref (um 7), .ref (um 8), .ref (um 9), .ref (um 10), .ref (um 11), .ref (um 12), .ref (um 13), .ref (um 14), .ref (um 15), .ref (um 16), .ref (um 17), .ref (um 18), .ref (um 19), .ref (um 20), .int 0, .int 0, .int 0, .int 0, .int 0, .int 0, .int 0, .int 0, .int 0, .int (-1), .int (-1), .int (-1), .int 0, .int 0, .int 0, .int 0, .int 0, .int 0, .int 0, .int 0, .ref (um 21), .ref (um 22), .ref (um 23), .ref (um 24), .ref (um 25), .ref (um 26), .int 0, .long 0])), ((um 0), .inl (k 0, 34, .inl (fun _ => 0))), ((um 1), .inl (k 0, 8, .inl (fun _ => 0))), ((um 2), .inl (k 0, 8, .inl (fun _ => 0))), ((um 3), .inl (k 0, 5, .inl (fun _ => 0))), ((um 4), .inl (k 0, 5, .inl (fun _ => 0))), ((um 5), .inl (k 0, 4, .inl (fun _ => 0))), ((um 6), .inl (k 0, 4, .inl (fun _ => 0))), ((um 7), .inl (k 0, 34, .inl (fun _ => 0))), ((um 8), .inl (k 0, 136, .inl (fun _ => 0))), ((um 9), .inl (k 0, 136, .inl (fun _ => 0))), ((um 10), .inl (k 0, 4, .inl (upd (upd (upd (upd (fun _ => 0) (0 : Int32).toNatClampNeg 25000) (1 : Int32).toNatClampNeg 25000) (2 : Int32).toNatClampNeg 25000) (3 : Int32).toNatClampNeg 25000))), ((um 11), .inl (k 0, 16, .inl (fun _ => 0))), ((um 12), .inl (k 0, 16, .inl (fun _ => 0))), ((um 13), .inl (k 0, 4, .inl (fun _ => 0))), ((um 14), .inl (k 0, 544, .inl (fun _ => 0))), ((um 15), .inl (k 0, 4, .inl (fun _ => 0))), ((um 16), .inl (k 0, 4, .inl (fun _ => 0))), ((um 17), .inl (k 0, 4, .inl (fun _ => 0))), ((um 18), .inl (k 2, 4, .inl (fun _ => 0))), ((um 19), .inl (k 2, 4, .inl (fun _ => 0))), ((um 20), .inl (k 2, 4, .inl (fun _ => 0))), ((um 21), .inl (k 0, 28, .inl (fun _ => 0))), ((um 22), .inl (k 1, 4, .inr (.inl (fun _ => 0)))), ((um 23), .inl (k 0, 34, .inl (fun _ => 0))), ((um 24), .inl (k 0, 4, .inl (fun _ => 0))), ((um 25), .inl (k 0, 4, .inl (fun _ => 0))), ((um 26), .inl (k 0, 4, .inl (fun _ => 0))), (qo, .inl (k 1, 1, .inr (.inl (fun _ => 0))))] := hD
  rcases seat5 x1 with hsv | hsv | hsv | hsv | hseat
  · skip
    subst hsv
    refine lv_aload_n hx hb dL_law_475 rfl (lv_at hl 3 rfl) ?_
    refine lv_aload_n hx hb dL_law_476 rfl (lv_at hl 4 rfl) ?_
    refine lv_iload hx hb dL_law_477 (lv_at hl 0 rfl) ?_
    refine lv_iconst (v := 1) hx hb dL_law_479 (by decide) ?_
    refine lv_iadd hx hb dL_law_480 ?_
    refine lv_topi (fun z1 ez1 => ?_)
    obtain rfl : z1 = 1 := ez1.trans (by decide)
    refine va_sld hx hb hX hbl hbA hS (inC (by decide) (by decide)) dL_law_481 ?_
    refine lv_topi (fun z2 ez2 => ?_)
    obtain rfl : z2 = 0 := ez2.trans ex1.symm
    refine lv_aload_n hx hb dL_law_482 rfl (lv_at hl 4 rfl) ?_
    refine lv_iload hx hb dL_law_483 (lv_at hl 0 rfl) ?_
    refine lv_iconst (v := 2) hx hb dL_law_485 (by decide) ?_
    refine lv_iadd hx hb dL_law_486 ?_
    refine lv_topi (fun z3 ez3 => ?_)
    obtain rfl : z3 = 2 := ez3.trans (by decide)
    refine va_sld hx hb hX hbl hbA hS (inC (by decide) (by decide)) dL_law_487 ?_
    refine lv_topi (fun z4 ez4 => ?_)
    rw [show z4 = x2 from ez4.trans ex2.symm]
    have hPc := hP.sub (ws' := [(qx, .inr (5, [.ref (ux 0), .ref (ux 1), .ref (ux 3), .ref (ux 7), .ref (ux 8), .ref (ux 13), .int 0, .int 0, .int 0, .int 0, .int 0, .int 0, .int 0, .int 0, .int 0, .int (-1), .int 0, .int 0, .long 0])), ((ux 0), .inl (k 3, 4, .inr (.inr (.inr (.inr (va_up (va_up (va_up (va_up (fun _ => none) 0 (some (ux 17))) 1 (some (ux 25))) 2 (some (ux 33))) 3 (some (ux 41)))))))), ((ux 17), .inr (1, [.ref (ux 18), .ref (ux 23), .int 0, .long 0, .int 25000, .int 0, .int 0, .int 0, .int 0, .int 0])), ((ux 18), .inr (2, [.ref (ux 19), .ref (ux 20), .ref (ux 21), .ref (ux 22), .int 0, .int 0])), ((ux 19), .inl (k 0, 34, .inl (fun _ => 0)))]) [0, 1, 18, 19, 20] rfl
    refine q_calli (va_runV (As := [.int 0, .int x2]) (rest := []) ⟨hx, hb, hml, hown, hts⟩ (c_X6_hand0 l G k qx (ux 0) (va_up (va_up (va_up (va_up (fun _ => none) 0 (some (ux 17))) 1 (some (ux 25))) 2 (some (ux 33))) 3 (some (ux 41))) (fun j => ([(ux 17), (ux 25), (ux 33), (ux 41)] : List Nat).getD j 0) (fun j hj => by rcases (show j = 0 ∨ j = 1 ∨ j = 2 ∨ j = 3 by omega) with rfl | rfl | rfl | rfl <;> rfl) (ux 17) (ux 18) (ux 19) 0 x2 (fun _ => rfl) (.ref (ux 1)) (.ref (ux 3)) (.ref (ux 7)) (.ref (ux 8)) (.ref (ux 13)) (.int 0) (.int 0) (.int 0) (.int 0) (.int 0) (.int 0) (.int 0) (.int 0) (.int 0) (.int (-1)) (.int 0) (.int 0) (.long 0) (.ref (ux 23)) (.int 0) (.long 0) (.int 25000) (.int 0) (.int 0) (.int 0) (.int 0) (.int 0) (.ref (ux 20)) (.ref (ux 21)) (.ref (ux 22)) (.int 0) (.int 0)) (cwV 2 hts g_law_c_X6_hand0_74 rfl rfl rfl (by decide +kernel) ⟨Nat.le_of_ble_eq_true rfl, Nat.le_of_ble_eq_true rfl⟩) ⟨pr_bl, va_recv hK hPc (ci := 5) (q0 := 0) rfl rfl, pr_pre hPc hK hN⟩ rfl rfl hl.1 rfl (lv_room (Nat.le_of_ble_eq_true rfl)) dL_law_488 ⟨Nat.le_of_ble_eq_true rfl, Nat.le_of_ble_eq_true rfl⟩) (fun r5 hr5 => ?_)
    obtain rfl : r5 = 0 := hr5
    refine lv_aload_n hx hb dL_law_491 rfl (lv_at hl 2 rfl) ?_
    refine lv_aload_n hx hb dL_law_492 rfl (lv_at hl 4 rfl) ?_
    refine lv_iload hx hb dL_law_493 (lv_at hl 0 rfl) ?_
    refine lv_iconst (v := 1) hx hb dL_law_495 (by decide) ?_
    refine lv_iadd hx hb dL_law_496 ?_
    refine lv_topi (fun z6 ez6 => ?_)
    obtain rfl : z6 = 1 := ez6.trans (by decide)
    refine va_sld hx hb hX hbl hbA hS (inC (by decide) (by decide)) dL_law_497 ?_
    refine lv_topi (fun z7 ez7 => ?_)
    obtain rfl : z7 = 0 := ez7.trans ex1.symm
    refine lv_aload_n hx hb dL_law_498 rfl (lv_at hl 4 rfl) ?_
    refine lv_iload hx hb dL_law_499 (lv_at hl 0 rfl) ?_
    refine lv_iconst (v := 2) hx hb dL_law_501 (by decide) ?_
    refine lv_iadd hx hb dL_law_502 ?_
    refine lv_topi (fun z8 ez8 => ?_)
    obtain rfl : z8 = 2 := ez8.trans (by decide)
    refine va_sld hx hb hX hbl hbA hS (inC (by decide) (by decide)) dL_law_503 ?_
    refine lv_topi (fun z9 ez9 => ?_)
    rw [show z9 = x2 from ez9.trans ex2.symm]
    have hPc := hP.sub (ws' := [(qm, .inr (6, [.int 0, .ref (um 0), .ref (um 1), .ref (um 2), .int 0, .ref (um 3), .ref (um 4), .int 0, .int 0, .int 0, .int 0, .int 0, .long 0, .int 0, .int 0, .int 0, .int 0, .long 0, .int 0, .ref (um 5), .ref (um 6), .int 0, .int 0, .int 0, .long 0, .long 0, .ref (um 7), .ref (um 8), .ref (um 9), .ref (um 10), .ref (um 11), .ref (um 12), .ref (um 13), .ref (um 14), .ref (um 15), .ref (um 16), .ref (um 17), .ref (um 18), .ref (um 19), .ref (um 20), .int 0, .int 0, .int 0, .int 0, .int 0, .int 0, .int 0, .int 0, .int 0, .int (-1), .int (-1), .int (-1), .int 0, .int 0, .int 0, .int 0, .int 0, .int 0, .int 0, .int 0, .ref (um 21), .ref (um 22), .ref (um 23), .ref (um 24), .ref (um 25), .ref (um 26), .int 0, .long 0])), ((um 9), .inl (k 0, 136, .inl (fun _ => 0)))]) [50, 60] rfl
    have hDc := hD.sub (ws' := [(qm, .inr (6, [.int 0, .ref (um 0), .ref (um 1), .ref (um 2), .int 0, .ref (um 3), .ref (um 4), .int 0, .int 0, .int 0, .int 0, .int 0, .long 0, .int 0, .int 0, .int 0, .int 0, .long 0, .int 0, .ref (um 5), .ref (um 6), .int 0, .int 0, .int 0, .long 0, .long 0, .ref (um 7), .ref (um 8), .ref (um 9), .ref (um 10), .ref (um 11), .ref (um 12), .ref (um 13), .ref (um 14), .ref (um 15), .ref (um 16), .ref (um 17), .ref (um 18), .ref (um 19), .ref (um 20), .int 0, .int 0, .int 0, .int 0, .int 0, .int 0, .int 0, .int 0, .int 0, .int (-1), .int (-1), .int (-1), .int 0, .int 0, .int 0, .int 0, .int 0, .int 0, .int 0, .int 0, .ref (um 21), .ref (um 22), .ref (um 23), .ref (um 24), .ref (um 25), .ref (um 26), .int 0, .long 0])), ((um 9), .inl (k 0, 136, .inl (fun _ => 0)))]) [50, 60] (by decide) rfl
    have hFc := va_free (wc := [(qm, .inr (6, [.int 0, .ref (um 0), .ref (um 1), .ref (um 2), .int 0, .ref (um 3), .ref (um 4), .int 0, .int 0, .int 0, .int 0, .int 0, .long 0, .int 0, .int 0, .int 0, .int 0, .long 0, .int 0, .ref (um 5), .ref (um 6), .int 0, .int 0, .int 0, .long 0, .long 0, .ref (um 7), .ref (um 8), .ref (um 9), .ref (um 10), .ref (um 11), .ref (um 12), .ref (um 13), .ref (um 14), .ref (um 15), .ref (um 16), .ref (um 17), .ref (um 18), .ref (um 19), .ref (um 20), .int 0, .int 0, .int 0, .int 0, .int 0, .int 0, .int 0, .int 0, .int 0, .int (-1), .int (-1), .int (-1), .int 0, .int 0, .int 0, .int 0, .int 0, .int 0, .int 0, .int 0, .ref (um 21), .ref (um 22), .ref (um 23), .ref (um 24), .ref (um 25), .ref (um 26), .int 0, .long 0])), ((um 9), .inl (k 0, 136, .inl (fun _ => 0)))]) hD hS hA [50, 60] rfl
    refine va_calli (va_runV (As := [.int 0, .int x2]) (rest := [.int 0]) ⟨hx, hb, hml, hown, hts⟩ (m_hand l G k H.size qm um 0 x2) (cwV 2 hts g_law_m_hand_77 rfl rfl rfl (by decide +kernel) ⟨Nat.le_of_ble_eq_true rfl, Nat.le_of_ble_eq_true rfl⟩) ⟨pq_bl, va_recv hK hPc (ci := 6) (q0 := 0) rfl rfl, pq_pre hPc hDc hK hN⟩ rfl rfl hl.1 rfl (lv_room (Nat.le_of_ble_eq_true rfl)) dL_law_504 ⟨Nat.le_of_ble_eq_true rfl, Nat.le_of_ble_eq_true rfl⟩) hS (fun q _ h => hFc q h) hFc (fun r10 ur10 t H1 locs ht hvm hr10 hB hz1 hk1 hS => ?_)
    have hP1 : va_P G vwCl [] H1 := vP0
    have hD1 : va_D (va_A [(qm, .inr (6, [.int 0, .ref (um 0), .ref (um 1), .ref (um 2), .int 0, .ref (um 3), .ref (um 4), .int 0, .int 0, .int 0, .int 0, .int 0, .long 0, .int 0, .int 0, .int 0, .int 0, .long 0, .int 0, .ref (um 5), .ref (um 6), .int 0, .int 0, .int 0, .long 0, .long 0, .ref (um 7), .ref (um 8), .ref (um 9), .ref (um 10), .ref (um 11), .ref (um 12), .ref (um 13), .ref (um 14), .ref (um 15), .ref (um 16), .ref (um 17), .ref (um 18), .ref (um 19), .ref (um 20), .int 0, .int 0, .int 0, .int 0, .int 0, .int 0, .int 0, .int 0, .int 0, .int (-1), .int (-1), .int (-1), .int 0, .int 0, .int 0, .int 0, .int 0, .int 0, .int 0, .int 0, .ref (um 21), .ref (um 22), .ref (um 23), .ref (um 24), .ref (um 25), .ref (um 26), .int 0, .long 0])), ((um 9), .inl (k 0, 136, .inl (fun _ => 0)))] H.size) [] := vD0
    obtain ⟨hP, hD⟩ := va_join (wr := []) (w1 := []) hP hD [50, 60] [] rfl rfl (by decide) (by decide) hk1 hFc hP1 hD1
    clear hP1 hD1
    generalize H1 = H at hP hS ⊢
    replace hP : va_P G vwCl [] H := hP
    replace hD : va_D A [] := hD
    obtain rfl : r10 = 0 := hr10
    refine lv_icmp_eq (tgt := 1097) hx hb dL_law_507 (by decide) (fun _ => ?_) (fun c9 => absurd (by decide) c9)
    exact law_end l C0 hA2 hS (lv_sub hl [0, 4] rfl) (Nat.le_of_ble_eq_true rfl) (Nat.le_of_ble_eq_true rfl)
  · skip
    subst hsv
    refine lv_aload_n hx hb dL_law_475 rfl (lv_at hl 3 rfl) ?_
    refine lv_aload_n hx hb dL_law_476 rfl (lv_at hl 4 rfl) ?_
    refine lv_iload hx hb dL_law_477 (lv_at hl 0 rfl) ?_
    refine lv_iconst (v := 1) hx hb dL_law_479 (by decide) ?_
    refine lv_iadd hx hb dL_law_480 ?_
    refine lv_topi (fun z1 ez1 => ?_)
    obtain rfl : z1 = 1 := ez1.trans (by decide)
    refine va_sld hx hb hX hbl hbA hS (inC (by decide) (by decide)) dL_law_481 ?_
    refine lv_topi (fun z2 ez2 => ?_)
    obtain rfl : z2 = 1 := ez2.trans ex1.symm
    refine lv_aload_n hx hb dL_law_482 rfl (lv_at hl 4 rfl) ?_
    refine lv_iload hx hb dL_law_483 (lv_at hl 0 rfl) ?_
    refine lv_iconst (v := 2) hx hb dL_law_485 (by decide) ?_
    refine lv_iadd hx hb dL_law_486 ?_
    refine lv_topi (fun z3 ez3 => ?_)
    obtain rfl : z3 = 2 := ez3.trans (by decide)
    refine va_sld hx hb hX hbl hbA hS (inC (by decide) (by decide)) dL_law_487 ?_
    refine lv_topi (fun z4 ez4 => ?_)
    rw [show z4 = x2 from ez4.trans ex2.symm]
    have hPc := hP.sub (ws' := [(qx, .inr (5, [.ref (ux 0), .ref (ux 1), .ref (ux 3), .ref (ux 7), .ref (ux 8), .ref (ux 13), .int 0, .int 0, .int 0, .int 0, .int 0, .int 0, .int 0, .int 0, .int 0, .int (-1), .int 0, .int 0, .long 0])), ((ux 0), .inl (k 3, 4, .inr (.inr (.inr (.inr (va_up (va_up (va_up (va_up (fun _ => none) 0 (some (ux 17))) 1 (some (ux 25))) 2 (some (ux 33))) 3 (some (ux 41)))))))), ((ux 25), .inr (1, [.ref (ux 26), .ref (ux 31), .int 0, .long 0, .int 25000, .int 0, .int 0, .int 0, .int 0, .int 0])), ((ux 26), .inr (2, [.ref (ux 27), .ref (ux 28), .ref (ux 29), .ref (ux 30), .int 0, .int 0])), ((ux 27), .inl (k 0, 34, .inl (fun _ => 0)))]) [0, 1, 26, 27, 28] rfl
    refine q_calli (va_runV (As := [.int 1, .int x2]) (rest := []) ⟨hx, hb, hml, hown, hts⟩ (c_X6_hand0 l G k qx (ux 0) (va_up (va_up (va_up (va_up (fun _ => none) 0 (some (ux 17))) 1 (some (ux 25))) 2 (some (ux 33))) 3 (some (ux 41))) (fun j => ([(ux 17), (ux 25), (ux 33), (ux 41)] : List Nat).getD j 0) (fun j hj => by rcases (show j = 0 ∨ j = 1 ∨ j = 2 ∨ j = 3 by omega) with rfl | rfl | rfl | rfl <;> rfl) (ux 25) (ux 26) (ux 27) 1 x2 (fun _ => rfl) (.ref (ux 1)) (.ref (ux 3)) (.ref (ux 7)) (.ref (ux 8)) (.ref (ux 13)) (.int 0) (.int 0) (.int 0) (.int 0) (.int 0) (.int 0) (.int 0) (.int 0) (.int 0) (.int (-1)) (.int 0) (.int 0) (.long 0) (.ref (ux 31)) (.int 0) (.long 0) (.int 25000) (.int 0) (.int 0) (.int 0) (.int 0) (.int 0) (.ref (ux 28)) (.ref (ux 29)) (.ref (ux 30)) (.int 0) (.int 0)) (cwV 2 hts g_law_c_X6_hand0_74 rfl rfl rfl (by decide +kernel) ⟨Nat.le_of_ble_eq_true rfl, Nat.le_of_ble_eq_true rfl⟩) ⟨pr_bl, va_recv hK hPc (ci := 5) (q0 := 0) rfl rfl, pr_pre hPc hK hN⟩ rfl rfl hl.1 rfl (lv_room (Nat.le_of_ble_eq_true rfl)) dL_law_488 ⟨Nat.le_of_ble_eq_true rfl, Nat.le_of_ble_eq_true rfl⟩) (fun r5 hr5 => ?_)
    obtain rfl : r5 = 0 := hr5
    refine lv_aload_n hx hb dL_law_491 rfl (lv_at hl 2 rfl) ?_
    refine lv_aload_n hx hb dL_law_492 rfl (lv_at hl 4 rfl) ?_
    refine lv_iload hx hb dL_law_493 (lv_at hl 0 rfl) ?_
    refine lv_iconst (v := 1) hx hb dL_law_495 (by decide) ?_
    refine lv_iadd hx hb dL_law_496 ?_
    refine lv_topi (fun z6 ez6 => ?_)
    obtain rfl : z6 = 1 := ez6.trans (by decide)
    refine va_sld hx hb hX hbl hbA hS (inC (by decide) (by decide)) dL_law_497 ?_
    refine lv_topi (fun z7 ez7 => ?_)
    obtain rfl : z7 = 1 := ez7.trans ex1.symm
    refine lv_aload_n hx hb dL_law_498 rfl (lv_at hl 4 rfl) ?_
    refine lv_iload hx hb dL_law_499 (lv_at hl 0 rfl) ?_
    refine lv_iconst (v := 2) hx hb dL_law_501 (by decide) ?_
    refine lv_iadd hx hb dL_law_502 ?_
    refine lv_topi (fun z8 ez8 => ?_)
    obtain rfl : z8 = 2 := ez8.trans (by decide)
    refine va_sld hx hb hX hbl hbA hS (inC (by decide) (by decide)) dL_law_503 ?_
    refine lv_topi (fun z9 ez9 => ?_)
    rw [show z9 = x2 from ez9.trans ex2.symm]
    have hPc := hP.sub (ws' := [(qm, .inr (6, [.int 0, .ref (um 0), .ref (um 1), .ref (um 2), .int 0, .ref (um 3), .ref (um 4), .int 0, .int 0, .int 0, .int 0, .int 0, .long 0, .int 0, .int 0, .int 0, .int 0, .long 0, .int 0, .ref (um 5), .ref (um 6), .int 0, .int 0, .int 0, .long 0, .long 0, .ref (um 7), .ref (um 8), .ref (um 9), .ref (um 10), .ref (um 11), .ref (um 12), .ref (um 13), .ref (um 14), .ref (um 15), .ref (um 16), .ref (um 17), .ref (um 18), .ref (um 19), .ref (um 20), .int 0, .int 0, .int 0, .int 0, .int 0, .int 0, .int 0, .int 0, .int 0, .int (-1), .int (-1), .int (-1), .int 0, .int 0, .int 0, .int 0, .int 0, .int 0, .int 0, .int 0, .ref (um 21), .ref (um 22), .ref (um 23), .ref (um 24), .ref (um 25), .ref (um 26), .int 0, .long 0])), ((um 9), .inl (k 0, 136, .inl (fun _ => 0)))]) [50, 60] rfl
    have hDc := hD.sub (ws' := [(qm, .inr (6, [.int 0, .ref (um 0), .ref (um 1), .ref (um 2), .int 0, .ref (um 3), .ref (um 4), .int 0, .int 0, .int 0, .int 0, .int 0, .long 0, .int 0, .int 0, .int 0, .int 0, .long 0, .int 0, .ref (um 5), .ref (um 6), .int 0, .int 0, .int 0, .long 0, .long 0, .ref (um 7), .ref (um 8), .ref (um 9), .ref (um 10), .ref (um 11), .ref (um 12), .ref (um 13), .ref (um 14), .ref (um 15), .ref (um 16), .ref (um 17), .ref (um 18), .ref (um 19), .ref (um 20), .int 0, .int 0, .int 0, .int 0, .int 0, .int 0, .int 0, .int 0, .int 0, .int (-1), .int (-1), .int (-1), .int 0, .int 0, .int 0, .int 0, .int 0, .int 0, .int 0, .int 0, .ref (um 21), .ref (um 22), .ref (um 23), .ref (um 24), .ref (um 25), .ref (um 26), .int 0, .long 0])), ((um 9), .inl (k 0, 136, .inl (fun _ => 0)))]) [50, 60] (by decide) rfl
    have hFc := va_free (wc := [(qm, .inr (6, [.int 0, .ref (um 0), .ref (um 1), .ref (um 2), .int 0, .ref (um 3), .ref (um 4), .int 0, .int 0, .int 0, .int 0, .int 0, .long 0, .int 0, .int 0, .int 0, .int 0, .long 0, .int 0, .ref (um 5), .ref (um 6), .int 0, .int 0, .int 0, .long 0, .long 0, .ref (um 7), .ref (um 8), .ref (um 9), .ref (um 10), .ref (um 11), .ref (um 12), .ref (um 13), .ref (um 14), .ref (um 15), .ref (um 16), .ref (um 17), .ref (um 18), .ref (um 19), .ref (um 20), .int 0, .int 0, .int 0, .int 0, .int 0, .int 0, .int 0, .int 0, .int 0, .int (-1), .int (-1), .int (-1), .int 0, .int 0, .int 0, .int 0, .int 0, .int 0, .int 0, .int 0, .ref (um 21), .ref (um 22), .ref (um 23), .ref (um 24), .ref (um 25), .ref (um 26), .int 0, .long 0])), ((um 9), .inl (k 0, 136, .inl (fun _ => 0)))]) hD hS hA [50, 60] rfl
    refine va_calli (va_runV (As := [.int 1, .int x2]) (rest := [.int 0]) ⟨hx, hb, hml, hown, hts⟩ (m_hand l G k H.size qm um 1 x2) (cwV 2 hts g_law_m_hand_77 rfl rfl rfl (by decide +kernel) ⟨Nat.le_of_ble_eq_true rfl, Nat.le_of_ble_eq_true rfl⟩) ⟨pq_bl, va_recv hK hPc (ci := 6) (q0 := 0) rfl rfl, pq_pre hPc hDc hK hN⟩ rfl rfl hl.1 rfl (lv_room (Nat.le_of_ble_eq_true rfl)) dL_law_504 ⟨Nat.le_of_ble_eq_true rfl, Nat.le_of_ble_eq_true rfl⟩) hS (fun q _ h => hFc q h) hFc (fun r10 ur10 t H1 locs ht hvm hr10 hB hz1 hk1 hS => ?_)
    have hP1 : va_P G vwCl [] H1 := vP0
    have hD1 : va_D (va_A [(qm, .inr (6, [.int 0, .ref (um 0), .ref (um 1), .ref (um 2), .int 0, .ref (um 3), .ref (um 4), .int 0, .int 0, .int 0, .int 0, .int 0, .long 0, .int 0, .int 0, .int 0, .int 0, .long 0, .int 0, .ref (um 5), .ref (um 6), .int 0, .int 0, .int 0, .long 0, .long 0, .ref (um 7), .ref (um 8), .ref (um 9), .ref (um 10), .ref (um 11), .ref (um 12), .ref (um 13), .ref (um 14), .ref (um 15), .ref (um 16), .ref (um 17), .ref (um 18), .ref (um 19), .ref (um 20), .int 0, .int 0, .int 0, .int 0, .int 0, .int 0, .int 0, .int 0, .int 0, .int (-1), .int (-1), .int (-1), .int 0, .int 0, .int 0, .int 0, .int 0, .int 0, .int 0, .int 0, .ref (um 21), .ref (um 22), .ref (um 23), .ref (um 24), .ref (um 25), .ref (um 26), .int 0, .long 0])), ((um 9), .inl (k 0, 136, .inl (fun _ => 0)))] H.size) [] := vD0
    obtain ⟨hP, hD⟩ := va_join (wr := []) (w1 := []) hP hD [50, 60] [] rfl rfl (by decide) (by decide) hk1 hFc hP1 hD1
    clear hP1 hD1
    generalize H1 = H at hP hS ⊢
    replace hP : va_P G vwCl [] H := hP
    replace hD : va_D A [] := hD
    obtain rfl : r10 = 0 := hr10
    refine lv_icmp_eq (tgt := 1097) hx hb dL_law_507 (by decide) (fun _ => ?_) (fun c9 => absurd (by decide) c9)
    exact law_end l C0 hA2 hS (lv_sub hl [0, 4] rfl) (Nat.le_of_ble_eq_true rfl) (Nat.le_of_ble_eq_true rfl)
  · skip
    subst hsv
    refine lv_aload_n hx hb dL_law_475 rfl (lv_at hl 3 rfl) ?_
    refine lv_aload_n hx hb dL_law_476 rfl (lv_at hl 4 rfl) ?_
    refine lv_iload hx hb dL_law_477 (lv_at hl 0 rfl) ?_
    refine lv_iconst (v := 1) hx hb dL_law_479 (by decide) ?_
    refine lv_iadd hx hb dL_law_480 ?_
    refine lv_topi (fun z1 ez1 => ?_)
    obtain rfl : z1 = 1 := ez1.trans (by decide)
    refine va_sld hx hb hX hbl hbA hS (inC (by decide) (by decide)) dL_law_481 ?_
    refine lv_topi (fun z2 ez2 => ?_)
    obtain rfl : z2 = 2 := ez2.trans ex1.symm
    refine lv_aload_n hx hb dL_law_482 rfl (lv_at hl 4 rfl) ?_
    refine lv_iload hx hb dL_law_483 (lv_at hl 0 rfl) ?_
    refine lv_iconst (v := 2) hx hb dL_law_485 (by decide) ?_
    refine lv_iadd hx hb dL_law_486 ?_
    refine lv_topi (fun z3 ez3 => ?_)
    obtain rfl : z3 = 2 := ez3.trans (by decide)
    refine va_sld hx hb hX hbl hbA hS (inC (by decide) (by decide)) dL_law_487 ?_
    refine lv_topi (fun z4 ez4 => ?_)
    rw [show z4 = x2 from ez4.trans ex2.symm]
    have hPc := hP.sub (ws' := [(qx, .inr (5, [.ref (ux 0), .ref (ux 1), .ref (ux 3), .ref (ux 7), .ref (ux 8), .ref (ux 13), .int 0, .int 0, .int 0, .int 0, .int 0, .int 0, .int 0, .int 0, .int 0, .int (-1), .int 0, .int 0, .long 0])), ((ux 0), .inl (k 3, 4, .inr (.inr (.inr (.inr (va_up (va_up (va_up (va_up (fun _ => none) 0 (some (ux 17))) 1 (some (ux 25))) 2 (some (ux 33))) 3 (some (ux 41)))))))), ((ux 33), .inr (1, [.ref (ux 34), .ref (ux 39), .int 0, .long 0, .int 25000, .int 0, .int 0, .int 0, .int 0, .int 0])), ((ux 34), .inr (2, [.ref (ux 35), .ref (ux 36), .ref (ux 37), .ref (ux 38), .int 0, .int 0])), ((ux 35), .inl (k 0, 34, .inl (fun _ => 0)))]) [0, 1, 34, 35, 36] rfl
    refine q_calli (va_runV (As := [.int 2, .int x2]) (rest := []) ⟨hx, hb, hml, hown, hts⟩ (c_X6_hand0 l G k qx (ux 0) (va_up (va_up (va_up (va_up (fun _ => none) 0 (some (ux 17))) 1 (some (ux 25))) 2 (some (ux 33))) 3 (some (ux 41))) (fun j => ([(ux 17), (ux 25), (ux 33), (ux 41)] : List Nat).getD j 0) (fun j hj => by rcases (show j = 0 ∨ j = 1 ∨ j = 2 ∨ j = 3 by omega) with rfl | rfl | rfl | rfl <;> rfl) (ux 33) (ux 34) (ux 35) 2 x2 (fun _ => rfl) (.ref (ux 1)) (.ref (ux 3)) (.ref (ux 7)) (.ref (ux 8)) (.ref (ux 13)) (.int 0) (.int 0) (.int 0) (.int 0) (.int 0) (.int 0) (.int 0) (.int 0) (.int 0) (.int (-1)) (.int 0) (.int 0) (.long 0) (.ref (ux 39)) (.int 0) (.long 0) (.int 25000) (.int 0) (.int 0) (.int 0) (.int 0) (.int 0) (.ref (ux 36)) (.ref (ux 37)) (.ref (ux 38)) (.int 0) (.int 0)) (cwV 2 hts g_law_c_X6_hand0_74 rfl rfl rfl (by decide +kernel) ⟨Nat.le_of_ble_eq_true rfl, Nat.le_of_ble_eq_true rfl⟩) ⟨pr_bl, va_recv hK hPc (ci := 5) (q0 := 0) rfl rfl, pr_pre hPc hK hN⟩ rfl rfl hl.1 rfl (lv_room (Nat.le_of_ble_eq_true rfl)) dL_law_488 ⟨Nat.le_of_ble_eq_true rfl, Nat.le_of_ble_eq_true rfl⟩) (fun r5 hr5 => ?_)
    obtain rfl : r5 = 0 := hr5
    refine lv_aload_n hx hb dL_law_491 rfl (lv_at hl 2 rfl) ?_
    refine lv_aload_n hx hb dL_law_492 rfl (lv_at hl 4 rfl) ?_
    refine lv_iload hx hb dL_law_493 (lv_at hl 0 rfl) ?_
    refine lv_iconst (v := 1) hx hb dL_law_495 (by decide) ?_
    refine lv_iadd hx hb dL_law_496 ?_
    refine lv_topi (fun z6 ez6 => ?_)
    obtain rfl : z6 = 1 := ez6.trans (by decide)
    refine va_sld hx hb hX hbl hbA hS (inC (by decide) (by decide)) dL_law_497 ?_
    refine lv_topi (fun z7 ez7 => ?_)
    obtain rfl : z7 = 2 := ez7.trans ex1.symm
    refine lv_aload_n hx hb dL_law_498 rfl (lv_at hl 4 rfl) ?_
    refine lv_iload hx hb dL_law_499 (lv_at hl 0 rfl) ?_
    refine lv_iconst (v := 2) hx hb dL_law_501 (by decide) ?_
    refine lv_iadd hx hb dL_law_502 ?_
    refine lv_topi (fun z8 ez8 => ?_)
    obtain rfl : z8 = 2 := ez8.trans (by decide)
    refine va_sld hx hb hX hbl hbA hS (inC (by decide) (by decide)) dL_law_503 ?_
    refine lv_topi (fun z9 ez9 => ?_)
    rw [show z9 = x2 from ez9.trans ex2.symm]
    have hPc := hP.sub (ws' := [(qm, .inr (6, [.int 0, .ref (um 0), .ref (um 1), .ref (um 2), .int 0, .ref (um 3), .ref (um 4), .int 0, .int 0, .int 0, .int 0, .int 0, .long 0, .int 0, .int 0, .int 0, .int 0, .long 0, .int 0, .ref (um 5), .ref (um 6), .int 0, .int 0, .int 0, .long 0, .long 0, .ref (um 7), .ref (um 8), .ref (um 9), .ref (um 10), .ref (um 11), .ref (um 12), .ref (um 13), .ref (um 14), .ref (um 15), .ref (um 16), .ref (um 17), .ref (um 18), .ref (um 19), .ref (um 20), .int 0, .int 0, .int 0, .int 0, .int 0, .int 0, .int 0, .int 0, .int 0, .int (-1), .int (-1), .int (-1), .int 0, .int 0, .int 0, .int 0, .int 0, .int 0, .int 0, .int 0, .ref (um 21), .ref (um 22), .ref (um 23), .ref (um 24), .ref (um 25), .ref (um 26), .int 0, .long 0])), ((um 9), .inl (k 0, 136, .inl (fun _ => 0)))]) [50, 60] rfl
    have hDc := hD.sub (ws' := [(qm, .inr (6, [.int 0, .ref (um 0), .ref (um 1), .ref (um 2), .int 0, .ref (um 3), .ref (um 4), .int 0, .int 0, .int 0, .int 0, .int 0, .long 0, .int 0, .int 0, .int 0, .int 0, .long 0, .int 0, .ref (um 5), .ref (um 6), .int 0, .int 0, .int 0, .long 0, .long 0, .ref (um 7), .ref (um 8), .ref (um 9), .ref (um 10), .ref (um 11), .ref (um 12), .ref (um 13), .ref (um 14), .ref (um 15), .ref (um 16), .ref (um 17), .ref (um 18), .ref (um 19), .ref (um 20), .int 0, .int 0, .int 0, .int 0, .int 0, .int 0, .int 0, .int 0, .int 0, .int (-1), .int (-1), .int (-1), .int 0, .int 0, .int 0, .int 0, .int 0, .int 0, .int 0, .int 0, .ref (um 21), .ref (um 22), .ref (um 23), .ref (um 24), .ref (um 25), .ref (um 26), .int 0, .long 0])), ((um 9), .inl (k 0, 136, .inl (fun _ => 0)))]) [50, 60] (by decide) rfl
    have hFc := va_free (wc := [(qm, .inr (6, [.int 0, .ref (um 0), .ref (um 1), .ref (um 2), .int 0, .ref (um 3), .ref (um 4), .int 0, .int 0, .int 0, .int 0, .int 0, .long 0, .int 0, .int 0, .int 0, .int 0, .long 0, .int 0, .ref (um 5), .ref (um 6), .int 0, .int 0, .int 0, .long 0, .long 0, .ref (um 7), .ref (um 8), .ref (um 9), .ref (um 10), .ref (um 11), .ref (um 12), .ref (um 13), .ref (um 14), .ref (um 15), .ref (um 16), .ref (um 17), .ref (um 18), .ref (um 19), .ref (um 20), .int 0, .int 0, .int 0, .int 0, .int 0, .int 0, .int 0, .int 0, .int 0, .int (-1), .int (-1), .int (-1), .int 0, .int 0, .int 0, .int 0, .int 0, .int 0, .int 0, .int 0, .ref (um 21), .ref (um 22), .ref (um 23), .ref (um 24), .ref (um 25), .ref (um 26), .int 0, .long 0])), ((um 9), .inl (k 0, 136, .inl (fun _ => 0)))]) hD hS hA [50, 60] rfl
    refine va_calli (va_runV (As := [.int 2, .int x2]) (rest := [.int 0]) ⟨hx, hb, hml, hown, hts⟩ (m_hand l G k H.size qm um 2 x2) (cwV 2 hts g_law_m_hand_77 rfl rfl rfl (by decide +kernel) ⟨Nat.le_of_ble_eq_true rfl, Nat.le_of_ble_eq_true rfl⟩) ⟨pq_bl, va_recv hK hPc (ci := 6) (q0 := 0) rfl rfl, pq_pre hPc hDc hK hN⟩ rfl rfl hl.1 rfl (lv_room (Nat.le_of_ble_eq_true rfl)) dL_law_504 ⟨Nat.le_of_ble_eq_true rfl, Nat.le_of_ble_eq_true rfl⟩) hS (fun q _ h => hFc q h) hFc (fun r10 ur10 t H1 locs ht hvm hr10 hB hz1 hk1 hS => ?_)
    have hP1 : va_P G vwCl [] H1 := vP0
    have hD1 : va_D (va_A [(qm, .inr (6, [.int 0, .ref (um 0), .ref (um 1), .ref (um 2), .int 0, .ref (um 3), .ref (um 4), .int 0, .int 0, .int 0, .int 0, .int 0, .long 0, .int 0, .int 0, .int 0, .int 0, .long 0, .int 0, .ref (um 5), .ref (um 6), .int 0, .int 0, .int 0, .long 0, .long 0, .ref (um 7), .ref (um 8), .ref (um 9), .ref (um 10), .ref (um 11), .ref (um 12), .ref (um 13), .ref (um 14), .ref (um 15), .ref (um 16), .ref (um 17), .ref (um 18), .ref (um 19), .ref (um 20), .int 0, .int 0, .int 0, .int 0, .int 0, .int 0, .int 0, .int 0, .int 0, .int (-1), .int (-1), .int (-1), .int 0, .int 0, .int 0, .int 0, .int 0, .int 0, .int 0, .int 0, .ref (um 21), .ref (um 22), .ref (um 23), .ref (um 24), .ref (um 25), .ref (um 26), .int 0, .long 0])), ((um 9), .inl (k 0, 136, .inl (fun _ => 0)))] H.size) [] := vD0
    obtain ⟨hP, hD⟩ := va_join (wr := []) (w1 := []) hP hD [50, 60] [] rfl rfl (by decide) (by decide) hk1 hFc hP1 hD1
    clear hP1 hD1
    generalize H1 = H at hP hS ⊢
    replace hP : va_P G vwCl [] H := hP
    replace hD : va_D A [] := hD
    obtain rfl : r10 = 0 := hr10
    refine lv_icmp_eq (tgt := 1097) hx hb dL_law_507 (by decide) (fun _ => ?_) (fun c9 => absurd (by decide) c9)
    exact law_end l C0 hA2 hS (lv_sub hl [0, 4] rfl) (Nat.le_of_ble_eq_true rfl) (Nat.le_of_ble_eq_true rfl)
  · skip
    subst hsv
    refine lv_aload_n hx hb dL_law_475 rfl (lv_at hl 3 rfl) ?_
    refine lv_aload_n hx hb dL_law_476 rfl (lv_at hl 4 rfl) ?_
    refine lv_iload hx hb dL_law_477 (lv_at hl 0 rfl) ?_
    refine lv_iconst (v := 1) hx hb dL_law_479 (by decide) ?_
    refine lv_iadd hx hb dL_law_480 ?_
    refine lv_topi (fun z1 ez1 => ?_)
    obtain rfl : z1 = 1 := ez1.trans (by decide)
    refine va_sld hx hb hX hbl hbA hS (inC (by decide) (by decide)) dL_law_481 ?_
    refine lv_topi (fun z2 ez2 => ?_)
    obtain rfl : z2 = 3 := ez2.trans ex1.symm
    refine lv_aload_n hx hb dL_law_482 rfl (lv_at hl 4 rfl) ?_
    refine lv_iload hx hb dL_law_483 (lv_at hl 0 rfl) ?_
    refine lv_iconst (v := 2) hx hb dL_law_485 (by decide) ?_
    refine lv_iadd hx hb dL_law_486 ?_
    refine lv_topi (fun z3 ez3 => ?_)
    obtain rfl : z3 = 2 := ez3.trans (by decide)
    refine va_sld hx hb hX hbl hbA hS (inC (by decide) (by decide)) dL_law_487 ?_
    refine lv_topi (fun z4 ez4 => ?_)
    rw [show z4 = x2 from ez4.trans ex2.symm]
    have hPc := hP.sub (ws' := [(qx, .inr (5, [.ref (ux 0), .ref (ux 1), .ref (ux 3), .ref (ux 7), .ref (ux 8), .ref (ux 13), .int 0, .int 0, .int 0, .int 0, .int 0, .int 0, .int 0, .int 0, .int 0, .int (-1), .int 0, .int 0, .long 0])), ((ux 0), .inl (k 3, 4, .inr (.inr (.inr (.inr (va_up (va_up (va_up (va_up (fun _ => none) 0 (some (ux 17))) 1 (some (ux 25))) 2 (some (ux 33))) 3 (some (ux 41)))))))), ((ux 41), .inr (1, [.ref (ux 42), .ref (ux 47), .int 0, .long 0, .int 25000, .int 0, .int 0, .int 0, .int 0, .int 0])), ((ux 42), .inr (2, [.ref (ux 43), .ref (ux 44), .ref (ux 45), .ref (ux 46), .int 0, .int 0])), ((ux 43), .inl (k 0, 34, .inl (fun _ => 0)))]) [0, 1, 42, 43, 44] rfl
    refine q_calli (va_runV (As := [.int 3, .int x2]) (rest := []) ⟨hx, hb, hml, hown, hts⟩ (c_X6_hand0 l G k qx (ux 0) (va_up (va_up (va_up (va_up (fun _ => none) 0 (some (ux 17))) 1 (some (ux 25))) 2 (some (ux 33))) 3 (some (ux 41))) (fun j => ([(ux 17), (ux 25), (ux 33), (ux 41)] : List Nat).getD j 0) (fun j hj => by rcases (show j = 0 ∨ j = 1 ∨ j = 2 ∨ j = 3 by omega) with rfl | rfl | rfl | rfl <;> rfl) (ux 41) (ux 42) (ux 43) 3 x2 (fun _ => rfl) (.ref (ux 1)) (.ref (ux 3)) (.ref (ux 7)) (.ref (ux 8)) (.ref (ux 13)) (.int 0) (.int 0) (.int 0) (.int 0) (.int 0) (.int 0) (.int 0) (.int 0) (.int 0) (.int (-1)) (.int 0) (.int 0) (.long 0) (.ref (ux 47)) (.int 0) (.long 0) (.int 25000) (.int 0) (.int 0) (.int 0) (.int 0) (.int 0) (.ref (ux 44)) (.ref (ux 45)) (.ref (ux 46)) (.int 0) (.int 0)) (cwV 2 hts g_law_c_X6_hand0_74 rfl rfl rfl (by decide +kernel) ⟨Nat.le_of_ble_eq_true rfl, Nat.le_of_ble_eq_true rfl⟩) ⟨pr_bl, va_recv hK hPc (ci := 5) (q0 := 0) rfl rfl, pr_pre hPc hK hN⟩ rfl rfl hl.1 rfl (lv_room (Nat.le_of_ble_eq_true rfl)) dL_law_488 ⟨Nat.le_of_ble_eq_true rfl, Nat.le_of_ble_eq_true rfl⟩) (fun r5 hr5 => ?_)
    obtain rfl : r5 = 0 := hr5
    refine lv_aload_n hx hb dL_law_491 rfl (lv_at hl 2 rfl) ?_
    refine lv_aload_n hx hb dL_law_492 rfl (lv_at hl 4 rfl) ?_
    refine lv_iload hx hb dL_law_493 (lv_at hl 0 rfl) ?_
    refine lv_iconst (v := 1) hx hb dL_law_495 (by decide) ?_
    refine lv_iadd hx hb dL_law_496 ?_
    refine lv_topi (fun z6 ez6 => ?_)
    obtain rfl : z6 = 1 := ez6.trans (by decide)
    refine va_sld hx hb hX hbl hbA hS (inC (by decide) (by decide)) dL_law_497 ?_
    refine lv_topi (fun z7 ez7 => ?_)
    obtain rfl : z7 = 3 := ez7.trans ex1.symm
    refine lv_aload_n hx hb dL_law_498 rfl (lv_at hl 4 rfl) ?_
    refine lv_iload hx hb dL_law_499 (lv_at hl 0 rfl) ?_
    refine lv_iconst (v := 2) hx hb dL_law_501 (by decide) ?_
    refine lv_iadd hx hb dL_law_502 ?_
    refine lv_topi (fun z8 ez8 => ?_)
    obtain rfl : z8 = 2 := ez8.trans (by decide)
    refine va_sld hx hb hX hbl hbA hS (inC (by decide) (by decide)) dL_law_503 ?_
    refine lv_topi (fun z9 ez9 => ?_)
    rw [show z9 = x2 from ez9.trans ex2.symm]
    have hPc := hP.sub (ws' := [(qm, .inr (6, [.int 0, .ref (um 0), .ref (um 1), .ref (um 2), .int 0, .ref (um 3), .ref (um 4), .int 0, .int 0, .int 0, .int 0, .int 0, .long 0, .int 0, .int 0, .int 0, .int 0, .long 0, .int 0, .ref (um 5), .ref (um 6), .int 0, .int 0, .int 0, .long 0, .long 0, .ref (um 7), .ref (um 8), .ref (um 9), .ref (um 10), .ref (um 11), .ref (um 12), .ref (um 13), .ref (um 14), .ref (um 15), .ref (um 16), .ref (um 17), .ref (um 18), .ref (um 19), .ref (um 20), .int 0, .int 0, .int 0, .int 0, .int 0, .int 0, .int 0, .int 0, .int 0, .int (-1), .int (-1), .int (-1), .int 0, .int 0, .int 0, .int 0, .int 0, .int 0, .int 0, .int 0, .ref (um 21), .ref (um 22), .ref (um 23), .ref (um 24), .ref (um 25), .ref (um 26), .int 0, .long 0])), ((um 9), .inl (k 0, 136, .inl (fun _ => 0)))]) [50, 60] rfl
    have hDc := hD.sub (ws' := [(qm, .inr (6, [.int 0, .ref (um 0), .ref (um 1), .ref (um 2), .int 0, .ref (um 3), .ref (um 4), .int 0, .int 0, .int 0, .int 0, .int 0, .long 0, .int 0, .int 0, .int 0, .int 0, .long 0, .int 0, .ref (um 5), .ref (um 6), .int 0, .int 0, .int 0, .long 0, .long 0, .ref (um 7), .ref (um 8), .ref (um 9), .ref (um 10), .ref (um 11), .ref (um 12), .ref (um 13), .ref (um 14), .ref (um 15), .ref (um 16), .ref (um 17), .ref (um 18), .ref (um 19), .ref (um 20), .int 0, .int 0, .int 0, .int 0, .int 0, .int 0, .int 0, .int 0, .int 0, .int (-1), .int (-1), .int (-1), .int 0, .int 0, .int 0, .int 0, .int 0, .int 0, .int 0, .int 0, .ref (um 21), .ref (um 22), .ref (um 23), .ref (um 24), .ref (um 25), .ref (um 26), .int 0, .long 0])), ((um 9), .inl (k 0, 136, .inl (fun _ => 0)))]) [50, 60] (by decide) rfl
    have hFc := va_free (wc := [(qm, .inr (6, [.int 0, .ref (um 0), .ref (um 1), .ref (um 2), .int 0, .ref (um 3), .ref (um 4), .int 0, .int 0, .int 0, .int 0, .int 0, .long 0, .int 0, .int 0, .int 0, .int 0, .long 0, .int 0, .ref (um 5), .ref (um 6), .int 0, .int 0, .int 0, .long 0, .long 0, .ref (um 7), .ref (um 8), .ref (um 9), .ref (um 10), .ref (um 11), .ref (um 12), .ref (um 13), .ref (um 14), .ref (um 15), .ref (um 16), .ref (um 17), .ref (um 18), .ref (um 19), .ref (um 20), .int 0, .int 0, .int 0, .int 0, .int 0, .int 0, .int 0, .int 0, .int 0, .int (-1), .int (-1), .int (-1), .int 0, .int 0, .int 0, .int 0, .int 0, .int 0, .int 0, .int 0, .ref (um 21), .ref (um 22), .ref (um 23), .ref (um 24), .ref (um 25), .ref (um 26), .int 0, .long 0])), ((um 9), .inl (k 0, 136, .inl (fun _ => 0)))]) hD hS hA [50, 60] rfl
    refine va_calli (va_runV (As := [.int 3, .int x2]) (rest := [.int 0]) ⟨hx, hb, hml, hown, hts⟩ (m_hand l G k H.size qm um 3 x2) (cwV 2 hts g_law_m_hand_77 rfl rfl rfl (by decide +kernel) ⟨Nat.le_of_ble_eq_true rfl, Nat.le_of_ble_eq_true rfl⟩) ⟨pq_bl, va_recv hK hPc (ci := 6) (q0 := 0) rfl rfl, pq_pre hPc hDc hK hN⟩ rfl rfl hl.1 rfl (lv_room (Nat.le_of_ble_eq_true rfl)) dL_law_504 ⟨Nat.le_of_ble_eq_true rfl, Nat.le_of_ble_eq_true rfl⟩) hS (fun q _ h => hFc q h) hFc (fun r10 ur10 t H1 locs ht hvm hr10 hB hz1 hk1 hS => ?_)
    have hP1 : va_P G vwCl [] H1 := vP0
    have hD1 : va_D (va_A [(qm, .inr (6, [.int 0, .ref (um 0), .ref (um 1), .ref (um 2), .int 0, .ref (um 3), .ref (um 4), .int 0, .int 0, .int 0, .int 0, .int 0, .long 0, .int 0, .int 0, .int 0, .int 0, .long 0, .int 0, .ref (um 5), .ref (um 6), .int 0, .int 0, .int 0, .long 0, .long 0, .ref (um 7), .ref (um 8), .ref (um 9), .ref (um 10), .ref (um 11), .ref (um 12), .ref (um 13), .ref (um 14), .ref (um 15), .ref (um 16), .ref (um 17), .ref (um 18), .ref (um 19), .ref (um 20), .int 0, .int 0, .int 0, .int 0, .int 0, .int 0, .int 0, .int 0, .int 0, .int (-1), .int (-1), .int (-1), .int 0, .int 0, .int 0, .int 0, .int 0, .int 0, .int 0, .int 0, .ref (um 21), .ref (um 22), .ref (um 23), .ref (um 24), .ref (um 25), .ref (um 26), .int 0, .long 0])), ((um 9), .inl (k 0, 136, .inl (fun _ => 0)))] H.size) [] := vD0
    obtain ⟨hP, hD⟩ := va_join (wr := []) (w1 := []) hP hD [50, 60] [] rfl rfl (by decide) (by decide) hk1 hFc hP1 hD1
    clear hP1 hD1
    generalize H1 = H at hP hS ⊢
    replace hP : va_P G vwCl [] H := hP
    replace hD : va_D A [] := hD
    obtain rfl : r10 = 0 := hr10
    refine lv_icmp_eq (tgt := 1097) hx hb dL_law_507 (by decide) (fun _ => ?_) (fun c9 => absurd (by decide) c9)
    exact law_end l C0 hA2 hS (lv_sub hl [0, 4] rfl) (Nat.le_of_ble_eq_true rfl) (Nat.le_of_ble_eq_true rfl)
  · skip
    refine lv_aload_n hx hb dL_law_475 rfl (lv_at hl 3 rfl) ?_
    refine lv_aload_n hx hb dL_law_476 rfl (lv_at hl 4 rfl) ?_
    refine lv_iload hx hb dL_law_477 (lv_at hl 0 rfl) ?_
    refine lv_iconst (v := 1) hx hb dL_law_479 (by decide) ?_
    refine lv_iadd hx hb dL_law_480 ?_
    refine lv_topi (fun z1 ez1 => ?_)
    obtain rfl : z1 = 1 := ez1.trans (by decide)
    refine va_sld hx hb hX hbl hbA hS (inC (by decide) (by decide)) dL_law_481 ?_
    refine lv_topi (fun z2 ez2 => ?_)
    rw [show z2 = x1 from ez2.trans ex1.symm]
    refine lv_aload_n hx hb dL_law_482 rfl (lv_at hl 4 rfl) ?_
    refine lv_iload hx hb dL_law_483 (lv_at hl 0 rfl) ?_
    refine lv_iconst (v := 2) hx hb dL_law_485 (by decide) ?_
    refine lv_iadd hx hb dL_law_486 ?_
    refine lv_topi (fun z3 ez3 => ?_)
    obtain rfl : z3 = 2 := ez3.trans (by decide)
    refine va_sld hx hb hX hbl hbA hS (inC (by decide) (by decide)) dL_law_487 ?_
    refine lv_topi (fun z4 ez4 => ?_)
    rw [show z4 = x2 from ez4.trans ex2.symm]
    have hPc := hP.sub (ws' := [(qx, .inr (5, [.ref (ux 0), .ref (ux 1), .ref (ux 3), .ref (ux 7), .ref (ux 8), .ref (ux 13), .int 0, .int 0, .int 0, .int 0, .int 0, .int 0, .int 0, .int 0, .int 0, .int (-1), .int 0, .int 0, .long 0])), ((ux 0), .inl (k 3, 4, .inr (.inr (.inr (.inr (va_up (va_up (va_up (va_up (fun _ => none) 0 (some (ux 17))) 1 (some (ux 25))) 2 (some (ux 33))) 3 (some (ux 41)))))))), ((ux 17), .inr (1, [.ref (ux 18), .ref (ux 23), .int 0, .long 0, .int 25000, .int 0, .int 0, .int 0, .int 0, .int 0])), ((ux 18), .inr (2, [.ref (ux 19), .ref (ux 20), .ref (ux 21), .ref (ux 22), .int 0, .int 0])), ((ux 19), .inl (k 0, 34, .inl (fun _ => 0)))]) [0, 1, 18, 19, 20] rfl
    refine q_calli (va_runV (As := [.int x1, .int x2]) (rest := []) ⟨hx, hb, hml, hown, hts⟩ (c_X6_hand0 l G k qx (ux 0) (va_up (va_up (va_up (va_up (fun _ => none) 0 (some (ux 17))) 1 (some (ux 25))) 2 (some (ux 33))) 3 (some (ux 41))) (fun j => ([(ux 17), (ux 25), (ux 33), (ux 41)] : List Nat).getD j 0) (fun j hj => by rcases (show j = 0 ∨ j = 1 ∨ j = 2 ∨ j = 3 by omega) with rfl | rfl | rfl | rfl <;> rfl) (ux 17) (ux 18) (ux 19) x1 x2 (fun h9 => absurd h9 hseat) (.ref (ux 1)) (.ref (ux 3)) (.ref (ux 7)) (.ref (ux 8)) (.ref (ux 13)) (.int 0) (.int 0) (.int 0) (.int 0) (.int 0) (.int 0) (.int 0) (.int 0) (.int 0) (.int (-1)) (.int 0) (.int 0) (.long 0) (.ref (ux 23)) (.int 0) (.long 0) (.int 25000) (.int 0) (.int 0) (.int 0) (.int 0) (.int 0) (.ref (ux 20)) (.ref (ux 21)) (.ref (ux 22)) (.int 0) (.int 0)) (cwV 2 hts g_law_c_X6_hand0_74 rfl rfl rfl (by decide +kernel) ⟨Nat.le_of_ble_eq_true rfl, Nat.le_of_ble_eq_true rfl⟩) ⟨pr_bl, va_recv hK hPc (ci := 5) (q0 := 0) rfl rfl, pr_pre hPc hK hN⟩ rfl rfl hl.1 rfl (lv_room (Nat.le_of_ble_eq_true rfl)) dL_law_488 ⟨Nat.le_of_ble_eq_true rfl, Nat.le_of_ble_eq_true rfl⟩) (fun r5 hr5 => ?_)
    obtain rfl : r5 = 0 := hr5
    refine lv_aload_n hx hb dL_law_491 rfl (lv_at hl 2 rfl) ?_
    refine lv_aload_n hx hb dL_law_492 rfl (lv_at hl 4 rfl) ?_
    refine lv_iload hx hb dL_law_493 (lv_at hl 0 rfl) ?_
    refine lv_iconst (v := 1) hx hb dL_law_495 (by decide) ?_
    refine lv_iadd hx hb dL_law_496 ?_
    refine lv_topi (fun z6 ez6 => ?_)
    obtain rfl : z6 = 1 := ez6.trans (by decide)
    refine va_sld hx hb hX hbl hbA hS (inC (by decide) (by decide)) dL_law_497 ?_
    refine lv_topi (fun z7 ez7 => ?_)
    rw [show z7 = x1 from ez7.trans ex1.symm]
    refine lv_aload_n hx hb dL_law_498 rfl (lv_at hl 4 rfl) ?_
    refine lv_iload hx hb dL_law_499 (lv_at hl 0 rfl) ?_
    refine lv_iconst (v := 2) hx hb dL_law_501 (by decide) ?_
    refine lv_iadd hx hb dL_law_502 ?_
    refine lv_topi (fun z8 ez8 => ?_)
    obtain rfl : z8 = 2 := ez8.trans (by decide)
    refine va_sld hx hb hX hbl hbA hS (inC (by decide) (by decide)) dL_law_503 ?_
    refine lv_topi (fun z9 ez9 => ?_)
    rw [show z9 = x2 from ez9.trans ex2.symm]
    have hPc := hP.sub (ws' := [(qm, .inr (6, [.int 0, .ref (um 0), .ref (um 1), .ref (um 2), .int 0, .ref (um 3), .ref (um 4), .int 0, .int 0, .int 0, .int 0, .int 0, .long 0, .int 0, .int 0, .int 0, .int 0, .long 0, .int 0, .ref (um 5), .ref (um 6), .int 0, .int 0, .int 0, .long 0, .long 0, .ref (um 7), .ref (um 8), .ref (um 9), .ref (um 10), .ref (um 11), .ref (um 12), .ref (um 13), .ref (um 14), .ref (um 15), .ref (um 16), .ref (um 17), .ref (um 18), .ref (um 19), .ref (um 20), .int 0, .int 0, .int 0, .int 0, .int 0, .int 0, .int 0, .int 0, .int 0, .int (-1), .int (-1), .int (-1), .int 0, .int 0, .int 0, .int 0, .int 0, .int 0, .int 0, .int 0, .ref (um 21), .ref (um 22), .ref (um 23), .ref (um 24), .ref (um 25), .ref (um 26), .int 0, .long 0])), ((um 9), .inl (k 0, 136, .inl (fun _ => 0)))]) [50, 60] rfl
    have hDc := hD.sub (ws' := [(qm, .inr (6, [.int 0, .ref (um 0), .ref (um 1), .ref (um 2), .int 0, .ref (um 3), .ref (um 4), .int 0, .int 0, .int 0, .int 0, .int 0, .long 0, .int 0, .int 0, .int 0, .int 0, .long 0, .int 0, .ref (um 5), .ref (um 6), .int 0, .int 0, .int 0, .long 0, .long 0, .ref (um 7), .ref (um 8), .ref (um 9), .ref (um 10), .ref (um 11), .ref (um 12), .ref (um 13), .ref (um 14), .ref (um 15), .ref (um 16), .ref (um 17), .ref (um 18), .ref (um 19), .ref (um 20), .int 0, .int 0, .int 0, .int 0, .int 0, .int 0, .int 0, .int 0, .int 0, .int (-1), .int (-1), .int (-1), .int 0, .int 0, .int 0, .int 0, .int 0, .int 0, .int 0, .int 0, .ref (um 21), .ref (um 22), .ref (um 23), .ref (um 24), .ref (um 25), .ref (um 26), .int 0, .long 0])), ((um 9), .inl (k 0, 136, .inl (fun _ => 0)))]) [50, 60] (by decide) rfl
    have hFc := va_free (wc := [(qm, .inr (6, [.int 0, .ref (um 0), .ref (um 1), .ref (um 2), .int 0, .ref (um 3), .ref (um 4), .int 0, .int 0, .int 0, .int 0, .int 0, .long 0, .int 0, .int 0, .int 0, .int 0, .long 0, .int 0, .ref (um 5), .ref (um 6), .int 0, .int 0, .int 0, .long 0, .long 0, .ref (um 7), .ref (um 8), .ref (um 9), .ref (um 10), .ref (um 11), .ref (um 12), .ref (um 13), .ref (um 14), .ref (um 15), .ref (um 16), .ref (um 17), .ref (um 18), .ref (um 19), .ref (um 20), .int 0, .int 0, .int 0, .int 0, .int 0, .int 0, .int 0, .int 0, .int 0, .int (-1), .int (-1), .int (-1), .int 0, .int 0, .int 0, .int 0, .int 0, .int 0, .int 0, .int 0, .ref (um 21), .ref (um 22), .ref (um 23), .ref (um 24), .ref (um 25), .ref (um 26), .int 0, .long 0])), ((um 9), .inl (k 0, 136, .inl (fun _ => 0)))]) hD hS hA [50, 60] rfl
    refine va_calli (va_runV (As := [.int x1, .int x2]) (rest := [.int 0]) ⟨hx, hb, hml, hown, hts⟩ (m_hand l G k H.size qm um x1 x2) (cwV 2 hts g_law_m_hand_77 rfl rfl rfl (by decide +kernel) ⟨Nat.le_of_ble_eq_true rfl, Nat.le_of_ble_eq_true rfl⟩) ⟨pq_bl, va_recv hK hPc (ci := 6) (q0 := 0) rfl rfl, pq_pre hPc hDc hK hN⟩ rfl rfl hl.1 rfl (lv_room (Nat.le_of_ble_eq_true rfl)) dL_law_504 ⟨Nat.le_of_ble_eq_true rfl, Nat.le_of_ble_eq_true rfl⟩) hS (fun q _ h => hFc q h) hFc (fun r10 ur10 t H1 locs ht hvm hr10 hB hz1 hk1 hS => ?_)
    have hP1 : va_P G vwCl [] H1 := vP0
    have hD1 : va_D (va_A [(qm, .inr (6, [.int 0, .ref (um 0), .ref (um 1), .ref (um 2), .int 0, .ref (um 3), .ref (um 4), .int 0, .int 0, .int 0, .int 0, .int 0, .long 0, .int 0, .int 0, .int 0, .int 0, .long 0, .int 0, .ref (um 5), .ref (um 6), .int 0, .int 0, .int 0, .long 0, .long 0, .ref (um 7), .ref (um 8), .ref (um 9), .ref (um 10), .ref (um 11), .ref (um 12), .ref (um 13), .ref (um 14), .ref (um 15), .ref (um 16), .ref (um 17), .ref (um 18), .ref (um 19), .ref (um 20), .int 0, .int 0, .int 0, .int 0, .int 0, .int 0, .int 0, .int 0, .int 0, .int (-1), .int (-1), .int (-1), .int 0, .int 0, .int 0, .int 0, .int 0, .int 0, .int 0, .int 0, .ref (um 21), .ref (um 22), .ref (um 23), .ref (um 24), .ref (um 25), .ref (um 26), .int 0, .long 0])), ((um 9), .inl (k 0, 136, .inl (fun _ => 0)))] H.size) [] := vD0
    obtain ⟨hP, hD⟩ := va_join (wr := []) (w1 := []) hP hD [50, 60] [] rfl rfl (by decide) (by decide) hk1 hFc hP1 hD1
    clear hP1 hD1
    generalize H1 = H at hP hS ⊢
    replace hP : va_P G vwCl [] H := hP
    replace hD : va_D A [] := hD
    obtain rfl : r10 = 0 := hr10
    refine lv_icmp_eq (tgt := 1097) hx hb dL_law_507 (by decide) (fun _ => ?_) (fun c9 => absurd (by decide) c9)
    exact law_end l C0 hA2 hS (lv_sub hl [0, 4] rfl) (Nat.le_of_ble_eq_true rfl) (Nat.le_of_ble_eq_true rfl)
set_option maxHeartbeats 4000000 in
set_option maxRecDepth 100000 in
theorem law_12 {p : Program} {e : Env} {s : State} {m : MethodId} {below : List Frame} {meth : Method} {c : Code} (l : Launch) (hst : l.stackTraces = false) {b : Nat} {xs : Nat → Int32} (C0 : lw_At p s m meth c b 7 xs) (G : va_G) (k : Nat → ClassId) (hK : va_K G vwCl (tyF k) s) (hN : NW s) {A : Nat → Prop} (hA : ∀ q : Nat, s.heap.size ≤ q → A q) (hA2 : ∀ q : Nat, A q → s.heap.size ≤ q) (qx qm qo : Nat) (ux um : Nat → Nat) {H : Heap} {locs : List Loc} (hP : va_P G vwCl (lwW k qx qm qo ux um) H) (hD : va_D A (lwW k qx qm qo ux um)) (hS : va_S A s.heap H locs) (hXW0 : XW A s s.heap) {ls : Array Slot} (hl : lv_has ls 7 [(4, .int 0), (3, .ref qo), (2, .ref qm), (1, .ref qx), (0, .ref b)]) : W p l e room_1 s m #[Value.ref b] below meth c H locs 79 2184 (lw_Z below #[Value.ref b] s) (F0 m 512 ls []) := by
  obtain ⟨hx, hb, hr, hml, hown, hts0, hX, hbl, hlocks, hgv⟩ := id C0
  have hts := hts0
  replace hb : c.code = cL_law := hb
  replace hown : s.vm.findClass RL = some m.cls := hown
  have hbA : ¬ A b := fun h9 => Nat.not_le.mpr hbl (hA2 b h9)
  obtain ⟨x0, ex0⟩ : ∃ x : Int32, x = xs 0 := ⟨_, rfl⟩
  obtain ⟨x1, ex1⟩ : ∃ x : Int32, x = xs 1 := ⟨_, rfl⟩
  obtain ⟨x2, ex2⟩ : ∃ x : Int32, x = xs 2 := ⟨_, rfl⟩
  obtain ⟨x3, ex3⟩ : ∃ x : Int32, x = xs 3 := ⟨_, rfl⟩
  obtain ⟨x4, ex4⟩ : ∃ x : Int32, x = xs 4 := ⟨_, rfl⟩
  obtain ⟨x5, ex5⟩ : ∃ x : Int32, x = xs 5 := ⟨_, rfl⟩
  obtain ⟨x6, ex6⟩ : ∃ x : Int32, x = xs 6 := ⟨_, rfl⟩
  replace hP : va_P G vwCl [(qx, .inr (5, [.ref (ux 0), .ref (ux 1), .ref (ux 3), .ref (ux 7), .ref (ux 8), .ref (ux 13), .int 0, .int 0, .int 0, .int 0, .int 0, .int 0, .int 0, .int 0, .int 0, .int (-1), .int 0, .int 0, .long 0])), ((ux 0), .inl (k 3, 4, .inr (.inr (.inr (.inr (va_up (va_up (va_up (va_up (fun _ => none) 0 (some (ux 17))) 1 (some (ux 25))) 2 (some (ux 33))) 3 (some (ux 41)))))))), ((ux 1), .inr (3, [.ref (ux 2), .int 0, .int 0, .int 0])), ((ux 2), .inl (k 0, 136, .inl (fun _ => 0))), ((ux 3), .inr (0, [.int 0, .int 0, .int 0, .long 0, .int 0, .null, .int 0, .int 0, .int 0, .int 0, .int 0, .int 0, .long 0, .ref (ux 4), .ref (ux 5), .int 0, .long 0, .long 0, .ref (ux 6)])), ((ux 4), .inl (k 0, 4, .inl (fun _ => 0))), ((ux 5), .inl (k 0, 4, .inl (fun _ => 0))), ((ux 6), .inl (k 0, 4, .inl (fun _ => 0))), ((ux 7), .inl (k 4, 4, .inr (.inr (.inr (.inr (va_up (va_up (va_up (va_up (fun _ => none) 0 (some (ux 24))) 1 (some (ux 32))) 2 (some (ux 40))) 3 (some (ux 48)))))))), ((ux 8), .inr (2, [.ref (ux 9), .ref (ux 10), .ref (ux 11), .ref (ux 12), .int 0, .int 0])), ((ux 9), .inl (k 0, 34, .inl (fun _ => 0))), ((ux 10), .inl (k 0, 34, .inl (fun _ => 0))), ((ux 11), .inl (k 0, 4, .inl (fun _ => 0))), ((ux 12), .inl (k 0, 4, .inl (fun _ => 0))), ((ux 13), .inr (0, [.int 0, .int 0, .int 0, .long 0, .int 0, .null, .int 0, .int 0, .int 0, .int 0, .int 0, .int 0, .long 0, .ref (ux 14), .ref (ux 15), .int 0, .long 0, .long 0, .ref (ux 16)])), ((ux 14), .inl (k 0, 4, .inl (fun _ => 0))), ((ux 15), .inl (k 0, 4, .inl (fun _ => 0))), ((ux 16), .inl (k 0, 4, .inl (fun _ => 0))), ((ux 17), .inr (1, [.ref (ux 18), .ref (ux 23), .int 0, .long 0, .int 25000, .int 0, .int 0, .int 0, .int 0, .int 0])), ((ux 18), .inr (2, [.ref (ux 19), .ref (ux 20), .ref (ux 21), .ref (ux 22), .int 0, .int 0])), ((ux 19), .inl (k 0, 34, .inl (fun _ => 0))), ((ux 20), .inl (k 0, 34, .inl (fun _ => 0))), ((ux 21), .inl (k 0, 4, .inl (fun _ => 0))), ((ux 22), .inl (k 0, 4, .inl (fun _ => 0))), ((ux 23), .inl (k 0, 86, .inl (fun _ => 0))), ((ux 24), .inr (4, [.int 0, .int 0, .int 0, .int 0, .int 0, .int 0, .int 0, .long 0])), ((ux 25), .inr (1, [.ref (ux 26), .ref (ux 31), .int 0, .long 0, .int 25000, .int 0, .int 0, .int 0, .int 0, .int 0])), ((ux 26), .inr (2, [.ref (ux 27), .ref (ux 28), .ref (ux 29), .ref (ux 30), .int 0, .int 0])), ((ux 27), .inl (k 0, 34, .inl (fun _ => 0))), ((ux 28), .inl (k 0, 34, .inl (fun _ => 0))), ((ux 29), .inl (k 0, 4, .inl (fun _ => 0))), ((ux 30), .inl (k 0, 4, .inl (fun _ => 0))), ((ux 31), .inl (k 0, 86, .inl (fun _ => 0))), ((ux 32), .inr (4, [.int 0, .int 0, .int 0, .int 0, .int 0, .int 0, .int 0, .long 0])), ((ux 33), .inr (1, [.ref (ux 34), .ref (ux 39), .int 0, .long 0, .int 25000, .int 0, .int 0, .int 0, .int 0, .int 0])), ((ux 34), .inr (2, [.ref (ux 35), .ref (ux 36), .ref (ux 37), .ref (ux 38), .int 0, .int 0])), ((ux 35), .inl (k 0, 34, .inl (fun _ => 0))), ((ux 36), .inl (k 0, 34, .inl (fun _ => 0))), ((ux 37), .inl (k 0, 4, .inl (fun _ => 0))), ((ux 38), .inl (k 0, 4, .inl (fun _ => 0))), ((ux 39), .inl (k 0, 86, .inl (fun _ => 0))), ((ux 40), .inr (4, [.int 0, .int 0, .int 0, .int 0, .int 0, .int 0, .int 0, .long 0])), ((ux 41), .inr (1, [.ref (ux 42), .ref (ux 47), .int 0, .long 0, .int 25000, .int 0, .int 0, .int 0, .int 0, .int 0])), ((ux 42), .inr (2, [.ref (ux 43), .ref (ux 44), .ref (ux 45), .ref (ux 46), .int 0, .int 0])), ((ux 43), .inl (k 0, 34, .inl (fun _ => 0))), ((ux 44), .inl (k 0, 34, .inl (fun _ => 0))), ((ux 45), .inl (k 0, 4, .inl (fun _ => 0))), ((ux 46), .inl (k 0, 4, .inl (fun _ => 0))), ((ux 47), .inl (k 0, 86, .inl (fun _ => 0))), ((ux 48), .inr (4, [.int 0, .int 0, .int 0, .int 0, .int 0, .int 0, .int 0, .long 0])), (qm, .inr (6, [.int 0, .ref (um 0), .ref (um 1), .ref (um 2), .int 0, .ref (um 3), .ref (um 4), .int 0, .int 0, .int 0, .int 0, .int 0, .long 0, .int 0, .int 0, .int 0, .int 0, .long 0, .int 0, .ref (um 5), .ref (um 6), .int 0, .int 0, .int 0, .long 0, .long 0, .ref (um 7), .ref (um 8), .ref (um 9), .ref (um 10), .ref (um 11), .ref (um 12), .ref (um 13), .ref (um 14), .ref (um 15), .ref (um 16), .ref (um 17), .ref (um 18), .ref (um 19), .ref (um 20), .int 0, .int 0, .int 0, .int 0, .int 0, .int 0, .int 0, .int 0, .int 0, .int (-1), .int (-1), .int (-1), .int 0, .int 0, .int 0, .int 0, .int 0, .int 0, .int 0, .int 0, .ref (um 21), .ref (um 22), .ref (um 23), .ref (um 24), .ref (um 25), .ref (um 26), .int 0, .long 0])), ((um 0), .inl (k 0, 34, .inl (fun _ => 0))), ((um 1), .inl (k 0, 8, .inl (fun _ => 0))), ((um 2), .inl (k 0, 8, .inl (fun _ => 0))), ((um 3), .inl (k 0, 5, .inl (fun _ => 0))), ((um 4), .inl (k 0, 5, .inl (fun _ => 0))), ((um 5), .inl (k 0, 4, .inl (fun _ => 0))), ((um 6), .inl (k 0, 4, .inl (fun _ => 0))), ((um 7), .inl (k 0, 34, .inl (fun _ => 0))), ((um 8), .inl (k 0, 136, .inl (fun _ => 0))), ((um 9), .inl (k 0, 136, .inl (fun _ => 0))), ((um 10), .inl (k 0, 4, .inl (upd (upd (upd (upd (fun _ => 0) (0 : Int32).toNatClampNeg 25000) (1 : Int32).toNatClampNeg 25000) (2 : Int32).toNatClampNeg 25000) (3 : Int32).toNatClampNeg 25000))), ((um 11), .inl (k 0, 16, .inl (fun _ => 0))), ((um 12), .inl (k 0, 16, .inl (fun _ => 0))), ((um 13), .inl (k 0, 4, .inl (fun _ => 0))), ((um 14), .inl (k 0, 544, .inl (fun _ => 0))), ((um 15), .inl (k 0, 4, .inl (fun _ => 0))), ((um 16), .inl (k 0, 4, .inl (fun _ => 0))), ((um 17), .inl (k 0, 4, .inl (fun _ => 0))), ((um 18), .inl (k 2, 4, .inl (fun _ => 0))), ((um 19), .inl (k 2, 4, .inl (fun _ => 0))), ((um 20), .inl (k 2, 4, .inl (fun _ => 0))), ((um 21), .inl (k 0, 28, .inl (fun _ => 0))), ((um 22), .inl (k 1, 4, .inr (.inl (fun _ => 0)))), ((um 23), .inl (k 0, 34, .inl (fun _ => 0))), ((um 24), .inl (k 0, 4, .inl (fun _ => 0))), ((um 25), .inl (k 0, 4, .inl (fun _ => 0))), ((um 26), .inl (k 0, 4, .inl (fun _ => 0))), (qo, .inl (k 1, 1, .inr (.inl (fun _ => 0))))] H := hP
  replace hD : va_D A [(qx, .inr (5, [.ref (ux 0), .ref (ux 1), .ref (ux 3), .ref (ux 7), .ref (ux 8), .ref (ux 13), .int 0, .int 0, .int 0, .int 0, .int 0, .int 0, .int 0, .int 0, .int 0, .int (-1), .int 0, .int 0, .long 0])), ((ux 0), .inl (k 3, 4, .inr (.inr (.inr (.inr (va_up (va_up (va_up (va_up (fun _ => none) 0 (some (ux 17))) 1 (some (ux 25))) 2 (some (ux 33))) 3 (some (ux 41)))))))), ((ux 1), .inr (3, [.ref (ux 2), .int 0, .int 0, .int 0])), ((ux 2), .inl (k 0, 136, .inl (fun _ => 0))), ((ux 3), .inr (0, [.int 0, .int 0, .int 0, .long 0, .int 0, .null, .int 0, .int 0, .int 0, .int 0, .int 0, .int 0, .long 0, .ref (ux 4), .ref (ux 5), .int 0, .long 0, .long 0, .ref (ux 6)])), ((ux 4), .inl (k 0, 4, .inl (fun _ => 0))), ((ux 5), .inl (k 0, 4, .inl (fun _ => 0))), ((ux 6), .inl (k 0, 4, .inl (fun _ => 0))), ((ux 7), .inl (k 4, 4, .inr (.inr (.inr (.inr (va_up (va_up (va_up (va_up (fun _ => none) 0 (some (ux 24))) 1 (some (ux 32))) 2 (some (ux 40))) 3 (some (ux 48)))))))), ((ux 8), .inr (2, [.ref (ux 9), .ref (ux 10), .ref (ux 11), .ref (ux 12), .int 0, .int 0])), ((ux 9), .inl (k 0, 34, .inl (fun _ => 0))), ((ux 10), .inl (k 0, 34, .inl (fun _ => 0))), ((ux 11), .inl (k 0, 4, .inl (fun _ => 0))), ((ux 12), .inl (k 0, 4, .inl (fun _ => 0))), ((ux 13), .inr (0, [.int 0, .int 0, .int 0, .long 0, .int 0, .null, .int 0, .int 0, .int 0, .int 0, .int 0, .int 0, .long 0, .ref (ux 14), .ref (ux 15), .int 0, .long 0, .long 0, .ref (ux 16)])), ((ux 14), .inl (k 0, 4, .inl (fun _ => 0))), ((ux 15), .inl (k 0, 4, .inl (fun _ => 0))), ((ux 16), .inl (k 0, 4, .inl (fun _ => 0))), ((ux 17), .inr (1, [.ref (ux 18), .ref (ux 23), .int 0, .long 0, .int 25000, .int 0, .int 0, .int 0, .int 0, .int 0])), ((ux 18), .inr (2, [.ref (ux 19), .ref (ux 20), .ref (ux 21), .ref (ux 22), .int 0, .int 0])), ((ux 19), .inl (k 0, 34, .inl (fun _ => 0))), ((ux 20), .inl (k 0, 34, .inl (fun _ => 0))), ((ux 21), .inl (k 0, 4, .inl (fun _ => 0))), ((ux 22), .inl (k 0, 4, .inl (fun _ => 0))), ((ux 23), .inl (k 0, 86, .inl (fun _ => 0))), ((ux 24), .inr (4, [.int 0, .int 0, .int 0, .int 0, .int 0, .int 0, .int 0, .long 0])), ((ux 25), .inr (1, [.ref (ux 26), .ref (ux 31), .int 0, .long 0, .int 25000, .int 0, .int 0, .int 0, .int 0, .int 0])), ((ux 26), .inr (2, [.ref (ux 27), .ref (ux 28), .ref (ux 29), .ref (ux 30), .int 0, .int 0])), ((ux 27), .inl (k 0, 34, .inl (fun _ => 0))), ((ux 28), .inl (k 0, 34, .inl (fun _ => 0))), ((ux 29), .inl (k 0, 4, .inl (fun _ => 0))), ((ux 30), .inl (k 0, 4, .inl (fun _ => 0))), ((ux 31), .inl (k 0, 86, .inl (fun _ => 0))), ((ux 32), .inr (4, [.int 0, .int 0, .int 0, .int 0, .int 0, .int 0, .int 0, .long 0])), ((ux 33), .inr (1, [.ref (ux 34), .ref (ux 39), .int 0, .long 0, .int 25000, .int 0, .int 0, .int 0, .int 0, .int 0])), ((ux 34), .inr (2, [.ref (ux 35), .ref (ux 36), .ref (ux 37), .ref (ux 38), .int 0, .int 0])), ((ux 35), .inl (k 0, 34, .inl (fun _ => 0))), ((ux 36), .inl (k 0, 34, .inl (fun _ => 0))), ((ux 37), .inl (k 0, 4, .inl (fun _ => 0))), ((ux 38), .inl (k 0, 4, .inl (fun _ => 0))), ((ux 39), .inl (k 0, 86, .inl (fun _ => 0))), ((ux 40), .inr (4, [.int 0, .int 0, .int 0, .int 0, .int 0, .int 0, .int 0, .long 0])), ((ux 41), .inr (1, [.ref (ux 42), .ref (ux 47), .int 0, .long 0, .int 25000, .int 0, .int 0, .int 0, .int 0, .int 0])), ((ux 42), .inr (2, [.ref (ux 43), .ref (ux 44), .ref (ux 45), .ref (ux 46), .int 0, .int 0])), ((ux 43), .inl (k 0, 34, .inl (fun _ => 0))), ((ux 44), .inl (k 0, 34, .inl (fun _ => 0))), ((ux 45), .inl (k 0, 4, .inl (fun _ => 0))), ((ux 46), .inl (k 0, 4, .inl (fun _ => 0))), ((ux 47), .inl (k 0, 86, .inl (fun _ => 0))), ((ux 48), .inr (4, [.int 0, .int 0, .int 0, .int 0, .int 0, .int 0, .int 0, .long 0])), (qm, .inr (6, [.int 0, .ref (um 0), .ref (um 1), .ref (um 2), .int 0, .ref (um 3), .ref (um 4), .int 0, .int 0, .int 0, .int 0, .int 0, .long 0, .int 0, .int 0, .int 0, .int 0, .long 0, .int 0, .ref (um 5), .ref (um 6), .int 0, .int 0, .int 0, .long 0, .long 0, .ref (um 7), .ref (um 8), .ref (um 9), .ref (um 10), .ref (um 11), .ref (um 12), .ref (um 13), .ref (um 14), .ref (um 15), .ref (um 16), .ref (um 17), .ref (um 18), .ref (um 19), .ref (um 20), .int 0, .int 0, .int 0, .int 0, .int 0, .int 0, .int 0, .int 0, .int 0, .int (-1), .int (-1), .int (-1), .int 0, .int 0, .int 0, .int 0, .int 0, .int 0, .int 0, .int 0, .ref (um 21), .ref (um 22), .ref (um 23), .ref (um 24), .ref (um 25), .ref (um 26), .int 0, .long 0])), ((um 0), .inl (k 0, 34, .inl (fun _ => 0))), ((um 1), .inl (k 0, 8, .inl (fun _ => 0))), ((um 2), .inl (k 0, 8, .inl (fun _ => 0))), ((um 3), .inl (k 0, 5, .inl (fun _ => 0))), ((um 4), .inl (k 0, 5, .inl (fun _ => 0))), ((um 5), .inl (k 0, 4, .inl (fun _ => 0))), ((um 6), .inl (k 0, 4, .inl (fun _ => 0))), ((um 7), .inl (k 0, 34, .inl (fun _ => 0))), ((um 8), .inl (k 0, 136, .inl (fun _ => 0))), ((um 9), .inl (k 0, 136, .inl (fun _ => 0))), ((um 10), .inl (k 0, 4, .inl (upd (upd (upd (upd (fun _ => 0) (0 : Int32).toNatClampNeg 25000) (1 : Int32).toNatClampNeg 25000) (2 : Int32).toNatClampNeg 25000) (3 : Int32).toNatClampNeg 25000))), ((um 11), .inl (k 0, 16, .inl (fun _ => 0))), ((um 12), .inl (k 0, 16, .inl (fun _ => 0))), ((um 13), .inl (k 0, 4, .inl (fun _ => 0))), ((um 14), .inl (k 0, 544, .inl (fun _ => 0))), ((um 15), .inl (k 0, 4, .inl (fun _ => 0))), ((um 16), .inl (k 0, 4, .inl (fun _ => 0))), ((um 17), .inl (k 0, 4, .inl (fun _ => 0))), ((um 18), .inl (k 2, 4, .inl (fun _ => 0))), ((um 19), .inl (k 2, 4, .inl (fun _ => 0))), ((um 20), .inl (k 2, 4, .inl (fun _ => 0))), ((um 21), .inl (k 0, 28, .inl (fun _ => 0))), ((um 22), .inl (k 1, 4, .inr (.inl (fun _ => 0)))), ((um 23), .inl (k 0, 34, .inl (fun _ => 0))), ((um 24), .inl (k 0, 4, .inl (fun _ => 0))), ((um 25), .inl (k 0, 4, .inl (fun _ => 0))), ((um 26), .inl (k 0, 4, .inl (fun _ => 0))), (qo, .inl (k 1, 1, .inr (.inl (fun _ => 0))))] := hD
  rcases seat5 x1 with hsv | hsv | hsv | hsv | hseat
  · skip
    subst hsv
    refine lv_aload_n hx hb dL_law_512 rfl (lv_at hl 3 rfl) ?_
    refine lv_aload_n hx hb dL_law_513 rfl (lv_at hl 4 rfl) ?_
    refine lv_iload hx hb dL_law_514 (lv_at hl 0 rfl) ?_
    refine lv_iconst (v := 1) hx hb dL_law_516 (by decide) ?_
    refine lv_iadd hx hb dL_law_517 ?_
    refine lv_topi (fun z1 ez1 => ?_)
    obtain rfl : z1 = 1 := ez1.trans (by decide)
    refine va_sld hx hb hX hbl hbA hS (inC (by decide) (by decide)) dL_law_518 ?_
    refine lv_topi (fun z2 ez2 => ?_)
    obtain rfl : z2 = 0 := ez2.trans ex1.symm
    refine lv_aload_n hx hb dL_law_519 rfl (lv_at hl 4 rfl) ?_
    refine lv_iload hx hb dL_law_520 (lv_at hl 0 rfl) ?_
    refine lv_iconst (v := 2) hx hb dL_law_522 (by decide) ?_
    refine lv_iadd hx hb dL_law_523 ?_
    refine lv_topi (fun z3 ez3 => ?_)
    obtain rfl : z3 = 2 := ez3.trans (by decide)
    refine va_sld hx hb hX hbl hbA hS (inC (by decide) (by decide)) dL_law_524 ?_
    refine lv_topi (fun z4 ez4 => ?_)
    rw [show z4 = x2 from ez4.trans ex2.symm]
    refine lv_aload_n hx hb dL_law_525 rfl (lv_at hl 4 rfl) ?_
    refine lv_iload hx hb dL_law_526 (lv_at hl 0 rfl) ?_
    refine lv_iconst (v := 3) hx hb dL_law_528 (by decide) ?_
    refine lv_iadd hx hb dL_law_529 ?_
    refine lv_topi (fun z5 ez5 => ?_)
    obtain rfl : z5 = 3 := ez5.trans (by decide)
    refine va_sld hx hb hX hbl hbA hS (inC (by decide) (by decide)) dL_law_530 ?_
    refine lv_topi (fun z6 ez6 => ?_)
    rw [show z6 = x3 from ez6.trans ex3.symm]
    have hPc := hP.sub (ws' := [(qx, .inr (5, [.ref (ux 0), .ref (ux 1), .ref (ux 3), .ref (ux 7), .ref (ux 8), .ref (ux 13), .int 0, .int 0, .int 0, .int 0, .int 0, .int 0, .int 0, .int 0, .int 0, .int (-1), .int 0, .int 0, .long 0])), ((ux 0), .inl (k 3, 4, .inr (.inr (.inr (.inr (va_up (va_up (va_up (va_up (fun _ => none) 0 (some (ux 17))) 1 (some (ux 25))) 2 (some (ux 33))) 3 (some (ux 41)))))))), ((ux 17), .inr (1, [.ref (ux 18), .ref (ux 23), .int 0, .long 0, .int 25000, .int 0, .int 0, .int 0, .int 0, .int 0])), ((ux 18), .inr (2, [.ref (ux 19), .ref (ux 20), .ref (ux 21), .ref (ux 22), .int 0, .int 0]))]) [0, 1, 18, 19] rfl
    refine q_calli (va_runV (As := [.int 0, .int x2, .int x3]) (rest := []) ⟨hx, hb, hml, hown, hts⟩ (c_X6_laid0 l G k qx (ux 0) (va_up (va_up (va_up (va_up (fun _ => none) 0 (some (ux 17))) 1 (some (ux 25))) 2 (some (ux 33))) 3 (some (ux 41))) (fun j => ([(ux 17), (ux 25), (ux 33), (ux 41)] : List Nat).getD j 0) (fun j hj => by rcases (show j = 0 ∨ j = 1 ∨ j = 2 ∨ j = 3 by omega) with rfl | rfl | rfl | rfl <;> rfl) (ux 17) (ux 18) 0 x2 x3 (fun _ => rfl) (.ref (ux 1)) (.ref (ux 3)) (.ref (ux 7)) (.ref (ux 8)) (.ref (ux 13)) (.int 0) (.int 0) (.int 0) (.int 0) (.int 0) (.int 0) (.int 0) (.int 0) (.int 0) (.int (-1)) (.int 0) (.int 0) (.long 0) (.ref (ux 23)) (.int 0) (.long 0) (.int 25000) (.int 0) (.int 0) (.int 0) (.int 0) (.int 0) (.ref (ux 19)) (.ref (ux 20)) (.ref (ux 21)) (.ref (ux 22)) (.int 0)) (cwV 3 hts g_law_c_X6_laid0_78 rfl rfl rfl (by decide +kernel) ⟨Nat.le_of_ble_eq_true rfl, Nat.le_of_ble_eq_true rfl⟩) ⟨pr_bl, va_recv hK hPc (ci := 5) (q0 := 0) rfl rfl, pr_pre hPc hK hN⟩ rfl rfl hl.1 rfl (lv_room (Nat.le_of_ble_eq_true rfl)) dL_law_531 ⟨Nat.le_of_ble_eq_true rfl, Nat.le_of_ble_eq_true rfl⟩) (fun r7 hr7 => ?_)
    obtain rfl : r7 = (-1) := hr7
    refine lv_aload_n hx hb dL_law_534 rfl (lv_at hl 2 rfl) ?_
    refine lv_aload_n hx hb dL_law_535 rfl (lv_at hl 4 rfl) ?_
    refine lv_iload hx hb dL_law_536 (lv_at hl 0 rfl) ?_
    refine lv_iconst (v := 1) hx hb dL_law_538 (by decide) ?_
    refine lv_iadd hx hb dL_law_539 ?_
    refine lv_topi (fun z8 ez8 => ?_)
    obtain rfl : z8 = 1 := ez8.trans (by decide)
    refine va_sld hx hb hX hbl hbA hS (inC (by decide) (by decide)) dL_law_540 ?_
    refine lv_topi (fun z9 ez9 => ?_)
    obtain rfl : z9 = 0 := ez9.trans ex1.symm
    refine lv_aload_n hx hb dL_law_541 rfl (lv_at hl 4 rfl) ?_
    refine lv_iload hx hb dL_law_542 (lv_at hl 0 rfl) ?_
    refine lv_iconst (v := 2) hx hb dL_law_544 (by decide) ?_
    refine lv_iadd hx hb dL_law_545 ?_
    refine lv_topi (fun z10 ez10 => ?_)
    obtain rfl : z10 = 2 := ez10.trans (by decide)
    refine va_sld hx hb hX hbl hbA hS (inC (by decide) (by decide)) dL_law_546 ?_
    refine lv_topi (fun z11 ez11 => ?_)
    rw [show z11 = x2 from ez11.trans ex2.symm]
    refine lv_aload_n hx hb dL_law_547 rfl (lv_at hl 4 rfl) ?_
    refine lv_iload hx hb dL_law_548 (lv_at hl 0 rfl) ?_
    refine lv_iconst (v := 3) hx hb dL_law_550 (by decide) ?_
    refine lv_iadd hx hb dL_law_551 ?_
    refine lv_topi (fun z12 ez12 => ?_)
    obtain rfl : z12 = 3 := ez12.trans (by decide)
    refine va_sld hx hb hX hbl hbA hS (inC (by decide) (by decide)) dL_law_552 ?_
    refine lv_topi (fun z13 ez13 => ?_)
    rw [show z13 = x3 from ez13.trans ex3.symm]
    have hPc := hP.sub (ws' := [(qm, .inr (6, [.int 0, .ref (um 0), .ref (um 1), .ref (um 2), .int 0, .ref (um 3), .ref (um 4), .int 0, .int 0, .int 0, .int 0, .int 0, .long 0, .int 0, .int 0, .int 0, .int 0, .long 0, .int 0, .ref (um 5), .ref (um 6), .int 0, .int 0, .int 0, .long 0, .long 0, .ref (um 7), .ref (um 8), .ref (um 9), .ref (um 10), .ref (um 11), .ref (um 12), .ref (um 13), .ref (um 14), .ref (um 15), .ref (um 16), .ref (um 17), .ref (um 18), .ref (um 19), .ref (um 20), .int 0, .int 0, .int 0, .int 0, .int 0, .int 0, .int 0, .int 0, .int 0, .int (-1), .int (-1), .int (-1), .int 0, .int 0, .int 0, .int 0, .int 0, .int 0, .int 0, .int 0, .ref (um 21), .ref (um 22), .ref (um 23), .ref (um 24), .ref (um 25), .ref (um 26), .int 0, .long 0])), ((um 13), .inl (k 0, 4, .inl (fun _ => 0)))]) [50, 64] rfl
    have hDc := hD.sub (ws' := [(qm, .inr (6, [.int 0, .ref (um 0), .ref (um 1), .ref (um 2), .int 0, .ref (um 3), .ref (um 4), .int 0, .int 0, .int 0, .int 0, .int 0, .long 0, .int 0, .int 0, .int 0, .int 0, .long 0, .int 0, .ref (um 5), .ref (um 6), .int 0, .int 0, .int 0, .long 0, .long 0, .ref (um 7), .ref (um 8), .ref (um 9), .ref (um 10), .ref (um 11), .ref (um 12), .ref (um 13), .ref (um 14), .ref (um 15), .ref (um 16), .ref (um 17), .ref (um 18), .ref (um 19), .ref (um 20), .int 0, .int 0, .int 0, .int 0, .int 0, .int 0, .int 0, .int 0, .int 0, .int (-1), .int (-1), .int (-1), .int 0, .int 0, .int 0, .int 0, .int 0, .int 0, .int 0, .int 0, .ref (um 21), .ref (um 22), .ref (um 23), .ref (um 24), .ref (um 25), .ref (um 26), .int 0, .long 0])), ((um 13), .inl (k 0, 4, .inl (fun _ => 0)))]) [50, 64] (by decide) rfl
    have hFc := va_free (wc := [(qm, .inr (6, [.int 0, .ref (um 0), .ref (um 1), .ref (um 2), .int 0, .ref (um 3), .ref (um 4), .int 0, .int 0, .int 0, .int 0, .int 0, .long 0, .int 0, .int 0, .int 0, .int 0, .long 0, .int 0, .ref (um 5), .ref (um 6), .int 0, .int 0, .int 0, .long 0, .long 0, .ref (um 7), .ref (um 8), .ref (um 9), .ref (um 10), .ref (um 11), .ref (um 12), .ref (um 13), .ref (um 14), .ref (um 15), .ref (um 16), .ref (um 17), .ref (um 18), .ref (um 19), .ref (um 20), .int 0, .int 0, .int 0, .int 0, .int 0, .int 0, .int 0, .int 0, .int 0, .int (-1), .int (-1), .int (-1), .int 0, .int 0, .int 0, .int 0, .int 0, .int 0, .int 0, .int 0, .ref (um 21), .ref (um 22), .ref (um 23), .ref (um 24), .ref (um 25), .ref (um 26), .int 0, .long 0])), ((um 13), .inl (k 0, 4, .inl (fun _ => 0)))]) hD hS hA [50, 64] rfl
    refine va_calli (va_runV (As := [.int 0, .int x2, .int x3]) (rest := [.int (-1)]) ⟨hx, hb, hml, hown, hts⟩ (m_laid l G k H.size qm um 0 x2 x3) (cwV 3 hts g_law_m_laid_82 rfl rfl rfl (by decide +kernel) ⟨Nat.le_of_ble_eq_true rfl, Nat.le_of_ble_eq_true rfl⟩) ⟨pq_bl, va_recv hK hPc (ci := 6) (q0 := 0) rfl rfl, pq_pre hPc hDc hK hN⟩ rfl rfl hl.1 rfl (lv_room (Nat.le_of_ble_eq_true rfl)) dL_law_553 ⟨Nat.le_of_ble_eq_true rfl, Nat.le_of_ble_eq_true rfl⟩) hS (fun q _ h => hFc q h) hFc (fun r14 ur14 t H1 locs ht hvm hr14 hB hz1 hk1 hS => ?_)
    have hP1 : va_P G vwCl [] H1 := vP0
    have hD1 : va_D (va_A [(qm, .inr (6, [.int 0, .ref (um 0), .ref (um 1), .ref (um 2), .int 0, .ref (um 3), .ref (um 4), .int 0, .int 0, .int 0, .int 0, .int 0, .long 0, .int 0, .int 0, .int 0, .int 0, .long 0, .int 0, .ref (um 5), .ref (um 6), .int 0, .int 0, .int 0, .long 0, .long 0, .ref (um 7), .ref (um 8), .ref (um 9), .ref (um 10), .ref (um 11), .ref (um 12), .ref (um 13), .ref (um 14), .ref (um 15), .ref (um 16), .ref (um 17), .ref (um 18), .ref (um 19), .ref (um 20), .int 0, .int 0, .int 0, .int 0, .int 0, .int 0, .int 0, .int 0, .int 0, .int (-1), .int (-1), .int (-1), .int 0, .int 0, .int 0, .int 0, .int 0, .int 0, .int 0, .int 0, .ref (um 21), .ref (um 22), .ref (um 23), .ref (um 24), .ref (um 25), .ref (um 26), .int 0, .long 0])), ((um 13), .inl (k 0, 4, .inl (fun _ => 0)))] H.size) [] := vD0
    obtain ⟨hP, hD⟩ := va_join (wr := []) (w1 := []) hP hD [50, 64] [] rfl rfl (by decide) (by decide) hk1 hFc hP1 hD1
    clear hP1 hD1
    generalize H1 = H at hP hS ⊢
    replace hP : va_P G vwCl [] H := hP
    replace hD : va_D A [] := hD
    obtain rfl : r14 = (-1) := hr14
    refine lv_icmp_eq (tgt := 1097) hx hb dL_law_556 (by decide) (fun _ => ?_) (fun c9 => absurd (by decide) c9)
    exact law_end l C0 hA2 hS (lv_sub hl [0, 4] rfl) (Nat.le_of_ble_eq_true rfl) (Nat.le_of_ble_eq_true rfl)
  · skip
    subst hsv
    refine lv_aload_n hx hb dL_law_512 rfl (lv_at hl 3 rfl) ?_
    refine lv_aload_n hx hb dL_law_513 rfl (lv_at hl 4 rfl) ?_
    refine lv_iload hx hb dL_law_514 (lv_at hl 0 rfl) ?_
    refine lv_iconst (v := 1) hx hb dL_law_516 (by decide) ?_
    refine lv_iadd hx hb dL_law_517 ?_
    refine lv_topi (fun z1 ez1 => ?_)
    obtain rfl : z1 = 1 := ez1.trans (by decide)
    refine va_sld hx hb hX hbl hbA hS (inC (by decide) (by decide)) dL_law_518 ?_
    refine lv_topi (fun z2 ez2 => ?_)
    obtain rfl : z2 = 1 := ez2.trans ex1.symm
    refine lv_aload_n hx hb dL_law_519 rfl (lv_at hl 4 rfl) ?_
    refine lv_iload hx hb dL_law_520 (lv_at hl 0 rfl) ?_
    refine lv_iconst (v := 2) hx hb dL_law_522 (by decide) ?_
    refine lv_iadd hx hb dL_law_523 ?_
    refine lv_topi (fun z3 ez3 => ?_)
    obtain rfl : z3 = 2 := ez3.trans (by decide)
    refine va_sld hx hb hX hbl hbA hS (inC (by decide) (by decide)) dL_law_524 ?_
    refine lv_topi (fun z4 ez4 => ?_)
    rw [show z4 = x2 from ez4.trans ex2.symm]
    refine lv_aload_n hx hb dL_law_525 rfl (lv_at hl 4 rfl) ?_
    refine lv_iload hx hb dL_law_526 (lv_at hl 0 rfl) ?_
    refine lv_iconst (v := 3) hx hb dL_law_528 (by decide) ?_
    refine lv_iadd hx hb dL_law_529 ?_
    refine lv_topi (fun z5 ez5 => ?_)
    obtain rfl : z5 = 3 := ez5.trans (by decide)
    refine va_sld hx hb hX hbl hbA hS (inC (by decide) (by decide)) dL_law_530 ?_
    refine lv_topi (fun z6 ez6 => ?_)
    rw [show z6 = x3 from ez6.trans ex3.symm]
    have hPc := hP.sub (ws' := [(qx, .inr (5, [.ref (ux 0), .ref (ux 1), .ref (ux 3), .ref (ux 7), .ref (ux 8), .ref (ux 13), .int 0, .int 0, .int 0, .int 0, .int 0, .int 0, .int 0, .int 0, .int 0, .int (-1), .int 0, .int 0, .long 0])), ((ux 0), .inl (k 3, 4, .inr (.inr (.inr (.inr (va_up (va_up (va_up (va_up (fun _ => none) 0 (some (ux 17))) 1 (some (ux 25))) 2 (some (ux 33))) 3 (some (ux 41)))))))), ((ux 25), .inr (1, [.ref (ux 26), .ref (ux 31), .int 0, .long 0, .int 25000, .int 0, .int 0, .int 0, .int 0, .int 0])), ((ux 26), .inr (2, [.ref (ux 27), .ref (ux 28), .ref (ux 29), .ref (ux 30), .int 0, .int 0]))]) [0, 1, 26, 27] rfl
    refine q_calli (va_runV (As := [.int 1, .int x2, .int x3]) (rest := []) ⟨hx, hb, hml, hown, hts⟩ (c_X6_laid0 l G k qx (ux 0) (va_up (va_up (va_up (va_up (fun _ => none) 0 (some (ux 17))) 1 (some (ux 25))) 2 (some (ux 33))) 3 (some (ux 41))) (fun j => ([(ux 17), (ux 25), (ux 33), (ux 41)] : List Nat).getD j 0) (fun j hj => by rcases (show j = 0 ∨ j = 1 ∨ j = 2 ∨ j = 3 by omega) with rfl | rfl | rfl | rfl <;> rfl) (ux 25) (ux 26) 1 x2 x3 (fun _ => rfl) (.ref (ux 1)) (.ref (ux 3)) (.ref (ux 7)) (.ref (ux 8)) (.ref (ux 13)) (.int 0) (.int 0) (.int 0) (.int 0) (.int 0) (.int 0) (.int 0) (.int 0) (.int 0) (.int (-1)) (.int 0) (.int 0) (.long 0) (.ref (ux 31)) (.int 0) (.long 0) (.int 25000) (.int 0) (.int 0) (.int 0) (.int 0) (.int 0) (.ref (ux 27)) (.ref (ux 28)) (.ref (ux 29)) (.ref (ux 30)) (.int 0)) (cwV 3 hts g_law_c_X6_laid0_78 rfl rfl rfl (by decide +kernel) ⟨Nat.le_of_ble_eq_true rfl, Nat.le_of_ble_eq_true rfl⟩) ⟨pr_bl, va_recv hK hPc (ci := 5) (q0 := 0) rfl rfl, pr_pre hPc hK hN⟩ rfl rfl hl.1 rfl (lv_room (Nat.le_of_ble_eq_true rfl)) dL_law_531 ⟨Nat.le_of_ble_eq_true rfl, Nat.le_of_ble_eq_true rfl⟩) (fun r7 hr7 => ?_)
    obtain rfl : r7 = (-1) := hr7
    refine lv_aload_n hx hb dL_law_534 rfl (lv_at hl 2 rfl) ?_
    refine lv_aload_n hx hb dL_law_535 rfl (lv_at hl 4 rfl) ?_
    refine lv_iload hx hb dL_law_536 (lv_at hl 0 rfl) ?_
    refine lv_iconst (v := 1) hx hb dL_law_538 (by decide) ?_
    refine lv_iadd hx hb dL_law_539 ?_
    refine lv_topi (fun z8 ez8 => ?_)
    obtain rfl : z8 = 1 := ez8.trans (by decide)
    refine va_sld hx hb hX hbl hbA hS (inC (by decide) (by decide)) dL_law_540 ?_
    refine lv_topi (fun z9 ez9 => ?_)
    obtain rfl : z9 = 1 := ez9.trans ex1.symm
    refine lv_aload_n hx hb dL_law_541 rfl (lv_at hl 4 rfl) ?_
    refine lv_iload hx hb dL_law_542 (lv_at hl 0 rfl) ?_
    refine lv_iconst (v := 2) hx hb dL_law_544 (by decide) ?_
    refine lv_iadd hx hb dL_law_545 ?_
    refine lv_topi (fun z10 ez10 => ?_)
    obtain rfl : z10 = 2 := ez10.trans (by decide)
    refine va_sld hx hb hX hbl hbA hS (inC (by decide) (by decide)) dL_law_546 ?_
    refine lv_topi (fun z11 ez11 => ?_)
    rw [show z11 = x2 from ez11.trans ex2.symm]
    refine lv_aload_n hx hb dL_law_547 rfl (lv_at hl 4 rfl) ?_
    refine lv_iload hx hb dL_law_548 (lv_at hl 0 rfl) ?_
    refine lv_iconst (v := 3) hx hb dL_law_550 (by decide) ?_
    refine lv_iadd hx hb dL_law_551 ?_
    refine lv_topi (fun z12 ez12 => ?_)
    obtain rfl : z12 = 3 := ez12.trans (by decide)
    refine va_sld hx hb hX hbl hbA hS (inC (by decide) (by decide)) dL_law_552 ?_
    refine lv_topi (fun z13 ez13 => ?_)
    rw [show z13 = x3 from ez13.trans ex3.symm]
    have hPc := hP.sub (ws' := [(qm, .inr (6, [.int 0, .ref (um 0), .ref (um 1), .ref (um 2), .int 0, .ref (um 3), .ref (um 4), .int 0, .int 0, .int 0, .int 0, .int 0, .long 0, .int 0, .int 0, .int 0, .int 0, .long 0, .int 0, .ref (um 5), .ref (um 6), .int 0, .int 0, .int 0, .long 0, .long 0, .ref (um 7), .ref (um 8), .ref (um 9), .ref (um 10), .ref (um 11), .ref (um 12), .ref (um 13), .ref (um 14), .ref (um 15), .ref (um 16), .ref (um 17), .ref (um 18), .ref (um 19), .ref (um 20), .int 0, .int 0, .int 0, .int 0, .int 0, .int 0, .int 0, .int 0, .int 0, .int (-1), .int (-1), .int (-1), .int 0, .int 0, .int 0, .int 0, .int 0, .int 0, .int 0, .int 0, .ref (um 21), .ref (um 22), .ref (um 23), .ref (um 24), .ref (um 25), .ref (um 26), .int 0, .long 0])), ((um 13), .inl (k 0, 4, .inl (fun _ => 0)))]) [50, 64] rfl
    have hDc := hD.sub (ws' := [(qm, .inr (6, [.int 0, .ref (um 0), .ref (um 1), .ref (um 2), .int 0, .ref (um 3), .ref (um 4), .int 0, .int 0, .int 0, .int 0, .int 0, .long 0, .int 0, .int 0, .int 0, .int 0, .long 0, .int 0, .ref (um 5), .ref (um 6), .int 0, .int 0, .int 0, .long 0, .long 0, .ref (um 7), .ref (um 8), .ref (um 9), .ref (um 10), .ref (um 11), .ref (um 12), .ref (um 13), .ref (um 14), .ref (um 15), .ref (um 16), .ref (um 17), .ref (um 18), .ref (um 19), .ref (um 20), .int 0, .int 0, .int 0, .int 0, .int 0, .int 0, .int 0, .int 0, .int 0, .int (-1), .int (-1), .int (-1), .int 0, .int 0, .int 0, .int 0, .int 0, .int 0, .int 0, .int 0, .ref (um 21), .ref (um 22), .ref (um 23), .ref (um 24), .ref (um 25), .ref (um 26), .int 0, .long 0])), ((um 13), .inl (k 0, 4, .inl (fun _ => 0)))]) [50, 64] (by decide) rfl
    have hFc := va_free (wc := [(qm, .inr (6, [.int 0, .ref (um 0), .ref (um 1), .ref (um 2), .int 0, .ref (um 3), .ref (um 4), .int 0, .int 0, .int 0, .int 0, .int 0, .long 0, .int 0, .int 0, .int 0, .int 0, .long 0, .int 0, .ref (um 5), .ref (um 6), .int 0, .int 0, .int 0, .long 0, .long 0, .ref (um 7), .ref (um 8), .ref (um 9), .ref (um 10), .ref (um 11), .ref (um 12), .ref (um 13), .ref (um 14), .ref (um 15), .ref (um 16), .ref (um 17), .ref (um 18), .ref (um 19), .ref (um 20), .int 0, .int 0, .int 0, .int 0, .int 0, .int 0, .int 0, .int 0, .int 0, .int (-1), .int (-1), .int (-1), .int 0, .int 0, .int 0, .int 0, .int 0, .int 0, .int 0, .int 0, .ref (um 21), .ref (um 22), .ref (um 23), .ref (um 24), .ref (um 25), .ref (um 26), .int 0, .long 0])), ((um 13), .inl (k 0, 4, .inl (fun _ => 0)))]) hD hS hA [50, 64] rfl
    refine va_calli (va_runV (As := [.int 1, .int x2, .int x3]) (rest := [.int (-1)]) ⟨hx, hb, hml, hown, hts⟩ (m_laid l G k H.size qm um 1 x2 x3) (cwV 3 hts g_law_m_laid_82 rfl rfl rfl (by decide +kernel) ⟨Nat.le_of_ble_eq_true rfl, Nat.le_of_ble_eq_true rfl⟩) ⟨pq_bl, va_recv hK hPc (ci := 6) (q0 := 0) rfl rfl, pq_pre hPc hDc hK hN⟩ rfl rfl hl.1 rfl (lv_room (Nat.le_of_ble_eq_true rfl)) dL_law_553 ⟨Nat.le_of_ble_eq_true rfl, Nat.le_of_ble_eq_true rfl⟩) hS (fun q _ h => hFc q h) hFc (fun r14 ur14 t H1 locs ht hvm hr14 hB hz1 hk1 hS => ?_)
    have hP1 : va_P G vwCl [] H1 := vP0
    have hD1 : va_D (va_A [(qm, .inr (6, [.int 0, .ref (um 0), .ref (um 1), .ref (um 2), .int 0, .ref (um 3), .ref (um 4), .int 0, .int 0, .int 0, .int 0, .int 0, .long 0, .int 0, .int 0, .int 0, .int 0, .long 0, .int 0, .ref (um 5), .ref (um 6), .int 0, .int 0, .int 0, .long 0, .long 0, .ref (um 7), .ref (um 8), .ref (um 9), .ref (um 10), .ref (um 11), .ref (um 12), .ref (um 13), .ref (um 14), .ref (um 15), .ref (um 16), .ref (um 17), .ref (um 18), .ref (um 19), .ref (um 20), .int 0, .int 0, .int 0, .int 0, .int 0, .int 0, .int 0, .int 0, .int 0, .int (-1), .int (-1), .int (-1), .int 0, .int 0, .int 0, .int 0, .int 0, .int 0, .int 0, .int 0, .ref (um 21), .ref (um 22), .ref (um 23), .ref (um 24), .ref (um 25), .ref (um 26), .int 0, .long 0])), ((um 13), .inl (k 0, 4, .inl (fun _ => 0)))] H.size) [] := vD0
    obtain ⟨hP, hD⟩ := va_join (wr := []) (w1 := []) hP hD [50, 64] [] rfl rfl (by decide) (by decide) hk1 hFc hP1 hD1
    clear hP1 hD1
    generalize H1 = H at hP hS ⊢
    replace hP : va_P G vwCl [] H := hP
    replace hD : va_D A [] := hD
    obtain rfl : r14 = (-1) := hr14
    refine lv_icmp_eq (tgt := 1097) hx hb dL_law_556 (by decide) (fun _ => ?_) (fun c9 => absurd (by decide) c9)
    exact law_end l C0 hA2 hS (lv_sub hl [0, 4] rfl) (Nat.le_of_ble_eq_true rfl) (Nat.le_of_ble_eq_true rfl)
  · skip
    subst hsv
    refine lv_aload_n hx hb dL_law_512 rfl (lv_at hl 3 rfl) ?_
    refine lv_aload_n hx hb dL_law_513 rfl (lv_at hl 4 rfl) ?_
    refine lv_iload hx hb dL_law_514 (lv_at hl 0 rfl) ?_
    refine lv_iconst (v := 1) hx hb dL_law_516 (by decide) ?_
    refine lv_iadd hx hb dL_law_517 ?_
    refine lv_topi (fun z1 ez1 => ?_)
    obtain rfl : z1 = 1 := ez1.trans (by decide)
    refine va_sld hx hb hX hbl hbA hS (inC (by decide) (by decide)) dL_law_518 ?_
    refine lv_topi (fun z2 ez2 => ?_)
    obtain rfl : z2 = 2 := ez2.trans ex1.symm
    refine lv_aload_n hx hb dL_law_519 rfl (lv_at hl 4 rfl) ?_
    refine lv_iload hx hb dL_law_520 (lv_at hl 0 rfl) ?_
    refine lv_iconst (v := 2) hx hb dL_law_522 (by decide) ?_
    refine lv_iadd hx hb dL_law_523 ?_
    refine lv_topi (fun z3 ez3 => ?_)
    obtain rfl : z3 = 2 := ez3.trans (by decide)
    refine va_sld hx hb hX hbl hbA hS (inC (by decide) (by decide)) dL_law_524 ?_
    refine lv_topi (fun z4 ez4 => ?_)
    rw [show z4 = x2 from ez4.trans ex2.symm]
    refine lv_aload_n hx hb dL_law_525 rfl (lv_at hl 4 rfl) ?_
    refine lv_iload hx hb dL_law_526 (lv_at hl 0 rfl) ?_
    refine lv_iconst (v := 3) hx hb dL_law_528 (by decide) ?_
    refine lv_iadd hx hb dL_law_529 ?_
    refine lv_topi (fun z5 ez5 => ?_)
    obtain rfl : z5 = 3 := ez5.trans (by decide)
    refine va_sld hx hb hX hbl hbA hS (inC (by decide) (by decide)) dL_law_530 ?_
    refine lv_topi (fun z6 ez6 => ?_)
    rw [show z6 = x3 from ez6.trans ex3.symm]
    have hPc := hP.sub (ws' := [(qx, .inr (5, [.ref (ux 0), .ref (ux 1), .ref (ux 3), .ref (ux 7), .ref (ux 8), .ref (ux 13), .int 0, .int 0, .int 0, .int 0, .int 0, .int 0, .int 0, .int 0, .int 0, .int (-1), .int 0, .int 0, .long 0])), ((ux 0), .inl (k 3, 4, .inr (.inr (.inr (.inr (va_up (va_up (va_up (va_up (fun _ => none) 0 (some (ux 17))) 1 (some (ux 25))) 2 (some (ux 33))) 3 (some (ux 41)))))))), ((ux 33), .inr (1, [.ref (ux 34), .ref (ux 39), .int 0, .long 0, .int 25000, .int 0, .int 0, .int 0, .int 0, .int 0])), ((ux 34), .inr (2, [.ref (ux 35), .ref (ux 36), .ref (ux 37), .ref (ux 38), .int 0, .int 0]))]) [0, 1, 34, 35] rfl
    refine q_calli (va_runV (As := [.int 2, .int x2, .int x3]) (rest := []) ⟨hx, hb, hml, hown, hts⟩ (c_X6_laid0 l G k qx (ux 0) (va_up (va_up (va_up (va_up (fun _ => none) 0 (some (ux 17))) 1 (some (ux 25))) 2 (some (ux 33))) 3 (some (ux 41))) (fun j => ([(ux 17), (ux 25), (ux 33), (ux 41)] : List Nat).getD j 0) (fun j hj => by rcases (show j = 0 ∨ j = 1 ∨ j = 2 ∨ j = 3 by omega) with rfl | rfl | rfl | rfl <;> rfl) (ux 33) (ux 34) 2 x2 x3 (fun _ => rfl) (.ref (ux 1)) (.ref (ux 3)) (.ref (ux 7)) (.ref (ux 8)) (.ref (ux 13)) (.int 0) (.int 0) (.int 0) (.int 0) (.int 0) (.int 0) (.int 0) (.int 0) (.int 0) (.int (-1)) (.int 0) (.int 0) (.long 0) (.ref (ux 39)) (.int 0) (.long 0) (.int 25000) (.int 0) (.int 0) (.int 0) (.int 0) (.int 0) (.ref (ux 35)) (.ref (ux 36)) (.ref (ux 37)) (.ref (ux 38)) (.int 0)) (cwV 3 hts g_law_c_X6_laid0_78 rfl rfl rfl (by decide +kernel) ⟨Nat.le_of_ble_eq_true rfl, Nat.le_of_ble_eq_true rfl⟩) ⟨pr_bl, va_recv hK hPc (ci := 5) (q0 := 0) rfl rfl, pr_pre hPc hK hN⟩ rfl rfl hl.1 rfl (lv_room (Nat.le_of_ble_eq_true rfl)) dL_law_531 ⟨Nat.le_of_ble_eq_true rfl, Nat.le_of_ble_eq_true rfl⟩) (fun r7 hr7 => ?_)
    obtain rfl : r7 = (-1) := hr7
    refine lv_aload_n hx hb dL_law_534 rfl (lv_at hl 2 rfl) ?_
    refine lv_aload_n hx hb dL_law_535 rfl (lv_at hl 4 rfl) ?_
    refine lv_iload hx hb dL_law_536 (lv_at hl 0 rfl) ?_
    refine lv_iconst (v := 1) hx hb dL_law_538 (by decide) ?_
    refine lv_iadd hx hb dL_law_539 ?_
    refine lv_topi (fun z8 ez8 => ?_)
    obtain rfl : z8 = 1 := ez8.trans (by decide)
    refine va_sld hx hb hX hbl hbA hS (inC (by decide) (by decide)) dL_law_540 ?_
    refine lv_topi (fun z9 ez9 => ?_)
    obtain rfl : z9 = 2 := ez9.trans ex1.symm
    refine lv_aload_n hx hb dL_law_541 rfl (lv_at hl 4 rfl) ?_
    refine lv_iload hx hb dL_law_542 (lv_at hl 0 rfl) ?_
    refine lv_iconst (v := 2) hx hb dL_law_544 (by decide) ?_
    refine lv_iadd hx hb dL_law_545 ?_
    refine lv_topi (fun z10 ez10 => ?_)
    obtain rfl : z10 = 2 := ez10.trans (by decide)
    refine va_sld hx hb hX hbl hbA hS (inC (by decide) (by decide)) dL_law_546 ?_
    refine lv_topi (fun z11 ez11 => ?_)
    rw [show z11 = x2 from ez11.trans ex2.symm]
    refine lv_aload_n hx hb dL_law_547 rfl (lv_at hl 4 rfl) ?_
    refine lv_iload hx hb dL_law_548 (lv_at hl 0 rfl) ?_
    refine lv_iconst (v := 3) hx hb dL_law_550 (by decide) ?_
    refine lv_iadd hx hb dL_law_551 ?_
    refine lv_topi (fun z12 ez12 => ?_)
    obtain rfl : z12 = 3 := ez12.trans (by decide)
    refine va_sld hx hb hX hbl hbA hS (inC (by decide) (by decide)) dL_law_552 ?_
    refine lv_topi (fun z13 ez13 => ?_)
    rw [show z13 = x3 from ez13.trans ex3.symm]
    have hPc := hP.sub (ws' := [(qm, .inr (6, [.int 0, .ref (um 0), .ref (um 1), .ref (um 2), .int 0, .ref (um 3), .ref (um 4), .int 0, .int 0, .int 0, .int 0, .int 0, .long 0, .int 0, .int 0, .int 0, .int 0, .long 0, .int 0, .ref (um 5), .ref (um 6), .int 0, .int 0, .int 0, .long 0, .long 0, .ref (um 7), .ref (um 8), .ref (um 9), .ref (um 10), .ref (um 11), .ref (um 12), .ref (um 13), .ref (um 14), .ref (um 15), .ref (um 16), .ref (um 17), .ref (um 18), .ref (um 19), .ref (um 20), .int 0, .int 0, .int 0, .int 0, .int 0, .int 0, .int 0, .int 0, .int 0, .int (-1), .int (-1), .int (-1), .int 0, .int 0, .int 0, .int 0, .int 0, .int 0, .int 0, .int 0, .ref (um 21), .ref (um 22), .ref (um 23), .ref (um 24), .ref (um 25), .ref (um 26), .int 0, .long 0])), ((um 13), .inl (k 0, 4, .inl (fun _ => 0)))]) [50, 64] rfl
    have hDc := hD.sub (ws' := [(qm, .inr (6, [.int 0, .ref (um 0), .ref (um 1), .ref (um 2), .int 0, .ref (um 3), .ref (um 4), .int 0, .int 0, .int 0, .int 0, .int 0, .long 0, .int 0, .int 0, .int 0, .int 0, .long 0, .int 0, .ref (um 5), .ref (um 6), .int 0, .int 0, .int 0, .long 0, .long 0, .ref (um 7), .ref (um 8), .ref (um 9), .ref (um 10), .ref (um 11), .ref (um 12), .ref (um 13), .ref (um 14), .ref (um 15), .ref (um 16), .ref (um 17), .ref (um 18), .ref (um 19), .ref (um 20), .int 0, .int 0, .int 0, .int 0, .int 0, .int 0, .int 0, .int 0, .int 0, .int (-1), .int (-1), .int (-1), .int 0, .int 0, .int 0, .int 0, .int 0, .int 0, .int 0, .int 0, .ref (um 21), .ref (um 22), .ref (um 23), .ref (um 24), .ref (um 25), .ref (um 26), .int 0, .long 0])), ((um 13), .inl (k 0, 4, .inl (fun _ => 0)))]) [50, 64] (by decide) rfl
    have hFc := va_free (wc := [(qm, .inr (6, [.int 0, .ref (um 0), .ref (um 1), .ref (um 2), .int 0, .ref (um 3), .ref (um 4), .int 0, .int 0, .int 0, .int 0, .int 0, .long 0, .int 0, .int 0, .int 0, .int 0, .long 0, .int 0, .ref (um 5), .ref (um 6), .int 0, .int 0, .int 0, .long 0, .long 0, .ref (um 7), .ref (um 8), .ref (um 9), .ref (um 10), .ref (um 11), .ref (um 12), .ref (um 13), .ref (um 14), .ref (um 15), .ref (um 16), .ref (um 17), .ref (um 18), .ref (um 19), .ref (um 20), .int 0, .int 0, .int 0, .int 0, .int 0, .int 0, .int 0, .int 0, .int 0, .int (-1), .int (-1), .int (-1), .int 0, .int 0, .int 0, .int 0, .int 0, .int 0, .int 0, .int 0, .ref (um 21), .ref (um 22), .ref (um 23), .ref (um 24), .ref (um 25), .ref (um 26), .int 0, .long 0])), ((um 13), .inl (k 0, 4, .inl (fun _ => 0)))]) hD hS hA [50, 64] rfl
    refine va_calli (va_runV (As := [.int 2, .int x2, .int x3]) (rest := [.int (-1)]) ⟨hx, hb, hml, hown, hts⟩ (m_laid l G k H.size qm um 2 x2 x3) (cwV 3 hts g_law_m_laid_82 rfl rfl rfl (by decide +kernel) ⟨Nat.le_of_ble_eq_true rfl, Nat.le_of_ble_eq_true rfl⟩) ⟨pq_bl, va_recv hK hPc (ci := 6) (q0 := 0) rfl rfl, pq_pre hPc hDc hK hN⟩ rfl rfl hl.1 rfl (lv_room (Nat.le_of_ble_eq_true rfl)) dL_law_553 ⟨Nat.le_of_ble_eq_true rfl, Nat.le_of_ble_eq_true rfl⟩) hS (fun q _ h => hFc q h) hFc (fun r14 ur14 t H1 locs ht hvm hr14 hB hz1 hk1 hS => ?_)
    have hP1 : va_P G vwCl [] H1 := vP0
    have hD1 : va_D (va_A [(qm, .inr (6, [.int 0, .ref (um 0), .ref (um 1), .ref (um 2), .int 0, .ref (um 3), .ref (um 4), .int 0, .int 0, .int 0, .int 0, .int 0, .long 0, .int 0, .int 0, .int 0, .int 0, .long 0, .int 0, .ref (um 5), .ref (um 6), .int 0, .int 0, .int 0, .long 0, .long 0, .ref (um 7), .ref (um 8), .ref (um 9), .ref (um 10), .ref (um 11), .ref (um 12), .ref (um 13), .ref (um 14), .ref (um 15), .ref (um 16), .ref (um 17), .ref (um 18), .ref (um 19), .ref (um 20), .int 0, .int 0, .int 0, .int 0, .int 0, .int 0, .int 0, .int 0, .int 0, .int (-1), .int (-1), .int (-1), .int 0, .int 0, .int 0, .int 0, .int 0, .int 0, .int 0, .int 0, .ref (um 21), .ref (um 22), .ref (um 23), .ref (um 24), .ref (um 25), .ref (um 26), .int 0, .long 0])), ((um 13), .inl (k 0, 4, .inl (fun _ => 0)))] H.size) [] := vD0
    obtain ⟨hP, hD⟩ := va_join (wr := []) (w1 := []) hP hD [50, 64] [] rfl rfl (by decide) (by decide) hk1 hFc hP1 hD1
    clear hP1 hD1
    generalize H1 = H at hP hS ⊢
    replace hP : va_P G vwCl [] H := hP
    replace hD : va_D A [] := hD
    obtain rfl : r14 = (-1) := hr14
    refine lv_icmp_eq (tgt := 1097) hx hb dL_law_556 (by decide) (fun _ => ?_) (fun c9 => absurd (by decide) c9)
    exact law_end l C0 hA2 hS (lv_sub hl [0, 4] rfl) (Nat.le_of_ble_eq_true rfl) (Nat.le_of_ble_eq_true rfl)
  · skip
    subst hsv
    refine lv_aload_n hx hb dL_law_512 rfl (lv_at hl 3 rfl) ?_
    refine lv_aload_n hx hb dL_law_513 rfl (lv_at hl 4 rfl) ?_
    refine lv_iload hx hb dL_law_514 (lv_at hl 0 rfl) ?_
    refine lv_iconst (v := 1) hx hb dL_law_516 (by decide) ?_
    refine lv_iadd hx hb dL_law_517 ?_
    refine lv_topi (fun z1 ez1 => ?_)
    obtain rfl : z1 = 1 := ez1.trans (by decide)
    refine va_sld hx hb hX hbl hbA hS (inC (by decide) (by decide)) dL_law_518 ?_
    refine lv_topi (fun z2 ez2 => ?_)
    obtain rfl : z2 = 3 := ez2.trans ex1.symm
    refine lv_aload_n hx hb dL_law_519 rfl (lv_at hl 4 rfl) ?_
    refine lv_iload hx hb dL_law_520 (lv_at hl 0 rfl) ?_
    refine lv_iconst (v := 2) hx hb dL_law_522 (by decide) ?_
    refine lv_iadd hx hb dL_law_523 ?_
    refine lv_topi (fun z3 ez3 => ?_)
    obtain rfl : z3 = 2 := ez3.trans (by decide)
    refine va_sld hx hb hX hbl hbA hS (inC (by decide) (by decide)) dL_law_524 ?_
    refine lv_topi (fun z4 ez4 => ?_)
    rw [show z4 = x2 from ez4.trans ex2.symm]
    refine lv_aload_n hx hb dL_law_525 rfl (lv_at hl 4 rfl) ?_
    refine lv_iload hx hb dL_law_526 (lv_at hl 0 rfl) ?_
    refine lv_iconst (v := 3) hx hb dL_law_528 (by decide) ?_
    refine lv_iadd hx hb dL_law_529 ?_
    refine lv_topi (fun z5 ez5 => ?_)
    obtain rfl : z5 = 3 := ez5.trans (by decide)
    refine va_sld hx hb hX hbl hbA hS (inC (by decide) (by decide)) dL_law_530 ?_
    refine lv_topi (fun z6 ez6 => ?_)
    rw [show z6 = x3 from ez6.trans ex3.symm]
    have hPc := hP.sub (ws' := [(qx, .inr (5, [.ref (ux 0), .ref (ux 1), .ref (ux 3), .ref (ux 7), .ref (ux 8), .ref (ux 13), .int 0, .int 0, .int 0, .int 0, .int 0, .int 0, .int 0, .int 0, .int 0, .int (-1), .int 0, .int 0, .long 0])), ((ux 0), .inl (k 3, 4, .inr (.inr (.inr (.inr (va_up (va_up (va_up (va_up (fun _ => none) 0 (some (ux 17))) 1 (some (ux 25))) 2 (some (ux 33))) 3 (some (ux 41)))))))), ((ux 41), .inr (1, [.ref (ux 42), .ref (ux 47), .int 0, .long 0, .int 25000, .int 0, .int 0, .int 0, .int 0, .int 0])), ((ux 42), .inr (2, [.ref (ux 43), .ref (ux 44), .ref (ux 45), .ref (ux 46), .int 0, .int 0]))]) [0, 1, 42, 43] rfl
    refine q_calli (va_runV (As := [.int 3, .int x2, .int x3]) (rest := []) ⟨hx, hb, hml, hown, hts⟩ (c_X6_laid0 l G k qx (ux 0) (va_up (va_up (va_up (va_up (fun _ => none) 0 (some (ux 17))) 1 (some (ux 25))) 2 (some (ux 33))) 3 (some (ux 41))) (fun j => ([(ux 17), (ux 25), (ux 33), (ux 41)] : List Nat).getD j 0) (fun j hj => by rcases (show j = 0 ∨ j = 1 ∨ j = 2 ∨ j = 3 by omega) with rfl | rfl | rfl | rfl <;> rfl) (ux 41) (ux 42) 3 x2 x3 (fun _ => rfl) (.ref (ux 1)) (.ref (ux 3)) (.ref (ux 7)) (.ref (ux 8)) (.ref (ux 13)) (.int 0) (.int 0) (.int 0) (.int 0) (.int 0) (.int 0) (.int 0) (.int 0) (.int 0) (.int (-1)) (.int 0) (.int 0) (.long 0) (.ref (ux 47)) (.int 0) (.long 0) (.int 25000) (.int 0) (.int 0) (.int 0) (.int 0) (.int 0) (.ref (ux 43)) (.ref (ux 44)) (.ref (ux 45)) (.ref (ux 46)) (.int 0)) (cwV 3 hts g_law_c_X6_laid0_78 rfl rfl rfl (by decide +kernel) ⟨Nat.le_of_ble_eq_true rfl, Nat.le_of_ble_eq_true rfl⟩) ⟨pr_bl, va_recv hK hPc (ci := 5) (q0 := 0) rfl rfl, pr_pre hPc hK hN⟩ rfl rfl hl.1 rfl (lv_room (Nat.le_of_ble_eq_true rfl)) dL_law_531 ⟨Nat.le_of_ble_eq_true rfl, Nat.le_of_ble_eq_true rfl⟩) (fun r7 hr7 => ?_)
    obtain rfl : r7 = (-1) := hr7
    refine lv_aload_n hx hb dL_law_534 rfl (lv_at hl 2 rfl) ?_
    refine lv_aload_n hx hb dL_law_535 rfl (lv_at hl 4 rfl) ?_
    refine lv_iload hx hb dL_law_536 (lv_at hl 0 rfl) ?_
    refine lv_iconst (v := 1) hx hb dL_law_538 (by decide) ?_
    refine lv_iadd hx hb dL_law_539 ?_
    refine lv_topi (fun z8 ez8 => ?_)
    obtain rfl : z8 = 1 := ez8.trans (by decide)
    refine va_sld hx hb hX hbl hbA hS (inC (by decide) (by decide)) dL_law_540 ?_
    refine lv_topi (fun z9 ez9 => ?_)
    obtain rfl : z9 = 3 := ez9.trans ex1.symm
    refine lv_aload_n hx hb dL_law_541 rfl (lv_at hl 4 rfl) ?_
    refine lv_iload hx hb dL_law_542 (lv_at hl 0 rfl) ?_
    refine lv_iconst (v := 2) hx hb dL_law_544 (by decide) ?_
    refine lv_iadd hx hb dL_law_545 ?_
    refine lv_topi (fun z10 ez10 => ?_)
    obtain rfl : z10 = 2 := ez10.trans (by decide)
    refine va_sld hx hb hX hbl hbA hS (inC (by decide) (by decide)) dL_law_546 ?_
    refine lv_topi (fun z11 ez11 => ?_)
    rw [show z11 = x2 from ez11.trans ex2.symm]
    refine lv_aload_n hx hb dL_law_547 rfl (lv_at hl 4 rfl) ?_
    refine lv_iload hx hb dL_law_548 (lv_at hl 0 rfl) ?_
    refine lv_iconst (v := 3) hx hb dL_law_550 (by decide) ?_
    refine lv_iadd hx hb dL_law_551 ?_
    refine lv_topi (fun z12 ez12 => ?_)
    obtain rfl : z12 = 3 := ez12.trans (by decide)
    refine va_sld hx hb hX hbl hbA hS (inC (by decide) (by decide)) dL_law_552 ?_
    refine lv_topi (fun z13 ez13 => ?_)
    rw [show z13 = x3 from ez13.trans ex3.symm]
    have hPc := hP.sub (ws' := [(qm, .inr (6, [.int 0, .ref (um 0), .ref (um 1), .ref (um 2), .int 0, .ref (um 3), .ref (um 4), .int 0, .int 0, .int 0, .int 0, .int 0, .long 0, .int 0, .int 0, .int 0, .int 0, .long 0, .int 0, .ref (um 5), .ref (um 6), .int 0, .int 0, .int 0, .long 0, .long 0, .ref (um 7), .ref (um 8), .ref (um 9), .ref (um 10), .ref (um 11), .ref (um 12), .ref (um 13), .ref (um 14), .ref (um 15), .ref (um 16), .ref (um 17), .ref (um 18), .ref (um 19), .ref (um 20), .int 0, .int 0, .int 0, .int 0, .int 0, .int 0, .int 0, .int 0, .int 0, .int (-1), .int (-1), .int (-1), .int 0, .int 0, .int 0, .int 0, .int 0, .int 0, .int 0, .int 0, .ref (um 21), .ref (um 22), .ref (um 23), .ref (um 24), .ref (um 25), .ref (um 26), .int 0, .long 0])), ((um 13), .inl (k 0, 4, .inl (fun _ => 0)))]) [50, 64] rfl
    have hDc := hD.sub (ws' := [(qm, .inr (6, [.int 0, .ref (um 0), .ref (um 1), .ref (um 2), .int 0, .ref (um 3), .ref (um 4), .int 0, .int 0, .int 0, .int 0, .int 0, .long 0, .int 0, .int 0, .int 0, .int 0, .long 0, .int 0, .ref (um 5), .ref (um 6), .int 0, .int 0, .int 0, .long 0, .long 0, .ref (um 7), .ref (um 8), .ref (um 9), .ref (um 10), .ref (um 11), .ref (um 12), .ref (um 13), .ref (um 14), .ref (um 15), .ref (um 16), .ref (um 17), .ref (um 18), .ref (um 19), .ref (um 20), .int 0, .int 0, .int 0, .int 0, .int 0, .int 0, .int 0, .int 0, .int 0, .int (-1), .int (-1), .int (-1), .int 0, .int 0, .int 0, .int 0, .int 0, .int 0, .int 0, .int 0, .ref (um 21), .ref (um 22), .ref (um 23), .ref (um 24), .ref (um 25), .ref (um 26), .int 0, .long 0])), ((um 13), .inl (k 0, 4, .inl (fun _ => 0)))]) [50, 64] (by decide) rfl
    have hFc := va_free (wc := [(qm, .inr (6, [.int 0, .ref (um 0), .ref (um 1), .ref (um 2), .int 0, .ref (um 3), .ref (um 4), .int 0, .int 0, .int 0, .int 0, .int 0, .long 0, .int 0, .int 0, .int 0, .int 0, .long 0, .int 0, .ref (um 5), .ref (um 6), .int 0, .int 0, .int 0, .long 0, .long 0, .ref (um 7), .ref (um 8), .ref (um 9), .ref (um 10), .ref (um 11), .ref (um 12), .ref (um 13), .ref (um 14), .ref (um 15), .ref (um 16), .ref (um 17), .ref (um 18), .ref (um 19), .ref (um 20), .int 0, .int 0, .int 0, .int 0, .int 0, .int 0, .int 0, .int 0, .int 0, .int (-1), .int (-1), .int (-1), .int 0, .int 0, .int 0, .int 0, .int 0, .int 0, .int 0, .int 0, .ref (um 21), .ref (um 22), .ref (um 23), .ref (um 24), .ref (um 25), .ref (um 26), .int 0, .long 0])), ((um 13), .inl (k 0, 4, .inl (fun _ => 0)))]) hD hS hA [50, 64] rfl
    refine va_calli (va_runV (As := [.int 3, .int x2, .int x3]) (rest := [.int (-1)]) ⟨hx, hb, hml, hown, hts⟩ (m_laid l G k H.size qm um 3 x2 x3) (cwV 3 hts g_law_m_laid_82 rfl rfl rfl (by decide +kernel) ⟨Nat.le_of_ble_eq_true rfl, Nat.le_of_ble_eq_true rfl⟩) ⟨pq_bl, va_recv hK hPc (ci := 6) (q0 := 0) rfl rfl, pq_pre hPc hDc hK hN⟩ rfl rfl hl.1 rfl (lv_room (Nat.le_of_ble_eq_true rfl)) dL_law_553 ⟨Nat.le_of_ble_eq_true rfl, Nat.le_of_ble_eq_true rfl⟩) hS (fun q _ h => hFc q h) hFc (fun r14 ur14 t H1 locs ht hvm hr14 hB hz1 hk1 hS => ?_)
    have hP1 : va_P G vwCl [] H1 := vP0
    have hD1 : va_D (va_A [(qm, .inr (6, [.int 0, .ref (um 0), .ref (um 1), .ref (um 2), .int 0, .ref (um 3), .ref (um 4), .int 0, .int 0, .int 0, .int 0, .int 0, .long 0, .int 0, .int 0, .int 0, .int 0, .long 0, .int 0, .ref (um 5), .ref (um 6), .int 0, .int 0, .int 0, .long 0, .long 0, .ref (um 7), .ref (um 8), .ref (um 9), .ref (um 10), .ref (um 11), .ref (um 12), .ref (um 13), .ref (um 14), .ref (um 15), .ref (um 16), .ref (um 17), .ref (um 18), .ref (um 19), .ref (um 20), .int 0, .int 0, .int 0, .int 0, .int 0, .int 0, .int 0, .int 0, .int 0, .int (-1), .int (-1), .int (-1), .int 0, .int 0, .int 0, .int 0, .int 0, .int 0, .int 0, .int 0, .ref (um 21), .ref (um 22), .ref (um 23), .ref (um 24), .ref (um 25), .ref (um 26), .int 0, .long 0])), ((um 13), .inl (k 0, 4, .inl (fun _ => 0)))] H.size) [] := vD0
    obtain ⟨hP, hD⟩ := va_join (wr := []) (w1 := []) hP hD [50, 64] [] rfl rfl (by decide) (by decide) hk1 hFc hP1 hD1
    clear hP1 hD1
    generalize H1 = H at hP hS ⊢
    replace hP : va_P G vwCl [] H := hP
    replace hD : va_D A [] := hD
    obtain rfl : r14 = (-1) := hr14
    refine lv_icmp_eq (tgt := 1097) hx hb dL_law_556 (by decide) (fun _ => ?_) (fun c9 => absurd (by decide) c9)
    exact law_end l C0 hA2 hS (lv_sub hl [0, 4] rfl) (Nat.le_of_ble_eq_true rfl) (Nat.le_of_ble_eq_true rfl)
  · skip
    refine lv_aload_n hx hb dL_law_512 rfl (lv_at hl 3 rfl) ?_
    refine lv_aload_n hx hb dL_law_513 rfl (lv_at hl 4 rfl) ?_
    refine lv_iload hx hb dL_law_514 (lv_at hl 0 rfl) ?_
    refine lv_iconst (v := 1) hx hb dL_law_516 (by decide) ?_
    refine lv_iadd hx hb dL_law_517 ?_
    refine lv_topi (fun z1 ez1 => ?_)
    obtain rfl : z1 = 1 := ez1.trans (by decide)
    refine va_sld hx hb hX hbl hbA hS (inC (by decide) (by decide)) dL_law_518 ?_
    refine lv_topi (fun z2 ez2 => ?_)
    rw [show z2 = x1 from ez2.trans ex1.symm]
    refine lv_aload_n hx hb dL_law_519 rfl (lv_at hl 4 rfl) ?_
    refine lv_iload hx hb dL_law_520 (lv_at hl 0 rfl) ?_
    refine lv_iconst (v := 2) hx hb dL_law_522 (by decide) ?_
    refine lv_iadd hx hb dL_law_523 ?_
    refine lv_topi (fun z3 ez3 => ?_)
    obtain rfl : z3 = 2 := ez3.trans (by decide)
    refine va_sld hx hb hX hbl hbA hS (inC (by decide) (by decide)) dL_law_524 ?_
    refine lv_topi (fun z4 ez4 => ?_)
    rw [show z4 = x2 from ez4.trans ex2.symm]
    refine lv_aload_n hx hb dL_law_525 rfl (lv_at hl 4 rfl) ?_
    refine lv_iload hx hb dL_law_526 (lv_at hl 0 rfl) ?_
    refine lv_iconst (v := 3) hx hb dL_law_528 (by decide) ?_
    refine lv_iadd hx hb dL_law_529 ?_
    refine lv_topi (fun z5 ez5 => ?_)
    obtain rfl : z5 = 3 := ez5.trans (by decide)
    refine va_sld hx hb hX hbl hbA hS (inC (by decide) (by decide)) dL_law_530 ?_
    refine lv_topi (fun z6 ez6 => ?_)
    rw [show z6 = x3 from ez6.trans ex3.symm]
    have hPc := hP.sub (ws' := [(qx, .inr (5, [.ref (ux 0), .ref (ux 1), .ref (ux 3), .ref (ux 7), .ref (ux 8), .ref (ux 13), .int 0, .int 0, .int 0, .int 0, .int 0, .int 0, .int 0, .int 0, .int 0, .int (-1), .int 0, .int 0, .long 0])), ((ux 0), .inl (k 3, 4, .inr (.inr (.inr (.inr (va_up (va_up (va_up (va_up (fun _ => none) 0 (some (ux 17))) 1 (some (ux 25))) 2 (some (ux 33))) 3 (some (ux 41)))))))), ((ux 17), .inr (1, [.ref (ux 18), .ref (ux 23), .int 0, .long 0, .int 25000, .int 0, .int 0, .int 0, .int 0, .int 0])), ((ux 18), .inr (2, [.ref (ux 19), .ref (ux 20), .ref (ux 21), .ref (ux 22), .int 0, .int 0]))]) [0, 1, 18, 19] rfl
    refine q_calli (va_runV (As := [.int x1, .int x2, .int x3]) (rest := []) ⟨hx, hb, hml, hown, hts⟩ (c_X6_laid0 l G k qx (ux 0) (va_up (va_up (va_up (va_up (fun _ => none) 0 (some (ux 17))) 1 (some (ux 25))) 2 (some (ux 33))) 3 (some (ux 41))) (fun j => ([(ux 17), (ux 25), (ux 33), (ux 41)] : List Nat).getD j 0) (fun j hj => by rcases (show j = 0 ∨ j = 1 ∨ j = 2 ∨ j = 3 by omega) with rfl | rfl | rfl | rfl <;> rfl) (ux 17) (ux 18) x1 x2 x3 (fun h9 => absurd h9 hseat) (.ref (ux 1)) (.ref (ux 3)) (.ref (ux 7)) (.ref (ux 8)) (.ref (ux 13)) (.int 0) (.int 0) (.int 0) (.int 0) (.int 0) (.int 0) (.int 0) (.int 0) (.int 0) (.int (-1)) (.int 0) (.int 0) (.long 0) (.ref (ux 23)) (.int 0) (.long 0) (.int 25000) (.int 0) (.int 0) (.int 0) (.int 0) (.int 0) (.ref (ux 19)) (.ref (ux 20)) (.ref (ux 21)) (.ref (ux 22)) (.int 0)) (cwV 3 hts g_law_c_X6_laid0_78 rfl rfl rfl (by decide +kernel) ⟨Nat.le_of_ble_eq_true rfl, Nat.le_of_ble_eq_true rfl⟩) ⟨pr_bl, va_recv hK hPc (ci := 5) (q0 := 0) rfl rfl, pr_pre hPc hK hN⟩ rfl rfl hl.1 rfl (lv_room (Nat.le_of_ble_eq_true rfl)) dL_law_531 ⟨Nat.le_of_ble_eq_true rfl, Nat.le_of_ble_eq_true rfl⟩) (fun r7 hr7 => ?_)
    obtain rfl : r7 = (-1) := hr7
    refine lv_aload_n hx hb dL_law_534 rfl (lv_at hl 2 rfl) ?_
    refine lv_aload_n hx hb dL_law_535 rfl (lv_at hl 4 rfl) ?_
    refine lv_iload hx hb dL_law_536 (lv_at hl 0 rfl) ?_
    refine lv_iconst (v := 1) hx hb dL_law_538 (by decide) ?_
    refine lv_iadd hx hb dL_law_539 ?_
    refine lv_topi (fun z8 ez8 => ?_)
    obtain rfl : z8 = 1 := ez8.trans (by decide)
    refine va_sld hx hb hX hbl hbA hS (inC (by decide) (by decide)) dL_law_540 ?_
    refine lv_topi (fun z9 ez9 => ?_)
    rw [show z9 = x1 from ez9.trans ex1.symm]
    refine lv_aload_n hx hb dL_law_541 rfl (lv_at hl 4 rfl) ?_
    refine lv_iload hx hb dL_law_542 (lv_at hl 0 rfl) ?_
    refine lv_iconst (v := 2) hx hb dL_law_544 (by decide) ?_
    refine lv_iadd hx hb dL_law_545 ?_
    refine lv_topi (fun z10 ez10 => ?_)
    obtain rfl : z10 = 2 := ez10.trans (by decide)
    refine va_sld hx hb hX hbl hbA hS (inC (by decide) (by decide)) dL_law_546 ?_
    refine lv_topi (fun z11 ez11 => ?_)
    rw [show z11 = x2 from ez11.trans ex2.symm]
    refine lv_aload_n hx hb dL_law_547 rfl (lv_at hl 4 rfl) ?_
    refine lv_iload hx hb dL_law_548 (lv_at hl 0 rfl) ?_
    refine lv_iconst (v := 3) hx hb dL_law_550 (by decide) ?_
    refine lv_iadd hx hb dL_law_551 ?_
    refine lv_topi (fun z12 ez12 => ?_)
    obtain rfl : z12 = 3 := ez12.trans (by decide)
    refine va_sld hx hb hX hbl hbA hS (inC (by decide) (by decide)) dL_law_552 ?_
    refine lv_topi (fun z13 ez13 => ?_)
    rw [show z13 = x3 from ez13.trans ex3.symm]
    have hPc := hP.sub (ws' := [(qm, .inr (6, [.int 0, .ref (um 0), .ref (um 1), .ref (um 2), .int 0, .ref (um 3), .ref (um 4), .int 0, .int 0, .int 0, .int 0, .int 0, .long 0, .int 0, .int 0, .int 0, .int 0, .long 0, .int 0, .ref (um 5), .ref (um 6), .int 0, .int 0, .int 0, .long 0, .long 0, .ref (um 7), .ref (um 8), .ref (um 9), .ref (um 10), .ref (um 11), .ref (um 12), .ref (um 13), .ref (um 14), .ref (um 15), .ref (um 16), .ref (um 17), .ref (um 18), .ref (um 19), .ref (um 20), .int 0, .int 0, .int 0, .int 0, .int 0, .int 0, .int 0, .int 0, .int 0, .int (-1), .int (-1), .int (-1), .int 0, .int 0, .int 0, .int 0, .int 0, .int 0, .int 0, .int 0, .ref (um 21), .ref (um 22), .ref (um 23), .ref (um 24), .ref (um 25), .ref (um 26), .int 0, .long 0])), ((um 13), .inl (k 0, 4, .inl (fun _ => 0)))]) [50, 64] rfl
    have hDc := hD.sub (ws' := [(qm, .inr (6, [.int 0, .ref (um 0), .ref (um 1), .ref (um 2), .int 0, .ref (um 3), .ref (um 4), .int 0, .int 0, .int 0, .int 0, .int 0, .long 0, .int 0, .int 0, .int 0, .int 0, .long 0, .int 0, .ref (um 5), .ref (um 6), .int 0, .int 0, .int 0, .long 0, .long 0, .ref (um 7), .ref (um 8), .ref (um 9), .ref (um 10), .ref (um 11), .ref (um 12), .ref (um 13), .ref (um 14), .ref (um 15), .ref (um 16), .ref (um 17), .ref (um 18), .ref (um 19), .ref (um 20), .int 0, .int 0, .int 0, .int 0, .int 0, .int 0, .int 0, .int 0, .int 0, .int (-1), .int (-1), .int (-1), .int 0, .int 0, .int 0, .int 0, .int 0, .int 0, .int 0, .int 0, .ref (um 21), .ref (um 22), .ref (um 23), .ref (um 24), .ref (um 25), .ref (um 26), .int 0, .long 0])), ((um 13), .inl (k 0, 4, .inl (fun _ => 0)))]) [50, 64] (by decide) rfl
    have hFc := va_free (wc := [(qm, .inr (6, [.int 0, .ref (um 0), .ref (um 1), .ref (um 2), .int 0, .ref (um 3), .ref (um 4), .int 0, .int 0, .int 0, .int 0, .int 0, .long 0, .int 0, .int 0, .int 0, .int 0, .long 0, .int 0, .ref (um 5), .ref (um 6), .int 0, .int 0, .int 0, .long 0, .long 0, .ref (um 7), .ref (um 8), .ref (um 9), .ref (um 10), .ref (um 11), .ref (um 12), .ref (um 13), .ref (um 14), .ref (um 15), .ref (um 16), .ref (um 17), .ref (um 18), .ref (um 19), .ref (um 20), .int 0, .int 0, .int 0, .int 0, .int 0, .int 0, .int 0, .int 0, .int 0, .int (-1), .int (-1), .int (-1), .int 0, .int 0, .int 0, .int 0, .int 0, .int 0, .int 0, .int 0, .ref (um 21), .ref (um 22), .ref (um 23), .ref (um 24), .ref (um 25), .ref (um 26), .int 0, .long 0])), ((um 13), .inl (k 0, 4, .inl (fun _ => 0)))]) hD hS hA [50, 64] rfl
    refine va_calli (va_runV (As := [.int x1, .int x2, .int x3]) (rest := [.int (-1)]) ⟨hx, hb, hml, hown, hts⟩ (m_laid l G k H.size qm um x1 x2 x3) (cwV 3 hts g_law_m_laid_82 rfl rfl rfl (by decide +kernel) ⟨Nat.le_of_ble_eq_true rfl, Nat.le_of_ble_eq_true rfl⟩) ⟨pq_bl, va_recv hK hPc (ci := 6) (q0 := 0) rfl rfl, pq_pre hPc hDc hK hN⟩ rfl rfl hl.1 rfl (lv_room (Nat.le_of_ble_eq_true rfl)) dL_law_553 ⟨Nat.le_of_ble_eq_true rfl, Nat.le_of_ble_eq_true rfl⟩) hS (fun q _ h => hFc q h) hFc (fun r14 ur14 t H1 locs ht hvm hr14 hB hz1 hk1 hS => ?_)
    have hP1 : va_P G vwCl [] H1 := vP0
    have hD1 : va_D (va_A [(qm, .inr (6, [.int 0, .ref (um 0), .ref (um 1), .ref (um 2), .int 0, .ref (um 3), .ref (um 4), .int 0, .int 0, .int 0, .int 0, .int 0, .long 0, .int 0, .int 0, .int 0, .int 0, .long 0, .int 0, .ref (um 5), .ref (um 6), .int 0, .int 0, .int 0, .long 0, .long 0, .ref (um 7), .ref (um 8), .ref (um 9), .ref (um 10), .ref (um 11), .ref (um 12), .ref (um 13), .ref (um 14), .ref (um 15), .ref (um 16), .ref (um 17), .ref (um 18), .ref (um 19), .ref (um 20), .int 0, .int 0, .int 0, .int 0, .int 0, .int 0, .int 0, .int 0, .int 0, .int (-1), .int (-1), .int (-1), .int 0, .int 0, .int 0, .int 0, .int 0, .int 0, .int 0, .int 0, .ref (um 21), .ref (um 22), .ref (um 23), .ref (um 24), .ref (um 25), .ref (um 26), .int 0, .long 0])), ((um 13), .inl (k 0, 4, .inl (fun _ => 0)))] H.size) [] := vD0
    obtain ⟨hP, hD⟩ := va_join (wr := []) (w1 := []) hP hD [50, 64] [] rfl rfl (by decide) (by decide) hk1 hFc hP1 hD1
    clear hP1 hD1
    generalize H1 = H at hP hS ⊢
    replace hP : va_P G vwCl [] H := hP
    replace hD : va_D A [] := hD
    obtain rfl : r14 = (-1) := hr14
    refine lv_icmp_eq (tgt := 1097) hx hb dL_law_556 (by decide) (fun _ => ?_) (fun c9 => absurd (by decide) c9)
    exact law_end l C0 hA2 hS (lv_sub hl [0, 4] rfl) (Nat.le_of_ble_eq_true rfl) (Nat.le_of_ble_eq_true rfl)
