theorem mm_61 : Cond.methodLink R_Lc 3 Lib.objectInit ∈ tb := tb_at 61 (by decide +kernel) (by decide +kernel)
theorem mm_62 : Cond.instanceMethod Lib.objectInit ∈ tb := tb_at 62 (by decide +kernel) (by decide +kernel)
theorem mm_63 : Cond.code Lib.objectInit ⟨#[0xb1]⟩ 1 none ∈ tb := tb_at 63 (by decide +kernel) (by decide +kernel)
theorem mm_64 : Cond.classLink R_Lc 9 R_It ∈ tb := tb_at 64 (by decide +kernel) (by decide +kernel)
theorem mm_65 : Cond.instantiable R_It 2 ∈ tb := tb_at 65 (by decide +kernel) (by decide +kernel)
theorem mm_66 : Cond.methodLink R_Lc 11 y_It_init ∈ tb := tb_at 66 (by decide +kernel) (by decide +kernel)
theorem mm_67 : Cond.instanceMethod y_It_init ∈ tb := tb_at 67 (by decide +kernel) (by decide +kernel)
theorem mm_68 : wc_It_init ∈ tb := tb_at 68 (by decide +kernel) (by decide +kernel)
theorem mm_69 : Cond.methodLink R_It 3 Lib.objectInit ∈ tb := tb_at 69 (by decide +kernel) (by decide +kernel)
theorem mm_70 : Cond.methodLink R_It 9 Lib.Math.max.name ∈ tb := tb_at 70 (by decide +kernel) (by decide +kernel)
theorem mm_71 : Cond.static Lib.Math.max.name ∈ tb := tb_at 71 (by decide +kernel) (by decide +kernel)
theorem mm_72 : Cond.code Lib.Math.max.name Lib.Math.max.code 2 (some .int) ∈ tb := tb_at 72 (by decide +kernel) (by decide +kernel)
theorem mm_80 : Cond.arrayClass .int ∈ tb := tb_at 80 (by decide +kernel) (by decide +kernel)
theorem mm_81 : Cond.classLink R_Lc 24 R_Pa ∈ tb := tb_at 81 (by decide +kernel) (by decide +kernel)
theorem mm_82 : Cond.instantiable R_Pa 3 ∈ tb := tb_at 82 (by decide +kernel) (by decide +kernel)
theorem mm_83 : Cond.methodLink R_Lc 26 y_Pa_init ∈ tb := tb_at 83 (by decide +kernel) (by decide +kernel)
theorem mm_84 : Cond.instanceMethod y_Pa_init ∈ tb := tb_at 84 (by decide +kernel) (by decide +kernel)
theorem mm_85 : wc_Pa_init ∈ tb := tb_at 85 (by decide +kernel) (by decide +kernel)
theorem mm_86 : Cond.methodLink R_Pa 3 Lib.objectInit ∈ tb := tb_at 86 (by decide +kernel) (by decide +kernel)
theorem mm_97 : Cond.classLink R_Lc 33 R_Re ∈ tb := tb_at 97 (by decide +kernel) (by decide +kernel)
theorem mm_98 : Cond.instantiable R_Re 5 ∈ tb := tb_at 98 (by decide +kernel) (by decide +kernel)
theorem mm_99 : Cond.methodLink R_Lc 35 y_Re_init ∈ tb := tb_at 99 (by decide +kernel) (by decide +kernel)
theorem mm_100 : Cond.instanceMethod y_Re_init ∈ tb := tb_at 100 (by decide +kernel) (by decide +kernel)
theorem mm_101 : wc_Re_init ∈ tb := tb_at 101 (by decide +kernel) (by decide +kernel)
theorem mm_102 : Cond.methodLink R_Re 3 Lib.objectInit ∈ tb := tb_at 102 (by decide +kernel) (by decide +kernel)
theorem mm_103 : Cond.classLink R_Re 15 R_It ∈ tb := tb_at 103 (by decide +kernel) (by decide +kernel)
theorem mm_104 : Cond.methodLink R_Re 17 y_It_init ∈ tb := tb_at 104 (by decide +kernel) (by decide +kernel)
theorem mm_573 : Cond.methodLink R_Md 1 Lib.objectInit ∈ tb := tb_at 573 (by decide +kernel) (by decide +kernel)
theorem mm_574 : Cond.constant R_Md 7 212222 ∈ tb := tb_at 574 (by decide +kernel) (by decide +kernel)
theorem mm_575 : Cond.constant R_Md 8 222122 ∈ tb := tb_at 575 (by decide +kernel) (by decide +kernel)
theorem mm_576 : Cond.constant R_Md 9 222221 ∈ tb := tb_at 576 (by decide +kernel) (by decide +kernel)
theorem mm_577 : Cond.constant R_Md 10 121223 ∈ tb := tb_at 577 (by decide +kernel) (by decide +kernel)
theorem mm_578 : Cond.constant R_Md 11 121322 ∈ tb := tb_at 578 (by decide +kernel) (by decide +kernel)
theorem mm_579 : Cond.constant R_Md 12 131222 ∈ tb := tb_at 579 (by decide +kernel) (by decide +kernel)
theorem mm_580 : Cond.constant R_Md 13 122213 ∈ tb := tb_at 580 (by decide +kernel) (by decide +kernel)
theorem mm_581 : Cond.constant R_Md 14 122312 ∈ tb := tb_at 581 (by decide +kernel) (by decide +kernel)
theorem mm_582 : Cond.constant R_Md 15 132212 ∈ tb := tb_at 582 (by decide +kernel) (by decide +kernel)
theorem mm_583 : Cond.constant R_Md 16 221213 ∈ tb := tb_at 583 (by decide +kernel) (by decide +kernel)
theorem mm_584 : Cond.constant R_Md 17 221312 ∈ tb := tb_at 584 (by decide +kernel) (by decide +kernel)
theorem mm_585 : Cond.constant R_Md 18 231212 ∈ tb := tb_at 585 (by decide +kernel) (by decide +kernel)
theorem mm_586 : Cond.constant R_Md 19 112232 ∈ tb := tb_at 586 (by decide +kernel) (by decide +kernel)
theorem mm_587 : Cond.constant R_Md 20 122132 ∈ tb := tb_at 587 (by decide +kernel) (by decide +kernel)
theorem mm_588 : Cond.constant R_Md 21 122231 ∈ tb := tb_at 588 (by decide +kernel) (by decide +kernel)
theorem mm_589 : Cond.constant R_Md 22 113222 ∈ tb := tb_at 589 (by decide +kernel) (by decide +kernel)
theorem mm_590 : Cond.constant R_Md 23 123122 ∈ tb := tb_at 590 (by decide +kernel) (by decide +kernel)
theorem mm_591 : Cond.constant R_Md 24 123221 ∈ tb := tb_at 591 (by decide +kernel) (by decide +kernel)
theorem mm_592 : Cond.constant R_Md 25 223211 ∈ tb := tb_at 592 (by decide +kernel) (by decide +kernel)
theorem mm_593 : Cond.constant R_Md 26 221132 ∈ tb := tb_at 593 (by decide +kernel) (by decide +kernel)
theorem mm_594 : Cond.constant R_Md 27 221231 ∈ tb := tb_at 594 (by decide +kernel) (by decide +kernel)
theorem mm_595 : Cond.constant R_Md 28 213212 ∈ tb := tb_at 595 (by decide +kernel) (by decide +kernel)
theorem mm_596 : Cond.constant R_Md 29 223112 ∈ tb := tb_at 596 (by decide +kernel) (by decide +kernel)
theorem mm_597 : Cond.constant R_Md 30 312131 ∈ tb := tb_at 597 (by decide +kernel) (by decide +kernel)
theorem mm_598 : Cond.constant R_Md 31 311222 ∈ tb := tb_at 598 (by decide +kernel) (by decide +kernel)
theorem mm_599 : Cond.constant R_Md 32 321122 ∈ tb := tb_at 599 (by decide +kernel) (by decide +kernel)
theorem mm_600 : Cond.constant R_Md 33 321221 ∈ tb := tb_at 600 (by decide +kernel) (by decide +kernel)
theorem mm_601 : Cond.constant R_Md 34 312212 ∈ tb := tb_at 601 (by decide +kernel) (by decide +kernel)
theorem mm_602 : Cond.constant R_Md 35 322112 ∈ tb := tb_at 602 (by decide +kernel) (by decide +kernel)
theorem mm_603 : Cond.constant R_Md 36 322211 ∈ tb := tb_at 603 (by decide +kernel) (by decide +kernel)
theorem mm_604 : Cond.constant R_Md 37 212123 ∈ tb := tb_at 604 (by decide +kernel) (by decide +kernel)
theorem mm_605 : Cond.constant R_Md 38 212321 ∈ tb := tb_at 605 (by decide +kernel) (by decide +kernel)
theorem mm_606 : Cond.constant R_Md 39 232121 ∈ tb := tb_at 606 (by decide +kernel) (by decide +kernel)
theorem mm_607 : Cond.constant R_Md 40 111323 ∈ tb := tb_at 607 (by decide +kernel) (by decide +kernel)
theorem mm_608 : Cond.constant R_Md 41 131123 ∈ tb := tb_at 608 (by decide +kernel) (by decide +kernel)
theorem mm_609 : Cond.constant R_Md 42 131321 ∈ tb := tb_at 609 (by decide +kernel) (by decide +kernel)
theorem mm_610 : Cond.constant R_Md 43 112313 ∈ tb := tb_at 610 (by decide +kernel) (by decide +kernel)
theorem mm_611 : Cond.constant R_Md 44 132113 ∈ tb := tb_at 611 (by decide +kernel) (by decide +kernel)
theorem mm_612 : Cond.constant R_Md 45 132311 ∈ tb := tb_at 612 (by decide +kernel) (by decide +kernel)
theorem mm_613 : Cond.constant R_Md 46 211313 ∈ tb := tb_at 613 (by decide +kernel) (by decide +kernel)
theorem mm_614 : Cond.constant R_Md 47 231113 ∈ tb := tb_at 614 (by decide +kernel) (by decide +kernel)
theorem mm_615 : Cond.constant R_Md 48 231311 ∈ tb := tb_at 615 (by decide +kernel) (by decide +kernel)
theorem mm_616 : Cond.constant R_Md 49 112133 ∈ tb := tb_at 616 (by decide +kernel) (by decide +kernel)
theorem mm_617 : Cond.constant R_Md 50 112331 ∈ tb := tb_at 617 (by decide +kernel) (by decide +kernel)
theorem mm_618 : Cond.constant R_Md 51 132131 ∈ tb := tb_at 618 (by decide +kernel) (by decide +kernel)
theorem mm_619 : Cond.constant R_Md 52 113123 ∈ tb := tb_at 619 (by decide +kernel) (by decide +kernel)
theorem mm_620 : Cond.constant R_Md 53 113321 ∈ tb := tb_at 620 (by decide +kernel) (by decide +kernel)
theorem mm_621 : Cond.constant R_Md 54 133121 ∈ tb := tb_at 621 (by decide +kernel) (by decide +kernel)
theorem mm_622 : Cond.constant R_Md 55 313121 ∈ tb := tb_at 622 (by decide +kernel) (by decide +kernel)
theorem mm_623 : Cond.constant R_Md 56 211331 ∈ tb := tb_at 623 (by decide +kernel) (by decide +kernel)
theorem mm_624 : Cond.constant R_Md 57 231131 ∈ tb := tb_at 624 (by decide +kernel) (by decide +kernel)
theorem mm_625 : Cond.constant R_Md 58 213113 ∈ tb := tb_at 625 (by decide +kernel) (by decide +kernel)
theorem mm_626 : Cond.constant R_Md 59 213311 ∈ tb := tb_at 626 (by decide +kernel) (by decide +kernel)
theorem mm_627 : Cond.constant R_Md 60 213131 ∈ tb := tb_at 627 (by decide +kernel) (by decide +kernel)
theorem mm_628 : Cond.constant R_Md 61 311123 ∈ tb := tb_at 628 (by decide +kernel) (by decide +kernel)
theorem mm_629 : Cond.constant R_Md 62 311321 ∈ tb := tb_at 629 (by decide +kernel) (by decide +kernel)
theorem mm_630 : Cond.constant R_Md 63 331121 ∈ tb := tb_at 630 (by decide +kernel) (by decide +kernel)
theorem mm_631 : Cond.constant R_Md 64 312113 ∈ tb := tb_at 631 (by decide +kernel) (by decide +kernel)
theorem mm_632 : Cond.constant R_Md 65 312311 ∈ tb := tb_at 632 (by decide +kernel) (by decide +kernel)
theorem mm_633 : Cond.constant R_Md 66 332111 ∈ tb := tb_at 633 (by decide +kernel) (by decide +kernel)
theorem mm_634 : Cond.constant R_Md 67 314111 ∈ tb := tb_at 634 (by decide +kernel) (by decide +kernel)
theorem mm_635 : Cond.constant R_Md 68 221411 ∈ tb := tb_at 635 (by decide +kernel) (by decide +kernel)
theorem mm_636 : Cond.constant R_Md 69 431111 ∈ tb := tb_at 636 (by decide +kernel) (by decide +kernel)
theorem mm_637 : Cond.constant R_Md 70 111224 ∈ tb := tb_at 637 (by decide +kernel) (by decide +kernel)
theorem mm_638 : Cond.constant R_Md 71 111422 ∈ tb := tb_at 638 (by decide +kernel) (by decide +kernel)
theorem mm_639 : Cond.constant R_Md 72 121124 ∈ tb := tb_at 639 (by decide +kernel) (by decide +kernel)
theorem mm_640 : Cond.constant R_Md 73 121421 ∈ tb := tb_at 640 (by decide +kernel) (by decide +kernel)
theorem mm_641 : Cond.constant R_Md 74 141122 ∈ tb := tb_at 641 (by decide +kernel) (by decide +kernel)
theorem mm_642 : Cond.constant R_Md 75 141221 ∈ tb := tb_at 642 (by decide +kernel) (by decide +kernel)
theorem mm_643 : Cond.constant R_Md 76 112214 ∈ tb := tb_at 643 (by decide +kernel) (by decide +kernel)
theorem mm_644 : Cond.constant R_Md 77 112412 ∈ tb := tb_at 644 (by decide +kernel) (by decide +kernel)
theorem mm_645 : Cond.constant R_Md 78 122114 ∈ tb := tb_at 645 (by decide +kernel) (by decide +kernel)
theorem mm_646 : Cond.constant R_Md 79 122411 ∈ tb := tb_at 646 (by decide +kernel) (by decide +kernel)
theorem mm_647 : Cond.constant R_Md 80 142112 ∈ tb := tb_at 647 (by decide +kernel) (by decide +kernel)
theorem mm_648 : Cond.constant R_Md 81 142211 ∈ tb := tb_at 648 (by decide +kernel) (by decide +kernel)
theorem mm_649 : Cond.constant R_Md 82 241211 ∈ tb := tb_at 649 (by decide +kernel) (by decide +kernel)
theorem mm_650 : Cond.constant R_Md 83 221114 ∈ tb := tb_at 650 (by decide +kernel) (by decide +kernel)
theorem mm_651 : Cond.constant R_Md 84 413111 ∈ tb := tb_at 651 (by decide +kernel) (by decide +kernel)
theorem mm_652 : Cond.constant R_Md 85 241112 ∈ tb := tb_at 652 (by decide +kernel) (by decide +kernel)
theorem mm_653 : Cond.constant R_Md 86 134111 ∈ tb := tb_at 653 (by decide +kernel) (by decide +kernel)
theorem mm_654 : Cond.constant R_Md 87 111242 ∈ tb := tb_at 654 (by decide +kernel) (by decide +kernel)
theorem mm_655 : Cond.constant R_Md 88 121142 ∈ tb := tb_at 655 (by decide +kernel) (by decide +kernel)
theorem mm_656 : Cond.constant R_Md 89 121241 ∈ tb := tb_at 656 (by decide +kernel) (by decide +kernel)
theorem mm_657 : Cond.constant R_Md 90 114212 ∈ tb := tb_at 657 (by decide +kernel) (by decide +kernel)
theorem mm_658 : Cond.constant R_Md 91 124112 ∈ tb := tb_at 658 (by decide +kernel) (by decide +kernel)
theorem mm_659 : Cond.constant R_Md 92 124211 ∈ tb := tb_at 659 (by decide +kernel) (by decide +kernel)
theorem mm_660 : Cond.constant R_Md 93 411212 ∈ tb := tb_at 660 (by decide +kernel) (by decide +kernel)
theorem mm_661 : Cond.constant R_Md 94 421112 ∈ tb := tb_at 661 (by decide +kernel) (by decide +kernel)
theorem mm_662 : Cond.constant R_Md 95 421211 ∈ tb := tb_at 662 (by decide +kernel) (by decide +kernel)
theorem mm_663 : Cond.constant R_Md 96 212141 ∈ tb := tb_at 663 (by decide +kernel) (by decide +kernel)
theorem mm_664 : Cond.constant R_Md 97 214121 ∈ tb := tb_at 664 (by decide +kernel) (by decide +kernel)
theorem mm_665 : Cond.constant R_Md 98 412121 ∈ tb := tb_at 665 (by decide +kernel) (by decide +kernel)
theorem mm_666 : Cond.constant R_Md 99 111143 ∈ tb := tb_at 666 (by decide +kernel) (by decide +kernel)
theorem mm_667 : Cond.constant R_Md 100 111341 ∈ tb := tb_at 667 (by decide +kernel) (by decide +kernel)
theorem mm_668 : Cond.constant R_Md 101 131141 ∈ tb := tb_at 668 (by decide +kernel) (by decide +kernel)
theorem mm_669 : Cond.constant R_Md 102 114113 ∈ tb := tb_at 669 (by decide +kernel) (by decide +kernel)
theorem mm_670 : Cond.constant R_Md 103 114311 ∈ tb := tb_at 670 (by decide +kernel) (by decide +kernel)
theorem mm_671 : Cond.constant R_Md 104 411113 ∈ tb := tb_at 671 (by decide +kernel) (by decide +kernel)
theorem mm_672 : Cond.constant R_Md 105 411311 ∈ tb := tb_at 672 (by decide +kernel) (by decide +kernel)
theorem mm_673 : Cond.constant R_Md 106 113141 ∈ tb := tb_at 673 (by decide +kernel) (by decide +kernel)
theorem mm_674 : Cond.constant R_Md 107 114131 ∈ tb := tb_at 674 (by decide +kernel) (by decide +kernel)
theorem mm_675 : Cond.constant R_Md 108 311141 ∈ tb := tb_at 675 (by decide +kernel) (by decide +kernel)
theorem mm_676 : Cond.constant R_Md 109 411131 ∈ tb := tb_at 676 (by decide +kernel) (by decide +kernel)
theorem mm_677 : Cond.constant R_Md 110 211412 ∈ tb := tb_at 677 (by decide +kernel) (by decide +kernel)
theorem mm_678 : Cond.constant R_Md 111 211214 ∈ tb := tb_at 678 (by decide +kernel) (by decide +kernel)
theorem mm_679 : Cond.constant R_Md 112 211232 ∈ tb := tb_at 679 (by decide +kernel) (by decide +kernel)
/-- the first k of a table are laid -/
def tabU (l : List Nat) (k : Nat) : Nat → Int32 := fun j => if j < k then nI (l.getD j 0) else 0
theorem tabU_s {l : List Nat} {k : Nat} {i v : Int32} (h : i.toNatClampNeg = k ∧ v = nI (l.getD k 0)) : upd (tabU l k) i.toNatClampNeg v = tabU l (k + 1) := by
  funext j
  rw [h.1, h.2]
  unfold upd tabU
  by_cases e : j = k
  · rw [if_pos e, if_pos (by omega), e]
  · rw [if_neg e]
    by_cases e2 : j < k
    · rw [if_pos e2, if_pos (by omega)]
    · rw [if_neg e2, if_neg (by omega)]
theorem tabU_0 {l : List Nat} {i v : Int32} (h : i.toNatClampNeg = 0 ∧ v = nI (l.getD 0 0)) : upd (fun _ => 0) i.toNatClampNeg v = tabU l 1 := by
  have e : (fun _ => 0 : Nat → Int32) = tabU l 0 := by
    funext j
    unfold tabU
    rw [if_neg (by omega)]
  rw [e]
  exact tabU_s h
set_option maxHeartbeats 4000000 in
set_option maxRecDepth 100000 in
theorem met_It_init (l : Launch) (D : va_G) (Z : (Nat → Prop) → State → Heap → Prop) (hz : zk Z) (ad : Nat → Nat) (hk : zs Z ad) (a_this : Nat) (N : Nat) (hN9 : N ≤ 1000) (sz : Nat) : Met l y_It_init ws_It_init { frames := 1, cells := 1, slots := N, locals := 21 } (va_Pc [.ref a_this, .int (nI N)] (rw_ D vwCl [] [(a_this, .inr (0, [.null, .int 0]))] Z sz)) (va_Qv (fun _ : Nat × ClassId => True) (fun u t => at_ D vwCl [(u.2, .int)] (va_A [(a_this, .inr (0, [.null, .int 0]))] sz) [(a_this, .inr (0, [.ref u.1, .int 0])), (u.1, .inl (u.2, N, .inl (fun _ => 0)))] t) (va_A [(a_this, .inr (0, [.null, .int 0]))] sz)) 1 N (va_A [(a_this, .inr (0, [.null, .int 0]))] sz) := by
  refine Met.ofW (cc := c_It_init) (maxL := 2) (ret := none) (by decide) rfl ?_
  intro p e s m args below meth c s₁ B hml hv
  obtain ⟨rfl, hsz, hP, hK, hD0, hZ⟩ := hv
  have hx := B.exec
  have hb := B.bytes
  have hr := B.returns
  have hts0 := atoms_spec (ws := ws_It_init) B.pre
  have hts := fun (w : Cond) (h : w ∈ tb) => hts0 w (List.mem_cons_of_mem _ h)
  have hown : s.vm.findClass R_It = some m.cls := findClass_of_methodNamed B.named
  have hlocks := B.notSynchronized
  have hin : meth.name = "<init>" := (name_of_methodNamed B.named B.method).1
  subst hsz
  have hD := hD0.self (sz := s.heap.size)
  generalize hAe : va_A [(a_this, .inr (0, [.null, .int 0]))] s.heap.size = A at hD hZ ⊢
  have hA : ∀ q : Nat, s.heap.size ≤ q → A q := fun q h => by rw [← hAe]; exact Or.inr h
  have hS : va_S A s.heap s.heap [] := va_S.rf
  have hl := lv_entry ([.ref a_this, .int (nI N)]) (n := 2) (Nat.le_of_ble_eq_true rfl)
  rw [lg_entry_eq]
  generalize (lg_sl ([.ref a_this, .int (nI N)]) ++ List.replicate (2 - (lg_sl ([.ref a_this, .int (nI N)])).length) Slot.unset).toArray = ls at hl ⊢
  have hl : lv_has ls 2 [(0, .ref a_this), (1, .int (nI N))] := hl
  refine lv_aload_n hx hb d_It_init_0 rfl (lv_at hl 0 rfl) ?_
  refine W.objInit hx hb hown (hts _ mm_69) (hts _ mm_62) (hts _ mm_63) rfl (by rw [hml]; exact hl.1) rfl d_It_init_1 (Nat.le_of_ble_eq_true rfl) (Nat.le_of_ble_eq_true rfl) ?_
  refine W.eq (g2 := F0 m 4 ls []) rfl ?_
  refine lv_aload_n hx hb d_It_init_4 rfl (lv_at hl 0 rfl) ?_
  refine lv_iload_n hx hb d_It_init_5 rfl (lv_at hl 1 rfl) ?_
  refine lv_iconst (v := 0) hx hb d_It_init_6 (by decide) ?_
  refine va_mmax hx hb (hml.trans hl.1.symm) hown (hts _ mm_70) (hts _ mm_71) (hts _ mm_43) (hts _ mm_72) (Nat.le_of_ble_eq_true rfl) (Nat.le_of_ble_eq_true rfl) (Nat.le_of_ble_eq_true rfl) (Nat.le_of_ble_eq_true rfl) d_It_init_7 ?_
  rw [if_neg (nI_pos (by omega))]
  refine va_newa (atype := .int) (ty := .int) (a0 := (N, .inl fun _ => 0)) hx hb (hts _ mm_80) rfl hK hP hD hS hA (fun _ => rfl) (nI_pos (by omega)) (nI_clamp (by omega)) (by show N * 4 ≤ 536870912; omega) (Nat.le_of_ble_eq_true rfl) (by show 0 + N ≤ N; omega) d_It_init_10 (fun q10 k10 H hK hP hD hS => ?_)
  have hP : va_P D vwCl [(a_this, .inr (0, [.null, .int 0])), (q10, .inl (k10, N, .inl (fun _ => 0)))] H := hP
  have hD : va_D A [(a_this, .inr (0, [.null, .int 0])), (q10, .inl (k10, N, .inl (fun _ => 0)))] := hD
  have hK : va_K D vwCl [(k10, .int)] s := hK
  refine W.widen (k := 1) (n := N) (by omega) (by omega) ?_
  refine va_putF (D := D) (ci := 0) (v := .ref q10) (ty := .array .int) (C := R_It) (T := T_It) (N := 2) hx hb hts in_It ty_It tk_It nn_It hown hK hP hD hS 0 rfl rfl 0 (by decide) (hts _ mm_73) (fun _ h9 => h9) rfl hin rfl (by decide +kernel) rfl rfl (Nat.le_of_ble_eq_true rfl) d_It_init_12 (fun H locs hP hD hS => ?_)
  have hP : va_P D vwCl [(a_this, .inr (0, [.ref q10, .int 0])), (q10, .inl (k10, N, .inl (fun _ => 0)))] H := hP
  have hD : va_D A [(a_this, .inr (0, [.ref q10, .int 0])), (q10, .inl (k10, N, .inl (fun _ => 0)))] := hD
  refine lv_aload_n hx hb d_It_init_15 rfl (lv_at hl 0 rfl) ?_
  refine lv_iconst (v := 0) hx hb d_It_init_16 (by decide) ?_
  refine va_put (D := D) (ci := 0) (v := .int 0) (ty := .int) (C := R_It) (T := T_It) (N := 2) hx hb hts in_It ty_It tk_It nn_It hown hK hP hD hS 0 rfl rfl 1 (by decide) (hts _ mm_74) (fun _ h9 => h9) rfl (by decide +kernel) rfl rfl (Nat.le_of_ble_eq_true rfl) d_It_init_17 (fun H locs hP hD hS => ?_)
  have hP : va_P D vwCl [(a_this, .inr (0, [.ref q10, .int 0])), (q10, .inl (k10, N, .inl (fun _ => 0)))] H := hP
  have hD : va_D A [(a_this, .inr (0, [.ref q10, .int 0])), (q10, .inl (k10, N, .inl (fun _ => 0)))] := hD
  exact W.vret hx hb hr (fun t ht hW => ⟨⟨(q10, k10), rfl, trivial, by rw [ht]; exact hP, va_K.moved hW.alike hK, hD⟩, hS.F ht⟩) hS.2.2 d_It_init_20

set_option maxHeartbeats 4000000 in
set_option maxRecDepth 100000 in
theorem met_Pa_init (l : Launch) (D : va_G) (Z : (Nat → Prop) → State → Heap → Prop) (hz : zk Z) (ad : Nat → Nat) (hk : zs Z ad) (a_this : Nat) (x1 : Nat) (x2 : Nat) (sz : Nat) : Met l y_Pa_init ws_Pa_init { frames := 1, cells := 1, slots := 195, locals := 20 } (va_Pc [.ref a_this, .ref x1, .ref x2] (rw_ D vwCl [] [(a_this, .inr (1, [.null, .null, .null]))] Z sz)) (va_Qv (fun _ : Nat × ClassId => True) (fun u t => at_ D vwCl [(u.2, .int)] (va_A [(a_this, .inr (1, [.null, .null, .null]))] sz) [(a_this, .inr (1, [.ref x1, .ref x2, .ref u.1])), (u.1, .inl (u.2, 195, .inl (fun _ => 0)))] t) (va_A [(a_this, .inr (1, [.null, .null, .null]))] sz)) 1 195 (va_A [(a_this, .inr (1, [.null, .null, .null]))] sz) := by
  refine Met.ofW (cc := c_Pa_init) (maxL := 3) (ret := none) (by decide) rfl ?_
  intro p e s m args below meth c s₁ B hml hv
  obtain ⟨rfl, hsz, hP, hK, hD0, hZ⟩ := hv
  have hx := B.exec
  have hb := B.bytes
  have hr := B.returns
  have hts0 := atoms_spec (ws := ws_Pa_init) B.pre
  have hts := fun (w : Cond) (h : w ∈ tb) => hts0 w (List.mem_cons_of_mem _ h)
  have hown : s.vm.findClass R_Pa = some m.cls := findClass_of_methodNamed B.named
  have hlocks := B.notSynchronized
  have hin : meth.name = "<init>" := (name_of_methodNamed B.named B.method).1
  subst hsz
  have hD := hD0.self (sz := s.heap.size)
  generalize hAe : va_A [(a_this, .inr (1, [.null, .null, .null]))] s.heap.size = A at hD hZ ⊢
  have hA : ∀ q : Nat, s.heap.size ≤ q → A q := fun q h => by rw [← hAe]; exact Or.inr h
  have hS : va_S A s.heap s.heap [] := va_S.rf
  have hl := lv_entry ([.ref a_this, .ref x1, .ref x2]) (n := 3) (Nat.le_of_ble_eq_true rfl)
  rw [lg_entry_eq]
  generalize (lg_sl ([.ref a_this, .ref x1, .ref x2]) ++ List.replicate (3 - (lg_sl ([.ref a_this, .ref x1, .ref x2])).length) Slot.unset).toArray = ls at hl ⊢
  have hl : lv_has ls 3 [(0, .ref a_this), (1, .ref x1), (2, .ref x2)] := hl
  refine lv_aload_n hx hb d_Pa_init_0 rfl (lv_at hl 0 rfl) ?_
  refine W.objInit hx hb hown (hts _ mm_86) (hts _ mm_62) (hts _ mm_63) rfl (by rw [hml]; exact hl.1) rfl d_Pa_init_1 (Nat.le_of_ble_eq_true rfl) (Nat.le_of_ble_eq_true rfl) ?_
  refine W.eq (g2 := F0 m 4 ls []) rfl ?_
  refine lv_aload_n hx hb d_Pa_init_4 rfl (lv_at hl 0 rfl) ?_
  refine lv_aload_n hx hb d_Pa_init_5 rfl (lv_at hl 1 rfl) ?_
  refine va_putF (D := D) (ci := 1) (v := .ref x1) (ty := .object "LineCodes$Items") (C := R_Pa) (T := T_Pa) (N := 3) hx hb hts in_Pa ty_Pa tk_Pa nn_Pa hown hK hP hD hS 0 rfl rfl 0 (by decide) (hts _ mm_87) (fun _ h9 => h9) rfl hin rfl (by decide +kernel) rfl rfl (Nat.le_of_ble_eq_true rfl) d_Pa_init_6 (fun H locs hP hD hS => ?_)
  have hP : va_P D vwCl [(a_this, .inr (1, [.ref x1, .null, .null]))] H := hP
  have hD : va_D A [(a_this, .inr (1, [.ref x1, .null, .null]))] := hD
  refine lv_aload_n hx hb d_Pa_init_9 rfl (lv_at hl 0 rfl) ?_
  refine lv_aload_n hx hb d_Pa_init_10 rfl (lv_at hl 2 rfl) ?_
  refine va_putF (D := D) (ci := 1) (v := .ref x2) (ty := .object "LineCodes$Items") (C := R_Pa) (T := T_Pa) (N := 3) hx hb hts in_Pa ty_Pa tk_Pa nn_Pa hown hK hP hD hS 0 rfl rfl 1 (by decide) (hts _ mm_88) (fun _ h9 => h9) rfl hin rfl (by decide +kernel) rfl rfl (Nat.le_of_ble_eq_true rfl) d_Pa_init_11 (fun H locs hP hD hS => ?_)
  have hP : va_P D vwCl [(a_this, .inr (1, [.ref x1, .ref x2, .null]))] H := hP
  have hD : va_D A [(a_this, .inr (1, [.ref x1, .ref x2, .null]))] := hD
  refine lv_aload_n hx hb d_Pa_init_14 rfl (lv_at hl 0 rfl) ?_
  refine lv_sipush (v := 195) hx hb d_Pa_init_15 (by decide) ?_
  refine va_newa (atype := .int) (ty := .int) (a0 := (195, .inl fun _ => 0)) hx hb (hts _ mm_80) rfl hK hP hD hS hA (fun _ => rfl) (by decide) (by decide) (by decide) (Nat.le_of_ble_eq_true rfl) (Nat.le_of_ble_eq_true rfl) d_Pa_init_18 (fun q18 k18 H hK hP hD hS => ?_)
  have hP : va_P D vwCl [(a_this, .inr (1, [.ref x1, .ref x2, .null])), (q18, .inl (k18, 195, .inl (fun _ => 0)))] H := hP
  have hD : va_D A [(a_this, .inr (1, [.ref x1, .ref x2, .null])), (q18, .inl (k18, 195, .inl (fun _ => 0)))] := hD
  have hK : va_K D vwCl [(k18, .int)] s := hK
  refine W.widen (k := 1) (n := 195) (by decide) (by decide) ?_
  refine va_putF (D := D) (ci := 1) (v := .ref q18) (ty := .array .int) (C := R_Pa) (T := T_Pa) (N := 3) hx hb hts in_Pa ty_Pa tk_Pa nn_Pa hown hK hP hD hS 0 rfl rfl 2 (by decide) (hts _ mm_89) (fun _ h9 => h9) rfl hin rfl (by decide +kernel) rfl rfl (Nat.le_of_ble_eq_true rfl) d_Pa_init_20 (fun H locs hP hD hS => ?_)
  have hP : va_P D vwCl [(a_this, .inr (1, [.ref x1, .ref x2, .ref q18])), (q18, .inl (k18, 195, .inl (fun _ => 0)))] H := hP
  have hD : va_D A [(a_this, .inr (1, [.ref x1, .ref x2, .ref q18])), (q18, .inl (k18, 195, .inl (fun _ => 0)))] := hD
  exact W.vret hx hb hr (fun t ht hW => ⟨⟨(q18, k18), rfl, trivial, by rw [ht]; exact hP, va_K.moved hW.alike hK, hD⟩, hS.F ht⟩) hS.2.2 d_Pa_init_23

set_option maxHeartbeats 4000000 in
set_option maxRecDepth 100000 in
theorem met_Re_init (l : Launch) (D : va_G) (Z : (Nat → Prop) → State → Heap → Prop) (hz : zk Z) (ad : Nat → Nat) (hk : zs Z ad) (a_this : Nat) (x1 : Nat) (sz : Nat) : Met l y_Re_init ws_Re_init { frames := 2, cells := 2, slots := 262, locals := 42 } (va_Pc [.ref a_this, .ref x1] (rw_ D vwCl [] [(a_this, .inr (2, [.null, .null, .int 0, .int 0, .int 0]))] Z sz)) (va_Qv (fun _ : Nat × Nat × ClassId => True) (fun u t => at_ D vwCl [(u.2.2, .int)] (va_A [(a_this, .inr (2, [.null, .null, .int 0, .int 0, .int 0]))] sz) [(a_this, .inr (2, [.ref x1, .ref u.1, .int 0, .int 0, .int 0])), (u.1, .inr (0, [.ref u.2.1, .int 0])), (u.2.1, .inl (u.2.2, 260, .inl (fun _ => 0)))] t) (va_A [(a_this, .inr (2, [.null, .null, .int 0, .int 0, .int 0]))] sz)) 2 262 (va_A [(a_this, .inr (2, [.null, .null, .int 0, .int 0, .int 0]))] sz) := by
  refine Met.ofW (cc := c_Re_init) (maxL := 2) (ret := none) (by decide) rfl ?_
  intro p e s m args below meth c s₁ B hml hv
  obtain ⟨rfl, hsz, hP, hK, hD0, hZ⟩ := hv
  have hx := B.exec
  have hb := B.bytes
  have hr := B.returns
  have hts0 := atoms_spec (ws := ws_Re_init) B.pre
  have hts := fun (w : Cond) (h : w ∈ tb) => hts0 w (List.mem_cons_of_mem _ h)
  have hown : s.vm.findClass R_Re = some m.cls := findClass_of_methodNamed B.named
  have hlocks := B.notSynchronized
  have hin : meth.name = "<init>" := (name_of_methodNamed B.named B.method).1
  subst hsz
  have hD := hD0.self (sz := s.heap.size)
  generalize hAe : va_A [(a_this, .inr (2, [.null, .null, .int 0, .int 0, .int 0]))] s.heap.size = A at hD hZ ⊢
  have hA : ∀ q : Nat, s.heap.size ≤ q → A q := fun q h => by rw [← hAe]; exact Or.inr h
  have hS : va_S A s.heap s.heap [] := va_S.rf
  have hl := lv_entry ([.ref a_this, .ref x1]) (n := 2) (Nat.le_of_ble_eq_true rfl)
  rw [lg_entry_eq]
  generalize (lg_sl ([.ref a_this, .ref x1]) ++ List.replicate (2 - (lg_sl ([.ref a_this, .ref x1])).length) Slot.unset).toArray = ls at hl ⊢
  have hl : lv_has ls 2 [(0, .ref a_this), (1, .ref x1)] := hl
  refine lv_aload_n hx hb d_Re_init_0 rfl (lv_at hl 0 rfl) ?_
  refine W.objInit hx hb hown (hts _ mm_102) (hts _ mm_62) (hts _ mm_63) rfl (by rw [hml]; exact hl.1) rfl d_Re_init_1 (Nat.le_of_ble_eq_true rfl) (Nat.le_of_ble_eq_true rfl) ?_
  refine W.eq (g2 := F0 m 4 ls []) rfl ?_
  refine lv_aload_n hx hb d_Re_init_4 rfl (lv_at hl 0 rfl) ?_
  refine lv_aload_n hx hb d_Re_init_5 rfl (lv_at hl 1 rfl) ?_
  refine va_putF (D := D) (ci := 2) (v := .ref x1) (ty := .object "LineCodes$Items") (C := R_Re) (T := T_Re) (N := 5) hx hb hts in_Re ty_Re tk_Re nn_Re hown hK hP hD hS 0 rfl rfl 0 (by decide) (hts _ mm_105) (fun _ h9 => h9) rfl hin rfl (by decide +kernel) rfl rfl (Nat.le_of_ble_eq_true rfl) d_Re_init_6 (fun H locs hP hD hS => ?_)
  have hP : va_P D vwCl [(a_this, .inr (2, [.ref x1, .null, .int 0, .int 0, .int 0]))] H := hP
  have hD : va_D A [(a_this, .inr (2, [.ref x1, .null, .int 0, .int 0, .int 0]))] := hD
  refine lv_aload_n hx hb d_Re_init_9 rfl (lv_at hl 0 rfl) ?_
  refine va_new (ci := 0) (fs := [.null, .int 0]) (C := R_It) (T := T_It) (N := 2) hx hb hts in_It ty_It tk_It hown (hts _ mm_103) (hts _ mm_65) (hts _ mm_42) hK hP hD hS hA rfl (fun j hj => by rcases (show j = 0 ∨ j = 1 by omega) with rfl | rfl <;> rfl) (Nat.le_of_ble_eq_true rfl) (Nat.le_of_ble_eq_true rfl) d_Re_init_10 (fun q10 H hP hD hS => ?_)
  have hP : va_P D vwCl [(a_this, .inr (2, [.ref x1, .null, .int 0, .int 0, .int 0])), (q10, .inr (0, [.null, .int 0]))] H := hP
  have hD : va_D A [(a_this, .inr (2, [.ref x1, .null, .int 0, .int 0, .int 0])), (q10, .inr (0, [.null, .int 0]))] := hD
  refine W.widen (k := 1) (n := 2) (by decide) (by decide) ?_
  refine lv_dup hx hb d_Re_init_13 rfl ?_
  refine lv_sipush (v := 260) hx hb d_Re_init_14 (by decide) ?_
  rw [show (260 : Int32) = nI 260 from rfl]
  refine k_Iv (As := [.int (nI 260)]) (rest := [.ref q10, .ref a_this]) (wr := [(a_this, .inr (2, [.ref x1, .null, .int 0, .int 0, .int 0]))]) hz [1] [0] [] ⟨hx, hb, hml, hown, hts⟩ (met_It_init l D Z hz ad hk q10 260 (by decide) _) (cwI 1 hts (g_C mm_68) rfl rfl rfl (hts _ mm_42) (hts _ mm_104) (hts _ mm_67) rfl hd_It_init.2 ⟨Nat.le_of_ble_eq_true rfl, Nat.le_of_ble_eq_true rfl⟩) hP hD hK hZ hS hA rfl rfl rfl rfl rfl (by decide) rfl rfl hl.1 rfl (Nat.le_of_ble_eq_true rfl) d_Re_init_17 ⟨Nat.le_of_ble_eq_true rfl, Nat.le_of_ble_eq_true rfl⟩ (fun u9 H locs _ hP hD hS hK => ?_)
  obtain ⟨q10_17, k10_17⟩ := u9
  have hP : va_P D vwCl [(a_this, .inr (2, [.ref x1, .null, .int 0, .int 0, .int 0])), (q10, .inr (0, [.ref q10_17, .int 0])), (q10_17, .inl (k10_17, 260, .inl (fun _ => 0)))] H := hP
  have hD : va_D A [(a_this, .inr (2, [.ref x1, .null, .int 0, .int 0, .int 0])), (q10, .inr (0, [.ref q10_17, .int 0])), (q10_17, .inl (k10_17, 260, .inl (fun _ => 0)))] := hD
  have hK : va_K D vwCl [(k10_17, .int)] s := hK
  refine W.widen (k := 2) (n := 262) (by decide) (by decide) ?_
  refine va_putF (D := D) (ci := 2) (v := .ref q10) (ty := .object "LineCodes$Items") (C := R_Re) (T := T_Re) (N := 5) hx hb hts in_Re ty_Re tk_Re nn_Re hown hK hP hD hS 0 rfl rfl 1 (by decide) (hts _ mm_106) (fun _ h9 => h9) rfl hin rfl (by decide +kernel) rfl rfl (Nat.le_of_ble_eq_true rfl) d_Re_init_20 (fun H locs hP hD hS => ?_)
  have hP : va_P D vwCl [(a_this, .inr (2, [.ref x1, .ref q10, .int 0, .int 0, .int 0])), (q10, .inr (0, [.ref q10_17, .int 0])), (q10_17, .inl (k10_17, 260, .inl (fun _ => 0)))] H := hP
  have hD : va_D A [(a_this, .inr (2, [.ref x1, .ref q10, .int 0, .int 0, .int 0])), (q10, .inr (0, [.ref q10_17, .int 0])), (q10_17, .inl (k10_17, 260, .inl (fun _ => 0)))] := hD
  refine lv_aload_n hx hb d_Re_init_23 rfl (lv_at hl 0 rfl) ?_
  refine lv_iconst (v := 0) hx hb d_Re_init_24 (by decide) ?_
  refine va_put (D := D) (ci := 2) (v := .int 0) (ty := .boolean) (C := R_Re) (T := T_Re) (N := 5) hx hb hts in_Re ty_Re tk_Re nn_Re hown hK hP hD hS 0 rfl rfl 2 (by decide) (hts _ mm_107) (fun _ h9 => h9) rfl (by decide +kernel) rfl rfl (Nat.le_of_ble_eq_true rfl) d_Re_init_25 (fun H locs hP hD hS => ?_)
  have hP : va_P D vwCl [(a_this, .inr (2, [.ref x1, .ref q10, .int 0, .int 0, .int 0])), (q10, .inr (0, [.ref q10_17, .int 0])), (q10_17, .inl (k10_17, 260, .inl (fun _ => 0)))] H := hP
  have hD : va_D A [(a_this, .inr (2, [.ref x1, .ref q10, .int 0, .int 0, .int 0])), (q10, .inr (0, [.ref q10_17, .int 0])), (q10_17, .inl (k10_17, 260, .inl (fun _ => 0)))] := hD
  refine lv_aload_n hx hb d_Re_init_28 rfl (lv_at hl 0 rfl) ?_
  refine lv_iconst (v := 0) hx hb d_Re_init_29 (by decide) ?_
  refine va_put (D := D) (ci := 2) (v := .int 0) (ty := .int) (C := R_Re) (T := T_Re) (N := 5) hx hb hts in_Re ty_Re tk_Re nn_Re hown hK hP hD hS 0 rfl rfl 3 (by decide) (hts _ mm_108) (fun _ h9 => h9) rfl (by decide +kernel) rfl rfl (Nat.le_of_ble_eq_true rfl) d_Re_init_30 (fun H locs hP hD hS => ?_)
  have hP : va_P D vwCl [(a_this, .inr (2, [.ref x1, .ref q10, .int 0, .int 0, .int 0])), (q10, .inr (0, [.ref q10_17, .int 0])), (q10_17, .inl (k10_17, 260, .inl (fun _ => 0)))] H := hP
  have hD : va_D A [(a_this, .inr (2, [.ref x1, .ref q10, .int 0, .int 0, .int 0])), (q10, .inr (0, [.ref q10_17, .int 0])), (q10_17, .inl (k10_17, 260, .inl (fun _ => 0)))] := hD
  refine lv_aload_n hx hb d_Re_init_33 rfl (lv_at hl 0 rfl) ?_
  refine lv_iconst (v := 0) hx hb d_Re_init_34 (by decide) ?_
  refine va_put (D := D) (ci := 2) (v := .int 0) (ty := .boolean) (C := R_Re) (T := T_Re) (N := 5) hx hb hts in_Re ty_Re tk_Re nn_Re hown hK hP hD hS 0 rfl rfl 4 (by decide) (hts _ mm_109) (fun _ h9 => h9) rfl (by decide +kernel) rfl rfl (Nat.le_of_ble_eq_true rfl) d_Re_init_35 (fun H locs hP hD hS => ?_)
  have hP : va_P D vwCl [(a_this, .inr (2, [.ref x1, .ref q10, .int 0, .int 0, .int 0])), (q10, .inr (0, [.ref q10_17, .int 0])), (q10_17, .inl (k10_17, 260, .inl (fun _ => 0)))] H := hP
  have hD : va_D A [(a_this, .inr (2, [.ref x1, .ref q10, .int 0, .int 0, .int 0])), (q10, .inr (0, [.ref q10_17, .int 0])), (q10_17, .inl (k10_17, 260, .inl (fun _ => 0)))] := hD
  exact W.vret hx hb hr (fun t ht hW => ⟨⟨(q10, q10_17, k10_17), rfl, trivial, by rw [ht]; exact hP, va_K.moved hW.alike hK, hD⟩, hS.F ht⟩) hS.2.2 d_Re_init_38

set_option maxHeartbeats 4000000 in
set_option maxRecDepth 100000 in
theorem met_Lc_init (l : Launch) (D : va_G) (Z : (Nat → Prop) → State → Heap → Prop) (hz : zk Z) (ad : Nat → Nat) (hk : zs Z ad) (a_this : Nat) (sz : Nat) : Met l y_Lc_init ws_Lc_init { frames := 3, cells := 11, slots := 1434, locals := 63 } (va_Pc [.ref a_this] (rw_ D vwCl [] [(a_this, .inr (3, [.null, .null, .null, .null, .null]))] Z sz)) (va_Qv (fun _ : Nat × Nat × ClassId × Nat × Nat × ClassId × Nat × Nat × ClassId × Nat × Nat × ClassId × Nat × Nat × Nat × ClassId => True) (fun u t => at_ D vwCl [(u.2.2.1, .int), (u.2.2.2.2.2.1, .int), (u.2.2.2.2.2.2.2.2.1, .int), (u.2.2.2.2.2.2.2.2.2.2.2.1, .int), (u.2.2.2.2.2.2.2.2.2.2.2.2.2.2.2, .int)] (va_A [(a_this, .inr (3, [.null, .null, .null, .null, .null]))] sz) [(a_this, .inr (3, [.ref u.1, .ref u.2.2.2.1, .ref u.2.2.2.2.2.2.1, .ref u.2.2.2.2.2.2.2.2.2.1, .ref u.2.2.2.2.2.2.2.2.2.2.2.2.1])), (u.1, .inr (0, [.ref u.2.1, .int 0])), (u.2.1, .inl (u.2.2.1, 64, .inl (fun _ => 0))), (u.2.2.2.1, .inr (0, [.ref u.2.2.2.2.1, .int 0])), (u.2.2.2.2.1, .inl (u.2.2.2.2.2.1, 99, .inl (fun _ => 0))), (u.2.2.2.2.2.2.1, .inr (0, [.ref u.2.2.2.2.2.2.2.1, .int 0])), (u.2.2.2.2.2.2.2.1, .inl (u.2.2.2.2.2.2.2.2.1, 800, .inl (fun _ => 0))), (u.2.2.2.2.2.2.2.2.2.1, .inr (1, [.ref u.1, .ref u.2.2.2.1, .ref u.2.2.2.2.2.2.2.2.2.2.1])), (u.2.2.2.2.2.2.2.2.2.2.1, .inl (u.2.2.2.2.2.2.2.2.2.2.2.1, 195, .inl (fun _ => 0))), (u.2.2.2.2.2.2.2.2.2.2.2.2.1, .inr (2, [.ref u.2.2.2.2.2.2.1, .ref u.2.2.2.2.2.2.2.2.2.2.2.2.2.1, .int 0, .int 0, .int 0])), (u.2.2.2.2.2.2.2.2.2.2.2.2.2.1, .inr (0, [.ref u.2.2.2.2.2.2.2.2.2.2.2.2.2.2.1, .int 0])), (u.2.2.2.2.2.2.2.2.2.2.2.2.2.2.1, .inl (u.2.2.2.2.2.2.2.2.2.2.2.2.2.2.2, 260, .inl (fun _ => 0)))] t) (va_A [(a_this, .inr (3, [.null, .null, .null, .null, .null]))] sz)) 11 1434 (va_A [(a_this, .inr (3, [.null, .null, .null, .null, .null]))] sz) := by
  refine Met.ofW (cc := c_Lc_init) (maxL := 1) (ret := none) (by decide) rfl ?_
  intro p e s m args below meth c s₁ B hml hv
  obtain ⟨rfl, hsz, hP, hK, hD0, hZ⟩ := hv
  have hx := B.exec
  have hb := B.bytes
  have hr := B.returns
  have hts0 := atoms_spec (ws := ws_Lc_init) B.pre
  have hts := fun (w : Cond) (h : w ∈ tb) => hts0 w (List.mem_cons_of_mem _ h)
  have hown : s.vm.findClass R_Lc = some m.cls := findClass_of_methodNamed B.named
  have hlocks := B.notSynchronized
  have hin : meth.name = "<init>" := (name_of_methodNamed B.named B.method).1
  subst hsz
  have hD := hD0.self (sz := s.heap.size)
  generalize hAe : va_A [(a_this, .inr (3, [.null, .null, .null, .null, .null]))] s.heap.size = A at hD hZ ⊢
  have hA : ∀ q : Nat, s.heap.size ≤ q → A q := fun q h => by rw [← hAe]; exact Or.inr h
  have hS : va_S A s.heap s.heap [] := va_S.rf
  have hl := lv_entry ([.ref a_this]) (n := 1) (Nat.le_of_ble_eq_true rfl)
  rw [lg_entry_eq]
  generalize (lg_sl ([.ref a_this]) ++ List.replicate (1 - (lg_sl ([.ref a_this])).length) Slot.unset).toArray = ls at hl ⊢
  have hl : lv_has ls 1 [(0, .ref a_this)] := hl
  refine lv_aload_n hx hb d_Lc_init_0 rfl (lv_at hl 0 rfl) ?_
  refine W.objInit hx hb hown (hts _ mm_61) (hts _ mm_62) (hts _ mm_63) rfl (by rw [hml]; exact hl.1) rfl d_Lc_init_1 (Nat.le_of_ble_eq_true rfl) (Nat.le_of_ble_eq_true rfl) ?_
  refine W.eq (g2 := F0 m 4 ls []) rfl ?_
  refine lv_aload_n hx hb d_Lc_init_4 rfl (lv_at hl 0 rfl) ?_
  refine va_new (ci := 0) (fs := [.null, .int 0]) (C := R_It) (T := T_It) (N := 2) hx hb hts in_It ty_It tk_It hown (hts _ mm_64) (hts _ mm_65) (hts _ mm_42) hK hP hD hS hA rfl (fun j hj => by rcases (show j = 0 ∨ j = 1 by omega) with rfl | rfl <;> rfl) (Nat.le_of_ble_eq_true rfl) (Nat.le_of_ble_eq_true rfl) d_Lc_init_5 (fun q5 H hP hD hS => ?_)
  have hP : va_P D vwCl [(a_this, .inr (3, [.null, .null, .null, .null, .null])), (q5, .inr (0, [.null, .int 0]))] H := hP
  have hD : va_D A [(a_this, .inr (3, [.null, .null, .null, .null, .null])), (q5, .inr (0, [.null, .int 0]))] := hD
  refine W.widen (k := 1) (n := 2) (by decide) (by decide) ?_
  refine lv_dup hx hb d_Lc_init_8 rfl ?_
  refine lv_bipush (v := 64) hx hb d_Lc_init_9 (by decide) ?_
  rw [show (64 : Int32) = nI 64 from rfl]
  refine k_Iv (As := [.int (nI 64)]) (rest := [.ref q5, .ref a_this]) (wr := [(a_this, .inr (3, [.null, .null, .null, .null, .null]))]) hz [1] [0] [] ⟨hx, hb, hml, hown, hts⟩ (met_It_init l D Z hz ad hk q5 64 (by decide) _) (cwI 1 hts (g_C mm_68) rfl rfl rfl (hts _ mm_42) (hts _ mm_66) (hts _ mm_67) rfl hd_It_init.2 ⟨Nat.le_of_ble_eq_true rfl, Nat.le_of_ble_eq_true rfl⟩) hP hD hK hZ hS hA rfl rfl rfl rfl rfl (by decide) rfl rfl hl.1 rfl (Nat.le_of_ble_eq_true rfl) d_Lc_init_11 ⟨Nat.le_of_ble_eq_true rfl, Nat.le_of_ble_eq_true rfl⟩ (fun u9 H locs _ hP hD hS hK => ?_)
  obtain ⟨q10_11, k10_11⟩ := u9
  have hP : va_P D vwCl [(a_this, .inr (3, [.null, .null, .null, .null, .null])), (q5, .inr (0, [.ref q10_11, .int 0])), (q10_11, .inl (k10_11, 64, .inl (fun _ => 0)))] H := hP
  have hD : va_D A [(a_this, .inr (3, [.null, .null, .null, .null, .null])), (q5, .inr (0, [.ref q10_11, .int 0])), (q10_11, .inl (k10_11, 64, .inl (fun _ => 0)))] := hD
  have hK : va_K D vwCl [(k10_11, .int)] s := hK
  refine W.widen (k := 2) (n := 66) (by decide) (by decide) ?_
  refine va_putF (D := D) (ci := 3) (v := .ref q5) (ty := .object "LineCodes$Items") (C := R_Lc) (T := T_Lc) (N := 5) hx hb hts in_Lc ty_Lc tk_Lc nn_Lc hown hK hP hD hS 0 rfl rfl 0 (by decide) (hts _ mm_121) (fun _ h9 => h9) rfl hin rfl (by decide +kernel) rfl rfl (Nat.le_of_ble_eq_true rfl) d_Lc_init_14 (fun H locs hP hD hS => ?_)
  have hP : va_P D vwCl [(a_this, .inr (3, [.ref q5, .null, .null, .null, .null])), (q5, .inr (0, [.ref q10_11, .int 0])), (q10_11, .inl (k10_11, 64, .inl (fun _ => 0)))] H := hP
  have hD : va_D A [(a_this, .inr (3, [.ref q5, .null, .null, .null, .null])), (q5, .inr (0, [.ref q10_11, .int 0])), (q10_11, .inl (k10_11, 64, .inl (fun _ => 0)))] := hD
  refine lv_aload_n hx hb d_Lc_init_17 rfl (lv_at hl 0 rfl) ?_
  refine va_new (ci := 0) (fs := [.null, .int 0]) (C := R_It) (T := T_It) (N := 2) hx hb hts in_It ty_It tk_It hown (hts _ mm_64) (hts _ mm_65) (hts _ mm_42) hK hP hD hS hA rfl (fun j hj => by rcases (show j = 0 ∨ j = 1 by omega) with rfl | rfl <;> rfl) (Nat.le_of_ble_eq_true rfl) (Nat.le_of_ble_eq_true rfl) d_Lc_init_18 (fun q18 H hP hD hS => ?_)
  have hP : va_P D vwCl [(a_this, .inr (3, [.ref q5, .null, .null, .null, .null])), (q5, .inr (0, [.ref q10_11, .int 0])), (q10_11, .inl (k10_11, 64, .inl (fun _ => 0))), (q18, .inr (0, [.null, .int 0]))] H := hP
  have hD : va_D A [(a_this, .inr (3, [.ref q5, .null, .null, .null, .null])), (q5, .inr (0, [.ref q10_11, .int 0])), (q10_11, .inl (k10_11, 64, .inl (fun _ => 0))), (q18, .inr (0, [.null, .int 0]))] := hD
  refine W.widen (k := 3) (n := 68) (by decide) (by decide) ?_
  refine lv_dup hx hb d_Lc_init_21 rfl ?_
  refine lv_bipush (v := 99) hx hb d_Lc_init_22 (by decide) ?_
  rw [show (99 : Int32) = nI 99 from rfl]
  refine k_Iv (As := [.int (nI 99)]) (rest := [.ref q18, .ref a_this]) (wr := [(a_this, .inr (3, [.ref q5, .null, .null, .null, .null])), (q5, .inr (0, [.ref q10_11, .int 0])), (q10_11, .inl (k10_11, 64, .inl (fun _ => 0)))]) hz [3] [0, 1, 2] [] ⟨hx, hb, hml, hown, hts⟩ (met_It_init l D Z hz ad hk q18 99 (by decide) _) (cwI 1 hts (g_C mm_68) rfl rfl rfl (hts _ mm_42) (hts _ mm_66) (hts _ mm_67) rfl hd_It_init.2 ⟨Nat.le_of_ble_eq_true rfl, Nat.le_of_ble_eq_true rfl⟩) hP hD hK hZ hS hA rfl rfl rfl rfl rfl (by decide) rfl rfl hl.1 rfl (Nat.le_of_ble_eq_true rfl) d_Lc_init_24 ⟨Nat.le_of_ble_eq_true rfl, Nat.le_of_ble_eq_true rfl⟩ (fun u9 H locs _ hP hD hS hK => ?_)
  obtain ⟨q10_24, k10_24⟩ := u9
  have hP : va_P D vwCl [(a_this, .inr (3, [.ref q5, .null, .null, .null, .null])), (q5, .inr (0, [.ref q10_11, .int 0])), (q10_11, .inl (k10_11, 64, .inl (fun _ => 0))), (q18, .inr (0, [.ref q10_24, .int 0])), (q10_24, .inl (k10_24, 99, .inl (fun _ => 0)))] H := hP
  have hD : va_D A [(a_this, .inr (3, [.ref q5, .null, .null, .null, .null])), (q5, .inr (0, [.ref q10_11, .int 0])), (q10_11, .inl (k10_11, 64, .inl (fun _ => 0))), (q18, .inr (0, [.ref q10_24, .int 0])), (q10_24, .inl (k10_24, 99, .inl (fun _ => 0)))] := hD
  have hK : va_K D vwCl [(k10_11, .int), (k10_24, .int)] s := hK
  refine W.widen (k := 4) (n := 167) (by decide) (by decide) ?_
  refine va_putF (D := D) (ci := 3) (v := .ref q18) (ty := .object "LineCodes$Items") (C := R_Lc) (T := T_Lc) (N := 5) hx hb hts in_Lc ty_Lc tk_Lc nn_Lc hown hK hP hD hS 0 rfl rfl 1 (by decide) (hts _ mm_122) (fun _ h9 => h9) rfl hin rfl (by decide +kernel) rfl rfl (Nat.le_of_ble_eq_true rfl) d_Lc_init_27 (fun H locs hP hD hS => ?_)
  have hP : va_P D vwCl [(a_this, .inr (3, [.ref q5, .ref q18, .null, .null, .null])), (q5, .inr (0, [.ref q10_11, .int 0])), (q10_11, .inl (k10_11, 64, .inl (fun _ => 0))), (q18, .inr (0, [.ref q10_24, .int 0])), (q10_24, .inl (k10_24, 99, .inl (fun _ => 0)))] H := hP
  have hD : va_D A [(a_this, .inr (3, [.ref q5, .ref q18, .null, .null, .null])), (q5, .inr (0, [.ref q10_11, .int 0])), (q10_11, .inl (k10_11, 64, .inl (fun _ => 0))), (q18, .inr (0, [.ref q10_24, .int 0])), (q10_24, .inl (k10_24, 99, .inl (fun _ => 0)))] := hD
  refine lv_aload_n hx hb d_Lc_init_30 rfl (lv_at hl 0 rfl) ?_
  refine va_new (ci := 0) (fs := [.null, .int 0]) (C := R_It) (T := T_It) (N := 2) hx hb hts in_It ty_It tk_It hown (hts _ mm_64) (hts _ mm_65) (hts _ mm_42) hK hP hD hS hA rfl (fun j hj => by rcases (show j = 0 ∨ j = 1 by omega) with rfl | rfl <;> rfl) (Nat.le_of_ble_eq_true rfl) (Nat.le_of_ble_eq_true rfl) d_Lc_init_31 (fun q31 H hP hD hS => ?_)
  have hP : va_P D vwCl [(a_this, .inr (3, [.ref q5, .ref q18, .null, .null, .null])), (q5, .inr (0, [.ref q10_11, .int 0])), (q10_11, .inl (k10_11, 64, .inl (fun _ => 0))), (q18, .inr (0, [.ref q10_24, .int 0])), (q10_24, .inl (k10_24, 99, .inl (fun _ => 0))), (q31, .inr (0, [.null, .int 0]))] H := hP
  have hD : va_D A [(a_this, .inr (3, [.ref q5, .ref q18, .null, .null, .null])), (q5, .inr (0, [.ref q10_11, .int 0])), (q10_11, .inl (k10_11, 64, .inl (fun _ => 0))), (q18, .inr (0, [.ref q10_24, .int 0])), (q10_24, .inl (k10_24, 99, .inl (fun _ => 0))), (q31, .inr (0, [.null, .int 0]))] := hD
  refine W.widen (k := 5) (n := 169) (by decide) (by decide) ?_
  refine lv_dup hx hb d_Lc_init_34 rfl ?_
  refine lv_sipush (v := 800) hx hb d_Lc_init_35 (by decide) ?_
  rw [show (800 : Int32) = nI 800 from rfl]
  refine k_Iv (As := [.int (nI 800)]) (rest := [.ref q31, .ref a_this]) (wr := [(a_this, .inr (3, [.ref q5, .ref q18, .null, .null, .null])), (q5, .inr (0, [.ref q10_11, .int 0])), (q10_11, .inl (k10_11, 64, .inl (fun _ => 0))), (q18, .inr (0, [.ref q10_24, .int 0])), (q10_24, .inl (k10_24, 99, .inl (fun _ => 0)))]) hz [5] [0, 1, 2, 3, 4] [] ⟨hx, hb, hml, hown, hts⟩ (met_It_init l D Z hz ad hk q31 800 (by decide) _) (cwI 1 hts (g_C mm_68) rfl rfl rfl (hts _ mm_42) (hts _ mm_66) (hts _ mm_67) rfl hd_It_init.2 ⟨Nat.le_of_ble_eq_true rfl, Nat.le_of_ble_eq_true rfl⟩) hP hD hK hZ hS hA rfl rfl rfl rfl rfl (by decide) rfl rfl hl.1 rfl (Nat.le_of_ble_eq_true rfl) d_Lc_init_38 ⟨Nat.le_of_ble_eq_true rfl, Nat.le_of_ble_eq_true rfl⟩ (fun u9 H locs _ hP hD hS hK => ?_)
  obtain ⟨q10_38, k10_38⟩ := u9
  have hP : va_P D vwCl [(a_this, .inr (3, [.ref q5, .ref q18, .null, .null, .null])), (q5, .inr (0, [.ref q10_11, .int 0])), (q10_11, .inl (k10_11, 64, .inl (fun _ => 0))), (q18, .inr (0, [.ref q10_24, .int 0])), (q10_24, .inl (k10_24, 99, .inl (fun _ => 0))), (q31, .inr (0, [.ref q10_38, .int 0])), (q10_38, .inl (k10_38, 800, .inl (fun _ => 0)))] H := hP
  have hD : va_D A [(a_this, .inr (3, [.ref q5, .ref q18, .null, .null, .null])), (q5, .inr (0, [.ref q10_11, .int 0])), (q10_11, .inl (k10_11, 64, .inl (fun _ => 0))), (q18, .inr (0, [.ref q10_24, .int 0])), (q10_24, .inl (k10_24, 99, .inl (fun _ => 0))), (q31, .inr (0, [.ref q10_38, .int 0])), (q10_38, .inl (k10_38, 800, .inl (fun _ => 0)))] := hD
  have hK : va_K D vwCl [(k10_11, .int), (k10_24, .int), (k10_38, .int)] s := hK
  refine W.widen (k := 6) (n := 969) (by decide) (by decide) ?_
  refine va_putF (D := D) (ci := 3) (v := .ref q31) (ty := .object "LineCodes$Items") (C := R_Lc) (T := T_Lc) (N := 5) hx hb hts in_Lc ty_Lc tk_Lc nn_Lc hown hK hP hD hS 0 rfl rfl 2 (by decide) (hts _ mm_123) (fun _ h9 => h9) rfl hin rfl (by decide +kernel) rfl rfl (Nat.le_of_ble_eq_true rfl) d_Lc_init_41 (fun H locs hP hD hS => ?_)
  have hP : va_P D vwCl [(a_this, .inr (3, [.ref q5, .ref q18, .ref q31, .null, .null])), (q5, .inr (0, [.ref q10_11, .int 0])), (q10_11, .inl (k10_11, 64, .inl (fun _ => 0))), (q18, .inr (0, [.ref q10_24, .int 0])), (q10_24, .inl (k10_24, 99, .inl (fun _ => 0))), (q31, .inr (0, [.ref q10_38, .int 0])), (q10_38, .inl (k10_38, 800, .inl (fun _ => 0)))] H := hP
  have hD : va_D A [(a_this, .inr (3, [.ref q5, .ref q18, .ref q31, .null, .null])), (q5, .inr (0, [.ref q10_11, .int 0])), (q10_11, .inl (k10_11, 64, .inl (fun _ => 0))), (q18, .inr (0, [.ref q10_24, .int 0])), (q10_24, .inl (k10_24, 99, .inl (fun _ => 0))), (q31, .inr (0, [.ref q10_38, .int 0])), (q10_38, .inl (k10_38, 800, .inl (fun _ => 0)))] := hD
  refine lv_aload_n hx hb d_Lc_init_44 rfl (lv_at hl 0 rfl) ?_
  refine va_new (ci := 1) (fs := [.null, .null, .null]) (C := R_Pa) (T := T_Pa) (N := 3) hx hb hts in_Pa ty_Pa tk_Pa hown (hts _ mm_81) (hts _ mm_82) (hts _ mm_44) hK hP hD hS hA rfl (fun j hj => by rcases (show j = 0 ∨ j = 1 ∨ j = 2 by omega) with rfl | rfl | rfl <;> rfl) (Nat.le_of_ble_eq_true rfl) (Nat.le_of_ble_eq_true rfl) d_Lc_init_45 (fun q45 H hP hD hS => ?_)
  have hP : va_P D vwCl [(a_this, .inr (3, [.ref q5, .ref q18, .ref q31, .null, .null])), (q5, .inr (0, [.ref q10_11, .int 0])), (q10_11, .inl (k10_11, 64, .inl (fun _ => 0))), (q18, .inr (0, [.ref q10_24, .int 0])), (q10_24, .inl (k10_24, 99, .inl (fun _ => 0))), (q31, .inr (0, [.ref q10_38, .int 0])), (q10_38, .inl (k10_38, 800, .inl (fun _ => 0))), (q45, .inr (1, [.null, .null, .null]))] H := hP
  have hD : va_D A [(a_this, .inr (3, [.ref q5, .ref q18, .ref q31, .null, .null])), (q5, .inr (0, [.ref q10_11, .int 0])), (q10_11, .inl (k10_11, 64, .inl (fun _ => 0))), (q18, .inr (0, [.ref q10_24, .int 0])), (q10_24, .inl (k10_24, 99, .inl (fun _ => 0))), (q31, .inr (0, [.ref q10_38, .int 0])), (q10_38, .inl (k10_38, 800, .inl (fun _ => 0))), (q45, .inr (1, [.null, .null, .null]))] := hD
  refine W.widen (k := 7) (n := 972) (by decide) (by decide) ?_
  refine lv_dup hx hb d_Lc_init_48 rfl ?_
  refine lv_aload_n hx hb d_Lc_init_49 rfl (lv_at hl 0 rfl) ?_
  refine va_get (D := D) (ci := 3) (v := .ref q5) (C := R_Lc) (T := T_Lc) (N := 5) hx hb hts in_Lc hown hK hP 0 rfl rfl 0 (by decide) (hts _ mm_121) (fun _ h9 => h9) rfl d_Lc_init_50 ?_
  refine lv_aload_n hx hb d_Lc_init_53 rfl (lv_at hl 0 rfl) ?_
  refine va_get (D := D) (ci := 3) (v := .ref q18) (C := R_Lc) (T := T_Lc) (N := 5) hx hb hts in_Lc hown hK hP 0 rfl rfl 1 (by decide) (hts _ mm_122) (fun _ h9 => h9) rfl d_Lc_init_54 ?_
  refine k_Iv (As := [.ref q5, .ref q18]) (rest := [.ref q45, .ref a_this]) (wr := [(a_this, .inr (3, [.ref q5, .ref q18, .ref q31, .null, .null])), (q5, .inr (0, [.ref q10_11, .int 0])), (q10_11, .inl (k10_11, 64, .inl (fun _ => 0))), (q18, .inr (0, [.ref q10_24, .int 0])), (q10_24, .inl (k10_24, 99, .inl (fun _ => 0))), (q31, .inr (0, [.ref q10_38, .int 0])), (q10_38, .inl (k10_38, 800, .inl (fun _ => 0)))]) hz [7] [0, 1, 2, 3, 4, 5, 6] [] ⟨hx, hb, hml, hown, hts⟩ (met_Pa_init l D Z hz ad hk q45 q5 q18 _) (cwI 2 hts (g_C mm_85) rfl rfl rfl (hts _ mm_44) (hts _ mm_83) (hts _ mm_84) rfl hd_Pa_init.2 ⟨Nat.le_of_ble_eq_true rfl, Nat.le_of_ble_eq_true rfl⟩) hP hD hK hZ hS hA rfl rfl rfl rfl rfl (by decide) rfl rfl hl.1 rfl (Nat.le_of_ble_eq_true rfl) d_Lc_init_57 ⟨Nat.le_of_ble_eq_true rfl, Nat.le_of_ble_eq_true rfl⟩ (fun u9 H locs _ hP hD hS hK => ?_)
  obtain ⟨q18_57, k18_57⟩ := u9
  have hP : va_P D vwCl [(a_this, .inr (3, [.ref q5, .ref q18, .ref q31, .null, .null])), (q5, .inr (0, [.ref q10_11, .int 0])), (q10_11, .inl (k10_11, 64, .inl (fun _ => 0))), (q18, .inr (0, [.ref q10_24, .int 0])), (q10_24, .inl (k10_24, 99, .inl (fun _ => 0))), (q31, .inr (0, [.ref q10_38, .int 0])), (q10_38, .inl (k10_38, 800, .inl (fun _ => 0))), (q45, .inr (1, [.ref q5, .ref q18, .ref q18_57])), (q18_57, .inl (k18_57, 195, .inl (fun _ => 0)))] H := hP
  have hD : va_D A [(a_this, .inr (3, [.ref q5, .ref q18, .ref q31, .null, .null])), (q5, .inr (0, [.ref q10_11, .int 0])), (q10_11, .inl (k10_11, 64, .inl (fun _ => 0))), (q18, .inr (0, [.ref q10_24, .int 0])), (q10_24, .inl (k10_24, 99, .inl (fun _ => 0))), (q31, .inr (0, [.ref q10_38, .int 0])), (q10_38, .inl (k10_38, 800, .inl (fun _ => 0))), (q45, .inr (1, [.ref q5, .ref q18, .ref q18_57])), (q18_57, .inl (k18_57, 195, .inl (fun _ => 0)))] := hD
  have hK : va_K D vwCl [(k10_11, .int), (k10_24, .int), (k10_38, .int), (k18_57, .int)] s := hK
  refine W.widen (k := 8) (n := 1167) (by decide) (by decide) ?_
  refine va_putF (D := D) (ci := 3) (v := .ref q45) (ty := .object "LineCodes$Packer") (C := R_Lc) (T := T_Lc) (N := 5) hx hb hts in_Lc ty_Lc tk_Lc nn_Lc hown hK hP hD hS 0 rfl rfl 3 (by decide) (hts _ mm_124) (fun _ h9 => h9) rfl hin rfl (by decide +kernel) rfl rfl (Nat.le_of_ble_eq_true rfl) d_Lc_init_60 (fun H locs hP hD hS => ?_)
  have hP : va_P D vwCl [(a_this, .inr (3, [.ref q5, .ref q18, .ref q31, .ref q45, .null])), (q5, .inr (0, [.ref q10_11, .int 0])), (q10_11, .inl (k10_11, 64, .inl (fun _ => 0))), (q18, .inr (0, [.ref q10_24, .int 0])), (q10_24, .inl (k10_24, 99, .inl (fun _ => 0))), (q31, .inr (0, [.ref q10_38, .int 0])), (q10_38, .inl (k10_38, 800, .inl (fun _ => 0))), (q45, .inr (1, [.ref q5, .ref q18, .ref q18_57])), (q18_57, .inl (k18_57, 195, .inl (fun _ => 0)))] H := hP
  have hD : va_D A [(a_this, .inr (3, [.ref q5, .ref q18, .ref q31, .ref q45, .null])), (q5, .inr (0, [.ref q10_11, .int 0])), (q10_11, .inl (k10_11, 64, .inl (fun _ => 0))), (q18, .inr (0, [.ref q10_24, .int 0])), (q10_24, .inl (k10_24, 99, .inl (fun _ => 0))), (q31, .inr (0, [.ref q10_38, .int 0])), (q10_38, .inl (k10_38, 800, .inl (fun _ => 0))), (q45, .inr (1, [.ref q5, .ref q18, .ref q18_57])), (q18_57, .inl (k18_57, 195, .inl (fun _ => 0)))] := hD
  refine lv_aload_n hx hb d_Lc_init_63 rfl (lv_at hl 0 rfl) ?_
  refine va_new (ci := 2) (fs := [.null, .null, .int 0, .int 0, .int 0]) (C := R_Re) (T := T_Re) (N := 5) hx hb hts in_Re ty_Re tk_Re hown (hts _ mm_97) (hts _ mm_98) (hts _ mm_45) hK hP hD hS hA rfl (fun j hj => by rcases (show j = 0 ∨ j = 1 ∨ j = 2 ∨ j = 3 ∨ j = 4 by omega) with rfl | rfl | rfl | rfl | rfl <;> rfl) (Nat.le_of_ble_eq_true rfl) (Nat.le_of_ble_eq_true rfl) d_Lc_init_64 (fun q64 H hP hD hS => ?_)
  have hP : va_P D vwCl [(a_this, .inr (3, [.ref q5, .ref q18, .ref q31, .ref q45, .null])), (q5, .inr (0, [.ref q10_11, .int 0])), (q10_11, .inl (k10_11, 64, .inl (fun _ => 0))), (q18, .inr (0, [.ref q10_24, .int 0])), (q10_24, .inl (k10_24, 99, .inl (fun _ => 0))), (q31, .inr (0, [.ref q10_38, .int 0])), (q10_38, .inl (k10_38, 800, .inl (fun _ => 0))), (q45, .inr (1, [.ref q5, .ref q18, .ref q18_57])), (q18_57, .inl (k18_57, 195, .inl (fun _ => 0))), (q64, .inr (2, [.null, .null, .int 0, .int 0, .int 0]))] H := hP
  have hD : va_D A [(a_this, .inr (3, [.ref q5, .ref q18, .ref q31, .ref q45, .null])), (q5, .inr (0, [.ref q10_11, .int 0])), (q10_11, .inl (k10_11, 64, .inl (fun _ => 0))), (q18, .inr (0, [.ref q10_24, .int 0])), (q10_24, .inl (k10_24, 99, .inl (fun _ => 0))), (q31, .inr (0, [.ref q10_38, .int 0])), (q10_38, .inl (k10_38, 800, .inl (fun _ => 0))), (q45, .inr (1, [.ref q5, .ref q18, .ref q18_57])), (q18_57, .inl (k18_57, 195, .inl (fun _ => 0))), (q64, .inr (2, [.null, .null, .int 0, .int 0, .int 0]))] := hD
  refine W.widen (k := 9) (n := 1172) (by decide) (by decide) ?_
  refine lv_dup hx hb d_Lc_init_67 rfl ?_
  refine lv_aload_n hx hb d_Lc_init_68 rfl (lv_at hl 0 rfl) ?_
  refine va_get (D := D) (ci := 3) (v := .ref q31) (C := R_Lc) (T := T_Lc) (N := 5) hx hb hts in_Lc hown hK hP 0 rfl rfl 2 (by decide) (hts _ mm_123) (fun _ h9 => h9) rfl d_Lc_init_69 ?_
  refine k_Iv (As := [.ref q31]) (rest := [.ref q64, .ref a_this]) (wr := [(a_this, .inr (3, [.ref q5, .ref q18, .ref q31, .ref q45, .null])), (q5, .inr (0, [.ref q10_11, .int 0])), (q10_11, .inl (k10_11, 64, .inl (fun _ => 0))), (q18, .inr (0, [.ref q10_24, .int 0])), (q10_24, .inl (k10_24, 99, .inl (fun _ => 0))), (q31, .inr (0, [.ref q10_38, .int 0])), (q10_38, .inl (k10_38, 800, .inl (fun _ => 0))), (q45, .inr (1, [.ref q5, .ref q18, .ref q18_57])), (q18_57, .inl (k18_57, 195, .inl (fun _ => 0)))]) hz [9] [0, 1, 2, 3, 4, 5, 6, 7, 8] [] ⟨hx, hb, hml, hown, hts⟩ (met_Re_init l D Z hz ad hk q64 q31 _) (cwI 1 hts (g_C mm_101) rfl rfl rfl (hts _ mm_45) (hts _ mm_99) (hts _ mm_100) rfl hd_Re_init.2 ⟨Nat.le_of_ble_eq_true rfl, Nat.le_of_ble_eq_true rfl⟩) hP hD hK hZ hS hA rfl rfl rfl rfl rfl (by decide) rfl rfl hl.1 rfl (Nat.le_of_ble_eq_true rfl) d_Lc_init_72 ⟨Nat.le_of_ble_eq_true rfl, Nat.le_of_ble_eq_true rfl⟩ (fun u9 H locs _ hP hD hS hK => ?_)
  obtain ⟨q10_72, q10_17_72, k10_17_72⟩ := u9
  have hP : va_P D vwCl [(a_this, .inr (3, [.ref q5, .ref q18, .ref q31, .ref q45, .null])), (q5, .inr (0, [.ref q10_11, .int 0])), (q10_11, .inl (k10_11, 64, .inl (fun _ => 0))), (q18, .inr (0, [.ref q10_24, .int 0])), (q10_24, .inl (k10_24, 99, .inl (fun _ => 0))), (q31, .inr (0, [.ref q10_38, .int 0])), (q10_38, .inl (k10_38, 800, .inl (fun _ => 0))), (q45, .inr (1, [.ref q5, .ref q18, .ref q18_57])), (q18_57, .inl (k18_57, 195, .inl (fun _ => 0))), (q64, .inr (2, [.ref q31, .ref q10_72, .int 0, .int 0, .int 0])), (q10_72, .inr (0, [.ref q10_17_72, .int 0])), (q10_17_72, .inl (k10_17_72, 260, .inl (fun _ => 0)))] H := hP
  have hD : va_D A [(a_this, .inr (3, [.ref q5, .ref q18, .ref q31, .ref q45, .null])), (q5, .inr (0, [.ref q10_11, .int 0])), (q10_11, .inl (k10_11, 64, .inl (fun _ => 0))), (q18, .inr (0, [.ref q10_24, .int 0])), (q10_24, .inl (k10_24, 99, .inl (fun _ => 0))), (q31, .inr (0, [.ref q10_38, .int 0])), (q10_38, .inl (k10_38, 800, .inl (fun _ => 0))), (q45, .inr (1, [.ref q5, .ref q18, .ref q18_57])), (q18_57, .inl (k18_57, 195, .inl (fun _ => 0))), (q64, .inr (2, [.ref q31, .ref q10_72, .int 0, .int 0, .int 0])), (q10_72, .inr (0, [.ref q10_17_72, .int 0])), (q10_17_72, .inl (k10_17_72, 260, .inl (fun _ => 0)))] := hD
  have hK : va_K D vwCl [(k10_11, .int), (k10_24, .int), (k10_38, .int), (k18_57, .int), (k10_17_72, .int)] s := hK
  refine W.widen (k := 11) (n := 1434) (by decide) (by decide) ?_
  refine va_putF (D := D) (ci := 3) (v := .ref q64) (ty := .object "LineCodes$Reader") (C := R_Lc) (T := T_Lc) (N := 5) hx hb hts in_Lc ty_Lc tk_Lc nn_Lc hown hK hP hD hS 0 rfl rfl 4 (by decide) (hts _ mm_125) (fun _ h9 => h9) rfl hin rfl (by decide +kernel) rfl rfl (Nat.le_of_ble_eq_true rfl) d_Lc_init_75 (fun H locs hP hD hS => ?_)
  have hP : va_P D vwCl [(a_this, .inr (3, [.ref q5, .ref q18, .ref q31, .ref q45, .ref q64])), (q5, .inr (0, [.ref q10_11, .int 0])), (q10_11, .inl (k10_11, 64, .inl (fun _ => 0))), (q18, .inr (0, [.ref q10_24, .int 0])), (q10_24, .inl (k10_24, 99, .inl (fun _ => 0))), (q31, .inr (0, [.ref q10_38, .int 0])), (q10_38, .inl (k10_38, 800, .inl (fun _ => 0))), (q45, .inr (1, [.ref q5, .ref q18, .ref q18_57])), (q18_57, .inl (k18_57, 195, .inl (fun _ => 0))), (q64, .inr (2, [.ref q31, .ref q10_72, .int 0, .int 0, .int 0])), (q10_72, .inr (0, [.ref q10_17_72, .int 0])), (q10_17_72, .inl (k10_17_72, 260, .inl (fun _ => 0)))] H := hP
  have hD : va_D A [(a_this, .inr (3, [.ref q5, .ref q18, .ref q31, .ref q45, .ref q64])), (q5, .inr (0, [.ref q10_11, .int 0])), (q10_11, .inl (k10_11, 64, .inl (fun _ => 0))), (q18, .inr (0, [.ref q10_24, .int 0])), (q10_24, .inl (k10_24, 99, .inl (fun _ => 0))), (q31, .inr (0, [.ref q10_38, .int 0])), (q10_38, .inl (k10_38, 800, .inl (fun _ => 0))), (q45, .inr (1, [.ref q5, .ref q18, .ref q18_57])), (q18_57, .inl (k18_57, 195, .inl (fun _ => 0))), (q64, .inr (2, [.ref q31, .ref q10_72, .int 0, .int 0, .int 0])), (q10_72, .inr (0, [.ref q10_17_72, .int 0])), (q10_17_72, .inl (k10_17_72, 260, .inl (fun _ => 0)))] := hD
  exact W.vret hx hb hr (fun t ht hW => ⟨⟨(q5, q10_11, k10_11, q18, q10_24, k10_24, q31, q10_38, k10_38, q45, q18_57, k18_57, q64, q10_72, q10_17_72, k10_17_72), rfl, trivial, by rw [ht]; exact hP, va_K.moved hW.alike hK, hD⟩, hS.F ht⟩) hS.2.2 d_Lc_init_78

set_option maxHeartbeats 4000000 in
set_option maxRecDepth 100000 in
theorem met_Md_init (l : Launch) (D : va_G) (Z : (Nat → Prop) → State → Heap → Prop) (hz : zk Z) (ad : Nat → Nat) (hk : zs Z ad) (a_this : Nat) (sz : Nat) : Met l y_Md_init ws_Md_init { frames := 1, cells := 11, slots := 2928, locals := 20 } (va_Pc [.ref a_this] (rw_ D vwCl [] [(a_this, .inr (4, [.null, .null, .null, .int 0, .null, .int 0, .null, .null, .int 0, .null, .int 0, .null, .null, .null, .int 0, .int 0, .null, .int 0]))] Z sz)) (va_Qv (fun _ : Nat × ClassId × Nat × ClassId × Nat × ClassId × Nat × ClassId × Nat × ClassId × Nat × ClassId × Nat × ClassId × Nat × ClassId × Nat × ClassId × Nat × ClassId × Nat × ClassId => True) (fun u t => at_ D vwCl [(u.2.1, .int), (u.2.2.2.1, .int), (u.2.2.2.2.2.1, .int), (u.2.2.2.2.2.2.2.1, .int), (u.2.2.2.2.2.2.2.2.2.1, .int), (u.2.2.2.2.2.2.2.2.2.2.2.1, .int), (u.2.2.2.2.2.2.2.2.2.2.2.2.2.1, .int), (u.2.2.2.2.2.2.2.2.2.2.2.2.2.2.2.1, .int), (u.2.2.2.2.2.2.2.2.2.2.2.2.2.2.2.2.2.1, .int), (u.2.2.2.2.2.2.2.2.2.2.2.2.2.2.2.2.2.2.2.1, .int), (u.2.2.2.2.2.2.2.2.2.2.2.2.2.2.2.2.2.2.2.2.2, .int)] (va_A [(a_this, .inr (4, [.null, .null, .null, .int 0, .null, .int 0, .null, .null, .int 0, .null, .int 0, .null, .null, .null, .int 0, .int 0, .null, .int 0]))] sz) [(a_this, .inr (4, [.ref u.1, .ref u.2.2.1, .ref u.2.2.2.2.1, .int 0, .ref u.2.2.2.2.2.2.1, .int 0, .ref u.2.2.2.2.2.2.2.2.1, .ref u.2.2.2.2.2.2.2.2.2.2.1, .int 0, .ref u.2.2.2.2.2.2.2.2.2.2.2.2.1, .int 0, .ref u.2.2.2.2.2.2.2.2.2.2.2.2.2.2.1, .ref u.2.2.2.2.2.2.2.2.2.2.2.2.2.2.2.2.1, .ref u.2.2.2.2.2.2.2.2.2.2.2.2.2.2.2.2.2.2.1, .int 0, .int 0, .ref u.2.2.2.2.2.2.2.2.2.2.2.2.2.2.2.2.2.2.2.2.1, .int 0])), (u.1, .inl (u.2.1, 106, .inl (tabU symL 106))), (u.2.2.1, .inl (u.2.2.2.1, 10, .inl (tabU figL 10))), (u.2.2.2.2.1, .inl (u.2.2.2.2.2.1, 10, .inl (tabU trnL 10))), (u.2.2.2.2.2.2.1, .inl (u.2.2.2.2.2.2.2.1, 64, .inl (fun _ => 0))), (u.2.2.2.2.2.2.2.2.1, .inl (u.2.2.2.2.2.2.2.2.2.1, 198, .inl (fun _ => 0))), (u.2.2.2.2.2.2.2.2.2.2.1, .inl (u.2.2.2.2.2.2.2.2.2.2.2.1, 200, .inl (fun _ => 0))), (u.2.2.2.2.2.2.2.2.2.2.2.2.1, .inl (u.2.2.2.2.2.2.2.2.2.2.2.2.2.1, 800, .inl (fun _ => 0))), (u.2.2.2.2.2.2.2.2.2.2.2.2.2.2.1, .inl (u.2.2.2.2.2.2.2.2.2.2.2.2.2.2.2.1, 800, .inl (fun _ => 0))), (u.2.2.2.2.2.2.2.2.2.2.2.2.2.2.2.2.1, .inl (u.2.2.2.2.2.2.2.2.2.2.2.2.2.2.2.2.2.1, 140, .inl (fun _ => 0))), (u.2.2.2.2.2.2.2.2.2.2.2.2.2.2.2.2.2.2.1, .inl (u.2.2.2.2.2.2.2.2.2.2.2.2.2.2.2.2.2.2.2.1, 300, .inl (fun _ => 0))), (u.2.2.2.2.2.2.2.2.2.2.2.2.2.2.2.2.2.2.2.2.1, .inl (u.2.2.2.2.2.2.2.2.2.2.2.2.2.2.2.2.2.2.2.2.2, 300, .inl (fun _ => 0)))] t) (va_A [(a_this, .inr (4, [.null, .null, .null, .int 0, .null, .int 0, .null, .null, .int 0, .null, .int 0, .null, .null, .null, .int 0, .int 0, .null, .int 0]))] sz)) 11 2928 (va_A [(a_this, .inr (4, [.null, .null, .null, .int 0, .null, .int 0, .null, .null, .int 0, .null, .int 0, .null, .null, .null, .int 0, .int 0, .null, .int 0]))] sz) := by
  refine Met.ofW (cc := c_Md_init) (maxL := 1) (ret := none) (by decide) rfl ?_
  intro p e s m args below meth c s₁ B hml hv
  obtain ⟨rfl, hsz, hP, hK, hD0, hZ⟩ := hv
  have hx := B.exec
  have hb := B.bytes
  have hr := B.returns
  have hts0 := atoms_spec (ws := ws_Md_init) B.pre
  have hts := fun (w : Cond) (h : w ∈ tb) => hts0 w (List.mem_cons_of_mem _ h)
  have hown : s.vm.findClass R_Md = some m.cls := findClass_of_methodNamed B.named
  have hlocks := B.notSynchronized
  have hin : meth.name = "<init>" := (name_of_methodNamed B.named B.method).1
  subst hsz
  have hD := hD0.self (sz := s.heap.size)
  generalize hAe : va_A [(a_this, .inr (4, [.null, .null, .null, .int 0, .null, .int 0, .null, .null, .int 0, .null, .int 0, .null, .null, .null, .int 0, .int 0, .null, .int 0]))] s.heap.size = A at hD hZ ⊢
  have hA : ∀ q : Nat, s.heap.size ≤ q → A q := fun q h => by rw [← hAe]; exact Or.inr h
  have hS : va_S A s.heap s.heap [] := va_S.rf
  have hl := lv_entry ([.ref a_this]) (n := 1) (Nat.le_of_ble_eq_true rfl)
  rw [lg_entry_eq]
  generalize (lg_sl ([.ref a_this]) ++ List.replicate (1 - (lg_sl ([.ref a_this])).length) Slot.unset).toArray = ls at hl ⊢
  have hl : lv_has ls 1 [(0, .ref a_this)] := hl
  refine lv_aload_n hx hb d_Md_init_0 rfl (lv_at hl 0 rfl) ?_
  refine W.objInit hx hb hown (hts _ mm_573) (hts _ mm_62) (hts _ mm_63) rfl (by rw [hml]; exact hl.1) rfl d_Md_init_1 (Nat.le_of_ble_eq_true rfl) (Nat.le_of_ble_eq_true rfl) ?_
  refine W.eq (g2 := F0 m 4 ls []) rfl ?_
  refine lv_aload_n hx hb d_Md_init_4 rfl (lv_at hl 0 rfl) ?_
  refine lv_bipush (v := 106) hx hb d_Md_init_5 (by decide) ?_
  refine va_newa (atype := .int) (ty := .int) (a0 := (106, .inl fun _ => 0)) hx hb (hts _ mm_80) rfl hK hP hD hS hA (fun _ => rfl) (by decide) (by decide) (by decide) (Nat.le_of_ble_eq_true rfl) (Nat.le_of_ble_eq_true rfl) d_Md_init_7 (fun q7 k7 H hK hP hD hS => ?_)
  have hP : va_P D vwCl [(a_this, .inr (4, [.null, .null, .null, .int 0, .null, .int 0, .null, .null, .int 0, .null, .int 0, .null, .null, .null, .int 0, .int 0, .null, .int 0])), (q7, .inl (k7, 106, .inl (fun _ => 0)))] H := hP
  have hD : va_D A [(a_this, .inr (4, [.null, .null, .null, .int 0, .null, .int 0, .null, .null, .int 0, .null, .int 0, .null, .null, .null, .int 0, .int 0, .null, .int 0])), (q7, .inl (k7, 106, .inl (fun _ => 0)))] := hD
  have hK : va_K D vwCl [(k7, .int)] s := hK
  refine W.widen (k := 1) (n := 106) (by decide) (by decide) ?_
  refine lv_dup hx hb d_Md_init_9 rfl ?_
  refine lv_iconst (v := 0) hx hb d_Md_init_10 (by decide) ?_
  refine lv_ldc (v := 212222) hx hb hown (hts _ mm_574) d_Md_init_11 ?_
  refine va_iast hx hb hK hP hD hS 1 0 rfl rfl (vp_in_nI (n := 0) (N := 106) (by decide) (by decide)) d_Md_init_13 (fun H locs hP hD hS => ?_)
  rw [show upd (fun _ => 0) (0 : Int32).toNatClampNeg 212222 = tabU symL 1 from tabU_0 (by decide +kernel)] at hP hD
  have hP : va_P D vwCl [(a_this, .inr (4, [.null, .null, .null, .int 0, .null, .int 0, .null, .null, .int 0, .null, .int 0, .null, .null, .null, .int 0, .int 0, .null, .int 0])), (q7, .inl (k7, 106, .inl (tabU symL 1)))] H := hP
  have hD : va_D A [(a_this, .inr (4, [.null, .null, .null, .int 0, .null, .int 0, .null, .null, .int 0, .null, .int 0, .null, .null, .null, .int 0, .int 0, .null, .int 0])), (q7, .inl (k7, 106, .inl (tabU symL 1)))] := hD
  refine lv_dup hx hb d_Md_init_14 rfl ?_
  refine lv_iconst (v := 1) hx hb d_Md_init_15 (by decide) ?_
  refine lv_ldc (v := 222122) hx hb hown (hts _ mm_575) d_Md_init_16 ?_
  refine va_iast hx hb hK hP hD hS 1 0 rfl rfl (vp_in_nI (n := 1) (N := 106) (by decide) (by decide)) d_Md_init_18 (fun H locs hP hD hS => ?_)
  rw [show upd (tabU symL 1) (1 : Int32).toNatClampNeg 222122 = tabU symL 2 from tabU_s (by decide +kernel)] at hP hD
  have hP : va_P D vwCl [(a_this, .inr (4, [.null, .null, .null, .int 0, .null, .int 0, .null, .null, .int 0, .null, .int 0, .null, .null, .null, .int 0, .int 0, .null, .int 0])), (q7, .inl (k7, 106, .inl (tabU symL 2)))] H := hP
  have hD : va_D A [(a_this, .inr (4, [.null, .null, .null, .int 0, .null, .int 0, .null, .null, .int 0, .null, .int 0, .null, .null, .null, .int 0, .int 0, .null, .int 0])), (q7, .inl (k7, 106, .inl (tabU symL 2)))] := hD
  refine lv_dup hx hb d_Md_init_19 rfl ?_
  refine lv_iconst (v := 2) hx hb d_Md_init_20 (by decide) ?_
  refine lv_ldc (v := 222221) hx hb hown (hts _ mm_576) d_Md_init_21 ?_
  refine va_iast hx hb hK hP hD hS 1 0 rfl rfl (vp_in_nI (n := 2) (N := 106) (by decide) (by decide)) d_Md_init_23 (fun H locs hP hD hS => ?_)
  rw [show upd (tabU symL 2) (2 : Int32).toNatClampNeg 222221 = tabU symL 3 from tabU_s (by decide +kernel)] at hP hD
  have hP : va_P D vwCl [(a_this, .inr (4, [.null, .null, .null, .int 0, .null, .int 0, .null, .null, .int 0, .null, .int 0, .null, .null, .null, .int 0, .int 0, .null, .int 0])), (q7, .inl (k7, 106, .inl (tabU symL 3)))] H := hP
  have hD : va_D A [(a_this, .inr (4, [.null, .null, .null, .int 0, .null, .int 0, .null, .null, .int 0, .null, .int 0, .null, .null, .null, .int 0, .int 0, .null, .int 0])), (q7, .inl (k7, 106, .inl (tabU symL 3)))] := hD
  refine lv_dup hx hb d_Md_init_24 rfl ?_
  refine lv_iconst (v := 3) hx hb d_Md_init_25 (by decide) ?_
  refine lv_ldc (v := 121223) hx hb hown (hts _ mm_577) d_Md_init_26 ?_
  refine va_iast hx hb hK hP hD hS 1 0 rfl rfl (vp_in_nI (n := 3) (N := 106) (by decide) (by decide)) d_Md_init_28 (fun H locs hP hD hS => ?_)
  rw [show upd (tabU symL 3) (3 : Int32).toNatClampNeg 121223 = tabU symL 4 from tabU_s (by decide +kernel)] at hP hD
  have hP : va_P D vwCl [(a_this, .inr (4, [.null, .null, .null, .int 0, .null, .int 0, .null, .null, .int 0, .null, .int 0, .null, .null, .null, .int 0, .int 0, .null, .int 0])), (q7, .inl (k7, 106, .inl (tabU symL 4)))] H := hP
  have hD : va_D A [(a_this, .inr (4, [.null, .null, .null, .int 0, .null, .int 0, .null, .null, .int 0, .null, .int 0, .null, .null, .null, .int 0, .int 0, .null, .int 0])), (q7, .inl (k7, 106, .inl (tabU symL 4)))] := hD
  refine lv_dup hx hb d_Md_init_29 rfl ?_
  refine lv_iconst (v := 4) hx hb d_Md_init_30 (by decide) ?_
  refine lv_ldc (v := 121322) hx hb hown (hts _ mm_578) d_Md_init_31 ?_
  refine va_iast hx hb hK hP hD hS 1 0 rfl rfl (vp_in_nI (n := 4) (N := 106) (by decide) (by decide)) d_Md_init_33 (fun H locs hP hD hS => ?_)
  rw [show upd (tabU symL 4) (4 : Int32).toNatClampNeg 121322 = tabU symL 5 from tabU_s (by decide +kernel)] at hP hD
  have hP : va_P D vwCl [(a_this, .inr (4, [.null, .null, .null, .int 0, .null, .int 0, .null, .null, .int 0, .null, .int 0, .null, .null, .null, .int 0, .int 0, .null, .int 0])), (q7, .inl (k7, 106, .inl (tabU symL 5)))] H := hP
  have hD : va_D A [(a_this, .inr (4, [.null, .null, .null, .int 0, .null, .int 0, .null, .null, .int 0, .null, .int 0, .null, .null, .null, .int 0, .int 0, .null, .int 0])), (q7, .inl (k7, 106, .inl (tabU symL 5)))] := hD
  refine lv_dup hx hb d_Md_init_34 rfl ?_
  refine lv_iconst (v := 5) hx hb d_Md_init_35 (by decide) ?_
  refine lv_ldc (v := 131222) hx hb hown (hts _ mm_579) d_Md_init_36 ?_
  refine va_iast hx hb hK hP hD hS 1 0 rfl rfl (vp_in_nI (n := 5) (N := 106) (by decide) (by decide)) d_Md_init_38 (fun H locs hP hD hS => ?_)
  rw [show upd (tabU symL 5) (5 : Int32).toNatClampNeg 131222 = tabU symL 6 from tabU_s (by decide +kernel)] at hP hD
  have hP : va_P D vwCl [(a_this, .inr (4, [.null, .null, .null, .int 0, .null, .int 0, .null, .null, .int 0, .null, .int 0, .null, .null, .null, .int 0, .int 0, .null, .int 0])), (q7, .inl (k7, 106, .inl (tabU symL 6)))] H := hP
  have hD : va_D A [(a_this, .inr (4, [.null, .null, .null, .int 0, .null, .int 0, .null, .null, .int 0, .null, .int 0, .null, .null, .null, .int 0, .int 0, .null, .int 0])), (q7, .inl (k7, 106, .inl (tabU symL 6)))] := hD
  refine lv_dup hx hb d_Md_init_39 rfl ?_
  refine lv_bipush (v := 6) hx hb d_Md_init_40 (by decide) ?_
  refine lv_ldc (v := 122213) hx hb hown (hts _ mm_580) d_Md_init_42 ?_
  refine va_iast hx hb hK hP hD hS 1 0 rfl rfl (vp_in_nI (n := 6) (N := 106) (by decide) (by decide)) d_Md_init_44 (fun H locs hP hD hS => ?_)
  rw [show upd (tabU symL 6) (6 : Int32).toNatClampNeg 122213 = tabU symL 7 from tabU_s (by decide +kernel)] at hP hD
  have hP : va_P D vwCl [(a_this, .inr (4, [.null, .null, .null, .int 0, .null, .int 0, .null, .null, .int 0, .null, .int 0, .null, .null, .null, .int 0, .int 0, .null, .int 0])), (q7, .inl (k7, 106, .inl (tabU symL 7)))] H := hP
  have hD : va_D A [(a_this, .inr (4, [.null, .null, .null, .int 0, .null, .int 0, .null, .null, .int 0, .null, .int 0, .null, .null, .null, .int 0, .int 0, .null, .int 0])), (q7, .inl (k7, 106, .inl (tabU symL 7)))] := hD
  refine lv_dup hx hb d_Md_init_45 rfl ?_
  refine lv_bipush (v := 7) hx hb d_Md_init_46 (by decide) ?_
  refine lv_ldc (v := 122312) hx hb hown (hts _ mm_581) d_Md_init_48 ?_
  refine va_iast hx hb hK hP hD hS 1 0 rfl rfl (vp_in_nI (n := 7) (N := 106) (by decide) (by decide)) d_Md_init_50 (fun H locs hP hD hS => ?_)
  rw [show upd (tabU symL 7) (7 : Int32).toNatClampNeg 122312 = tabU symL 8 from tabU_s (by decide +kernel)] at hP hD
  have hP : va_P D vwCl [(a_this, .inr (4, [.null, .null, .null, .int 0, .null, .int 0, .null, .null, .int 0, .null, .int 0, .null, .null, .null, .int 0, .int 0, .null, .int 0])), (q7, .inl (k7, 106, .inl (tabU symL 8)))] H := hP
  have hD : va_D A [(a_this, .inr (4, [.null, .null, .null, .int 0, .null, .int 0, .null, .null, .int 0, .null, .int 0, .null, .null, .null, .int 0, .int 0, .null, .int 0])), (q7, .inl (k7, 106, .inl (tabU symL 8)))] := hD
  refine lv_dup hx hb d_Md_init_51 rfl ?_
  refine lv_bipush (v := 8) hx hb d_Md_init_52 (by decide) ?_
  refine lv_ldc (v := 132212) hx hb hown (hts _ mm_582) d_Md_init_54 ?_
  refine va_iast hx hb hK hP hD hS 1 0 rfl rfl (vp_in_nI (n := 8) (N := 106) (by decide) (by decide)) d_Md_init_56 (fun H locs hP hD hS => ?_)
  rw [show upd (tabU symL 8) (8 : Int32).toNatClampNeg 132212 = tabU symL 9 from tabU_s (by decide +kernel)] at hP hD
  have hP : va_P D vwCl [(a_this, .inr (4, [.null, .null, .null, .int 0, .null, .int 0, .null, .null, .int 0, .null, .int 0, .null, .null, .null, .int 0, .int 0, .null, .int 0])), (q7, .inl (k7, 106, .inl (tabU symL 9)))] H := hP
  have hD : va_D A [(a_this, .inr (4, [.null, .null, .null, .int 0, .null, .int 0, .null, .null, .int 0, .null, .int 0, .null, .null, .null, .int 0, .int 0, .null, .int 0])), (q7, .inl (k7, 106, .inl (tabU symL 9)))] := hD
  refine lv_dup hx hb d_Md_init_57 rfl ?_
  refine lv_bipush (v := 9) hx hb d_Md_init_58 (by decide) ?_
  refine lv_ldc (v := 221213) hx hb hown (hts _ mm_583) d_Md_init_60 ?_
  refine va_iast hx hb hK hP hD hS 1 0 rfl rfl (vp_in_nI (n := 9) (N := 106) (by decide) (by decide)) d_Md_init_62 (fun H locs hP hD hS => ?_)
  rw [show upd (tabU symL 9) (9 : Int32).toNatClampNeg 221213 = tabU symL 10 from tabU_s (by decide +kernel)] at hP hD
  have hP : va_P D vwCl [(a_this, .inr (4, [.null, .null, .null, .int 0, .null, .int 0, .null, .null, .int 0, .null, .int 0, .null, .null, .null, .int 0, .int 0, .null, .int 0])), (q7, .inl (k7, 106, .inl (tabU symL 10)))] H := hP
  have hD : va_D A [(a_this, .inr (4, [.null, .null, .null, .int 0, .null, .int 0, .null, .null, .int 0, .null, .int 0, .null, .null, .null, .int 0, .int 0, .null, .int 0])), (q7, .inl (k7, 106, .inl (tabU symL 10)))] := hD
  refine lv_dup hx hb d_Md_init_63 rfl ?_
  refine lv_bipush (v := 10) hx hb d_Md_init_64 (by decide) ?_
  refine lv_ldc (v := 221312) hx hb hown (hts _ mm_584) d_Md_init_66 ?_
  refine va_iast hx hb hK hP hD hS 1 0 rfl rfl (vp_in_nI (n := 10) (N := 106) (by decide) (by decide)) d_Md_init_68 (fun H locs hP hD hS => ?_)
  rw [show upd (tabU symL 10) (10 : Int32).toNatClampNeg 221312 = tabU symL 11 from tabU_s (by decide +kernel)] at hP hD
  have hP : va_P D vwCl [(a_this, .inr (4, [.null, .null, .null, .int 0, .null, .int 0, .null, .null, .int 0, .null, .int 0, .null, .null, .null, .int 0, .int 0, .null, .int 0])), (q7, .inl (k7, 106, .inl (tabU symL 11)))] H := hP
  have hD : va_D A [(a_this, .inr (4, [.null, .null, .null, .int 0, .null, .int 0, .null, .null, .int 0, .null, .int 0, .null, .null, .null, .int 0, .int 0, .null, .int 0])), (q7, .inl (k7, 106, .inl (tabU symL 11)))] := hD
  refine lv_dup hx hb d_Md_init_69 rfl ?_
  refine lv_bipush (v := 11) hx hb d_Md_init_70 (by decide) ?_
  refine lv_ldc (v := 231212) hx hb hown (hts _ mm_585) d_Md_init_72 ?_
  refine va_iast hx hb hK hP hD hS 1 0 rfl rfl (vp_in_nI (n := 11) (N := 106) (by decide) (by decide)) d_Md_init_74 (fun H locs hP hD hS => ?_)
  rw [show upd (tabU symL 11) (11 : Int32).toNatClampNeg 231212 = tabU symL 12 from tabU_s (by decide +kernel)] at hP hD
  have hP : va_P D vwCl [(a_this, .inr (4, [.null, .null, .null, .int 0, .null, .int 0, .null, .null, .int 0, .null, .int 0, .null, .null, .null, .int 0, .int 0, .null, .int 0])), (q7, .inl (k7, 106, .inl (tabU symL 12)))] H := hP
  have hD : va_D A [(a_this, .inr (4, [.null, .null, .null, .int 0, .null, .int 0, .null, .null, .int 0, .null, .int 0, .null, .null, .null, .int 0, .int 0, .null, .int 0])), (q7, .inl (k7, 106, .inl (tabU symL 12)))] := hD
  refine lv_dup hx hb d_Md_init_75 rfl ?_
  refine lv_bipush (v := 12) hx hb d_Md_init_76 (by decide) ?_
  refine lv_ldc (v := 112232) hx hb hown (hts _ mm_586) d_Md_init_78 ?_
  refine va_iast hx hb hK hP hD hS 1 0 rfl rfl (vp_in_nI (n := 12) (N := 106) (by decide) (by decide)) d_Md_init_80 (fun H locs hP hD hS => ?_)
  rw [show upd (tabU symL 12) (12 : Int32).toNatClampNeg 112232 = tabU symL 13 from tabU_s (by decide +kernel)] at hP hD
  have hP : va_P D vwCl [(a_this, .inr (4, [.null, .null, .null, .int 0, .null, .int 0, .null, .null, .int 0, .null, .int 0, .null, .null, .null, .int 0, .int 0, .null, .int 0])), (q7, .inl (k7, 106, .inl (tabU symL 13)))] H := hP
  have hD : va_D A [(a_this, .inr (4, [.null, .null, .null, .int 0, .null, .int 0, .null, .null, .int 0, .null, .int 0, .null, .null, .null, .int 0, .int 0, .null, .int 0])), (q7, .inl (k7, 106, .inl (tabU symL 13)))] := hD
  refine lv_dup hx hb d_Md_init_81 rfl ?_
  refine lv_bipush (v := 13) hx hb d_Md_init_82 (by decide) ?_
  refine lv_ldc (v := 122132) hx hb hown (hts _ mm_587) d_Md_init_84 ?_
  refine va_iast hx hb hK hP hD hS 1 0 rfl rfl (vp_in_nI (n := 13) (N := 106) (by decide) (by decide)) d_Md_init_86 (fun H locs hP hD hS => ?_)
  rw [show upd (tabU symL 13) (13 : Int32).toNatClampNeg 122132 = tabU symL 14 from tabU_s (by decide +kernel)] at hP hD
  have hP : va_P D vwCl [(a_this, .inr (4, [.null, .null, .null, .int 0, .null, .int 0, .null, .null, .int 0, .null, .int 0, .null, .null, .null, .int 0, .int 0, .null, .int 0])), (q7, .inl (k7, 106, .inl (tabU symL 14)))] H := hP
  have hD : va_D A [(a_this, .inr (4, [.null, .null, .null, .int 0, .null, .int 0, .null, .null, .int 0, .null, .int 0, .null, .null, .null, .int 0, .int 0, .null, .int 0])), (q7, .inl (k7, 106, .inl (tabU symL 14)))] := hD
  refine lv_dup hx hb d_Md_init_87 rfl ?_
  refine lv_bipush (v := 14) hx hb d_Md_init_88 (by decide) ?_
  refine lv_ldc (v := 122231) hx hb hown (hts _ mm_588) d_Md_init_90 ?_
  refine va_iast hx hb hK hP hD hS 1 0 rfl rfl (vp_in_nI (n := 14) (N := 106) (by decide) (by decide)) d_Md_init_92 (fun H locs hP hD hS => ?_)
  rw [show upd (tabU symL 14) (14 : Int32).toNatClampNeg 122231 = tabU symL 15 from tabU_s (by decide +kernel)] at hP hD
  have hP : va_P D vwCl [(a_this, .inr (4, [.null, .null, .null, .int 0, .null, .int 0, .null, .null, .int 0, .null, .int 0, .null, .null, .null, .int 0, .int 0, .null, .int 0])), (q7, .inl (k7, 106, .inl (tabU symL 15)))] H := hP
  have hD : va_D A [(a_this, .inr (4, [.null, .null, .null, .int 0, .null, .int 0, .null, .null, .int 0, .null, .int 0, .null, .null, .null, .int 0, .int 0, .null, .int 0])), (q7, .inl (k7, 106, .inl (tabU symL 15)))] := hD
  refine lv_dup hx hb d_Md_init_93 rfl ?_
  refine lv_bipush (v := 15) hx hb d_Md_init_94 (by decide) ?_
  refine lv_ldc (v := 113222) hx hb hown (hts _ mm_589) d_Md_init_96 ?_
  refine va_iast hx hb hK hP hD hS 1 0 rfl rfl (vp_in_nI (n := 15) (N := 106) (by decide) (by decide)) d_Md_init_98 (fun H locs hP hD hS => ?_)
  rw [show upd (tabU symL 15) (15 : Int32).toNatClampNeg 113222 = tabU symL 16 from tabU_s (by decide +kernel)] at hP hD
  have hP : va_P D vwCl [(a_this, .inr (4, [.null, .null, .null, .int 0, .null, .int 0, .null, .null, .int 0, .null, .int 0, .null, .null, .null, .int 0, .int 0, .null, .int 0])), (q7, .inl (k7, 106, .inl (tabU symL 16)))] H := hP
  have hD : va_D A [(a_this, .inr (4, [.null, .null, .null, .int 0, .null, .int 0, .null, .null, .int 0, .null, .int 0, .null, .null, .null, .int 0, .int 0, .null, .int 0])), (q7, .inl (k7, 106, .inl (tabU symL 16)))] := hD
  refine lv_dup hx hb d_Md_init_99 rfl ?_
  refine lv_bipush (v := 16) hx hb d_Md_init_100 (by decide) ?_
  refine lv_ldc (v := 123122) hx hb hown (hts _ mm_590) d_Md_init_102 ?_
  refine va_iast hx hb hK hP hD hS 1 0 rfl rfl (vp_in_nI (n := 16) (N := 106) (by decide) (by decide)) d_Md_init_104 (fun H locs hP hD hS => ?_)
  rw [show upd (tabU symL 16) (16 : Int32).toNatClampNeg 123122 = tabU symL 17 from tabU_s (by decide +kernel)] at hP hD
  have hP : va_P D vwCl [(a_this, .inr (4, [.null, .null, .null, .int 0, .null, .int 0, .null, .null, .int 0, .null, .int 0, .null, .null, .null, .int 0, .int 0, .null, .int 0])), (q7, .inl (k7, 106, .inl (tabU symL 17)))] H := hP
  have hD : va_D A [(a_this, .inr (4, [.null, .null, .null, .int 0, .null, .int 0, .null, .null, .int 0, .null, .int 0, .null, .null, .null, .int 0, .int 0, .null, .int 0])), (q7, .inl (k7, 106, .inl (tabU symL 17)))] := hD
  refine lv_dup hx hb d_Md_init_105 rfl ?_
  refine lv_bipush (v := 17) hx hb d_Md_init_106 (by decide) ?_
  refine lv_ldc (v := 123221) hx hb hown (hts _ mm_591) d_Md_init_108 ?_
  refine va_iast hx hb hK hP hD hS 1 0 rfl rfl (vp_in_nI (n := 17) (N := 106) (by decide) (by decide)) d_Md_init_110 (fun H locs hP hD hS => ?_)
  rw [show upd (tabU symL 17) (17 : Int32).toNatClampNeg 123221 = tabU symL 18 from tabU_s (by decide +kernel)] at hP hD
  have hP : va_P D vwCl [(a_this, .inr (4, [.null, .null, .null, .int 0, .null, .int 0, .null, .null, .int 0, .null, .int 0, .null, .null, .null, .int 0, .int 0, .null, .int 0])), (q7, .inl (k7, 106, .inl (tabU symL 18)))] H := hP
  have hD : va_D A [(a_this, .inr (4, [.null, .null, .null, .int 0, .null, .int 0, .null, .null, .int 0, .null, .int 0, .null, .null, .null, .int 0, .int 0, .null, .int 0])), (q7, .inl (k7, 106, .inl (tabU symL 18)))] := hD
  refine lv_dup hx hb d_Md_init_111 rfl ?_
  refine lv_bipush (v := 18) hx hb d_Md_init_112 (by decide) ?_
  refine lv_ldc (v := 223211) hx hb hown (hts _ mm_592) d_Md_init_114 ?_
  refine va_iast hx hb hK hP hD hS 1 0 rfl rfl (vp_in_nI (n := 18) (N := 106) (by decide) (by decide)) d_Md_init_116 (fun H locs hP hD hS => ?_)
  rw [show upd (tabU symL 18) (18 : Int32).toNatClampNeg 223211 = tabU symL 19 from tabU_s (by decide +kernel)] at hP hD
  have hP : va_P D vwCl [(a_this, .inr (4, [.null, .null, .null, .int 0, .null, .int 0, .null, .null, .int 0, .null, .int 0, .null, .null, .null, .int 0, .int 0, .null, .int 0])), (q7, .inl (k7, 106, .inl (tabU symL 19)))] H := hP
  have hD : va_D A [(a_this, .inr (4, [.null, .null, .null, .int 0, .null, .int 0, .null, .null, .int 0, .null, .int 0, .null, .null, .null, .int 0, .int 0, .null, .int 0])), (q7, .inl (k7, 106, .inl (tabU symL 19)))] := hD
  refine lv_dup hx hb d_Md_init_117 rfl ?_
  refine lv_bipush (v := 19) hx hb d_Md_init_118 (by decide) ?_
  refine lv_ldc (v := 221132) hx hb hown (hts _ mm_593) d_Md_init_120 ?_
  refine va_iast hx hb hK hP hD hS 1 0 rfl rfl (vp_in_nI (n := 19) (N := 106) (by decide) (by decide)) d_Md_init_122 (fun H locs hP hD hS => ?_)
  rw [show upd (tabU symL 19) (19 : Int32).toNatClampNeg 221132 = tabU symL 20 from tabU_s (by decide +kernel)] at hP hD
  have hP : va_P D vwCl [(a_this, .inr (4, [.null, .null, .null, .int 0, .null, .int 0, .null, .null, .int 0, .null, .int 0, .null, .null, .null, .int 0, .int 0, .null, .int 0])), (q7, .inl (k7, 106, .inl (tabU symL 20)))] H := hP
  have hD : va_D A [(a_this, .inr (4, [.null, .null, .null, .int 0, .null, .int 0, .null, .null, .int 0, .null, .int 0, .null, .null, .null, .int 0, .int 0, .null, .int 0])), (q7, .inl (k7, 106, .inl (tabU symL 20)))] := hD
  refine lv_dup hx hb d_Md_init_123 rfl ?_
  refine lv_bipush (v := 20) hx hb d_Md_init_124 (by decide) ?_
  refine lv_ldc (v := 221231) hx hb hown (hts _ mm_594) d_Md_init_126 ?_
  refine va_iast hx hb hK hP hD hS 1 0 rfl rfl (vp_in_nI (n := 20) (N := 106) (by decide) (by decide)) d_Md_init_128 (fun H locs hP hD hS => ?_)
  rw [show upd (tabU symL 20) (20 : Int32).toNatClampNeg 221231 = tabU symL 21 from tabU_s (by decide +kernel)] at hP hD
  have hP : va_P D vwCl [(a_this, .inr (4, [.null, .null, .null, .int 0, .null, .int 0, .null, .null, .int 0, .null, .int 0, .null, .null, .null, .int 0, .int 0, .null, .int 0])), (q7, .inl (k7, 106, .inl (tabU symL 21)))] H := hP
  have hD : va_D A [(a_this, .inr (4, [.null, .null, .null, .int 0, .null, .int 0, .null, .null, .int 0, .null, .int 0, .null, .null, .null, .int 0, .int 0, .null, .int 0])), (q7, .inl (k7, 106, .inl (tabU symL 21)))] := hD
  refine lv_dup hx hb d_Md_init_129 rfl ?_
  refine lv_bipush (v := 21) hx hb d_Md_init_130 (by decide) ?_
  refine lv_ldc (v := 213212) hx hb hown (hts _ mm_595) d_Md_init_132 ?_
  refine va_iast hx hb hK hP hD hS 1 0 rfl rfl (vp_in_nI (n := 21) (N := 106) (by decide) (by decide)) d_Md_init_134 (fun H locs hP hD hS => ?_)
  rw [show upd (tabU symL 21) (21 : Int32).toNatClampNeg 213212 = tabU symL 22 from tabU_s (by decide +kernel)] at hP hD
  have hP : va_P D vwCl [(a_this, .inr (4, [.null, .null, .null, .int 0, .null, .int 0, .null, .null, .int 0, .null, .int 0, .null, .null, .null, .int 0, .int 0, .null, .int 0])), (q7, .inl (k7, 106, .inl (tabU symL 22)))] H := hP
  have hD : va_D A [(a_this, .inr (4, [.null, .null, .null, .int 0, .null, .int 0, .null, .null, .int 0, .null, .int 0, .null, .null, .null, .int 0, .int 0, .null, .int 0])), (q7, .inl (k7, 106, .inl (tabU symL 22)))] := hD
  refine lv_dup hx hb d_Md_init_135 rfl ?_
  refine lv_bipush (v := 22) hx hb d_Md_init_136 (by decide) ?_
  refine lv_ldc (v := 223112) hx hb hown (hts _ mm_596) d_Md_init_138 ?_
  refine va_iast hx hb hK hP hD hS 1 0 rfl rfl (vp_in_nI (n := 22) (N := 106) (by decide) (by decide)) d_Md_init_140 (fun H locs hP hD hS => ?_)
  rw [show upd (tabU symL 22) (22 : Int32).toNatClampNeg 223112 = tabU symL 23 from tabU_s (by decide +kernel)] at hP hD
  have hP : va_P D vwCl [(a_this, .inr (4, [.null, .null, .null, .int 0, .null, .int 0, .null, .null, .int 0, .null, .int 0, .null, .null, .null, .int 0, .int 0, .null, .int 0])), (q7, .inl (k7, 106, .inl (tabU symL 23)))] H := hP
  have hD : va_D A [(a_this, .inr (4, [.null, .null, .null, .int 0, .null, .int 0, .null, .null, .int 0, .null, .int 0, .null, .null, .null, .int 0, .int 0, .null, .int 0])), (q7, .inl (k7, 106, .inl (tabU symL 23)))] := hD
  refine lv_dup hx hb d_Md_init_141 rfl ?_
  refine lv_bipush (v := 23) hx hb d_Md_init_142 (by decide) ?_
  refine lv_ldc (v := 312131) hx hb hown (hts _ mm_597) d_Md_init_144 ?_
  refine va_iast hx hb hK hP hD hS 1 0 rfl rfl (vp_in_nI (n := 23) (N := 106) (by decide) (by decide)) d_Md_init_146 (fun H locs hP hD hS => ?_)
  rw [show upd (tabU symL 23) (23 : Int32).toNatClampNeg 312131 = tabU symL 24 from tabU_s (by decide +kernel)] at hP hD
  have hP : va_P D vwCl [(a_this, .inr (4, [.null, .null, .null, .int 0, .null, .int 0, .null, .null, .int 0, .null, .int 0, .null, .null, .null, .int 0, .int 0, .null, .int 0])), (q7, .inl (k7, 106, .inl (tabU symL 24)))] H := hP
  have hD : va_D A [(a_this, .inr (4, [.null, .null, .null, .int 0, .null, .int 0, .null, .null, .int 0, .null, .int 0, .null, .null, .null, .int 0, .int 0, .null, .int 0])), (q7, .inl (k7, 106, .inl (tabU symL 24)))] := hD
  refine lv_dup hx hb d_Md_init_147 rfl ?_
  refine lv_bipush (v := 24) hx hb d_Md_init_148 (by decide) ?_
  refine lv_ldc (v := 311222) hx hb hown (hts _ mm_598) d_Md_init_150 ?_
  refine va_iast hx hb hK hP hD hS 1 0 rfl rfl (vp_in_nI (n := 24) (N := 106) (by decide) (by decide)) d_Md_init_152 (fun H locs hP hD hS => ?_)
  rw [show upd (tabU symL 24) (24 : Int32).toNatClampNeg 311222 = tabU symL 25 from tabU_s (by decide +kernel)] at hP hD
  have hP : va_P D vwCl [(a_this, .inr (4, [.null, .null, .null, .int 0, .null, .int 0, .null, .null, .int 0, .null, .int 0, .null, .null, .null, .int 0, .int 0, .null, .int 0])), (q7, .inl (k7, 106, .inl (tabU symL 25)))] H := hP
  have hD : va_D A [(a_this, .inr (4, [.null, .null, .null, .int 0, .null, .int 0, .null, .null, .int 0, .null, .int 0, .null, .null, .null, .int 0, .int 0, .null, .int 0])), (q7, .inl (k7, 106, .inl (tabU symL 25)))] := hD
  refine lv_dup hx hb d_Md_init_153 rfl ?_
  refine lv_bipush (v := 25) hx hb d_Md_init_154 (by decide) ?_
  refine lv_ldc (v := 321122) hx hb hown (hts _ mm_599) d_Md_init_156 ?_
  refine va_iast hx hb hK hP hD hS 1 0 rfl rfl (vp_in_nI (n := 25) (N := 106) (by decide) (by decide)) d_Md_init_158 (fun H locs hP hD hS => ?_)
  rw [show upd (tabU symL 25) (25 : Int32).toNatClampNeg 321122 = tabU symL 26 from tabU_s (by decide +kernel)] at hP hD
  have hP : va_P D vwCl [(a_this, .inr (4, [.null, .null, .null, .int 0, .null, .int 0, .null, .null, .int 0, .null, .int 0, .null, .null, .null, .int 0, .int 0, .null, .int 0])), (q7, .inl (k7, 106, .inl (tabU symL 26)))] H := hP
  have hD : va_D A [(a_this, .inr (4, [.null, .null, .null, .int 0, .null, .int 0, .null, .null, .int 0, .null, .int 0, .null, .null, .null, .int 0, .int 0, .null, .int 0])), (q7, .inl (k7, 106, .inl (tabU symL 26)))] := hD
  refine lv_dup hx hb d_Md_init_159 rfl ?_
  refine lv_bipush (v := 26) hx hb d_Md_init_160 (by decide) ?_
  refine lv_ldc (v := 321221) hx hb hown (hts _ mm_600) d_Md_init_162 ?_
  refine va_iast hx hb hK hP hD hS 1 0 rfl rfl (vp_in_nI (n := 26) (N := 106) (by decide) (by decide)) d_Md_init_164 (fun H locs hP hD hS => ?_)
  rw [show upd (tabU symL 26) (26 : Int32).toNatClampNeg 321221 = tabU symL 27 from tabU_s (by decide +kernel)] at hP hD
  have hP : va_P D vwCl [(a_this, .inr (4, [.null, .null, .null, .int 0, .null, .int 0, .null, .null, .int 0, .null, .int 0, .null, .null, .null, .int 0, .int 0, .null, .int 0])), (q7, .inl (k7, 106, .inl (tabU symL 27)))] H := hP
  have hD : va_D A [(a_this, .inr (4, [.null, .null, .null, .int 0, .null, .int 0, .null, .null, .int 0, .null, .int 0, .null, .null, .null, .int 0, .int 0, .null, .int 0])), (q7, .inl (k7, 106, .inl (tabU symL 27)))] := hD
  refine lv_dup hx hb d_Md_init_165 rfl ?_
  refine lv_bipush (v := 27) hx hb d_Md_init_166 (by decide) ?_
  refine lv_ldc (v := 312212) hx hb hown (hts _ mm_601) d_Md_init_168 ?_
  refine va_iast hx hb hK hP hD hS 1 0 rfl rfl (vp_in_nI (n := 27) (N := 106) (by decide) (by decide)) d_Md_init_170 (fun H locs hP hD hS => ?_)
  rw [show upd (tabU symL 27) (27 : Int32).toNatClampNeg 312212 = tabU symL 28 from tabU_s (by decide +kernel)] at hP hD
  have hP : va_P D vwCl [(a_this, .inr (4, [.null, .null, .null, .int 0, .null, .int 0, .null, .null, .int 0, .null, .int 0, .null, .null, .null, .int 0, .int 0, .null, .int 0])), (q7, .inl (k7, 106, .inl (tabU symL 28)))] H := hP
  have hD : va_D A [(a_this, .inr (4, [.null, .null, .null, .int 0, .null, .int 0, .null, .null, .int 0, .null, .int 0, .null, .null, .null, .int 0, .int 0, .null, .int 0])), (q7, .inl (k7, 106, .inl (tabU symL 28)))] := hD
  refine lv_dup hx hb d_Md_init_171 rfl ?_
  refine lv_bipush (v := 28) hx hb d_Md_init_172 (by decide) ?_
  refine lv_ldc (v := 322112) hx hb hown (hts _ mm_602) d_Md_init_174 ?_
  refine va_iast hx hb hK hP hD hS 1 0 rfl rfl (vp_in_nI (n := 28) (N := 106) (by decide) (by decide)) d_Md_init_176 (fun H locs hP hD hS => ?_)
  rw [show upd (tabU symL 28) (28 : Int32).toNatClampNeg 322112 = tabU symL 29 from tabU_s (by decide +kernel)] at hP hD
  have hP : va_P D vwCl [(a_this, .inr (4, [.null, .null, .null, .int 0, .null, .int 0, .null, .null, .int 0, .null, .int 0, .null, .null, .null, .int 0, .int 0, .null, .int 0])), (q7, .inl (k7, 106, .inl (tabU symL 29)))] H := hP
  have hD : va_D A [(a_this, .inr (4, [.null, .null, .null, .int 0, .null, .int 0, .null, .null, .int 0, .null, .int 0, .null, .null, .null, .int 0, .int 0, .null, .int 0])), (q7, .inl (k7, 106, .inl (tabU symL 29)))] := hD
  refine lv_dup hx hb d_Md_init_177 rfl ?_
  refine lv_bipush (v := 29) hx hb d_Md_init_178 (by decide) ?_
  refine lv_ldc (v := 322211) hx hb hown (hts _ mm_603) d_Md_init_180 ?_
  refine va_iast hx hb hK hP hD hS 1 0 rfl rfl (vp_in_nI (n := 29) (N := 106) (by decide) (by decide)) d_Md_init_182 (fun H locs hP hD hS => ?_)
  rw [show upd (tabU symL 29) (29 : Int32).toNatClampNeg 322211 = tabU symL 30 from tabU_s (by decide +kernel)] at hP hD
  have hP : va_P D vwCl [(a_this, .inr (4, [.null, .null, .null, .int 0, .null, .int 0, .null, .null, .int 0, .null, .int 0, .null, .null, .null, .int 0, .int 0, .null, .int 0])), (q7, .inl (k7, 106, .inl (tabU symL 30)))] H := hP
  have hD : va_D A [(a_this, .inr (4, [.null, .null, .null, .int 0, .null, .int 0, .null, .null, .int 0, .null, .int 0, .null, .null, .null, .int 0, .int 0, .null, .int 0])), (q7, .inl (k7, 106, .inl (tabU symL 30)))] := hD
  refine lv_dup hx hb d_Md_init_183 rfl ?_
  refine lv_bipush (v := 30) hx hb d_Md_init_184 (by decide) ?_
  refine lv_ldc (v := 212123) hx hb hown (hts _ mm_604) d_Md_init_186 ?_
  refine va_iast hx hb hK hP hD hS 1 0 rfl rfl (vp_in_nI (n := 30) (N := 106) (by decide) (by decide)) d_Md_init_188 (fun H locs hP hD hS => ?_)
  rw [show upd (tabU symL 30) (30 : Int32).toNatClampNeg 212123 = tabU symL 31 from tabU_s (by decide +kernel)] at hP hD
  have hP : va_P D vwCl [(a_this, .inr (4, [.null, .null, .null, .int 0, .null, .int 0, .null, .null, .int 0, .null, .int 0, .null, .null, .null, .int 0, .int 0, .null, .int 0])), (q7, .inl (k7, 106, .inl (tabU symL 31)))] H := hP
  have hD : va_D A [(a_this, .inr (4, [.null, .null, .null, .int 0, .null, .int 0, .null, .null, .int 0, .null, .int 0, .null, .null, .null, .int 0, .int 0, .null, .int 0])), (q7, .inl (k7, 106, .inl (tabU symL 31)))] := hD
  refine lv_dup hx hb d_Md_init_189 rfl ?_
  refine lv_bipush (v := 31) hx hb d_Md_init_190 (by decide) ?_
  refine lv_ldc (v := 212321) hx hb hown (hts _ mm_605) d_Md_init_192 ?_
  refine va_iast hx hb hK hP hD hS 1 0 rfl rfl (vp_in_nI (n := 31) (N := 106) (by decide) (by decide)) d_Md_init_194 (fun H locs hP hD hS => ?_)
  rw [show upd (tabU symL 31) (31 : Int32).toNatClampNeg 212321 = tabU symL 32 from tabU_s (by decide +kernel)] at hP hD
  have hP : va_P D vwCl [(a_this, .inr (4, [.null, .null, .null, .int 0, .null, .int 0, .null, .null, .int 0, .null, .int 0, .null, .null, .null, .int 0, .int 0, .null, .int 0])), (q7, .inl (k7, 106, .inl (tabU symL 32)))] H := hP
  have hD : va_D A [(a_this, .inr (4, [.null, .null, .null, .int 0, .null, .int 0, .null, .null, .int 0, .null, .int 0, .null, .null, .null, .int 0, .int 0, .null, .int 0])), (q7, .inl (k7, 106, .inl (tabU symL 32)))] := hD
  refine lv_dup hx hb d_Md_init_195 rfl ?_
  refine lv_bipush (v := 32) hx hb d_Md_init_196 (by decide) ?_
  refine lv_ldc (v := 232121) hx hb hown (hts _ mm_606) d_Md_init_198 ?_
  refine va_iast hx hb hK hP hD hS 1 0 rfl rfl (vp_in_nI (n := 32) (N := 106) (by decide) (by decide)) d_Md_init_200 (fun H locs hP hD hS => ?_)
  rw [show upd (tabU symL 32) (32 : Int32).toNatClampNeg 232121 = tabU symL 33 from tabU_s (by decide +kernel)] at hP hD
  have hP : va_P D vwCl [(a_this, .inr (4, [.null, .null, .null, .int 0, .null, .int 0, .null, .null, .int 0, .null, .int 0, .null, .null, .null, .int 0, .int 0, .null, .int 0])), (q7, .inl (k7, 106, .inl (tabU symL 33)))] H := hP
  have hD : va_D A [(a_this, .inr (4, [.null, .null, .null, .int 0, .null, .int 0, .null, .null, .int 0, .null, .int 0, .null, .null, .null, .int 0, .int 0, .null, .int 0])), (q7, .inl (k7, 106, .inl (tabU symL 33)))] := hD
  refine lv_dup hx hb d_Md_init_201 rfl ?_
  refine lv_bipush (v := 33) hx hb d_Md_init_202 (by decide) ?_
  refine lv_ldc (v := 111323) hx hb hown (hts _ mm_607) d_Md_init_204 ?_
  refine va_iast hx hb hK hP hD hS 1 0 rfl rfl (vp_in_nI (n := 33) (N := 106) (by decide) (by decide)) d_Md_init_206 (fun H locs hP hD hS => ?_)
  rw [show upd (tabU symL 33) (33 : Int32).toNatClampNeg 111323 = tabU symL 34 from tabU_s (by decide +kernel)] at hP hD
  have hP : va_P D vwCl [(a_this, .inr (4, [.null, .null, .null, .int 0, .null, .int 0, .null, .null, .int 0, .null, .int 0, .null, .null, .null, .int 0, .int 0, .null, .int 0])), (q7, .inl (k7, 106, .inl (tabU symL 34)))] H := hP
  have hD : va_D A [(a_this, .inr (4, [.null, .null, .null, .int 0, .null, .int 0, .null, .null, .int 0, .null, .int 0, .null, .null, .null, .int 0, .int 0, .null, .int 0])), (q7, .inl (k7, 106, .inl (tabU symL 34)))] := hD
  refine lv_dup hx hb d_Md_init_207 rfl ?_
  refine lv_bipush (v := 34) hx hb d_Md_init_208 (by decide) ?_
  refine lv_ldc (v := 131123) hx hb hown (hts _ mm_608) d_Md_init_210 ?_
  refine va_iast hx hb hK hP hD hS 1 0 rfl rfl (vp_in_nI (n := 34) (N := 106) (by decide) (by decide)) d_Md_init_212 (fun H locs hP hD hS => ?_)
  rw [show upd (tabU symL 34) (34 : Int32).toNatClampNeg 131123 = tabU symL 35 from tabU_s (by decide +kernel)] at hP hD
  have hP : va_P D vwCl [(a_this, .inr (4, [.null, .null, .null, .int 0, .null, .int 0, .null, .null, .int 0, .null, .int 0, .null, .null, .null, .int 0, .int 0, .null, .int 0])), (q7, .inl (k7, 106, .inl (tabU symL 35)))] H := hP
  have hD : va_D A [(a_this, .inr (4, [.null, .null, .null, .int 0, .null, .int 0, .null, .null, .int 0, .null, .int 0, .null, .null, .null, .int 0, .int 0, .null, .int 0])), (q7, .inl (k7, 106, .inl (tabU symL 35)))] := hD
  refine lv_dup hx hb d_Md_init_213 rfl ?_
  refine lv_bipush (v := 35) hx hb d_Md_init_214 (by decide) ?_
  refine lv_ldc (v := 131321) hx hb hown (hts _ mm_609) d_Md_init_216 ?_
  refine va_iast hx hb hK hP hD hS 1 0 rfl rfl (vp_in_nI (n := 35) (N := 106) (by decide) (by decide)) d_Md_init_218 (fun H locs hP hD hS => ?_)
  rw [show upd (tabU symL 35) (35 : Int32).toNatClampNeg 131321 = tabU symL 36 from tabU_s (by decide +kernel)] at hP hD
  have hP : va_P D vwCl [(a_this, .inr (4, [.null, .null, .null, .int 0, .null, .int 0, .null, .null, .int 0, .null, .int 0, .null, .null, .null, .int 0, .int 0, .null, .int 0])), (q7, .inl (k7, 106, .inl (tabU symL 36)))] H := hP
  have hD : va_D A [(a_this, .inr (4, [.null, .null, .null, .int 0, .null, .int 0, .null, .null, .int 0, .null, .int 0, .null, .null, .null, .int 0, .int 0, .null, .int 0])), (q7, .inl (k7, 106, .inl (tabU symL 36)))] := hD
  refine lv_dup hx hb d_Md_init_219 rfl ?_
  refine lv_bipush (v := 36) hx hb d_Md_init_220 (by decide) ?_
  refine lv_ldc (v := 112313) hx hb hown (hts _ mm_610) d_Md_init_222 ?_
  refine va_iast hx hb hK hP hD hS 1 0 rfl rfl (vp_in_nI (n := 36) (N := 106) (by decide) (by decide)) d_Md_init_224 (fun H locs hP hD hS => ?_)
  rw [show upd (tabU symL 36) (36 : Int32).toNatClampNeg 112313 = tabU symL 37 from tabU_s (by decide +kernel)] at hP hD
  have hP : va_P D vwCl [(a_this, .inr (4, [.null, .null, .null, .int 0, .null, .int 0, .null, .null, .int 0, .null, .int 0, .null, .null, .null, .int 0, .int 0, .null, .int 0])), (q7, .inl (k7, 106, .inl (tabU symL 37)))] H := hP
  have hD : va_D A [(a_this, .inr (4, [.null, .null, .null, .int 0, .null, .int 0, .null, .null, .int 0, .null, .int 0, .null, .null, .null, .int 0, .int 0, .null, .int 0])), (q7, .inl (k7, 106, .inl (tabU symL 37)))] := hD
  refine lv_dup hx hb d_Md_init_225 rfl ?_
  refine lv_bipush (v := 37) hx hb d_Md_init_226 (by decide) ?_
  refine lv_ldc (v := 132113) hx hb hown (hts _ mm_611) d_Md_init_228 ?_
  refine va_iast hx hb hK hP hD hS 1 0 rfl rfl (vp_in_nI (n := 37) (N := 106) (by decide) (by decide)) d_Md_init_230 (fun H locs hP hD hS => ?_)
  rw [show upd (tabU symL 37) (37 : Int32).toNatClampNeg 132113 = tabU symL 38 from tabU_s (by decide +kernel)] at hP hD
  have hP : va_P D vwCl [(a_this, .inr (4, [.null, .null, .null, .int 0, .null, .int 0, .null, .null, .int 0, .null, .int 0, .null, .null, .null, .int 0, .int 0, .null, .int 0])), (q7, .inl (k7, 106, .inl (tabU symL 38)))] H := hP
  have hD : va_D A [(a_this, .inr (4, [.null, .null, .null, .int 0, .null, .int 0, .null, .null, .int 0, .null, .int 0, .null, .null, .null, .int 0, .int 0, .null, .int 0])), (q7, .inl (k7, 106, .inl (tabU symL 38)))] := hD
  refine lv_dup hx hb d_Md_init_231 rfl ?_
  refine lv_bipush (v := 38) hx hb d_Md_init_232 (by decide) ?_
  refine lv_ldc (v := 132311) hx hb hown (hts _ mm_612) d_Md_init_234 ?_
  refine va_iast hx hb hK hP hD hS 1 0 rfl rfl (vp_in_nI (n := 38) (N := 106) (by decide) (by decide)) d_Md_init_236 (fun H locs hP hD hS => ?_)
  rw [show upd (tabU symL 38) (38 : Int32).toNatClampNeg 132311 = tabU symL 39 from tabU_s (by decide +kernel)] at hP hD
  have hP : va_P D vwCl [(a_this, .inr (4, [.null, .null, .null, .int 0, .null, .int 0, .null, .null, .int 0, .null, .int 0, .null, .null, .null, .int 0, .int 0, .null, .int 0])), (q7, .inl (k7, 106, .inl (tabU symL 39)))] H := hP
  have hD : va_D A [(a_this, .inr (4, [.null, .null, .null, .int 0, .null, .int 0, .null, .null, .int 0, .null, .int 0, .null, .null, .null, .int 0, .int 0, .null, .int 0])), (q7, .inl (k7, 106, .inl (tabU symL 39)))] := hD
  refine lv_dup hx hb d_Md_init_237 rfl ?_
  refine lv_bipush (v := 39) hx hb d_Md_init_238 (by decide) ?_
  refine lv_ldc (v := 211313) hx hb hown (hts _ mm_613) d_Md_init_240 ?_
  refine va_iast hx hb hK hP hD hS 1 0 rfl rfl (vp_in_nI (n := 39) (N := 106) (by decide) (by decide)) d_Md_init_242 (fun H locs hP hD hS => ?_)
  rw [show upd (tabU symL 39) (39 : Int32).toNatClampNeg 211313 = tabU symL 40 from tabU_s (by decide +kernel)] at hP hD
  have hP : va_P D vwCl [(a_this, .inr (4, [.null, .null, .null, .int 0, .null, .int 0, .null, .null, .int 0, .null, .int 0, .null, .null, .null, .int 0, .int 0, .null, .int 0])), (q7, .inl (k7, 106, .inl (tabU symL 40)))] H := hP
  have hD : va_D A [(a_this, .inr (4, [.null, .null, .null, .int 0, .null, .int 0, .null, .null, .int 0, .null, .int 0, .null, .null, .null, .int 0, .int 0, .null, .int 0])), (q7, .inl (k7, 106, .inl (tabU symL 40)))] := hD
  refine lv_dup hx hb d_Md_init_243 rfl ?_
  refine lv_bipush (v := 40) hx hb d_Md_init_244 (by decide) ?_
  refine lv_ldc (v := 231113) hx hb hown (hts _ mm_614) d_Md_init_246 ?_
  refine va_iast hx hb hK hP hD hS 1 0 rfl rfl (vp_in_nI (n := 40) (N := 106) (by decide) (by decide)) d_Md_init_248 (fun H locs hP hD hS => ?_)
  rw [show upd (tabU symL 40) (40 : Int32).toNatClampNeg 231113 = tabU symL 41 from tabU_s (by decide +kernel)] at hP hD
  have hP : va_P D vwCl [(a_this, .inr (4, [.null, .null, .null, .int 0, .null, .int 0, .null, .null, .int 0, .null, .int 0, .null, .null, .null, .int 0, .int 0, .null, .int 0])), (q7, .inl (k7, 106, .inl (tabU symL 41)))] H := hP
  have hD : va_D A [(a_this, .inr (4, [.null, .null, .null, .int 0, .null, .int 0, .null, .null, .int 0, .null, .int 0, .null, .null, .null, .int 0, .int 0, .null, .int 0])), (q7, .inl (k7, 106, .inl (tabU symL 41)))] := hD
  refine lv_dup hx hb d_Md_init_249 rfl ?_
  refine lv_bipush (v := 41) hx hb d_Md_init_250 (by decide) ?_
  refine lv_ldc (v := 231311) hx hb hown (hts _ mm_615) d_Md_init_252 ?_
  refine va_iast hx hb hK hP hD hS 1 0 rfl rfl (vp_in_nI (n := 41) (N := 106) (by decide) (by decide)) d_Md_init_254 (fun H locs hP hD hS => ?_)
  rw [show upd (tabU symL 41) (41 : Int32).toNatClampNeg 231311 = tabU symL 42 from tabU_s (by decide +kernel)] at hP hD
  have hP : va_P D vwCl [(a_this, .inr (4, [.null, .null, .null, .int 0, .null, .int 0, .null, .null, .int 0, .null, .int 0, .null, .null, .null, .int 0, .int 0, .null, .int 0])), (q7, .inl (k7, 106, .inl (tabU symL 42)))] H := hP
  have hD : va_D A [(a_this, .inr (4, [.null, .null, .null, .int 0, .null, .int 0, .null, .null, .int 0, .null, .int 0, .null, .null, .null, .int 0, .int 0, .null, .int 0])), (q7, .inl (k7, 106, .inl (tabU symL 42)))] := hD
  refine lv_dup hx hb d_Md_init_255 rfl ?_
  refine lv_bipush (v := 42) hx hb d_Md_init_256 (by decide) ?_
  refine lv_ldc (v := 112133) hx hb hown (hts _ mm_616) d_Md_init_258 ?_
  refine va_iast hx hb hK hP hD hS 1 0 rfl rfl (vp_in_nI (n := 42) (N := 106) (by decide) (by decide)) d_Md_init_260 (fun H locs hP hD hS => ?_)
  rw [show upd (tabU symL 42) (42 : Int32).toNatClampNeg 112133 = tabU symL 43 from tabU_s (by decide +kernel)] at hP hD
  have hP : va_P D vwCl [(a_this, .inr (4, [.null, .null, .null, .int 0, .null, .int 0, .null, .null, .int 0, .null, .int 0, .null, .null, .null, .int 0, .int 0, .null, .int 0])), (q7, .inl (k7, 106, .inl (tabU symL 43)))] H := hP
  have hD : va_D A [(a_this, .inr (4, [.null, .null, .null, .int 0, .null, .int 0, .null, .null, .int 0, .null, .int 0, .null, .null, .null, .int 0, .int 0, .null, .int 0])), (q7, .inl (k7, 106, .inl (tabU symL 43)))] := hD
  refine lv_dup hx hb d_Md_init_261 rfl ?_
  refine lv_bipush (v := 43) hx hb d_Md_init_262 (by decide) ?_
  refine lv_ldc (v := 112331) hx hb hown (hts _ mm_617) d_Md_init_264 ?_
  refine va_iast hx hb hK hP hD hS 1 0 rfl rfl (vp_in_nI (n := 43) (N := 106) (by decide) (by decide)) d_Md_init_266 (fun H locs hP hD hS => ?_)
  rw [show upd (tabU symL 43) (43 : Int32).toNatClampNeg 112331 = tabU symL 44 from tabU_s (by decide +kernel)] at hP hD
  have hP : va_P D vwCl [(a_this, .inr (4, [.null, .null, .null, .int 0, .null, .int 0, .null, .null, .int 0, .null, .int 0, .null, .null, .null, .int 0, .int 0, .null, .int 0])), (q7, .inl (k7, 106, .inl (tabU symL 44)))] H := hP
  have hD : va_D A [(a_this, .inr (4, [.null, .null, .null, .int 0, .null, .int 0, .null, .null, .int 0, .null, .int 0, .null, .null, .null, .int 0, .int 0, .null, .int 0])), (q7, .inl (k7, 106, .inl (tabU symL 44)))] := hD
  refine lv_dup hx hb d_Md_init_267 rfl ?_
  refine lv_bipush (v := 44) hx hb d_Md_init_268 (by decide) ?_
  refine lv_ldc (v := 132131) hx hb hown (hts _ mm_618) d_Md_init_270 ?_
  refine va_iast hx hb hK hP hD hS 1 0 rfl rfl (vp_in_nI (n := 44) (N := 106) (by decide) (by decide)) d_Md_init_272 (fun H locs hP hD hS => ?_)
  rw [show upd (tabU symL 44) (44 : Int32).toNatClampNeg 132131 = tabU symL 45 from tabU_s (by decide +kernel)] at hP hD
  have hP : va_P D vwCl [(a_this, .inr (4, [.null, .null, .null, .int 0, .null, .int 0, .null, .null, .int 0, .null, .int 0, .null, .null, .null, .int 0, .int 0, .null, .int 0])), (q7, .inl (k7, 106, .inl (tabU symL 45)))] H := hP
  have hD : va_D A [(a_this, .inr (4, [.null, .null, .null, .int 0, .null, .int 0, .null, .null, .int 0, .null, .int 0, .null, .null, .null, .int 0, .int 0, .null, .int 0])), (q7, .inl (k7, 106, .inl (tabU symL 45)))] := hD
  refine lv_dup hx hb d_Md_init_273 rfl ?_
  refine lv_bipush (v := 45) hx hb d_Md_init_274 (by decide) ?_
  refine lv_ldc (v := 113123) hx hb hown (hts _ mm_619) d_Md_init_276 ?_
  refine va_iast hx hb hK hP hD hS 1 0 rfl rfl (vp_in_nI (n := 45) (N := 106) (by decide) (by decide)) d_Md_init_278 (fun H locs hP hD hS => ?_)
  rw [show upd (tabU symL 45) (45 : Int32).toNatClampNeg 113123 = tabU symL 46 from tabU_s (by decide +kernel)] at hP hD
  have hP : va_P D vwCl [(a_this, .inr (4, [.null, .null, .null, .int 0, .null, .int 0, .null, .null, .int 0, .null, .int 0, .null, .null, .null, .int 0, .int 0, .null, .int 0])), (q7, .inl (k7, 106, .inl (tabU symL 46)))] H := hP
  have hD : va_D A [(a_this, .inr (4, [.null, .null, .null, .int 0, .null, .int 0, .null, .null, .int 0, .null, .int 0, .null, .null, .null, .int 0, .int 0, .null, .int 0])), (q7, .inl (k7, 106, .inl (tabU symL 46)))] := hD
  refine lv_dup hx hb d_Md_init_279 rfl ?_
  refine lv_bipush (v := 46) hx hb d_Md_init_280 (by decide) ?_
  refine lv_ldc (v := 113321) hx hb hown (hts _ mm_620) d_Md_init_282 ?_
  refine va_iast hx hb hK hP hD hS 1 0 rfl rfl (vp_in_nI (n := 46) (N := 106) (by decide) (by decide)) d_Md_init_284 (fun H locs hP hD hS => ?_)
  rw [show upd (tabU symL 46) (46 : Int32).toNatClampNeg 113321 = tabU symL 47 from tabU_s (by decide +kernel)] at hP hD
  have hP : va_P D vwCl [(a_this, .inr (4, [.null, .null, .null, .int 0, .null, .int 0, .null, .null, .int 0, .null, .int 0, .null, .null, .null, .int 0, .int 0, .null, .int 0])), (q7, .inl (k7, 106, .inl (tabU symL 47)))] H := hP
  have hD : va_D A [(a_this, .inr (4, [.null, .null, .null, .int 0, .null, .int 0, .null, .null, .int 0, .null, .int 0, .null, .null, .null, .int 0, .int 0, .null, .int 0])), (q7, .inl (k7, 106, .inl (tabU symL 47)))] := hD
  refine lv_dup hx hb d_Md_init_285 rfl ?_
  refine lv_bipush (v := 47) hx hb d_Md_init_286 (by decide) ?_
  refine lv_ldc (v := 133121) hx hb hown (hts _ mm_621) d_Md_init_288 ?_
  refine va_iast hx hb hK hP hD hS 1 0 rfl rfl (vp_in_nI (n := 47) (N := 106) (by decide) (by decide)) d_Md_init_290 (fun H locs hP hD hS => ?_)
  rw [show upd (tabU symL 47) (47 : Int32).toNatClampNeg 133121 = tabU symL 48 from tabU_s (by decide +kernel)] at hP hD
  have hP : va_P D vwCl [(a_this, .inr (4, [.null, .null, .null, .int 0, .null, .int 0, .null, .null, .int 0, .null, .int 0, .null, .null, .null, .int 0, .int 0, .null, .int 0])), (q7, .inl (k7, 106, .inl (tabU symL 48)))] H := hP
  have hD : va_D A [(a_this, .inr (4, [.null, .null, .null, .int 0, .null, .int 0, .null, .null, .int 0, .null, .int 0, .null, .null, .null, .int 0, .int 0, .null, .int 0])), (q7, .inl (k7, 106, .inl (tabU symL 48)))] := hD
  refine lv_dup hx hb d_Md_init_291 rfl ?_
  refine lv_bipush (v := 48) hx hb d_Md_init_292 (by decide) ?_
  refine lv_ldc (v := 313121) hx hb hown (hts _ mm_622) d_Md_init_294 ?_
  refine va_iast hx hb hK hP hD hS 1 0 rfl rfl (vp_in_nI (n := 48) (N := 106) (by decide) (by decide)) d_Md_init_296 (fun H locs hP hD hS => ?_)
  rw [show upd (tabU symL 48) (48 : Int32).toNatClampNeg 313121 = tabU symL 49 from tabU_s (by decide +kernel)] at hP hD
  have hP : va_P D vwCl [(a_this, .inr (4, [.null, .null, .null, .int 0, .null, .int 0, .null, .null, .int 0, .null, .int 0, .null, .null, .null, .int 0, .int 0, .null, .int 0])), (q7, .inl (k7, 106, .inl (tabU symL 49)))] H := hP
  have hD : va_D A [(a_this, .inr (4, [.null, .null, .null, .int 0, .null, .int 0, .null, .null, .int 0, .null, .int 0, .null, .null, .null, .int 0, .int 0, .null, .int 0])), (q7, .inl (k7, 106, .inl (tabU symL 49)))] := hD
  refine lv_dup hx hb d_Md_init_297 rfl ?_
  refine lv_bipush (v := 49) hx hb d_Md_init_298 (by decide) ?_
  refine lv_ldc (v := 211331) hx hb hown (hts _ mm_623) d_Md_init_300 ?_
  refine va_iast hx hb hK hP hD hS 1 0 rfl rfl (vp_in_nI (n := 49) (N := 106) (by decide) (by decide)) d_Md_init_302 (fun H locs hP hD hS => ?_)
  rw [show upd (tabU symL 49) (49 : Int32).toNatClampNeg 211331 = tabU symL 50 from tabU_s (by decide +kernel)] at hP hD
  have hP : va_P D vwCl [(a_this, .inr (4, [.null, .null, .null, .int 0, .null, .int 0, .null, .null, .int 0, .null, .int 0, .null, .null, .null, .int 0, .int 0, .null, .int 0])), (q7, .inl (k7, 106, .inl (tabU symL 50)))] H := hP
  have hD : va_D A [(a_this, .inr (4, [.null, .null, .null, .int 0, .null, .int 0, .null, .null, .int 0, .null, .int 0, .null, .null, .null, .int 0, .int 0, .null, .int 0])), (q7, .inl (k7, 106, .inl (tabU symL 50)))] := hD
  refine lv_dup hx hb d_Md_init_303 rfl ?_
  refine lv_bipush (v := 50) hx hb d_Md_init_304 (by decide) ?_
  refine lv_ldc (v := 231131) hx hb hown (hts _ mm_624) d_Md_init_306 ?_
  refine va_iast hx hb hK hP hD hS 1 0 rfl rfl (vp_in_nI (n := 50) (N := 106) (by decide) (by decide)) d_Md_init_308 (fun H locs hP hD hS => ?_)
  rw [show upd (tabU symL 50) (50 : Int32).toNatClampNeg 231131 = tabU symL 51 from tabU_s (by decide +kernel)] at hP hD
  have hP : va_P D vwCl [(a_this, .inr (4, [.null, .null, .null, .int 0, .null, .int 0, .null, .null, .int 0, .null, .int 0, .null, .null, .null, .int 0, .int 0, .null, .int 0])), (q7, .inl (k7, 106, .inl (tabU symL 51)))] H := hP
  have hD : va_D A [(a_this, .inr (4, [.null, .null, .null, .int 0, .null, .int 0, .null, .null, .int 0, .null, .int 0, .null, .null, .null, .int 0, .int 0, .null, .int 0])), (q7, .inl (k7, 106, .inl (tabU symL 51)))] := hD
  refine lv_dup hx hb d_Md_init_309 rfl ?_
  refine lv_bipush (v := 51) hx hb d_Md_init_310 (by decide) ?_
  refine lv_ldc (v := 213113) hx hb hown (hts _ mm_625) d_Md_init_312 ?_
  refine va_iast hx hb hK hP hD hS 1 0 rfl rfl (vp_in_nI (n := 51) (N := 106) (by decide) (by decide)) d_Md_init_314 (fun H locs hP hD hS => ?_)
  rw [show upd (tabU symL 51) (51 : Int32).toNatClampNeg 213113 = tabU symL 52 from tabU_s (by decide +kernel)] at hP hD
  have hP : va_P D vwCl [(a_this, .inr (4, [.null, .null, .null, .int 0, .null, .int 0, .null, .null, .int 0, .null, .int 0, .null, .null, .null, .int 0, .int 0, .null, .int 0])), (q7, .inl (k7, 106, .inl (tabU symL 52)))] H := hP
  have hD : va_D A [(a_this, .inr (4, [.null, .null, .null, .int 0, .null, .int 0, .null, .null, .int 0, .null, .int 0, .null, .null, .null, .int 0, .int 0, .null, .int 0])), (q7, .inl (k7, 106, .inl (tabU symL 52)))] := hD
  refine lv_dup hx hb d_Md_init_315 rfl ?_
  refine lv_bipush (v := 52) hx hb d_Md_init_316 (by decide) ?_
  refine lv_ldc (v := 213311) hx hb hown (hts _ mm_626) d_Md_init_318 ?_
  refine va_iast hx hb hK hP hD hS 1 0 rfl rfl (vp_in_nI (n := 52) (N := 106) (by decide) (by decide)) d_Md_init_320 (fun H locs hP hD hS => ?_)
  rw [show upd (tabU symL 52) (52 : Int32).toNatClampNeg 213311 = tabU symL 53 from tabU_s (by decide +kernel)] at hP hD
  have hP : va_P D vwCl [(a_this, .inr (4, [.null, .null, .null, .int 0, .null, .int 0, .null, .null, .int 0, .null, .int 0, .null, .null, .null, .int 0, .int 0, .null, .int 0])), (q7, .inl (k7, 106, .inl (tabU symL 53)))] H := hP
  have hD : va_D A [(a_this, .inr (4, [.null, .null, .null, .int 0, .null, .int 0, .null, .null, .int 0, .null, .int 0, .null, .null, .null, .int 0, .int 0, .null, .int 0])), (q7, .inl (k7, 106, .inl (tabU symL 53)))] := hD
  refine lv_dup hx hb d_Md_init_321 rfl ?_
  refine lv_bipush (v := 53) hx hb d_Md_init_322 (by decide) ?_
  refine lv_ldc (v := 213131) hx hb hown (hts _ mm_627) d_Md_init_324 ?_
  refine va_iast hx hb hK hP hD hS 1 0 rfl rfl (vp_in_nI (n := 53) (N := 106) (by decide) (by decide)) d_Md_init_326 (fun H locs hP hD hS => ?_)
  rw [show upd (tabU symL 53) (53 : Int32).toNatClampNeg 213131 = tabU symL 54 from tabU_s (by decide +kernel)] at hP hD
  have hP : va_P D vwCl [(a_this, .inr (4, [.null, .null, .null, .int 0, .null, .int 0, .null, .null, .int 0, .null, .int 0, .null, .null, .null, .int 0, .int 0, .null, .int 0])), (q7, .inl (k7, 106, .inl (tabU symL 54)))] H := hP
  have hD : va_D A [(a_this, .inr (4, [.null, .null, .null, .int 0, .null, .int 0, .null, .null, .int 0, .null, .int 0, .null, .null, .null, .int 0, .int 0, .null, .int 0])), (q7, .inl (k7, 106, .inl (tabU symL 54)))] := hD
  refine lv_dup hx hb d_Md_init_327 rfl ?_
  refine lv_bipush (v := 54) hx hb d_Md_init_328 (by decide) ?_
  refine lv_ldc (v := 311123) hx hb hown (hts _ mm_628) d_Md_init_330 ?_
  refine va_iast hx hb hK hP hD hS 1 0 rfl rfl (vp_in_nI (n := 54) (N := 106) (by decide) (by decide)) d_Md_init_332 (fun H locs hP hD hS => ?_)
  rw [show upd (tabU symL 54) (54 : Int32).toNatClampNeg 311123 = tabU symL 55 from tabU_s (by decide +kernel)] at hP hD
  have hP : va_P D vwCl [(a_this, .inr (4, [.null, .null, .null, .int 0, .null, .int 0, .null, .null, .int 0, .null, .int 0, .null, .null, .null, .int 0, .int 0, .null, .int 0])), (q7, .inl (k7, 106, .inl (tabU symL 55)))] H := hP
  have hD : va_D A [(a_this, .inr (4, [.null, .null, .null, .int 0, .null, .int 0, .null, .null, .int 0, .null, .int 0, .null, .null, .null, .int 0, .int 0, .null, .int 0])), (q7, .inl (k7, 106, .inl (tabU symL 55)))] := hD
  refine lv_dup hx hb d_Md_init_333 rfl ?_
  refine lv_bipush (v := 55) hx hb d_Md_init_334 (by decide) ?_
  refine lv_ldc (v := 311321) hx hb hown (hts _ mm_629) d_Md_init_336 ?_
  refine va_iast hx hb hK hP hD hS 1 0 rfl rfl (vp_in_nI (n := 55) (N := 106) (by decide) (by decide)) d_Md_init_338 (fun H locs hP hD hS => ?_)
  rw [show upd (tabU symL 55) (55 : Int32).toNatClampNeg 311321 = tabU symL 56 from tabU_s (by decide +kernel)] at hP hD
  have hP : va_P D vwCl [(a_this, .inr (4, [.null, .null, .null, .int 0, .null, .int 0, .null, .null, .int 0, .null, .int 0, .null, .null, .null, .int 0, .int 0, .null, .int 0])), (q7, .inl (k7, 106, .inl (tabU symL 56)))] H := hP
  have hD : va_D A [(a_this, .inr (4, [.null, .null, .null, .int 0, .null, .int 0, .null, .null, .int 0, .null, .int 0, .null, .null, .null, .int 0, .int 0, .null, .int 0])), (q7, .inl (k7, 106, .inl (tabU symL 56)))] := hD
  refine lv_dup hx hb d_Md_init_339 rfl ?_
  refine lv_bipush (v := 56) hx hb d_Md_init_340 (by decide) ?_
  refine lv_ldc (v := 331121) hx hb hown (hts _ mm_630) d_Md_init_342 ?_
  refine va_iast hx hb hK hP hD hS 1 0 rfl rfl (vp_in_nI (n := 56) (N := 106) (by decide) (by decide)) d_Md_init_344 (fun H locs hP hD hS => ?_)
  rw [show upd (tabU symL 56) (56 : Int32).toNatClampNeg 331121 = tabU symL 57 from tabU_s (by decide +kernel)] at hP hD
  have hP : va_P D vwCl [(a_this, .inr (4, [.null, .null, .null, .int 0, .null, .int 0, .null, .null, .int 0, .null, .int 0, .null, .null, .null, .int 0, .int 0, .null, .int 0])), (q7, .inl (k7, 106, .inl (tabU symL 57)))] H := hP
  have hD : va_D A [(a_this, .inr (4, [.null, .null, .null, .int 0, .null, .int 0, .null, .null, .int 0, .null, .int 0, .null, .null, .null, .int 0, .int 0, .null, .int 0])), (q7, .inl (k7, 106, .inl (tabU symL 57)))] := hD
  refine lv_dup hx hb d_Md_init_345 rfl ?_
  refine lv_bipush (v := 57) hx hb d_Md_init_346 (by decide) ?_
  refine lv_ldc (v := 312113) hx hb hown (hts _ mm_631) d_Md_init_348 ?_
  refine va_iast hx hb hK hP hD hS 1 0 rfl rfl (vp_in_nI (n := 57) (N := 106) (by decide) (by decide)) d_Md_init_350 (fun H locs hP hD hS => ?_)
  rw [show upd (tabU symL 57) (57 : Int32).toNatClampNeg 312113 = tabU symL 58 from tabU_s (by decide +kernel)] at hP hD
  have hP : va_P D vwCl [(a_this, .inr (4, [.null, .null, .null, .int 0, .null, .int 0, .null, .null, .int 0, .null, .int 0, .null, .null, .null, .int 0, .int 0, .null, .int 0])), (q7, .inl (k7, 106, .inl (tabU symL 58)))] H := hP
  have hD : va_D A [(a_this, .inr (4, [.null, .null, .null, .int 0, .null, .int 0, .null, .null, .int 0, .null, .int 0, .null, .null, .null, .int 0, .int 0, .null, .int 0])), (q7, .inl (k7, 106, .inl (tabU symL 58)))] := hD
  refine lv_dup hx hb d_Md_init_351 rfl ?_
  refine lv_bipush (v := 58) hx hb d_Md_init_352 (by decide) ?_
  refine lv_ldc (v := 312311) hx hb hown (hts _ mm_632) d_Md_init_354 ?_
  refine va_iast hx hb hK hP hD hS 1 0 rfl rfl (vp_in_nI (n := 58) (N := 106) (by decide) (by decide)) d_Md_init_356 (fun H locs hP hD hS => ?_)
  rw [show upd (tabU symL 58) (58 : Int32).toNatClampNeg 312311 = tabU symL 59 from tabU_s (by decide +kernel)] at hP hD
  have hP : va_P D vwCl [(a_this, .inr (4, [.null, .null, .null, .int 0, .null, .int 0, .null, .null, .int 0, .null, .int 0, .null, .null, .null, .int 0, .int 0, .null, .int 0])), (q7, .inl (k7, 106, .inl (tabU symL 59)))] H := hP
  have hD : va_D A [(a_this, .inr (4, [.null, .null, .null, .int 0, .null, .int 0, .null, .null, .int 0, .null, .int 0, .null, .null, .null, .int 0, .int 0, .null, .int 0])), (q7, .inl (k7, 106, .inl (tabU symL 59)))] := hD
  refine lv_dup hx hb d_Md_init_357 rfl ?_
  refine lv_bipush (v := 59) hx hb d_Md_init_358 (by decide) ?_
  refine lv_ldc (v := 332111) hx hb hown (hts _ mm_633) d_Md_init_360 ?_
  refine va_iast hx hb hK hP hD hS 1 0 rfl rfl (vp_in_nI (n := 59) (N := 106) (by decide) (by decide)) d_Md_init_362 (fun H locs hP hD hS => ?_)
  rw [show upd (tabU symL 59) (59 : Int32).toNatClampNeg 332111 = tabU symL 60 from tabU_s (by decide +kernel)] at hP hD
  have hP : va_P D vwCl [(a_this, .inr (4, [.null, .null, .null, .int 0, .null, .int 0, .null, .null, .int 0, .null, .int 0, .null, .null, .null, .int 0, .int 0, .null, .int 0])), (q7, .inl (k7, 106, .inl (tabU symL 60)))] H := hP
  have hD : va_D A [(a_this, .inr (4, [.null, .null, .null, .int 0, .null, .int 0, .null, .null, .int 0, .null, .int 0, .null, .null, .null, .int 0, .int 0, .null, .int 0])), (q7, .inl (k7, 106, .inl (tabU symL 60)))] := hD
  refine lv_dup hx hb d_Md_init_363 rfl ?_
  refine lv_bipush (v := 60) hx hb d_Md_init_364 (by decide) ?_
  refine lv_ldc (v := 314111) hx hb hown (hts _ mm_634) d_Md_init_366 ?_
  refine va_iast hx hb hK hP hD hS 1 0 rfl rfl (vp_in_nI (n := 60) (N := 106) (by decide) (by decide)) d_Md_init_368 (fun H locs hP hD hS => ?_)
  rw [show upd (tabU symL 60) (60 : Int32).toNatClampNeg 314111 = tabU symL 61 from tabU_s (by decide +kernel)] at hP hD
  have hP : va_P D vwCl [(a_this, .inr (4, [.null, .null, .null, .int 0, .null, .int 0, .null, .null, .int 0, .null, .int 0, .null, .null, .null, .int 0, .int 0, .null, .int 0])), (q7, .inl (k7, 106, .inl (tabU symL 61)))] H := hP
  have hD : va_D A [(a_this, .inr (4, [.null, .null, .null, .int 0, .null, .int 0, .null, .null, .int 0, .null, .int 0, .null, .null, .null, .int 0, .int 0, .null, .int 0])), (q7, .inl (k7, 106, .inl (tabU symL 61)))] := hD
  refine lv_dup hx hb d_Md_init_369 rfl ?_
  refine lv_bipush (v := 61) hx hb d_Md_init_370 (by decide) ?_
  refine lv_ldc (v := 221411) hx hb hown (hts _ mm_635) d_Md_init_372 ?_
  refine va_iast hx hb hK hP hD hS 1 0 rfl rfl (vp_in_nI (n := 61) (N := 106) (by decide) (by decide)) d_Md_init_374 (fun H locs hP hD hS => ?_)
  rw [show upd (tabU symL 61) (61 : Int32).toNatClampNeg 221411 = tabU symL 62 from tabU_s (by decide +kernel)] at hP hD
  have hP : va_P D vwCl [(a_this, .inr (4, [.null, .null, .null, .int 0, .null, .int 0, .null, .null, .int 0, .null, .int 0, .null, .null, .null, .int 0, .int 0, .null, .int 0])), (q7, .inl (k7, 106, .inl (tabU symL 62)))] H := hP
  have hD : va_D A [(a_this, .inr (4, [.null, .null, .null, .int 0, .null, .int 0, .null, .null, .int 0, .null, .int 0, .null, .null, .null, .int 0, .int 0, .null, .int 0])), (q7, .inl (k7, 106, .inl (tabU symL 62)))] := hD
  refine lv_dup hx hb d_Md_init_375 rfl ?_
  refine lv_bipush (v := 62) hx hb d_Md_init_376 (by decide) ?_
  refine lv_ldc (v := 431111) hx hb hown (hts _ mm_636) d_Md_init_378 ?_
  refine va_iast hx hb hK hP hD hS 1 0 rfl rfl (vp_in_nI (n := 62) (N := 106) (by decide) (by decide)) d_Md_init_380 (fun H locs hP hD hS => ?_)
  rw [show upd (tabU symL 62) (62 : Int32).toNatClampNeg 431111 = tabU symL 63 from tabU_s (by decide +kernel)] at hP hD
  have hP : va_P D vwCl [(a_this, .inr (4, [.null, .null, .null, .int 0, .null, .int 0, .null, .null, .int 0, .null, .int 0, .null, .null, .null, .int 0, .int 0, .null, .int 0])), (q7, .inl (k7, 106, .inl (tabU symL 63)))] H := hP
  have hD : va_D A [(a_this, .inr (4, [.null, .null, .null, .int 0, .null, .int 0, .null, .null, .int 0, .null, .int 0, .null, .null, .null, .int 0, .int 0, .null, .int 0])), (q7, .inl (k7, 106, .inl (tabU symL 63)))] := hD
  refine lv_dup hx hb d_Md_init_381 rfl ?_
  refine lv_bipush (v := 63) hx hb d_Md_init_382 (by decide) ?_
  refine lv_ldc (v := 111224) hx hb hown (hts _ mm_637) d_Md_init_384 ?_
  refine va_iast hx hb hK hP hD hS 1 0 rfl rfl (vp_in_nI (n := 63) (N := 106) (by decide) (by decide)) d_Md_init_386 (fun H locs hP hD hS => ?_)
  rw [show upd (tabU symL 63) (63 : Int32).toNatClampNeg 111224 = tabU symL 64 from tabU_s (by decide +kernel)] at hP hD
  have hP : va_P D vwCl [(a_this, .inr (4, [.null, .null, .null, .int 0, .null, .int 0, .null, .null, .int 0, .null, .int 0, .null, .null, .null, .int 0, .int 0, .null, .int 0])), (q7, .inl (k7, 106, .inl (tabU symL 64)))] H := hP
  have hD : va_D A [(a_this, .inr (4, [.null, .null, .null, .int 0, .null, .int 0, .null, .null, .int 0, .null, .int 0, .null, .null, .null, .int 0, .int 0, .null, .int 0])), (q7, .inl (k7, 106, .inl (tabU symL 64)))] := hD
  refine lv_dup hx hb d_Md_init_387 rfl ?_
  refine lv_bipush (v := 64) hx hb d_Md_init_388 (by decide) ?_
  refine lv_ldc (v := 111422) hx hb hown (hts _ mm_638) d_Md_init_390 ?_
  refine va_iast hx hb hK hP hD hS 1 0 rfl rfl (vp_in_nI (n := 64) (N := 106) (by decide) (by decide)) d_Md_init_392 (fun H locs hP hD hS => ?_)
  rw [show upd (tabU symL 64) (64 : Int32).toNatClampNeg 111422 = tabU symL 65 from tabU_s (by decide +kernel)] at hP hD
  have hP : va_P D vwCl [(a_this, .inr (4, [.null, .null, .null, .int 0, .null, .int 0, .null, .null, .int 0, .null, .int 0, .null, .null, .null, .int 0, .int 0, .null, .int 0])), (q7, .inl (k7, 106, .inl (tabU symL 65)))] H := hP
  have hD : va_D A [(a_this, .inr (4, [.null, .null, .null, .int 0, .null, .int 0, .null, .null, .int 0, .null, .int 0, .null, .null, .null, .int 0, .int 0, .null, .int 0])), (q7, .inl (k7, 106, .inl (tabU symL 65)))] := hD
  refine lv_dup hx hb d_Md_init_393 rfl ?_
  refine lv_bipush (v := 65) hx hb d_Md_init_394 (by decide) ?_
  refine lv_ldc (v := 121124) hx hb hown (hts _ mm_639) d_Md_init_396 ?_
  refine va_iast hx hb hK hP hD hS 1 0 rfl rfl (vp_in_nI (n := 65) (N := 106) (by decide) (by decide)) d_Md_init_398 (fun H locs hP hD hS => ?_)
  rw [show upd (tabU symL 65) (65 : Int32).toNatClampNeg 121124 = tabU symL 66 from tabU_s (by decide +kernel)] at hP hD
  have hP : va_P D vwCl [(a_this, .inr (4, [.null, .null, .null, .int 0, .null, .int 0, .null, .null, .int 0, .null, .int 0, .null, .null, .null, .int 0, .int 0, .null, .int 0])), (q7, .inl (k7, 106, .inl (tabU symL 66)))] H := hP
  have hD : va_D A [(a_this, .inr (4, [.null, .null, .null, .int 0, .null, .int 0, .null, .null, .int 0, .null, .int 0, .null, .null, .null, .int 0, .int 0, .null, .int 0])), (q7, .inl (k7, 106, .inl (tabU symL 66)))] := hD
  refine lv_dup hx hb d_Md_init_399 rfl ?_
  refine lv_bipush (v := 66) hx hb d_Md_init_400 (by decide) ?_
  refine lv_ldc (v := 121421) hx hb hown (hts _ mm_640) d_Md_init_402 ?_
  refine va_iast hx hb hK hP hD hS 1 0 rfl rfl (vp_in_nI (n := 66) (N := 106) (by decide) (by decide)) d_Md_init_404 (fun H locs hP hD hS => ?_)
  rw [show upd (tabU symL 66) (66 : Int32).toNatClampNeg 121421 = tabU symL 67 from tabU_s (by decide +kernel)] at hP hD
  have hP : va_P D vwCl [(a_this, .inr (4, [.null, .null, .null, .int 0, .null, .int 0, .null, .null, .int 0, .null, .int 0, .null, .null, .null, .int 0, .int 0, .null, .int 0])), (q7, .inl (k7, 106, .inl (tabU symL 67)))] H := hP
  have hD : va_D A [(a_this, .inr (4, [.null, .null, .null, .int 0, .null, .int 0, .null, .null, .int 0, .null, .int 0, .null, .null, .null, .int 0, .int 0, .null, .int 0])), (q7, .inl (k7, 106, .inl (tabU symL 67)))] := hD
  refine lv_dup hx hb d_Md_init_405 rfl ?_
  refine lv_bipush (v := 67) hx hb d_Md_init_406 (by decide) ?_
  refine lv_ldc (v := 141122) hx hb hown (hts _ mm_641) d_Md_init_408 ?_
  refine va_iast hx hb hK hP hD hS 1 0 rfl rfl (vp_in_nI (n := 67) (N := 106) (by decide) (by decide)) d_Md_init_410 (fun H locs hP hD hS => ?_)
  rw [show upd (tabU symL 67) (67 : Int32).toNatClampNeg 141122 = tabU symL 68 from tabU_s (by decide +kernel)] at hP hD
  have hP : va_P D vwCl [(a_this, .inr (4, [.null, .null, .null, .int 0, .null, .int 0, .null, .null, .int 0, .null, .int 0, .null, .null, .null, .int 0, .int 0, .null, .int 0])), (q7, .inl (k7, 106, .inl (tabU symL 68)))] H := hP
  have hD : va_D A [(a_this, .inr (4, [.null, .null, .null, .int 0, .null, .int 0, .null, .null, .int 0, .null, .int 0, .null, .null, .null, .int 0, .int 0, .null, .int 0])), (q7, .inl (k7, 106, .inl (tabU symL 68)))] := hD
  refine lv_dup hx hb d_Md_init_411 rfl ?_
  refine lv_bipush (v := 68) hx hb d_Md_init_412 (by decide) ?_
  refine lv_ldc (v := 141221) hx hb hown (hts _ mm_642) d_Md_init_414 ?_
  refine va_iast hx hb hK hP hD hS 1 0 rfl rfl (vp_in_nI (n := 68) (N := 106) (by decide) (by decide)) d_Md_init_416 (fun H locs hP hD hS => ?_)
  rw [show upd (tabU symL 68) (68 : Int32).toNatClampNeg 141221 = tabU symL 69 from tabU_s (by decide +kernel)] at hP hD
  have hP : va_P D vwCl [(a_this, .inr (4, [.null, .null, .null, .int 0, .null, .int 0, .null, .null, .int 0, .null, .int 0, .null, .null, .null, .int 0, .int 0, .null, .int 0])), (q7, .inl (k7, 106, .inl (tabU symL 69)))] H := hP
  have hD : va_D A [(a_this, .inr (4, [.null, .null, .null, .int 0, .null, .int 0, .null, .null, .int 0, .null, .int 0, .null, .null, .null, .int 0, .int 0, .null, .int 0])), (q7, .inl (k7, 106, .inl (tabU symL 69)))] := hD
  refine lv_dup hx hb d_Md_init_417 rfl ?_
  refine lv_bipush (v := 69) hx hb d_Md_init_418 (by decide) ?_
  refine lv_ldc (v := 112214) hx hb hown (hts _ mm_643) d_Md_init_420 ?_
  refine va_iast hx hb hK hP hD hS 1 0 rfl rfl (vp_in_nI (n := 69) (N := 106) (by decide) (by decide)) d_Md_init_422 (fun H locs hP hD hS => ?_)
  rw [show upd (tabU symL 69) (69 : Int32).toNatClampNeg 112214 = tabU symL 70 from tabU_s (by decide +kernel)] at hP hD
  have hP : va_P D vwCl [(a_this, .inr (4, [.null, .null, .null, .int 0, .null, .int 0, .null, .null, .int 0, .null, .int 0, .null, .null, .null, .int 0, .int 0, .null, .int 0])), (q7, .inl (k7, 106, .inl (tabU symL 70)))] H := hP
  have hD : va_D A [(a_this, .inr (4, [.null, .null, .null, .int 0, .null, .int 0, .null, .null, .int 0, .null, .int 0, .null, .null, .null, .int 0, .int 0, .null, .int 0])), (q7, .inl (k7, 106, .inl (tabU symL 70)))] := hD
  refine lv_dup hx hb d_Md_init_423 rfl ?_
  refine lv_bipush (v := 70) hx hb d_Md_init_424 (by decide) ?_
  refine lv_ldc (v := 112412) hx hb hown (hts _ mm_644) d_Md_init_426 ?_
  refine va_iast hx hb hK hP hD hS 1 0 rfl rfl (vp_in_nI (n := 70) (N := 106) (by decide) (by decide)) d_Md_init_428 (fun H locs hP hD hS => ?_)
  rw [show upd (tabU symL 70) (70 : Int32).toNatClampNeg 112412 = tabU symL 71 from tabU_s (by decide +kernel)] at hP hD
  have hP : va_P D vwCl [(a_this, .inr (4, [.null, .null, .null, .int 0, .null, .int 0, .null, .null, .int 0, .null, .int 0, .null, .null, .null, .int 0, .int 0, .null, .int 0])), (q7, .inl (k7, 106, .inl (tabU symL 71)))] H := hP
  have hD : va_D A [(a_this, .inr (4, [.null, .null, .null, .int 0, .null, .int 0, .null, .null, .int 0, .null, .int 0, .null, .null, .null, .int 0, .int 0, .null, .int 0])), (q7, .inl (k7, 106, .inl (tabU symL 71)))] := hD
  refine lv_dup hx hb d_Md_init_429 rfl ?_
  refine lv_bipush (v := 71) hx hb d_Md_init_430 (by decide) ?_
  refine lv_ldc (v := 122114) hx hb hown (hts _ mm_645) d_Md_init_432 ?_
  refine va_iast hx hb hK hP hD hS 1 0 rfl rfl (vp_in_nI (n := 71) (N := 106) (by decide) (by decide)) d_Md_init_434 (fun H locs hP hD hS => ?_)
  rw [show upd (tabU symL 71) (71 : Int32).toNatClampNeg 122114 = tabU symL 72 from tabU_s (by decide +kernel)] at hP hD
  have hP : va_P D vwCl [(a_this, .inr (4, [.null, .null, .null, .int 0, .null, .int 0, .null, .null, .int 0, .null, .int 0, .null, .null, .null, .int 0, .int 0, .null, .int 0])), (q7, .inl (k7, 106, .inl (tabU symL 72)))] H := hP
  have hD : va_D A [(a_this, .inr (4, [.null, .null, .null, .int 0, .null, .int 0, .null, .null, .int 0, .null, .int 0, .null, .null, .null, .int 0, .int 0, .null, .int 0])), (q7, .inl (k7, 106, .inl (tabU symL 72)))] := hD
  refine lv_dup hx hb d_Md_init_435 rfl ?_
  refine lv_bipush (v := 72) hx hb d_Md_init_436 (by decide) ?_
  refine lv_ldc (v := 122411) hx hb hown (hts _ mm_646) d_Md_init_438 ?_
  refine va_iast hx hb hK hP hD hS 1 0 rfl rfl (vp_in_nI (n := 72) (N := 106) (by decide) (by decide)) d_Md_init_440 (fun H locs hP hD hS => ?_)
  rw [show upd (tabU symL 72) (72 : Int32).toNatClampNeg 122411 = tabU symL 73 from tabU_s (by decide +kernel)] at hP hD
  have hP : va_P D vwCl [(a_this, .inr (4, [.null, .null, .null, .int 0, .null, .int 0, .null, .null, .int 0, .null, .int 0, .null, .null, .null, .int 0, .int 0, .null, .int 0])), (q7, .inl (k7, 106, .inl (tabU symL 73)))] H := hP
  have hD : va_D A [(a_this, .inr (4, [.null, .null, .null, .int 0, .null, .int 0, .null, .null, .int 0, .null, .int 0, .null, .null, .null, .int 0, .int 0, .null, .int 0])), (q7, .inl (k7, 106, .inl (tabU symL 73)))] := hD
  refine lv_dup hx hb d_Md_init_441 rfl ?_
  refine lv_bipush (v := 73) hx hb d_Md_init_442 (by decide) ?_
  refine lv_ldc (v := 142112) hx hb hown (hts _ mm_647) d_Md_init_444 ?_
  refine va_iast hx hb hK hP hD hS 1 0 rfl rfl (vp_in_nI (n := 73) (N := 106) (by decide) (by decide)) d_Md_init_446 (fun H locs hP hD hS => ?_)
  rw [show upd (tabU symL 73) (73 : Int32).toNatClampNeg 142112 = tabU symL 74 from tabU_s (by decide +kernel)] at hP hD
  have hP : va_P D vwCl [(a_this, .inr (4, [.null, .null, .null, .int 0, .null, .int 0, .null, .null, .int 0, .null, .int 0, .null, .null, .null, .int 0, .int 0, .null, .int 0])), (q7, .inl (k7, 106, .inl (tabU symL 74)))] H := hP
  have hD : va_D A [(a_this, .inr (4, [.null, .null, .null, .int 0, .null, .int 0, .null, .null, .int 0, .null, .int 0, .null, .null, .null, .int 0, .int 0, .null, .int 0])), (q7, .inl (k7, 106, .inl (tabU symL 74)))] := hD
  refine lv_dup hx hb d_Md_init_447 rfl ?_
  refine lv_bipush (v := 74) hx hb d_Md_init_448 (by decide) ?_
  refine lv_ldc (v := 142211) hx hb hown (hts _ mm_648) d_Md_init_450 ?_
  refine va_iast hx hb hK hP hD hS 1 0 rfl rfl (vp_in_nI (n := 74) (N := 106) (by decide) (by decide)) d_Md_init_452 (fun H locs hP hD hS => ?_)
  rw [show upd (tabU symL 74) (74 : Int32).toNatClampNeg 142211 = tabU symL 75 from tabU_s (by decide +kernel)] at hP hD
  have hP : va_P D vwCl [(a_this, .inr (4, [.null, .null, .null, .int 0, .null, .int 0, .null, .null, .int 0, .null, .int 0, .null, .null, .null, .int 0, .int 0, .null, .int 0])), (q7, .inl (k7, 106, .inl (tabU symL 75)))] H := hP
  have hD : va_D A [(a_this, .inr (4, [.null, .null, .null, .int 0, .null, .int 0, .null, .null, .int 0, .null, .int 0, .null, .null, .null, .int 0, .int 0, .null, .int 0])), (q7, .inl (k7, 106, .inl (tabU symL 75)))] := hD
  refine lv_dup hx hb d_Md_init_453 rfl ?_
  refine lv_bipush (v := 75) hx hb d_Md_init_454 (by decide) ?_
  refine lv_ldc (v := 241211) hx hb hown (hts _ mm_649) d_Md_init_456 ?_
  refine va_iast hx hb hK hP hD hS 1 0 rfl rfl (vp_in_nI (n := 75) (N := 106) (by decide) (by decide)) d_Md_init_458 (fun H locs hP hD hS => ?_)
  rw [show upd (tabU symL 75) (75 : Int32).toNatClampNeg 241211 = tabU symL 76 from tabU_s (by decide +kernel)] at hP hD
  have hP : va_P D vwCl [(a_this, .inr (4, [.null, .null, .null, .int 0, .null, .int 0, .null, .null, .int 0, .null, .int 0, .null, .null, .null, .int 0, .int 0, .null, .int 0])), (q7, .inl (k7, 106, .inl (tabU symL 76)))] H := hP
  have hD : va_D A [(a_this, .inr (4, [.null, .null, .null, .int 0, .null, .int 0, .null, .null, .int 0, .null, .int 0, .null, .null, .null, .int 0, .int 0, .null, .int 0])), (q7, .inl (k7, 106, .inl (tabU symL 76)))] := hD
  refine lv_dup hx hb d_Md_init_459 rfl ?_
  refine lv_bipush (v := 76) hx hb d_Md_init_460 (by decide) ?_
  refine lv_ldc (v := 221114) hx hb hown (hts _ mm_650) d_Md_init_462 ?_
  refine va_iast hx hb hK hP hD hS 1 0 rfl rfl (vp_in_nI (n := 76) (N := 106) (by decide) (by decide)) d_Md_init_464 (fun H locs hP hD hS => ?_)
  rw [show upd (tabU symL 76) (76 : Int32).toNatClampNeg 221114 = tabU symL 77 from tabU_s (by decide +kernel)] at hP hD
  have hP : va_P D vwCl [(a_this, .inr (4, [.null, .null, .null, .int 0, .null, .int 0, .null, .null, .int 0, .null, .int 0, .null, .null, .null, .int 0, .int 0, .null, .int 0])), (q7, .inl (k7, 106, .inl (tabU symL 77)))] H := hP
  have hD : va_D A [(a_this, .inr (4, [.null, .null, .null, .int 0, .null, .int 0, .null, .null, .int 0, .null, .int 0, .null, .null, .null, .int 0, .int 0, .null, .int 0])), (q7, .inl (k7, 106, .inl (tabU symL 77)))] := hD
  refine lv_dup hx hb d_Md_init_465 rfl ?_
  refine lv_bipush (v := 77) hx hb d_Md_init_466 (by decide) ?_
  refine lv_ldc (v := 413111) hx hb hown (hts _ mm_651) d_Md_init_468 ?_
  refine va_iast hx hb hK hP hD hS 1 0 rfl rfl (vp_in_nI (n := 77) (N := 106) (by decide) (by decide)) d_Md_init_470 (fun H locs hP hD hS => ?_)
  rw [show upd (tabU symL 77) (77 : Int32).toNatClampNeg 413111 = tabU symL 78 from tabU_s (by decide +kernel)] at hP hD
  have hP : va_P D vwCl [(a_this, .inr (4, [.null, .null, .null, .int 0, .null, .int 0, .null, .null, .int 0, .null, .int 0, .null, .null, .null, .int 0, .int 0, .null, .int 0])), (q7, .inl (k7, 106, .inl (tabU symL 78)))] H := hP
  have hD : va_D A [(a_this, .inr (4, [.null, .null, .null, .int 0, .null, .int 0, .null, .null, .int 0, .null, .int 0, .null, .null, .null, .int 0, .int 0, .null, .int 0])), (q7, .inl (k7, 106, .inl (tabU symL 78)))] := hD
  refine lv_dup hx hb d_Md_init_471 rfl ?_
  refine lv_bipush (v := 78) hx hb d_Md_init_472 (by decide) ?_
  refine lv_ldc (v := 241112) hx hb hown (hts _ mm_652) d_Md_init_474 ?_
  refine va_iast hx hb hK hP hD hS 1 0 rfl rfl (vp_in_nI (n := 78) (N := 106) (by decide) (by decide)) d_Md_init_476 (fun H locs hP hD hS => ?_)
  rw [show upd (tabU symL 78) (78 : Int32).toNatClampNeg 241112 = tabU symL 79 from tabU_s (by decide +kernel)] at hP hD
  have hP : va_P D vwCl [(a_this, .inr (4, [.null, .null, .null, .int 0, .null, .int 0, .null, .null, .int 0, .null, .int 0, .null, .null, .null, .int 0, .int 0, .null, .int 0])), (q7, .inl (k7, 106, .inl (tabU symL 79)))] H := hP
  have hD : va_D A [(a_this, .inr (4, [.null, .null, .null, .int 0, .null, .int 0, .null, .null, .int 0, .null, .int 0, .null, .null, .null, .int 0, .int 0, .null, .int 0])), (q7, .inl (k7, 106, .inl (tabU symL 79)))] := hD
  refine lv_dup hx hb d_Md_init_477 rfl ?_
  refine lv_bipush (v := 79) hx hb d_Md_init_478 (by decide) ?_
  refine lv_ldc (v := 134111) hx hb hown (hts _ mm_653) d_Md_init_480 ?_
  refine va_iast hx hb hK hP hD hS 1 0 rfl rfl (vp_in_nI (n := 79) (N := 106) (by decide) (by decide)) d_Md_init_482 (fun H locs hP hD hS => ?_)
  rw [show upd (tabU symL 79) (79 : Int32).toNatClampNeg 134111 = tabU symL 80 from tabU_s (by decide +kernel)] at hP hD
  have hP : va_P D vwCl [(a_this, .inr (4, [.null, .null, .null, .int 0, .null, .int 0, .null, .null, .int 0, .null, .int 0, .null, .null, .null, .int 0, .int 0, .null, .int 0])), (q7, .inl (k7, 106, .inl (tabU symL 80)))] H := hP
  have hD : va_D A [(a_this, .inr (4, [.null, .null, .null, .int 0, .null, .int 0, .null, .null, .int 0, .null, .int 0, .null, .null, .null, .int 0, .int 0, .null, .int 0])), (q7, .inl (k7, 106, .inl (tabU symL 80)))] := hD
  refine lv_dup hx hb d_Md_init_483 rfl ?_
  refine lv_bipush (v := 80) hx hb d_Md_init_484 (by decide) ?_
  refine lv_ldc (v := 111242) hx hb hown (hts _ mm_654) d_Md_init_486 ?_
  refine va_iast hx hb hK hP hD hS 1 0 rfl rfl (vp_in_nI (n := 80) (N := 106) (by decide) (by decide)) d_Md_init_488 (fun H locs hP hD hS => ?_)
  rw [show upd (tabU symL 80) (80 : Int32).toNatClampNeg 111242 = tabU symL 81 from tabU_s (by decide +kernel)] at hP hD
  have hP : va_P D vwCl [(a_this, .inr (4, [.null, .null, .null, .int 0, .null, .int 0, .null, .null, .int 0, .null, .int 0, .null, .null, .null, .int 0, .int 0, .null, .int 0])), (q7, .inl (k7, 106, .inl (tabU symL 81)))] H := hP
  have hD : va_D A [(a_this, .inr (4, [.null, .null, .null, .int 0, .null, .int 0, .null, .null, .int 0, .null, .int 0, .null, .null, .null, .int 0, .int 0, .null, .int 0])), (q7, .inl (k7, 106, .inl (tabU symL 81)))] := hD
  refine lv_dup hx hb d_Md_init_489 rfl ?_
  refine lv_bipush (v := 81) hx hb d_Md_init_490 (by decide) ?_
  refine lv_ldc (v := 121142) hx hb hown (hts _ mm_655) d_Md_init_492 ?_
  refine va_iast hx hb hK hP hD hS 1 0 rfl rfl (vp_in_nI (n := 81) (N := 106) (by decide) (by decide)) d_Md_init_494 (fun H locs hP hD hS => ?_)
  rw [show upd (tabU symL 81) (81 : Int32).toNatClampNeg 121142 = tabU symL 82 from tabU_s (by decide +kernel)] at hP hD
  have hP : va_P D vwCl [(a_this, .inr (4, [.null, .null, .null, .int 0, .null, .int 0, .null, .null, .int 0, .null, .int 0, .null, .null, .null, .int 0, .int 0, .null, .int 0])), (q7, .inl (k7, 106, .inl (tabU symL 82)))] H := hP
  have hD : va_D A [(a_this, .inr (4, [.null, .null, .null, .int 0, .null, .int 0, .null, .null, .int 0, .null, .int 0, .null, .null, .null, .int 0, .int 0, .null, .int 0])), (q7, .inl (k7, 106, .inl (tabU symL 82)))] := hD
  refine lv_dup hx hb d_Md_init_495 rfl ?_
  refine lv_bipush (v := 82) hx hb d_Md_init_496 (by decide) ?_
  refine lv_ldc (v := 121241) hx hb hown (hts _ mm_656) d_Md_init_498 ?_
  refine va_iast hx hb hK hP hD hS 1 0 rfl rfl (vp_in_nI (n := 82) (N := 106) (by decide) (by decide)) d_Md_init_500 (fun H locs hP hD hS => ?_)
  rw [show upd (tabU symL 82) (82 : Int32).toNatClampNeg 121241 = tabU symL 83 from tabU_s (by decide +kernel)] at hP hD
  have hP : va_P D vwCl [(a_this, .inr (4, [.null, .null, .null, .int 0, .null, .int 0, .null, .null, .int 0, .null, .int 0, .null, .null, .null, .int 0, .int 0, .null, .int 0])), (q7, .inl (k7, 106, .inl (tabU symL 83)))] H := hP
  have hD : va_D A [(a_this, .inr (4, [.null, .null, .null, .int 0, .null, .int 0, .null, .null, .int 0, .null, .int 0, .null, .null, .null, .int 0, .int 0, .null, .int 0])), (q7, .inl (k7, 106, .inl (tabU symL 83)))] := hD
  refine lv_dup hx hb d_Md_init_501 rfl ?_
  refine lv_bipush (v := 83) hx hb d_Md_init_502 (by decide) ?_
  refine lv_ldc (v := 114212) hx hb hown (hts _ mm_657) d_Md_init_504 ?_
  refine va_iast hx hb hK hP hD hS 1 0 rfl rfl (vp_in_nI (n := 83) (N := 106) (by decide) (by decide)) d_Md_init_506 (fun H locs hP hD hS => ?_)
  rw [show upd (tabU symL 83) (83 : Int32).toNatClampNeg 114212 = tabU symL 84 from tabU_s (by decide +kernel)] at hP hD
  have hP : va_P D vwCl [(a_this, .inr (4, [.null, .null, .null, .int 0, .null, .int 0, .null, .null, .int 0, .null, .int 0, .null, .null, .null, .int 0, .int 0, .null, .int 0])), (q7, .inl (k7, 106, .inl (tabU symL 84)))] H := hP
  have hD : va_D A [(a_this, .inr (4, [.null, .null, .null, .int 0, .null, .int 0, .null, .null, .int 0, .null, .int 0, .null, .null, .null, .int 0, .int 0, .null, .int 0])), (q7, .inl (k7, 106, .inl (tabU symL 84)))] := hD
  refine lv_dup hx hb d_Md_init_507 rfl ?_
  refine lv_bipush (v := 84) hx hb d_Md_init_508 (by decide) ?_
  refine lv_ldc (v := 124112) hx hb hown (hts _ mm_658) d_Md_init_510 ?_
  refine va_iast hx hb hK hP hD hS 1 0 rfl rfl (vp_in_nI (n := 84) (N := 106) (by decide) (by decide)) d_Md_init_512 (fun H locs hP hD hS => ?_)
  rw [show upd (tabU symL 84) (84 : Int32).toNatClampNeg 124112 = tabU symL 85 from tabU_s (by decide +kernel)] at hP hD
  have hP : va_P D vwCl [(a_this, .inr (4, [.null, .null, .null, .int 0, .null, .int 0, .null, .null, .int 0, .null, .int 0, .null, .null, .null, .int 0, .int 0, .null, .int 0])), (q7, .inl (k7, 106, .inl (tabU symL 85)))] H := hP
  have hD : va_D A [(a_this, .inr (4, [.null, .null, .null, .int 0, .null, .int 0, .null, .null, .int 0, .null, .int 0, .null, .null, .null, .int 0, .int 0, .null, .int 0])), (q7, .inl (k7, 106, .inl (tabU symL 85)))] := hD
  refine lv_dup hx hb d_Md_init_513 rfl ?_
  refine lv_bipush (v := 85) hx hb d_Md_init_514 (by decide) ?_
  refine lv_ldc (v := 124211) hx hb hown (hts _ mm_659) d_Md_init_516 ?_
  refine va_iast hx hb hK hP hD hS 1 0 rfl rfl (vp_in_nI (n := 85) (N := 106) (by decide) (by decide)) d_Md_init_518 (fun H locs hP hD hS => ?_)
  rw [show upd (tabU symL 85) (85 : Int32).toNatClampNeg 124211 = tabU symL 86 from tabU_s (by decide +kernel)] at hP hD
  have hP : va_P D vwCl [(a_this, .inr (4, [.null, .null, .null, .int 0, .null, .int 0, .null, .null, .int 0, .null, .int 0, .null, .null, .null, .int 0, .int 0, .null, .int 0])), (q7, .inl (k7, 106, .inl (tabU symL 86)))] H := hP
  have hD : va_D A [(a_this, .inr (4, [.null, .null, .null, .int 0, .null, .int 0, .null, .null, .int 0, .null, .int 0, .null, .null, .null, .int 0, .int 0, .null, .int 0])), (q7, .inl (k7, 106, .inl (tabU symL 86)))] := hD
  refine lv_dup hx hb d_Md_init_519 rfl ?_
  refine lv_bipush (v := 86) hx hb d_Md_init_520 (by decide) ?_
  refine lv_ldc (v := 411212) hx hb hown (hts _ mm_660) d_Md_init_522 ?_
  refine va_iast hx hb hK hP hD hS 1 0 rfl rfl (vp_in_nI (n := 86) (N := 106) (by decide) (by decide)) d_Md_init_524 (fun H locs hP hD hS => ?_)
  rw [show upd (tabU symL 86) (86 : Int32).toNatClampNeg 411212 = tabU symL 87 from tabU_s (by decide +kernel)] at hP hD
  have hP : va_P D vwCl [(a_this, .inr (4, [.null, .null, .null, .int 0, .null, .int 0, .null, .null, .int 0, .null, .int 0, .null, .null, .null, .int 0, .int 0, .null, .int 0])), (q7, .inl (k7, 106, .inl (tabU symL 87)))] H := hP
  have hD : va_D A [(a_this, .inr (4, [.null, .null, .null, .int 0, .null, .int 0, .null, .null, .int 0, .null, .int 0, .null, .null, .null, .int 0, .int 0, .null, .int 0])), (q7, .inl (k7, 106, .inl (tabU symL 87)))] := hD
  refine lv_dup hx hb d_Md_init_525 rfl ?_
  refine lv_bipush (v := 87) hx hb d_Md_init_526 (by decide) ?_
  refine lv_ldc (v := 421112) hx hb hown (hts _ mm_661) d_Md_init_528 ?_
  refine va_iast hx hb hK hP hD hS 1 0 rfl rfl (vp_in_nI (n := 87) (N := 106) (by decide) (by decide)) d_Md_init_530 (fun H locs hP hD hS => ?_)
  rw [show upd (tabU symL 87) (87 : Int32).toNatClampNeg 421112 = tabU symL 88 from tabU_s (by decide +kernel)] at hP hD
  have hP : va_P D vwCl [(a_this, .inr (4, [.null, .null, .null, .int 0, .null, .int 0, .null, .null, .int 0, .null, .int 0, .null, .null, .null, .int 0, .int 0, .null, .int 0])), (q7, .inl (k7, 106, .inl (tabU symL 88)))] H := hP
  have hD : va_D A [(a_this, .inr (4, [.null, .null, .null, .int 0, .null, .int 0, .null, .null, .int 0, .null, .int 0, .null, .null, .null, .int 0, .int 0, .null, .int 0])), (q7, .inl (k7, 106, .inl (tabU symL 88)))] := hD
  refine lv_dup hx hb d_Md_init_531 rfl ?_
  refine lv_bipush (v := 88) hx hb d_Md_init_532 (by decide) ?_
  refine lv_ldc (v := 421211) hx hb hown (hts _ mm_662) d_Md_init_534 ?_
  refine va_iast hx hb hK hP hD hS 1 0 rfl rfl (vp_in_nI (n := 88) (N := 106) (by decide) (by decide)) d_Md_init_536 (fun H locs hP hD hS => ?_)
  rw [show upd (tabU symL 88) (88 : Int32).toNatClampNeg 421211 = tabU symL 89 from tabU_s (by decide +kernel)] at hP hD
  have hP : va_P D vwCl [(a_this, .inr (4, [.null, .null, .null, .int 0, .null, .int 0, .null, .null, .int 0, .null, .int 0, .null, .null, .null, .int 0, .int 0, .null, .int 0])), (q7, .inl (k7, 106, .inl (tabU symL 89)))] H := hP
  have hD : va_D A [(a_this, .inr (4, [.null, .null, .null, .int 0, .null, .int 0, .null, .null, .int 0, .null, .int 0, .null, .null, .null, .int 0, .int 0, .null, .int 0])), (q7, .inl (k7, 106, .inl (tabU symL 89)))] := hD
  refine lv_dup hx hb d_Md_init_537 rfl ?_
  refine lv_bipush (v := 89) hx hb d_Md_init_538 (by decide) ?_
  refine lv_ldc (v := 212141) hx hb hown (hts _ mm_663) d_Md_init_540 ?_
  refine va_iast hx hb hK hP hD hS 1 0 rfl rfl (vp_in_nI (n := 89) (N := 106) (by decide) (by decide)) d_Md_init_542 (fun H locs hP hD hS => ?_)
  rw [show upd (tabU symL 89) (89 : Int32).toNatClampNeg 212141 = tabU symL 90 from tabU_s (by decide +kernel)] at hP hD
  have hP : va_P D vwCl [(a_this, .inr (4, [.null, .null, .null, .int 0, .null, .int 0, .null, .null, .int 0, .null, .int 0, .null, .null, .null, .int 0, .int 0, .null, .int 0])), (q7, .inl (k7, 106, .inl (tabU symL 90)))] H := hP
  have hD : va_D A [(a_this, .inr (4, [.null, .null, .null, .int 0, .null, .int 0, .null, .null, .int 0, .null, .int 0, .null, .null, .null, .int 0, .int 0, .null, .int 0])), (q7, .inl (k7, 106, .inl (tabU symL 90)))] := hD
  refine lv_dup hx hb d_Md_init_543 rfl ?_
  refine lv_bipush (v := 90) hx hb d_Md_init_544 (by decide) ?_
  refine lv_ldc (v := 214121) hx hb hown (hts _ mm_664) d_Md_init_546 ?_
  refine va_iast hx hb hK hP hD hS 1 0 rfl rfl (vp_in_nI (n := 90) (N := 106) (by decide) (by decide)) d_Md_init_548 (fun H locs hP hD hS => ?_)
  rw [show upd (tabU symL 90) (90 : Int32).toNatClampNeg 214121 = tabU symL 91 from tabU_s (by decide +kernel)] at hP hD
  have hP : va_P D vwCl [(a_this, .inr (4, [.null, .null, .null, .int 0, .null, .int 0, .null, .null, .int 0, .null, .int 0, .null, .null, .null, .int 0, .int 0, .null, .int 0])), (q7, .inl (k7, 106, .inl (tabU symL 91)))] H := hP
  have hD : va_D A [(a_this, .inr (4, [.null, .null, .null, .int 0, .null, .int 0, .null, .null, .int 0, .null, .int 0, .null, .null, .null, .int 0, .int 0, .null, .int 0])), (q7, .inl (k7, 106, .inl (tabU symL 91)))] := hD
  refine lv_dup hx hb d_Md_init_549 rfl ?_
  refine lv_bipush (v := 91) hx hb d_Md_init_550 (by decide) ?_
  refine lv_ldc (v := 412121) hx hb hown (hts _ mm_665) d_Md_init_552 ?_
  refine va_iast hx hb hK hP hD hS 1 0 rfl rfl (vp_in_nI (n := 91) (N := 106) (by decide) (by decide)) d_Md_init_554 (fun H locs hP hD hS => ?_)
  rw [show upd (tabU symL 91) (91 : Int32).toNatClampNeg 412121 = tabU symL 92 from tabU_s (by decide +kernel)] at hP hD
  have hP : va_P D vwCl [(a_this, .inr (4, [.null, .null, .null, .int 0, .null, .int 0, .null, .null, .int 0, .null, .int 0, .null, .null, .null, .int 0, .int 0, .null, .int 0])), (q7, .inl (k7, 106, .inl (tabU symL 92)))] H := hP
  have hD : va_D A [(a_this, .inr (4, [.null, .null, .null, .int 0, .null, .int 0, .null, .null, .int 0, .null, .int 0, .null, .null, .null, .int 0, .int 0, .null, .int 0])), (q7, .inl (k7, 106, .inl (tabU symL 92)))] := hD
  refine lv_dup hx hb d_Md_init_555 rfl ?_
  refine lv_bipush (v := 92) hx hb d_Md_init_556 (by decide) ?_
  refine lv_ldc (v := 111143) hx hb hown (hts _ mm_666) d_Md_init_558 ?_
  refine va_iast hx hb hK hP hD hS 1 0 rfl rfl (vp_in_nI (n := 92) (N := 106) (by decide) (by decide)) d_Md_init_560 (fun H locs hP hD hS => ?_)
  rw [show upd (tabU symL 92) (92 : Int32).toNatClampNeg 111143 = tabU symL 93 from tabU_s (by decide +kernel)] at hP hD
  have hP : va_P D vwCl [(a_this, .inr (4, [.null, .null, .null, .int 0, .null, .int 0, .null, .null, .int 0, .null, .int 0, .null, .null, .null, .int 0, .int 0, .null, .int 0])), (q7, .inl (k7, 106, .inl (tabU symL 93)))] H := hP
  have hD : va_D A [(a_this, .inr (4, [.null, .null, .null, .int 0, .null, .int 0, .null, .null, .int 0, .null, .int 0, .null, .null, .null, .int 0, .int 0, .null, .int 0])), (q7, .inl (k7, 106, .inl (tabU symL 93)))] := hD
  refine lv_dup hx hb d_Md_init_561 rfl ?_
  refine lv_bipush (v := 93) hx hb d_Md_init_562 (by decide) ?_
  refine lv_ldc (v := 111341) hx hb hown (hts _ mm_667) d_Md_init_564 ?_
  refine va_iast hx hb hK hP hD hS 1 0 rfl rfl (vp_in_nI (n := 93) (N := 106) (by decide) (by decide)) d_Md_init_566 (fun H locs hP hD hS => ?_)
  rw [show upd (tabU symL 93) (93 : Int32).toNatClampNeg 111341 = tabU symL 94 from tabU_s (by decide +kernel)] at hP hD
  have hP : va_P D vwCl [(a_this, .inr (4, [.null, .null, .null, .int 0, .null, .int 0, .null, .null, .int 0, .null, .int 0, .null, .null, .null, .int 0, .int 0, .null, .int 0])), (q7, .inl (k7, 106, .inl (tabU symL 94)))] H := hP
  have hD : va_D A [(a_this, .inr (4, [.null, .null, .null, .int 0, .null, .int 0, .null, .null, .int 0, .null, .int 0, .null, .null, .null, .int 0, .int 0, .null, .int 0])), (q7, .inl (k7, 106, .inl (tabU symL 94)))] := hD
  refine lv_dup hx hb d_Md_init_567 rfl ?_
  refine lv_bipush (v := 94) hx hb d_Md_init_568 (by decide) ?_
  refine lv_ldc (v := 131141) hx hb hown (hts _ mm_668) d_Md_init_570 ?_
  refine va_iast hx hb hK hP hD hS 1 0 rfl rfl (vp_in_nI (n := 94) (N := 106) (by decide) (by decide)) d_Md_init_572 (fun H locs hP hD hS => ?_)
  rw [show upd (tabU symL 94) (94 : Int32).toNatClampNeg 131141 = tabU symL 95 from tabU_s (by decide +kernel)] at hP hD
  have hP : va_P D vwCl [(a_this, .inr (4, [.null, .null, .null, .int 0, .null, .int 0, .null, .null, .int 0, .null, .int 0, .null, .null, .null, .int 0, .int 0, .null, .int 0])), (q7, .inl (k7, 106, .inl (tabU symL 95)))] H := hP
  have hD : va_D A [(a_this, .inr (4, [.null, .null, .null, .int 0, .null, .int 0, .null, .null, .int 0, .null, .int 0, .null, .null, .null, .int 0, .int 0, .null, .int 0])), (q7, .inl (k7, 106, .inl (tabU symL 95)))] := hD
  refine lv_dup hx hb d_Md_init_573 rfl ?_
  refine lv_bipush (v := 95) hx hb d_Md_init_574 (by decide) ?_
  refine lv_ldc (v := 114113) hx hb hown (hts _ mm_669) d_Md_init_576 ?_
  refine va_iast hx hb hK hP hD hS 1 0 rfl rfl (vp_in_nI (n := 95) (N := 106) (by decide) (by decide)) d_Md_init_578 (fun H locs hP hD hS => ?_)
  rw [show upd (tabU symL 95) (95 : Int32).toNatClampNeg 114113 = tabU symL 96 from tabU_s (by decide +kernel)] at hP hD
  have hP : va_P D vwCl [(a_this, .inr (4, [.null, .null, .null, .int 0, .null, .int 0, .null, .null, .int 0, .null, .int 0, .null, .null, .null, .int 0, .int 0, .null, .int 0])), (q7, .inl (k7, 106, .inl (tabU symL 96)))] H := hP
  have hD : va_D A [(a_this, .inr (4, [.null, .null, .null, .int 0, .null, .int 0, .null, .null, .int 0, .null, .int 0, .null, .null, .null, .int 0, .int 0, .null, .int 0])), (q7, .inl (k7, 106, .inl (tabU symL 96)))] := hD
  refine lv_dup hx hb d_Md_init_579 rfl ?_
  refine lv_bipush (v := 96) hx hb d_Md_init_580 (by decide) ?_
  refine lv_ldc (v := 114311) hx hb hown (hts _ mm_670) d_Md_init_582 ?_
  refine va_iast hx hb hK hP hD hS 1 0 rfl rfl (vp_in_nI (n := 96) (N := 106) (by decide) (by decide)) d_Md_init_584 (fun H locs hP hD hS => ?_)
  rw [show upd (tabU symL 96) (96 : Int32).toNatClampNeg 114311 = tabU symL 97 from tabU_s (by decide +kernel)] at hP hD
  have hP : va_P D vwCl [(a_this, .inr (4, [.null, .null, .null, .int 0, .null, .int 0, .null, .null, .int 0, .null, .int 0, .null, .null, .null, .int 0, .int 0, .null, .int 0])), (q7, .inl (k7, 106, .inl (tabU symL 97)))] H := hP
  have hD : va_D A [(a_this, .inr (4, [.null, .null, .null, .int 0, .null, .int 0, .null, .null, .int 0, .null, .int 0, .null, .null, .null, .int 0, .int 0, .null, .int 0])), (q7, .inl (k7, 106, .inl (tabU symL 97)))] := hD
  refine lv_dup hx hb d_Md_init_585 rfl ?_
  refine lv_bipush (v := 97) hx hb d_Md_init_586 (by decide) ?_
  refine lv_ldc (v := 411113) hx hb hown (hts _ mm_671) d_Md_init_588 ?_
  refine va_iast hx hb hK hP hD hS 1 0 rfl rfl (vp_in_nI (n := 97) (N := 106) (by decide) (by decide)) d_Md_init_590 (fun H locs hP hD hS => ?_)
  rw [show upd (tabU symL 97) (97 : Int32).toNatClampNeg 411113 = tabU symL 98 from tabU_s (by decide +kernel)] at hP hD
  have hP : va_P D vwCl [(a_this, .inr (4, [.null, .null, .null, .int 0, .null, .int 0, .null, .null, .int 0, .null, .int 0, .null, .null, .null, .int 0, .int 0, .null, .int 0])), (q7, .inl (k7, 106, .inl (tabU symL 98)))] H := hP
  have hD : va_D A [(a_this, .inr (4, [.null, .null, .null, .int 0, .null, .int 0, .null, .null, .int 0, .null, .int 0, .null, .null, .null, .int 0, .int 0, .null, .int 0])), (q7, .inl (k7, 106, .inl (tabU symL 98)))] := hD
  refine lv_dup hx hb d_Md_init_591 rfl ?_
  refine lv_bipush (v := 98) hx hb d_Md_init_592 (by decide) ?_
  refine lv_ldc (v := 411311) hx hb hown (hts _ mm_672) d_Md_init_594 ?_
  refine va_iast hx hb hK hP hD hS 1 0 rfl rfl (vp_in_nI (n := 98) (N := 106) (by decide) (by decide)) d_Md_init_596 (fun H locs hP hD hS => ?_)
  rw [show upd (tabU symL 98) (98 : Int32).toNatClampNeg 411311 = tabU symL 99 from tabU_s (by decide +kernel)] at hP hD
  have hP : va_P D vwCl [(a_this, .inr (4, [.null, .null, .null, .int 0, .null, .int 0, .null, .null, .int 0, .null, .int 0, .null, .null, .null, .int 0, .int 0, .null, .int 0])), (q7, .inl (k7, 106, .inl (tabU symL 99)))] H := hP
  have hD : va_D A [(a_this, .inr (4, [.null, .null, .null, .int 0, .null, .int 0, .null, .null, .int 0, .null, .int 0, .null, .null, .null, .int 0, .int 0, .null, .int 0])), (q7, .inl (k7, 106, .inl (tabU symL 99)))] := hD
  refine lv_dup hx hb d_Md_init_597 rfl ?_
  refine lv_bipush (v := 99) hx hb d_Md_init_598 (by decide) ?_
  refine lv_ldc (v := 113141) hx hb hown (hts _ mm_673) d_Md_init_600 ?_
  refine va_iast hx hb hK hP hD hS 1 0 rfl rfl (vp_in_nI (n := 99) (N := 106) (by decide) (by decide)) d_Md_init_602 (fun H locs hP hD hS => ?_)
  rw [show upd (tabU symL 99) (99 : Int32).toNatClampNeg 113141 = tabU symL 100 from tabU_s (by decide +kernel)] at hP hD
  have hP : va_P D vwCl [(a_this, .inr (4, [.null, .null, .null, .int 0, .null, .int 0, .null, .null, .int 0, .null, .int 0, .null, .null, .null, .int 0, .int 0, .null, .int 0])), (q7, .inl (k7, 106, .inl (tabU symL 100)))] H := hP
  have hD : va_D A [(a_this, .inr (4, [.null, .null, .null, .int 0, .null, .int 0, .null, .null, .int 0, .null, .int 0, .null, .null, .null, .int 0, .int 0, .null, .int 0])), (q7, .inl (k7, 106, .inl (tabU symL 100)))] := hD
  refine lv_dup hx hb d_Md_init_603 rfl ?_
  refine lv_bipush (v := 100) hx hb d_Md_init_604 (by decide) ?_
  refine lv_ldc (v := 114131) hx hb hown (hts _ mm_674) d_Md_init_606 ?_
  refine va_iast hx hb hK hP hD hS 1 0 rfl rfl (vp_in_nI (n := 100) (N := 106) (by decide) (by decide)) d_Md_init_608 (fun H locs hP hD hS => ?_)
  rw [show upd (tabU symL 100) (100 : Int32).toNatClampNeg 114131 = tabU symL 101 from tabU_s (by decide +kernel)] at hP hD
  have hP : va_P D vwCl [(a_this, .inr (4, [.null, .null, .null, .int 0, .null, .int 0, .null, .null, .int 0, .null, .int 0, .null, .null, .null, .int 0, .int 0, .null, .int 0])), (q7, .inl (k7, 106, .inl (tabU symL 101)))] H := hP
  have hD : va_D A [(a_this, .inr (4, [.null, .null, .null, .int 0, .null, .int 0, .null, .null, .int 0, .null, .int 0, .null, .null, .null, .int 0, .int 0, .null, .int 0])), (q7, .inl (k7, 106, .inl (tabU symL 101)))] := hD
  refine lv_dup hx hb d_Md_init_609 rfl ?_
  refine lv_bipush (v := 101) hx hb d_Md_init_610 (by decide) ?_
  refine lv_ldc (v := 311141) hx hb hown (hts _ mm_675) d_Md_init_612 ?_
  refine va_iast hx hb hK hP hD hS 1 0 rfl rfl (vp_in_nI (n := 101) (N := 106) (by decide) (by decide)) d_Md_init_614 (fun H locs hP hD hS => ?_)
  rw [show upd (tabU symL 101) (101 : Int32).toNatClampNeg 311141 = tabU symL 102 from tabU_s (by decide +kernel)] at hP hD
  have hP : va_P D vwCl [(a_this, .inr (4, [.null, .null, .null, .int 0, .null, .int 0, .null, .null, .int 0, .null, .int 0, .null, .null, .null, .int 0, .int 0, .null, .int 0])), (q7, .inl (k7, 106, .inl (tabU symL 102)))] H := hP
  have hD : va_D A [(a_this, .inr (4, [.null, .null, .null, .int 0, .null, .int 0, .null, .null, .int 0, .null, .int 0, .null, .null, .null, .int 0, .int 0, .null, .int 0])), (q7, .inl (k7, 106, .inl (tabU symL 102)))] := hD
  refine lv_dup hx hb d_Md_init_615 rfl ?_
  refine lv_bipush (v := 102) hx hb d_Md_init_616 (by decide) ?_
  refine lv_ldc (v := 411131) hx hb hown (hts _ mm_676) d_Md_init_618 ?_
  refine va_iast hx hb hK hP hD hS 1 0 rfl rfl (vp_in_nI (n := 102) (N := 106) (by decide) (by decide)) d_Md_init_620 (fun H locs hP hD hS => ?_)
  rw [show upd (tabU symL 102) (102 : Int32).toNatClampNeg 411131 = tabU symL 103 from tabU_s (by decide +kernel)] at hP hD
  have hP : va_P D vwCl [(a_this, .inr (4, [.null, .null, .null, .int 0, .null, .int 0, .null, .null, .int 0, .null, .int 0, .null, .null, .null, .int 0, .int 0, .null, .int 0])), (q7, .inl (k7, 106, .inl (tabU symL 103)))] H := hP
  have hD : va_D A [(a_this, .inr (4, [.null, .null, .null, .int 0, .null, .int 0, .null, .null, .int 0, .null, .int 0, .null, .null, .null, .int 0, .int 0, .null, .int 0])), (q7, .inl (k7, 106, .inl (tabU symL 103)))] := hD
  refine lv_dup hx hb d_Md_init_621 rfl ?_
  refine lv_bipush (v := 103) hx hb d_Md_init_622 (by decide) ?_
  refine lv_ldc (v := 211412) hx hb hown (hts _ mm_677) d_Md_init_624 ?_
  refine va_iast hx hb hK hP hD hS 1 0 rfl rfl (vp_in_nI (n := 103) (N := 106) (by decide) (by decide)) d_Md_init_626 (fun H locs hP hD hS => ?_)
  rw [show upd (tabU symL 103) (103 : Int32).toNatClampNeg 211412 = tabU symL 104 from tabU_s (by decide +kernel)] at hP hD
  have hP : va_P D vwCl [(a_this, .inr (4, [.null, .null, .null, .int 0, .null, .int 0, .null, .null, .int 0, .null, .int 0, .null, .null, .null, .int 0, .int 0, .null, .int 0])), (q7, .inl (k7, 106, .inl (tabU symL 104)))] H := hP
  have hD : va_D A [(a_this, .inr (4, [.null, .null, .null, .int 0, .null, .int 0, .null, .null, .int 0, .null, .int 0, .null, .null, .null, .int 0, .int 0, .null, .int 0])), (q7, .inl (k7, 106, .inl (tabU symL 104)))] := hD
  refine lv_dup hx hb d_Md_init_627 rfl ?_
  refine lv_bipush (v := 104) hx hb d_Md_init_628 (by decide) ?_
  refine lv_ldc (v := 211214) hx hb hown (hts _ mm_678) d_Md_init_630 ?_
  refine va_iast hx hb hK hP hD hS 1 0 rfl rfl (vp_in_nI (n := 104) (N := 106) (by decide) (by decide)) d_Md_init_632 (fun H locs hP hD hS => ?_)
  rw [show upd (tabU symL 104) (104 : Int32).toNatClampNeg 211214 = tabU symL 105 from tabU_s (by decide +kernel)] at hP hD
  have hP : va_P D vwCl [(a_this, .inr (4, [.null, .null, .null, .int 0, .null, .int 0, .null, .null, .int 0, .null, .int 0, .null, .null, .null, .int 0, .int 0, .null, .int 0])), (q7, .inl (k7, 106, .inl (tabU symL 105)))] H := hP
  have hD : va_D A [(a_this, .inr (4, [.null, .null, .null, .int 0, .null, .int 0, .null, .null, .int 0, .null, .int 0, .null, .null, .null, .int 0, .int 0, .null, .int 0])), (q7, .inl (k7, 106, .inl (tabU symL 105)))] := hD
  refine lv_dup hx hb d_Md_init_633 rfl ?_
  refine lv_bipush (v := 105) hx hb d_Md_init_634 (by decide) ?_
  refine lv_ldc (v := 211232) hx hb hown (hts _ mm_679) d_Md_init_636 ?_
  refine va_iast hx hb hK hP hD hS 1 0 rfl rfl (vp_in_nI (n := 105) (N := 106) (by decide) (by decide)) d_Md_init_638 (fun H locs hP hD hS => ?_)
  rw [show upd (tabU symL 105) (105 : Int32).toNatClampNeg 211232 = tabU symL 106 from tabU_s (by decide +kernel)] at hP hD
  have hP : va_P D vwCl [(a_this, .inr (4, [.null, .null, .null, .int 0, .null, .int 0, .null, .null, .int 0, .null, .int 0, .null, .null, .null, .int 0, .int 0, .null, .int 0])), (q7, .inl (k7, 106, .inl (tabU symL 106)))] H := hP
  have hD : va_D A [(a_this, .inr (4, [.null, .null, .null, .int 0, .null, .int 0, .null, .null, .int 0, .null, .int 0, .null, .null, .null, .int 0, .int 0, .null, .int 0])), (q7, .inl (k7, 106, .inl (tabU symL 106)))] := hD
  refine va_putF (D := D) (ci := 4) (v := .ref q7) (ty := .array .int) (C := R_Md) (T := T_Md) (N := 18) hx hb hts in_Md ty_Md tk_Md nn_Md hown hK hP hD hS 0 rfl rfl 0 (by decide) (hts _ mm_680) (fun _ h9 => h9) rfl hin rfl (by decide +kernel) rfl rfl (Nat.le_of_ble_eq_true rfl) d_Md_init_639 (fun H locs hP hD hS => ?_)
  have hP : va_P D vwCl [(a_this, .inr (4, [.ref q7, .null, .null, .int 0, .null, .int 0, .null, .null, .int 0, .null, .int 0, .null, .null, .null, .int 0, .int 0, .null, .int 0])), (q7, .inl (k7, 106, .inl (tabU symL 106)))] H := hP
  have hD : va_D A [(a_this, .inr (4, [.ref q7, .null, .null, .int 0, .null, .int 0, .null, .null, .int 0, .null, .int 0, .null, .null, .null, .int 0, .int 0, .null, .int 0])), (q7, .inl (k7, 106, .inl (tabU symL 106)))] := hD
  refine lv_aload_n hx hb d_Md_init_642 rfl (lv_at hl 0 rfl) ?_
  refine lv_bipush (v := 10) hx hb d_Md_init_643 (by decide) ?_
  refine va_newa (atype := .int) (ty := .int) (a0 := (10, .inl fun _ => 0)) hx hb (hts _ mm_80) rfl hK hP hD hS hA (fun _ => rfl) (by decide) (by decide) (by decide) (Nat.le_of_ble_eq_true rfl) (Nat.le_of_ble_eq_true rfl) d_Md_init_645 (fun q645 k645 H hK hP hD hS => ?_)
  have hP : va_P D vwCl [(a_this, .inr (4, [.ref q7, .null, .null, .int 0, .null, .int 0, .null, .null, .int 0, .null, .int 0, .null, .null, .null, .int 0, .int 0, .null, .int 0])), (q7, .inl (k7, 106, .inl (tabU symL 106))), (q645, .inl (k645, 10, .inl (fun _ => 0)))] H := hP
  have hD : va_D A [(a_this, .inr (4, [.ref q7, .null, .null, .int 0, .null, .int 0, .null, .null, .int 0, .null, .int 0, .null, .null, .null, .int 0, .int 0, .null, .int 0])), (q7, .inl (k7, 106, .inl (tabU symL 106))), (q645, .inl (k645, 10, .inl (fun _ => 0)))] := hD
  have hK : va_K D vwCl [(k7, .int), (k645, .int)] s := hK
  refine W.widen (k := 2) (n := 116) (by decide) (by decide) ?_
  refine lv_dup hx hb d_Md_init_647 rfl ?_
  refine lv_iconst (v := 0) hx hb d_Md_init_648 (by decide) ?_
  refine lv_sipush (v := 3211) hx hb d_Md_init_649 (by decide) ?_
  refine va_iast hx hb hK hP hD hS 2 1 rfl rfl (vp_in_nI (n := 0) (N := 10) (by decide) (by decide)) d_Md_init_652 (fun H locs hP hD hS => ?_)
  rw [show upd (fun _ => 0) (0 : Int32).toNatClampNeg 3211 = tabU figL 1 from tabU_0 (by decide +kernel)] at hP hD
  have hP : va_P D vwCl [(a_this, .inr (4, [.ref q7, .null, .null, .int 0, .null, .int 0, .null, .null, .int 0, .null, .int 0, .null, .null, .null, .int 0, .int 0, .null, .int 0])), (q7, .inl (k7, 106, .inl (tabU symL 106))), (q645, .inl (k645, 10, .inl (tabU figL 1)))] H := hP
  have hD : va_D A [(a_this, .inr (4, [.ref q7, .null, .null, .int 0, .null, .int 0, .null, .null, .int 0, .null, .int 0, .null, .null, .null, .int 0, .int 0, .null, .int 0])), (q7, .inl (k7, 106, .inl (tabU symL 106))), (q645, .inl (k645, 10, .inl (tabU figL 1)))] := hD
  refine lv_dup hx hb d_Md_init_653 rfl ?_
  refine lv_iconst (v := 1) hx hb d_Md_init_654 (by decide) ?_
  refine lv_sipush (v := 2221) hx hb d_Md_init_655 (by decide) ?_
  refine va_iast hx hb hK hP hD hS 2 1 rfl rfl (vp_in_nI (n := 1) (N := 10) (by decide) (by decide)) d_Md_init_658 (fun H locs hP hD hS => ?_)
  rw [show upd (tabU figL 1) (1 : Int32).toNatClampNeg 2221 = tabU figL 2 from tabU_s (by decide +kernel)] at hP hD
  have hP : va_P D vwCl [(a_this, .inr (4, [.ref q7, .null, .null, .int 0, .null, .int 0, .null, .null, .int 0, .null, .int 0, .null, .null, .null, .int 0, .int 0, .null, .int 0])), (q7, .inl (k7, 106, .inl (tabU symL 106))), (q645, .inl (k645, 10, .inl (tabU figL 2)))] H := hP
  have hD : va_D A [(a_this, .inr (4, [.ref q7, .null, .null, .int 0, .null, .int 0, .null, .null, .int 0, .null, .int 0, .null, .null, .null, .int 0, .int 0, .null, .int 0])), (q7, .inl (k7, 106, .inl (tabU symL 106))), (q645, .inl (k645, 10, .inl (tabU figL 2)))] := hD
  refine lv_dup hx hb d_Md_init_659 rfl ?_
  refine lv_iconst (v := 2) hx hb d_Md_init_660 (by decide) ?_
  refine lv_sipush (v := 2122) hx hb d_Md_init_661 (by decide) ?_
  refine va_iast hx hb hK hP hD hS 2 1 rfl rfl (vp_in_nI (n := 2) (N := 10) (by decide) (by decide)) d_Md_init_664 (fun H locs hP hD hS => ?_)
  rw [show upd (tabU figL 2) (2 : Int32).toNatClampNeg 2122 = tabU figL 3 from tabU_s (by decide +kernel)] at hP hD
  have hP : va_P D vwCl [(a_this, .inr (4, [.ref q7, .null, .null, .int 0, .null, .int 0, .null, .null, .int 0, .null, .int 0, .null, .null, .null, .int 0, .int 0, .null, .int 0])), (q7, .inl (k7, 106, .inl (tabU symL 106))), (q645, .inl (k645, 10, .inl (tabU figL 3)))] H := hP
  have hD : va_D A [(a_this, .inr (4, [.ref q7, .null, .null, .int 0, .null, .int 0, .null, .null, .int 0, .null, .int 0, .null, .null, .null, .int 0, .int 0, .null, .int 0])), (q7, .inl (k7, 106, .inl (tabU symL 106))), (q645, .inl (k645, 10, .inl (tabU figL 3)))] := hD
  refine lv_dup hx hb d_Md_init_665 rfl ?_
  refine lv_iconst (v := 3) hx hb d_Md_init_666 (by decide) ?_
  refine lv_sipush (v := 1411) hx hb d_Md_init_667 (by decide) ?_
  refine va_iast hx hb hK hP hD hS 2 1 rfl rfl (vp_in_nI (n := 3) (N := 10) (by decide) (by decide)) d_Md_init_670 (fun H locs hP hD hS => ?_)
  rw [show upd (tabU figL 3) (3 : Int32).toNatClampNeg 1411 = tabU figL 4 from tabU_s (by decide +kernel)] at hP hD
  have hP : va_P D vwCl [(a_this, .inr (4, [.ref q7, .null, .null, .int 0, .null, .int 0, .null, .null, .int 0, .null, .int 0, .null, .null, .null, .int 0, .int 0, .null, .int 0])), (q7, .inl (k7, 106, .inl (tabU symL 106))), (q645, .inl (k645, 10, .inl (tabU figL 4)))] H := hP
  have hD : va_D A [(a_this, .inr (4, [.ref q7, .null, .null, .int 0, .null, .int 0, .null, .null, .int 0, .null, .int 0, .null, .null, .null, .int 0, .int 0, .null, .int 0])), (q7, .inl (k7, 106, .inl (tabU symL 106))), (q645, .inl (k645, 10, .inl (tabU figL 4)))] := hD
  refine lv_dup hx hb d_Md_init_671 rfl ?_
  refine lv_iconst (v := 4) hx hb d_Md_init_672 (by decide) ?_
  refine lv_sipush (v := 1132) hx hb d_Md_init_673 (by decide) ?_
  refine va_iast hx hb hK hP hD hS 2 1 rfl rfl (vp_in_nI (n := 4) (N := 10) (by decide) (by decide)) d_Md_init_676 (fun H locs hP hD hS => ?_)
  rw [show upd (tabU figL 4) (4 : Int32).toNatClampNeg 1132 = tabU figL 5 from tabU_s (by decide +kernel)] at hP hD
  have hP : va_P D vwCl [(a_this, .inr (4, [.ref q7, .null, .null, .int 0, .null, .int 0, .null, .null, .int 0, .null, .int 0, .null, .null, .null, .int 0, .int 0, .null, .int 0])), (q7, .inl (k7, 106, .inl (tabU symL 106))), (q645, .inl (k645, 10, .inl (tabU figL 5)))] H := hP
  have hD : va_D A [(a_this, .inr (4, [.ref q7, .null, .null, .int 0, .null, .int 0, .null, .null, .int 0, .null, .int 0, .null, .null, .null, .int 0, .int 0, .null, .int 0])), (q7, .inl (k7, 106, .inl (tabU symL 106))), (q645, .inl (k645, 10, .inl (tabU figL 5)))] := hD
  refine lv_dup hx hb d_Md_init_677 rfl ?_
  refine lv_iconst (v := 5) hx hb d_Md_init_678 (by decide) ?_
  refine lv_sipush (v := 1231) hx hb d_Md_init_679 (by decide) ?_
  refine va_iast hx hb hK hP hD hS 2 1 rfl rfl (vp_in_nI (n := 5) (N := 10) (by decide) (by decide)) d_Md_init_682 (fun H locs hP hD hS => ?_)
  rw [show upd (tabU figL 5) (5 : Int32).toNatClampNeg 1231 = tabU figL 6 from tabU_s (by decide +kernel)] at hP hD
  have hP : va_P D vwCl [(a_this, .inr (4, [.ref q7, .null, .null, .int 0, .null, .int 0, .null, .null, .int 0, .null, .int 0, .null, .null, .null, .int 0, .int 0, .null, .int 0])), (q7, .inl (k7, 106, .inl (tabU symL 106))), (q645, .inl (k645, 10, .inl (tabU figL 6)))] H := hP
  have hD : va_D A [(a_this, .inr (4, [.ref q7, .null, .null, .int 0, .null, .int 0, .null, .null, .int 0, .null, .int 0, .null, .null, .null, .int 0, .int 0, .null, .int 0])), (q7, .inl (k7, 106, .inl (tabU symL 106))), (q645, .inl (k645, 10, .inl (tabU figL 6)))] := hD
  refine lv_dup hx hb d_Md_init_683 rfl ?_
  refine lv_bipush (v := 6) hx hb d_Md_init_684 (by decide) ?_
  refine lv_sipush (v := 1114) hx hb d_Md_init_686 (by decide) ?_
  refine va_iast hx hb hK hP hD hS 2 1 rfl rfl (vp_in_nI (n := 6) (N := 10) (by decide) (by decide)) d_Md_init_689 (fun H locs hP hD hS => ?_)
  rw [show upd (tabU figL 6) (6 : Int32).toNatClampNeg 1114 = tabU figL 7 from tabU_s (by decide +kernel)] at hP hD
  have hP : va_P D vwCl [(a_this, .inr (4, [.ref q7, .null, .null, .int 0, .null, .int 0, .null, .null, .int 0, .null, .int 0, .null, .null, .null, .int 0, .int 0, .null, .int 0])), (q7, .inl (k7, 106, .inl (tabU symL 106))), (q645, .inl (k645, 10, .inl (tabU figL 7)))] H := hP
  have hD : va_D A [(a_this, .inr (4, [.ref q7, .null, .null, .int 0, .null, .int 0, .null, .null, .int 0, .null, .int 0, .null, .null, .null, .int 0, .int 0, .null, .int 0])), (q7, .inl (k7, 106, .inl (tabU symL 106))), (q645, .inl (k645, 10, .inl (tabU figL 7)))] := hD
  refine lv_dup hx hb d_Md_init_690 rfl ?_
  refine lv_bipush (v := 7) hx hb d_Md_init_691 (by decide) ?_
  refine lv_sipush (v := 1312) hx hb d_Md_init_693 (by decide) ?_
  refine va_iast hx hb hK hP hD hS 2 1 rfl rfl (vp_in_nI (n := 7) (N := 10) (by decide) (by decide)) d_Md_init_696 (fun H locs hP hD hS => ?_)
  rw [show upd (tabU figL 7) (7 : Int32).toNatClampNeg 1312 = tabU figL 8 from tabU_s (by decide +kernel)] at hP hD
  have hP : va_P D vwCl [(a_this, .inr (4, [.ref q7, .null, .null, .int 0, .null, .int 0, .null, .null, .int 0, .null, .int 0, .null, .null, .null, .int 0, .int 0, .null, .int 0])), (q7, .inl (k7, 106, .inl (tabU symL 106))), (q645, .inl (k645, 10, .inl (tabU figL 8)))] H := hP
  have hD : va_D A [(a_this, .inr (4, [.ref q7, .null, .null, .int 0, .null, .int 0, .null, .null, .int 0, .null, .int 0, .null, .null, .null, .int 0, .int 0, .null, .int 0])), (q7, .inl (k7, 106, .inl (tabU symL 106))), (q645, .inl (k645, 10, .inl (tabU figL 8)))] := hD
  refine lv_dup hx hb d_Md_init_697 rfl ?_
  refine lv_bipush (v := 8) hx hb d_Md_init_698 (by decide) ?_
  refine lv_sipush (v := 1213) hx hb d_Md_init_700 (by decide) ?_
  refine va_iast hx hb hK hP hD hS 2 1 rfl rfl (vp_in_nI (n := 8) (N := 10) (by decide) (by decide)) d_Md_init_703 (fun H locs hP hD hS => ?_)
  rw [show upd (tabU figL 8) (8 : Int32).toNatClampNeg 1213 = tabU figL 9 from tabU_s (by decide +kernel)] at hP hD
  have hP : va_P D vwCl [(a_this, .inr (4, [.ref q7, .null, .null, .int 0, .null, .int 0, .null, .null, .int 0, .null, .int 0, .null, .null, .null, .int 0, .int 0, .null, .int 0])), (q7, .inl (k7, 106, .inl (tabU symL 106))), (q645, .inl (k645, 10, .inl (tabU figL 9)))] H := hP
  have hD : va_D A [(a_this, .inr (4, [.ref q7, .null, .null, .int 0, .null, .int 0, .null, .null, .int 0, .null, .int 0, .null, .null, .null, .int 0, .int 0, .null, .int 0])), (q7, .inl (k7, 106, .inl (tabU symL 106))), (q645, .inl (k645, 10, .inl (tabU figL 9)))] := hD
  refine lv_dup hx hb d_Md_init_704 rfl ?_
  refine lv_bipush (v := 9) hx hb d_Md_init_705 (by decide) ?_
  refine lv_sipush (v := 3112) hx hb d_Md_init_707 (by decide) ?_
  refine va_iast hx hb hK hP hD hS 2 1 rfl rfl (vp_in_nI (n := 9) (N := 10) (by decide) (by decide)) d_Md_init_710 (fun H locs hP hD hS => ?_)
  rw [show upd (tabU figL 9) (9 : Int32).toNatClampNeg 3112 = tabU figL 10 from tabU_s (by decide +kernel)] at hP hD
  have hP : va_P D vwCl [(a_this, .inr (4, [.ref q7, .null, .null, .int 0, .null, .int 0, .null, .null, .int 0, .null, .int 0, .null, .null, .null, .int 0, .int 0, .null, .int 0])), (q7, .inl (k7, 106, .inl (tabU symL 106))), (q645, .inl (k645, 10, .inl (tabU figL 10)))] H := hP
  have hD : va_D A [(a_this, .inr (4, [.ref q7, .null, .null, .int 0, .null, .int 0, .null, .null, .int 0, .null, .int 0, .null, .null, .null, .int 0, .int 0, .null, .int 0])), (q7, .inl (k7, 106, .inl (tabU symL 106))), (q645, .inl (k645, 10, .inl (tabU figL 10)))] := hD
  refine va_putF (D := D) (ci := 4) (v := .ref q645) (ty := .array .int) (C := R_Md) (T := T_Md) (N := 18) hx hb hts in_Md ty_Md tk_Md nn_Md hown hK hP hD hS 0 rfl rfl 1 (by decide) (hts _ mm_681) (fun _ h9 => h9) rfl hin rfl (by decide +kernel) rfl rfl (Nat.le_of_ble_eq_true rfl) d_Md_init_711 (fun H locs hP hD hS => ?_)
  have hP : va_P D vwCl [(a_this, .inr (4, [.ref q7, .ref q645, .null, .int 0, .null, .int 0, .null, .null, .int 0, .null, .int 0, .null, .null, .null, .int 0, .int 0, .null, .int 0])), (q7, .inl (k7, 106, .inl (tabU symL 106))), (q645, .inl (k645, 10, .inl (tabU figL 10)))] H := hP
  have hD : va_D A [(a_this, .inr (4, [.ref q7, .ref q645, .null, .int 0, .null, .int 0, .null, .null, .int 0, .null, .int 0, .null, .null, .null, .int 0, .int 0, .null, .int 0])), (q7, .inl (k7, 106, .inl (tabU symL 106))), (q645, .inl (k645, 10, .inl (tabU figL 10)))] := hD
  refine lv_aload_n hx hb d_Md_init_714 rfl (lv_at hl 0 rfl) ?_
  refine lv_bipush (v := 10) hx hb d_Md_init_715 (by decide) ?_
  refine va_newa (atype := .int) (ty := .int) (a0 := (10, .inl fun _ => 0)) hx hb (hts _ mm_80) rfl hK hP hD hS hA (fun _ => rfl) (by decide) (by decide) (by decide) (Nat.le_of_ble_eq_true rfl) (Nat.le_of_ble_eq_true rfl) d_Md_init_717 (fun q717 k717 H hK hP hD hS => ?_)
  have hP : va_P D vwCl [(a_this, .inr (4, [.ref q7, .ref q645, .null, .int 0, .null, .int 0, .null, .null, .int 0, .null, .int 0, .null, .null, .null, .int 0, .int 0, .null, .int 0])), (q7, .inl (k7, 106, .inl (tabU symL 106))), (q645, .inl (k645, 10, .inl (tabU figL 10))), (q717, .inl (k717, 10, .inl (fun _ => 0)))] H := hP
  have hD : va_D A [(a_this, .inr (4, [.ref q7, .ref q645, .null, .int 0, .null, .int 0, .null, .null, .int 0, .null, .int 0, .null, .null, .null, .int 0, .int 0, .null, .int 0])), (q7, .inl (k7, 106, .inl (tabU symL 106))), (q645, .inl (k645, 10, .inl (tabU figL 10))), (q717, .inl (k717, 10, .inl (fun _ => 0)))] := hD
  have hK : va_K D vwCl [(k7, .int), (k645, .int), (k717, .int)] s := hK
  refine W.widen (k := 3) (n := 126) (by decide) (by decide) ?_
  refine lv_dup hx hb d_Md_init_719 rfl ?_
  refine lv_iconst (v := 0) hx hb d_Md_init_720 (by decide) ?_
  refine lv_iconst (v := 0) hx hb d_Md_init_721 (by decide) ?_
  refine va_iast hx hb hK hP hD hS 3 2 rfl rfl (vp_in_nI (n := 0) (N := 10) (by decide) (by decide)) d_Md_init_722 (fun H locs hP hD hS => ?_)
  rw [show upd (fun _ => 0) (0 : Int32).toNatClampNeg 0 = tabU trnL 1 from tabU_0 (by decide +kernel)] at hP hD
  have hP : va_P D vwCl [(a_this, .inr (4, [.ref q7, .ref q645, .null, .int 0, .null, .int 0, .null, .null, .int 0, .null, .int 0, .null, .null, .null, .int 0, .int 0, .null, .int 0])), (q7, .inl (k7, 106, .inl (tabU symL 106))), (q645, .inl (k645, 10, .inl (tabU figL 10))), (q717, .inl (k717, 10, .inl (tabU trnL 1)))] H := hP
  have hD : va_D A [(a_this, .inr (4, [.ref q7, .ref q645, .null, .int 0, .null, .int 0, .null, .null, .int 0, .null, .int 0, .null, .null, .null, .int 0, .int 0, .null, .int 0])), (q7, .inl (k7, 106, .inl (tabU symL 106))), (q645, .inl (k645, 10, .inl (tabU figL 10))), (q717, .inl (k717, 10, .inl (tabU trnL 1)))] := hD
  refine lv_dup hx hb d_Md_init_723 rfl ?_
  refine lv_iconst (v := 1) hx hb d_Md_init_724 (by decide) ?_
  refine lv_bipush (v := 11) hx hb d_Md_init_725 (by decide) ?_
  refine va_iast hx hb hK hP hD hS 3 2 rfl rfl (vp_in_nI (n := 1) (N := 10) (by decide) (by decide)) d_Md_init_727 (fun H locs hP hD hS => ?_)
  rw [show upd (tabU trnL 1) (1 : Int32).toNatClampNeg 11 = tabU trnL 2 from tabU_s (by decide +kernel)] at hP hD
  have hP : va_P D vwCl [(a_this, .inr (4, [.ref q7, .ref q645, .null, .int 0, .null, .int 0, .null, .null, .int 0, .null, .int 0, .null, .null, .null, .int 0, .int 0, .null, .int 0])), (q7, .inl (k7, 106, .inl (tabU symL 106))), (q645, .inl (k645, 10, .inl (tabU figL 10))), (q717, .inl (k717, 10, .inl (tabU trnL 2)))] H := hP
  have hD : va_D A [(a_this, .inr (4, [.ref q7, .ref q645, .null, .int 0, .null, .int 0, .null, .null, .int 0, .null, .int 0, .null, .null, .null, .int 0, .int 0, .null, .int 0])), (q7, .inl (k7, 106, .inl (tabU symL 106))), (q645, .inl (k645, 10, .inl (tabU figL 10))), (q717, .inl (k717, 10, .inl (tabU trnL 2)))] := hD
  refine lv_dup hx hb d_Md_init_728 rfl ?_
  refine lv_iconst (v := 2) hx hb d_Md_init_729 (by decide) ?_
  refine lv_bipush (v := 13) hx hb d_Md_init_730 (by decide) ?_
  refine va_iast hx hb hK hP hD hS 3 2 rfl rfl (vp_in_nI (n := 2) (N := 10) (by decide) (by decide)) d_Md_init_732 (fun H locs hP hD hS => ?_)
  rw [show upd (tabU trnL 2) (2 : Int32).toNatClampNeg 13 = tabU trnL 3 from tabU_s (by decide +kernel)] at hP hD
  have hP : va_P D vwCl [(a_this, .inr (4, [.ref q7, .ref q645, .null, .int 0, .null, .int 0, .null, .null, .int 0, .null, .int 0, .null, .null, .null, .int 0, .int 0, .null, .int 0])), (q7, .inl (k7, 106, .inl (tabU symL 106))), (q645, .inl (k645, 10, .inl (tabU figL 10))), (q717, .inl (k717, 10, .inl (tabU trnL 3)))] H := hP
  have hD : va_D A [(a_this, .inr (4, [.ref q7, .ref q645, .null, .int 0, .null, .int 0, .null, .null, .int 0, .null, .int 0, .null, .null, .null, .int 0, .int 0, .null, .int 0])), (q7, .inl (k7, 106, .inl (tabU symL 106))), (q645, .inl (k645, 10, .inl (tabU figL 10))), (q717, .inl (k717, 10, .inl (tabU trnL 3)))] := hD
  refine lv_dup hx hb d_Md_init_733 rfl ?_
  refine lv_iconst (v := 3) hx hb d_Md_init_734 (by decide) ?_
  refine lv_bipush (v := 14) hx hb d_Md_init_735 (by decide) ?_
  refine va_iast hx hb hK hP hD hS 3 2 rfl rfl (vp_in_nI (n := 3) (N := 10) (by decide) (by decide)) d_Md_init_737 (fun H locs hP hD hS => ?_)
  rw [show upd (tabU trnL 3) (3 : Int32).toNatClampNeg 14 = tabU trnL 4 from tabU_s (by decide +kernel)] at hP hD
  have hP : va_P D vwCl [(a_this, .inr (4, [.ref q7, .ref q645, .null, .int 0, .null, .int 0, .null, .null, .int 0, .null, .int 0, .null, .null, .null, .int 0, .int 0, .null, .int 0])), (q7, .inl (k7, 106, .inl (tabU symL 106))), (q645, .inl (k645, 10, .inl (tabU figL 10))), (q717, .inl (k717, 10, .inl (tabU trnL 4)))] H := hP
  have hD : va_D A [(a_this, .inr (4, [.ref q7, .ref q645, .null, .int 0, .null, .int 0, .null, .null, .int 0, .null, .int 0, .null, .null, .null, .int 0, .int 0, .null, .int 0])), (q7, .inl (k7, 106, .inl (tabU symL 106))), (q645, .inl (k645, 10, .inl (tabU figL 10))), (q717, .inl (k717, 10, .inl (tabU trnL 4)))] := hD
  refine lv_dup hx hb d_Md_init_738 rfl ?_
  refine lv_iconst (v := 4) hx hb d_Md_init_739 (by decide) ?_
  refine lv_bipush (v := 19) hx hb d_Md_init_740 (by decide) ?_
  refine va_iast hx hb hK hP hD hS 3 2 rfl rfl (vp_in_nI (n := 4) (N := 10) (by decide) (by decide)) d_Md_init_742 (fun H locs hP hD hS => ?_)
  rw [show upd (tabU trnL 4) (4 : Int32).toNatClampNeg 19 = tabU trnL 5 from tabU_s (by decide +kernel)] at hP hD
  have hP : va_P D vwCl [(a_this, .inr (4, [.ref q7, .ref q645, .null, .int 0, .null, .int 0, .null, .null, .int 0, .null, .int 0, .null, .null, .null, .int 0, .int 0, .null, .int 0])), (q7, .inl (k7, 106, .inl (tabU symL 106))), (q645, .inl (k645, 10, .inl (tabU figL 10))), (q717, .inl (k717, 10, .inl (tabU trnL 5)))] H := hP
  have hD : va_D A [(a_this, .inr (4, [.ref q7, .ref q645, .null, .int 0, .null, .int 0, .null, .null, .int 0, .null, .int 0, .null, .null, .null, .int 0, .int 0, .null, .int 0])), (q7, .inl (k7, 106, .inl (tabU symL 106))), (q645, .inl (k645, 10, .inl (tabU figL 10))), (q717, .inl (k717, 10, .inl (tabU trnL 5)))] := hD
  refine lv_dup hx hb d_Md_init_743 rfl ?_
  refine lv_iconst (v := 5) hx hb d_Md_init_744 (by decide) ?_
  refine lv_bipush (v := 25) hx hb d_Md_init_745 (by decide) ?_
  refine va_iast hx hb hK hP hD hS 3 2 rfl rfl (vp_in_nI (n := 5) (N := 10) (by decide) (by decide)) d_Md_init_747 (fun H locs hP hD hS => ?_)
  rw [show upd (tabU trnL 5) (5 : Int32).toNatClampNeg 25 = tabU trnL 6 from tabU_s (by decide +kernel)] at hP hD
  have hP : va_P D vwCl [(a_this, .inr (4, [.ref q7, .ref q645, .null, .int 0, .null, .int 0, .null, .null, .int 0, .null, .int 0, .null, .null, .null, .int 0, .int 0, .null, .int 0])), (q7, .inl (k7, 106, .inl (tabU symL 106))), (q645, .inl (k645, 10, .inl (tabU figL 10))), (q717, .inl (k717, 10, .inl (tabU trnL 6)))] H := hP
  have hD : va_D A [(a_this, .inr (4, [.ref q7, .ref q645, .null, .int 0, .null, .int 0, .null, .null, .int 0, .null, .int 0, .null, .null, .null, .int 0, .int 0, .null, .int 0])), (q7, .inl (k7, 106, .inl (tabU symL 106))), (q645, .inl (k645, 10, .inl (tabU figL 10))), (q717, .inl (k717, 10, .inl (tabU trnL 6)))] := hD
  refine lv_dup hx hb d_Md_init_748 rfl ?_
  refine lv_bipush (v := 6) hx hb d_Md_init_749 (by decide) ?_
  refine lv_bipush (v := 28) hx hb d_Md_init_751 (by decide) ?_
  refine va_iast hx hb hK hP hD hS 3 2 rfl rfl (vp_in_nI (n := 6) (N := 10) (by decide) (by decide)) d_Md_init_753 (fun H locs hP hD hS => ?_)
  rw [show upd (tabU trnL 6) (6 : Int32).toNatClampNeg 28 = tabU trnL 7 from tabU_s (by decide +kernel)] at hP hD
  have hP : va_P D vwCl [(a_this, .inr (4, [.ref q7, .ref q645, .null, .int 0, .null, .int 0, .null, .null, .int 0, .null, .int 0, .null, .null, .null, .int 0, .int 0, .null, .int 0])), (q7, .inl (k7, 106, .inl (tabU symL 106))), (q645, .inl (k645, 10, .inl (tabU figL 10))), (q717, .inl (k717, 10, .inl (tabU trnL 7)))] H := hP
  have hD : va_D A [(a_this, .inr (4, [.ref q7, .ref q645, .null, .int 0, .null, .int 0, .null, .null, .int 0, .null, .int 0, .null, .null, .null, .int 0, .int 0, .null, .int 0])), (q7, .inl (k7, 106, .inl (tabU symL 106))), (q645, .inl (k645, 10, .inl (tabU figL 10))), (q717, .inl (k717, 10, .inl (tabU trnL 7)))] := hD
  refine lv_dup hx hb d_Md_init_754 rfl ?_
  refine lv_bipush (v := 7) hx hb d_Md_init_755 (by decide) ?_
  refine lv_bipush (v := 21) hx hb d_Md_init_757 (by decide) ?_
  refine va_iast hx hb hK hP hD hS 3 2 rfl rfl (vp_in_nI (n := 7) (N := 10) (by decide) (by decide)) d_Md_init_759 (fun H locs hP hD hS => ?_)
  rw [show upd (tabU trnL 7) (7 : Int32).toNatClampNeg 21 = tabU trnL 8 from tabU_s (by decide +kernel)] at hP hD
  have hP : va_P D vwCl [(a_this, .inr (4, [.ref q7, .ref q645, .null, .int 0, .null, .int 0, .null, .null, .int 0, .null, .int 0, .null, .null, .null, .int 0, .int 0, .null, .int 0])), (q7, .inl (k7, 106, .inl (tabU symL 106))), (q645, .inl (k645, 10, .inl (tabU figL 10))), (q717, .inl (k717, 10, .inl (tabU trnL 8)))] H := hP
  have hD : va_D A [(a_this, .inr (4, [.ref q7, .ref q645, .null, .int 0, .null, .int 0, .null, .null, .int 0, .null, .int 0, .null, .null, .null, .int 0, .int 0, .null, .int 0])), (q7, .inl (k7, 106, .inl (tabU symL 106))), (q645, .inl (k645, 10, .inl (tabU figL 10))), (q717, .inl (k717, 10, .inl (tabU trnL 8)))] := hD
  refine lv_dup hx hb d_Md_init_760 rfl ?_
  refine lv_bipush (v := 8) hx hb d_Md_init_761 (by decide) ?_
  refine lv_bipush (v := 22) hx hb d_Md_init_763 (by decide) ?_
  refine va_iast hx hb hK hP hD hS 3 2 rfl rfl (vp_in_nI (n := 8) (N := 10) (by decide) (by decide)) d_Md_init_765 (fun H locs hP hD hS => ?_)
  rw [show upd (tabU trnL 8) (8 : Int32).toNatClampNeg 22 = tabU trnL 9 from tabU_s (by decide +kernel)] at hP hD
  have hP : va_P D vwCl [(a_this, .inr (4, [.ref q7, .ref q645, .null, .int 0, .null, .int 0, .null, .null, .int 0, .null, .int 0, .null, .null, .null, .int 0, .int 0, .null, .int 0])), (q7, .inl (k7, 106, .inl (tabU symL 106))), (q645, .inl (k645, 10, .inl (tabU figL 10))), (q717, .inl (k717, 10, .inl (tabU trnL 9)))] H := hP
  have hD : va_D A [(a_this, .inr (4, [.ref q7, .ref q645, .null, .int 0, .null, .int 0, .null, .null, .int 0, .null, .int 0, .null, .null, .null, .int 0, .int 0, .null, .int 0])), (q7, .inl (k7, 106, .inl (tabU symL 106))), (q645, .inl (k645, 10, .inl (tabU figL 10))), (q717, .inl (k717, 10, .inl (tabU trnL 9)))] := hD
  refine lv_dup hx hb d_Md_init_766 rfl ?_
  refine lv_bipush (v := 9) hx hb d_Md_init_767 (by decide) ?_
  refine lv_bipush (v := 26) hx hb d_Md_init_769 (by decide) ?_
  refine va_iast hx hb hK hP hD hS 3 2 rfl rfl (vp_in_nI (n := 9) (N := 10) (by decide) (by decide)) d_Md_init_771 (fun H locs hP hD hS => ?_)
  rw [show upd (tabU trnL 9) (9 : Int32).toNatClampNeg 26 = tabU trnL 10 from tabU_s (by decide +kernel)] at hP hD
  have hP : va_P D vwCl [(a_this, .inr (4, [.ref q7, .ref q645, .null, .int 0, .null, .int 0, .null, .null, .int 0, .null, .int 0, .null, .null, .null, .int 0, .int 0, .null, .int 0])), (q7, .inl (k7, 106, .inl (tabU symL 106))), (q645, .inl (k645, 10, .inl (tabU figL 10))), (q717, .inl (k717, 10, .inl (tabU trnL 10)))] H := hP
  have hD : va_D A [(a_this, .inr (4, [.ref q7, .ref q645, .null, .int 0, .null, .int 0, .null, .null, .int 0, .null, .int 0, .null, .null, .null, .int 0, .int 0, .null, .int 0])), (q7, .inl (k7, 106, .inl (tabU symL 106))), (q645, .inl (k645, 10, .inl (tabU figL 10))), (q717, .inl (k717, 10, .inl (tabU trnL 10)))] := hD
  refine va_putF (D := D) (ci := 4) (v := .ref q717) (ty := .array .int) (C := R_Md) (T := T_Md) (N := 18) hx hb hts in_Md ty_Md tk_Md nn_Md hown hK hP hD hS 0 rfl rfl 2 (by decide) (hts _ mm_682) (fun _ h9 => h9) rfl hin rfl (by decide +kernel) rfl rfl (Nat.le_of_ble_eq_true rfl) d_Md_init_772 (fun H locs hP hD hS => ?_)
  have hP : va_P D vwCl [(a_this, .inr (4, [.ref q7, .ref q645, .ref q717, .int 0, .null, .int 0, .null, .null, .int 0, .null, .int 0, .null, .null, .null, .int 0, .int 0, .null, .int 0])), (q7, .inl (k7, 106, .inl (tabU symL 106))), (q645, .inl (k645, 10, .inl (tabU figL 10))), (q717, .inl (k717, 10, .inl (tabU trnL 10)))] H := hP
  have hD : va_D A [(a_this, .inr (4, [.ref q7, .ref q645, .ref q717, .int 0, .null, .int 0, .null, .null, .int 0, .null, .int 0, .null, .null, .null, .int 0, .int 0, .null, .int 0])), (q7, .inl (k7, 106, .inl (tabU symL 106))), (q645, .inl (k645, 10, .inl (tabU figL 10))), (q717, .inl (k717, 10, .inl (tabU trnL 10)))] := hD
  refine lv_aload_n hx hb d_Md_init_775 rfl (lv_at hl 0 rfl) ?_
  refine lv_bipush (v := 64) hx hb d_Md_init_776 (by decide) ?_
  refine va_newa (atype := .int) (ty := .int) (a0 := (64, .inl fun _ => 0)) hx hb (hts _ mm_80) rfl hK hP hD hS hA (fun _ => rfl) (by decide) (by decide) (by decide) (Nat.le_of_ble_eq_true rfl) (Nat.le_of_ble_eq_true rfl) d_Md_init_778 (fun q778 k778 H hK hP hD hS => ?_)
  have hP : va_P D vwCl [(a_this, .inr (4, [.ref q7, .ref q645, .ref q717, .int 0, .null, .int 0, .null, .null, .int 0, .null, .int 0, .null, .null, .null, .int 0, .int 0, .null, .int 0])), (q7, .inl (k7, 106, .inl (tabU symL 106))), (q645, .inl (k645, 10, .inl (tabU figL 10))), (q717, .inl (k717, 10, .inl (tabU trnL 10))), (q778, .inl (k778, 64, .inl (fun _ => 0)))] H := hP
  have hD : va_D A [(a_this, .inr (4, [.ref q7, .ref q645, .ref q717, .int 0, .null, .int 0, .null, .null, .int 0, .null, .int 0, .null, .null, .null, .int 0, .int 0, .null, .int 0])), (q7, .inl (k7, 106, .inl (tabU symL 106))), (q645, .inl (k645, 10, .inl (tabU figL 10))), (q717, .inl (k717, 10, .inl (tabU trnL 10))), (q778, .inl (k778, 64, .inl (fun _ => 0)))] := hD
  have hK : va_K D vwCl [(k7, .int), (k645, .int), (k717, .int), (k778, .int)] s := hK
  refine W.widen (k := 4) (n := 190) (by decide) (by decide) ?_
  refine va_putF (D := D) (ci := 4) (v := .ref q778) (ty := .array .int) (C := R_Md) (T := T_Md) (N := 18) hx hb hts in_Md ty_Md tk_Md nn_Md hown hK hP hD hS 0 rfl rfl 4 (by decide) (hts _ mm_684) (fun _ h9 => h9) rfl hin rfl (by decide +kernel) rfl rfl (Nat.le_of_ble_eq_true rfl) d_Md_init_780 (fun H locs hP hD hS => ?_)
  have hP : va_P D vwCl [(a_this, .inr (4, [.ref q7, .ref q645, .ref q717, .int 0, .ref q778, .int 0, .null, .null, .int 0, .null, .int 0, .null, .null, .null, .int 0, .int 0, .null, .int 0])), (q7, .inl (k7, 106, .inl (tabU symL 106))), (q645, .inl (k645, 10, .inl (tabU figL 10))), (q717, .inl (k717, 10, .inl (tabU trnL 10))), (q778, .inl (k778, 64, .inl (fun _ => 0)))] H := hP
  have hD : va_D A [(a_this, .inr (4, [.ref q7, .ref q645, .ref q717, .int 0, .ref q778, .int 0, .null, .null, .int 0, .null, .int 0, .null, .null, .null, .int 0, .int 0, .null, .int 0])), (q7, .inl (k7, 106, .inl (tabU symL 106))), (q645, .inl (k645, 10, .inl (tabU figL 10))), (q717, .inl (k717, 10, .inl (tabU trnL 10))), (q778, .inl (k778, 64, .inl (fun _ => 0)))] := hD
  refine lv_aload_n hx hb d_Md_init_783 rfl (lv_at hl 0 rfl) ?_
  refine lv_sipush (v := 198) hx hb d_Md_init_784 (by decide) ?_
  refine va_newa (atype := .int) (ty := .int) (a0 := (198, .inl fun _ => 0)) hx hb (hts _ mm_80) rfl hK hP hD hS hA (fun _ => rfl) (by decide) (by decide) (by decide) (Nat.le_of_ble_eq_true rfl) (Nat.le_of_ble_eq_true rfl) d_Md_init_787 (fun q787 k787 H hK hP hD hS => ?_)
  have hP : va_P D vwCl [(a_this, .inr (4, [.ref q7, .ref q645, .ref q717, .int 0, .ref q778, .int 0, .null, .null, .int 0, .null, .int 0, .null, .null, .null, .int 0, .int 0, .null, .int 0])), (q7, .inl (k7, 106, .inl (tabU symL 106))), (q645, .inl (k645, 10, .inl (tabU figL 10))), (q717, .inl (k717, 10, .inl (tabU trnL 10))), (q778, .inl (k778, 64, .inl (fun _ => 0))), (q787, .inl (k787, 198, .inl (fun _ => 0)))] H := hP
  have hD : va_D A [(a_this, .inr (4, [.ref q7, .ref q645, .ref q717, .int 0, .ref q778, .int 0, .null, .null, .int 0, .null, .int 0, .null, .null, .null, .int 0, .int 0, .null, .int 0])), (q7, .inl (k7, 106, .inl (tabU symL 106))), (q645, .inl (k645, 10, .inl (tabU figL 10))), (q717, .inl (k717, 10, .inl (tabU trnL 10))), (q778, .inl (k778, 64, .inl (fun _ => 0))), (q787, .inl (k787, 198, .inl (fun _ => 0)))] := hD
  have hK : va_K D vwCl [(k7, .int), (k645, .int), (k717, .int), (k778, .int), (k787, .int)] s := hK
  refine W.widen (k := 5) (n := 388) (by decide) (by decide) ?_
  refine va_putF (D := D) (ci := 4) (v := .ref q787) (ty := .array .int) (C := R_Md) (T := T_Md) (N := 18) hx hb hts in_Md ty_Md tk_Md nn_Md hown hK hP hD hS 0 rfl rfl 6 (by decide) (hts _ mm_686) (fun _ h9 => h9) rfl hin rfl (by decide +kernel) rfl rfl (Nat.le_of_ble_eq_true rfl) d_Md_init_789 (fun H locs hP hD hS => ?_)
  have hP : va_P D vwCl [(a_this, .inr (4, [.ref q7, .ref q645, .ref q717, .int 0, .ref q778, .int 0, .ref q787, .null, .int 0, .null, .int 0, .null, .null, .null, .int 0, .int 0, .null, .int 0])), (q7, .inl (k7, 106, .inl (tabU symL 106))), (q645, .inl (k645, 10, .inl (tabU figL 10))), (q717, .inl (k717, 10, .inl (tabU trnL 10))), (q778, .inl (k778, 64, .inl (fun _ => 0))), (q787, .inl (k787, 198, .inl (fun _ => 0)))] H := hP
  have hD : va_D A [(a_this, .inr (4, [.ref q7, .ref q645, .ref q717, .int 0, .ref q778, .int 0, .ref q787, .null, .int 0, .null, .int 0, .null, .null, .null, .int 0, .int 0, .null, .int 0])), (q7, .inl (k7, 106, .inl (tabU symL 106))), (q645, .inl (k645, 10, .inl (tabU figL 10))), (q717, .inl (k717, 10, .inl (tabU trnL 10))), (q778, .inl (k778, 64, .inl (fun _ => 0))), (q787, .inl (k787, 198, .inl (fun _ => 0)))] := hD
  refine lv_aload_n hx hb d_Md_init_792 rfl (lv_at hl 0 rfl) ?_
  refine lv_sipush (v := 200) hx hb d_Md_init_793 (by decide) ?_
  refine va_newa (atype := .int) (ty := .int) (a0 := (200, .inl fun _ => 0)) hx hb (hts _ mm_80) rfl hK hP hD hS hA (fun _ => rfl) (by decide) (by decide) (by decide) (Nat.le_of_ble_eq_true rfl) (Nat.le_of_ble_eq_true rfl) d_Md_init_796 (fun q796 k796 H hK hP hD hS => ?_)
  have hP : va_P D vwCl [(a_this, .inr (4, [.ref q7, .ref q645, .ref q717, .int 0, .ref q778, .int 0, .ref q787, .null, .int 0, .null, .int 0, .null, .null, .null, .int 0, .int 0, .null, .int 0])), (q7, .inl (k7, 106, .inl (tabU symL 106))), (q645, .inl (k645, 10, .inl (tabU figL 10))), (q717, .inl (k717, 10, .inl (tabU trnL 10))), (q778, .inl (k778, 64, .inl (fun _ => 0))), (q787, .inl (k787, 198, .inl (fun _ => 0))), (q796, .inl (k796, 200, .inl (fun _ => 0)))] H := hP
  have hD : va_D A [(a_this, .inr (4, [.ref q7, .ref q645, .ref q717, .int 0, .ref q778, .int 0, .ref q787, .null, .int 0, .null, .int 0, .null, .null, .null, .int 0, .int 0, .null, .int 0])), (q7, .inl (k7, 106, .inl (tabU symL 106))), (q645, .inl (k645, 10, .inl (tabU figL 10))), (q717, .inl (k717, 10, .inl (tabU trnL 10))), (q778, .inl (k778, 64, .inl (fun _ => 0))), (q787, .inl (k787, 198, .inl (fun _ => 0))), (q796, .inl (k796, 200, .inl (fun _ => 0)))] := hD
  have hK : va_K D vwCl [(k7, .int), (k645, .int), (k717, .int), (k778, .int), (k787, .int), (k796, .int)] s := hK
  refine W.widen (k := 6) (n := 588) (by decide) (by decide) ?_
  refine va_putF (D := D) (ci := 4) (v := .ref q796) (ty := .array .int) (C := R_Md) (T := T_Md) (N := 18) hx hb hts in_Md ty_Md tk_Md nn_Md hown hK hP hD hS 0 rfl rfl 7 (by decide) (hts _ mm_687) (fun _ h9 => h9) rfl hin rfl (by decide +kernel) rfl rfl (Nat.le_of_ble_eq_true rfl) d_Md_init_798 (fun H locs hP hD hS => ?_)
  have hP : va_P D vwCl [(a_this, .inr (4, [.ref q7, .ref q645, .ref q717, .int 0, .ref q778, .int 0, .ref q787, .ref q796, .int 0, .null, .int 0, .null, .null, .null, .int 0, .int 0, .null, .int 0])), (q7, .inl (k7, 106, .inl (tabU symL 106))), (q645, .inl (k645, 10, .inl (tabU figL 10))), (q717, .inl (k717, 10, .inl (tabU trnL 10))), (q778, .inl (k778, 64, .inl (fun _ => 0))), (q787, .inl (k787, 198, .inl (fun _ => 0))), (q796, .inl (k796, 200, .inl (fun _ => 0)))] H := hP
  have hD : va_D A [(a_this, .inr (4, [.ref q7, .ref q645, .ref q717, .int 0, .ref q778, .int 0, .ref q787, .ref q796, .int 0, .null, .int 0, .null, .null, .null, .int 0, .int 0, .null, .int 0])), (q7, .inl (k7, 106, .inl (tabU symL 106))), (q645, .inl (k645, 10, .inl (tabU figL 10))), (q717, .inl (k717, 10, .inl (tabU trnL 10))), (q778, .inl (k778, 64, .inl (fun _ => 0))), (q787, .inl (k787, 198, .inl (fun _ => 0))), (q796, .inl (k796, 200, .inl (fun _ => 0)))] := hD
  refine lv_aload_n hx hb d_Md_init_801 rfl (lv_at hl 0 rfl) ?_
  refine lv_sipush (v := 800) hx hb d_Md_init_802 (by decide) ?_
  refine va_newa (atype := .int) (ty := .int) (a0 := (800, .inl fun _ => 0)) hx hb (hts _ mm_80) rfl hK hP hD hS hA (fun _ => rfl) (by decide) (by decide) (by decide) (Nat.le_of_ble_eq_true rfl) (Nat.le_of_ble_eq_true rfl) d_Md_init_805 (fun q805 k805 H hK hP hD hS => ?_)
  have hP : va_P D vwCl [(a_this, .inr (4, [.ref q7, .ref q645, .ref q717, .int 0, .ref q778, .int 0, .ref q787, .ref q796, .int 0, .null, .int 0, .null, .null, .null, .int 0, .int 0, .null, .int 0])), (q7, .inl (k7, 106, .inl (tabU symL 106))), (q645, .inl (k645, 10, .inl (tabU figL 10))), (q717, .inl (k717, 10, .inl (tabU trnL 10))), (q778, .inl (k778, 64, .inl (fun _ => 0))), (q787, .inl (k787, 198, .inl (fun _ => 0))), (q796, .inl (k796, 200, .inl (fun _ => 0))), (q805, .inl (k805, 800, .inl (fun _ => 0)))] H := hP
  have hD : va_D A [(a_this, .inr (4, [.ref q7, .ref q645, .ref q717, .int 0, .ref q778, .int 0, .ref q787, .ref q796, .int 0, .null, .int 0, .null, .null, .null, .int 0, .int 0, .null, .int 0])), (q7, .inl (k7, 106, .inl (tabU symL 106))), (q645, .inl (k645, 10, .inl (tabU figL 10))), (q717, .inl (k717, 10, .inl (tabU trnL 10))), (q778, .inl (k778, 64, .inl (fun _ => 0))), (q787, .inl (k787, 198, .inl (fun _ => 0))), (q796, .inl (k796, 200, .inl (fun _ => 0))), (q805, .inl (k805, 800, .inl (fun _ => 0)))] := hD
  have hK : va_K D vwCl [(k7, .int), (k645, .int), (k717, .int), (k778, .int), (k787, .int), (k796, .int), (k805, .int)] s := hK
  refine W.widen (k := 7) (n := 1388) (by decide) (by decide) ?_
  refine va_putF (D := D) (ci := 4) (v := .ref q805) (ty := .array .int) (C := R_Md) (T := T_Md) (N := 18) hx hb hts in_Md ty_Md tk_Md nn_Md hown hK hP hD hS 0 rfl rfl 9 (by decide) (hts _ mm_689) (fun _ h9 => h9) rfl hin rfl (by decide +kernel) rfl rfl (Nat.le_of_ble_eq_true rfl) d_Md_init_807 (fun H locs hP hD hS => ?_)
  have hP : va_P D vwCl [(a_this, .inr (4, [.ref q7, .ref q645, .ref q717, .int 0, .ref q778, .int 0, .ref q787, .ref q796, .int 0, .ref q805, .int 0, .null, .null, .null, .int 0, .int 0, .null, .int 0])), (q7, .inl (k7, 106, .inl (tabU symL 106))), (q645, .inl (k645, 10, .inl (tabU figL 10))), (q717, .inl (k717, 10, .inl (tabU trnL 10))), (q778, .inl (k778, 64, .inl (fun _ => 0))), (q787, .inl (k787, 198, .inl (fun _ => 0))), (q796, .inl (k796, 200, .inl (fun _ => 0))), (q805, .inl (k805, 800, .inl (fun _ => 0)))] H := hP
  have hD : va_D A [(a_this, .inr (4, [.ref q7, .ref q645, .ref q717, .int 0, .ref q778, .int 0, .ref q787, .ref q796, .int 0, .ref q805, .int 0, .null, .null, .null, .int 0, .int 0, .null, .int 0])), (q7, .inl (k7, 106, .inl (tabU symL 106))), (q645, .inl (k645, 10, .inl (tabU figL 10))), (q717, .inl (k717, 10, .inl (tabU trnL 10))), (q778, .inl (k778, 64, .inl (fun _ => 0))), (q787, .inl (k787, 198, .inl (fun _ => 0))), (q796, .inl (k796, 200, .inl (fun _ => 0))), (q805, .inl (k805, 800, .inl (fun _ => 0)))] := hD
  refine lv_aload_n hx hb d_Md_init_810 rfl (lv_at hl 0 rfl) ?_
  refine lv_sipush (v := 800) hx hb d_Md_init_811 (by decide) ?_
  refine va_newa (atype := .int) (ty := .int) (a0 := (800, .inl fun _ => 0)) hx hb (hts _ mm_80) rfl hK hP hD hS hA (fun _ => rfl) (by decide) (by decide) (by decide) (Nat.le_of_ble_eq_true rfl) (Nat.le_of_ble_eq_true rfl) d_Md_init_814 (fun q814 k814 H hK hP hD hS => ?_)
  have hP : va_P D vwCl [(a_this, .inr (4, [.ref q7, .ref q645, .ref q717, .int 0, .ref q778, .int 0, .ref q787, .ref q796, .int 0, .ref q805, .int 0, .null, .null, .null, .int 0, .int 0, .null, .int 0])), (q7, .inl (k7, 106, .inl (tabU symL 106))), (q645, .inl (k645, 10, .inl (tabU figL 10))), (q717, .inl (k717, 10, .inl (tabU trnL 10))), (q778, .inl (k778, 64, .inl (fun _ => 0))), (q787, .inl (k787, 198, .inl (fun _ => 0))), (q796, .inl (k796, 200, .inl (fun _ => 0))), (q805, .inl (k805, 800, .inl (fun _ => 0))), (q814, .inl (k814, 800, .inl (fun _ => 0)))] H := hP
  have hD : va_D A [(a_this, .inr (4, [.ref q7, .ref q645, .ref q717, .int 0, .ref q778, .int 0, .ref q787, .ref q796, .int 0, .ref q805, .int 0, .null, .null, .null, .int 0, .int 0, .null, .int 0])), (q7, .inl (k7, 106, .inl (tabU symL 106))), (q645, .inl (k645, 10, .inl (tabU figL 10))), (q717, .inl (k717, 10, .inl (tabU trnL 10))), (q778, .inl (k778, 64, .inl (fun _ => 0))), (q787, .inl (k787, 198, .inl (fun _ => 0))), (q796, .inl (k796, 200, .inl (fun _ => 0))), (q805, .inl (k805, 800, .inl (fun _ => 0))), (q814, .inl (k814, 800, .inl (fun _ => 0)))] := hD
  have hK : va_K D vwCl [(k7, .int), (k645, .int), (k717, .int), (k778, .int), (k787, .int), (k796, .int), (k805, .int), (k814, .int)] s := hK
  refine W.widen (k := 8) (n := 2188) (by decide) (by decide) ?_
  refine va_putF (D := D) (ci := 4) (v := .ref q814) (ty := .array .int) (C := R_Md) (T := T_Md) (N := 18) hx hb hts in_Md ty_Md tk_Md nn_Md hown hK hP hD hS 0 rfl rfl 11 (by decide) (hts _ mm_691) (fun _ h9 => h9) rfl hin rfl (by decide +kernel) rfl rfl (Nat.le_of_ble_eq_true rfl) d_Md_init_816 (fun H locs hP hD hS => ?_)
  have hP : va_P D vwCl [(a_this, .inr (4, [.ref q7, .ref q645, .ref q717, .int 0, .ref q778, .int 0, .ref q787, .ref q796, .int 0, .ref q805, .int 0, .ref q814, .null, .null, .int 0, .int 0, .null, .int 0])), (q7, .inl (k7, 106, .inl (tabU symL 106))), (q645, .inl (k645, 10, .inl (tabU figL 10))), (q717, .inl (k717, 10, .inl (tabU trnL 10))), (q778, .inl (k778, 64, .inl (fun _ => 0))), (q787, .inl (k787, 198, .inl (fun _ => 0))), (q796, .inl (k796, 200, .inl (fun _ => 0))), (q805, .inl (k805, 800, .inl (fun _ => 0))), (q814, .inl (k814, 800, .inl (fun _ => 0)))] H := hP
  have hD : va_D A [(a_this, .inr (4, [.ref q7, .ref q645, .ref q717, .int 0, .ref q778, .int 0, .ref q787, .ref q796, .int 0, .ref q805, .int 0, .ref q814, .null, .null, .int 0, .int 0, .null, .int 0])), (q7, .inl (k7, 106, .inl (tabU symL 106))), (q645, .inl (k645, 10, .inl (tabU figL 10))), (q717, .inl (k717, 10, .inl (tabU trnL 10))), (q778, .inl (k778, 64, .inl (fun _ => 0))), (q787, .inl (k787, 198, .inl (fun _ => 0))), (q796, .inl (k796, 200, .inl (fun _ => 0))), (q805, .inl (k805, 800, .inl (fun _ => 0))), (q814, .inl (k814, 800, .inl (fun _ => 0)))] := hD
  refine lv_aload_n hx hb d_Md_init_819 rfl (lv_at hl 0 rfl) ?_
  refine lv_sipush (v := 140) hx hb d_Md_init_820 (by decide) ?_
  refine va_newa (atype := .int) (ty := .int) (a0 := (140, .inl fun _ => 0)) hx hb (hts _ mm_80) rfl hK hP hD hS hA (fun _ => rfl) (by decide) (by decide) (by decide) (Nat.le_of_ble_eq_true rfl) (Nat.le_of_ble_eq_true rfl) d_Md_init_823 (fun q823 k823 H hK hP hD hS => ?_)
  have hP : va_P D vwCl [(a_this, .inr (4, [.ref q7, .ref q645, .ref q717, .int 0, .ref q778, .int 0, .ref q787, .ref q796, .int 0, .ref q805, .int 0, .ref q814, .null, .null, .int 0, .int 0, .null, .int 0])), (q7, .inl (k7, 106, .inl (tabU symL 106))), (q645, .inl (k645, 10, .inl (tabU figL 10))), (q717, .inl (k717, 10, .inl (tabU trnL 10))), (q778, .inl (k778, 64, .inl (fun _ => 0))), (q787, .inl (k787, 198, .inl (fun _ => 0))), (q796, .inl (k796, 200, .inl (fun _ => 0))), (q805, .inl (k805, 800, .inl (fun _ => 0))), (q814, .inl (k814, 800, .inl (fun _ => 0))), (q823, .inl (k823, 140, .inl (fun _ => 0)))] H := hP
  have hD : va_D A [(a_this, .inr (4, [.ref q7, .ref q645, .ref q717, .int 0, .ref q778, .int 0, .ref q787, .ref q796, .int 0, .ref q805, .int 0, .ref q814, .null, .null, .int 0, .int 0, .null, .int 0])), (q7, .inl (k7, 106, .inl (tabU symL 106))), (q645, .inl (k645, 10, .inl (tabU figL 10))), (q717, .inl (k717, 10, .inl (tabU trnL 10))), (q778, .inl (k778, 64, .inl (fun _ => 0))), (q787, .inl (k787, 198, .inl (fun _ => 0))), (q796, .inl (k796, 200, .inl (fun _ => 0))), (q805, .inl (k805, 800, .inl (fun _ => 0))), (q814, .inl (k814, 800, .inl (fun _ => 0))), (q823, .inl (k823, 140, .inl (fun _ => 0)))] := hD
  have hK : va_K D vwCl [(k7, .int), (k645, .int), (k717, .int), (k778, .int), (k787, .int), (k796, .int), (k805, .int), (k814, .int), (k823, .int)] s := hK
  refine W.widen (k := 9) (n := 2328) (by decide) (by decide) ?_
  refine va_putF (D := D) (ci := 4) (v := .ref q823) (ty := .array .int) (C := R_Md) (T := T_Md) (N := 18) hx hb hts in_Md ty_Md tk_Md nn_Md hown hK hP hD hS 0 rfl rfl 12 (by decide) (hts _ mm_692) (fun _ h9 => h9) rfl hin rfl (by decide +kernel) rfl rfl (Nat.le_of_ble_eq_true rfl) d_Md_init_825 (fun H locs hP hD hS => ?_)
  have hP : va_P D vwCl [(a_this, .inr (4, [.ref q7, .ref q645, .ref q717, .int 0, .ref q778, .int 0, .ref q787, .ref q796, .int 0, .ref q805, .int 0, .ref q814, .ref q823, .null, .int 0, .int 0, .null, .int 0])), (q7, .inl (k7, 106, .inl (tabU symL 106))), (q645, .inl (k645, 10, .inl (tabU figL 10))), (q717, .inl (k717, 10, .inl (tabU trnL 10))), (q778, .inl (k778, 64, .inl (fun _ => 0))), (q787, .inl (k787, 198, .inl (fun _ => 0))), (q796, .inl (k796, 200, .inl (fun _ => 0))), (q805, .inl (k805, 800, .inl (fun _ => 0))), (q814, .inl (k814, 800, .inl (fun _ => 0))), (q823, .inl (k823, 140, .inl (fun _ => 0)))] H := hP
  have hD : va_D A [(a_this, .inr (4, [.ref q7, .ref q645, .ref q717, .int 0, .ref q778, .int 0, .ref q787, .ref q796, .int 0, .ref q805, .int 0, .ref q814, .ref q823, .null, .int 0, .int 0, .null, .int 0])), (q7, .inl (k7, 106, .inl (tabU symL 106))), (q645, .inl (k645, 10, .inl (tabU figL 10))), (q717, .inl (k717, 10, .inl (tabU trnL 10))), (q778, .inl (k778, 64, .inl (fun _ => 0))), (q787, .inl (k787, 198, .inl (fun _ => 0))), (q796, .inl (k796, 200, .inl (fun _ => 0))), (q805, .inl (k805, 800, .inl (fun _ => 0))), (q814, .inl (k814, 800, .inl (fun _ => 0))), (q823, .inl (k823, 140, .inl (fun _ => 0)))] := hD
  refine lv_aload_n hx hb d_Md_init_828 rfl (lv_at hl 0 rfl) ?_
  refine lv_sipush (v := 300) hx hb d_Md_init_829 (by decide) ?_
  refine va_newa (atype := .int) (ty := .int) (a0 := (300, .inl fun _ => 0)) hx hb (hts _ mm_80) rfl hK hP hD hS hA (fun _ => rfl) (by decide) (by decide) (by decide) (Nat.le_of_ble_eq_true rfl) (Nat.le_of_ble_eq_true rfl) d_Md_init_832 (fun q832 k832 H hK hP hD hS => ?_)
  have hP : va_P D vwCl [(a_this, .inr (4, [.ref q7, .ref q645, .ref q717, .int 0, .ref q778, .int 0, .ref q787, .ref q796, .int 0, .ref q805, .int 0, .ref q814, .ref q823, .null, .int 0, .int 0, .null, .int 0])), (q7, .inl (k7, 106, .inl (tabU symL 106))), (q645, .inl (k645, 10, .inl (tabU figL 10))), (q717, .inl (k717, 10, .inl (tabU trnL 10))), (q778, .inl (k778, 64, .inl (fun _ => 0))), (q787, .inl (k787, 198, .inl (fun _ => 0))), (q796, .inl (k796, 200, .inl (fun _ => 0))), (q805, .inl (k805, 800, .inl (fun _ => 0))), (q814, .inl (k814, 800, .inl (fun _ => 0))), (q823, .inl (k823, 140, .inl (fun _ => 0))), (q832, .inl (k832, 300, .inl (fun _ => 0)))] H := hP
  have hD : va_D A [(a_this, .inr (4, [.ref q7, .ref q645, .ref q717, .int 0, .ref q778, .int 0, .ref q787, .ref q796, .int 0, .ref q805, .int 0, .ref q814, .ref q823, .null, .int 0, .int 0, .null, .int 0])), (q7, .inl (k7, 106, .inl (tabU symL 106))), (q645, .inl (k645, 10, .inl (tabU figL 10))), (q717, .inl (k717, 10, .inl (tabU trnL 10))), (q778, .inl (k778, 64, .inl (fun _ => 0))), (q787, .inl (k787, 198, .inl (fun _ => 0))), (q796, .inl (k796, 200, .inl (fun _ => 0))), (q805, .inl (k805, 800, .inl (fun _ => 0))), (q814, .inl (k814, 800, .inl (fun _ => 0))), (q823, .inl (k823, 140, .inl (fun _ => 0))), (q832, .inl (k832, 300, .inl (fun _ => 0)))] := hD
  have hK : va_K D vwCl [(k7, .int), (k645, .int), (k717, .int), (k778, .int), (k787, .int), (k796, .int), (k805, .int), (k814, .int), (k823, .int), (k832, .int)] s := hK
  refine W.widen (k := 10) (n := 2628) (by decide) (by decide) ?_
  refine va_putF (D := D) (ci := 4) (v := .ref q832) (ty := .array .int) (C := R_Md) (T := T_Md) (N := 18) hx hb hts in_Md ty_Md tk_Md nn_Md hown hK hP hD hS 0 rfl rfl 13 (by decide) (hts _ mm_693) (fun _ h9 => h9) rfl hin rfl (by decide +kernel) rfl rfl (Nat.le_of_ble_eq_true rfl) d_Md_init_834 (fun H locs hP hD hS => ?_)
  have hP : va_P D vwCl [(a_this, .inr (4, [.ref q7, .ref q645, .ref q717, .int 0, .ref q778, .int 0, .ref q787, .ref q796, .int 0, .ref q805, .int 0, .ref q814, .ref q823, .ref q832, .int 0, .int 0, .null, .int 0])), (q7, .inl (k7, 106, .inl (tabU symL 106))), (q645, .inl (k645, 10, .inl (tabU figL 10))), (q717, .inl (k717, 10, .inl (tabU trnL 10))), (q778, .inl (k778, 64, .inl (fun _ => 0))), (q787, .inl (k787, 198, .inl (fun _ => 0))), (q796, .inl (k796, 200, .inl (fun _ => 0))), (q805, .inl (k805, 800, .inl (fun _ => 0))), (q814, .inl (k814, 800, .inl (fun _ => 0))), (q823, .inl (k823, 140, .inl (fun _ => 0))), (q832, .inl (k832, 300, .inl (fun _ => 0)))] H := hP
  have hD : va_D A [(a_this, .inr (4, [.ref q7, .ref q645, .ref q717, .int 0, .ref q778, .int 0, .ref q787, .ref q796, .int 0, .ref q805, .int 0, .ref q814, .ref q823, .ref q832, .int 0, .int 0, .null, .int 0])), (q7, .inl (k7, 106, .inl (tabU symL 106))), (q645, .inl (k645, 10, .inl (tabU figL 10))), (q717, .inl (k717, 10, .inl (tabU trnL 10))), (q778, .inl (k778, 64, .inl (fun _ => 0))), (q787, .inl (k787, 198, .inl (fun _ => 0))), (q796, .inl (k796, 200, .inl (fun _ => 0))), (q805, .inl (k805, 800, .inl (fun _ => 0))), (q814, .inl (k814, 800, .inl (fun _ => 0))), (q823, .inl (k823, 140, .inl (fun _ => 0))), (q832, .inl (k832, 300, .inl (fun _ => 0)))] := hD
  refine lv_aload_n hx hb d_Md_init_837 rfl (lv_at hl 0 rfl) ?_
  refine lv_sipush (v := 300) hx hb d_Md_init_838 (by decide) ?_
  refine va_newa (atype := .int) (ty := .int) (a0 := (300, .inl fun _ => 0)) hx hb (hts _ mm_80) rfl hK hP hD hS hA (fun _ => rfl) (by decide) (by decide) (by decide) (Nat.le_of_ble_eq_true rfl) (Nat.le_of_ble_eq_true rfl) d_Md_init_841 (fun q841 k841 H hK hP hD hS => ?_)
  have hP : va_P D vwCl [(a_this, .inr (4, [.ref q7, .ref q645, .ref q717, .int 0, .ref q778, .int 0, .ref q787, .ref q796, .int 0, .ref q805, .int 0, .ref q814, .ref q823, .ref q832, .int 0, .int 0, .null, .int 0])), (q7, .inl (k7, 106, .inl (tabU symL 106))), (q645, .inl (k645, 10, .inl (tabU figL 10))), (q717, .inl (k717, 10, .inl (tabU trnL 10))), (q778, .inl (k778, 64, .inl (fun _ => 0))), (q787, .inl (k787, 198, .inl (fun _ => 0))), (q796, .inl (k796, 200, .inl (fun _ => 0))), (q805, .inl (k805, 800, .inl (fun _ => 0))), (q814, .inl (k814, 800, .inl (fun _ => 0))), (q823, .inl (k823, 140, .inl (fun _ => 0))), (q832, .inl (k832, 300, .inl (fun _ => 0))), (q841, .inl (k841, 300, .inl (fun _ => 0)))] H := hP
  have hD : va_D A [(a_this, .inr (4, [.ref q7, .ref q645, .ref q717, .int 0, .ref q778, .int 0, .ref q787, .ref q796, .int 0, .ref q805, .int 0, .ref q814, .ref q823, .ref q832, .int 0, .int 0, .null, .int 0])), (q7, .inl (k7, 106, .inl (tabU symL 106))), (q645, .inl (k645, 10, .inl (tabU figL 10))), (q717, .inl (k717, 10, .inl (tabU trnL 10))), (q778, .inl (k778, 64, .inl (fun _ => 0))), (q787, .inl (k787, 198, .inl (fun _ => 0))), (q796, .inl (k796, 200, .inl (fun _ => 0))), (q805, .inl (k805, 800, .inl (fun _ => 0))), (q814, .inl (k814, 800, .inl (fun _ => 0))), (q823, .inl (k823, 140, .inl (fun _ => 0))), (q832, .inl (k832, 300, .inl (fun _ => 0))), (q841, .inl (k841, 300, .inl (fun _ => 0)))] := hD
  have hK : va_K D vwCl [(k7, .int), (k645, .int), (k717, .int), (k778, .int), (k787, .int), (k796, .int), (k805, .int), (k814, .int), (k823, .int), (k832, .int), (k841, .int)] s := hK
  refine W.widen (k := 11) (n := 2928) (by decide) (by decide) ?_
  refine va_putF (D := D) (ci := 4) (v := .ref q841) (ty := .array .int) (C := R_Md) (T := T_Md) (N := 18) hx hb hts in_Md ty_Md tk_Md nn_Md hown hK hP hD hS 0 rfl rfl 16 (by decide) (hts _ mm_696) (fun _ h9 => h9) rfl hin rfl (by decide +kernel) rfl rfl (Nat.le_of_ble_eq_true rfl) d_Md_init_843 (fun H locs hP hD hS => ?_)
  have hP : va_P D vwCl [(a_this, .inr (4, [.ref q7, .ref q645, .ref q717, .int 0, .ref q778, .int 0, .ref q787, .ref q796, .int 0, .ref q805, .int 0, .ref q814, .ref q823, .ref q832, .int 0, .int 0, .ref q841, .int 0])), (q7, .inl (k7, 106, .inl (tabU symL 106))), (q645, .inl (k645, 10, .inl (tabU figL 10))), (q717, .inl (k717, 10, .inl (tabU trnL 10))), (q778, .inl (k778, 64, .inl (fun _ => 0))), (q787, .inl (k787, 198, .inl (fun _ => 0))), (q796, .inl (k796, 200, .inl (fun _ => 0))), (q805, .inl (k805, 800, .inl (fun _ => 0))), (q814, .inl (k814, 800, .inl (fun _ => 0))), (q823, .inl (k823, 140, .inl (fun _ => 0))), (q832, .inl (k832, 300, .inl (fun _ => 0))), (q841, .inl (k841, 300, .inl (fun _ => 0)))] H := hP
  have hD : va_D A [(a_this, .inr (4, [.ref q7, .ref q645, .ref q717, .int 0, .ref q778, .int 0, .ref q787, .ref q796, .int 0, .ref q805, .int 0, .ref q814, .ref q823, .ref q832, .int 0, .int 0, .ref q841, .int 0])), (q7, .inl (k7, 106, .inl (tabU symL 106))), (q645, .inl (k645, 10, .inl (tabU figL 10))), (q717, .inl (k717, 10, .inl (tabU trnL 10))), (q778, .inl (k778, 64, .inl (fun _ => 0))), (q787, .inl (k787, 198, .inl (fun _ => 0))), (q796, .inl (k796, 200, .inl (fun _ => 0))), (q805, .inl (k805, 800, .inl (fun _ => 0))), (q814, .inl (k814, 800, .inl (fun _ => 0))), (q823, .inl (k823, 140, .inl (fun _ => 0))), (q832, .inl (k832, 300, .inl (fun _ => 0))), (q841, .inl (k841, 300, .inl (fun _ => 0)))] := hD
  exact W.vret hx hb hr (fun t ht hW => ⟨⟨(q7, k7, q645, k645, q717, k717, q778, k778, q787, k787, q796, k796, q805, k805, q814, k814, q823, k823, q832, k832, q841, k841), rfl, trivial, by rw [ht]; exact hP, va_K.moved hW.alike hK, hD⟩, hS.F ht⟩) hS.2.2 d_Md_init_846
