def swL : List Nat := [5, 3, 6, 5, 6, 5, 1, 5, 4, 8, 8, 5, 7, 3, 9, 5]
def swB : List (List Int32) := [[103, 108, 97, 114, 101], [32, 116, 111], [59, 99, 108, 111, 99, 107], [59, 114, 111, 112, 101], [59, 104, 97, 98, 105, 116], [59, 111, 100, 100, 115], [59], [112, 108, 97, 99, 101], [114, 111, 97, 100], [32, 109, 105, 110, 117, 116, 101, 115], [32, 115, 109, 101, 108, 108, 115, 59], [98, 108, 105, 110, 100], [115, 105, 103, 104, 116, 101, 100], [32, 97, 116], [32, 103, 108, 97, 115, 115, 101, 115, 59], [107, 110, 111, 119, 115]]
def sLen (i : Nat) : Nat := swL.getD i 0
def sCh (i k : Nat) : Int32 := (swB.getD i []).getD k 0
theorem t_0 : (Jvm.Cond.initialized "NoonGuidesLaw") ∈ tb := tw_i 0 (by decide +kernel) (by decide +kernel)
theorem t_517 : (Jvm.Cond.methodLink "NoonGuidesLaw" (116 : Nat) ({ cls := "NoonGuides", name := "many", desc := "(I)I" } : Jvm.MethodName)) ∈ tb := tw_i 517 (by decide +kernel) (by decide +kernel)
theorem t_518 : (Jvm.Cond.instanceMethod ({ cls := "NoonGuides", name := "many", desc := "(I)I" } : Jvm.MethodName)) ∈ tb := tw_i 518 (by decide +kernel) (by decide +kernel)
theorem t_519 : (Jvm.Cond.selects "NoonGuides" ({ cls := "NoonGuides", name := "many", desc := "(I)I" } : Jvm.MethodName) ({ cls := "NoonGuides", name := "many", desc := "(I)I" } : Jvm.MethodName)) ∈ tb := tw_i 519 (by decide +kernel) (by decide +kernel)
theorem t_520 : (Jvm.Cond.code ({ cls := "NoonGuides", name := "many", desc := "(I)I" } : Jvm.MethodName) prog_1_method_26_code (2 : Nat) (Option.some Jvm.ClassFile.FieldType.int)) ∈ tb := tw_i 520 (by decide +kernel) (by decide +kernel)
theorem t_561 : (Jvm.Cond.methodLink "NoonGuidesLaw" (160 : Nat) ({ cls := "NoonGuides", name := "roadOf", desc := "(II)I" } : Jvm.MethodName)) ∈ tb := tw_i 561 (by decide +kernel) (by decide +kernel)
theorem t_562 : (Jvm.Cond.instanceMethod ({ cls := "NoonGuides", name := "roadOf", desc := "(II)I" } : Jvm.MethodName)) ∈ tb := tw_i 562 (by decide +kernel) (by decide +kernel)
theorem t_563 : (Jvm.Cond.selects "NoonGuides" ({ cls := "NoonGuides", name := "roadOf", desc := "(II)I" } : Jvm.MethodName) ({ cls := "NoonGuides", name := "roadOf", desc := "(II)I" } : Jvm.MethodName)) ∈ tb := tw_i 563 (by decide +kernel) (by decide +kernel)
theorem t_564 : (Jvm.Cond.code ({ cls := "NoonGuides", name := "roadOf", desc := "(II)I" } : Jvm.MethodName) prog_1_method_28_code (3 : Nat) (Option.some Jvm.ClassFile.FieldType.int)) ∈ tb := tw_i 564 (by decide +kernel) (by decide +kernel)
theorem t_581 : (Jvm.Cond.methodLink "NoonGuidesLaw" (125 : Nat) ({ cls := "NoonGuides", name := "person", desc := "(II)I" } : Jvm.MethodName)) ∈ tb := tw_i 581 (by decide +kernel) (by decide +kernel)
theorem t_582 : (Jvm.Cond.instanceMethod ({ cls := "NoonGuides", name := "person", desc := "(II)I" } : Jvm.MethodName)) ∈ tb := tw_i 582 (by decide +kernel) (by decide +kernel)
theorem t_583 : (Jvm.Cond.selects "NoonGuides" ({ cls := "NoonGuides", name := "person", desc := "(II)I" } : Jvm.MethodName) ({ cls := "NoonGuides", name := "person", desc := "(II)I" } : Jvm.MethodName)) ∈ tb := tw_i 583 (by decide +kernel) (by decide +kernel)
theorem t_584 : (Jvm.Cond.code ({ cls := "NoonGuides", name := "person", desc := "(II)I" } : Jvm.MethodName) prog_1_method_29_code (4 : Nat) (Option.some Jvm.ClassFile.FieldType.int)) ∈ tb := tw_i 584 (by decide +kernel) (by decide +kernel)
theorem t_594 : (Jvm.Cond.methodLink "NoonGuidesLaw" (132 : Nat) ({ cls := "NoonGuides", name := "owes", desc := "(II)I" } : Jvm.MethodName)) ∈ tb := tw_i 594 (by decide +kernel) (by decide +kernel)
theorem t_595 : (Jvm.Cond.instanceMethod ({ cls := "NoonGuides", name := "owes", desc := "(II)I" } : Jvm.MethodName)) ∈ tb := tw_i 595 (by decide +kernel) (by decide +kernel)
theorem t_596 : (Jvm.Cond.selects "NoonGuides" ({ cls := "NoonGuides", name := "owes", desc := "(II)I" } : Jvm.MethodName) ({ cls := "NoonGuides", name := "owes", desc := "(II)I" } : Jvm.MethodName)) ∈ tb := tw_i 596 (by decide +kernel) (by decide +kernel)
theorem t_597 : (Jvm.Cond.code ({ cls := "NoonGuides", name := "owes", desc := "(II)I" } : Jvm.MethodName) prog_1_method_31_code (4 : Nat) (Option.some Jvm.ClassFile.FieldType.int)) ∈ tb := tw_i 597 (by decide +kernel) (by decide +kernel)
theorem t_602 : (Jvm.Cond.methodLink "NoonGuidesLaw" (122 : Nat) ({ cls := "NoonGuides", name := "net", desc := "(I)I" } : Jvm.MethodName)) ∈ tb := tw_i 602 (by decide +kernel) (by decide +kernel)
theorem t_603 : (Jvm.Cond.instanceMethod ({ cls := "NoonGuides", name := "net", desc := "(I)I" } : Jvm.MethodName)) ∈ tb := tw_i 603 (by decide +kernel) (by decide +kernel)
theorem t_604 : (Jvm.Cond.selects "NoonGuides" ({ cls := "NoonGuides", name := "net", desc := "(I)I" } : Jvm.MethodName) ({ cls := "NoonGuides", name := "net", desc := "(I)I" } : Jvm.MethodName)) ∈ tb := tw_i 604 (by decide +kernel) (by decide +kernel)
theorem t_605 : (Jvm.Cond.code ({ cls := "NoonGuides", name := "net", desc := "(I)I" } : Jvm.MethodName) prog_1_method_32_code (2 : Nat) (Option.some Jvm.ClassFile.FieldType.int)) ∈ tb := tw_i 605 (by decide +kernel) (by decide +kernel)
theorem t_610 : (Jvm.Cond.methodLink "NoonGuidesLaw" (168 : Nat) ({ cls := "NoonGuides", name := "passes", desc := "(I)I" } : Jvm.MethodName)) ∈ tb := tw_i 610 (by decide +kernel) (by decide +kernel)
theorem t_611 : (Jvm.Cond.instanceMethod ({ cls := "NoonGuides", name := "passes", desc := "(I)I" } : Jvm.MethodName)) ∈ tb := tw_i 611 (by decide +kernel) (by decide +kernel)
theorem t_612 : (Jvm.Cond.selects "NoonGuides" ({ cls := "NoonGuides", name := "passes", desc := "(I)I" } : Jvm.MethodName) ({ cls := "NoonGuides", name := "passes", desc := "(I)I" } : Jvm.MethodName)) ∈ tb := tw_i 612 (by decide +kernel) (by decide +kernel)
theorem t_613 : (Jvm.Cond.code ({ cls := "NoonGuides", name := "passes", desc := "(I)I" } : Jvm.MethodName) prog_1_method_35_code (3 : Nat) (Option.some Jvm.ClassFile.FieldType.int)) ∈ tb := tw_i 613 (by decide +kernel) (by decide +kernel)
theorem t_676 : (Jvm.Cond.methodLink "NoonGuidesLaw" (165 : Nat) ({ cls := "NoonGuides", name := "go", desc := "(II)I" } : Jvm.MethodName)) ∈ tb := tw_i 676 (by decide +kernel) (by decide +kernel)
theorem t_677 : (Jvm.Cond.instanceMethod ({ cls := "NoonGuides", name := "go", desc := "(II)I" } : Jvm.MethodName)) ∈ tb := tw_i 677 (by decide +kernel) (by decide +kernel)
theorem t_678 : (Jvm.Cond.selects "NoonGuides" ({ cls := "NoonGuides", name := "go", desc := "(II)I" } : Jvm.MethodName) ({ cls := "NoonGuides", name := "go", desc := "(II)I" } : Jvm.MethodName)) ∈ tb := tw_i 678 (by decide +kernel) (by decide +kernel)
theorem t_679 : (Jvm.Cond.code ({ cls := "NoonGuides", name := "go", desc := "(II)I" } : Jvm.MethodName) prog_1_method_36_code (4 : Nat) (Option.some Jvm.ClassFile.FieldType.int)) ∈ tb := tw_i 679 (by decide +kernel) (by decide +kernel)
theorem t_702 : (Jvm.Cond.methodLink "NoonGuidesLaw" (196 : Nat) ({ cls := "NoonGuides", name := "lead", desc := "(III)I" } : Jvm.MethodName)) ∈ tb := tw_i 702 (by decide +kernel) (by decide +kernel)
theorem t_703 : (Jvm.Cond.instanceMethod ({ cls := "NoonGuides", name := "lead", desc := "(III)I" } : Jvm.MethodName)) ∈ tb := tw_i 703 (by decide +kernel) (by decide +kernel)
theorem t_704 : (Jvm.Cond.selects "NoonGuides" ({ cls := "NoonGuides", name := "lead", desc := "(III)I" } : Jvm.MethodName) ({ cls := "NoonGuides", name := "lead", desc := "(III)I" } : Jvm.MethodName)) ∈ tb := tw_i 704 (by decide +kernel) (by decide +kernel)
theorem t_705 : (Jvm.Cond.code ({ cls := "NoonGuides", name := "lead", desc := "(III)I" } : Jvm.MethodName) prog_1_method_37_code (5 : Nat) (Option.some Jvm.ClassFile.FieldType.int)) ∈ tb := tw_i 705 (by decide +kernel) (by decide +kernel)
theorem t_716 : (Jvm.Cond.methodLink "NoonGuidesLaw" (199 : Nat) ({ cls := "NoonGuides", name := "cloud", desc := "(Z)Z" } : Jvm.MethodName)) ∈ tb := tw_i 716 (by decide +kernel) (by decide +kernel)
theorem t_717 : (Jvm.Cond.instanceMethod ({ cls := "NoonGuides", name := "cloud", desc := "(Z)Z" } : Jvm.MethodName)) ∈ tb := tw_i 717 (by decide +kernel) (by decide +kernel)
theorem t_718 : (Jvm.Cond.selects "NoonGuides" ({ cls := "NoonGuides", name := "cloud", desc := "(Z)Z" } : Jvm.MethodName) ({ cls := "NoonGuides", name := "cloud", desc := "(Z)Z" } : Jvm.MethodName)) ∈ tb := tw_i 718 (by decide +kernel) (by decide +kernel)
theorem t_719 : (Jvm.Cond.code ({ cls := "NoonGuides", name := "cloud", desc := "(Z)Z" } : Jvm.MethodName) prog_1_method_39_code (2 : Nat) (Option.some Jvm.ClassFile.FieldType.boolean)) ∈ tb := tw_i 719 (by decide +kernel) (by decide +kernel)
theorem t_728 : (Jvm.Cond.methodLink "NoonGuidesLaw" (150 : Nat) ({ cls := "NoonGuides", name := "plant", desc := "(IZ)Z" } : Jvm.MethodName)) ∈ tb := tw_i 728 (by decide +kernel) (by decide +kernel)
theorem t_729 : (Jvm.Cond.instanceMethod ({ cls := "NoonGuides", name := "plant", desc := "(IZ)Z" } : Jvm.MethodName)) ∈ tb := tw_i 729 (by decide +kernel) (by decide +kernel)
theorem t_730 : (Jvm.Cond.selects "NoonGuides" ({ cls := "NoonGuides", name := "plant", desc := "(IZ)Z" } : Jvm.MethodName) ({ cls := "NoonGuides", name := "plant", desc := "(IZ)Z" } : Jvm.MethodName)) ∈ tb := tw_i 730 (by decide +kernel) (by decide +kernel)
theorem t_731 : (Jvm.Cond.code ({ cls := "NoonGuides", name := "plant", desc := "(IZ)Z" } : Jvm.MethodName) prog_1_method_40_code (3 : Nat) (Option.some Jvm.ClassFile.FieldType.boolean)) ∈ tb := tw_i 731 (by decide +kernel) (by decide +kernel)
theorem t_733 : (Jvm.Cond.methodLink "NoonGuidesLaw" (163 : Nat) ({ cls := "NoonGuides", name := "can", desc := "(II)I" } : Jvm.MethodName)) ∈ tb := tw_i 733 (by decide +kernel) (by decide +kernel)
theorem t_734 : (Jvm.Cond.instanceMethod ({ cls := "NoonGuides", name := "can", desc := "(II)I" } : Jvm.MethodName)) ∈ tb := tw_i 734 (by decide +kernel) (by decide +kernel)
theorem t_735 : (Jvm.Cond.selects "NoonGuides" ({ cls := "NoonGuides", name := "can", desc := "(II)I" } : Jvm.MethodName) ({ cls := "NoonGuides", name := "can", desc := "(II)I" } : Jvm.MethodName)) ∈ tb := tw_i 735 (by decide +kernel) (by decide +kernel)
theorem t_736 : (Jvm.Cond.code ({ cls := "NoonGuides", name := "can", desc := "(II)I" } : Jvm.MethodName) prog_1_method_46_code (3 : Nat) (Option.some Jvm.ClassFile.FieldType.int)) ∈ tb := tw_i 736 (by decide +kernel) (by decide +kernel)
theorem t_738 : (Jvm.Cond.methodLink "NoonGuidesLaw" (119 : Nat) ({ cls := "NoonGuides", name := "stuck", desc := "()I" } : Jvm.MethodName)) ∈ tb := tw_i 738 (by decide +kernel) (by decide +kernel)
theorem t_739 : (Jvm.Cond.instanceMethod ({ cls := "NoonGuides", name := "stuck", desc := "()I" } : Jvm.MethodName)) ∈ tb := tw_i 739 (by decide +kernel) (by decide +kernel)
theorem t_740 : (Jvm.Cond.selects "NoonGuides" ({ cls := "NoonGuides", name := "stuck", desc := "()I" } : Jvm.MethodName) ({ cls := "NoonGuides", name := "stuck", desc := "()I" } : Jvm.MethodName)) ∈ tb := tw_i 740 (by decide +kernel) (by decide +kernel)
theorem t_741 : (Jvm.Cond.code ({ cls := "NoonGuides", name := "stuck", desc := "()I" } : Jvm.MethodName) prog_1_method_48_code (1 : Nat) (Option.some Jvm.ClassFile.FieldType.int)) ∈ tb := tw_i 741 (by decide +kernel) (by decide +kernel)
theorem t_750 : (Jvm.Cond.methodLink "NoonGuidesLaw" (135 : Nat) ({ cls := "NoonGuides", name := "reach", desc := "(I)I" } : Jvm.MethodName)) ∈ tb := tw_i 750 (by decide +kernel) (by decide +kernel)
theorem t_751 : (Jvm.Cond.instanceMethod ({ cls := "NoonGuides", name := "reach", desc := "(I)I" } : Jvm.MethodName)) ∈ tb := tw_i 751 (by decide +kernel) (by decide +kernel)
theorem t_752 : (Jvm.Cond.selects "NoonGuides" ({ cls := "NoonGuides", name := "reach", desc := "(I)I" } : Jvm.MethodName) ({ cls := "NoonGuides", name := "reach", desc := "(I)I" } : Jvm.MethodName)) ∈ tb := tw_i 752 (by decide +kernel) (by decide +kernel)
theorem t_753 : (Jvm.Cond.code ({ cls := "NoonGuides", name := "reach", desc := "(I)I" } : Jvm.MethodName) prog_1_method_49_code (3 : Nat) (Option.some Jvm.ClassFile.FieldType.int)) ∈ tb := tw_i 753 (by decide +kernel) (by decide +kernel)
theorem t_763 : (Jvm.Cond.methodLink "NoonGuidesLaw" (141 : Nat) ({ cls := "NoonGuides", name := "soonest", desc := "(II)I" } : Jvm.MethodName)) ∈ tb := tw_i 763 (by decide +kernel) (by decide +kernel)
theorem t_764 : (Jvm.Cond.instanceMethod ({ cls := "NoonGuides", name := "soonest", desc := "(II)I" } : Jvm.MethodName)) ∈ tb := tw_i 764 (by decide +kernel) (by decide +kernel)
theorem t_765 : (Jvm.Cond.selects "NoonGuides" ({ cls := "NoonGuides", name := "soonest", desc := "(II)I" } : Jvm.MethodName) ({ cls := "NoonGuides", name := "soonest", desc := "(II)I" } : Jvm.MethodName)) ∈ tb := tw_i 765 (by decide +kernel) (by decide +kernel)
theorem t_766 : (Jvm.Cond.code ({ cls := "NoonGuides", name := "soonest", desc := "(II)I" } : Jvm.MethodName) prog_1_method_52_code (4 : Nat) (Option.some Jvm.ClassFile.FieldType.int)) ∈ tb := tw_i 766 (by decide +kernel) (by decide +kernel)
theorem t_801 : (Jvm.Cond.methodLink "NoonGuidesLaw" (157 : Nat) ({ cls := "NoonGuides", name := "soonestFirst", desc := "(II)I" } : Jvm.MethodName)) ∈ tb := tw_i 801 (by decide +kernel) (by decide +kernel)
theorem t_802 : (Jvm.Cond.instanceMethod ({ cls := "NoonGuides", name := "soonestFirst", desc := "(II)I" } : Jvm.MethodName)) ∈ tb := tw_i 802 (by decide +kernel) (by decide +kernel)
theorem t_803 : (Jvm.Cond.selects "NoonGuides" ({ cls := "NoonGuides", name := "soonestFirst", desc := "(II)I" } : Jvm.MethodName) ({ cls := "NoonGuides", name := "soonestFirst", desc := "(II)I" } : Jvm.MethodName)) ∈ tb := tw_i 803 (by decide +kernel) (by decide +kernel)
theorem t_804 : (Jvm.Cond.code ({ cls := "NoonGuides", name := "soonestFirst", desc := "(II)I" } : Jvm.MethodName) prog_1_method_53_code (4 : Nat) (Option.some Jvm.ClassFile.FieldType.int)) ∈ tb := tw_i 804 (by decide +kernel) (by decide +kernel)
theorem t_811 : (Jvm.Cond.methodLink "NoonGuidesLaw" (177 : Nat) ({ cls := "NoonGuides", name := "soonestTwo", desc := "(III)I" } : Jvm.MethodName)) ∈ tb := tw_i 811 (by decide +kernel) (by decide +kernel)
theorem t_812 : (Jvm.Cond.instanceMethod ({ cls := "NoonGuides", name := "soonestTwo", desc := "(III)I" } : Jvm.MethodName)) ∈ tb := tw_i 812 (by decide +kernel) (by decide +kernel)
theorem t_813 : (Jvm.Cond.selects "NoonGuides" ({ cls := "NoonGuides", name := "soonestTwo", desc := "(III)I" } : Jvm.MethodName) ({ cls := "NoonGuides", name := "soonestTwo", desc := "(III)I" } : Jvm.MethodName)) ∈ tb := tw_i 813 (by decide +kernel) (by decide +kernel)
theorem t_814 : (Jvm.Cond.code ({ cls := "NoonGuides", name := "soonestTwo", desc := "(III)I" } : Jvm.MethodName) prog_1_method_54_code (5 : Nat) (Option.some Jvm.ClassFile.FieldType.int)) ∈ tb := tw_i 814 (by decide +kernel) (by decide +kernel)
theorem t_822 : (Jvm.Cond.methodLink "NoonGuidesLaw" (171 : Nat) ({ cls := "NoonGuides", name := "meet", desc := "(II)I" } : Jvm.MethodName)) ∈ tb := tw_i 822 (by decide +kernel) (by decide +kernel)
theorem t_823 : (Jvm.Cond.instanceMethod ({ cls := "NoonGuides", name := "meet", desc := "(II)I" } : Jvm.MethodName)) ∈ tb := tw_i 823 (by decide +kernel) (by decide +kernel)
theorem t_824 : (Jvm.Cond.selects "NoonGuides" ({ cls := "NoonGuides", name := "meet", desc := "(II)I" } : Jvm.MethodName) ({ cls := "NoonGuides", name := "meet", desc := "(II)I" } : Jvm.MethodName)) ∈ tb := tw_i 824 (by decide +kernel) (by decide +kernel)
theorem t_825 : (Jvm.Cond.code ({ cls := "NoonGuides", name := "meet", desc := "(II)I" } : Jvm.MethodName) prog_1_method_55_code (4 : Nat) (Option.some Jvm.ClassFile.FieldType.int)) ∈ tb := tw_i 825 (by decide +kernel) (by decide +kernel)
theorem t_834 : (Jvm.Cond.methodLink "NoonGuidesLaw" (174 : Nat) ({ cls := "NoonGuides", name := "meetIn", desc := "(II)I" } : Jvm.MethodName)) ∈ tb := tw_i 834 (by decide +kernel) (by decide +kernel)
theorem t_835 : (Jvm.Cond.instanceMethod ({ cls := "NoonGuides", name := "meetIn", desc := "(II)I" } : Jvm.MethodName)) ∈ tb := tw_i 835 (by decide +kernel) (by decide +kernel)
theorem t_836 : (Jvm.Cond.selects "NoonGuides" ({ cls := "NoonGuides", name := "meetIn", desc := "(II)I" } : Jvm.MethodName) ({ cls := "NoonGuides", name := "meetIn", desc := "(II)I" } : Jvm.MethodName)) ∈ tb := tw_i 836 (by decide +kernel) (by decide +kernel)
theorem t_837 : (Jvm.Cond.code ({ cls := "NoonGuides", name := "meetIn", desc := "(II)I" } : Jvm.MethodName) prog_1_method_56_code (4 : Nat) (Option.some Jvm.ClassFile.FieldType.int)) ∈ tb := tw_i 837 (by decide +kernel) (by decide +kernel)
theorem t_838 : (Jvm.Cond.methodLink "NoonGuidesLaw" (144 : Nat) ({ cls := "NoonGuides", name := "plantSet", desc := "(II)I" } : Jvm.MethodName)) ∈ tb := tw_i 838 (by decide +kernel) (by decide +kernel)
theorem t_839 : (Jvm.Cond.instanceMethod ({ cls := "NoonGuides", name := "plantSet", desc := "(II)I" } : Jvm.MethodName)) ∈ tb := tw_i 839 (by decide +kernel) (by decide +kernel)
theorem t_840 : (Jvm.Cond.selects "NoonGuides" ({ cls := "NoonGuides", name := "plantSet", desc := "(II)I" } : Jvm.MethodName) ({ cls := "NoonGuides", name := "plantSet", desc := "(II)I" } : Jvm.MethodName)) ∈ tb := tw_i 840 (by decide +kernel) (by decide +kernel)
theorem t_841 : (Jvm.Cond.code ({ cls := "NoonGuides", name := "plantSet", desc := "(II)I" } : Jvm.MethodName) prog_1_method_58_code (5 : Nat) (Option.some Jvm.ClassFile.FieldType.int)) ∈ tb := tw_i 841 (by decide +kernel) (by decide +kernel)
theorem t_851 : (Jvm.Cond.methodLink "NoonGuidesLaw" (129 : Nat) ({ cls := "NoonGuides", name := "pair", desc := "(I)I" } : Jvm.MethodName)) ∈ tb := tw_i 851 (by decide +kernel) (by decide +kernel)
theorem t_852 : (Jvm.Cond.instanceMethod ({ cls := "NoonGuides", name := "pair", desc := "(I)I" } : Jvm.MethodName)) ∈ tb := tw_i 852 (by decide +kernel) (by decide +kernel)
theorem t_853 : (Jvm.Cond.selects "NoonGuides" ({ cls := "NoonGuides", name := "pair", desc := "(I)I" } : Jvm.MethodName) ({ cls := "NoonGuides", name := "pair", desc := "(I)I" } : Jvm.MethodName)) ∈ tb := tw_i 853 (by decide +kernel) (by decide +kernel)
theorem t_854 : (Jvm.Cond.code ({ cls := "NoonGuides", name := "pair", desc := "(I)I" } : Jvm.MethodName) prog_1_method_63_code (2 : Nat) (Option.some Jvm.ClassFile.FieldType.int)) ∈ tb := tw_i 854 (by decide +kernel) (by decide +kernel)
theorem t_866 : (Jvm.Cond.methodLink "NoonGuidesLaw" (181 : Nat) ({ cls := "NoonGuides", name := "pairs", desc := "()I" } : Jvm.MethodName)) ∈ tb := tw_i 866 (by decide +kernel) (by decide +kernel)
theorem t_867 : (Jvm.Cond.instanceMethod ({ cls := "NoonGuides", name := "pairs", desc := "()I" } : Jvm.MethodName)) ∈ tb := tw_i 867 (by decide +kernel) (by decide +kernel)
theorem t_868 : (Jvm.Cond.selects "NoonGuides" ({ cls := "NoonGuides", name := "pairs", desc := "()I" } : Jvm.MethodName) ({ cls := "NoonGuides", name := "pairs", desc := "()I" } : Jvm.MethodName)) ∈ tb := tw_i 868 (by decide +kernel) (by decide +kernel)
theorem t_869 : (Jvm.Cond.code ({ cls := "NoonGuides", name := "pairs", desc := "()I" } : Jvm.MethodName) prog_1_method_64_code (1 : Nat) (Option.some Jvm.ClassFile.FieldType.int)) ∈ tb := tw_i 869 (by decide +kernel) (by decide +kernel)
theorem t_874 : (Jvm.Cond.methodLink "NoonGuidesLaw" (184 : Nat) ({ cls := "NoonGuides", name := "pairsOwe", desc := "()I" } : Jvm.MethodName)) ∈ tb := tw_i 874 (by decide +kernel) (by decide +kernel)
theorem t_875 : (Jvm.Cond.instanceMethod ({ cls := "NoonGuides", name := "pairsOwe", desc := "()I" } : Jvm.MethodName)) ∈ tb := tw_i 875 (by decide +kernel) (by decide +kernel)
theorem t_876 : (Jvm.Cond.selects "NoonGuides" ({ cls := "NoonGuides", name := "pairsOwe", desc := "()I" } : Jvm.MethodName) ({ cls := "NoonGuides", name := "pairsOwe", desc := "()I" } : Jvm.MethodName)) ∈ tb := tw_i 876 (by decide +kernel) (by decide +kernel)
theorem t_877 : (Jvm.Cond.code ({ cls := "NoonGuides", name := "pairsOwe", desc := "()I" } : Jvm.MethodName) prog_1_method_65_code (1 : Nat) (Option.some Jvm.ClassFile.FieldType.int)) ∈ tb := tw_i 877 (by decide +kernel) (by decide +kernel)
theorem t_885 : (Jvm.Cond.methodLink "NoonGuidesLaw" (187 : Nat) ({ cls := "NoonGuides", name := "lostIn", desc := "(I)I" } : Jvm.MethodName)) ∈ tb := tw_i 885 (by decide +kernel) (by decide +kernel)
theorem t_886 : (Jvm.Cond.instanceMethod ({ cls := "NoonGuides", name := "lostIn", desc := "(I)I" } : Jvm.MethodName)) ∈ tb := tw_i 886 (by decide +kernel) (by decide +kernel)
theorem t_887 : (Jvm.Cond.selects "NoonGuides" ({ cls := "NoonGuides", name := "lostIn", desc := "(I)I" } : Jvm.MethodName) ({ cls := "NoonGuides", name := "lostIn", desc := "(I)I" } : Jvm.MethodName)) ∈ tb := tw_i 887 (by decide +kernel) (by decide +kernel)
theorem t_888 : (Jvm.Cond.code ({ cls := "NoonGuides", name := "lostIn", desc := "(I)I" } : Jvm.MethodName) prog_1_method_70_code (2 : Nat) (Option.some Jvm.ClassFile.FieldType.int)) ∈ tb := tw_i 888 (by decide +kernel) (by decide +kernel)
theorem t_893 : (Jvm.Cond.methodLink "NoonGuidesLaw" (190 : Nat) ({ cls := "NoonGuides", name := "lostBy", desc := "(III)I" } : Jvm.MethodName)) ∈ tb := tw_i 893 (by decide +kernel) (by decide +kernel)
theorem t_894 : (Jvm.Cond.instanceMethod ({ cls := "NoonGuides", name := "lostBy", desc := "(III)I" } : Jvm.MethodName)) ∈ tb := tw_i 894 (by decide +kernel) (by decide +kernel)
theorem t_895 : (Jvm.Cond.selects "NoonGuides" ({ cls := "NoonGuides", name := "lostBy", desc := "(III)I" } : Jvm.MethodName) ({ cls := "NoonGuides", name := "lostBy", desc := "(III)I" } : Jvm.MethodName)) ∈ tb := tw_i 895 (by decide +kernel) (by decide +kernel)
theorem t_896 : (Jvm.Cond.code ({ cls := "NoonGuides", name := "lostBy", desc := "(III)I" } : Jvm.MethodName) prog_1_method_71_code (4 : Nat) (Option.some Jvm.ClassFile.FieldType.int)) ∈ tb := tw_i 896 (by decide +kernel) (by decide +kernel)
theorem t_904 : (Jvm.Cond.methodLink "NoonGuidesLaw" (193 : Nat) ({ cls := "NoonGuides", name := "bestFrom", desc := "(I)I" } : Jvm.MethodName)) ∈ tb := tw_i 904 (by decide +kernel) (by decide +kernel)
theorem t_905 : (Jvm.Cond.instanceMethod ({ cls := "NoonGuides", name := "bestFrom", desc := "(I)I" } : Jvm.MethodName)) ∈ tb := tw_i 905 (by decide +kernel) (by decide +kernel)
theorem t_906 : (Jvm.Cond.selects "NoonGuides" ({ cls := "NoonGuides", name := "bestFrom", desc := "(I)I" } : Jvm.MethodName) ({ cls := "NoonGuides", name := "bestFrom", desc := "(I)I" } : Jvm.MethodName)) ∈ tb := tw_i 906 (by decide +kernel) (by decide +kernel)
theorem t_907 : (Jvm.Cond.code ({ cls := "NoonGuides", name := "bestFrom", desc := "(I)I" } : Jvm.MethodName) prog_1_method_72_code (7 : Nat) (Option.some Jvm.ClassFile.FieldType.int)) ∈ tb := tw_i 907 (by decide +kernel) (by decide +kernel)
theorem t_909 : (Jvm.Cond.methodLink "NoonGuidesLaw" (147 : Nat) ({ cls := "NoonGuides", name := "mark", desc := "()I" } : Jvm.MethodName)) ∈ tb := tw_i 909 (by decide +kernel) (by decide +kernel)
theorem t_910 : (Jvm.Cond.instanceMethod ({ cls := "NoonGuides", name := "mark", desc := "()I" } : Jvm.MethodName)) ∈ tb := tw_i 910 (by decide +kernel) (by decide +kernel)
theorem t_911 : (Jvm.Cond.selects "NoonGuides" ({ cls := "NoonGuides", name := "mark", desc := "()I" } : Jvm.MethodName) ({ cls := "NoonGuides", name := "mark", desc := "()I" } : Jvm.MethodName)) ∈ tb := tw_i 911 (by decide +kernel) (by decide +kernel)
theorem t_912 : (Jvm.Cond.code ({ cls := "NoonGuides", name := "mark", desc := "()I" } : Jvm.MethodName) prog_1_method_77_code (1 : Nat) (Option.some Jvm.ClassFile.FieldType.int)) ∈ tb := tw_i 912 (by decide +kernel) (by decide +kernel)
theorem t_929 : (Jvm.Cond.methodLink "NoonGuidesLaw" (154 : Nat) ({ cls := "NoonGuides", name := "back", desc := "()I" } : Jvm.MethodName)) ∈ tb := tw_i 929 (by decide +kernel) (by decide +kernel)
theorem t_930 : (Jvm.Cond.instanceMethod ({ cls := "NoonGuides", name := "back", desc := "()I" } : Jvm.MethodName)) ∈ tb := tw_i 930 (by decide +kernel) (by decide +kernel)
theorem t_931 : (Jvm.Cond.selects "NoonGuides" ({ cls := "NoonGuides", name := "back", desc := "()I" } : Jvm.MethodName) ({ cls := "NoonGuides", name := "back", desc := "()I" } : Jvm.MethodName)) ∈ tb := tw_i 931 (by decide +kernel) (by decide +kernel)
theorem t_932 : (Jvm.Cond.code ({ cls := "NoonGuides", name := "back", desc := "()I" } : Jvm.MethodName) prog_1_method_78_code (1 : Nat) (Option.some Jvm.ClassFile.FieldType.int)) ∈ tb := tw_i 932 (by decide +kernel) (by decide +kernel)
theorem t_933 : (Jvm.Cond.methodLink "NoonGuidesLaw" (112 : Nat) ({ cls := "NoonGuidesLaw", name := "lay", desc := "(LNoonGuides;[I[I)Z" } : Jvm.MethodName)) ∈ tb := tw_i 933 (by decide +kernel) (by decide +kernel)
theorem t_934 : (Jvm.Cond.static ({ cls := "NoonGuidesLaw", name := "lay", desc := "(LNoonGuides;[I[I)Z" } : Jvm.MethodName)) ∈ tb := tw_i 934 (by decide +kernel) (by decide +kernel)
theorem t_935 : (Jvm.Cond.code ({ cls := "NoonGuidesLaw", name := "lay", desc := "(LNoonGuides;[I[I)Z" } : Jvm.MethodName) method_9_code (5 : Nat) (Option.some Jvm.ClassFile.FieldType.boolean)) ∈ tb := tw_i 935 (by decide +kernel) (by decide +kernel)
theorem t_937 : (Jvm.Cond.methodLink "NoonGuidesLaw" (45 : Nat) ({ cls := "NoonGuidesLaw", name := "say", desc := "(LNoonGuides;[ILjava/lang/String;)V" } : Jvm.MethodName)) ∈ tb := tw_i 937 (by decide +kernel) (by decide +kernel)
theorem t_938 : (Jvm.Cond.static ({ cls := "NoonGuidesLaw", name := "say", desc := "(LNoonGuides;[ILjava/lang/String;)V" } : Jvm.MethodName)) ∈ tb := tw_i 938 (by decide +kernel) (by decide +kernel)
theorem t_939 : (Jvm.Cond.code ({ cls := "NoonGuidesLaw", name := "say", desc := "(LNoonGuides;[ILjava/lang/String;)V" } : Jvm.MethodName) method_5_code (4 : Nat) (Option.none : Option Jvm.ClassFile.FieldType)) ∈ tb := tw_i 939 (by decide +kernel) (by decide +kernel)
theorem t_940 : (Jvm.Cond.methodLink "NoonGuidesLaw" (22 : Nat) ({ cls := "java/lang/String", name := "length", desc := "()I" } : Jvm.MethodName)) ∈ tb := tw_i 940 (by decide +kernel) (by decide +kernel)
theorem t_941 : (Jvm.Cond.methodLink "NoonGuidesLaw" (28 : Nat) ({ cls := "java/lang/String", name := "charAt", desc := "(I)C" } : Jvm.MethodName)) ∈ tb := tw_i 941 (by decide +kernel) (by decide +kernel)
theorem t_942 : (Jvm.Cond.methodLink "NoonGuidesLaw" (32 : Nat) ({ cls := "NoonGuidesLaw", name := "put", desc := "(LNoonGuides;[II)V" } : Jvm.MethodName)) ∈ tb := tw_i 942 (by decide +kernel) (by decide +kernel)
theorem t_943 : (Jvm.Cond.static ({ cls := "NoonGuidesLaw", name := "put", desc := "(LNoonGuides;[II)V" } : Jvm.MethodName)) ∈ tb := tw_i 943 (by decide +kernel) (by decide +kernel)
theorem t_944 : (Jvm.Cond.code ({ cls := "NoonGuidesLaw", name := "put", desc := "(LNoonGuides;[II)V" } : Jvm.MethodName) method_2_code (3 : Nat) (Option.none : Option Jvm.ClassFile.FieldType)) ∈ tb := tw_i 944 (by decide +kernel) (by decide +kernel)
theorem t_945 : (Jvm.Cond.methodLink "NoonGuidesLaw" (7 : Nat) ({ cls := "NoonGuidesLaw", name := "feed", desc := "(LNoonGuides;[I)V" } : Jvm.MethodName)) ∈ tb := tw_i 945 (by decide +kernel) (by decide +kernel)
theorem t_946 : (Jvm.Cond.static ({ cls := "NoonGuidesLaw", name := "feed", desc := "(LNoonGuides;[I)V" } : Jvm.MethodName)) ∈ tb := tw_i 946 (by decide +kernel) (by decide +kernel)
theorem t_947 : (Jvm.Cond.code ({ cls := "NoonGuidesLaw", name := "feed", desc := "(LNoonGuides;[I)V" } : Jvm.MethodName) method_3_code (3 : Nat) (Option.none : Option Jvm.ClassFile.FieldType)) ∈ tb := tw_i 947 (by decide +kernel) (by decide +kernel)
theorem t_948 : (Jvm.Cond.methodLink "NoonGuidesLaw" (13 : Nat) ({ cls := "NoonGuidesLaw", name := "four", desc := "([II)I" } : Jvm.MethodName)) ∈ tb := tw_i 948 (by decide +kernel) (by decide +kernel)
theorem t_949 : (Jvm.Cond.static ({ cls := "NoonGuidesLaw", name := "four", desc := "([II)I" } : Jvm.MethodName)) ∈ tb := tw_i 949 (by decide +kernel) (by decide +kernel)
theorem t_950 : (Jvm.Cond.code ({ cls := "NoonGuidesLaw", name := "four", desc := "([II)I" } : Jvm.MethodName) method_4_code (2 : Nat) (Option.some Jvm.ClassFile.FieldType.int)) ∈ tb := tw_i 950 (by decide +kernel) (by decide +kernel)
theorem t_951 : (Jvm.Cond.methodLink "NoonGuidesLaw" (17 : Nat) ({ cls := "NoonGuides", name := "feed", desc := "(IIIII)I" } : Jvm.MethodName)) ∈ tb := tw_i 951 (by decide +kernel) (by decide +kernel)
theorem t_952 : (Jvm.Cond.instanceMethod ({ cls := "NoonGuides", name := "feed", desc := "(IIIII)I" } : Jvm.MethodName)) ∈ tb := tw_i 952 (by decide +kernel) (by decide +kernel)
theorem t_953 : (Jvm.Cond.selects "NoonGuides" ({ cls := "NoonGuides", name := "feed", desc := "(IIIII)I" } : Jvm.MethodName) ({ cls := "NoonGuides", name := "feed", desc := "(IIIII)I" } : Jvm.MethodName)) ∈ tb := tw_i 953 (by decide +kernel) (by decide +kernel)
theorem t_954 : (Jvm.Cond.code ({ cls := "NoonGuides", name := "feed", desc := "(IIIII)I" } : Jvm.MethodName) prog_1_method_20_code (6 : Nat) (Option.some Jvm.ClassFile.FieldType.int)) ∈ tb := tw_i 954 (by decide +kernel) (by decide +kernel)
theorem t_959 : (Jvm.Cond.methodLink "NoonGuidesLaw" (49 : Nat) ({ cls := "NoonGuidesLaw", name := "number", desc := "(LNoonGuides;[II)V" } : Jvm.MethodName)) ∈ tb := tw_i 959 (by decide +kernel) (by decide +kernel)
theorem t_960 : (Jvm.Cond.static ({ cls := "NoonGuidesLaw", name := "number", desc := "(LNoonGuides;[II)V" } : Jvm.MethodName)) ∈ tb := tw_i 960 (by decide +kernel) (by decide +kernel)
theorem t_961 : (Jvm.Cond.code ({ cls := "NoonGuidesLaw", name := "number", desc := "(LNoonGuides;[II)V" } : Jvm.MethodName) method_7_code (3 : Nat) (Option.none : Option Jvm.ClassFile.FieldType)) ∈ tb := tw_i 961 (by decide +kernel) (by decide +kernel)
theorem t_969 : (Jvm.Cond.methodLink "NoonGuidesLaw" (66 : Nat) ({ cls := "NoonGuidesLaw", name := "name", desc := "(LNoonGuides;[III)V" } : Jvm.MethodName)) ∈ tb := tw_i 969 (by decide +kernel) (by decide +kernel)
theorem t_970 : (Jvm.Cond.static ({ cls := "NoonGuidesLaw", name := "name", desc := "(LNoonGuides;[III)V" } : Jvm.MethodName)) ∈ tb := tw_i 970 (by decide +kernel) (by decide +kernel)
theorem t_971 : (Jvm.Cond.code ({ cls := "NoonGuidesLaw", name := "name", desc := "(LNoonGuides;[III)V" } : Jvm.MethodName) method_8_code (4 : Nat) (Option.none : Option Jvm.ClassFile.FieldType)) ∈ tb := tw_i 971 (by decide +kernel) (by decide +kernel)
theorem t_980 : (Jvm.Cond.methodLink "NoonGuidesLaw" (86 : Nat) ({ cls := "NoonGuidesLaw", name := "load", desc := "(LNoonGuides;[I)I" } : Jvm.MethodName)) ∈ tb := tw_i 980 (by decide +kernel) (by decide +kernel)
theorem t_981 : (Jvm.Cond.static ({ cls := "NoonGuidesLaw", name := "load", desc := "(LNoonGuides;[I)I" } : Jvm.MethodName)) ∈ tb := tw_i 981 (by decide +kernel) (by decide +kernel)
theorem t_982 : (Jvm.Cond.code ({ cls := "NoonGuidesLaw", name := "load", desc := "(LNoonGuides;[I)I" } : Jvm.MethodName) method_6_code (3 : Nat) (Option.some Jvm.ClassFile.FieldType.int)) ∈ tb := tw_i 982 (by decide +kernel) (by decide +kernel)
theorem t_983 : (Jvm.Cond.methodLink "NoonGuidesLaw" (36 : Nat) ({ cls := "NoonGuides", name := "land", desc := "(I)I" } : Jvm.MethodName)) ∈ tb := tw_i 983 (by decide +kernel) (by decide +kernel)
theorem t_984 : (Jvm.Cond.instanceMethod ({ cls := "NoonGuides", name := "land", desc := "(I)I" } : Jvm.MethodName)) ∈ tb := tw_i 984 (by decide +kernel) (by decide +kernel)
theorem t_985 : (Jvm.Cond.selects "NoonGuides" ({ cls := "NoonGuides", name := "land", desc := "(I)I" } : Jvm.MethodName) ({ cls := "NoonGuides", name := "land", desc := "(I)I" } : Jvm.MethodName)) ∈ tb := tw_i 985 (by decide +kernel) (by decide +kernel)
theorem t_986 : (Jvm.Cond.code ({ cls := "NoonGuides", name := "land", desc := "(I)I" } : Jvm.MethodName) prog_1_method_22_code (4 : Nat) (Option.some Jvm.ClassFile.FieldType.int)) ∈ tb := tw_i 986 (by decide +kernel) (by decide +kernel)
theorem t_1182 : (Jvm.Cond.methodLink "NoonGuidesLaw" (40 : Nat) ({ cls := "NoonGuides", name := "days", desc := "(I)I" } : Jvm.MethodName)) ∈ tb := tw_i 1182 (by decide +kernel) (by decide +kernel)
theorem t_1183 : (Jvm.Cond.instanceMethod ({ cls := "NoonGuides", name := "days", desc := "(I)I" } : Jvm.MethodName)) ∈ tb := tw_i 1183 (by decide +kernel) (by decide +kernel)
theorem t_1184 : (Jvm.Cond.selects "NoonGuides" ({ cls := "NoonGuides", name := "days", desc := "(I)I" } : Jvm.MethodName) ({ cls := "NoonGuides", name := "days", desc := "(I)I" } : Jvm.MethodName)) ∈ tb := tw_i 1184 (by decide +kernel) (by decide +kernel)
theorem t_1185 : (Jvm.Cond.code ({ cls := "NoonGuides", name := "days", desc := "(I)I" } : Jvm.MethodName) prog_1_method_23_code (4 : Nat) (Option.some Jvm.ClassFile.FieldType.int)) ∈ tb := tw_i 1185 (by decide +kernel) (by decide +kernel)
theorem t_1277 : (Jvm.Cond.methodLink "NoonGuidesLaw" (108 : Nat) ({ cls := "NoonGuidesLaw", name := "draw", desc := "([I[I)V" } : Jvm.MethodName)) ∈ tb := tw_i 1277 (by decide +kernel) (by decide +kernel)
theorem t_1278 : (Jvm.Cond.static ({ cls := "NoonGuidesLaw", name := "draw", desc := "([I[I)V" } : Jvm.MethodName)) ∈ tb := tw_i 1278 (by decide +kernel) (by decide +kernel)
theorem t_1279 : (Jvm.Cond.code ({ cls := "NoonGuidesLaw", name := "draw", desc := "([I[I)V" } : Jvm.MethodName) method_10_code (6 : Nat) (Option.none : Option Jvm.ClassFile.FieldType)) ∈ tb := tw_i 1279 (by decide +kernel) (by decide +kernel)
theorem t_1280 : (Jvm.Cond.methodLink "NoonGuidesLaw" (138 : Nat) ({ cls := "NoonGuidesLaw", name := "size", desc := "(I)I" } : Jvm.MethodName)) ∈ tb := tw_i 1280 (by decide +kernel) (by decide +kernel)
theorem t_1281 : (Jvm.Cond.static ({ cls := "NoonGuidesLaw", name := "size", desc := "(I)I" } : Jvm.MethodName)) ∈ tb := tw_i 1281 (by decide +kernel) (by decide +kernel)
theorem t_1282 : (Jvm.Cond.code ({ cls := "NoonGuidesLaw", name := "size", desc := "(I)I" } : Jvm.MethodName) method_18_code (3 : Nat) (Option.some Jvm.ClassFile.FieldType.int)) ∈ tb := tw_i 1282 (by decide +kernel) (by decide +kernel)
def swI : List Nat := [43, 52, 54, 56, 58, 60, 62, 64, 70, 72, 74, 76, 78, 80, 82, 84]
def swT : List String := ["glare", " to", ";clock", ";rope", ";habit", ";odds", ";", "place", "road", " minutes", " smells;", "blind", "sighted", " at", " glasses;", "knows"]
/-- the script and the law's strings, which no object of ours is -/
def KWS (z b Ln : Nat) (xs : Nat → Int32) (aK aV : Nat → Nat) (U : State) (H : Heap) : Prop := (va_X b Ln xs U H ∧ b < z) ∧ (∀ i, i < 16 → vk_R "NoonGuidesLaw" (swI.getD i 0) (swT.getD i "") (aK i) U) ∧ vk_S 16 swL swB aK aV (fun q => z ≤ q) U H ∧ va_Z "java/lang/String" "COMPACT_STRINGS" "Z" (.int 1) (fun q => z ≤ q) U H ∧ va_Zq "jdk/internal/util/Preconditions" "SIOOBE_FORMATTER" "Ljava/util/function/BiFunction;" (fun q => z ≤ q) U H
theorem KWS.warm {z : Nat} {b Ln : Nat} {xs : Nat → Int32} {aK aV : Nat → Nat} {s U : State} {H : Heap} (h : KWS z b Ln xs aK aV s H) (hW : s.WarmedH U.vm) : KWS z b Ln xs aK aV U H :=
  ⟨⟨va_X.moved hW.alike h.1.1, h.1.2⟩, fun i hi => vk_R.warm hW (h.2.1 i hi), vk_S.moved hW.alike h.2.2.1, va_Z.moved hW.alike h.2.2.2.1, va_Zq.moved hW.alike h.2.2.2.2⟩
theorem KWS.same {z : Nat} {b Ln : Nat} {xs : Nat → Int32} {aK aV : Nat → Nat} {u U : State} (h : KWS z b Ln xs aK aV u u.heap) (hv : U.vm = u.vm) (hh : U.heap = u.heap := by rfl) : KWS z b Ln xs aK aV U U.heap := by
  rw [hh]
  exact ⟨⟨va_X.moved (by rw [hv]; exact Vm.Alike.refl u.vm) h.1.1, h.1.2⟩, fun i hi => vk_R.same hv (h.2.1 i hi), vk_S.moved (by rw [hv]; exact Vm.Alike.refl u.vm) h.2.2.1, va_Z.moved (by rw [hv]; exact Vm.Alike.refl u.vm) h.2.2.2.1, va_Zq.moved (by rw [hv]; exact Vm.Alike.refl u.vm) h.2.2.2.2⟩
theorem KWS.kept {z : Nat} {b Ln : Nat} {xs : Nat → Int32} {aK aV : Nat → Nat} {s : State} {H H1 : Heap} {locs : List Loc} (h : KWS z b Ln xs aK aV s H) (hz : z ≤ H.size) (hS : va_S (fun q => z ≤ q) H H1 locs) : KWS z b Ln xs aK aV s H1 :=
  ⟨⟨h.1.1.kept (hS.2.1 b (Nat.lt_of_lt_of_le h.1.2 hz) (Nat.not_le.mpr h.1.2)), h.1.2⟩, h.2.1, h.2.2.1.kept hS.2.1, h.2.2.2.1.kept hS.2.1, h.2.2.2.2.kept hS.2.1⟩
def KWx (b Ln : Nat) (xs : Nat → Int32) (aK aV : Nat → Nat) (x : KX) : Prop := match x with
  | (p, l, e, R, s, m, args, below, meth, c, D, z, n, k1, k2, Q) => KWS z b Ln xs aK aV s s.heap
/-- a method's contract, with the strings and the script beside -/
def KC2 (l : Launch) (ad : Nat → Nat) (cy : Nat → ClassId) (D : va_G) (z b Ln : Nat) (xs : Nat → Int32) (aK aV : Nat → Nat) (y : MethodName) (cc : ByteArray) (nL : Nat) (ret : Option FieldType) (d : Nat) (av : List Value) (M : KM) (o : KO) : Prop :=
  Met l y (Cond.code y cc nL ret :: tb) (krm d) (va_Pc av (fun U => KR ad D cy M U.heap ∧ va_K D vwCl (ktys cy) U ∧ KA ad z ∧ z ≤ U.heap.size ∧ KWS z b Ln xs aK aV U U.heap)) (KQ ad cy D z o) 0 0 (fun q => z ≤ q)
theorem kv_enter2 {l : Launch} {ad : Nat → Nat} {cy : Nat → ClassId} {D : va_G} {z : Nat} {b Ln : Nat} {xs : Nat → Int32} {aK aV : Nat → Nat} {y : MethodName} {cc : ByteArray} {nL : Nat} {ret : Option FieldType} {d : Nat} {av : List Value} {M : KM} {o : KO} (hy : plainName y.cls = true) (hl : (lg_sl av).length ≤ nL)
    (body : ∀ x : KX, x.2.1 = l → x.2.2.2.2.2.2.2.2.2.2.1 = D → x.2.2.2.2.2.2.2.2.2.2.2.1 = z → KG ad cy x cc y.cls nL (some ret) d → KWx b Ln xs aK aV x → KV ad cy x o 0 (lv_args 0 av) [] M) : KC2 l ad cy D z b Ln xs aK aV y cc nL ret d av M o := by
  refine Met.ofW (cc := cc) (maxL := nL) (ret := ret) hy rfl ?_
  intro p e s m args below meth c s₁ B hml hv
  obtain ⟨rfl, hR, hK, hA, hz, hW⟩ := hv
  have hts := atoms_spec (ws := Cond.code y cc nL ret :: tb) B.pre
  have h1 := body (p, l, e, krm d, s, m, av.toArray, below, meth, c, D, z, nL, 0, 0, fun o => MQ below (KQ ad cy D z o) av.toArray s 0 0 (fun q => z ≤ q)) rfl rfl rfl ⟨B.exec, B.bytes, hml, rfl, findClass_of_methodNamed B.named, fun r hr => by cases hr; exact ⟨B.returns, rfl⟩, B.notSynchronized, fun w hw => hts w (List.mem_cons_of_mem _ hw), hK, hA, ⟨Nat.le_refl _, Nat.le_refl _, Nat.le_refl _⟩, Nat.le_refl _, hz⟩ hW
  rw [lg_entry_eq]
  exact h1 s.heap [] _ hR va_S.rf (lv_entry av hl)
theorem kc2_blind {ad : Nat → Nat} {cy : Nat → ClassId} {D : va_G} {z : Nat} {b Ln : Nat} {xs : Nat → Int32} {aK aV : Nat → Nat} {av : List Value} {M : KM} : FrameBlind (va_Pc av (fun U => KR ad D cy M U.heap ∧ va_K D vwCl (ktys cy) U ∧ KA ad z ∧ z ≤ U.heap.size ∧ KWS z b Ln xs aK aV U U.heap)) := fun a U g mk q => by
  obtain ⟨q0, q1, q2, q3, q4, q5⟩ := q
  exact ⟨q0, q1, va_K.moved (u := U) (U := U.calling g mk a) (Vm.Alike.refl U.vm) q2, q3, q4, q5.same (u := U) (U := U.calling g mk a) rfl⟩
theorem kc2_at {ad : Nat → Nat} {cy : Nat → ClassId} {D : va_G} {z : Nat} {b Ln : Nat} {xs : Nat → Int32} {aK aV : Nat → Nat} {av : List Value} {M : KM} {s : State} {H : Heap} {locs : List Loc} (hR : KR ad D cy M H) (hK : va_K D vwCl (ktys cy) s) (hA : KA ad z) (hz : z ≤ s.heap.size) (hS : va_S (fun q => z ≤ q) s.heap H locs) (hW : KWS z b Ln xs aK aV s s.heap) : ∀ U : State, U.heap = H → s.WarmedH U.vm → va_Pc av (fun U => KR ad D cy M U.heap ∧ va_K D vwCl (ktys cy) U ∧ KA ad z ∧ z ≤ U.heap.size ∧ KWS z b Ln xs aK aV U U.heap) av.toArray U := fun U hU hWm => ⟨rfl, by rw [hU]; exact hR, va_K.moved hWm.alike hK, hA, by rw [hU]; exact Nat.le_trans hz hS.1, by rw [hU]; exact (hW.kept hz hS).warm hWm⟩
theorem v_callS2 {ad : Nat → Nat} {cy : Nat → ClassId} {x : KX} {o : KO} {cc : ByteArray} {own : String} {nL d pc pc2 : Nat} {ret : Option (Option FieldType)} {L : List (Nat × Value)} {rest : List Value} {M : KM} {b Ln : Nat} {xs : Nat → Int32} {aK aV : Nat → Nat} {y : MethodName} {bytes : ByteArray} {maxL nA idx d2 : Nat} {rt : Option FieldType} {st : List Value} {o2 : KO} (As : List Value) (G : KG ad cy x cc own nL ret d) (GW : KWx b Ln xs aK aV x) (hct : KC2 (KXl x) ad cy (KXD x) (KXz x) b Ln xs aK aV y bytes maxL rt d2 As M o2) (w1 : Cond.methodLink own idx y ∈ tb) (w2 : Cond.static y ∈ tb) (w4 : Cond.initialized y.cls ∈ tb) (w5 : Cond.code y bytes maxL rt ∈ tb) (hnm : y.cls ≠ "java/lang/invoke/MethodHandle" ∧ y.cls ≠ "java/lang/invoke/VarHandle" ∧ (parseMethodDescriptor y.desc).map (fun d => d.parameters.length) = some nA) (hd2 : d2 < d) (hm : maxL ≤ 19) (hst : st = As.reverse ++ rest) (hn2 : As.length = nA) (hrm : (rest.map fun v => v.category).sum ≤ 8) (hd : dc cc pc (.invokestatic idx) 3 pc2) (k : KV ad cy x o (pc2) L (o2.1.toList ++ rest) o2.2) : KV ad cy x o (pc) L (st) M := by
  obtain ⟨p, l, e, R, s, m, args, below, meth, c, D, z, n, k1, k2, Q⟩ := x
  obtain ⟨hx, hb, hml, hn, hown, hr, hlk, hts, hK, hA, ⟨hf, hkc, hks⟩, hlo, hz⟩ := G
  obtain ⟨hd, rfl⟩ := hd
  have GW : KWS z b Ln xs aK aV s s.heap := GW
  subst hst
  intro H locs ls hR hS hl
  exact kv_run hz (va_runS (As := As) (rest := rest) ⟨hx, hb, hml, hown, hts⟩ hct ⟨callB_of nA hts (tb_good w5 (fun _ h => h)) rfl rfl rfl (hts _ w4) (hts _ w1) hnm ⟨by show d2 + 1 ≤ R.frames; omega, by show 8 + (maxL + 11) + 38 * d2 ≤ R.locals; omega⟩, hts _ w2⟩ ⟨kc2_blind, kc2_at hR hK hA hz hS GW⟩ rfl hn2 (hl.1.trans hn) rfl (lv_room hrm) hd ⟨hkc, hks⟩) hS hl k
/-- a method of a string -/
theorem v_callT2 {ad : Nat → Nat} {cy : Nat → ClassId} {x : KX} {o : KO} {cc : ByteArray} {own : String} {nL d pc pc2 : Nat} {ret : Option (Option FieldType)} {L : List (Nat × Value)} {rest : List Value} {M : KM} {b Ln : Nat} {xs : Nat → Int32} {aK aV : Nat → Nat} {y : MethodName} {bytes : ByteArray} {maxL nA idx d2 : Nat} {rt : Option FieldType} {st : List Value} {i : Nat} {o2 : KO} (As : List Value) (G : KG ad cy x cc own nL ret d) (GW : KWx b Ln xs aK aV x) (hi : i < 16) (hct : KC2 (KXl x) ad cy (KXD x) (KXz x) b Ln xs aK aV y bytes maxL rt d2 (.ref (aK i) :: As) M o2) (hC : y.cls = "java/lang/String") (w1 : Cond.methodLink own idx y ∈ tb) (w2 : Cond.instanceMethod y ∈ tb) (w3 : Cond.selects "java/lang/String" y y ∈ tb) (w4 : Cond.initialized "java/lang/String" ∈ tb) (w5 : Cond.code y bytes maxL rt ∈ tb) (hnm : y.cls ≠ "java/lang/invoke/MethodHandle" ∧ y.cls ≠ "java/lang/invoke/VarHandle" ∧ (parseMethodDescriptor y.desc).map (fun d => d.parameters.length) = some nA) (hd2 : d2 < d) (hm : maxL ≤ 19) (hst : st = As.reverse ++ .ref (aK i) :: rest) (hn2 : As.length = nA) (hrm : (rest.map fun v => v.category).sum ≤ 8) (hd : dc cc pc (.invokevirtual idx) 3 pc2) (k : KV ad cy x o (pc2) L (o2.1.toList ++ rest) o2.2) : KV ad cy x o (pc) L (st) M := by
  obtain ⟨p, l, e, R, s, m, args, below, meth, c, D, z, n, k1, k2, Q⟩ := x
  obtain ⟨hx, hb, hml, hn, hown, hr, hlk, hts, hK, hA, ⟨hf, hkc, hks⟩, hlo, hz⟩ := G
  obtain ⟨hd, rfl⟩ := hd
  have GW : KWS z b Ln xs aK aV s s.heap := GW
  subst hst
  intro H locs ls hR hS hl
  refine kv_run hz (va_runV (As := As) (rest := rest) (C := "java/lang/String") ⟨hx, hb, hml, hown, hts⟩ hct (cwV nA hts (C := "java/lang/String") ?_ rfl rfl rfl ⟨hC, hnm⟩ ⟨?_, ?_⟩) ⟨kc2_blind, vk_recv GW.2.2.1 hi hS, kc2_at hR hK hA hz hS GW⟩ rfl hn2 (hl.1.trans hn) rfl (lv_room hrm) hd ⟨hkc, hks⟩) hS hl k
  · intro w hw
    rcases List.mem_append.mp hw with h | h
    · simp only [List.mem_cons, List.not_mem_nil, or_false] at h
      rcases h with h | h | h | h <;> rw [h] <;> apply tb_g <;> assumption
    · exact tb_good w5 (fun _ h => h) w h
  · show d2 + 1 ≤ R.frames; omega
  · show 8 + (maxL + 11) + 38 * d2 ≤ R.locals; omega
/-- a string of the law's -/
theorem v_ldcS {ad : Nat → Nat} {cy : Nat → ClassId} {x : KX} {o : KO} {cc : ByteArray} {own : String} {nL d pc pc2 : Nat} {ret : Option (Option FieldType)} {L : List (Nat × Value)} {rest : List Value} {M : KM} {b Ln : Nat} {xs : Nat → Int32} {aK aV : Nat → Nat} {i idx : Nat} (G : KG ad cy x cc own nL ret d) (GW : KWx b Ln xs aK aV x) (hi : i < 16) (hown0 : own = "NoonGuidesLaw") (he : swI.getD i 0 = idx) (hd : dc cc pc (.ldc idx) 2 pc2) (k : KV ad cy x o (pc2) L (.ref (aK i) :: rest) M) : KV ad cy x o (pc) L (rest) M := by
  obtain ⟨p, l, e, R, s, m, args, below, meth, c, D, z, n, k1, k2, Q⟩ := x
  obtain ⟨hx, hb, hml, hn, hown, hr, hlk, hts, hK, hA, ⟨hf, hkc, hks⟩, hlo, hz⟩ := G
  obtain ⟨hd, rfl⟩ := hd
  have GW : KWS z b Ln xs aK aV s s.heap := GW
  subst hown0
  subst he
  intro H locs ls hR hS hl
  exact va_ldcS hx hb hown (GW.2.1 i hi) hd (k H locs ls hR hS hl)
theorem v_strv {ad : Nat → Nat} {cy : Nat → ClassId} {x : KX} {o : KO} {cc : ByteArray} {own : String} {nL d pc pc2 : Nat} {ret : Option (Option FieldType)} {L : List (Nat × Value)} {rest : List Value} {M : KM} {b Ln : Nat} {xs : Nat → Int32} {aK aV : Nat → Nat} {i idx : Nat} (G : KG ad cy x cc own nL ret d) (GW : KWx b Ln xs aK aV x) (hi : i < 16) (hl0 : Cond.fieldLink own idx "java/lang/String" "value" "[B" ∈ tb) (hd : dc cc pc (.getfield idx) 3 pc2) (k : KV ad cy x o (pc2) L (.ref (aV i) :: rest) M) : KV ad cy x o (pc) L (.ref (aK i) :: rest) M := by
  obtain ⟨p, l, e, R, s, m, args, below, meth, c, D, z, n, k1, k2, Q⟩ := x
  obtain ⟨hx, hb, hml, hn, hown, hr, hlk, hts, hK, hA, ⟨hf, hkc, hks⟩, hlo, hz⟩ := G
  obtain ⟨hd, rfl⟩ := hd
  have GW : KWS z b Ln xs aK aV s s.heap := GW
  intro H locs ls hR hS hl
  exact vk_getf hx hb (GW.2.2.1.1 i hi).2.2.1 hS hown (hts _ hl0) (fun y hy => hy) hd (k H locs ls hR hS hl)
theorem v_strc {ad : Nat → Nat} {cy : Nat → ClassId} {x : KX} {o : KO} {cc : ByteArray} {own : String} {nL d pc pc2 : Nat} {ret : Option (Option FieldType)} {L : List (Nat × Value)} {rest : List Value} {M : KM} {b Ln : Nat} {xs : Nat → Int32} {aK aV : Nat → Nat} {i idx : Nat} (G : KG ad cy x cc own nL ret d) (GW : KWx b Ln xs aK aV x) (hi : i < 16) (hl0 : Cond.fieldLink own idx "java/lang/String" "coder" "B" ∈ tb) (hd : dc cc pc (.getfield idx) 3 pc2) (k : KV ad cy x o (pc2) L (.int 0 :: rest) M) : KV ad cy x o (pc) L (.ref (aK i) :: rest) M := by
  obtain ⟨p, l, e, R, s, m, args, below, meth, c, D, z, n, k1, k2, Q⟩ := x
  obtain ⟨hx, hb, hml, hn, hown, hr, hlk, hts, hK, hA, ⟨hf, hkc, hks⟩, hlo, hz⟩ := G
  obtain ⟨hd, rfl⟩ := hd
  have GW : KWS z b Ln xs aK aV s s.heap := GW
  intro H locs ls hR hS hl
  exact vk_getf hx hb (GW.2.2.1.1 i hi).2.1 hS hown (hts _ hl0) (fun y hy => hy) hd (k H locs ls hR hS hl)
theorem v_strl {ad : Nat → Nat} {cy : Nat → ClassId} {x : KX} {o : KO} {cc : ByteArray} {own : String} {nL d pc pc2 : Nat} {ret : Option (Option FieldType)} {L : List (Nat × Value)} {rest : List Value} {M : KM} {b Ln : Nat} {xs : Nat → Int32} {aK aV : Nat → Nat} {i : Nat} (G : KG ad cy x cc own nL ret d) (GW : KWx b Ln xs aK aV x) (hi : i < 16) (hd : dc cc pc (.arraylength) 1 pc2) (k : KV ad cy x o (pc2) L (.int (Int32.ofNat (sLen i)) :: rest) M) : KV ad cy x o (pc) L (.ref (aV i) :: rest) M := by
  obtain ⟨p, l, e, R, s, m, args, below, meth, c, D, z, n, k1, k2, Q⟩ := x
  obtain ⟨hx, hb, hml, hn, hown, hr, hlk, hts, hK, hA, ⟨hf, hkc, hks⟩, hlo, hz⟩ := G
  obtain ⟨hd, rfl⟩ := hd
  have GW : KWS z b Ln xs aK aV s s.heap := GW
  intro H locs ls hR hS hl
  exact va_tlen hx hb (GW.2.2.1.1 i hi).2.2.2 hS (v := Int32.ofNat (sLen i)) rfl hd (k H locs ls hR hS hl)
theorem v_strb {ad : Nat → Nat} {cy : Nat → ClassId} {x : KX} {o : KO} {cc : ByteArray} {own : String} {nL d pc pc2 : Nat} {ret : Option (Option FieldType)} {L : List (Nat × Value)} {rest : List Value} {M : KM} {b Ln : Nat} {xs : Nat → Int32} {aK aV : Nat → Nat} {i : Nat} {j : Int32} (G : KG ad cy x cc own nL ret d) (GW : KWx b Ln xs aK aV x) (hi : i < 16) (hin : ix j (sLen i)) (hd : dc cc pc (.baload) 1 pc2) (k : KV ad cy x o (pc2) L (.int (sCh i j.toNatClampNeg) :: rest) M) : KV ad cy x o (pc) L (.int j :: .ref (aV i) :: rest) M := by
  obtain ⟨p, l, e, R, s, m, args, below, meth, c, D, z, n, k1, k2, Q⟩ := x
  obtain ⟨hx, hb, hml, hn, hown, hr, hlk, hts, hK, hA, ⟨hf, hkc, hks⟩, hlo, hz⟩ := G
  obtain ⟨hd, rfl⟩ := hd
  have GW : KWS z b Ln xs aK aV s s.heap := GW
  intro H locs ls hR hS hl
  exact va_tb hx hb (GW.2.2.1.1 i hi).2.2.2 hS hin rfl hd (k H locs ls hR hS hl)
theorem v_comp {ad : Nat → Nat} {cy : Nat → ClassId} {x : KX} {o : KO} {cc : ByteArray} {own : String} {nL d pc pc2 : Nat} {ret : Option (Option FieldType)} {L : List (Nat × Value)} {rest : List Value} {M : KM} {b Ln : Nat} {xs : Nat → Int32} {aK aV : Nat → Nat} {idx : Nat} (G : KG ad cy x cc own nL ret d) (GW : KWx b Ln xs aK aV x) (hl0 : Cond.fieldLink own idx "java/lang/String" "COMPACT_STRINGS" "Z" ∈ tb) (hd : dc cc pc (.getstatic idx) 3 pc2) (k : KV ad cy x o (pc2) L (.int 1 :: rest) M) : KV ad cy x o (pc) L (rest) M := by
  obtain ⟨p, l, e, R, s, m, args, below, meth, c, D, z, n, k1, k2, Q⟩ := x
  obtain ⟨hx, hb, hml, hn, hown, hr, hlk, hts, hK, hA, ⟨hf, hkc, hks⟩, hlo, hz⟩ := G
  obtain ⟨hd, rfl⟩ := hd
  have GW : KWS z b Ln xs aK aV s s.heap := GW
  intro H locs ls hR hS hl
  exact va_gets hx hb GW.2.2.2.1 hS hown (hts _ hl0) (fun y hy => hy) hd (k H locs ls hR hS hl)
theorem v_sio {ad : Nat → Nat} {cy : Nat → ClassId} {x : KX} {o : KO} {cc : ByteArray} {own : String} {nL d pc pc2 : Nat} {ret : Option (Option FieldType)} {L : List (Nat × Value)} {rest : List Value} {M : KM} {b Ln : Nat} {xs : Nat → Int32} {aK aV : Nat → Nat} {idx : Nat} (G : KG ad cy x cc own nL ret d) (GW : KWx b Ln xs aK aV x) (hl0 : Cond.fieldLink own idx "jdk/internal/util/Preconditions" "SIOOBE_FORMATTER" "Ljava/util/function/BiFunction;" ∈ tb) (hd : dc cc pc (.getstatic idx) 3 pc2) (k : ∀ v : Value, (v = .null ∨ ∃ q, v = .ref q) → KV ad cy x o (pc2) L (v :: rest) M) : KV ad cy x o (pc) L (rest) M := by
  obtain ⟨p, l, e, R, s, m, args, below, meth, c, D, z, n, k1, k2, Q⟩ := x
  obtain ⟨hx, hb, hml, hn, hown, hr, hlk, hts, hK, hA, ⟨hf, hkc, hks⟩, hlo, hz⟩ := G
  obtain ⟨hd, rfl⟩ := hd
  have GW : KWS z b Ln xs aK aV s s.heap := GW
  intro H locs ls hR hS hl
  rcases GW.2.2.2.2 with hZ | ⟨q, hZ⟩
  · exact va_gets hx hb hZ hS hown (hts _ hl0) (fun y hy => hy) hd (k _ (Or.inl rfl) H locs ls hR hS hl)
  · exact va_gets hx hb hZ hS hown (hts _ hl0) (fun y hy => hy) hd (k _ (Or.inr ⟨q, rfl⟩) H locs ls hR hS hl)
theorem v_i2c {ad : Nat → Nat} {cy : Nat → ClassId} {x : KX} {o : KO} {cc : ByteArray} {own : String} {nL d pc pc2 : Nat} {ret : Option (Option FieldType)} {L : List (Nat × Value)} {rest : List Value} {M : KM} {a : Int32} (G : KG ad cy x cc own nL ret d) (hd : dc cc pc (.i2c) 1 pc2) (k : KV ad cy x o (pc2) L (.int ((a.toUInt32 % 65536).toInt32) :: rest) M) : KV ad cy x o (pc) L (.int a :: rest) M := by
  obtain ⟨p, l, e, R, s, m, args, below, meth, c, D, z, n, k1, k2, Q⟩ := x
  obtain ⟨hx, hb, hml, hn, hown, hr, hlk, hts, hK, hA, ⟨hf, hkc, hks⟩, hlo, hz⟩ := G
  obtain ⟨hd, rfl⟩ := hd
  intro H locs ls hR hS hl
  exact lv_i2c hx hb hd rfl (k H locs ls hR hS hl)
theorem v_nret {ad : Nat → Nat} {cy : Nat → ClassId} {x : KX} {cc : ByteArray} {own : String} {nL d pc pc2 : Nat} {L : List (Nat × Value)} {M : KM} {ty : FieldType} {v : Int32} (G : KG ad cy x cc own nL (some (some ty)) d) (hnw : narrow ty (.int v) = .int v) (hd : dc cc pc (.ireturn) 1 pc2) : KV ad cy x (some (.int v), M) (pc) L ([.int v]) M := by
  obtain ⟨p, l, e, R, s, m, args, below, meth, c, D, z, n, k1, k2, Q⟩ := x
  obtain ⟨hx, hb, hml, hn, hown, hr, hlk, hts, hK, hA, ⟨hf, hkc, hks⟩, hlo, hz⟩ := G
  obtain ⟨hd, rfl⟩ := hd
  obtain ⟨hr2, rfl⟩ := hr _ rfl
  intro H locs ls hR hS hl
  exact W.zret hx hb hr2 hnw (fun t ht hW => ⟨rfl, by rw [ht]; exact hR, hS.F ht⟩) hS.2.2 hd hlk
theorem v_sld {ad : Nat → Nat} {cy : Nat → ClassId} {x : KX} {o : KO} {cc : ByteArray} {own : String} {nL d pc pc2 : Nat} {ret : Option (Option FieldType)} {L : List (Nat × Value)} {rest : List Value} {M : KM} {b Ln : Nat} {xs : Nat → Int32} {aK aV : Nat → Nat} {i : Int32} (G : KG ad cy x cc own nL ret d) (GW : KWx b Ln xs aK aV x) (hin : ix i Ln) (hd : dc cc pc (.iaload) 1 pc2) (kk : KV ad cy x o (pc2) L (.int (xs i.toNatClampNeg) :: rest) M) : KV ad cy x o (pc) L (.int i :: .ref b :: rest) M := by
  obtain ⟨p, l, e, R, s, m, args, below, meth, c, D, z, n, k1, k2, Q⟩ := x
  obtain ⟨hx, hb, hml, hn, hown, hr, hlk, hts, hK, hA, ⟨hf, hkc, hks⟩, hlo, hz⟩ := G
  obtain ⟨hd, rfl⟩ := hd
  have GW : KWS z b Ln xs aK aV s s.heap := GW
  intro H locs ls hR hS hl
  exact va_sld hx hb GW.1.1 (Nat.lt_of_lt_of_le GW.1.2 hz) (Nat.not_le.mpr GW.1.2) hS hin hd (kk H locs ls hR hS hl)
theorem v_slen {ad : Nat → Nat} {cy : Nat → ClassId} {x : KX} {o : KO} {cc : ByteArray} {own : String} {nL d pc pc2 : Nat} {ret : Option (Option FieldType)} {L : List (Nat × Value)} {rest : List Value} {M : KM} {b Ln : Nat} {xs : Nat → Int32} {aK aV : Nat → Nat} (G : KG ad cy x cc own nL ret d) (GW : KWx b Ln xs aK aV x) (hd : dc cc pc (.arraylength) 1 pc2) (kk : KV ad cy x o (pc2) L (.int (Int32.ofNat Ln) :: rest) M) : KV ad cy x o (pc) L (.ref b :: rest) M := by
  obtain ⟨p, l, e, R, s, m, args, below, meth, c, D, z, n, k1, k2, Q⟩ := x
  obtain ⟨hx, hb, hml, hn, hown, hr, hlk, hts, hK, hA, ⟨hf, hkc, hks⟩, hlo, hz⟩ := G
  obtain ⟨hd, rfl⟩ := hd
  have GW : KWS z b Ln xs aK aV s s.heap := GW
  intro H locs ls hR hS hl
  exact va_slen hx hb GW.1.1 (Nat.lt_of_lt_of_le GW.1.2 hz) (Nat.not_le.mpr GW.1.2) hS hd (kk H locs ls hR hS hl)
theorem sw_ch : ∀ i, i < 16 → ∀ k, k < sLen i → (((sCh i k) &&& 255).toUInt32 % 65536).toInt32 = sCh i k := by decide +kernel
theorem sw_nar : ∀ i, i < 16 → ∀ k, k < sLen i → narrow .char (.int (sCh i k)) = .int (sCh i k) := by decide +kernel
theorem sw_len : ∀ i, i < 16 → sLen i < 20 := by decide +kernel
theorem sw_shr : ∀ i, i < 16 → (Int32.ofNat (sLen i)) >>> ((0 : Int32) &&& 31) = Int32.ofNat (sLen i) := by decide +kernel
theorem c_J0_coder {l : Launch} {ad : Nat → Nat} {cy : Nat → ClassId} {D : va_G} {z : Nat} {b Ln : Nat} {xs : Nat → Int32} {aK aV : Nat → Nat} {i : Nat} {M : KM} (hi : i < 16) : KC2 l ad cy D z b Ln xs aK aV yJ0_coder_7d493 cJ0_coder_7d493 1 (some .byte) 1 [.ref (aK i)] M (some (.int 0), M) := by
  refine kv_enter2 (by decide +kernel) (Nat.le_of_ble_eq_true rfl) ?_
  intro x hl hD hz G GW
  subst hl hD hz
  refine v_comp G GW t_50 dJ0_coder_7d493_0 ?_
  refine v_if_eq 13 G dJ0_coder_7d493_3 rfl (fun h => absurd h (by decide)) (fun _ => ?_)
  refine v_aload_n G dJ0_coder_7d493_6 0 rfl ?_
  refine v_strc G GW hi t_1291 dJ0_coder_7d493_7 ?_
  refine v_goto 14 G dJ0_coder_7d493_10 rfl ?_
  exact v_nret G rfl dJ0_coder_7d493_14
theorem c_J0_latin {l : Launch} {ad : Nat → Nat} {cy : Nat → ClassId} {D : va_G} {z : Nat} {b Ln : Nat} {xs : Nat → Int32} {aK aV : Nat → Nat} {i : Nat} {M : KM} (hi : i < 16) : KC2 l ad cy D z b Ln xs aK aV yJ0_isLatin1_aae02 cJ0_isLatin1_aae02 1 (some .boolean) 1 [.ref (aK i)] M (some (.int 1), M) := by
  refine kv_enter2 (by decide +kernel) (Nat.le_of_ble_eq_true rfl) ?_
  intro x hl hD hz G GW
  subst hl hD hz
  refine v_comp G GW t_50 dJ0_isLatin1_aae02_0 ?_
  refine v_if_eq 17 G dJ0_isLatin1_aae02_3 rfl (fun h => absurd h (by decide)) (fun _ => ?_)
  refine v_aload_n G dJ0_isLatin1_aae02_6 0 rfl ?_
  refine v_strc G GW hi t_1291 dJ0_isLatin1_aae02_7 ?_
  refine v_if_ne 17 G dJ0_isLatin1_aae02_10 rfl (fun h => absurd rfl h) (fun _ => ?_)
  refine v_iconst 1 G dJ0_isLatin1_aae02_13 (by decide) ?_
  refine v_goto 18 G dJ0_isLatin1_aae02_14 rfl ?_
  exact v_nret G rfl dJ0_isLatin1_aae02_18
theorem c_J0_length {l : Launch} {ad : Nat → Nat} {cy : Nat → ClassId} {D : va_G} {z : Nat} {b Ln : Nat} {xs : Nat → Int32} {aK aV : Nat → Nat} {i : Nat} {M : KM} (hi : i < 16) : KC2 l ad cy D z b Ln xs aK aV yJ0_length_8abf5 cJ0_length_8abf5 1 (some .int) 2 [.ref (aK i)] M (some (.int (Int32.ofNat (sLen i))), M) := by
  refine kv_enter2 (by decide +kernel) (Nat.le_of_ble_eq_true rfl) ?_
  intro x hl hD hz G GW
  subst hl hD hz
  refine v_aload_n G dJ0_length_8abf5_0 0 rfl ?_
  refine v_strv G GW hi t_1290 dJ0_length_8abf5_1 ?_
  refine v_strl G GW hi dJ0_length_8abf5_4 ?_
  refine v_aload_n G dJ0_length_8abf5_5 0 rfl ?_
  refine v_callT2 [] G GW hi (c_J0_coder hi) rfl t_46 t_47 t_48 t_4 t_49 nm_J0_coder_7d493 (Nat.le_of_ble_eq_true rfl) (Nat.le_of_ble_eq_true rfl) rfl rfl (Nat.le_of_ble_eq_true rfl) dJ0_length_8abf5_6 ?_
  show KV ad cy x _ 9 _ [.int 0, .int (Int32.ofNat (sLen i))] _
  refine v_ishr G dJ0_length_8abf5_9 ?_
  rw [sw_shr i hi]
  exact v_nret G rfl dJ0_length_8abf5_10
theorem c_J3_pre {l : Launch} {ad : Nat → Nat} {cy : Nat → ClassId} {D : va_G} {z : Nat} {b Ln : Nat} {xs : Nat → Int32} {aK aV : Nat → Nat} {i : Nat} {M : KM} {j len : Int32} {v : Value} (h0 : ¬ j < 0) (h1 : j < len) (hv : v = .null ∨ ∃ q, v = .ref q) : KC2 l ad cy D z b Ln xs aK aV yJ3_checkIndex_8e157 cJ3_checkIndex_8e157 3 (some .int) 1 [.int j, .int len, v] M (some (.int j), M) := by
  refine kv_enter2 (by decide +kernel) (by rcases hv with rfl | ⟨q, rfl⟩ <;> exact Nat.le_of_ble_eq_true rfl) ?_
  intro x hl hD hz G GW
  subst hl hD hz
  refine v_iload_n G dJ3_checkIndex_8e157_0 0 rfl ?_
  refine v_if_lt 9 G dJ3_checkIndex_8e157_1 rfl (fun h => absurd h h0) (fun _ => ?_)
  refine v_iload_n G dJ3_checkIndex_8e157_4 0 rfl ?_
  refine v_iload_n G dJ3_checkIndex_8e157_5 1 rfl ?_
  refine v_icmp_lt 16 G dJ3_checkIndex_8e157_6 rfl (fun _ => ?_) (fun h => absurd h1 h)
  refine v_iload_n G dJ3_checkIndex_8e157_16 0 rfl ?_
  exact v_nret G rfl dJ3_checkIndex_8e157_17
theorem c_J0_check {l : Launch} {ad : Nat → Nat} {cy : Nat → ClassId} {D : va_G} {z : Nat} {b Ln : Nat} {xs : Nat → Int32} {aK aV : Nat → Nat} {i : Nat} {M : KM} {j len : Int32} (h0 : ¬ j < 0) (h1 : j < len) : KC2 l ad cy D z b Ln xs aK aV yJ0_checkIndex_df160 cJ0_checkIndex_df160 2 none 2 [.int j, .int len] M (none, M) := by
  refine kv_enter2 (by decide +kernel) (Nat.le_of_ble_eq_true rfl) ?_
  intro x hl hD hz G GW
  subst hl hD hz
  refine v_iload_n G dJ0_checkIndex_df160_0 0 rfl ?_
  refine v_iload_n G dJ0_checkIndex_df160_1 1 rfl ?_
  refine v_sio G GW t_66 dJ0_checkIndex_df160_2 (fun v hv => ?_)
  refine v_callS2 [.int j, .int len, v] G GW (c_J3_pre (i := 0) h0 h1 hv) t_68 t_69 t_6 t_70 nm_J3_checkIndex_8e157 (Nat.le_of_ble_eq_true rfl) (Nat.le_of_ble_eq_true rfl) rfl rfl (Nat.le_of_ble_eq_true rfl) dJ0_checkIndex_df160_5 ?_
  show KV ad cy x _ 8 _ [.int j] _
  refine v_pop G dJ0_checkIndex_df160_8 rfl ?_
  exact v_vret G dJ0_checkIndex_df160_9
theorem ix_len {j : Int32} {n : Nat} (h : ix j n) (hn : n < 2 ^ 31) : ¬ j < 0 ∧ j < Int32.ofNat n := by
  refine ⟨fun q => h (Or.inl q), ?_⟩
  have h2 : j.toNatClampNeg < n := ix_lt h
  have h3 : ¬ j < 0 := fun q => h (Or.inl q)
  rw [Int32.lt_iff_toInt_lt] at h3 ⊢
  have h4 : (Int32.ofNat n).toInt = n := nI_toInt hn
  have h5 : (0 : Int32).toInt = 0 := rfl
  have h6 : j.toNatClampNeg = j.toInt.toNat := rfl
  omega
theorem c_J1_char {l : Launch} {ad : Nat → Nat} {cy : Nat → ClassId} {D : va_G} {z : Nat} {b Ln : Nat} {xs : Nat → Int32} {aK aV : Nat → Nat} {i : Nat} {M : KM} {j : Int32} (hi : i < 16) (hj : ix j (sLen i)) : KC2 l ad cy D z b Ln xs aK aV yJ1_charAt_3b067 cJ1_charAt_3b067 2 (some .char) 3 [.ref (aV i), .int j] M (some (.int (sCh i j.toNatClampNeg)), M) := by
  have hj2 := ix_len hj (Nat.lt_trans (sw_len i hi) (by decide))
  refine kv_enter2 (by decide +kernel) (Nat.le_of_ble_eq_true rfl) ?_
  intro x hl hD hz G GW
  subst hl hD hz
  refine v_iload_n G dJ1_charAt_3b067_0 1 rfl ?_
  refine v_aload_n G dJ1_charAt_3b067_1 0 rfl ?_
  refine v_strl G GW hi dJ1_charAt_3b067_2 ?_
  refine v_callS2 [.int j, .int (Int32.ofNat (sLen i))] G GW (c_J0_check (i := 0) hj2.1 hj2.2) t_63 t_64 t_4 t_65 nm_J0_checkIndex_df160 (Nat.le_of_ble_eq_true rfl) (Nat.le_of_ble_eq_true rfl) rfl rfl (Nat.le_of_ble_eq_true rfl) dJ1_charAt_3b067_3 ?_
  show KV ad cy x _ 6 _ [] _
  refine v_aload_n G dJ1_charAt_3b067_6 0 rfl ?_
  refine v_iload_n G dJ1_charAt_3b067_7 1 rfl ?_
  refine v_strb G GW hi hj dJ1_charAt_3b067_8 ?_
  refine v_sipush 255 G dJ1_charAt_3b067_9 (by decide) ?_
  refine v_iand G dJ1_charAt_3b067_12 ?_
  refine v_i2c G dJ1_charAt_3b067_13 ?_
  rw [sw_ch i hi _ (ix_lt hj)]
  exact v_nret G (sw_nar i hi _ (ix_lt hj)) dJ1_charAt_3b067_14
theorem c_J0_charAt {l : Launch} {ad : Nat → Nat} {cy : Nat → ClassId} {D : va_G} {z : Nat} {b Ln : Nat} {xs : Nat → Int32} {aK aV : Nat → Nat} {i : Nat} {M : KM} {j : Int32} (hi : i < 16) (hj : ix j (sLen i)) : KC2 l ad cy D z b Ln xs aK aV yJ0_charAt_5068e cJ0_charAt_5068e 2 (some .char) 4 [.ref (aK i), .int j] M (some (.int (sCh i j.toNatClampNeg)), M) := by
  refine kv_enter2 (by decide +kernel) (Nat.le_of_ble_eq_true rfl) ?_
  intro x hl hD hz G GW
  subst hl hD hz
  refine v_aload_n G dJ0_charAt_5068e_0 0 rfl ?_
  refine v_callT2 [] G GW hi (c_J0_latin hi) rfl t_56 t_57 t_58 t_4 t_59 nm_J0_isLatin1_aae02 (Nat.le_of_ble_eq_true rfl) (Nat.le_of_ble_eq_true rfl) rfl rfl (Nat.le_of_ble_eq_true rfl) dJ0_charAt_5068e_1 ?_
  show KV ad cy x _ 4 _ [.int 1] _
  refine v_if_eq 16 G dJ0_charAt_5068e_4 rfl (fun h => absurd h (by decide)) (fun _ => ?_)
  refine v_aload_n G dJ0_charAt_5068e_7 0 rfl ?_
  refine v_strv G GW hi t_1290 dJ0_charAt_5068e_8 ?_
  refine v_iload_n G dJ0_charAt_5068e_11 1 rfl ?_
  refine v_callS2 [.ref (aV i), .int j] G GW (c_J1_char hi hj) t_60 t_61 t_5 t_62 nm_J1_charAt_3b067 (Nat.le_of_ble_eq_true rfl) (Nat.le_of_ble_eq_true rfl) rfl rfl (Nat.le_of_ble_eq_true rfl) dJ0_charAt_5068e_12 ?_
  show KV ad cy x _ 15 _ [.int (sCh i j.toNatClampNeg)] _
  exact v_nret G (sw_nar i hi _ (ix_lt hj)) dJ0_charAt_5068e_15
