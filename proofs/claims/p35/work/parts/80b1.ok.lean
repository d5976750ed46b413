theorem jw_C_init : jv_ok jm_C_init = true := by decide +kernel
theorem jx_C_init : jv_mk jm_C_init 106 105 83 0 = true := by decide +kernel
theorem jw_C_member : jv_ok jm_C_member = true := by decide +kernel
theorem jx_C_member : jv_mk jm_C_member 562 560 83 561 = true := by decide +kernel
theorem jw_C_like : jv_ok jm_C_like = true := by decide +kernel
theorem jx_C_like : jv_mk jm_C_like 566 564 83 565 = true := by decide +kernel
theorem jw_C_isMember : jv_ok jm_C_isMember = true := by decide +kernel
theorem jx_C_isMember : jv_mk jm_C_isMember 570 569 83 17 = true := by decide +kernel
theorem jw_C_isWord : jv_ok jm_C_isWord = true := by decide +kernel
theorem jx_C_isWord : jv_mk jm_C_isWord 573 572 83 0 = true := by decide +kernel
theorem jw_C_comes : jv_ok jm_C_comes = true := by decide +kernel
theorem jx_C_comes : jv_mk jm_C_comes 585 583 83 584 = true := by decide +kernel
theorem jw_C_pair : jv_ok jm_C_pair = true := by decide +kernel
theorem jx_C_pair : jv_mk jm_C_pair 589 587 83 588 = true := by decide +kernel
theorem jw_C_part : jv_ok jm_C_part = true := by decide +kernel
theorem jx_C_part : jv_mk jm_C_part 593 591 83 592 = true := by decide +kernel
theorem jw_C_ask : jv_ok jm_C_ask = true := by decide +kernel
theorem jx_C_ask : jv_mk jm_C_ask 597 595 83 596 = true := by decide +kernel
theorem jw_C_memberTold : jv_ok jm_C_memberTold = true := by decide +kernel
theorem jx_C_memberTold : jv_mk jm_C_memberTold 601 599 83 600 = true := by decide +kernel
theorem jw_C_bill : jv_ok jm_C_bill = true := by decide +kernel
theorem jx_C_bill : jv_mk jm_C_bill 605 603 83 604 = true := by decide +kernel
theorem jw_C_section : jv_ok jm_C_section = true := by decide +kernel
theorem jx_C_section : jv_mk jm_C_section 609 607 83 608 = true := by decide +kernel
theorem jw_C_isBill : jv_ok jm_C_isBill = true := by decide +kernel
theorem jx_C_isBill : jv_mk jm_C_isBill 613 612 83 18 = true := by decide +kernel
theorem jw_C_billTold : jv_ok jm_C_billTold = true := by decide +kernel
theorem jx_C_billTold : jv_mk jm_C_billTold 637 635 83 636 = true := by decide +kernel
theorem jw_C_placeOnCalendar : jv_ok jm_C_placeOnCalendar = true := by decide +kernel
theorem jx_C_placeOnCalendar : jv_mk jm_C_placeOnCalendar 641 640 83 21 = true := by decide +kernel
theorem jw_C_word : jv_ok jm_C_word = true := by decide +kernel
theorem jx_C_word : jv_mk jm_C_word 651 649 83 650 = true := by decide +kernel
theorem jw_C_worth : jv_ok jm_C_worth = true := by decide +kernel
theorem jx_C_worth : jv_mk jm_C_worth 659 657 83 658 = true := by decide +kernel
theorem jw_C_report : jv_ok jm_C_report = true := by decide +kernel
theorem jx_C_report : jv_mk jm_C_report 669 667 83 668 = true := by decide +kernel
theorem jw_C_putOnCalendar : jv_ok jm_C_putOnCalendar = true := by decide +kernel
theorem jx_C_putOnCalendar : jv_mk jm_C_putOnCalendar 673 672 83 22 = true := by decide +kernel
theorem jw_C_sign : jv_ok jm_C_sign = true := by decide +kernel
theorem jx_C_sign : jv_mk jm_C_sign 677 675 83 676 = true := by decide +kernel
theorem jw_C_call : jv_ok jm_C_call = true := by decide +kernel
theorem jx_C_call : jv_mk jm_C_call 681 679 83 680 = true := by decide +kernel
theorem jw_C_feed : jv_ok jm_C_feed = true := by decide +kernel
theorem jx_C_feed : jv_mk jm_C_feed 685 683 83 684 = true := by decide +kernel
theorem jw_C_text : jv_ok jm_C_text = true := by decide +kernel
theorem jx_C_text : jv_mk jm_C_text 690 688 83 689 = true := by decide +kernel
theorem jw_C_says : jv_ok jm_C_says = true := by decide +kernel
theorem jx_C_says : jv_mk jm_C_says 694 692 83 693 = true := by decide +kernel
theorem jw_C_isText : jv_ok jm_C_isText = true := by decide +kernel
theorem jx_C_isText : jv_mk jm_C_isText 698 697 83 23 = true := by decide +kernel
theorem jw_C_isKind : jv_ok jm_C_isKind = true := by decide +kernel
theorem jx_C_isKind : jv_mk jm_C_isKind 701 700 83 0 = true := by decide +kernel
theorem jw_C_comesTo : jv_ok jm_C_comesTo = true := by decide +kernel
theorem jx_C_comesTo : jv_mk jm_C_comesTo 709 708 83 24 = true := by decide +kernel
theorem jw_C_countThere : jv_ok jm_C_countThere = true := by decide +kernel
theorem jx_C_countThere : jv_mk jm_C_countThere 713 712 83 25 = true := by decide +kernel
theorem jw_C_act : jv_ok jm_C_act = true := by decide +kernel
theorem jx_C_act : jv_mk jm_C_act 728 726 83 727 = true := by decide +kernel
theorem jw_C_hindrance : jv_ok jm_C_hindrance = true := by decide +kernel
theorem jx_C_hindrance : jv_mk jm_C_hindrance 732 731 83 26 = true := by decide +kernel
theorem jw_C_takesWord : jv_ok jm_C_takesWord = true := by decide +kernel
theorem jx_C_takesWord : jv_mk jm_C_takesWord 735 734 83 0 = true := by decide +kernel
theorem jw_C_isAmendment : jv_ok jm_C_isAmendment = true := by decide +kernel
theorem jx_C_isAmendment : jv_mk jm_C_isAmendment 738 737 83 0 = true := by decide +kernel
theorem jw_C_floor : jv_ok jm_C_floor = true := by decide +kernel
theorem jx_C_floor : jv_mk jm_C_floor 742 741 83 27 = true := by decide +kernel
theorem jw_C_ruled : jv_ok jm_C_ruled = true := by decide +kernel
theorem jx_C_ruled : jv_mk jm_C_ruled 754 753 83 28 = true := by decide +kernel
theorem jw_C_partyOf : jv_ok jm_C_partyOf = true := by decide +kernel
theorem jx_C_partyOf : jv_mk jm_C_partyOf 758 757 83 29 = true := by decide +kernel
theorem jw_C_why : jv_ok jm_C_why = true := by decide +kernel
theorem jx_C_why : jv_mk jm_C_why 771 769 83 770 = true := by decide +kernel
theorem jw_C_vote : jv_ok jm_C_vote = true := by decide +kernel
theorem jx_C_vote : jv_mk jm_C_vote 775 773 83 774 = true := by decide +kernel
theorem jw_C_tally : jv_ok jm_C_tally = true := by decide +kernel
theorem jx_C_tally : jv_mk jm_C_tally 779 778 83 30 = true := by decide +kernel
theorem jw_C_choice : jv_ok jm_C_choice = true := by decide +kernel
theorem jx_C_choice : jv_mk jm_C_choice 783 782 83 31 = true := by decide +kernel
theorem jw_C_bySign : jv_ok jm_C_bySign = true := by decide +kernel
theorem jx_C_bySign : jv_mk jm_C_bySign 786 785 83 0 = true := by decide +kernel
theorem jw_C_carry : jv_ok jm_C_carry = true := by decide +kernel
theorem jx_C_carry : jv_mk jm_C_carry 795 794 83 32 = true := by decide +kernel
theorem jw_C_leaveFloor : jv_ok jm_C_leaveFloor = true := by decide +kernel
theorem jx_C_leaveFloor : jv_mk jm_C_leaveFloor 799 798 83 33 = true := by decide +kernel
theorem jw_C_amendFloor : jv_ok jm_C_amendFloor = true := by decide +kernel
theorem jx_C_amendFloor : jv_mk jm_C_amendFloor 803 802 83 34 = true := by decide +kernel
theorem jw_C_settle : jv_ok jm_C_settle = true := by decide +kernel
theorem jx_C_settle : jv_mk jm_C_settle 806 805 83 0 = true := by decide +kernel
theorem jw_C_voted : jv_ok jm_C_voted = true := by decide +kernel
theorem jx_C_voted : jv_mk jm_C_voted 810 808 83 809 = true := by decide +kernel
