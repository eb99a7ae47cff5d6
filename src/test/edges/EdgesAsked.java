/** Promises 28 to 34 and 46, sentence by sentence: what a new harm would come to. */
final class EdgesAsked {
  private static final String BOTH = "throws NoSuchElementException, IllegalArgumentException";
  private static final String WRONG = "throws IllegalArgumentException";

  private static Script rich(int promise, String sentence) {
    return Script.on(promise, sentence).go(Desks.RICH);
  }

  /** A desk with as many harms as there may be, and one with as many events. */
  private static Script manyHarms(int promise, String sentence) {
    return Script.on(promise, sentence).go("place(0, 4, 30, 1)", "place(1, 0, 30, 1)", "sign(0, 1, 10)")
        .go(Desks.times(24, "harm(0, 0, 0, 5)")).is("told(1)", 24);
  }

  private static Script manyEvents(int promise, String sentence) {
    return Script.on(promise, sentence).go("place(0, 0, 30, 4)", "sign(0, 1, 10)", "harm(5, 5, 5, 1)")
        .go(Desks.times(157, "grow(0, 1)")).is("told(2)", 160);
  }

  // ---- promise 28

  static void promise28_bits() {
    Script.on(28, "YEARS SET OFF by a TRIGGER (bits).").is("offs(0, 0, 0, 0)", 1).is("offs(11, 11, 11, 1)", 2048).is("offs(0, 11, 11, 2)", 4095)
        .is("offs(0, 0, 11, 3)", 2049).is("offs(3, 5, 9, 0)", 56).is("offs(3, 5, 9, 1)", 512).is("offs(3, 5, 9, 2)", 1016)
        .is("offs(3, 5, 9, 3)", 568)
        // Whatever TRIGGER is told by rules(), and of years that lack, too.
        .go("rules(1, 0, 0)", "lack(4)").is("offs(3, 5, 9, 0)", 56);
  }

  static void promise28_refused() {
    Script.on(28, "IllegalArgumentException: no such YEARS, TRIGGER (so below: what harm() would refuse).").harmYears("offs(#, 0)")
        .harmYears("offs(#, 3)").bounds("offs(1, 3, 5, #)", 0, 3).wrong("offs(3, 1, 5, 4)");
  }

  static void promise28_refusedLater() {
    rich(28, WRONG).bounds("offs(1, 3, 5, #)", 0, 3).harmYears("offs(#, 1)").is("status(0)", 0).is("status(2)", 0);
  }

  // ---- promise 29

  static void promise29_lessThan24() {
    // 24 times 4 of the hole and 1 of the layer.
    manyHarms(29, "Were such a HARM told now (as if there were less than 24)").unfit("harm(0, 0, 0, 20)").is("would(0, 0, 0, 20, 1)", 6)
        .is("would(0, 0, 0, 20, 0)", 14).is("would(0, 0, 0, 4, 0)", 4).is("would(0, 0, 0, 5, 1)", 1).is("told(1)", 24).is("layer(0, 5)", 6);
  }

  static void promise29_lessThan160() {
    manyEvents(29, "Were such a HARM told now").unfit("harm(0, 0, 0, 7)").is("would(0, 0, 0, 7, 1)", 7).is("would(0, 0, 0, 31, 0)", 1)
        .is("told(2)", 160).is("told(1)", 1);
  }

  static void promise29_byRulesAsNow() {
    Script.on(29, "what of it an INSURER would BEAR").go("place(0, 0, 9, 1)", "place(1, 0, 9, 1)", "sign(0, 1, 10)", "sign(1, 2, 10)")
        .is("would(0, 1, 1, 8, 1)", 4).is("would(0, 1, 1, 8, 2)", 4).is("would(0, 1, 1, 18, 0)", 0).is("would(0, 1, 1, 19, 0)", 1)
        .go("rules(1, 0, 0)").is("would(0, 1, 1, 8, 1)", 0).is("would(0, 1, 1, 8, 2)", 8).go("fall(2)").is("would(0, 1, 1, 8, 2)", 0)
        .is("would(0, 1, 1, 8, 0)", 8).is("would(0, 1, 1, 8, 9)", 0);
  }

  static void promise29_refused() {
    rich(29, WRONG).harmYears("would(#, 10, 0)").bounds("would(1, 3, 5, #, 1)", 1, 1000000000).bounds("would(1, 3, 5, 10, #)", 0, 9)
        .is("status(0)", 0).is("status(2)", 0);
    Script.on(29, WRONG).bounds("would(0, 0, 0, 1, #)", 0, 9);
  }

  // ---- promise 30

  static void promise30_wouldTake() {
    Script.on(30, "Likewise: what a LAYER would take of it.").go("place(0, 2, 9, 1)", "place(0, 11, 9, 2)", "place(1, 0, 1, 1)")
        .is("takes(0, 0, 0, 2, 0)", 0).is("takes(0, 0, 0, 3, 0)", 1).is("takes(0, 0, 0, 11, 0)", 9).is("takes(0, 0, 0, 11, 1)", 0)
        .is("takes(0, 0, 0, 12, 1)", 1).is("takes(0, 0, 0, 1000000000, 1)", 9).is("takes(0, 0, 0, 1000000000, 2)", 0)
        .go("harm(0, 0, 0, 20)").is("takes(0, 0, 0, 3, 0)", 0).is("takes(0, 0, 0, 3, 1)", 1).is("takes(0, 0, 0, 99, 1)", 9);
  }

  static void promise30_lessThan24() {
    manyHarms(30, "Likewise").is("takes(0, 0, 0, 20, 0)", 6).is("takes(0, 0, 0, 20, 1)", 0).is("takes(0, 1, 1, 20, 1)", 10);
    manyEvents(30, "Likewise").is("takes(0, 0, 0, 20, 0)", 20).is("takes(0, 0, 0, 31, 0)", 30);
  }

  static void promise30_refused() {
    Script.on(30, BOTH).numbers("takes(0, 0, 0, 1, #)", 0).go(Desks.RICH).numbers("takes(1, 3, 5, 10, #)", Desks.LAYERS)
        .harmYears("takes(#, 10, 0)").bounds("takes(1, 3, 5, #, 3)", 1, 1000000000).missing("takes(3, 1, 5, 10, 4)")
        .missing("takes(1, 3, 5, 0, -1)").wrong("takes(3, 1, 5, 10, 0)");
  }

  // ---- promise 31

  static void promise31_reasons() {
    Script s = Script.on(31, "Likewise: for a reason (0 to 6).");
    s.go("place(0, 1, 30, 1)", "sign(0, 0, 1)", "sign(0, 1, 2)", "sign(0, 2, 3)", "settle(1, 0)", "fall(2)");
    long[] due = {3, 1, 1, 32, 12, 6, 9};
    for (int reason = 0; reason < 7; reason++) s.is("drops(0, 1, 1, 64, " + reason + ")", due[reason]);
    s.bounds("drops(0, 1, 1, 64, #)", 0, 6).is("told(1)", 0);
  }

  static void promise31_lessThan24() {
    manyHarms(31, "Likewise").is("drops(0, 0, 0, 20, 1)", 4).is("drops(0, 0, 0, 20, 2)", 10).is("drops(0, 1, 1, 20, 4)", 10);
    manyEvents(31, "Likewise").is("drops(0, 0, 0, 31, 2)", 1);
  }

  static void promise31_refused() {
    rich(31, WRONG).harmYears("drops(#, 10, 0)").bounds("drops(1, 3, 5, #, 6)", 1, 1000000000).bounds("drops(1, 3, 5, 10, #)", 0, 6)
        .is("status(0)", 0);
  }

  // ---- promise 32

  static void promise32_share() {
    Script.on(32, "the SHARE of a YEAR by SPREAD 0 (0, if it is not SET OFF, or LACKS)").go("lack(2)", "place(1, 0, 5, 1)", "rules(0, 3, 1)")
        .is("share(1, 4, 6, 10, 1)", 4).is("share(1, 4, 6, 10, 2)", 0).is("share(1, 4, 6, 10, 3)", 3).is("share(1, 4, 6, 10, 4)", 3)
        .is("share(1, 4, 6, 10, 0)", 0).is("share(1, 4, 6, 10, 5)", 0).is("share(1, 4, 6, 10, 6)", 0).is("share(2, 2, 2, 10, 2)", 0)
        .is("share(1, 4, 6, 1, 1)", 1).is("share(1, 4, 6, 1, 3)", 0).is("share(1, 4, 6, 2, 3)", 1).is("share(1, 4, 6, 2, 4)", 0)
        .go("rules(1, 3, 1)").is("share(1, 4, 6, 10, 6)", 10).is("share(1, 4, 6, 10, 1)", 0)
        .go("rules(3, 1, 1)").is("share(1, 4, 6, 10, 6)", 2).is("share(1, 4, 6, 10, 5)", 0);
  }

  static void promise32_allYears() {
    Script s = new Script("promise 32: over all years");
    for (int y = 0; y < 12; y++) s.is("share(0, 11, 11, 1000000000, " + y + ")", y < 4 ? 83333334 : 83333333);
    for (int y = 0; y < 12; y++) s.is("share(0, 11, 11, 11, " + y + ")", y < 11 ? 1 : 0);
    for (int y = 0; y < 12; y++) s.go("lack(" + y + ")");
    for (int y = 0; y < 12; y++) s.is("share(0, 11, 11, 12, " + y + ")", 0);
  }

  static void promise32_refused() {
    rich(32, WRONG).harmYears("share(#, 10, 0)").bounds("share(1, 3, 5, #, 1)", 1, 1000000000).bounds("share(1, 3, 5, 10, #)", 0, 11)
        .is("status(0)", 0);
  }

  // ---- promise 33

  static void promise33_weight() {
    Script.on(33, "WEIGHT of a YEAR by SPREAD 1 for such YEARS (0, if it is not SET OFF, or LACKS)")
        .go("lack(2)", "place(1, 0, 5, 4)", "place(1, 9, 6, 1)", "place(4, 0, 8, 1)", "place(7, 0, 99, 1)")
        .is("weight(1, 4, 6, 1)", 11).is("weight(1, 4, 6, 2)", 0).is("weight(1, 4, 6, 3)", 9).is("weight(1, 4, 6, 4)", 8)
        .is("weight(1, 4, 6, 0)", 0).is("weight(1, 4, 6, 5)", 0).is("weight(1, 4, 6, 7)", 0).is("weight(2, 2, 2, 2)", 0)
        .is("weight(2, 3, 3, 3)", 1).go("rules(2, 2, 2)").is("weight(1, 4, 6, 5)", 9).is("weight(1, 4, 6, 6)", 9)
        .go("rules(1, 2, 2)").is("weight(1, 4, 7, 1)", 0).is("weight(1, 4, 7, 7)", 99).is("weight(1, 4, 6, 6)", 1);
  }

  static void promise33_great() {
    Script s = new Script("promise 33: the greatest weights");
    for (int k = 0; k < 6; k++) s.go("place(0, " + 100000000 * k + ", 100000000, 1)", "place(1, " + 100000000 * k + ", 100000000, 1)");
    s.is("weight(0, 2, 2, 0)", 600000000).is("weight(0, 2, 2, 2)", 600000000).go("place(2, 0, 1, 1)")
        .is("weight(0, 3, 3, 3)", 400000000).is("weight(2, 3, 3, 3)", 1).go("rules(0, 1, 0)")
        .is("takes(0, 2, 2, 1000000000, 12)", 0).is("drops(0, 2, 2, 1000000000, 2)", 0);
  }

  static void promise33_refused() {
    rich(33, WRONG).harmYears("weight(#, 0)").bounds("weight(1, 3, 5, #)", 0, 11).wrong("weight(3, 1, 5, 12)").is("status(0)", 0);
  }

  // ---- promise 34

  static void promise34_picks() {
    Script.on(34, "The k-th YEAR (from 0 on) by PICK, as it is now, of such YEARS (for a HARM of which nothing was taken by now)")
        .go("place(0, 0, 10, 2)", "place(1, 2, 9, 1)", "place(3, 1, 9, 1)", "place(5, 0, 99, 1)", "harm(0, 0, 0, 10)")
        // Room for a new harm: 10, 11, 10; year 5 is not set off.
        .is("picks(0, 3, 5, 0)", 1).is("picks(0, 3, 5, 1)", 0).is("picks(0, 3, 5, 2)", 3)
        .go("harm(0, 0, 0, 1)").is("picks(0, 3, 5, 1)", 3).is("picks(0, 3, 5, 2)", 0)
        .go("rules(0, 0, 1)").is("picks(0, 3, 5, 0)", 3).is("picks(0, 3, 5, 2)", 0)
        .go("rules(0, 1, 2)").is("picks(0, 3, 5, 0)", 0).is("picks(0, 3, 5, 1)", 3).is("picks(0, 3, 5, 2)", 1)
        .go("rules(2, 3, 3)").is("picks(0, 3, 5, 2)", 3).is("picks(0, 3, 5, 3)", 5);
  }

  static void promise34_notSoMany() {
    Script.on(34, "NONE: there are not so many.").is("picks(0, 11, 11, 0)", -1).go("lack(1)", "place(2, 0, 1, 1)").is("picks(0, 11, 11, 0)", 2)
        .is("picks(0, 11, 11, 1)", -1).is("picks(0, 11, 11, 2147483647)", -1).is("picks(0, 1, 1, 0)", -1).is("picks(3, 3, 3, 0)", -1)
        .go("rules(1, 0, 0)").is("picks(0, 2, 3, 0)", -1).is("picks(0, 1, 2, 0)", 2);
    Script all = new Script("promise 34: all years");
    for (int y = 0; y < 12; y++) all.go("place(" + y + ", 0, 1, 1)");
    for (int y = 0; y < 12; y++) all.is("picks(0, 11, 11, " + y + ")", y);
    all.is("picks(0, 11, 11, 12)", -1).go("rules(0, 0, 1)").is("picks(0, 11, 11, 0)", 11).is("picks(0, 11, 11, 11)", 0);
  }

  static void promise34_below0() {
    rich(34, "IllegalArgumentException: k below 0, too.").atLeast("picks(0, 3, 5, #)", 0).atLeast("picks(7, 7, 7, #)", 0)
        .harmYears("picks(#, 0)").wrong("picks(3, 1, 5, -1)").is("status(0)", 0);
  }

  static void promise34_refused() {
    Script.on(34, WRONG).atLeast("picks(0, 0, 0, #)", 0).harmYears("picks(#, 0)");
  }

  // ---- promise 46

  static void promise46_paidLessFair() {
    Script.on(46, "Were such a HARM told now, and SPREAD 2: what a LAYER would have PAID less what is FAIR.")
        .go("place(0, 0, 10, 1)", "place(1, 3, 10, 1)", "rules(0, 0, 3)")
        // In turn 10, then 1 in the hole; alike 6, and 5 of which 3 are in the hole.
        .is("uneven(0, 1, 1, 11, 0)", 4).is("uneven(0, 1, 1, 11, 1)", -2).is("uneven(0, 0, 0, 11, 0)", 0).is("uneven(0, 0, 0, 11, 1)", 0)
        .go("rules(0, 3, 1)").is("uneven(0, 1, 1, 11, 0)", 0 - 6).is("uneven(0, 1, 1, 11, 1)", 8 - 2).is("uneven(2, 3, 3, 5, 0)", 0)
        .go("rules(1, 1, 1)").is("uneven(0, 0, 1, 11, 0)", 0).is("uneven(0, 0, 1, 11, 1)", 0).is("told(4)", 1);
  }

  static void promise46_lessThan24() {
    manyHarms(46, "Were such a HARM told now").unfit("harm(0, 0, 0, 20)").is("uneven(0, 1, 1, 20, 1)", 20 - 10).is("uneven(0, 1, 1, 20, 0)", -6);
    manyEvents(46, "Were such a HARM told now").is("uneven(0, 1, 1, 20, 0)", 20 - 10);
  }

  static void promise46_refused() {
    Script.on(46, BOTH).numbers("uneven(0, 0, 0, 1, #)", 0).go(Desks.RICH).numbers("uneven(1, 3, 5, 10, #)", Desks.LAYERS)
        .harmYears("uneven(#, 10, 0)").bounds("uneven(1, 3, 5, #, 3)", 1, 1000000000).missing("uneven(3, 1, 5, 10, 4)")
        .missing("uneven(1, 3, 5, 0, -1)").wrong("uneven(3, 1, 5, 10, 0)");
  }
}
