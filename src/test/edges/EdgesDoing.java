/** Promises 1 to 11, sentence by sentence: the last that is taken, the first that is refused, none, all, and the order. */
final class EdgesDoing {
  private static final String LAST_REASON = "throws IllegalArgumentException, IllegalStateException";

  /** A call that is the 160th event is taken; the same one is refused when there are 160, and all is as it was. */
  private static Script eventLimit(int promise, String sentence, String call) {
    return Script.on(promise, sentence).go(Desks.RICH).go("place(7, 0, 9, 1)").go(Desks.times(140, "grow(0, 1)"))
        .is("told(2)", 159).go(call).is("told(2)", 160).is("back()", 159).go("grow(0, 1)").is("told(2)", 160)
        .unfit(call).unfit(call).is("told(2)", 160).is("status(2)", 2).is("status(1)", 0).is("status(0)", 0);
  }

  // ---- promise 1

  static void promise01_nothingThere() {
    Script s = Script.on(1, "No LAYERS, no HARMS, no EVENTS; RULES 0, 0, 0.");
    for (int what = 0; what <= 6; what++) s.is("told(" + what + ")", 0);
    s.is("told(7)", 4095).is("told(8)", 0).is("told(9)", 0).is("told(10)", 0).numbers("layer(#, 0)", 0)
        .numbers("damage(#, 0)", 0).numbers("event(#, 0)", 0).is("rules(0, 0, 0)", 0).is("back()", -1).is("spent()", 0);
    for (int what = 0; what < 7; what++) s.is("burden(" + what + ")", 0);
    for (int y = 0; y < 12; y++) s.is("year(" + y + ", 0)", 0);
  }

  static void promise01_ofItsOwn() {
    // What is done with one object is not seen by another one.
    new Script("promise 1: a new object beside one that is used").go(Desks.RICH);
    Script.on(1, "No LAYERS, no HARMS, no EVENTS").is("told(0)", 0).is("told(1)", 0).is("told(2)", 0).is("told(3)", 0);
  }

  static void promise01_the512thCall() {
    Script s = new Script("promise 1: used for 512 calls").go("harm(0, 0, 0, 1)").go(Desks.times(159, "grow(0, 1)"));
    for (int k = 0; k < 350; k++) s.is("event(" + k % 160 + ", 0)", k % 160 == 0 ? 4 : 5);
    s.is("back()", 159).is("damage(0, 3)", 159);
  }

  // ---- promise 2

  static void promise02_number() {
    Script.on(2, "A LAYER more, not SIGNED: its number.").is("place(3, 5, 6, 2)", 0).is("place(3, 11, 6, 1)", 1)
        .is("place(0, 0, 1, 1)", 2).is("layer(2, 7)", 0).is("layer(2, 8)", 10).is("signed(2, 0, 0)", -1)
        .is("layer(2, 4)", 0).is("told(0)", 3).is("told(2)", 3);
  }

  static void promise02_wrong() {
    Script.on(2, "IllegalArgumentException: no such YEAR, FROM, SIZE, TIMES.")
        .bounds("place(#, 0, 1, 1)", 0, 11).bounds("place(0, #, 1, 1)", 0, 900000000).bounds("place(0, 0, #, 1)", 1, 100000000)
        .bounds("place(0, 0, 1, #)", 1, 4).bounds("place(0, 900000000, #, 1)", 1, 100000000)
        .bounds("place(11, #, 100000000, 4)", 0, 900000000).is("told(0)", 0).is("status(1)", 24).is("status(2)", 0);
  }

  static void promise02_lacks() {
    Script.on(2, "IllegalStateException: the YEAR LACKS").go("lack(4)").unfit("place(4, 0, 1, 1)")
        .unfit("place(4, 900000000, 100000000, 4)").is("place(3, 0, 1, 1)", 0).is("place(5, 0, 1, 1)", 1).is("status(2)", 2);
  }

  static void promise02_hasSix() {
    Script.on(2, "or has 6").go(Desks.layers(5)).is("place(0, 50, 10, 1)", 5).unfit("place(0, 60, 10, 1)")
        .unfit("place(0, 900000000, 1, 1)").is("place(1, 60, 10, 1)", 6);
  }

  static void promise02_fortyThere() {
    Script.on(2, "there are 40").go(Desks.layers(39)).is("place(9, 0, 1, 1)", 39).unfit("place(10, 0, 1, 1)")
        .unfit("place(9, 1, 1, 1)").is("told(0)", 40).is("back()", 39).is("place(10, 0, 1, 1)", 39);
  }

  static void promise02_common() {
    Script.on(2, "it has something in common with another one").go("place(0, 10, 10, 1)", "place(0, 30, 10, 1)")
        .unfit("place(0, 9, 2, 1)").unfit("place(0, 19, 1, 1)").unfit("place(0, 20, 11, 1)").unfit("place(0, 5, 100, 1)")
        .unfit("place(0, 39, 1, 1)").unfit("place(0, 12, 2, 1)").is("place(0, 20, 10, 1)", 2).is("place(0, 40, 1, 1)", 3)
        .is("place(0, 0, 10, 1)", 4).is("status(2)", 6);
  }

  static void promise02_events() {
    eventLimit(2, "or there are 160 EVENTS (that last reason so below)", "place(8, 0, 1, 1)");
  }

  static void promise02_order() {
    Script.on(2, LAST_REASON).go("lack(4)").wrong("place(4, -1, 1, 1)").wrong("place(4, 0, 0, 1)").wrong("place(4, 0, 1, 5)")
        .is("status(1)", 3).is("status(2)", 0)
        .go("place(0, 0, 9, 1)").wrong("place(0, 0, 9, 0)").unfit("place(0, 0, 9, 1)").is("status(2)", 1);
  }

  // ---- promise 3

  static void promise03_notSigned() {
    Script.on(3, "An INSURER (0 to 9) SIGNS a LAYER for so many tenths (1 to 10): how many are not SIGNED then.")
        .go("place(0, 0, 10, 1)", "place(1, 0, 10, 1)").is("sign(0, 0, 1)", 9).is("sign(0, 9, 9)", 0).is("sign(1, 5, 10)", 0)
        .is("layer(0, 8)", 0).is("layer(0, 7)", 2).is("signed(0, 1, 0)", 9).is("signed(0, 1, 1)", 9).is("told(10)", 1 + 512 + 32);
  }

  static void promise03_missing() {
    Script.on(3, "NoSuchElementException: no such LAYER, HARM, EVENT (so below, ahead of others).").numbers("sign(#, 1, 1)", 0)
        .go("place(0, 0, 10, 1)", "place(1, 0, 10, 1)").numbers("sign(#, 1, 1)", 2)
        .missing("sign(2, 10, 1)").missing("sign(2, 1, 11)").missing("sign(-1, -1, 0)").is("status(1)", 0);
  }

  static void promise03_wrong() {
    Script.on(3, "IllegalArgumentException: another INSURER, other tenths.").go("place(0, 0, 10, 1)")
        .bounds("sign(0, #, 1)", 0, 9).bounds("sign(0, 1, #)", 1, 10).is("layer(0, 7)", 0).is("status(1)", 8);
  }

  static void promise03_thatOneSigned() {
    Script.on(3, "IllegalStateException: that one SIGNED it").go("place(0, 0, 10, 1)", "place(1, 0, 10, 1)", "sign(0, 4, 1)",
        "sign(0, 0, 1)").unfit("sign(0, 4, 1)").unfit("sign(0, 0, 1)").is("sign(0, 5, 1)", 7).is("sign(1, 4, 1)", 9)
        .unfit("sign(1, 4, 9)");
  }

  static void promise03_fourDid() {
    Script.on(3, "4 did").go("place(0, 0, 10, 1)", "sign(0, 1, 1)", "sign(0, 2, 1)", "sign(0, 3, 1)").is("sign(0, 0, 1)", 6)
        .unfit("sign(0, 4, 1)").unfit("sign(0, 4, 6)").is("back()", 4).is("sign(0, 4, 7)", 0);
  }

  static void promise03_moreThanTen() {
    Script.on(3, "it would be more than 10").go("place(0, 0, 10, 1)", "sign(0, 1, 3)").unfit("sign(0, 2, 8)").unfit("sign(0, 2, 10)")
        .is("sign(0, 2, 7)", 0).unfit("sign(0, 3, 1)").is("layer(0, 7)", 2);
  }

  static void promise03_tookAnything() {
    Script.on(3, "or it took anything by now").go("place(0, 5, 10, 1)", "place(0, 15, 10, 1)", "harm(0, 0, 0, 5)")
        // All of it is in the hole: nothing was taken by now.
        .is("sign(0, 1, 1)", 9).go("grow(0, 1)").is("layer(0, 4)", 1).unfit("sign(0, 2, 1)").is("sign(1, 2, 1)", 9)
        .is("back()", 5).is("layer(0, 4)", 1).is("back()", 4).is("sign(0, 2, 1)", 8);
  }

  static void promise03_tookInTheEnd() {
    // By contribution layer 0 gives back all that it paid: in the end it took nothing.
    new Script("promise 3: took in the end").go("place(0, 6, 10, 1)", "place(1, 0, 10, 1)", "rules(0, 2, 3)", "harm(0, 1, 1, 9)")
        .is("took(0, 0)", 0).is("moved(0, 0)", -3).is("sign(0, 1, 1)", 9).unfit("sign(1, 1, 1)");
  }

  static void promise03_events() {
    eventLimit(3, "throws NoSuchElementException, IllegalArgumentException, IllegalStateException", "sign(4, 1, 1)")
        .missing("sign(5, 1, 1)").wrong("sign(4, 10, 1)").wrong("sign(4, 1, 0)");
  }

  static void promise03_order() {
    Script.on(3, "(so below, ahead of others)").go("place(0, 0, 10, 1)", "sign(0, 1, 10)").missing("sign(1, 1, 10)")
        .wrong("sign(0, 1, 11)").wrong("sign(0, -1, 10)").unfit("sign(0, 1, 10)")
        .is("status(0)", 1).is("status(1)", 2).is("status(2)", 1);
  }

  // ---- promise 4

  static void promise04_howMany() {
    Script s = Script.on(4, "A YEAR LACKS: how many do.");
    for (int y = 0; y < 12; y++) s.is("lack(" + y + ")", y + 1);
    s.is("told(6)", 4095).is("told(7)", 4095);
    for (int y = 0; y < 12; y++) s.unfit("lack(" + y + ")");
    s.is("status(2)", 12).is("told(2)", 12);
  }

  static void promise04_wrong() {
    Script.on(4, LAST_REASON).bounds("lack(#)", 0, 11).is("told(6)", 0).is("status(1)", 4);
  }

  static void promise04_does() {
    Script.on(4, "IllegalStateException: it does").go("lack(0)", "lack(11)").unfit("lack(0)").unfit("lack(11)").is("lack(1)", 3)
        .is("back()", 2).is("lack(1)", 3).unfit("lack(1)");
  }

  static void promise04_hasLayers() {
    Script.on(4, "or has LAYERS").go("place(0, 900000000, 1, 1)", "place(11, 0, 1, 1)").unfit("lack(0)").unfit("lack(11)")
        .is("lack(10)", 1).is("back()", 2).is("back()", 1).is("lack(11)", 1);
  }

  static void promise04_events() {
    eventLimit(4, LAST_REASON, "lack(11)").wrong("lack(12)").wrong("lack(-1)");
  }

  // ---- promise 5

  static void promise05_fromNowOn() {
    Script.on(5, "RULES are these from now on (as to what comes): 1").go("place(0, 0, 50, 1)", "place(1, 0, 50, 1)", "harm(0, 0, 1, 4)")
        .is("rules(1, 0, 0)", 1).is("took(0, 0)", 4).is("took(0, 1)", 0).go("harm(0, 0, 1, 4)").is("took(1, 1)", 4)
        .is("rules(1, 3, 0)", 1).is("rules(1, 3, 3)", 1).is("told(3)", 1).is("told(4)", 3).is("told(5)", 3).is("told(2)", 7);
  }

  static void promise05_areSo() {
    Script.on(5, "0: they are so (ahead of other refusals but IllegalArgumentException)").is("rules(0, 0, 0)", 0)
        .is("told(2)", 0).is("rules(3, 2, 1)", 1).is("rules(3, 2, 1)", 0).is("rules(3, 2, 0)", 1).is("rules(2, 2, 0)", 1)
        .is("rules(2, 3, 0)", 1).is("told(2)", 4).is("back()", 3).is("rules(2, 2, 0)", 0).is("status(2)", 0);
  }

  static void promise05_areSoWhenFull() {
    eventLimit(5, "(ahead of other refusals but IllegalArgumentException)", "rules(2, 2, 1)")
        .is("rules(2, 2, 0)", 0).is("told(2)", 160).wrong("rules(2, 2, 4)").wrong("rules(-1, 2, 0)").unfit("rules(0, 0, 0)")
        .is("rules(2, 2, 0)", 0).is("status(1)", 2).is("status(2)", 3);
  }

  static void promise05_wrong() {
    Script.on(5, LAST_REASON).bounds("rules(#, 0, 0)", 0, 3).bounds("rules(0, #, 0)", 0, 3).bounds("rules(0, 0, #)", 0, 3)
        .is("status(1)", 12).is("told(2)", 0);
  }

  // ---- promise 6

  static void promise06_number() {
    Script.on(6, "A HARM more, SPREAD: its number.").go("place(4, 0, 9, 1)").is("harm(4, 4, 4, 3)", 0).is("took(0, 0)", 3)
        .is("harm(4, 4, 4, 3)", 1).is("took(1, 0)", 3).is("layer(0, 4)", 6).is("told(1)", 2).is("told(2)", 3);
  }

  static void promise06_wrong() {
    Script.on(6, "IllegalArgumentException: no such YEARS, LOSS.").harmYears("harm(#, 1)").bounds("harm(0, 0, 0, #)", 1, 1000000000)
        .is("told(1)", 0).is("status(2)", 0).is("burden(3)", 0);
  }

  static void promise06_twentyFour() {
    Script.on(6, "IllegalStateException: there are 24.").go(Desks.times(23, "harm(0, 0, 0, 1)")).is("harm(0, 0, 0, 1)", 23)
        .unfit("harm(0, 0, 0, 1)").wrong("harm(0, 0, 0, 0)").wrong("harm(1, 0, 0, 1)").is("told(1)", 24).is("burden(3)", 24)
        .is("grow(23, 1)", 1).is("back()", 24).is("back()", 23).is("harm(0, 0, 0, 1)", 23);
  }

  static void promise06_events() {
    eventLimit(6, LAST_REASON, "harm(0, 0, 0, 1)").wrong("harm(0, 0, 0, 0)").wrong("harm(0, 0, 12, 1)");
  }

  // ---- promise 7

  static void promise07_insuredBears() {
    Script.on(7, "A HARM GROWS by so much (1 to 1,000,000,000): what of that the INSURED BEARS.")
        .go("place(0, 0, 10, 1)", "sign(0, 1, 10)", "harm(0, 0, 0, 4)").is("grow(0, 6)", 0).is("grow(0, 1)", 1).is("grow(0, 1)", 1)
        .is("back()", 5).is("back()", 4).is("back()", 3).is("grow(0, 7)", 1).is("grow(0, 1000000000)", 1000000000)
        .is("damage(0, 4)", 1000000001).is("damage(0, 5)", 2);
  }

  static void promise07_wrong() {
    Script.on(7, "(1 to 1,000,000,000)").go("harm(0, 0, 0, 1)").bounds("grow(0, #)", 1, 1000000000).is("damage(0, 3)", 1)
        .is("damage(0, 5)", 0).is("status(1)", 4);
  }

  static void promise07_missing() {
    Script.on(7, "throws NoSuchElementException, IllegalArgumentException").numbers("grow(#, 1)", 0)
        .go("harm(0, 0, 0, 1)", "harm(0, 0, 0, 1)").numbers("grow(#, 1)", 2).missing("grow(2, 0)").missing("grow(-1, 1000000001)")
        .is("status(1)", 0);
  }

  static void promise07_events() {
    eventLimit(7, "throws NoSuchElementException, IllegalArgumentException, IllegalStateException", "grow(1, 1)")
        .missing("grow(2, 1)").wrong("grow(1, 0)").wrong("grow(1, 1000000001)").missing("grow(2, 0)");
  }

  // ---- promise 8

  static void promise08_howMany() {
    Script s = Script.on(8, "An INSURER (1 to 9) SETTLES for CASH (0 to 1,000,000,000): how many are SETTLED.");
    s.is("settle(1, 0)", 1).is("settle(9, 1000000000)", 2).go("fall(5)").is("settle(2, 1)", 3).is("told(8)", 2 + 512 + 4)
        .is("insurer(1, 2)", 0).is("insurer(9, 2)", 1000000000).is("insurer(0, 2)", 1000000001);
    new Script("promise 8: all of them").go("settle(1, 5)", "settle(2, 5)", "settle(3, 5)", "settle(4, 5)", "settle(5, 5)",
        "settle(6, 5)", "settle(7, 5)", "settle(8, 5)").is("settle(9, 5)", 9).is("told(8)", 1022).is("insurer(0, 2)", 45);
  }

  static void promise08_wrong() {
    Script.on(8, LAST_REASON).bounds("settle(#, 5)", 1, 9).bounds("settle(1, #)", 0, 1000000000).is("told(8)", 0).is("status(1)", 8);
  }

  static void promise08_notSound() {
    Script.on(8, "IllegalStateException: it is not SOUND.").go("settle(1, 4)", "fall(2)").unfit("settle(1, 4)").unfit("settle(1, 5)")
        .unfit("settle(2, 4)").is("insurer(1, 2)", 4).is("insurer(2, 2)", 0).is("insurer(2, 1)", 2).wrong("settle(1, -1)")
        .wrong("settle(2, 1000000001)").is("settle(3, 4)", 2).is("status(2)", 3);
  }

  static void promise08_events() {
    eventLimit(8, LAST_REASON, "settle(9, 1)").wrong("settle(0, 1)").wrong("settle(9, -1)");
  }

  // ---- promise 9

  static void promise09_howMany() {
    Script s = Script.on(9, "An INSURER (1 to 9) FALLS: how many are FALLEN.");
    for (int i = 1; i <= 9; i++) s.is("fall(" + i + ")", i);
    s.is("told(9)", 1022);
    for (int i = 1; i <= 9; i++) s.unfit("fall(" + i + ")");
    new Script("promise 9: those that are settled are not counted").go("settle(4, 4)", "settle(5, 5)").is("fall(6)", 1).is("fall(1)", 2);
  }

  static void promise09_wrong() {
    Script.on(9, LAST_REASON).bounds("fall(#)", 1, 9).is("told(9)", 0).is("status(1)", 4);
  }

  static void promise09_fallenOrSettled() {
    Script.on(9, "IllegalStateException: it is FALLEN, or SETTLED.").go("fall(1)", "settle(2, 6)").unfit("fall(1)").unfit("fall(2)")
        .is("insurer(1, 1)", 2).is("insurer(2, 1)", 1).is("insurer(2, 2)", 6).is("back()", 1).is("fall(2)", 2).unfit("fall(2)");
  }

  static void promise09_events() {
    eventLimit(9, LAST_REASON, "fall(9)").wrong("fall(0)").wrong("fall(10)");
  }

  // ---- promise 10

  static void promise10_less() {
    Script.on(10, "what of it the INSURED BEARS now, less what he BORE ahead of that (below 0, too)")
        .go("place(0, 4, 10, 1)", "place(1, 0, 10, 1)", "sign(0, 1, 10)", "sign(1, 2, 10)", "harm(0, 0, 1, 10)").is("damage(0, 4)", 4)
        .is("reopen(0)", 0).go("rules(1, 0, 0)").is("reopen(0)", -4).is("damage(0, 4)", 0).go("rules(0, 0, 0)").is("reopen(0)", 4)
        .go("fall(1)").is("reopen(0)", 6).is("damage(0, 4)", 10).go("rules(1, 0, 0)").is("reopen(0)", -10).is("told(2)", 14);
  }

  static void promise10_missing() {
    Script.on(10, "throws NoSuchElementException, IllegalStateException").numbers("reopen(#)", 0)
        .go("harm(0, 0, 0, 1)", "harm(0, 0, 0, 1)").numbers("reopen(#)", 2).is("status(0)", 8);
  }

  static void promise10_events() {
    eventLimit(10, "throws NoSuchElementException, IllegalStateException", "reopen(0)").missing("reopen(2)").missing("reopen(-1)");
  }

  // ---- promise 11

  static void promise11_howManyAreLeft() {
    Script s = Script.on(11, "The latest EVENT is taken back (all as ahead of it, RULES, too): how many are left").go(Desks.RICH);
    s.is("told(3)", 2).is("told(4)", 2);
    for (int left = Desks.EVENTS - 1; left >= 0; left--) {
      s.is("back()", left).is("told(2)", left);
      if (left == 12) s.is("told(3)", 0).is("told(4)", 0).is("told(1)", 1).is("rules(0, 0, 0)", 0);
    }
    s.is("told(0)", 0).is("told(1)", 0).is("told(6)", 0).is("told(7)", 4095).is("told(10)", 0).is("insurer(0, 0)", 0);
  }

  /** Whatever the kind of an event: done and taken back, all is as ahead of it. */
  static void promise11_allAsAhead() {
    Script s = Script.on(11, "(all as ahead of it, RULES, too)").go(Desks.RICH).go("place(7, 0, 9, 1)");
    for (String call : new String[] {"place(8, 3, 4, 2)", "sign(4, 6, 3)", "lack(10)", "rules(1, 3, 3)", "harm(0, 2, 6, 400)",
      "grow(1, 333)", "settle(7, 9)", "fall(3)", "reopen(0)"}) s.doneAndBack(call);
  }

  static void promise11_none() {
    Script.on(11, "-1: there is none").is("back()", -1).is("back()", -1).go("lack(0)").is("back()", 0).is("back()", -1)
        .is("status(0)", 0).is("status(1)", 0).is("status(2)", 0).wrong("lack(12)").is("back()", -1).is("rules(0, 0, 0)", 0)
        .is("back()", -1).is("status(1)", 1);
  }

  static void promise11_whenFull() {
    new Script("promise 11: from 160 on").go("harm(0, 0, 0, 1)").go(Desks.times(159, "grow(0, 1)")).unfit("grow(0, 1)")
        .is("back()", 159).is("damage(0, 3)", 159).is("damage(0, 5)", 158).go("grow(0, 7)").unfit("grow(0, 1)").is("damage(0, 3)", 166);
  }
}
