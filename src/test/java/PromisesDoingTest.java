/** Promises 1 to 11: a new object, and what can be done. */
public final class PromisesDoingTest {
  public static void main(String[] args) {
    newObject();
    place();
    placeLimits();
    sign();
    lack();
    rules();
    harm();
    growing();
    settle();
    fall();
    reopen();
    back();
    eventLimit();
    Script.end("PromisesDoingTest");
  }

  private static void newObject() {
    Script s = new Script("promise 1");
    for (int what = 0; what <= 6; what++) s.is("told(" + what + ")", 0);
    s.is("told(7)", 4095).is("told(8)", 0).is("told(9)", 0).is("told(10)", 0);
    for (int what = 0; what <= 2; what++) s.is("status(" + what + ")", 0);
    s.is("spent()", 0).is("back()", -1);
  }

  private static void place() {
    new Script("promise 2: the number of a layer")
        .is("place(3, 100, 50, 2)", 0).is("place(3, 0, 100, 1)", 1).is("place(3, 150, 1, 4)", 2)
        .is("place(4, 120, 50, 1)", 3)
        .is("layer(0, 7)", 0).is("layer(0, 8)", 10)
        .unfit("place(3, 99, 1, 1)").unfit("place(3, 149, 1, 1)").unfit("place(3, 0, 900, 1)")
        .unfit("place(3, 120, 5, 1)").unfit("place(3, 150, 1, 1)")
        .is("told(0)", 4).is("told(2)", 4).is("status(2)", 5);
    new Script("promise 2: bounds")
        .is("place(0, 900000000, 100000000, 1)", 0).is("place(11, 0, 1, 4)", 1)
        .is("layer(0, 5)", 100000000)
        .wrong("place(-1, 0, 1, 1)").wrong("place(12, 0, 1, 1)")
        .wrong("place(1, -1, 1, 1)").wrong("place(1, 900000001, 1, 1)")
        .wrong("place(1, 0, 0, 1)").wrong("place(1, 0, 100000001, 1)")
        .wrong("place(1, 0, 1, 0)").wrong("place(1, 0, 1, 5)")
        .wrong("place(-2147483648, 2147483647, 2147483647, 2147483647)")
        .is("status(1)", 9).is("told(2)", 2);
    new Script("promise 2: wrong ones are refused ahead of those that do not fit")
        .go("lack(1)").unfit("place(1, 0, 1, 1)").wrong("place(1, 0, 0, 1)");
  }

  private static void placeLimits() {
    Script six = new Script("promise 2: six of a year");
    for (int k = 0; k < 6; k++) six.is("place(2, " + 10 * k + ", 10, 1)", k);
    six.unfit("place(2, 60, 10, 1)").is("place(3, 60, 10, 1)", 6);
    Script forty = new Script("promise 2: forty layers");
    for (int k = 0; k < 40; k++) forty.is("place(" + k / 6 + ", " + 10 * (k % 6) + ", 10, 1)", k);
    forty.unfit("place(11, 0, 1, 1)").is("told(0)", 40).is("layer(39, 0)", 6)
        .is("back()", 39).is("place(11, 0, 1, 1)", 39).unfit("place(10, 0, 1, 1)");
  }

  private static void sign() {
    new Script("promise 3: tenths not signed")
        .go("place(0, 0, 100, 1)")
        .is("sign(0, 3, 4)", 6).is("sign(0, 0, 1)", 5).is("sign(0, 9, 2)", 3)
        .unfit("sign(0, 3, 1)").unfit("sign(0, 4, 4)")
        .is("sign(0, 4, 1)", 2).unfit("sign(0, 5, 1)")
        .is("layer(0, 7)", 4).is("layer(0, 8)", 2);
    new Script("promise 3: ten at most")
        .go("place(0, 0, 100, 1)").is("sign(0, 1, 10)", 0).unfit("sign(0, 2, 1)");
    new Script("promise 3: one that is not there is refused ahead of all")
        .go("place(0, 0, 100, 1)")
        .missing("sign(1, 1, 1)").missing("sign(-1, 10, 11)").missing("sign(40, 1, 1)")
        .wrong("sign(0, -1, 1)").wrong("sign(0, 10, 1)").wrong("sign(0, 1, 0)").wrong("sign(0, 1, 11)")
        .is("status(0)", 3).is("status(1)", 4);
    new Script("promise 3: a layer that took something")
        .go("place(0, 10, 100, 1)", "sign(0, 1, 5)", "harm(0, 0, 0, 10)")
        .is("sign(0, 2, 1)", 4)
        .go("harm(0, 0, 0, 11)").is("layer(0, 4)", 1).unfit("sign(0, 3, 1)").wrong("sign(0, 3, 11)")
        .is("back()", 4).is("sign(0, 3, 1)", 3);
    new Script("promise 3: what a layer took may be taken back by reopen()")
        .go("place(0, 0, 100, 1)", "place(1, 0, 100, 1)", "harm(0, 0, 1, 50)").unfit("sign(0, 1, 1)")
        .go("rules(1, 0, 0)", "reopen(0)").is("layer(0, 4)", 0).is("sign(0, 1, 1)", 9).unfit("sign(1, 1, 1)");
  }

  private static void lack() {
    new Script("promise 4")
        .is("lack(5)", 1).is("lack(0)", 2).is("lack(11)", 3).unfit("lack(5)")
        .go("place(6, 0, 1, 1)").unfit("lack(6)").unfit("place(5, 0, 1, 1)")
        .wrong("lack(-1)").wrong("lack(12)").is("told(6)", 2081).is("status(2)", 3);
  }

  private static void rules() {
    new Script("promise 5")
        .is("rules(0, 0, 0)", 0).is("rules(3, 2, 1)", 1).is("rules(3, 2, 1)", 0).is("rules(3, 2, 2)", 1)
        .is("told(2)", 2).is("told(3)", 3).is("told(4)", 2).is("told(5)", 2)
        .wrong("rules(4, 2, 2)").wrong("rules(-1, 2, 2)").wrong("rules(3, 4, 2)").wrong("rules(3, -1, 2)")
        .wrong("rules(3, 2, 4)").wrong("rules(3, 2, -1)").is("status(1)", 6);
    new Script("promise 5: as to what comes")
        .go("place(0, 0, 100, 1)", "place(1, 0, 100, 1)", "sign(0, 1, 10)", "sign(1, 2, 10)", "harm(0, 0, 1, 40)")
        .go("rules(1, 0, 0)").is("took(0, 0)", 40).is("took(0, 1)", 0)
        .go("grow(0, 30)").is("took(0, 0)", 40).is("took(0, 1)", 30);
  }

  private static void harm() {
    Script s = new Script("promise 6");
    s.is("harm(0, 0, 0, 1)", 0).is("harm(11, 11, 11, 1000000000)", 1).is("harm(0, 11, 11, 5)", 2)
        .wrong("harm(-1, 0, 0, 1)").wrong("harm(0, 0, 12, 1)").wrong("harm(2, 1, 3, 1)").wrong("harm(1, 3, 2, 1)")
        .wrong("harm(0, 12, 12, 1)").wrong("harm(0, 0, 0, 0)").wrong("harm(0, 0, 0, 1000000001)").wrong("harm(0, 0, 0, -5)")
        .is("told(1)", 3).is("burden(3)", 1000000006);
    for (int h = 3; h < 24; h++) s.is("harm(1, 2, 3, 7)", h);
    s.unfit("harm(1, 2, 3, 7)").wrong("harm(1, 2, 3, 0)").is("told(1)", 24)
        .is("would(1, 2, 3, 7, 0)", 7).is("back()", 23).is("harm(1, 2, 3, 7)", 23);
  }

  private static void growing() {
    new Script("promise 7")
        .go("place(0, 20, 100, 2)", "sign(0, 1, 5)", "harm(0, 0, 0, 10)")
        // The hole has 10 more; then 100, half of it unsigned; then all is above.
        .is("grow(0, 30)", 20).is("bears(0, 1)", 10).is("grow(0, 80)", 40).is("grow(0, 1)", 1)
        .is("damage(0, 3)", 121).is("damage(0, 5)", 3).is("falls(0, 1)", 20).is("falls(0, 2)", 1).is("falls(0, 4)", 50)
        .is("layer(0, 5)", 100)
        .wrong("grow(0, 0)").wrong("grow(0, 1000000001)").missing("grow(1, 0)").missing("grow(-1, 5)");
    new Script("promise 7: a loss goes beyond an int")
        .go("harm(0, 0, 0, 1000000000)").is("grow(0, 1000000000)", 1000000000).is("grow(0, 1000000000)", 1000000000)
        .is("damage(0, 3)", 3000000000L).is("damage(0, 4)", 3000000000L);
  }

  private static void settle() {
    new Script("promise 8")
        .go("place(0, 0, 100, 2)", "sign(0, 1, 6)", "sign(0, 2, 4)", "harm(0, 0, 0, 50)")
        .is("settle(1, 0)", 1).is("settle(9, 1000000000)", 2)
        .unfit("settle(1, 5)").unfit("fall(1)").wrong("settle(0, 1)").wrong("settle(10, 1)")
        .wrong("settle(2, -1)").wrong("settle(2, 1000000001)").wrong("settle(1, -1)")
        .is("bears(0, 1)", 30).is("grow(0, 10)", 6).is("bears(0, 1)", 30).is("falls(0, 5)", 6).is("bears(0, 2)", 24)
        .is("insurer(1, 1)", 1).is("insurer(0, 2)", 1000000000).is("told(8)", 514);
  }

  private static void fall() {
    new Script("promise 9")
        .go("place(0, 0, 100, 2)", "sign(0, 1, 6)", "sign(0, 2, 4)", "harm(0, 0, 0, 50)")
        .is("fall(2)", 1).is("fall(3)", 2).unfit("fall(2)").unfit("settle(2, 1)")
        .wrong("fall(0)").wrong("fall(10)").wrong("fall(-1)")
        .is("bears(0, 2)", 20).is("grow(0, 10)", 4).is("falls(0, 6)", 4).is("insurer(2, 1)", 2).is("told(9)", 12)
        .go("settle(1, 7)").unfit("fall(1)");
  }

  private static void reopen() {
    new Script("promise 10: by rules as they are then, and by who is sound then")
        .go("place(0, 10, 100, 1)", "sign(0, 1, 10)", "place(1, 0, 100, 1)", "sign(1, 2, 10)", "harm(0, 0, 1, 60)")
        .is("damage(0, 4)", 10).is("bears(0, 1)", 50)
        .go("rules(1, 0, 0)").is("reopen(0)", -10).is("bears(0, 1)", 0).is("bears(0, 2)", 60)
        .is("layer(0, 4)", 0).is("hole(0, 0)", 0).is("signed(0, 0, 2)", 0).is("signed(1, 0, 2)", 60)
        .go("fall(2)").is("reopen(0)", 60).is("bears(0, 2)", 0).is("falls(0, 6)", 60).is("signed(1, 0, 2)", 60)
        .is("reopen(0)", 0).missing("reopen(1)").missing("reopen(-1)").is("told(2)", 10);
    new Script("promise 10: what it grew by is spread in one amount, and what others left is found")
        .go("place(0, 0, 100, 1)", "sign(0, 1, 10)", "harm(0, 0, 0, 60)", "harm(0, 0, 0, 100)", "grow(0, 60)")
        .is("took(0, 0)", 60).is("took(1, 0)", 40).is("falls(0, 2)", 60).is("falls(1, 2)", 60)
        .is("reopen(0)", 0).is("damage(0, 3)", 120).is("damage(0, 5)", 1).is("took(0, 0)", 60)
        .go("rules(1, 0, 0)").is("reopen(1)", 0);
    new Script("promise 10: amounts in one differ from amounts apart")
        .go("place(0, 0, 10, 1)", "place(1, 0, 10, 1)", "place(2, 0, 10, 1)", "harm(0, 2, 2, 1)", "grow(0, 1)", "grow(0, 1)")
        .is("took(0, 0)", 3).is("reopen(0)", 0).is("took(0, 0)", 1).is("took(0, 1)", 1).is("took(0, 2)", 1);
    reopenAllEvents();
  }

  private static void reopenAllEvents() {
    // 152 times more by 1,000,000,000, then all of it at once by weights of 600,000,000: beyond what a long holds.
    Script s = new Script("promise 10: a great loss by great weights");
    for (int k = 0; k < 6; k++) s.go("place(0, " + 100000000 * k + ", 100000000, 4)");
    s.go("place(1, 0, 1, 1)", "rules(0, 1, 0)", "harm(0, 1, 1, 1000000000)");
    for (int k = 0; k < 150; k++) s.go("grow(0, 1000000000)");
    s.is("told(2)", 159).is("damage(0, 3)", 151000000000L);
    // 151,000,000,000 by 600,000,001: year 1 has 251 of it by cutting; the one that is left is for year 0.
    s.go("reopen(0)").is("took(0, 0)", 100000000).is("took(0, 6)", 1)
        .is("falls(0, 2)", 151000000000L - 600000001L).is("falls(0, 4)", 600000001).unfit("reopen(0)");
  }

  private static void back() {
    new Script("promise 11: all as ahead of it")
        .go("place(0, 0, 100, 1)", "sign(0, 1, 10)", "rules(2, 3, 1)", "lack(7)", "harm(0, 0, 0, 30)", "grow(0, 5)",
            "settle(1, 9)", "fall(2)", "reopen(0)")
        .is("bears(0, 1)", 0).is("back()", 8).is("bears(0, 1)", 35).is("told(9)", 4)
        .is("back()", 7).is("told(9)", 0).is("insurer(1, 2)", 9)
        .is("back()", 6).is("insurer(1, 2)", 0).is("told(8)", 0).is("damage(0, 3)", 35)
        .is("back()", 5).is("damage(0, 3)", 30).is("damage(0, 5)", 0).is("layer(0, 4)", 30)
        .is("back()", 4).is("layer(0, 4)", 0).is("signed(0, 0, 2)", 0).missing("damage(0, 0)").is("told(6)", 128)
        .is("back()", 3).is("told(6)", 0).is("told(4)", 3)
        .is("back()", 2).is("told(3)", 0).is("told(4)", 0).is("told(5)", 0).is("rules(0, 0, 0)", 0)
        .is("back()", 1).is("layer(0, 8)", 10).is("signed(0, 0, 0)", -1)
        .is("back()", 0).missing("layer(0, 0)").is("back()", -1).is("back()", -1).is("status(0)", 2);
    new Script("promise 11: refusals are no events")
        .go("place(0, 0, 100, 1)").wrong("place(0, 0, 0, 1)").is("back()", 0).is("status(1)", 1);
  }

  private static void eventLimit() {
    Script s = new Script("160 events");
    s.go("place(0, 0, 100, 1)", "harm(0, 0, 0, 10)");
    for (int k = 0; k < 158; k++) s.go("grow(0, 1)");
    s.is("told(2)", 160)
        .unfit("place(1, 0, 1, 1)").unfit("sign(0, 1, 1)").unfit("lack(5)").unfit("rules(1, 0, 0)")
        .unfit("harm(0, 0, 0, 1)").unfit("grow(0, 1)").unfit("settle(1, 1)").unfit("fall(1)").unfit("reopen(0)")
        .is("rules(0, 0, 0)", 0).wrong("rules(0, 0, 4)").missing("grow(1, 1)").wrong("grow(0, 0)").missing("reopen(1)")
        .is("status(2)", 9).is("told(2)", 160).is("damage(0, 3)", 168).is("event(159, 0)", 5)
        .is("back()", 159).is("grow(0, 5)", 5).is("told(2)", 160);
  }
}
