import java.util.function.Supplier;

/** The sentences of the promises 15 to 18. */
final class LookingEdges {
  private final Edges e;

  LookingEdges(Edges edges) {
    e = edges;
  }

  void all() {
    e.below("Promise 15: count");
    count();
    e.below("Promise 16: relay");
    relay();
    e.below("Promise 17: condition");
    condition();
    e.below("Promise 18: event");
    event();
    eventArguments();
  }

  private void count() {
    e.sentence("Returns a number.");
    for (int what = 0; what <= 9; what++) {
      int it = what;
      int want = new int[] {2, 4, 2, 2, 0, 1, 0, 1, 3, 6}[what];
      e.still("count(" + what + ")", LookingEdges::bouncing, x -> x.count(it), want);
    }
    e.sentence("`what`: 0 the number of relays, 1 the time");
    RelayBank x = Banks.eight(20, 1, 5, "h");
    x.setFault(3, 1);
    x.setFault(4, 2);
    x.press(7, 1);
    int[] pressed = {8, 0, 8, 128, 255, 0, 16, 0, 0, 6};
    int[] attracted = {8, 20, 8, 128, 255, 255, 16, 255, 0, 6};
    int[] ended = {8, 25, 0, 128, 255, 255, 247, 0, 0, 6};
    same("pressed", x, pressed);
    x.settle(8);
    same("attracted", x, attracted);
    x.settle(8);
    same("ended", x, ended);
    x.press(7, 0);
    same("released", x, new int[] {8, 25, 8, 0, 0, 255, 247, 0, 0, 6});
    e.sentence("Returns the number;");
    same("of nothing", new RelayBank(), new int[10]);
    RelayBank y = new RelayBank();
    Check.type(y, " ".repeat(60));
    e.due("the greatest length", y.count(8), 60);
    e.due("looking saves nothing", y.count(9), 0);
    e.sentence("INVALID_ARGUMENT if what is out of range.");
    e.outside("what", Banks::some, 0, 9, (z, what) -> z.count(what));
    e.outside("what of nothing", Banks::without, 0, 9, (z, what) -> z.count(what));
  }

  /** A is attracted, bounces, and is not fed any more; its release and the end of its bounce wait. */
  private static RelayBank bouncing() {
    RelayBank x = Check.bank(3, 9, 5, "a", "A");
    x.press(0, 1);
    x.press(1, 1);
    x.step();
    x.pass(1);
    x.press(0, 0);
    Check.type(x, "a+?");
    return x;
  }

  private void same(String when, RelayBank x, int[] want) {
    for (int what = 0; what <= 9; what++) {
      e.due(when + ": count(" + what + ")", x.count(what), want[what]);
    }
  }

  private void relay() {
    e.sentence("Returns a property of a relay.");
    for (int what = 0; what <= 7; what++) {
      int it = what;
      int want = new int[] {4, 5, 3, 2, 0, 0, 1, 1}[what];
      e.still("relay(1, " + what + ")", LookingEdges::ownContact, x -> x.relay(1, it), want);
    }
    e.sentence("`relay`: a relay");
    RelayBank x = Banks.eight();
    e.due("the first", x.relay(0, 1), 2);
    e.due("the last", x.relay(7, 1), 9);
    e.sentence("`what`: 0 the pick-up delay, 1 the release delay");
    for (int what = 0; what <= 7; what++) {
      RelayBank y = new RelayBank();
      y.addRelay(20, 1, 0);
      y.addRelay(1, 20, 5);
      e.due("least or greatest " + what, y.relay(0, what), what == 0 ? 20 : what == 1 ? 1 : 0);
      e.due("greatest or least " + what, y.relay(1, what), new int[] {1, 20, 5, 0, 0, 0, 0, 0}[what]);
    }
    e.due("6 branches", Check.bank(1, 1, 0, "a+a+a+a+a+a").relay(0, 3), 6);
    x.setFault(7, 2);
    e.due("fault 2", x.relay(7, 4), 2);
    x.stick(7, 1);
    e.due("stuck", x.relay(7, 5), 1);
    e.due("the one before it is not", x.relay(6, 4) + x.relay(6, 5), 0);
    e.due("a relay of its own", own("A", 0), 1);
    e.due("inverted", own("/A", 0), 1);
    e.due("in the last branch", own("a+b+c+d+e+fA", 0), 1);
    e.due("not that of another", own("B+C+H", 0), 0);
    e.due("not the key of its number", own("abcdefgh", 0), 0);
    e.due("the last relay's", own("h+/H", 7), 1);
    e.due("not the last relay's", own("hABCDEFG", 7), 0);
    e.due("no branch", own("0", 7), 0);
    e.due("taken away", takenAway(), 0);
    RelayBank z = Check.bank(2, 2, 0, "a", "/A");
    e.due("conducts", z.relay(1, 7), 1);
    z.press(0, 1);
    z.step();
    e.due("does not", z.relay(1, 7), 0);
    e.sentence("Returns the property;");
    e.due("pick-up", z.relay(0, 0), 2);
    z.setDelays(0, 9, 2, 0);
    e.due("as it is now", z.relay(0, 0), 9);
    e.sentence("INVALID_ARGUMENT if there is no such relay or what is out of range.");
    e.outside("relay of 2", Banks::some, 0, 1, (y, relay) -> y.relay(relay, 0));
    e.outside("relay of 8", Banks::eight, 0, 7, (y, relay) -> y.relay(relay, 7));
    e.outside("what", Banks::some, 0, 7, (y, what) -> y.relay(1, what));
    e.still("relay of none", Banks::without, y -> y.relay(0, 0), -1);
  }

  private static RelayBank ownContact() {
    RelayBank x = Check.bank(4, 5, 3, "0", "a/B+/b");
    Check.type(x, "a+?");
    return x;
  }

  private static int own(String circuit, int relay) {
    RelayBank x = Banks.eight();
    Check.load(x, relay, circuit);
    return x.relay(relay, 6);
  }

  private static int takenAway() {
    RelayBank x = Check.bank(1, 1, 0, "a+A");
    x.removeBranch(0, 1);
    return x.relay(0, 6);
  }

  private void condition() {
    e.sentence("Returns a condition.");
    for (int subject = 0; subject < 10; subject++) {
      int it = subject;
      e.still("condition(1, 1, " + subject + ")", Banks::some, x -> x.condition(1, 1, it),
          subject == 1 ? 2 : subject == 9 ? 1 : 0);
    }
    e.sentence("`relay`: a relay");
    RelayBank x = Banks.eight();
    Check.load(x, 0, "/a");
    Check.load(x, 7, "1+1+1+1+1+aH");
    e.due("the first", x.condition(0, 0, 0), 2);
    e.due("the last", x.condition(7, 5, 0), 1);
    e.sentence("`branch`: number of a branch of it");
    e.due("the first", x.condition(7, 0, 15), 0);
    e.due("the last", x.condition(7, 5, 15), 1);
    e.due("the last but one", x.condition(7, 4, 15), 0);
    e.sentence("`subject`: 0 to 15, as for setCondition()");
    for (int subject = 0; subject < 16; subject++) {
      x.setCondition(3, 0, subject, 2);
      for (int other = 0; other < 16; other++) {
        e.due(other + " behind " + subject, x.condition(3, 0, other), other <= subject ? 2 : 0);
      }
    }
    e.sentence("Returns 0 none (also for a relay that there is not), 1 plain, 2 inverted;");
    RelayBank y = Check.bank(1, 1, 0, "a/bA");
    e.due("none", y.condition(0, 0, 2), 0);
    e.due("plain", y.condition(0, 0, 0), 1);
    e.due("inverted", y.condition(0, 0, 1), 2);
    e.due("the relay", y.condition(0, 0, 8), 1);
    for (int subject = 9; subject < 16; subject++) {
      e.due("a relay that there is not: " + subject, y.condition(0, 0, subject), 0);
    }
    e.sentence("INVALID_ARGUMENT if there is no such relay or branch, or subject is out of range.");
    e.outside("relay of 2", Banks::some, 0, 1, (z, relay) -> z.condition(relay, 0, 0));
    Supplier<RelayBank> eight = () -> Banks.eight(1, 1, 0, "a");
    e.outside("relay of 8", eight, 0, 7, (z, relay) -> z.condition(relay, 0, 0));
    e.outside("branch of 1", Banks::some, 0, 0, (z, branch) -> z.condition(0, branch, 0));
    e.outside("branch of 2", Banks::some, 0, 1, (z, branch) -> z.condition(1, branch, 0));
    Supplier<RelayBank> six = () -> Check.bank(1, 1, 0, "a+a+a+a+a+a", "1");
    e.outside("branch of 6", six, 0, 5, (z, branch) -> z.condition(0, branch, 0));
    e.still("branch of none", Banks::eight, z -> z.condition(0, 0, 0), -1);
    e.still("relay of none", Banks::without, z -> z.condition(0, 0, 0), -1);
    e.outside("subject", Banks::some, 0, 15, (z, subject) -> z.condition(0, 0, subject));
  }

  private void event() {
    e.sentence("Returns a part of an event that waits");
    RelayBank x = Check.bank(9, 1, 5, "a", "a", "a", "/c");
    x.setDelays(1, 3, 2, 5);
    x.press(0, 1);
    x.press(2, 1);
    order(x, new int[][] {{3, 1, 0}, {9, 0, 0}, {9, 2, 0}});
    x.step();
    x.setCondition(1, 0, 1, 1);
    order(x, new int[][] {{5, 1, 1}, {8, 1, 2}, {9, 0, 0}, {9, 2, 0}});
    x.undo();
    x.press(2, 0);
    order(x, new int[][] {{8, 1, 2}, {9, 0, 0}, {9, 2, 0}, {12, 3, 0}});
    x.step();
    order(x, new int[][] {{9, 0, 0}, {9, 2, 0}, {12, 3, 0}});
    RelayBank y = Check.bank(2, 2, 0, "a/B", "a/A");
    y.press(0, 1);
    // Only the first of the two will happen, but both wait now.
    order(y, new int[][] {{2, 0, 0}, {2, 1, 0}});
    e.still("event()", Banks::some, z -> z.event(0, 0), 7);
  }

  private void order(RelayBank x, int[][] want) {
    e.due("events that wait", x.count(2), want.length);
    for (int index = 0; index < want.length; index++) {
      for (int part = 0; part < 3; part++) {
        e.due("event(" + index + ", " + part + ")", x.event(index, part), want[index][part]);
      }
    }
    e.due("no other", x.event(want.length, 0), -9);
  }

  private void eventArguments() {
    e.sentence("`index`: 0 for the next one");
    RelayBank x = Banks.some();
    int relay = x.event(0, 1);
    int kind = x.event(0, 2);
    int time = x.event(0, 0);
    e.due("the next one", x.step(), 10 * relay + kind);
    e.due("its time", x.count(1), time);
    e.sentence("`part`: 0 its time, 1 its relay, 2 its kind");
    RelayBank y = Banks.eight();
    Check.load(y, 7, "1");
    e.due("time", y.event(0, 0), 8);
    e.due("relay", y.event(0, 1), 7);
    e.due("kind", y.event(0, 2), 0);
    e.sentence("Returns the part;");
    RelayBank late = Banks.late(100000);
    e.due("a time greater than 100000", late.event(0, 0), 100020);
    e.sentence("INVALID_ARGUMENT if index is negative or part is out of range;");
    e.still("index -1", Banks::some, z -> z.event(-1, 0), -1);
    e.still("least index", Banks::some, z -> z.event(Integer.MIN_VALUE, 2), -1);
    e.outside("part", Banks::some, 0, 2, (z, part) -> z.event(0, part));
    e.outside("part of no event", Banks::without, 0, 2, (z, part) -> z.event(0, part));
    e.outside("part, greatest index", Banks::some, 0, 2, (z, part) -> z.event(Integer.MAX_VALUE, part));
    e.sentence("NONE if not so many wait.");
    e.still("none at all", Banks::without, z -> z.event(0, 0), -9);
    int waiting = Banks.some().count(2);
    e.due("the last one", Banks.some().event(waiting - 1, 1), 0);
    for (int part = 0; part < 3; part++) {
      int it = part;
      e.still("one too many, part " + part, Banks::some, z -> z.event(waiting, it), -9);
      e.still("greatest index", Banks::some, z -> z.event(Integer.MAX_VALUE, it), -9);
    }
    RelayBank full = Banks.eight(2, 2, 5, "a");
    full.press(0, 1);
    full.settle(8);
    full.press(0, 0);
    e.due("the 16th", full.event(15, 1), 7);
    e.due("a 17th", full.event(16, 1), -9);
  }
}
