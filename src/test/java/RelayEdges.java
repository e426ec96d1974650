import java.util.function.Supplier;

/** The sentences of the promises 1 to 5. */
final class RelayEdges {
  private final Edges e;

  RelayEdges(Edges edges) {
    e = edges;
  }

  void all() {
    e.below("Promise 1: A new object");
    aNewObject();
    e.below("Promise 2: addRelay");
    addRelay();
    addRelayRefused();
    e.below("Promise 3: setDelays");
    setDelays();
    setDelaysRefused();
    e.below("Promise 4: setCondition");
    setCondition();
    aNewBranch();
    setConditionArguments();
    setConditionRefused();
    e.below("Promise 5: removeBranch");
    removeBranch();
    removeBranchRefused();
  }

  private void aNewObject() {
    e.sentence("Creates a bank without relays, at the time 0, with an empty text.");
    RelayBank x = new RelayBank();
    for (int what = 0; what <= 9; what++) {
      e.due("count(" + what + ")", x.count(what), 0);
    }
    e.due("relay(0, 0)", x.relay(0, 0), -1);
    e.due("step()", x.step(), -2);
    e.due("undo()", x.undo(), -2);
    e.due("clearText()", x.clearText(), 0);
    e.due("outcome(0, 1)", x.outcome(0, 1), 256);
    e.due("isRace()", x.isRace(), 0);
    e.due("raceBy(0)", x.raceBy(0), 0);
    e.due("hazards(0)", x.hazards(0), 0);
    e.due("stableStates()", x.stableStates(), 1);
    e.due("explain(0)", x.explain(0), 0);
    e.due("settle(200)", x.settle(200), 0);
    RelayBank other = Banks.some();
    e.due("one object knows nothing of another", new RelayBank().count(0), 0);
    e.due("nor the other of it", other.count(0), 2);
  }

  private void addRelay() {
    e.sentence("Adds a relay without branches.");
    RelayBank x = new RelayBank();
    for (int relay = 0; relay < 8; relay++) {
      x.addRelay(1, 1, 0);
      e.due("branches of " + relay, x.relay(relay, 3), 0);
      e.due("no branch 0 of " + relay, x.condition(relay, 0, 0), -1);
      e.due("fault of " + relay, x.relay(relay, 4), 0);
      e.due("stuck " + relay, x.relay(relay, 5), 0);
    }
    RelayBank z = new RelayBank();
    z.addRelay(9, 9, 5);
    Check.load(z, 0, "a");
    z.undo();
    z.undo();
    z.addRelay(1, 1, 0);
    e.due("nothing is left of one that was undone", z.relay(0, 3), 0);
    e.sentence("`pickUp`: 1 to 20");
    e.due("1", addAgain(x, 1, 7, 3), 7);
    e.due("1, read", x.relay(7, 0), 1);
    e.due("20", addAgain(x, 20, 7, 3), 7);
    e.due("20, read", x.relay(7, 0), 20);
    e.sentence("`release`: 1 to 20");
    e.due("1", addAgain(x, 7, 1, 3), 7);
    e.due("1, read", x.relay(7, 1), 1);
    e.due("20", addAgain(x, 7, 20, 3), 7);
    e.due("20, read", x.relay(7, 1), 20);
    e.sentence("`bounce`: 0 to 5");
    e.due("0", addAgain(x, 7, 8, 0), 7);
    e.due("0, read", x.relay(7, 2), 0);
    e.due("5", addAgain(x, 7, 8, 5), 7);
    e.due("5, read", x.relay(7, 2), 5);
    e.sentence("Returns its number;");
    RelayBank w = new RelayBank();
    for (int relay = 0; relay < 8; relay++) {
      e.due("addRelay()", w.addRelay(1, 1, 0), relay);
      e.due("relays", w.count(0), relay + 1);
    }
  }

  private static int addAgain(RelayBank x, int pickUp, int release, int bounce) {
    x.undo();
    return x.addRelay(pickUp, release, bounce);
  }

  private void addRelayRefused() {
    Supplier<RelayBank> some = Banks::some;
    e.sentence("INVALID_ARGUMENT if an argument is out of range;");
    e.outside("pick-up", some, 1, 20, (x, ticks) -> x.addRelay(ticks, 1, 0));
    e.outside("release", some, 1, 20, (x, ticks) -> x.addRelay(1, ticks, 0));
    e.outside("bounce", some, 0, 5, (x, ticks) -> x.addRelay(1, 1, ticks));
    e.outside("pick-up, 8 relays", Banks::eight, 1, 20, (x, ticks) -> x.addRelay(ticks, 1, 0));
    e.outside("release, 8 relays", Banks::eight, 1, 20, (x, ticks) -> x.addRelay(1, ticks, 0));
    e.outside("bounce, 8 relays", Banks::eight, 0, 5, (x, ticks) -> x.addRelay(1, 1, ticks));
    e.outside("all of them", some, 0, 20, (x, ticks) -> x.addRelay(ticks, ticks, ticks));
    e.sentence("CAPACITY_EXCEEDED if there are 8 relays.");
    e.still("a ninth", Banks::eight, x -> x.addRelay(1, 1, 0), -3);
    e.still("a ninth, greatest delays", Banks::eight, x -> x.addRelay(20, 20, 5), -3);
    RelayBank x = Banks.eight();
    x.undo();
    e.due("there are 7 again", x.addRelay(1, 1, 0), 7);
    e.due("there are 8 again", x.addRelay(1, 1, 0), -3);
  }

  private void setDelays() {
    e.sentence("Sets the delays and the bounce of a relay.");
    RelayBank x = Banks.eight();
    x.setDelays(3, 11, 12, 5);
    e.due("pick-up", x.relay(3, 0), 11);
    e.due("release", x.relay(3, 1), 12);
    e.due("bounce", x.relay(3, 2), 5);
    e.due("the one before", x.relay(2, 0) * 100 + x.relay(2, 1) * 10 + x.relay(2, 2), 340);
    e.due("the one behind", x.relay(4, 0) * 100 + x.relay(4, 1) * 10 + x.relay(4, 2), 560);
    Check.load(x, 3, "1");
    e.due("the new pick-up", x.event(0, 0), 11);
    x.step();
    e.due("the new bounce", x.event(0, 0), 16);
    Check.load(x, 3, "0");
    x.step();
    e.due("the new release", x.event(0, 0), 23);
    e.sentence("Events that wait stay as they are.");
    RelayBank y = Check.bank(5, 7, 3, "a");
    y.press(0, 1);
    y.setDelays(0, 1, 1, 5);
    e.due("a pick-up", y.event(0, 0), 5);
    y.step();
    e.due("but the bounce is that of its time", y.event(0, 0), 10);
    y.setDelays(0, 1, 9, 0);
    e.due("the end of a bounce, though there is none now", y.event(0, 0), 10);
    e.due("it bounces on", y.count(7), 1);
    y.press(0, 0);
    y.setDelays(0, 1, 1, 1);
    e.due("a release", y.event(1, 0), 14);
    y.setDelays(0, 1, 1, 0);
    y.step();
    e.due("the bounce has ended", y.count(7), 0);
    e.due("the release", y.step(), 1);
    e.due("without a bounce", y.count(2), 0);
    e.sentence("`relay`: a relay");
    RelayBank z = Banks.eight();
    e.due("the first", z.setDelays(0, 20, 20, 5), 1);
    e.due("the last", z.setDelays(7, 20, 20, 5), 1);
    e.due("first, read", z.relay(0, 0), 20);
    e.due("last, read", z.relay(7, 1), 20);
    e.sentence("`pickUp`: 1 to 20");
    e.due("1", z.setDelays(0, 1, 20, 5), 1);
    e.due("20", z.setDelays(0, 20, 20, 5), 1);
    e.sentence("`release`: 1 to 20");
    e.due("1", z.setDelays(0, 20, 1, 5), 1);
    e.due("20", z.setDelays(0, 20, 20, 5), 1);
    e.sentence("`bounce`: 0 to 5");
    e.due("0", z.setDelays(0, 20, 20, 0), 1);
    e.due("5", z.setDelays(0, 20, 20, 5), 1);
    e.sentence("Returns 1 if something changed, otherwise 0;");
    e.due("nothing", z.setDelays(0, 20, 20, 5), 0);
    e.due("pick-up alone", z.setDelays(0, 19, 20, 5), 1);
    e.due("release alone", z.setDelays(0, 19, 19, 5), 1);
    e.due("bounce alone", z.setDelays(0, 19, 19, 4), 1);
    e.due("nothing again", z.setDelays(0, 19, 19, 4), 0);
    e.due("nothing of a new one", z.setDelays(3, 4, 5, 0), 0);
  }

  private void setDelaysRefused() {
    Supplier<RelayBank> some = Banks::some;
    e.sentence("INVALID_ARGUMENT if there is no such relay or an argument is out of range.");
    e.outside("relay of 2", some, 0, 1, (x, relay) -> x.setDelays(relay, 4, 5, 3));
    e.outside("relay of 8", Banks::eight, 0, 7, (x, relay) -> x.setDelays(relay, 4, 5, 3));
    e.still("relay of none", Banks::without, x -> x.setDelays(0, 1, 1, 0), -1);
    e.outside("pick-up", some, 1, 20, (x, ticks) -> x.setDelays(1, ticks, 1, 0));
    e.outside("release", some, 1, 20, (x, ticks) -> x.setDelays(1, 1, ticks, 0));
    e.outside("bounce", some, 0, 5, (x, ticks) -> x.setDelays(1, 1, 1, ticks));
  }

  private void setCondition() {
    e.sentence("Sets a condition of a branch.");
    RelayBank x = Check.bank(1, 1, 0, "a/bA+c", "ab");
    x.setCondition(0, 0, 2, 2);
    e.due("set", x.condition(0, 0, 2), 2);
    e.due("others stay", x.condition(0, 0, 0) * 100 + x.condition(0, 0, 1) * 10 + x.condition(0, 0, 8), 121);
    e.due("the other branch stays", x.condition(0, 1, 2), 1);
    e.due("no branch more", x.relay(0, 3), 2);
    e.due("the other relay stays", x.condition(1, 0, 2), 0);
    x.setCondition(0, 0, 0, 0);
    e.due("taken away", x.condition(0, 0, 0), 0);
    e.due("others stay", x.condition(0, 0, 1) * 100 + x.condition(0, 0, 2) * 10 + x.condition(0, 0, 8), 221);
    x.setCondition(0, 0, 8, 2);
    e.due("turned", x.condition(0, 0, 8), 2);
    e.due("fed by it at once", x.relay(0, 7), 1);
    e.due("an event by it", x.event(0, 0), 1);
  }

  private void aNewBranch() {
    e.sentence("A branch with the number of branches is added for it");
    for (int how = 0; how <= 2; how++) {
      RelayBank x = Banks.eight();
      for (int branch = 0; branch < 6; branch++) {
        e.due("how it was", x.setCondition(5, branch, 15, how), 0);
        e.due("branches", x.relay(5, 3), branch + 1);
        e.due("its condition", x.condition(5, branch, 15), how);
        e.due("without others", x.condition(5, branch, 14) + x.condition(5, branch, 0), 0);
        e.due("not in others", x.relay(4, 3) + x.relay(6, 3), 0);
      }
      e.due("conducts", x.relay(5, 7), how == 1 ? 0 : 1);
    }
    RelayBank y = Check.bank(1, 1, 0, "a+/b+c");
    y.removeBranch(0, 2);
    y.removeBranch(0, 1);
    y.setCondition(0, 1, 7, 0);
    e.due("nothing is left of a removed one", y.condition(0, 1, 1) + y.condition(0, 1, 2), 0);
    e.due("it conducts", y.count(4), 1);
  }

  private void setConditionArguments() {
    e.sentence("`relay`: a relay");
    RelayBank x = Banks.eight();
    e.due("the first", x.setCondition(0, 0, 1, 1), 0);
    e.due("the last", x.setCondition(7, 0, 2, 2), 0);
    e.due("the first's", x.condition(0, 0, 1) * 10 + x.condition(0, 0, 2), 10);
    e.due("the last's", x.condition(7, 0, 1) * 10 + x.condition(7, 0, 2), 2);
    e.sentence("`branch`: 0 to the number of its branches");
    e.due("the number of them", x.setCondition(0, 1, 3, 1), 0);
    e.due("the last one", x.setCondition(0, 1, 3, 2), 1);
    e.due("the first one", x.setCondition(0, 0, 1, 2), 1);
    e.due("one more than their number", x.setCondition(0, 3, 3, 1), -1);
    e.due("branches of another one do not count", x.setCondition(7, 2, 3, 1), -1);
    e.sentence("`subject`: 0 to 7: a key, 8 to 15: the relay subject - 8");
    for (int subject : new int[] {0, 7, 8, 15}) {
      RelayBank y = Banks.eight();
      e.due("subject " + subject, y.setCondition(0, 0, subject, 1), 0);
      e.due("not fed", y.count(4), 0);
      if (subject < 8) {
        y.press(subject, 1);
      } else {
        y.setFault(subject - 8, 2);
      }
      e.due("fed by " + subject, y.count(4), 1);
    }
    e.sentence("`how`: 0 no condition, 1 plain, 2 inverted");
    RelayBank z = Check.bank(1, 1, 0, "abc");
    z.press(1, 1);
    z.press(2, 1);
    e.due("a is missing", z.count(4), 0);
    z.setCondition(0, 0, 0, 0);
    e.due("no condition", z.count(4), 1);
    z.setCondition(0, 0, 0, 1);
    e.due("plain", z.count(4), 0);
    z.setCondition(0, 0, 0, 2);
    e.due("inverted", z.count(4), 1);
    e.sentence("Returns how it was before;");
    for (int before = 0; before <= 2; before++) {
      for (int then = 0; then <= 2; then++) {
        z.setCondition(0, 0, 0, before);
        e.due("from " + before + " to " + then, z.setCondition(0, 0, 0, then), before);
      }
    }
  }

  private void setConditionRefused() {
    Supplier<RelayBank> some = Banks::some;
    e.sentence("INVALID_ARGUMENT if there is no such relay, or an argument is out of range");
    e.outside("relay of 2", some, 0, 1, (x, relay) -> x.setCondition(relay, 0, 0, 1));
    e.outside("relay of 8", Banks::eight, 0, 7, (x, relay) -> x.setCondition(relay, 0, 0, 1));
    e.still("relay of none", Banks::without, x -> x.setCondition(0, 0, 0, 1), -1);
    e.outside("branch of 1", some, 0, 1, (x, branch) -> x.setCondition(0, branch, 0, 1));
    e.outside("branch of none", Banks::eight, 0, 0, (x, branch) -> x.setCondition(7, branch, 0, 1));
    e.outside("subject of 2", some, 0, 9, (x, subject) -> x.setCondition(0, 0, subject, 1));
    e.outside("subject of 2, how 0", some, 0, 9, (x, subject) -> x.setCondition(0, 0, subject, 0));
    e.outside("subject of 8", Banks::eight, 0, 15, (x, subject) -> x.setCondition(0, 0, subject, 2));
    e.outside("how", some, 0, 2, (x, how) -> x.setCondition(0, 0, 0, how));
    e.outside("how of a new branch", some, 0, 2, (x, how) -> x.setCondition(0, 1, 0, how));
    e.still("subject 15 of 2", some, x -> x.setCondition(0, 0, 15, 1), -1);
    e.still("an eighth branch", RelayEdges::sixBranches, x -> x.setCondition(0, 7, 0, 1), -1);
    e.sentence("CAPACITY_EXCEEDED if there would be 7 branches.");
    for (int how = 0; how <= 2; how++) {
      int it = how;
      e.still("how " + how, RelayEdges::sixBranches, x -> x.setCondition(0, 6, 0, it), -3);
    }
    RelayBank x = sixBranches();
    e.due("the sixth can be changed", x.setCondition(0, 5, 5, 2), 1);
    x.removeBranch(0, 0);
    e.due("one less: there is room", x.setCondition(0, 5, 5, 2), 0);
    e.due("full again", x.setCondition(0, 6, 5, 2), -3);
  }

  private static RelayBank sixBranches() {
    return Check.bank(1, 1, 0, "a+b+c+d+e+f");
  }

  private void removeBranch() {
    e.sentence("Removes a branch;");
    RelayBank x = sixBranches();
    x.press(5, 1);
    e.due("fed by f", x.count(4), 1);
    x.removeBranch(0, 5);
    e.due("it does not conduct any more", x.count(4), 0);
    e.due("its event is taken away", x.count(2), 0);
    e.due("none of that number", x.condition(0, 5, 5), -1);
    RelayBank two = Check.bank(1, 1, 0, "a+b", "c+d");
    two.removeBranch(0, 1);
    e.due("the other relay's stay", two.relay(1, 3), 2);
    e.due("the first one's", two.condition(1, 0, 2), 1);
    e.sentence("those behind it get numbers that are 1 less.");
    for (int removed = 0; removed < 6; removed++) {
      RelayBank y = sixBranches();
      y.removeBranch(0, removed);
      for (int branch = 0; branch < 5; branch++) {
        for (int key = 0; key < 6; key++) {
          int its = branch < removed ? branch : branch + 1;
          e.due("key " + key + " in " + branch, y.condition(0, branch, key), key == its ? 1 : 0);
        }
      }
    }
    e.sentence("`relay`: a relay");
    RelayBank z = Banks.eight(1, 1, 0, "a+b");
    e.due("the first", z.removeBranch(0, 0), 1);
    e.due("the last", z.removeBranch(7, 0), 1);
    e.due("the others stay", z.relay(1, 3) + z.relay(6, 3), 4);
    e.sentence("`branch`: number of a branch of it");
    RelayBank w = sixBranches();
    e.due("the last", w.removeBranch(0, 5), 5);
    e.due("the first", w.removeBranch(0, 0), 4);
    e.due("as many as there are", w.removeBranch(0, 4), -1);
    e.due("the last then", w.removeBranch(0, 3), 3);
    e.sentence("Returns the number of its branches then;");
    RelayBank v = sixBranches();
    for (int left = 5; left >= 0; left--) {
      e.due("removeBranch()", v.removeBranch(0, 0), left);
      e.due("branches", v.relay(0, 3), left);
    }
    e.due("none is left", v.removeBranch(0, 0), -1);
  }

  private void removeBranchRefused() {
    e.sentence("INVALID_ARGUMENT if there is no such relay or branch.");
    e.outside("relay of 2", Banks::some, 0, 1, (x, relay) -> x.removeBranch(relay, 0));
    e.outside("relay of 8", () -> Banks.eight(1, 1, 0, "a"), 0, 7, (x, relay) -> x.removeBranch(relay, 0));
    e.outside("branch of 1", Banks::some, 0, 0, (x, branch) -> x.removeBranch(0, branch));
    e.outside("branch of 2", Banks::some, 0, 1, (x, branch) -> x.removeBranch(1, branch));
    e.outside("branch of 6", RelayEdges::sixBranches, 0, 5, (x, branch) -> x.removeBranch(0, branch));
    e.still("branch of none", Banks::eight, x -> x.removeBranch(7, 0), -1);
    e.still("relay of none", Banks::without, x -> x.removeBranch(0, 0), -1);
  }
}
