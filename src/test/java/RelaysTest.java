/** Promises 1 to 5: a new object, relays and their circuits. */
public final class RelaysTest {
  private static final Check check = new Check("RelaysTest");

  public static void main(String[] args) {
    aNewObject();
    addRelay();
    setDelays();
    eventsStayWhenDelaysChange();
    setCondition();
    setConditionLooksAtCoils();
    removeBranch();
    check.end();
  }

  private static void aNewObject() {
    RelayBank x = new RelayBank();
    for (int what = 0; what <= 9; what++) {
      check.due("new: count(" + what + ")", x.count(what), 0);
    }
    check.due("new: step()", x.step(), -2);
    check.due("new: undo()", x.undo(), -2);
    check.due("new: event(0, 0)", x.event(0, 0), -9);
    check.due("new: outcome(0, 1)", x.outcome(0, 1), 256);
    check.due("new: outcome(1, 200)", x.outcome(1, 200), 256);
    check.due("new: isRace()", x.isRace(), 0);
    check.due("new: raceBy(7)", x.raceBy(7), 0);
    check.due("new: hazards(0)", x.hazards(0), 0);
    check.due("new: stableStates()", x.stableStates(), 1);
    check.due("new: explain(0)", x.explain(0), 0);
    check.due("new: relay(0, 0)", x.relay(0, 0), -1);
    check.due("new: condition(0, 0, 0)", x.condition(0, 0, 0), -1);
    check.due("new: clearText()", x.clearText(), 0);
    check.due("new: settle(1)", x.settle(1), 0);
    check.due("new: pass(1000)", x.pass(1000), 0);
    check.due("new: count(1)", x.count(1), 1000);
  }

  private static void addRelay() {
    RelayBank x = new RelayBank();
    check.due("addRelay(0, 1, 0)", x.addRelay(0, 1, 0), -1);
    check.due("addRelay(1, 0, 0)", x.addRelay(1, 0, 0), -1);
    check.due("addRelay(1, 1, -1)", x.addRelay(1, 1, -1), -1);
    check.due("addRelay(21, 1, 0)", x.addRelay(21, 1, 0), -1);
    check.due("addRelay(1, 21, 0)", x.addRelay(1, 21, 0), -1);
    check.due("addRelay(1, 1, 6)", x.addRelay(1, 1, 6), -1);
    check.due("addRelay(min, max, min)",
        x.addRelay(Integer.MIN_VALUE, Integer.MAX_VALUE, Integer.MIN_VALUE), -1);
    check.due("refused: count(0)", x.count(0), 0);
    check.due("refused: count(9)", x.count(9), 0);
    check.due("addRelay(1, 20, 5)", x.addRelay(1, 20, 5), 0);
    check.due("addRelay(20, 1, 0)", x.addRelay(20, 1, 0), 1);
    check.due("pick-up of 0", x.relay(0, 0), 1);
    check.due("release of 0", x.relay(0, 1), 20);
    check.due("bounce of 0", x.relay(0, 2), 5);
    check.due("pick-up of 1", x.relay(1, 0), 20);
    check.due("release of 1", x.relay(1, 1), 1);
    check.due("bounce of 1", x.relay(1, 2), 0);
    check.due("branches of 1", x.relay(1, 3), 0);
    check.due("conducts 1", x.relay(1, 7), 0);
    for (int i = 2; i < 8; i++) {
      check.due("addRelay " + i, x.addRelay(2, 3, 4), i);
    }
    check.due("saved", x.count(9), 6);
    check.due("ninth addRelay", x.addRelay(2, 3, 4), -3);
    check.due("ninth addRelay, wrong", x.addRelay(2, 0, 4), -1);
    check.due("8 relays", x.count(0), 8);
    check.due("undo()", x.undo(), 5);
    check.due("7 relays", x.count(0), 7);
    check.due("relay 7 is gone", x.relay(7, 0), -1);
  }

  private static void setDelays() {
    RelayBank x = new RelayBank();
    check.due("no relay", x.setDelays(0, 1, 1, 1), -1);
    x.addRelay(3, 4, 5);
    check.due("same", x.setDelays(0, 3, 4, 5), 0);
    check.due("same is saved too", x.count(9), 2);
    check.due("pick-up", x.setDelays(0, 2, 4, 5), 1);
    check.due("release", x.setDelays(0, 2, 3, 5), 1);
    check.due("bounce", x.setDelays(0, 2, 3, 0), 1);
    check.due("back", x.setDelays(0, 2, 3, 0), 0);
    check.due("relay -1", x.setDelays(-1, 2, 3, 0), -1);
    check.due("relay 1", x.setDelays(1, 2, 3, 0), -1);
    check.due("pick-up 0", x.setDelays(0, 0, 3, 0), -1);
    check.due("pick-up 21", x.setDelays(0, 21, 3, 0), -1);
    check.due("release 0", x.setDelays(0, 2, 0, 0), -1);
    check.due("release 21", x.setDelays(0, 2, 21, 0), -1);
    check.due("bounce -1", x.setDelays(0, 2, 3, -1), -1);
    check.due("bounce 6", x.setDelays(0, 2, 3, 6), -1);
    check.due("edges", x.setDelays(0, 20, 1, 5), 1);
    check.due("pick-up then", x.relay(0, 0), 20);
    check.due("release then", x.relay(0, 1), 1);
    check.due("bounce then", x.relay(0, 2), 5);
  }

  private static void eventsStayWhenDelaysChange() {
    RelayBank x = Check.bank(5, 7, 2, "a");
    x.press(0, 1);
    x.setDelays(0, 9, 9, 3);
    check.due("the event stays", x.event(0, 0), 5);
    x.step();
    check.due("the bounce is the present one", x.event(0, 0), 8);
    x.setDelays(0, 9, 9, 0);
    check.due("it bounces still", x.count(7), 1);
    x.press(0, 0);
    check.due("release at 14", x.event(1, 0), 14);
    check.due("the bounce ends at 8", x.event(0, 0), 8);
    check.due("step", x.step(), 2);
    check.due("step", x.step(), 1);
    check.due("no bounce any more", x.count(7), 0);
  }

  private static void setCondition() {
    RelayBank x = new RelayBank();
    check.due("no relay", x.setCondition(0, 0, 0, 1), -1);
    x.addRelay(1, 1, 0);
    x.addRelay(1, 1, 0);
    check.due("relay 2", x.setCondition(2, 0, 0, 1), -1);
    check.due("relay -1", x.setCondition(-1, 0, 0, 1), -1);
    check.due("branch -1", x.setCondition(0, -1, 0, 1), -1);
    check.due("branch 1 of 0", x.setCondition(0, 1, 0, 1), -1);
    check.due("subject -1", x.setCondition(0, 0, -1, 1), -1);
    check.due("subject 10: no relay 2", x.setCondition(0, 0, 10, 1), -1);
    check.due("subject 10, how 0", x.setCondition(0, 0, 10, 0), -1);
    check.due("subject 16", x.setCondition(0, 0, 16, 1), -1);
    check.due("how -1", x.setCondition(0, 0, 0, -1), -1);
    check.due("how 3", x.setCondition(0, 0, 0, 3), -1);
    check.due("no branch by errors", x.relay(0, 3), 0);
    check.due("only addRelay is saved", x.count(9), 2);
    check.due("new branch", x.setCondition(0, 0, 7, 1), 0);
    check.due("to inverted", x.setCondition(0, 0, 7, 2), 1);
    check.due("it is inverted", x.condition(0, 0, 7), 2);
    check.due("to none", x.setCondition(0, 0, 7, 0), 2);
    check.due("it is none", x.condition(0, 0, 7), 0);
    check.due("again none", x.setCondition(0, 0, 7, 0), 0);
    check.due("a relay", x.setCondition(0, 0, 9, 2), 0);
    check.due("a relay, read", x.condition(0, 0, 9), 2);
    check.due("how 0 makes a branch", x.setCondition(0, 1, 3, 0), 0);
    check.due("two branches", x.relay(0, 3), 2);
    check.due("one that conducts", x.relay(0, 7), 1);
    for (int branch = 2; branch < 6; branch++) {
      check.due("branch " + branch, x.setCondition(0, branch, branch, 1), 0);
    }
    check.due("seventh branch", x.setCondition(0, 6, 0, 1), -3);
    check.due("seventh branch, how 0", x.setCondition(0, 6, 0, 0), -3);
    check.due("seventh branch, wrong subject", x.setCondition(0, 6, 10, 1), -1);
    check.due("seventh branch, wrong how", x.setCondition(0, 6, 0, 3), -1);
    check.due("eighth branch", x.setCondition(0, 7, 0, 1), -1);
    check.due("six branches", x.relay(0, 3), 6);
    check.due("none in the other relay", x.relay(1, 3), 0);
    check.due("the last branch changes", x.setCondition(0, 5, 5, 2), 1);
  }

  private static void setConditionLooksAtCoils() {
    RelayBank x = new RelayBank();
    x.addRelay(4, 6, 0);
    x.setCondition(0, 0, 2, 2);
    check.due("fed at once", x.count(4), 1);
    check.due("event at 4", x.event(0, 0), 4);
    x.setCondition(0, 0, 2, 1);
    check.due("not fed", x.count(4), 0);
    check.due("event gone", x.count(2), 0);
    x.setCondition(0, 0, 2, 0);
    check.due("empty branch conducts", x.count(4), 1);
    x.settle(200);
    check.due("attracted", x.count(5), 1);
    x.setCondition(0, 0, 0, 1);
    check.due("released", x.settle(200), 1);
    check.due("at rest", x.count(5), 0);
    check.due("time", x.count(1), 10);
  }

  private static void removeBranch() {
    RelayBank x = Check.bank(1, 1, 0, "a+b+c/a+1", "");
    check.due("four branches", x.relay(0, 3), 4);
    check.due("no relay", x.removeBranch(2, 0), -1);
    check.due("relay -1", x.removeBranch(-1, 0), -1);
    check.due("branch -1", x.removeBranch(0, -1), -1);
    check.due("branch 4", x.removeBranch(0, 4), -1);
    check.due("relay without branches", x.removeBranch(1, 0), -1);
    check.due("fed", x.count(4), 1);
    check.due("remove 1", x.removeBranch(0, 1), 3);
    check.due("branch 0 stays", x.condition(0, 0, 0), 1);
    check.due("branch 1 was 2", x.condition(0, 1, 2), 1);
    check.due("branch 1 was 2, /a", x.condition(0, 1, 0), 2);
    check.due("branch 1 has no b", x.condition(0, 1, 1), 0);
    check.due("branch 2 was 3", x.condition(0, 2, 0), 0);
    check.due("fed still", x.count(4), 1);
    check.due("remove the last", x.removeBranch(0, 2), 2);
    check.due("not fed", x.count(4), 0);
    check.due("no event", x.count(2), 0);
    check.due("remove", x.removeBranch(0, 1), 1);
    check.due("remove", x.removeBranch(0, 0), 0);
    check.due("remove of none", x.removeBranch(0, 0), -1);
    check.due("a new branch is clean", x.setCondition(0, 0, 1, 1), 0);
    check.due("only b", x.condition(0, 0, 0), 0);
    check.due("saved", x.undo(), 5);
  }
}
