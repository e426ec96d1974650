/** Promises 9 to 14: keys, faults and the events that happen. */
public final class HappeningTest {
  private static final Check check = new Check("HappeningTest");

  public static void main(String[] args) {
    press();
    takenAway();
    bounces();
    setFault();
    stick();
    stuckBounceEnds();
    step();
    order();
    raceInNormalOrder();
    bounceOfOne();
    settle();
    pass();
    passLimits();
    check.end();
  }

  private static void press() {
    RelayBank x = Check.bank(2, 3, 0, "a", "a/b", "/a", "c");
    check.due("press(-1, 1)", x.press(-1, 1), -1);
    check.due("press(8, 1)", x.press(8, 1), -1);
    check.due("press(0, 2)", x.press(0, 2), -1);
    check.due("press(0, -1)", x.press(0, -1), -1);
    check.due("press(0, 0)", x.press(0, 0), -2);
    check.due("keys", x.count(3), 0);
    check.due("three coils", x.press(0, 1), 3);
    check.due("keys", x.count(3), 1);
    check.due("fed", x.count(4), 3);
    check.due("pressed already", x.press(0, 1), -2);
    check.due("pressed, on wrong", x.press(0, 3), -1);
    check.due("key 7", x.press(7, 1), 0);
    check.due("keys", x.count(3), 129);
    check.due("key 1", x.press(1, 1), 1);
    check.due("release 0", x.press(0, 0), 2);
    check.due("fed", x.count(4), 4);
  }

  private static void takenAway() {
    RelayBank x = Check.bank(4, 6, 0, "a");
    x.press(0, 1);
    x.pass(3);
    x.press(0, 0);
    check.due("the pick-up is taken away", x.count(2), 0);
    x.press(0, 1);
    check.due("a new one", x.event(0, 0), 7);
    x.pass(4);
    check.due("attracted", x.count(5), 1);
    x.press(0, 0);
    check.due("release", x.event(0, 0), 13);
    check.due("kind 1", x.event(0, 2), 1);
    x.pass(5);
    x.press(0, 1);
    check.due("the release is taken away", x.count(2), 0);
    check.due("attracted still", x.count(5), 1);
  }

  private static void bounces() {
    RelayBank x = Check.bank(2, 1, 5, "a", "A");
    x.press(0, 1);
    check.due("attracted", x.step(), 0);
    check.due("armature", x.count(5), 1);
    check.due("bounces", x.count(7), 1);
    check.due("open while it bounces", x.count(6), 0);
    check.due("relay 1 is not fed yet", x.count(4), 1);
    x.pass(2);
    x.press(0, 0);
    check.due("released at 5", x.step(), 1);
    check.due("the bounce begins again", x.event(0, 0), 10);
    check.due("one event", x.count(2), 1);
    check.due("the bounce ends", x.step(), 2);
    check.due("time", x.count(1), 10);
    check.due("open", x.count(6), 0);
    x.press(0, 1);
    check.due("settle", x.settle(200), 4);
    check.due("both closed", x.count(6), 3);
    check.due("time", x.count(1), 24);
  }

  private static void setFault() {
    RelayBank x = Check.bank(2, 2, 2, "a", "A", "/A");
    check.due("relay -1", x.setFault(-1, 0), -1);
    check.due("relay 3", x.setFault(3, 0), -1);
    check.due("fault -1", x.setFault(0, -1), -1);
    check.due("fault 3", x.setFault(0, 3), -1);
    check.due("fed", x.count(4), 4);
    check.due("always closed", x.setFault(0, 2), 0);
    check.due("fed by it", x.count(4), 2);
    check.due("closed", x.count(6), 1);
    check.due("not attracted", x.count(5), 0);
    check.due("always open", x.setFault(0, 1), 2);
    check.due("fed by it", x.count(4), 4);
    check.due("same again", x.setFault(0, 1), 1);
    check.due("relay(0, 4)", x.relay(0, 4), 1);
    x.press(0, 1);
    x.pass(2);
    check.due("attracted", x.count(5), 5);
    check.due("always open", x.count(6), 0);
    check.due("always closed while it bounces", x.setFault(0, 2), 1);
    check.due("closed", x.count(6), 1);
    check.due("bounces", x.count(7), 5);
    check.due("no fault", x.setFault(0, 0), 2);
    check.due("open by the bounce", x.count(6), 0);
    x.settle(200);
    check.due("closed again", x.count(6), 3);
  }

  private static void stick() {
    RelayBank x = Check.bank(2, 2, 3, "a");
    check.due("relay -1", x.stick(-1, 1), -1);
    check.due("relay 1", x.stick(1, 1), -1);
    check.due("on 2", x.stick(0, 2), -1);
    check.due("on -1", x.stick(0, -1), -1);
    check.due("not stuck", x.stick(0, 0), 0);
    check.due("stuck now", x.stick(0, 1), 0);
    check.due("stuck", x.stick(0, 1), 1);
    check.due("relay(0, 5)", x.relay(0, 5), 1);
    x.press(0, 1);
    check.due("its event happens", x.step(), 0);
    check.due("but nothing changes", x.count(5), 0);
    check.due("no bounce", x.count(7), 0);
    check.due("the time does", x.count(1), 2);
    check.due("quiet", x.step(), -2);
    check.due("not stuck any more", x.stick(0, 0), 1);
    check.due("no event waits by that", x.count(2), 0);
    check.due("at rest though fed", x.count(5), 0);
    x.press(0, 0);
    check.due("no release of an armature at rest", x.count(2), 0);
    x.press(0, 1);
    check.due("the next one", x.step(), 0);
    check.due("attracted", x.count(5), 1);
  }

  private static void stuckBounceEnds() {
    RelayBank x = Check.bank(2, 2, 3, "a", "/A");
    x.press(0, 1);
    x.pass(2);
    x.stick(0, 1);
    check.due("bounces", x.count(7) & 1, 1);
    x.press(0, 0);
    check.due("its release happens", x.step() , 1);
    check.due("attracted still", x.count(5) & 1, 1);
    check.due("the bounce is not begun anew", x.event(0, 0), 5);
    check.due("relay 0 first", x.step(), 2);
    check.due("the bounce ends", x.count(7) & 1, 0);
    check.due("closed", x.count(6) & 1, 1);
  }

  private static void step() {
    RelayBank x = Check.bank(20, 1, 0, "a", "a", "/A");
    check.due("relay 2", x.step(), 20);
    check.due("time", x.count(1), 20);
    check.due("quiet", x.step(), -2);
    int saved = x.count(9);
    check.due("nothing saved by it", saved, 6);
    x.press(0, 1);
    check.due("relay 0", x.step(), 0);
    check.due("relay 1, same time", x.step(), 10);
    check.due("time", x.count(1), 40);
    check.due("relay 2 releases", x.step(), 21);
    check.due("time", x.count(1), 41);
    x.undo();
    check.due("back", x.count(1), 40);
    check.due("attracted", x.count(5), 7);
  }

  private static void order() {
    RelayBank x = new RelayBank();
    x.addRelay(2, 2, 2);
    x.addRelay(2, 2, 2);
    Check.load(x, 0, "a");
    Check.load(x, 1, "a");
    x.press(0, 1);
    x.settle(2);
    x.press(0, 0);
    // At the time 4 both releases and both ends of bounces wait.
    check.due("four wait", x.count(2), 4);
    check.due("kind of 0", x.event(0, 2), 1);
    check.due("kind of 1", x.event(1, 2), 2);
    check.due("relay of 1", x.event(1, 1), 0);
    check.due("relay of 2", x.event(2, 1), 1);
    check.due("kind of 2", x.event(2, 2), 1);
    check.due("kind of 3", x.event(3, 2), 2);
    check.due("no event 4", x.event(4, 2), -9);
    check.due("the release goes first", x.step(), 1);
    check.due("and begins the bounce anew: next", x.step(), 11);
    check.due("time", x.count(1), 4);
    check.due("the ends", x.event(0, 0), 6);
    check.due("the ends", x.event(1, 0), 6);
    check.due("end 0", x.step(), 2);
    check.due("end 1", x.step(), 12);
  }

  private static void raceInNormalOrder() {
    RelayBank x = Check.bank(3, 2, 0, "a/B", "a/A");
    x.press(0, 1);
    check.due("settle", x.settle(200), 1);
    check.due("relay 0 wins", x.count(5), 1);
    x.undo();
    check.due("pass", x.pass(10), 1);
    check.due("relay 0 wins", x.count(5), 1);
    x.undo();
    check.due("step", x.step(), 0);
    check.due("relay 0 wins", x.count(5), 1);
  }

  private static void bounceOfOne() {
    RelayBank x = Check.bank(3, 2, 1, "a");
    x.press(0, 1);
    x.step();
    check.due("bounces", x.count(7), 1);
    check.due("for one tick", x.event(0, 0), 4);
    check.due("its end", x.step(), 2);
    check.due("closed", x.count(6), 1);
  }

  private static void settle() {
    RelayBank x = Check.bank(1, 1, 0, "/A");
    check.due("settle(0)", x.settle(0), -1);
    check.due("settle(201)", x.settle(201), -1);
    check.due("settle(min)", x.settle(Integer.MIN_VALUE), -1);
    check.due("settle(1)", x.settle(1), 1);
    check.due("time", x.count(1), 1);
    check.due("settle(200)", x.settle(200), 200);
    check.due("time", x.count(1), 201);
    check.due("attracted", x.count(5), 1);
    RelayBank y = Check.bank(5, 1, 0, "a", "A", "B");
    check.due("quiet", y.settle(200), 0);
    check.due("no time", y.count(1), 0);
    y.press(0, 1);
    check.due("two of three", y.settle(2), 2);
    check.due("time", y.count(1), 10);
    check.due("the rest", y.settle(2), 1);
    check.due("time", y.count(1), 15);
    check.due("none", y.settle(2), 0);
    check.due("saved all the same", y.undo(), 5);
    check.due("same state", y.count(5), 7);
    y.undo();
    check.due("before", y.count(5), 3);
  }

  private static void pass() {
    RelayBank x = Check.bank(5, 3, 0, "a", "A");
    check.due("pass(0)", x.pass(0), -1);
    check.due("pass(1001)", x.pass(1001), -1);
    check.due("pass(-1)", x.pass(-1), -1);
    check.due("pass(1)", x.pass(1), 0);
    check.due("time", x.count(1), 1);
    x.press(0, 1);
    check.due("up to 5", x.pass(4), 0);
    check.due("up to 6", x.pass(1), 1);
    check.due("attracted", x.count(5), 1);
    check.due("up to 20", x.pass(14), 1);
    check.due("time", x.count(1), 20);
    check.due("attracted", x.count(5), 3);
    check.due("pass(1000)", x.pass(1000), 0);
    check.due("time", x.count(1), 1020);
  }

  private static void passLimits() {
    RelayBank x = Check.bank(1, 1, 0, "/A");
    x.clearText();
    check.due("pass(201)", x.pass(201), -3);
    check.due("nothing saved", x.count(9), 2);
    check.due("nothing changed", x.count(1), 0);
    check.due("nothing attracted", x.count(5), 0);
    check.due("pass(200)", x.pass(200), 200);
    check.due("time", x.count(1), 200);
    check.due("attracted", x.count(5), 0);
    RelayBank y = new RelayBank();
    y.addRelay(20, 20, 0);
    for (int i = 0; i < 99; i++) {
      y.pass(1000);
    }
    y.pass(999);
    check.due("time", y.count(1), 99999);
    check.due("beyond 100000", y.pass(2), -3);
    check.due("wrong first", y.pass(1001), -1);
    check.due("just 100000", y.pass(1), 0);
    check.due("time", y.count(1), 100000);
    check.due("not further", y.pass(1), -3);
    Check.load(y, 0, "1");
    check.due("but a step", y.step(), 0);
    check.due("time", y.count(1), 100020);
    check.due("no pass there", y.pass(1), -3);
    check.due("settle there", y.settle(200), 0);
  }
}
