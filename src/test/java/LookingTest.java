/** Promises 15 to 18: what is seen of a bank. */
public final class LookingTest {
  private static final Check check = new Check("LookingTest");

  public static void main(String[] args) {
    count();
    relay();
    condition();
    event();
    check.end();
  }

  private static void count() {
    RelayBank x = new RelayBank();
    x.addRelay(3, 3, 5);
    x.addRelay(4, 3, 0);
    x.addRelay(6, 3, 0);
    Check.load(x, 0, "c");
    Check.load(x, 1, "h");
    Check.load(x, 2, "c");
    x.setFault(2, 2);
    x.press(2, 1);
    x.press(7, 1);
    x.pass(4);
    Check.type(x, "abc");
    int[] want = {3, 4, 2, 132, 7, 3, 6, 1, 3, 6};
    for (int what = 0; what < want.length; what++) {
      check.due("count(" + what + ")", x.count(what), want[what]);
    }
    check.due("count(-1)", x.count(-1), -1);
    check.due("count(10)", x.count(10), -1);
    check.due("count(max)", x.count(Integer.MAX_VALUE), -1);
    check.due("count(min)", x.count(Integer.MIN_VALUE), -1);
    check.due("nothing saved by it", x.count(9), 6);
  }

  private static void relay() {
    RelayBank x = new RelayBank();
    x.addRelay(7, 8, 2);
    x.addRelay(9, 10, 3);
    Check.load(x, 0, "a+bB");
    Check.load(x, 1, "a+b/B");
    check.due("own contact of 0", x.relay(0, 6), 0);
    check.due("own contact of 1", x.relay(1, 6), 1);
    x.setFault(1, 2);
    x.stick(0, 1);
    x.press(1, 1);
    int[] of0 = {7, 8, 2, 2, 0, 1, 0, 1};
    int[] of1 = {9, 10, 3, 2, 2, 0, 1, 0};
    for (int what = 0; what < 8; what++) {
      check.due("relay(0, " + what + ")", x.relay(0, what), of0[what]);
      check.due("relay(1, " + what + ")", x.relay(1, what), of1[what]);
    }
    check.due("relay(0, -1)", x.relay(0, -1), -1);
    check.due("relay(0, 8)", x.relay(0, 8), -1);
    check.due("relay(2, 0)", x.relay(2, 0), -1);
    check.due("relay(-1, 0)", x.relay(-1, 0), -1);
    check.due("relay(max, min)", x.relay(Integer.MAX_VALUE, Integer.MIN_VALUE), -1);
    Check.load(x, 0, "A");
    check.due("plain own contact", x.relay(0, 6), 1);
    x.removeBranch(0, 0);
    check.due("not any more", x.relay(0, 6), 0);
  }

  private static void condition() {
    RelayBank x = Check.bank(1, 1, 0, "a/hA+/B", "0");
    int[] first = {1, 0, 0, 0, 0, 0, 0, 2, 1, 0, 0, 0, 0, 0, 0, 0};
    for (int subject = 0; subject < 16; subject++) {
      check.due("condition(0, 0, " + subject + ")", x.condition(0, 0, subject), first[subject]);
      check.due("condition(0, 1, " + subject + ")", x.condition(0, 1, subject),
          subject == 9 ? 2 : 0);
    }
    check.due("subject -1", x.condition(0, 0, -1), -1);
    check.due("subject 16", x.condition(0, 0, 16), -1);
    check.due("branch -1", x.condition(0, -1, 0), -1);
    check.due("branch 2", x.condition(0, 2, 0), -1);
    check.due("branch 0 of none", x.condition(1, 0, 0), -1);
    check.due("relay 2", x.condition(2, 0, 0), -1);
    check.due("relay -1", x.condition(-1, 0, 0), -1);
    check.due("min", x.condition(0, Integer.MIN_VALUE, Integer.MAX_VALUE), -1);
    RelayBank y = Check.bank(1, 1, 0, "1", "1", "1", "1", "1", "1", "1", "a/H");
    check.due("the last subject", y.condition(7, 0, 15), 2);
    check.due("beside it", y.condition(7, 0, 14), 0);
    check.due("the last subject, plain", y.setCondition(7, 0, 15, 1), 2);
    check.due("the last subject, plain", y.condition(7, 0, 15), 1);
  }

  private static void event() {
    RelayBank x = new RelayBank();
    x.addRelay(9, 9, 0);
    x.addRelay(3, 1, 4);
    x.addRelay(3, 1, 0);
    Check.load(x, 0, "a");
    Check.load(x, 1, "a");
    Check.load(x, 2, "/b");
    x.press(0, 1);
    int[][] want = {{3, 1, 0}, {3, 2, 0}, {9, 0, 0}};
    same(x, want);
    x.step();
    x.press(0, 0);
    same(x, new int[][] {{3, 2, 0}, {4, 1, 1}, {7, 1, 2}});
    check.due("index -1", x.event(-1, 0), -1);
    check.due("part -1", x.event(0, -1), -1);
    check.due("part 3", x.event(0, 3), -1);
    check.due("part 3 of none", x.event(3, 3), -1);
    check.due("index 3", x.event(3, 0), -9);
    check.due("index max", x.event(Integer.MAX_VALUE, 2), -9);
    check.due("index min", x.event(Integer.MIN_VALUE, 2), -1);
  }

  private static void same(RelayBank x, int[][] want) {
    check.due("events that wait", x.count(2), want.length);
    for (int index = 0; index < want.length; index++) {
      for (int part = 0; part < 3; part++) {
        check.due("event(" + index + ", " + part + ")", x.event(index, part), want[index][part]);
      }
    }
  }
}
