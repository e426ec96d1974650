/** Promises 6 to 8: texts and what load() reads from them. */
public final class TextsTest {
  private static final Check check = new Check("TextsTest");

  public static void main(String[] args) {
    appendCharacter();
    clearText();
    goodTexts();
    wrongTexts();
    longTexts();
    loadChanges();
    check.end();
  }

  private static void appendCharacter() {
    RelayBank x = new RelayBank();
    check.due("append(-1)", x.appendCharacter(-1), -1);
    check.due("append(256)", x.appendCharacter(256), -1);
    check.due("append(max)", x.appendCharacter(Integer.MAX_VALUE), -1);
    check.due("append(min)", x.appendCharacter(Integer.MIN_VALUE), -1);
    check.due("no length yet", x.count(8), 0);
    for (int i = 1; i <= 60; i++) {
      check.due("append " + i, x.appendCharacter(i % 2 == 0 ? 0 : 255), i);
    }
    check.due("61st", x.appendCharacter(32), -3);
    check.due("61st, wrong", x.appendCharacter(256), -1);
    check.due("60", x.count(8), 60);
    check.due("nothing saved", x.count(9), 0);
  }

  private static void clearText() {
    RelayBank x = new RelayBank();
    check.due("clear empty", x.clearText(), 0);
    x.appendCharacter('a');
    x.appendCharacter('b');
    check.due("clear two", x.clearText(), 2);
    check.due("length 0", x.count(8), 0);
    check.due("from the start again", x.appendCharacter('c'), 1);
    check.due("nothing saved", x.count(9), 0);
  }

  private static void good(String text, int branches) {
    RelayBank x = Check.bank(1, 1, 0, "0", "0");
    check.due("load of \"" + text + "\"", Check.load(x, 0, text), branches);
    check.due("branches of \"" + text + "\"", x.relay(0, 3), branches);
    check.due("the text is empty behind \"" + text + "\"", x.count(8), 0);
  }

  private static void goodTexts() {
    good("0", 0);
    good("  0  ", 0);
    good("1", 1);
    good("1+1+1", 3);
    good("a", 1);
    good("h", 1);
    good("/h", 1);
    good("A", 1);
    good("B/A", 1);
    good("aa/b/b", 1);
    good("a+/a", 2);
    good("a + / \u0020 a", 2);
    good("abcdefghAB", 1);
    good("a+b+c+d+e+f", 6);
    good("1+1+1+1+1+1", 6);
    good(" 1 + a / b + 1 ", 3);
    RelayBank x = Check.bank(1, 1, 0, "0", "0");
    Check.load(x, 1, "a/h B+1+/A");
    check.due("a", x.condition(1, 0, 0), 1);
    check.due("/h", x.condition(1, 0, 7), 2);
    check.due("B", x.condition(1, 0, 9), 1);
    check.due("not A", x.condition(1, 0, 8), 0);
    for (int subject = 0; subject < 16; subject++) {
      check.due("1 is empty", x.condition(1, 1, subject), 0);
    }
    check.due("/A", x.condition(1, 2, 8), 2);
    check.due("B is its own", x.relay(1, 6), 1);
  }

  private static void wrong(String text, int position) {
    RelayBank x = Check.bank(1, 1, 0, "a/b+1", "0");
    int saved = x.count(9);
    check.due("load of \"" + text + "\"", Check.load(x, 0, text), -10 - position);
    check.due("kept: \"" + text + "\"", x.count(8), text.length());
    check.due("circuit behind \"" + text + "\"", x.relay(0, 3), 2);
    check.due("condition behind \"" + text + "\"", x.condition(0, 0, 1), 2);
    check.due("saved behind \"" + text + "\"", x.count(9), saved);
    check.due("again \"" + text + "\"", x.load(0), -10 - position);
    check.due("no relay is told first \"" + text + "\"", x.load(2), -1);
  }

  private static void wrongTexts() {
    wrong("", 0);
    wrong("   ", 3);
    wrong("+", 0);
    wrong(" +a", 1);
    wrong("a+", 2);
    wrong("a+ ", 3);
    wrong("a++b", 2);
    wrong("/", 1);
    wrong("/ ", 2);
    wrong("//a", 1);
    wrong("/+a", 1);
    wrong("/0", 1);
    wrong("/1", 1);
    wrong("a1", 1);
    wrong("a0", 1);
    wrong("a+0", 2);
    wrong("0+a", 1);
    wrong("0 0", 2);
    wrong("01", 1);
    wrong("0a", 1);
    wrong("1a", 1);
    wrong("1/a", 1);
    wrong("11", 1);
    wrong("1 0", 2);
    wrong("1+", 2);
    wrong("i", 0);
    wrong("`", 0);
    wrong("@", 0);
    wrong("C", 0);
    wrong("aH", 1);
    wrong("/C", 1);
    wrong("I", 0);
    wrong("a/a", 2);
    wrong("a/ a", 3);
    wrong("/aba", 3);
    wrong("b+A/A", 4);
    wrong("a\tb", 1);
    wrong("a\u0000", 1);
    wrong("\u00e9", 0);
    wrong("a\u00ff", 1);
    wrong("a-b", 1);
    wrong("2", 0);
    wrong("a+b+c+d+e+f+g", 12);
    wrong("a+b+c+d+e+f+ g", 13);
    wrong("a+b+c+d+e+f+1", 12);
    wrong("a+b+c+d+e+f+/g", 12);
    wrong("a+b+c+d+e+f++", 12);
    wrong("a+b+c+d+e+f+", 12);
    wrong("a+b+c+d+e+f+ ", 13);
    wrong("1+1+1+1+1+1+1", 12);
    wrong("a/ax+", 2);
  }

  private static void longTexts() {
    RelayBank x = Check.bank(1, 1, 0, "0");
    StringBuilder text = new StringBuilder();
    while (text.length() < 60) {
      text.append('a');
    }
    check.due("60 times a", Check.load(x, 0, text.toString()), 1);
    text.setCharAt(59, '/');
    check.due("59 times a and /", Check.load(x, 0, text.toString()), -70);
    text.setCharAt(59, '?');
    check.due("59 times a and ?", Check.load(x, 0, text.toString()), -69);
  }

  private static void loadChanges() {
    RelayBank x = new RelayBank();
    Check.type(x, "/a");
    check.due("load without relays", x.load(0), -1);
    x.addRelay(3, 4, 0);
    check.due("load(-1)", x.load(-1), -1);
    check.due("load(1)", x.load(1), -1);
    check.due("the text is kept", x.count(8), 2);
    check.due("load(0)", x.load(0), 1);
    check.due("fed", x.count(4), 1);
    check.due("event", x.event(0, 0), 3);
    x.settle(200);
    check.due("0 releases", Check.load(x, 0, "0"), 0);
    check.due("not fed", x.count(4), 0);
    check.due("release", x.event(0, 0), 7);
    Check.type(x, "xyz");
    check.due("undo()", x.undo(), 3);
    check.due("the text stays behind undo()", x.count(8), 3);
    check.due("the branch is back", x.relay(0, 3), 1);
    check.due("fed again", x.count(4), 1);
    check.due("attracted", x.count(5), 1);
    check.due("quiet", x.count(2), 0);
  }
}
