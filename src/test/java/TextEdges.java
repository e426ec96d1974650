/** The sentences of "Texts" and of the promises 6 to 8. */
final class TextEdges {
  private static final String LETTERS = "abcdefghABCDEFGH";
  private final Edges e;

  TextEdges(Edges edges) {
    e = edges;
  }

  void all() {
    e.below("Texts");
    sixtyCharacters();
    letters();
    oneAndZero();
    twice();
    spaces();
    fromLeftToRight();
    errorPosition();
    endsTooSoon();
    e.below("Promise 6: appendCharacter");
    appendCharacter();
    e.below("Promise 7: clearText");
    clearText();
    e.below("Promise 8: load");
    load();
  }

  private static String times(int count, String part) {
    return part.repeat(count);
  }

  private void reads(String text, int branches) {
    RelayBank x = Check.bank(1, 1, 0, "0", "0");
    e.due("load of \"" + text + "\"", Check.load(x, 1, text), branches);
    e.due("branches by \"" + text + "\"", x.relay(1, 3), branches);
  }

  private void wrong(String text, int position) {
    RelayBank x = Check.bank(1, 1, 0, "0", "1");
    e.due("load of \"" + text + "\"", Check.load(x, 1, text), -10 - position);
    e.due("the circuit stays behind \"" + text + "\"", x.relay(1, 3), 1);
    e.due("the text stays: \"" + text + "\"", x.count(8), text.length());
  }

  private void sixtyCharacters() {
    e.sentence("A circuit can be read from a text of at most 60 characters");
    reads(times(60, "a"), 1);
    reads(times(30, "/B"), 1);
    reads("a+b+c+d+e+" + times(50, "f"), 6);
    RelayBank x = Check.bank(1, 1, 0, "0");
    Check.type(x, times(61, "a"));
    e.due("the 61st is not there", x.count(8), 60);
    e.due("60 are read", x.load(0), 1);
    reads("a", 1);
    reads("a+b", 2);
    reads("1+1+1+1+1+1", 6);
    wrong("", 0);
    wrong("+", 0);
    wrong("+a", 0);
    wrong("a++b", 2);
    wrong("a+", 2);
  }

  private void letters() {
    e.sentence("a condition is \"/\" (if it is inverted) and a letter");
    for (int subject = 0; subject < 16; subject++) {
      RelayBank x = Banks.eight();
      String letter = LETTERS.substring(subject, subject + 1);
      e.due("plain " + letter, Check.load(x, 2, letter), 1);
      e.due("read " + letter, x.condition(2, 0, subject), 1);
      e.due("inverted " + letter, Check.load(x, 2, "/" + letter), 1);
      e.due("read /" + letter, x.condition(2, 0, subject), 2);
      for (int other = 0; other < 16; other++) {
        e.due("not read " + other, x.condition(2, 0, other), other == subject ? 2 : 0);
      }
    }
    RelayBank y = Banks.eight();
    for (String letter : new String[] {"`", "i", "@", "I", "z", "Z", "9", "\u00e1", "\u00c1"}) {
      e.due("no letter: " + letter, Check.load(y, 0, letter), -10);
      e.due("no letter: /" + letter, Check.load(y, 0, "/" + letter), -11);
    }
  }

  private void oneAndZero() {
    e.sentence("A branch can also be \"1\" alone");
    reads("1", 1);
    reads("a+1", 2);
    reads("1+a", 2);
    reads("1+1", 2);
    reads("0", 0);
    wrong("1a", 1);
    wrong("a1", 1);
    wrong("11", 1);
    wrong("/1", 1);
    wrong("1/a", 1);
    wrong("10", 1);
    wrong("00", 1);
    wrong("0a", 1);
    wrong("a0", 1);
    wrong("0+a", 1);
    wrong("a+0", 2);
    wrong("0+0", 1);
    wrong("/0", 1);
    wrong("01", 1);
    wrong("1+0", 2);
    RelayBank x = Check.bank(1, 1, 0, "0", "0");
    e.due("1 conducts", Check.load(x, 0, "1"), 1);
    e.due("fed", x.count(4), 1);
    for (int subject = 0; subject < 10; subject++) {
      e.due("no condition of " + subject, x.condition(0, 0, subject), 0);
    }
    e.due("0 does not", Check.load(x, 0, "0"), 0);
    e.due("not fed", x.count(4), 0);
  }

  private void twice() {
    e.sentence("A condition may stand twice.");
    reads("aa", 1);
    reads("/a/a", 1);
    reads("BB+BB", 2);
    reads("aBaBa", 1);
    RelayBank x = Check.bank(1, 1, 0, "/hb/h");
    e.due("it is there once", x.setCondition(0, 0, 7, 0), 2);
    e.due("it is gone then", x.condition(0, 0, 7), 0);
    e.due("the other stays", x.condition(0, 0, 1), 1);
  }

  private void spaces() {
    e.sentence("Spaces (code 32) may stand everywhere.");
    reads(" a", 1);
    reads("a ", 1);
    reads("/ a", 1);
    reads("a b", 1);
    reads("a +b", 2);
    reads("a+ b", 2);
    reads(" 1 ", 1);
    reads(" 0 ", 0);
    reads("  /  a  b  +  1  +  /  B  ", 3);
    reads(times(59, " ") + "a", 1);
    reads("a" + times(59, " "), 1);
    wrong("\ta", 0);
    wrong("a\n", 1);
    wrong("a\u00a0b", 1);
    wrong("\u001fa", 0);
    wrong("!a", 0);
  }

  private void fromLeftToRight() {
    e.sentence("The text is read from left to right;");
    wrong("a/a?", 2);
    wrong("?a/a", 0);
    wrong("aC/a", 1);
    wrong("a/aC", 2);
    wrong("1 1 0", 2);
    wrong("a+b+c+d+e+f+g?", 12);
    wrong("a?b+c+d+e+f+g+h", 1);
  }

  private void errorPosition() {
    e.sentence("the error position is the offset (from 0)");
    wrong("?", 0);
    wrong("/?", 1);
    wrong("//", 1);
    wrong("/+", 1);
    wrong("a?", 1);
    wrong("a/?", 2);
    wrong(times(59, "a") + "?", 59);
    wrong(times(59, " ") + "+", 59);
    // The letter of a relay that there is not: there are A and B.
    wrong("C", 0);
    wrong("AB/C", 3);
    wrong("H", 0);
    reads("AB", 1);
    // The opposite stands in this branch already, not just in another one.
    wrong("a/a", 2);
    wrong("/aa", 2);
    wrong("A+B / b B / B", 12);
    reads("a+/a+a", 3);
    // A seventh branch.
    reads("a+a+a+a+a+a", 6);
    wrong("a+a+a+a+a+a+a", 12);
    wrong("a+a+a+a+a+a+/a", 12);
    wrong("a+a+a+a+a+a+1", 12);
    wrong("a+a+a+a+a+a+ a", 13);
    wrong("1+1+1+1+1+1+1", 12);
    wrong("a+a+a+a+a+a++", 12);
    wrong("a+a+a+a+a+a+0", 12);
    RelayBank x = Check.bank(1, 1, 0, "0");
    Check.type(x, "aB");
    e.due("no B yet", x.load(0), -11);
    x.addRelay(1, 1, 0);
    e.due("the same text, with B", x.load(0), 1);
  }

  private void endsTooSoon() {
    e.sentence("If the text ends where something is missing");
    wrong("", 0);
    wrong(" ", 1);
    wrong(times(60, " "), 60);
    wrong("/", 1);
    wrong("/ ", 2);
    wrong("a/", 2);
    wrong("a+", 2);
    wrong("a+ ", 3);
    wrong("1+", 2);
    wrong("a+/", 3);
    wrong(times(59, "a") + "+", 60);
    wrong(times(59, "a") + "/", 60);
    wrong("a+a+a+a+a+a+", 12);
  }

  private static RelayBank sixty() {
    RelayBank x = Check.bank(1, 1, 0, "0");
    Check.type(x, times(59, " ") + "a");
    return x;
  }

  private void appendCharacter() {
    e.sentence("Appends a character to the text.");
    RelayBank x = Check.bank(1, 1, 0, "0");
    x.appendCharacter('a');
    x.appendCharacter('+');
    x.appendCharacter('b');
    e.due("in this order", x.load(0), 2);
    e.due("a", x.condition(0, 0, 0), 1);
    e.due("b", x.condition(0, 1, 1), 1);
    e.sentence("`character`: character code, 0 to 255");
    e.due("0", x.appendCharacter(0), 1);
    e.due("255", x.appendCharacter(255), 2);
    e.due("but they are no conditions", x.load(0), -10);
    for (int code = 0; code < 256; code++) {
      boolean isSlash = code == '/';
      boolean stands = code == ' ' || code == 'A' || (code >= 'a' && code <= 'h');
      RelayBank y = Check.bank(1, 1, 0, "0");
      y.appendCharacter('b');
      e.due("code " + code, y.appendCharacter(code), 2);
      e.due("load of code " + code, y.load(0),
          stands ? 1 : isSlash || code == '+' ? -12 : -11);
    }
    e.sentence("Returns the new length of the text;");
    RelayBank z = Banks.without();
    for (int length = 1; length <= 60; length++) {
      e.due("append", z.appendCharacter('a'), length);
      e.due("length", z.count(8), length);
    }
    e.sentence("INVALID_ARGUMENT if character is out of range;");
    e.outside("appendCharacter()", Banks::some, 0, 255, (y, code) -> y.appendCharacter(code));
    e.outside("appendCharacter(), 60", TextEdges::sixty, 0, 255, (y, code) -> y.appendCharacter(code));
    e.sentence("CAPACITY_EXCEEDED if the text has 60 characters.");
    e.still("append of a", TextEdges::sixty, y -> y.appendCharacter('a'), -3);
    e.still("append of ?", TextEdges::sixty, y -> y.appendCharacter('?'), -3);
    e.still("append of 0", TextEdges::sixty, y -> y.appendCharacter(0), -3);
    RelayBank w = sixty();
    e.due("load() makes room", w.load(0), 1);
    e.due("room", w.appendCharacter('a'), 1);
  }

  private void clearText() {
    e.sentence("Makes the text empty.");
    RelayBank x = Check.bank(1, 1, 0, "1");
    Check.type(x, "a?");
    x.clearText();
    e.due("length", x.count(8), 0);
    e.due("an empty text", x.load(0), -10);
    e.due("nothing else changes", x.relay(0, 3), 1);
    e.due("nothing is saved", x.count(9), 2);
    x.appendCharacter('b');
    e.due("nothing of the old one comes back", x.load(0), 1);
    e.due("no a", x.condition(0, 0, 0), 0);
    e.sentence("Returns the previous length of the text.");
    e.due("0", x.clearText(), 0);
    x.appendCharacter('b');
    e.due("1", x.clearText(), 1);
    e.due("0 again", x.clearText(), 0);
    e.due("60", sixty().clearText(), 60);
    RelayBank y = sixty();
    y.clearText();
    e.due("room again", y.appendCharacter('a'), 1);
  }

  private void load() {
    e.sentence("Reads the text as the circuit of a relay");
    RelayBank x = Check.bank(1, 1, 0, "a+b+c", "d");
    e.due("shorter", Check.load(x, 0, "/h"), 1);
    e.due("the new one alone", x.condition(0, 0, 7), 2);
    e.due("nothing of the old one", x.condition(0, 0, 0), 0);
    e.due("no branch 1", x.condition(0, 1, 1), -1);
    e.due("a branch that is added has nothing of the old one", x.setCondition(0, 1, 1, 0), 0);
    e.due("no b", x.condition(0, 1, 1), 0);
    e.due("the other relay stays", x.condition(1, 0, 3), 1);
    e.sentence("The text becomes empty.");
    Check.type(x, "a");
    x.load(0);
    e.due("length", x.count(8), 0);
    e.due("empty for the next", x.load(1), -10);
    e.sentence("`relay`: a relay");
    e.due("the first", Check.load(Banks.eight(), 0, "a"), 1);
    RelayBank y = Banks.eight();
    e.due("the last", Check.load(y, 7, "a+H"), 2);
    e.due("no other one", y.relay(0, 3) + y.relay(6, 3), 0);
    e.due("the last one's", y.relay(7, 3), 2);
    e.sentence("Returns the number of branches;");
    e.due("0", Check.load(y, 7, "0"), 0);
    e.due("1", Check.load(y, 7, "1"), 1);
    e.due("6", Check.load(y, 7, "a+b+c+d+e+f"), 6);
    e.sentence("INVALID_ARGUMENT if there is no such relay;");
    e.outside("load()", Banks::some, 0, 1, (z, relay) -> z.load(relay));
    e.outside("load()", TextEdges::sixty, 0, 0, (z, relay) -> z.load(relay));
    e.still("load(0) without relays", Banks::without, z -> z.load(0), -1);
    e.sentence("-10 minus the error position if the text has an error");
    e.still("a+?", Banks::some, z -> z.load(1), -12);
    e.still("no text", Banks::eight, z -> z.load(7), -10);
    RelayBank w = Check.bank(1, 1, 0, "1");
    Check.type(w, times(60, " "));
    e.due("the greatest error position", w.load(0), -70);
    e.due("the text is kept", w.count(8), 60);
    Check.type(w, "a/");
    e.due("missing", w.load(0), -12);
    w.appendCharacter('b');
    e.due("it goes on where it was", w.load(0), 1);
    e.due("a", w.condition(0, 0, 0), 1);
    e.due("/b", w.condition(0, 0, 1), 2);
  }
}
