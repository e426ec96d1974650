import java.io.IOException;
import java.util.LinkedHashMap;
import java.util.Map;
import java.util.function.Supplier;

/** Tests by the sentences of the document: which is tested now, and which has been by how much. */
final class Edges {
  interface Call {
    int of(RelayBank x);
  }

  interface CallWith {
    int of(RelayBank x, int argument);
  }

  private static final int[] FAR = {Integer.MIN_VALUE, Integer.MAX_VALUE};

  private final Check check = new Check("EdgesTest");
  private final Document document = new Document();
  private final Map<Document.Sentence, Integer> tests = new LinkedHashMap<>();
  private String heading;
  private Document.Sentence sentence;

  Edges() throws IOException {
  }

  void below(String newHeading) {
    heading = newHeading;
  }

  /** The checks that follow are for the sentence that begins with these words. */
  void sentence(String words) {
    sentence = document.find(heading, words);
    check.due("\"" + words + "\" is a sentence below \"" + heading + "\"", sentence == null ? 0 : 1, 1);
    check.due("\"" + words + "\" has one test", tests.containsKey(sentence) ? 1 : 0, 0);
    tests.put(sentence, 0);
  }

  void due(String call, long got, long want) {
    tests.merge(sentence, 1, Integer::sum);
    check.due((sentence == null ? "?" : sentence.toString()) + ": " + call, got, want);
  }

  /** The call answers so, and changes nothing: neither what is seen, nor what undo() restores. */
  void still(String name, Supplier<RelayBank> maker, Call call, int want) {
    RelayBank asked = maker.get();
    due(name, call.of(asked), want);
    String all = allOf(maker.get());
    String allThen = allOf(asked);
    due(name + " changes nothing: " + all + " became " + allThen, all.equals(allThen) ? 1 : 0, 1);
  }

  /** The numbers below and above are INVALID_ARGUMENT, and change nothing. */
  void outside(String name, Supplier<RelayBank> maker, int least, int most, CallWith call) {
    for (int argument : new int[] {least - 1, most + 1, FAR[0], FAR[1]}) {
      still(name + " with " + argument, maker, x -> call.of(x, argument), -1);
    }
  }

  private static String allOf(RelayBank x) {
    StringBuilder all = new StringBuilder(seen(x));
    for (int saved = x.count(9); saved > 0; saved--) {
      all.append(" undo ").append(x.undo());
      numbers(x, all);
    }
    return all.append(" load ").append(x.load(0)).toString();
  }

  private static void numbers(RelayBank x, StringBuilder all) {
    for (int what = 0; what <= 9; what++) {
      all.append(' ').append(x.count(what));
    }
  }

  /** What the bank shows, of many branches the first ones: a bank is used for 512 calls at most. */
  static String seen(RelayBank x) {
    StringBuilder all = new StringBuilder();
    numbers(x, all);
    int relays = x.count(0);
    for (int relay = 0; relay < relays; relay++) {
      for (int what = 0; what <= 7; what++) {
        all.append(what == 0 ? " relay " : " ").append(x.relay(relay, what));
      }
      int branches = Math.min(relays > 2 ? 2 : 6, x.relay(relay, 3));
      for (int branch = 0; branch < branches; branch++) {
        all.append(branch == 0 ? " of " : " + ");
        for (int subject = 0; subject < 8 + relays; subject++) {
          all.append(x.condition(relay, branch, subject));
        }
      }
    }
    int events = x.count(2);
    for (int index = 0; index < events; index++) {
      for (int part = 0; part < 3; part++) {
        all.append(part == 0 ? " event " : " ").append(x.event(index, part));
      }
    }
    return all.toString();
  }

  /** Each sentence of the document has been tested, but for those that name no edge. */
  void end(String[][] withoutEdge) {
    for (String[] words : withoutEdge) {
      Document.Sentence found = document.find(words[0], words[1]);
      check.due("\"" + words[1] + "\" is a sentence", found == null ? 0 : 1, 1);
      check.due("\"" + words[1] + "\" has a test all the same", tests.containsKey(found) ? 1 : 0, 0);
      tests.put(found, 1);
    }
    for (Document.Sentence one : document.sentences()) {
      check.due(one + " has a test", tests.getOrDefault(one, 0) > 0 ? 1 : 0, 1);
    }
    check.end();
  }
}
