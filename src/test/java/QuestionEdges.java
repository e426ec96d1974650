import java.util.function.Supplier;

/** The sentences of the promises 19 to 24. */
final class QuestionEdges {
  private final Edges e;

  QuestionEdges(Edges edges) {
    e = edges;
  }

  void all() {
    e.below("Promise 19: outcome");
    outcome();
    outcomeArguments();
    e.below("Promise 20: isRace");
    isRace();
    e.below("Promise 21: raceBy");
    raceBy();
    e.below("Promise 22: hazards");
    hazards();
    hazardsBetween();
    hazardsArguments();
    e.below("Promise 23: stableStates");
    stableStates();
    stuckStates();
    numberOfStates();
    e.below("Promise 24: explain");
    explain();
    explainWithin200();
    explainArguments();
  }

  /** A and B exclude each other, and are fed at the same time by a. */
  private static RelayBank racers() {
    return Check.bank(3, 2, 0, "a/B", "a/A");
  }

  private static RelayBank racing() {
    RelayBank x = racers();
    x.press(0, 1);
    return x;
  }

  private void outcome() {
    e.sentence("Tells the outcome of settling.");
    for (int events = 1; events <= 12; events++) {
      RelayBank x = Banks.some();
      RelayBank settled = Banks.some();
      settled.settle(events);
      int want = settled.count(5) + (settled.count(2) == 0 ? 256 : 0);
      e.due("as settle(" + events + ")", x.outcome(0, events), want);
    }
    e.still("it changes nothing", QuestionEdges::racing, x -> x.outcome(0, 200), 257);
    e.still("nor in the reverse order", QuestionEdges::racing, x -> x.outcome(1, 200), 258);
    e.sentence("`reverse`: 0 or 1: 1 for the reverse order");
    e.due("0: A is first", racing().outcome(0, 1), 257);
    e.due("1: B is first", racing().outcome(1, 1), 258);
    RelayBank y = Banks.eight(1, 1, 0, "a");
    y.press(0, 1);
    e.due("0: the smallest", y.outcome(0, 1), 1);
    e.due("1: the greatest", y.outcome(1, 1), 128);
  }

  private void outcomeArguments() {
    e.sentence("`events`: 1 to 200");
    e.due("1", Banks.restless(1).outcome(0, 1), 1);
    e.due("2", Banks.restless(1).outcome(0, 2), 0);
    e.due("199", Banks.restless(1).outcome(1, 199), 1);
    e.due("200", Banks.restless(1).outcome(1, 200), 0);
    e.due("200 of 201", Banks.longRun(201).outcome(0, 200), Banks.LONG_RUN_ENDS);
    e.due("200 of 200", Banks.longRun(200).outcome(0, 200), Banks.LONG_RUN_ENDS + 256);
    e.due("199 of 200", Banks.longRun(200).outcome(0, 199), Banks.LONG_RUN_ENDS);
    e.sentence("Returns the set of attracted armatures, plus 256 if the bank is quiet then;");
    e.due("none, quiet", new RelayBank().outcome(0, 200), 256);
    e.due("all, quiet", Banks.eight(1, 1, 0, "1").outcome(1, 200), 511);
    e.due("all, a bounce waits", Banks.eight(1, 1, 1, "1").outcome(0, 15), 255);
    e.due("all, no bounce waits", Banks.eight(1, 1, 1, "1").outcome(0, 16), 511);
    e.due("none, not quiet", Banks.restless(1).outcome(0, 2), 0);
    RelayBank x = racing();
    x.setFault(0, 2);
    e.due("armatures, not contacts", x.outcome(0, 200), 257);
    e.sentence("INVALID_ARGUMENT if an argument is out of range.");
    e.outside("reverse", Banks::some, 0, 1, (y, reverse) -> y.outcome(reverse, 200));
    e.outside("events", Banks::some, 1, 200, (y, events) -> y.outcome(0, events));
    e.outside("events, reverse", Banks::some, 1, 200, (y, events) -> y.outcome(1, events));
    e.still("both", Banks::some, y -> y.outcome(2, 0), -1);
    e.still("both of none", Banks::without, y -> y.outcome(-1, 201), -1);
  }

  private void isRace() {
    e.sentence("Tells whether there is a race.");
    e.still("a race", QuestionEdges::racing, x -> x.isRace(), 1);
    e.still("not before the key", QuestionEdges::racers, x -> x.isRace(), 0);
    RelayBank x = racing();
    x.step();
    e.due("not behind the first event", x.isRace(), 0);
    RelayBank other = racers();
    other.setDelays(1, 4, 2, 0);
    other.press(0, 1);
    e.due("not with different times", other.isRace(), 0);
    RelayBank same = Banks.eight(1, 1, 3, "a");
    same.press(0, 1);
    e.due("not if all end the same", same.isRace(), 0);
    e.sentence("Returns 1 or 0.");
    e.due("no relay", new RelayBank().isRace(), 0);
    e.due("201 events in the normal order, 200 in the reverse order", Banks.longRun(201).isRace(), 1);
    e.due("200 and 199", Banks.longRun(200).isRace(), 0);
    e.due("never quiet, same armatures", Banks.restless(1).isRace(), 0);
  }

  private void raceBy() {
    e.sentence("Tells whether there would be a race if a key was pressed");
    e.still("by pressing", QuestionEdges::racers, x -> x.raceBy(0), 1);
    e.still("not by another key", QuestionEdges::racers, x -> x.raceBy(1), 0);
    e.still("none by releasing, though there is one", QuestionEdges::racing, x -> x.raceBy(0), 0);
    Supplier<RelayBank> released = () -> {
      RelayBank x = Check.bank(3, 2, 0, "/h/B", "/h/A");
      x.press(7, 1);
      return x;
    };
    e.still("by releasing", released, x -> x.raceBy(7), 1);
    e.still("not by pressing another one", released, x -> x.raceBy(0), 0);
    e.sentence("`key`: a key");
    RelayBank y = Check.bank(3, 2, 0, "h/B", "h/A");
    e.due("the first", y.raceBy(0), 0);
    e.due("the last", y.raceBy(7), 1);
    e.sentence("Returns 1 if there is a race in the state behind that, otherwise 0;");
    e.due("the race that is there, and another key", racing().raceBy(7), 1);
    e.due("200 and 199 events", Banks.longRun(200).raceBy(7), 0);
    e.due("201 and 200 events", Banks.longRun(201).raceBy(7), 1);
    RelayBank z = racers();
    z.press(0, 1);
    z.settle(200);
    e.due("behind the race", z.raceBy(7), 0);
    e.sentence("INVALID_ARGUMENT if there is no such key.");
    e.outside("key", QuestionEdges::racing, 0, 7, (x, key) -> x.raceBy(key));
    e.outside("key of none", Banks::without, 0, 7, (x, key) -> x.raceBy(key));
  }

  private void hazards() {
    e.sentence("Finds hazards, if a key was pressed");
    // B goes over from /a to A, and is not fed until A is attracted.
    Supplier<RelayBank> over = () -> Check.bank(2, 2, 0, "a", "/a+A");
    e.still("behind the key", over, x -> x.hazards(0), 2);
    e.still("not by another key", over, x -> x.hazards(1), 0);
    RelayBank x = over.get();
    x.press(0, 1);
    x.settle(200);
    e.due("on releasing: /a is there at once", x.hazards(0), 0);
    RelayBank back = Check.bank(2, 2, 0, "a", "a+/A");
    back.press(0, 1);
    back.settle(200);
    e.due("on releasing: /A needs a while", back.hazards(0), 2);
    back.press(0, 0);
    e.due("not fed now", back.hazards(7), 0);
    back.press(0, 1);
    e.due("the armature has stayed", back.hazards(0), 2);
    e.due("not fed any more then", Check.bank(1, 1, 0, "/a").hazards(0), 0);
    e.due("fed all the while", Check.bank(1, 1, 0, "1").hazards(0), 0);
    e.due("fed by then alone", Check.bank(1, 1, 0, "a").hazards(0), 0);
    e.due("never fed", Check.bank(1, 1, 0, "0").hazards(0), 0);
  }

  private void hazardsBetween() {
    e.sentence("Returns the set of the relays with such coils, in the normal order;");
    RelayBank x = Check.bank(2, 2, 0, "a", "a", "/A+B", "A+/B");
    Check.load(x, 3, "/B+A");
    x.settle(200);
    e.due("C is not fed between the events of A and B, D is", x.hazards(0), 4);
    RelayBank bounce = Check.bank(2, 2, 0, "a", "/C+A", "a");
    e.due("A is closed before C", bounce.hazards(0), 0);
    bounce.setDelays(0, 2, 2, 3);
    e.due("A bounces when C is closed", bounce.hazards(0), 2);
    RelayBank event = Banks.eight(2, 2, 0, "0");
    Check.load(event, 0, "a");
    Check.load(event, 1, "A");
    Check.load(event, 7, "/A+B");
    event.settle(200);
    e.due("behind an event alone: the last relay", event.hazards(0), 128);
    RelayBank first = Check.bank(2, 2, 0, "/a+B", "a");
    e.due("the first relay", first.hazards(0), 1);
    RelayBank all = Banks.eight(2, 2, 0, "/b+A/c");
    Check.load(all, 0, "b");
    e.due("all but the first", all.hazards(1), 254);
    RelayBank waiting = Check.bank(2, 2, 0, "a", "/A+B", "A");
    Check.load(waiting, 1, "/A+C");
    waiting.settle(200);
    waiting.press(0, 1);
    e.due("by events that wait already", waiting.hazards(7), 2);
    e.due("not if the key takes them away", waiting.hazards(0), 0);
  }

  private void hazardsArguments() {
    e.sentence("`key`: a key");
    RelayBank x = Check.bank(2, 2, 0, "a", "/a+A", "h", "/h+C");
    e.due("the first", x.hazards(0), 2);
    e.due("the last", x.hazards(7), 8);
    e.sentence("INVALID_ARGUMENT if there is no such key;");
    e.outside("key", Banks::some, 0, 7, (y, key) -> y.hazards(key));
    e.outside("key, not quiet", () -> Banks.restless(1), 0, 7, (y, key) -> y.hazards(key));
    e.sentence("NONE if the bank would not be quiet within 200 events.");
    e.still("never quiet", () -> Banks.restless(1), y -> y.hazards(7), -9);
    e.still("quiet behind 201", () -> Banks.longRun(201), y -> y.hazards(7), -9);
    e.still("quiet behind 200", () -> Banks.longRun(200), y -> y.hazards(7), 0);
    e.still("quiet already", Banks::without, y -> y.hazards(7), 0);
    RelayBank stopped = Check.bank(1, 1, 0, "/A/h");
    e.due("the key makes it quiet", stopped.hazards(7), 0);
    e.due("another one does not", stopped.hazards(6), -9);
    stopped.press(7, 1);
    stopped.settle(200);
    e.due("the key makes it restless", stopped.hazards(7), -9);
  }

  private void stableStates() {
    e.sentence("Counts the stable states with the keys as they are");
    Supplier<RelayBank> holding = () -> Check.bank(2, 2, 3, "a+A/b");
    e.still("no key: at rest or attracted", holding, x -> x.stableStates(), 2);
    RelayBank x = holding.get();
    x.press(0, 1);
    e.due("a: attracted", x.stableStates(), 1);
    x.press(1, 1);
    e.due("a and b: attracted", x.stableStates(), 1);
    x.press(0, 0);
    e.due("b: at rest", x.stableStates(), 1);
    x.press(1, 0);
    e.due("none again", x.stableStates(), 2);
    x.setFault(0, 1);
    e.due("always open: at rest", x.stableStates(), 1);
    x.setFault(0, 2);
    e.due("always closed: attracted", x.stableStates(), 1);
    RelayBank y = Check.bank(2, 2, 3, "a", "/A");
    y.press(0, 1);
    y.settle(200);
    y.press(0, 0);
    y.settle(1);
    e.due("it bounces", y.count(7), 1);
    e.due("without bounce: B alone", y.stableStates(), 1);
    RelayBank z = Check.bank(2, 2, 5, "A");
    z.setFault(0, 2);
    z.step();
    z.setFault(0, 0);
    e.due("it bounces, and is not fed", z.count(7) * 2 + z.count(4), 2);
    e.due("without bounce it would hold", z.stableStates(), 2);
    RelayBank never = Check.bank(1, 1, 0, "/A");
    e.due("neither state is stable", never.stableStates(), 0);
    e.due("coils are as the circuits tell, not as they are now", Check.bank(1, 1, 0, "1").stableStates(), 1);
  }

  private void stuckStates() {
    e.sentence("(Those of stuck relays are as they are now.)");
    RelayBank x = Check.bank(1, 1, 0, "1", "A", "C");
    e.due("A and B, C as it likes", x.stableStates(), 2);
    x.stick(0, 1);
    e.due("A stuck at rest", x.stableStates(), 2);
    x.stick(2, 1);
    e.due("C stuck at rest too", x.stableStates(), 1);
    x.stick(1, 1);
    e.due("all stuck", x.stableStates(), 1);
    RelayBank y = Check.bank(1, 1, 0, "a", "/A");
    y.press(0, 1);
    y.settle(200);
    y.stick(0, 1);
    y.press(0, 0);
    y.settle(200);
    e.due("A stuck, attracted though not fed", y.stableStates(), 1);
    y.setFault(0, 1);
    e.due("its fault counts all the same", y.stableStates(), 1);
    RelayBank z = Check.bank(1, 1, 0, "1", "/B/A");
    e.due("A attracted, so B at rest", z.stableStates(), 1);
    z.stick(0, 1);
    e.due("A stuck at rest, so B never stable", z.stableStates(), 0);
    z.setFault(0, 2);
    e.due("its contact closed: B at rest", z.stableStates(), 1);
    RelayBank seven = Banks.eight(1, 1, 0, "/H");
    seven.stick(7, 1);
    e.due("H stuck at rest: all others attracted", seven.stableStates(), 1);
    seven.stick(7, 0);
    e.due("H not stuck: none", seven.stableStates(), 0);
  }

  private void numberOfStates() {
    e.sentence("Returns their number.");
    e.due("no relay", new RelayBank().stableStates(), 1);
    RelayBank x = Banks.eight();
    e.due("eight without branches: all at rest", x.stableStates(), 1);
    for (int relay = 0; relay < 8; relay++) {
      x.setCondition(relay, 0, 8 + relay, 1);
      e.due("holding up to " + relay, x.stableStates(), 2 << relay);
    }
    Check.load(x, 0, "/A");
    e.due("one that is never stable", x.stableStates(), 0);
    Check.load(x, 0, "1");
    e.due("one that is always attracted", x.stableStates(), 128);
  }

  private void explain() {
    e.sentence("Finds single faults that explain what is seen");
    Supplier<RelayBank> chain = () -> Check.bank(2, 2, 1, "a", "A");
    e.still("B alone: A closed", chain, x -> x.explain(2), 2);
    e.still("none: any other", chain, x -> x.explain(0), 1 + 4 + 8);
    e.still("both: none", chain, x -> x.explain(3), 0);
    RelayBank x = chain.get();
    x.press(0, 1);
    e.due("A alone: A open", x.explain(1), 1);
    x.setFault(1, 1);
    e.due("one with a fault is not asked", x.explain(3), 2);
    e.due("but its fault is there besides", x.explain(1), 1);
    x.setFault(1, 0);
    x.setFault(0, 1);
    e.due("A open already: those of B", x.explain(1), 4 + 8);
    x.stick(1, 1);
    e.due("a stuck one has a contact without a fault", x.explain(1), 4 + 8);
    RelayBank race = racing();
    e.due("in the normal order A is first, also if it is always closed, or B open", race.explain(1), 2 + 4);
    e.due("B alone if A is always open, or B closed", race.explain(2), 1 + 8);
    RelayBank present = Check.bank(2, 2, 0, "A+a");
    present.press(0, 1);
    present.settle(200);
    present.press(0, 0);
    e.due("from the present state on: it holds, but if open", present.explain(1), 2);
    e.due("open: it is released", present.explain(0), 1);
  }

  private void explainWithin200() {
    e.sentence("Returns the set of 2 * relay + fault - 1 for each fault");
    for (int relay = 0; relay < 8; relay++) {
      RelayBank x = Banks.eight(1, 1, 0, "0");
      int other = (relay + 3) % 8;
      Check.load(x, other, "" + (char) ('A' + relay));
      e.due("closed " + relay, x.explain(1 << other), 2 << 2 * relay);
      e.due("any other", x.explain(0), 0xFFFF - (2 << 2 * relay));
      Check.load(x, other, "/" + (char) ('A' + relay));
      e.due("closed " + relay + ", inverted", x.explain(0), 2 << 2 * relay);
    }
    int ends = Banks.LONG_RUN_ENDS;
    e.due("D's faults, quiet behind 201", Banks.longRun(201).explain(ends) & 192, 0);
    e.due("D's faults, quiet behind 200", Banks.longRun(200).explain(ends) & 192, 192);
    RelayBank restless = Check.bank(1, 1, 0, "/A", "0");
    e.due("at rest: quiet if A is always closed, never by a fault of B", restless.explain(0), 2);
    e.due("attracted: quiet if A is always open, never by a fault of B", restless.explain(1), 1);
    e.due("just these, not more", Check.bank(1, 1, 0, "1", "1").explain(1), 0);
    e.due("just these, not less", Check.bank(1, 1, 0, "1", "0").explain(3), 0);
  }

  private void explainArguments() {
    e.sentence("`seen`: the set of attracted armatures that is seen, 0 to 255");
    e.due("0", Banks.eight(1, 1, 0, "0").explain(0), 0xFFFF);
    e.due("255", Banks.eight(1, 1, 0, "1").explain(255), 0xFFFF);
    e.due("255 of two relays", Check.bank(1, 1, 0, "1", "1").explain(255), 0);
    e.due("0 of none", new RelayBank().explain(0), 0);
    e.due("255 of none", new RelayBank().explain(255), 0);
    e.sentence("INVALID_ARGUMENT if seen is out of range.");
    e.outside("seen", Banks::some, 0, 255, (x, seen) -> x.explain(seen));
    e.outside("seen of none", Banks::without, 0, 255, (x, seen) -> x.explain(seen));
  }
}
