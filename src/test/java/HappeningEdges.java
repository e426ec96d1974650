import java.util.function.Supplier;

/** The sentences of the promises 9 to 14. */
final class HappeningEdges {
  private final Edges e;

  HappeningEdges(Edges edges) {
    e = edges;
  }

  void all() {
    e.below("Promise 9: press");
    press();
    pressRefused();
    e.below("Promise 10: setFault");
    setFault();
    e.below("Promise 11: stick");
    stick();
    noEventBySticking();
    stickArguments();
    e.below("Promise 12: step");
    step();
    stepRefused();
    e.below("Promise 13: settle");
    settle();
    e.below("Promise 14: pass");
    pass();
    atMostTwoHundred();
    passArguments();
    passRefused();
  }

  private void press() {
    e.sentence("Presses a key, or releases it.");
    RelayBank x = Check.bank(1, 1, 0, "a/h");
    x.press(0, 1);
    e.due("pressed", x.count(3), 1);
    e.due("fed", x.count(4), 1);
    x.press(7, 1);
    e.due("both", x.count(3), 129);
    e.due("not fed", x.count(4), 0);
    x.press(0, 0);
    e.due("released", x.count(3), 128);
    e.due("no time goes by", x.count(1), 0);
    e.sentence("`key`: a key");
    RelayBank y = Banks.without();
    e.due("the first", y.press(0, 1), 0);
    e.due("the last", y.press(7, 1), 0);
    e.due("these two", y.count(3), 129);
    e.sentence("`on`: 1 or 0");
    e.due("0", y.press(7, 0), 0);
    e.due("released", y.count(3), 1);
    e.due("1", y.press(7, 1), 0);
    e.due("pressed", y.count(3), 129);
    e.sentence("Returns the number of coils that are fed then");
    e.due("none of none", Banks.without().press(0, 1), 0);
    e.due("none of eight", Banks.eight(1, 1, 0, "b").press(0, 1), 0);
    RelayBank all = Banks.eight(1, 1, 0, "a");
    e.due("all are fed", all.press(0, 1), 8);
    e.due("all are not any more", all.press(0, 0), 8);
    RelayBank half = Check.bank(1, 1, 0, "a", "/a", "a", "/a", "b", "a+b", "a/b", "a+/a");
    e.due("four are fed, two are not any more", half.press(0, 1), 6);
    e.due("fed", half.count(4), 1 + 4 + 32 + 64 + 128);
    e.due("by b one is fed, one is not any more", half.press(1, 1), 2);
    RelayBank later = Check.bank(1, 1, 0, "a", "A");
    later.press(0, 1);
    e.due("not those that are fed by events behind it", later.press(0, 0), 1);
  }

  private void pressRefused() {
    e.sentence("INVALID_ARGUMENT if an argument is out of range;");
    e.outside("key", Banks::some, 0, 7, (x, key) -> x.press(key, 1));
    e.outside("key released", Banks::some, 0, 7, (x, key) -> x.press(key, 0));
    e.outside("on of a pressed key", Banks::some, 0, 1, (x, on) -> x.press(1, on));
    e.outside("on of a released key", Banks::some, 0, 1, (x, on) -> x.press(0, on));
    e.sentence("ILLEGAL_STATE if it is so already.");
    e.still("pressed already", Banks::some, x -> x.press(1, 1), -2);
    e.still("released already", Banks::some, x -> x.press(0, 0), -2);
    e.still("the last key", Banks::some, x -> x.press(7, 0), -2);
    RelayBank y = new RelayBank();
    e.due("a new one", y.press(0, 0), -2);
    y.press(0, 1);
    e.due("pressed", y.press(0, 1), -2);
    y.undo();
    e.due("not any more behind undo()", y.press(0, 0), -2);
    e.due("so it can be pressed", y.press(0, 1), 0);
  }

  private void setFault() {
    e.sentence("Sets the fault of a contact.");
    RelayBank x = Check.bank(2, 2, 0, "a", "A", "/A");
    x.setFault(0, 2);
    e.due("closed", x.count(6), 1);
    e.due("it feeds at once", x.count(4), 2);
    e.due("from the present time", x.event(0, 0), 2);
    x.setFault(0, 1);
    e.due("open", x.count(6), 0);
    e.due("fed", x.count(4), 4);
    x.setFault(0, 0);
    x.press(0, 1);
    x.settle(200);
    e.due("none: closed", x.count(6), 3);
    x.setFault(0, 1);
    e.due("open", x.count(6), 2);
    e.due("the armature stays", x.count(5), 3);
    e.sentence("`relay`: a relay");
    RelayBank y = Banks.eight();
    e.due("the first", y.setFault(0, 2), 0);
    e.due("the last", y.setFault(7, 2), 0);
    e.due("closed", y.count(6), 129);
    e.due("the others", y.relay(1, 4) + y.relay(6, 4), 0);
    e.sentence("`fault`: 0 to 2");
    e.due("2", y.relay(7, 4), 2);
    y.setFault(7, 1);
    e.due("1", y.relay(7, 4), 1);
    y.setFault(7, 0);
    e.due("0", y.relay(7, 4), 0);
    e.sentence("Returns the previous fault;");
    for (int before = 0; before <= 2; before++) {
      for (int then = 0; then <= 2; then++) {
        y.setFault(7, before);
        e.due("from " + before + " to " + then, y.setFault(7, then), before);
      }
    }
    e.sentence("INVALID_ARGUMENT if there is no such relay or fault is out of range.");
    e.outside("relay of 2", Banks::some, 0, 1, (z, relay) -> z.setFault(relay, 2));
    e.outside("relay of 8", Banks::eight, 0, 7, (z, relay) -> z.setFault(relay, 1));
    e.outside("fault", Banks::some, 0, 2, (z, fault) -> z.setFault(0, fault));
    e.still("relay of none", Banks::without, z -> z.setFault(0, 0), -1);
  }

  private void stick() {
    e.sentence("Makes an armature stuck, or not any more.");
    RelayBank x = Check.bank(2, 3, 1, "a", "a");
    x.stick(1, 1);
    x.press(0, 1);
    x.settle(200);
    e.due("A alone", x.count(5), 1);
    x.stick(1, 0);
    x.stick(0, 1);
    x.press(0, 0);
    x.press(0, 1);
    x.settle(200);
    e.due("B too", x.count(5), 3);
    x.press(0, 0);
    x.settle(200);
    e.due("A stays", x.count(5), 1);
    RelayBank y = Check.bank(4, 3, 0, "a");
    y.press(0, 1);
    y.stick(0, 1);
    y.stick(0, 0);
    e.due("an event that waits happens all the same", y.step(), 0);
    e.due("and changes the armature: it is free again", y.count(5), 1);
  }

  private void noEventBySticking() {
    e.sentence("(No event waits by that;");
    RelayBank x = Check.bank(2, 3, 1, "a");
    x.stick(0, 1);
    x.press(0, 1);
    x.settle(200);
    x.stick(0, 0);
    e.due("at rest though fed", x.count(5), 0);
    e.due("no event", x.count(2), 0);
    e.due("quiet", x.step(), -2);
    x.press(7, 1);
    e.due("nor by another key", x.count(2), 0);
    RelayBank y = Check.bank(2, 3, 1, "a");
    y.press(0, 1);
    y.stick(0, 1);
    e.due("the one that waits stays", y.count(2), 1);
    e.due("it too", y.event(0, 0), 2);
    e.sentence("the next one comes when its coil changes.)");
    x.press(0, 0);
    e.due("not fed, at rest: none", x.count(2), 0);
    x.press(0, 1);
    e.due("fed: one", x.count(2), 1);
    e.due("its kind", x.step(), 0);
    e.due("attracted", x.count(5), 1);
    x.settle(200);
    x.stick(0, 1);
    x.press(0, 0);
    e.due("it waits for a stuck one too", x.count(2), 1);
    x.settle(200);
    e.due("attracted still", x.count(5), 1);
    x.stick(0, 0);
    e.due("none by that", x.count(2), 0);
    x.press(0, 1);
    e.due("fed, attracted: none", x.count(2), 0);
    x.press(0, 0);
    e.due("not fed: one", x.step(), 1);
    e.due("at rest", x.count(5), 0);
  }

  private void stickArguments() {
    e.sentence("`relay`: a relay");
    RelayBank x = Banks.eight(1, 1, 0, "a");
    e.due("the first", x.stick(0, 1), 0);
    e.due("the last", x.stick(7, 1), 0);
    x.press(0, 1);
    x.settle(200);
    e.due("all but these", x.count(5), 126);
    e.sentence("`on`: 1 or 0");
    e.due("1", x.relay(7, 5), 1);
    x.stick(7, 0);
    e.due("0", x.relay(7, 5), 0);
    e.due("the first still", x.relay(0, 5), 1);
    e.sentence("Returns 1 if it was stuck, otherwise 0;");
    for (int before = 0; before <= 1; before++) {
      for (int then = 0; then <= 1; then++) {
        x.stick(7, before);
        e.due("from " + before + " to " + then, x.stick(7, then), before);
      }
    }
    e.sentence("INVALID_ARGUMENT if there is no such relay or on is out of range.");
    e.outside("relay of 2", Banks::some, 0, 1, (y, relay) -> y.stick(relay, 1));
    e.outside("relay of 8", Banks::eight, 0, 7, (y, relay) -> y.stick(relay, 1));
    e.outside("on", Banks::some, 0, 1, (y, on) -> y.stick(0, on));
    e.still("relay of none", Banks::without, y -> y.stick(0, 0), -1);
  }

  private void step() {
    e.sentence("Lets the next event happen;");
    RelayBank x = Check.bank(2, 2, 0, "a/B", "a/A");
    x.press(0, 1);
    e.due("the first of two", x.step(), 0);
    e.due("it alone", x.count(5), 1);
    e.sentence("the time becomes its time (which can be greater than 100000).");
    RelayBank y = Check.bank(1, 1, 0, "a");
    y.press(0, 1);
    y.step();
    e.due("1", y.count(1), 1);
    RelayBank late = Banks.late(100000);
    e.due("100000", late.count(1), 100000);
    late.step();
    e.due("100020", late.count(1), 100020);
    late.step();
    e.due("100040", late.count(1), 100040);
    e.due("the next one's", late.event(0, 0), 100060);
    e.sentence("Returns 10 * relay + kind;");
    RelayBank all = Banks.eight(2, 20, 1, "a");
    all.press(0, 1);
    for (int relay = 0; relay < 8; relay++) {
      e.due("kind 0 of " + relay, all.step(), 10 * relay);
    }
    for (int relay = 0; relay < 8; relay++) {
      e.due("kind 2 of " + relay, all.step(), 10 * relay + 2);
    }
    all.press(0, 0);
    for (int relay = 0; relay < 8; relay++) {
      e.due("kind 1 of " + relay, all.step(), 10 * relay + 1);
    }
  }

  private void stepRefused() {
    e.sentence("ILLEGAL_STATE if the bank is quiet.");
    e.still("no relay", Banks::without, x -> x.step(), -2);
    e.still("no event yet", Banks::eight, x -> x.step(), -2);
    Supplier<RelayBank> settled = () -> {
      RelayBank x = Check.bank(1, 1, 2, "1");
      x.settle(200);
      return x;
    };
    e.still("all have happened", settled, x -> x.step(), -2);
    RelayBank y = Check.bank(1, 1, 2, "1");
    e.due("the first of two", y.step(), 0);
    e.due("the last one", y.step(), 2);
    e.due("none", y.step(), -2);
    e.due("none again", y.step(), -2);
  }

  private void settle() {
    e.sentence("Lets events happen until the bank is quiet");
    RelayBank x = Check.bank(3, 3, 2, "a", "A", "B");
    x.press(0, 1);
    e.due("all", x.settle(200), 6);
    e.due("attracted", x.count(5), 7);
    e.due("the time of the last one", x.count(1), 15);
    e.due("none waits", x.count(2), 0);
    RelayBank y = Banks.restless(1);
    y.settle(7);
    e.due("at most 7: attracted", y.count(5), 1);
    e.due("at most 7: time", y.count(1), 7);
    e.due("one waits still", y.count(2), 1);
    RelayBank race = Check.bank(2, 2, 0, "a/B", "a/A");
    race.press(0, 1);
    race.settle(200);
    e.due("the smaller relay first", race.count(5), 1);
    e.sentence("`events`: 1 to 200");
    e.due("1", y.settle(1), 1);
    e.due("time", y.count(1), 8);
    e.due("200", y.settle(200), 200);
    e.due("time", y.count(1), 208);
    e.sentence("Returns the number of events that happened;");
    e.due("none of none", Banks.without().settle(200), 0);
    e.due("all 201 of a longer run: 200", Banks.longRun(201).settle(200), 200);
    e.due("all 200", Banks.longRun(200).settle(200), 200);
    e.due("all 199", Banks.longRun(199).settle(200), 199);
    RelayBank z = Banks.longRun(201);
    z.settle(200);
    e.due("the last one", z.settle(200), 1);
    e.due("quiet", z.settle(200), 0);
    RelayBank late = Banks.late(100000);
    e.due("beyond 100000 too", late.settle(200), 200);
    e.due("time", late.count(1), 104000);
    e.sentence("INVALID_ARGUMENT if events is out of range.");
    e.outside("events", Banks::some, 1, 200, (w, events) -> w.settle(events));
    e.outside("events, quiet", Banks::without, 1, 200, (w, events) -> w.settle(events));
  }

  private void pass() {
    e.sentence("Lets ticks pass: all events up to the time then happen;");
    RelayBank x = Check.bank(5, 5, 2, "a", "A");
    x.press(0, 1);
    x.pass(4);
    e.due("4: not yet", x.count(5), 0);
    e.due("time", x.count(1), 4);
    x.pass(1);
    e.due("5: just then", x.count(5), 1);
    e.due("time", x.count(1), 5);
    x.pass(1);
    e.due("6: it bounces", x.count(7), 1);
    x.pass(1);
    e.due("7: the bounce ends just then", x.count(7), 0);
    e.due("B", x.event(0, 0), 12);
    x.pass(100);
    e.due("107: B too", x.count(5), 3);
    e.due("time, not that of the last event", x.count(1), 107);
    x.press(0, 0);
    e.due("delays from there", x.event(0, 0), 112);
    RelayBank y = Banks.eight(3, 3, 0, "a");
    y.press(0, 1);
    e.due("all of one time", y.pass(3), 8);
    e.due("attracted", y.count(5), 255);
    RelayBank race = Check.bank(2, 2, 0, "a/B", "a/A");
    race.press(0, 1);
    e.due("one takes the other away", race.pass(2), 1);
    e.due("the smaller relay first", race.count(5), 1);
  }

  private void atMostTwoHundred() {
    e.sentence("but at most 200.");
    RelayBank x = Banks.restless(1);
    e.due("200", x.pass(200), 200);
    e.due("201", x.pass(201), -3);
    e.due("time", x.count(1), 200);
    e.due("199", x.pass(199), 199);
    RelayBank y = Banks.restless(5);
    e.due("200 in 1000 ticks", y.pass(1000), 200);
    e.due("the end of 200", Banks.longRun(200).pass(1000), 200);
    e.due("the end of 201", Banks.longRun(201).pass(1000), -3);
    RelayBank z = Banks.restless(4);
    e.due("250 in 1000 ticks", z.pass(1000), -3);
    e.due("none of them", z.count(5), 0);
    e.due("200 in 803 ticks", z.pass(803), 200);
    e.due("one more tick, one more event", z.pass(1), 1);
  }

  private void passArguments() {
    e.sentence("`ticks`: 1 to 1000");
    RelayBank x = new RelayBank();
    e.due("1", x.pass(1), 0);
    e.due("time", x.count(1), 1);
    e.due("1000", x.pass(1000), 0);
    e.due("time", x.count(1), 1001);
    e.sentence("Returns the number of events that happened;");
    RelayBank y = Check.bank(2, 2, 3, "a");
    y.press(0, 1);
    e.due("none", y.pass(1), 0);
    e.due("one", y.pass(1), 1);
    e.due("none", y.pass(2), 0);
    e.due("a bounce", y.pass(1), 1);
    y.press(0, 0);
    e.due("two", y.pass(1000), 2);
    e.due("quiet", y.pass(1000), 0);
    e.sentence("INVALID_ARGUMENT if ticks is out of range;");
    e.outside("ticks", Banks::some, 1, 1000, (z, ticks) -> z.pass(ticks));
    e.outside("ticks, late", () -> Banks.late(100000), 1, 1000, (z, ticks) -> z.pass(ticks));
    e.outside("ticks, quick", () -> Banks.restless(1), 1, 1000, (z, ticks) -> z.pass(ticks));
  }

  private void passRefused() {
    e.sentence("CAPACITY_EXCEEDED if the time would be greater than 100000");
    Supplier<RelayBank> at99000 = () -> {
      RelayBank x = Banks.late(96000);
      for (int call = 0; call < 3; call++) {
        x.pass(1000);
      }
      return x;
    };
    e.due("99000", at99000.get().count(1), 99000);
    RelayBank x = at99000.get();
    e.due("up to 100000", x.pass(1000), 50);
    e.due("100000", x.count(1), 100000);
    e.due("no tick more", x.pass(1), -3);
    Supplier<RelayBank> at99001 = () -> {
      RelayBank y = at99000.get();
      y.pass(1);
      return y;
    };
    e.still("100001", at99001, y -> y.pass(1000), -3);
    e.due("just 100000", at99001.get().pass(999), 50);
    e.still("later still", () -> Banks.late(104000), y -> y.pass(1), -3);
    e.still("later still, 1000", () -> Banks.late(104000), y -> y.pass(1000), -3);
    e.still("201 events", () -> Banks.restless(1), y -> y.pass(201), -3);
    e.still("1000 events", () -> Banks.restless(1), y -> y.pass(1000), -3);
    e.still("201 events, and then quiet", () -> Banks.longRun(201), y -> y.pass(1000), -3);
    RelayBank quiet = new RelayBank();
    for (int call = 0; call < 100; call++) {
      e.due("quiet, call " + call, quiet.pass(1000), 0);
    }
    e.due("100000, quiet", quiet.pass(1), -3);
    e.due("100000, quiet", quiet.count(1), 100000);
  }
}
