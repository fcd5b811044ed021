/** The boundary cases of the texts, of the buffer and of undo: a test for each sentence. */
public final class TextsTest {
  public static void main(String[] args) {
    buffer();
    charges();
    loading();
    undoing();
    Check.end("TextsTest");
  }

  private static void buffer() {
    Check.sentence("The buffer is read from left to right", () -> {
      Check.same("12", 12, loaded("12a"));
      Check.same("21", 21, loaded("21a"));
      Check.same("an error in front of a charge", 0, Make.typed("x7a").firstError());
      Check.same("an error behind one", 2, Make.typed("7ax").firstError());
      Check.same("a charge from the right", 0, Make.typed("a7").firstError());
      SettlingJars x = Make.typed("1a@10+23b@9");
      x.load(0);
      Check.same("the first portion", 1, x.slice(0, 10, 0));
      Check.same("the second one", 23, x.slice(0, 9, 1));
    });
    Check.sentence("Appends a character to the buffer.", () -> {
      for (char code = 33; code <= 126; code++) {
        SettlingJars x = new SettlingJars();
        x.append(code);
        Check.same("the hash of " + code, DigestTest.hash(SettlingJars::new, "" + code), x.digest());
      }
    });
    Check.sentence("Clears the buffer.", () -> {
      SettlingJars x = Make.typed("7a@7!");
      x.clearBuffer();
      Check.same("all is as it was at first", new SettlingJars().digest(), x.digest());
      Make.type(x, "8b");
      Check.same("what is typed then is all", 8, x.load(0));
    });
    Check.sentence("The buffer has at most 60 characters.", TextsTest::sixtyCharacters);
    Check.sentence("`code`: the character code, 33 to 126", TextsTest::codes);
    Check.sentence("Returns the new length of the buffer.", () -> {
      SettlingJars x = new SettlingJars();
      Check.same("the first", 1, x.append('1'));
      Check.same("the second", 2, x.append('1'));
    });
    Check.sentence("Returns the length that it had.", () -> {
      Check.same("an empty buffer", 0, new SettlingJars().clearBuffer());
      Check.same("one character", 1, Make.typed("x").clearBuffer());
      SettlingJars x = Make.typed("7a".repeat(30));
      Check.same("a full buffer", 60, x.clearBuffer());
      Check.same("then it is empty", 0, x.clearBuffer());
      Check.same("and takes characters again", 1, x.append('7'));
    });
    Check.sentence("Returns the index of the first character that is a syntax error; the length of "
        + "the buffer if there is none.", TextsTest::firstErrors);
  }

  private static void charges() {
    Check.sentence("A charge is one or more portions separated by \"+\"", () -> {
      Check.holds("no portion", !isCharge(""));
      Check.holds("one portion", isCharge("7a"));
      Check.holds("two portions", isCharge("7a+7a"));
      Check.holds("as many as go in", isCharge("7a+".repeat(19) + "77a"));
      Check.holds("a + and no more", !isCharge("+"));
      Check.holds("a + in front", !isCharge("+7a"));
      Check.holds("a + behind", !isCharge("7a+"));
      Check.holds("a + behind a slice", !isCharge("7a@7+"));
      Check.holds("two of +", !isCharge("7a++7a"));
      Check.holds("no +", !isCharge("7a7a"));
      Check.holds("another sign", !isCharge("7a,7a"));
    });
    Check.sentence("a portion is a number of grains, 1 to 999", () -> {
      Check.holds("0", !isCharge("0a"));
      Check.same("1", 1, loaded("1a"));
      Check.same("9", 9, loaded("9a"));
      Check.same("10", 10, loaded("10a"));
      Check.same("99", 99, loaded("99a"));
      Check.same("100", 100, loaded("100a"));
      Check.same("999", 999, loaded("999a"));
      Check.holds("1000", !isCharge("1000a"));
      Check.same("the fourth digit", 3, Make.typed("1000a").firstError());
      Check.holds("no number", !isCharge("a"));
    });
    Check.sentence("the letter of its class: \"a\" to \"d\" for 0 to 3", TextsTest::letters);
    Check.sentence("possibly \"@\" and a slice, 0 to 11 (slice 0 without it)", TextsTest::slices);
    Check.sentence("Numbers are without leading zeros.", TextsTest::noLeadingZeros);
    Check.sentence("a character is a syntax error if no charge, of any length, begins with the "
        + "characters before it and this character.", TextsTest::everyCharacter);
  }

  private static void loading() {
    Check.sentence("if the buffer is not a complete charge", () -> {
      String[] texts = {"", "7", "77", "777", "7a@", "7a+", "7a@1+", "7a+7", "7a!", "!7a", "7e"};
      for (String text : texts) {
        SettlingJars x = Make.typed(text);
        Check.refusesArgument(text, x, () -> x.load(0));
        Check.same("what stays of " + text, text.length(), x.clearBuffer());
      }
    });
    Check.sentence("Pours the charge in the buffer into a jar, and clears the buffer.", () -> {
      SettlingJars x = Make.typed("3a+4a+5b@11");
      x.load(2);
      Check.same("the length", 0, x.clearBuffer());
      Check.same("both portions", 7, x.slice(2, 0, 0));
      Check.same("the last portion", 5, x.slice(2, 11, 1));
      Check.refusesArgument("loaded twice", x, () -> x.load(2));
    });
    Check.sentence("Pours the charge in the buffer into a jar", TextsTest::nothingButTheCharge);
    Check.sentence("Returns how many grains the jar holds then.", () -> {
      SettlingJars x = Make.typed("3a");
      x.pour(1, 4, 3, 30);
      x.pour(0, 4, 3, 500);
      Check.same("with those that were there", 33, x.load(1));
    });
    Check.sentence("if the jar would hold more than 5000 grains", TextsTest::noMoreThanFit);
  }

  private static void undoing() {
    Check.sentence("Each method that is marked \"undoable\" and does not throw an exception saves "
        + "the state from before it", TextsTest::eachSaves);
    Check.sentence("(also if it changes nothing)", TextsTest::nothingIsSavedToo);
    Check.sentence("all but the buffer and the saved states.", TextsTest::allButTheBuffer);
    Check.sentence("At most 6 states are saved; the oldest one is dropped first.",
        TextsTest::atMostSix);
    Check.sentence("Restores the latest saved state, and drops it.", TextsTest::upAndDown);
    Check.sentence("Returns how many saved states are left.", () -> {
      for (int saved = 1; saved <= 6; saved++) {
        SettlingJars x = poured(saved);
        Check.same("of " + saved, saved - 1, x.undo());
        Check.same("the count", saved - 1, x.count(5));
      }
    });
    Check.sentence("Throws `IllegalStateException` if there is none", () -> {
      SettlingJars x = new SettlingJars();
      Check.refusesState("a new object", x, () -> x.undo());
      SettlingJars y = poured(1);
      y.undo();
      Check.refusesState("all undone", y, () -> y.undo());
      SettlingJars z = poured(9);
      for (int k = 0; k < 6; k++) {
        z.undo();
      }
      Check.refusesState("six undone", z, () -> z.undo());
      Check.same("as it was before the last six", 3, z.jar(0, 0));
    });
  }

  private static void sixtyCharacters() {
    SettlingJars x = new SettlingJars();
    for (int length = 1; length <= 60; length++) {
      Check.same("the length", length, x.append('7'));
    }
    Check.refusesState("the 61st", x, () -> x.append('7'));
    Check.refusesState("and again", x, () -> x.append('7'));
    x.clearBuffer();
    Make.type(x, "111a+22b@11+333c@10+44d@9+555a@8+66b@7+777c@6+88d@5+999a@4+1");
    Check.same("no error in 60", 60, x.firstError());
    Check.refusesState("the 61st of a charge", x, () -> x.append('a'));
    x.clearBuffer();
    Make.type(x, "111a+22b@11+333c@10+44d@9+555a@8+66b@7+777c@6+88d@5+999a+11d");
    Check.same("a charge of 60", 111 + 22 + 333 + 44 + 555 + 66 + 777 + 88 + 999 + 11, x.load(0));
  }

  private static void codes() {
    SettlingJars x = new SettlingJars();
    Check.refusesArgument("32", x, () -> x.append(32));
    Check.same("33", 1, x.append(33));
    Check.same("126", 2, x.append(126));
    Check.refusesArgument("127", x, () -> x.append(127));
    Check.refusesArgument("what would be 97 as a char", x, () -> x.append(97 + 65536));
    Check.refusesArgument("-97", x, () -> x.append(-97));
  }

  private static void firstErrors() {
    Check.same("an empty buffer", 0, Make.typed("").firstError());
    Check.same("the first character", 0, Make.typed("x").firstError());
    Check.same("the first of many", 0, Make.typed("!".repeat(60)).firstError());
    Check.same("none of 60", 60, Make.typed("77b@11+".repeat(8) + "77b@").firstError());
    Check.same("the last of 60", 59, Make.typed("77b@11+".repeat(8) + "7b@@").firstError());
    Check.same("only the first", 2, Make.typed("7a!7a!").firstError());
    Check.same("not complete, but no error", 3, Make.typed("7a@").firstError());
    Check.same("of any length", 60, Make.typed("999a+".repeat(12)).firstError());
    SettlingJars x = Make.typed("7a7");
    Check.same("an error", 2, x.firstError());
    Check.same("it is found again", 2, x.firstError());
    x.clearBuffer();
    Check.same("cleared", 0, x.firstError());
  }

  private static boolean isCharge(String text) {
    SettlingJars x = Make.typed(text);
    try {
      return x.load(0) > 0;
    } catch (IllegalArgumentException e) {
      return false;
    }
  }

  private static int loaded(String text) {
    return Make.typed(text).load(1);
  }

  private static void letters() {
    for (int grain = 0; grain < 4; grain++) {
      SettlingJars x = Make.typed("70" + (char) ('a' + grain));
      x.load(0);
      Check.same("class " + grain, 70, x.jar(0, grain + 1));
    }
    for (char wrong : new char[] {'`', 'e', 'A', 'D', 'z', '!', '~'}) {
      Check.same("the letter " + wrong, 1, Make.typed("7" + wrong).firstError());
      Check.holds("a charge of " + wrong, !isCharge("7" + wrong));
    }
  }

  private static void slices() {
    for (int slice = 0; slice < 12; slice++) {
      SettlingJars x = Make.typed("7c@" + slice + "+1a");
      x.load(0);
      Check.same("slice " + slice, 7, x.slice(0, slice, 2));
      Check.same("slice 0 without it", 1, x.slice(0, 0, 0));
    }
    for (int slice = 12; slice <= 99; slice++) {
      Check.same("no slice " + slice, 4, Make.typed("7c@" + slice).firstError());
      Check.holds("a charge of " + slice, !isCharge("7c@" + slice));
    }
    Check.same("no slice -1", 3, Make.typed("7c@-1").firstError());
    Check.same("no slice 100", 5, Make.typed("7c@100").firstError());
    Check.same("no slice 111", 5, Make.typed("7c@111").firstError());
    Check.holds("@ without a slice", !isCharge("7c@"));
    Check.same("two of @", 4, Make.typed("7c@1@1").firstError());
  }

  private static void noLeadingZeros() {
    Check.same("01", 0, Make.typed("01a").firstError());
    Check.same("001", 0, Make.typed("001a").firstError());
    Check.same("01 behind a portion", 3, Make.typed("7a+01a").firstError());
    Check.same("slice 00", 4, Make.typed("7a@00").firstError());
    Check.same("slice 01", 4, Make.typed("7a@01").firstError());
    Check.same("slice 011", 4, Make.typed("7a@011").firstError());
    Check.holds("slice 0", isCharge("7a@0"));
    Check.holds("slice 10", isCharge("7a@10"));
    Check.same("zeros inside", 100 + 101 + 110, loaded("100a+101a@10+110a@0"));
  }

  /** Behind each kind of beginning, each of the 94 characters. */
  private static void everyCharacter() {
    String digits = "0123456789";
    follow("", "123456789");
    follow("7a+", "123456789");
    follow("7a@11+", "123456789");
    follow("1", digits + "abcd");
    follow("90", digits + "abcd");
    follow("999", "abcd");
    follow("100", "abcd");
    follow("7a", "@+");
    follow("999d", "@+");
    follow("7a@", digits);
    follow("7a@0", "+");
    follow("7a@1", "01+");
    follow("7a@2", "+");
    follow("7a@9", "+");
    follow("7a@10", "+");
    follow("7a@11", "+");
  }

  private static void follow(String beginning, String allowed) {
    for (char code = 33; code <= 126; code++) {
      int due = beginning.length() + (allowed.indexOf(code) >= 0 ? 1 : 0);
      Check.same(beginning + code, due, Make.typed(beginning + code).firstError());
      Check.same(beginning + code + "~", due, Make.typed(beginning + code + "~").firstError());
    }
  }

  /** No grains come with it from the questions and the texts before. */
  private static void nothingButTheCharge() {
    SettlingJars x = new SettlingJars();
    x.set(1, 10);
    for (int k = 0; k < 48; k++) {
      x.pour(0, k / 4, k % 4, 3);
    }
    x.ifSettled(0, 1, 0);
    Make.type(x, "7c@5");
    Check.same("behind ifSettled", 7, x.load(1));
    x.clearIn(0, 1);
    Make.type(x, "7c@5");
    Check.same("behind clearIn", 14, x.load(1));
    x.restIn(0);
    Make.type(x, "7c@5");
    Check.same("behind restIn", 21, x.load(1));
    Make.type(x, "999a+999b+999c+999d+999a+999b");
    Check.refusesState("too many", x, () -> x.load(1));
    x.clearBuffer();
    Make.type(x, "7c@5");
    Check.same("behind a charge that is too much", 28, x.load(1));
    Check.same("all of it in one slice", 28, x.slice(1, 5, 2));
    Check.same("poured of class 2", 64, x.grains(2, 0));
    Check.same("poured of class 0", 36, x.grains(0, 0));
  }

  private static void noMoreThanFit() {
    String most = "999a+999b@1+999c@2+999d@3+999a@11+";
    Check.same("5000", 5000, loaded(most + "5d@11"));
    SettlingJars x = Make.typed(most + "6d@11");
    Check.refusesState("5001", x, () -> x.load(1));
    Check.same("the buffer stays", 39, x.clearBuffer());
    SettlingJars y = Make.typed("1d");
    Make.fill(y, 1, 4999);
    Check.same("4999 and 1", 5000, y.load(1));
    Make.type(y, "1d");
    Check.refusesState("5000 and 1", y, () -> y.load(1));
    Check.same("another jar", 1, y.load(0));
    SettlingJars z = Make.typed("999a+".repeat(11) + "999a");
    Check.refusesState("very many", z, () -> z.load(0));
  }

  private static void eachSaves() {
    int many = Make.deeds(new SettlingJars()).length;
    for (int k = 0; k < many; k++) {
      SettlingJars x = Make.busy();
      x.undo();
      long before = x.digest();
      Make.deeds(x)[k].run();
      Check.same("call " + k + " saves one", 6, x.count(5));
      Check.holds("call " + k + " changes something", x.digest() != before);
      x.undo();
      if (k == 8) {
        Make.type(x, "7b@6+1c");
      }
      Check.same("call " + k + " undone", before, x.digest());
    }
    SettlingJars x = Make.busy();
    x.undo();
    long before = x.digest();
    x.clearBuffer();
    Make.type(x, "7b@6+1c");
    x.firstError();
    x.slice(0, 0, 0);
    x.jar(0, 9);
    x.grains(0, 0);
    x.count(0);
    x.setting(0);
    x.why(0, 0, 0);
    x.ifSettled(0, 100, 0);
    x.clearIn(0, 12);
    x.restIn(0);
    x.purest(0, 0);
    x.meanDepth(0);
    Check.same("the others save and change nothing", before, x.digest());
  }

  private static void nothingIsSavedToo() {
    SettlingJars x = new SettlingJars();
    Check.Call[] calls = {() -> x.set(1, 200), () -> x.setSpeed(0, 40), () -> x.stir(0, 0, 11),
        () -> x.draw(0, 0, 100), () -> x.decant(0, 1, 11), () -> x.turn(2)};
    for (int k = 0; k < calls.length; k++) {
      calls[k].run();
      Check.same("call " + k + " saves a state", k + 1, x.count(5));
    }
    for (int k = calls.length - 1; k >= 0; k--) {
      Check.same("left", k, x.undo());
    }
    SettlingJars y = new SettlingJars();
    y.pour(0, 0, 0, 9);
    y.draw(0, 0, 10);
    Check.same("drawing off less than a grain saves a state", 2, y.count(5));
    y.stir(0, 0, 0);
    Check.same("stirring one slice saves a state", 3, y.count(5));
    y.draw(0, 0, 100);
    y.settle(1);
    Check.same("a step without a fall saves a state", 5, y.count(5));
    y.undo();
    Check.same("the step is undone", 0, y.count(0));
  }

  private static void allButTheBuffer() {
    SettlingJars x = Make.typed("7a+8b");
    x.pour(0, 0, 0, 3);
    x.append('@');
    x.undo();
    Check.same("undo leaves the buffer", 6, x.clearBuffer());
    Make.type(x, "7a");
    x.load(0);
    x.undo();
    Check.same("what load has cleared stays cleared", 0, x.clearBuffer());
    Make.type(x, "1");
    x.set(0, 1);
    x.clearBuffer();
    x.undo();
    Check.same("what was cleared since stays cleared", 0, x.clearBuffer());
    SettlingJars y = poured(4);
    y.undo();
    y.undo();
    Check.same("the number of saved states is none of them", 2, y.count(5));
    bringsAllBack();
    bringsAccountsBack();
  }

  private static void bringsAccountsBack() {
    for (int grain = 0; grain < 4; grain++) {
      SettlingJars x = new SettlingJars();
      x.pour(0, 0, grain, 50);
      x.draw(0, 0, 10);
      x.pour(1, 0, grain, 7);
      x.undo();
      Check.same("poured of class " + grain, 50, x.grains(grain, 0));
      x.draw(0, 0, 100);
      x.undo();
      Check.same("drawn off of class " + grain, 5, x.grains(grain, 1));
      x.undo();
      Check.same("not drawn off of class " + grain, 0, x.grains(grain, 1));
      x.undo();
      Check.same("not poured of class " + grain, 0, x.grains(grain, 0));
    }
  }

  private static void bringsAllBack() {
    SettlingJars x = Make.typed("5a");
    Check.Call[] calls = {() -> x.pour(0, 0, 0, 77), () -> x.set(1, 10), () -> x.setSpeed(0, 100),
        () -> x.settle(9), () -> x.draw(0, 9, 100), () -> x.decant(0, 2, 11)};
    long[] seen = new long[calls.length];
    for (int k = 0; k < calls.length; k++) {
      seen[k] = x.digest();
      calls[k].run();
      Check.holds("call " + k + " changes something", seen[k] != x.digest());
    }
    for (int k = calls.length - 1; k >= 0; k--) {
      x.undo();
      Check.same("call " + k + " undone", seen[k], x.digest());
    }
  }

  /** An object with so many grains in jar 0, each poured by a call of its own. */
  private static SettlingJars poured(int calls) {
    SettlingJars x = new SettlingJars();
    for (int k = 0; k < calls; k++) {
      x.pour(0, 0, 0, 1);
    }
    return x;
  }

  private static void atMostSix() {
    for (int calls = 0; calls <= 20; calls++) {
      SettlingJars x = poured(calls);
      int saved = Math.min(calls, 6);
      Check.same("saved of " + calls, saved, x.count(5));
      for (int left = saved - 1; left >= 0; left--) {
        Check.same("left of " + calls, left, x.undo());
        Check.same("grains before them", calls - saved + left, x.jar(0, 0));
      }
      Check.refusesState("no more than six of " + calls, x, () -> x.undo());
    }
  }

  /** Some undone, some done again: always the state before the latest call comes back. */
  private static void upAndDown() {
    for (int first = 1; first <= 8; first++) {
      for (int undone = 1; undone <= Math.min(first, 6); undone++) {
        for (int again = 1; again <= 8; again++) {
          SettlingJars x = poured(first);
          for (int k = 0; k < undone; k++) {
            x.undo();
          }
          for (int k = 1; k <= again; k++) {
            x.pour(0, 11, 3, 10);
          }
          int saved = Math.min(6, Math.min(first, 6) - undone + again);
          Check.same("saved", saved, x.count(5));
          for (int left = saved - 1; left >= 0; left--) {
            Check.same("left", left, x.undo());
            int redone = Math.max(0, again - (saved - left));
            Check.same("of the calls done again", 10 * redone, x.jar(0, 4));
            int older = Math.max(0, saved - left - again);
            Check.same("of the first calls", first - undone - older, x.jar(0, 1));
          }
        }
      }
    }
  }
}
