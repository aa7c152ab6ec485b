/** The edges that the document names for texts: the grammar, the fault, and promises 18 to 21. */
public final class EdgesOfTextsTest extends Edges {
    private static final String NUMBERS =
        "A holder is a digit from 0 to 5, an hour a number from 0 to 23, other numbers are 0 to 1000000; all without leading zeros.";
    private static final String FIRST_WRONG =
        "The fault is the index of the first character that cannot stand at its place when the text is read from left to right";
    private static final String TOO_GREAT = "(also of a digit by which a number would be too great)";
    private static final String TOO_EARLY =
        "if there is none and the text ends too early (also if it is empty), it is the length of the text.";

    public static void main(String[] args) {
        Check.watch();
        run();
        CHECK.end("EdgesOfTextsTest");
    }

    static void run() {
        section("### Texts");
        goodTexts();
        leastAndGreatest();
        tooGreat();
        leadingZeros();
        wrongCharacters();
        tooEarly();
        meanings();
        put();
        fullPad();
        wipe();
        fault();
        carryOut();
        carryOutUpToAnError();
    }

    private static void good(String name, String quoted, String... texts) {
        edge(name, quoted, () -> {
            for (String text : texts) {
                dueFault(text, NONE);
            }
        });
    }

    private static void faultAt(int index, String name, String quoted, String... texts) {
        edge(name, quoted, () -> {
            for (String text : texts) {
                dueFault(text, index);
            }
        });
    }

    private static void dueFault(String text, int want) {
        x.wipe();
        write(text);
        due("count(17) of " + text, x.count(17), text.length());
        due("fault() of " + text, x.fault(), want);
    }

    private static void goodTexts() {
        good("an order of each kind", "order = \"b\" holder \":\" number [ \"@\" hour ]", "b0:1", "b0:1@1", "l0:1", "l0:1@1", "q1", "i1", "d", "p");
        good("several orders", "text = order { \";\" order }", "d;p", "d;d;d", "q1;b0:1;p", "b0:1@2;l0:1@2;i5");
        good("no hour, and another order behind it", "[ \"@\" hour ]", "b0:1;d", "l5:10;p");
    }

    private static void leastAndGreatest() {
        good("the least and the greatest holder", NUMBERS, "b0:1", "b5:1", "l0:1", "l5:1");
        good("the least number", NUMBERS, "b0:0", "l0:0", "q0", "i0");
        good("the greatest number", NUMBERS, "b0:1000000", "l0:1000000", "q1000000", "i1000000", "b0:1000000@5");
        good("numbers of one digit to six digits", NUMBERS, "q9", "q10", "q99", "q999", "q9999", "q99999", "q999999");
        good("the least and the greatest hour", NUMBERS, "b0:1@0", "b0:1@23", "l0:1@0", "l0:1@23");
        good("hours of one digit and of two", NUMBERS, "b0:1@2", "b0:1@9", "b0:1@10", "b0:1@19", "b0:1@20");
        faultAt(1, "a holder that there isn't", NUMBERS, "b6:1", "b9:1", "l6:1", "l9:1");
        faultAt(2, "a holder of two digits", NUMBERS, "b10:1", "l05:1", "b00:1");
    }

    private static void tooGreat() {
        faultAt(9, "a number that is one too great", TOO_GREAT, "b0:1000001", "l0:1000001");
        faultAt(7, "a number of q or i that is one too great", TOO_GREAT, "q1000001", "i1000001", "q1000009");
        faultAt(7, "a number of seven digits", TOO_GREAT, "q2000000", "q9999999", "i1000010", "q1234567");
        faultAt(8, "a number of eight digits", TOO_GREAT, "q10000000", "i10000000");
        faultAt(8, "a number beyond the ints", TOO_GREAT, "q1000000000000000", "q1000000429496729600");
        faultAt(6, "an hour that is one too great", TOO_GREAT, "b0:1@24", "l0:1@24");
        faultAt(6, "an hour from 24 to 99", TOO_GREAT, "b0:1@29", "b0:1@30", "b0:1@99");
        faultAt(7, "an hour of three digits", TOO_GREAT, "b0:1@100", "b0:1@230", "l0:1@120");
    }

    private static void leadingZeros() {
        faultAt(4, "a number with a leading zero", NUMBERS, "b0:01", "l0:00", "b0:0123");
        faultAt(2, "a number of q or i with a leading zero", NUMBERS, "q01", "i00", "q0123");
        faultAt(6, "an hour with a leading zero", NUMBERS, "b0:1@00", "b0:1@01", "l0:1@05");
        good("a zero that leads nothing", NUMBERS, "b0:10@10", "q100", "i1000", "b0:0@0");
    }

    private static void wrongCharacters() {
        faultAt(0, "no order at the beginning", FIRST_WRONG, "x", ";", ";d", "0", "@", ":", "B0:1", "D", "~", "!");
        faultAt(1, "no holder", FIRST_WRONG, "b:1", "l:1", "bb", "l;", "b@0", "b-1:1");
        faultAt(2, "no colon", FIRST_WRONG, "b0", "b0;", "b0@1", "l0x", "l05", "b0;5", "b0b");
        faultAt(3, "no number behind the colon", FIRST_WRONG, "b0:;", "b0::", "b0:@5", "l0:x", "b0:-1");
        faultAt(1, "no number behind q or i", FIRST_WRONG, "q;", "q:1", "i@5", "q-1", "ix");
        faultAt(4, "a wrong character behind a number", FIRST_WRONG, "b0:5:", "b0:5d", "l0:5x", "b0:5/", "b0:5/1");
        faultAt(2, "no hour for q and i", FIRST_WRONG, "q5@1", "i5@1", "q5:1", "i5d");
        faultAt(5, "no number behind the at", FIRST_WRONG, "b0:5@;", "b0:5@@", "b0:5@x", "l0:5@:");
        faultAt(6, "a wrong character behind an hour", FIRST_WRONG, "b0:5@0@", "b0:5@1:", "b0:5@1d", "l0:5@2x");
        faultAt(1, "a wrong character behind d or p", FIRST_WRONG, "dd", "dp", "d1", "p@1", "d:", "px");
        faultAt(2, "no order behind a semicolon", FIRST_WRONG, "d;;", "d;x", "p;0", "d;;d");
        faultAt(14, "a wrong character in a later order", FIRST_WRONG, "d;p;b0:5@12;q1x", "d;p;b0:5@12;q1@1");
        faultAt(3, "the first of two wrong characters", FIRST_WRONG, "q1;x;y", "b0:x;b9");
        faultAt(1, "a wrong character ahead of a text that ends too early", FIRST_WRONG, "dx;b0", "b7:");
    }

    private static void tooEarly() {
        edge("the empty text", TOO_EARLY, () -> due("fault()", x.fault(), 0));
        faultAt(1, "the text ends behind a letter", TOO_EARLY, "b", "l", "q", "i");
        faultAt(2, "the text ends behind a holder", TOO_EARLY, "b0", "l5");
        faultAt(3, "the text ends behind a colon", TOO_EARLY, "b0:", "l5:");
        faultAt(5, "the text ends behind an at", TOO_EARLY, "b0:1@", "l5:7@");
        faultAt(2, "the text ends behind a semicolon", TOO_EARLY, "d;", "p;");
        faultAt(5, "the text ends behind a later semicolon", TOO_EARLY, "b0:1;", "q1;d;");
        edge("a full pad ends too early", TOO_EARLY, () -> {
            dueFault("d;".repeat(40), 80);
            dueFault("d;".repeat(39) + "dq", 79);
            dueFault("d;".repeat(39) + "q", 79);
        });
        edge("a full pad has a fault at its last character", FIRST_WRONG, () -> dueFault("d;".repeat(39) + "d0", 79));
        edge("a full pad is a text", "The pad is a text of at most 80 characters", () -> {
            dueFault("d;".repeat(39) + "q1", NONE);
            dueFault("d;".repeat(36) + "i1000000", NONE);
            dueFault("q1;".repeat(26) + "q1", NONE);
        });
        edge("what the pad held before is not read", TOO_EARLY, () -> {
            dueFault("b0:123@4", NONE);
            dueFault("b0:", 3);
            dueFault("b", 1);
            dueFault("d;d", NONE);
            dueFault("d", NONE);
        });
    }

    private static void meanings() {
        edge("the hour is 0 if it is left out", "at an hour (0 if it is left out)", () -> {
            withUnits();
            x.set(CUT, 1);
            write("b0:5;l0:7;b0:6@1;l0:8@1");
            due("carryOut()", x.carryOut(), 4);
            dueOrder(0, 0, 0, 5, 1);
            dueOrder(0, 1, 0, 6, 2);
            dueOrder(1, 0, 0, 7, 1);
            dueOrder(1, 1, 0, 8, 2);
        });
        edge("an hour that is left out is not that of the order ahead", "at an hour (0 if it is left out)", () -> {
            withUnits();
            write("b0:5@23;b0:6;l0:7@23;l0:8");
            due("carryOut()", x.carryOut(), 4);
            dueOrder(0, 0, 0, 6, 1);
            dueOrder(0, 1, 0, 5, 2);
            dueOrder(1, 0, 0, 8, 1);
            dueOrder(1, 1, 0, 7, 2);
        });
        edge("each letter's call", "\"q\": quote(); \"i\": income(); \"d\": endDay(); \"p\": pay().", () -> {
            withUnits();
            write("q10000;i1000000;d;p;l5:1");
            due("carryOut()", x.carryOut(), 4);
            due("count(2)", x.count(2), 10000);
            due("count(8)", x.count(8), 2);
            due("ofHolder(0, 6)", x.ofHolder(0, 6), 600000);
        });
        edge("the greatest holder, number and hour", NUMBERS, () -> {
            write("b5:1000000@23");
            due("carryOut()", x.carryOut(), 1);
            dueOrder(0, 0, 5, 1000000, 1);
        });
    }

    private static void put() {
        section("## Promise 18: put");
        String characters = "- `characters`: 1 to 8 characters";
        edge("one character", characters, () -> {
            due("put 'd'", x.put('d'), 1);
            due("fault()", x.fault(), NONE);
        });
        edge("eight characters", characters, () -> {
            due("put 8", x.put(packed("b0:12345")), 8);
            due("fault()", x.fault(), NONE);
            due("carryOut()", x.carryOut(), 1);
            dueOrder(0, 0, 0, 12345, 0);
        });
        edge("each number of characters in between", characters, () -> {
            String text = "d;p;d;p;";
            int length = 0;
            for (int count = 2; count < 8; count++) {
                length += count;
                due("put " + count, x.put(packed(text.substring(count % 2, count + count % 2))), length);
            }
        });
        edge("the order of the characters", "its lowest 8 bits are the last character, the next 8 bits the one before, and so on", () -> {
            due("put 'q', '7'", x.put('q' << 8 | '7'), 2);
            due("fault()", x.fault(), NONE);
            due("carryOut()", x.carryOut(), 1);
            due("count(2)", x.count(2), 7);
        });
        edge("no character", "BAD_VALUE if there is no character", () -> {
            due("put(0)", x.put(0), BAD_VALUE);
            due("count(17)", x.count(17), 0);
        });
        String code = "a code is not 33 to 126";
        edge("a code that is too small", code, () -> {
            due("put(32)", x.put(32), BAD_VALUE);
            due("put(1)", x.put(1), BAD_VALUE);
        });
        edge("the least code", code, () -> due("put(33)", x.put(33), 1));
        edge("the greatest code", code, () -> due("put(126)", x.put(126), 1));
        edge("a code that is too large", code, () -> {
            due("put(127)", x.put(127), BAD_VALUE);
            due("put(128)", x.put(128), BAD_VALUE);
            due("put(255)", x.put(255), BAD_VALUE);
        });
        edge("a wrong code at each place", code, () -> {
            for (int place = 0; place < 8; place++) {
                long all = packed("d;d;d;d;") & ~(255L << 8 * place);
                due("32 at " + place, x.put(all | 32L << 8 * place), BAD_VALUE);
                due("127 at " + place, x.put(all | 127L << 8 * place), BAD_VALUE);
                due("128 at " + place, x.put(all | 128L << 8 * place), BAD_VALUE);
            }
            due("count(17)", x.count(17), 0);
        });
        edge("a number below 0", code, () -> {
            due("put(-1)", x.put(-1), BAD_VALUE);
            due("put of the least long", x.put(Long.MIN_VALUE), BAD_VALUE);
        });
        String above = "a bit above 8 bits that are 0 is not 0";
        edge("a bit above 8 bits that are 0", above, () -> {
            due("put 'd', 0, 'd'", x.put(0x640064), BAD_VALUE);
            due("put 1 << 16 | 'd'", x.put(1 << 16 | 'd'), BAD_VALUE);
            due("put 'd', 0", x.put('d' << 8), BAD_VALUE);
            due("count(17)", x.count(17), 0);
        });
        edge("the highest bit above 8 bits that are 0", above, () -> {
            due("put 1 << 63 | 'd'", x.put(Long.MIN_VALUE | 'd'), BAD_VALUE);
            due("put 1 << 56 | 'd'", x.put(1L << 56 | 'd'), BAD_VALUE);
            due("put 1 << 32 | 'd'", x.put(1L << 32 | 'd'), BAD_VALUE);
            due("count(17)", x.count(17), 0);
        });
        edge("8 bits that are 0 at each place", above, () -> {
            for (int place = 0; place < 7; place++) {
                due("0 at " + place, x.put(packed("d;d;d;d;") & ~(255L << 8 * place)), BAD_VALUE);
            }
            due("0 at 7", x.put(packed("d;d;d;d;") & ~(255L << 56)), 7);
        });
    }

    private static void fullPad() {
        String most = "TOO_MANY if the pad would be longer than 80.";
        edge("the pad is just full", most, () -> {
            write("d;".repeat(36));
            due("put 8", x.put(packed("d;d;d;d;")), 80);
            due("count(17)", x.count(17), 80);
        });
        edge("the pad is one longer than full", most, () -> {
            write("d;".repeat(36) + "d");
            due("put 8", x.put(packed(";d;d;d;d")), TOO_MANY);
            due("count(17)", x.count(17), 73);
            due("put 7", x.put(packed(";d;d;d;")), 80);
        });
        edge("a full pad takes no more", most, () -> {
            write("d;".repeat(40));
            due("put 1", x.put('d'), TOO_MANY);
            due("put 8", x.put(packed("d;d;d;d;")), TOO_MANY);
            due("count(17)", x.count(17), 80);
        });
        edge("a full pad that is wiped takes 80 again", most, () -> {
            write("d;".repeat(40));
            x.wipe();
            write("p;".repeat(39) + "q7");
            due("count(17)", x.count(17), 80);
            due("carryOut()", x.carryOut(), 40);
            due("count(2)", x.count(2), 7);
        });
    }

    private static void wipe() {
        section("## Promise 19: wipe");
        String length = "Empties the pad, and returns the length that it had.";
        edge("an empty pad is wiped", length, () -> due("wipe()", x.wipe(), 0));
        edge("a pad is wiped, faulty or not", length, () -> {
            write("dxx");
            due("wipe()", x.wipe(), 3);
            due("count(17)", x.count(17), 0);
            due("fault()", x.fault(), 0);
            due("wipe()", x.wipe(), 0);
        });
        edge("a full pad is wiped", length, () -> {
            write("d;".repeat(40));
            due("wipe()", x.wipe(), 80);
            due("put 'd'", x.put('d'), 1);
        });
        edge("a wiped pad is not carried out", length, () -> {
            write("d;d");
            x.wipe();
            due("carryOut()", x.carryOut(), BAD_TEXT);
            due("count(8)", x.count(8), 0);
        });
    }

    private static void fault() {
        section("## Promise 20: fault");
        String returns = "Returns the fault of the pad, NONE if there is none.";
        edge("the pad without a fault", returns, () -> {
            write("d");
            due("fault()", x.fault(), NONE);
            due("fault() again", x.fault(), NONE);
            due("count(17)", x.count(17), 1);
        });
        edge("the fault follows the pad", returns, () -> {
            String text = "b0:10@2;d";
            int[] faults = {1, 2, 3, NONE, NONE, 6, NONE, 8, NONE};
            for (int i = 0; i < faults.length; i++) {
                x.put(text.charAt(i));
                due("fault() of " + text.substring(0, i + 1), x.fault(), faults[i]);
            }
        });
    }

    private static void carryOut() {
        section("## Promise 21: carryOut");
        String bad = "BAD_TEXT if the pad has a fault (then it stays).";
        edge("an empty pad is not carried out", bad, () -> {
            due("carryOut()", x.carryOut(), BAD_TEXT);
            due("count(18)", x.count(18), 0);
        });
        edge("a pad with a fault stays", bad, () -> {
            write("d;q1;x");
            due("carryOut()", x.carryOut(), BAD_TEXT);
            due("count(17)", x.count(17), 6);
            due("fault()", x.fault(), 5);
            due("count(8)", x.count(8), 0);
            due("count(2)", x.count(2), 1000);
            due("count(18)", x.count(18), 0);
        });
        edge("a pad that ends too early stays", bad, () -> {
            write("d;");
            due("carryOut()", x.carryOut(), BAD_TEXT);
            due("count(17)", x.count(17), 2);
            x.put('p');
            due("carryOut()", x.carryOut(), 2);
        });
        String change = "This is a change (one, with all of them; also if none is carried out).";
        edge("one order is one change", change, () -> {
            write("d");
            due("carryOut()", x.carryOut(), 1);
            due("count(18)", x.count(18), 1);
            due("undo()", x.undo(), 0);
            due("count(8)", x.count(8), 0);
        });
        edge("all orders are one change", change, () -> {
            write("b0:100;d;q5;i7;p;b0:200;l0:1;d");
            due("carryOut()", x.carryOut(), 8);
            due("count(18)", x.count(18), 1);
            String done = state();
            due("undo()", x.undo(), 0);
            due("count(8)", x.count(8), 0);
            due("count(2)", x.count(2), 1000);
            due("count(0)", x.count(0), 0);
            due("count(9)", x.count(9), 0);
            CHECK.holds("something was done", !done.equals(state()));
        });
        edge("no order that is carried out is a change, too", change, () -> {
            x.quote(5);
            write("q0;d");
            due("carryOut()", x.carryOut(), 0);
            due("count(18)", x.count(18), 2);
            due("undo()", x.undo(), 1);
            due("count(2)", x.count(2), 5);
        });
        edge("as many orders as a pad can hold", "Carries the orders of the pad out, one after the other", () -> {
            write("d;".repeat(39) + "d");
            due("carryOut()", x.carryOut(), 40);
            due("count(8)", x.count(8), 40);
            due("count(17)", x.count(17), 0);
        });
    }

    private static void carryOutUpToAnError() {
        String upTo = "up to the first one that returns an error, and empties the pad.";
        edge("the first order returns an error", upTo, () -> {
            write("q0;d;d");
            due("carryOut()", x.carryOut(), 0);
            due("count(17)", x.count(17), 0);
            due("count(8)", x.count(8), 0);
        });
        edge("an order in between returns an error", upTo, () -> {
            write("d;i1;d");
            due("carryOut()", x.carryOut(), 1);
            due("count(17)", x.count(17), 0);
            due("count(8)", x.count(8), 1);
        });
        edge("the last order returns an error", upTo, () -> {
            write("d;d;l0:1");
            due("carryOut()", x.carryOut(), 2);
            due("count(17)", x.count(17), 0);
            due("count(8)", x.count(8), 2);
        });
        edge("numbers that the text may have, but the call refuses", upTo, () -> {
            String[] texts = {"b0:0", "l0:0", "q0", "q10001", "q1000000", "i0"};
            for (String text : texts) {
                write(text + ";d");
                due("carryOut() of " + text, x.carryOut(), 0);
            }
            due("count(8)", x.count(8), 0);
        });
        edge("the 21st order of a text", upTo, () -> {
            for (int i = 0; i < 19; i++) {
                x.buy(0, 1, 0);
            }
            write("b0:7;b0:8;d");
            due("carryOut()", x.carryOut(), 1);
            due("count(9)", x.count(9), 20);
            due("count(8)", x.count(8), 0);
        });
        edge("what was done ahead of the error stays done", upTo, () -> {
            write("b0:500;q7;l0:1;q8");
            due("carryOut()", x.carryOut(), 2);
            due("count(2)", x.count(2), 7);
            dueOrder(0, 0, 0, 500, 0);
        });
        edge("a pad that was carried out is empty for the next text", upTo, () -> {
            write("d;d");
            x.carryOut();
            due("fault()", x.fault(), 0);
            due("carryOut()", x.carryOut(), BAD_TEXT);
            due("put 'p'", x.put('p'), 1);
            due("carryOut()", x.carryOut(), 1);
            due("count(8)", x.count(8), 2);
        });
    }
}
