/** Promises 24 to 27, and what promise 10 does to answers: reviews. */
final class ReviewTest {
    private static final Class<IllegalStateException> STATE = IllegalStateException.class;
    private static final Class<IllegalArgumentException> ARGUMENT = IllegalArgumentException.class;
    private static final Class<IndexOutOfBoundsException> BOUNDS = IndexOutOfBoundsException.class;

    private ReviewTest() {
    }

    public static void main(String[] args) {
        wrongNumbers();
        doubting();
        settling();
        striking();
        amending();
        amendingRefuses();
        amendedRanges();
        doubtsByTypes();
        doubtsByDroppedFormulas();
        doubtsByPlainTexts();
        onlyCountedAndHeldAreDoubted();
        doubtedAnew();
        Check.end();
    }

    private static void wrongNumbers() {
        FormWright f = Forms.typed("100000");
        f.publish();
        Forms.handedIn(f, 5);
        f.doubt(0, 0);
        for (int none : new int[] {Integer.MIN_VALUE, -1, 1, 20, Integer.MAX_VALUE}) {
            Check.refused("doubt " + none, BOUNDS, () -> f.doubt(none, 0));
            Check.refused("settle " + none, BOUNDS, () -> f.settle(none, 0, true));
            Check.refused("amend " + none, BOUNDS, () -> f.amend(none, 0, 5000));
            Check.refused("doubts " + none, BOUNDS, () -> f.doubts(none));
        }
        for (int none : new int[] {Integer.MIN_VALUE, -1, 6, 32, Integer.MAX_VALUE}) {
            Check.refused("doubt in " + none, BOUNDS, () -> f.doubt(0, none));
            Check.refused("settle in " + none, BOUNDS, () -> f.settle(0, none, true));
            Check.refused("amend in " + none, BOUNDS, () -> f.amend(0, none, 5000));
        }
        f.begin();
        Check.refused("doubt in -1 of an OPEN one", BOUNDS, () -> f.doubt(1, -1));
        Check.refused("settle in 6 of an OPEN one", BOUNDS, () -> f.settle(1, 6, false));
        Check.refused("amend in 6 of an OPEN one", BOUNDS, () -> f.amend(1, 6, 5000));
        Check.due("nothing has changed", 1, () -> f.doubts(0));
    }

    private static void doubting() {
        FormWright f = Forms.typed("112300");
        Forms.formula(f, 1, "a");
        Forms.formula(f, 6, "c");
        f.publish();
        int answer = Forms.filled(f, 4, null, 1, 2);
        Check.refused("doubt when OPEN", STATE, () -> f.doubt(answer, 0));
        f.handIn(answer);
        Check.due("no doubts", 0, () -> f.doubts(answer));
        Check.refused("doubt in an ABSENT field", STATE, () -> f.doubt(answer, 4));
        Check.due("state then", FormWright.COUNTED, () -> f.stateOf(answer));
        Check.due("first", false, () -> f.doubt(answer, 3));
        Check.due("HELD", FormWright.HELD, () -> f.stateOf(answer));
        Check.due("the set", 8, () -> f.doubts(answer));
        Check.due("again", true, () -> f.doubt(answer, 3));
        Check.due("the same set", 8, () -> f.doubts(answer));
        Check.due("a computed field", false, () -> f.doubt(answer, 1));
        Check.due("both", 10, () -> f.doubts(answer));
        Check.refused("an ABSENT field when HELD", STATE, () -> f.doubt(answer, 5));
        int refused = Forms.handedIn(f, 4, null, 0, 2);
        Check.refused("doubt when REFUSED", STATE, () -> f.doubt(refused, 0));
        f.settle(answer, 3, false);
        Check.refused("doubt when STRUCK", STATE, () -> f.doubt(answer, 0));
        Check.due("the set of the STRUCK one", 10, () -> f.doubts(answer));
        Check.due("the set of the REFUSED one", 0, () -> f.doubts(refused));
    }

    private static void settling() {
        FormWright f = Forms.typed("111000");
        f.publish();
        int answer = Forms.filled(f, 1, 2, 3);
        Check.refused("settle when OPEN", STATE, () -> f.settle(answer, 0, true));
        f.handIn(answer);
        Check.refused("settle when COUNTED", STATE, () -> f.settle(answer, 0, true));
        Check.refused("settle as not fine when COUNTED", STATE, () -> f.settle(answer, 0, false));
        f.doubt(answer, 0);
        f.doubt(answer, 2);
        Check.refused("settle where there is no doubt", STATE, () -> f.settle(answer, 1, false));
        Check.refused("settle in an ABSENT field", STATE, () -> f.settle(answer, 5, true));
        Check.due("the first is fine", FormWright.HELD, () -> f.settle(answer, 0, true));
        Check.due("the set then", 4, () -> f.doubts(answer));
        Check.refused("the first again", STATE, () -> f.settle(answer, 0, true));
        Check.due("the second is fine", FormWright.COUNTED, () -> f.settle(answer, 2, true));
        Check.due("the empty set", 0, () -> f.doubts(answer));
        Check.due("COUNTED", FormWright.COUNTED, () -> f.stateOf(answer));
        Check.due("the values stay", 3, () -> f.value(answer, 2));
        Check.due("doubt anew", false, () -> f.doubt(answer, 2));
    }

    private static void striking() {
        FormWright f = Forms.typed("111000");
        f.publish();
        Forms.handedIn(f, 1, 2, 3);
        f.doubt(0, 0);
        f.doubt(0, 1);
        f.doubt(0, 2);
        f.settle(0, 1, true);
        Check.due("not fine", FormWright.STRUCK, () -> f.settle(0, 2, false));
        Check.due("STRUCK", FormWright.STRUCK, () -> f.stateOf(0));
        Check.due("the set that it had", 5, () -> f.doubts(0));
        Check.refused("settle when STRUCK", STATE, () -> f.settle(0, 0, true));
        Check.refused("amend when STRUCK", STATE, () -> f.amend(0, 0, 1));
        Check.refused("doubt when STRUCK", STATE, () -> f.doubt(0, 0));
        Check.refused("put when STRUCK", STATE, () -> f.put(0, 0, 1));
        Check.refused("handIn when STRUCK", STATE, () -> f.handIn(0));
        Check.due("refusal when STRUCK", FormWright.NONE, () -> f.refusal(0));
        Check.due("value when STRUCK", 2, () -> f.value(0, 1));
        f.setType(1, FormWright.CHOICE);
        f.publish();
        Check.due("STRUCK for good", FormWright.STRUCK, () -> f.stateOf(0));
        Check.due("the set stays", 5, () -> f.doubts(0));
        Check.due("none counts", 0, () -> f.counted());
    }

    private static void amending() {
        FormWright f = Forms.typed("111200");
        Forms.formula(f, 2, "a+b");
        Forms.formula(f, 6, "c<100");
        f.publish();
        int answer = Forms.filled(f, 1, 2, null, 1);
        Check.refused("amend when OPEN", STATE, () -> f.amend(answer, 0, 5));
        f.handIn(answer);
        Check.refused("amend when COUNTED", STATE, () -> f.amend(answer, 0, 5));
        Check.refused("amend out of range when COUNTED", STATE, () -> f.amend(answer, 0, 5000));
        f.doubt(answer, 0);
        f.doubt(answer, 2);
        Check.refused("amend a computed field", STATE, () -> f.amend(answer, 2, 5));
        Check.refused("amend an ABSENT field", STATE, () -> f.amend(answer, 4, 5));
        Check.refused("amend an ABSENT field, out of range", STATE, () -> f.amend(answer, 4, 5000));
        Check.refused("amend out of range", ARGUMENT, () -> f.amend(answer, 0, 1000));
        Check.due("nothing has changed", 5, () -> f.doubts(answer));
        Check.due("no value has changed", 1, () -> f.value(answer, 0));
        Check.due("amend", FormWright.HELD, () -> f.amend(answer, 0, 10));
        Check.due("its doubt is gone", 4, () -> f.doubts(answer));
        Check.due("its value", 10, () -> f.value(answer, 0));
        Check.due("the computed value", 12, () -> f.value(answer, 2));
        Check.due("amend where there is no doubt", FormWright.HELD, () -> f.amend(answer, 1, 20));
        Check.due("the doubts stay", 4, () -> f.doubts(answer));
        Check.due("the computed value then", 30, () -> f.value(answer, 2));
        Check.due("the last doubt", FormWright.COUNTED, () -> f.settle(answer, 2, true));
        f.doubt(answer, 3);
        Check.due("amend the only one", FormWright.COUNTED, () -> f.amend(answer, 3, 0));
        Check.due("COUNTED then", 1, () -> f.counted());
        Check.refused("amend again", STATE, () -> f.amend(answer, 3, 1));
        f.doubt(answer, 3);
        Check.due("amend to the same value", FormWright.COUNTED, () -> f.amend(answer, 3, 0));
    }

    private static void amendingRefuses() {
        FormWright f = Forms.typed("111000");
        Forms.formula(f, 2, "a+b");
        Forms.formula(f, 7, "a<100");
        Forms.formula(f, 8, "c<100");
        f.publish();
        Forms.handedIn(f, 1, 2);
        f.doubt(0, 0);
        f.doubt(0, 1);
        f.doubt(0, 2);
        Check.due("amend", FormWright.REFUSED, () -> f.amend(0, 1, 99));
        Check.due("its doubt is left out", 5, () -> f.doubts(0));
        Check.due("refusal", 8, () -> f.refusal(0));
        Check.due("the value that it got", 99, () -> f.value(0, 1));
        Check.due("the computed value", 100, () -> f.value(0, 2));
        Check.refused("amend back", STATE, () -> f.amend(0, 1, 2));
        Check.refused("settle", STATE, () -> f.settle(0, 0, true));
        Check.refused("doubt", STATE, () -> f.doubt(0, 1));
        f.setType(0, FormWright.FLAG);
        f.publish();
        Check.due("REFUSED stays so", FormWright.REFUSED, () -> f.stateOf(0));
        Check.due("the set stays", 5, () -> f.doubts(0));
        FormWright g = Forms.typed("110000");
        Forms.formula(g, 9, "a<b");
        g.publish();
        Forms.handedIn(g, 1, 2);
        g.doubt(0, 1);
        Check.due("a value without a doubt refuses too", FormWright.REFUSED, () -> g.amend(0, 0, 2));
        Check.due("the other doubt stays", 2, () -> g.doubts(0));
    }

    private static void amendedRanges() {
        FormWright f = Forms.typed("123000");
        f.publish();
        Forms.handedIn(f, 0, 0, 0);
        int[][] inside = {{-999, 999}, {0, 1}, {0, 9}};
        int[][] outside = {{-1000, 1000}, {-1, 2}, {-1, 10}};
        for (int k = 0; k < 3; k++) {
            int field = k;
            f.doubt(0, (k + 1) % 3);
            for (int at = 0; at < 2; at++) {
                int good = inside[k][at];
                int bad = outside[k][at];
                Check.due("amend to " + good, FormWright.HELD, () -> f.amend(0, field, good));
                Check.refused("amend to " + bad, ARGUMENT, () -> f.amend(0, field, bad));
                Check.due("value then", good, () -> f.value(0, field));
            }
            f.settle(0, (k + 1) % 3, true);
        }
        // the range goes by the version of the answer, not by the draft or a later version
        f.setType(0, FormWright.FLAG);
        f.publish();
        Check.due("amend as a NUMBER still", FormWright.COUNTED, () -> f.amend(0, 0, 500));
    }

    private static void doubtsByTypes() {
        FormWright f = Forms.typed("123011");
        Forms.formula(f, 5, "e");
        f.publish();
        int answer = Forms.handedIn(f, 1, 1, 1, null, 7);
        f.publish();
        Check.due("the same types", FormWright.COUNTED, () -> f.stateOf(answer));
        f.setType(3, FormWright.NUMBER);
        f.publish();
        Check.due("a field that it has not", 0, () -> f.doubts(answer));
        f.setType(0, FormWright.CHOICE);
        f.setType(1, FormWright.ABSENT);
        Check.due("not before it is published", 0, () -> f.doubts(answer));
        f.publish();
        Check.due("types that changed", 3, () -> f.doubts(answer));
        Check.due("HELD", FormWright.HELD, () -> f.stateOf(answer));
        int later = Forms.handedIn(f, 1, null, 1, 1, 1);
        f.settle(answer, 0, true);
        f.settle(answer, 1, true);
        f.setType(0, FormWright.NUMBER);
        f.publish();
        Check.due("as in its own version again, but one", 2, () -> f.doubts(answer));
        Check.due("another one than in its own version", 1, () -> f.doubts(later));
        f.setType(5, FormWright.CHOICE);
        f.publish();
        Check.due("a computed field too, and what its dropped formula has", 2 + 32 + 16, () -> f.doubts(answer));
        Check.due("and the later one", 1 + 32 + 16, () -> f.doubts(later));
        FormWright g = Forms.typed("122000");
        Forms.formula(g, 6, "c");
        g.publish();
        Forms.handedIn(g, 1, 1, 1);
        Forms.formula(g, 6, "b");
        g.setType(1, FormWright.NUMBER);
        g.publish();
        Check.due("a formula of one other letter", 2, () -> g.doubts(0));
    }

    private static void doubtsByDroppedFormulas() {
        FormWright f = Forms.typed("111120");
        Forms.formula(f, 2, "a+b*2");
        Forms.formula(f, 6, "d<999&e");
        f.publish();
        Forms.handedIn(f, 1, 2, null, 3, 1);
        f.setType(1, FormWright.CHOICE);
        f.publish();
        Check.due("the letters of the dropped one", 3, () -> f.doubts(0));
        f.settle(0, 0, true);
        f.settle(0, 1, true);
        f.setType(1, FormWright.NUMBER);
        f.publish();
        Check.due("it is dropped no more", 0, () -> f.doubts(0));
        f.setType(4, FormWright.NUMBER);
        f.publish();
        Check.due("the letters of the dropped check", 8 + 16, () -> f.doubts(0));
        FormWright g = Forms.typed("110000");
        Forms.formula(g, 1, "a");
        g.publish();
        Forms.handedIn(g, 1);
        g.dropFormula(1);
        g.publish();
        Check.due("dropped by hand", 0, () -> g.doubts(0));
        FormWright h = Forms.typed("211000");
        Forms.formula(h, 0, "b<c");
        h.publish();
        Forms.handedIn(h, null, 1, 2);
        h.setType(0, FormWright.NUMBER);
        h.publish();
        Check.due("the computed field by its type, the letters by its formula", 7, () -> h.doubts(0));
    }

    private static void doubtsByPlainTexts() {
        // the formula that is dropped, and the one of the own version, both of number 6 but in the last rows
        expectDoubts("a<b&c", 6, "a<b&c", 6, 7);
        expectDoubts("(a<b)&(c)", 6, "a<b&c", 6, 7);
        expectDoubts("a<b&c", 6, "c&a<b", 6, 4);
        expectDoubts("a<b&c", 6, "a>b&c", 6, 4);
        expectDoubts("a<b&c", 6, "a<b", 6, 4);
        expectDoubts("b>a&c", 6, "a<b&c", 6, 4);
        expectDoubts("c", 6, "c&c", 6, 4);
        expectDoubts("c&c", 6, "c", 6, 4);
        expectDoubts("a<b&c", 6, "a<b&c", 7, 4);
        expectDoubts("a<b&c", 9, "a<b&c", 9, 7);
        expectDoubts("a<b&c", 6, "1=1", 6, 4);
        expectDoubts("a+1=b|c", 6, "a+1=b|c", 6, 7);
        expectDoubts("a+1=b|c", 6, "a+2=b|c", 6, 4);
        expectDoubts("a+10=b|c", 6, "a+1=b|c", 6, 4);
    }

    /** The field c becomes a NUMBER: it is doubted by that; a and b are by the formula, if it was the own one. */
    private static void expectDoubts(String dropped, int droppedNumber, String own, int ownNumber, int want) {
        FormWright f = Forms.typed("112000");
        Forms.formula(f, ownNumber, own);
        f.publish();
        int answer = Forms.filled(f, 1, 2, 1);
        if (own.startsWith("a>") || own.startsWith("a+2")) {
            f.put(answer, 0, own.startsWith("a>") ? 3 : 0);
        }
        f.handIn(answer);
        f.dropFormula(ownNumber);
        Forms.formula(f, droppedNumber, dropped);
        f.setType(2, FormWright.NUMBER);
        f.publish();
        Check.due(dropped + " dropped, own is " + own, want, () -> f.doubts(answer));
    }

    private static void onlyCountedAndHeldAreDoubted() {
        FormWright f = Forms.typed("112000");
        Forms.formula(f, 6, "a<b");
        f.publish();
        int open = Forms.filled(f, 1, 2, 0);
        int counted = Forms.handedIn(f, 1, 2, 0);
        int refused = Forms.handedIn(f, 2, 1, 0);
        int held = Forms.handedIn(f, 1, 2, 0);
        f.doubt(held, 2);
        int struck = Forms.handedIn(f, 1, 2, 0);
        f.doubt(struck, 2);
        f.settle(struck, 2, false);
        f.setType(0, FormWright.FLAG);
        f.publish();
        int[] answers = {open, counted, refused, held, struck};
        int[] doubts = {0, 3, 0, 7, 4};
        int[] states = {FormWright.OPEN, FormWright.HELD, FormWright.REFUSED, FormWright.HELD, FormWright.STRUCK};
        for (int k = 0; k < answers.length; k++) {
            int answer = answers[k];
            Check.due("doubts of " + k, doubts[k], () -> f.doubts(answer));
            Check.due("state of " + k, states[k], () -> f.stateOf(answer));
        }
        Check.due("the OPEN one is COUNTED when it is handed in", FormWright.COUNTED, () -> f.handIn(open));
        f.publish();
        Check.due("and doubted by the next version", 1, () -> f.doubts(open));
    }

    private static void doubtedAnew() {
        FormWright f = Forms.typed("110000");
        f.publish();
        Forms.handedIn(f, 1, 2);
        f.setType(0, FormWright.FLAG);
        f.publish();
        Check.due("settled", FormWright.COUNTED, () -> f.settle(0, 0, true));
        f.publish();
        Check.due("the type is another one still", 1, () -> f.doubts(0));
        Check.due("HELD again", FormWright.HELD, () -> f.stateOf(0));
        Check.due("amended by its own version", FormWright.COUNTED, () -> f.amend(0, 0, -999));
    }
}
