import java.util.Arrays;

/** Promises 10 to 14: publishing and versions; what publishing does to answers stands in ReviewTest. */
final class VersionTest {
    private static final Class<IllegalStateException> STATE = IllegalStateException.class;
    private static final Class<IndexOutOfBoundsException> BOUNDS = IndexOutOfBoundsException.class;
    private static final int[] FAR = {Integer.MIN_VALUE, -1, 10, Integer.MAX_VALUE};

    private VersionTest() {
    }

    public static void main(String[] args) {
        tenVersions();
        fullShelfChangesNothing();
        brokenOnesAreDropped();
        versionsStay();
        typesInVersions();
        orders();
        plainTexts();
        wrongPlaces();
        Check.end();
    }

    private static void tenVersions() {
        FormWright f = new FormWright();
        for (int k = 0; k < 10; k++) {
            int number = k;
            Check.due("versions ahead of " + k, number, () -> f.versions());
            Check.refused("typeIn ahead of " + k, BOUNDS, () -> f.typeIn(number, 0));
            Check.due("publish " + k, number, () -> f.publish());
            Check.due("typeIn behind " + k, FormWright.ABSENT, () -> f.typeIn(number, 0));
        }
        Check.refused("the eleventh", STATE, () -> f.publish());
        Check.due("versions", 10, () -> f.versions());
    }

    private static void fullShelfChangesNothing() {
        FormWright f = Forms.typed("110000");
        for (int k = 0; k < 10; k++) {
            f.publish();
        }
        Forms.formula(f, 6, "a=b");
        int answer = Forms.handedIn(f, 1, 2);
        f.setType(0, FormWright.FLAG);
        Check.refused("the eleventh", STATE, () -> f.publish());
        Check.due("the broken one stays", true, () -> f.isBroken(6));
        Check.due("no answer is doubted", FormWright.COUNTED, () -> f.stateOf(answer));
    }

    private static void brokenOnesAreDropped() {
        FormWright f = Forms.typed("111200");
        Forms.formula(f, 0, "c");
        Forms.formula(f, 1, "a+1");
        Forms.formula(f, 6, "d");
        Forms.formula(f, 7, "a<c");
        f.setType(0, FormWright.FLAG);
        Check.due("publish", 0, () -> f.publish());
        Check.due("not broken any more", false, () -> f.isBroken(1));
        Check.due("dropped from the draft", false, () -> f.dropFormula(1));
        Check.due("the lowest one too", false, () -> f.dropFormula(0));
        Check.due("the broken check too", false, () -> f.dropFormula(7));
        Check.due("not in the version", "", () -> Forms.plain(f, 0, 1));
        Check.due("nor the check", "", () -> Forms.plain(f, 0, 7));
        Check.due("the good one is", "d", () -> Forms.plain(f, 0, 6));
        Check.due("no order", "", () -> Forms.order(f, 0));
        Check.due("the good one is in the draft", true, () -> f.dropFormula(6));
    }

    private static void versionsStay() {
        FormWright f = Forms.typed("110000");
        Forms.formula(f, 1, "a+1");
        f.publish();
        f.dropFormula(1);
        f.setType(0, FormWright.CHOICE);
        Forms.formula(f, 6, "a=b");
        f.publish();
        Forms.formula(f, 6, "b=a");
        Check.due("type in 0", FormWright.NUMBER, () -> f.typeIn(0, 0));
        Check.due("type in 1", FormWright.CHOICE, () -> f.typeIn(1, 0));
        Check.due("formula in 0", "(a+1)", () -> Forms.plain(f, 0, 1));
        Check.due("no formula in 1", "", () -> Forms.plain(f, 1, 1));
        Check.due("no check in 0", "", () -> Forms.plain(f, 0, 6));
        Check.due("check in 1", "(a=b)", () -> Forms.plain(f, 1, 6));
        Check.due("order of 0", "b", () -> Forms.order(f, 0));
        Check.due("order of 1", "", () -> Forms.order(f, 1));
        Check.refused("version 2", BOUNDS, () -> f.typeIn(2, 0));
    }

    private static void typesInVersions() {
        FormWright f = Forms.typed("012312");
        f.publish();
        Forms.types(f, "000000");
        for (int k = 0; k < 6; k++) {
            int field = k;
            Check.due("typeIn " + k, "012312".charAt(field), () -> (char) ('0' + f.typeIn(0, field)));
        }
        for (int none : new int[] {Integer.MIN_VALUE, -1, 6, Integer.MAX_VALUE}) {
            Check.refused("typeIn field " + none, BOUNDS, () -> f.typeIn(0, none));
        }
        for (int none : FAR) {
            Check.refused("typeIn version " + none, BOUNDS, () -> f.typeIn(none, 0));
        }
        Check.refused("typeIn version 1", BOUNDS, () -> f.typeIn(1, 0));
    }

    private static void orders() {
        expectOrder("edcba", "b", "c", "d", "e", "f", null);
        expectOrder("abcdef", "1", "a", "b", "c", "d", "e");
        expectOrder("fedcba", "b", "c", "d", "e", "f", "1");
        expectOrder("abcdef", "1", "1", "1", "1", "1", "1");
        // behind each one told, the lowest that is free comes first again
        expectOrder("bacde", "b", "1", "a", "2", "d", null);
        expectOrder("bcda", "d", "e", "f", "b+c", null, null);
        expectOrder("cab", "c", "a", "f", null, null, null);
        expectOrder("cdab", "c+d", "a", "f", "f", null, null);
        expectOrder("", null, null, null, null, null, null);
        expectOrder("f", null, null, null, null, null, "a+b+c+d+e");
    }

    /** The order of a form of six NUMBERs with these formulas; null is none. */
    private static void expectOrder(String want, String... formulas) {
        FormWright f = Forms.typed("111111");
        int count = 0;
        for (int field = 0; field < 6; field++) {
            if (formulas[field] != null) {
                Forms.formula(f, field, formulas[field]);
                count++;
            }
        }
        Forms.formula(f, 8, "a=b");
        f.publish();
        String name = "order of " + Arrays.toString(formulas);
        Check.due(name, want, () -> Forms.order(f, 0));
        int behind = count;
        Check.due(name + " behind the last", FormWright.NONE, () -> f.order(0, behind));
        Check.due(name + " far behind", FormWright.NONE, () -> f.order(0, Integer.MAX_VALUE));
        Check.due(name + " at 6", FormWright.NONE, () -> f.order(0, 6));
    }

    private static void plainTexts() {
        expectPlain("7", "7");
        expectPlain("999", "999");
        expectPlain("0", "0");
        expectPlain("(a)", "a");
        expectPlain("((((((a))))))", "a");
        expectPlain("a+b", "(a+b)");
        expectPlain("a-b+a-b", "(((a-b)+a)-b)");
        expectPlain("a-(b+a)", "(a-(b+a))");
        expectPlain("a*b+a*b", "((a*b)+(a*b))");
        expectPlain("a+b*a+b", "((a+(b*a))+b)");
        expectPlain("a*b*a", "((a*b)*a)");
        expectPlain("a*(b*a)", "(a*(b*a))");
        expectPlain("(a+b)*10", "((a+b)*10)");
        expectPlain("a<b", "(a<b)");
        expectPlain("a+1=b*2", "((a+1)=(b*2))");
        expectPlain("a<b&b>a|c", "(((a<b)&(b>a))|c)");
        expectPlain("c|d&c|d", "((c|(d&c))|d)");
        expectPlain("c&d&c", "((c&d)&c)");
        expectPlain("c|d|c", "((c|d)|c)");
        expectPlain("c&(d|c)", "(c&(d|c))");
        expectPlain("!c", "!c");
        expectPlain("!!c", "!!c");
        expectPlain("!(!(c))", "!!c");
        expectPlain("!c&d", "(!c&d)");
        expectPlain("!(c&d)", "!(c&d)");
        expectPlain("!c=!d", "(!c=!d)");
        expectPlain("a=e", "(a=e)");
        expectPlain("((a+b)*((a-b)*(a)))", "((a+b)*((a-b)*a))");
        expectPlain("a+a+a+a+a+a+a+a+a+a+a+a+a+a+a+a+a+a+a+a",
            "(((((((((((((((((((a+a)+a)+a)+a)+a)+a)+a)+a)+a)+a)+a)+a)+a)+a)+a)+a)+a)+a)+a)");
        expectPlain("!c&c&c&c&c&c&c&c&c&c&c&c&c&c&c&c&c&c&c&c",
            "(((((((((((((((((((!c&c)&c)&c)&c)&c)&c)&c)&c)&c)&c)&c)&c)&c)&c)&c)&c)&c)&c)&c)");
    }

    private static void expectPlain(String text, String want) {
        FormWright f = Forms.typed("112231");
        Forms.text(f, text);
        int formula = f.typeOfText() == FormWright.FLAG ? 9 : 5;
        f.setFormula(formula);
        f.publish();
        Check.due("plain of " + text, want, () -> Forms.plain(f, 0, formula));
        Check.due("first sign of " + text, (int) want.charAt(0), () -> f.plain(0, formula, 0));
        Check.due("behind " + text, FormWright.NONE, () -> f.plain(0, formula, want.length()));
        Check.due("far behind " + text, FormWright.NONE, () -> f.plain(0, formula, Integer.MAX_VALUE));
        Check.due("place 80 of " + text, FormWright.NONE, () -> f.plain(0, formula, 80));
    }

    private static void wrongPlaces() {
        FormWright f = Forms.typed("110000");
        Forms.formula(f, 0, "b");
        f.publish();
        for (int none : FAR) {
            Check.refused("order in " + none, BOUNDS, () -> f.order(none, 0));
            Check.refused("plain in " + none, BOUNDS, () -> f.plain(none, 0, 0));
            Check.refused("plain of " + none, BOUNDS, () -> f.plain(0, none, 0));
        }
        Check.refused("order in 1", BOUNDS, () -> f.order(1, 0));
        Check.refused("plain in 1", BOUNDS, () -> f.plain(1, 0, 0));
        Check.refused("order at -1", BOUNDS, () -> f.order(0, -1));
        Check.refused("order at the lowest", BOUNDS, () -> f.order(0, Integer.MIN_VALUE));
        Check.refused("plain at -1", BOUNDS, () -> f.plain(0, 0, -1));
        Check.refused("plain at -1 without a formula", BOUNDS, () -> f.plain(0, 1, -1));
        Check.due("plain without a formula", FormWright.NONE, () -> f.plain(0, 1, 0));
        Check.due("plain without a check", FormWright.NONE, () -> f.plain(0, 9, 5));
    }
}
