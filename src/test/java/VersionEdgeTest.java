import java.util.ArrayList;
import java.util.List;

/** The sentences about versions (promises 10 to 14), each at its edges. Ahead of each test stands the sentence. */
final class VersionEdgeTest {
    private static final Class<IllegalStateException> STATE = IllegalStateException.class;
    private static final Class<IndexOutOfBoundsException> BOUNDS = IndexOutOfBoundsException.class;
    private static final int NONE = FormWright.NONE;
    private static final int[] BEHIND = {1000, Integer.MAX_VALUE - 1, Integer.MAX_VALUE};
    private static final String LETTERS = "abcdef";

    private VersionEdgeTest() {
    }

    public static void main(String[] args) {
        tenVersions();
        dropsTheBrokenOnes();
        dropsAllTen();
        draftAsItIsThen();
        typesOfAllVersions();
        ordersOfAllSizes();
        ordersOfChains();
        lowestFirst();
        lettersThatAreNotComputed();
        signsOfPlainTexts();
        numbersAndLettersInPlain();
        sidesInPlain();
        notInPlain();
        longestPlain();
        formulasOfAllNumbers();
        plainOfEachVersion();
        Check.end();
    }

    // "Versions are numbered from 0 as they are published; there can be 10."
    private static void tenVersions() {
        FormWright f = new FormWright();
        Check.refused("the version 0 at first", BOUNDS, () -> f.typeIn(0, 0));
        for (int version = 0; version < 10; version++) {
            int number = version;
            Check.due("versions ahead of " + version, number, () -> f.versions());
            Check.due("publish " + version, number, () -> f.publish());
            Check.due("versions behind " + version, number + 1, () -> f.versions());
            Check.due("the last one", 0, () -> f.typeIn(number, 5));
            Check.refused("the one behind it", BOUNDS, () -> f.typeIn(number + 1, 5));
        }
        for (int more = 0; more < 3; more++) {
            Check.refused("the eleventh", STATE, () -> f.publish());
            Check.due("versions then", 10, () -> f.versions());
        }
    }

    // "To publish drops the broken formulas of the draft": each number alone, the others stay
    private static void dropsTheBrokenOnes() {
        for (int formula = 0; formula <= 9; formula++) {
            int number = formula;
            // the field whose type changes: it has no formula itself, and one alone has its letter
            int changed = formula == 5 ? 4 : 5;
            String letter = LETTERS.substring(changed, changed + 1);
            FormWright f = Forms.typed("111111");
            for (int each = 0; each <= 9; each++) {
                if (each != changed) {
                    String text = each == formula ? letter : "1";
                    Forms.formula(f, each, each < 6 ? text : text + "=1");
                }
            }
            Check.due("one is broken", 1, () -> f.setType(changed, FormWright.FLAG));
            Check.due("publish", 0, () -> f.publish());
            for (int each = 0; each <= 9; each++) {
                int place = each;
                boolean stays = each != number && each != changed;
                String text = each < 6 ? "1" : "(1=1)";
                Check.due("plain " + each, stays ? text : "", () -> Forms.plain(f, 0, place));
                Check.due("in the draft " + each, stays, () -> f.dropFormula(place));
            }
        }
    }

    // .. and when all are broken, none is left
    private static void dropsAllTen() {
        FormWright f = Forms.typed("111111");
        for (int formula = 0; formula <= 9; formula++) {
            Forms.formula(f, formula, formula == 5 ? "7" : formula < 5 ? "f" : "f<1");
        }
        Check.due("all broken", 10, () -> f.setType(5, FormWright.CHOICE));
        Check.due("publish", 0, () -> f.publish());
        for (int formula = 0; formula <= 9; formula++) {
            int number = formula;
            Check.due("none in the version", "", () -> Forms.plain(f, 0, number));
            Check.due("none in the draft", false, () -> f.dropFormula(number));
        }
        Check.due("no order", "", () -> Forms.order(f, 0));
        Check.due("one then", 1, () -> Forms.formula(f, 0, "5"));
    }

    // "and makes a version of the draft as it is then": what comes later changes no version
    private static void draftAsItIsThen() {
        FormWright f = Forms.typed("111200");
        Forms.formula(f, 0, "b+c");
        Forms.formula(f, 9, "d");
        f.publish();
        f.setType(1, FormWright.CHOICE);
        f.setType(5, FormWright.FLAG);
        f.dropFormula(9);
        Forms.formula(f, 6, "f");
        Check.due("type of b", FormWright.NUMBER, () -> f.typeIn(0, 1));
        Check.due("type of f", FormWright.ABSENT, () -> f.typeIn(0, 5));
        Check.due("formula of a", "(b+c)", () -> Forms.plain(f, 0, 0));
        Check.due("check 9", "d", () -> Forms.plain(f, 0, 9));
        Check.due("check 6", "", () -> Forms.plain(f, 0, 6));
        Check.due("order", "a", () -> Forms.order(f, 0));
        f.publish();
        Check.due("type of b in the next", FormWright.CHOICE, () -> f.typeIn(1, 1));
        Check.due("formula of a in the next", "", () -> Forms.plain(f, 1, 0));
        Check.due("check 9 in the next", "", () -> Forms.plain(f, 1, 9));
        Check.due("check 6 in the next", "f", () -> Forms.plain(f, 1, 6));
        Check.due("the first stays", "(b+c)", () -> Forms.plain(f, 0, 0));
    }

    // "Returns ABSENT, NUMBER, FLAG or CHOICE.": each field of each of 10 versions
    private static void typesOfAllVersions() {
        FormWright f = new FormWright();
        for (int version = 0; version < 10; version++) {
            for (int field = 0; field < 6; field++) {
                f.setType(field, (version + field) % 4);
            }
            f.publish();
        }
        Forms.types(f, "000000");
        for (int version = 0; version < 10; version++) {
            for (int field = 0; field < 6; field++) {
                int number = version;
                int place = field;
                Check.due("typeIn " + number + " " + place, (number + place) % 4, () -> f.typeIn(number, place));
            }
        }
    }

    // "Returns the field; NONE if there are not so many.": none, one, .. all six computed
    private static void ordersOfAllSizes() {
        for (int size = 0; size <= 6; size++) {
            FormWright f = Forms.typed("111111");
            for (int field = 0; field < size; field++) {
                Forms.formula(f, 5 - field, "1");
            }
            Forms.formula(f, 9, "a=a");
            f.publish();
            for (int place = 0; place <= 7; place++) {
                int at = place;
                int due = place < size ? 6 - size + place : NONE;
                Check.due("of " + size + " at " + place, due, () -> f.order(0, at));
            }
            for (int place : BEHIND) {
                Check.due("of " + size + " at " + place, NONE, () -> f.order(0, place));
            }
        }
    }

    // "in the order in which they hang on one another": each of the 720 orders, in which each hangs on the last one
    private static void ordersOfChains() {
        List<String> orders = new ArrayList<>();
        permute("", orders);
        Check.due("orders", 720, () -> orders.size());
        for (String order : orders) {
            FormWright f = Forms.typed("111111");
            for (int at = 0; at < 6; at++) {
                Forms.formula(f, order.charAt(at) - 'a', at == 0 ? "1" : order.substring(at - 1, at));
            }
            f.publish();
            Check.due("order " + order, order, () -> Forms.order(f, 0));
        }
    }

    private static void permute(String begin, List<String> orders) {
        if (begin.length() == 6) {
            orders.add(begin);
        }
        for (char letter = 'a'; letter <= 'f'; letter++) {
            if (begin.indexOf(letter) < 0) {
                permute(begin + letter, orders);
            }
        }
    }

    // "of the computed fields that are not told yet, each time the lowest one that has no letter of another .."
    private static void lowestFirst() {
        expectOrder("fabcde", "f", "f", "f", "f", "f", "1");
        expectOrder("bacdef", "b", "1", "1", "1", "1", "1");
        expectOrder("cbadef", "b", "c", "1", "1", "1", "1");
        expectOrder("bcafde", "b+c", "1", "1", "f", "d", "1");
        expectOrder("efdcba", "b", "c", "d", "e+f", "1", "1");
        expectOrder("adcbef", "1", "c", "d", "1", "1", "1");
        expectOrder("bfaced", "f", "1", "a", "e", "c", "b");
        expectOrder("fedcba", "b+c+d", "c+d", "d+e", "e", "f", "1");
    }

    // a letter of a field that is not computed, or of one that was told, holds nothing up
    private static void lettersThatAreNotComputed() {
        expectOrder("abc", "f", "f", "f", null, null, null);
        expectOrder("f", null, null, null, null, null, "a+b+c+d+e");
        expectOrder("a", "b+c+d+e+f", null, null, null, null, null);
        expectOrder("bad", "b+e", "f", null, "a+b+c", null, null);
        FormWright f = Forms.typed("111111");
        Forms.formula(f, 0, "b");
        Forms.formula(f, 1, "c");
        f.publish();
        f.dropFormula(1);
        Forms.formula(f, 3, "b");
        f.publish();
        Check.due("with b computed", "ba", () -> Forms.order(f, 0));
        Check.due("without", "ad", () -> Forms.order(f, 1));
    }

    private static void expectOrder(String want, String... formulas) {
        FormWright f = Forms.typed("111111");
        for (int field = 0; field < 6; field++) {
            if (formulas[field] != null) {
                Forms.formula(f, field, formulas[field]);
            }
        }
        f.publish();
        Check.due("order of " + String.join(", ", formulas), want, () -> Forms.order(f, 0));
    }

    // "Returns the sign, as the number of its character; NONE behind the last one": each place of a plain text
    private static void signsOfPlainTexts() {
        FormWright f = Forms.typed("112311");
        Forms.formula(f, 6, "a+10<b*2|!c&d=7");
        f.publish();
        String plain = "(((a+10)<(b*2))|(!c&(d=7)))";
        for (int place = 0; place < plain.length(); place++) {
            int at = place;
            Check.due("sign " + place, (int) plain.charAt(place), () -> f.plain(0, 6, at));
        }
        for (int place = plain.length(); place < 100; place++) {
            int at = place;
            Check.due("behind, at " + place, NONE, () -> f.plain(0, 6, at));
        }
        for (int place : BEHIND) {
            Check.due("far behind, at " + place, NONE, () -> f.plain(0, 6, place));
        }
    }

    // "a number as its digits, a letter as it is"
    private static void numbersAndLettersInPlain() {
        for (int number = 0; number <= 999; number++) {
            expectPlain("" + number, "" + number);
        }
        for (char letter = 'a'; letter <= 'd'; letter++) {
            expectPlain("" + letter, "" + letter);
            expectPlain("((((((" + letter + "))))))", "" + letter);
        }
        expectPlain("999-0", "(999-0)");
        expectPlain("(0)", "0");
        expectPlain("((10))*(100)", "(10*100)");
    }

    // "and all others as "(", the plain text of the left side, the sign, that of the right side, and ")""
    private static void sidesInPlain() {
        for (char sign : "+-*".toCharArray()) {
            expectPlain("a" + sign + "b", "(a" + sign + "b)");
            expectPlain("a" + sign + "b" + sign + "c", "((a" + sign + "b)" + sign + "c)");
            expectPlain("a" + sign + "(b" + sign + "c)", "(a" + sign + "(b" + sign + "c))");
        }
        for (char sign : "<=>".toCharArray()) {
            expectPlain("a" + sign + "b", "(a" + sign + "b)");
            expectPlain("(a" + sign + "b)", "(a" + sign + "b)");
            expectPlain("a+b" + sign + "b*c", "((a+b)" + sign + "(b*c))");
        }
        for (char sign : "&|".toCharArray()) {
            expectPlain("e" + sign + "f", "(e" + sign + "f)");
            expectPlain("e" + sign + "f" + sign + "e", "((e" + sign + "f)" + sign + "e)");
            expectPlain("e" + sign + "(f" + sign + "e)", "(e" + sign + "(f" + sign + "e))");
            expectPlain("a<b" + sign + "b=c", "((a<b)" + sign + "(b=c))");
        }
        expectPlain("a+b-c+d", "(((a+b)-c)+d)");
        expectPlain("a*b+c*d-a*b", "(((a*b)+(c*d))-(a*b))");
        expectPlain("e|f&e|f", "((e|(f&e))|f)");
        expectPlain("(e|f)&(e|f)", "((e|f)&(e|f))");
        expectPlain("(a+b)*(c-d)", "((a+b)*(c-d))");
        expectPlain("(e=f)=(a<b)", "((e=f)=(a<b))");
    }

    // ""!" and the plain text behind it"
    private static void notInPlain() {
        expectPlain("!e", "!e");
        expectPlain("!!!!!!e", "!!!!!!e");
        expectPlain("!(e)", "!e");
        expectPlain("!(!(!(e)))", "!!!e");
        expectPlain("!e&f", "(!e&f)");
        expectPlain("!(e&f)", "!(e&f)");
        expectPlain("e&!f|!e", "((e&!f)|!e)");
        expectPlain("!(a<b)=!(e)", "(!(a<b)=!e)");
        expectPlain("!((e|f))", "!(e|f)");
    }

    // the longest text that is a formula, and the longest plain text: each sign brings two brackets
    private static void longestPlain() {
        StringBuilder want = new StringBuilder("!e");
        for (int sign = 0; sign < 19; sign++) {
            want.insert(0, '(').append("&e)");
        }
        Check.due("its length", 78, () -> want.length());
        expectPlain("!e" + "&e".repeat(19), want.toString());
        StringBuilder products = new StringBuilder("10");
        for (int sign = 0; sign < 19; sign++) {
            products.insert(0, '(').append("*a)");
        }
        expectPlain("10" + "*a".repeat(19), products.toString());
        expectPlain("((((((a+b+c+d+a+b+c+d+a+b+c+d+a+b))))))",
            "(((((((((((((a+b)+c)+d)+a)+b)+c)+d)+a)+b)+c)+d)+a)+b)");
    }

    /** The text as a formula of f, or as a check; a to d are NUMBERs, e and f FLAGs. */
    private static void expectPlain(String text, String want) {
        FormWright f = Forms.typed("111122");
        Forms.text(f, text);
        if (f.typeOfText() == FormWright.FLAG) {
            f.setFormula(7);
        } else {
            f.setType(5, FormWright.NUMBER);
            f.setFormula(5);
        }
        f.publish();
        int formula = f.dropFormula(7) ? 7 : 5;
        Check.due("plain of " + text, want, () -> Forms.plain(f, 0, formula));
        Check.due("behind it", NONE, () -> f.plain(0, formula, want.length()));
    }

    // "NONE .. without such a formula.", "formula: 0 to 9"
    private static void formulasOfAllNumbers() {
        for (int formula = 0; formula <= 9; formula++) {
            FormWright f = Forms.typed("111111");
            Forms.formula(f, formula, formula < 6 ? "" + formula : formula + "=" + formula);
            f.publish();
            for (int other = 0; other <= 9; other++) {
                int number = other;
                String text = other < 6 ? "" + other : "(" + other + "=" + other + ")";
                Check.due("plain " + other, other == formula ? text : "", () -> Forms.plain(f, 0, number));
                Check.due("first sign", other == formula ? (int) text.charAt(0) : NONE, () -> f.plain(0, number, 0));
                Check.due("far behind", NONE, () -> f.plain(0, number, Integer.MAX_VALUE));
            }
        }
    }

    // "Returns a sign of the plain text of a formula of a version.": 10 versions, each with its own one
    private static void plainOfEachVersion() {
        FormWright f = Forms.typed("111111");
        for (int version = 0; version < 10; version++) {
            Forms.formula(f, 2, "9" + version + "-" + LETTERS.charAt(version % 2));
            f.publish();
        }
        f.dropFormula(2);
        for (int version = 0; version < 10; version++) {
            int number = version;
            String want = "(9" + version + "-" + LETTERS.charAt(version % 2) + ")";
            Check.due("plain in " + version, want, () -> Forms.plain(f, number, 2));
        }
    }
}
