/** The sentences about the draft (promises 6 to 9), each at its edges. Ahead of each test stands the sentence. */
final class DraftEdgeTest {
    private static final Class<IllegalStateException> STATE = IllegalStateException.class;
    private static final int ABSENT = FormWright.ABSENT;
    private static final int NUMBER = FormWright.NUMBER;
    private static final int FLAG = FormWright.FLAG;
    private static final int CHOICE = FormWright.CHOICE;
    private static final String LETTERS = "abcdef";

    private DraftEdgeTest() {
    }

    public static void main(String[] args) {
        typesOfEachField();
        formulaStaysWithItsField();
        countsOfBroken();
        brokenByItsOwnType();
        brokenByItsLetters();
        countsOfFormulas();
        inPlaceOfOne();
        textStays();
        typesForEachFormula();
        ownLetters();
        circlesOfEachLength();
        noCircles();
        circlesAnew();
        checksInNoCircle();
        circlesOverBrokenOnes();
        drops();
        brokenOrNot();
        Check.end();
    }

    // "field: 0 to 5" "type: ABSENT, NUMBER, FLAG or CHOICE": all, one after the other
    private static void typesOfEachField() {
        for (int field = 0; field <= 5; field++) {
            int number = field;
            FormWright f = new FormWright();
            Forms.text(f, LETTERS.substring(field, field + 1));
            for (int type : new int[] {CHOICE, FLAG, NUMBER, ABSENT, FLAG, CHOICE, NUMBER}) {
                Check.due("setType " + field + " " + type, 0, () -> f.setType(number, type));
                Check.due("type then", type == ABSENT ? FormWright.NONE : type, () -> f.typeOfText());
                Check.due("setType again", 0, () -> f.setType(number, type));
            }
            f.publish();
            for (int other = 0; other < 6; other++) {
                int place = other;
                Check.due("typeIn " + other, other == field ? NUMBER : ABSENT, () -> f.typeIn(0, place));
            }
        }
    }

    // "Sets the type of a field of the draft; its formula stays, if it has one."
    private static void formulaStaysWithItsField() {
        for (int field = 0; field <= 5; field++) {
            int number = field;
            FormWright f = Forms.typed("111111");
            Forms.formula(f, field, "7");
            for (int type : new int[] {ABSENT, FLAG, CHOICE}) {
                Check.due("its formula is broken", 1, () -> f.setType(number, type));
                Check.due("but there", true, () -> f.isBroken(number));
            }
            Check.due("it is not broken then", 0, () -> f.setType(number, NUMBER));
            f.publish();
            Check.due("and the same one", "7", () -> Forms.plain(f, 0, number));
            Check.due("in the draft too", true, () -> f.dropFormula(number));
            Check.due("a field that has none gets none", 0, () -> f.setType(number, FLAG));
            Check.due("none", false, () -> f.dropFormula(number));
        }
    }

    // "Returns how many formulas of the draft are broken then.": 0, 1, .. all 10
    private static void countsOfBroken() {
        FormWright f = Forms.typed("111111");
        for (int formula = 0; formula < 10; formula++) {
            Forms.formula(f, formula, formula == 5 ? "7" : formula < 5 ? "f" : "f<1");
        }
        Check.due("none", 0, () -> f.setType(5, NUMBER));
        for (int type : new int[] {FLAG, CHOICE, ABSENT}) {
            Check.due("all", 10, () -> f.setType(5, type));
        }
        for (int formula = 9; formula > 5; formula--) {
            f.dropFormula(formula);
            int left = formula;
            Check.due("but those dropped", left, () -> f.setType(5, CHOICE));
        }
        Check.due("none again", 0, () -> f.setType(5, NUMBER));
        for (int field = 0; field < 5; field++) {
            int number = field;
            Check.due("one more", field + 1, () -> f.setType(number, FLAG));
        }
        // the formulas "f" of FLAGs fit again then, that of f does not
        Check.due("and the last", 1, () -> f.setType(5, FLAG));
        Check.due("its own one", true, () -> f.isBroken(5));
        Check.due("not the other", false, () -> f.isBroken(0));
    }

    // "A formula of the draft is broken if its type is not that of its field (FLAG for a check)"
    private static void brokenByItsOwnType() {
        String[] texts = {"", "a", "b", "c"};
        for (int own = NUMBER; own <= CHOICE; own++) {
            for (int field = 3; field <= 5; field++) {
                int number = field;
                String text = texts[own];
                FormWright f = Forms.typed("123000");
                f.setType(field, own);
                Check.due("a formula of its type", 1, () -> Forms.formula(f, number, text));
                for (int type = ABSENT; type <= CHOICE; type++) {
                    int given = type;
                    boolean isBroken = type != own;
                    Check.due("from " + own + " to " + type, isBroken ? 1 : 0, () -> f.setType(number, given));
                    Check.due("isBroken then", isBroken, () -> f.isBroken(number));
                }
            }
        }
    }

    // ".. or it has none": each letter of a formula, and each sign's types
    private static void brokenByItsLetters() {
        FormWright f = Forms.typed("112333");
        Forms.formula(f, 6, "a<b");
        Forms.formula(f, 7, "c");
        Forms.formula(f, 8, "d=a");
        Forms.formula(f, 9, "d=e");
        int[][] brokenBy = {{0, ABSENT, 2}, {0, FLAG, 2}, {0, CHOICE, 1}, {1, ABSENT, 1}, {1, FLAG, 1}, {1, CHOICE, 1},
            {2, ABSENT, 1}, {2, NUMBER, 1}, {2, CHOICE, 1}, {3, ABSENT, 2}, {3, NUMBER, 0}, {3, FLAG, 2},
            {4, ABSENT, 1}, {4, NUMBER, 0}, {4, FLAG, 1}, {5, ABSENT, 0}, {5, FLAG, 0}};
        int[] first = {1, 1, 2, 3, 3, 3};
        for (int[] row : brokenBy) {
            Check.due("field " + row[0] + " to " + row[1], row[2], () -> f.setType(row[0], row[1]));
            Check.due("field " + row[0] + " back", 0, () -> f.setType(row[0], first[row[0]]));
        }
    }

    // "Returns how many formulas the draft has then.": 1 to 10, broken ones too, and one in place of another
    private static void countsOfFormulas() {
        FormWright f = Forms.typed("111111");
        for (int formula = 9; formula >= 0; formula--) {
            int number = formula;
            Check.due("formula " + formula, 10 - formula, () -> Forms.formula(f, number, number < 6 ? "1" : "1=1"));
            Check.due("the same again", 10 - formula, () -> f.setFormula(number));
        }
        Check.due("one dropped", true, () -> f.dropFormula(0));
        Check.due("nine", 9, () -> f.setFormula(1));
        f.setType(2, ABSENT);
        f.setType(3, FLAG);
        Check.due("nine, two of them broken", 9, () -> f.setFormula(1));
        Check.due("ten, two of them broken", 10, () -> f.setFormula(0));
    }

    // "Takes the text as a formula of the draft, in place of one that there may be."
    private static void inPlaceOfOne() {
        for (int formula = 0; formula <= 9; formula++) {
            int number = formula;
            FormWright f = Forms.typed("111111");
            Check.due("the first", 1, () -> Forms.formula(f, number, number < 6 ? "1" : "1=1"));
            Check.due("another", 1, () -> Forms.formula(f, number, number < 6 ? "2+3" : "4<5"));
            f.publish();
            Check.due("it is the other", number < 6 ? "(2+3)" : "(4<5)", () -> Forms.plain(f, 0, number));
        }
    }

    /** The text is none of the draft: to take it does not empty it, and what is typed on changes no formula. */
    private static void textStays() {
        FormWright f = Forms.typed("111111");
        Forms.formula(f, 0, "b");
        f.type('+');
        f.type('c');
        Check.due("typed on", 2, () -> f.setFormula(3));
        f.publish();
        Check.due("as it was taken", "b", () -> Forms.plain(f, 0, 0));
        Check.due("with what was typed on", "(b+c)", () -> Forms.plain(f, 0, 3));
        Check.due("the text", 3, () -> f.clear());
    }

    // "ISE if it would be broken": a text of each type for a formula of each number
    private static void typesForEachFormula() {
        String[] texts = {"d+0", "e=e", "f", "d+e"};
        int[] types = {NUMBER, FLAG, CHOICE, FormWright.NONE};
        for (int formula : new int[] {0, 1, 2, 6, 7, 8, 9}) {
            for (int own = ABSENT; own <= CHOICE; own++) {
                FormWright f = Forms.typed("000123");
                f.setType(formula % 6, own);
                int due = formula < 6 ? own : FLAG;
                for (int at = 0; at < texts.length && (formula < 6 || own == ABSENT); at++) {
                    String text = texts[at];
                    boolean fits = types[at] == due;
                    Object want = fits ? (Object) 1 : Check.nameOf(STATE);
                    Check.due(text + " for " + formula + ", due is " + due, want, () -> Forms.formula(f, formula, text));
                    Check.due("it is there", fits, () -> f.dropFormula(formula));
                }
            }
        }
    }

    // "a field would hang on itself, by its own formula"
    private static void ownLetters() {
        for (int field = 0; field <= 5; field++) {
            for (int letter = 0; letter <= 5; letter++) {
                int number = field;
                String text = LETTERS.substring(letter, letter + 1);
                FormWright f = Forms.typed("111111");
                Object want = letter == field ? Check.nameOf(STATE) : (Object) 1;
                Check.due(field + " by " + text, want, () -> Forms.formula(f, number, text));
                Check.due(field + " by 1+2*" + text, want, () -> Forms.formula(f, number, "1+2*" + text));
                Check.due(field + " by " + text + "-" + text, want, () -> Forms.formula(f, number, text + "-" + text));
            }
        }
    }

    // "or by way of those of others": circles of two to six fields, closed at each of them
    private static void circlesOfEachLength() {
        for (int size = 2; size <= 6; size++) {
            for (int shift = 0; shift < 6; shift++) {
                FormWright f = Forms.typed("111111");
                for (int k = 0; k + 1 < size; k++) {
                    Forms.formula(f, (shift + k) % 6, letter(shift + k + 1));
                }
                int last = (shift + size - 1) % 6;
                String back = letter(shift);
                Check.refused("circle of " + size + " from " + shift, STATE, () -> Forms.formula(f, last, back));
                Check.refused("and with more", STATE, () -> Forms.formula(f, last, "9-" + back + "*0"));
                int count = size;
                Check.due("without it", count, () -> Forms.formula(f, last, "9"));
                Check.refused("in place of that", STATE, () -> Forms.formula(f, last, back));
                Check.due("that one stays", true, () -> f.dropFormula(last));
            }
        }
    }

    private static String letter(int field) {
        return LETTERS.substring(field % 6, field % 6 + 1);
    }

    /** Many ways to the same field are no circle: each field hangs on all behind it, or on all ahead of it. */
    private static void noCircles() {
        FormWright down = Forms.typed("111111");
        FormWright up = Forms.typed("111111");
        for (int k = 0; k <= 5; k++) {
            int field = k;
            String behind = "1" + (k < 5 ? "+" + String.join("+", LETTERS.substring(k + 1).split("")) : "");
            String ahead = "1" + (k > 0 ? "+" + String.join("+", LETTERS.substring(0, k).split("")) : "");
            Check.due("on all behind " + k, field + 1, () -> Forms.formula(down, field, behind));
            Check.due("on all ahead of " + k, field + 1, () -> Forms.formula(up, field, ahead));
        }
        Check.refused("the last on the first", STATE, () -> Forms.formula(down, 5, "a"));
        Check.refused("the first on the last", STATE, () -> Forms.formula(up, 0, "f"));
        // b and c both hang on d, a on both
        FormWright twice = Forms.typed("111111");
        Forms.formula(twice, 1, "d");
        Forms.formula(twice, 2, "d");
        Check.due("two ways to d", 3, () -> Forms.formula(twice, 0, "b*c"));
        Check.refused("d on a", STATE, () -> Forms.formula(twice, 3, "a"));
        Check.due("d on e", 4, () -> Forms.formula(twice, 3, "e"));
    }

    /** A formula that is gone, or has another in its place, leads nowhere any more. */
    private static void circlesAnew() {
        FormWright f = Forms.typed("111111");
        Forms.formula(f, 0, "b");
        Check.refused("b on a", STATE, () -> Forms.formula(f, 1, "a"));
        Check.due("a on c now", 1, () -> Forms.formula(f, 0, "c"));
        Check.due("b on a then", 2, () -> Forms.formula(f, 1, "a"));
        Check.refused("a on b", STATE, () -> Forms.formula(f, 0, "b"));
        Check.refused("c on b", STATE, () -> Forms.formula(f, 2, "b"));
        f.dropFormula(1);
        Check.due("c on b, without that of b", 2, () -> Forms.formula(f, 2, "b"));
        Check.refused("b on a again", STATE, () -> Forms.formula(f, 1, "a"));
        FormWright published = Forms.typed("111111");
        Forms.formula(published, 0, "b");
        published.publish();
        published.dropFormula(0);
        Check.due("a formula of a version is in no circle", 1, () -> Forms.formula(published, 1, "a"));
    }

    /** A check computes no field, so all letters may stand in it, and nothing hangs on it. */
    private static void checksInNoCircle() {
        for (int check = 6; check <= 9; check++) {
            int number = check;
            FormWright f = Forms.typed("111111");
            Check.due("all letters", 1, () -> Forms.formula(f, number, "a+b+c=d+e+f"));
            for (int field = 0; field < 5; field++) {
                int place = field;
                Check.due("the chain", field + 2, () -> Forms.formula(f, place, letter(place + 1)));
            }
            Check.due("all letters again", 6, () -> Forms.formula(f, number, "f+e+d=c+b+a"));
        }
    }

    /** A broken formula is one of the draft still. */
    private static void circlesOverBrokenOnes() {
        FormWright f = Forms.typed("111111");
        Forms.formula(f, 1, "a+c");
        f.setType(2, FLAG);
        Check.due("broken", true, () -> f.isBroken(1));
        Check.refused("a on b", STATE, () -> Forms.formula(f, 0, "b"));
        f.publish();
        Check.due("dropped by publishing", 1, () -> Forms.formula(f, 0, "b"));
    }

    // "Drops a formula of the draft." "Returns whether there was one."
    private static void drops() {
        for (int formula = 0; formula <= 9; formula++) {
            int number = formula;
            FormWright f = Forms.typed("111111");
            Check.due("none yet", false, () -> f.dropFormula(number));
            for (int other = 0; other <= 9; other++) {
                Forms.formula(f, other, other < 6 ? "1" : "1=1");
            }
            Check.due("one", true, () -> f.dropFormula(number));
            Check.due("none any more", false, () -> f.dropFormula(number));
            for (int other = 0; other <= 9; other++) {
                int place = other;
                Check.due("the other ones stay", place != number, () -> f.dropFormula(place));
            }
            Check.due("an empty draft", 1, () -> Forms.formula(f, number, number < 6 ? "1" : "1=1"));
            f.setType(0, FLAG);
            Check.due("a broken one too, if it is", true, () -> f.dropFormula(number));
            f.publish();
            Check.due("and none in the version", FormWright.NONE, () -> f.plain(0, number, 0));
        }
    }

    // "Returns whether there is one, and it is."
    private static void brokenOrNot() {
        for (int formula = 0; formula <= 9; formula++) {
            int number = formula;
            String text = formula < 5 ? "f" : formula == 5 ? "e" : "f=e";
            FormWright f = Forms.typed("111111");
            Check.due("there is none", false, () -> f.isBroken(number));
            f.setType(5, ABSENT);
            Check.due("there is none still", false, () -> f.isBroken(number));
            f.setType(5, NUMBER);
            Forms.formula(f, number, text);
            Check.due("it is not", false, () -> f.isBroken(number));
            f.setType(formula == 5 ? 4 : 5, ABSENT);
            for (int other = 0; other <= 9; other++) {
                int place = other;
                Check.due("it is, alone", place == number, () -> f.isBroken(place));
            }
            f.setType(formula == 5 ? 4 : 5, NUMBER);
            Check.due("it is no more", false, () -> f.isBroken(number));
            f.setType(formula == 5 ? 4 : 5, FLAG);
            f.publish();
            Check.due("dropped", false, () -> f.isBroken(number));
        }
    }
}
