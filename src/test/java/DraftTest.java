/** Promises 6 to 9: the draft. */
final class DraftTest {
    private static final Class<IllegalStateException> STATE = IllegalStateException.class;
    private static final Class<IllegalArgumentException> ARGUMENT = IllegalArgumentException.class;
    private static final Class<IndexOutOfBoundsException> BOUNDS = IndexOutOfBoundsException.class;
    private static final int[] NO_FIELD = {-1, 6, 7, Integer.MIN_VALUE, Integer.MAX_VALUE};
    private static final int[] NO_FORMULA = {-1, 10, 11, Integer.MIN_VALUE, Integer.MAX_VALUE};
    private static final int[] NO_TYPE = {-1, 4, 5, Integer.MIN_VALUE, Integer.MAX_VALUE};

    private DraftTest() {
    }

    public static void main(String[] args) {
        wrongTypes();
        brokenByTypes();
        wrongFormulas();
        formulasOfEachType();
        replacedFormulas();
        circles();
        circlesOverBrokenFormulas();
        drops();
        Check.end();
    }

    private static void wrongTypes() {
        FormWright f = Forms.typed("1000");
        for (int none : NO_FIELD) {
            Check.refused("setType of field " + none, BOUNDS, () -> f.setType(none, FormWright.NUMBER));
            Check.refused("setType of field and type " + none, BOUNDS, () -> f.setType(none, 4));
        }
        for (int none : NO_TYPE) {
            Check.refused("setType to " + none, ARGUMENT, () -> f.setType(0, none));
        }
        f.publish();
        Check.due("type behind wrong ones", FormWright.NUMBER, () -> f.typeIn(0, 0));
        Check.due("type behind wrong ones", FormWright.ABSENT, () -> f.typeIn(0, 1));
    }

    private static void brokenByTypes() {
        FormWright f = Forms.typed("112031");
        Forms.formula(f, 1, "a+1");
        Forms.formula(f, 6, "a<b");
        Forms.formula(f, 7, "c");
        Forms.formula(f, 9, "e=a");
        Check.due("setType that breaks none", 0, () -> f.setType(3, FormWright.FLAG));
        Check.due("same type again", 0, () -> f.setType(0, FormWright.NUMBER));
        Check.due("setType of a letter", 3, () -> f.setType(0, FormWright.FLAG));
        for (int k = 0; k < 10; k++) {
            int formula = k;
            Check.due("isBroken " + k, k == 1 || k == 6 || k == 9, () -> f.isBroken(formula));
        }
        Check.due("setType back", 0, () -> f.setType(0, FormWright.NUMBER));
        Check.due("isBroken when back", false, () -> f.isBroken(1));
        Check.due("letter to ABSENT", 3, () -> f.setType(0, FormWright.ABSENT));
        Check.due("and the other one", 4, () -> f.setType(2, FormWright.ABSENT));
        Check.due("back", 1, () -> f.setType(0, FormWright.NUMBER));
        Check.due("back", 0, () -> f.setType(2, FormWright.FLAG));
        Check.due("computed field to FLAG", 2, () -> f.setType(1, FormWright.FLAG));
        Check.due("isBroken of the computed field", true, () -> f.isBroken(1));
        Check.due("computed field to ABSENT", 2, () -> f.setType(1, FormWright.ABSENT));
        Check.due("isBroken of the ABSENT field", true, () -> f.isBroken(1));
        Check.due("computed field back", 0, () -> f.setType(1, FormWright.NUMBER));
        Forms.formula(f, 0, "5");
        Check.due("the lowest formula", 3, () -> f.setType(0, FormWright.CHOICE));
        Check.due("isBroken of the lowest", true, () -> f.isBroken(0));
        Check.due("the lowest one back", 0, () -> f.setType(0, FormWright.NUMBER));
        Check.due("a NUMBER and a NUMBER", 0, () -> f.setType(4, FormWright.NUMBER));
        Check.due("a FLAG and a NUMBER", 1, () -> f.setType(4, FormWright.FLAG));
        for (int none : NO_FORMULA) {
            Check.refused("isBroken " + none, BOUNDS, () -> f.isBroken(none));
            Check.refused("dropFormula " + none, BOUNDS, () -> f.dropFormula(none));
        }
    }

    private static void wrongFormulas() {
        FormWright f = Forms.typed("112030");
        Forms.text(f, "a+");
        for (int none : NO_FORMULA) {
            Check.refused("setFormula " + none, BOUNDS, () -> f.setFormula(none));
        }
        for (int k = 0; k < 10; k++) {
            int formula = k;
            Check.refused("setFormula without a formula " + k, ARGUMENT, () -> f.setFormula(formula));
        }
        Forms.text(f, "a+c");
        for (int k = 0; k < 10; k++) {
            int formula = k;
            Check.refused("setFormula without a type " + k, STATE, () -> f.setFormula(formula));
        }
        Check.due("no formula taken", 1, () -> Forms.formula(f, 6, "c"));
        Check.due("the text stays", 1, () -> f.clear());
        Check.refused("a wrong one in place of a good one", STATE, () -> Forms.formula(f, 6, "a"));
        Check.refused("no formula in place of a good one", ARGUMENT, () -> Forms.formula(f, 6, "c&"));
        f.publish();
        Check.due("the good one stays", "c", () -> Forms.plain(f, 0, 6));
    }

    private static void formulasOfEachType() {
        FormWright f = Forms.typed("123123");
        String[] texts = {"3", "e", "f", "d", "e&e", "d+1", "(f)", "d=f"};
        int[] types = {1, 2, 3, 1, 2, 1, 3, 2};
        for (int at = 0; at < texts.length; at++) {
            Forms.text(f, texts[at]);
            for (int formula = 0; formula < 10; formula++) {
                int number = formula;
                int due = formula < 3 ? formula + 1 : formula < 6 ? -1 : FormWright.FLAG;
                if (due == types[at]) {
                    Check.due(texts[at] + " for " + number, 1, () -> f.setFormula(number));
                    Check.due("dropped", true, () -> f.dropFormula(number));
                } else if (due != -1) {
                    Check.refused(texts[at] + " for " + number, STATE, () -> f.setFormula(number));
                    Check.due("not taken", false, () -> f.dropFormula(number));
                }
            }
        }
        FormWright absent = Forms.typed("000000");
        Check.refused("a formula of an ABSENT field", STATE, () -> Forms.formula(absent, 0, "1"));
        Check.refused("with the letter of an ABSENT field", STATE, () -> Forms.formula(absent, 6, "a=a"));
        Check.due("without letters", 1, () -> Forms.formula(absent, 6, "1=1"));
    }

    private static void replacedFormulas() {
        FormWright f = Forms.typed("111000");
        Check.due("first", 1, () -> Forms.formula(f, 0, "b"));
        Check.due("in its place", 1, () -> Forms.formula(f, 0, "c+1"));
        Check.due("another", 2, () -> Forms.formula(f, 6, "a<b"));
        Check.due("a third", 3, () -> Forms.formula(f, 9, "a<b"));
        Check.due("in place of the second", 3, () -> Forms.formula(f, 6, "a=b"));
        Check.due("b may hang on a now", 4, () -> Forms.formula(f, 1, "a"));
        f.publish();
        Check.due("plain 0", "(c+1)", () -> Forms.plain(f, 0, 0));
        Check.due("plain 6", "(a=b)", () -> Forms.plain(f, 0, 6));
        FormWright broken = Forms.typed("120000");
        Forms.formula(broken, 6, "b");
        broken.setType(1, FormWright.NUMBER);
        Check.due("in place of a broken one", 1, () -> Forms.formula(broken, 6, "b=a"));
        Check.due("not broken any more", false, () -> broken.isBroken(6));
        FormWright counted = Forms.typed("120000");
        Forms.formula(counted, 6, "b");
        counted.setType(1, FormWright.NUMBER);
        Check.due("broken ones count too", 2, () -> Forms.formula(counted, 7, "a=a"));
    }

    private static void circles() {
        FormWright f = Forms.typed("111111");
        for (int field = 0; field < 6; field++) {
            int number = field;
            String own = String.valueOf((char) ('a' + field));
            Check.refused("own letter " + own, STATE, () -> Forms.formula(f, number, own));
            Check.refused("own letter, in vain " + own, STATE, () -> Forms.formula(f, number, "1+0*(" + own + ")"));
        }
        // each field hangs on the next one, set from the first one on
        for (int field = 0; field < 5; field++) {
            int number = field;
            String next = String.valueOf((char) ('b' + field));
            Check.due("chain " + next, field + 1, () -> Forms.formula(f, number, next));
        }
        for (int field = 0; field < 6; field++) {
            String letter = String.valueOf((char) ('a' + field));
            Check.refused("f on " + letter, STATE, () -> Forms.formula(f, 5, letter));
        }
        Check.due("f on none", 6, () -> Forms.formula(f, 5, "7"));
        Check.refused("c back to a", STATE, () -> Forms.formula(f, 2, "f+a"));
        Check.due("a check may have each letter", 7, () -> Forms.formula(f, 6, "a+b+c<d+e+f"));
        Check.due("the chain is cut", true, () -> f.dropFormula(3));
        Check.due("f on a, then", 6, () -> Forms.formula(f, 4, "a"));
        Check.due("f is dropped", true, () -> f.dropFormula(5));
        Check.due("f on e", 6, () -> Forms.formula(f, 5, "e"));
        Check.refused("d on f", STATE, () -> Forms.formula(f, 3, "f"));
        Check.refused("d on c", STATE, () -> Forms.formula(f, 3, "c"));
    }

    private static void circlesOverBrokenFormulas() {
        FormWright f = Forms.typed("111000");
        Forms.formula(f, 1, "a+c");
        f.setType(2, FormWright.FLAG);
        Check.due("broken", true, () -> f.isBroken(1));
        Check.refused("by way of a broken formula", STATE, () -> Forms.formula(f, 0, "b"));
        f.dropFormula(1);
        Check.due("without it", 1, () -> Forms.formula(f, 0, "b"));
        // a circle and a wrong type at once is one exception; a formula that is none comes first
        Check.refused("no formula, and a circle", ARGUMENT, () -> Forms.formula(f, 0, "a+"));
    }

    private static void drops() {
        FormWright f = Forms.typed("111000");
        Forms.formula(f, 0, "b");
        Forms.formula(f, 9, "a=b");
        Check.due("drop one that is not there", false, () -> f.dropFormula(8));
        Check.due("drop the last", true, () -> f.dropFormula(9));
        Check.due("drop it again", false, () -> f.dropFormula(9));
        Check.due("drop the first", true, () -> f.dropFormula(0));
        Check.due("formulas then", 1, () -> Forms.formula(f, 6, "b=c"));
        Forms.formula(f, 0, "b+c");
        f.setType(1, FormWright.FLAG);
        Check.due("drop a broken one", true, () -> f.dropFormula(0));
        Check.due("it is broken no more", false, () -> f.isBroken(0));
        Check.due("the type of its field stays", 2, () -> Forms.formula(f, 0, "c"));
    }
}
