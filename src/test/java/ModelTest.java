import java.util.ArrayList;
import java.util.List;
import java.util.Random;

/** Runs of 512 calls that are drawn by chance (with seeds, so always the same ones), against the model. */
final class ModelTest {
    private static final int RUNS = 3000;
    private static final int CALLS = 512;
    private static final String SIGNS = "0123456789abcdefg()!+-*<=>&|";
    private static final int[] STRANGE = {-1, 6, 10, 20, Integer.MIN_VALUE, Integer.MAX_VALUE, 1000, -1000};

    private final Random random;
    private final FormWright form = new FormWright();
    private final Model model = new Model();
    private final List<String> told = new ArrayList<>();
    private int calls = 0;
    private boolean isWrong = false;

    private ModelTest(long seed) {
        random = new Random(seed);
    }

    public static void main(String[] args) {
        for (int run = 0; run < RUNS; run++) {
            new ModelTest(run).runAll();
        }
        for (int run = 0; run < 20000; run++) {
            new ModelTest(run).typeOnly();
        }
        Check.end();
    }

    private void runAll() {
        int boldness = 1 + below(60);
        anyTypes();
        while (calls < CALLS && !isWrong) {
            if (below(boldness) == 0) {
                strangeCall();
            } else {
                usualCall();
            }
        }
    }

    private void typeOnly() {
        anyTypes();
        text(below(4) == 0 ? anyText(below(41)) : changed(formula(4, 1 + below(2))));
    }

    private void anyTypes() {
        for (int field = 0; field < 6; field++) {
            setType(field, 1 + below(3));
        }
    }

    private void usualCall() {
        int kind = below(24);
        if (kind < 2 || model.versions() == 0) {
            draftCall();
        } else if (kind < 4) {
            newAnswer();
        } else if (kind == 4) {
            look();
        } else if (kind == 5) {
            put(answer(), below(6), value());
        } else if (kind == 6) {
            handIn(answer());
        } else if (kind < 13) {
            int answer = reviewed();
            doubt(answer, below(6));
            lookAtDoubts(answer);
        } else if (kind < 17) {
            settle(reviewed(), below(6), below(4) > 0);
        } else if (kind < 22) {
            amend(reviewed(), below(6), value());
        } else {
            lookAtAnswer(answer(), below(6));
        }
    }

    private void draftCall() {
        int kind = below(10);
        if (kind < 4) {
            newFormula();
        } else if (kind < 6) {
            setType(below(6), 1 + below(3));
        } else if (kind == 6) {
            setType(below(6), below(4));
        } else if (kind == 7) {
            dropFormula(below(10));
        } else if (kind == 8) {
            text(changed(formula(2, FormWright.FLAG)));
            setFormula(below(10));
        } else if (calls > 50) {
            due("publish()", form::publish, model::publish);
            for (int answer = 0; answer < model.answers(); answer++) {
                lookAtDoubts(answer);
            }
        }
    }

    private void newFormula() {
        int number = below(10);
        int type = number < 6 ? model.draftType(number) : FormWright.FLAG;
        text(formula(1 + below(2), type == FormWright.ABSENT ? FormWright.NUMBER : type));
        setFormula(number);
        due("isBroken(" + number + ")", () -> form.isBroken(number), () -> model.isBroken(number));
    }

    private void newAnswer() {
        due("begin()", form::begin, model::begin);
        int answer = model.answers() - 1;
        int version = model.versions() - 1;
        for (int field = 0; field < 6 && version >= 0 && answer >= 0; field++) {
            int type = model.typeIn(version, field);
            boolean isComputed = model.plain(version, field, 0) != FormWright.NONE;
            if (type != FormWright.ABSENT && !isComputed) {
                put(answer, field, type == FormWright.NUMBER ? below(1999) - 999 : below(type == FormWright.FLAG ? 2 : 10));
            }
        }
        handIn(answer);
        lookAtAnswer(answer, below(6));
    }

    private void look() {
        int version = below(model.versions() + 1);
        int formula = below(10);
        due("versions()", form::versions, model::versions);
        due("answers()", form::answers, model::answers);
        due("counted()", form::counted, model::counted);
        for (int place = 0; place < 3; place++) {
            int at = place;
            order(version, at);
            typeIn(version, at * 2 + below(2));
            plain(version, formula, below(40));
        }
    }

    private void lookAtAnswer(int answer, int field) {
        lookAtDoubts(answer);
        due("versionOf " + answer, () -> form.versionOf(answer), () -> model.versionOf(answer));
        due("refusal " + answer, () -> form.refusal(answer), () -> model.refusal(answer));
        due("value " + answer + " " + field, () -> form.value(answer, field), () -> model.value(answer, field));
    }

    private void lookAtDoubts(int answer) {
        due("stateOf " + answer, () -> form.stateOf(answer), () -> model.stateOf(answer));
        due("doubts " + answer, () -> form.doubts(answer), () -> model.doubts(answer));
    }

    private void strangeCall() {
        int first = any(20);
        int second = any(6);
        int third = any(10);
        switch (below(15)) {
            case 0: type((char) below(65536)); break;
            case 1: setType(second, any(4)); break;
            case 2: setFormula(third); break;
            case 3: dropFormula(third); break;
            case 4: due("isBroken " + third, () -> form.isBroken(third), () -> model.isBroken(third)); break;
            case 5: typeIn(third, second); break;
            case 6: order(third, second); break;
            case 7: plain(third, any(10), first); break;
            case 8: put(first, second, any(1000)); break;
            case 9: handIn(first); break;
            case 10: lookAtAnswer(first, second); break;
            case 11: doubt(first, second); break;
            case 12: settle(first, second, below(2) == 0); break;
            case 13: amend(first, second, any(1000)); break;
            default: text(anyText(below(6))); break;
        }
    }

    private void type(char character) {
        due("type " + (int) character, () -> form.type(character), () -> model.type(character));
    }

    private void setType(int field, int type) {
        due("setType " + field + " " + type, () -> form.setType(field, type), () -> model.setType(field, type));
    }

    private void setFormula(int formula) {
        due("setFormula " + formula, () -> form.setFormula(formula), () -> model.setFormula(formula));
    }

    private void dropFormula(int formula) {
        due("dropFormula " + formula, () -> form.dropFormula(formula), () -> model.dropFormula(formula));
    }

    private void typeIn(int version, int field) {
        due("typeIn " + version + " " + field, () -> form.typeIn(version, field), () -> model.typeIn(version, field));
    }

    private void order(int version, int place) {
        due("order " + version + " " + place, () -> form.order(version, place), () -> model.order(version, place));
    }

    private void plain(int version, int formula, int place) {
        due("plain " + version + " " + formula + " " + place,
            () -> form.plain(version, formula, place), () -> model.plain(version, formula, place));
    }

    private void put(int answer, int field, int value) {
        due("put " + answer + " " + field + " " + value,
            () -> form.put(answer, field, value), () -> model.put(answer, field, value));
    }

    private void handIn(int answer) {
        due("handIn " + answer, () -> form.handIn(answer), () -> model.handIn(answer));
    }

    private void doubt(int answer, int field) {
        due("doubt " + answer + " " + field, () -> form.doubt(answer, field), () -> model.doubt(answer, field));
    }

    private void settle(int answer, int field, boolean isFine) {
        due("settle " + answer + " " + field + " " + isFine,
            () -> form.settle(answer, field, isFine), () -> model.settle(answer, field, isFine));
    }

    private void amend(int answer, int field, int value) {
        due("amend " + answer + " " + field + " " + value,
            () -> form.amend(answer, field, value), () -> model.amend(answer, field, value));
    }

    private void text(String text) {
        due("clear()", form::clear, model::clear);
        for (int at = 0; at < text.length(); at++) {
            type(text.charAt(at));
        }
        due("error()", form::error, model::error);
        due("typeOfText()", form::typeOfText, model::typeOfText);
    }

    private void due(String call, Check.Call answer, Check.Call want) {
        if (calls >= CALLS || isWrong) {
            return;
        }
        calls++;
        told.add(call);
        Object due;
        try {
            due = want.answer();
        } catch (IndexOutOfBoundsException | IllegalStateException | IllegalArgumentException e) {
            due = Check.nameOf(e.getClass());
        }
        isWrong = !Check.due(call, due, answer);
        if (isWrong) {
            System.out.println("the run: " + String.join(", ", told));
        }
    }

    private int below(int bound) {
        return random.nextInt(bound);
    }

    private int any(int bound) {
        return below(4) == 0 ? STRANGE[below(STRANGE.length)] : below(bound);
    }

    private int answer() {
        return below(Math.max(1, model.answers()));
    }

    /** An answer that is COUNTED or HELD, if a few tries find one. */
    private int reviewed() {
        for (int tries = 0; tries < 10 && model.answers() > 0; tries++) {
            int answer = below(model.answers());
            int state = model.stateOf(answer);
            if (state == FormWright.HELD || state == FormWright.COUNTED && below(3) == 0) {
                return answer;
            }
        }
        return answer();
    }

    private int value() {
        return below(3) == 0 ? below(2) : below(2) == 0 ? below(10) : below(2100) - 1050;
    }

    private String anyText(int length) {
        StringBuilder text = new StringBuilder();
        while (text.length() < length) {
            text.append(SIGNS.charAt(below(SIGNS.length())));
        }
        return text.toString();
    }

    /** A formula of a type, as far as its depth and the fields of the draft allow. */
    private String formula(int depth, int type) {
        String letters = lettersOf(type);
        boolean isLeaf = depth == 0 || below(4) == 0;
        if (type == FormWright.CHOICE || isLeaf && !letters.isEmpty() && below(4) > 0) {
            return letters.isEmpty() ? "7" : String.valueOf(letters.charAt(below(letters.length())));
        }
        if (type == FormWright.NUMBER) {
            return isLeaf ? String.valueOf(below(below(2) == 0 ? 10 : 1000))
                : pair(depth, FormWright.NUMBER, "+-*".charAt(below(3)), FormWright.NUMBER);
        }
        switch (isLeaf ? 0 : below(7)) {
            case 0:
                return pair(0, FormWright.NUMBER, "<=>".charAt(below(3)), FormWright.NUMBER);
            case 1:
                return pair(depth, FormWright.NUMBER, "<=>".charAt(below(3)), FormWright.NUMBER);
            case 2:
                return pair(depth, FormWright.FLAG, '=', FormWright.FLAG);
            case 3:
                return pair(0, FormWright.CHOICE, '=', FormWright.NUMBER);
            case 4:
                return "!" + bracket(formula(depth - 1, FormWright.FLAG));
            default:
                return pair(depth, FormWright.FLAG, "&|".charAt(below(2)), FormWright.FLAG);
        }
    }

    private String pair(int depth, int left, char sign, int right) {
        return bracket(formula(Math.max(0, depth - 1), left)) + sign + bracket(formula(Math.max(0, depth - 1), right));
    }

    private String bracket(String part) {
        return part.length() > 1 && below(3) > 0 ? "(" + part + ")" : part;
    }

    private String lettersOf(int type) {
        StringBuilder letters = new StringBuilder();
        for (int field = 0; field < 6; field++) {
            if (model.draftType(field) == type) {
                letters.append((char) ('a' + field));
            }
        }
        return letters.toString();
    }

    /** The text with some signs put in, left out or put in place of others. */
    private String changed(String text) {
        StringBuilder changed = new StringBuilder(text);
        for (int times = below(3); times >= 0; times--) {
            int at = below(changed.length() + 1);
            char sign = below(3) == 0 ? "(!".charAt(below(2)) : SIGNS.charAt(below(SIGNS.length()));
            if (below(2) == 0 || at == changed.length()) {
                changed.insert(at, sign);
            } else if (below(2) == 0) {
                changed.deleteCharAt(at);
            } else {
                changed.setCharAt(at, sign);
            }
        }
        return changed.toString();
    }
}
