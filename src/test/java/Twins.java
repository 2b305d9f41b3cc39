import java.util.ArrayList;
import java.util.List;
import java.util.function.Consumer;
import java.util.function.Function;

/**
 * "A call that throws an exception changes nothing": of two forms that were made by the same calls one gets the
 * refused call too, and both must answer alike from then on. Each way to go on has two forms of its own, so that
 * no form gets more than 512 calls.
 */
final class Twins {
    private static final String[] TYPED_ON = {"", "a", "1", ")", "+1", "&c", "<b", "!"};

    private Twins() {
    }

    static void refused(String what, Class<? extends RuntimeException> want, Consumer<FormWright> making,
            Consumer<FormWright> call) {
        for (Function<FormWright, String> goingOn : waysToGoOn()) {
            FormWright touched = made(making);
            FormWright untouched = made(making);
            Check.refused(what, want, () -> {
                call.accept(touched);
                return "nothing thrown";
            });
            Check.due("behind the refused " + what, goingOn.apply(untouched), () -> goingOn.apply(touched));
        }
    }

    private static FormWright made(Consumer<FormWright> making) {
        FormWright f = new FormWright();
        making.accept(f);
        return f;
    }

    private static List<Function<FormWright, String>> waysToGoOn() {
        List<Function<FormWright, String>> ways = new ArrayList<>();
        for (String typed : TYPED_ON) {
            ways.add(f -> text(f, typed));
        }
        ways.add(Twins::draft);
        ways.add(Twins::published);
        ways.add(Twins::versions);
        ways.add(Twins::answers);
        ways.add(Twins::handedIn);
        ways.add(Twins::reviewed);
        return ways;
    }

    private static String text(FormWright f, String typed) {
        StringBuilder told = new StringBuilder();
        tell(told, "error", () -> f.error());
        for (int at = 0; at < typed.length(); at++) {
            char sign = typed.charAt(at);
            tell(told, "type " + sign, () -> f.type(sign));
        }
        tell(told, "error", () -> f.error());
        tell(told, "typeOfText", () -> f.typeOfText());
        tell(told, "clear", () -> f.clear());
        return told.toString();
    }

    private static String draft(FormWright f) {
        StringBuilder told = new StringBuilder();
        for (int k = 0; k < 10; k++) {
            int formula = k;
            tell(told, "isBroken " + formula, () -> f.isBroken(formula));
        }
        for (char letter = 'a'; letter <= 'f'; letter++) {
            f.clear();
            f.type(letter);
            tell(told, "type of " + letter, () -> f.typeOfText());
        }
        for (int k = 0; k < 10; k++) {
            int formula = k;
            tell(told, "dropFormula " + formula, () -> f.dropFormula(formula));
        }
        return told.toString();
    }

    private static String published(FormWright f) {
        StringBuilder told = new StringBuilder();
        tell(told, "publish", () -> f.publish());
        int version = f.versions() - 1;
        tell(told, "versions", () -> version + 1);
        for (int k = 0; k < 10; k++) {
            int formula = k;
            tell(told, "plain " + formula, () -> Forms.plain(f, version, formula));
        }
        tell(told, "order", () -> Forms.order(f, version));
        for (int answer = 0; answer < 20; answer++) {
            tellReview(told, f, answer);
        }
        return told.toString();
    }

    private static String versions(FormWright f) {
        StringBuilder told = new StringBuilder();
        tell(told, "versions", () -> f.versions());
        for (int k = 0; k <= 10; k++) {
            int version = k;
            for (int j = 0; j < 6; j++) {
                int field = j;
                tell(told, "typeIn " + version + " " + field, () -> f.typeIn(version, field));
            }
            for (int j = 0; j < 10; j++) {
                int formula = j;
                tell(told, "plain " + version + " " + formula, () -> f.plain(version, formula, 0));
            }
            tell(told, "order " + version, () -> f.order(version, 0));
        }
        return told.toString();
    }

    private static String answers(FormWright f) {
        StringBuilder told = new StringBuilder();
        tell(told, "answers", () -> f.answers());
        tell(told, "counted", () -> f.counted());
        for (int k = 0; k <= 20; k++) {
            int answer = k;
            tellReview(told, f, answer);
            tell(told, "versionOf " + answer, () -> f.versionOf(answer));
            tell(told, "refusal " + answer, () -> f.refusal(answer));
            for (int j = 0; j < 6; j++) {
                int field = j;
                tell(told, "value " + answer + " " + field, () -> f.value(answer, field));
            }
        }
        return told.toString();
    }

    private static String handedIn(FormWright f) {
        StringBuilder told = new StringBuilder();
        tell(told, "begin", () -> f.begin());
        for (int k = 0; k < 20; k++) {
            int answer = k;
            tell(told, "put " + answer, () -> f.put(answer, 0, 5));
            tell(told, "handIn " + answer, () -> f.handIn(answer));
            tellReview(told, f, answer);
        }
        return told.toString();
    }

    private static String reviewed(FormWright f) {
        StringBuilder told = new StringBuilder();
        for (int k = 0; k < 8; k++) {
            int answer = k;
            tell(told, "amend " + answer, () -> f.amend(answer, 1, 6));
            for (int j = 0; j < 6; j++) {
                int field = j;
                tell(told, "settle " + answer + " " + field, () -> f.settle(answer, field, true));
                tell(told, "doubt " + answer + " " + field, () -> f.doubt(answer, field));
            }
            tell(told, "strike " + answer, () -> f.settle(answer, 0, false));
            tellReview(told, f, answer);
        }
        return told.toString();
    }

    private static void tellReview(StringBuilder told, FormWright f, int answer) {
        tell(told, "stateOf " + answer, () -> f.stateOf(answer));
        tell(told, "doubts " + answer, () -> f.doubts(answer));
    }

    private static void tell(StringBuilder told, String what, Check.Call call) {
        told.append(what).append(": ").append(Check.told(call)).append("; ");
    }
}
