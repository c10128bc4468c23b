import java.util.ArrayList;
import java.util.List;

/** Long runs of calls, drawn by number, on the program and on the model: every answer must be the same. */
final class ModelTest {
    private static final int RUNS = 400;
    /** With a digest behind each, a run stays below the 512 calls of an object. */
    private static final int CALLS = 250;

    private final Runs runs = new Runs();
    private long drawn;
    private PromisedCounters program;
    private Model model;
    private List<String> calls;

    public static void main(String[] args) {
        ModelTest test = new ModelTest();
        for (int run = 0; run < RUNS; run++) {
            if (!test.isSame(run)) {
                break;
            }
        }
        test.runs.end();
    }

    private boolean isSame(int run) {
        drawn = 1_000_003L * run + 12345L;
        program = new PromisedCounters();
        model = new Model();
        calls = new ArrayList<>();
        if (run % 3 == 0) {
            widen();
        }
        boolean isSame = true;
        while (isSame && calls.size() < CALLS) {
            isSame = draw(40) == 0 ? isSameText() : isSameCall(nextCall(run % 4));
        }
        if (!isSame) {
            System.out.println("run " + run + " went wrong at its last call: " + String.join("; ", calls));
        }
        return isSame;
    }

    private void widen() {
        for (int c = 0; c < 4; c++) {
            isSameCall("bounds(" + c + ", -999, 999)");
        }
        isSameCall("set(0, 16)");
        isSameCall("set(1, 60)");
    }

    private boolean isSameText() {
        for (char sign : nextText().toCharArray()) {
            if (calls.size() >= CALLS || !isSameCall("append(" + (int) sign + ")")) {
                return calls.size() >= CALLS;
            }
        }
        return isSameCall("firstError()") && isSameCall("promiseAll()")
                && (draw(3) == 0 || isSameCall("clearBuffer()"));
    }

    private boolean isSameCall(String call) {
        calls.add(call);
        String want = Runs.answer(model, call);
        String got = Runs.answer(program, call);
        runs.due(call, got, want);
        if (call.startsWith("append")) {
            return got.equals(want);
        }
        long wantBehind = model.digest();
        long gotBehind = program.digest();
        runs.due("the digest behind " + call, gotBehind, wantBehind);
        return got.equals(want) && gotBehind == wantBehind;
    }

    private String nextCall(int kind) {
        int promise = Math.max(0, model.count(1) - 1);
        switch (draw(kind == 3 ? 32 : 28)) {
            case 0: return "bounds(" + in(0, 3) + ", " + in(-120, 20) + ", " + in(0, 300) + ")";
            case 1: return "bounds(" + in(0, 3) + ", " + in(-999, 999) + ", " + in(-999, 999) + ")";
            case 2: return draw(2) == 0 ? "set(0, " + in(1, 16) + ")" : "set(1, " + in(1, 99) + ")";
            case 3: return "set(" + in(0, 1) + ", " + in(1, 99) + ")";
            case 4: case 5: case 6: case 7: return "promise(" + owner() + in(0, 3) + ", " + in(-99, 99) + ")";
            case 8: case 9: return "promise(" + owner() + in(0, 3) + ", " + in(1, 20) + ")";
            case 10: case 11: return "transfer(" + owner() + in(0, 3) + ", " + in(0, 3) + ", " + in(1, 99) + ")";
            case 12: return "settle(" + in(0, promise) + ")";
            case 13: case 14: return "settlePart(" + in(0, promise) + ", " + in(1, draw(2) == 0 ? 9 : 98) + ")";
            case 15: return "cancel(" + in(0, promise) + ")";
            case 16: return "renew(" + in(0, promise) + ")";
            case 17: return draw(2) == 0 ? "finish(" + owner() + (draw(2) == 0) + ")" : "undo()";
            case 18: return "undo()";
            case 19: return "pass(" + in(1, draw(5) == 0 ? 99 : 6) + ")";
            default: return nextLook(promise);
        }
    }

    private String nextLook(int promise) {
        switch (draw(12)) {
            case 0: return "counter(" + in(0, 3) + ", " + in(0, 9) + ")";
            case 1: return "promiseOf(" + in(0, promise) + ", " + in(0, 5) + ")";
            case 2: return "owner(" + owner() + in(0, 4) + ")";
            case 3: return "count(" + in(0, 9) + ")";
            case 4: return "setting(" + in(0, 1) + ")";
            case 5: return "whyNot(" + owner() + in(0, 3) + ", " + in(-99, 99) + ")";
            case 6: case 7: return nextCanBe(draw(4));
            case 8: return "mostFor(" + owner() + in(0, 3) + ", " + (draw(2) == 0) + ")";
            case 9: return "ifPassed(" + in(0, 200) + ", " + in(0, 4) + ")";
            case 10: return "ifPassed(" + in(0, 20) + ", " + in(0, 4) + ")";
            default: return "heldShare()";
        }
    }

    /** Asks for a value that the counter could have, or one near to it. */
    private String nextCanBe(int counter) {
        int value = model.counter(counter, 0);
        for (int p = 0; p < model.count(1); p++) {
            boolean isOf = model.promiseOf(p, 1) == counter && draw(2) == 0;
            value += isOf ? model.promiseOf(p, 2) : 0;
        }
        return "canBe(" + in(counter, counter) + ", " + (value + (draw(8) == 0 ? draw(3) - 1 : 0)) + ")";
    }

    /** Changes as a text, every third time with a sign that may be wrong, or cut. */
    private String nextText() {
        StringBuilder text = new StringBuilder();
        int parts = 1 + draw(9);
        for (int i = 0; i < parts; i++) {
            String kind = new String[] {"+", "+", "-", ">" + draw(4) + ":"}[draw(4)];
            int number = draw(3) == 0 ? 1 + draw(99) : 1 + draw(12);
            text.append(i == 0 ? "" : ";").append(draw(4)).append(kind).append(number);
            text.append(draw(2) == 0 ? "o" + draw(6) : "");
        }
        if (draw(3) == 0) {
            text.setCharAt(draw(text.length()), "0123456789+->:;o!~".charAt(draw(18)));
        }
        text.setLength(draw(6) == 0 ? draw(text.length()) : text.length());
        return text.toString();
    }

    private String owner() {
        return in(0, 5) + ", ";
    }

    /** A number of the range, now and then one at its edge or outside it. */
    private int in(int least, int most) {
        switch (draw(60)) {
            case 0: return least - 1;
            case 1: return most + 1;
            case 2: return draw(2) == 0 ? Integer.MIN_VALUE : Integer.MAX_VALUE;
            case 3: return least;
            case 4: return most;
            default: return least + draw(Math.max(1, most - least + 1));
        }
    }

    /** The next number, from 0 and less than many, always the same ones for a run. */
    private int draw(int many) {
        drawn = drawn * 6364136223846793005L + 1442695040888963407L;
        return (int) ((drawn >>> 33) % many);
    }
}
