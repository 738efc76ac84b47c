/** Long runs of calls, each answered by the class and by the model alike. */
public final class ModelTest {
    private static final int RUNS = 1500;
    private static final int CALLS = 512;
    private static final int[] EDGES = {Integer.MIN_VALUE, -1, 10, 12, 16, 17, Integer.MAX_VALUE};

    private static long seed = 20261119L;

    private TinRoofScore x;
    private Model model;
    private int calls;

    private ModelTest() {
    }

    public static void main(String[] args) {
        for (int i = 0; i < RUNS; i++) {
            new ModelTest().oneRun(i);
        }
        Due.end();
    }

    // The same numbers in every run of the tests, so that a failure can be seen again.
    private static int upTo(int most) {
        seed = seed * 6364136223846793005L + 1442695040888963407L;
        return (int) ((seed >>> 33) % (most + 1));
    }

    private static int about(int most) {
        int kind = upTo(30);
        return kind == 0 ? EDGES[upTo(EDGES.length - 1)] : kind == 1 ? most + 1 : upTo(most);
    }

    private void oneRun(int number) {
        x = new TinRoofScore();
        model = new Model();
        calls = 0;
        boolean isOfTexts = number % 3 == 0;
        while (calls < CALLS) {
            int kind = upTo(99);
            if (kind < (isOfTexts ? 60 : 5)) {
                text();
            } else if (kind < (isOfTexts ? 70 : 45)) {
                change();
            } else {
                look();
            }
        }
    }

    private void same(String what, Due.Call call, Due.Call want) {
        if (calls < CALLS) {
            calls++;
            Due.is(what, Due.outcome(call), Due.outcome(want));
        }
    }

    private void change() {
        int tin = about(3);
        int many = about(upTo(3) == 0 ? 11 : 9);
        int few = about(upTo(1) == 0 ? 3 : 8);
        int sound = about(15);
        switch (upTo(13)) {
            case 0: case 1: same("bar", () -> x.bar(few), () -> model.order("bar", few, 0, 0)); break;
            case 2: same("key", () -> x.key(tin, many), () -> model.order("key", tin, many, 0)); break;
            case 3: case 4: same("leak", () -> x.leak(tin, few), () -> model.order("leak", tin, few, 0)); break;
            case 5: case 6: case 7:
                same("drop", () -> x.drop(tin, many, few), () -> model.order("drop", tin, many, few));
                break;
            case 8: case 9: same("rest", () -> x.rest(tin), () -> model.order("rest", tin, 0, 0)); break;
            case 10: same("limit", () -> x.limit(many), () -> model.order("limit", many, 0, 0)); break;
            case 11: same("tune", () -> x.tune(sound, many), () -> model.order("tune", sound, many, 0)); break;
            case 12: same("lift", () -> x.lift(), () -> model.order("lift", 0, 0, 0)); break;
            default: rewind(); break;
        }
    }

    private void rewind() {
        switch (upTo(3)) {
            case 0: same("save", () -> x.save(), () -> model.save()); break;
            case 1: same("restore", () -> x.restore(), () -> model.restore()); break;
            default: same("undo", () -> x.undo(), () -> model.undo()); break;
        }
    }

    private void look() {
        int a = upTo(1) == 0 ? about(4) : about(15);
        int b = about(upTo(1) == 0 ? 3 : 6);
        int c = about(2);
        boolean is = upTo(1) == 0;
        switch (upTo(23)) {
            case 0: same("tinOf", () -> x.tinOf(a, b), () -> model.tinOf(a, b)); break;
            case 1: same("soundOf", () -> x.soundOf(a, b), () -> model.soundOf(a, b)); break;
            case 2: same("barOf", () -> x.barOf(a, b), () -> model.barOf(a, b)); break;
            case 3: same("partOf", () -> x.partOf(a, b, c), () -> model.partOf(a, b, c)); break;
            case 4: same("at", () -> x.at(a), () -> model.at(a)); break;
            case 5: same("faults", () -> x.faults(b, is), () -> model.faults(b)); break;
            case 6: same("firstFault", () -> x.firstFault(b), () -> model.firstFault(b)); break;
            case 7: same("isClean", () -> x.isClean(), () -> model.isClean()); break;
            case 8: same("wouldFault", () -> x.wouldFault(a, b + c), () -> model.wouldFault(a, b + c)); break;
            case 9: same("bestHeight", () -> x.bestHeight(a), () -> model.bestHeight(a)); break;
            case 10: same("walk", () -> x.walk(is), () -> model.walk()); break;
            case 11: same("goes", () -> x.goes(is), () -> model.goes(is)); break;
            case 12: same("span", () -> x.span(), () -> model.span()); break;
            case 13: same("withPitch", () -> x.withPitch(a), () -> model.withPitch(a)); break;
            case 14: same("loudest", () -> x.loudest(b), () -> model.loudest(b)); break;
            case 15: same("highest", () -> x.highest(b), () -> model.highest(b)); break;
            case 16: same("refusal", () -> x.refusal(is), () -> model.refusal(is)); break;
            case 17: same("account", () -> x.account(a), () -> model.account(a)); break;
            case 18: same("isWell", () -> x.isWell(), () -> true); break;
            case 19: same("meanPitch", () -> x.meanPitch(), () -> model.meanPitch()); break;
            case 20: same("filledShare", () -> x.filledShare(), () -> model.filledShare()); break;
            case 21: same("errorPosition", () -> x.errorPosition(), () -> model.errorPosition()); break;
            default: lines(a, b); break;
        }
    }

    private void lines(int bar, int tin) {
        if (upTo(3) > 0) {
            same("line", () -> x.line(bar), () -> model.line(bar));
        } else {
            same("tinLine", () -> x.tinLine(tin), () -> model.tinLine(tin));
        }
        for (int i = 0; i <= upTo(30); i++) {
            int index = i;
            same("character", () -> x.character(index), () -> model.character(index));
        }
        int index = about(20);
        same("character", () -> x.character(index), () -> model.character(index));
    }

    private void text() {
        StringBuilder signs = new StringBuilder(order());
        int more = upTo(5);
        for (int i = 0; i < more; i++) {
            signs.append(';').append(order());
        }
        if (upTo(2) == 0) {
            spoil(signs);
        }
        for (int i = 0; i < signs.length(); i++) {
            char c = signs.charAt(i);
            same("append", () -> x.append(c), () -> model.append(c));
        }
        same("run of " + signs, () -> x.run(), () -> model.run());
        same("errorPosition of " + signs, () -> x.errorPosition(), () -> model.errorPosition());
        same("account", () -> x.account(10), () -> model.account(10));
    }

    private static void spoil(StringBuilder signs) {
        String letters = "abdefiklmnoprstuy0123456789 ;xB\u00e9\u0664";
        int place = upTo(signs.length() - 1);
        char c = letters.charAt(upTo(letters.length() - 1));
        switch (upTo(3)) {
            case 0: signs.setLength(place); break;
            case 1: signs.setCharAt(place, c); break;
            case 2: signs.deleteCharAt(place); break;
            default: signs.insert(place, c); break;
        }
    }

    private static String order() {
        switch (upTo(9)) {
            case 0: case 1: return "bar " + upTo(9);
            case 2: return "key " + upTo(4) + " " + upTo(12);
            case 3: return "leak " + upTo(3) + " " + upTo(4);
            case 4: case 5: return "drop " + upTo(3) + " " + upTo(9) + " " + upTo(9);
            case 6: return "rest " + upTo(3);
            case 7: return "lift";
            case 8: return "limit " + (upTo(1) == 0 ? "0" + upTo(9) : "" + upTo(12));
            default: return "tune " + upTo(16) + " " + upTo(9);
        }
    }
}
