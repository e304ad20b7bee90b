import java.util.Random;

/** Runs of calls by a fixed seed, each call made to PhoneMemory and to Model: both must answer the same. */
public final class RandomRunsTest {
    private static final int CALLS = 512;
    private static final int QUESTIONS = 23;
    private static final String[] NAMES = {"append", "parse", "errorPosition", "size", "find", "program", "told", "picture",
        "notice", "habit", "promise", "followed", "likeliest", "victim", "freed", "waitOf", "whyNotShow", "trimsFor",
        "stateAfter", "waitsFor", "log", "account", "show", "home", "pass", "touch", "send", "read", "pin", "trim", "close",
        "setLimit", "setPolicy", "undo", "saveSnapshot", "restoreSnapshot"};

    private final Random random;
    private final PhoneMemory x = new PhoneMemory();
    private final Model model = new Model();
    private final StringBuilder trace = new StringBuilder();
    private int calls = 0;
    private boolean wrong = false;

    private RandomRunsTest(long seed) {
        random = new Random(seed);
    }

    public static void main(String[] args) {
        int runs = args.length > 0 ? Integer.parseInt(args[0]) : 600;
        long first = args.length > 1 ? Long.parseLong(args[1]) : 1;
        int wrongRuns = 0;
        for (long seed = first; seed < first + runs && wrongRuns < 3; seed++) {
            RandomRunsTest run = new RandomRunsTest(seed);
            run.go();
            if (run.wrong) {
                wrongRuns++;
                System.out.println("seed " + seed + ":\n" + run.trace);
            }
        }
        System.out.println(wrongRuns == 0 ? "RandomRunsTest: all answers are the same" : "RandomRunsTest: answers differ");
        if (wrongRuns != 0) {
            System.exit(1);
        }
    }

    private void go() {
        if (random.nextInt(20) > 0) {
            text(phoneText());
        }
        while (calls < CALLS && !wrong) {
            int dice = random.nextInt(1000);
            if (dice < 3) {
                text(random.nextInt(3) > 0 ? spoilt(phoneText()) : phoneText());
            } else if (dice < 13) {
                name();
            } else if (dice < 510) {
                change();
            } else if (dice < 540) {
                undoOrSnapshot();
            } else {
                question();
            }
            if (calls % 64 == 0) {
                everything();
            }
        }
    }

    private int any() {
        int[] odd = {-1, 9, 10, 240, 999, 1000, 2001, Integer.MIN_VALUE, Integer.MAX_VALUE, random.nextInt()};
        return odd[random.nextInt(odd.length)];
    }

    private int below(int bound) {
        return random.nextInt(40) == 0 ? any() : random.nextInt(bound);
    }

    private int someProgram() {
        return below(Math.max(1, x.size(0)));
    }

    private void change() {
        int[] weights = {26, 26, 26, 22, 22, 22, 22, 22, 22, 22, 22, 22, 24, 24, 24, 24, 24, 23, 25, 27, 28, 29, 29, 30, 31, 32};
        int call = weights[random.nextInt(weights.length)];
        int a = someProgram();
        int b = below(1000);
        if (call == 24) {
            a = random.nextInt(30) == 0 ? any() : 1 + random.nextInt(random.nextInt(3) == 0 ? 240 : 20);
        } else if (call == 25) {
            a = b;
        } else if (call == 28) {
            b = random.nextInt(2);
        } else if (call == 29) {
            a = below(6) + (random.nextInt(20) == 0 ? 0 : 1);
        } else if (call == 31) {
            a = random.nextInt(20) == 0 ? any() : 50 + random.nextInt(random.nextInt(4) == 0 ? 1951 : 250);
        } else if (call == 32) {
            a = below(3);
        }
        both(call, a, b, 0, 0, 0);
    }

    private void undoOrSnapshot() {
        int slot = random.nextInt(8) == 0 ? any() : random.nextInt(2);
        int dice = random.nextInt(10);
        both(dice < 6 ? 33 : dice < 8 ? 34 : 35, slot, 0, 0, 0, 0);
    }

    private void question() {
        int call = 2 + random.nextInt(QUESTIONS - 3);
        if (call == 4) {
            call = 19;
        }
        int a = someProgram();
        int b = someProgram();
        int c = someProgram();
        int d = someProgram();
        if (call == 3) {
            a = below(9);
        } else if (call == 5 || call == 6) {
            b = below(8);
        } else if (call == 8) {
            b = below(6);
        } else if (call == 13 || call == 14) {
            a = below(6) + 1;
        } else if (call == 19) {
            a = below(3);
        } else if (call == 20) {
            a = below(25);
            b = below(3);
        } else if (call == 21) {
            a = below(9) + 1;
        }
        both(call, a, b, c, d, 0);
    }

    /** All that can be asked for, without counting as calls: it alters nothing. */
    private void everything() {
        int counted = calls;
        for (int what = 0; what < 9; what++) {
            both(3, what, 0, 0, 0, 0);
            both(21, what + 1, 0, 0, 0, 0);
        }
        for (int k = 0; k < 26; k++) {
            for (int part = 0; part < 3; part++) {
                both(20, k, part, 0, 0, 0);
            }
        }
        int count = x.size(0);
        for (int p = 0; p < count; p++) {
            for (int what = 0; what < 8; what++) {
                both(5, p, what, 0, 0, 0);
                both(6, p, what, 0, 0, 0);
                both(8, p, what, 0, 0, 0);
            }
            for (int call : new int[] {7, 9, 10, 12, 15, 16, 17}) {
                both(call, p, 0, 0, 0, 0);
            }
            for (int q = 0; q < count; q++) {
                both(11, p, q, 0, 0, 0);
                both(18, p, q, 0, 0, 0);
            }
        }
        for (int kind = 1; kind <= 6; kind++) {
            both(13, kind, 0, 0, 0, 0);
            both(14, kind, 0, 0, 0, 0);
        }
        calls = counted;
    }

    private void name() {
        String[] endings = {"", "   ", "                    ", " x", "\n", "a"};
        append((random.nextInt(10) == 0 ? " " : "") + (char) ('a' + random.nextInt(10)) + endings[random.nextInt(6)]);
        both(4, 0, 0, 0, 0, 0);
    }

    private void append(String text) {
        byte[] bytes = text.getBytes(java.nio.charset.StandardCharsets.ISO_8859_1);
        for (int i = 0; i < bytes.length; i += 20) {
            both(0, Check.word(bytes, i), Check.word(bytes, i + 4), Check.word(bytes, i + 8), Check.word(bytes, i + 12),
                Check.word(bytes, i + 16));
        }
    }

    private void text(String text) {
        append(text);
        int length = random.nextInt(25) == 0 ? random.nextInt(720) : text.length();
        both(1, length, 0, 0, 0, 0);
        both(2, 0, 0, 0, 0, 0);
    }

    private int between(int least, int most) {
        int dice = random.nextInt(12);
        return dice == 0 ? least : dice == 1 ? most : least + random.nextInt(most - least + 1);
    }

    private String phoneText() {
        int count = between(1, random.nextInt(3) == 0 ? 10 : 6);
        int scale = random.nextInt(8) == 0 ? 400 : between(20, 120);
        int limit = Math.max(50, Math.min(2000, scale * between(1, 2 * count + 4) / 3));
        StringBuilder statements = new StringBuilder();
        for (int p = 0; p < count; p++) {
            int base = between(1, scale);
            statements.append("program ").append((char) ('a' + p)).append(' ').append(base).append(' ');
            statements.append(random.nextInt(3) == 0 ? 0 : between(0, Math.min(200, scale))).append(' ');
            statements.append(between(0, random.nextInt(3) == 0 ? 20 : 3)).append(' ');
            statements.append(between(base, Math.min(999, base * 3 + 20))).append(' ');
            statements.append(between(10, 100)).append(' ').append(between(1, base)).append(' ');
            statements.append(random.nextInt(3) == 0 ? 9999 : between(0, 400)).append(';');
            if (random.nextBoolean()) {
                statements.append("work ").append((char) ('a' + random.nextInt(p + 1))).append(' ');
                statements.append(between(1, random.nextBoolean() ? 60 : 7)).append(';');
            }
        }
        if (random.nextInt(3) == 0) {
            statements.append("costs ").append(between(0, 99)).append(' ').append(between(0, 99)).append(' ');
            statements.append(between(0, 99)).append(' ').append(between(0, 99)).append(';');
        }
        String[] policies = {"", "", "policy promise;", "policy size;", "policy recent;"};
        String text = "phone " + limit + ";" + statements + policies[random.nextInt(5)];
        return withoutSecondWork(text);
    }

    private String withoutSecondWork(String text) {
        String result = text;
        for (char name = 'a'; name <= 'j'; name++) {
            String work = "work " + name;
            int first = result.indexOf(work);
            int second = first < 0 ? -1 : result.indexOf(work, first + 1);
            while (second >= 0) {
                result = result.substring(0, second) + result.substring(result.indexOf(';', second) + 1);
                second = result.indexOf(work, first + 1);
            }
        }
        return result;
    }

    private String spoilt(String text) {
        String[] pieces = {" ", "\n", ";", "work a 5;", "costs 1 2 3 4;", "policy size;", "program", "program z 1 0 0 1 50 1 1;",
            "0", "1000", "99999", "abcdefghi", "A", "\u00ff", "x", "phone", "program a 5 5 5 5 50 5 5;"};
        int at = random.nextInt(text.length());
        String piece = pieces[random.nextInt(pieces.length)];
        switch (random.nextInt(4)) {
            case 0:
                return text.substring(0, at) + text.substring(at + 1);
            case 1:
                return text.substring(0, at) + piece + text.substring(at);
            case 2:
                int statement = text.indexOf(';', at) + 1;
                return text.substring(0, statement) + piece + text.substring(statement);
            default:
                return text.substring(0, at);
        }
    }

    private void both(int call, int a, int b, int c, int d, int e) {
        if (wrong) {
            return;
        }
        calls++;
        String got = answer(true, call, a, b, c, d, e);
        String want = answer(false, call, a, b, c, d, e);
        if (call < 2 || call >= 22 || !got.equals(want)) {
            trace.append(NAMES[call]).append('(').append(a).append(", ").append(b).append(", ").append(c).append(", ");
            trace.append(d).append(", ").append(e).append(") answered ").append(got).append(", model ").append(want).append('\n');
        }
        wrong = !got.equals(want);
    }

    private String answer(boolean real, int call, int a, int b, int c, int d, int e) {
        try {
            return String.valueOf(real ? ofClass(call, a, b, c, d, e) : ofModel(call, a, b, c, d, e));
        } catch (RuntimeException exception) {
            return exception.getClass().getName();
        }
    }

    private long ofClass(int call, int a, int b, int c, int d, int e) {
        switch (call) {
            case 0: return x.append(a, b, c, d, e);
            case 1: return x.parse(a);
            case 2: return x.errorPosition();
            case 3: return x.size(a);
            case 4: return x.find();
            case 5: return x.program(a, b);
            case 6: return x.told(a, b);
            case 7: return x.picture(a);
            case 8: return x.notice(a, b);
            case 9: return x.habit(a);
            case 10: return x.promise(a);
            case 11: return x.followed(a, b);
            case 12: return x.likeliest(a);
            case 13: return x.victim(a);
            case 14: return x.freed(a);
            case 15: return x.waitOf(a);
            case 16: return x.whyNotShow(a);
            case 17: return x.trimsFor(a);
            case 18: return x.stateAfter(a, b);
            case 19: return x.waitsFor(a, b, c, d);
            case 20: return x.log(a, b);
            case 21: return x.account(a);
            case 22: return x.show(a);
            case 23: return x.home();
            case 24: return x.pass(a);
            case 25: return x.touch(a);
            case 26: return x.send(a, b);
            case 27: return x.read();
            case 28: return x.pin(a, b != 0) ? 1 : 0;
            case 29: return x.trim(a);
            case 30: return x.close(a);
            case 31: return x.setLimit(a);
            case 32: return x.setPolicy(a);
            case 33: return x.undo();
            case 34: return x.saveSnapshot(a) ? 1 : 0;
            default: return x.restoreSnapshot(a);
        }
    }

    private long ofModel(int call, int a, int b, int c, int d, int e) {
        switch (call) {
            case 0: return model.append(a, b, c, d, e);
            case 1: return model.parse(a);
            case 2: return model.errorPosition();
            case 3: return model.size(a);
            case 4: return model.find();
            case 5: return model.program(a, b);
            case 6: return model.told(a, b);
            case 7: return model.picture(a);
            case 8: return model.notice(a, b);
            case 9: return model.habit(a);
            case 10: return model.promise(a);
            case 11: return model.followed(a, b);
            case 12: return model.likeliest(a);
            case 13: return model.victim(a);
            case 14: return model.freed(a);
            case 15: return model.waitOf(a);
            case 16: return model.whyNotShow(a);
            case 17: return model.trimsFor(a);
            case 18: return model.stateAfter(a, b);
            case 19: return model.waitsFor(a, b, c, d);
            case 20: return model.log(a, b);
            case 21: return model.account(a);
            case 22: return model.show(a);
            case 23: return model.home();
            case 24: return model.pass(a);
            case 25: return model.touch(a);
            case 26: return model.send(a, b);
            case 27: return model.read();
            case 28: return model.pin(a, b != 0) ? 1 : 0;
            case 29: return model.trim(a);
            case 30: return model.close(a);
            case 31: return model.setLimit(a);
            case 32: return model.setPolicy(a);
            case 33: return model.undo();
            case 34: return model.saveSnapshot(a) ? 1 : 0;
            default: return model.restoreSnapshot(a);
        }
    }
}
