import java.nio.charset.StandardCharsets;

/** What the tests share: comparing answers, counting what is wrong, putting texts into a phone. */
final class Check {
    interface Call {
        long answer();
    }

    static int wrong = 0;

    private Check() {
    }

    static void equal(String what, long want, long got) {
        if (got != want) {
            wrong++;
            System.out.println(what + " answered " + got + ", due is " + want);
        }
    }

    static void equal(String what, boolean want, boolean got) {
        equal(what, want ? 1 : 0, got ? 1 : 0);
    }

    static void throwing(String what, Class<? extends RuntimeException> want, Call call) {
        try {
            long got = call.answer();
            wrong++;
            System.out.println(what + " answered " + got + ", due is " + want.getSimpleName());
        } catch (RuntimeException e) {
            if (e.getClass() != want) {
                wrong++;
                System.out.println(what + " threw " + e.getClass().getSimpleName() + ", due is " + want.getSimpleName());
            }
        }
    }

    static void noIndex(String what, Call call) {
        throwing(what, IndexOutOfBoundsException.class, call);
    }

    static void noArgument(String what, Call call) {
        throwing(what, IllegalArgumentException.class, call);
    }

    static void noState(String what, Call call) {
        throwing(what, IllegalStateException.class, call);
    }

    static int word(byte[] bytes, int from) {
        int result = 0;
        for (int i = from; i < from + 4; i++) {
            int next = i < bytes.length ? bytes[i] & 255 : 32;
            result = result << 8 | next;
        }
        return result;
    }

    /** Appends a text; spaces fill the last 20 bytes. */
    static int append(PhoneMemory x, String text) {
        byte[] bytes = text.getBytes(StandardCharsets.ISO_8859_1);
        int length = 0;
        for (int i = 0; i < bytes.length; i += 20) {
            length = x.append(word(bytes, i), word(bytes, i + 4), word(bytes, i + 8), word(bytes, i + 12), word(bytes, i + 16));
        }
        return length;
    }

    static int parse(PhoneMemory x, String text) {
        append(x, text);
        return x.parse(text.length());
    }

    static PhoneMemory phone(String text) {
        PhoneMemory x = new PhoneMemory();
        equal("parse of " + text, 0, parse(x, text));
        return x;
    }

    static void end(String test) {
        System.out.println(wrong == 0 ? test + ": all answers are as due" : test + ": " + wrong + " answers are not as due");
        if (wrong != 0) {
            System.exit(1);
        }
    }
}
