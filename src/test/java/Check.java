import java.io.IOException;
import java.nio.charset.StandardCharsets;
import java.nio.file.Files;
import java.nio.file.Path;

/** What the tests share: comparing answers, counting what is wrong, putting texts into a phone. */
final class Check {
    interface Call {
        long answer();
    }

    static int wrong = 0;
    private static String sentence = null;
    private static String document = null;

    private Check() {
    }

    /** The sentence of the document that the next checks look at; a wrong answer is told with it. */
    static void sentence(String words) {
        sentence = null;
        if (!document().contains(words)) {
            fail("the document has no sentence: " + words);
        }
        sentence = words;
    }

    /** The document with a space for each run of spaces and line ends. */
    private static String document() {
        if (document == null) {
            try {
                document = Files.readString(Path.of("../shared/DOC.md")).replaceAll("\\s+", " ");
            } catch (IOException e) {
                throw new IllegalStateException("../shared/DOC.md cannot be read", e);
            }
        }
        return document;
    }

    static void fail(String what) {
        wrong++;
        System.out.println(what + (sentence == null ? "" : "\n    by: " + sentence));
    }

    static void equal(String what, long want, long got) {
        if (got != want) {
            fail(what + " answered " + got + ", due is " + want);
        }
    }

    static void equal(String what, boolean want, boolean got) {
        equal(what, want ? 1 : 0, got ? 1 : 0);
    }

    static void throwing(String what, Class<? extends RuntimeException> want, Call call) {
        try {
            long got = call.answer();
            fail(what + " answered " + got + ", due is " + want.getSimpleName());
        } catch (RuntimeException e) {
            if (e.getClass() != want) {
                fail(what + " threw " + e.getClass().getSimpleName() + ", due is " + want.getSimpleName());
            }
        }
    }

    static void noIndex(String what, Call call) {
        throwing(what, IndexOutOfBoundsException.class, call);
    }

    static void noArgument(String what, Call call) {
        throwing(what, IllegalArgumentException.class, call);
    }

    static void noState(String what, Call call) {
        throwing(what, IllegalStateException.class, call);
    }

    static int word(byte[] bytes, int from) {
        int result = 0;
        for (int i = from; i < from + 4; i++) {
            int next = i < bytes.length ? bytes[i] & 255 : 32;
            result = result << 8 | next;
        }
        return result;
    }

    /** Appends a text; spaces fill the last 20 bytes. */
    static int append(PhoneMemory x, String text) {
        byte[] bytes = text.getBytes(StandardCharsets.ISO_8859_1);
        int length = 0;
        for (int i = 0; i < bytes.length; i += 20) {
            length = x.append(word(bytes, i), word(bytes, i + 4), word(bytes, i + 8), word(bytes, i + 12), word(bytes, i + 16));
        }
        return length;
    }

    static int parse(PhoneMemory x, String text) {
        append(x, text);
        return x.parse(text.length());
    }

    static PhoneMemory phone(String text) {
        PhoneMemory x = new PhoneMemory();
        equal("parse of " + text, 0, parse(x, text));
        return x;
    }

    /** All that can be asked without changing anything, but for the number of changes that can be undone, as one text. */
    static String all(PhoneMemory x) {
        StringBuilder text = new StringBuilder();
        for (int what = 0; what < 8; what++) {
            text.append(x.size(what)).append(' ');
        }
        for (int p = 0; p < x.size(0); p++) {
            for (int what = 0; what < 8; what++) {
                text.append(x.program(p, what)).append(' ').append(x.notice(p, what)).append(' ');
                text.append(x.told(p, what)).append(' ');
            }
            text.append(x.picture(p)).append(' ').append(x.habit(p)).append(' ').append(x.promise(p)).append(' ');
            text.append(x.likeliest(p)).append(' ').append(x.waitOf(p)).append(' ').append(x.whyNotShow(p)).append(' ');
            for (int q = 0; q < x.size(0); q++) {
                text.append(x.followed(p, q)).append(' ').append(x.stateAfter(p, q)).append(' ');
            }
        }
        for (int k = 0; k < 25; k++) {
            text.append(x.log(k, 0)).append(' ').append(x.log(k, 1)).append(' ').append(x.log(k, 2)).append(' ');
        }
        for (int kind = 1; kind < 10; kind++) {
            text.append(x.account(kind)).append(' ');
        }
        return text.toString();
    }

    static void end(String test) {
        System.out.println(wrong == 0 ? test + ": all answers are as due" : test + ": " + wrong + " answers are not as due");
        if (wrong != 0) {
            System.exit(1);
        }
    }
}
