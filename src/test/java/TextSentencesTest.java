/**
 * The sentences about texts (TEXT, promises 1 to 6) that name a boundary case: a test each, which quotes its sentence. Each
 * object is asked at most 512 times, as more is not promised.
 */
public final class TextSentencesTest {
    private static final String A = "program a 10 0 0 10 50 1 1;";

    public static void main(String[] args) {
        atMost700Bytes();
        spacesAndLineFeeds();
        allBytesBetweenTokens();
        allBytesInsideTokens();
        wordsOfOneToEightLetters();
        numbersOfOneToFourDigits();
        longerRuns();
        nameIsAnyWord();
        namesDiffer();
        earlierProgram();
        limitRange();
        programRanges();
        mostAndScreenFollowBase();
        everyRange();
        costsRange();
        costsWithoutTheStatement();
        atMostTenPrograms();
        onceEach();
        policyIfNotTold();
        code1();
        code2();
        code3();
        code4();
        code5();
        smallestPosition();
        smallestCode();
        positionOfTooShortTexts();
        newObject();
        bytesOfAppend();
        appendBeyond700();
        parseOnSuccess();
        parseOnError();
        parseLengths();
        parseThrows();
        positionOfLastParse();
        sizeOutOfRange();
        sizeNone();
        findSpacesBehind();
        findAnythingElse();
        findEmptiesTheBuffer();
        findNone();
        Check.end("TextSentencesTest");
    }

    private static void parses(String text) {
        PhoneMemory x = new PhoneMemory();
        Check.equal("parse of " + text, 0, Check.parse(x, text));
        Check.equal("errorPosition behind " + text, -1, x.errorPosition());
    }

    private static void fails(String text, int code, int position) {
        PhoneMemory x = new PhoneMemory();
        Check.equal("parse of " + text, code, Check.parse(x, text));
        Check.equal("errorPosition behind " + text, position, x.errorPosition());
    }

    private static String spaces(int count) {
        return " ".repeat(count);
    }

    private static String programs(int count) {
        StringBuilder text = new StringBuilder();
        for (int p = 0; p < count; p++) {
            text.append("program ").append((char) ('a' + p)).append(" 1 0 0 1 50 1 1;");
        }
        return text.toString();
    }

    // ---- TEXT

    private static void atMost700Bytes() {
        Check.sentence("A phone is described by a text of at most 700 bytes.");
        String first = "phone 50;";
        String last = "policy size;";
        PhoneMemory x = new PhoneMemory();
        Check.equal("length of a full buffer", 700, Check.append(x, first + spaces(700 - 21) + last));
        Check.equal("700 bytes, the last one a token", 0, x.parse(700));
        Check.equal("policy at the end of 700 bytes", 1, x.size(6));
        PhoneMemory y = new PhoneMemory();
        Check.append(y, first + spaces(700 - 21) + last);
        Check.equal("699 of them", 1, y.parse(699));
        Check.equal("699 bytes end too early", 699, y.errorPosition());
        PhoneMemory z = new PhoneMemory();
        Check.append(z, first + spaces(700 - 20) + "policy size");
        Check.equal("700 bytes that end too early", 1, z.parse(700));
        Check.equal("they end at 700", 700, z.errorPosition());
        PhoneMemory full = new PhoneMemory();
        StringBuilder text = new StringBuilder("phone 50;");
        for (int p = 0; p < 10; p++) {
            text.append("program abcdefg").append((char) ('a' + p)).append(" 1 0 0 1 50 1 1;");
            text.append("work abcdefg").append((char) ('a' + p)).append(" 60;");
        }
        text.append("costs 99 99 99 99;policy promise;");
        text.append("\n".repeat(700 - text.length()));
        Check.equal("700 bytes with all there can be", 0, Check.parse(full, text.toString()));
        Check.equal("ten programs in 700 bytes", 10, full.size(0));
        Check.equal("work of the tenth one", 60, full.told(9, 7));
    }

    private static void spacesAndLineFeeds() {
        Check.sentence("Spaces (byte 32) and line feeds (byte 10) separate tokens and are otherwise ignored.");
        parses("  \n phone \n\n 50 \n ; \n\n   ");
        parses("phone50;program a10 0\n0 10 50 1 1;work a1;policy\nsize;");
        fails("pho ne 50;", 1, 0);
        fails("pho\nne 50;", 1, 0);
        fails("phone 5 0;", 3, 6);
        fails("phone 5\n0;", 3, 6);
        fails("phone50;programa 10 0 0 10 50 1 1;", 1, 8);
        fails("phone 50;policysize;", 1, 9);
    }

    /** Behind the word phone: a letter goes on with it, a digit begins the number, all else but spaces is not allowed. */
    private static void allBytesBetweenTokens() {
        Check.sentence("any other byte, is an invalid token.");
        for (int b = 0; b < 256; b++) {
            String text = "phone" + (char) b + "50;";
            if (b == ' ' || b == '\n' || b >= '0' && b <= '9') {
                parses(text);
            } else {
                fails(text, 1, b >= 'a' && b <= 'z' ? 0 : 5);
            }
            if (b == ' ' || b == '\n') {
                parses("phone 50;" + (char) b);
            } else {
                fails("phone 50;" + (char) b, 1, 9);
            }
        }
    }

    /** Inside a name or a number each byte that does not go on with it ends it. */
    private static void allBytesInsideTokens() {
        Check.sentence("A token is a word (a maximal run of letters a to z, 1 to 8 letters), a number (a maximal run of digits, "
            + "1 to 4 digits) or a semicolon.");
        for (int b = 0; b < 256; b++) {
            boolean letter = b >= 'a' && b <= 'z';
            boolean digit = b >= '0' && b <= '9';
            boolean separates = b == ' ' || b == '\n';
            // the name is a, then base is 20, or the name goes on, or base begins with the byte
            String name = "phone 50;program a" + (char) b + "20 0 0 400 50 1 1;";
            if (letter || separates || digit && b <= '3') {
                parses(name);
            } else if (digit) {
                fails(name, 3, 18);
            } else {
                fails(name, 1, 18);
            }
            String number = "phone 5" + (char) b + "0;";
            if (digit) {
                parses(number);
            } else {
                fails(number, 3, 6);
            }
        }
    }

    private static void wordsOfOneToEightLetters() {
        Check.sentence("A token is a word (a maximal run of letters a to z, 1 to 8 letters)");
        String letters = "azazazazaz";
        for (int length = 1; length <= 8; length++) {
            String name = letters.substring(0, length);
            PhoneMemory x = Check.phone("phone 50;program " + name + " 10 0 0 10 50 1 1;work " + name + " 7;");
            Check.equal("work of a name of " + length, 7, x.told(0, 7));
            Check.append(x, name);
            Check.equal("find of a name of " + length, 0, x.find());
        }
        fails("phone 50;program azazazaza 10 0 0 10 50 1 1;", 1, 17);
        fails("phone 50;program azazazazaz 10 0 0 10 50 1 1;", 1, 17);
        fails("phone 50;program azazazaz 10 0 0 10 50 1 1;work azazazaza 1;", 1, 48);
    }

    private static void numbersOfOneToFourDigits() {
        Check.sentence("a number (a maximal run of digits, 1 to 4 digits)");
        Check.equal("two digits", 99, Check.phone("phone 99;").size(1));
        Check.equal("three digits", 999, Check.phone("phone 999;").size(1));
        Check.equal("four digits", 1999, Check.phone("phone 1999;").size(1));
        Check.equal("zeros before it", 99, Check.phone("phone 0099;").size(1));
        PhoneMemory x = Check.phone("phone 50;program a 0001 0000 0000 0001 0010 0001 0000;work a 0060;costs 0000 0001 0099 0;");
        int[] told = {1, 0, 0, 1, 10, 1, 0, 60};
        for (int what = 0; what < 8; what++) {
            Check.equal("told with zeros " + what, told[what], x.told(0, what));
        }
    }

    private static void longerRuns() {
        Check.sentence("A longer run, and any other byte, is an invalid token.");
        fails("phone 00099;", 1, 6);
        fails("phone 10000;", 1, 6);
        fails("phone 000000000000000000000000000000000000000000000000000000000099;", 1, 6);
        // 4294967346 is 50 in the arithmetic of int
        fails("phone 4294967346;", 1, 6);
        fails("phonephon 50;", 1, 0);
        fails("phonephonephonephonephonephone 50;", 1, 0);
        fails("phone 50;program a 10 0 0 10 50 1 00001;", 1, 34);
        fails("phone 50;program a 10 0 0 10 50 1 10000;", 1, 34);
        fails("phone 50;" + A + "work a 00001;", 1, 43);
        fails("phone 50;costs 1 2 3 00004;", 1, 21);
        fails("phone 50;policy promisepr;", 1, 16);
        fails("a".repeat(700), 1, 0);
        fails("phone " + "7".repeat(694), 1, 6);
    }

    private static void nameIsAnyWord() {
        Check.sentence("name is any word;");
        String[] words = {"phone", "program", "work", "costs", "policy", "promise", "size", "recent"};
        StringBuilder text = new StringBuilder("phone 50;");
        for (int i = 0; i < words.length; i++) {
            text.append("program ").append(words[i]).append(" 1 0 0 1 50 1 1;");
            text.append("work ").append(words[i]).append(' ').append(i + 1).append(';');
        }
        PhoneMemory x = Check.phone(text.toString());
        for (int i = 0; i < words.length; i++) {
            Check.equal("work of " + words[i], i + 1, x.told(i, 7));
            Check.append(x, words[i]);
            Check.equal("find of " + words[i], i, x.find());
        }
        fails("phone 50;program 1 10 0 0 10 50 1 1;", 1, 17);
        fails("phone 50;program ; 10 0 0 10 50 1 1;", 1, 17);
    }

    private static void namesDiffer() {
        Check.sentence("2: a name that an earlier program has;");
        String[] names = {"a", "aa", "aaaaaaaa", "aaaaaaab", "baaaaaaa", "aaaaaaa", "z", "zzzzzzzz", "b", "ab"};
        StringBuilder text = new StringBuilder("phone 50;");
        for (String name : names) {
            text.append("program ").append(name).append(" 1 0 0 1 50 1 1;");
        }
        PhoneMemory x = Check.phone(text.toString());
        for (int p = 0; p < names.length; p++) {
            Check.append(x, names[p]);
            Check.equal("find of " + names[p], p, x.find());
        }
        for (int p = 0; p < 9; p++) {
            StringBuilder twice = new StringBuilder("phone 50;");
            for (int q = 0; q < 9; q++) {
                twice.append("program ").append(names[q]).append(" 1 0 0 1 50 1 1;");
            }
            fails(twice + "program " + names[p] + " 1 0 0 1 50 1 1;", 2, twice.length() + 8);
        }
    }

    private static void earlierProgram() {
        Check.sentence("program is a word that is the name of an earlier program;");
        parses("phone 50;" + A + "work a 1;");
        parses("phone 50;" + A + "program b 1 0 0 1 50 1 1;work a 1;");
        parses("phone 50;" + A + "program b 1 0 0 1 50 1 1;work b 1;work a 1;");
        fails("phone 50;work a 1;" + A, 4, 14);
        fails("phone 50;" + A + "work b 1;program b 1 0 0 1 50 1 1;", 4, 41);
    }

    // ---- ranges

    /** The number stands between before and behind; least and most are allowed, what is one off is not. */
    private static void range(String before, int least, int most, String behind) {
        parses(before + least + behind);
        parses(before + most + behind);
        if (least > 0) {
            fails(before + (least - 1) + behind, 3, before.length());
        }
        if (least > 1) {
            fails(before + 0 + behind, 3, before.length());
        }
        fails(before + (most + 1) + behind, most < 9999 ? 3 : 1, before.length());
        fails(before + 9999 + 0 + behind, 1, before.length());
    }

    private static void limitRange() {
        Check.sentence("limit (pages of the memory) is 50 to 2000;");
        range("phone ", 50, 2000, ";");
        Check.equal("least limit", 50, Check.phone("phone 50;").size(1));
        Check.equal("greatest limit", 2000, Check.phone("phone 2000;").size(1));
        fails("phone 9999;", 3, 6);
    }

    private static void programRanges() {
        Check.sentence("base (pages at the beginning) 1 to 400, cache (pages of its cache) 0 to 200, grow (pages for each minute "
            + "in which it is shown) 0 to 20,");
        String program = "phone 50;program a ";
        range(program, 1, 400, " 0 0 999 50 1 0;");
        range(program + "40 ", 0, 200, " 0 999 50 1 0;");
        range(program + "40 0 ", 0, 20, " 999 50 1 0;");
        Check.sentence("ratio (percent of its pages when it is zipped) 10 to 100,");
        range(program + "40 0 0 40 ", 10, 100, " 1 0;");
        Check.sentence("patience 0 to 9999;");
        range(program + "40 0 0 40 50 1 ", 0, 9999, ";");
        int[][] told = {{1, 0, 0, 1, 10, 1, 0, 0}, {400, 200, 20, 999, 100, 400, 9999, 0}};
        String[] texts = {"1 0 0 1 10 1 0", "400 200 20 999 100 400 9999"};
        for (int i = 0; i < 2; i++) {
            PhoneMemory x = Check.phone(program + texts[i] + ";");
            for (int what = 0; what < 8; what++) {
                Check.equal("told " + what + " of " + texts[i], told[i][what], x.told(0, what));
            }
        }
    }

    private static void mostAndScreenFollowBase() {
        Check.sentence("most (the greatest number of pages, without the cache) base to 999,");
        for (int base : new int[] {1, 2, 40, 399, 400}) {
            range("phone 50;program a " + base + " 0 0 ", base, 999, " 50 1 0;");
        }
        Check.sentence("screen (pages when it is saved) 1 to base,");
        for (int base : new int[] {1, 2, 40, 399, 400}) {
            range("phone 50;program a " + base + " 0 0 999 50 ", 1, base, " 0;");
        }
        // the base of the program before it does not count
        parses("phone 50;program a 400 0 0 400 50 400 0;program b 2 0 0 2 50 2 0;");
        fails("phone 50;program a 400 0 0 400 50 400 0;program b 2 0 0 2 50 3 0;", 3, 61);
        fails("phone 50;program a 2 0 0 2 50 2 0;program b 400 0 0 399 50 2 0;", 3, 52);
    }

    private static void everyRange() {
        Check.sentence("every (minutes between two pages that its work needs while it rests) 1 to 60;");
        range("phone 50;" + A + "work a ", 1, 60, ";");
    }

    private static void costsRange() {
        Check.sentence("new, zip, saved and warm 0 to 99 (10, 2, 5 and 20 without the statement).");
        range("phone 50;costs ", 0, 99, " 0 0 0;");
        range("phone 50;costs 0 ", 0, 99, " 0 0;");
        range("phone 50;costs 0 0 ", 0, 99, " 0;");
        range("phone 50;costs 0 0 0 ", 0, 99, ";");
        costs("costs 0 0 0 0;", 0, 0, 0, 0);
        costs("costs 99 0 0 0;", 99 * 7, 0, 0, 0);
        costs("costs 0 99 0 0;", 0, 0, 99 * 7, 0);
        costs("costs 0 0 99 0;", 0, 0, 0, 99 * 7);
        costs("costs 0 0 0 99;", 0, 99, 99, 0);
    }

    private static void costsWithoutTheStatement() {
        Check.sentence("(10, 2, 5 and 20 without the statement)");
        costs("", 70, 20, 20 + 2 * 7, 35);
    }

    /** The waits of a program with 7 pages that is closed, resting, zipped and saved. */
    private static void costs(String statement, int closed, int resting, int zipped, int saved) {
        PhoneMemory x = Check.phone("phone 50;program a 7 0 0 7 50 1 9999;" + statement);
        Check.equal("closed with " + statement, closed, x.waitOf(0));
        x.show(0);
        x.home();
        Check.equal("resting with " + statement, resting, x.waitOf(0));
        x.trim(3);
        Check.equal("frozen with " + statement, resting, x.waitOf(0));
        x.trim(2);
        Check.equal("zipped with " + statement, zipped, x.waitOf(0));
        x.trim(4);
        Check.equal("saved with " + statement, saved, x.waitOf(0));
    }

    private static void atMostTenPrograms() {
        Check.sentence("There are at most 10 programs.");
        for (int count = 0; count <= 10; count++) {
            Check.equal(count + " programs", count, Check.phone("phone 50;" + programs(count)).size(0));
        }
        String ten = "phone 50;" + programs(10);
        fails(ten + "program k 1 0 0 1 50 1 1;", 5, ten.length());
        PhoneMemory x = Check.phone(ten + "work j 3;work a 4;");
        Check.equal("the tenth one works", 3, x.told(9, 7));
        Check.equal("the first one works", 4, x.told(0, 7));
        Check.append(x, "j");
        Check.equal("the tenth one is found", 9, x.find());
        Check.noIndex("there is no eleventh one", () -> x.told(10, 0));
    }

    private static void onceEach() {
        Check.sentence("costs and policy can occur once, work once for each program;");
        StringBuilder text = new StringBuilder("phone 50;policy recent;costs 1 2 3 4;");
        text.append(programs(10));
        for (int p = 0; p < 10; p++) {
            text.append("work ").append((char) ('a' + p)).append(' ').append(p + 1).append(';');
        }
        parses(text.toString());
        fails(text + "costs 1 2 3 4;", 2, text.length());
        fails(text + "policy recent;", 2, text.length());
        for (int p = 0; p < 10; p++) {
            fails(text + "work " + (char) ('a' + p) + " 1;", 2, text.length() + 5);
        }
        // once in each text, so again in the next one
        PhoneMemory x = new PhoneMemory();
        for (int i = 0; i < 3; i++) {
            Check.equal("text " + i, 0, Check.parse(x, "phone 50;costs 1 2 3 4;" + A + "policy size;work a 1;"));
        }
    }

    private static void policyIfNotTold() {
        Check.sentence("the policy is promise if it is not told.");
        Check.equal("policy of an empty phone", 0, Check.phone("phone 50;").size(6));
        PhoneMemory x = Check.phone("phone 50;policy recent;");
        Check.equal("recent is told", 2, x.size(6));
        for (int i = 0; i < 2; i++) {
            Check.parse(x, "phone 50;" + A);
            Check.equal("nothing is told behind recent, " + i, 0, x.size(6));
        }
        Check.parse(x, "phone 50;policy size;");
        Check.equal("size is told", 1, x.size(6));
        Check.parse(x, "phone 50;policy promise;");
        Check.equal("promise is told", 0, x.size(6));
    }

    // ---- errors

    private static void code1() {
        Check.sentence("1: an invalid token, a token that the grammar does not allow at this place, or a text that ends too early.");
        // each of these tokens stands at each place of a text with all statements
        String[] tokens = {"phone", "60", ";", "program", "ab", "9", "0", "0", "9", "50", "1", "7", ";", "work", "ab", "5", ";",
            "costs", "1", "2", "3", "4", ";", "policy", "size", ";"};
        String[] kinds = {"phone", "#", ";", "program", "name", "#", "#", "#", "#", "#", "#", "#", ";", "work", "program", "#", ";",
            "costs", "#", "#", "#", "#", ";", "policy", "policies", ";"};
        StringBuilder before = new StringBuilder();
        for (int i = 0; i < tokens.length; i++) {
            String rest = " " + String.join(" ", java.util.Arrays.copyOfRange(tokens, i + 1, tokens.length));
            for (String wrong : new String[] {"X", "\t", "123456", "abcdefghi"}) {
                fails(before + wrong + rest, 1, before.length());
            }
            if (!kinds[i].equals(";")) {
                fails(before + ";" + rest, 1, before.length());
            }
            if (!kinds[i].equals("#")) {
                fails(before + "50" + rest, 1, before.length());
            }
            if (!kinds[i].equals("name") && !kinds[i].equals("program")) {
                fails(before + "other" + rest, 1, before.length());
            }
            if (i > 0) {
                fails(before.toString(), isStatementEnd(tokens[i - 1]) ? 0 : 1, isStatementEnd(tokens[i - 1]) ? -1 : before.length());
            }
            before.append(tokens[i]).append(' ');
        }
        parses(before.toString());
    }

    private static boolean isStatementEnd(String token) {
        return token.equals(";");
    }

    private static void code2() {
        Check.sentence("2: a name that an earlier program has; the program of a work that has one already; the word of a second "
            + "costs or policy.");
        fails("phone 50;" + A + "program a 10 0 0 10 50 1 1;", 2, 44);
        fails("phone 50;" + A + "program a", 2, 44);
        fails("phone 50;" + A + "work a 60;work a 60;", 2, 51);
        fails("phone 50;" + A + "work a 60;work a", 2, 51);
        fails("phone 50;costs 1 1 1 1;costs 1 1 1 1;", 2, 23);
        fails("phone 50;costs 1 1 1 1;costs", 2, 23);
        fails("phone 50;policy recent;policy size;", 2, 23);
        fails("phone 50;policy recent;policy", 2, 23);
        fails("phone 50;policy recent;costs 1 1 1 1;policy recent;", 2, 37);
    }

    private static void code3() {
        Check.sentence("3: a number out of its range.");
        fails("phone 49;", 3, 6);
        fails("phone 50;program a 0 0 0 10 50 1 1;", 3, 19);
        fails("phone 50;program a 10 201 0 10 50 1 1;", 3, 22);
        fails("phone 50;program a 10 0 21 10 50 1 1;", 3, 24);
        fails("phone 50;program a 10 0 0 9 50 1 1;", 3, 26);
        fails("phone 50;program a 10 0 0 10 101 1 1;", 3, 29);
        fails("phone 50;program a 10 0 0 10 50 11 1;", 3, 32);
        fails("phone 50;" + A + "work a 61", 3, 43);
        fails("phone 50;costs 1 2 3 100", 3, 21);
    }

    private static void code4() {
        Check.sentence("4: a program that is no earlier one.");
        fails("phone 50;work a 1;", 4, 14);
        fails("phone 50;work a", 4, 14);
        fails("phone 50;" + A + "work aa 1;", 4, 41);
        fails("phone 50;program aa 10 0 0 10 50 1 1;work a 1;", 4, 42);
        fails("phone 50;" + A + "work work 1;", 4, 41);
        fails("phone 50;work program 1;", 4, 14);
    }

    private static void code5() {
        Check.sentence("5: the word of an eleventh program.");
        String ten = "phone 50;" + programs(10);
        fails(ten + "program", 5, ten.length());
        fails(ten + " \n program", 5, ten.length() + 3);
        fails(ten + "program k", 5, ten.length());
        fails(ten + "program a 1", 5, ten.length());
        fails(ten + "program ;", 5, ten.length());
        fails(ten + "program X", 5, ten.length());
        fails(ten + "programs", 1, ten.length());
        fails(ten + "policy size;program", 5, ten.length() + 12);
    }

    private static void smallestPosition() {
        Check.sentence("The error with the smallest position is reported.");
        fails("phone 49;phone", 3, 6);
        fails("phone 2001 X", 3, 6);
        fails("phone 50;program a 10 0 0 9 9 0 99999", 3, 26);
        fails("phone 50;work a 0;", 4, 14);
        fails("phone 50;" + A + "program a 0 0 0 0 0 0 0;", 2, 44);
        fails("phone 50;" + A + "work a 0;work b 0;", 3, 43);
        fails("phone 50;costs 1 1 1 100;costs 1 1 1 1;", 3, 21);
        fails("phone 50;policy big;policy size;policy size;", 1, 16);
        String ten = "phone 50;" + programs(10);
        fails(ten + "work k 1;program", 4, ten.length() + 5);
        fails("Xphone 49;", 1, 0);
    }

    /** A word that comes a second time where the grammar does not allow it: 1 and 2 would apply. */
    private static void smallestCode() {
        Check.sentence("If several codes apply at one position, the smallest is reported.");
        fails("phone 50;costs costs 1 1 1 1;", 1, 15);
        fails("phone 50;costs 1 1 1 costs", 1, 21);
        fails("phone 50;costs 1 1 1 1 costs", 1, 23);
        fails("phone 50;policy policy;", 1, 16);
        fails("phone 50;policy size policy size;", 1, 21);
        // a number out of its range where none is allowed: 1 and 3
        fails("phone 50 1;", 1, 9);
        fails("phone 50;" + A + "work a 1 61;", 1, 45);
        fails("phone 50;0;", 1, 9);
        // the word of an eleventh program where none is allowed: 1 and 5
        String ten = "phone 50;" + programs(10);
        fails(ten + "work a program", 1, ten.length() + 7);
        fails(ten + "policy program", 1, ten.length() + 7);
        // as a program of work it is no earlier one: 4 and 5
        fails(ten + "work program 1;", 4, ten.length() + 5);
        // no earlier program, but a second costs as well: 2 would need the place of a statement
        fails("phone 50;costs 1 1 1 1;work costs 1;", 4, 28);
    }

    private static void positionOfTooShortTexts() {
        Check.sentence("The position of an error is the index of the first byte of its token; if the text ends too early, it is the "
            + "length of the text.");
        String text = "phone 50;program a 9 0 0 9 10 1 0;work a 5;costs 1 2 3 4;policy size;";
        for (int length = 0; length <= text.length(); length++) {
            String part = text.substring(0, length);
            int start = length;
            while (start > 0 && Character.isLetterOrDigit(text.charAt(start - 1))) {
                start--;
            }
            String last = part.substring(start);
            boolean cut = length < text.length() && !last.isEmpty() && Character.isLetterOrDigit(text.charAt(length));
            if (part.endsWith(";")) {
                parses(part);
            } else if (cut) {
                fails(part, Character.isDigit(last.charAt(0)) ? 3 : 1, start);
            } else {
                fails(part, 1, length);
                fails(part + "   ", 1, length + 3);
                fails(part + "\n", 1, length + 1);
            }
        }
    }

    // ---- promises 1 to 6

    private static void newObject() {
        Check.sentence("Creates a phone with 100 pages, without programs, with an empty input buffer.");
        PhoneMemory x = new PhoneMemory();
        Check.equal("limit", 100, x.size(1));
        Check.equal("programs", 0, x.size(0));
        Check.noArgument("empty buffer", () -> x.parse(1));
        Check.equal("find in an empty buffer", -1, x.find());
        Check.equal("parse of an empty buffer", 1, x.parse(0));
        Check.equal("position", 0, x.errorPosition());
        Check.equal("limit stays", 100, x.size(1));
        PhoneMemory y = new PhoneMemory();
        Check.equal("a phone without programs goes on", 0, y.pass(240));
        Check.equal("its minutes", 240, y.size(3));
        Check.equal("its limit", 0, y.setLimit(50));
        for (int kind = 1; kind <= 6; kind++) {
            Check.equal("its victim " + kind, -1, y.victim(kind));
            Check.equal("what it frees " + kind, 0, y.freed(kind));
        }
        Check.equal("its changes", 2, y.size(8));
        Check.equal("its snapshot", false, y.saveSnapshot(0));
        Check.equal("undone", 1, y.undo());
        Check.equal("limit of before", 100, y.size(1));
        Check.equal("restored", 240, y.restoreSnapshot(0));
        Check.equal("limit restored", 50, y.size(1));
    }

    private static void bytesOfAppend() {
        Check.sentence("Appends 20 bytes to the input buffer: the four bytes of each argument, the most significant byte first.");
        // each of the 20 bytes once as the one that is invalid; a byte from 128 on makes the argument negative
        for (int place = 0; place < 20; place++) {
            for (int value : new int[] {0, 1, 127, 128, 255}) {
                int[] fours = {0x20202020, 0x20202020, 0x20202020, 0x20202020, 0x20202020};
                int shift = 24 - 8 * (place % 4);
                fours[place / 4] = fours[place / 4] & ~(255 << shift) | value << shift;
                PhoneMemory x = new PhoneMemory();
                Check.equal("length", 20, x.append(fours[0], fours[1], fours[2], fours[3], fours[4]));
                Check.equal("byte " + value + " at " + place, 1, x.parse(20));
                Check.equal("its place " + place, place, x.errorPosition());
            }
        }
    }

    private static void appendBeyond700() {
        Check.sentence("Returns the new length of the buffer; NONE, with nothing appended, if it would exceed 700.");
        PhoneMemory x = new PhoneMemory();
        for (int i = 1; i <= 35; i++) {
            Check.equal("append " + i, 20 * i, Check.append(x, i == 1 ? "phone 50;" : i == 35 ? "policy size;" : " "));
        }
        Check.equal("append 36", -1, x.append(-1, -1, -1, -1, -1));
        Check.equal("append 37", -1, x.append(0, 0, 0, 0, 0));
        Check.noArgument("nothing is appended", () -> x.parse(701));
        Check.equal("the bytes before stay", 0, x.parse(700));
        Check.equal("the last ones too", 1, x.size(6));
        Check.equal("empty again", 20, x.append(0, 0, 0, 0, 0));
    }

    private static void parseOnSuccess() {
        Check.sentence("On success the described phone replaces the current one.");
        StringBuilder text = new StringBuilder("phone 2000;");
        for (int p = 0; p < 10; p++) {
            text.append("program ").append((char) ('a' + p)).append(" 1 1 1 9 50 1 0;work ").append((char) ('a' + p)).append(" 1;");
        }
        PhoneMemory x = Check.phone(text.toString());
        for (int p = 0; p < 10; p++) {
            x.show(p);
            x.touch(p + 1);
            x.pin(p, true);
            x.pass(1);
            x.send(p == 0 ? 0 : p - 1, 9);
        }
        x.show(0);
        x.setPolicy(2);
        Check.equal("again", 0, Check.parse(x, text.toString()));
        for (int p = 0; p < 10; p++) {
            for (int what = 0; what < 8; what++) {
                Check.equal("property " + what + " of " + p, 0, x.program(p, what));
            }
            Check.equal("picture of " + p, 0, x.picture(p));
            Check.equal("notice of " + p, -1, x.notice(p, 0));
            Check.equal("habit of " + p, 600, x.habit(p));
            Check.equal("promise of " + p, 600, x.promise(p));
            Check.equal("likeliest of " + p, -1, x.likeliest(p));
            Check.equal("followed by the next one of " + p, 0, x.followed(p, (p + 1) % 10));
        }
        int[] sizes = {10, 2000, 0, 0, -1, -1, 0, 0, 0};
        for (int what = 0; what < 9; what++) {
            Check.equal("size " + what, sizes[what], x.size(what));
            Check.equal("account of " + (what + 1), 0, x.account(what + 1));
        }
        Check.equal("log", -1, x.log(0, 0));
        Check.equal("to fewer programs", 0, Check.parse(x, "phone 60;" + programs(1)));
        Check.noIndex("the second one is gone", () -> x.program(1, 0));
        Check.append(x, "b");
        Check.equal("its name is gone", -1, x.find());
        Check.equal("to none", 0, Check.parse(x, "phone 60;"));
        Check.noIndex("the first one is gone", () -> x.program(0, 0));
    }

    private static void parseOnError() {
        Check.sentence("On a parse error nothing changes except that the whole buffer is emptied; it is also empty after a success.");
        PhoneMemory x = Check.phone("phone 70;" + A + "policy size;");
        x.show(0);
        x.touch(3);
        x.saveSnapshot(0);
        x.touch(4);
        x.saveSnapshot(1);
        String before = Check.all(x);
        // an error at the very end: all of another phone has been read by then
        Check.equal("error", 5, Check.parse(x, "phone 60;" + programs(10) + "costs 1 1 1 1;policy recent;work a 2;program"));
        Check.equal("nothing has changed", true, before.equals(Check.all(x)));
        Check.noArgument("empty behind the error", () -> x.parse(1));
        Check.equal("changes stay", 3, x.size(8));
        Check.append(x, "a");
        Check.equal("the name stays", 0, x.find());
        Check.append(x, "j");
        Check.equal("the other names have not come", -1, x.find());
        Check.equal("undo", 2, x.undo());
        Check.equal("picture", 3, x.picture(0));
        Check.equal("slot 1 stays", 0, x.restoreSnapshot(1));
        Check.equal("picture of slot 1", 97, x.picture(0));
        Check.equal("slot 0 stays", 0, x.restoreSnapshot(0));
        Check.equal("picture of slot 0", 3, x.picture(0));
        Check.append(x, "phone 60;            X");
        Check.equal("success with bytes behind", 0, x.parse(9));
        Check.noArgument("empty behind the success", () -> x.parse(1));
        Check.append(x, "phone X              X");
        Check.equal("an error with bytes behind", 1, x.parse(7));
        Check.noArgument("empty behind it", () -> x.parse(1));
        Check.equal("20 bytes then", 20, x.append(0, 0, 0, 0, 0));
    }

    private static void parseLengths() {
        Check.sentence("`length`: 0 to the length of the buffer");
        PhoneMemory x = new PhoneMemory();
        Check.append(x, "phone 50;");
        Check.equal("0 of 20", 1, x.parse(0));
        Check.equal("position of nothing", 0, x.errorPosition());
        Check.noArgument("the buffer is empty", () -> x.parse(1));
        Check.append(x, "phone 50;");
        Check.equal("1 of 20", 1, x.parse(1));
        Check.equal("position of p", 0, x.errorPosition());
        Check.append(x, "phone 51;");
        Check.equal("20 of 20", 0, x.parse(20));
        Check.equal("limit by 20", 51, x.size(1));
        Check.append(x, "phone 52;phone 60;");
        Check.equal("9 of 20", 0, x.parse(9));
        Check.equal("limit by 9", 52, x.size(1));
        Check.append(x, "phone 1999;");
        Check.equal("9 of 20, inside a number", 1, x.parse(9));
        Check.equal("its end", 9, x.errorPosition());
    }

    private static void parseThrows() {
        Check.sentence("Throws `IllegalArgumentException` if length is out of range");
        PhoneMemory x = new PhoneMemory();
        Check.noArgument("1 of none", () -> x.parse(1));
        Check.append(x, "phone 50;");
        for (int length : new int[] {-1, 21, 40, 700, 701, Integer.MIN_VALUE, Integer.MAX_VALUE}) {
            Check.noArgument("length " + length, () -> x.parse(length));
        }
        Check.equal("the position stays", -1, x.errorPosition());
        Check.equal("the buffer stays", 0, x.parse(20));
        Check.equal("limit", 50, x.size(1));
        for (int i = 0; i < 35; i++) {
            Check.append(x, i == 0 ? "phone 60;" : " ");
        }
        Check.noArgument("701 of 700", () -> x.parse(701));
        Check.equal("700 of 700", 0, x.parse(700));
    }

    private static void positionOfLastParse() {
        Check.sentence("Returns the position of the parse error of the last call of parse that did not throw an exception. Returns the "
            + "position; NONE if that call succeeded or there was none.");
        PhoneMemory x = new PhoneMemory();
        Check.equal("there was none", -1, x.errorPosition());
        Check.noArgument("an exception", () -> x.parse(-1));
        Check.equal("an exception does not count", -1, x.errorPosition());
        Check.parse(x, "phone 50;;");
        Check.equal("an error", 9, x.errorPosition());
        Check.noArgument("another exception", () -> x.parse(1));
        Check.equal("the position stays", 9, x.errorPosition());
        Check.parse(x, "phone 5");
        Check.equal("another error", 6, x.errorPosition());
        Check.parse(x, "phone 50;");
        Check.equal("success", -1, x.errorPosition());
        Check.noArgument("an exception behind it", () -> x.parse(1));
        Check.equal("still success", -1, x.errorPosition());
    }

    private static void sizeOutOfRange() {
        Check.sentence("Throws `IllegalArgumentException` if what is out of range");
        PhoneMemory x = Check.phone("phone 70;" + A);
        for (int what : new int[] {-1, 9, 10, Integer.MIN_VALUE, Integer.MAX_VALUE}) {
            Check.noArgument("what " + what, () -> x.size(what));
        }
        int[] sizes = {1, 70, 0, 0, -1, -1, 0, 0, 0};
        for (int what = 0; what < 9; what++) {
            Check.equal("what " + what, sizes[what], x.size(what));
        }
    }

    private static void sizeNone() {
        Check.sentence("NONE for 4 and 5 if there is no such program");
        PhoneMemory x = Check.phone("phone 70;" + A);
        Check.equal("none is shown", -1, x.size(4));
        Check.equal("none was shown", -1, x.size(5));
        x.show(0);
        Check.equal("shown", 0, x.size(4));
        Check.equal("shown last while it is shown", 0, x.size(5));
        x.home();
        Check.equal("none is shown any more", -1, x.size(4));
        Check.equal("shown last", 0, x.size(5));
        x.close(0);
        Check.equal("shown last, closed", 0, x.size(5));
        x.undo();
        x.undo();
        x.undo();
        Check.equal("none was shown, as before", -1, x.size(5));
    }

    // ---- find

    private static int found(String text) {
        PhoneMemory x = Check.phone("phone 70;program ab 10 0 0 10 50 1 0;program abc 10 0 0 10 50 1 0;"
            + "program abcdefgh 10 0 0 10 50 1 0;program z 10 0 0 10 50 1 0;");
        Check.append(x, text);
        return x.find();
    }

    private static void findSpacesBehind() {
        Check.sentence("Finds the program whose name the input buffer contains; bytes 32 may stand behind it");
        for (int length : new int[] {2, 3, 19, 20, 21, 40, 41, 699, 700}) {
            Check.equal("ab with " + length, 0, found("ab" + spaces(length - 2)));
        }
        Check.equal("eight letters", 2, found("abcdefgh"));
        Check.equal("eight letters in 700 bytes", 2, found("abcdefgh" + spaces(692)));
        Check.equal("one letter", 3, found("z"));
    }

    private static void findAnythingElse() {
        Check.sentence("(with anything else in the buffer there is none)");
        for (int b = 0; b < 256; b++) {
            int behind = b == ' ' ? 0 : b == 'c' ? 1 : -1;
            Check.equal("byte " + b + " behind it", behind, found("ab" + (char) b));
            Check.equal("byte " + b + " before it", -1, found((char) b + "ab"));
            Check.equal("byte " + b + " at the end of the buffer", b == ' ' ? 0 : -1, found("ab" + spaces(17) + (char) b));
            Check.equal("byte " + b + " in the next 20", b == ' ' ? 0 : -1, found("ab" + spaces(18) + (char) b));
        }
        Check.equal("two names", -1, found("ab abc"));
        Check.equal("part of a name", -1, found("abcd"));
        Check.equal("more than a name", -1, found("abcdefghi"));
        Check.equal("twenty letters", -1, found("abcdefghabcdefghabcd"));
        Check.equal("700 letters", -1, found("abcdefgh" + "a".repeat(692)));
        Check.equal("a name at the end", -1, found(spaces(18) + "ab"));
    }

    private static void findEmptiesTheBuffer() {
        Check.sentence("The buffer is empty afterwards.");
        PhoneMemory x = Check.phone("phone 70;program ab 10 0 0 10 50 1 0;");
        Check.append(x, "ab");
        Check.equal("found", 0, x.find());
        Check.noArgument("empty behind a find", () -> x.parse(1));
        Check.equal("nothing is found then", -1, x.find());
        Check.append(x, "b");
        Check.equal("not found", -1, x.find());
        Check.noArgument("empty behind none", () -> x.parse(1));
        Check.equal("20 bytes then", 20, Check.append(x, "ab"));
        Check.equal("found again", 0, x.find());
        for (int i = 0; i < 35; i++) {
            Check.append(x, i == 0 ? "ab" : " ");
        }
        Check.equal("found in a full buffer", 0, x.find());
        Check.equal("20 bytes behind a full buffer", 20, x.append(0, 0, 0, 0, 0));
    }

    private static void findNone() {
        Check.sentence("Returns the program; NONE if there is none.");
        Check.equal("only spaces", -1, found(spaces(20)));
        Check.equal("700 spaces", -1, found(spaces(700)));
        PhoneMemory x = Check.phone("phone 70;program ab 10 0 0 10 50 1 0;");
        Check.equal("an empty buffer", -1, x.find());
        PhoneMemory y = new PhoneMemory();
        Check.append(y, "ab");
        Check.equal("a phone without programs", -1, y.find());
        Check.equal("a phone without programs, empty buffer", -1, y.find());
    }
}
