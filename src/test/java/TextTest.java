/** Promises 1 to 6: a new object, append, parse, errorPosition, size, find. */
public final class TextTest {
    private static final String A = "program a 10 0 0 10 50 1 1;";

    public static void main(String[] args) {
        promise1NewObject();
        promise2Append();
        promise3ParseWhole();
        promise3ParseLength();
        promise3Invalid();
        promise3Grammar();
        promise3Twice();
        promise3Ranges();
        promise3Programs();
        promise3NothingChanges();
        promise4ErrorPosition();
        promise5Size();
        promise6Find();
        Check.end("TextTest");
    }

    private static void promise1NewObject() {
        PhoneMemory x = new PhoneMemory();
        Check.equal("1 NONE", -1, PhoneMemory.NONE);
        long[] sizes = {0, 100, 0, 0, -1, -1, 0, 0, 0};
        for (int what = 0; what < sizes.length; what++) {
            Check.equal("1 size " + what, sizes[what], x.size(what));
        }
        Check.noArgument("1 parse behind an empty buffer", () -> x.parse(1));
        Check.equal("1 errorPosition", -1, x.errorPosition());
        Check.noIndex("1 program", () -> x.program(0, 0));
        Check.equal("1 undo", -1, x.undo());
        Check.noState("1 slot 0", () -> x.restoreSnapshot(0));
        Check.noState("1 slot 1", () -> x.restoreSnapshot(1));
        Check.equal("1 log", -1, x.log(0, 0));
        Check.equal("1 account", 0, x.account(7));
        Check.equal("1 append", 20, x.append(0, 0, 0, 0, 0));
    }

    private static void promise2Append() {
        PhoneMemory x = new PhoneMemory();
        // "phone 50;progr", "am" stands in the order of the bytes
        Check.equal("2 first", 20, x.append(0x70686f6e, 0x65203530, 0x3b70726f, 0x6772616d, 0x20616220));
        Check.equal("2 second", 40, x.append(0x31302030, 0x20302031, 0x30203530, 0x20312031, 0x3b0a0a20));
        Check.equal("2 parse", 0, x.parse(40));
        Check.equal("2 programs", 1, x.size(0));
        Check.equal("2 base", 10, x.told(0, 0));
        Check.equal("2 name", 20, x.append(0x61622020, 0x20202020, 0x20202020, 0x20202020, 0x20202020));
        Check.equal("2 find", 0, x.find());
        for (int i = 1; i <= 35; i++) {
            Check.equal("2 append " + i, 20 * i, x.append(-1, -1, -1, -1, -1));
        }
        Check.equal("2 full", -1, x.append(0, 0, 0, 0, 0));
        Check.equal("2 still full", -1, x.append(0, 0, 0, 0, 0));
        Check.noArgument("2 nothing appended", () -> x.parse(701));
        Check.equal("2 bytes of 255", 1, x.parse(700));
        Check.equal("2 position", 0, x.errorPosition());
        Check.equal("2 empty again", 20, x.append(1, 2, 3, 4, 5));
        // 35 times: the last four bytes of the fifth argument count
        PhoneMemory y = new PhoneMemory();
        String text = "phone 60;";
        for (int i = 0; i < 34; i++) {
            Check.append(y, i == 0 ? text : "   ");
        }
        Check.equal("2 last", 700, y.append(0x20202020, 0x20202020, 0x20202020, 0x20202020, 0x2020203b));
        Check.equal("2 last byte", 1, y.parse(700));
        Check.equal("2 last position", 699, y.errorPosition());
    }

    private static void promise3ParseWhole() {
        PhoneMemory x = Check.phone("phone 2000;program mail 400 200 20 999 100 400 9999;\nwork mail 60;costs 99 0 1 98;"
                + "program phone 1 0 0 1 10 1 0;policy size;program work 7 3 2 8 99 6 5;work work 1;");
        Check.equal("3 programs", 3, x.size(0));
        Check.equal("3 limit", 2000, x.size(1));
        Check.equal("3 policy", 1, x.size(6));
        long[][] told = {{400, 200, 20, 999, 100, 400, 9999, 60}, {1, 0, 0, 1, 10, 1, 0, 0}, {7, 3, 2, 8, 99, 6, 5, 1}};
        for (int p = 0; p < told.length; p++) {
            for (int what = 0; what < 8; what++) {
                Check.equal("3 told " + p + " " + what, told[p][what], x.told(p, what));
            }
        }
        Check.equal("3 cost of new", 99 * 400, x.waitOf(0));
        x.show(0);
        x.home();
        Check.equal("3 cost of warm", 98, x.waitOf(0));
        x.trim(3);
        x.trim(2);
        Check.equal("3 cost of zip", 98, x.waitOf(0));
        x.trim(4);
        Check.equal("3 cost of saved", 400, x.waitOf(0));
        Check.equal("3 policy promise", 0, Check.phone("phone 50;policy promise;").size(6));
        Check.equal("3 policy recent", 2, Check.phone("phone 50 ; policy recent ; ").size(6));
        Check.equal("3 policy is promise", 0, Check.phone("phone 50;").size(6));
        Check.equal("3 close together", 1, Check.phone("phone0050;program a10 0 0 10 50 1 1;").size(0));
        Check.equal("3 line feeds", 1, Check.phone("\n phone\n50\n;program\na\n10\n0 0 10 50 1 1\n;\n").size(0));
        PhoneMemory y = Check.phone("phone 50;" + A);
        Check.equal("3 default new", 100, y.waitOf(0));
        y.show(0);
        y.home();
        Check.equal("3 default warm", 20, y.waitOf(0));
        y.trim(3);
        y.trim(2);
        Check.equal("3 default zip", 40, y.waitOf(0));
        y.trim(4);
        Check.equal("3 default saved", 50, y.waitOf(0));
        parsesAnew();
    }

    /** What a text does not tell must not stay from the text before it. */
    private static void parsesAnew() {
        PhoneMemory x = Check.phone("phone 90;" + A + "work a 3;costs 1 2 3 4;policy recent;");
        Check.equal("3 second text", 0, Check.parse(x, "phone 80;program b 20 0 0 20 50 1 1;"));
        Check.equal("3 third text", 0, Check.parse(x, "phone 80;program b 20 0 0 20 50 1 1;"));
        Check.equal("3 no work", 0, x.told(0, 7));
        Check.equal("3 no policy", 0, x.size(6));
        Check.equal("3 no costs", 200, x.waitOf(0));
        Check.append(x, "a");
        Check.equal("3 no a", -1, x.find());
        String once = "phone 90;costs 1 2 3 4;policy recent;";
        Check.equal("3 costs and policy", 0, Check.parse(x, once));
        Check.equal("3 costs and policy of another text", 0, Check.parse(x, once));
    }

    private static void promise3ParseLength() {
        PhoneMemory x = new PhoneMemory();
        Check.equal("3 nothing", 1, x.parse(0));
        Check.equal("3 position of nothing", 0, x.errorPosition());
        Check.append(x, "phone 50;phone 60;");
        Check.noArgument("3 -1", () -> x.parse(-1));
        Check.noArgument("3 smallest", () -> x.parse(Integer.MIN_VALUE));
        Check.noArgument("3 21", () -> x.parse(21));
        Check.noArgument("3 greatest", () -> x.parse(Integer.MAX_VALUE));
        Check.equal("3 first bytes", 0, x.parse(9));
        Check.equal("3 limit", 50, x.size(1));
        Check.noArgument("3 empty behind success", () -> x.parse(1));
        Check.append(x, "phone 50;phone 60;");
        Check.equal("3 too much", 1, x.parse(10));
        endsInside(7, 3, 6);
        endsInside(8, 1, 8);
        endsInside(4, 1, 0);
        endsInside(12, 1, 10);
        Check.noArgument("3 empty behind error", () -> x.parse(1));
    }

    /** The bytes behind length do not count, even if the last token would go on there. */
    private static void endsInside(int length, int code, int position) {
        PhoneMemory x = new PhoneMemory();
        Check.append(x, "phone 505;costs 1 1 1 1;");
        Check.equal("3 code of " + length + " bytes", code, x.parse(length));
        Check.equal("4 position in " + length + " bytes", position, x.errorPosition());
    }

    private static void fails(String text, int code, int position) {
        PhoneMemory x = new PhoneMemory();
        Check.equal("3 code of " + text, code, Check.parse(x, text));
        Check.equal("4 position in " + text, position, x.errorPosition());
        Check.equal("3 programs behind " + text, 0, x.size(0));
        Check.equal("3 limit behind " + text, 100, x.size(1));
    }

    private static void promise3Invalid() {
        fails("Phone 50;", 1, 0);
        fails("phone 00050;", 1, 6);
        fails("phone 50,", 1, 8);
        fails("phone 50\t;", 1, 8);
        fails("phone 50;program abcdefghi 10 0 0 10 50 1 1;", 1, 17);
        fails("phone 50;program a 10000 0 0 10 50 1 1;", 1, 19);
        fails("phone 50;program a 10 0 0 10 50 1 10000;", 1, 34);
        fails("phone 50;\u00e9", 1, 9);
        fails("phone 50;\0", 1, 9);
        fails("phone 50;`", 1, 9);
        fails("phone 50;{", 1, 9);
        fails("phone /", 1, 6);
        fails("phone :", 1, 6);
        fails("phone 99999999999999999999;", 1, 6);
        fails("phone 50;programs a 10 0 0 10 50 1 1;", 1, 9);
        fails("phone 50;programsx", 1, 9);
        fails("phone 50;program a \u0001", 1, 19);
        PhoneMemory x = new PhoneMemory();
        StringBuilder full = new StringBuilder("phone 50;");
        while (full.length() < 693) {
            full.append(' ');
        }
        Check.equal("3 a word at the end of a full buffer", 1, Check.parse(x, full + "program"));
        Check.equal("4 and the text ends too early", 700, x.errorPosition());
        Check.equal("3 eight letters", 1, Check.phone("phone 50;program abcdefgh 10 0 0 10 50 1 1;").size(0));
    }

    private static void promise3Grammar() {
        fails("", 1, 0);
        fails("   ", 1, 3);
        fails("phone", 1, 5);
        fails("phone  \n", 1, 8);
        fails("phone 50", 1, 8);
        fails("50;", 1, 0);
        fails(";", 1, 0);
        fails("phone;", 1, 5);
        fails("phone phone", 1, 6);
        fails("phone 50 50;", 1, 9);
        fails("phone 50;;", 1, 9);
        fails("phone 50;phone 50;", 1, 9);
        fails("phone 50;10", 1, 9);
        fails("phone 50;program", 1, 16);
        fails("phone 50;program 7", 1, 17);
        fails("phone 50;program a;", 1, 18);
        fails("phone 50;program a 10 0 0 10 50 1;", 1, 33);
        fails("phone 50;program a 10 0 0 10 50 1 1", 1, 35);
        fails("phone 50;program a 10 0 0 10 50 1 1 1;", 1, 36);
        fails("phone 50;program a 10 0 x 10 50 1 1;", 1, 24);
        fails("phone 50;" + A + "work a;", 1, 42);
        fails("phone 50;" + A + "work 1;", 1, 41);
        fails("phone 50;" + A + "work ", 1, 41);
        fails("phone 50;" + A + "work a a;", 1, 43);
        fails("phone 50;" + A + "work a 1", 1, 44);
        fails("phone 50;costs 1 2 3;", 1, 20);
        fails("phone 50;costs 1 2 3 4 5;", 1, 23);
        fails("phone 50;costs 1 2 a 4;", 1, 19);
        fails("phone 50;policy;", 1, 15);
        fails("phone 50;policy 0;", 1, 16);
        fails("phone 50;policy sizes;", 1, 16);
        fails("phone 50;policy size", 1, 20);
        fails("phone 50;policy size size;", 1, 21);
    }

    private static void promise3Twice() {
        fails("phone 50;" + A + "program a", 2, 44);
        fails("phone 50;" + A + "program b 10 0 0 10 50 1 1;program a 0", 2, 71);
        fails("phone 50;" + A + "program aa 10 0 0 10 50 1 1;program ab 10 0 0 10 50 1 1;program aa", 2, 100);
        fails("phone 50;" + A + "work a 1;work a 0;", 2, 50);
        fails("phone 50;costs 0 0 0 0;costs 100", 2, 23);
        fails("phone 50;policy size;policy size;", 2, 21);
        fails("phone 50;policy promise;policy promise;", 2, 24);
        fails("phone 50;policy size;policy", 2, 21);
        fails("phone 50;program work 10 0 0 10 50 1 1;work work 5;work work", 2, 56);
    }

    private static void promise3Ranges() {
        fails("phone 49;", 3, 6);
        fails("phone 2001;", 3, 6);
        fails("phone 0;", 3, 6);
        String[] low = {"0 0 0 1 50 1 1", null, null, "10 0 0 9 50 1 1", "10 0 0 10 9 1 1", "10 0 0 10 50 0 1", null};
        String[] high = {"401 0 0 500 50 1 1", "10 201 0 10 50 1 1", "10 0 21 10 50 1 1", "10 0 0 1000 50 1 1",
            "10 0 0 10 101 1 1", "10 0 0 10 50 11 1", null};
        for (int item = 0; item < 7; item++) {
            range(low[item], item);
            range(high[item], item);
        }
        Check.phone("phone 50;program a 1 0 0 1 10 1 0;program b 400 200 20 400 100 400 9999;program c 5 0 0 999 10 5 0;");
        fails("phone 50;" + A + "work a 0;", 3, 43);
        fails("phone 50;" + A + "work a 61;", 3, 43);
        fails("phone 50;costs 100 0 0 0;", 3, 15);
        fails("phone 50;costs 0 100 0 0;", 3, 17);
        fails("phone 50;costs 0 0 100 0;", 3, 19);
        fails("phone 50;costs 0 0 0 100;", 3, 21);
        fails("phone 50;program a 0 999 99 0 0 0", 3, 19);
        Check.phone("phone 50;costs 99 99 99 99;" + A + "work a 60;");
        Check.phone("phone 2000;costs 0 0 0 0;" + A + "work a 1;");
    }

    private static void range(String numbers, int item) {
        if (numbers == null) {
            return;
        }
        int position = 19;
        String[] parts = numbers.split(" ");
        for (int i = 0; i < item; i++) {
            position += parts[i].length() + 1;
        }
        fails("phone 50;program a " + numbers + ";", 3, position);
    }

    private static void promise3Programs() {
        fails("phone 50;work a 1;", 4, 14);
        fails("phone 50;work a 1;" + A, 4, 14);
        fails("phone 50;" + A + "work b 61;", 4, 41);
        fails("phone 50;" + A + "work aa 1;", 4, 41);
        StringBuilder text = new StringBuilder("phone 50;");
        for (char name = 'a'; name <= 'j'; name++) {
            text.append("program ").append(name).append(" 1 0 0 1 50 1 1;");
        }
        Check.equal("3 ten programs", 10, Check.phone(text.toString()).size(0));
        int length = text.length();
        fails(text + "program k 1 0 0 1 50 1 1;", 5, length);
        fails(text + "program a", 5, length);
        fails(text + "program", 5, length);
        fails(text + " costs 0 0 0 0;program 0", 5, length + 15);
        fails(text + "work j 1;work j 1;", 2, length + 14);
    }

    private static void promise3NothingChanges() {
        PhoneMemory x = Check.phone("phone 70;" + A);
        x.show(0);
        x.touch(3);
        x.saveSnapshot(0);
        x.saveSnapshot(1);
        Check.equal("3 error", 3, Check.parse(x, "phone 60;program b 10 0 0 10 50 1 1;program c 0;"));
        Check.equal("3 programs stay", 1, x.size(0));
        Check.equal("3 limit stays", 70, x.size(1));
        Check.equal("3 picture stays", 3, x.picture(0));
        Check.equal("3 history stays", 2, x.size(8));
        Check.equal("3 told stays", 10, x.told(0, 0));
        Check.append(x, "a");
        Check.equal("3 name stays", 0, x.find());
        Check.equal("3 slot stays", 0, x.restoreSnapshot(1));
        x.touch(4);
        x.pass(9);
        Check.equal("3 success", 0, Check.parse(x, "phone 60;" + A));
        long[] sizes = {1, 60, 0, 0, -1, -1, 0, 0, 0};
        for (int what = 0; what < sizes.length; what++) {
            Check.equal("3 size " + what + " anew", sizes[what], x.size(what));
        }
        Check.equal("3 no history", -1, x.undo());
        Check.noState("3 no slot 0", () -> x.restoreSnapshot(0));
        Check.noState("3 no slot 1", () -> x.restoreSnapshot(1));
        Check.equal("3 no log", -1, x.log(0, 0));
        Check.equal("3 no account", 0, x.account(7));
        Check.equal("3 no picture", 0, x.picture(0));
        Check.equal("3 closed", 0, x.program(0, 0));
        anewInEveryPart();
    }

    private static void anewInEveryPart() {
        String text = "phone 60;program a 10 5 0 10 50 5 0;program b 10 5 0 10 50 5 0;";
        PhoneMemory x = Check.phone(text);
        x.show(0);
        x.pass(3);
        x.show(1);
        x.pass(3);
        x.show(0);
        x.send(1, 7);
        x.pin(1, true);
        x.setPolicy(2);
        Check.equal("3 again", 0, Check.parse(x, text));
        for (int p = 0; p < 2; p++) {
            for (int what = 0; what < 8; what++) {
                Check.equal("3 property " + what + " of " + p, 0, x.program(p, what));
            }
            Check.equal("3 habit of " + p, 600, x.habit(p));
            Check.equal("3 promise of " + p, 600, x.promise(p));
            Check.equal("3 likeliest of " + p, -1, x.likeliest(p));
            Check.equal("3 notice of " + p, -1, x.notice(p, 0));
        }
        for (int kind = 1; kind <= 9; kind++) {
            Check.equal("3 account of " + kind, 0, x.account(kind));
        }
        Check.equal("3 first showing", 100, x.show(0));
        Check.equal("3 no gap", 600, x.habit(0));
    }

    private static void promise4ErrorPosition() {
        PhoneMemory x = new PhoneMemory();
        Check.equal("4 without parse", -1, x.errorPosition());
        Check.parse(x, "phone 7;");
        Check.equal("4 error", 6, x.errorPosition());
        Check.noArgument("4 throwing", () -> x.parse(1));
        Check.equal("4 behind an exception", 6, x.errorPosition());
        x.find();
        x.home();
        x.undo();
        Check.equal("4 it stays", 6, x.errorPosition());
        Check.parse(x, "phone 70;");
        Check.equal("4 success", -1, x.errorPosition());
        Check.parse(x, "phone 70; 1");
        Check.equal("4 another error", 10, x.errorPosition());
    }

    private static void promise5Size() {
        PhoneMemory x = Check.phone("phone 70;program a 10 5 0 10 50 1 0;program b 20 0 0 20 50 1 0;policy size;");
        Check.noArgument("5 -1", () -> x.size(-1));
        Check.noArgument("5 9", () -> x.size(9));
        Check.noArgument("5 smallest", () -> x.size(Integer.MIN_VALUE));
        Check.equal("5 last", -1, x.size(5));
        x.show(0);
        Check.equal("5 used by one", 15, x.size(2));
        x.pass(7);
        x.show(1);
        x.setLimit(80);
        long[] sizes = {2, 80, 35, 7, 1, 1, 1, 2, 4};
        for (int what = 0; what < sizes.length; what++) {
            Check.equal("5 size " + what, sizes[what], x.size(what));
        }
        x.home();
        Check.equal("5 none is shown", -1, x.size(4));
        Check.equal("5 shown last", 1, x.size(5));
        x.close(1);
        Check.equal("5 closed, but shown last", 1, x.size(5));
        Check.equal("5 used then", 15, x.size(2));
        for (int i = 0; i < 9; i++) {
            x.home();
        }
        Check.equal("5 at most ten", 10, x.size(8));
    }

    private static void promise6Find() {
        PhoneMemory x = Check.phone("phone 70;program ab 10 0 0 10 50 1 0;program abc 10 0 0 10 50 1 0;"
                + "program program 10 0 0 10 50 1 0;program abcdefgh 10 0 0 10 50 1 0;");
        finds(x, "ab", 0);
        finds(x, "abc", 1);
        finds(x, "program             ", 2);
        finds(x, "abcdefgh", 3);
        finds(x, "a", -1);
        finds(x, "abcd", -1);
        finds(x, " ab", -1);
        finds(x, "a b", -1);
        finds(x, "ab abc", -1);
        finds(x, "ab\n", -1);
        finds(x, "ab;", -1);
        finds(x, "ab0", -1);
        finds(x, "AB", -1);
        finds(x, "abcdefghi", -1);
        finds(x, "abcdefghabcdefghabcdefgh", -1);
        finds(x, "                    ", -1);
        finds(x, "ab                                                 ", 0);
        finds(x, "ab                    x", -1);
        Check.equal("6 empty buffer", -1, x.find());
        Check.append(x, "ab");
        x.append(0, 0, 0, 0, 0);
        Check.equal("6 bytes of 0", -1, x.find());
        for (int i = 0; i < 35; i++) {
            Check.append(x, i == 0 ? "abc" : " ");
        }
        Check.equal("6 full buffer", 1, x.find());
    }

    private static void finds(PhoneMemory x, String text, int program) {
        Check.append(x, text);
        Check.equal("6 find of " + text, program, x.find());
        Check.noArgument("6 empty behind " + text, () -> x.parse(1));
    }
}
