/** Phones with ten programs on which many changes have been tried, by a fixed number each; the same number, the same phone. */
final class Runs {
    private Runs() {
    }

    private static int next(int dice) {
        return dice * 1103515245 + 12345;
    }

    static PhoneMemory phone(int run, int changes) {
        StringBuilder text = new StringBuilder("phone ").append(50 + 3 * run).append(';');
        for (int p = 0; p < 10; p++) {
            int base = 5 + (run + 3 * p) % 40;
            text.append("program ").append((char) ('a' + p)).append(' ').append(base).append(' ').append((run + p) % 7);
            text.append(' ').append((run + p) % 5).append(" 99 ").append(10 + (run + 9 * p) % 91).append(' ');
            text.append(1 + run % base).append(' ').append(9 * run).append(';');
        }
        text.append("work a 1;work j 2;work c 3;");
        text.append(run % 3 == 0 ? "" : run % 3 == 1 ? "policy size;" : "policy recent;");
        PhoneMemory x = Check.phone(text.toString());
        int dice = run;
        for (int i = 0; i < changes; i++) {
            dice = next(dice);
            change(x, dice >>> 28, (dice >>> 16 & 4095) % 10, dice >>> 8 & 255);
            Check.equal("more than limit in run " + run, true, x.size(2) <= x.size(1));
        }
        return x;
    }

    private static void change(PhoneMemory x, int kind, int program, int number) {
        try {
            switch (kind) {
                case 0: x.home(); break;
                case 1: x.pass(1 + number % 70); break;
                case 2: x.touch(number); break;
                case 3: x.send(program, number); break;
                case 4: x.read(); break;
                case 5: x.pin(program, number % 3 == 0); break;
                case 6: x.trim(1 + number % 6); break;
                case 7: x.close(program); break;
                case 8: x.setLimit(50 + 2 * number); break;
                case 9: x.setPolicy(number % 3); break;
                case 10: x.undo(); break;
                default: x.show(program);
            }
        } catch (IllegalStateException e) {
            // refused, which is a case like the others
            return;
        }
    }
}
