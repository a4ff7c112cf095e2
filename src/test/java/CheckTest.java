/** Promise 12. */
public final class CheckTest {
    public static void main(String[] args) {
        OutStation x = new OutStation(1, 2, 3, 4);
        Expect.due("check of nothing", x.check(5, 0), 0xFFFF);
        Expect.due("check(5, 20)", x.check(5, 20), 48592);
        int[] values = {0, 1, 5, 255, 256, -1, 250, 1234567, Integer.MAX_VALUE, Integer.MIN_VALUE};
        int[] lengths = {0, 1, 2, 15, 16, 17, 255, 256, 257, 299, 300};
        for (int value : values) {
            for (int n : lengths) {
                Expect.due("check(" + value + ", " + n + ")", x.check(value, n), Master.check(Master.ramp(value, n)));
            }
        }
        Expect.due("a head that is known", Master.check(0x05, 0x64, 0x05, 0xC0, 0x01, 0x00, 0x00, 0x04), 0x21E9);
        Expect.dueNoNumber("check(0, -1)", () -> x.check(0, -1));
        Expect.dueNoNumber("check(0, 301)", () -> x.check(0, 301));
        Expect.dueNoNumber("check(0, least)", () -> x.check(0, Integer.MIN_VALUE));
        Expect.end();
    }
}
