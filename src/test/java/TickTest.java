/** Promise 3. */
public final class TickTest {
    public static void main(String[] args) {
        OutStation x = new OutStation(1, 2, 3, 4);
        Expect.due("ticks at first", x.count(12), 0);
        x.tick(0);
        x.tick(7);
        x.tick(5);
        Expect.due("ticks", x.count(12), 12);
        Expect.dueNoNumber("tick(-1)", () -> x.tick(-1));
        Expect.dueNoNumber("tick(least)", () -> x.tick(Integer.MIN_VALUE));
        Expect.dueNoNumber("one too many", () -> x.tick(1000000000 - 11));
        Expect.dueNoNumber("tick(most)", () -> x.tick(Integer.MAX_VALUE));
        Expect.due("ticks behind what threw", x.count(12), 12);
        x.tick(1000000000 - 12);
        Expect.due("the most ticks", x.count(12), 1000000000);
        x.tick(0);
        Expect.dueNoNumber("beyond the most", () -> x.tick(1));
        Expect.dueNoNumber("far beyond the most", () -> x.tick(Integer.MAX_VALUE));
        Expect.due("the most ticks still", x.count(12), 1000000000);
        Expect.end();
    }
}
