/** Promises 25 and 26: ticks of two cranes, and the split of the bays between them. */
public final class CranesTest {
    static int lifts(int... c) {
        int sum = 0;
        for (int k = c.length - 1; k >= 0; k--) {
            sum = sum * 21 + c[k];
        }
        return sum;
    }

    public static void main(String[] args) {
        BoxQuay x = new BoxQuay();
        Due.due("read", Due.read(x, "bays 5;"), 0);
        int some = lifts(1, 0, 20, 0, 3);
        int[] due = {52, 48, 48, 44, 44, 52};
        for (int s = 0; s <= 5; s++) {
            Due.due("ticks(some, " + s + ")", x.ticks(some, s), due[s]);
        }
        Due.due("split(some)", x.split(some), 3);
        Due.due("s below", x.ticks(some, -1), -1);
        Due.due("s beyond", x.ticks(some, 6), -1);
        int all = lifts(20, 20, 20, 20, 20);
        Due.due("all", x.ticks(all, 2), 122);
        Due.due("all", x.ticks(all, 3), 122);
        Due.due("all", x.split(all), 2);
        Due.due("a sixth bay", x.ticks(all + 1, 2), -1);
        Due.due("a sixth bay", x.split(all + 1), -1);
        Due.due("the greatest", x.split(Integer.MAX_VALUE), -1);
        Due.due("below 0", x.ticks(-1, 2), -1);
        Due.due("below 0", x.split(Integer.MIN_VALUE), -1);
        Due.due("none", x.ticks(0, 5), 0);
        Due.due("none", x.split(0), 0);
        Due.due("the farther end", x.ticks(lifts(0, 0, 0, 0, 1), 5), 6);
        Due.due("the nearer end", x.ticks(lifts(0, 0, 0, 0, 1), 4), 2);
        Due.due("the nearer end", x.split(lifts(0, 0, 0, 0, 1)), 0);
        Due.due("the other end", x.split(lifts(1)), 1);
        Due.due("the middle", x.ticks(lifts(0, 0, 1), 2), 4);
        Due.due("the middle", x.ticks(lifts(0, 0, 1), 3), 4);
        Due.due("read", Due.read(x, "bays 2;"), 0);
        Due.due("a third bay", x.ticks(lifts(1, 1, 1), 1), -1);
        Due.due("a third bay", x.ticks(441, 1), -1);
        Due.due("two bays", x.ticks(440, 1), 40);
        Due.due("s beyond", x.ticks(440, 3), -1);
        Due.due("split", x.split(lifts(3, 2)), 1);
        Due.end();
    }
}
