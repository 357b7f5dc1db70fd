/** Promise 10: printed. */
public final class PrintedTest {
    public static void main(String[] args) {
        Program p = new Program();
        int one = p.then(p.input(1), p.print());
        int three = p.then(one, one, one);
        int nine = p.then(three, three, three);
        int all = p.then(nine, nine, nine);
        Checks.due("nothing is started", p.desk.printed(0), 0);
        p.start(all, 100);
        Checks.due("nothing put out", p.desk.printed(0), 0);
        p.runOut();
        Checks.due("ints put out", p.desk.count(4), 27);
        for (int k = 0; k < 24; k++) {
            Checks.due("printed(" + k + ")", p.desk.printed(k), 101 + k);
        }
        int[] wrongs = {-1, 24, 25, 26, 27, Integer.MIN_VALUE, Integer.MAX_VALUE};
        for (int k : wrongs) {
            Checks.due("printed(" + k + ")", p.desk.printed(k), 0);
        }
        p.start(one, 0);
        p.runOut();
        Checks.due("anew", p.desk.printed(0), 1);
        Checks.due("nothing of before", p.desk.printed(1), 0);
        Checks.finish();
    }
}
