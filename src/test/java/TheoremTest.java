/** THE THEOREM: whatever a schedule does was foreseen, by each policy; by many programs that are made from seeds. */
public final class TheoremTest {
    public static void main(String[] args) {
        int from = args.length > 0 ? Integer.parseInt(args[0]) : 0;
        int to = args.length > 1 ? Integer.parseInt(args[1]) : 1500;
        int loaded = 0;
        long[] sums = new long[26];
        for (int seed = from; seed < to; seed++) {
            String text = new Maker(seed).text();
            ThreadJudge x = Judged.of(text);
            int fault = x.load();
            if (fault != 0) {
                if (args.length > 2) {
                    System.out.println(seed + ": fault " + fault + " at " + text.substring(Math.min(text.length(), x.count(1))).split(";")[0]);
                }
                continue;
            }
            loaded++;
            for (int policy = 0; policy < 4; policy++) {
                x.analyse(policy, 300);
                for (int draw = 0; draw < 12; draw++) {
                    x.begin();
                    x.run(1 + draw * 37, draw);
                    if (!x.foreseen()) {
                        Judged.due("foreseen, seed " + seed + ", policy " + policy + ", draw " + draw, 0, 1);
                    }
                    x.run(2000, draw * 7919 + seed);
                    if (!x.foreseen()) {
                        Judged.due("foreseen, seed " + seed + ", policy " + policy + ", draw " + draw, 0, 1);
                    }
                    for (int k = 8; k <= 24; k++) {
                        sums[k] += x.count(k);
                    }
                }
            }
        }
        System.out.println(loaded + " programs loaded");
        for (int k = 8; k <= 24; k++) {
            System.out.print(" " + k + ":" + sums[k]);
        }
        System.out.println();
        Judged.yes("enough programs load", loaded * 2 > to - from);
        Judged.yes("there are clashes", sums[21] > 0);
        Judged.yes("there are deadlocks", sums[22] > 0);
        Judged.end();
    }
}
