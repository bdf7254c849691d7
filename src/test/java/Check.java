/** Counts what was looked at, and tells what is not as due. */
final class Check {
    /** One fault may be seen in hundreds of readings. */
    private static final int MOST_TOLD = 40;
    private static int looked;
    private static int wrong;

    private Check() {
    }

    static void due(String what, long got, long want) {
        looked++;
        if (got != want) {
            wrong++;
            if (wrong <= MOST_TOLD) {
                System.out.println(what + " answered " + got + ", due is " + want);
            }
        }
    }

    static void isTrue(String what, boolean holds) {
        due(what, holds ? 1 : 0, 1);
    }

    static boolean anyWrong() {
        return wrong > 0;
    }

    static void end(String name) {
        System.out.println(name + ": looked at " + looked + ", wrong " + wrong);
        if (wrong > 0 || looked == 0) {
            System.exit(1);
        }
    }
}
