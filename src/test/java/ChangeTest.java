/** Promise 2: change. */
public final class ChangeTest {
    private static final int BAD = MergeVault.BAD;
    private static final int UNFIT = MergeVault.UNFIT;

    public static void main(String[] args) {
        Due due = new Due("ChangeTest");
        everyChange(new Run(due, "every change"));
        headAndParent(new Run(due, "head and parent"));
        theSet(new Run(due, "the set"));
        theQueue(new Run(due, "the queue"));
        theOption(new Run(due, "the option"));
        due.end();
    }

    private static void everyChange(Run run) {
        run.change(1, 0, 5, 0);
        run.change(1, 1, 6, 1);
        run.change(1, 2, 7, 2);
        run.change(1, 3, 8, 3);
        run.change(1, 3, 9, 4);
        run.change(1, 4, 8, 5);
        run.change(1, 5, 10, 6);
        run.change(1, 5, 11, 7);
        run.change(1, 6, 99, 8);
        run.change(1, 7, 12, 9);
        run.change(1, 9, 13, 10);
        run.change(1, 10, 14, 11);
        run.values(11, 5, 6, 2, 7, 512, 1, 12, 1, 13, 14);
        run.queue(11, 11);
        run.change(1, 8, 99, 12);
        run.values(12, 5, 6, 2, 7, 512, 1, 0, 0, 13, 14);
        // The earlier commits keep the trees that they had.
        run.values(0, 5, 0, 0, 0, 0, 0, 0, 0, 0, 0);
        run.values(3, 5, 6, 2, 7, 256, 0, 0, 0, 0, 0);
        run.queue(7, 10, 11);
        run.change(1, 1, -3, 13);
        run.values(13, 5, -3, 14, 7, 512, 1, 0, 0, 13, 14);
    }

    private static void headAndParent(Run run) {
        run.change(2, 0, 1, 0);
        run.head(2, 0);
        run.parent(0, 0, BAD);
        run.change(2, 0, 1, 1);
        run.head(2, 1);
        run.parent(1, 0, 0);
        run.parent(1, 1, BAD);
        run.change(3, 0, 1, 2);
        run.parent(2, 0, BAD);
        run.value(2, 0, 1);
        run.head(2, 1);
        run.head(0, BAD);
        run.swap(2, 1, 0, true);
        run.change(2, 0, 50, 3);
        run.parent(3, 0, 0);
        run.value(3, 0, 51);
        // A branch that lost its head begins anew.
        run.swap(2, 3, -1, true);
        run.change(2, 9, 4, 4);
        run.parent(4, 0, BAD);
        run.values(4, 0, 0, 0, 0, 0, 0, 0, 0, 4, 0);
        run.commits(5);
    }

    private static void theSet(Run run) {
        run.change(0, 4, 0, UNFIT);
        run.change(0, 3, 0, 0);
        run.change(0, 3, 0, UNFIT);
        run.change(0, 3, 31, 1);
        run.change(0, 3, 31, UNFIT);
        run.value(1, 4, 2147483649L);
        run.change(0, 4, 30, UNFIT);
        run.change(0, 4, 0, 2);
        run.value(2, 4, 2147483648L);
        run.change(0, 4, 0, UNFIT);
        run.change(0, 4, 31, 3);
        run.value(3, 4, 0);
        run.change(0, 3, 31, 4);
        run.value(4, 4, 2147483648L);
    }

    private static void theQueue(Run run) {
        run.change(0, 6, 0, UNFIT);
        int[] elements = {15, 0, 7, 3, 8, 1, 14, 2};
        for (int i = 0; i < elements.length; i++) {
            run.change(0, 5, elements[i], i);
            run.change(0, 5, elements[i], UNFIT);
        }
        run.queue(7, elements);
        run.change(0, 5, 4, UNFIT);
        run.change(0, 6, -1, 8);
        run.queue(8, 0, 7, 3, 8, 1, 14, 2);
        run.change(0, 5, 15, 9);
        run.queue(9, 0, 7, 3, 8, 1, 14, 2, 15);
        run.queue(7, elements);
        for (int number = 10; number < 18; number++) {
            run.change(0, 6, 0, number);
        }
        run.queue(17);
        run.change(0, 6, 0, UNFIT);
    }

    private static void theOption(Run run) {
        run.change(0, 8, 0, UNFIT);
        run.change(0, 7, 0, 0);
        run.value(0, 6, 0);
        run.value(0, 7, 1);
        run.change(0, 7, 40, 1);
        run.change(0, 7, 2, 2);
        run.value(2, 6, 42);
        run.change(0, 8, 5, 3);
        run.value(3, 6, 0);
        run.value(3, 7, 0);
        run.change(0, 8, 0, UNFIT);
        run.change(0, 7, 3, 4);
        run.value(4, 6, 3);
    }
}
