/** Promises 35 to 38: the bytes that are stored, saved and garbage, and their ratio. */
public final class BytesTest {
    private static final Due due = new Due("BytesTest");

    public static void main(String[] args) {
        grow();
        collected();
        nothingStored();
        due.end();
    }

    private static void bytes(DedupVault x, String what, int stored, int saved, int garbage) {
        due.same("storedBytes " + what, x.storedBytes(), stored);
        due.same("savedBytes " + what, x.savedBytes(), saved);
        due.same("garbage " + what, x.garbage(), garbage);
        due.sameDouble("ratio " + what, x.ratio(), stored == 0 ? 0.0 : (double) saved / stored);
    }

    private static void grow() {
        DedupVault x = new DedupVault();
        bytes(x, "at first", 0, 0, 0);
        Drafts.save(x, 0, 2, 2, 1);
        bytes(x, "of one", 40, 48, 0);
        due.sameDouble("ratio", x.ratio(), 1.2);
        Drafts.save(x, 1, 2, 2, 1);
        bytes(x, "of two alike", 40, 96, 0);
        due.sameDouble("ratio", x.ratio(), 2.4);
        x.append(9, 0, 5);
        bytes(x, "with a draft", 40, 96, 0);
        x.save(1);
        bytes(x, "of three", 45, 149, 0);
        x.forget(1, 1);
        bytes(x, "with one forgotten", 45, 96, 5);
        x.forget(0, 0);
        bytes(x, "with two forgotten", 45, 48, 5);
        x.forget(1, 0);
        bytes(x, "with all forgotten", 45, 0, 45);
        due.sameDouble("ratio of no saved bytes", x.ratio(), 0.0);
        x.save(0);
        bytes(x, "all found again", 45, 53, 0);
    }

    private static void collected() {
        DedupVault x = new DedupVault();
        Drafts.save(x, 0, 1, 3, 5, 7);
        Drafts.save(x, 0, 1, 9);
        x.forget(0, 0);
        bytes(x, "before", 160, 64, 96);
        due.same("collect", x.collect(), 96);
        bytes(x, "behind", 64, 64, 0);
        due.sameDouble("ratio", x.ratio(), 1.0);
        Drafts.save(x, 0, 1, 9, 1);
        due.sameDouble("ratio", x.ratio(), 160.0 / 64.0);
        x.forget(0, 2);
        x.forget(0, 1);
        due.same("nothing closed to collect", x.collect(), 0);
        bytes(x, "in the open one", 64, 0, 64);
    }

    private static void nothingStored() {
        DedupVault x = new DedupVault();
        x.save(0);
        x.save(3);
        bytes(x, "of versions without bytes", 0, 0, 0);
        due.same("garbage to collect", x.collect(), 0);
        // a third is told as a double
        Drafts.save(x, 0, 2, 4, 6);
        x.clearDraft();
        Drafts.save(x, 0, 2);
        x.forget(0, 1);
        due.sameDouble("ratio of 8 to 24", x.ratio(), 8.0 / 24.0);
    }
}
